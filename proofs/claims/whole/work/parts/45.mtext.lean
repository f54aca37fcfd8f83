set_option maxRecDepth 100000 in
set_option maxHeartbeats 4000000 in
theorem lp_X5_blanks (l : Launch) (D : va_G) (cA cB : ClassId) (m : Nat → Nat) (ρ P : Nat → Int32) (hs : Int32) (α rf K V C : Nat → Int32) (my cm : Int32) (tx : Nat → Int32) (tl sp : Nat) (htl : tl ≤ 120) (od : Nat → Int32) (no ft : Int32) (hsp : sp ≤ 121) (X : Cx) (sz : Nat) : ∀ (f p : Nat), blkF tx (tl - sp) sp = blkF tx (tl - p) p → p ≤ 121 → 121 < p + f → G l X ({ frames := 0, cells := 0, slots := 0, locals := 0 } : Room) cX5_blanks RX5 none D (tyS cA cB) (va_A (mdW cA m ρ P hs α rf K V C my cm tx (nI (tl)) (nI (sp)) od no ft) sz) (QX X D (tyS cA cB) (mdW cA m ρ P hs α rf K V C my cm tx (nI (tl)) (nI (sp)) od no ft) sz Unit (fun v _ => v = none) (fun _ => mdW cA m ρ P hs α rf K V C my cm tx (nI (tl)) (nI (blkF tx (tl - sp) sp)) od no ft) 0 0) 0 0 (mdW cA m ρ P hs α rf K V C my cm tx (nI (tl)) (nI (p)) od no ft) 0 ([some (.ref (m 0))]) [] := by
  intro f
  induction f with
  | zero => intro p _ h1 h2; omega
  | succ f ih =>
    intro p hp hp1 hf
    refine r_aload_n 0 dX5_blanks_0 rfl rfl ?_
    refine r_get 0 fk_X5_140 dX5_blanks_1 rfl rfl ?_
    refine r_aload_n 0 dX5_blanks_4 rfl rfl ?_
    refine r_get 0 fk_X5_137 dX5_blanks_5 rfl rfl ?_
    refine r_ncmp_ge 38 (by omega) (by omega) dX5_blanks_8 (by decide) (fun hq1 => ?_) (fun hq1 => ?_)
    · exact r_vret (()) dX5_blanks_38 (rfl) (by rw [hp, blk_e hq1])
    · refine r_aload_n 0 dX5_blanks_11 rfl rfl ?_
      refine r_get 0 fk_X5_31 dX5_blanks_12 rfl rfl ?_
      refine r_aload_n 0 dX5_blanks_15 rfl rfl ?_
      refine r_get 0 fk_X5_140 dX5_blanks_16 rfl rfl ?_
      refine r_iald 8 (p) dX5_blanks_19 rfl rfl rfl (by omega) (Nat.le_of_ble_eq_true rfl) ?_
      refine r_bipush (nI 32) dX5_blanks_20 (by decide +kernel) ?_
      refine r_icmp_ne 38 dX5_blanks_22 (by decide) (fun hq2 => ?_) (fun hq2 => ?_)
      · exact r_vret (()) dX5_blanks_38 (rfl) (by rw [hp, blk_s0 hq2])
      · refine r_aload_n 0 dX5_blanks_25 rfl rfl ?_
        refine r_dup rfl dX5_blanks_26 ?_
        refine r_get 0 fk_X5_140 dX5_blanks_27 rfl rfl ?_
        refine r_iconst (nI 1) dX5_blanks_30 (by decide +kernel) ?_
        refine r_niadd dX5_blanks_31 ?_
        refine r_put 0 (mdW cA m ρ P hs α rf K V C my cm tx (nI (tl)) (nI (p + 1)) od no ft) fk_X5_140 dX5_blanks_32 rfl rfl rfl rfl (Nat.le_of_ble_eq_true rfl) rfl ?_
        refine r_goto 0 dX5_blanks_35 (by decide) ?_
        exact ih (p + 1) (by rw [hp, blk_s1 hq1 hq2]) (by omega) (by omega)

theorem c_X5_blanks (l : Launch) (D : va_G) (cA cB : ClassId) (m : Nat → Nat) (ρ P : Nat → Int32) (hs : Int32) (α rf K V C : Nat → Int32) (my cm : Int32) (tx : Nat → Int32) (tl sp : Nat) (htl : tl ≤ 120) (od : Nat → Int32) (no ft : Int32) (hsp : sp ≤ 121) : Mt l D (tyS cA cB) yX5_blanks cX5_blanks 1 none ({ frames := 0, cells := 0, slots := 0, locals := 0 } : Room) [.ref (m 0)] (mdW cA m ρ P hs α rf K V C my cm tx (nI (tl)) (nI (sp)) od no ft) Unit (fun v _ => v = none) (fun _ => mdW cA m ρ P hs α rf K V C my cm tx (nI (tl)) (nI (blkF tx (tl - sp) sp)) od no ft) 0 0 := by
  refine mt_in RX5 ([some (.ref (m 0))]) rfl (by decide +kernel) rfl (Nat.le_of_ble_eq_true rfl) rfl rfl (fun X sz => ?_)
  exact lp_X5_blanks l D cA cB m ρ P hs α rf K V C my cm tx tl sp htl od no ft hsp X sz 122 sp rfl hsp (by omega)

set_option maxRecDepth 100000 in
set_option maxHeartbeats 4000000 in
theorem c_X5_isFigure (l : Launch) (D : va_G) (cA cB : ClassId) (m : Nat → Nat) (ρ P : Nat → Int32) (hs : Int32) (α rf K V C : Nat → Int32) (my cm : Int32) (tx : Nat → Int32) (tl sp : Nat) (htl : tl ≤ 120) (od : Nat → Int32) (no ft : Int32) (hsp : sp ≤ 121) : Mt l D (tyS cA cB) yX5_isFigure cX5_isFigure 1 (some .boolean) ({ frames := 1, cells := 0, slots := 0, locals := 22 } : Room) [.ref (m 0)] (mdW cA m ρ P hs α rf K V C my cm tx (nI (tl)) (nI (sp)) od no ft) Unit (fun v _ => v = some (.int (bI (decide (sp < tl) && digB (tx sp))))) (fun _ => mdW cA m ρ P hs α rf K V C my cm tx (nI (tl)) (nI (sp)) od no ft) 0 0 := by
  refine mt_in RX5 ([some (.ref (m 0))]) rfl (by decide +kernel) rfl (Nat.le_of_ble_eq_true rfl) rfl rfl (fun X sz => ?_)
  refine r_aload_n 0 dX5_isFigure_0 rfl rfl ?_
  refine r_get 0 fk_X5_140 dX5_isFigure_1 rfl rfl ?_
  refine r_aload_n 0 dX5_isFigure_4 rfl rfl ?_
  refine r_get 0 fk_X5_137 dX5_isFigure_5 rfl rfl ?_
  refine r_ncmp_ge 34 (by omega) (by omega) dX5_isFigure_8 (by decide) (fun hq1 => ?_) (fun hq1 => ?_)
  · refine r_iconst (nI 0) dX5_isFigure_34 (by decide +kernel) ?_
    exact r_zret (()) (by decide +kernel) dX5_isFigure_35 (by rw [decide_eq_false (Nat.not_lt.mpr hq1)]; rfl) (rfl)
  · refine r_aload_n 0 dX5_isFigure_11 rfl rfl ?_
    refine r_get 0 fk_X5_31 dX5_isFigure_12 rfl rfl ?_
    refine r_aload_n 0 dX5_isFigure_15 rfl rfl ?_
    refine r_get 0 fk_X5_140 dX5_isFigure_16 rfl rfl ?_
    refine r_iald 8 (sp) dX5_isFigure_19 rfl rfl rfl (by omega) (Nat.le_of_ble_eq_true rfl) ?_
    refine r_bipush (nI 48) dX5_isFigure_20 (by decide +kernel) ?_
    refine r_bipush (nI 57) dX5_isFigure_22 (by decide +kernel) ?_
    refine r_callS2 (As := [.int (tx sp), .int (nI 48), .int (nI 57)]) (st := []) (fun _ => mdW cA m ρ P hs α rf K V C my cm tx (nI (tl)) (nI (sp)) od no ft) [mdW cA m ρ P hs α rf K V C my cm tx (nI (tl)) (nI (sp)) od no ft] [] [mdW cA m ρ P hs α rf K V C my cm tx (nI (tl)) (nI (sp)) od no ft] (fun _ => [mdW cA m ρ P hs α rf K V C my cm tx (nI (tl)) (nI (sp)) od no ft]) (fun _ => []) (c_X5_in l D cA cB (tx sp) (nI (48)) (nI (57))) ks_X5_in ml_X5_87 dX5_isFigure_24 rfl rfl (segOk [0] rfl rfl rfl rfl) (fun _ => segOk [0] rfl rfl rfl rfl) rfl (Nat.le_of_ble_eq_true rfl) (fun v u h => ?_)
    subst h
    refine r_st (st' := [.int (bI (inB (tx sp) (nI (48)) (nI (57))))]) rfl ?_
    refine r_bif_eq 34 dX5_isFigure_27 (by decide) (fun hq2 => ?_) (fun hq2 => ?_)
    · refine r_iconst (nI 0) dX5_isFigure_34 (by decide +kernel) ?_
      exact r_zret (()) (by decide +kernel) dX5_isFigure_35 (by unfold digB; rw [decide_eq_true hq1, hq2]; rfl) (rfl)
    · refine r_iconst (nI 1) dX5_isFigure_30 (by decide +kernel) ?_
      refine r_goto 35 dX5_isFigure_31 (by decide) ?_
      exact r_zret (()) (by decide +kernel) dX5_isFigure_35 (by unfold digB; rw [decide_eq_true hq1, hq2]; rfl) (rfl)

set_option maxRecDepth 100000 in
set_option maxHeartbeats 4000000 in
theorem lp_X5_number (l : Launch) (D : va_G) (cA cB : ClassId) (m : Nat → Nat) (ρ P : Nat → Int32) (hs : Int32) (α rf K V C : Nat → Int32) (my cm : Int32) (tx : Nat → Int32) (tl sp : Nat) (htl : tl ≤ 120) (od : Nat → Int32) (no ft : Int32) (hsp : sp ≤ tl) (X : Cx) (sz : Nat) : ∀ (f p j : Nat) (v : Int32), nuP tx tl sp = ngP tx tl (3 - j) p → nuV tx tl sp = ngV tx tl (3 - j) p v → p = blkF tx (tl - sp) sp + j → j ≤ 3 → p ≤ tl → 3 < j + f → G l X ({ frames := 2, cells := 0, slots := 0, locals := 42 } : Room) cX5_number RX5 (some .int) D (tyS cA cB) (va_A (mdW cA m ρ P hs α rf K V C my cm tx (nI (tl)) (nI (sp)) od no (-1)) sz) (QX X D (tyS cA cB) (mdW cA m ρ P hs α rf K V C my cm tx (nI (tl)) (nI (sp)) od no (-1)) sz Unit (fun v _ => v = some (.int (nuV tx tl sp))) (fun _ => mdW cA m ρ P hs α rf K V C my cm tx (nI (tl)) (nI (nuP tx tl sp)) od no (oI (nuF tx tl sp))) 0 0) 0 0 (mdW cA m ρ P hs α rf K V C my cm tx (nI (tl)) (nI (p)) od no (-1)) 8 ([some (.ref (m 0)), some (.int (v)), some (.int (nI j))]) [] := by
  intro f
  induction f with
  | zero => intro p j v _ _ _ h1 _ h2; omega
  | succ f ih =>
    intro p j v hP hV hpj hj hptl hf
    have hbl := blkF_le tx (tl - sp) sp
    refine r_aload_n 0 dX5_number_8 rfl rfl ?_
    refine r_get 0 fk_X5_146 dX5_number_9 rfl rfl ?_
    refine r_iconst (-1) dX5_number_12 (by decide +kernel) ?_
    refine r_icmp_ne 62 dX5_number_13 (by decide) (fun hq1 => ?_) (fun hq1 => ?_)
    · exact absurd rfl hq1
    · refine r_iload_n 2 dX5_number_16 rfl rfl ?_
      refine r_iconst (nI 3) dX5_number_17 (by decide +kernel) ?_
      refine r_ncmp_ge 62 (by omega) (by omega) dX5_number_18 (by decide) (fun hq2 => ?_) (fun hq2 => ?_)
      · have hPe : nuP tx tl sp = p := by rw [hP, show 3 - j = 0 by omega]; rfl
        have hVe : nuV tx tl sp = v := by rw [hV, show 3 - j = 0 by omega]; rfl
        refine r_aload_n 0 dX5_number_62 rfl rfl ?_
        refine r_get 0 fk_X5_146 dX5_number_63 rfl rfl ?_
        refine r_iconst (-1) dX5_number_66 (by decide +kernel) ?_
        refine r_icmp_ne 89 dX5_number_67 (by decide) (fun hq3 => ?_) (fun hq3 => ?_)
        · exact absurd rfl hq3
        · refine r_iload_n 2 dX5_number_70 rfl rfl ?_
          refine r_if_eq 81 dX5_number_71 (by decide) (fun hq4 => ?_) (fun hq4 => ?_)
          · refine r_aload_n 0 dX5_number_81 rfl rfl ?_
            refine r_aload_n 0 dX5_number_82 rfl rfl ?_
            refine r_get 0 fk_X5_140 dX5_number_83 rfl rfl ?_
            refine r_put 0 (mdW cA m ρ P hs α rf K V C my cm tx (nI (tl)) (nI (p)) od no (nI (p))) fk_X5_146 dX5_number_86 rfl rfl rfl rfl (Nat.le_of_ble_eq_true rfl) rfl ?_
            refine r_iload_n 1 dX5_number_89 rfl rfl ?_
            exact r_iret (()) dX5_number_90 (by rw [hVe]) (by unfold nuF; rw [if_pos (Or.inl (by rw [hPe]; have := (nI_z (a := j) (by omega)).mp hq4; omega)), hPe] <;> rfl)
          · refine r_aload_n 0 dX5_number_74 rfl rfl ?_
            refine r_callV2 (As := []) (st := []) (fun _ => mdW cA m ρ P hs α rf K V C my cm tx (nI (tl)) (nI (p)) od no (-1)) [mdW cA m ρ P hs α rf K V C my cm tx (nI (tl)) (nI (p)) od no (-1)] [mdW cA m ρ P hs α rf K V C my cm tx (nI (tl)) (nI (p)) od no (-1)] [] (fun _ => [mdW cA m ρ P hs α rf K V C my cm tx (nI (tl)) (nI (p)) od no (-1)]) (fun _ => [mdW cA m ρ P hs α rf K V C my cm tx (nI (tl)) (nI (p)) od no (-1)]) (c_X5_isFigure l D cA cB m ρ P hs α rf K V C my cm tx tl p htl od no (-1) (by omega)) kv_X5_isFigure ml_X5_149 dX5_number_75 rfl rfl rfl rfl (segOk [0] rfl rfl rfl rfl) (fun _ => segOk [0] rfl rfl rfl rfl) rfl (Nat.le_of_ble_eq_true rfl) (fun v u h => ?_)
            subst h
            refine r_st (st' := [.int (bI (decide (p < tl) && digB (tx p)))]) rfl ?_
            refine r_bif_eq 89 dX5_number_78 (by decide) (fun hq5 => ?_) (fun hq5 => ?_)
            · refine r_iload_n 1 dX5_number_89 rfl rfl ?_
              exact r_iret (()) dX5_number_90 (by rw [hVe]) (by unfold nuF; rw [if_neg (fun z => by rw [hPe] at z; rcases z with z | z; exact absurd (show j = 0 by omega) (fun q => hq4 (by rw [q]; rfl)); have y := hq5; rw [decide_eq_true z.1, z.2] at y; exact absurd y (by decide)), hPe] <;> rfl)
            · refine r_aload_n 0 dX5_number_81 rfl rfl ?_
              refine r_aload_n 0 dX5_number_82 rfl rfl ?_
              refine r_get 0 fk_X5_140 dX5_number_83 rfl rfl ?_
              refine r_put 0 (mdW cA m ρ P hs α rf K V C my cm tx (nI (tl)) (nI (p)) od no (nI (p))) fk_X5_146 dX5_number_86 rfl rfl rfl rfl (Nat.le_of_ble_eq_true rfl) rfl ?_
              refine r_iload_n 1 dX5_number_89 rfl rfl ?_
              exact r_iret (()) dX5_number_90 (by rw [hVe]) (by unfold nuF; rw [if_pos (Or.inr (by rw [hPe]; simpa using hq5)), hPe] <;> rfl)
      · refine r_aload_n 0 dX5_number_21 rfl rfl ?_
        refine r_callV2 (As := []) (st := []) (fun _ => mdW cA m ρ P hs α rf K V C my cm tx (nI (tl)) (nI (p)) od no (-1)) [mdW cA m ρ P hs α rf K V C my cm tx (nI (tl)) (nI (p)) od no (-1)] [mdW cA m ρ P hs α rf K V C my cm tx (nI (tl)) (nI (p)) od no (-1)] [] (fun _ => [mdW cA m ρ P hs α rf K V C my cm tx (nI (tl)) (nI (p)) od no (-1)]) (fun _ => [mdW cA m ρ P hs α rf K V C my cm tx (nI (tl)) (nI (p)) od no (-1)]) (c_X5_isFigure l D cA cB m ρ P hs α rf K V C my cm tx tl p htl od no (-1) (by omega)) kv_X5_isFigure ml_X5_149 dX5_number_22 rfl rfl rfl rfl (segOk [0] rfl rfl rfl rfl) (fun _ => segOk [0] rfl rfl rfl rfl) rfl (Nat.le_of_ble_eq_true rfl) (fun v u h => ?_)
        subst h
        refine r_st (st' := [.int (bI (decide (p < tl) && digB (tx p)))]) rfl ?_
        refine r_bif_eq 62 dX5_number_25 (by decide) (fun hq6 => ?_) (fun hq6 => ?_)
        · have hnd : ¬ (p < tl ∧ digB (tx p) = true) := fun z => by have y := hq6; rw [decide_eq_true z.1, z.2] at y; exact absurd y (by decide)
          have hPe : nuP tx tl sp = p := by rw [hP, show 3 - j = (2 - j) + 1 by omega]; exact if_neg hnd
          have hVe : nuV tx tl sp = v := by rw [hV, show 3 - j = (2 - j) + 1 by omega]; exact if_neg hnd
          refine r_aload_n 0 dX5_number_62 rfl rfl ?_
          refine r_get 0 fk_X5_146 dX5_number_63 rfl rfl ?_
          refine r_iconst (-1) dX5_number_66 (by decide +kernel) ?_
          refine r_icmp_ne 89 dX5_number_67 (by decide) (fun hq7 => ?_) (fun hq7 => ?_)
          · exact absurd rfl hq7
          · refine r_iload_n 2 dX5_number_70 rfl rfl ?_
            refine r_if_eq 81 dX5_number_71 (by decide) (fun hq8 => ?_) (fun hq8 => ?_)
            · refine r_aload_n 0 dX5_number_81 rfl rfl ?_
              refine r_aload_n 0 dX5_number_82 rfl rfl ?_
              refine r_get 0 fk_X5_140 dX5_number_83 rfl rfl ?_
              refine r_put 0 (mdW cA m ρ P hs α rf K V C my cm tx (nI (tl)) (nI (p)) od no (nI (p))) fk_X5_146 dX5_number_86 rfl rfl rfl rfl (Nat.le_of_ble_eq_true rfl) rfl ?_
              refine r_iload_n 1 dX5_number_89 rfl rfl ?_
              exact r_iret (()) dX5_number_90 (by rw [hVe]) (by unfold nuF; rw [if_pos (Or.inl (by rw [hPe]; have := (nI_z (a := j) (by omega)).mp hq8; omega)), hPe] <;> rfl)
            · refine r_aload_n 0 dX5_number_74 rfl rfl ?_
              refine r_callV2 (As := []) (st := []) (fun _ => mdW cA m ρ P hs α rf K V C my cm tx (nI (tl)) (nI (p)) od no (-1)) [mdW cA m ρ P hs α rf K V C my cm tx (nI (tl)) (nI (p)) od no (-1)] [mdW cA m ρ P hs α rf K V C my cm tx (nI (tl)) (nI (p)) od no (-1)] [] (fun _ => [mdW cA m ρ P hs α rf K V C my cm tx (nI (tl)) (nI (p)) od no (-1)]) (fun _ => [mdW cA m ρ P hs α rf K V C my cm tx (nI (tl)) (nI (p)) od no (-1)]) (c_X5_isFigure l D cA cB m ρ P hs α rf K V C my cm tx tl p htl od no (-1) (by omega)) kv_X5_isFigure ml_X5_149 dX5_number_75 rfl rfl rfl rfl (segOk [0] rfl rfl rfl rfl) (fun _ => segOk [0] rfl rfl rfl rfl) rfl (Nat.le_of_ble_eq_true rfl) (fun v u h => ?_)
              subst h
              refine r_st (st' := [.int (bI (decide (p < tl) && digB (tx p)))]) rfl ?_
              refine r_bif_eq 89 dX5_number_78 (by decide) (fun hq9 => ?_) (fun hq9 => ?_)
              · refine r_iload_n 1 dX5_number_89 rfl rfl ?_
                exact r_iret (()) dX5_number_90 (by rw [hVe]) (by unfold nuF; rw [if_neg (fun z => by rw [hPe] at z; rcases z with z | z; exact absurd (show j = 0 by omega) (fun q => hq8 (by rw [q]; rfl)); have y := hq9; rw [decide_eq_true z.1, z.2] at y; exact absurd y (by decide)), hPe] <;> rfl)
              · refine r_aload_n 0 dX5_number_81 rfl rfl ?_
                refine r_aload_n 0 dX5_number_82 rfl rfl ?_
                refine r_get 0 fk_X5_140 dX5_number_83 rfl rfl ?_
                refine r_put 0 (mdW cA m ρ P hs α rf K V C my cm tx (nI (tl)) (nI (p)) od no (nI (p))) fk_X5_146 dX5_number_86 rfl rfl rfl rfl (Nat.le_of_ble_eq_true rfl) rfl ?_
                refine r_iload_n 1 dX5_number_89 rfl rfl ?_
                exact r_iret (()) dX5_number_90 (by rw [hVe]) (by unfold nuF; rw [if_pos (Or.inr (by rw [hPe]; simpa using hq9)), hPe] <;> rfl)
        · have hh : p < tl ∧ digB (tx p) = true := by simpa using hq6
          refine r_bipush (nI 10) dX5_number_28 (by decide +kernel) ?_
          refine r_iload_n 1 dX5_number_30 rfl rfl ?_
          refine r_imul dX5_number_31 ?_
          refine r_aload_n 0 dX5_number_32 rfl rfl ?_
          refine r_get 0 fk_X5_31 dX5_number_33 rfl rfl ?_
          refine r_aload_n 0 dX5_number_36 rfl rfl ?_
          refine r_get 0 fk_X5_140 dX5_number_37 rfl rfl ?_
          refine r_iald 8 (p) dX5_number_40 rfl rfl rfl (by omega) (Nat.le_of_ble_eq_true rfl) ?_
          refine r_iadd dX5_number_41 ?_
          refine r_bipush (nI 48) dX5_number_42 (by decide +kernel) ?_
          refine r_isub dX5_number_44 ?_
          refine r_istore_n 1 ([some (.ref (m 0)), some (.int ((((nI (10)) * v) + (tx p)) - (nI (48)))), some (.int (nI j))]) dX5_number_45 rfl (Nat.le_of_ble_eq_true rfl) rfl rfl ?_
          refine r_aload_n 0 dX5_number_46 rfl rfl ?_
          refine r_dup rfl dX5_number_47 ?_
          refine r_get 0 fk_X5_140 dX5_number_48 rfl rfl ?_
          refine r_iconst (nI 1) dX5_number_51 (by decide +kernel) ?_
          refine r_niadd dX5_number_52 ?_
          refine r_put 0 (mdW cA m ρ P hs α rf K V C my cm tx (nI (tl)) (nI (p + 1)) od no (-1)) fk_X5_140 dX5_number_53 rfl rfl rfl rfl (Nat.le_of_ble_eq_true rfl) rfl ?_
          refine r_iinc (v := nI (j + 1)) ([some (.ref (m 0)), some (.int ((((nI (10)) * v) + (tx p)) - (nI (48)))), some (.int (nI (j + 1)))]) dX5_number_56 rfl (nI_1 _) (Nat.le_of_ble_eq_true rfl) rfl rfl ?_
          refine r_goto 8 dX5_number_59 (by decide) ?_
          exact ih (p + 1) (j + 1) _ (by rw [hP, show 3 - j = (3 - (j + 1)) + 1 by omega]; exact if_pos hh) (by rw [hV, show 3 - j = (3 - (j + 1)) + 1 by omega]; exact if_pos hh) (by omega) (by omega) (by omega) (by omega)

set_option maxRecDepth 100000 in
set_option maxHeartbeats 4000000 in
theorem c_X5_number_n (l : Launch) (D : va_G) (cA cB : ClassId) (m : Nat → Nat) (ρ P : Nat → Int32) (hs : Int32) (α rf K V C : Nat → Int32) (my cm : Int32) (tx : Nat → Int32) (tl sp : Nat) (htl : tl ≤ 120) (od : Nat → Int32) (no ft : Int32) (hsp : sp ≤ tl) : Mt l D (tyS cA cB) yX5_number cX5_number 3 (some .int) ({ frames := 2, cells := 0, slots := 0, locals := 42 } : Room) [.ref (m 0)] (mdW cA m ρ P hs α rf K V C my cm tx (nI (tl)) (nI (sp)) od no (-1)) Unit (fun v _ => v = some (.int (nuV tx tl sp))) (fun _ => mdW cA m ρ P hs α rf K V C my cm tx (nI (tl)) (nI (nuP tx tl sp)) od no (oI (nuF tx tl sp))) 0 0 := by
  refine mt_in RX5 ([some (.ref (m 0)), none, none]) rfl (by decide +kernel) rfl (Nat.le_of_ble_eq_true rfl) rfl rfl (fun X sz => ?_)
  have hbl := blkF_le tx (tl - sp) sp
  refine r_aload_n 0 dX5_number_0 rfl rfl ?_
  refine r_callV2 (As := []) (st := []) (fun _ => mdW cA m ρ P hs α rf K V C my cm tx (nI (tl)) (nI (blkF tx (tl - sp) sp)) od no (-1)) [mdW cA m ρ P hs α rf K V C my cm tx (nI (tl)) (nI (sp)) od no (-1)] [mdW cA m ρ P hs α rf K V C my cm tx (nI (tl)) (nI (sp)) od no (-1)] [] (fun _ => [mdW cA m ρ P hs α rf K V C my cm tx (nI (tl)) (nI (blkF tx (tl - sp) sp)) od no (-1)]) (fun _ => [mdW cA m ρ P hs α rf K V C my cm tx (nI (tl)) (nI (blkF tx (tl - sp) sp)) od no (-1)]) (c_X5_blanks l D cA cB m ρ P hs α rf K V C my cm tx tl sp htl od no (-1) (by omega)) kv_X5_blanks ml_X5_143 dX5_number_1 rfl rfl rfl rfl (segOk [0] rfl rfl rfl rfl) (fun _ => segOk [0] rfl rfl rfl rfl) rfl (Nat.le_of_ble_eq_true rfl) (fun v u h => ?_)
  subst h
  refine r_st (st' := []) rfl ?_
  refine r_iconst (nI 0) dX5_number_4 (by decide +kernel) ?_
  refine r_istore_n 1 ([some (.ref (m 0)), some (.int (nI 0)), none]) dX5_number_5 rfl (Nat.le_of_ble_eq_true rfl) rfl rfl ?_
  refine r_iconst (nI 0) dX5_number_6 (by decide +kernel) ?_
  refine r_istore_n 2 ([some (.ref (m 0)), some (.int (nI 0)), some (.int (nI 0))]) dX5_number_7 rfl (Nat.le_of_ble_eq_true rfl) rfl rfl ?_
  exact lp_X5_number l D cA cB m ρ P hs α rf K V C my cm tx tl sp htl od no ft hsp X sz 4 (blkF tx (tl - sp) sp) 0 (nI 0) rfl rfl rfl (by omega) (by omega) (by omega)

set_option maxRecDepth 100000 in
set_option maxHeartbeats 4000000 in
theorem c_X5_number_s (l : Launch) (D : va_G) (cA cB : ClassId) (m : Nat → Nat) (ρ P : Nat → Int32) (hs : Int32) (α rf K V C : Nat → Int32) (my cm : Int32) (tx : Nat → Int32) (tl sp : Nat) (htl : tl ≤ 120) (od : Nat → Int32) (no ft : Int32) (hsp : sp ≤ tl) (x : Nat) (hx : x ≤ tl) : Mt l D (tyS cA cB) yX5_number cX5_number 3 (some .int) ({ frames := 2, cells := 0, slots := 0, locals := 42 } : Room) [.ref (m 0)] (mdW cA m ρ P hs α rf K V C my cm tx (nI (tl)) (nI (sp)) od no (nI (x))) Unit (fun v _ => v = some (.int (nI 0))) (fun _ => mdW cA m ρ P hs α rf K V C my cm tx (nI (tl)) (nI (blkF tx (tl - sp) sp)) od no (nI (x))) 0 0 := by
  refine mt_in RX5 ([some (.ref (m 0)), none, none]) rfl (by decide +kernel) rfl (Nat.le_of_ble_eq_true rfl) rfl rfl (fun X sz => ?_)
  refine r_aload_n 0 dX5_number_0 rfl rfl ?_
  refine r_callV2 (As := []) (st := []) (fun _ => mdW cA m ρ P hs α rf K V C my cm tx (nI (tl)) (nI (blkF tx (tl - sp) sp)) od no (nI (x))) [mdW cA m ρ P hs α rf K V C my cm tx (nI (tl)) (nI (sp)) od no (nI (x))] [mdW cA m ρ P hs α rf K V C my cm tx (nI (tl)) (nI (sp)) od no (nI (x))] [] (fun _ => [mdW cA m ρ P hs α rf K V C my cm tx (nI (tl)) (nI (blkF tx (tl - sp) sp)) od no (nI (x))]) (fun _ => [mdW cA m ρ P hs α rf K V C my cm tx (nI (tl)) (nI (blkF tx (tl - sp) sp)) od no (nI (x))]) (c_X5_blanks l D cA cB m ρ P hs α rf K V C my cm tx tl sp htl od no (nI (x)) (by omega)) kv_X5_blanks ml_X5_143 dX5_number_1 rfl rfl rfl rfl (segOk [0] rfl rfl rfl rfl) (fun _ => segOk [0] rfl rfl rfl rfl) rfl (Nat.le_of_ble_eq_true rfl) (fun v u h => ?_)
  subst h
  refine r_st (st' := []) rfl ?_
  refine r_iconst (nI 0) dX5_number_4 (by decide +kernel) ?_
  refine r_istore_n 1 ([some (.ref (m 0)), some (.int (nI 0)), none]) dX5_number_5 rfl (Nat.le_of_ble_eq_true rfl) rfl rfl ?_
  refine r_iconst (nI 0) dX5_number_6 (by decide +kernel) ?_
  refine r_istore_n 2 ([some (.ref (m 0)), some (.int (nI 0)), some (.int (nI 0))]) dX5_number_7 rfl (Nat.le_of_ble_eq_true rfl) rfl rfl ?_
  refine r_aload_n 0 dX5_number_8 rfl rfl ?_
  refine r_get 0 fk_X5_146 dX5_number_9 rfl rfl ?_
  refine r_iconst (-1) dX5_number_12 (by decide +kernel) ?_
  refine r_icmp_ne 62 dX5_number_13 (by decide) (fun hq1 => ?_) (fun hq1 => ?_)
  · refine r_aload_n 0 dX5_number_62 rfl rfl ?_
    refine r_get 0 fk_X5_146 dX5_number_63 rfl rfl ?_
    refine r_iconst (-1) dX5_number_66 (by decide +kernel) ?_
    refine r_icmp_ne 89 dX5_number_67 (by decide) (fun hq2 => ?_) (fun hq2 => ?_)
    · refine r_iload_n 1 dX5_number_89 rfl rfl ?_
      exact r_iret (()) dX5_number_90 (rfl) (rfl)
    · exact absurd hq2 (nI_ne_m1 (by omega))
  · exact absurd hq1 (nI_ne_m1 (by omega))

set_option maxRecDepth 100000 in
set_option maxHeartbeats 4000000 in
theorem c_X5_sign_n (l : Launch) (D : va_G) (cA cB : ClassId) (m : Nat → Nat) (ρ P : Nat → Int32) (hs : Int32) (α rf K V C : Nat → Int32) (my cm : Int32) (tx : Nat → Int32) (tl sp : Nat) (htl : tl ≤ 120) (od : Nat → Int32) (no ft : Int32) (hsp : sp ≤ tl) : Mt l D (tyS cA cB) yX5_sign cX5_sign 2 none ({ frames := 1, cells := 0, slots := 0, locals := 20 } : Room) [.ref (m 0), .int (nI 59)] (mdW cA m ρ P hs α rf K V C my cm tx (nI (tl)) (nI (sp)) od no (-1)) Unit (fun v _ => v = none) (fun _ => mdW cA m ρ P hs α rf K V C my cm tx (nI (tl)) (nI ((sgF tx tl sp none).1)) od no (oI (sgF tx tl sp none).2)) 0 0 := by
  refine mt_in RX5 ([some (.ref (m 0)), some (.int (nI 59))]) rfl (by decide +kernel) rfl (Nat.le_of_ble_eq_true rfl) rfl rfl (fun X sz => ?_)
  have hbl := blkF_le tx (tl - sp) sp
  refine r_aload_n 0 dX5_sign_0 rfl rfl ?_
  refine r_callV2 (As := []) (st := []) (fun _ => mdW cA m ρ P hs α rf K V C my cm tx (nI (tl)) (nI (blkF tx (tl - sp) sp)) od no (-1)) [mdW cA m ρ P hs α rf K V C my cm tx (nI (tl)) (nI (sp)) od no (-1)] [mdW cA m ρ P hs α rf K V C my cm tx (nI (tl)) (nI (sp)) od no (-1)] [] (fun _ => [mdW cA m ρ P hs α rf K V C my cm tx (nI (tl)) (nI (blkF tx (tl - sp) sp)) od no (-1)]) (fun _ => [mdW cA m ρ P hs α rf K V C my cm tx (nI (tl)) (nI (blkF tx (tl - sp) sp)) od no (-1)]) (c_X5_blanks l D cA cB m ρ P hs α rf K V C my cm tx tl sp htl od no (-1) (by omega)) kv_X5_blanks ml_X5_143 dX5_sign_1 rfl rfl rfl rfl (segOk [0] rfl rfl rfl rfl) (fun _ => segOk [0] rfl rfl rfl rfl) rfl (Nat.le_of_ble_eq_true rfl) (fun v u h => ?_)
  subst h
  refine r_st (st' := []) rfl ?_
  refine r_aload_n 0 dX5_sign_4 rfl rfl ?_
  refine r_get 0 fk_X5_146 dX5_sign_5 rfl rfl ?_
  refine r_iconst (-1) dX5_sign_8 (by decide +kernel) ?_
  refine r_icmp_ne 44 dX5_sign_9 (by decide) (fun hq1 => ?_) (fun hq1 => ?_)
  · exact absurd rfl hq1
  · refine r_aload_n 0 dX5_sign_12 rfl rfl ?_
    refine r_get 0 fk_X5_140 dX5_sign_13 rfl rfl ?_
    refine r_aload_n 0 dX5_sign_16 rfl rfl ?_
    refine r_get 0 fk_X5_137 dX5_sign_17 rfl rfl ?_
    refine r_ncmp_eq 36 (by omega) (by omega) dX5_sign_20 (by decide) (fun hq2 => ?_) (fun hq2 => ?_)
    · refine r_aload_n 0 dX5_sign_36 rfl rfl ?_
      refine r_aload_n 0 dX5_sign_37 rfl rfl ?_
      refine r_get 0 fk_X5_140 dX5_sign_38 rfl rfl ?_
      refine r_put 0 (mdW cA m ρ P hs α rf K V C my cm tx (nI (tl)) (nI (blkF tx (tl - sp) sp)) od no (nI (blkF tx (tl - sp) sp))) fk_X5_146 dX5_sign_41 rfl rfl rfl rfl (Nat.le_of_ble_eq_true rfl) rfl ?_
      refine r_aload_n 0 dX5_sign_44 rfl rfl ?_
      refine r_dup rfl dX5_sign_45 ?_
      refine r_get 0 fk_X5_140 dX5_sign_46 rfl rfl ?_
      refine r_iconst (nI 1) dX5_sign_49 (by decide +kernel) ?_
      refine r_niadd dX5_sign_50 ?_
      refine r_put 0 (mdW cA m ρ P hs α rf K V C my cm tx (nI (tl)) (nI ((blkF tx (tl - sp) sp) + 1)) od no (nI (blkF tx (tl - sp) sp))) fk_X5_140 dX5_sign_51 rfl rfl rfl rfl (Nat.le_of_ble_eq_true rfl) rfl ?_
      exact r_vret (()) dX5_sign_54 (rfl) (by unfold sgF; dsimp only; rw [if_pos (Or.inl hq2)] <;> rfl)
    · refine r_aload_n 0 dX5_sign_23 rfl rfl ?_
      refine r_get 0 fk_X5_31 dX5_sign_24 rfl rfl ?_
      refine r_aload_n 0 dX5_sign_27 rfl rfl ?_
      refine r_get 0 fk_X5_140 dX5_sign_28 rfl rfl ?_
      refine r_iald 8 (blkF tx (tl - sp) sp) dX5_sign_31 rfl rfl rfl (by omega) (Nat.le_of_ble_eq_true rfl) ?_
      refine r_iload_n 1 dX5_sign_32 rfl rfl ?_
      refine r_icmp_eq 44 dX5_sign_33 (by decide) (fun hq3 => ?_) (fun hq3 => ?_)
      · refine r_aload_n 0 dX5_sign_44 rfl rfl ?_
        refine r_dup rfl dX5_sign_45 ?_
        refine r_get 0 fk_X5_140 dX5_sign_46 rfl rfl ?_
        refine r_iconst (nI 1) dX5_sign_49 (by decide +kernel) ?_
        refine r_niadd dX5_sign_50 ?_
        refine r_put 0 (mdW cA m ρ P hs α rf K V C my cm tx (nI (tl)) (nI ((blkF tx (tl - sp) sp) + 1)) od no (-1)) fk_X5_140 dX5_sign_51 rfl rfl rfl rfl (Nat.le_of_ble_eq_true rfl) rfl ?_
        exact r_vret (()) dX5_sign_54 (rfl) (by unfold sgF; dsimp only; rw [if_neg (fun z => by rcases z with z | z; exact hq2 z; exact z hq3)] <;> rfl)
      · refine r_aload_n 0 dX5_sign_36 rfl rfl ?_
        refine r_aload_n 0 dX5_sign_37 rfl rfl ?_
        refine r_get 0 fk_X5_140 dX5_sign_38 rfl rfl ?_
        refine r_put 0 (mdW cA m ρ P hs α rf K V C my cm tx (nI (tl)) (nI (blkF tx (tl - sp) sp)) od no (nI (blkF tx (tl - sp) sp))) fk_X5_146 dX5_sign_41 rfl rfl rfl rfl (Nat.le_of_ble_eq_true rfl) rfl ?_
        refine r_aload_n 0 dX5_sign_44 rfl rfl ?_
        refine r_dup rfl dX5_sign_45 ?_
        refine r_get 0 fk_X5_140 dX5_sign_46 rfl rfl ?_
        refine r_iconst (nI 1) dX5_sign_49 (by decide +kernel) ?_
        refine r_niadd dX5_sign_50 ?_
        refine r_put 0 (mdW cA m ρ P hs α rf K V C my cm tx (nI (tl)) (nI ((blkF tx (tl - sp) sp) + 1)) od no (nI (blkF tx (tl - sp) sp))) fk_X5_140 dX5_sign_51 rfl rfl rfl rfl (Nat.le_of_ble_eq_true rfl) rfl ?_
        exact r_vret (()) dX5_sign_54 (rfl) (by unfold sgF; dsimp only; rw [if_pos (Or.inr hq3)] <;> rfl)

set_option maxRecDepth 100000 in
set_option maxHeartbeats 4000000 in
theorem c_X5_sign_s (l : Launch) (D : va_G) (cA cB : ClassId) (m : Nat → Nat) (ρ P : Nat → Int32) (hs : Int32) (α rf K V C : Nat → Int32) (my cm : Int32) (tx : Nat → Int32) (tl sp : Nat) (htl : tl ≤ 120) (od : Nat → Int32) (no ft : Int32) (hsp : sp ≤ tl) (x : Nat) (hx : x ≤ tl) : Mt l D (tyS cA cB) yX5_sign cX5_sign 2 none ({ frames := 1, cells := 0, slots := 0, locals := 20 } : Room) [.ref (m 0), .int (nI 59)] (mdW cA m ρ P hs α rf K V C my cm tx (nI (tl)) (nI (sp)) od no (nI (x))) Unit (fun v _ => v = none) (fun _ => mdW cA m ρ P hs α rf K V C my cm tx (nI (tl)) (nI ((sgF tx tl sp (some x)).1)) od no (oI (sgF tx tl sp (some x)).2)) 0 0 := by
  refine mt_in RX5 ([some (.ref (m 0)), some (.int (nI 59))]) rfl (by decide +kernel) rfl (Nat.le_of_ble_eq_true rfl) rfl rfl (fun X sz => ?_)
  have hbl := blkF_le tx (tl - sp) sp
  refine r_aload_n 0 dX5_sign_0 rfl rfl ?_
  refine r_callV2 (As := []) (st := []) (fun _ => mdW cA m ρ P hs α rf K V C my cm tx (nI (tl)) (nI (blkF tx (tl - sp) sp)) od no (nI (x))) [mdW cA m ρ P hs α rf K V C my cm tx (nI (tl)) (nI (sp)) od no (nI (x))] [mdW cA m ρ P hs α rf K V C my cm tx (nI (tl)) (nI (sp)) od no (nI (x))] [] (fun _ => [mdW cA m ρ P hs α rf K V C my cm tx (nI (tl)) (nI (blkF tx (tl - sp) sp)) od no (nI (x))]) (fun _ => [mdW cA m ρ P hs α rf K V C my cm tx (nI (tl)) (nI (blkF tx (tl - sp) sp)) od no (nI (x))]) (c_X5_blanks l D cA cB m ρ P hs α rf K V C my cm tx tl sp htl od no (nI (x)) (by omega)) kv_X5_blanks ml_X5_143 dX5_sign_1 rfl rfl rfl rfl (segOk [0] rfl rfl rfl rfl) (fun _ => segOk [0] rfl rfl rfl rfl) rfl (Nat.le_of_ble_eq_true rfl) (fun v u h => ?_)
  subst h
  refine r_st (st' := []) rfl ?_
  refine r_aload_n 0 dX5_sign_4 rfl rfl ?_
  refine r_get 0 fk_X5_146 dX5_sign_5 rfl rfl ?_
  refine r_iconst (-1) dX5_sign_8 (by decide +kernel) ?_
  refine r_icmp_ne 44 dX5_sign_9 (by decide) (fun hq1 => ?_) (fun hq1 => ?_)
  · refine r_aload_n 0 dX5_sign_44 rfl rfl ?_
    refine r_dup rfl dX5_sign_45 ?_
    refine r_get 0 fk_X5_140 dX5_sign_46 rfl rfl ?_
    refine r_iconst (nI 1) dX5_sign_49 (by decide +kernel) ?_
    refine r_niadd dX5_sign_50 ?_
    refine r_put 0 (mdW cA m ρ P hs α rf K V C my cm tx (nI (tl)) (nI ((blkF tx (tl - sp) sp) + 1)) od no (nI (x))) fk_X5_140 dX5_sign_51 rfl rfl rfl rfl (Nat.le_of_ble_eq_true rfl) rfl ?_
    exact r_vret (()) dX5_sign_54 (rfl) (rfl)
  · exact absurd hq1 (nI_ne_m1 (by omega))

theorem c_X5_number (l : Launch) (D : va_G) (cA cB : ClassId) (m : Nat → Nat) (ρ P : Nat → Int32) (hs : Int32) (α rf K V C : Nat → Int32) (my cm : Int32) (tx : Nat → Int32) (tl sp : Nat) (htl : tl ≤ 120) (od : Nat → Int32) (no : Int32) (ft : Option Nat) (hsp : sp ≤ tl) (hft : ∀ f, ft = some f → f ≤ tl) : Mt l D (tyS cA cB) yX5_number cX5_number 3 (some .int) ({ frames := 2, cells := 0, slots := 0, locals := 42 } : Room) [.ref (m 0)] (mdW cA m ρ P hs α rf K V C my cm tx (nI (tl)) (nI (sp)) od no (oI ft)) Unit (fun v _ => v = some (.int (nmF tx tl sp ft).2.1)) (fun _ => mdW cA m ρ P hs α rf K V C my cm tx (nI (tl)) (nI ((nmF tx tl sp ft).1)) od no (oI (nmF tx tl sp ft).2.2)) 0 0 := by
  cases ft with
  | none => exact c_X5_number_n l D cA cB m ρ P hs α rf K V C my cm tx tl sp htl od no (-1) hsp
  | some x => exact c_X5_number_s l D cA cB m ρ P hs α rf K V C my cm tx tl sp htl od no (-1) hsp x (hft x rfl)

theorem c_X5_sign (l : Launch) (D : va_G) (cA cB : ClassId) (m : Nat → Nat) (ρ P : Nat → Int32) (hs : Int32) (α rf K V C : Nat → Int32) (my cm : Int32) (tx : Nat → Int32) (tl sp : Nat) (htl : tl ≤ 120) (od : Nat → Int32) (no : Int32) (ft : Option Nat) (hsp : sp ≤ tl) (hft : ∀ f, ft = some f → f ≤ tl) : Mt l D (tyS cA cB) yX5_sign cX5_sign 2 none ({ frames := 1, cells := 0, slots := 0, locals := 20 } : Room) [.ref (m 0), .int (nI 59)] (mdW cA m ρ P hs α rf K V C my cm tx (nI (tl)) (nI (sp)) od no (oI ft)) Unit (fun v _ => v = none) (fun _ => mdW cA m ρ P hs α rf K V C my cm tx (nI (tl)) (nI ((sgF tx tl sp ft).1)) od no (oI (sgF tx tl sp ft).2)) 0 0 := by
  cases ft with
  | none => exact c_X5_sign_n l D cA cB m ρ P hs α rf K V C my cm tx tl sp htl od no (-1) hsp
  | some x => exact c_X5_sign_s l D cA cB m ρ P hs α rf K V C my cm tx tl sp htl od no (-1) hsp x (hft x rfl)

