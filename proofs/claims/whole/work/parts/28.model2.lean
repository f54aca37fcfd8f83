set_option maxRecDepth 100000 in
set_option maxHeartbeats 4000000 in
theorem lp_X5_key (l : Launch) (D : va_G) (cA cB : ClassId) (m : Nat → Nat) (ρ P : Nat → Int32) (hs : Int32) (α rf K V C : Nat → Int32) (my cm : Int32) (tx : Nat → Int32) (tl sp : Int32) (od : Nat → Int32) (no ft : Int32) (n : Nat) (hsz : ρ 0 = nI n) (h3 : n = 16 ∨ n = 32 ∨ n = 64) (j : Nat) (hj : j < 2 ^ 31) (X : Cx) (sz : Nat) : ∀ (f c y : Nat), y + cnt ρ 0 c = j → c ≤ n → n < c + f → G l X ({ frames := 2, cells := 0, slots := 0, locals := 42 } : Room) cX5_key RX5 (some .int) D (tyS cA cB) (va_A (mdW cA m ρ P hs α rf K V C my cm tx tl sp od no ft) sz) (QX X D (tyS cA cB) (mdW cA m ρ P hs α rf K V C my cm tx tl sp od no ft) sz Unit (fun v _ => v = some (.int (keyA ρ rf n (nI j)).1)) (fun _ => mdW cA m ρ P hs α ((keyA ρ rf n (nI j)).2) K V C my cm tx tl sp od no ft) 0 0) 0 0 (mdW cA m ρ P hs α rf K V C my cm tx tl sp od no ft) 18 ([some (.ref (m 0)), some (.int (nI j)), some (.int (nI y)), some (.int (nI c))]) [] := by
  intro f
  induction f with
  | zero => intro c y _ h1 h2; omega
  | succ f ih =>
    intro c y hy hc hf
    have hb := n16 h3
    refine r_iload_n 3 dX5_key_18 rfl rfl ?_
    refine r_aload_n 0 dX5_key_19 rfl rfl ?_
    refine r_get 0 fk_X5_7 dX5_key_20 rfl rfl ?_
    refine r_iconst (nI 0) dX5_key_23 (by decide +kernel) ?_
    refine r_iald 1 (0) dX5_key_24 rfl rfl rfl (by omega) (Nat.le_of_ble_eq_true rfl) ?_
    refine r_top (y := nI (n)) (hsz) ?_
    refine r_ncmp_ge 64 (by omega) (by omega) dX5_key_25 (by decide) (fun hq1 => ?_) (fun hq1 => ?_)
    · refine r_iconst (-1) dX5_key_64 (by decide +kernel) ?_
      exact r_iret (()) dX5_key_65 (by unfold keyA; rw [if_neg (nI_pos hj), nI_clamp hj, keyNF_none (by rw [← show c = n by omega]; omega)]) (by unfold keyA; rw [if_neg (nI_pos hj)])
    · refine r_aload_n 0 dX5_key_28 rfl rfl ?_
      refine r_get 0 fk_X5_7 dX5_key_29 rfl rfl ?_
      refine r_bipush (nI 31) dX5_key_32 (by decide +kernel) ?_
      refine r_iload_n 3 dX5_key_34 rfl rfl ?_
      refine r_niadd dX5_key_35 ?_
      refine r_iald 1 (31 + c) dX5_key_36 rfl rfl rfl (by omega) (Nat.le_of_ble_eq_true rfl) ?_
      refine r_iconst (-1) dX5_key_37 (by decide +kernel) ?_
      refine r_icmp_eq 58 dX5_key_38 (by decide) (fun hq2 => ?_) (fun hq2 => ?_)
      · refine r_iinc (v := nI (c + 1)) ([some (.ref (m 0)), some (.int (nI j)), some (.int (nI y)), some (.int (nI (c + 1)))]) dX5_key_58 rfl (nI_1 _) (Nat.le_of_ble_eq_true rfl) rfl rfl ?_
        refine r_goto 18 dX5_key_61 (by decide) ?_
        exact ih (c + 1) _ (by rw [cnt0_s0 hq2]; omega) (by omega) (by omega)
      · refine r_iload_n 2 dX5_key_41 rfl rfl ?_
        refine r_if_ne 55 dX5_key_42 (by decide) (fun hq3 => ?_) (fun hq3 => ?_)
        · have hy0 : 0 < y := by rcases Nat.eq_zero_or_pos y with z | z; exact absurd (by rw [z]; rfl) hq3; exact z
          refine r_iinc (v := nI (y - 1)) ([some (.ref (m 0)), some (.int (nI j)), some (.int (nI (y - 1))), some (.int (nI c))]) dX5_key_55 rfl (nI_m1 (by omega)) (Nat.le_of_ble_eq_true rfl) rfl rfl ?_
          refine r_iinc (v := nI (c + 1)) ([some (.ref (m 0)), some (.int (nI j)), some (.int (nI (y - 1))), some (.int (nI (c + 1)))]) dX5_key_58 rfl (nI_1 _) (Nat.le_of_ble_eq_true rfl) rfl rfl ?_
          refine r_goto 18 dX5_key_61 (by decide) ?_
          exact ih (c + 1) _ (by rw [cnt0_s1 hq2]; omega) (by omega) (by omega)
        · refine r_aload_n 0 dX5_key_45 rfl rfl ?_
          refine r_get 0 fk_X5_7 dX5_key_46 rfl rfl ?_
          refine r_bipush (nI 31) dX5_key_49 (by decide +kernel) ?_
          refine r_iload_n 3 dX5_key_51 rfl rfl ?_
          refine r_niadd dX5_key_52 ?_
          refine r_iald 1 (31 + c) dX5_key_53 rfl rfl rfl (by omega) (Nat.le_of_ble_eq_true rfl) ?_
          exact r_iret (()) dX5_key_54 (by unfold keyA; rw [if_neg (nI_pos hj), nI_clamp hj, keyNF_at hq2 (by have := (nI_z (by omega)).mp hq3; omega) (by omega)]) (by unfold keyA; rw [if_neg (nI_pos hj)])

set_option maxRecDepth 100000 in
set_option maxHeartbeats 4000000 in
theorem c_X5_key (l : Launch) (D : va_G) (cA cB : ClassId) (m : Nat → Nat) (ρ P : Nat → Int32) (hs : Int32) (α rf K V C : Nat → Int32) (my cm : Int32) (tx : Nat → Int32) (tl sp : Int32) (od : Nat → Int32) (no ft : Int32) (n : Nat) (hsz : ρ 0 = nI n) (h3 : n = 16 ∨ n = 32 ∨ n = 64) (i : Int32) : Mt l D (tyS cA cB) yX5_key cX5_key 4 (some .int) ({ frames := 2, cells := 0, slots := 0, locals := 42 } : Room) [.ref (m 0), .int (i)] (mdW cA m ρ P hs α rf K V C my cm tx tl sp od no ft) Unit (fun v _ => v = some (.int (keyA ρ rf n i).1)) (fun _ => mdW cA m ρ P hs α ((keyA ρ rf n i).2) K V C my cm tx tl sp od no ft) 0 0 := by
  refine mt_in RX5 ([some (.ref (m 0)), some (.int (i)), none, none]) rfl (by decide +kernel) rfl (Nat.le_of_ble_eq_true rfl) rfl rfl (fun X sz => ?_)
  have hb := n16 h3
  refine r_aload_n 0 dX5_key_0 rfl rfl ?_
  refine r_iconst (nI 0) dX5_key_1 (by decide +kernel) ?_
  refine r_put 0 (mdW cA m ρ P hs α rf K V C my cm tx tl sp od no ft) fk_X5_37 dX5_key_2 rfl rfl rfl rfl (Nat.le_of_ble_eq_true rfl) rfl ?_
  refine r_iload_n 1 dX5_key_5 rfl rfl ?_
  refine r_if_ge 14 dX5_key_6 (by decide) (fun hq1 => ?_) (fun hq1 => ?_)
  · obtain ⟨j, hj, rfl⟩ := nI_ex hq1
    refine r_iload_n 1 dX5_key_14 rfl rfl ?_
    refine r_istore_n 2 ([some (.ref (m 0)), some (.int (nI j)), some (.int (nI j)), none]) dX5_key_15 rfl (Nat.le_of_ble_eq_true rfl) rfl rfl ?_
    refine r_iconst (nI 0) dX5_key_16 (by decide +kernel) ?_
    refine r_istore_n 3 ([some (.ref (m 0)), some (.int (nI j)), some (.int (nI j)), some (.int (nI 0))]) dX5_key_17 rfl (Nat.le_of_ble_eq_true rfl) rfl rfl ?_
    exact lp_X5_key l D cA cB m ρ P hs α rf K V C my cm tx tl sp od no ft n hsz h3 j hj X sz (n + 1) 0 j rfl (by omega) (by omega)
  · refine r_aload_n 0 dX5_key_9 rfl rfl ?_
    refine r_callV2 (As := []) (st := []) (fun _ => mdW cA m ρ P hs α (badR rf) K V C my cm tx tl sp od no ft) [mdW cA m ρ P hs α rf K V C my cm tx tl sp od no ft] [mdW cA m ρ P hs α rf K V C my cm tx tl sp od no ft] [] (fun _ => [mdW cA m ρ P hs α (badR rf) K V C my cm tx tl sp od no ft]) (fun _ => [mdW cA m ρ P hs α (badR rf) K V C my cm tx tl sp od no ft]) (c_X5_bad l D cA cB m ρ P hs α rf K V C my cm tx tl sp od no ft ) kv_X5_bad ml_X5_125 dX5_key_10 rfl rfl rfl rfl (segOk [0] rfl rfl rfl rfl) (fun _ => segOk [0] rfl rfl rfl rfl) rfl (Nat.le_of_ble_eq_true rfl) (fun v u h => ?_)
    subst h
    refine r_st (st' := [.int (-2)]) rfl ?_
    exact r_iret (()) dX5_key_13 (by unfold keyA; rw [if_pos (Int32.not_le.mp hq1)]) (by unfold keyA; rw [if_pos (Int32.not_le.mp hq1)])

set_option maxRecDepth 100000 in
set_option maxHeartbeats 4000000 in
theorem lp_X5_scan (l : Launch) (D : va_G) (cA cB : ClassId) (m : Nat → Nat) (ρ P : Nat → Int32) (hs : Int32) (α rf K V C : Nat → Int32) (my cm : Int32) (tx : Nat → Int32) (tl sp : Int32) (od : Nat → Int32) (no ft : Int32) (n : Nat) (hsz : ρ 0 = nI n) (h3 : n = 16 ∨ n = 32 ∨ n = 64) (hs2 : Srt ρ n) (a : Int32) (k : Nat) (hm : k ≤ 999) (ha : 0 ≤ a) (hab : a ≤ nI k) (x : Int32) (hok : (spanB a (nI k) && wi x (nI 2)) = true) (X : Cx) (sz : Nat) : ∀ (f c y : Nat) (z fi la : Int32), y = scN ρ a (nI k) c → z = vsum ρ a (nI k) c → fi = scF ρ a (nI k) c → la = scL ρ a (nI k) c → c ≤ n → n < c + f → G l X ({ frames := 2, cells := 0, slots := 0, locals := 42 } : Room) cX5_scan RX5 (some .int) D (tyS cA cB) (va_A (mdW cA m ρ P hs α rf K V C my cm tx tl sp od no ft) sz) (QX X D (tyS cA cB) (mdW cA m ρ P hs α rf K V C my cm tx tl sp od no ft) sz Unit (fun v _ => v = some (.int (scnA ρ rf n a (nI k) x).1)) (fun _ => mdW cA m ρ P hs α ((scnA ρ rf n a (nI k) x).2) K V C my cm tx tl sp od no ft) 0 0) 0 0 (mdW cA m ρ P hs α rf K V C my cm tx tl sp od no ft) 56 ([some (.ref (m 0)), some (.int (a)), some (.int (nI k)), some (.int (x)), some (.int (nI y)), some (.int (z)), some (.int (fi)), some (.int (la)), some (.int (nI c))]) [] := by
  intro f
  induction f with
  | zero => intro c y z fi la _ _ _ _ h1 h2; omega
  | succ f ih =>
    intro c y z fi la hy hz hfi hla hc hf
    have hb := n16 h3
    have hyl := scN_le ρ a (nI k) c
    have hbl := sc_blw (ρ := ρ) hm ha hab n
    refine r_iload dX5_scan_56 rfl ?_
    refine r_aload_n 0 dX5_scan_58 rfl rfl ?_
    refine r_get 0 fk_X5_7 dX5_scan_59 rfl rfl ?_
    refine r_iconst (nI 0) dX5_scan_62 (by decide +kernel) ?_
    refine r_iald 1 (0) dX5_scan_63 rfl rfl rfl (by omega) (Nat.le_of_ble_eq_true rfl) ?_
    refine r_top (y := nI (n)) (hsz) ?_
    refine r_ncmp_ge 141 (by omega) (by omega) dX5_scan_64 (by decide) (fun hq1 => ?_) (fun hq1 => ?_)
    · refine r_iload_n 3 dX5_scan_141 rfl rfl ?_
      refine r_if_ne 150 dX5_scan_142 (by decide) (fun hq2 => ?_) (fun hq2 => ?_)
      · refine r_iload_n 3 dX5_scan_150 rfl rfl ?_
        refine r_iconst (nI 1) dX5_scan_151 (by decide +kernel) ?_
        refine r_icmp_ne 160 dX5_scan_152 (by decide) (fun hq3 => ?_) (fun hq3 => ?_)
        · refine r_iload dX5_scan_160 rfl ?_
          refine r_if_ne 169 dX5_scan_162 (by decide) (fun hq4 => ?_) (fun hq4 => ?_)
          · refine r_iload dX5_scan_169 rfl ?_
            refine r_iload dX5_scan_171 rfl ?_
            refine r_isub dX5_scan_173 ?_
            refine r_iconst (nI 1) dX5_scan_174 (by decide +kernel) ?_
            refine r_iadd dX5_scan_175 ?_
            exact r_iret (()) dX5_scan_176 (by unfold scnA; rw [if_pos hok]; dsimp only; rw [if_neg hq2, if_neg hq3, scan_crd hs2 hm ha hab, ← show c = n by omega, ← hy, if_neg (fun q => hq4 ((nI_z (by omega)).mpr q)), hfi, hla] <;> rfl) (by unfold scnA; rw [if_pos hok])
          · refine r_iconst (nI 0) dX5_scan_165 (by decide +kernel) ?_
            refine r_goto 176 dX5_scan_166 (by decide) ?_
            exact r_iret (()) dX5_scan_176 (by unfold scnA; rw [if_pos hok]; dsimp only; rw [if_neg hq2, if_neg hq3, scan_crd hs2 hm ha hab, ← show c = n by omega, ← hy, if_pos ((nI_z (by omega)).mp hq4)] <;> rfl) (by unfold scnA; rw [if_pos hok])
        · refine r_iload dX5_scan_155 rfl ?_
          refine r_goto 176 dX5_scan_157 (by decide) ?_
          exact r_iret (()) dX5_scan_176 (by unfold scnA; rw [if_pos hok]; dsimp only; rw [if_neg hq2, if_pos hq3, hz, show c = n by omega]) (by unfold scnA; rw [if_pos hok])
      · refine r_iload dX5_scan_145 rfl ?_
        refine r_goto 176 dX5_scan_147 (by decide) ?_
        exact r_iret (()) dX5_scan_176 (by unfold scnA; rw [if_pos hok]; dsimp only; rw [if_pos hq2, nI_sb (by omega), hy, show c = n by omega]; congr 3; omega) (by unfold scnA; rw [if_pos hok])
    · refine r_aload_n 0 dX5_scan_67 rfl rfl ?_
      refine r_get 0 fk_X5_7 dX5_scan_68 rfl rfl ?_
      refine r_bipush (nI 31) dX5_scan_71 (by decide +kernel) ?_
      refine r_iload dX5_scan_73 rfl ?_
      refine r_niadd dX5_scan_75 ?_
      refine r_iald 1 (31 + c) dX5_scan_76 rfl rfl rfl (by omega) (Nat.le_of_ble_eq_true rfl) ?_
      refine r_iconst (-1) dX5_scan_77 (by decide +kernel) ?_
      refine r_icmp_eq 135 dX5_scan_78 (by decide) (fun hq5 => ?_) (fun hq5 => ?_)
      · refine r_iinc (v := nI (c + 1)) ([some (.ref (m 0)), some (.int (a)), some (.int (nI k)), some (.int (x)), some (.int (nI y)), some (.int (z)), some (.int (fi)), some (.int (la)), some (.int (nI (c + 1)))]) dX5_scan_135 rfl (nI_1 _) (Nat.le_of_ble_eq_true rfl) rfl rfl ?_
        refine r_goto 56 dX5_scan_138 (by decide) ?_
        exact ih (c + 1) _ _ _ _ (by rw [scN_s0 (fun z => ge0_ne ha z.1 hq5), hy]) (by rw [vsum_s0 (fun z => ge0_ne ha z.1 hq5), hz]) (by rw [scF_s0 (fun z => ge0_ne ha z.1 hq5), hfi]) (by rw [scL_s0 (fun z => ge0_ne ha z.1 hq5), hla]) (by omega) (by omega)
      · refine r_aload_n 0 dX5_scan_81 rfl rfl ?_
        refine r_get 0 fk_X5_7 dX5_scan_82 rfl rfl ?_
        refine r_bipush (nI 31) dX5_scan_85 (by decide +kernel) ?_
        refine r_iload dX5_scan_87 rfl ?_
        refine r_niadd dX5_scan_89 ?_
        refine r_iald 1 (31 + c) dX5_scan_90 rfl rfl rfl (by omega) (Nat.le_of_ble_eq_true rfl) ?_
        refine r_iload_n 1 dX5_scan_91 rfl rfl ?_
        refine r_iload_n 2 dX5_scan_92 rfl rfl ?_
        refine r_callS2 (As := [.int (ρ (31 + c)), .int (a), .int (nI k)]) (st := []) (fun _ => mdW cA m ρ P hs α rf K V C my cm tx tl sp od no ft) [mdW cA m ρ P hs α rf K V C my cm tx tl sp od no ft] [] [mdW cA m ρ P hs α rf K V C my cm tx tl sp od no ft] (fun _ => [mdW cA m ρ P hs α rf K V C my cm tx tl sp od no ft]) (fun _ => []) (c_X5_in l D cA cB (ρ (31 + c)) (a) (nI (k))) ks_X5_in ml_X5_87 dX5_scan_93 rfl rfl (segOk [0] rfl rfl rfl rfl) (fun _ => segOk [0] rfl rfl rfl rfl) rfl (Nat.le_of_ble_eq_true rfl) (fun v u h => ?_)
        subst h
        refine r_st (st' := [.int (bI (inB (ρ (31 + c)) a (nI (k))))]) rfl ?_
        refine r_bif_eq 135 dX5_scan_96 (by decide) (fun hq6 => ?_) (fun hq6 => ?_)
        · refine r_iinc (v := nI (c + 1)) ([some (.ref (m 0)), some (.int (a)), some (.int (nI k)), some (.int (x)), some (.int (nI y)), some (.int (z)), some (.int (fi)), some (.int (la)), some (.int (nI (c + 1)))]) dX5_scan_135 rfl (nI_1 _) (Nat.le_of_ble_eq_true rfl) rfl rfl ?_
          refine r_goto 56 dX5_scan_138 (by decide) ?_
          exact ih (c + 1) _ _ _ _ (by rw [scN_s0 (of_decide_eq_false hq6), hy]) (by rw [vsum_s0 (of_decide_eq_false hq6), hz]) (by rw [scF_s0 (of_decide_eq_false hq6), hfi]) (by rw [scL_s0 (of_decide_eq_false hq6), hla]) (by omega) (by omega)
        · refine r_iload dX5_scan_99 rfl ?_
          refine r_if_ne 109 dX5_scan_101 (by decide) (fun hq7 => ?_) (fun hq7 => ?_)
          · refine r_iload dX5_scan_109 rfl ?_
            refine r_istore ([some (.ref (m 0)), some (.int (a)), some (.int (nI k)), some (.int (x)), some (.int (nI y)), some (.int (z)), some (.int (fi)), some (.int (la)), some (.int (nI c))]) dX5_scan_111 (Nat.le_of_ble_eq_true rfl) rfl rfl ?_
            refine r_iload dX5_scan_113 rfl ?_
            refine r_istore ([some (.ref (m 0)), some (.int (a)), some (.int (nI k)), some (.int (x)), some (.int (nI y)), some (.int (z)), some (.int (fi)), some (.int (nI c)), some (.int (nI c))]) dX5_scan_115 (Nat.le_of_ble_eq_true rfl) rfl rfl ?_
            refine r_iload dX5_scan_117 rfl ?_
            refine r_aload_n 0 dX5_scan_119 rfl rfl ?_
            refine r_get 0 fk_X5_7 dX5_scan_120 rfl rfl ?_
            refine r_bipush (nI 95) dX5_scan_123 (by decide +kernel) ?_
            refine r_iload dX5_scan_125 rfl ?_
            refine r_niadd dX5_scan_127 ?_
            refine r_iald 1 (95 + c) dX5_scan_128 rfl rfl rfl (by omega) (Nat.le_of_ble_eq_true rfl) ?_
            refine r_iadd dX5_scan_129 ?_
            refine r_istore ([some (.ref (m 0)), some (.int (a)), some (.int (nI k)), some (.int (x)), some (.int (nI y)), some (.int (z + (ρ (95 + c)))), some (.int (fi)), some (.int (nI c)), some (.int (nI c))]) dX5_scan_130 (Nat.le_of_ble_eq_true rfl) rfl rfl ?_
            refine r_iinc (v := nI (y + 1)) ([some (.ref (m 0)), some (.int (a)), some (.int (nI k)), some (.int (x)), some (.int (nI (y + 1))), some (.int (z + (ρ (95 + c)))), some (.int (fi)), some (.int (nI c)), some (.int (nI c))]) dX5_scan_132 rfl (nI_1 _) (Nat.le_of_ble_eq_true rfl) rfl rfl ?_
            refine r_iinc (v := nI (c + 1)) ([some (.ref (m 0)), some (.int (a)), some (.int (nI k)), some (.int (x)), some (.int (nI (y + 1))), some (.int (z + (ρ (95 + c)))), some (.int (fi)), some (.int (nI c)), some (.int (nI (c + 1)))]) dX5_scan_135 rfl (nI_1 _) (Nat.le_of_ble_eq_true rfl) rfl rfl ?_
            refine r_goto 56 dX5_scan_138 (by decide) ?_
            exact ih (c + 1) _ _ _ _ (by rw [scN_s1 hq6, hy]) (by rw [vsum_s1 (of_decide_eq_true hq6).1 (of_decide_eq_true hq6).2, hz]) (by rw [scF_s2 hq6 (by rw [← hy]; exact fun q => hq7 ((nI_z (by omega)).mpr q)), hfi]) (by rw [scL_s1 hq6]) (by omega) (by omega)
          · refine r_iload dX5_scan_104 rfl ?_
            refine r_goto 111 dX5_scan_106 (by decide) ?_
            refine r_istore ([some (.ref (m 0)), some (.int (a)), some (.int (nI k)), some (.int (x)), some (.int (nI y)), some (.int (z)), some (.int (nI c)), some (.int (la)), some (.int (nI c))]) dX5_scan_111 (Nat.le_of_ble_eq_true rfl) rfl rfl ?_
            refine r_iload dX5_scan_113 rfl ?_
            refine r_istore ([some (.ref (m 0)), some (.int (a)), some (.int (nI k)), some (.int (x)), some (.int (nI y)), some (.int (z)), some (.int (nI c)), some (.int (nI c)), some (.int (nI c))]) dX5_scan_115 (Nat.le_of_ble_eq_true rfl) rfl rfl ?_
            refine r_iload dX5_scan_117 rfl ?_
            refine r_aload_n 0 dX5_scan_119 rfl rfl ?_
            refine r_get 0 fk_X5_7 dX5_scan_120 rfl rfl ?_
            refine r_bipush (nI 95) dX5_scan_123 (by decide +kernel) ?_
            refine r_iload dX5_scan_125 rfl ?_
            refine r_niadd dX5_scan_127 ?_
            refine r_iald 1 (95 + c) dX5_scan_128 rfl rfl rfl (by omega) (Nat.le_of_ble_eq_true rfl) ?_
            refine r_iadd dX5_scan_129 ?_
            refine r_istore ([some (.ref (m 0)), some (.int (a)), some (.int (nI k)), some (.int (x)), some (.int (nI y)), some (.int (z + (ρ (95 + c)))), some (.int (nI c)), some (.int (nI c)), some (.int (nI c))]) dX5_scan_130 (Nat.le_of_ble_eq_true rfl) rfl rfl ?_
            refine r_iinc (v := nI (y + 1)) ([some (.ref (m 0)), some (.int (a)), some (.int (nI k)), some (.int (x)), some (.int (nI (y + 1))), some (.int (z + (ρ (95 + c)))), some (.int (nI c)), some (.int (nI c)), some (.int (nI c))]) dX5_scan_132 rfl (nI_1 _) (Nat.le_of_ble_eq_true rfl) rfl rfl ?_
            refine r_iinc (v := nI (c + 1)) ([some (.ref (m 0)), some (.int (a)), some (.int (nI k)), some (.int (x)), some (.int (nI (y + 1))), some (.int (z + (ρ (95 + c)))), some (.int (nI c)), some (.int (nI c)), some (.int (nI (c + 1)))]) dX5_scan_135 rfl (nI_1 _) (Nat.le_of_ble_eq_true rfl) rfl rfl ?_
            refine r_goto 56 dX5_scan_138 (by decide) ?_
            exact ih (c + 1) _ _ _ _ (by rw [scN_s1 hq6, hy]) (by rw [vsum_s1 (of_decide_eq_true hq6).1 (of_decide_eq_true hq6).2, hz]) (by rw [scF_s1 hq6 (by rw [← hy]; exact (nI_z (by omega)).mp hq7)]) (by rw [scL_s1 hq6]) (by omega) (by omega)

set_option maxRecDepth 100000 in
set_option maxHeartbeats 4000000 in
theorem c_X5_scan (l : Launch) (D : va_G) (cA cB : ClassId) (m : Nat → Nat) (ρ P : Nat → Int32) (hs : Int32) (α rf K V C : Nat → Int32) (my cm : Int32) (tx : Nat → Int32) (tl sp : Int32) (od : Nat → Int32) (no ft : Int32) (n : Nat) (hsz : ρ 0 = nI n) (h3 : n = 16 ∨ n = 32 ∨ n = 64) (hs2 : Srt ρ n) (a b x : Int32) : Mt l D (tyS cA cB) yX5_scan cX5_scan 9 (some .int) ({ frames := 2, cells := 0, slots := 0, locals := 42 } : Room) [.ref (m 0), .int (a), .int (b), .int (x)] (mdW cA m ρ P hs α rf K V C my cm tx tl sp od no ft) Unit (fun v _ => v = some (.int (scnA ρ rf n a b x).1)) (fun _ => mdW cA m ρ P hs α ((scnA ρ rf n a b x).2) K V C my cm tx tl sp od no ft) 0 0 := by
  refine mt_in RX5 ([some (.ref (m 0)), some (.int (a)), some (.int (b)), some (.int (x)), none, none, none, none, none]) rfl (by decide +kernel) rfl (Nat.le_of_ble_eq_true rfl) rfl rfl (fun X sz => ?_)
  have hb := n16 h3
  refine r_aload_n 0 dX5_scan_0 rfl rfl ?_
  refine r_iconst (nI 0) dX5_scan_1 (by decide +kernel) ?_
  refine r_put 0 (mdW cA m ρ P hs α rf K V C my cm tx tl sp od no ft) fk_X5_37 dX5_scan_2 rfl rfl rfl rfl (Nat.le_of_ble_eq_true rfl) rfl ?_
  refine r_iload_n 1 dX5_scan_5 rfl rfl ?_
  refine r_iconst (nI 0) dX5_scan_6 (by decide +kernel) ?_
  refine r_sipush (nI 999) dX5_scan_7 (by decide +kernel) ?_
  refine r_callS2 (As := [.int (a), .int (nI 0), .int (nI 999)]) (st := []) (fun _ => mdW cA m ρ P hs α rf K V C my cm tx tl sp od no ft) [mdW cA m ρ P hs α rf K V C my cm tx tl sp od no ft] [] [mdW cA m ρ P hs α rf K V C my cm tx tl sp od no ft] (fun _ => [mdW cA m ρ P hs α rf K V C my cm tx tl sp od no ft]) (fun _ => []) (c_X5_in0 l D cA cB (a) (nI (999))) ks_X5_in ml_X5_87 dX5_scan_10 rfl rfl (segOk [0] rfl rfl rfl rfl) (fun _ => segOk [0] rfl rfl rfl rfl) rfl (Nat.le_of_ble_eq_true rfl) (fun v u h => ?_)
  subst h
  refine r_st (st' := [.int (bI (wi a (nI (999))))]) rfl ?_
  refine r_bif_eq 36 dX5_scan_13 (by decide) (fun hq1 => ?_) (fun hq1 => ?_)
  · refine r_aload_n 0 dX5_scan_36 rfl rfl ?_
    refine r_callV2 (As := []) (st := []) (fun _ => mdW cA m ρ P hs α (badR rf) K V C my cm tx tl sp od no ft) [mdW cA m ρ P hs α rf K V C my cm tx tl sp od no ft] [mdW cA m ρ P hs α rf K V C my cm tx tl sp od no ft] [] (fun _ => [mdW cA m ρ P hs α (badR rf) K V C my cm tx tl sp od no ft]) (fun _ => [mdW cA m ρ P hs α (badR rf) K V C my cm tx tl sp od no ft]) (c_X5_bad l D cA cB m ρ P hs α rf K V C my cm tx tl sp od no ft ) kv_X5_bad ml_X5_125 dX5_scan_37 rfl rfl rfl rfl (segOk [0] rfl rfl rfl rfl) (fun _ => segOk [0] rfl rfl rfl rfl) rfl (Nat.le_of_ble_eq_true rfl) (fun v u h => ?_)
    subst h
    refine r_st (st' := [.int (-2)]) rfl ?_
    exact r_iret (()) dX5_scan_40 (by unfold scnA; rw [if_neg (by unfold spanB; rw [hq1]; simp)]) (by unfold scnA; rw [if_neg (by unfold spanB; rw [hq1]; simp)])
  · refine r_iload_n 2 dX5_scan_16 rfl rfl ?_
    refine r_iload_n 1 dX5_scan_17 rfl rfl ?_
    refine r_sipush (nI 999) dX5_scan_18 (by decide +kernel) ?_
    refine r_callS2 (As := [.int (b), .int (a), .int (nI 999)]) (st := []) (fun _ => mdW cA m ρ P hs α rf K V C my cm tx tl sp od no ft) [mdW cA m ρ P hs α rf K V C my cm tx tl sp od no ft] [] [mdW cA m ρ P hs α rf K V C my cm tx tl sp od no ft] (fun _ => [mdW cA m ρ P hs α rf K V C my cm tx tl sp od no ft]) (fun _ => []) (c_X5_in l D cA cB (b) (a) (nI (999))) ks_X5_in ml_X5_87 dX5_scan_21 rfl rfl (segOk [0] rfl rfl rfl rfl) (fun _ => segOk [0] rfl rfl rfl rfl) rfl (Nat.le_of_ble_eq_true rfl) (fun v u h => ?_)
    subst h
    refine r_st (st' := [.int (bI (inB b a (nI (999))))]) rfl ?_
    refine r_bif_eq 36 dX5_scan_24 (by decide) (fun hq2 => ?_) (fun hq2 => ?_)
    · refine r_aload_n 0 dX5_scan_36 rfl rfl ?_
      refine r_callV2 (As := []) (st := []) (fun _ => mdW cA m ρ P hs α (badR rf) K V C my cm tx tl sp od no ft) [mdW cA m ρ P hs α rf K V C my cm tx tl sp od no ft] [mdW cA m ρ P hs α rf K V C my cm tx tl sp od no ft] [] (fun _ => [mdW cA m ρ P hs α (badR rf) K V C my cm tx tl sp od no ft]) (fun _ => [mdW cA m ρ P hs α (badR rf) K V C my cm tx tl sp od no ft]) (c_X5_bad l D cA cB m ρ P hs α rf K V C my cm tx tl sp od no ft ) kv_X5_bad ml_X5_125 dX5_scan_37 rfl rfl rfl rfl (segOk [0] rfl rfl rfl rfl) (fun _ => segOk [0] rfl rfl rfl rfl) rfl (Nat.le_of_ble_eq_true rfl) (fun v u h => ?_)
      subst h
      refine r_st (st' := [.int (-2)]) rfl ?_
      exact r_iret (()) dX5_scan_40 (by unfold scnA; rw [if_neg (by rw [inB_nspan hq2, Bool.false_and]; decide)]) (by unfold scnA; rw [if_neg (by rw [inB_nspan hq2, Bool.false_and]; decide)])
    · refine r_iload_n 3 dX5_scan_27 rfl rfl ?_
      refine r_iconst (nI 0) dX5_scan_28 (by decide +kernel) ?_
      refine r_iconst (nI 2) dX5_scan_29 (by decide +kernel) ?_
      refine r_callS2 (As := [.int (x), .int (nI 0), .int (nI 2)]) (st := []) (fun _ => mdW cA m ρ P hs α rf K V C my cm tx tl sp od no ft) [mdW cA m ρ P hs α rf K V C my cm tx tl sp od no ft] [] [mdW cA m ρ P hs α rf K V C my cm tx tl sp od no ft] (fun _ => [mdW cA m ρ P hs α rf K V C my cm tx tl sp od no ft]) (fun _ => []) (c_X5_in0 l D cA cB (x) (nI (2))) ks_X5_in ml_X5_87 dX5_scan_30 rfl rfl (segOk [0] rfl rfl rfl rfl) (fun _ => segOk [0] rfl rfl rfl rfl) rfl (Nat.le_of_ble_eq_true rfl) (fun v u h => ?_)
      subst h
      refine r_st (st' := [.int (bI (wi x (nI (2))))]) rfl ?_
      refine r_bif_ne 41 dX5_scan_33 (by decide) (fun hq3 => ?_) (fun hq3 => ?_)
      · have hsp := inB_span hq1 hq2
        have hok : (spanB a b && wi x (nI 2)) = true := by rw [hsp, hq3]; rfl
        obtain ⟨ha, hab, k, hm, rfl⟩ := span_ex hsp
        refine r_iconst (nI 0) dX5_scan_41 (by decide +kernel) ?_
        refine r_istore ([some (.ref (m 0)), some (.int (a)), some (.int (nI k)), some (.int (x)), some (.int (nI 0)), none, none, none, none]) dX5_scan_42 (Nat.le_of_ble_eq_true rfl) rfl rfl ?_
        refine r_iconst (nI 0) dX5_scan_44 (by decide +kernel) ?_
        refine r_istore ([some (.ref (m 0)), some (.int (a)), some (.int (nI k)), some (.int (x)), some (.int (nI 0)), some (.int (nI 0)), none, none, none]) dX5_scan_45 (Nat.le_of_ble_eq_true rfl) rfl rfl ?_
        refine r_iconst (-1) dX5_scan_47 (by decide +kernel) ?_
        refine r_istore ([some (.ref (m 0)), some (.int (a)), some (.int (nI k)), some (.int (x)), some (.int (nI 0)), some (.int (nI 0)), some (.int (-1)), none, none]) dX5_scan_48 (Nat.le_of_ble_eq_true rfl) rfl rfl ?_
        refine r_iconst (-1) dX5_scan_50 (by decide +kernel) ?_
        refine r_istore ([some (.ref (m 0)), some (.int (a)), some (.int (nI k)), some (.int (x)), some (.int (nI 0)), some (.int (nI 0)), some (.int (-1)), some (.int (-1)), none]) dX5_scan_51 (Nat.le_of_ble_eq_true rfl) rfl rfl ?_
        refine r_iconst (nI 0) dX5_scan_53 (by decide +kernel) ?_
        refine r_istore ([some (.ref (m 0)), some (.int (a)), some (.int (nI k)), some (.int (x)), some (.int (nI 0)), some (.int (nI 0)), some (.int (-1)), some (.int (-1)), some (.int (nI 0))]) dX5_scan_54 (Nat.le_of_ble_eq_true rfl) rfl rfl ?_
        exact lp_X5_scan l D cA cB m ρ P hs α rf K V C my cm tx tl sp od no ft n hsz h3 hs2 a k hm ha hab x hok X sz (n + 1) 0 0 0 (-1) (-1) rfl rfl rfl rfl (by omega) (by omega)
      · refine r_aload_n 0 dX5_scan_36 rfl rfl ?_
        refine r_callV2 (As := []) (st := []) (fun _ => mdW cA m ρ P hs α (badR rf) K V C my cm tx tl sp od no ft) [mdW cA m ρ P hs α rf K V C my cm tx tl sp od no ft] [mdW cA m ρ P hs α rf K V C my cm tx tl sp od no ft] [] (fun _ => [mdW cA m ρ P hs α (badR rf) K V C my cm tx tl sp od no ft]) (fun _ => [mdW cA m ρ P hs α (badR rf) K V C my cm tx tl sp od no ft]) (c_X5_bad l D cA cB m ρ P hs α rf K V C my cm tx tl sp od no ft ) kv_X5_bad ml_X5_125 dX5_scan_37 rfl rfl rfl rfl (segOk [0] rfl rfl rfl rfl) (fun _ => segOk [0] rfl rfl rfl rfl) rfl (Nat.le_of_ble_eq_true rfl) (fun v u h => ?_)
        subst h
        refine r_st (st' := [.int (-2)]) rfl ?_
        exact r_iret (()) dX5_scan_40 (by unfold scnA; rw [if_neg (by rw [hq3, Bool.and_false]; decide)]) (by unfold scnA; rw [if_neg (by rw [hq3, Bool.and_false]; decide)])

set_option maxRecDepth 100000 in
set_option maxHeartbeats 4000000 in
theorem c_X5_index (l : Launch) (D : va_G) (cA cB : ClassId) (m : Nat → Nat) (ρ P : Nat → Int32) (hs : Int32) (α rf K V C : Nat → Int32) (my cm : Int32) (tx : Nat → Int32) (tl sp : Int32) (od : Nat → Int32) (no ft : Int32) (n : Nat) (hsz : ρ 0 = nI n) (h3 : n = 16 ∨ n = 32 ∨ n = 64) (g : Int32) : Mt l D (tyS cA cB) yX5_index cX5_index 2 (some .int) ({ frames := 2, cells := 0, slots := 0, locals := 42 } : Room) [.ref (m 0), .int (g)] (mdW cA m ρ P hs α rf K V C my cm tx tl sp od no ft) Unit (fun v _ => v = some (.int (idxA ρ rf n g).1)) (fun _ => mdW cA m ρ P hs α ((idxA ρ rf n g).2) K V C my cm tx tl sp od no ft) 0 0 := by
  refine mt_in RX5 ([some (.ref (m 0)), some (.int (g))]) rfl (by decide +kernel) rfl (Nat.le_of_ble_eq_true rfl) rfl rfl (fun X sz => ?_)
  have hb := n16 h3
  refine r_aload_n 0 dX5_index_0 rfl rfl ?_
  refine r_iconst (nI 0) dX5_index_1 (by decide +kernel) ?_
  refine r_put 0 (mdW cA m ρ P hs α rf K V C my cm tx tl sp od no ft) fk_X5_37 dX5_index_2 rfl rfl rfl rfl (Nat.le_of_ble_eq_true rfl) rfl ?_
  refine r_iload_n 1 dX5_index_5 rfl rfl ?_
  refine r_iconst (nI 0) dX5_index_6 (by decide +kernel) ?_
  refine r_aload_n 0 dX5_index_7 rfl rfl ?_
  refine r_get 0 fk_X5_7 dX5_index_8 rfl rfl ?_
  refine r_iconst (nI 0) dX5_index_11 (by decide +kernel) ?_
  refine r_iald 1 (0) dX5_index_12 rfl rfl rfl (by omega) (Nat.le_of_ble_eq_true rfl) ?_
  refine r_top (y := nI (n)) (hsz) ?_
  refine r_iconst (nI 4) dX5_index_13 (by decide +kernel) ?_
  refine r_nidiv (by omega) (by omega) (by omega) dX5_index_14 ?_
  refine r_iconst (nI 1) dX5_index_15 (by decide +kernel) ?_
  refine r_nisub (by omega) dX5_index_16 ?_
  refine r_callS2 (As := [.int (g), .int (nI 0), .int (nI ((n / 4) - 1))]) (st := []) (fun _ => mdW cA m ρ P hs α rf K V C my cm tx tl sp od no ft) [mdW cA m ρ P hs α rf K V C my cm tx tl sp od no ft] [] [mdW cA m ρ P hs α rf K V C my cm tx tl sp od no ft] (fun _ => [mdW cA m ρ P hs α rf K V C my cm tx tl sp od no ft]) (fun _ => []) (c_X5_in0 l D cA cB (g) (nI ((n / 4) - 1))) ks_X5_in ml_X5_87 dX5_index_17 rfl rfl (segOk [0] rfl rfl rfl rfl) (fun _ => segOk [0] rfl rfl rfl rfl) rfl (Nat.le_of_ble_eq_true rfl) (fun v u h => ?_)
  subst h
  refine r_st (st' := [.int (bI (wi g (nI ((n / 4) - 1))))]) rfl ?_
  refine r_bif_eq 31 dX5_index_20 (by decide) (fun hq1 => ?_) (fun hq1 => ?_)
  · refine r_aload_n 0 dX5_index_31 rfl rfl ?_
    refine r_callV2 (As := []) (st := []) (fun _ => mdW cA m ρ P hs α (badR rf) K V C my cm tx tl sp od no ft) [mdW cA m ρ P hs α rf K V C my cm tx tl sp od no ft] [mdW cA m ρ P hs α rf K V C my cm tx tl sp od no ft] [] (fun _ => [mdW cA m ρ P hs α (badR rf) K V C my cm tx tl sp od no ft]) (fun _ => [mdW cA m ρ P hs α (badR rf) K V C my cm tx tl sp od no ft]) (c_X5_bad l D cA cB m ρ P hs α rf K V C my cm tx tl sp od no ft ) kv_X5_bad ml_X5_125 dX5_index_32 rfl rfl rfl rfl (segOk [0] rfl rfl rfl rfl) (fun _ => segOk [0] rfl rfl rfl rfl) rfl (Nat.le_of_ble_eq_true rfl) (fun v u h => ?_)
    subst h
    refine r_st (st' := [.int (-2)]) rfl ?_
    exact r_iret (()) dX5_index_35 (by unfold idxA; rw [if_neg (ne_t hq1)]) (by unfold idxA; rw [if_neg (ne_t hq1)])
  · obtain ⟨i, hi, rfl⟩ := wi_ex (by omega) hq1
    refine r_aload_n 0 dX5_index_23 rfl rfl ?_
    refine r_iload_n 1 dX5_index_24 rfl rfl ?_
    refine r_callV2 (As := [.int (nI i)]) (st := []) (fun _ => mdW cA m ρ P hs α rf K V C my cm tx tl sp od no ft) [mdW cA m ρ P hs α rf K V C my cm tx tl sp od no ft] [mdW cA m ρ P hs α rf K V C my cm tx tl sp od no ft] [] (fun _ => [mdW cA m ρ P hs α rf K V C my cm tx tl sp od no ft]) (fun _ => [mdW cA m ρ P hs α rf K V C my cm tx tl sp od no ft]) (c_X5_leastOf l D cA cB m ρ P hs α rf K V C my cm tx tl sp od no ft (i) (by omega)) kv_X5_leastOf ml_X5_131 dX5_index_25 rfl rfl rfl rfl (segOk [0] rfl rfl rfl rfl) (fun _ => segOk [0] rfl rfl rfl rfl) rfl (Nat.le_of_ble_eq_true rfl) (fun v u h => ?_)
    subst h
    refine r_st (st' := [.int (lstF ρ i)]) rfl ?_
    refine r_goto 35 dX5_index_28 (by decide) ?_
    exact r_iret (()) dX5_index_35 (by unfold idxA; rw [if_pos hq1, nI_clamp (by omega)]) (by unfold idxA; rw [if_pos hq1])

set_option maxRecDepth 100000 in
set_option maxHeartbeats 4000000 in
theorem c_X5_window (l : Launch) (D : va_G) (cA cB : ClassId) (m : Nat → Nat) (ρ P : Nat → Int32) (hs : Int32) (α rf K V C : Nat → Int32) (my cm : Int32) (tx : Nat → Int32) (tl sp : Int32) (od : Nat → Int32) (no ft : Int32) (n : Nat) (hsz : ρ 0 = nI n) (h3 : n = 16 ∨ n = 32 ∨ n = 64) (i j x : Int32) : Mt l D (tyS cA cB) yX5_window cX5_window 4 (some .int) ({ frames := 2, cells := 0, slots := 0, locals := 42 } : Room) [.ref (m 0), .int (i), .int (j), .int (x)] (mdW cA m ρ P hs α rf K V C my cm tx tl sp od no ft) Unit (fun v _ => v = some (.int (winA ρ rf n i j x).1)) (fun _ => mdW cA m ρ P hs α ((winA ρ rf n i j x).2) K V C my cm tx tl sp od no ft) 0 0 := by
  refine mt_in RX5 ([some (.ref (m 0)), some (.int (i)), some (.int (j)), some (.int (x))]) rfl (by decide +kernel) rfl (Nat.le_of_ble_eq_true rfl) rfl rfl (fun X sz => ?_)
  have hb := n16 h3
  refine r_aload_n 0 dX5_window_0 rfl rfl ?_
  refine r_iconst (nI 0) dX5_window_1 (by decide +kernel) ?_
  refine r_put 0 (mdW cA m ρ P hs α rf K V C my cm tx tl sp od no ft) fk_X5_37 dX5_window_2 rfl rfl rfl rfl (Nat.le_of_ble_eq_true rfl) rfl ?_
  refine r_iload_n 1 dX5_window_5 rfl rfl ?_
  refine r_iconst (nI 0) dX5_window_6 (by decide +kernel) ?_
  refine r_aload_n 0 dX5_window_7 rfl rfl ?_
  refine r_callV2 (As := []) (st := [.int (nI 0), .int (i)]) (fun _ => mdW cA m ρ P hs α rf K V C my cm tx tl sp od no ft) [mdW cA m ρ P hs α rf K V C my cm tx tl sp od no ft] [mdW cA m ρ P hs α rf K V C my cm tx tl sp od no ft] [] (fun _ => [mdW cA m ρ P hs α rf K V C my cm tx tl sp od no ft]) (fun _ => [mdW cA m ρ P hs α rf K V C my cm tx tl sp od no ft]) (c_X5_top l D cA cB m ρ P hs α rf K V C my cm tx tl sp od no ft n (hsz) h3 ) kv_X5_top ml_X5_49 dX5_window_8 rfl rfl rfl rfl (segOk [0] rfl rfl rfl rfl) (fun _ => segOk [0] rfl rfl rfl rfl) rfl (Nat.le_of_ble_eq_true rfl) (fun v u h => ?_)
  subst h
  refine r_st (st' := [.int (nI (topN n)), .int (nI 0), .int (i)]) rfl ?_
  refine r_callS2 (As := [.int (i), .int (nI 0), .int (nI (topN n))]) (st := []) (fun _ => mdW cA m ρ P hs α rf K V C my cm tx tl sp od no ft) [mdW cA m ρ P hs α rf K V C my cm tx tl sp od no ft] [] [mdW cA m ρ P hs α rf K V C my cm tx tl sp od no ft] (fun _ => [mdW cA m ρ P hs α rf K V C my cm tx tl sp od no ft]) (fun _ => []) (c_X5_in0 l D cA cB (i) (nI (topN n))) ks_X5_in ml_X5_87 dX5_window_11 rfl rfl (segOk [0] rfl rfl rfl rfl) (fun _ => segOk [0] rfl rfl rfl rfl) rfl (Nat.le_of_ble_eq_true rfl) (fun v u h => ?_)
  subst h
  refine r_st (st' := [.int (bI (wi i (nI (topN n))))]) rfl ?_
  refine r_bif_eq 47 dX5_window_14 (by decide) (fun hq1 => ?_) (fun hq1 => ?_)
  · refine r_aload_n 0 dX5_window_47 rfl rfl ?_
    refine r_callV2 (As := []) (st := []) (fun _ => mdW cA m ρ P hs α (badR rf) K V C my cm tx tl sp od no ft) [mdW cA m ρ P hs α rf K V C my cm tx tl sp od no ft] [mdW cA m ρ P hs α rf K V C my cm tx tl sp od no ft] [] (fun _ => [mdW cA m ρ P hs α (badR rf) K V C my cm tx tl sp od no ft]) (fun _ => [mdW cA m ρ P hs α (badR rf) K V C my cm tx tl sp od no ft]) (c_X5_bad l D cA cB m ρ P hs α rf K V C my cm tx tl sp od no ft ) kv_X5_bad ml_X5_125 dX5_window_48 rfl rfl rfl rfl (segOk [0] rfl rfl rfl rfl) (fun _ => segOk [0] rfl rfl rfl rfl) rfl (Nat.le_of_ble_eq_true rfl) (fun v u h => ?_)
    subst h
    refine r_st (st' := [.int (-2)]) rfl ?_
    exact r_iret (()) dX5_window_51 (by unfold winA; rw [if_neg (by rw [hq1, Bool.false_and]; decide)]) (by unfold winA; rw [if_neg (by rw [hq1, Bool.false_and]; decide)])
  · have hwi := hq1
    obtain ⟨i2, hi, rfl⟩ := wi_ex (by have := top_le (sz := n); omega) hq1
    have ht := top_le (sz := n)
    have hp := pow4 i2 (by omega)
    have hcl : (nI i2).toNatClampNeg = i2 := nI_clamp (by omega)
    have hpp : 0 < 4 * 2 ^ i2 := Nat.mul_pos (by decide) (Nat.pow_pos (by decide))
    have hdv := Nat.div_le_self n (4 * 2 ^ i2)
    have hd1 := pow_div h3 hi
    refine r_iload_n 2 dX5_window_17 rfl rfl ?_
    refine r_iconst (nI 0) dX5_window_18 (by decide +kernel) ?_
    refine r_aload_n 0 dX5_window_19 rfl rfl ?_
    refine r_get 0 fk_X5_7 dX5_window_20 rfl rfl ?_
    refine r_iconst (nI 0) dX5_window_23 (by decide +kernel) ?_
    refine r_iald 1 (0) dX5_window_24 rfl rfl rfl (by omega) (Nat.le_of_ble_eq_true rfl) ?_
    refine r_top (y := nI (n)) (hsz) ?_
    refine r_iload_n 1 dX5_window_25 rfl rfl ?_
    refine r_callS2 (As := [.int (nI i2)]) (st := [.int (nI n), .int (nI 0), .int (j)]) (fun _ => mdW cA m ρ P hs α rf K V C my cm tx tl sp od no ft) [mdW cA m ρ P hs α rf K V C my cm tx tl sp od no ft] [] [mdW cA m ρ P hs α rf K V C my cm tx tl sp od no ft] (fun _ => [mdW cA m ρ P hs α rf K V C my cm tx tl sp od no ft]) (fun _ => []) (c_X5_wide l D cA cB (i2) (by omega)) ks_X5_wide ml_X5_45 dX5_window_26 rfl rfl (segOk [0] rfl rfl rfl rfl) (fun _ => segOk [0] rfl rfl rfl rfl) rfl (Nat.le_of_ble_eq_true rfl) (fun v u h => ?_)
    subst h
    refine r_st (st' := [.int (nI (4 * 2 ^ i2)), .int (nI n), .int (nI 0), .int (j)]) rfl ?_
    refine r_nidiv (by omega) (by omega) (by omega) dX5_window_29 ?_
    refine r_iconst (nI 1) dX5_window_30 (by decide +kernel) ?_
    refine r_nisub (by omega) dX5_window_31 ?_
    refine r_callS2 (As := [.int (j), .int (nI 0), .int (nI ((n / (4 * 2 ^ i2)) - 1))]) (st := []) (fun _ => mdW cA m ρ P hs α rf K V C my cm tx tl sp od no ft) [mdW cA m ρ P hs α rf K V C my cm tx tl sp od no ft] [] [mdW cA m ρ P hs α rf K V C my cm tx tl sp od no ft] (fun _ => [mdW cA m ρ P hs α rf K V C my cm tx tl sp od no ft]) (fun _ => []) (c_X5_in0 l D cA cB (j) (nI ((n / (4 * 2 ^ i2)) - 1))) ks_X5_in ml_X5_87 dX5_window_32 rfl rfl (segOk [0] rfl rfl rfl rfl) (fun _ => segOk [0] rfl rfl rfl rfl) rfl (Nat.le_of_ble_eq_true rfl) (fun v u h => ?_)
    subst h
    refine r_st (st' := [.int (bI (wi j (nI ((n / (4 * 2 ^ i2)) - 1))))]) rfl ?_
    refine r_bif_eq 47 dX5_window_35 (by decide) (fun hq2 => ?_) (fun hq2 => ?_)
    · refine r_aload_n 0 dX5_window_47 rfl rfl ?_
      refine r_callV2 (As := []) (st := []) (fun _ => mdW cA m ρ P hs α (badR rf) K V C my cm tx tl sp od no ft) [mdW cA m ρ P hs α rf K V C my cm tx tl sp od no ft] [mdW cA m ρ P hs α rf K V C my cm tx tl sp od no ft] [] (fun _ => [mdW cA m ρ P hs α (badR rf) K V C my cm tx tl sp od no ft]) (fun _ => [mdW cA m ρ P hs α (badR rf) K V C my cm tx tl sp od no ft]) (c_X5_bad l D cA cB m ρ P hs α rf K V C my cm tx tl sp od no ft ) kv_X5_bad ml_X5_125 dX5_window_48 rfl rfl rfl rfl (segOk [0] rfl rfl rfl rfl) (fun _ => segOk [0] rfl rfl rfl rfl) rfl (Nat.le_of_ble_eq_true rfl) (fun v u h => ?_)
      subst h
      refine r_st (st' := [.int (-2)]) rfl ?_
      exact r_iret (()) dX5_window_51 (by unfold winA; by_cases hz : (wi (nI i2) (nI (topN n)) && wi x (nI 2)) = true; rw [if_pos hz, if_neg (by rw [hcl, hq2]; decide)]; rw [if_neg hz]) (by unfold winA; by_cases hz : (wi (nI i2) (nI (topN n)) && wi x (nI 2)) = true; rw [if_pos hz, if_neg (by rw [hcl, hq2]; decide)]; rw [if_neg hz])
    · have hok2 : wi j (nI (n / (4 * 2 ^ (nI i2).toNatClampNeg) - 1)) = true := by rw [hcl]; exact hq2
      refine r_iload_n 3 dX5_window_38 rfl rfl ?_
      refine r_iconst (nI 0) dX5_window_39 (by decide +kernel) ?_
      refine r_iconst (nI 2) dX5_window_40 (by decide +kernel) ?_
      refine r_callS2 (As := [.int (x), .int (nI 0), .int (nI 2)]) (st := []) (fun _ => mdW cA m ρ P hs α rf K V C my cm tx tl sp od no ft) [mdW cA m ρ P hs α rf K V C my cm tx tl sp od no ft] [] [mdW cA m ρ P hs α rf K V C my cm tx tl sp od no ft] (fun _ => [mdW cA m ρ P hs α rf K V C my cm tx tl sp od no ft]) (fun _ => []) (c_X5_in0 l D cA cB (x) (nI (2))) ks_X5_in ml_X5_87 dX5_window_41 rfl rfl (segOk [0] rfl rfl rfl rfl) (fun _ => segOk [0] rfl rfl rfl rfl) rfl (Nat.le_of_ble_eq_true rfl) (fun v u h => ?_)
      subst h
      refine r_st (st' := [.int (bI (wi x (nI (2))))]) rfl ?_
      refine r_bif_ne 52 dX5_window_44 (by decide) (fun hq3 => ?_) (fun hq3 => ?_)
      · have hok : (wi (nI i2) (nI (topN n)) && wi x (nI 2)) = true := by rw [hq1, hq3]; rfl
        obtain ⟨j2, hj, rfl⟩ := wi_ex (by omega) hq2
        have hjl := idx_lt h3 hi hj
        have hcj : (nI j2).toNatClampNeg = j2 := nI_clamp (by omega)
        refine r_iload_n 3 dX5_window_52 rfl rfl ?_
        refine r_if_ne 73 dX5_window_53 (by decide) (fun hq4 => ?_) (fun hq4 => ?_)
        · refine r_iload_n 3 dX5_window_73 rfl rfl ?_
          refine r_iconst (nI 1) dX5_window_74 (by decide +kernel) ?_
          refine r_icmp_ne 86 dX5_window_75 (by decide) (fun hq5 => ?_) (fun hq5 => ?_)
          · refine r_aload_n 0 dX5_window_86 rfl rfl ?_
            refine r_iload_n 1 dX5_window_87 rfl rfl ?_
            refine r_callV2 (As := [.int (nI i2)]) (st := []) (fun _ => mdW cA m ρ P hs α rf K V C my cm tx tl sp od no ft) [mdW cA m ρ P hs α rf K V C my cm tx tl sp od no ft] [mdW cA m ρ P hs α rf K V C my cm tx tl sp od no ft] [] (fun _ => [mdW cA m ρ P hs α rf K V C my cm tx tl sp od no ft]) (fun _ => [mdW cA m ρ P hs α rf K V C my cm tx tl sp od no ft]) (c_X5_least l D cA cB m ρ P hs α rf K V C my cm tx tl sp od no ft n (hsz) h3 (i2) (by omega)) kv_X5_least ml_X5_84 dX5_window_88 rfl rfl rfl rfl (segOk [0] rfl rfl rfl rfl) (fun _ => segOk [0] rfl rfl rfl rfl) rfl (Nat.le_of_ble_eq_true rfl) (fun v u h => ?_)
            subst h
            refine r_st (st' := [.int (nI (leastN n i2))]) rfl ?_
            exact r_iret (()) dX5_window_91 (by unfold winA; rw [if_pos hok, if_pos hok2]; dsimp only; rw [if_neg hq4, if_neg hq5, hcl]) (by unfold winA; rw [if_pos hok, if_pos hok2])
          · refine r_aload_n 0 dX5_window_78 rfl rfl ?_
            refine r_iload_n 1 dX5_window_79 rfl rfl ?_
            refine r_callV2 (As := [.int (nI i2)]) (st := []) (fun _ => mdW cA m ρ P hs α rf K V C my cm tx tl sp od no ft) [mdW cA m ρ P hs α rf K V C my cm tx tl sp od no ft] [mdW cA m ρ P hs α rf K V C my cm tx tl sp od no ft] [] (fun _ => [mdW cA m ρ P hs α rf K V C my cm tx tl sp od no ft]) (fun _ => [mdW cA m ρ P hs α rf K V C my cm tx tl sp od no ft]) (c_X5_most l D cA cB m ρ P hs α rf K V C my cm tx tl sp od no ft n (hsz) h3 (i2) (by omega)) kv_X5_most ml_X5_77 dX5_window_80 rfl rfl rfl rfl (segOk [0] rfl rfl rfl rfl) (fun _ => segOk [0] rfl rfl rfl rfl) rfl (Nat.le_of_ble_eq_true rfl) (fun v u h => ?_)
            subst h
            refine r_st (st' := [.int (nI (mostN n i2))]) rfl ?_
            refine r_goto 91 dX5_window_83 (by decide) ?_
            exact r_iret (()) dX5_window_91 (by unfold winA; rw [if_pos hok, if_pos hok2]; dsimp only; rw [if_neg hq4, if_pos hq5, hcl]) (by unfold winA; rw [if_pos hok, if_pos hok2])
        · refine r_aload_n 0 dX5_window_56 rfl rfl ?_
          refine r_iload_n 2 dX5_window_57 rfl rfl ?_
          refine r_iload_n 1 dX5_window_58 rfl rfl ?_
          refine r_callS2 (As := [.int (nI i2)]) (st := [.int (nI j2), .ref (m 0)]) (fun _ => mdW cA m ρ P hs α rf K V C my cm tx tl sp od no ft) [mdW cA m ρ P hs α rf K V C my cm tx tl sp od no ft] [] [mdW cA m ρ P hs α rf K V C my cm tx tl sp od no ft] (fun _ => [mdW cA m ρ P hs α rf K V C my cm tx tl sp od no ft]) (fun _ => []) (c_X5_wide l D cA cB (i2) (by omega)) ks_X5_wide ml_X5_45 dX5_window_59 rfl rfl (segOk [0] rfl rfl rfl rfl) (fun _ => segOk [0] rfl rfl rfl rfl) rfl (Nat.le_of_ble_eq_true rfl) (fun v u h => ?_)
          subst h
          refine r_st (st' := [.int (nI (4 * 2 ^ i2)), .int (nI j2), .ref (m 0)]) rfl ?_
          refine r_nimul dX5_window_62 ?_
          refine r_iload_n 1 dX5_window_63 rfl rfl ?_
          refine r_callS2 (As := [.int (nI i2)]) (st := [.int (nI (j2 * (4 * 2 ^ i2))), .ref (m 0)]) (fun _ => mdW cA m ρ P hs α rf K V C my cm tx tl sp od no ft) [mdW cA m ρ P hs α rf K V C my cm tx tl sp od no ft] [] [mdW cA m ρ P hs α rf K V C my cm tx tl sp od no ft] (fun _ => [mdW cA m ρ P hs α rf K V C my cm tx tl sp od no ft]) (fun _ => []) (c_X5_wide l D cA cB (i2) (by omega)) ks_X5_wide ml_X5_45 dX5_window_64 rfl rfl (segOk [0] rfl rfl rfl rfl) (fun _ => segOk [0] rfl rfl rfl rfl) rfl (Nat.le_of_ble_eq_true rfl) (fun v u h => ?_)
          subst h
          refine r_st (st' := [.int (nI (4 * 2 ^ i2)), .int (nI (j2 * (4 * 2 ^ i2))), .ref (m 0)]) rfl ?_
          refine r_callV2 (As := [.int (nI (j2 * (4 * 2 ^ i2))), .int (nI (4 * 2 ^ i2))]) (st := []) (fun _ => mdW cA m ρ P hs α rf K V C my cm tx tl sp od no ft) [mdW cA m ρ P hs α rf K V C my cm tx tl sp od no ft] [mdW cA m ρ P hs α rf K V C my cm tx tl sp od no ft] [] (fun _ => [mdW cA m ρ P hs α rf K V C my cm tx tl sp od no ft]) (fun _ => [mdW cA m ρ P hs α rf K V C my cm tx tl sp od no ft]) (c_X5_keysIn l D cA cB m ρ P hs α rf K V C my cm tx tl sp od no ft (j2 * (4 * 2 ^ i2)) (4 * 2 ^ i2) (hjl)) kv_X5_keysIn ml_X5_74 dX5_window_67 rfl rfl rfl rfl (segOk [0] rfl rfl rfl rfl) (fun _ => segOk [0] rfl rfl rfl rfl) rfl (Nat.le_of_ble_eq_true rfl) (fun v u h => ?_)
          subst h
          refine r_st (st' := [.int (nI (cnt ρ (j2 * (4 * 2 ^ i2)) (4 * 2 ^ i2)))]) rfl ?_
          refine r_goto 91 dX5_window_70 (by decide) ?_
          exact r_iret (()) dX5_window_91 (by unfold winA; rw [if_pos hok, if_pos hok2]; dsimp only; rw [if_pos hq4, hcl, hcj]) (by unfold winA; rw [if_pos hok, if_pos hok2])
      · refine r_aload_n 0 dX5_window_47 rfl rfl ?_
        refine r_callV2 (As := []) (st := []) (fun _ => mdW cA m ρ P hs α (badR rf) K V C my cm tx tl sp od no ft) [mdW cA m ρ P hs α rf K V C my cm tx tl sp od no ft] [mdW cA m ρ P hs α rf K V C my cm tx tl sp od no ft] [] (fun _ => [mdW cA m ρ P hs α (badR rf) K V C my cm tx tl sp od no ft]) (fun _ => [mdW cA m ρ P hs α (badR rf) K V C my cm tx tl sp od no ft]) (c_X5_bad l D cA cB m ρ P hs α rf K V C my cm tx tl sp od no ft ) kv_X5_bad ml_X5_125 dX5_window_48 rfl rfl rfl rfl (segOk [0] rfl rfl rfl rfl) (fun _ => segOk [0] rfl rfl rfl rfl) rfl (Nat.le_of_ble_eq_true rfl) (fun v u h => ?_)
        subst h
        refine r_st (st' := [.int (-2)]) rfl ?_
        exact r_iret (()) dX5_window_51 (by unfold winA; rw [if_neg (by rw [hq3, Bool.and_false]; decide)]) (by unfold winA; rw [if_neg (by rw [hq3, Bool.and_false]; decide)])

set_option maxRecDepth 100000 in
set_option maxHeartbeats 4000000 in
theorem c_X5_countOf (l : Launch) (D : va_G) (cA cB : ClassId) (m : Nat → Nat) (ρ P : Nat → Int32) (hs : Int32) (α rf K V C : Nat → Int32) (my cm : Int32) (tx : Nat → Int32) (tl sp : Int32) (od : Nat → Int32) (no ft : Int32) (n : Nat) (hsz : ρ 0 = nI n) (h3 : n = 16 ∨ n = 32 ∨ n = 64) (x : Nat) (hx : x ≤ 6) : Mt l D (tyS cA cB) yX5_countOf cX5_countOf 2 (some .int) ({ frames := 1, cells := 0, slots := 0, locals := 24 } : Room) [.ref (m 0), .int (nI x)] (mdW cA m ρ P hs α rf K V C my cm tx tl sp od no ft) Unit (fun v _ => v = some (.int (countF ρ n x))) (fun _ => mdW cA m ρ P hs α rf K V C my cm tx tl sp od no ft) 0 0 := by
  refine mt_in RX5 ([some (.ref (m 0)), some (.int (nI x))]) rfl (by decide +kernel) rfl (Nat.le_of_ble_eq_true rfl) rfl rfl (fun X sz => ?_)
  have hb := n16 h3
  refine r_iload_n 1 dX5_countOf_0 rfl rfl ?_
  refine r_if_ne 13 dX5_countOf_1 (by decide) (fun hq1 => ?_) (fun hq1 => ?_)
  · refine r_iload_n 1 dX5_countOf_13 rfl rfl ?_
    refine r_iconst (nI 1) dX5_countOf_14 (by decide +kernel) ?_
    refine r_ncmp_ne 32 (by omega) (by omega) dX5_countOf_15 (by decide) (fun hq2 => ?_) (fun hq2 => ?_)
    · have hx0 : 0 < x := by rcases Nat.eq_zero_or_pos x with q | q; exact absurd (by rw [q]; rfl) hq1; exact q
      refine r_aload_n 0 dX5_countOf_32 rfl rfl ?_
      refine r_get 0 fk_X5_7 dX5_countOf_33 rfl rfl ?_
      refine r_iload_n 1 dX5_countOf_36 rfl rfl ?_
      refine r_iconst (nI 1) dX5_countOf_37 (by decide +kernel) ?_
      refine r_nisub (by omega) dX5_countOf_38 ?_
      refine r_iald 1 (x - 1) dX5_countOf_39 rfl rfl rfl (by omega) (Nat.le_of_ble_eq_true rfl) ?_
      exact r_iret (()) dX5_countOf_40 (by unfold countF; rw [if_neg (fun q => hq1 ((nI_z (by omega)).mpr q)), if_neg hq2]) (rfl)
    · refine r_aload_n 0 dX5_countOf_18 rfl rfl ?_
      refine r_iconst (nI 0) dX5_countOf_19 (by decide +kernel) ?_
      refine r_aload_n 0 dX5_countOf_20 rfl rfl ?_
      refine r_get 0 fk_X5_7 dX5_countOf_21 rfl rfl ?_
      refine r_iconst (nI 0) dX5_countOf_24 (by decide +kernel) ?_
      refine r_iald 1 (0) dX5_countOf_25 rfl rfl rfl (by omega) (Nat.le_of_ble_eq_true rfl) ?_
      refine r_top (y := nI n) hsz ?_
      refine r_callV2 (As := [.int (nI 0), .int (nI n)]) (st := []) (fun _ => mdW cA m ρ P hs α rf K V C my cm tx tl sp od no ft) [mdW cA m ρ P hs α rf K V C my cm tx tl sp od no ft] [mdW cA m ρ P hs α rf K V C my cm tx tl sp od no ft] [] (fun _ => [mdW cA m ρ P hs α rf K V C my cm tx tl sp od no ft]) (fun _ => [mdW cA m ρ P hs α rf K V C my cm tx tl sp od no ft]) (c_X5_keysIn l D cA cB m ρ P hs α rf K V C my cm tx tl sp od no ft (0) (n) (by omega)) kv_X5_keysIn ml_X5_74 dX5_countOf_26 rfl rfl rfl rfl (segOk [0] rfl rfl rfl rfl) (fun _ => segOk [0] rfl rfl rfl rfl) rfl (Nat.le_of_ble_eq_true rfl) (fun v u h => ?_)
      subst h
      refine r_st (st' := [.int (nI (cnt ρ 0 n))]) rfl ?_
      refine r_goto 40 dX5_countOf_29 (by decide) ?_
      exact r_iret (()) dX5_countOf_40 (by unfold countF; rw [if_neg (fun q => hq1 ((nI_z (by omega)).mpr q)), if_pos hq2]) (rfl)
  · refine r_aload_n 0 dX5_countOf_4 rfl rfl ?_
    refine r_get 0 fk_X5_7 dX5_countOf_5 rfl rfl ?_
    refine r_iconst (nI 0) dX5_countOf_8 (by decide +kernel) ?_
    refine r_iald 1 (0) dX5_countOf_9 rfl rfl rfl (by omega) (Nat.le_of_ble_eq_true rfl) ?_
    refine r_goto 40 dX5_countOf_10 (by decide) ?_
    exact r_iret (()) dX5_countOf_40 (by unfold countF; rw [if_pos ((nI_z (by omega)).mp hq1)]) (rfl)

set_option maxRecDepth 100000 in
set_option maxHeartbeats 4000000 in
theorem c_X5_count (l : Launch) (D : va_G) (cA cB : ClassId) (m : Nat → Nat) (ρ P : Nat → Int32) (hs : Int32) (α rf K V C : Nat → Int32) (my cm : Int32) (tx : Nat → Int32) (tl sp : Int32) (od : Nat → Int32) (no ft : Int32) (n : Nat) (hsz : ρ 0 = nI n) (h3 : n = 16 ∨ n = 32 ∨ n = 64) (x : Int32) : Mt l D (tyS cA cB) yX5_count cX5_count 2 (some .int) ({ frames := 2, cells := 0, slots := 0, locals := 45 } : Room) [.ref (m 0), .int (x)] (mdW cA m ρ P hs α rf K V C my cm tx tl sp od no ft) Unit (fun v _ => v = some (.int (cntA ρ rf n x).1)) (fun _ => mdW cA m ρ P hs α ((cntA ρ rf n x).2) K V C my cm tx tl sp od no ft) 0 0 := by
  refine mt_in RX5 ([some (.ref (m 0)), some (.int (x))]) rfl (by decide +kernel) rfl (Nat.le_of_ble_eq_true rfl) rfl rfl (fun X sz => ?_)
  have hb := n16 h3
  refine r_aload_n 0 dX5_count_0 rfl rfl ?_
  refine r_iconst (nI 0) dX5_count_1 (by decide +kernel) ?_
  refine r_put 0 (mdW cA m ρ P hs α rf K V C my cm tx tl sp od no ft) fk_X5_37 dX5_count_2 rfl rfl rfl rfl (Nat.le_of_ble_eq_true rfl) rfl ?_
  refine r_iload_n 1 dX5_count_5 rfl rfl ?_
  refine r_iconst (nI 0) dX5_count_6 (by decide +kernel) ?_
  refine r_bipush (nI 6) dX5_count_7 (by decide +kernel) ?_
  refine r_callS2 (As := [.int (x), .int (nI 0), .int (nI 6)]) (st := []) (fun _ => mdW cA m ρ P hs α rf K V C my cm tx tl sp od no ft) [mdW cA m ρ P hs α rf K V C my cm tx tl sp od no ft] [] [mdW cA m ρ P hs α rf K V C my cm tx tl sp od no ft] (fun _ => [mdW cA m ρ P hs α rf K V C my cm tx tl sp od no ft]) (fun _ => []) (c_X5_in0 l D cA cB (x) (nI (6))) ks_X5_in ml_X5_87 dX5_count_9 rfl rfl (segOk [0] rfl rfl rfl rfl) (fun _ => segOk [0] rfl rfl rfl rfl) rfl (Nat.le_of_ble_eq_true rfl) (fun v u h => ?_)
  subst h
  refine r_st (st' := [.int (bI (wi x (nI (6))))]) rfl ?_
  refine r_bif_eq 23 dX5_count_12 (by decide) (fun hq1 => ?_) (fun hq1 => ?_)
  · refine r_aload_n 0 dX5_count_23 rfl rfl ?_
    refine r_callV2 (As := []) (st := []) (fun _ => mdW cA m ρ P hs α (badR rf) K V C my cm tx tl sp od no ft) [mdW cA m ρ P hs α rf K V C my cm tx tl sp od no ft] [mdW cA m ρ P hs α rf K V C my cm tx tl sp od no ft] [] (fun _ => [mdW cA m ρ P hs α (badR rf) K V C my cm tx tl sp od no ft]) (fun _ => [mdW cA m ρ P hs α (badR rf) K V C my cm tx tl sp od no ft]) (c_X5_bad l D cA cB m ρ P hs α rf K V C my cm tx tl sp od no ft ) kv_X5_bad ml_X5_125 dX5_count_24 rfl rfl rfl rfl (segOk [0] rfl rfl rfl rfl) (fun _ => segOk [0] rfl rfl rfl rfl) rfl (Nat.le_of_ble_eq_true rfl) (fun v u h => ?_)
    subst h
    refine r_st (st' := [.int (-2)]) rfl ?_
    exact r_iret (()) dX5_count_27 (by unfold cntA; rw [if_neg (ne_t hq1)]) (by unfold cntA; rw [if_neg (ne_t hq1)])
  · obtain ⟨i, hi, rfl⟩ := wi_ex (by decide) hq1
    refine r_aload_n 0 dX5_count_15 rfl rfl ?_
    refine r_iload_n 1 dX5_count_16 rfl rfl ?_
    refine r_callV2 (As := [.int (nI i)]) (st := []) (fun _ => mdW cA m ρ P hs α rf K V C my cm tx tl sp od no ft) [mdW cA m ρ P hs α rf K V C my cm tx tl sp od no ft] [mdW cA m ρ P hs α rf K V C my cm tx tl sp od no ft] [] (fun _ => [mdW cA m ρ P hs α rf K V C my cm tx tl sp od no ft]) (fun _ => [mdW cA m ρ P hs α rf K V C my cm tx tl sp od no ft]) (c_X5_countOf l D cA cB m ρ P hs α rf K V C my cm tx tl sp od no ft n (hsz) h3 (i) (by omega)) kv_X5_countOf ml_X5_134 dX5_count_17 rfl rfl rfl rfl (segOk [0] rfl rfl rfl rfl) (fun _ => segOk [0] rfl rfl rfl rfl) rfl (Nat.le_of_ble_eq_true rfl) (fun v u h => ?_)
    subst h
    refine r_st (st' := [.int (countF ρ n i)]) rfl ?_
    refine r_goto 27 dX5_count_20 (by decide) ?_
    exact r_iret (()) dX5_count_27 (by unfold cntA; rw [if_pos hq1, nI_clamp (by omega)]) (by unfold cntA; rw [if_pos hq1])

set_option maxRecDepth 100000 in
set_option maxHeartbeats 4000000 in
theorem c_X5_log (l : Launch) (D : va_G) (cA cB : ClassId) (m : Nat → Nat) (ρ P : Nat → Int32) (hs : Int32) (α rf K V C : Nat → Int32) (my cm : Int32) (tx : Nat → Int32) (tl sp : Int32) (od : Nat → Int32) (no ft : Int32) (g : Nat) (hg : ρ 6 = nI g) (hg8 : g ≤ 8) (i x : Int32) : Mt l D (tyS cA cB) yX5_log cX5_log 3 (some .int) ({ frames := 2, cells := 0, slots := 0, locals := 42 } : Room) [.ref (m 0), .int (i), .int (x)] (mdW cA m ρ P hs α rf K V C my cm tx tl sp od no ft) Unit (fun v _ => v = some (.int (logA ρ rf g i x).1)) (fun _ => mdW cA m ρ P hs α ((logA ρ rf g i x).2) K V C my cm tx tl sp od no ft) 0 0 := by
  refine mt_in RX5 ([some (.ref (m 0)), some (.int (i)), some (.int (x))]) rfl (by decide +kernel) rfl (Nat.le_of_ble_eq_true rfl) rfl rfl (fun X sz => ?_)
  refine r_aload_n 0 dX5_log_0 rfl rfl ?_
  refine r_iconst (nI 0) dX5_log_1 (by decide +kernel) ?_
  refine r_put 0 (mdW cA m ρ P hs α rf K V C my cm tx tl sp od no ft) fk_X5_37 dX5_log_2 rfl rfl rfl rfl (Nat.le_of_ble_eq_true rfl) rfl ?_
  refine r_iload_n 1 dX5_log_5 rfl rfl ?_
  refine r_if_lt 18 dX5_log_6 (by decide) (fun hq1 => ?_) (fun hq1 => ?_)
  · refine r_aload_n 0 dX5_log_18 rfl rfl ?_
    refine r_callV2 (As := []) (st := []) (fun _ => mdW cA m ρ P hs α (badR rf) K V C my cm tx tl sp od no ft) [mdW cA m ρ P hs α rf K V C my cm tx tl sp od no ft] [mdW cA m ρ P hs α rf K V C my cm tx tl sp od no ft] [] (fun _ => [mdW cA m ρ P hs α (badR rf) K V C my cm tx tl sp od no ft]) (fun _ => [mdW cA m ρ P hs α (badR rf) K V C my cm tx tl sp od no ft]) (c_X5_bad l D cA cB m ρ P hs α rf K V C my cm tx tl sp od no ft ) kv_X5_bad ml_X5_125 dX5_log_19 rfl rfl rfl rfl (segOk [0] rfl rfl rfl rfl) (fun _ => segOk [0] rfl rfl rfl rfl) rfl (Nat.le_of_ble_eq_true rfl) (fun v u h => ?_)
    subst h
    refine r_st (st' := [.int (-2)]) rfl ?_
    exact r_iret (()) dX5_log_22 (by unfold logA; rw [if_pos hq1]) (by unfold logA; rw [if_pos hq1])
  · refine r_iload_n 2 dX5_log_9 rfl rfl ?_
    refine r_iconst (nI 0) dX5_log_10 (by decide +kernel) ?_
    refine r_iconst (nI 2) dX5_log_11 (by decide +kernel) ?_
    refine r_callS2 (As := [.int (x), .int (nI 0), .int (nI 2)]) (st := []) (fun _ => mdW cA m ρ P hs α rf K V C my cm tx tl sp od no ft) [mdW cA m ρ P hs α rf K V C my cm tx tl sp od no ft] [] [mdW cA m ρ P hs α rf K V C my cm tx tl sp od no ft] (fun _ => [mdW cA m ρ P hs α rf K V C my cm tx tl sp od no ft]) (fun _ => []) (c_X5_in0 l D cA cB (x) (nI (2))) ks_X5_in ml_X5_87 dX5_log_12 rfl rfl (segOk [0] rfl rfl rfl rfl) (fun _ => segOk [0] rfl rfl rfl rfl) rfl (Nat.le_of_ble_eq_true rfl) (fun v u h => ?_)
    subst h
    refine r_st (st' := [.int (bI (wi x (nI (2))))]) rfl ?_
    refine r_bif_ne 23 dX5_log_15 (by decide) (fun hq2 => ?_) (fun hq2 => ?_)
    · obtain ⟨j, hj, rfl⟩ := c_ge0 hq1
      obtain ⟨y, hy, rfl⟩ := wi_ex (by decide) hq2
      refine r_iload_n 1 dX5_log_23 rfl rfl ?_
      refine r_aload_n 0 dX5_log_24 rfl rfl ?_
      refine r_get 0 fk_X5_7 dX5_log_25 rfl rfl ?_
      refine r_bipush (nI 6) dX5_log_28 (by decide +kernel) ?_
      refine r_iald 1 (6) dX5_log_30 rfl rfl rfl (by omega) (Nat.le_of_ble_eq_true rfl) ?_
      refine r_top (y := nI (g)) (hg) ?_
      refine r_ncmp_ge 50 (by omega) (by omega) dX5_log_31 (by decide) (fun hq3 => ?_) (fun hq3 => ?_)
      · refine r_iconst (-1) dX5_log_50 (by decide +kernel) ?_
        exact r_iret (()) dX5_log_51 (by unfold logA; rw [if_neg hq1, if_pos hq2, nI_clamp (by omega), nI_clamp (by omega)]; unfold logF; rw [if_neg (Nat.not_lt.mpr hq3)]) (by unfold logA; rw [if_neg hq1, if_pos hq2])
      · refine r_aload_n 0 dX5_log_34 rfl rfl ?_
        refine r_get 0 fk_X5_7 dX5_log_35 rfl rfl ?_
        refine r_bipush (nI 7) dX5_log_38 (by decide +kernel) ?_
        refine r_iconst (nI 3) dX5_log_40 (by decide +kernel) ?_
        refine r_iload_n 1 dX5_log_41 rfl rfl ?_
        refine r_nimul dX5_log_42 ?_
        refine r_niadd dX5_log_43 ?_
        refine r_iload_n 2 dX5_log_44 rfl rfl ?_
        refine r_niadd dX5_log_45 ?_
        refine r_iald 1 ((7 + (3 * j)) + y) dX5_log_46 rfl rfl rfl (by omega) (Nat.le_of_ble_eq_true rfl) ?_
        refine r_goto 51 dX5_log_47 (by decide) ?_
        exact r_iret (()) dX5_log_51 (by unfold logA; rw [if_neg hq1, if_pos hq2, nI_clamp (by omega), nI_clamp (by omega)]; unfold logF; rw [if_pos hq3]) (by unfold logA; rw [if_neg hq1, if_pos hq2])
    · refine r_aload_n 0 dX5_log_18 rfl rfl ?_
      refine r_callV2 (As := []) (st := []) (fun _ => mdW cA m ρ P hs α (badR rf) K V C my cm tx tl sp od no ft) [mdW cA m ρ P hs α rf K V C my cm tx tl sp od no ft] [mdW cA m ρ P hs α rf K V C my cm tx tl sp od no ft] [] (fun _ => [mdW cA m ρ P hs α (badR rf) K V C my cm tx tl sp od no ft]) (fun _ => [mdW cA m ρ P hs α (badR rf) K V C my cm tx tl sp od no ft]) (c_X5_bad l D cA cB m ρ P hs α rf K V C my cm tx tl sp od no ft ) kv_X5_bad ml_X5_125 dX5_log_19 rfl rfl rfl rfl (segOk [0] rfl rfl rfl rfl) (fun _ => segOk [0] rfl rfl rfl rfl) rfl (Nat.le_of_ble_eq_true rfl) (fun v u h => ?_)
      subst h
      refine r_st (st' := [.int (-2)]) rfl ?_
      exact r_iret (()) dX5_log_22 (by unfold logA; rw [if_neg hq1, if_neg (ne_t hq2)]) (by unfold logA; rw [if_neg hq1, if_neg (ne_t hq2)])

set_option maxRecDepth 100000 in
set_option maxHeartbeats 4000000 in
theorem c_X5_type (l : Launch) (D : va_G) (cA cB : ClassId) (m : Nat → Nat) (ρ P : Nat → Int32) (hs : Int32) (α rf K V C : Nat → Int32) (my cm : Int32) (tx : Nat → Int32) (tl : Nat) (htl : tl ≤ 120) (sp : Int32) (od : Nat → Int32) (no ft : Int32) (c : Int32) : Mt l D (tyS cA cB) yX5_type cX5_type 2 (some .int) ({ frames := 2, cells := 0, slots := 0, locals := 42 } : Room) [.ref (m 0), .int (c)] (mdW cA m ρ P hs α rf K V C my cm tx (nI (tl)) sp od no ft) Unit (fun v _ => v = some (.int (typA tx rf tl c).1)) (fun _ => mdW cA m ρ P hs α ((typA tx rf tl c).2.2.2) K V C my cm ((typA tx rf tl c).2.1) (nI ((typA tx rf tl c).2.2.1)) sp od no ft) 0 0 := by
  refine mt_in RX5 ([some (.ref (m 0)), some (.int (c))]) rfl (by decide +kernel) rfl (Nat.le_of_ble_eq_true rfl) rfl rfl (fun X sz => ?_)
  refine r_aload_n 0 dX5_type_0 rfl rfl ?_
  refine r_iconst (nI 0) dX5_type_1 (by decide +kernel) ?_
  refine r_put 0 (mdW cA m ρ P hs α rf K V C my cm tx (nI (tl)) sp od no ft) fk_X5_37 dX5_type_2 rfl rfl rfl rfl (Nat.le_of_ble_eq_true rfl) rfl ?_
  refine r_iload_n 1 dX5_type_5 rfl rfl ?_
  refine r_iconst (nI 0) dX5_type_6 (by decide +kernel) ?_
  refine r_bipush (nI 127) dX5_type_7 (by decide +kernel) ?_
  refine r_callS2 (As := [.int (c), .int (nI 0), .int (nI 127)]) (st := []) (fun _ => mdW cA m ρ P hs α rf K V C my cm tx (nI (tl)) sp od no ft) [mdW cA m ρ P hs α rf K V C my cm tx (nI (tl)) sp od no ft] [] [mdW cA m ρ P hs α rf K V C my cm tx (nI (tl)) sp od no ft] (fun _ => [mdW cA m ρ P hs α rf K V C my cm tx (nI (tl)) sp od no ft]) (fun _ => []) (c_X5_in0 l D cA cB (c) (nI (127))) ks_X5_in ml_X5_87 dX5_type_9 rfl rfl (segOk [0] rfl rfl rfl rfl) (fun _ => segOk [0] rfl rfl rfl rfl) rfl (Nat.le_of_ble_eq_true rfl) (fun v u h => ?_)
  subst h
  refine r_st (st' := [.int (bI (wi c (nI (127))))]) rfl ?_
  refine r_bif_ne 20 dX5_type_12 (by decide) (fun hq1 => ?_) (fun hq1 => ?_)
  · refine r_aload_n 0 dX5_type_20 rfl rfl ?_
    refine r_get 0 fk_X5_137 dX5_type_21 rfl rfl ?_
    refine r_bipush (nI 120) dX5_type_24 (by decide +kernel) ?_
    refine r_ncmp_ne 37 (by omega) (by omega) dX5_type_26 (by decide) (fun hq2 => ?_) (fun hq2 => ?_)
    · refine r_aload_n 0 dX5_type_37 rfl rfl ?_
      refine r_get 0 fk_X5_31 dX5_type_38 rfl rfl ?_
      refine r_aload_n 0 dX5_type_41 rfl rfl ?_
      refine r_get 0 fk_X5_137 dX5_type_42 rfl rfl ?_
      refine r_iload_n 1 dX5_type_45 rfl rfl ?_
      refine r_iast 8 (tl) (mdW cA m ρ P hs α rf K V C my cm (upd tx tl c) (nI (tl)) sp od no ft) dX5_type_46 rfl rfl rfl (by omega) (Nat.le_of_ble_eq_true rfl) rfl ?_
      refine r_aload_n 0 dX5_type_47 rfl rfl ?_
      refine r_dup rfl dX5_type_48 ?_
      refine r_get 0 fk_X5_137 dX5_type_49 rfl rfl ?_
      refine r_iconst (nI 1) dX5_type_52 (by decide +kernel) ?_
      refine r_niadd dX5_type_53 ?_
      refine r_put 0 (mdW cA m ρ P hs α rf K V C my cm (upd tx tl c) (nI (tl + 1)) sp od no ft) fk_X5_137 dX5_type_54 rfl rfl rfl rfl (Nat.le_of_ble_eq_true rfl) rfl ?_
      refine r_aload_n 0 dX5_type_57 rfl rfl ?_
      refine r_get 0 fk_X5_137 dX5_type_58 rfl rfl ?_
      exact r_iret (()) dX5_type_61 (by unfold typA; rw [if_pos hq1, if_pos (by omega)]) (by unfold typA; rw [if_pos hq1, if_pos (by omega)])
    · refine r_aload_n 0 dX5_type_29 rfl rfl ?_
      refine r_bipush (-4) dX5_type_30 (by decide +kernel) ?_
      refine r_iconst (nI 1) dX5_type_32 (by decide +kernel) ?_
      refine r_callV2 (As := [.int (-4), .int (nI 1)]) (st := []) (fun _ => mdW cA m ρ P hs α (fulR rf) K V C my cm tx (nI (tl)) sp od no ft) [mdW cA m ρ P hs α rf K V C my cm tx (nI (tl)) sp od no ft] [mdW cA m ρ P hs α rf K V C my cm tx (nI (tl)) sp od no ft] [] (fun _ => [mdW cA m ρ P hs α (fulR rf) K V C my cm tx (nI (tl)) sp od no ft]) (fun _ => [mdW cA m ρ P hs α (fulR rf) K V C my cm tx (nI (tl)) sp od no ft]) (c_X5_answers_4 l D cA cB m ρ P hs α rf K V C my cm tx (nI (tl)) sp od no ft ) kv_X5_answers ml_X5_41 dX5_type_33 rfl rfl rfl rfl (segOk [0] rfl rfl rfl rfl) (fun _ => segOk [0] rfl rfl rfl rfl) rfl (Nat.le_of_ble_eq_true rfl) (fun v u h => ?_)
      subst h
      refine r_st (st' := [.int (-4)]) rfl ?_
      exact r_iret (()) dX5_type_36 (by unfold typA; rw [if_pos hq1, if_neg (by omega)]) (by unfold typA; rw [if_pos hq1, if_neg (by omega)])
  · refine r_aload_n 0 dX5_type_15 rfl rfl ?_
    refine r_callV2 (As := []) (st := []) (fun _ => mdW cA m ρ P hs α (badR rf) K V C my cm tx (nI (tl)) sp od no ft) [mdW cA m ρ P hs α rf K V C my cm tx (nI (tl)) sp od no ft] [mdW cA m ρ P hs α rf K V C my cm tx (nI (tl)) sp od no ft] [] (fun _ => [mdW cA m ρ P hs α (badR rf) K V C my cm tx (nI (tl)) sp od no ft]) (fun _ => [mdW cA m ρ P hs α (badR rf) K V C my cm tx (nI (tl)) sp od no ft]) (c_X5_bad l D cA cB m ρ P hs α rf K V C my cm tx (nI (tl)) sp od no ft ) kv_X5_bad ml_X5_125 dX5_type_16 rfl rfl rfl rfl (segOk [0] rfl rfl rfl rfl) (fun _ => segOk [0] rfl rfl rfl rfl) rfl (Nat.le_of_ble_eq_true rfl) (fun v u h => ?_)
    subst h
    refine r_st (st' := [.int (-2)]) rfl ?_
    exact r_iret (()) dX5_type_19 (by unfold typA; rw [if_neg (ne_t hq1)]) (by unfold typA; rw [if_neg (ne_t hq1)])

set_option maxRecDepth 100000 in
set_option maxHeartbeats 4000000 in
theorem c_X5_clear (l : Launch) (D : va_G) (cA cB : ClassId) (m : Nat → Nat) (ρ P : Nat → Int32) (hs : Int32) (α rf K V C : Nat → Int32) (my cm : Int32) (tx : Nat → Int32) (tl sp : Int32) (od : Nat → Int32) (no ft : Int32) : Mt l D (tyS cA cB) yX5_clear cX5_clear 2 (some .int) ({ frames := 0, cells := 0, slots := 0, locals := 0 } : Room) [.ref (m 0)] (mdW cA m ρ P hs α rf K V C my cm tx tl sp od no ft) Unit (fun v _ => v = some (.int tl)) (fun _ => mdW cA m ρ P hs α rf K V C my cm tx (nI (0)) sp od no ft) 0 0 := by
  refine mt_in RX5 ([some (.ref (m 0)), none]) rfl (by decide +kernel) rfl (Nat.le_of_ble_eq_true rfl) rfl rfl (fun X sz => ?_)
  refine r_aload_n 0 dX5_clear_0 rfl rfl ?_
  refine r_iconst (nI 0) dX5_clear_1 (by decide +kernel) ?_
  refine r_put 0 (mdW cA m ρ P hs α rf K V C my cm tx tl sp od no ft) fk_X5_37 dX5_clear_2 rfl rfl rfl rfl (Nat.le_of_ble_eq_true rfl) rfl ?_
  refine r_aload_n 0 dX5_clear_5 rfl rfl ?_
  refine r_get 0 fk_X5_137 dX5_clear_6 rfl rfl ?_
  refine r_istore_n 1 ([some (.ref (m 0)), some (.int (tl))]) dX5_clear_9 rfl (Nat.le_of_ble_eq_true rfl) rfl rfl ?_
  refine r_aload_n 0 dX5_clear_10 rfl rfl ?_
  refine r_iconst (nI 0) dX5_clear_11 (by decide +kernel) ?_
  refine r_put 0 (mdW cA m ρ P hs α rf K V C my cm tx (nI (0)) sp od no ft) fk_X5_137 dX5_clear_12 rfl rfl rfl rfl (Nat.le_of_ble_eq_true rfl) rfl ?_
  refine r_iload_n 1 dX5_clear_15 rfl rfl ?_
  exact r_iret (()) dX5_clear_16 (rfl) (rfl)

set_option maxRecDepth 100000 in
set_option maxHeartbeats 4000000 in
theorem c_X5_toldOf (l : Launch) (D : va_G) (cA cB : ClassId) (m : Nat → Nat) (ρ P : Nat → Int32) (h : Nat) (α rf K V C : Nat → Int32) (my cm : Int32) (tx : Nat → Int32) (tl : Nat) (sp : Int32) (od : Nat → Int32) (no ft : Int32) (x : Nat) (hx : x ≤ 4) : Mt l D (tyS cA cB) yX5_toldOf cX5_toldOf 2 (some .int) ({ frames := 0, cells := 0, slots := 0, locals := 0 } : Room) [.ref (m 0), .int (nI x)] (mdW cA m ρ P (nI (h)) α rf K V C my cm tx (nI (tl)) sp od no ft) Unit (fun v _ => v = some (.int (toldF rf tl h x))) (fun _ => mdW cA m ρ P (nI (h)) α rf K V C my cm tx (nI (tl)) sp od no ft) 0 0 := by
  refine mt_in RX5 ([some (.ref (m 0)), some (.int (nI x))]) rfl (by decide +kernel) rfl (Nat.le_of_ble_eq_true rfl) rfl rfl (fun X sz => ?_)
  refine r_iload_n 1 dX5_toldOf_0 rfl rfl ?_
  refine r_iconst (nI 3) dX5_toldOf_1 (by decide +kernel) ?_
  refine r_ncmp_ge 14 (by omega) (by omega) dX5_toldOf_2 (by decide) (fun hq1 => ?_) (fun hq1 => ?_)
  · refine r_iload_n 1 dX5_toldOf_14 rfl rfl ?_
    refine r_iconst (nI 3) dX5_toldOf_15 (by decide +kernel) ?_
    refine r_ncmp_ne 26 (by omega) (by omega) dX5_toldOf_16 (by decide) (fun hq2 => ?_) (fun hq2 => ?_)
    · refine r_aload_n 0 dX5_toldOf_26 rfl rfl ?_
      refine r_get 0 fk_X5_101 dX5_toldOf_27 rfl rfl ?_
      exact r_iret (()) dX5_toldOf_30 (by unfold toldF; rw [if_neg (Nat.not_lt.mpr hq1), if_neg hq2]) (rfl)
    · refine r_aload_n 0 dX5_toldOf_19 rfl rfl ?_
      refine r_get 0 fk_X5_137 dX5_toldOf_20 rfl rfl ?_
      refine r_goto 30 dX5_toldOf_23 (by decide) ?_
      exact r_iret (()) dX5_toldOf_30 (by unfold toldF; rw [if_neg (Nat.not_lt.mpr hq1), if_pos hq2]) (rfl)
  · refine r_aload_n 0 dX5_toldOf_5 rfl rfl ?_
    refine r_get 0 fk_X5_19 dX5_toldOf_6 rfl rfl ?_
    refine r_iload_n 1 dX5_toldOf_9 rfl rfl ?_
    refine r_iald 4 (x) dX5_toldOf_10 rfl rfl rfl (by omega) (Nat.le_of_ble_eq_true rfl) ?_
    refine r_goto 30 dX5_toldOf_11 (by decide) ?_
    exact r_iret (()) dX5_toldOf_30 (by unfold toldF; rw [if_pos hq1]) (rfl)

set_option maxRecDepth 100000 in
set_option maxHeartbeats 4000000 in
theorem c_X5_told (l : Launch) (D : va_G) (cA cB : ClassId) (m : Nat → Nat) (ρ P : Nat → Int32) (h : Nat) (α rf K V C : Nat → Int32) (my cm : Int32) (tx : Nat → Int32) (tl : Nat) (sp : Int32) (od : Nat → Int32) (no ft : Int32) (x : Int32) : Mt l D (tyS cA cB) yX5_told cX5_told 2 (some .int) ({ frames := 2, cells := 0, slots := 0, locals := 42 } : Room) [.ref (m 0), .int (x)] (mdW cA m ρ P (nI (h)) α rf K V C my cm tx (nI (tl)) sp od no ft) Unit (fun v _ => v = some (.int (tldA rf tl h x).1)) (fun _ => mdW cA m ρ P (nI (h)) α ((tldA rf tl h x).2) K V C my cm tx (nI (tl)) sp od no ft) 0 0 := by
  refine mt_in RX5 ([some (.ref (m 0)), some (.int (x))]) rfl (by decide +kernel) rfl (Nat.le_of_ble_eq_true rfl) rfl rfl (fun X sz => ?_)
  refine r_aload_n 0 dX5_told_0 rfl rfl ?_
  refine r_iconst (nI 0) dX5_told_1 (by decide +kernel) ?_
  refine r_put 0 (mdW cA m ρ P (nI (h)) α rf K V C my cm tx (nI (tl)) sp od no ft) fk_X5_37 dX5_told_2 rfl rfl rfl rfl (Nat.le_of_ble_eq_true rfl) rfl ?_
  refine r_iload_n 1 dX5_told_5 rfl rfl ?_
  refine r_iconst (nI 0) dX5_told_6 (by decide +kernel) ?_
  refine r_iconst (nI 4) dX5_told_7 (by decide +kernel) ?_
  refine r_callS2 (As := [.int (x), .int (nI 0), .int (nI 4)]) (st := []) (fun _ => mdW cA m ρ P (nI (h)) α rf K V C my cm tx (nI (tl)) sp od no ft) [mdW cA m ρ P (nI (h)) α rf K V C my cm tx (nI (tl)) sp od no ft] [] [mdW cA m ρ P (nI (h)) α rf K V C my cm tx (nI (tl)) sp od no ft] (fun _ => [mdW cA m ρ P (nI (h)) α rf K V C my cm tx (nI (tl)) sp od no ft]) (fun _ => []) (c_X5_in0 l D cA cB (x) (nI (4))) ks_X5_in ml_X5_87 dX5_told_8 rfl rfl (segOk [0] rfl rfl rfl rfl) (fun _ => segOk [0] rfl rfl rfl rfl) rfl (Nat.le_of_ble_eq_true rfl) (fun v u h => ?_)
  subst h
  refine r_st (st' := [.int (bI (wi x (nI (4))))]) rfl ?_
  refine r_bif_eq 22 dX5_told_11 (by decide) (fun hq1 => ?_) (fun hq1 => ?_)
  · refine r_aload_n 0 dX5_told_22 rfl rfl ?_
    refine r_callV2 (As := []) (st := []) (fun _ => mdW cA m ρ P (nI (h)) α (badR rf) K V C my cm tx (nI (tl)) sp od no ft) [mdW cA m ρ P (nI (h)) α rf K V C my cm tx (nI (tl)) sp od no ft] [mdW cA m ρ P (nI (h)) α rf K V C my cm tx (nI (tl)) sp od no ft] [] (fun _ => [mdW cA m ρ P (nI (h)) α (badR rf) K V C my cm tx (nI (tl)) sp od no ft]) (fun _ => [mdW cA m ρ P (nI (h)) α (badR rf) K V C my cm tx (nI (tl)) sp od no ft]) (c_X5_bad l D cA cB m ρ P (nI (h)) α rf K V C my cm tx (nI (tl)) sp od no ft ) kv_X5_bad ml_X5_125 dX5_told_23 rfl rfl rfl rfl (segOk [0] rfl rfl rfl rfl) (fun _ => segOk [0] rfl rfl rfl rfl) rfl (Nat.le_of_ble_eq_true rfl) (fun v u h => ?_)
    subst h
    refine r_st (st' := [.int (-2)]) rfl ?_
    exact r_iret (()) dX5_told_26 (by unfold tldA; rw [if_neg (ne_t hq1)]) (by unfold tldA; rw [if_neg (ne_t hq1)])
  · obtain ⟨i, hi, rfl⟩ := wi_ex (by decide) hq1
    refine r_aload_n 0 dX5_told_14 rfl rfl ?_
    refine r_iload_n 1 dX5_told_15 rfl rfl ?_
    refine r_callV2 (As := [.int (nI i)]) (st := []) (fun _ => mdW cA m ρ P (nI (h)) α rf K V C my cm tx (nI (tl)) sp od no ft) [mdW cA m ρ P (nI (h)) α rf K V C my cm tx (nI (tl)) sp od no ft] [mdW cA m ρ P (nI (h)) α rf K V C my cm tx (nI (tl)) sp od no ft] [] (fun _ => [mdW cA m ρ P (nI (h)) α rf K V C my cm tx (nI (tl)) sp od no ft]) (fun _ => [mdW cA m ρ P (nI (h)) α rf K V C my cm tx (nI (tl)) sp od no ft]) (c_X5_toldOf l D cA cB m ρ P h α rf K V C my cm tx tl sp od no ft (i) (by omega)) kv_X5_toldOf ml_X5_174 dX5_told_16 rfl rfl rfl rfl (segOk [0] rfl rfl rfl rfl) (fun _ => segOk [0] rfl rfl rfl rfl) rfl (Nat.le_of_ble_eq_true rfl) (fun v u h => ?_)
    subst h
    refine r_st (st' := [.int (toldF rf tl h i)]) rfl ?_
    refine r_goto 26 dX5_told_19 (by decide) ?_
    exact r_iret (()) dX5_told_26 (by unfold tldA; rw [if_pos hq1, nI_clamp (by omega)]) (by unfold tldA; rw [if_pos hq1])

