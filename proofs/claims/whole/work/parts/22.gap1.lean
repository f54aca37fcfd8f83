set_option maxRecDepth 100000 in
set_option maxHeartbeats 4000000 in
theorem c_X4_isSpan (l : Launch) (D : va_G) (cA cB : ClassId) (a b : Int32) : Mt l D (tyS cA cB) yX4_isSpan cX4_isSpan 2 (some .boolean) ({ frames := 1, cells := 0, slots := 0, locals := 21 } : Room) [.int (a), .int (b)] ([]) Unit (fun v _ => v = some (.int (bI (spanB a b)))) (fun _ => []) 0 0 := by
  refine mt_in RX4 ([some (.int (a)), some (.int (b))]) rfl (by decide +kernel) rfl (Nat.le_of_ble_eq_true rfl) rfl rfl (fun X sz => ?_)
  refine r_iload_n 0 dX4_isSpan_0 rfl rfl ?_
  refine r_sipush (nI 999) dX4_isSpan_1 (by decide +kernel) ?_
  refine r_callS2 (As := [.int (a), .int (nI 999)]) (st := []) (fun _ => []) [] [] [] (fun _ => []) (fun _ => []) (c_X4_within l D cA cB (a) (nI (999))) ks_X4_within ml_X4_77 dX4_isSpan_4 rfl rfl (segOk [] rfl rfl rfl rfl) (fun _ => segOk [] rfl rfl rfl rfl) rfl (Nat.le_of_ble_eq_true rfl) (fun v u h => ?_)
  subst h
  refine r_st (st' := [.int (bI (wi (a) (nI (999))))]) rfl ?_
  refine r_bif_eq 29 dX4_isSpan_7 (by decide) (fun hq1 => ?_) (fun hq1 => ?_)
  · refine r_iconst (nI 0) dX4_isSpan_29 (by decide +kernel) ?_
    exact r_zret (()) (by decide +kernel) dX4_isSpan_30 (by unfold spanB; rw [hq1]; rfl) (rfl)
  · refine r_iload_n 1 dX4_isSpan_10 rfl rfl ?_
    refine r_sipush (nI 999) dX4_isSpan_11 (by decide +kernel) ?_
    refine r_callS2 (As := [.int (b), .int (nI 999)]) (st := []) (fun _ => []) [] [] [] (fun _ => []) (fun _ => []) (c_X4_within l D cA cB (b) (nI (999))) ks_X4_within ml_X4_77 dX4_isSpan_14 rfl rfl (segOk [] rfl rfl rfl rfl) (fun _ => segOk [] rfl rfl rfl rfl) rfl (Nat.le_of_ble_eq_true rfl) (fun v u h => ?_)
    subst h
    refine r_st (st' := [.int (bI (wi (b) (nI (999))))]) rfl ?_
    refine r_bif_eq 29 dX4_isSpan_17 (by decide) (fun hq2 => ?_) (fun hq2 => ?_)
    · refine r_iconst (nI 0) dX4_isSpan_29 (by decide +kernel) ?_
      exact r_zret (()) (by decide +kernel) dX4_isSpan_30 (by unfold spanB; rw [hq1, hq2]; rfl) (rfl)
    · refine r_iload_n 0 dX4_isSpan_20 rfl rfl ?_
      refine r_iload_n 1 dX4_isSpan_21 rfl rfl ?_
      refine r_icmp_gt 29 dX4_isSpan_22 (by decide) (fun hq3 => ?_) (fun hq3 => ?_)
      · refine r_iconst (nI 0) dX4_isSpan_29 (by decide +kernel) ?_
        exact r_zret (()) (by decide +kernel) dX4_isSpan_30 (by unfold spanB; rw [hq1, hq2, decide_eq_false (Int32.not_le.mpr hq3)]; rfl) (rfl)
      · refine r_iconst (nI 1) dX4_isSpan_25 (by decide +kernel) ?_
        refine r_goto 30 dX4_isSpan_26 (by decide) ?_
        exact r_zret (()) (by decide +kernel) dX4_isSpan_30 (by unfold spanB; rw [hq1, hq2, decide_eq_true (Int32.not_lt.mp hq3)]; rfl) (rfl)

set_option maxRecDepth 100000 in
set_option maxHeartbeats 4000000 in
theorem c_X4_refuse_2 (l : Launch) (D : va_G) (cA cB : ClassId) (b q p t : Nat → Nat) (rd : Nat) (tx : Nat → Int32) (tl : Nat) (rf : Nat → Int32) : Mt l D (tyS cA cB) yX4_refuse cX4_refuse 3 (some .int) ({ frames := 1, cells := 0, slots := 0, locals := 21 } : Room) [.ref (b 0), .int (-2)] (gapW cA b q p t rd tx tl rf) Unit (fun v _ => v = some (.int (-2))) (fun _ => gapW cA b q p t rd tx tl (badR rf)) 0 0 := by
  refine mt_in RX4 ([some (.ref (b 0)), some (.int (-2)), none]) rfl (by decide +kernel) rfl (Nat.le_of_ble_eq_true rfl) rfl rfl (fun X sz => ?_)
  refine r_bipush (-2) dX4_refuse_0 (by decide +kernel) ?_
  refine r_iload_n 1 dX4_refuse_2 rfl rfl ?_
  refine r_isub dX4_refuse_3 ?_
  refine r_top (y := nI 0) (by decide +kernel) ?_
  refine r_istore_n 2 ([some (.ref (b 0)), some (.int (-2)), some (.int (nI 0))]) dX4_refuse_4 rfl (Nat.le_of_ble_eq_true rfl) rfl rfl ?_
  refine r_iload_n 2 dX4_refuse_5 rfl rfl ?_
  refine r_aload_n 0 dX4_refuse_6 rfl rfl ?_
  refine r_get 0 fk_X4_45 dX4_refuse_7 rfl rfl ?_
  refine r_alen 2 0 dX4_refuse_10 rfl rfl ?_
  refine r_top (y := nI 3) rfl ?_
  refine r_iconst (nI 1) dX4_refuse_11 (by decide +kernel) ?_
  refine r_nisub (by omega) dX4_refuse_12 ?_
  refine r_callS2 (As := [.int (nI 0), .int (nI (3 - 1))]) (st := []) (fun _ => gapW cA b q p t rd tx tl rf) [gapW cA b q p t rd tx tl rf] [] [gapW cA b q p t rd tx tl rf] (fun _ => [gapW cA b q p t rd tx tl rf]) (fun _ => []) (c_X4_within l D cA cB (nI (0)) (nI (3 - 1))) ks_X4_within ml_X4_77 dX4_refuse_13 rfl rfl (segOk [0] rfl rfl rfl rfl) (fun _ => segOk [0] rfl rfl rfl rfl) rfl (Nat.le_of_ble_eq_true rfl) (fun v u h => ?_)
  subst h
  refine r_st (st' := [.int (bI (wi (nI (0)) (nI (3 - 1))))]) rfl ?_
  refine r_bif_eq 29 dX4_refuse_16 (by decide) (fun hq1 => ?_) (fun hq1 => ?_)
  · exact absurd hq1 (by decide +kernel)
  · refine r_aload_n 0 dX4_refuse_19 rfl rfl ?_
    refine r_get 0 fk_X4_45 dX4_refuse_20 rfl rfl ?_
    refine r_iload_n 2 dX4_refuse_23 rfl rfl ?_
    refine r_dup2 rfl rfl dX4_refuse_24 ?_
    refine r_iald 2 (0) dX4_refuse_25 rfl rfl rfl (by omega) (Nat.le_of_ble_eq_true rfl) ?_
    refine r_iconst (nI 1) dX4_refuse_26 (by decide +kernel) ?_
    refine r_iadd dX4_refuse_27 ?_
    refine r_iast 2 (0) ([(b 0, .inr (4, [.ref (q 0), .ref (p 0), .ref (t 0), .ref (rd), .ref (b 1), .int (nI tl), .ref (b 2)])), (b 1, .inl (cA, 120, .inl (tx))), (b 2, .inl (cA, 3, .inl (upd rf 0 ((rf 0) + (nI (1))))))]) dX4_refuse_28 rfl rfl rfl (by omega) (Nat.le_of_ble_eq_true rfl) rfl ?_
    refine r_iload_n 1 dX4_refuse_29 rfl rfl ?_
    exact r_iret (()) dX4_refuse_30 (rfl) (rfl)

set_option maxRecDepth 100000 in
set_option maxHeartbeats 4000000 in
theorem c_X4_refuse_3 (l : Launch) (D : va_G) (cA cB : ClassId) (b q p t : Nat → Nat) (rd : Nat) (tx : Nat → Int32) (tl : Nat) (rf : Nat → Int32) : Mt l D (tyS cA cB) yX4_refuse cX4_refuse 3 (some .int) ({ frames := 1, cells := 0, slots := 0, locals := 21 } : Room) [.ref (b 0), .int (-3)] (gapW cA b q p t rd tx tl rf) Unit (fun v _ => v = some (.int (-3))) (fun _ => gapW cA b q p t rd tx tl (noR rf)) 0 0 := by
  refine mt_in RX4 ([some (.ref (b 0)), some (.int (-3)), none]) rfl (by decide +kernel) rfl (Nat.le_of_ble_eq_true rfl) rfl rfl (fun X sz => ?_)
  refine r_bipush (-2) dX4_refuse_0 (by decide +kernel) ?_
  refine r_iload_n 1 dX4_refuse_2 rfl rfl ?_
  refine r_isub dX4_refuse_3 ?_
  refine r_top (y := nI 1) (by decide +kernel) ?_
  refine r_istore_n 2 ([some (.ref (b 0)), some (.int (-3)), some (.int (nI 1))]) dX4_refuse_4 rfl (Nat.le_of_ble_eq_true rfl) rfl rfl ?_
  refine r_iload_n 2 dX4_refuse_5 rfl rfl ?_
  refine r_aload_n 0 dX4_refuse_6 rfl rfl ?_
  refine r_get 0 fk_X4_45 dX4_refuse_7 rfl rfl ?_
  refine r_alen 2 0 dX4_refuse_10 rfl rfl ?_
  refine r_top (y := nI 3) rfl ?_
  refine r_iconst (nI 1) dX4_refuse_11 (by decide +kernel) ?_
  refine r_nisub (by omega) dX4_refuse_12 ?_
  refine r_callS2 (As := [.int (nI 1), .int (nI (3 - 1))]) (st := []) (fun _ => gapW cA b q p t rd tx tl rf) [gapW cA b q p t rd tx tl rf] [] [gapW cA b q p t rd tx tl rf] (fun _ => [gapW cA b q p t rd tx tl rf]) (fun _ => []) (c_X4_within l D cA cB (nI (1)) (nI (3 - 1))) ks_X4_within ml_X4_77 dX4_refuse_13 rfl rfl (segOk [0] rfl rfl rfl rfl) (fun _ => segOk [0] rfl rfl rfl rfl) rfl (Nat.le_of_ble_eq_true rfl) (fun v u h => ?_)
  subst h
  refine r_st (st' := [.int (bI (wi (nI (1)) (nI (3 - 1))))]) rfl ?_
  refine r_bif_eq 29 dX4_refuse_16 (by decide) (fun hq1 => ?_) (fun hq1 => ?_)
  · exact absurd hq1 (by decide +kernel)
  · refine r_aload_n 0 dX4_refuse_19 rfl rfl ?_
    refine r_get 0 fk_X4_45 dX4_refuse_20 rfl rfl ?_
    refine r_iload_n 2 dX4_refuse_23 rfl rfl ?_
    refine r_dup2 rfl rfl dX4_refuse_24 ?_
    refine r_iald 2 (1) dX4_refuse_25 rfl rfl rfl (by omega) (Nat.le_of_ble_eq_true rfl) ?_
    refine r_iconst (nI 1) dX4_refuse_26 (by decide +kernel) ?_
    refine r_iadd dX4_refuse_27 ?_
    refine r_iast 2 (1) ([(b 0, .inr (4, [.ref (q 0), .ref (p 0), .ref (t 0), .ref (rd), .ref (b 1), .int (nI tl), .ref (b 2)])), (b 1, .inl (cA, 120, .inl (tx))), (b 2, .inl (cA, 3, .inl (upd rf 1 ((rf 1) + (nI (1))))))]) dX4_refuse_28 rfl rfl rfl (by omega) (Nat.le_of_ble_eq_true rfl) rfl ?_
    refine r_iload_n 1 dX4_refuse_29 rfl rfl ?_
    exact r_iret (()) dX4_refuse_30 (rfl) (rfl)

set_option maxRecDepth 100000 in
set_option maxHeartbeats 4000000 in
theorem c_X4_refuse_4 (l : Launch) (D : va_G) (cA cB : ClassId) (b q p t : Nat → Nat) (rd : Nat) (tx : Nat → Int32) (tl : Nat) (rf : Nat → Int32) : Mt l D (tyS cA cB) yX4_refuse cX4_refuse 3 (some .int) ({ frames := 1, cells := 0, slots := 0, locals := 21 } : Room) [.ref (b 0), .int (-4)] (gapW cA b q p t rd tx tl rf) Unit (fun v _ => v = some (.int (-4))) (fun _ => gapW cA b q p t rd tx tl (fulR rf)) 0 0 := by
  refine mt_in RX4 ([some (.ref (b 0)), some (.int (-4)), none]) rfl (by decide +kernel) rfl (Nat.le_of_ble_eq_true rfl) rfl rfl (fun X sz => ?_)
  refine r_bipush (-2) dX4_refuse_0 (by decide +kernel) ?_
  refine r_iload_n 1 dX4_refuse_2 rfl rfl ?_
  refine r_isub dX4_refuse_3 ?_
  refine r_top (y := nI 2) (by decide +kernel) ?_
  refine r_istore_n 2 ([some (.ref (b 0)), some (.int (-4)), some (.int (nI 2))]) dX4_refuse_4 rfl (Nat.le_of_ble_eq_true rfl) rfl rfl ?_
  refine r_iload_n 2 dX4_refuse_5 rfl rfl ?_
  refine r_aload_n 0 dX4_refuse_6 rfl rfl ?_
  refine r_get 0 fk_X4_45 dX4_refuse_7 rfl rfl ?_
  refine r_alen 2 0 dX4_refuse_10 rfl rfl ?_
  refine r_top (y := nI 3) rfl ?_
  refine r_iconst (nI 1) dX4_refuse_11 (by decide +kernel) ?_
  refine r_nisub (by omega) dX4_refuse_12 ?_
  refine r_callS2 (As := [.int (nI 2), .int (nI (3 - 1))]) (st := []) (fun _ => gapW cA b q p t rd tx tl rf) [gapW cA b q p t rd tx tl rf] [] [gapW cA b q p t rd tx tl rf] (fun _ => [gapW cA b q p t rd tx tl rf]) (fun _ => []) (c_X4_within l D cA cB (nI (2)) (nI (3 - 1))) ks_X4_within ml_X4_77 dX4_refuse_13 rfl rfl (segOk [0] rfl rfl rfl rfl) (fun _ => segOk [0] rfl rfl rfl rfl) rfl (Nat.le_of_ble_eq_true rfl) (fun v u h => ?_)
  subst h
  refine r_st (st' := [.int (bI (wi (nI (2)) (nI (3 - 1))))]) rfl ?_
  refine r_bif_eq 29 dX4_refuse_16 (by decide) (fun hq1 => ?_) (fun hq1 => ?_)
  · exact absurd hq1 (by decide +kernel)
  · refine r_aload_n 0 dX4_refuse_19 rfl rfl ?_
    refine r_get 0 fk_X4_45 dX4_refuse_20 rfl rfl ?_
    refine r_iload_n 2 dX4_refuse_23 rfl rfl ?_
    refine r_dup2 rfl rfl dX4_refuse_24 ?_
    refine r_iald 2 (2) dX4_refuse_25 rfl rfl rfl (by omega) (Nat.le_of_ble_eq_true rfl) ?_
    refine r_iconst (nI 1) dX4_refuse_26 (by decide +kernel) ?_
    refine r_iadd dX4_refuse_27 ?_
    refine r_iast 2 (2) ([(b 0, .inr (4, [.ref (q 0), .ref (p 0), .ref (t 0), .ref (rd), .ref (b 1), .int (nI tl), .ref (b 2)])), (b 1, .inl (cA, 120, .inl (tx))), (b 2, .inl (cA, 3, .inl (upd rf 2 ((rf 2) + (nI (1))))))]) dX4_refuse_28 rfl rfl rfl (by omega) (Nat.le_of_ble_eq_true rfl) rfl ?_
    refine r_iload_n 1 dX4_refuse_29 rfl rfl ?_
    exact r_iret (()) dX4_refuse_30 (rfl) (rfl)

theorem srt_u {ρ : Nat → Int32} {n : Nat} {k : Int32} (hs : Srt ρ n) (hk : ¬ k = -1) {c d : Nat} (hc : c < n) (hd : d < n) (e1 : ρ (31 + c) = k) (e2 : ρ (31 + d) = k) : c = d := by
  rcases Nat.lt_trichotomy c d with h | h | h
  · have := hs c d h hd (by rw [e1]; exact hk) (by rw [e2]; exact hk)
    rw [e1, e2] at this; exact (Int32.lt_irrefl this).elim
  · exact h
  · have := hs d c h hc (by rw [e2]; exact hk) (by rw [e1]; exact hk)
    rw [e1, e2] at this; exact (Int32.lt_irrefl this).elim
theorem wi_m1 {k m : Int32} (h : wi k m = true) : ¬ k = -1 := fun e => by
  have := (of_decide_eq_true h).1
  rw [e] at this
  exact absurd this (by decide +kernel)
set_option maxRecDepth 100000 in
set_option maxHeartbeats 4000000 in
theorem c_X4_value (l : Launch) (D : va_G) (cA cB : ClassId) (b q p t : Nat → Nat) (rd : Nat) (tx : Nat → Int32) (tl : Nat) (rf : Nat → Int32) (ρ : Nat → Int32) (n : Nat) (hsz : ρ 0 = nI n) (h3 : n = 16 ∨ n = 32 ∨ n = 64) (hs : Srt ρ n) (k : Int32) : Mt l D (tyS cA cB) yX4_value cX4_value 3 (some .int) ({ frames := 2, cells := 0, slots := 0, locals := 43 } : Room) [.ref (b 0), .int (k)] (gapW cA b q p t rd tx tl rf ++ (rowW cA q ρ)) Unit (fun v _ => v = some (.int (valA ρ rf n k).1)) (fun _ => gapW cA b q p t rd tx tl ((valA ρ rf n k).2) ++ (rowW cA q ρ)) 0 0 := by
  refine mt_in RX4 ([some (.ref (b 0)), some (.int (k)), none]) rfl (by decide +kernel) rfl (Nat.le_of_ble_eq_true rfl) rfl rfl (fun X sz => ?_)
  have hb := n16 h3
  refine r_iload_n 1 dX4_value_0 rfl rfl ?_
  refine r_sipush (nI 999) dX4_value_1 (by decide +kernel) ?_
  refine r_callS2 (As := [.int (k), .int (nI 999)]) (st := []) (fun _ => gapW cA b q p t rd tx tl rf ++ (rowW cA q ρ)) [gapW cA b q p t rd tx tl rf, rowW cA q ρ] [] [gapW cA b q p t rd tx tl rf, rowW cA q ρ] (fun _ => [gapW cA b q p t rd tx tl rf, rowW cA q ρ]) (fun _ => []) (c_X4_within l D cA cB (k) (nI (999))) ks_X4_within ml_X4_77 dX4_value_4 rfl rfl (segOk [0, 1] rfl rfl rfl rfl) (fun _ => segOk [0, 1] rfl rfl rfl rfl) rfl (Nat.le_of_ble_eq_true rfl) (fun v u h => ?_)
  subst h
  refine r_st (st' := [.int (bI (wi (k) (nI (999))))]) rfl ?_
  refine r_bif_ne 17 dX4_value_7 (by decide) (fun hq1 => ?_) (fun hq1 => ?_)
  · have hk0 := wi_m1 hq1
    refine r_aload_n 0 dX4_value_17 rfl rfl ?_
    refine r_get 0 fk_X4_10 dX4_value_18 rfl rfl ?_
    refine r_iload_n 1 dX4_value_21 rfl rfl ?_
    refine r_callV2 (As := [.int (k)]) (st := []) (fun _ => gapW cA b q p t rd tx tl rf ++ (rowW cA q ρ)) [gapW cA b q p t rd tx tl rf, rowW cA q ρ] [rowW cA q ρ] [gapW cA b q p t rd tx tl rf] (fun _ => [gapW cA b q p t rd tx tl rf, rowW cA q ρ]) (fun _ => [rowW cA q ρ]) (c_X1_cellOf l D cA cB q ρ n (hsz) h3 (k) (fun c d hc hd e1 e2 => srt_u hs hk0 hc hd e1 e2)) kv_X1_cellOf ml_X4_84 dX4_value_22 rfl rfl rfl rfl (segOk [1, 0] rfl rfl rfl rfl) (fun _ => segOk [1, 0] rfl rfl rfl rfl) rfl (Nat.le_of_ble_eq_true rfl) (fun v u h => ?_)
    subst h
    refine r_st (st' := [.int (lastF ρ k n)]) rfl ?_
    refine r_istore_n 2 ([some (.ref (b 0)), some (.int (k)), some (.int (lastF ρ k n))]) dX4_value_25 rfl (Nat.le_of_ble_eq_true rfl) rfl rfl ?_
    rcases lastF_cases ρ k n with ⟨c, hc, hck, e1, e2⟩ | ⟨e1, e2⟩
    · refine r_lv (lv' := [some (.ref (b 0)), some (.int (k)), some (.int (nI c))]) (by rw [e1]) ?_
      refine r_iload_n 2 dX4_value_26 rfl rfl ?_
      refine r_iconst (-1) dX4_value_27 (by decide +kernel) ?_
      refine r_icmp_ne 40 dX4_value_28 (by decide) (fun hq2 => ?_) (fun hq2 => ?_)
      · refine r_aload_n 0 dX4_value_40 rfl rfl ?_
        refine r_get 0 fk_X4_10 dX4_value_41 rfl rfl ?_
        refine r_iload_n 2 dX4_value_44 rfl rfl ?_
        refine r_callV2 (As := [.int (nI c)]) (st := []) (fun _ => gapW cA b q p t rd tx tl rf ++ (rowW cA q ρ)) [gapW cA b q p t rd tx tl rf, rowW cA q ρ] [rowW cA q ρ] [gapW cA b q p t rd tx tl rf] (fun _ => [gapW cA b q p t rd tx tl rf, rowW cA q ρ]) (fun _ => [rowW cA q ρ]) (c_X1_valueIn l D cA cB q ρ (c) (by omega)) kv_X1_valueIn ml_X4_87 dX4_value_45 rfl rfl rfl rfl (segOk [1, 0] rfl rfl rfl rfl) (fun _ => segOk [1, 0] rfl rfl rfl rfl) rfl (Nat.le_of_ble_eq_true rfl) (fun v u h => ?_)
        subst h
        refine r_st (st' := [.int (ρ (95 + c))]) rfl ?_
        exact r_iret (()) dX4_value_48 (by unfold valA; rw [if_pos hq1, if_neg (by rw [e1]; exact nI_ne_m1 (by omega)), e2]) (by unfold valA; rw [if_pos hq1, if_neg (by rw [e1]; exact nI_ne_m1 (by omega))])
      · exact absurd hq2 (nI_ne_m1 (by omega))
    · refine r_lv (lv' := [some (.ref (b 0)), some (.int (k)), some (.int (-1))]) (by rw [e1]) ?_
      refine r_iload_n 2 dX4_value_26 rfl rfl ?_
      refine r_iconst (-1) dX4_value_27 (by decide +kernel) ?_
      refine r_icmp_ne 40 dX4_value_28 (by decide) (fun hq3 => ?_) (fun hq3 => ?_)
      · exact absurd rfl hq3
      · refine r_aload_n 0 dX4_value_31 rfl rfl ?_
        refine r_bipush (-3) dX4_value_32 (by decide +kernel) ?_
        refine r_callV2 (As := [.int (-3)]) (st := []) (fun _ => gapW cA b q p t rd tx tl (noR rf) ++ (rowW cA q ρ)) [gapW cA b q p t rd tx tl rf, rowW cA q ρ] [gapW cA b q p t rd tx tl rf] [rowW cA q ρ] (fun _ => [gapW cA b q p t rd tx tl (noR rf), rowW cA q ρ]) (fun _ => [gapW cA b q p t rd tx tl (noR rf)]) (c_X4_refuse_3 l D cA cB b q p t rd tx tl rf) kv_X4_refuse ml_X4_81 dX4_value_34 rfl rfl rfl rfl (segOk [0, 1] rfl rfl rfl rfl) (fun _ => segOk [0, 1] rfl rfl rfl rfl) rfl (Nat.le_of_ble_eq_true rfl) (fun v u h => ?_)
        subst h
        refine r_st (st' := [.int (-3)]) rfl ?_
        refine r_goto 48 dX4_value_37 (by decide) ?_
        exact r_iret (()) dX4_value_48 (by unfold valA; rw [if_pos hq1, if_pos e1]) (by unfold valA; rw [if_pos hq1, if_pos e1])
  · refine r_aload_n 0 dX4_value_10 rfl rfl ?_
    refine r_bipush (-2) dX4_value_11 (by decide +kernel) ?_
    refine r_callV2 (As := [.int (-2)]) (st := []) (fun _ => gapW cA b q p t rd tx tl (badR rf) ++ (rowW cA q ρ)) [gapW cA b q p t rd tx tl rf, rowW cA q ρ] [gapW cA b q p t rd tx tl rf] [rowW cA q ρ] (fun _ => [gapW cA b q p t rd tx tl (badR rf), rowW cA q ρ]) (fun _ => [gapW cA b q p t rd tx tl (badR rf)]) (c_X4_refuse_2 l D cA cB b q p t rd tx tl rf) kv_X4_refuse ml_X4_81 dX4_value_13 rfl rfl rfl rfl (segOk [0, 1] rfl rfl rfl rfl) (fun _ => segOk [0, 1] rfl rfl rfl rfl) rfl (Nat.le_of_ble_eq_true rfl) (fun v u h => ?_)
    subst h
    refine r_st (st' := [.int (-2)]) rfl ?_
    exact r_iret (()) dX4_value_16 (by unfold valA; rw [if_neg (ne_t hq1)]) (by unfold valA; rw [if_neg (ne_t hq1)])

set_option maxRecDepth 100000 in
set_option maxHeartbeats 4000000 in
theorem c_X4_cell (l : Launch) (D : va_G) (cA cB : ClassId) (b q p t : Nat → Nat) (rd : Nat) (tx : Nat → Int32) (tl : Nat) (rf : Nat → Int32) (ρ : Nat → Int32) (n : Nat) (hsz : ρ 0 = nI n) (h3 : n = 16 ∨ n = 32 ∨ n = 64) (hs : Srt ρ n) (k : Int32) : Mt l D (tyS cA cB) yX4_cell cX4_cell 2 (some .int) ({ frames := 2, cells := 0, slots := 0, locals := 43 } : Room) [.ref (b 0), .int (k)] (gapW cA b q p t rd tx tl rf ++ (rowW cA q ρ)) Unit (fun v _ => v = some (.int (celA ρ rf n k).1)) (fun _ => gapW cA b q p t rd tx tl ((celA ρ rf n k).2) ++ (rowW cA q ρ)) 0 0 := by
  refine mt_in RX4 ([some (.ref (b 0)), some (.int (k))]) rfl (by decide +kernel) rfl (Nat.le_of_ble_eq_true rfl) rfl rfl (fun X sz => ?_)
  have hb := n16 h3
  refine r_iload_n 1 dX4_cell_0 rfl rfl ?_
  refine r_sipush (nI 999) dX4_cell_1 (by decide +kernel) ?_
  refine r_callS2 (As := [.int (k), .int (nI 999)]) (st := []) (fun _ => gapW cA b q p t rd tx tl rf ++ (rowW cA q ρ)) [gapW cA b q p t rd tx tl rf, rowW cA q ρ] [] [gapW cA b q p t rd tx tl rf, rowW cA q ρ] (fun _ => [gapW cA b q p t rd tx tl rf, rowW cA q ρ]) (fun _ => []) (c_X4_within l D cA cB (k) (nI (999))) ks_X4_within ml_X4_77 dX4_cell_4 rfl rfl (segOk [0, 1] rfl rfl rfl rfl) (fun _ => segOk [0, 1] rfl rfl rfl rfl) rfl (Nat.le_of_ble_eq_true rfl) (fun v u h => ?_)
  subst h
  refine r_st (st' := [.int (bI (wi (k) (nI (999))))]) rfl ?_
  refine r_bif_eq 21 dX4_cell_7 (by decide) (fun hq1 => ?_) (fun hq1 => ?_)
  · refine r_aload_n 0 dX4_cell_21 rfl rfl ?_
    refine r_bipush (-2) dX4_cell_22 (by decide +kernel) ?_
    refine r_callV2 (As := [.int (-2)]) (st := []) (fun _ => gapW cA b q p t rd tx tl (badR rf) ++ (rowW cA q ρ)) [gapW cA b q p t rd tx tl rf, rowW cA q ρ] [gapW cA b q p t rd tx tl rf] [rowW cA q ρ] (fun _ => [gapW cA b q p t rd tx tl (badR rf), rowW cA q ρ]) (fun _ => [gapW cA b q p t rd tx tl (badR rf)]) (c_X4_refuse_2 l D cA cB b q p t rd tx tl rf) kv_X4_refuse ml_X4_81 dX4_cell_24 rfl rfl rfl rfl (segOk [0, 1] rfl rfl rfl rfl) (fun _ => segOk [0, 1] rfl rfl rfl rfl) rfl (Nat.le_of_ble_eq_true rfl) (fun v u h => ?_)
    subst h
    refine r_st (st' := [.int (-2)]) rfl ?_
    exact r_iret (()) dX4_cell_27 (by unfold celA; rw [if_neg (ne_t hq1)]) (by unfold celA; rw [if_neg (ne_t hq1)])
  · have hk0 := wi_m1 hq1
    refine r_aload_n 0 dX4_cell_10 rfl rfl ?_
    refine r_get 0 fk_X4_10 dX4_cell_11 rfl rfl ?_
    refine r_iload_n 1 dX4_cell_14 rfl rfl ?_
    refine r_callV2 (As := [.int (k)]) (st := []) (fun _ => gapW cA b q p t rd tx tl rf ++ (rowW cA q ρ)) [gapW cA b q p t rd tx tl rf, rowW cA q ρ] [rowW cA q ρ] [gapW cA b q p t rd tx tl rf] (fun _ => [gapW cA b q p t rd tx tl rf, rowW cA q ρ]) (fun _ => [rowW cA q ρ]) (c_X1_cellOf l D cA cB q ρ n (hsz) h3 (k) (fun c d hc hd e1 e2 => srt_u hs hk0 hc hd e1 e2)) kv_X1_cellOf ml_X4_84 dX4_cell_15 rfl rfl rfl rfl (segOk [1, 0] rfl rfl rfl rfl) (fun _ => segOk [1, 0] rfl rfl rfl rfl) rfl (Nat.le_of_ble_eq_true rfl) (fun v u h => ?_)
    subst h
    refine r_st (st' := [.int (lastF ρ k n)]) rfl ?_
    refine r_goto 27 dX4_cell_18 (by decide) ?_
    exact r_iret (()) dX4_cell_27 (by unfold celA; rw [if_pos hq1]) (by unfold celA; rw [if_pos hq1])

set_option maxRecDepth 100000 in
set_option maxHeartbeats 4000000 in
theorem c_X4_at (l : Launch) (D : va_G) (cA cB : ClassId) (b q p t : Nat → Nat) (rd : Nat) (tx : Nat → Int32) (tl : Nat) (rf : Nat → Int32) (ρ : Nat → Int32) (n : Nat) (hsz : ρ 0 = nI n) (h3 : n = 16 ∨ n = 32 ∨ n = 64) (c : Int32) : Mt l D (tyS cA cB) yX4_at cX4_at 2 (some .int) ({ frames := 2, cells := 0, slots := 0, locals := 43 } : Room) [.ref (b 0), .int (c)] (gapW cA b q p t rd tx tl rf ++ (rowW cA q ρ)) Unit (fun v _ => v = some (.int (atA ρ rf n c).1)) (fun _ => gapW cA b q p t rd tx tl ((atA ρ rf n c).2) ++ (rowW cA q ρ)) 0 0 := by
  refine mt_in RX4 ([some (.ref (b 0)), some (.int (c))]) rfl (by decide +kernel) rfl (Nat.le_of_ble_eq_true rfl) rfl rfl (fun X sz => ?_)
  have hb := n16 h3
  refine r_iload_n 1 dX4_at_0 rfl rfl ?_
  refine r_aload_n 0 dX4_at_1 rfl rfl ?_
  refine r_get 0 fk_X4_10 dX4_at_2 rfl rfl ?_
  refine r_get 3 fk_X4_70 dX4_at_5 rfl rfl ?_
  refine r_top (y := nI (n)) (hsz) ?_
  refine r_iconst (nI 1) dX4_at_8 (by decide +kernel) ?_
  refine r_nisub (by omega) dX4_at_9 ?_
  refine r_callS2 (As := [.int (c), .int (nI (n - 1))]) (st := []) (fun _ => gapW cA b q p t rd tx tl rf ++ (rowW cA q ρ)) [gapW cA b q p t rd tx tl rf, rowW cA q ρ] [] [gapW cA b q p t rd tx tl rf, rowW cA q ρ] (fun _ => [gapW cA b q p t rd tx tl rf, rowW cA q ρ]) (fun _ => []) (c_X4_within l D cA cB (c) (nI (n - 1))) ks_X4_within ml_X4_77 dX4_at_10 rfl rfl (segOk [0, 1] rfl rfl rfl rfl) (fun _ => segOk [0, 1] rfl rfl rfl rfl) rfl (Nat.le_of_ble_eq_true rfl) (fun v u h => ?_)
  subst h
  refine r_st (st' := [.int (bI (wi (c) (nI (n - 1))))]) rfl ?_
  refine r_bif_eq 27 dX4_at_13 (by decide) (fun hq1 => ?_) (fun hq1 => ?_)
  · refine r_aload_n 0 dX4_at_27 rfl rfl ?_
    refine r_bipush (-2) dX4_at_28 (by decide +kernel) ?_
    refine r_callV2 (As := [.int (-2)]) (st := []) (fun _ => gapW cA b q p t rd tx tl (badR rf) ++ (rowW cA q ρ)) [gapW cA b q p t rd tx tl rf, rowW cA q ρ] [gapW cA b q p t rd tx tl rf] [rowW cA q ρ] (fun _ => [gapW cA b q p t rd tx tl (badR rf), rowW cA q ρ]) (fun _ => [gapW cA b q p t rd tx tl (badR rf)]) (c_X4_refuse_2 l D cA cB b q p t rd tx tl rf) kv_X4_refuse ml_X4_81 dX4_at_30 rfl rfl rfl rfl (segOk [0, 1] rfl rfl rfl rfl) (fun _ => segOk [0, 1] rfl rfl rfl rfl) rfl (Nat.le_of_ble_eq_true rfl) (fun v u h => ?_)
    subst h
    refine r_st (st' := [.int (-2)]) rfl ?_
    exact r_iret (()) dX4_at_33 (by unfold atA; rw [if_neg (ne_t hq1)]) (by unfold atA; rw [if_neg (ne_t hq1)])
  · obtain ⟨i, hi, rfl⟩ := wi_ex (by omega) hq1
    refine r_aload_n 0 dX4_at_16 rfl rfl ?_
    refine r_get 0 fk_X4_10 dX4_at_17 rfl rfl ?_
    refine r_iload_n 1 dX4_at_20 rfl rfl ?_
    refine r_callV2 (As := [.int (nI i)]) (st := []) (fun _ => gapW cA b q p t rd tx tl rf ++ (rowW cA q ρ)) [gapW cA b q p t rd tx tl rf, rowW cA q ρ] [rowW cA q ρ] [gapW cA b q p t rd tx tl rf] (fun _ => [gapW cA b q p t rd tx tl rf, rowW cA q ρ]) (fun _ => [rowW cA q ρ]) (c_X1_keyIn l D cA cB q ρ (i) (by omega)) kv_X1_keyIn ml_X4_90 dX4_at_21 rfl rfl rfl rfl (segOk [1, 0] rfl rfl rfl rfl) (fun _ => segOk [1, 0] rfl rfl rfl rfl) rfl (Nat.le_of_ble_eq_true rfl) (fun v u h => ?_)
    subst h
    refine r_st (st' := [.int (ρ (31 + i))]) rfl ?_
    refine r_goto 33 dX4_at_24 (by decide) ?_
    exact r_iret (()) dX4_at_33 (by unfold atA; rw [if_pos hq1, nI_clamp (by omega)]) (by unfold atA; rw [if_pos hq1])

set_option maxRecDepth 100000 in
set_option maxHeartbeats 4000000 in
theorem c_X4_rank (l : Launch) (D : va_G) (cA cB : ClassId) (b q p t : Nat → Nat) (rd : Nat) (tx : Nat → Int32) (tl : Nat) (rf : Nat → Int32) (ρ : Nat → Int32) (n : Nat) (hsz : ρ 0 = nI n) (h3 : n = 16 ∨ n = 32 ∨ n = 64) (k : Int32) : Mt l D (tyS cA cB) yX4_rank cX4_rank 2 (some .int) ({ frames := 2, cells := 0, slots := 0, locals := 44 } : Room) [.ref (b 0), .int (k)] (gapW cA b q p t rd tx tl rf ++ (rowW cA q ρ)) Unit (fun v _ => v = some (.int (rnkA ρ rf n k).1)) (fun _ => gapW cA b q p t rd tx tl ((rnkA ρ rf n k).2) ++ (rowW cA q ρ)) 0 0 := by
  refine mt_in RX4 ([some (.ref (b 0)), some (.int (k))]) rfl (by decide +kernel) rfl (Nat.le_of_ble_eq_true rfl) rfl rfl (fun X sz => ?_)
  have hb := n16 h3
  refine r_iload_n 1 dX4_rank_0 rfl rfl ?_
  refine r_sipush (nI 1000) dX4_rank_1 (by decide +kernel) ?_
  refine r_callS2 (As := [.int (k), .int (nI 1000)]) (st := []) (fun _ => gapW cA b q p t rd tx tl rf ++ (rowW cA q ρ)) [gapW cA b q p t rd tx tl rf, rowW cA q ρ] [] [gapW cA b q p t rd tx tl rf, rowW cA q ρ] (fun _ => [gapW cA b q p t rd tx tl rf, rowW cA q ρ]) (fun _ => []) (c_X4_within l D cA cB (k) (nI (1000))) ks_X4_within ml_X4_77 dX4_rank_4 rfl rfl (segOk [0, 1] rfl rfl rfl rfl) (fun _ => segOk [0, 1] rfl rfl rfl rfl) rfl (Nat.le_of_ble_eq_true rfl) (fun v u h => ?_)
  subst h
  refine r_st (st' := [.int (bI (wi (k) (nI (1000))))]) rfl ?_
  refine r_bif_eq 21 dX4_rank_7 (by decide) (fun hq1 => ?_) (fun hq1 => ?_)
  · refine r_aload_n 0 dX4_rank_21 rfl rfl ?_
    refine r_bipush (-2) dX4_rank_22 (by decide +kernel) ?_
    refine r_callV2 (As := [.int (-2)]) (st := []) (fun _ => gapW cA b q p t rd tx tl (badR rf) ++ (rowW cA q ρ)) [gapW cA b q p t rd tx tl rf, rowW cA q ρ] [gapW cA b q p t rd tx tl rf] [rowW cA q ρ] (fun _ => [gapW cA b q p t rd tx tl (badR rf), rowW cA q ρ]) (fun _ => [gapW cA b q p t rd tx tl (badR rf)]) (c_X4_refuse_2 l D cA cB b q p t rd tx tl rf) kv_X4_refuse ml_X4_81 dX4_rank_24 rfl rfl rfl rfl (segOk [0, 1] rfl rfl rfl rfl) (fun _ => segOk [0, 1] rfl rfl rfl rfl) rfl (Nat.le_of_ble_eq_true rfl) (fun v u h => ?_)
    subst h
    refine r_st (st' := [.int (-2)]) rfl ?_
    exact r_iret (()) dX4_rank_27 (by unfold rnkA; rw [if_neg (ne_t hq1)]) (by unfold rnkA; rw [if_neg (ne_t hq1)])
  · refine r_aload_n 0 dX4_rank_10 rfl rfl ?_
    refine r_get 0 fk_X4_10 dX4_rank_11 rfl rfl ?_
    refine r_iload_n 1 dX4_rank_14 rfl rfl ?_
    refine r_callV2 (As := [.int (k)]) (st := []) (fun _ => gapW cA b q p t rd tx tl rf ++ (rowW cA q ρ)) [gapW cA b q p t rd tx tl rf, rowW cA q ρ] [rowW cA q ρ] [gapW cA b q p t rd tx tl rf] (fun _ => [gapW cA b q p t rd tx tl rf, rowW cA q ρ]) (fun _ => [rowW cA q ρ]) (c_X1_keysBelow l D cA cB q ρ n (hsz) h3 (k)) kv_X1_keysBelow ml_X4_93 dX4_rank_15 rfl rfl rfl rfl (segOk [1, 0] rfl rfl rfl rfl) (fun _ => segOk [1, 0] rfl rfl rfl rfl) rfl (Nat.le_of_ble_eq_true rfl) (fun v u h => ?_)
    subst h
    refine r_st (st' := [.int (nI (blw ρ k n))]) rfl ?_
    refine r_goto 27 dX4_rank_18 (by decide) ?_
    exact r_iret (()) dX4_rank_27 (by unfold rnkA; rw [if_pos hq1]) (by unfold rnkA; rw [if_pos hq1])

set_option maxRecDepth 100000 in
set_option maxHeartbeats 4000000 in
theorem c_X4_key (l : Launch) (D : va_G) (cA cB : ClassId) (b q p t : Nat → Nat) (rd : Nat) (tx : Nat → Int32) (tl : Nat) (rf : Nat → Int32) (ρ : Nat → Int32) (n : Nat) (hsz : ρ 0 = nI n) (h3 : n = 16 ∨ n = 32 ∨ n = 64) (i : Int32) : Mt l D (tyS cA cB) yX4_key cX4_key 2 (some .int) ({ frames := 3, cells := 0, slots := 0, locals := 65 } : Room) [.ref (b 0), .int (i)] (gapW cA b q p t rd tx tl rf ++ (rowW cA q ρ)) Unit (fun v _ => v = some (.int (keyA ρ rf n i).1)) (fun _ => gapW cA b q p t rd tx tl ((keyA ρ rf n i).2) ++ (rowW cA q ρ)) 0 0 := by
  refine mt_in RX4 ([some (.ref (b 0)), some (.int (i))]) rfl (by decide +kernel) rfl (Nat.le_of_ble_eq_true rfl) rfl rfl (fun X sz => ?_)
  have hb := n16 h3
  refine r_iload_n 1 dX4_key_0 rfl rfl ?_
  refine r_if_lt 15 dX4_key_1 (by decide) (fun hq1 => ?_) (fun hq1 => ?_)
  · refine r_aload_n 0 dX4_key_15 rfl rfl ?_
    refine r_bipush (-2) dX4_key_16 (by decide +kernel) ?_
    refine r_callV2 (As := [.int (-2)]) (st := []) (fun _ => gapW cA b q p t rd tx tl (badR rf) ++ (rowW cA q ρ)) [gapW cA b q p t rd tx tl rf, rowW cA q ρ] [gapW cA b q p t rd tx tl rf] [rowW cA q ρ] (fun _ => [gapW cA b q p t rd tx tl (badR rf), rowW cA q ρ]) (fun _ => [gapW cA b q p t rd tx tl (badR rf)]) (c_X4_refuse_2 l D cA cB b q p t rd tx tl rf) kv_X4_refuse ml_X4_81 dX4_key_18 rfl rfl rfl rfl (segOk [0, 1] rfl rfl rfl rfl) (fun _ => segOk [0, 1] rfl rfl rfl rfl) rfl (Nat.le_of_ble_eq_true rfl) (fun v u h => ?_)
    subst h
    refine r_st (st' := [.int (-2)]) rfl ?_
    exact r_iret (()) dX4_key_21 (by unfold keyA; rw [if_pos hq1]) (by unfold keyA; rw [if_pos hq1])
  · obtain ⟨j, hj, rfl⟩ := c_ge0 hq1
    refine r_aload_n 0 dX4_key_4 rfl rfl ?_
    refine r_get 0 fk_X4_10 dX4_key_5 rfl rfl ?_
    refine r_iload_n 1 dX4_key_8 rfl rfl ?_
    refine r_callV2 (As := [.int (nI j)]) (st := []) (fun _ => gapW cA b q p t rd tx tl rf ++ (rowW cA q ρ)) [gapW cA b q p t rd tx tl rf, rowW cA q ρ] [rowW cA q ρ] [gapW cA b q p t rd tx tl rf] (fun _ => [gapW cA b q p t rd tx tl rf, rowW cA q ρ]) (fun _ => [rowW cA q ρ]) (c_X1_keyNumber l D cA cB q ρ n (hsz) h3 (j) (by omega)) kv_X1_keyNumber ml_X4_96 dX4_key_9 rfl rfl rfl rfl (segOk [1, 0] rfl rfl rfl rfl) (fun _ => segOk [1, 0] rfl rfl rfl rfl) rfl (Nat.le_of_ble_eq_true rfl) (fun v u h => ?_)
    subst h
    refine r_st (st' := [.int (keyNF ρ j n)]) rfl ?_
    refine r_goto 21 dX4_key_12 (by decide) ?_
    exact r_iret (()) dX4_key_21 (by unfold keyA; rw [if_neg hq1, nI_clamp hj]) (by unfold keyA; rw [if_neg hq1])

set_option maxRecDepth 100000 in
set_option maxHeartbeats 4000000 in
theorem c_X4_scan (l : Launch) (D : va_G) (cA cB : ClassId) (b q p t : Nat → Nat) (rd : Nat) (tx : Nat → Int32) (tl : Nat) (rf : Nat → Int32) (ρ : Nat → Int32) (n : Nat) (hsz : ρ 0 = nI n) (h3 : n = 16 ∨ n = 32 ∨ n = 64) (a b2 w : Int32) : Mt l D (tyS cA cB) yX4_scan cX4_scan 4 (some .int) ({ frames := 3, cells := 0, slots := 0, locals := 68 } : Room) [.ref (b 0), .int (a), .int (b2), .int (w)] (gapW cA b q p t rd tx tl rf ++ (rowW cA q ρ)) Unit (fun v _ => v = some (.int (scnA ρ rf n a b2 w).1)) (fun _ => gapW cA b q p t rd tx tl ((scnA ρ rf n a b2 w).2) ++ (rowW cA q ρ)) 0 0 := by
  refine mt_in RX4 ([some (.ref (b 0)), some (.int (a)), some (.int (b2)), some (.int (w))]) rfl (by decide +kernel) rfl (Nat.le_of_ble_eq_true rfl) rfl rfl (fun X sz => ?_)
  have hb := n16 h3
  have y1 := blw_le ρ a n
  have y2 := blw_le ρ (b2 + 1) n
  refine r_iload_n 1 dX4_scan_0 rfl rfl ?_
  refine r_iload_n 2 dX4_scan_1 rfl rfl ?_
  refine r_callS2 (As := [.int (a), .int (b2)]) (st := []) (fun _ => gapW cA b q p t rd tx tl rf ++ (rowW cA q ρ)) [gapW cA b q p t rd tx tl rf, rowW cA q ρ] [] [gapW cA b q p t rd tx tl rf, rowW cA q ρ] (fun _ => [gapW cA b q p t rd tx tl rf, rowW cA q ρ]) (fun _ => []) (c_X4_isSpan l D cA cB (a) (b2)) ks_X4_isSpan ml_X4_99 dX4_scan_2 rfl rfl (segOk [0, 1] rfl rfl rfl rfl) (fun _ => segOk [0, 1] rfl rfl rfl rfl) rfl (Nat.le_of_ble_eq_true rfl) (fun v u h => ?_)
  subst h
  refine r_st (st' := [.int (bI (spanB a b2))]) rfl ?_
  refine r_bif_eq 16 dX4_scan_5 (by decide) (fun hq1 => ?_) (fun hq1 => ?_)
  · refine r_aload_n 0 dX4_scan_16 rfl rfl ?_
    refine r_bipush (-2) dX4_scan_17 (by decide +kernel) ?_
    refine r_callV2 (As := [.int (-2)]) (st := []) (fun _ => gapW cA b q p t rd tx tl (badR rf) ++ (rowW cA q ρ)) [gapW cA b q p t rd tx tl rf, rowW cA q ρ] [gapW cA b q p t rd tx tl rf] [rowW cA q ρ] (fun _ => [gapW cA b q p t rd tx tl (badR rf), rowW cA q ρ]) (fun _ => [gapW cA b q p t rd tx tl (badR rf)]) (c_X4_refuse_2 l D cA cB b q p t rd tx tl rf) kv_X4_refuse ml_X4_81 dX4_scan_19 rfl rfl rfl rfl (segOk [0, 1] rfl rfl rfl rfl) (fun _ => segOk [0, 1] rfl rfl rfl rfl) rfl (Nat.le_of_ble_eq_true rfl) (fun v u h => ?_)
    subst h
    refine r_st (st' := [.int (-2)]) rfl ?_
    exact r_iret (()) dX4_scan_22 (by unfold scnA; rw [if_neg (by rw [hq1, Bool.false_and]; decide)]) (by unfold scnA; rw [if_neg (by rw [hq1, Bool.false_and]; decide)])
  · refine r_iload_n 3 dX4_scan_8 rfl rfl ?_
    refine r_iconst (nI 2) dX4_scan_9 (by decide +kernel) ?_
    refine r_callS2 (As := [.int (w), .int (nI 2)]) (st := []) (fun _ => gapW cA b q p t rd tx tl rf ++ (rowW cA q ρ)) [gapW cA b q p t rd tx tl rf, rowW cA q ρ] [] [gapW cA b q p t rd tx tl rf, rowW cA q ρ] (fun _ => [gapW cA b q p t rd tx tl rf, rowW cA q ρ]) (fun _ => []) (c_X4_within l D cA cB (w) (nI (2))) ks_X4_within ml_X4_77 dX4_scan_10 rfl rfl (segOk [0, 1] rfl rfl rfl rfl) (fun _ => segOk [0, 1] rfl rfl rfl rfl) rfl (Nat.le_of_ble_eq_true rfl) (fun v u h => ?_)
    subst h
    refine r_st (st' := [.int (bI (wi (w) (nI (2))))]) rfl ?_
    refine r_bif_ne 23 dX4_scan_13 (by decide) (fun hq2 => ?_) (fun hq2 => ?_)
    · have hab : a ≤ b2 + 1 := by have z := hq1; unfold spanB at z; simp only [Bool.and_eq_true, decide_eq_true_eq] at z; exact le_b1 z.1.2 z.2
      have hok : (spanB a b2 && wi w (nI 2)) = true := by rw [hq1, hq2]; rfl
      refine r_iload_n 3 dX4_scan_23 rfl rfl ?_
      refine r_if_ne 47 dX4_scan_24 (by decide) (fun hq3 => ?_) (fun hq3 => ?_)
      · refine r_iload_n 3 dX4_scan_47 rfl rfl ?_
        refine r_iconst (nI 1) dX4_scan_48 (by decide +kernel) ?_
        refine r_icmp_ne 64 dX4_scan_49 (by decide) (fun hq4 => ?_) (fun hq4 => ?_)
        · refine r_aload_n 0 dX4_scan_64 rfl rfl ?_
          refine r_get 0 fk_X4_10 dX4_scan_65 rfl rfl ?_
          refine r_iload_n 1 dX4_scan_68 rfl rfl ?_
          refine r_iload_n 2 dX4_scan_69 rfl rfl ?_
          refine r_callV2 (As := [.int (a), .int (b2)]) (st := []) (fun _ => gapW cA b q p t rd tx tl rf ++ (rowW cA q ρ)) [gapW cA b q p t rd tx tl rf, rowW cA q ρ] [rowW cA q ρ] [gapW cA b q p t rd tx tl rf] (fun _ => [gapW cA b q p t rd tx tl rf, rowW cA q ρ]) (fun _ => [rowW cA q ρ]) (c_X1_cellsRead l D cA cB q ρ n (hsz) h3 (a) (b2) hab) kv_X1_cellsRead ml_X4_105 dX4_scan_70 rfl rfl rfl rfl (segOk [1, 0] rfl rfl rfl rfl) (fun _ => segOk [1, 0] rfl rfl rfl rfl) rfl (Nat.le_of_ble_eq_true rfl) (fun v u h => ?_)
          subst h
          refine r_st (st' := [.int (crdF ρ a b2 n)]) rfl ?_
          exact r_iret (()) dX4_scan_73 (by unfold scnA; rw [if_pos hok]; dsimp only; rw [if_neg hq3, if_neg hq4] <;> rfl) (by unfold scnA; rw [if_pos hok])
        · refine r_aload_n 0 dX4_scan_52 rfl rfl ?_
          refine r_get 0 fk_X4_10 dX4_scan_53 rfl rfl ?_
          refine r_iload_n 1 dX4_scan_56 rfl rfl ?_
          refine r_iload_n 2 dX4_scan_57 rfl rfl ?_
          refine r_callV2 (As := [.int (a), .int (b2)]) (st := []) (fun _ => gapW cA b q p t rd tx tl rf ++ (rowW cA q ρ)) [gapW cA b q p t rd tx tl rf, rowW cA q ρ] [rowW cA q ρ] [gapW cA b q p t rd tx tl rf] (fun _ => [gapW cA b q p t rd tx tl rf, rowW cA q ρ]) (fun _ => [rowW cA q ρ]) (c_X1_valuesFrom l D cA cB q ρ n (hsz) h3 (a) (b2)) kv_X1_valuesFrom ml_X4_102 dX4_scan_58 rfl rfl rfl rfl (segOk [1, 0] rfl rfl rfl rfl) (fun _ => segOk [1, 0] rfl rfl rfl rfl) rfl (Nat.le_of_ble_eq_true rfl) (fun v u h => ?_)
          subst h
          refine r_st (st' := [.int (vsum ρ a b2 n)]) rfl ?_
          refine r_goto 73 dX4_scan_61 (by decide) ?_
          exact r_iret (()) dX4_scan_73 (by unfold scnA; rw [if_pos hok]; dsimp only; rw [if_neg hq3, if_pos hq4] <;> rfl) (by unfold scnA; rw [if_pos hok])
      · refine r_aload_n 0 dX4_scan_27 rfl rfl ?_
        refine r_get 0 fk_X4_10 dX4_scan_28 rfl rfl ?_
        refine r_iload_n 2 dX4_scan_31 rfl rfl ?_
        refine r_iconst (nI 1) dX4_scan_32 (by decide +kernel) ?_
        refine r_iadd dX4_scan_33 ?_
        refine r_top (y := b2 + 1) rfl ?_
        refine r_callV2 (As := [.int (b2 + 1)]) (st := []) (fun _ => gapW cA b q p t rd tx tl rf ++ (rowW cA q ρ)) [gapW cA b q p t rd tx tl rf, rowW cA q ρ] [rowW cA q ρ] [gapW cA b q p t rd tx tl rf] (fun _ => [gapW cA b q p t rd tx tl rf, rowW cA q ρ]) (fun _ => [rowW cA q ρ]) (c_X1_keysBelow l D cA cB q ρ n (hsz) h3 (b2 + 1)) kv_X1_keysBelow ml_X4_93 dX4_scan_34 rfl rfl rfl rfl (segOk [1, 0] rfl rfl rfl rfl) (fun _ => segOk [1, 0] rfl rfl rfl rfl) rfl (Nat.le_of_ble_eq_true rfl) (fun v u h => ?_)
        subst h
        refine r_st (st' := [.int (nI (blw ρ (b2 + 1) n))]) rfl ?_
        refine r_aload_n 0 dX4_scan_37 rfl rfl ?_
        refine r_get 0 fk_X4_10 dX4_scan_38 rfl rfl ?_
        refine r_iload_n 1 dX4_scan_41 rfl rfl ?_
        refine r_callV2 (As := [.int (a)]) (st := [.int (nI (blw ρ (b2 + 1) n))]) (fun _ => gapW cA b q p t rd tx tl rf ++ (rowW cA q ρ)) [gapW cA b q p t rd tx tl rf, rowW cA q ρ] [rowW cA q ρ] [gapW cA b q p t rd tx tl rf] (fun _ => [gapW cA b q p t rd tx tl rf, rowW cA q ρ]) (fun _ => [rowW cA q ρ]) (c_X1_keysBelow l D cA cB q ρ n (hsz) h3 (a)) kv_X1_keysBelow ml_X4_93 dX4_scan_42 rfl rfl rfl rfl (segOk [1, 0] rfl rfl rfl rfl) (fun _ => segOk [1, 0] rfl rfl rfl rfl) rfl (Nat.le_of_ble_eq_true rfl) (fun v u h => ?_)
        subst h
        refine r_st (st' := [.int (nI (blw ρ a n)), .int (nI (blw ρ (b2 + 1) n))]) rfl ?_
        refine r_isub dX4_scan_45 ?_
        exact r_iret (()) dX4_scan_46 (by unfold scnA; rw [if_pos hok]; dsimp only; rw [if_pos hq3] <;> rfl) (by unfold scnA; rw [if_pos hok])
    · refine r_aload_n 0 dX4_scan_16 rfl rfl ?_
      refine r_bipush (-2) dX4_scan_17 (by decide +kernel) ?_
      refine r_callV2 (As := [.int (-2)]) (st := []) (fun _ => gapW cA b q p t rd tx tl (badR rf) ++ (rowW cA q ρ)) [gapW cA b q p t rd tx tl rf, rowW cA q ρ] [gapW cA b q p t rd tx tl rf] [rowW cA q ρ] (fun _ => [gapW cA b q p t rd tx tl (badR rf), rowW cA q ρ]) (fun _ => [gapW cA b q p t rd tx tl (badR rf)]) (c_X4_refuse_2 l D cA cB b q p t rd tx tl rf) kv_X4_refuse ml_X4_81 dX4_scan_19 rfl rfl rfl rfl (segOk [0, 1] rfl rfl rfl rfl) (fun _ => segOk [0, 1] rfl rfl rfl rfl) rfl (Nat.le_of_ble_eq_true rfl) (fun v u h => ?_)
      subst h
      refine r_st (st' := [.int (-2)]) rfl ?_
      exact r_iret (()) dX4_scan_22 (by unfold scnA; rw [if_neg (by rw [hq1, hq2]; decide)]) (by unfold scnA; rw [if_neg (by rw [hq1, hq2]; decide)])

set_option maxRecDepth 100000 in
set_option maxHeartbeats 4000000 in
theorem c_X4_index (l : Launch) (D : va_G) (cA cB : ClassId) (b q p t : Nat → Nat) (rd : Nat) (tx : Nat → Int32) (tl : Nat) (rf : Nat → Int32) (ρ : Nat → Int32) (n : Nat) (hsz : ρ 0 = nI n) (h3 : n = 16 ∨ n = 32 ∨ n = 64) (g : Int32) : Mt l D (tyS cA cB) yX4_index cX4_index 2 (some .int) ({ frames := 2, cells := 0, slots := 0, locals := 44 } : Room) [.ref (b 0), .int (g)] (gapW cA b q p t rd tx tl rf ++ (rowW cA q ρ)) Unit (fun v _ => v = some (.int (idxA ρ rf n g).1)) (fun _ => gapW cA b q p t rd tx tl ((idxA ρ rf n g).2) ++ (rowW cA q ρ)) 0 0 := by
  refine mt_in RX4 ([some (.ref (b 0)), some (.int (g))]) rfl (by decide +kernel) rfl (Nat.le_of_ble_eq_true rfl) rfl rfl (fun X sz => ?_)
  have hb := n16 h3
  refine r_iload_n 1 dX4_index_0 rfl rfl ?_
  refine r_aload_n 0 dX4_index_1 rfl rfl ?_
  refine r_get 0 fk_X4_10 dX4_index_2 rfl rfl ?_
  refine r_get 3 fk_X4_70 dX4_index_5 rfl rfl ?_
  refine r_top (y := nI (n)) (hsz) ?_
  refine r_iconst (nI 4) dX4_index_8 (by decide +kernel) ?_
  refine r_nidiv (by omega) (by omega) (by omega) dX4_index_9 ?_
  refine r_iconst (nI 1) dX4_index_10 (by decide +kernel) ?_
  refine r_nisub (by omega) dX4_index_11 ?_
  refine r_callS2 (As := [.int (g), .int (nI ((n / 4) - 1))]) (st := []) (fun _ => gapW cA b q p t rd tx tl rf ++ (rowW cA q ρ)) [gapW cA b q p t rd tx tl rf, rowW cA q ρ] [] [gapW cA b q p t rd tx tl rf, rowW cA q ρ] (fun _ => [gapW cA b q p t rd tx tl rf, rowW cA q ρ]) (fun _ => []) (c_X4_within l D cA cB (g) (nI ((n / 4) - 1))) ks_X4_within ml_X4_77 dX4_index_12 rfl rfl (segOk [0, 1] rfl rfl rfl rfl) (fun _ => segOk [0, 1] rfl rfl rfl rfl) rfl (Nat.le_of_ble_eq_true rfl) (fun v u h => ?_)
  subst h
  refine r_st (st' := [.int (bI (wi (g) (nI ((n / 4) - 1))))]) rfl ?_
  refine r_bif_eq 29 dX4_index_15 (by decide) (fun hq1 => ?_) (fun hq1 => ?_)
  · refine r_aload_n 0 dX4_index_29 rfl rfl ?_
    refine r_bipush (-2) dX4_index_30 (by decide +kernel) ?_
    refine r_callV2 (As := [.int (-2)]) (st := []) (fun _ => gapW cA b q p t rd tx tl (badR rf) ++ (rowW cA q ρ)) [gapW cA b q p t rd tx tl rf, rowW cA q ρ] [gapW cA b q p t rd tx tl rf] [rowW cA q ρ] (fun _ => [gapW cA b q p t rd tx tl (badR rf), rowW cA q ρ]) (fun _ => [gapW cA b q p t rd tx tl (badR rf)]) (c_X4_refuse_2 l D cA cB b q p t rd tx tl rf) kv_X4_refuse ml_X4_81 dX4_index_32 rfl rfl rfl rfl (segOk [0, 1] rfl rfl rfl rfl) (fun _ => segOk [0, 1] rfl rfl rfl rfl) rfl (Nat.le_of_ble_eq_true rfl) (fun v u h => ?_)
    subst h
    refine r_st (st' := [.int (-2)]) rfl ?_
    exact r_iret (()) dX4_index_35 (by unfold idxA; rw [if_neg (ne_t hq1)]) (by unfold idxA; rw [if_neg (ne_t hq1)])
  · obtain ⟨i, hi, rfl⟩ := wi_ex (by omega) hq1
    refine r_aload_n 0 dX4_index_18 rfl rfl ?_
    refine r_get 0 fk_X4_10 dX4_index_19 rfl rfl ?_
    refine r_iload_n 1 dX4_index_22 rfl rfl ?_
    refine r_callV2 (As := [.int (nI i)]) (st := []) (fun _ => gapW cA b q p t rd tx tl rf ++ (rowW cA q ρ)) [gapW cA b q p t rd tx tl rf, rowW cA q ρ] [rowW cA q ρ] [gapW cA b q p t rd tx tl rf] (fun _ => [gapW cA b q p t rd tx tl rf, rowW cA q ρ]) (fun _ => [rowW cA q ρ]) (c_X1_leastKeyOf l D cA cB q ρ (i) (by omega)) kv_X1_leastKeyOf ml_X4_108 dX4_index_23 rfl rfl rfl rfl (segOk [1, 0] rfl rfl rfl rfl) (fun _ => segOk [1, 0] rfl rfl rfl rfl) rfl (Nat.le_of_ble_eq_true rfl) (fun v u h => ?_)
    subst h
    refine r_st (st' := [.int (lstF ρ i)]) rfl ?_
    refine r_goto 35 dX4_index_26 (by decide) ?_
    exact r_iret (()) dX4_index_35 (by unfold idxA; rw [if_pos hq1, nI_clamp (by omega)]) (by unfold idxA; rw [if_pos hq1])

set_option maxRecDepth 100000 in
set_option maxHeartbeats 4000000 in
theorem c_X4_window (l : Launch) (D : va_G) (cA cB : ClassId) (b q p t : Nat → Nat) (rd : Nat) (tx : Nat → Int32) (tl : Nat) (rf : Nat → Int32) (ρ : Nat → Int32) (n : Nat) (hsz : ρ 0 = nI n) (h3 : n = 16 ∨ n = 32 ∨ n = 64) (i j w : Int32) : Mt l D (tyS cA cB) yX4_window cX4_window 5 (some .int) ({ frames := 2, cells := 0, slots := 0, locals := 45 } : Room) [.ref (b 0), .int (i), .int (j), .int (w)] (gapW cA b q p t rd tx tl rf ++ (rowW cA q ρ)) Unit (fun v _ => v = some (.int (winA ρ rf n i j w).1)) (fun _ => gapW cA b q p t rd tx tl ((winA ρ rf n i j w).2) ++ (rowW cA q ρ)) 0 0 := by
  refine mt_in RX4 ([some (.ref (b 0)), some (.int (i)), some (.int (j)), some (.int (w)), none]) rfl (by decide +kernel) rfl (Nat.le_of_ble_eq_true rfl) rfl rfl (fun X sz => ?_)
  have hb := n16 h3
  refine r_iload_n 1 dX4_window_0 rfl rfl ?_
  refine r_aload_n 0 dX4_window_1 rfl rfl ?_
  refine r_get 0 fk_X4_10 dX4_window_2 rfl rfl ?_
  refine r_callV2 (As := []) (st := [.int (i)]) (fun _ => gapW cA b q p t rd tx tl rf ++ (rowW cA q ρ)) [gapW cA b q p t rd tx tl rf, rowW cA q ρ] [rowW cA q ρ] [gapW cA b q p t rd tx tl rf] (fun _ => [gapW cA b q p t rd tx tl rf, rowW cA q ρ]) (fun _ => [rowW cA q ρ]) (c_X1_top l D cA cB q ρ n (hsz) h3 ) kv_X1_top ml_X4_111 dX4_window_5 rfl rfl rfl rfl (segOk [1, 0] rfl rfl rfl rfl) (fun _ => segOk [1, 0] rfl rfl rfl rfl) rfl (Nat.le_of_ble_eq_true rfl) (fun v u h => ?_)
  subst h
  refine r_st (st' := [.int (nI (topN n)), .int (i)]) rfl ?_
  refine r_callS2 (As := [.int (i), .int (nI (topN n))]) (st := []) (fun _ => gapW cA b q p t rd tx tl rf ++ (rowW cA q ρ)) [gapW cA b q p t rd tx tl rf, rowW cA q ρ] [] [gapW cA b q p t rd tx tl rf, rowW cA q ρ] (fun _ => [gapW cA b q p t rd tx tl rf, rowW cA q ρ]) (fun _ => []) (c_X4_within l D cA cB (i) (nI (topN n))) ks_X4_within ml_X4_77 dX4_window_8 rfl rfl (segOk [0, 1] rfl rfl rfl rfl) (fun _ => segOk [0, 1] rfl rfl rfl rfl) rfl (Nat.le_of_ble_eq_true rfl) (fun v u h => ?_)
  subst h
  refine r_st (st' := [.int (bI (wi (i) (nI (topN n))))]) rfl ?_
  refine r_bif_eq 22 dX4_window_11 (by decide) (fun hq1 => ?_) (fun hq1 => ?_)
  · refine r_aload_n 0 dX4_window_22 rfl rfl ?_
    refine r_bipush (-2) dX4_window_23 (by decide +kernel) ?_
    refine r_callV2 (As := [.int (-2)]) (st := []) (fun _ => gapW cA b q p t rd tx tl (badR rf) ++ (rowW cA q ρ)) [gapW cA b q p t rd tx tl rf, rowW cA q ρ] [gapW cA b q p t rd tx tl rf] [rowW cA q ρ] (fun _ => [gapW cA b q p t rd tx tl (badR rf), rowW cA q ρ]) (fun _ => [gapW cA b q p t rd tx tl (badR rf)]) (c_X4_refuse_2 l D cA cB b q p t rd tx tl rf) kv_X4_refuse ml_X4_81 dX4_window_25 rfl rfl rfl rfl (segOk [0, 1] rfl rfl rfl rfl) (fun _ => segOk [0, 1] rfl rfl rfl rfl) rfl (Nat.le_of_ble_eq_true rfl) (fun v u h => ?_)
    subst h
    refine r_st (st' := [.int (-2)]) rfl ?_
    exact r_iret (()) dX4_window_28 (by unfold winA; rw [if_neg (by rw [hq1, Bool.false_and]; decide)]) (by unfold winA; rw [if_neg (by rw [hq1, Bool.false_and]; decide)])
  · refine r_iload_n 3 dX4_window_14 rfl rfl ?_
    refine r_iconst (nI 2) dX4_window_15 (by decide +kernel) ?_
    refine r_callS2 (As := [.int (w), .int (nI 2)]) (st := []) (fun _ => gapW cA b q p t rd tx tl rf ++ (rowW cA q ρ)) [gapW cA b q p t rd tx tl rf, rowW cA q ρ] [] [gapW cA b q p t rd tx tl rf, rowW cA q ρ] (fun _ => [gapW cA b q p t rd tx tl rf, rowW cA q ρ]) (fun _ => []) (c_X4_within l D cA cB (w) (nI (2))) ks_X4_within ml_X4_77 dX4_window_16 rfl rfl (segOk [0, 1] rfl rfl rfl rfl) (fun _ => segOk [0, 1] rfl rfl rfl rfl) rfl (Nat.le_of_ble_eq_true rfl) (fun v u h => ?_)
    subst h
    refine r_st (st' := [.int (bI (wi (w) (nI (2))))]) rfl ?_
    refine r_bif_ne 29 dX4_window_19 (by decide) (fun hq2 => ?_) (fun hq2 => ?_)
    · have hok : (wi i (nI (topN n)) && wi w (nI 2)) = true := by rw [hq1, hq2]; rfl
      obtain ⟨i2, hi, rfl⟩ := wi_ex (by have := top_le (sz := n); omega) hq1
      have ht := top_le (sz := n)
      have hp := pow4 i2 (by omega)
      have hcl : (nI i2).toNatClampNeg = i2 := nI_clamp (by omega)
      have hpp : 0 < 4 * 2 ^ i2 := Nat.mul_pos (by decide) (Nat.pow_pos (by decide))
      have hdv := Nat.div_le_self n (4 * 2 ^ i2)
      have hd1 := pow_div h3 hi
      refine r_iload_n 1 dX4_window_29 rfl rfl ?_
      refine r_callS2 (As := [.int (nI i2)]) (st := []) (fun _ => gapW cA b q p t rd tx tl rf ++ (rowW cA q ρ)) [gapW cA b q p t rd tx tl rf, rowW cA q ρ] [] [gapW cA b q p t rd tx tl rf, rowW cA q ρ] (fun _ => [gapW cA b q p t rd tx tl rf, rowW cA q ρ]) (fun _ => []) (c_X4_cellsOf l D cA cB (i2) (by omega)) ks_X4_cellsOf ml_X4_115 dX4_window_30 rfl rfl (segOk [0, 1] rfl rfl rfl rfl) (fun _ => segOk [0, 1] rfl rfl rfl rfl) rfl (Nat.le_of_ble_eq_true rfl) (fun v u h => ?_)
      subst h
      refine r_st (st' := [.int (nI (4 * 2 ^ i2))]) rfl ?_
      refine r_istore ([some (.ref (b 0)), some (.int (nI i2)), some (.int (j)), some (.int (w)), some (.int (nI (4 * 2 ^ i2)))]) dX4_window_33 (Nat.le_of_ble_eq_true rfl) rfl rfl ?_
      refine r_iload_n 2 dX4_window_35 rfl rfl ?_
      refine r_aload_n 0 dX4_window_36 rfl rfl ?_
      refine r_get 0 fk_X4_10 dX4_window_37 rfl rfl ?_
      refine r_get 3 fk_X4_70 dX4_window_40 rfl rfl ?_
      refine r_top (y := nI (n)) (hsz) ?_
      refine r_iload dX4_window_43 rfl ?_
      refine r_nidiv (by omega) (by omega) (by omega) dX4_window_45 ?_
      refine r_iconst (nI 1) dX4_window_46 (by decide +kernel) ?_
      refine r_nisub (by omega) dX4_window_47 ?_
      refine r_callS2 (As := [.int (j), .int (nI ((n / (4 * 2 ^ i2)) - 1))]) (st := []) (fun _ => gapW cA b q p t rd tx tl rf ++ (rowW cA q ρ)) [gapW cA b q p t rd tx tl rf, rowW cA q ρ] [] [gapW cA b q p t rd tx tl rf, rowW cA q ρ] (fun _ => [gapW cA b q p t rd tx tl rf, rowW cA q ρ]) (fun _ => []) (c_X4_within l D cA cB (j) (nI ((n / (4 * 2 ^ i2)) - 1))) ks_X4_within ml_X4_77 dX4_window_48 rfl rfl (segOk [0, 1] rfl rfl rfl rfl) (fun _ => segOk [0, 1] rfl rfl rfl rfl) rfl (Nat.le_of_ble_eq_true rfl) (fun v u h => ?_)
      subst h
      refine r_st (st' := [.int (bI (wi (j) (nI ((n / (4 * 2 ^ i2)) - 1))))]) rfl ?_
      refine r_bif_ne 61 dX4_window_51 (by decide) (fun hq3 => ?_) (fun hq3 => ?_)
      · have hok2 : wi j (nI (n / (4 * 2 ^ (nI i2).toNatClampNeg) - 1)) = true := by rw [hcl]; exact hq3
        obtain ⟨j2, hj, rfl⟩ := wi_ex (by omega) hq3
        have hjl := idx_lt h3 hi hj
        have hcj : (nI j2).toNatClampNeg = j2 := nI_clamp (by omega)
        refine r_iload_n 3 dX4_window_61 rfl rfl ?_
        refine r_if_ne 79 dX4_window_62 (by decide) (fun hq4 => ?_) (fun hq4 => ?_)
        · refine r_iload_n 3 dX4_window_79 rfl rfl ?_
          refine r_iconst (nI 1) dX4_window_80 (by decide +kernel) ?_
          refine r_icmp_ne 95 dX4_window_81 (by decide) (fun hq5 => ?_) (fun hq5 => ?_)
          · refine r_aload_n 0 dX4_window_95 rfl rfl ?_
            refine r_get 0 fk_X4_10 dX4_window_96 rfl rfl ?_
            refine r_iload_n 1 dX4_window_99 rfl rfl ?_
            refine r_callV2 (As := [.int (nI i2)]) (st := []) (fun _ => gapW cA b q p t rd tx tl rf ++ (rowW cA q ρ)) [gapW cA b q p t rd tx tl rf, rowW cA q ρ] [rowW cA q ρ] [gapW cA b q p t rd tx tl rf] (fun _ => [gapW cA b q p t rd tx tl rf, rowW cA q ρ]) (fun _ => [rowW cA q ρ]) (c_X1_least l D cA cB q ρ n (hsz) h3 (i2) (by omega)) kv_X1_least ml_X4_124 dX4_window_100 rfl rfl rfl rfl (segOk [1, 0] rfl rfl rfl rfl) (fun _ => segOk [1, 0] rfl rfl rfl rfl) rfl (Nat.le_of_ble_eq_true rfl) (fun v u h => ?_)
            subst h
            refine r_st (st' := [.int (nI (leastN n i2))]) rfl ?_
            exact r_iret (()) dX4_window_103 (by unfold winA; rw [if_pos hok, if_pos hok2]; dsimp only; rw [if_neg hq4, if_neg hq5, hcl]) (by unfold winA; rw [if_pos hok, if_pos hok2])
          · refine r_aload_n 0 dX4_window_84 rfl rfl ?_
            refine r_get 0 fk_X4_10 dX4_window_85 rfl rfl ?_
            refine r_iload_n 1 dX4_window_88 rfl rfl ?_
            refine r_callV2 (As := [.int (nI i2)]) (st := []) (fun _ => gapW cA b q p t rd tx tl rf ++ (rowW cA q ρ)) [gapW cA b q p t rd tx tl rf, rowW cA q ρ] [rowW cA q ρ] [gapW cA b q p t rd tx tl rf] (fun _ => [gapW cA b q p t rd tx tl rf, rowW cA q ρ]) (fun _ => [rowW cA q ρ]) (c_X1_most l D cA cB q ρ n (hsz) h3 (i2) (by omega)) kv_X1_most ml_X4_121 dX4_window_89 rfl rfl rfl rfl (segOk [1, 0] rfl rfl rfl rfl) (fun _ => segOk [1, 0] rfl rfl rfl rfl) rfl (Nat.le_of_ble_eq_true rfl) (fun v u h => ?_)
            subst h
            refine r_st (st' := [.int (nI (mostN n i2))]) rfl ?_
            refine r_goto 103 dX4_window_92 (by decide) ?_
            exact r_iret (()) dX4_window_103 (by unfold winA; rw [if_pos hok, if_pos hok2]; dsimp only; rw [if_neg hq4, if_pos hq5, hcl]) (by unfold winA; rw [if_pos hok, if_pos hok2])
        · refine r_aload_n 0 dX4_window_65 rfl rfl ?_
          refine r_get 0 fk_X4_10 dX4_window_66 rfl rfl ?_
          refine r_iload_n 2 dX4_window_69 rfl rfl ?_
          refine r_iload dX4_window_70 rfl ?_
          refine r_nimul dX4_window_72 ?_
          refine r_iload dX4_window_73 rfl ?_
          refine r_callV2 (As := [.int (nI (j2 * (4 * 2 ^ i2))), .int (nI (4 * 2 ^ i2))]) (st := []) (fun _ => gapW cA b q p t rd tx tl rf ++ (rowW cA q ρ)) [gapW cA b q p t rd tx tl rf, rowW cA q ρ] [rowW cA q ρ] [gapW cA b q p t rd tx tl rf] (fun _ => [gapW cA b q p t rd tx tl rf, rowW cA q ρ]) (fun _ => [rowW cA q ρ]) (c_X1_keysIn l D cA cB q ρ (j2 * (4 * 2 ^ i2)) (4 * 2 ^ i2) (hjl)) kv_X1_keysIn ml_X4_118 dX4_window_75 rfl rfl rfl rfl (segOk [1, 0] rfl rfl rfl rfl) (fun _ => segOk [1, 0] rfl rfl rfl rfl) rfl (Nat.le_of_ble_eq_true rfl) (fun v u h => ?_)
          subst h
          refine r_st (st' := [.int (nI (cnt ρ (j2 * (4 * 2 ^ i2)) (4 * 2 ^ i2)))]) rfl ?_
          exact r_iret (()) dX4_window_78 (by unfold winA; rw [if_pos hok, if_pos hok2]; dsimp only; rw [if_pos hq4, hcl, hcj]) (by unfold winA; rw [if_pos hok, if_pos hok2])
      · refine r_aload_n 0 dX4_window_54 rfl rfl ?_
        refine r_bipush (-2) dX4_window_55 (by decide +kernel) ?_
        refine r_callV2 (As := [.int (-2)]) (st := []) (fun _ => gapW cA b q p t rd tx tl (badR rf) ++ (rowW cA q ρ)) [gapW cA b q p t rd tx tl rf, rowW cA q ρ] [gapW cA b q p t rd tx tl rf] [rowW cA q ρ] (fun _ => [gapW cA b q p t rd tx tl (badR rf), rowW cA q ρ]) (fun _ => [gapW cA b q p t rd tx tl (badR rf)]) (c_X4_refuse_2 l D cA cB b q p t rd tx tl rf) kv_X4_refuse ml_X4_81 dX4_window_57 rfl rfl rfl rfl (segOk [0, 1] rfl rfl rfl rfl) (fun _ => segOk [0, 1] rfl rfl rfl rfl) rfl (Nat.le_of_ble_eq_true rfl) (fun v u h => ?_)
        subst h
        refine r_st (st' := [.int (-2)]) rfl ?_
        exact r_iret (()) dX4_window_60 (by unfold winA; rw [if_pos hok, if_neg (by rw [hcl, hq3]; decide)]) (by unfold winA; rw [if_pos hok, if_neg (by rw [hcl, hq3]; decide)])
    · refine r_aload_n 0 dX4_window_22 rfl rfl ?_
      refine r_bipush (-2) dX4_window_23 (by decide +kernel) ?_
      refine r_callV2 (As := [.int (-2)]) (st := []) (fun _ => gapW cA b q p t rd tx tl (badR rf) ++ (rowW cA q ρ)) [gapW cA b q p t rd tx tl rf, rowW cA q ρ] [gapW cA b q p t rd tx tl rf] [rowW cA q ρ] (fun _ => [gapW cA b q p t rd tx tl (badR rf), rowW cA q ρ]) (fun _ => [gapW cA b q p t rd tx tl (badR rf)]) (c_X4_refuse_2 l D cA cB b q p t rd tx tl rf) kv_X4_refuse ml_X4_81 dX4_window_25 rfl rfl rfl rfl (segOk [0, 1] rfl rfl rfl rfl) (fun _ => segOk [0, 1] rfl rfl rfl rfl) rfl (Nat.le_of_ble_eq_true rfl) (fun v u h => ?_)
      subst h
      refine r_st (st' := [.int (-2)]) rfl ?_
      exact r_iret (()) dX4_window_28 (by unfold winA; rw [if_neg (by rw [hq1, hq2]; decide)]) (by unfold winA; rw [if_neg (by rw [hq1, hq2]; decide)])

set_option maxRecDepth 100000 in
set_option maxHeartbeats 4000000 in
theorem c_X4_counted (l : Launch) (D : va_G) (cA cB : ClassId) (b q p t : Nat → Nat) (rd : Nat) (tx : Nat → Int32) (tl : Nat) (rf : Nat → Int32) (ρ : Nat → Int32) (n : Nat) (hsz : ρ 0 = nI n) (h3 : n = 16 ∨ n = 32 ∨ n = 64) (x : Nat) (hx : x ≤ 6) : Mt l D (tyS cA cB) yX4_counted cX4_counted 2 (some .int) ({ frames := 2, cells := 0, slots := 0, locals := 45 } : Room) [.ref (b 0), .int (nI x)] (gapW cA b q p t rd tx tl rf ++ (rowW cA q ρ)) Unit (fun v _ => v = some (.int (countF ρ n x))) (fun _ => gapW cA b q p t rd tx tl rf ++ (rowW cA q ρ)) 0 0 := by
  refine mt_in RX4 ([some (.ref (b 0)), some (.int (nI x))]) rfl (by decide +kernel) rfl (Nat.le_of_ble_eq_true rfl) rfl rfl (fun X sz => ?_)
  have hb := n16 h3
  refine r_iload_n 1 dX4_counted_0 rfl rfl ?_
  have hz : x = 0 ∨ x = 1 ∨ x = 2 ∨ x = 3 ∨ x = 4 ∨ x = 5 ∨ x = 6 := by omega
  rcases hz with rfl | rfl | rfl | rfl | rfl | rfl | rfl
  · refine r_tabIn (off := 39) 40 dX4_counted_1 (by decide +kernel) (by decide +kernel) (by decide +kernel) (by decide) ?_
    refine r_aload_n 0 dX4_counted_40 rfl rfl ?_
    refine r_get 0 fk_X4_10 dX4_counted_41 rfl rfl ?_
    refine r_get 3 fk_X4_70 dX4_counted_44 rfl rfl ?_
    exact r_iret (()) dX4_counted_47 (rfl) (rfl)
  · refine r_tabIn (off := 47) 48 dX4_counted_1 (by decide +kernel) (by decide +kernel) (by decide +kernel) (by decide) ?_
    refine r_aload_n 0 dX4_counted_48 rfl rfl ?_
    refine r_get 0 fk_X4_10 dX4_counted_49 rfl rfl ?_
    refine r_iconst (nI 0) dX4_counted_52 (by decide +kernel) ?_
    refine r_aload_n 0 dX4_counted_53 rfl rfl ?_
    refine r_get 0 fk_X4_10 dX4_counted_54 rfl rfl ?_
    refine r_get 3 fk_X4_70 dX4_counted_57 rfl rfl ?_
    refine r_top (y := nI n) hsz ?_
    refine r_callV2 (As := [.int (nI 0), .int (nI n)]) (st := []) (fun _ => gapW cA b q p t rd tx tl rf ++ (rowW cA q ρ)) [gapW cA b q p t rd tx tl rf, rowW cA q ρ] [rowW cA q ρ] [gapW cA b q p t rd tx tl rf] (fun _ => [gapW cA b q p t rd tx tl rf, rowW cA q ρ]) (fun _ => [rowW cA q ρ]) (c_X1_keysIn l D cA cB q ρ (0) (n) (by omega)) kv_X1_keysIn ml_X4_118 dX4_counted_60 rfl rfl rfl rfl (segOk [1, 0] rfl rfl rfl rfl) (fun _ => segOk [1, 0] rfl rfl rfl rfl) rfl (Nat.le_of_ble_eq_true rfl) (fun v u h => ?_)
    subst h
    refine r_st (st' := [.int (nI (cnt ρ 0 n))]) rfl ?_
    exact r_iret (()) dX4_counted_63 (rfl) (rfl)
  · refine r_tabIn (off := 63) 64 dX4_counted_1 (by decide +kernel) (by decide +kernel) (by decide +kernel) (by decide) ?_
    refine r_aload_n 0 dX4_counted_64 rfl rfl ?_
    refine r_get 0 fk_X4_10 dX4_counted_65 rfl rfl ?_
    refine r_get 3 fk_X4_188 dX4_counted_68 rfl rfl ?_
    exact r_iret (()) dX4_counted_71 (rfl) (rfl)
  · refine r_tabIn (off := 71) 72 dX4_counted_1 (by decide +kernel) (by decide +kernel) (by decide +kernel) (by decide) ?_
    refine r_aload_n 0 dX4_counted_72 rfl rfl ?_
    refine r_get 0 fk_X4_10 dX4_counted_73 rfl rfl ?_
    refine r_get 3 fk_X4_204 dX4_counted_76 rfl rfl ?_
    exact r_iret (()) dX4_counted_79 (rfl) (rfl)
  · refine r_tabIn (off := 79) 80 dX4_counted_1 (by decide +kernel) (by decide +kernel) (by decide +kernel) (by decide) ?_
    refine r_aload_n 0 dX4_counted_80 rfl rfl ?_
    refine r_get 0 fk_X4_10 dX4_counted_81 rfl rfl ?_
    refine r_get 3 fk_X4_207 dX4_counted_84 rfl rfl ?_
    exact r_iret (()) dX4_counted_87 (rfl) (rfl)
  · refine r_tabIn (off := 87) 88 dX4_counted_1 (by decide +kernel) (by decide +kernel) (by decide +kernel) (by decide) ?_
    refine r_aload_n 0 dX4_counted_88 rfl rfl ?_
    refine r_get 0 fk_X4_10 dX4_counted_89 rfl rfl ?_
    refine r_get 3 fk_X4_210 dX4_counted_92 rfl rfl ?_
    exact r_iret (()) dX4_counted_95 (rfl) (rfl)
  · refine r_tabOut 96 dX4_counted_1 (by decide +kernel) (by decide) ?_
    refine r_aload_n 0 dX4_counted_96 rfl rfl ?_
    refine r_get 0 fk_X4_10 dX4_counted_97 rfl rfl ?_
    refine r_get 3 fk_X4_213 dX4_counted_100 rfl rfl ?_
    exact r_iret (()) dX4_counted_103 (rfl) (rfl)

set_option maxRecDepth 100000 in
set_option maxHeartbeats 4000000 in
theorem c_X4_count (l : Launch) (D : va_G) (cA cB : ClassId) (b q p t : Nat → Nat) (rd : Nat) (tx : Nat → Int32) (tl : Nat) (rf : Nat → Int32) (ρ : Nat → Int32) (n : Nat) (hsz : ρ 0 = nI n) (h3 : n = 16 ∨ n = 32 ∨ n = 64) (x : Int32) : Mt l D (tyS cA cB) yX4_count cX4_count 2 (some .int) ({ frames := 3, cells := 0, slots := 0, locals := 66 } : Room) [.ref (b 0), .int (x)] (gapW cA b q p t rd tx tl rf ++ (rowW cA q ρ)) Unit (fun v _ => v = some (.int (cntA ρ rf n x).1)) (fun _ => gapW cA b q p t rd tx tl ((cntA ρ rf n x).2) ++ (rowW cA q ρ)) 0 0 := by
  refine mt_in RX4 ([some (.ref (b 0)), some (.int (x))]) rfl (by decide +kernel) rfl (Nat.le_of_ble_eq_true rfl) rfl rfl (fun X sz => ?_)
  have hb := n16 h3
  refine r_iload_n 1 dX4_count_0 rfl rfl ?_
  refine r_bipush (nI 6) dX4_count_1 (by decide +kernel) ?_
  refine r_callS2 (As := [.int (x), .int (nI 6)]) (st := []) (fun _ => gapW cA b q p t rd tx tl rf ++ (rowW cA q ρ)) [gapW cA b q p t rd tx tl rf, rowW cA q ρ] [] [gapW cA b q p t rd tx tl rf, rowW cA q ρ] (fun _ => [gapW cA b q p t rd tx tl rf, rowW cA q ρ]) (fun _ => []) (c_X4_within l D cA cB (x) (nI (6))) ks_X4_within ml_X4_77 dX4_count_3 rfl rfl (segOk [0, 1] rfl rfl rfl rfl) (fun _ => segOk [0, 1] rfl rfl rfl rfl) rfl (Nat.le_of_ble_eq_true rfl) (fun v u h => ?_)
  subst h
  refine r_st (st' := [.int (bI (wi (x) (nI (6))))]) rfl ?_
  refine r_bif_eq 17 dX4_count_6 (by decide) (fun hq1 => ?_) (fun hq1 => ?_)
  · refine r_aload_n 0 dX4_count_17 rfl rfl ?_
    refine r_bipush (-2) dX4_count_18 (by decide +kernel) ?_
    refine r_callV2 (As := [.int (-2)]) (st := []) (fun _ => gapW cA b q p t rd tx tl (badR rf) ++ (rowW cA q ρ)) [gapW cA b q p t rd tx tl rf, rowW cA q ρ] [gapW cA b q p t rd tx tl rf] [rowW cA q ρ] (fun _ => [gapW cA b q p t rd tx tl (badR rf), rowW cA q ρ]) (fun _ => [gapW cA b q p t rd tx tl (badR rf)]) (c_X4_refuse_2 l D cA cB b q p t rd tx tl rf) kv_X4_refuse ml_X4_81 dX4_count_20 rfl rfl rfl rfl (segOk [0, 1] rfl rfl rfl rfl) (fun _ => segOk [0, 1] rfl rfl rfl rfl) rfl (Nat.le_of_ble_eq_true rfl) (fun v u h => ?_)
    subst h
    refine r_st (st' := [.int (-2)]) rfl ?_
    exact r_iret (()) dX4_count_23 (by unfold cntA; rw [if_neg (ne_t hq1)]) (by unfold cntA; rw [if_neg (ne_t hq1)])
  · obtain ⟨i, hi, rfl⟩ := wi_ex (by decide) hq1
    refine r_aload_n 0 dX4_count_9 rfl rfl ?_
    refine r_iload_n 1 dX4_count_10 rfl rfl ?_
    refine r_callV2 (As := [.int (nI i)]) (st := []) (fun _ => gapW cA b q p t rd tx tl rf ++ (rowW cA q ρ)) [gapW cA b q p t rd tx tl rf, rowW cA q ρ] [gapW cA b q p t rd tx tl rf, rowW cA q ρ] [] (fun _ => [gapW cA b q p t rd tx tl rf, rowW cA q ρ]) (fun _ => [gapW cA b q p t rd tx tl rf, rowW cA q ρ]) (c_X4_counted l D cA cB b q p t rd tx tl rf ρ n (hsz) h3 (i) (by omega)) kv_X4_counted ml_X4_127 dX4_count_11 rfl rfl rfl rfl (segOk [0, 1] rfl rfl rfl rfl) (fun _ => segOk [0, 1] rfl rfl rfl rfl) rfl (Nat.le_of_ble_eq_true rfl) (fun v u h => ?_)
    subst h
    refine r_st (st' := [.int (countF ρ n i)]) rfl ?_
    refine r_goto 23 dX4_count_14 (by decide) ?_
    exact r_iret (()) dX4_count_23 (by unfold cntA; rw [if_pos hq1, nI_clamp (by omega)]) (by unfold cntA; rw [if_pos hq1])

set_option maxRecDepth 100000 in
set_option maxHeartbeats 4000000 in
theorem c_X4_log (l : Launch) (D : va_G) (cA cB : ClassId) (b q p t : Nat → Nat) (rd : Nat) (tx : Nat → Int32) (tl : Nat) (rf : Nat → Int32) (ρ : Nat → Int32) (g : Nat) (hg : ρ 6 = nI g) (hg8 : g ≤ 8) (i w : Int32) : Mt l D (tyS cA cB) yX4_log cX4_log 3 (some .int) ({ frames := 2, cells := 0, slots := 0, locals := 43 } : Room) [.ref (b 0), .int (i), .int (w)] (gapW cA b q p t rd tx tl rf ++ (rowW cA q ρ)) Unit (fun v _ => v = some (.int (logA ρ rf g i w).1)) (fun _ => gapW cA b q p t rd tx tl ((logA ρ rf g i w).2) ++ (rowW cA q ρ)) 0 0 := by
  refine mt_in RX4 ([some (.ref (b 0)), some (.int (i)), some (.int (w))]) rfl (by decide +kernel) rfl (Nat.le_of_ble_eq_true rfl) rfl rfl (fun X sz => ?_)
  refine r_iload_n 1 dX4_log_0 rfl rfl ?_
  refine r_if_lt 12 dX4_log_1 (by decide) (fun hq1 => ?_) (fun hq1 => ?_)
  · refine r_aload_n 0 dX4_log_12 rfl rfl ?_
    refine r_bipush (-2) dX4_log_13 (by decide +kernel) ?_
    refine r_callV2 (As := [.int (-2)]) (st := []) (fun _ => gapW cA b q p t rd tx tl (badR rf) ++ (rowW cA q ρ)) [gapW cA b q p t rd tx tl rf, rowW cA q ρ] [gapW cA b q p t rd tx tl rf] [rowW cA q ρ] (fun _ => [gapW cA b q p t rd tx tl (badR rf), rowW cA q ρ]) (fun _ => [gapW cA b q p t rd tx tl (badR rf)]) (c_X4_refuse_2 l D cA cB b q p t rd tx tl rf) kv_X4_refuse ml_X4_81 dX4_log_15 rfl rfl rfl rfl (segOk [0, 1] rfl rfl rfl rfl) (fun _ => segOk [0, 1] rfl rfl rfl rfl) rfl (Nat.le_of_ble_eq_true rfl) (fun v u h => ?_)
    subst h
    refine r_st (st' := [.int (-2)]) rfl ?_
    exact r_iret (()) dX4_log_18 (by unfold logA; rw [if_pos hq1]) (by unfold logA; rw [if_pos hq1])
  · refine r_iload_n 2 dX4_log_4 rfl rfl ?_
    refine r_iconst (nI 2) dX4_log_5 (by decide +kernel) ?_
    refine r_callS2 (As := [.int (w), .int (nI 2)]) (st := []) (fun _ => gapW cA b q p t rd tx tl rf ++ (rowW cA q ρ)) [gapW cA b q p t rd tx tl rf, rowW cA q ρ] [] [gapW cA b q p t rd tx tl rf, rowW cA q ρ] (fun _ => [gapW cA b q p t rd tx tl rf, rowW cA q ρ]) (fun _ => []) (c_X4_within l D cA cB (w) (nI (2))) ks_X4_within ml_X4_77 dX4_log_6 rfl rfl (segOk [0, 1] rfl rfl rfl rfl) (fun _ => segOk [0, 1] rfl rfl rfl rfl) rfl (Nat.le_of_ble_eq_true rfl) (fun v u h => ?_)
    subst h
    refine r_st (st' := [.int (bI (wi (w) (nI (2))))]) rfl ?_
    refine r_bif_ne 19 dX4_log_9 (by decide) (fun hq2 => ?_) (fun hq2 => ?_)
    · obtain ⟨j, hj, rfl⟩ := c_ge0 hq1
      obtain ⟨x, hx, rfl⟩ := wi_ex (by decide) hq2
      refine r_aload_n 0 dX4_log_19 rfl rfl ?_
      refine r_get 0 fk_X4_10 dX4_log_20 rfl rfl ?_
      refine r_iload_n 1 dX4_log_23 rfl rfl ?_
      refine r_iload_n 2 dX4_log_24 rfl rfl ?_
      refine r_callV2 (As := [.int (nI j), .int (nI x)]) (st := []) (fun _ => gapW cA b q p t rd tx tl rf ++ (rowW cA q ρ)) [gapW cA b q p t rd tx tl rf, rowW cA q ρ] [rowW cA q ρ] [gapW cA b q p t rd tx tl rf] (fun _ => [gapW cA b q p t rd tx tl rf, rowW cA q ρ]) (fun _ => [rowW cA q ρ]) (c_X1_logged l D cA cB q ρ g hg hg8 (j) (x) (by omega) (by omega)) kv_X1_logged ml_X4_130 dX4_log_25 rfl rfl rfl rfl (segOk [1, 0] rfl rfl rfl rfl) (fun _ => segOk [1, 0] rfl rfl rfl rfl) rfl (Nat.le_of_ble_eq_true rfl) (fun v u h => ?_)
      subst h
      refine r_st (st' := [.int (logF ρ g j x)]) rfl ?_
      exact r_iret (()) dX4_log_28 (by unfold logA; rw [if_neg hq1, if_pos hq2, nI_clamp (by omega), nI_clamp (by omega)]) (by unfold logA; rw [if_neg hq1, if_pos hq2])
    · refine r_aload_n 0 dX4_log_12 rfl rfl ?_
      refine r_bipush (-2) dX4_log_13 (by decide +kernel) ?_
      refine r_callV2 (As := [.int (-2)]) (st := []) (fun _ => gapW cA b q p t rd tx tl (badR rf) ++ (rowW cA q ρ)) [gapW cA b q p t rd tx tl rf, rowW cA q ρ] [gapW cA b q p t rd tx tl rf] [rowW cA q ρ] (fun _ => [gapW cA b q p t rd tx tl (badR rf), rowW cA q ρ]) (fun _ => [gapW cA b q p t rd tx tl (badR rf)]) (c_X4_refuse_2 l D cA cB b q p t rd tx tl rf) kv_X4_refuse ml_X4_81 dX4_log_15 rfl rfl rfl rfl (segOk [0, 1] rfl rfl rfl rfl) (fun _ => segOk [0, 1] rfl rfl rfl rfl) rfl (Nat.le_of_ble_eq_true rfl) (fun v u h => ?_)
      subst h
      refine r_st (st' := [.int (-2)]) rfl ?_
      exact r_iret (()) dX4_log_18 (by unfold logA; rw [if_neg hq1, if_neg (ne_t hq2)]) (by unfold logA; rw [if_neg hq1, if_neg (ne_t hq2)])

