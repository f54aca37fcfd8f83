set_option maxRecDepth 100000 in
set_option maxHeartbeats 4000000 in
theorem c_X4_carryOut_p (l : Launch) (D : va_G) (cA cB : ClassId) (b q p t : Nat → Nat) (rd : Nat) (tx : Nat → Int32) (tl : Nat) (rf : Nat → Int32) (ρ : Nat → Int32) (n : Nat) (hsz : ρ 0 = nI n) (h3 : n = 16 ∨ n = 32 ∨ n = 64) (g : Nat) (hg : ρ 6 = nI g) (hg8 : g ≤ 8) (hs : Srt ρ n) (u0 : Sp5) (k v : Int32) (hk0 : ¬ k = -1) (hr : lastF ρ k n = -1 → hrB ρ n k = true) : Mt l D (tyS cA cB) yX4_carryOut cX4_carryOut 4 none ({ frames := 5, cells := 0, slots := 0, locals := 126 } : Room) [.ref (b 0), .int (nI 112), .int (k), .int (v)] (gapW cA b q p t rd tx tl rf ++ (rowW cA q ρ ++ (spU cA p u0))) Sp5 (fun w _ => w = none) (fun u => gapW cA b q p t rd tx tl rf ++ (rowW cA q (putR ρ n g k v) ++ (spU cA p u))) 0 0 := by
  refine mt_in RX4 ([some (.ref (b 0)), some (.int (nI 112)), some (.int (k)), some (.int (v))]) rfl (by decide +kernel) rfl (Nat.le_of_ble_eq_true rfl) rfl rfl (fun X sz => ?_)
  refine r_iload_n 1 dX4_carryOut_0 rfl rfl ?_
  refine r_lookup (off := 35) 36 dX4_carryOut_1 (by decide +kernel) (by decide +kernel) (by decide) ?_
  refine r_aload_n 0 dX4_carryOut_36 rfl rfl ?_
  refine r_iload_n 2 dX4_carryOut_37 rfl rfl ?_
  refine r_iload_n 3 dX4_carryOut_38 rfl rfl ?_
  refine r_callV2 (As := [.int (k), .int (v)]) (st := []) (fun u1 => gapW cA b q p t rd tx tl rf ++ (rowW cA q (putR ρ n g k v) ++ (spU cA p u1))) [gapW cA b q p t rd tx tl rf, rowW cA q ρ, spU cA p u0] [gapW cA b q p t rd tx tl rf, rowW cA q ρ, spU cA p u0] [] (fun u1 => [gapW cA b q p t rd tx tl rf, rowW cA q (putR ρ n g k v), spU cA p u1]) (fun u1 => [gapW cA b q p t rd tx tl rf, rowW cA q (putR ρ n g k v), spU cA p u1]) (c_X4_putKey l D cA cB b q p t rd tx tl rf ρ n hsz h3 g hg hg8 hs u0 k v hk0 hr) kv_X4_putKey ml_X4_52 dX4_carryOut_39 rfl rfl rfl rfl (segOk [0, 1, 2] rfl rfl rfl rfl) (fun _ => segOk [0, 1, 2] rfl rfl rfl rfl) rfl (Nat.le_of_ble_eq_true rfl) (fun v u1 h => ?_)
  subst h
  refine r_st (st' := [.int (putM ρ n k)]) rfl ?_
  refine r_pop rfl dX4_carryOut_42 ?_
  refine r_goto 71 dX4_carryOut_43 (by decide) ?_
  exact r_vret ((u1.1, u1.2.1, u1.2.2.1, u1.2.2.2.1, u1.2.2.2.2)) dX4_carryOut_71 (rfl) (rfl)

set_option maxRecDepth 100000 in
set_option maxHeartbeats 4000000 in
theorem c_X4_takeKey (l : Launch) (D : va_G) (cA cB : ClassId) (b q p t : Nat → Nat) (rd : Nat) (tx : Nat → Int32) (tl : Nat) (rf : Nat → Int32) (ρ : Nat → Int32) (n : Nat) (hsz : ρ 0 = nI n) (h3 : n = 16 ∨ n = 32 ∨ n = 64) (g : Nat) (hg : ρ 6 = nI g) (hg8 : g ≤ 8) (hs : Srt ρ n) (u0 : Sp5) (k : Int32) (hk0 : ¬ k = -1) (hr : ¬ lastF ρ k n = -1) : Mt l D (tyS cA cB) yX4_takeKey cX4_takeKey 2 (some .int) ({ frames := 4, cells := 0, slots := 0, locals := 101 } : Room) [.ref (b 0), .int (k)] (gapW cA b q p t rd tx tl rf ++ (rowW cA q ρ ++ (spU cA p u0))) Sp5 (fun w _ => w = some (.int (valOf ρ k n))) (fun u => gapW cA b q p t rd tx tl rf ++ (rowW cA q (takR ρ n g k) ++ (spU cA p u))) 0 0 := by
  refine mt_in RX4 ([some (.ref (b 0)), some (.int (k))]) rfl (by decide +kernel) rfl (Nat.le_of_ble_eq_true rfl) rfl rfl (fun X sz => ?_)
  have hb := n16 h3
  refine r_aload_n 0 dX4_takeKey_0 rfl rfl ?_
  refine r_get 0 fk_X4_19 dX4_takeKey_1 rfl rfl ?_
  refine r_aload_n 0 dX4_takeKey_4 rfl rfl ?_
  refine r_get 0 fk_X4_10 dX4_takeKey_5 rfl rfl ?_
  refine r_aload_n 0 dX4_takeKey_8 rfl rfl ?_
  refine r_get 0 fk_X4_10 dX4_takeKey_9 rfl rfl ?_
  refine r_iload_n 1 dX4_takeKey_12 rfl rfl ?_
  refine r_callV2 (As := [.int (k)]) (st := [.ref (q 0), .ref (p 0)]) (fun _ => gapW cA b q p t rd tx tl rf ++ (rowW cA q ρ ++ (spU cA p u0))) [gapW cA b q p t rd tx tl rf, rowW cA q ρ, spU cA p u0] [rowW cA q ρ] [gapW cA b q p t rd tx tl rf, spU cA p u0] (fun _ => [gapW cA b q p t rd tx tl rf, rowW cA q ρ, spU cA p u0]) (fun _ => [rowW cA q ρ]) (c_X1_cellOf l D cA cB q ρ n (hsz) h3 (k) (fun c d hc hd e1 e2 => srt_u hs hk0 hc hd e1 e2)) kv_X1_cellOf ml_X4_84 dX4_takeKey_13 rfl rfl rfl rfl (segOk [1, 0, 2] rfl rfl rfl rfl) (fun _ => segOk [1, 0, 2] rfl rfl rfl rfl) rfl (Nat.le_of_ble_eq_true rfl) (fun v u h => ?_)
  subst h
  refine r_st (st' := [.int (lastF ρ k n), .ref (q 0), .ref (p 0)]) rfl ?_
  obtain ⟨c, hc, hck, e1, e2⟩ | ⟨e1, e2⟩ := lastF_cases ρ k n
  · refine r_top e1 ?_
    refine r_callV2 (As := [.ref (q 0), .int (nI c)]) (st := []) (fun u1 => gapW cA b q p t rd tx tl rf ++ (rowW cA q (goR ρ n g c) ++ (spU cA p u1))) [gapW cA b q p t rd tx tl rf, rowW cA q ρ, spU cA p u0] [spU cA p u0, rowW cA q ρ] [gapW cA b q p t rd tx tl rf] (fun u1 => [gapW cA b q p t rd tx tl rf, rowW cA q (goR ρ n g c), spU cA p u1]) (fun u1 => [spU cA p u1, rowW cA q (goR ρ n g c)]) (c_X2_go l D cA cB p q ρ u0.1 u0.2.1 u0.2.2.1 (u0.2.2.2.1) (u0.2.2.2.2) g (hg) hg8 n (hsz) h3 (c) (by omega)) kv_X2_go ml_X4_197 dX4_takeKey_16 rfl rfl rfl rfl (segOk [2, 1, 0] rfl rfl rfl rfl) (fun _ => segOk [2, 1, 0] rfl rfl rfl rfl) rfl (Nat.le_of_ble_eq_true rfl) (fun v u1 h => ?_)
    subst h
    refine r_st (st' := [.int (ρ (95 + c))]) rfl ?_
    exact r_iret ((u1.1, u1.2.1, u1.2.2.1, u1.2.2.2.1, u1.2.2.2.2)) dX4_takeKey_19 (by rw [e2]) (by unfold takR; rw [e1, nI_clamp (by omega)])
  · exact absurd e1 hr

set_option maxRecDepth 100000 in
set_option maxHeartbeats 4000000 in
theorem c_X4_carryOut_t (l : Launch) (D : va_G) (cA cB : ClassId) (b q p t : Nat → Nat) (rd : Nat) (tx : Nat → Int32) (tl : Nat) (rf : Nat → Int32) (ρ : Nat → Int32) (n : Nat) (hsz : ρ 0 = nI n) (h3 : n = 16 ∨ n = 32 ∨ n = 64) (g : Nat) (hg : ρ 6 = nI g) (hg8 : g ≤ 8) (hs : Srt ρ n) (u0 : Sp5) (k v : Int32) (hk0 : ¬ k = -1) (hr : ¬ lastF ρ k n = -1) : Mt l D (tyS cA cB) yX4_carryOut cX4_carryOut 4 none ({ frames := 5, cells := 0, slots := 0, locals := 126 } : Room) [.ref (b 0), .int (nI 116), .int (k), .int (v)] (gapW cA b q p t rd tx tl rf ++ (rowW cA q ρ ++ (spU cA p u0))) Sp5 (fun w _ => w = none) (fun u => gapW cA b q p t rd tx tl rf ++ (rowW cA q (takR ρ n g k) ++ (spU cA p u))) 0 0 := by
  refine mt_in RX4 ([some (.ref (b 0)), some (.int (nI 116)), some (.int (k)), some (.int (v))]) rfl (by decide +kernel) rfl (Nat.le_of_ble_eq_true rfl) rfl rfl (fun X sz => ?_)
  refine r_iload_n 1 dX4_carryOut_0 rfl rfl ?_
  refine r_lookup (off := 45) 46 dX4_carryOut_1 (by decide +kernel) (by decide +kernel) (by decide) ?_
  refine r_aload_n 0 dX4_carryOut_46 rfl rfl ?_
  refine r_iload_n 2 dX4_carryOut_47 rfl rfl ?_
  refine r_callV2 (As := [.int (k)]) (st := []) (fun u1 => gapW cA b q p t rd tx tl rf ++ (rowW cA q (takR ρ n g k) ++ (spU cA p u1))) [gapW cA b q p t rd tx tl rf, rowW cA q ρ, spU cA p u0] [gapW cA b q p t rd tx tl rf, rowW cA q ρ, spU cA p u0] [] (fun u1 => [gapW cA b q p t rd tx tl rf, rowW cA q (takR ρ n g k), spU cA p u1]) (fun u1 => [gapW cA b q p t rd tx tl rf, rowW cA q (takR ρ n g k), spU cA p u1]) (c_X4_takeKey l D cA cB b q p t rd tx tl rf ρ n hsz h3 g hg hg8 hs u0 k hk0 hr) kv_X4_takeKey ml_X4_56 dX4_carryOut_48 rfl rfl rfl rfl (segOk [0, 1, 2] rfl rfl rfl rfl) (fun _ => segOk [0, 1, 2] rfl rfl rfl rfl) rfl (Nat.le_of_ble_eq_true rfl) (fun v u1 h => ?_)
  subst h
  refine r_st (st' := [.int (valOf ρ k n)]) rfl ?_
  refine r_pop rfl dX4_carryOut_51 ?_
  refine r_goto 71 dX4_carryOut_52 (by decide) ?_
  exact r_vret ((u1.1, u1.2.1, u1.2.2.1, u1.2.2.2.1, u1.2.2.2.2)) dX4_carryOut_71 (rfl) (rfl)

set_option maxRecDepth 100000 in
set_option maxHeartbeats 4000000 in
theorem c_X4_carryOut_m (l : Launch) (D : va_G) (cA cB : ClassId) (b q p t : Nat → Nat) (rd : Nat) (tx : Nat → Int32) (tl : Nat) (rf : Nat → Int32) (ρ : Nat → Int32) (u0 : Sp5) (x y : Int32) : Mt l D (tyS cA cB) yX4_carryOut cX4_carryOut 4 none ({ frames := 5, cells := 0, slots := 0, locals := 126 } : Room) [.ref (b 0), .int (nI 109), .int (x), .int (y)] (gapW cA b q p t rd tx tl rf ++ (rowW cA q ρ ++ (spU cA p u0))) Sp5 (fun w _ => w = none) (fun u => gapW cA b q p t rd tx tl rf ++ (rowW cA q (upd ρ 1 x) ++ (spU cA p u))) 0 0 := by
  refine mt_in RX4 ([some (.ref (b 0)), some (.int (nI 109)), some (.int (x)), some (.int (y))]) rfl (by decide +kernel) rfl (Nat.le_of_ble_eq_true rfl) rfl rfl (fun X sz => ?_)
  refine r_iload_n 1 dX4_carryOut_0 rfl rfl ?_
  refine r_lookup (off := 64) 65 dX4_carryOut_1 (by decide +kernel) (by decide +kernel) (by decide) ?_
  refine r_aload_n 0 dX4_carryOut_65 rfl rfl ?_
  refine r_iload_n 2 dX4_carryOut_66 rfl rfl ?_
  refine r_callV2 (As := [.int (x)]) (st := []) (fun _ => gapW cA b q p t rd tx tl rf ++ (rowW cA q (upd ρ 1 x) ++ (spU cA p u0))) [gapW cA b q p t rd tx tl rf, rowW cA q ρ, spU cA p u0] [gapW cA b q p t rd tx tl rf, rowW cA q ρ] [spU cA p u0] (fun _ => [gapW cA b q p t rd tx tl rf, rowW cA q (upd ρ 1 x), spU cA p u0]) (fun _ => [gapW cA b q p t rd tx tl rf, rowW cA q (upd ρ 1 x)]) (c_X4_turnMode l D cA cB b q p t rd tx tl rf ρ x) kv_X4_turnMode ml_X4_63 dX4_carryOut_67 rfl rfl rfl rfl (segOk [0, 1, 2] rfl rfl rfl rfl) (fun _ => segOk [0, 1, 2] rfl rfl rfl rfl) rfl (Nat.le_of_ble_eq_true rfl) (fun v u h => ?_)
  subst h
  refine r_st (st' := [.int (ρ 1)]) rfl ?_
  refine r_pop rfl dX4_carryOut_70 ?_
  exact r_vret ((u0.1, u0.2.1, u0.2.2.1, u0.2.2.2.1, u0.2.2.2.2)) dX4_carryOut_71 (rfl) (rfl)

set_option maxRecDepth 100000 in
set_option maxHeartbeats 4000000 in
theorem c_X4_admt_p (l : Launch) (D : va_G) (cA cB : ClassId) (b q p t : Nat → Nat) (rd : Nat) (tx : Nat → Int32) (tl : Nat) (rf : Nat → Int32) (ρ : Nat → Int32) (n : Nat) (hsz : ρ 0 = nI n) (h3 : n = 16 ∨ n = 32 ∨ n = 64) (r : Nat → Nat → Nat) (σ : Nat → Nat → Int32) (h : Nat) (hh : h ≤ 5) (hs : Srt ρ n) (k v : Int32) : Mt l D (tyS cA cB) yX4_admt cX4_admt 5 (some .int) ({ frames := 5, cells := 0, slots := 0, locals := 111 } : Room) [.ref (b 0), .int (nI 112), .int (k), .int (v)] (gapW cA b q p t rd tx tl rf ++ (rowW cA q ρ ++ (stW cA cB t r σ (nI (h))))) Unit (fun w _ => w = some (.int (rfP ρ n k v))) (fun _ => gapW cA b q p t rd tx tl (rfU (rfP ρ n k v) rf) ++ (rowW cA q ρ ++ (stK cA cB t r σ h ρ (rfP ρ n k v)))) 0 0 := by
  refine mt_in RX4 ([some (.ref (b 0)), some (.int (nI 112)), some (.int (k)), some (.int (v)), none]) rfl (by decide +kernel) rfl (Nat.le_of_ble_eq_true rfl) rfl rfl (fun X sz => ?_)
  refine r_aload_n 0 dX4_admt_0 rfl rfl ?_
  refine r_iload_n 1 dX4_admt_1 rfl rfl ?_
  refine r_iload_n 2 dX4_admt_2 rfl rfl ?_
  refine r_iload_n 3 dX4_admt_3 rfl rfl ?_
  refine r_callV2 (As := [.int (nI 112), .int (k), .int (v)]) (st := []) (fun _ => gapW cA b q p t rd tx tl rf ++ (rowW cA q ρ ++ (stW cA cB t r σ (nI (h))))) [gapW cA b q p t rd tx tl rf, rowW cA q ρ, stW cA cB t r σ (nI (h))] [gapW cA b q p t rd tx tl rf, rowW cA q ρ] [stW cA cB t r σ (nI (h))] (fun _ => [gapW cA b q p t rd tx tl rf, rowW cA q ρ, stW cA cB t r σ (nI (h))]) (fun _ => [gapW cA b q p t rd tx tl rf, rowW cA q ρ]) (c_X4_refusalOf_p l D cA cB b q p t rd tx tl rf ρ n hsz h3 hs k v) kv_X4_refusalOf ml_X4_154 dX4_admt_4 rfl rfl rfl rfl (segOk [0, 1, 2] rfl rfl rfl rfl) (fun _ => segOk [0, 1, 2] rfl rfl rfl rfl) rfl (Nat.le_of_ble_eq_true rfl) (fun v u h => ?_)
  subst h
  refine r_st (st' := [.int (rfP ρ n k v)]) rfl ?_
  refine r_istore ([some (.ref (b 0)), some (.int (nI 112)), some (.int (k)), some (.int (v)), some (.int (rfP ρ n k v))]) dX4_admt_7 (Nat.le_of_ble_eq_true rfl) rfl rfl ?_
  rcases rfP_cases ρ n k v with e | e | e
  · refine r_lv (lv' := [some (.ref (b 0)), some (.int (nI 112)), some (.int (k)), some (.int (v)), some (.int (0))]) (by rw [e]) ?_
    refine r_iload dX4_admt_9 rfl ?_
    refine r_if_eq 21 dX4_admt_11 (by decide) (fun hq1 => ?_) (fun hq1 => ?_)
    · refine r_aload_n 0 dX4_admt_21 rfl rfl ?_
      refine r_get 0 fk_X4_26 dX4_admt_22 rfl rfl ?_
      refine r_aload_n 0 dX4_admt_25 rfl rfl ?_
      refine r_get 0 fk_X4_10 dX4_admt_26 rfl rfl ?_
      refine r_callV2 (As := [.ref (q 0)]) (st := []) (fun _ => gapW cA b q p t rd tx tl rf ++ (rowW cA q ρ ++ (stW cA cB t (kpR r h) (kpS σ h ρ) (nI (kpH h))))) [gapW cA b q p t rd tx tl rf, rowW cA q ρ, stW cA cB t r σ (nI (h))] [stW cA cB t r σ (nI (h)), rowW cA q ρ] [gapW cA b q p t rd tx tl rf] (fun _ => [gapW cA b q p t rd tx tl rf, rowW cA q ρ, stW cA cB t (kpR r h) (kpS σ h ρ) (nI (kpH h))]) (fun _ => [stW cA cB t (kpR r h) (kpS σ h ρ) (nI (kpH h)), rowW cA q ρ]) (c_X3_keep2 l D cA cB t r σ h hh q ρ) kv_X3_keep ml_X4_66 dX4_admt_29 rfl rfl rfl rfl (segOk [2, 1, 0] rfl rfl rfl rfl) (fun _ => segOk [2, 1, 0] rfl rfl rfl rfl) rfl (Nat.le_of_ble_eq_true rfl) (fun v u h => ?_)
      subst h
      refine r_st (st' := []) rfl ?_
      refine r_iconst (nI 0) dX4_admt_32 (by decide +kernel) ?_
      exact r_iret (()) dX4_admt_33 (by rw [e] <;> rfl) (by unfold stK; rw [if_pos e, if_pos e, if_pos e]; unfold rfU; rw [e]; rfl)
    · exact absurd rfl hq1
  · refine r_lv (lv' := [some (.ref (b 0)), some (.int (nI 112)), some (.int (k)), some (.int (v)), some (.int (-2))]) (by rw [e]) ?_
    refine r_iload dX4_admt_9 rfl ?_
    refine r_if_eq 21 dX4_admt_11 (by decide) (fun hq2 => ?_) (fun hq2 => ?_)
    · exact absurd hq2 (by decide +kernel)
    · refine r_aload_n 0 dX4_admt_14 rfl rfl ?_
      refine r_iload dX4_admt_15 rfl ?_
      refine r_callV2 (As := [.int (-2)]) (st := []) (fun _ => gapW cA b q p t rd tx tl (badR rf) ++ (rowW cA q ρ ++ (stW cA cB t r σ (nI (h))))) [gapW cA b q p t rd tx tl rf, rowW cA q ρ, stW cA cB t r σ (nI (h))] [gapW cA b q p t rd tx tl rf] [rowW cA q ρ, stW cA cB t r σ (nI (h))] (fun _ => [gapW cA b q p t rd tx tl (badR rf), rowW cA q ρ, stW cA cB t r σ (nI (h))]) (fun _ => [gapW cA b q p t rd tx tl (badR rf)]) (c_X4_refuse_2 l D cA cB b q p t rd tx tl rf) kv_X4_refuse ml_X4_81 dX4_admt_17 rfl rfl rfl rfl (segOk [0, 1, 2] rfl rfl rfl rfl) (fun _ => segOk [0, 1, 2] rfl rfl rfl rfl) rfl (Nat.le_of_ble_eq_true rfl) (fun v u h => ?_)
      subst h
      refine r_st (st' := [.int (-2)]) rfl ?_
      exact r_iret (()) dX4_admt_20 (by rw [e]) (by unfold stK; rw [if_neg (by rw [e]; decide +kernel), if_neg (by rw [e]; decide +kernel), if_neg (by rw [e]; decide +kernel)]; unfold rfU; rw [e]; rfl)
  · refine r_lv (lv' := [some (.ref (b 0)), some (.int (nI 112)), some (.int (k)), some (.int (v)), some (.int (-4))]) (by rw [e]) ?_
    refine r_iload dX4_admt_9 rfl ?_
    refine r_if_eq 21 dX4_admt_11 (by decide) (fun hq3 => ?_) (fun hq3 => ?_)
    · exact absurd hq3 (by decide +kernel)
    · refine r_aload_n 0 dX4_admt_14 rfl rfl ?_
      refine r_iload dX4_admt_15 rfl ?_
      refine r_callV2 (As := [.int (-4)]) (st := []) (fun _ => gapW cA b q p t rd tx tl (fulR rf) ++ (rowW cA q ρ ++ (stW cA cB t r σ (nI (h))))) [gapW cA b q p t rd tx tl rf, rowW cA q ρ, stW cA cB t r σ (nI (h))] [gapW cA b q p t rd tx tl rf] [rowW cA q ρ, stW cA cB t r σ (nI (h))] (fun _ => [gapW cA b q p t rd tx tl (fulR rf), rowW cA q ρ, stW cA cB t r σ (nI (h))]) (fun _ => [gapW cA b q p t rd tx tl (fulR rf)]) (c_X4_refuse_4 l D cA cB b q p t rd tx tl rf) kv_X4_refuse ml_X4_81 dX4_admt_17 rfl rfl rfl rfl (segOk [0, 1, 2] rfl rfl rfl rfl) (fun _ => segOk [0, 1, 2] rfl rfl rfl rfl) rfl (Nat.le_of_ble_eq_true rfl) (fun v u h => ?_)
      subst h
      refine r_st (st' := [.int (-4)]) rfl ?_
      exact r_iret (()) dX4_admt_20 (by rw [e]) (by unfold stK; rw [if_neg (by rw [e]; decide +kernel), if_neg (by rw [e]; decide +kernel), if_neg (by rw [e]; decide +kernel)]; unfold rfU; rw [e]; rfl)

set_option maxRecDepth 100000 in
set_option maxHeartbeats 4000000 in
theorem c_X4_admt_t (l : Launch) (D : va_G) (cA cB : ClassId) (b q p t : Nat → Nat) (rd : Nat) (tx : Nat → Int32) (tl : Nat) (rf : Nat → Int32) (ρ : Nat → Int32) (n : Nat) (hsz : ρ 0 = nI n) (h3 : n = 16 ∨ n = 32 ∨ n = 64) (r : Nat → Nat → Nat) (σ : Nat → Nat → Int32) (h : Nat) (hh : h ≤ 5) (hs : Srt ρ n) (k v : Int32) : Mt l D (tyS cA cB) yX4_admt cX4_admt 5 (some .int) ({ frames := 5, cells := 0, slots := 0, locals := 111 } : Room) [.ref (b 0), .int (nI 116), .int (k), .int (v)] (gapW cA b q p t rd tx tl rf ++ (rowW cA q ρ ++ (stW cA cB t r σ (nI (h))))) Unit (fun w _ => w = some (.int (rfT ρ n k))) (fun _ => gapW cA b q p t rd tx tl (rfU (rfT ρ n k) rf) ++ (rowW cA q ρ ++ (stK cA cB t r σ h ρ (rfT ρ n k)))) 0 0 := by
  refine mt_in RX4 ([some (.ref (b 0)), some (.int (nI 116)), some (.int (k)), some (.int (v)), none]) rfl (by decide +kernel) rfl (Nat.le_of_ble_eq_true rfl) rfl rfl (fun X sz => ?_)
  refine r_aload_n 0 dX4_admt_0 rfl rfl ?_
  refine r_iload_n 1 dX4_admt_1 rfl rfl ?_
  refine r_iload_n 2 dX4_admt_2 rfl rfl ?_
  refine r_iload_n 3 dX4_admt_3 rfl rfl ?_
  refine r_callV2 (As := [.int (nI 116), .int (k), .int (v)]) (st := []) (fun _ => gapW cA b q p t rd tx tl rf ++ (rowW cA q ρ ++ (stW cA cB t r σ (nI (h))))) [gapW cA b q p t rd tx tl rf, rowW cA q ρ, stW cA cB t r σ (nI (h))] [gapW cA b q p t rd tx tl rf, rowW cA q ρ] [stW cA cB t r σ (nI (h))] (fun _ => [gapW cA b q p t rd tx tl rf, rowW cA q ρ, stW cA cB t r σ (nI (h))]) (fun _ => [gapW cA b q p t rd tx tl rf, rowW cA q ρ]) (c_X4_refusalOf_t l D cA cB b q p t rd tx tl rf ρ n hsz h3 hs k v) kv_X4_refusalOf ml_X4_154 dX4_admt_4 rfl rfl rfl rfl (segOk [0, 1, 2] rfl rfl rfl rfl) (fun _ => segOk [0, 1, 2] rfl rfl rfl rfl) rfl (Nat.le_of_ble_eq_true rfl) (fun v u h => ?_)
  subst h
  refine r_st (st' := [.int (rfT ρ n k)]) rfl ?_
  refine r_istore ([some (.ref (b 0)), some (.int (nI 116)), some (.int (k)), some (.int (v)), some (.int (rfT ρ n k))]) dX4_admt_7 (Nat.le_of_ble_eq_true rfl) rfl rfl ?_
  rcases rfT_cases ρ n k with e | e | e
  · refine r_lv (lv' := [some (.ref (b 0)), some (.int (nI 116)), some (.int (k)), some (.int (v)), some (.int (0))]) (by rw [e]) ?_
    refine r_iload dX4_admt_9 rfl ?_
    refine r_if_eq 21 dX4_admt_11 (by decide) (fun hq1 => ?_) (fun hq1 => ?_)
    · refine r_aload_n 0 dX4_admt_21 rfl rfl ?_
      refine r_get 0 fk_X4_26 dX4_admt_22 rfl rfl ?_
      refine r_aload_n 0 dX4_admt_25 rfl rfl ?_
      refine r_get 0 fk_X4_10 dX4_admt_26 rfl rfl ?_
      refine r_callV2 (As := [.ref (q 0)]) (st := []) (fun _ => gapW cA b q p t rd tx tl rf ++ (rowW cA q ρ ++ (stW cA cB t (kpR r h) (kpS σ h ρ) (nI (kpH h))))) [gapW cA b q p t rd tx tl rf, rowW cA q ρ, stW cA cB t r σ (nI (h))] [stW cA cB t r σ (nI (h)), rowW cA q ρ] [gapW cA b q p t rd tx tl rf] (fun _ => [gapW cA b q p t rd tx tl rf, rowW cA q ρ, stW cA cB t (kpR r h) (kpS σ h ρ) (nI (kpH h))]) (fun _ => [stW cA cB t (kpR r h) (kpS σ h ρ) (nI (kpH h)), rowW cA q ρ]) (c_X3_keep2 l D cA cB t r σ h hh q ρ) kv_X3_keep ml_X4_66 dX4_admt_29 rfl rfl rfl rfl (segOk [2, 1, 0] rfl rfl rfl rfl) (fun _ => segOk [2, 1, 0] rfl rfl rfl rfl) rfl (Nat.le_of_ble_eq_true rfl) (fun v u h => ?_)
      subst h
      refine r_st (st' := []) rfl ?_
      refine r_iconst (nI 0) dX4_admt_32 (by decide +kernel) ?_
      exact r_iret (()) dX4_admt_33 (by rw [e] <;> rfl) (by unfold stK; rw [if_pos e, if_pos e, if_pos e]; unfold rfU; rw [e]; rfl)
    · exact absurd rfl hq1
  · refine r_lv (lv' := [some (.ref (b 0)), some (.int (nI 116)), some (.int (k)), some (.int (v)), some (.int (-2))]) (by rw [e]) ?_
    refine r_iload dX4_admt_9 rfl ?_
    refine r_if_eq 21 dX4_admt_11 (by decide) (fun hq2 => ?_) (fun hq2 => ?_)
    · exact absurd hq2 (by decide +kernel)
    · refine r_aload_n 0 dX4_admt_14 rfl rfl ?_
      refine r_iload dX4_admt_15 rfl ?_
      refine r_callV2 (As := [.int (-2)]) (st := []) (fun _ => gapW cA b q p t rd tx tl (badR rf) ++ (rowW cA q ρ ++ (stW cA cB t r σ (nI (h))))) [gapW cA b q p t rd tx tl rf, rowW cA q ρ, stW cA cB t r σ (nI (h))] [gapW cA b q p t rd tx tl rf] [rowW cA q ρ, stW cA cB t r σ (nI (h))] (fun _ => [gapW cA b q p t rd tx tl (badR rf), rowW cA q ρ, stW cA cB t r σ (nI (h))]) (fun _ => [gapW cA b q p t rd tx tl (badR rf)]) (c_X4_refuse_2 l D cA cB b q p t rd tx tl rf) kv_X4_refuse ml_X4_81 dX4_admt_17 rfl rfl rfl rfl (segOk [0, 1, 2] rfl rfl rfl rfl) (fun _ => segOk [0, 1, 2] rfl rfl rfl rfl) rfl (Nat.le_of_ble_eq_true rfl) (fun v u h => ?_)
      subst h
      refine r_st (st' := [.int (-2)]) rfl ?_
      exact r_iret (()) dX4_admt_20 (by rw [e]) (by unfold stK; rw [if_neg (by rw [e]; decide +kernel), if_neg (by rw [e]; decide +kernel), if_neg (by rw [e]; decide +kernel)]; unfold rfU; rw [e]; rfl)
  · refine r_lv (lv' := [some (.ref (b 0)), some (.int (nI 116)), some (.int (k)), some (.int (v)), some (.int (-3))]) (by rw [e]) ?_
    refine r_iload dX4_admt_9 rfl ?_
    refine r_if_eq 21 dX4_admt_11 (by decide) (fun hq3 => ?_) (fun hq3 => ?_)
    · exact absurd hq3 (by decide +kernel)
    · refine r_aload_n 0 dX4_admt_14 rfl rfl ?_
      refine r_iload dX4_admt_15 rfl ?_
      refine r_callV2 (As := [.int (-3)]) (st := []) (fun _ => gapW cA b q p t rd tx tl (noR rf) ++ (rowW cA q ρ ++ (stW cA cB t r σ (nI (h))))) [gapW cA b q p t rd tx tl rf, rowW cA q ρ, stW cA cB t r σ (nI (h))] [gapW cA b q p t rd tx tl rf] [rowW cA q ρ, stW cA cB t r σ (nI (h))] (fun _ => [gapW cA b q p t rd tx tl (noR rf), rowW cA q ρ, stW cA cB t r σ (nI (h))]) (fun _ => [gapW cA b q p t rd tx tl (noR rf)]) (c_X4_refuse_3 l D cA cB b q p t rd tx tl rf) kv_X4_refuse ml_X4_81 dX4_admt_17 rfl rfl rfl rfl (segOk [0, 1, 2] rfl rfl rfl rfl) (fun _ => segOk [0, 1, 2] rfl rfl rfl rfl) rfl (Nat.le_of_ble_eq_true rfl) (fun v u h => ?_)
      subst h
      refine r_st (st' := [.int (-3)]) rfl ?_
      exact r_iret (()) dX4_admt_20 (by rw [e]) (by unfold stK; rw [if_neg (by rw [e]; decide +kernel), if_neg (by rw [e]; decide +kernel), if_neg (by rw [e]; decide +kernel)]; unfold rfU; rw [e]; rfl)

set_option maxRecDepth 100000 in
set_option maxHeartbeats 4000000 in
theorem c_X4_admt_m (l : Launch) (D : va_G) (cA cB : ClassId) (b q p t : Nat → Nat) (rd : Nat) (tx : Nat → Int32) (tl : Nat) (rf : Nat → Int32) (ρ : Nat → Int32) (r : Nat → Nat → Nat) (σ : Nat → Nat → Int32) (h : Nat) (hh : h ≤ 5) (x y : Int32) : Mt l D (tyS cA cB) yX4_admt cX4_admt 5 (some .int) ({ frames := 5, cells := 0, slots := 0, locals := 111 } : Room) [.ref (b 0), .int (nI 109), .int (x), .int (y)] (gapW cA b q p t rd tx tl rf ++ (rowW cA q ρ ++ (stW cA cB t r σ (nI (h))))) Unit (fun w _ => w = some (.int (rfM x))) (fun _ => gapW cA b q p t rd tx tl (rfU (rfM x) rf) ++ (rowW cA q ρ ++ (stK cA cB t r σ h ρ (rfM x)))) 0 0 := by
  refine mt_in RX4 ([some (.ref (b 0)), some (.int (nI 109)), some (.int (x)), some (.int (y)), none]) rfl (by decide +kernel) rfl (Nat.le_of_ble_eq_true rfl) rfl rfl (fun X sz => ?_)
  refine r_aload_n 0 dX4_admt_0 rfl rfl ?_
  refine r_iload_n 1 dX4_admt_1 rfl rfl ?_
  refine r_iload_n 2 dX4_admt_2 rfl rfl ?_
  refine r_iload_n 3 dX4_admt_3 rfl rfl ?_
  refine r_callV2 (As := [.int (nI 109), .int (x), .int (y)]) (st := []) (fun _ => gapW cA b q p t rd tx tl rf ++ (rowW cA q ρ ++ (stW cA cB t r σ (nI (h))))) [gapW cA b q p t rd tx tl rf, rowW cA q ρ, stW cA cB t r σ (nI (h))] [gapW cA b q p t rd tx tl rf, rowW cA q ρ] [stW cA cB t r σ (nI (h))] (fun _ => [gapW cA b q p t rd tx tl rf, rowW cA q ρ, stW cA cB t r σ (nI (h))]) (fun _ => [gapW cA b q p t rd tx tl rf, rowW cA q ρ]) (c_X4_refusalOf_m l D cA cB b q p t rd tx tl rf ρ x y) kv_X4_refusalOf ml_X4_154 dX4_admt_4 rfl rfl rfl rfl (segOk [0, 1, 2] rfl rfl rfl rfl) (fun _ => segOk [0, 1, 2] rfl rfl rfl rfl) rfl (Nat.le_of_ble_eq_true rfl) (fun v u h => ?_)
  subst h
  refine r_st (st' := [.int (rfM x)]) rfl ?_
  refine r_istore ([some (.ref (b 0)), some (.int (nI 109)), some (.int (x)), some (.int (y)), some (.int (rfM x))]) dX4_admt_7 (Nat.le_of_ble_eq_true rfl) rfl rfl ?_
  rcases rfM_cases x with e | e
  · refine r_lv (lv' := [some (.ref (b 0)), some (.int (nI 109)), some (.int (x)), some (.int (y)), some (.int (0))]) (by rw [e]) ?_
    refine r_iload dX4_admt_9 rfl ?_
    refine r_if_eq 21 dX4_admt_11 (by decide) (fun hq1 => ?_) (fun hq1 => ?_)
    · refine r_aload_n 0 dX4_admt_21 rfl rfl ?_
      refine r_get 0 fk_X4_26 dX4_admt_22 rfl rfl ?_
      refine r_aload_n 0 dX4_admt_25 rfl rfl ?_
      refine r_get 0 fk_X4_10 dX4_admt_26 rfl rfl ?_
      refine r_callV2 (As := [.ref (q 0)]) (st := []) (fun _ => gapW cA b q p t rd tx tl rf ++ (rowW cA q ρ ++ (stW cA cB t (kpR r h) (kpS σ h ρ) (nI (kpH h))))) [gapW cA b q p t rd tx tl rf, rowW cA q ρ, stW cA cB t r σ (nI (h))] [stW cA cB t r σ (nI (h)), rowW cA q ρ] [gapW cA b q p t rd tx tl rf] (fun _ => [gapW cA b q p t rd tx tl rf, rowW cA q ρ, stW cA cB t (kpR r h) (kpS σ h ρ) (nI (kpH h))]) (fun _ => [stW cA cB t (kpR r h) (kpS σ h ρ) (nI (kpH h)), rowW cA q ρ]) (c_X3_keep2 l D cA cB t r σ h hh q ρ) kv_X3_keep ml_X4_66 dX4_admt_29 rfl rfl rfl rfl (segOk [2, 1, 0] rfl rfl rfl rfl) (fun _ => segOk [2, 1, 0] rfl rfl rfl rfl) rfl (Nat.le_of_ble_eq_true rfl) (fun v u h => ?_)
      subst h
      refine r_st (st' := []) rfl ?_
      refine r_iconst (nI 0) dX4_admt_32 (by decide +kernel) ?_
      exact r_iret (()) dX4_admt_33 (by rw [e] <;> rfl) (by unfold stK; rw [if_pos e, if_pos e, if_pos e]; unfold rfU; rw [e]; rfl)
    · exact absurd rfl hq1
  · refine r_lv (lv' := [some (.ref (b 0)), some (.int (nI 109)), some (.int (x)), some (.int (y)), some (.int (-2))]) (by rw [e]) ?_
    refine r_iload dX4_admt_9 rfl ?_
    refine r_if_eq 21 dX4_admt_11 (by decide) (fun hq2 => ?_) (fun hq2 => ?_)
    · exact absurd hq2 (by decide +kernel)
    · refine r_aload_n 0 dX4_admt_14 rfl rfl ?_
      refine r_iload dX4_admt_15 rfl ?_
      refine r_callV2 (As := [.int (-2)]) (st := []) (fun _ => gapW cA b q p t rd tx tl (badR rf) ++ (rowW cA q ρ ++ (stW cA cB t r σ (nI (h))))) [gapW cA b q p t rd tx tl rf, rowW cA q ρ, stW cA cB t r σ (nI (h))] [gapW cA b q p t rd tx tl rf] [rowW cA q ρ, stW cA cB t r σ (nI (h))] (fun _ => [gapW cA b q p t rd tx tl (badR rf), rowW cA q ρ, stW cA cB t r σ (nI (h))]) (fun _ => [gapW cA b q p t rd tx tl (badR rf)]) (c_X4_refuse_2 l D cA cB b q p t rd tx tl rf) kv_X4_refuse ml_X4_81 dX4_admt_17 rfl rfl rfl rfl (segOk [0, 1, 2] rfl rfl rfl rfl) (fun _ => segOk [0, 1, 2] rfl rfl rfl rfl) rfl (Nat.le_of_ble_eq_true rfl) (fun v u h => ?_)
      subst h
      refine r_st (st' := [.int (-2)]) rfl ?_
      exact r_iret (()) dX4_admt_20 (by rw [e]) (by unfold stK; rw [if_neg (by rw [e]; decide +kernel), if_neg (by rw [e]; decide +kernel), if_neg (by rw [e]; decide +kernel)]; unfold rfU; rw [e]; rfl)

set_option maxRecDepth 100000 in
set_option maxHeartbeats 4000000 in
theorem c_X4_admt_d (l : Launch) (D : va_G) (cA cB : ClassId) (b q p t : Nat → Nat) (rd : Nat) (tx : Nat → Int32) (tl : Nat) (rf : Nat → Int32) (ρ : Nat → Int32) (r : Nat → Nat → Nat) (σ : Nat → Nat → Int32) (h : Nat) (hh : h ≤ 5) (x y : Int32) : Mt l D (tyS cA cB) yX4_admt cX4_admt 5 (some .int) ({ frames := 5, cells := 0, slots := 0, locals := 111 } : Room) [.ref (b 0), .int (nI 100), .int (x), .int (y)] (gapW cA b q p t rd tx tl rf ++ (rowW cA q ρ ++ (stW cA cB t r σ (nI (h))))) Unit (fun w _ => w = some (.int (rfD x y))) (fun _ => gapW cA b q p t rd tx tl (rfU (rfD x y) rf) ++ (rowW cA q ρ ++ (stK cA cB t r σ h ρ (rfD x y)))) 0 0 := by
  refine mt_in RX4 ([some (.ref (b 0)), some (.int (nI 100)), some (.int (x)), some (.int (y)), none]) rfl (by decide +kernel) rfl (Nat.le_of_ble_eq_true rfl) rfl rfl (fun X sz => ?_)
  refine r_aload_n 0 dX4_admt_0 rfl rfl ?_
  refine r_iload_n 1 dX4_admt_1 rfl rfl ?_
  refine r_iload_n 2 dX4_admt_2 rfl rfl ?_
  refine r_iload_n 3 dX4_admt_3 rfl rfl ?_
  refine r_callV2 (As := [.int (nI 100), .int (x), .int (y)]) (st := []) (fun _ => gapW cA b q p t rd tx tl rf ++ (rowW cA q ρ ++ (stW cA cB t r σ (nI (h))))) [gapW cA b q p t rd tx tl rf, rowW cA q ρ, stW cA cB t r σ (nI (h))] [gapW cA b q p t rd tx tl rf, rowW cA q ρ] [stW cA cB t r σ (nI (h))] (fun _ => [gapW cA b q p t rd tx tl rf, rowW cA q ρ, stW cA cB t r σ (nI (h))]) (fun _ => [gapW cA b q p t rd tx tl rf, rowW cA q ρ]) (c_X4_refusalOf_d l D cA cB b q p t rd tx tl rf ρ x y) kv_X4_refusalOf ml_X4_154 dX4_admt_4 rfl rfl rfl rfl (segOk [0, 1, 2] rfl rfl rfl rfl) (fun _ => segOk [0, 1, 2] rfl rfl rfl rfl) rfl (Nat.le_of_ble_eq_true rfl) (fun v u h => ?_)
  subst h
  refine r_st (st' := [.int (rfD x y)]) rfl ?_
  refine r_istore ([some (.ref (b 0)), some (.int (nI 100)), some (.int (x)), some (.int (y)), some (.int (rfD x y))]) dX4_admt_7 (Nat.le_of_ble_eq_true rfl) rfl rfl ?_
  rcases rfD_cases x y with e | e
  · refine r_lv (lv' := [some (.ref (b 0)), some (.int (nI 100)), some (.int (x)), some (.int (y)), some (.int (0))]) (by rw [e]) ?_
    refine r_iload dX4_admt_9 rfl ?_
    refine r_if_eq 21 dX4_admt_11 (by decide) (fun hq1 => ?_) (fun hq1 => ?_)
    · refine r_aload_n 0 dX4_admt_21 rfl rfl ?_
      refine r_get 0 fk_X4_26 dX4_admt_22 rfl rfl ?_
      refine r_aload_n 0 dX4_admt_25 rfl rfl ?_
      refine r_get 0 fk_X4_10 dX4_admt_26 rfl rfl ?_
      refine r_callV2 (As := [.ref (q 0)]) (st := []) (fun _ => gapW cA b q p t rd tx tl rf ++ (rowW cA q ρ ++ (stW cA cB t (kpR r h) (kpS σ h ρ) (nI (kpH h))))) [gapW cA b q p t rd tx tl rf, rowW cA q ρ, stW cA cB t r σ (nI (h))] [stW cA cB t r σ (nI (h)), rowW cA q ρ] [gapW cA b q p t rd tx tl rf] (fun _ => [gapW cA b q p t rd tx tl rf, rowW cA q ρ, stW cA cB t (kpR r h) (kpS σ h ρ) (nI (kpH h))]) (fun _ => [stW cA cB t (kpR r h) (kpS σ h ρ) (nI (kpH h)), rowW cA q ρ]) (c_X3_keep2 l D cA cB t r σ h hh q ρ) kv_X3_keep ml_X4_66 dX4_admt_29 rfl rfl rfl rfl (segOk [2, 1, 0] rfl rfl rfl rfl) (fun _ => segOk [2, 1, 0] rfl rfl rfl rfl) rfl (Nat.le_of_ble_eq_true rfl) (fun v u h => ?_)
      subst h
      refine r_st (st' := []) rfl ?_
      refine r_iconst (nI 0) dX4_admt_32 (by decide +kernel) ?_
      exact r_iret (()) dX4_admt_33 (by rw [e] <;> rfl) (by unfold stK; rw [if_pos e, if_pos e, if_pos e]; unfold rfU; rw [e]; rfl)
    · exact absurd rfl hq1
  · refine r_lv (lv' := [some (.ref (b 0)), some (.int (nI 100)), some (.int (x)), some (.int (y)), some (.int (-2))]) (by rw [e]) ?_
    refine r_iload dX4_admt_9 rfl ?_
    refine r_if_eq 21 dX4_admt_11 (by decide) (fun hq2 => ?_) (fun hq2 => ?_)
    · exact absurd hq2 (by decide +kernel)
    · refine r_aload_n 0 dX4_admt_14 rfl rfl ?_
      refine r_iload dX4_admt_15 rfl ?_
      refine r_callV2 (As := [.int (-2)]) (st := []) (fun _ => gapW cA b q p t rd tx tl (badR rf) ++ (rowW cA q ρ ++ (stW cA cB t r σ (nI (h))))) [gapW cA b q p t rd tx tl rf, rowW cA q ρ, stW cA cB t r σ (nI (h))] [gapW cA b q p t rd tx tl rf] [rowW cA q ρ, stW cA cB t r σ (nI (h))] (fun _ => [gapW cA b q p t rd tx tl (badR rf), rowW cA q ρ, stW cA cB t r σ (nI (h))]) (fun _ => [gapW cA b q p t rd tx tl (badR rf)]) (c_X4_refuse_2 l D cA cB b q p t rd tx tl rf) kv_X4_refuse ml_X4_81 dX4_admt_17 rfl rfl rfl rfl (segOk [0, 1, 2] rfl rfl rfl rfl) (fun _ => segOk [0, 1, 2] rfl rfl rfl rfl) rfl (Nat.le_of_ble_eq_true rfl) (fun v u h => ?_)
      subst h
      refine r_st (st' := [.int (-2)]) rfl ?_
      exact r_iret (()) dX4_admt_20 (by rw [e]) (by unfold stK; rw [if_neg (by rw [e]; decide +kernel), if_neg (by rw [e]; decide +kernel), if_neg (by rw [e]; decide +kernel)]; unfold rfU; rw [e]; rfl)

set_option maxRecDepth 100000 in
set_option maxHeartbeats 4000000 in
theorem c_X4_puts (l : Launch) (D : va_G) (cA cB : ClassId) (b q p t : Nat → Nat) (rd : Nat) (tx : Nat → Int32) (tl : Nat) (rf : Nat → Int32) (ρ : Nat → Int32) (n : Nat) (hsz : ρ 0 = nI n) (h3 : n = 16 ∨ n = 32 ∨ n = 64) (g : Nat) (hg : ρ 6 = nI g) (hg8 : g ≤ 8) (u0 : Sp5) (r : Nat → Nat → Nat) (σ : Nat → Nat → Int32) (h : Nat) (hh : h ≤ 5) (hs : Srt ρ n) (k v : Int32) : Mt l D (tyS cA cB) yX4_puts cX4_puts 4 (some .int) ({ frames := 6, cells := 0, slots := 0, locals := 135 } : Room) [.ref (b 0), .int (k), .int (v)] (gapW cA b q p t rd tx tl rf ++ (rowW cA q ρ ++ (spU cA p u0 ++ (stW cA cB t r σ (nI (h)))))) Sp5 (fun w _ => w = some (.int (pAns ρ n k v))) (fun u => gapW cA b q p t rd tx tl (rfU (rfP ρ n k v) rf) ++ (rowW cA q (pRow ρ n g k v) ++ (spU cA p u ++ (stK cA cB t r σ h ρ (rfP ρ n k v))))) 0 0 := by
  refine mt_in RX4 ([some (.ref (b 0)), some (.int (k)), some (.int (v)), none]) rfl (by decide +kernel) rfl (Nat.le_of_ble_eq_true rfl) rfl rfl (fun X sz => ?_)
  refine r_aload_n 0 dX4_puts_0 rfl rfl ?_
  refine r_bipush (nI 112) dX4_puts_1 (by decide +kernel) ?_
  refine r_iload_n 1 dX4_puts_3 rfl rfl ?_
  refine r_iload_n 2 dX4_puts_4 rfl rfl ?_
  refine r_callV2 (As := [.int (nI 112), .int (k), .int (v)]) (st := []) (fun _ => gapW cA b q p t rd tx tl (rfU (rfP ρ n k v) rf) ++ (rowW cA q ρ ++ (spU cA p u0 ++ (stK cA cB t r σ h ρ (rfP ρ n k v))))) [gapW cA b q p t rd tx tl rf, rowW cA q ρ, spU cA p u0, stW cA cB t r σ (nI (h))] [gapW cA b q p t rd tx tl rf, rowW cA q ρ, stW cA cB t r σ (nI (h))] [spU cA p u0] (fun _ => [gapW cA b q p t rd tx tl (rfU (rfP ρ n k v) rf), rowW cA q ρ, spU cA p u0, stK cA cB t r σ h ρ (rfP ρ n k v)]) (fun _ => [gapW cA b q p t rd tx tl (rfU (rfP ρ n k v) rf), rowW cA q ρ, stK cA cB t r σ h ρ (rfP ρ n k v)]) (c_X4_admt_p l D cA cB b q p t rd tx tl rf ρ n hsz h3 r σ h hh hs k v) kv_X4_admt ml_X4_48 dX4_puts_5 rfl rfl rfl rfl (segOk [0, 1, 3, 2] rfl rfl rfl rfl) (fun _ => segOk [0, 1, 3, 2] rfl rfl rfl rfl) rfl (Nat.le_of_ble_eq_true rfl) (fun v u h => ?_)
  subst h
  refine r_st (st' := [.int (rfP ρ n k v)]) rfl ?_
  refine r_istore_n 3 ([some (.ref (b 0)), some (.int (k)), some (.int (v)), some (.int (rfP ρ n k v))]) dX4_puts_8 rfl (Nat.le_of_ble_eq_true rfl) rfl rfl ?_
  rcases rfP_cases ρ n k v with e | e | e
  · refine r_lv (lv' := [some (.ref (b 0)), some (.int (k)), some (.int (v)), some (.int (0))]) (by rw [e]) ?_
    refine r_iload_n 3 dX4_puts_9 rfl rfl ?_
    refine r_if_ne 22 dX4_puts_10 (by decide) (fun hq1 => ?_) (fun hq1 => ?_)
    · exact absurd rfl hq1
    · refine r_aload_n 0 dX4_puts_13 rfl rfl ?_
      refine r_iload_n 1 dX4_puts_14 rfl rfl ?_
      refine r_iload_n 2 dX4_puts_15 rfl rfl ?_
      refine r_callV2 (As := [.int (k), .int (v)]) (st := []) (fun u2 => gapW cA b q p t rd tx tl (rfU (rfP ρ n k v) rf) ++ (rowW cA q (putR ρ n g k v) ++ (spU cA p u2 ++ (stK cA cB t r σ h ρ (rfP ρ n k v))))) [gapW cA b q p t rd tx tl (rfU (rfP ρ n k v) rf), rowW cA q ρ, spU cA p u0, stK cA cB t r σ h ρ (rfP ρ n k v)] [gapW cA b q p t rd tx tl (rfU (rfP ρ n k v) rf), rowW cA q ρ, spU cA p u0] [stK cA cB t r σ h ρ (rfP ρ n k v)] (fun u2 => [gapW cA b q p t rd tx tl (rfU (rfP ρ n k v) rf), rowW cA q (putR ρ n g k v), spU cA p u2, stK cA cB t r σ h ρ (rfP ρ n k v)]) (fun u2 => [gapW cA b q p t rd tx tl (rfU (rfP ρ n k v) rf), rowW cA q (putR ρ n g k v), spU cA p u2]) (c_X4_putKey l D cA cB b q p t rd tx tl (rfU (rfP ρ n k v) rf) ρ n hsz h3 g hg hg8 hs u0 k v (rfP_hr e).1 (rfP_hr e).2) kv_X4_putKey ml_X4_52 dX4_puts_16 rfl rfl rfl rfl (segOk [0, 1, 2, 3] rfl rfl rfl rfl) (fun _ => segOk [0, 1, 2, 3] rfl rfl rfl rfl) rfl (Nat.le_of_ble_eq_true rfl) (fun v u2 h => ?_)
      subst h
      refine r_st (st' := [.int (putM ρ n k)]) rfl ?_
      refine r_goto 23 dX4_puts_19 (by decide) ?_
      exact r_iret ((u2.1, u2.2.1, u2.2.2.1, u2.2.2.2.1, u2.2.2.2.2)) dX4_puts_23 (by unfold pAns; rw [if_pos e]) (by unfold pRow; rw [if_pos e])
  · refine r_lv (lv' := [some (.ref (b 0)), some (.int (k)), some (.int (v)), some (.int (-2))]) (by rw [e]) ?_
    refine r_iload_n 3 dX4_puts_9 rfl rfl ?_
    refine r_if_ne 22 dX4_puts_10 (by decide) (fun hq3 => ?_) (fun hq3 => ?_)
    · refine r_iload_n 3 dX4_puts_22 rfl rfl ?_
      exact r_iret ((u0.1, u0.2.1, u0.2.2.1, u0.2.2.2.1, u0.2.2.2.2)) dX4_puts_23 (by unfold pAns; rw [if_neg (by rw [e]; decide +kernel), e]) (by unfold pRow; rw [if_neg (by rw [e]; decide +kernel)])
    · exact absurd hq3 (by decide +kernel)
  · refine r_lv (lv' := [some (.ref (b 0)), some (.int (k)), some (.int (v)), some (.int (-4))]) (by rw [e]) ?_
    refine r_iload_n 3 dX4_puts_9 rfl rfl ?_
    refine r_if_ne 22 dX4_puts_10 (by decide) (fun hq4 => ?_) (fun hq4 => ?_)
    · refine r_iload_n 3 dX4_puts_22 rfl rfl ?_
      exact r_iret ((u0.1, u0.2.1, u0.2.2.1, u0.2.2.2.1, u0.2.2.2.2)) dX4_puts_23 (by unfold pAns; rw [if_neg (by rw [e]; decide +kernel), e]) (by unfold pRow; rw [if_neg (by rw [e]; decide +kernel)])
    · exact absurd hq4 (by decide +kernel)

set_option maxRecDepth 100000 in
set_option maxHeartbeats 4000000 in
theorem c_X4_takes (l : Launch) (D : va_G) (cA cB : ClassId) (b q p t : Nat → Nat) (rd : Nat) (tx : Nat → Int32) (tl : Nat) (rf : Nat → Int32) (ρ : Nat → Int32) (n : Nat) (hsz : ρ 0 = nI n) (h3 : n = 16 ∨ n = 32 ∨ n = 64) (g : Nat) (hg : ρ 6 = nI g) (hg8 : g ≤ 8) (u0 : Sp5) (r : Nat → Nat → Nat) (σ : Nat → Nat → Int32) (h : Nat) (hh : h ≤ 5) (hs : Srt ρ n) (k : Int32) : Mt l D (tyS cA cB) yX4_takes cX4_takes 3 (some .int) ({ frames := 6, cells := 0, slots := 0, locals := 135 } : Room) [.ref (b 0), .int (k)] (gapW cA b q p t rd tx tl rf ++ (rowW cA q ρ ++ (spU cA p u0 ++ (stW cA cB t r σ (nI (h)))))) Sp5 (fun w _ => w = some (.int (tAns ρ n k))) (fun u => gapW cA b q p t rd tx tl (rfU (rfT ρ n k) rf) ++ (rowW cA q (tRow ρ n g k) ++ (spU cA p u ++ (stK cA cB t r σ h ρ (rfT ρ n k))))) 0 0 := by
  refine mt_in RX4 ([some (.ref (b 0)), some (.int (k)), none]) rfl (by decide +kernel) rfl (Nat.le_of_ble_eq_true rfl) rfl rfl (fun X sz => ?_)
  refine r_aload_n 0 dX4_takes_0 rfl rfl ?_
  refine r_bipush (nI 116) dX4_takes_1 (by decide +kernel) ?_
  refine r_iload_n 1 dX4_takes_3 rfl rfl ?_
  refine r_iconst (nI 0) dX4_takes_4 (by decide +kernel) ?_
  refine r_callV2 (As := [.int (nI 116), .int (k), .int (nI 0)]) (st := []) (fun _ => gapW cA b q p t rd tx tl (rfU (rfT ρ n k) rf) ++ (rowW cA q ρ ++ (spU cA p u0 ++ (stK cA cB t r σ h ρ (rfT ρ n k))))) [gapW cA b q p t rd tx tl rf, rowW cA q ρ, spU cA p u0, stW cA cB t r σ (nI (h))] [gapW cA b q p t rd tx tl rf, rowW cA q ρ, stW cA cB t r σ (nI (h))] [spU cA p u0] (fun _ => [gapW cA b q p t rd tx tl (rfU (rfT ρ n k) rf), rowW cA q ρ, spU cA p u0, stK cA cB t r σ h ρ (rfT ρ n k)]) (fun _ => [gapW cA b q p t rd tx tl (rfU (rfT ρ n k) rf), rowW cA q ρ, stK cA cB t r σ h ρ (rfT ρ n k)]) (c_X4_admt_t l D cA cB b q p t rd tx tl rf ρ n hsz h3 r σ h hh hs k (nI 0)) kv_X4_admt ml_X4_48 dX4_takes_5 rfl rfl rfl rfl (segOk [0, 1, 3, 2] rfl rfl rfl rfl) (fun _ => segOk [0, 1, 3, 2] rfl rfl rfl rfl) rfl (Nat.le_of_ble_eq_true rfl) (fun v u h => ?_)
  subst h
  refine r_st (st' := [.int (rfT ρ n k)]) rfl ?_
  refine r_istore_n 2 ([some (.ref (b 0)), some (.int (k)), some (.int (rfT ρ n k))]) dX4_takes_8 rfl (Nat.le_of_ble_eq_true rfl) rfl rfl ?_
  rcases rfT_cases ρ n k with e | e | e
  · refine r_lv (lv' := [some (.ref (b 0)), some (.int (k)), some (.int (0))]) (by rw [e]) ?_
    refine r_iload_n 2 dX4_takes_9 rfl rfl ?_
    refine r_if_ne 21 dX4_takes_10 (by decide) (fun hq1 => ?_) (fun hq1 => ?_)
    · exact absurd rfl hq1
    · refine r_aload_n 0 dX4_takes_13 rfl rfl ?_
      refine r_iload_n 1 dX4_takes_14 rfl rfl ?_
      refine r_callV2 (As := [.int (k)]) (st := []) (fun u2 => gapW cA b q p t rd tx tl (rfU (rfT ρ n k) rf) ++ (rowW cA q (takR ρ n g k) ++ (spU cA p u2 ++ (stK cA cB t r σ h ρ (rfT ρ n k))))) [gapW cA b q p t rd tx tl (rfU (rfT ρ n k) rf), rowW cA q ρ, spU cA p u0, stK cA cB t r σ h ρ (rfT ρ n k)] [gapW cA b q p t rd tx tl (rfU (rfT ρ n k) rf), rowW cA q ρ, spU cA p u0] [stK cA cB t r σ h ρ (rfT ρ n k)] (fun u2 => [gapW cA b q p t rd tx tl (rfU (rfT ρ n k) rf), rowW cA q (takR ρ n g k), spU cA p u2, stK cA cB t r σ h ρ (rfT ρ n k)]) (fun u2 => [gapW cA b q p t rd tx tl (rfU (rfT ρ n k) rf), rowW cA q (takR ρ n g k), spU cA p u2]) (c_X4_takeKey l D cA cB b q p t rd tx tl (rfU (rfT ρ n k) rf) ρ n hsz h3 g hg hg8 hs u0 k (rfT_0 e).1 (rfT_0 e).2) kv_X4_takeKey ml_X4_56 dX4_takes_15 rfl rfl rfl rfl (segOk [0, 1, 2, 3] rfl rfl rfl rfl) (fun _ => segOk [0, 1, 2, 3] rfl rfl rfl rfl) rfl (Nat.le_of_ble_eq_true rfl) (fun v u2 h => ?_)
      subst h
      refine r_st (st' := [.int (valOf ρ k n)]) rfl ?_
      refine r_goto 22 dX4_takes_18 (by decide) ?_
      exact r_iret ((u2.1, u2.2.1, u2.2.2.1, u2.2.2.2.1, u2.2.2.2.2)) dX4_takes_22 (by unfold tAns; rw [if_pos e]) (by unfold tRow; rw [if_pos e])
  · refine r_lv (lv' := [some (.ref (b 0)), some (.int (k)), some (.int (-2))]) (by rw [e]) ?_
    refine r_iload_n 2 dX4_takes_9 rfl rfl ?_
    refine r_if_ne 21 dX4_takes_10 (by decide) (fun hq3 => ?_) (fun hq3 => ?_)
    · refine r_iload_n 2 dX4_takes_21 rfl rfl ?_
      exact r_iret ((u0.1, u0.2.1, u0.2.2.1, u0.2.2.2.1, u0.2.2.2.2)) dX4_takes_22 (by unfold tAns; rw [if_neg (by rw [e]; decide +kernel), e]) (by unfold tRow; rw [if_neg (by rw [e]; decide +kernel)])
    · exact absurd hq3 (by decide +kernel)
  · refine r_lv (lv' := [some (.ref (b 0)), some (.int (k)), some (.int (-3))]) (by rw [e]) ?_
    refine r_iload_n 2 dX4_takes_9 rfl rfl ?_
    refine r_if_ne 21 dX4_takes_10 (by decide) (fun hq4 => ?_) (fun hq4 => ?_)
    · refine r_iload_n 2 dX4_takes_21 rfl rfl ?_
      exact r_iret ((u0.1, u0.2.1, u0.2.2.1, u0.2.2.2.1, u0.2.2.2.2)) dX4_takes_22 (by unfold tAns; rw [if_neg (by rw [e]; decide +kernel), e]) (by unfold tRow; rw [if_neg (by rw [e]; decide +kernel)])
    · exact absurd hq4 (by decide +kernel)

set_option maxRecDepth 100000 in
set_option maxHeartbeats 4000000 in
theorem c_X4_mode (l : Launch) (D : va_G) (cA cB : ClassId) (b q p t : Nat → Nat) (rd : Nat) (tx : Nat → Int32) (tl : Nat) (rf : Nat → Int32) (ρ : Nat → Int32) (u0 : Sp5) (r : Nat → Nat → Nat) (σ : Nat → Nat → Int32) (h : Nat) (hh : h ≤ 5) (x : Int32) : Mt l D (tyS cA cB) yX4_mode cX4_mode 3 (some .int) ({ frames := 6, cells := 0, slots := 0, locals := 135 } : Room) [.ref (b 0), .int (x)] (gapW cA b q p t rd tx tl rf ++ (rowW cA q ρ ++ (spU cA p u0 ++ (stW cA cB t r σ (nI (h)))))) Sp5 (fun w _ => w = some (.int (mAns ρ x))) (fun u => gapW cA b q p t rd tx tl (rfU (rfM x) rf) ++ (rowW cA q (mRow ρ x) ++ (spU cA p u ++ (stK cA cB t r σ h ρ (rfM x))))) 0 0 := by
  refine mt_in RX4 ([some (.ref (b 0)), some (.int (x)), none]) rfl (by decide +kernel) rfl (Nat.le_of_ble_eq_true rfl) rfl rfl (fun X sz => ?_)
  refine r_aload_n 0 dX4_mode_0 rfl rfl ?_
  refine r_bipush (nI 109) dX4_mode_1 (by decide +kernel) ?_
  refine r_iload_n 1 dX4_mode_3 rfl rfl ?_
  refine r_iconst (nI 0) dX4_mode_4 (by decide +kernel) ?_
  refine r_callV2 (As := [.int (nI 109), .int (x), .int (nI 0)]) (st := []) (fun _ => gapW cA b q p t rd tx tl (rfU (rfM x) rf) ++ (rowW cA q ρ ++ (spU cA p u0 ++ (stK cA cB t r σ h ρ (rfM x))))) [gapW cA b q p t rd tx tl rf, rowW cA q ρ, spU cA p u0, stW cA cB t r σ (nI (h))] [gapW cA b q p t rd tx tl rf, rowW cA q ρ, stW cA cB t r σ (nI (h))] [spU cA p u0] (fun _ => [gapW cA b q p t rd tx tl (rfU (rfM x) rf), rowW cA q ρ, spU cA p u0, stK cA cB t r σ h ρ (rfM x)]) (fun _ => [gapW cA b q p t rd tx tl (rfU (rfM x) rf), rowW cA q ρ, stK cA cB t r σ h ρ (rfM x)]) (c_X4_admt_m l D cA cB b q p t rd tx tl rf ρ r σ h hh x (nI 0)) kv_X4_admt ml_X4_48 dX4_mode_5 rfl rfl rfl rfl (segOk [0, 1, 3, 2] rfl rfl rfl rfl) (fun _ => segOk [0, 1, 3, 2] rfl rfl rfl rfl) rfl (Nat.le_of_ble_eq_true rfl) (fun v u h => ?_)
  subst h
  refine r_st (st' := [.int (rfM x)]) rfl ?_
  refine r_istore_n 2 ([some (.ref (b 0)), some (.int (x)), some (.int (rfM x))]) dX4_mode_8 rfl (Nat.le_of_ble_eq_true rfl) rfl rfl ?_
  rcases rfM_cases x with e | e
  · refine r_lv (lv' := [some (.ref (b 0)), some (.int (x)), some (.int (0))]) (by rw [e]) ?_
    refine r_iload_n 2 dX4_mode_9 rfl rfl ?_
    refine r_if_ne 21 dX4_mode_10 (by decide) (fun hq1 => ?_) (fun hq1 => ?_)
    · exact absurd rfl hq1
    · refine r_aload_n 0 dX4_mode_13 rfl rfl ?_
      refine r_iload_n 1 dX4_mode_14 rfl rfl ?_
      refine r_callV2 (As := [.int (x)]) (st := []) (fun _ => gapW cA b q p t rd tx tl (rfU (rfM x) rf) ++ (rowW cA q (upd ρ 1 x) ++ (spU cA p u0 ++ (stK cA cB t r σ h ρ (rfM x))))) [gapW cA b q p t rd tx tl (rfU (rfM x) rf), rowW cA q ρ, spU cA p u0, stK cA cB t r σ h ρ (rfM x)] [gapW cA b q p t rd tx tl (rfU (rfM x) rf), rowW cA q ρ] [spU cA p u0, stK cA cB t r σ h ρ (rfM x)] (fun _ => [gapW cA b q p t rd tx tl (rfU (rfM x) rf), rowW cA q (upd ρ 1 x), spU cA p u0, stK cA cB t r σ h ρ (rfM x)]) (fun _ => [gapW cA b q p t rd tx tl (rfU (rfM x) rf), rowW cA q (upd ρ 1 x)]) (c_X4_turnMode l D cA cB b q p t rd tx tl (rfU (rfM x) rf) ρ x) kv_X4_turnMode ml_X4_63 dX4_mode_15 rfl rfl rfl rfl (segOk [0, 1, 2, 3] rfl rfl rfl rfl) (fun _ => segOk [0, 1, 2, 3] rfl rfl rfl rfl) rfl (Nat.le_of_ble_eq_true rfl) (fun v u h => ?_)
      subst h
      refine r_st (st' := [.int (ρ 1)]) rfl ?_
      refine r_goto 22 dX4_mode_18 (by decide) ?_
      exact r_iret ((u0.1, u0.2.1, u0.2.2.1, u0.2.2.2.1, u0.2.2.2.2)) dX4_mode_22 (by unfold mAns; rw [if_pos e]) (by unfold mRow; rw [if_pos e])
  · refine r_lv (lv' := [some (.ref (b 0)), some (.int (x)), some (.int (-2))]) (by rw [e]) ?_
    refine r_iload_n 2 dX4_mode_9 rfl rfl ?_
    refine r_if_ne 21 dX4_mode_10 (by decide) (fun hq2 => ?_) (fun hq2 => ?_)
    · refine r_iload_n 2 dX4_mode_21 rfl rfl ?_
      exact r_iret ((u0.1, u0.2.1, u0.2.2.1, u0.2.2.2.1, u0.2.2.2.2)) dX4_mode_22 (by unfold mAns; rw [if_neg (by rw [e]; decide +kernel), e]) (by unfold mRow; rw [if_neg (by rw [e]; decide +kernel)])
    · exact absurd hq2 (by decide +kernel)

