set_option maxRecDepth 100000 in
set_option maxHeartbeats 4000000 in
theorem c_X4_type (l : Launch) (D : va_G) (cA cB : ClassId) (b q p t : Nat → Nat) (rd : Nat) (tx : Nat → Int32) (tl : Nat) (rf : Nat → Int32) (htl : tl ≤ 120) (c : Int32) : Mt l D (tyS cA cB) yX4_type cX4_type 2 (some .int) ({ frames := 2, cells := 0, slots := 0, locals := 43 } : Room) [.ref (b 0), .int (c)] (gapW cA b q p t rd tx tl rf) Unit (fun v _ => v = some (.int (typA tx rf tl c).1)) (fun _ => gapW cA b q p t rd (typA tx rf tl c).2.1 (typA tx rf tl c).2.2.1 (typA tx rf tl c).2.2.2) 0 0 := by
  refine mt_in RX4 ([some (.ref (b 0)), some (.int (c))]) rfl (by decide +kernel) rfl (Nat.le_of_ble_eq_true rfl) rfl rfl (fun X sz => ?_)
  refine r_iload_n 1 dX4_type_0 rfl rfl ?_
  refine r_bipush (nI 127) dX4_type_1 (by decide +kernel) ?_
  refine r_callS2 (As := [.int (c), .int (nI 127)]) (st := []) (fun _ => gapW cA b q p t rd tx tl rf) [gapW cA b q p t rd tx tl rf] [] [gapW cA b q p t rd tx tl rf] (fun _ => [gapW cA b q p t rd tx tl rf]) (fun _ => []) (c_X4_within l D cA cB (c) (nI (127))) ks_X4_within ml_X4_77 dX4_type_3 rfl rfl (segOk [0] rfl rfl rfl rfl) (fun _ => segOk [0] rfl rfl rfl rfl) rfl (Nat.le_of_ble_eq_true rfl) (fun v u h => ?_)
  subst h
  refine r_st (st' := [.int (bI (wi (c) (nI (127))))]) rfl ?_
  refine r_bif_ne 16 dX4_type_6 (by decide) (fun hq1 => ?_) (fun hq1 => ?_)
  · refine r_aload_n 0 dX4_type_16 rfl rfl ?_
    refine r_get 0 fk_X4_41 dX4_type_17 rfl rfl ?_
    refine r_aload_n 0 dX4_type_20 rfl rfl ?_
    refine r_get 0 fk_X4_37 dX4_type_21 rfl rfl ?_
    refine r_alen 1 0 dX4_type_24 rfl rfl ?_
    refine r_top (y := nI 120) rfl ?_
    refine r_ncmp_lt 35 (by omega) (by omega) dX4_type_25 (by decide) (fun hq2 => ?_) (fun hq2 => ?_)
    · refine r_aload_n 0 dX4_type_35 rfl rfl ?_
      refine r_get 0 fk_X4_37 dX4_type_36 rfl rfl ?_
      refine r_aload_n 0 dX4_type_39 rfl rfl ?_
      refine r_get 0 fk_X4_41 dX4_type_40 rfl rfl ?_
      refine r_iload_n 1 dX4_type_43 rfl rfl ?_
      refine r_iast 1 (tl) ([(b 0, .inr (4, [.ref (q 0), .ref (p 0), .ref (t 0), .ref (rd), .ref (b 1), .int (nI tl), .ref (b 2)])), (b 1, .inl (cA, 120, .inl (upd tx tl c))), (b 2, .inl (cA, 3, .inl (rf)))]) dX4_type_44 rfl rfl rfl (by omega) (Nat.le_of_ble_eq_true rfl) rfl ?_
      refine r_aload_n 0 dX4_type_45 rfl rfl ?_
      refine r_dup rfl dX4_type_46 ?_
      refine r_get 0 fk_X4_41 dX4_type_47 rfl rfl ?_
      refine r_iconst (nI 1) dX4_type_50 (by decide +kernel) ?_
      refine r_niadd dX4_type_51 ?_
      refine r_put 0 ([(b 0, .inr (4, [.ref (q 0), .ref (p 0), .ref (t 0), .ref (rd), .ref (b 1), .int (nI (tl + 1)), .ref (b 2)])), (b 1, .inl (cA, 120, .inl (upd tx tl c))), (b 2, .inl (cA, 3, .inl (rf)))]) fk_X4_41 dX4_type_52 rfl rfl rfl rfl (Nat.le_of_ble_eq_true rfl) rfl ?_
      refine r_aload_n 0 dX4_type_55 rfl rfl ?_
      refine r_get 0 fk_X4_41 dX4_type_56 rfl rfl ?_
      exact r_iret (()) dX4_type_59 (by unfold typA; rw [if_pos hq1, if_pos hq2]) (by unfold typA; rw [if_pos hq1, if_pos hq2])
    · refine r_aload_n 0 dX4_type_28 rfl rfl ?_
      refine r_bipush (-4) dX4_type_29 (by decide +kernel) ?_
      refine r_callV2 (As := [.int (-4)]) (st := []) (fun _ => gapW cA b q p t rd tx tl (fulR rf)) [gapW cA b q p t rd tx tl rf] [gapW cA b q p t rd tx tl rf] [] (fun _ => [gapW cA b q p t rd tx tl (fulR rf)]) (fun _ => [gapW cA b q p t rd tx tl (fulR rf)]) (c_X4_refuse_4 l D cA cB b q p t rd tx tl rf) kv_X4_refuse ml_X4_81 dX4_type_31 rfl rfl rfl rfl (segOk [0] rfl rfl rfl rfl) (fun _ => segOk [0] rfl rfl rfl rfl) rfl (Nat.le_of_ble_eq_true rfl) (fun v u h => ?_)
      subst h
      refine r_st (st' := [.int (-4)]) rfl ?_
      exact r_iret (()) dX4_type_34 (by unfold typA; rw [if_pos hq1, if_neg (Nat.not_lt.mpr hq2)]) (by unfold typA; rw [if_pos hq1, if_neg (Nat.not_lt.mpr hq2)])
  · refine r_aload_n 0 dX4_type_9 rfl rfl ?_
    refine r_bipush (-2) dX4_type_10 (by decide +kernel) ?_
    refine r_callV2 (As := [.int (-2)]) (st := []) (fun _ => gapW cA b q p t rd tx tl (badR rf)) [gapW cA b q p t rd tx tl rf] [gapW cA b q p t rd tx tl rf] [] (fun _ => [gapW cA b q p t rd tx tl (badR rf)]) (fun _ => [gapW cA b q p t rd tx tl (badR rf)]) (c_X4_refuse_2 l D cA cB b q p t rd tx tl rf) kv_X4_refuse ml_X4_81 dX4_type_12 rfl rfl rfl rfl (segOk [0] rfl rfl rfl rfl) (fun _ => segOk [0] rfl rfl rfl rfl) rfl (Nat.le_of_ble_eq_true rfl) (fun v u h => ?_)
    subst h
    refine r_st (st' := [.int (-2)]) rfl ?_
    exact r_iret (()) dX4_type_15 (by unfold typA; rw [if_neg (ne_t hq1)]) (by unfold typA; rw [if_neg (ne_t hq1)])

set_option maxRecDepth 100000 in
set_option maxHeartbeats 4000000 in
theorem c_X4_clear (l : Launch) (D : va_G) (cA cB : ClassId) (b q p t : Nat → Nat) (rd : Nat) (tx : Nat → Int32) (tl : Nat) (rf : Nat → Int32) : Mt l D (tyS cA cB) yX4_clear cX4_clear 2 (some .int) ({ frames := 0, cells := 0, slots := 0, locals := 0 } : Room) [.ref (b 0)] (gapW cA b q p t rd tx tl rf) Unit (fun v _ => v = some (.int (nI tl))) (fun _ => gapW cA b q p t rd tx 0 rf) 0 0 := by
  refine mt_in RX4 ([some (.ref (b 0)), none]) rfl (by decide +kernel) rfl (Nat.le_of_ble_eq_true rfl) rfl rfl (fun X sz => ?_)
  refine r_aload_n 0 dX4_clear_0 rfl rfl ?_
  refine r_get 0 fk_X4_41 dX4_clear_1 rfl rfl ?_
  refine r_istore_n 1 ([some (.ref (b 0)), some (.int (nI tl))]) dX4_clear_4 rfl (Nat.le_of_ble_eq_true rfl) rfl rfl ?_
  refine r_aload_n 0 dX4_clear_5 rfl rfl ?_
  refine r_iconst (nI 0) dX4_clear_6 (by decide +kernel) ?_
  refine r_put 0 ([(b 0, .inr (4, [.ref (q 0), .ref (p 0), .ref (t 0), .ref (rd), .ref (b 1), .int (nI 0), .ref (b 2)])), (b 1, .inl (cA, 120, .inl (tx))), (b 2, .inl (cA, 3, .inl (rf)))]) fk_X4_41 dX4_clear_7 rfl rfl rfl rfl (Nat.le_of_ble_eq_true rfl) rfl ?_
  refine r_iload_n 1 dX4_clear_10 rfl rfl ?_
  exact r_iret (()) dX4_clear_11 (rfl) (rfl)

set_option maxRecDepth 100000 in
set_option maxHeartbeats 4000000 in
theorem c_X4_toldOf (l : Launch) (D : va_G) (cA cB : ClassId) (b q p t : Nat → Nat) (rd : Nat) (tx : Nat → Int32) (tl : Nat) (rf : Nat → Int32) (r : Nat → Nat → Nat) (σ : Nat → Nat → Int32) (h : Nat) (x : Nat) (hx : x ≤ 4) : Mt l D (tyS cA cB) yX4_toldOf cX4_toldOf 2 (some .int) ({ frames := 1, cells := 0, slots := 0, locals := 21 } : Room) [.ref (b 0), .int (nI x)] (gapW cA b q p t rd tx tl rf ++ (stW cA cB t r σ (nI (h)))) Unit (fun v _ => v = some (.int (toldF rf tl h x))) (fun _ => gapW cA b q p t rd tx tl rf ++ (stW cA cB t r σ (nI h))) 0 0 := by
  refine mt_in RX4 ([some (.ref (b 0)), some (.int (nI x))]) rfl (by decide +kernel) rfl (Nat.le_of_ble_eq_true rfl) rfl rfl (fun X sz => ?_)
  refine r_iload_n 1 dX4_toldOf_0 rfl rfl ?_
  refine r_aload_n 0 dX4_toldOf_1 rfl rfl ?_
  refine r_get 0 fk_X4_45 dX4_toldOf_2 rfl rfl ?_
  refine r_alen 2 0 dX4_toldOf_5 rfl rfl ?_
  refine r_top (y := nI 3) rfl ?_
  refine r_iconst (nI 1) dX4_toldOf_6 (by decide +kernel) ?_
  refine r_nisub (by omega) dX4_toldOf_7 ?_
  refine r_callS2 (As := [.int (nI x), .int (nI (3 - 1))]) (st := []) (fun _ => gapW cA b q p t rd tx tl rf ++ (stW cA cB t r σ (nI (h)))) [gapW cA b q p t rd tx tl rf, stW cA cB t r σ (nI (h))] [] [gapW cA b q p t rd tx tl rf, stW cA cB t r σ (nI (h))] (fun _ => [gapW cA b q p t rd tx tl rf, stW cA cB t r σ (nI (h))]) (fun _ => []) (c_X4_within l D cA cB (nI (x)) (nI (3 - 1))) ks_X4_within ml_X4_77 dX4_toldOf_8 rfl rfl (segOk [0, 1] rfl rfl rfl rfl) (fun _ => segOk [0, 1] rfl rfl rfl rfl) rfl (Nat.le_of_ble_eq_true rfl) (fun v u h => ?_)
  subst h
  refine r_st (st' := [.int (bI (wi (nI (x)) (nI (3 - 1))))]) rfl ?_
  refine r_bif_eq 21 dX4_toldOf_11 (by decide) (fun hq1 => ?_) (fun hq1 => ?_)
  · refine r_iload_n 1 dX4_toldOf_21 rfl rfl ?_
    refine r_iconst (nI 3) dX4_toldOf_22 (by decide +kernel) ?_
    refine r_ncmp_ne 33 (by omega) (by omega) dX4_toldOf_23 (by decide) (fun hq2 => ?_) (fun hq2 => ?_)
    · refine r_aload_n 0 dX4_toldOf_33 rfl rfl ?_
      refine r_get 0 fk_X4_26 dX4_toldOf_34 rfl rfl ?_
      refine r_get 3 fk_X4_171 dX4_toldOf_37 rfl rfl ?_
      exact r_iret (()) dX4_toldOf_40 (by unfold toldF; rw [if_neg (fun z => by have y := hq1; rw [wi_n (by omega) (by decide), decide_eq_true (show x ≤ 2 by omega)] at y; cases y), if_neg hq2]) (rfl)
    · refine r_aload_n 0 dX4_toldOf_26 rfl rfl ?_
      refine r_get 0 fk_X4_41 dX4_toldOf_27 rfl rfl ?_
      refine r_goto 40 dX4_toldOf_30 (by decide) ?_
      exact r_iret (()) dX4_toldOf_40 (by unfold toldF; rw [if_neg (fun z => by have y := hq1; rw [wi_n (by omega) (by decide), decide_eq_true (show x ≤ 2 by omega)] at y; cases y), if_pos hq2]) (rfl)
  · have hx3 : x < 3 := by have y := hq1; rw [wi_n (by omega) (by decide)] at y; have := of_decide_eq_true y; omega
    refine r_aload_n 0 dX4_toldOf_14 rfl rfl ?_
    refine r_get 0 fk_X4_45 dX4_toldOf_15 rfl rfl ?_
    refine r_iload_n 1 dX4_toldOf_18 rfl rfl ?_
    refine r_iald 2 (x) dX4_toldOf_19 rfl rfl rfl (by omega) (Nat.le_of_ble_eq_true rfl) ?_
    exact r_iret (()) dX4_toldOf_20 (by unfold toldF; rw [if_pos (by have := hq1; rw [wi_n (by omega) (by decide)] at this; have := of_decide_eq_true this; omega)]) (rfl)

set_option maxRecDepth 100000 in
set_option maxHeartbeats 4000000 in
theorem c_X4_told (l : Launch) (D : va_G) (cA cB : ClassId) (b q p t : Nat → Nat) (rd : Nat) (tx : Nat → Int32) (tl : Nat) (rf : Nat → Int32) (r : Nat → Nat → Nat) (σ : Nat → Nat → Int32) (h : Nat) (x : Int32) : Mt l D (tyS cA cB) yX4_told cX4_told 2 (some .int) ({ frames := 2, cells := 0, slots := 0, locals := 43 } : Room) [.ref (b 0), .int (x)] (gapW cA b q p t rd tx tl rf ++ (stW cA cB t r σ (nI (h)))) Unit (fun v _ => v = some (.int (tldA rf tl h x).1)) (fun _ => gapW cA b q p t rd tx tl ((tldA rf tl h x).2) ++ (stW cA cB t r σ (nI h))) 0 0 := by
  refine mt_in RX4 ([some (.ref (b 0)), some (.int (x))]) rfl (by decide +kernel) rfl (Nat.le_of_ble_eq_true rfl) rfl rfl (fun X sz => ?_)
  refine r_iload_n 1 dX4_told_0 rfl rfl ?_
  refine r_iconst (nI 4) dX4_told_1 (by decide +kernel) ?_
  refine r_callS2 (As := [.int (x), .int (nI 4)]) (st := []) (fun _ => gapW cA b q p t rd tx tl rf ++ (stW cA cB t r σ (nI (h)))) [gapW cA b q p t rd tx tl rf, stW cA cB t r σ (nI (h))] [] [gapW cA b q p t rd tx tl rf, stW cA cB t r σ (nI (h))] (fun _ => [gapW cA b q p t rd tx tl rf, stW cA cB t r σ (nI (h))]) (fun _ => []) (c_X4_within l D cA cB (x) (nI (4))) ks_X4_within ml_X4_77 dX4_told_2 rfl rfl (segOk [0, 1] rfl rfl rfl rfl) (fun _ => segOk [0, 1] rfl rfl rfl rfl) rfl (Nat.le_of_ble_eq_true rfl) (fun v u h => ?_)
  subst h
  refine r_st (st' := [.int (bI (wi (x) (nI (4))))]) rfl ?_
  refine r_bif_eq 16 dX4_told_5 (by decide) (fun hq1 => ?_) (fun hq1 => ?_)
  · refine r_aload_n 0 dX4_told_16 rfl rfl ?_
    refine r_bipush (-2) dX4_told_17 (by decide +kernel) ?_
    refine r_callV2 (As := [.int (-2)]) (st := []) (fun _ => gapW cA b q p t rd tx tl (badR rf) ++ (stW cA cB t r σ (nI (h)))) [gapW cA b q p t rd tx tl rf, stW cA cB t r σ (nI (h))] [gapW cA b q p t rd tx tl rf] [stW cA cB t r σ (nI (h))] (fun _ => [gapW cA b q p t rd tx tl (badR rf), stW cA cB t r σ (nI (h))]) (fun _ => [gapW cA b q p t rd tx tl (badR rf)]) (c_X4_refuse_2 l D cA cB b q p t rd tx tl rf) kv_X4_refuse ml_X4_81 dX4_told_19 rfl rfl rfl rfl (segOk [0, 1] rfl rfl rfl rfl) (fun _ => segOk [0, 1] rfl rfl rfl rfl) rfl (Nat.le_of_ble_eq_true rfl) (fun v u h => ?_)
    subst h
    refine r_st (st' := [.int (-2)]) rfl ?_
    exact r_iret (()) dX4_told_22 (by unfold tldA; rw [if_neg (ne_t hq1)]) (by unfold tldA; rw [if_neg (ne_t hq1)])
  · obtain ⟨i, hi, rfl⟩ := wi_ex (by decide) hq1
    refine r_aload_n 0 dX4_told_8 rfl rfl ?_
    refine r_iload_n 1 dX4_told_9 rfl rfl ?_
    refine r_callV2 (As := [.int (nI i)]) (st := []) (fun _ => gapW cA b q p t rd tx tl rf ++ (stW cA cB t r σ (nI (h)))) [gapW cA b q p t rd tx tl rf, stW cA cB t r σ (nI (h))] [gapW cA b q p t rd tx tl rf, stW cA cB t r σ (nI (h))] [] (fun _ => [gapW cA b q p t rd tx tl rf, stW cA cB t r σ (nI (h))]) (fun _ => [gapW cA b q p t rd tx tl rf, stW cA cB t r σ (nI (h))]) (c_X4_toldOf l D cA cB b q p t rd tx tl rf r σ h (i) (by omega)) kv_X4_toldOf ml_X4_174 dX4_told_10 rfl rfl rfl rfl (segOk [0, 1] rfl rfl rfl rfl) (fun _ => segOk [0, 1] rfl rfl rfl rfl) rfl (Nat.le_of_ble_eq_true rfl) (fun v u h => ?_)
    subst h
    refine r_st (st' := [.int (toldF rf tl h i)]) rfl ?_
    refine r_goto 22 dX4_told_13 (by decide) ?_
    exact r_iret (()) dX4_told_22 (by unfold tldA; rw [if_pos hq1, nI_clamp (by omega)]) (by unfold tldA; rw [if_pos hq1])

set_option maxRecDepth 100000 in
set_option maxHeartbeats 4000000 in
theorem c_X4_back (l : Launch) (D : va_G) (cA cB : ClassId) (b q p t : Nat → Nat) (rd : Nat) (tx : Nat → Int32) (tl : Nat) (rf : Nat → Int32) (ρ : Nat → Int32) (r : Nat → Nat → Nat) (σ : Nat → Nat → Int32) (h : Nat) (hh : h ≤ 5) : Mt l D (tyS cA cB) yX4_back cX4_back 1 (some .int) ({ frames := 3, cells := 0, slots := 0, locals := 64 } : Room) [.ref (b 0)] (gapW cA b q p t rd tx tl rf ++ (rowW cA q ρ ++ (stW cA cB t r σ (nI (h))))) Unit (fun v _ => v = some (.int (if 0 < h then nI (h - 1) else -3))) (fun _ => gapW cA b q p t rd tx tl (if 0 < h then rf else noR rf) ++ (rowW cA q (if 0 < h then σ (h - 1) else ρ) ++ (stW cA cB t r σ (nI (h - 1))))) 0 0 := by
  refine mt_in RX4 ([some (.ref (b 0))]) rfl (by decide +kernel) rfl (Nat.le_of_ble_eq_true rfl) rfl rfl (fun X sz => ?_)
  refine r_aload_n 0 dX4_back_0 rfl rfl ?_
  refine r_get 0 fk_X4_26 dX4_back_1 rfl rfl ?_
  refine r_aload_n 0 dX4_back_4 rfl rfl ?_
  refine r_get 0 fk_X4_10 dX4_back_5 rfl rfl ?_
  refine r_callV2 (As := [.ref (q 0)]) (st := []) (fun _ => gapW cA b q p t rd tx tl rf ++ (rowW cA q (if 0 < h then σ (h - 1) else ρ) ++ (stW cA cB t r σ (nI (h - 1))))) [gapW cA b q p t rd tx tl rf, rowW cA q ρ, stW cA cB t r σ (nI (h))] [stW cA cB t r σ (nI (h)), rowW cA q ρ] [gapW cA b q p t rd tx tl rf] (fun _ => [gapW cA b q p t rd tx tl rf, rowW cA q (if 0 < h then σ (h - 1) else ρ), stW cA cB t r σ (nI (h - 1))]) (fun _ => [stW cA cB t r σ (nI (h - 1)), rowW cA q (if 0 < h then σ (h - 1) else ρ)]) (c_X3_goBack l D cA cB t r σ h hh q ρ) kv_X3_goBack ml_X4_167 dX4_back_8 rfl rfl rfl rfl (segOk [2, 1, 0] rfl rfl rfl rfl) (fun _ => segOk [2, 1, 0] rfl rfl rfl rfl) rfl (Nat.le_of_ble_eq_true rfl) (fun v u h => ?_)
  subst h
  refine r_st (st' := [.int (bI (decide (0 < h)))]) rfl ?_
  refine r_bif_eq 24 dX4_back_11 (by decide) (fun hq1 => ?_) (fun hq1 => ?_)
  · refine r_aload_n 0 dX4_back_24 rfl rfl ?_
    refine r_bipush (-3) dX4_back_25 (by decide +kernel) ?_
    refine r_callV2 (As := [.int (-3)]) (st := []) (fun _ => gapW cA b q p t rd tx tl (noR rf) ++ (rowW cA q (if 0 < h then σ (h - 1) else ρ) ++ (stW cA cB t r σ (nI (h - 1))))) [gapW cA b q p t rd tx tl rf, rowW cA q (if 0 < h then σ (h - 1) else ρ), stW cA cB t r σ (nI (h - 1))] [gapW cA b q p t rd tx tl rf] [rowW cA q (if 0 < h then σ (h - 1) else ρ), stW cA cB t r σ (nI (h - 1))] (fun _ => [gapW cA b q p t rd tx tl (noR rf), rowW cA q (if 0 < h then σ (h - 1) else ρ), stW cA cB t r σ (nI (h - 1))]) (fun _ => [gapW cA b q p t rd tx tl (noR rf)]) (c_X4_refuse_3 l D cA cB b q p t rd tx tl rf) kv_X4_refuse ml_X4_81 dX4_back_27 rfl rfl rfl rfl (segOk [0, 1, 2] rfl rfl rfl rfl) (fun _ => segOk [0, 1, 2] rfl rfl rfl rfl) rfl (Nat.le_of_ble_eq_true rfl) (fun v u h => ?_)
    subst h
    refine r_st (st' := [.int (-3)]) rfl ?_
    exact r_iret (()) dX4_back_30 (by rw [if_neg (of_decide_eq_false hq1)]) (by rw [if_neg (of_decide_eq_false hq1), if_neg (of_decide_eq_false hq1)])
  · refine r_aload_n 0 dX4_back_14 rfl rfl ?_
    refine r_get 0 fk_X4_26 dX4_back_15 rfl rfl ?_
    refine r_get 9 fk_X4_171 dX4_back_18 rfl rfl ?_
    refine r_goto 30 dX4_back_21 (by decide) ?_
    exact r_iret (()) dX4_back_30 (by rw [if_pos (of_decide_eq_true hq1)]) (by rw [if_pos (of_decide_eq_true hq1), if_pos (of_decide_eq_true hq1)])

set_option maxRecDepth 100000 in
set_option maxHeartbeats 4000000 in
theorem c_X4_turnMode (l : Launch) (D : va_G) (cA cB : ClassId) (b q p t : Nat → Nat) (rd : Nat) (tx : Nat → Int32) (tl : Nat) (rf : Nat → Int32) (ρ : Nat → Int32) (x : Int32) : Mt l D (tyS cA cB) yX4_turnMode cX4_turnMode 3 (some .int) ({ frames := 0, cells := 0, slots := 0, locals := 0 } : Room) [.ref (b 0), .int (x)] (gapW cA b q p t rd tx tl rf ++ (rowW cA q ρ)) Unit (fun v _ => v = some (.int (ρ 1))) (fun _ => gapW cA b q p t rd tx tl rf ++ (rowW cA q (upd ρ 1 x))) 0 0 := by
  refine mt_in RX4 ([some (.ref (b 0)), some (.int (x)), none]) rfl (by decide +kernel) rfl (Nat.le_of_ble_eq_true rfl) rfl rfl (fun X sz => ?_)
  refine r_aload_n 0 dX4_turnMode_0 rfl rfl ?_
  refine r_get 0 fk_X4_10 dX4_turnMode_1 rfl rfl ?_
  refine r_get 3 fk_X4_188 dX4_turnMode_4 rfl rfl ?_
  refine r_istore_n 2 ([some (.ref (b 0)), some (.int (x)), some (.int (ρ 1))]) dX4_turnMode_7 rfl (Nat.le_of_ble_eq_true rfl) rfl rfl ?_
  refine r_aload_n 0 dX4_turnMode_8 rfl rfl ?_
  refine r_get 0 fk_X4_10 dX4_turnMode_9 rfl rfl ?_
  refine r_iload_n 1 dX4_turnMode_12 rfl rfl ?_
  refine r_put 3 (gapW cA b q p t rd tx tl rf ++ ([(q 0, .inr (1, [.int (ρ 0), .int (x), .int (ρ 2), .int (ρ 3), .int (ρ 4), .int (ρ 5), .int (ρ 6), .ref (q 1), .ref (q 2), .ref (q 3), .ref (q 4), .ref (q 5)])), (q 1, .inl (cA, 64, .inl (kA ρ))), (q 2, .inl (cA, 64, .inl (vA ρ))), (q 3, .inl (cA, 8, .inl (gA 0 ρ))), (q 4, .inl (cA, 8, .inl (gA 1 ρ))), (q 5, .inl (cA, 8, .inl (gA 2 ρ)))])) fk_X4_188 dX4_turnMode_13 rfl rfl rfl rfl (Nat.le_of_ble_eq_true rfl) rfl ?_
  refine r_ws (ws' := gapW cA b q p t rd tx tl rf ++ (rowW cA q (upd ρ 1 x))) (by rw [← row_setF (ρ := ρ) 1 (by omega)]; rfl) ?_
  refine r_iload_n 2 dX4_turnMode_16 rfl rfl ?_
  exact r_iret (()) dX4_turnMode_17 (rfl) (rfl)

set_option maxRecDepth 100000 in
set_option maxHeartbeats 4000000 in
theorem c_X4_putKey (l : Launch) (D : va_G) (cA cB : ClassId) (b q p t : Nat → Nat) (rd : Nat) (tx : Nat → Int32) (tl : Nat) (rf : Nat → Int32) (ρ : Nat → Int32) (n : Nat) (hsz : ρ 0 = nI n) (h3 : n = 16 ∨ n = 32 ∨ n = 64) (g : Nat) (hg : ρ 6 = nI g) (hg8 : g ≤ 8) (hs : Srt ρ n) (u0 : Sp5) (k v : Int32) (hk0 : ¬ k = -1) (hr : lastF ρ k n = -1 → hrB ρ n k = true) : Mt l D (tyS cA cB) yX4_putKey cX4_putKey 5 (some .int) ({ frames := 4, cells := 0, slots := 0, locals := 93 } : Room) [.ref (b 0), .int (k), .int (v)] (gapW cA b q p t rd tx tl rf ++ (rowW cA q ρ ++ (spU cA p u0))) Sp5 (fun v _ => v = some (.int (putM ρ n k))) (fun u => gapW cA b q p t rd tx tl rf ++ (rowW cA q (putR ρ n g k v) ++ (spU cA p u))) 0 0 := by
  refine mt_in RX4 ([some (.ref (b 0)), some (.int (k)), some (.int (v)), none, none]) rfl (by decide +kernel) rfl (Nat.le_of_ble_eq_true rfl) rfl rfl (fun X sz => ?_)
  have hb := n16 h3
  refine r_aload_n 0 dX4_putKey_0 rfl rfl ?_
  refine r_get 0 fk_X4_10 dX4_putKey_1 rfl rfl ?_
  refine r_iload_n 1 dX4_putKey_4 rfl rfl ?_
  refine r_callV2 (As := [.int (k)]) (st := []) (fun _ => gapW cA b q p t rd tx tl rf ++ (rowW cA q ρ ++ (spU cA p u0))) [gapW cA b q p t rd tx tl rf, rowW cA q ρ, spU cA p u0] [rowW cA q ρ] [gapW cA b q p t rd tx tl rf, spU cA p u0] (fun _ => [gapW cA b q p t rd tx tl rf, rowW cA q ρ, spU cA p u0]) (fun _ => [rowW cA q ρ]) (c_X1_cellOf l D cA cB q ρ n (hsz) h3 (k) (fun c d hc hd e1 e2 => srt_u hs hk0 hc hd e1 e2)) kv_X1_cellOf ml_X4_84 dX4_putKey_5 rfl rfl rfl rfl (segOk [1, 0, 2] rfl rfl rfl rfl) (fun _ => segOk [1, 0, 2] rfl rfl rfl rfl) rfl (Nat.le_of_ble_eq_true rfl) (fun v u h => ?_)
  subst h
  refine r_st (st' := [.int (lastF ρ k n)]) rfl ?_
  refine r_istore_n 3 ([some (.ref (b 0)), some (.int (k)), some (.int (v)), some (.int (lastF ρ k n)), none]) dX4_putKey_8 rfl (Nat.le_of_ble_eq_true rfl) rfl rfl ?_
  rcases lastF_cases ρ k n with ⟨c, hc, hck, e1, e2⟩ | ⟨e1, e2⟩
  · refine r_lv (lv' := [some (.ref (b 0)), some (.int (k)), some (.int (v)), some (.int (nI c)), none]) (by rw [e1]) ?_
    refine r_iload_n 3 dX4_putKey_9 rfl rfl ?_
    refine r_iconst (-1) dX4_putKey_10 (by decide +kernel) ?_
    refine r_icmp_ne 28 dX4_putKey_11 (by decide) (fun hq1 => ?_) (fun hq1 => ?_)
    · refine r_aload_n 0 dX4_putKey_28 rfl rfl ?_
      refine r_get 0 fk_X4_10 dX4_putKey_29 rfl rfl ?_
      refine r_iload_n 3 dX4_putKey_32 rfl rfl ?_
      refine r_callV2 (As := [.int (nI c)]) (st := []) (fun _ => gapW cA b q p t rd tx tl rf ++ (rowW cA q ρ ++ (spU cA p u0))) [gapW cA b q p t rd tx tl rf, rowW cA q ρ, spU cA p u0] [rowW cA q ρ] [gapW cA b q p t rd tx tl rf, spU cA p u0] (fun _ => [gapW cA b q p t rd tx tl rf, rowW cA q ρ, spU cA p u0]) (fun _ => [rowW cA q ρ]) (c_X1_valueIn l D cA cB q ρ (c) (by omega)) kv_X1_valueIn ml_X4_87 dX4_putKey_33 rfl rfl rfl rfl (segOk [1, 0, 2] rfl rfl rfl rfl) (fun _ => segOk [1, 0, 2] rfl rfl rfl rfl) rfl (Nat.le_of_ble_eq_true rfl) (fun v u h => ?_)
      subst h
      refine r_st (st' := [.int (ρ (95 + c))]) rfl ?_
      refine r_istore ([some (.ref (b 0)), some (.int (k)), some (.int (v)), some (.int (nI c)), some (.int (ρ (95 + c)))]) dX4_putKey_36 (Nat.le_of_ble_eq_true rfl) rfl rfl ?_
      refine r_aload_n 0 dX4_putKey_38 rfl rfl ?_
      refine r_get 0 fk_X4_10 dX4_putKey_39 rfl rfl ?_
      refine r_iload_n 3 dX4_putKey_42 rfl rfl ?_
      refine r_iload_n 1 dX4_putKey_43 rfl rfl ?_
      refine r_iload_n 2 dX4_putKey_44 rfl rfl ?_
      refine r_callV2 (As := [.int (nI c), .int (k), .int (v)]) (st := []) (fun _ => gapW cA b q p t rd tx tl rf ++ (rowW cA q (upd (upd ρ (31 + c) k) (95 + c) v) ++ (spU cA p u0))) [gapW cA b q p t rd tx tl rf, rowW cA q ρ, spU cA p u0] [rowW cA q ρ] [gapW cA b q p t rd tx tl rf, spU cA p u0] (fun _ => [gapW cA b q p t rd tx tl rf, rowW cA q (upd (upd ρ (31 + c) k) (95 + c) v), spU cA p u0]) (fun _ => [rowW cA q (upd (upd ρ (31 + c) k) (95 + c) v)]) (c_X1_fill l D cA cB q ρ (c) (by omega) (k) (v)) kv_X1_fill ml_X4_194 dX4_putKey_45 rfl rfl rfl rfl (segOk [1, 0, 2] rfl rfl rfl rfl) (fun _ => segOk [1, 0, 2] rfl rfl rfl rfl) rfl (Nat.le_of_ble_eq_true rfl) (fun v u h => ?_)
      subst h
      refine r_st (st' := []) rfl ?_
      refine r_iload dX4_putKey_48 rfl ?_
      refine r_bipush (nI 100) dX4_putKey_50 (by decide +kernel) ?_
      refine r_iadd dX4_putKey_52 ?_
      exact r_iret ((u0.1, u0.2.1, u0.2.2.1, u0.2.2.2.1, u0.2.2.2.2)) dX4_putKey_53 (by unfold putM; rw [if_neg (by rw [e1]; exact nI_ne_m1 (by omega)), e2]) (by unfold putR; rw [if_neg (by rw [e1]; exact nI_ne_m1 (by omega)), repR_at hck (fun d hd e => srt_u hs hk0 hd hc e hck) hc, upd_id hck])
    · exact absurd hq1 (nI_ne_m1 (by omega))
  · refine r_lv (lv' := [some (.ref (b 0)), some (.int (k)), some (.int (v)), some (.int (-1)), none]) (by rw [e1]) ?_
    refine r_iload_n 3 dX4_putKey_9 rfl rfl ?_
    refine r_iconst (-1) dX4_putKey_10 (by decide +kernel) ?_
    refine r_icmp_ne 28 dX4_putKey_11 (by decide) (fun hq2 => ?_) (fun hq2 => ?_)
    · exact absurd rfl hq2
    · refine r_aload_n 0 dX4_putKey_14 rfl rfl ?_
      refine r_get 0 fk_X4_19 dX4_putKey_15 rfl rfl ?_
      refine r_aload_n 0 dX4_putKey_18 rfl rfl ?_
      refine r_get 0 fk_X4_10 dX4_putKey_19 rfl rfl ?_
      refine r_iload_n 1 dX4_putKey_22 rfl rfl ?_
      refine r_iload_n 2 dX4_putKey_23 rfl rfl ?_
      refine r_callV2 (As := [.ref (q 0), .int (k), .int (v)]) (st := []) (fun u3 => gapW cA b q p t rd tx tl rf ++ (rowW cA q (comeR ρ n g k v) ++ (spU cA p u3))) [gapW cA b q p t rd tx tl rf, rowW cA q ρ, spU cA p u0] [spU cA p u0, rowW cA q ρ] [gapW cA b q p t rd tx tl rf] (fun u3 => [gapW cA b q p t rd tx tl rf, rowW cA q (comeR ρ n g k v), spU cA p u3]) (fun u3 => [spU cA p u3, rowW cA q (comeR ρ n g k v)]) (c_X2_come l D cA cB p q ρ u0.1 u0.2.1 u0.2.2.1 (u0.2.2.2.1) (u0.2.2.2.2) g hg hg8 n hsz h3 hs (k) (v) (hr e1)) kv_X2_come ml_X4_191 dX4_putKey_24 rfl rfl rfl rfl (segOk [2, 1, 0] rfl rfl rfl rfl) (fun _ => segOk [2, 1, 0] rfl rfl rfl rfl) rfl (Nat.le_of_ble_eq_true rfl) (fun v u3 h => ?_)
      subst h
      refine r_st (st' := [.int (nI (comeM ρ n k))]) rfl ?_
      exact r_iret ((u3.1, u3.2.1, u3.2.2.1, u3.2.2.2.1, u3.2.2.2.2)) dX4_putKey_27 (by unfold putM; rw [if_pos e1]) (by unfold putR; rw [if_pos e1])

set_option maxRecDepth 100000 in
set_option maxHeartbeats 4000000 in
theorem c_X4_refusalOf_p (l : Launch) (D : va_G) (cA cB : ClassId) (b q p t : Nat → Nat) (rd : Nat) (tx : Nat → Int32) (tl : Nat) (rf : Nat → Int32) (ρ : Nat → Int32) (n : Nat) (hsz : ρ 0 = nI n) (h3 : n = 16 ∨ n = 32 ∨ n = 64) (hs : Srt ρ n) (k v : Int32) : Mt l D (tyS cA cB) yX4_refusalOf cX4_refusalOf 4 (some .int) ({ frames := 4, cells := 0, slots := 0, locals := 88 } : Room) [.ref (b 0), .int (nI 112), .int (k), .int (v)] (gapW cA b q p t rd tx tl rf ++ (rowW cA q ρ)) Unit (fun w _ => w = some (.int (rfP ρ n k v))) (fun _ => gapW cA b q p t rd tx tl rf ++ (rowW cA q ρ)) 0 0 := by
  refine mt_in RX4 ([some (.ref (b 0)), some (.int (nI 112)), some (.int (k)), some (.int (v))]) rfl (by decide +kernel) rfl (Nat.le_of_ble_eq_true rfl) rfl rfl (fun X sz => ?_)
  have hb := n16 h3
  refine r_iload_n 1 dX4_refusalOf_0 rfl rfl ?_
  refine r_lookup (off := 43) 44 dX4_refusalOf_1 (by decide +kernel) (by decide +kernel) (by decide) ?_
  refine r_iload_n 2 dX4_refusalOf_44 rfl rfl ?_
  refine r_sipush (nI 999) dX4_refusalOf_45 (by decide +kernel) ?_
  refine r_callS2 (As := [.int (k), .int (nI 999)]) (st := []) (fun _ => gapW cA b q p t rd tx tl rf ++ (rowW cA q ρ)) [gapW cA b q p t rd tx tl rf, rowW cA q ρ] [] [gapW cA b q p t rd tx tl rf, rowW cA q ρ] (fun _ => [gapW cA b q p t rd tx tl rf, rowW cA q ρ]) (fun _ => []) (c_X4_within l D cA cB (k) (nI (999))) ks_X4_within ml_X4_77 dX4_refusalOf_48 rfl rfl (segOk [0, 1] rfl rfl rfl rfl) (fun _ => segOk [0, 1] rfl rfl rfl rfl) rfl (Nat.le_of_ble_eq_true rfl) (fun v u h => ?_)
  subst h
  refine r_st (st' := [.int (bI (wi (k) (nI (999))))]) rfl ?_
  refine r_bif_eq 63 dX4_refusalOf_51 (by decide) (fun hq1 => ?_) (fun hq1 => ?_)
  · refine r_bipush (-2) dX4_refusalOf_63 (by decide +kernel) ?_
    exact r_iret (()) dX4_refusalOf_65 (by unfold rfP; rw [if_neg (by rw [hq1, Bool.false_and]; decide)] <;> rfl) (rfl)
  · refine r_iload_n 3 dX4_refusalOf_54 rfl rfl ?_
    refine r_bipush (nI 99) dX4_refusalOf_55 (by decide +kernel) ?_
    refine r_callS2 (As := [.int (v), .int (nI 99)]) (st := []) (fun _ => gapW cA b q p t rd tx tl rf ++ (rowW cA q ρ)) [gapW cA b q p t rd tx tl rf, rowW cA q ρ] [] [gapW cA b q p t rd tx tl rf, rowW cA q ρ] (fun _ => [gapW cA b q p t rd tx tl rf, rowW cA q ρ]) (fun _ => []) (c_X4_within l D cA cB (v) (nI (99))) ks_X4_within ml_X4_77 dX4_refusalOf_57 rfl rfl (segOk [0, 1] rfl rfl rfl rfl) (fun _ => segOk [0, 1] rfl rfl rfl rfl) rfl (Nat.le_of_ble_eq_true rfl) (fun v u h => ?_)
    subst h
    refine r_st (st' := [.int (bI (wi (v) (nI (99))))]) rfl ?_
    refine r_bif_ne 66 dX4_refusalOf_60 (by decide) (fun hq2 => ?_) (fun hq2 => ?_)
    · have hk0 := wi_m1 hq1
      refine r_aload_n 0 dX4_refusalOf_66 rfl rfl ?_
      refine r_get 0 fk_X4_10 dX4_refusalOf_67 rfl rfl ?_
      refine r_iload_n 2 dX4_refusalOf_70 rfl rfl ?_
      refine r_callV2 (As := [.int (k)]) (st := []) (fun _ => gapW cA b q p t rd tx tl rf ++ (rowW cA q ρ)) [gapW cA b q p t rd tx tl rf, rowW cA q ρ] [rowW cA q ρ] [gapW cA b q p t rd tx tl rf] (fun _ => [gapW cA b q p t rd tx tl rf, rowW cA q ρ]) (fun _ => [rowW cA q ρ]) (c_X1_cellOf l D cA cB q ρ n (hsz) h3 (k) (fun c d hc hd e1 e2 => srt_u hs hk0 hc hd e1 e2)) kv_X1_cellOf ml_X4_84 dX4_refusalOf_71 rfl rfl rfl rfl (segOk [1, 0] rfl rfl rfl rfl) (fun _ => segOk [1, 0] rfl rfl rfl rfl) rfl (Nat.le_of_ble_eq_true rfl) (fun v u h => ?_)
      subst h
      refine r_st (st' := [.int (lastF ρ k n)]) rfl ?_
      refine r_iconst (-1) dX4_refusalOf_74 (by decide +kernel) ?_
      refine r_icmp_ne 89 dX4_refusalOf_75 (by decide) (fun hq3 => ?_) (fun hq3 => ?_)
      · refine r_iconst (nI 0) dX4_refusalOf_89 (by decide +kernel) ?_
        refine r_goto 95 dX4_refusalOf_90 (by decide) ?_
        exact r_iret (()) dX4_refusalOf_95 (by unfold rfP; rw [if_pos (by rw [hq1, hq2]; rfl), if_neg hq3] <;> rfl) (rfl)
      · refine r_aload_n 0 dX4_refusalOf_78 rfl rfl ?_
        refine r_get 0 fk_X4_10 dX4_refusalOf_79 rfl rfl ?_
        refine r_iload_n 2 dX4_refusalOf_82 rfl rfl ?_
        refine r_callS2 (As := [.ref (q 0), .int (k)]) (st := []) (fun _ => gapW cA b q p t rd tx tl rf ++ (rowW cA q ρ)) [gapW cA b q p t rd tx tl rf, rowW cA q ρ] [rowW cA q ρ] [gapW cA b q p t rd tx tl rf] (fun _ => [gapW cA b q p t rd tx tl rf, rowW cA q ρ]) (fun _ => [rowW cA q ρ]) (c_X2_hasRoom l D cA cB q ρ n hsz h3 hs (k)) ks_X2_hasRoom ml_X4_184 dX4_refusalOf_83 rfl rfl (segOk [1, 0] rfl rfl rfl rfl) (fun _ => segOk [1, 0] rfl rfl rfl rfl) rfl (Nat.le_of_ble_eq_true rfl) (fun v u h => ?_)
        subst h
        refine r_st (st' := [.int (bI (hrB ρ n k))]) rfl ?_
        refine r_bif_eq 93 dX4_refusalOf_86 (by decide) (fun hq4 => ?_) (fun hq4 => ?_)
        · refine r_bipush (-4) dX4_refusalOf_93 (by decide +kernel) ?_
          exact r_iret (()) dX4_refusalOf_95 (by unfold rfP; rw [if_pos (by rw [hq1, hq2]; rfl), if_pos hq3, if_neg (ne_t hq4)] <;> rfl) (rfl)
        · refine r_iconst (nI 0) dX4_refusalOf_89 (by decide +kernel) ?_
          refine r_goto 95 dX4_refusalOf_90 (by decide) ?_
          exact r_iret (()) dX4_refusalOf_95 (by unfold rfP; rw [if_pos (by rw [hq1, hq2]; rfl), if_pos hq3, if_pos hq4] <;> rfl) (rfl)
    · refine r_bipush (-2) dX4_refusalOf_63 (by decide +kernel) ?_
      exact r_iret (()) dX4_refusalOf_65 (by unfold rfP; rw [if_neg (by rw [hq1, hq2]; decide)] <;> rfl) (rfl)

set_option maxRecDepth 100000 in
set_option maxHeartbeats 4000000 in
theorem c_X4_refusalOf_t (l : Launch) (D : va_G) (cA cB : ClassId) (b q p t : Nat → Nat) (rd : Nat) (tx : Nat → Int32) (tl : Nat) (rf : Nat → Int32) (ρ : Nat → Int32) (n : Nat) (hsz : ρ 0 = nI n) (h3 : n = 16 ∨ n = 32 ∨ n = 64) (hs : Srt ρ n) (k v : Int32) : Mt l D (tyS cA cB) yX4_refusalOf cX4_refusalOf 4 (some .int) ({ frames := 4, cells := 0, slots := 0, locals := 88 } : Room) [.ref (b 0), .int (nI 116), .int (k), .int (v)] (gapW cA b q p t rd tx tl rf ++ (rowW cA q ρ)) Unit (fun w _ => w = some (.int (rfT ρ n k))) (fun _ => gapW cA b q p t rd tx tl rf ++ (rowW cA q ρ)) 0 0 := by
  refine mt_in RX4 ([some (.ref (b 0)), some (.int (nI 116)), some (.int (k)), some (.int (v))]) rfl (by decide +kernel) rfl (Nat.le_of_ble_eq_true rfl) rfl rfl (fun X sz => ?_)
  have hb := n16 h3
  refine r_iload_n 1 dX4_refusalOf_0 rfl rfl ?_
  refine r_lookup (off := 95) 96 dX4_refusalOf_1 (by decide +kernel) (by decide +kernel) (by decide) ?_
  refine r_iload_n 2 dX4_refusalOf_96 rfl rfl ?_
  refine r_sipush (nI 999) dX4_refusalOf_97 (by decide +kernel) ?_
  refine r_callS2 (As := [.int (k), .int (nI 999)]) (st := []) (fun _ => gapW cA b q p t rd tx tl rf ++ (rowW cA q ρ)) [gapW cA b q p t rd tx tl rf, rowW cA q ρ] [] [gapW cA b q p t rd tx tl rf, rowW cA q ρ] (fun _ => [gapW cA b q p t rd tx tl rf, rowW cA q ρ]) (fun _ => []) (c_X4_within l D cA cB (k) (nI (999))) ks_X4_within ml_X4_77 dX4_refusalOf_100 rfl rfl (segOk [0, 1] rfl rfl rfl rfl) (fun _ => segOk [0, 1] rfl rfl rfl rfl) rfl (Nat.le_of_ble_eq_true rfl) (fun v u h => ?_)
  subst h
  refine r_st (st' := [.int (bI (wi (k) (nI (999))))]) rfl ?_
  refine r_bif_ne 109 dX4_refusalOf_103 (by decide) (fun hq1 => ?_) (fun hq1 => ?_)
  · have hk0 := wi_m1 hq1
    refine r_aload_n 0 dX4_refusalOf_109 rfl rfl ?_
    refine r_get 0 fk_X4_10 dX4_refusalOf_110 rfl rfl ?_
    refine r_iload_n 2 dX4_refusalOf_113 rfl rfl ?_
    refine r_callV2 (As := [.int (k)]) (st := []) (fun _ => gapW cA b q p t rd tx tl rf ++ (rowW cA q ρ)) [gapW cA b q p t rd tx tl rf, rowW cA q ρ] [rowW cA q ρ] [gapW cA b q p t rd tx tl rf] (fun _ => [gapW cA b q p t rd tx tl rf, rowW cA q ρ]) (fun _ => [rowW cA q ρ]) (c_X1_cellOf l D cA cB q ρ n (hsz) h3 (k) (fun c d hc hd e1 e2 => srt_u hs hk0 hc hd e1 e2)) kv_X1_cellOf ml_X4_84 dX4_refusalOf_114 rfl rfl rfl rfl (segOk [1, 0] rfl rfl rfl rfl) (fun _ => segOk [1, 0] rfl rfl rfl rfl) rfl (Nat.le_of_ble_eq_true rfl) (fun v u h => ?_)
    subst h
    refine r_st (st' := [.int (lastF ρ k n)]) rfl ?_
    refine r_iconst (-1) dX4_refusalOf_117 (by decide +kernel) ?_
    refine r_icmp_eq 125 dX4_refusalOf_118 (by decide) (fun hq2 => ?_) (fun hq2 => ?_)
    · refine r_bipush (-3) dX4_refusalOf_125 (by decide +kernel) ?_
      exact r_iret (()) dX4_refusalOf_127 (by unfold rfT; rw [if_pos hq1, if_pos hq2] <;> rfl) (rfl)
    · refine r_iconst (nI 0) dX4_refusalOf_121 (by decide +kernel) ?_
      refine r_goto 127 dX4_refusalOf_122 (by decide) ?_
      exact r_iret (()) dX4_refusalOf_127 (by unfold rfT; rw [if_pos hq1, if_neg hq2] <;> rfl) (rfl)
  · refine r_bipush (-2) dX4_refusalOf_106 (by decide +kernel) ?_
    exact r_iret (()) dX4_refusalOf_108 (by unfold rfT; rw [if_neg (ne_t hq1)] <;> rfl) (rfl)

set_option maxRecDepth 100000 in
set_option maxHeartbeats 4000000 in
theorem c_X4_refusalOf_d (l : Launch) (D : va_G) (cA cB : ClassId) (b q p t : Nat → Nat) (rd : Nat) (tx : Nat → Int32) (tl : Nat) (rf : Nat → Int32) (ρ : Nat → Int32) (x y : Int32) : Mt l D (tyS cA cB) yX4_refusalOf cX4_refusalOf 4 (some .int) ({ frames := 4, cells := 0, slots := 0, locals := 88 } : Room) [.ref (b 0), .int (nI 100), .int (x), .int (y)] (gapW cA b q p t rd tx tl rf ++ (rowW cA q ρ)) Unit (fun w _ => w = some (.int (rfD x y))) (fun _ => gapW cA b q p t rd tx tl rf ++ (rowW cA q ρ)) 0 0 := by
  refine mt_in RX4 ([some (.ref (b 0)), some (.int (nI 100)), some (.int (x)), some (.int (y))]) rfl (by decide +kernel) rfl (Nat.le_of_ble_eq_true rfl) rfl rfl (fun X sz => ?_)
  refine r_iload_n 1 dX4_refusalOf_0 rfl rfl ?_
  refine r_lookup (off := 127) 128 dX4_refusalOf_1 (by decide +kernel) (by decide +kernel) (by decide) ?_
  refine r_iload_n 2 dX4_refusalOf_128 rfl rfl ?_
  refine r_iload_n 3 dX4_refusalOf_129 rfl rfl ?_
  refine r_callS2 (As := [.int (x), .int (y)]) (st := []) (fun _ => gapW cA b q p t rd tx tl rf ++ (rowW cA q ρ)) [gapW cA b q p t rd tx tl rf, rowW cA q ρ] [] [gapW cA b q p t rd tx tl rf, rowW cA q ρ] (fun _ => [gapW cA b q p t rd tx tl rf, rowW cA q ρ]) (fun _ => []) (c_X4_isSpan l D cA cB (x) (y)) ks_X4_isSpan ml_X4_99 dX4_refusalOf_130 rfl rfl (segOk [0, 1] rfl rfl rfl rfl) (fun _ => segOk [0, 1] rfl rfl rfl rfl) rfl (Nat.le_of_ble_eq_true rfl) (fun v u h => ?_)
  subst h
  refine r_st (st' := [.int (bI (spanB x y))]) rfl ?_
  refine r_bif_eq 140 dX4_refusalOf_133 (by decide) (fun hq1 => ?_) (fun hq1 => ?_)
  · refine r_bipush (-2) dX4_refusalOf_140 (by decide +kernel) ?_
    exact r_iret (()) dX4_refusalOf_142 (by unfold rfD; rw [if_neg (ne_t hq1)] <;> rfl) (rfl)
  · refine r_iconst (nI 0) dX4_refusalOf_136 (by decide +kernel) ?_
    refine r_goto 142 dX4_refusalOf_137 (by decide) ?_
    exact r_iret (()) dX4_refusalOf_142 (by unfold rfD; rw [if_pos hq1] <;> rfl) (rfl)

set_option maxRecDepth 100000 in
set_option maxHeartbeats 4000000 in
theorem c_X4_refusalOf_m (l : Launch) (D : va_G) (cA cB : ClassId) (b q p t : Nat → Nat) (rd : Nat) (tx : Nat → Int32) (tl : Nat) (rf : Nat → Int32) (ρ : Nat → Int32) (x y : Int32) : Mt l D (tyS cA cB) yX4_refusalOf cX4_refusalOf 4 (some .int) ({ frames := 4, cells := 0, slots := 0, locals := 88 } : Room) [.ref (b 0), .int (nI 109), .int (x), .int (y)] (gapW cA b q p t rd tx tl rf ++ (rowW cA q ρ)) Unit (fun w _ => w = some (.int (rfM x))) (fun _ => gapW cA b q p t rd tx tl rf ++ (rowW cA q ρ)) 0 0 := by
  refine mt_in RX4 ([some (.ref (b 0)), some (.int (nI 109)), some (.int (x)), some (.int (y))]) rfl (by decide +kernel) rfl (Nat.le_of_ble_eq_true rfl) rfl rfl (fun X sz => ?_)
  refine r_iload_n 1 dX4_refusalOf_0 rfl rfl ?_
  refine r_lookup (off := 142) 143 dX4_refusalOf_1 (by decide +kernel) (by decide +kernel) (by decide) ?_
  refine r_iload_n 2 dX4_refusalOf_143 rfl rfl ?_
  refine r_iconst (nI 1) dX4_refusalOf_144 (by decide +kernel) ?_
  refine r_callS2 (As := [.int (x), .int (nI 1)]) (st := []) (fun _ => gapW cA b q p t rd tx tl rf ++ (rowW cA q ρ)) [gapW cA b q p t rd tx tl rf, rowW cA q ρ] [] [gapW cA b q p t rd tx tl rf, rowW cA q ρ] (fun _ => [gapW cA b q p t rd tx tl rf, rowW cA q ρ]) (fun _ => []) (c_X4_within l D cA cB (x) (nI (1))) ks_X4_within ml_X4_77 dX4_refusalOf_145 rfl rfl (segOk [0, 1] rfl rfl rfl rfl) (fun _ => segOk [0, 1] rfl rfl rfl rfl) rfl (Nat.le_of_ble_eq_true rfl) (fun v u h => ?_)
  subst h
  refine r_st (st' := [.int (bI (wi (x) (nI (1))))]) rfl ?_
  refine r_bif_eq 155 dX4_refusalOf_148 (by decide) (fun hq1 => ?_) (fun hq1 => ?_)
  · refine r_bipush (-2) dX4_refusalOf_155 (by decide +kernel) ?_
    exact r_iret (()) dX4_refusalOf_157 (by unfold rfM; rw [if_neg (ne_t hq1)] <;> rfl) (rfl)
  · refine r_iconst (nI 0) dX4_refusalOf_151 (by decide +kernel) ?_
    refine r_goto 157 dX4_refusalOf_152 (by decide) ?_
    exact r_iret (()) dX4_refusalOf_157 (by unfold rfM; rw [if_pos hq1] <;> rfl) (rfl)

theorem c_X3_keep2 (l : Launch) (D : va_G) (cA cB : ClassId) (t : Nat → Nat) (r : Nat → Nat → Nat) (σ : Nat → Nat → Int32) (h : Nat) (hh : h ≤ 5) (q : Nat → Nat) (ρ : Nat → Int32) : Mt l D (tyS cA cB) yX3_keep cX3_keep 2 none ({ frames := 2, cells := 0, slots := 0, locals := 43 } : Room) [.ref (t 0), .ref (q 0)] (stW cA cB t r σ (nI h) ++ (rowW cA q ρ)) Unit (fun v _ => v = none) (fun _ => stW cA cB t (kpR r h) (kpS σ h ρ) (nI (kpH h)) ++ (rowW cA q ρ)) 0 0 := by
  have z := c_X3_keep l D cA cB t r σ h hh q ρ
  rw [kp_w] at z
  exact z
set_option maxRecDepth 100000 in
set_option maxHeartbeats 4000000 in
theorem c_X4_spaces (l : Launch) (D : va_G) (cA cB : ClassId) (b q p t : Nat → Nat) (rd : Nat) (tx : Nat → Int32) (tl : Nat) (rf : Nat → Int32) (ρ : Nat → Int32) (n : Nat) (hsz : ρ 0 = nI n) (h3 : n = 16 ∨ n = 32 ∨ n = 64) (g : Nat) (hg : ρ 6 = nI g) (hg8 : g ≤ 8) (u0 : Sp5) (r : Nat → Nat → Nat) (σ : Nat → Nat → Int32) (h : Nat) (hh : h ≤ 5) : Mt l D (tyS cA cB) yX4_spaces cX4_spaces 1 (some .int) ({ frames := 3, cells := 0, slots := 0, locals := 75 } : Room) [.ref (b 0)] (gapW cA b q p t rd tx tl rf ++ (rowW cA q ρ ++ (spU cA p u0 ++ (stW cA cB t r σ (nI (h)))))) Sp5 (fun v _ => v = some (.int (nI (spM ρ 0 n)))) (fun u => gapW cA b q p t rd tx tl rf ++ (rowW cA q (spR ρ g 0 n) ++ (spU cA p u ++ (stW cA cB t (kpR r h) (kpS σ h ρ) (nI (kpH h)))))) 0 0 := by
  refine mt_in RX4 ([some (.ref (b 0))]) rfl (by decide +kernel) rfl (Nat.le_of_ble_eq_true rfl) rfl rfl (fun X sz => ?_)
  have hb := n16 h3
  refine r_aload_n 0 dX4_spaces_0 rfl rfl ?_
  refine r_get 0 fk_X4_26 dX4_spaces_1 rfl rfl ?_
  refine r_aload_n 0 dX4_spaces_4 rfl rfl ?_
  refine r_get 0 fk_X4_10 dX4_spaces_5 rfl rfl ?_
  refine r_callV2 (As := [.ref (q 0)]) (st := []) (fun _ => gapW cA b q p t rd tx tl rf ++ (rowW cA q ρ ++ (spU cA p u0 ++ (stW cA cB t (kpR r h) (kpS σ h ρ) (nI (kpH h)))))) [gapW cA b q p t rd tx tl rf, rowW cA q ρ, spU cA p u0, stW cA cB t r σ (nI (h))] [stW cA cB t r σ (nI (h)), rowW cA q ρ] [gapW cA b q p t rd tx tl rf, spU cA p u0] (fun _ => [gapW cA b q p t rd tx tl rf, rowW cA q ρ, spU cA p u0, stW cA cB t (kpR r h) (kpS σ h ρ) (nI (kpH h))]) (fun _ => [stW cA cB t (kpR r h) (kpS σ h ρ) (nI (kpH h)), rowW cA q ρ]) (c_X3_keep2 l D cA cB t r σ h hh q ρ) kv_X3_keep ml_X4_66 dX4_spaces_8 rfl rfl rfl rfl (segOk [3, 1, 0, 2] rfl rfl rfl rfl) (fun _ => segOk [3, 1, 0, 2] rfl rfl rfl rfl) rfl (Nat.le_of_ble_eq_true rfl) (fun v u h => ?_)
  subst h
  refine r_st (st' := []) rfl ?_
  refine r_aload_n 0 dX4_spaces_11 rfl rfl ?_
  refine r_get 0 fk_X4_19 dX4_spaces_12 rfl rfl ?_
  refine r_aload_n 0 dX4_spaces_15 rfl rfl ?_
  refine r_get 0 fk_X4_10 dX4_spaces_16 rfl rfl ?_
  refine r_iconst (nI 0) dX4_spaces_19 (by decide +kernel) ?_
  refine r_aload_n 0 dX4_spaces_20 rfl rfl ?_
  refine r_get 0 fk_X4_10 dX4_spaces_21 rfl rfl ?_
  refine r_get 3 fk_X4_70 dX4_spaces_24 rfl rfl ?_
  refine r_top (y := nI (n)) (hsz) ?_
  refine r_callV2 (As := [.ref (q 0), .int (nI 0), .int (nI n)]) (st := []) (fun u1 => gapW cA b q p t rd tx tl rf ++ (rowW cA q (spR ρ g 0 n) ++ (spU cA p u1 ++ (stW cA cB t (kpR r h) (kpS σ h ρ) (nI (kpH h)))))) [gapW cA b q p t rd tx tl rf, rowW cA q ρ, spU cA p u0, stW cA cB t (kpR r h) (kpS σ h ρ) (nI (kpH h))] [spU cA p u0, rowW cA q ρ] [gapW cA b q p t rd tx tl rf, stW cA cB t (kpR r h) (kpS σ h ρ) (nI (kpH h))] (fun u1 => [gapW cA b q p t rd tx tl rf, rowW cA q (spR ρ g 0 n), spU cA p u1, stW cA cB t (kpR r h) (kpS σ h ρ) (nI (kpH h))]) (fun u1 => [spU cA p u1, rowW cA q (spR ρ g 0 n)]) (c_X2_space l D cA cB p q ρ u0.1 u0.2.1 u0.2.2.1 (u0.2.2.2.1) (u0.2.2.2.2) g (hg) hg8 (0) (n) (by omega)) kv_X2_space ml_X4_73 dX4_spaces_27 rfl rfl rfl rfl (segOk [2, 1, 0, 3] rfl rfl rfl rfl) (fun _ => segOk [2, 1, 0, 3] rfl rfl rfl rfl) rfl (Nat.le_of_ble_eq_true rfl) (fun v u1 h => ?_)
  subst h
  refine r_st (st' := [.int (nI (spM ρ 0 n))]) rfl ?_
  exact r_iret ((u1.1, u1.2.1, u1.2.2.1, u1.2.2.2.1, u1.2.2.2.2)) dX4_spaces_30 (rfl) (rfl)

