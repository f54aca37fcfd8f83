set_option maxRecDepth 100000 in
set_option maxHeartbeats 4000000 in
theorem c_X3_mark (l : Launch) (D : va_G) (cA cB : ClassId) (t : Nat → Nat) (r : Nat → Nat → Nat) (σ : Nat → Nat → Int32) (h : Nat) (hh : h ≤ 5) (q : Nat → Nat) (ρ : Nat → Int32)  : Mt l D (tyS cA cB) yX3_mark cX3_mark 2 none ({ frames := 1, cells := 0, slots := 0, locals := 22 } : Room) [.ref (t 0), .ref (q 0)] (stW cA cB t r σ (nI (h)) ++ (rowW cA q ρ)) Unit (fun v _ => v = none) (fun _ => stW cA cB t r (ups σ h ρ) (nI h) ++ (rowW cA q ρ)) 0 0 := by
  refine mt_in RX3 ([some (.ref (t 0)), some (.ref (q 0))]) rfl (by decide +kernel) rfl (Nat.le_of_ble_eq_true rfl) rfl rfl (fun X sz => ?_)
  refine r_aload_n 0 dX3_mark_0 rfl rfl ?_
  refine r_get 0 fk_X3_25 dX3_mark_1 rfl rfl ?_
  refine r_iconst (nI 5) dX3_mark_4 (by decide +kernel) ?_
  refine r_callS2 (As := [.int (nI h), .int (nI 5)]) (st := []) (fun _ => stW cA cB t r σ (nI (h)) ++ (rowW cA q ρ)) [stW cA cB t r σ (nI (h)), rowW cA q ρ] [] [stW cA cB t r σ (nI (h)), rowW cA q ρ] (fun _ => [stW cA cB t r σ (nI (h)), rowW cA q ρ]) (fun _ => []) (c_X4_within l D cA cB (nI (h)) (nI (5))) ks_X4_within ml_X3_29 dX3_mark_5 rfl rfl (segOk [0, 1] rfl rfl rfl rfl) (fun _ => segOk [0, 1] rfl rfl rfl rfl) rfl (Nat.le_of_ble_eq_true rfl) (fun v u h => ?_)
  subst h
  refine r_st (st' := [.int (bI (wi (nI (h)) (nI (5))))]) rfl ?_
  refine r_bif_eq 24 dX3_mark_8 (by decide) (fun hq1 => ?_) (fun hq1 => ?_)
  · exact absurd hq1 (by rw [wi_n (by omega) (by decide), decide_eq_true (show _ ≤ 5 by omega)]; decide)
  · have hz : h = 0 ∨ h = 1 ∨ h = 2 ∨ h = 3 ∨ h = 4 ∨ h = 5 := by omega
    rcases hz with rfl | rfl | rfl | rfl | rfl | rfl
    · refine r_ws (ws' := [(t 0, .inr (3, [.ref (t 1), .int (nI 0)])), (t 1, .inl (cB, 6, .inr (.inr (.inr (.inr (rA r))))))] ++ (rowW cA (r 0) (σ 0) ++ (rowW cA (r 1) (σ 1) ++ (rowW cA (r 2) (σ 2) ++ (rowW cA (r 3) (σ 3) ++ (rowW cA (r 4) (σ 4) ++ (rowW cA (r 5) (σ 5) ++ (rowW cA q ρ)))))))) rfl ?_
      refine r_aload_n 0 dX3_mark_11 rfl rfl ?_
      refine r_get 0 fk_X3_11 dX3_mark_12 rfl rfl ?_
      refine r_aload_n 0 dX3_mark_15 rfl rfl ?_
      refine r_get 0 fk_X3_25 dX3_mark_16 rfl rfl ?_
      refine r_aald (x := (r 0) 0) 1 0 dX3_mark_19 rfl rfl rfl (Nat.le_of_ble_eq_true rfl) (Nat.le_of_ble_eq_true rfl) rfl ?_
      refine r_aload_n 1 dX3_mark_20 rfl rfl ?_
      refine r_callV2 (As := [.ref (q 0)]) (st := []) (fun _ => [(t 0, .inr (3, [.ref (t 1), .int (nI 0)])), (t 1, .inl (cB, 6, .inr (.inr (.inr (.inr (rA r))))))] ++ (rowW cA (r 0) ρ ++ (rowW cA (r 1) (σ 1) ++ (rowW cA (r 2) (σ 2) ++ (rowW cA (r 3) (σ 3) ++ (rowW cA (r 4) (σ 4) ++ (rowW cA (r 5) (σ 5) ++ (rowW cA q ρ)))))))) [[(t 0, .inr (3, [.ref (t 1), .int (nI 0)])), (t 1, .inl (cB, 6, .inr (.inr (.inr (.inr (rA r))))))], rowW cA (r 0) (σ 0), rowW cA (r 1) (σ 1), rowW cA (r 2) (σ 2), rowW cA (r 3) (σ 3), rowW cA (r 4) (σ 4), rowW cA (r 5) (σ 5), rowW cA q ρ] [rowW cA (r 0) (σ 0), rowW cA q ρ] [[(t 0, .inr (3, [.ref (t 1), .int (nI 0)])), (t 1, .inl (cB, 6, .inr (.inr (.inr (.inr (rA r))))))], rowW cA (r 1) (σ 1), rowW cA (r 2) (σ 2), rowW cA (r 3) (σ 3), rowW cA (r 4) (σ 4), rowW cA (r 5) (σ 5)] (fun _ => [[(t 0, .inr (3, [.ref (t 1), .int (nI 0)])), (t 1, .inl (cB, 6, .inr (.inr (.inr (.inr (rA r))))))], rowW cA (r 0) ρ, rowW cA (r 1) (σ 1), rowW cA (r 2) (σ 2), rowW cA (r 3) (σ 3), rowW cA (r 4) (σ 4), rowW cA (r 5) (σ 5), rowW cA q ρ]) (fun _ => [rowW cA (r 0) ρ, rowW cA q ρ]) (c_X1_copyOf l D cA cB (r 0) q (σ 0) ρ) kv_X1_copyOf ml_X3_33 dX3_mark_21 rfl rfl rfl rfl (segOk [1, 7, 0, 2, 3, 4, 5, 6] rfl rfl rfl rfl) (fun _ => segOk [1, 7, 0, 2, 3, 4, 5, 6] rfl rfl rfl rfl) rfl (Nat.le_of_ble_eq_true rfl) (fun v u h => ?_)
      subst h
      refine r_st (st' := []) rfl ?_
      exact r_vret (()) dX3_mark_24 (rfl) (rfl)
    · refine r_ws (ws' := [(t 0, .inr (3, [.ref (t 1), .int (nI 1)])), (t 1, .inl (cB, 6, .inr (.inr (.inr (.inr (rA r))))))] ++ (rowW cA (r 0) (σ 0) ++ (rowW cA (r 1) (σ 1) ++ (rowW cA (r 2) (σ 2) ++ (rowW cA (r 3) (σ 3) ++ (rowW cA (r 4) (σ 4) ++ (rowW cA (r 5) (σ 5) ++ (rowW cA q ρ)))))))) rfl ?_
      refine r_aload_n 0 dX3_mark_11 rfl rfl ?_
      refine r_get 0 fk_X3_11 dX3_mark_12 rfl rfl ?_
      refine r_aload_n 0 dX3_mark_15 rfl rfl ?_
      refine r_get 0 fk_X3_25 dX3_mark_16 rfl rfl ?_
      refine r_aald (x := (r 1) 0) 1 1 dX3_mark_19 rfl rfl rfl (Nat.le_of_ble_eq_true rfl) (Nat.le_of_ble_eq_true rfl) rfl ?_
      refine r_aload_n 1 dX3_mark_20 rfl rfl ?_
      refine r_callV2 (As := [.ref (q 0)]) (st := []) (fun _ => [(t 0, .inr (3, [.ref (t 1), .int (nI 1)])), (t 1, .inl (cB, 6, .inr (.inr (.inr (.inr (rA r))))))] ++ (rowW cA (r 0) (σ 0) ++ (rowW cA (r 1) ρ ++ (rowW cA (r 2) (σ 2) ++ (rowW cA (r 3) (σ 3) ++ (rowW cA (r 4) (σ 4) ++ (rowW cA (r 5) (σ 5) ++ (rowW cA q ρ)))))))) [[(t 0, .inr (3, [.ref (t 1), .int (nI 1)])), (t 1, .inl (cB, 6, .inr (.inr (.inr (.inr (rA r))))))], rowW cA (r 0) (σ 0), rowW cA (r 1) (σ 1), rowW cA (r 2) (σ 2), rowW cA (r 3) (σ 3), rowW cA (r 4) (σ 4), rowW cA (r 5) (σ 5), rowW cA q ρ] [rowW cA (r 1) (σ 1), rowW cA q ρ] [[(t 0, .inr (3, [.ref (t 1), .int (nI 1)])), (t 1, .inl (cB, 6, .inr (.inr (.inr (.inr (rA r))))))], rowW cA (r 0) (σ 0), rowW cA (r 2) (σ 2), rowW cA (r 3) (σ 3), rowW cA (r 4) (σ 4), rowW cA (r 5) (σ 5)] (fun _ => [[(t 0, .inr (3, [.ref (t 1), .int (nI 1)])), (t 1, .inl (cB, 6, .inr (.inr (.inr (.inr (rA r))))))], rowW cA (r 0) (σ 0), rowW cA (r 1) ρ, rowW cA (r 2) (σ 2), rowW cA (r 3) (σ 3), rowW cA (r 4) (σ 4), rowW cA (r 5) (σ 5), rowW cA q ρ]) (fun _ => [rowW cA (r 1) ρ, rowW cA q ρ]) (c_X1_copyOf l D cA cB (r 1) q (σ 1) ρ) kv_X1_copyOf ml_X3_33 dX3_mark_21 rfl rfl rfl rfl (segOk [2, 7, 0, 1, 3, 4, 5, 6] rfl rfl rfl rfl) (fun _ => segOk [2, 7, 0, 1, 3, 4, 5, 6] rfl rfl rfl rfl) rfl (Nat.le_of_ble_eq_true rfl) (fun v u h => ?_)
      subst h
      refine r_st (st' := []) rfl ?_
      exact r_vret (()) dX3_mark_24 (rfl) (rfl)
    · refine r_ws (ws' := [(t 0, .inr (3, [.ref (t 1), .int (nI 2)])), (t 1, .inl (cB, 6, .inr (.inr (.inr (.inr (rA r))))))] ++ (rowW cA (r 0) (σ 0) ++ (rowW cA (r 1) (σ 1) ++ (rowW cA (r 2) (σ 2) ++ (rowW cA (r 3) (σ 3) ++ (rowW cA (r 4) (σ 4) ++ (rowW cA (r 5) (σ 5) ++ (rowW cA q ρ)))))))) rfl ?_
      refine r_aload_n 0 dX3_mark_11 rfl rfl ?_
      refine r_get 0 fk_X3_11 dX3_mark_12 rfl rfl ?_
      refine r_aload_n 0 dX3_mark_15 rfl rfl ?_
      refine r_get 0 fk_X3_25 dX3_mark_16 rfl rfl ?_
      refine r_aald (x := (r 2) 0) 1 2 dX3_mark_19 rfl rfl rfl (Nat.le_of_ble_eq_true rfl) (Nat.le_of_ble_eq_true rfl) rfl ?_
      refine r_aload_n 1 dX3_mark_20 rfl rfl ?_
      refine r_callV2 (As := [.ref (q 0)]) (st := []) (fun _ => [(t 0, .inr (3, [.ref (t 1), .int (nI 2)])), (t 1, .inl (cB, 6, .inr (.inr (.inr (.inr (rA r))))))] ++ (rowW cA (r 0) (σ 0) ++ (rowW cA (r 1) (σ 1) ++ (rowW cA (r 2) ρ ++ (rowW cA (r 3) (σ 3) ++ (rowW cA (r 4) (σ 4) ++ (rowW cA (r 5) (σ 5) ++ (rowW cA q ρ)))))))) [[(t 0, .inr (3, [.ref (t 1), .int (nI 2)])), (t 1, .inl (cB, 6, .inr (.inr (.inr (.inr (rA r))))))], rowW cA (r 0) (σ 0), rowW cA (r 1) (σ 1), rowW cA (r 2) (σ 2), rowW cA (r 3) (σ 3), rowW cA (r 4) (σ 4), rowW cA (r 5) (σ 5), rowW cA q ρ] [rowW cA (r 2) (σ 2), rowW cA q ρ] [[(t 0, .inr (3, [.ref (t 1), .int (nI 2)])), (t 1, .inl (cB, 6, .inr (.inr (.inr (.inr (rA r))))))], rowW cA (r 0) (σ 0), rowW cA (r 1) (σ 1), rowW cA (r 3) (σ 3), rowW cA (r 4) (σ 4), rowW cA (r 5) (σ 5)] (fun _ => [[(t 0, .inr (3, [.ref (t 1), .int (nI 2)])), (t 1, .inl (cB, 6, .inr (.inr (.inr (.inr (rA r))))))], rowW cA (r 0) (σ 0), rowW cA (r 1) (σ 1), rowW cA (r 2) ρ, rowW cA (r 3) (σ 3), rowW cA (r 4) (σ 4), rowW cA (r 5) (σ 5), rowW cA q ρ]) (fun _ => [rowW cA (r 2) ρ, rowW cA q ρ]) (c_X1_copyOf l D cA cB (r 2) q (σ 2) ρ) kv_X1_copyOf ml_X3_33 dX3_mark_21 rfl rfl rfl rfl (segOk [3, 7, 0, 1, 2, 4, 5, 6] rfl rfl rfl rfl) (fun _ => segOk [3, 7, 0, 1, 2, 4, 5, 6] rfl rfl rfl rfl) rfl (Nat.le_of_ble_eq_true rfl) (fun v u h => ?_)
      subst h
      refine r_st (st' := []) rfl ?_
      exact r_vret (()) dX3_mark_24 (rfl) (rfl)
    · refine r_ws (ws' := [(t 0, .inr (3, [.ref (t 1), .int (nI 3)])), (t 1, .inl (cB, 6, .inr (.inr (.inr (.inr (rA r))))))] ++ (rowW cA (r 0) (σ 0) ++ (rowW cA (r 1) (σ 1) ++ (rowW cA (r 2) (σ 2) ++ (rowW cA (r 3) (σ 3) ++ (rowW cA (r 4) (σ 4) ++ (rowW cA (r 5) (σ 5) ++ (rowW cA q ρ)))))))) rfl ?_
      refine r_aload_n 0 dX3_mark_11 rfl rfl ?_
      refine r_get 0 fk_X3_11 dX3_mark_12 rfl rfl ?_
      refine r_aload_n 0 dX3_mark_15 rfl rfl ?_
      refine r_get 0 fk_X3_25 dX3_mark_16 rfl rfl ?_
      refine r_aald (x := (r 3) 0) 1 3 dX3_mark_19 rfl rfl rfl (Nat.le_of_ble_eq_true rfl) (Nat.le_of_ble_eq_true rfl) rfl ?_
      refine r_aload_n 1 dX3_mark_20 rfl rfl ?_
      refine r_callV2 (As := [.ref (q 0)]) (st := []) (fun _ => [(t 0, .inr (3, [.ref (t 1), .int (nI 3)])), (t 1, .inl (cB, 6, .inr (.inr (.inr (.inr (rA r))))))] ++ (rowW cA (r 0) (σ 0) ++ (rowW cA (r 1) (σ 1) ++ (rowW cA (r 2) (σ 2) ++ (rowW cA (r 3) ρ ++ (rowW cA (r 4) (σ 4) ++ (rowW cA (r 5) (σ 5) ++ (rowW cA q ρ)))))))) [[(t 0, .inr (3, [.ref (t 1), .int (nI 3)])), (t 1, .inl (cB, 6, .inr (.inr (.inr (.inr (rA r))))))], rowW cA (r 0) (σ 0), rowW cA (r 1) (σ 1), rowW cA (r 2) (σ 2), rowW cA (r 3) (σ 3), rowW cA (r 4) (σ 4), rowW cA (r 5) (σ 5), rowW cA q ρ] [rowW cA (r 3) (σ 3), rowW cA q ρ] [[(t 0, .inr (3, [.ref (t 1), .int (nI 3)])), (t 1, .inl (cB, 6, .inr (.inr (.inr (.inr (rA r))))))], rowW cA (r 0) (σ 0), rowW cA (r 1) (σ 1), rowW cA (r 2) (σ 2), rowW cA (r 4) (σ 4), rowW cA (r 5) (σ 5)] (fun _ => [[(t 0, .inr (3, [.ref (t 1), .int (nI 3)])), (t 1, .inl (cB, 6, .inr (.inr (.inr (.inr (rA r))))))], rowW cA (r 0) (σ 0), rowW cA (r 1) (σ 1), rowW cA (r 2) (σ 2), rowW cA (r 3) ρ, rowW cA (r 4) (σ 4), rowW cA (r 5) (σ 5), rowW cA q ρ]) (fun _ => [rowW cA (r 3) ρ, rowW cA q ρ]) (c_X1_copyOf l D cA cB (r 3) q (σ 3) ρ) kv_X1_copyOf ml_X3_33 dX3_mark_21 rfl rfl rfl rfl (segOk [4, 7, 0, 1, 2, 3, 5, 6] rfl rfl rfl rfl) (fun _ => segOk [4, 7, 0, 1, 2, 3, 5, 6] rfl rfl rfl rfl) rfl (Nat.le_of_ble_eq_true rfl) (fun v u h => ?_)
      subst h
      refine r_st (st' := []) rfl ?_
      exact r_vret (()) dX3_mark_24 (rfl) (rfl)
    · refine r_ws (ws' := [(t 0, .inr (3, [.ref (t 1), .int (nI 4)])), (t 1, .inl (cB, 6, .inr (.inr (.inr (.inr (rA r))))))] ++ (rowW cA (r 0) (σ 0) ++ (rowW cA (r 1) (σ 1) ++ (rowW cA (r 2) (σ 2) ++ (rowW cA (r 3) (σ 3) ++ (rowW cA (r 4) (σ 4) ++ (rowW cA (r 5) (σ 5) ++ (rowW cA q ρ)))))))) rfl ?_
      refine r_aload_n 0 dX3_mark_11 rfl rfl ?_
      refine r_get 0 fk_X3_11 dX3_mark_12 rfl rfl ?_
      refine r_aload_n 0 dX3_mark_15 rfl rfl ?_
      refine r_get 0 fk_X3_25 dX3_mark_16 rfl rfl ?_
      refine r_aald (x := (r 4) 0) 1 4 dX3_mark_19 rfl rfl rfl (Nat.le_of_ble_eq_true rfl) (Nat.le_of_ble_eq_true rfl) rfl ?_
      refine r_aload_n 1 dX3_mark_20 rfl rfl ?_
      refine r_callV2 (As := [.ref (q 0)]) (st := []) (fun _ => [(t 0, .inr (3, [.ref (t 1), .int (nI 4)])), (t 1, .inl (cB, 6, .inr (.inr (.inr (.inr (rA r))))))] ++ (rowW cA (r 0) (σ 0) ++ (rowW cA (r 1) (σ 1) ++ (rowW cA (r 2) (σ 2) ++ (rowW cA (r 3) (σ 3) ++ (rowW cA (r 4) ρ ++ (rowW cA (r 5) (σ 5) ++ (rowW cA q ρ)))))))) [[(t 0, .inr (3, [.ref (t 1), .int (nI 4)])), (t 1, .inl (cB, 6, .inr (.inr (.inr (.inr (rA r))))))], rowW cA (r 0) (σ 0), rowW cA (r 1) (σ 1), rowW cA (r 2) (σ 2), rowW cA (r 3) (σ 3), rowW cA (r 4) (σ 4), rowW cA (r 5) (σ 5), rowW cA q ρ] [rowW cA (r 4) (σ 4), rowW cA q ρ] [[(t 0, .inr (3, [.ref (t 1), .int (nI 4)])), (t 1, .inl (cB, 6, .inr (.inr (.inr (.inr (rA r))))))], rowW cA (r 0) (σ 0), rowW cA (r 1) (σ 1), rowW cA (r 2) (σ 2), rowW cA (r 3) (σ 3), rowW cA (r 5) (σ 5)] (fun _ => [[(t 0, .inr (3, [.ref (t 1), .int (nI 4)])), (t 1, .inl (cB, 6, .inr (.inr (.inr (.inr (rA r))))))], rowW cA (r 0) (σ 0), rowW cA (r 1) (σ 1), rowW cA (r 2) (σ 2), rowW cA (r 3) (σ 3), rowW cA (r 4) ρ, rowW cA (r 5) (σ 5), rowW cA q ρ]) (fun _ => [rowW cA (r 4) ρ, rowW cA q ρ]) (c_X1_copyOf l D cA cB (r 4) q (σ 4) ρ) kv_X1_copyOf ml_X3_33 dX3_mark_21 rfl rfl rfl rfl (segOk [5, 7, 0, 1, 2, 3, 4, 6] rfl rfl rfl rfl) (fun _ => segOk [5, 7, 0, 1, 2, 3, 4, 6] rfl rfl rfl rfl) rfl (Nat.le_of_ble_eq_true rfl) (fun v u h => ?_)
      subst h
      refine r_st (st' := []) rfl ?_
      exact r_vret (()) dX3_mark_24 (rfl) (rfl)
    · refine r_ws (ws' := [(t 0, .inr (3, [.ref (t 1), .int (nI 5)])), (t 1, .inl (cB, 6, .inr (.inr (.inr (.inr (rA r))))))] ++ (rowW cA (r 0) (σ 0) ++ (rowW cA (r 1) (σ 1) ++ (rowW cA (r 2) (σ 2) ++ (rowW cA (r 3) (σ 3) ++ (rowW cA (r 4) (σ 4) ++ (rowW cA (r 5) (σ 5) ++ (rowW cA q ρ)))))))) rfl ?_
      refine r_aload_n 0 dX3_mark_11 rfl rfl ?_
      refine r_get 0 fk_X3_11 dX3_mark_12 rfl rfl ?_
      refine r_aload_n 0 dX3_mark_15 rfl rfl ?_
      refine r_get 0 fk_X3_25 dX3_mark_16 rfl rfl ?_
      refine r_aald (x := (r 5) 0) 1 5 dX3_mark_19 rfl rfl rfl (Nat.le_of_ble_eq_true rfl) (Nat.le_of_ble_eq_true rfl) rfl ?_
      refine r_aload_n 1 dX3_mark_20 rfl rfl ?_
      refine r_callV2 (As := [.ref (q 0)]) (st := []) (fun _ => [(t 0, .inr (3, [.ref (t 1), .int (nI 5)])), (t 1, .inl (cB, 6, .inr (.inr (.inr (.inr (rA r))))))] ++ (rowW cA (r 0) (σ 0) ++ (rowW cA (r 1) (σ 1) ++ (rowW cA (r 2) (σ 2) ++ (rowW cA (r 3) (σ 3) ++ (rowW cA (r 4) (σ 4) ++ (rowW cA (r 5) ρ ++ (rowW cA q ρ)))))))) [[(t 0, .inr (3, [.ref (t 1), .int (nI 5)])), (t 1, .inl (cB, 6, .inr (.inr (.inr (.inr (rA r))))))], rowW cA (r 0) (σ 0), rowW cA (r 1) (σ 1), rowW cA (r 2) (σ 2), rowW cA (r 3) (σ 3), rowW cA (r 4) (σ 4), rowW cA (r 5) (σ 5), rowW cA q ρ] [rowW cA (r 5) (σ 5), rowW cA q ρ] [[(t 0, .inr (3, [.ref (t 1), .int (nI 5)])), (t 1, .inl (cB, 6, .inr (.inr (.inr (.inr (rA r))))))], rowW cA (r 0) (σ 0), rowW cA (r 1) (σ 1), rowW cA (r 2) (σ 2), rowW cA (r 3) (σ 3), rowW cA (r 4) (σ 4)] (fun _ => [[(t 0, .inr (3, [.ref (t 1), .int (nI 5)])), (t 1, .inl (cB, 6, .inr (.inr (.inr (.inr (rA r))))))], rowW cA (r 0) (σ 0), rowW cA (r 1) (σ 1), rowW cA (r 2) (σ 2), rowW cA (r 3) (σ 3), rowW cA (r 4) (σ 4), rowW cA (r 5) ρ, rowW cA q ρ]) (fun _ => [rowW cA (r 5) ρ, rowW cA q ρ]) (c_X1_copyOf l D cA cB (r 5) q (σ 5) ρ) kv_X1_copyOf ml_X3_33 dX3_mark_21 rfl rfl rfl rfl (segOk [6, 7, 0, 1, 2, 3, 4, 5] rfl rfl rfl rfl) (fun _ => segOk [6, 7, 0, 1, 2, 3, 4, 5] rfl rfl rfl rfl) rfl (Nat.le_of_ble_eq_true rfl) (fun v u h => ?_)
      subst h
      refine r_st (st' := []) rfl ?_
      exact r_vret (()) dX3_mark_24 (rfl) (rfl)

set_option maxRecDepth 100000 in
set_option maxHeartbeats 4000000 in
theorem c_X3_returnToMark (l : Launch) (D : va_G) (cA cB : ClassId) (t : Nat → Nat) (r : Nat → Nat → Nat) (σ : Nat → Nat → Int32) (h : Nat) (hh : h ≤ 5) (q : Nat → Nat) (ρ : Nat → Int32)  : Mt l D (tyS cA cB) yX3_returnToMark cX3_returnToMark 2 none ({ frames := 1, cells := 0, slots := 0, locals := 22 } : Room) [.ref (t 0), .ref (q 0)] (stW cA cB t r σ (nI (h)) ++ (rowW cA q ρ)) Unit (fun v _ => v = none) (fun _ => stW cA cB t r σ (nI h) ++ (rowW cA q (σ h))) 0 0 := by
  refine mt_in RX3 ([some (.ref (t 0)), some (.ref (q 0))]) rfl (by decide +kernel) rfl (Nat.le_of_ble_eq_true rfl) rfl rfl (fun X sz => ?_)
  refine r_aload_n 0 dX3_returnToMark_0 rfl rfl ?_
  refine r_get 0 fk_X3_25 dX3_returnToMark_1 rfl rfl ?_
  refine r_iconst (nI 5) dX3_returnToMark_4 (by decide +kernel) ?_
  refine r_callS2 (As := [.int (nI h), .int (nI 5)]) (st := []) (fun _ => stW cA cB t r σ (nI (h)) ++ (rowW cA q ρ)) [stW cA cB t r σ (nI (h)), rowW cA q ρ] [] [stW cA cB t r σ (nI (h)), rowW cA q ρ] (fun _ => [stW cA cB t r σ (nI (h)), rowW cA q ρ]) (fun _ => []) (c_X4_within l D cA cB (nI (h)) (nI (5))) ks_X4_within ml_X3_29 dX3_returnToMark_5 rfl rfl (segOk [0, 1] rfl rfl rfl rfl) (fun _ => segOk [0, 1] rfl rfl rfl rfl) rfl (Nat.le_of_ble_eq_true rfl) (fun v u h => ?_)
  subst h
  refine r_st (st' := [.int (bI (wi (nI (h)) (nI (5))))]) rfl ?_
  refine r_bif_eq 24 dX3_returnToMark_8 (by decide) (fun hq1 => ?_) (fun hq1 => ?_)
  · exact absurd hq1 (by rw [wi_n (by omega) (by decide), decide_eq_true (show _ ≤ 5 by omega)]; decide)
  · have hz : h = 0 ∨ h = 1 ∨ h = 2 ∨ h = 3 ∨ h = 4 ∨ h = 5 := by omega
    rcases hz with rfl | rfl | rfl | rfl | rfl | rfl
    · refine r_ws (ws' := [(t 0, .inr (3, [.ref (t 1), .int (nI 0)])), (t 1, .inl (cB, 6, .inr (.inr (.inr (.inr (rA r))))))] ++ (rowW cA (r 0) (σ 0) ++ (rowW cA (r 1) (σ 1) ++ (rowW cA (r 2) (σ 2) ++ (rowW cA (r 3) (σ 3) ++ (rowW cA (r 4) (σ 4) ++ (rowW cA (r 5) (σ 5) ++ (rowW cA q ρ)))))))) rfl ?_
      refine r_aload_n 1 dX3_returnToMark_11 rfl rfl ?_
      refine r_aload_n 0 dX3_returnToMark_12 rfl rfl ?_
      refine r_get 0 fk_X3_11 dX3_returnToMark_13 rfl rfl ?_
      refine r_aload_n 0 dX3_returnToMark_16 rfl rfl ?_
      refine r_get 0 fk_X3_25 dX3_returnToMark_17 rfl rfl ?_
      refine r_aald (x := (r 0) 0) 1 0 dX3_returnToMark_20 rfl rfl rfl (Nat.le_of_ble_eq_true rfl) (Nat.le_of_ble_eq_true rfl) rfl ?_
      refine r_callV2 (As := [.ref ((r 0) 0)]) (st := []) (fun _ => [(t 0, .inr (3, [.ref (t 1), .int (nI 0)])), (t 1, .inl (cB, 6, .inr (.inr (.inr (.inr (rA r))))))] ++ (rowW cA (r 0) (σ 0) ++ (rowW cA (r 1) (σ 1) ++ (rowW cA (r 2) (σ 2) ++ (rowW cA (r 3) (σ 3) ++ (rowW cA (r 4) (σ 4) ++ (rowW cA (r 5) (σ 5) ++ (rowW cA q (σ 0))))))))) [[(t 0, .inr (3, [.ref (t 1), .int (nI 0)])), (t 1, .inl (cB, 6, .inr (.inr (.inr (.inr (rA r))))))], rowW cA (r 0) (σ 0), rowW cA (r 1) (σ 1), rowW cA (r 2) (σ 2), rowW cA (r 3) (σ 3), rowW cA (r 4) (σ 4), rowW cA (r 5) (σ 5), rowW cA q ρ] [rowW cA q ρ, rowW cA (r 0) (σ 0)] [[(t 0, .inr (3, [.ref (t 1), .int (nI 0)])), (t 1, .inl (cB, 6, .inr (.inr (.inr (.inr (rA r))))))], rowW cA (r 1) (σ 1), rowW cA (r 2) (σ 2), rowW cA (r 3) (σ 3), rowW cA (r 4) (σ 4), rowW cA (r 5) (σ 5)] (fun _ => [[(t 0, .inr (3, [.ref (t 1), .int (nI 0)])), (t 1, .inl (cB, 6, .inr (.inr (.inr (.inr (rA r))))))], rowW cA (r 0) (σ 0), rowW cA (r 1) (σ 1), rowW cA (r 2) (σ 2), rowW cA (r 3) (σ 3), rowW cA (r 4) (σ 4), rowW cA (r 5) (σ 5), rowW cA q (σ 0)]) (fun _ => [rowW cA q (σ 0), rowW cA (r 0) (σ 0)]) (c_X1_copyOf l D cA cB q (r 0) ρ (σ 0)) kv_X1_copyOf ml_X3_33 dX3_returnToMark_21 rfl rfl rfl rfl (segOk [7, 1, 0, 2, 3, 4, 5, 6] rfl rfl rfl rfl) (fun _ => segOk [7, 1, 0, 2, 3, 4, 5, 6] rfl rfl rfl rfl) rfl (Nat.le_of_ble_eq_true rfl) (fun v u h => ?_)
      subst h
      refine r_st (st' := []) rfl ?_
      exact r_vret (()) dX3_returnToMark_24 (rfl) (rfl)
    · refine r_ws (ws' := [(t 0, .inr (3, [.ref (t 1), .int (nI 1)])), (t 1, .inl (cB, 6, .inr (.inr (.inr (.inr (rA r))))))] ++ (rowW cA (r 0) (σ 0) ++ (rowW cA (r 1) (σ 1) ++ (rowW cA (r 2) (σ 2) ++ (rowW cA (r 3) (σ 3) ++ (rowW cA (r 4) (σ 4) ++ (rowW cA (r 5) (σ 5) ++ (rowW cA q ρ)))))))) rfl ?_
      refine r_aload_n 1 dX3_returnToMark_11 rfl rfl ?_
      refine r_aload_n 0 dX3_returnToMark_12 rfl rfl ?_
      refine r_get 0 fk_X3_11 dX3_returnToMark_13 rfl rfl ?_
      refine r_aload_n 0 dX3_returnToMark_16 rfl rfl ?_
      refine r_get 0 fk_X3_25 dX3_returnToMark_17 rfl rfl ?_
      refine r_aald (x := (r 1) 0) 1 1 dX3_returnToMark_20 rfl rfl rfl (Nat.le_of_ble_eq_true rfl) (Nat.le_of_ble_eq_true rfl) rfl ?_
      refine r_callV2 (As := [.ref ((r 1) 0)]) (st := []) (fun _ => [(t 0, .inr (3, [.ref (t 1), .int (nI 1)])), (t 1, .inl (cB, 6, .inr (.inr (.inr (.inr (rA r))))))] ++ (rowW cA (r 0) (σ 0) ++ (rowW cA (r 1) (σ 1) ++ (rowW cA (r 2) (σ 2) ++ (rowW cA (r 3) (σ 3) ++ (rowW cA (r 4) (σ 4) ++ (rowW cA (r 5) (σ 5) ++ (rowW cA q (σ 1))))))))) [[(t 0, .inr (3, [.ref (t 1), .int (nI 1)])), (t 1, .inl (cB, 6, .inr (.inr (.inr (.inr (rA r))))))], rowW cA (r 0) (σ 0), rowW cA (r 1) (σ 1), rowW cA (r 2) (σ 2), rowW cA (r 3) (σ 3), rowW cA (r 4) (σ 4), rowW cA (r 5) (σ 5), rowW cA q ρ] [rowW cA q ρ, rowW cA (r 1) (σ 1)] [[(t 0, .inr (3, [.ref (t 1), .int (nI 1)])), (t 1, .inl (cB, 6, .inr (.inr (.inr (.inr (rA r))))))], rowW cA (r 0) (σ 0), rowW cA (r 2) (σ 2), rowW cA (r 3) (σ 3), rowW cA (r 4) (σ 4), rowW cA (r 5) (σ 5)] (fun _ => [[(t 0, .inr (3, [.ref (t 1), .int (nI 1)])), (t 1, .inl (cB, 6, .inr (.inr (.inr (.inr (rA r))))))], rowW cA (r 0) (σ 0), rowW cA (r 1) (σ 1), rowW cA (r 2) (σ 2), rowW cA (r 3) (σ 3), rowW cA (r 4) (σ 4), rowW cA (r 5) (σ 5), rowW cA q (σ 1)]) (fun _ => [rowW cA q (σ 1), rowW cA (r 1) (σ 1)]) (c_X1_copyOf l D cA cB q (r 1) ρ (σ 1)) kv_X1_copyOf ml_X3_33 dX3_returnToMark_21 rfl rfl rfl rfl (segOk [7, 2, 0, 1, 3, 4, 5, 6] rfl rfl rfl rfl) (fun _ => segOk [7, 2, 0, 1, 3, 4, 5, 6] rfl rfl rfl rfl) rfl (Nat.le_of_ble_eq_true rfl) (fun v u h => ?_)
      subst h
      refine r_st (st' := []) rfl ?_
      exact r_vret (()) dX3_returnToMark_24 (rfl) (rfl)
    · refine r_ws (ws' := [(t 0, .inr (3, [.ref (t 1), .int (nI 2)])), (t 1, .inl (cB, 6, .inr (.inr (.inr (.inr (rA r))))))] ++ (rowW cA (r 0) (σ 0) ++ (rowW cA (r 1) (σ 1) ++ (rowW cA (r 2) (σ 2) ++ (rowW cA (r 3) (σ 3) ++ (rowW cA (r 4) (σ 4) ++ (rowW cA (r 5) (σ 5) ++ (rowW cA q ρ)))))))) rfl ?_
      refine r_aload_n 1 dX3_returnToMark_11 rfl rfl ?_
      refine r_aload_n 0 dX3_returnToMark_12 rfl rfl ?_
      refine r_get 0 fk_X3_11 dX3_returnToMark_13 rfl rfl ?_
      refine r_aload_n 0 dX3_returnToMark_16 rfl rfl ?_
      refine r_get 0 fk_X3_25 dX3_returnToMark_17 rfl rfl ?_
      refine r_aald (x := (r 2) 0) 1 2 dX3_returnToMark_20 rfl rfl rfl (Nat.le_of_ble_eq_true rfl) (Nat.le_of_ble_eq_true rfl) rfl ?_
      refine r_callV2 (As := [.ref ((r 2) 0)]) (st := []) (fun _ => [(t 0, .inr (3, [.ref (t 1), .int (nI 2)])), (t 1, .inl (cB, 6, .inr (.inr (.inr (.inr (rA r))))))] ++ (rowW cA (r 0) (σ 0) ++ (rowW cA (r 1) (σ 1) ++ (rowW cA (r 2) (σ 2) ++ (rowW cA (r 3) (σ 3) ++ (rowW cA (r 4) (σ 4) ++ (rowW cA (r 5) (σ 5) ++ (rowW cA q (σ 2))))))))) [[(t 0, .inr (3, [.ref (t 1), .int (nI 2)])), (t 1, .inl (cB, 6, .inr (.inr (.inr (.inr (rA r))))))], rowW cA (r 0) (σ 0), rowW cA (r 1) (σ 1), rowW cA (r 2) (σ 2), rowW cA (r 3) (σ 3), rowW cA (r 4) (σ 4), rowW cA (r 5) (σ 5), rowW cA q ρ] [rowW cA q ρ, rowW cA (r 2) (σ 2)] [[(t 0, .inr (3, [.ref (t 1), .int (nI 2)])), (t 1, .inl (cB, 6, .inr (.inr (.inr (.inr (rA r))))))], rowW cA (r 0) (σ 0), rowW cA (r 1) (σ 1), rowW cA (r 3) (σ 3), rowW cA (r 4) (σ 4), rowW cA (r 5) (σ 5)] (fun _ => [[(t 0, .inr (3, [.ref (t 1), .int (nI 2)])), (t 1, .inl (cB, 6, .inr (.inr (.inr (.inr (rA r))))))], rowW cA (r 0) (σ 0), rowW cA (r 1) (σ 1), rowW cA (r 2) (σ 2), rowW cA (r 3) (σ 3), rowW cA (r 4) (σ 4), rowW cA (r 5) (σ 5), rowW cA q (σ 2)]) (fun _ => [rowW cA q (σ 2), rowW cA (r 2) (σ 2)]) (c_X1_copyOf l D cA cB q (r 2) ρ (σ 2)) kv_X1_copyOf ml_X3_33 dX3_returnToMark_21 rfl rfl rfl rfl (segOk [7, 3, 0, 1, 2, 4, 5, 6] rfl rfl rfl rfl) (fun _ => segOk [7, 3, 0, 1, 2, 4, 5, 6] rfl rfl rfl rfl) rfl (Nat.le_of_ble_eq_true rfl) (fun v u h => ?_)
      subst h
      refine r_st (st' := []) rfl ?_
      exact r_vret (()) dX3_returnToMark_24 (rfl) (rfl)
    · refine r_ws (ws' := [(t 0, .inr (3, [.ref (t 1), .int (nI 3)])), (t 1, .inl (cB, 6, .inr (.inr (.inr (.inr (rA r))))))] ++ (rowW cA (r 0) (σ 0) ++ (rowW cA (r 1) (σ 1) ++ (rowW cA (r 2) (σ 2) ++ (rowW cA (r 3) (σ 3) ++ (rowW cA (r 4) (σ 4) ++ (rowW cA (r 5) (σ 5) ++ (rowW cA q ρ)))))))) rfl ?_
      refine r_aload_n 1 dX3_returnToMark_11 rfl rfl ?_
      refine r_aload_n 0 dX3_returnToMark_12 rfl rfl ?_
      refine r_get 0 fk_X3_11 dX3_returnToMark_13 rfl rfl ?_
      refine r_aload_n 0 dX3_returnToMark_16 rfl rfl ?_
      refine r_get 0 fk_X3_25 dX3_returnToMark_17 rfl rfl ?_
      refine r_aald (x := (r 3) 0) 1 3 dX3_returnToMark_20 rfl rfl rfl (Nat.le_of_ble_eq_true rfl) (Nat.le_of_ble_eq_true rfl) rfl ?_
      refine r_callV2 (As := [.ref ((r 3) 0)]) (st := []) (fun _ => [(t 0, .inr (3, [.ref (t 1), .int (nI 3)])), (t 1, .inl (cB, 6, .inr (.inr (.inr (.inr (rA r))))))] ++ (rowW cA (r 0) (σ 0) ++ (rowW cA (r 1) (σ 1) ++ (rowW cA (r 2) (σ 2) ++ (rowW cA (r 3) (σ 3) ++ (rowW cA (r 4) (σ 4) ++ (rowW cA (r 5) (σ 5) ++ (rowW cA q (σ 3))))))))) [[(t 0, .inr (3, [.ref (t 1), .int (nI 3)])), (t 1, .inl (cB, 6, .inr (.inr (.inr (.inr (rA r))))))], rowW cA (r 0) (σ 0), rowW cA (r 1) (σ 1), rowW cA (r 2) (σ 2), rowW cA (r 3) (σ 3), rowW cA (r 4) (σ 4), rowW cA (r 5) (σ 5), rowW cA q ρ] [rowW cA q ρ, rowW cA (r 3) (σ 3)] [[(t 0, .inr (3, [.ref (t 1), .int (nI 3)])), (t 1, .inl (cB, 6, .inr (.inr (.inr (.inr (rA r))))))], rowW cA (r 0) (σ 0), rowW cA (r 1) (σ 1), rowW cA (r 2) (σ 2), rowW cA (r 4) (σ 4), rowW cA (r 5) (σ 5)] (fun _ => [[(t 0, .inr (3, [.ref (t 1), .int (nI 3)])), (t 1, .inl (cB, 6, .inr (.inr (.inr (.inr (rA r))))))], rowW cA (r 0) (σ 0), rowW cA (r 1) (σ 1), rowW cA (r 2) (σ 2), rowW cA (r 3) (σ 3), rowW cA (r 4) (σ 4), rowW cA (r 5) (σ 5), rowW cA q (σ 3)]) (fun _ => [rowW cA q (σ 3), rowW cA (r 3) (σ 3)]) (c_X1_copyOf l D cA cB q (r 3) ρ (σ 3)) kv_X1_copyOf ml_X3_33 dX3_returnToMark_21 rfl rfl rfl rfl (segOk [7, 4, 0, 1, 2, 3, 5, 6] rfl rfl rfl rfl) (fun _ => segOk [7, 4, 0, 1, 2, 3, 5, 6] rfl rfl rfl rfl) rfl (Nat.le_of_ble_eq_true rfl) (fun v u h => ?_)
      subst h
      refine r_st (st' := []) rfl ?_
      exact r_vret (()) dX3_returnToMark_24 (rfl) (rfl)
    · refine r_ws (ws' := [(t 0, .inr (3, [.ref (t 1), .int (nI 4)])), (t 1, .inl (cB, 6, .inr (.inr (.inr (.inr (rA r))))))] ++ (rowW cA (r 0) (σ 0) ++ (rowW cA (r 1) (σ 1) ++ (rowW cA (r 2) (σ 2) ++ (rowW cA (r 3) (σ 3) ++ (rowW cA (r 4) (σ 4) ++ (rowW cA (r 5) (σ 5) ++ (rowW cA q ρ)))))))) rfl ?_
      refine r_aload_n 1 dX3_returnToMark_11 rfl rfl ?_
      refine r_aload_n 0 dX3_returnToMark_12 rfl rfl ?_
      refine r_get 0 fk_X3_11 dX3_returnToMark_13 rfl rfl ?_
      refine r_aload_n 0 dX3_returnToMark_16 rfl rfl ?_
      refine r_get 0 fk_X3_25 dX3_returnToMark_17 rfl rfl ?_
      refine r_aald (x := (r 4) 0) 1 4 dX3_returnToMark_20 rfl rfl rfl (Nat.le_of_ble_eq_true rfl) (Nat.le_of_ble_eq_true rfl) rfl ?_
      refine r_callV2 (As := [.ref ((r 4) 0)]) (st := []) (fun _ => [(t 0, .inr (3, [.ref (t 1), .int (nI 4)])), (t 1, .inl (cB, 6, .inr (.inr (.inr (.inr (rA r))))))] ++ (rowW cA (r 0) (σ 0) ++ (rowW cA (r 1) (σ 1) ++ (rowW cA (r 2) (σ 2) ++ (rowW cA (r 3) (σ 3) ++ (rowW cA (r 4) (σ 4) ++ (rowW cA (r 5) (σ 5) ++ (rowW cA q (σ 4))))))))) [[(t 0, .inr (3, [.ref (t 1), .int (nI 4)])), (t 1, .inl (cB, 6, .inr (.inr (.inr (.inr (rA r))))))], rowW cA (r 0) (σ 0), rowW cA (r 1) (σ 1), rowW cA (r 2) (σ 2), rowW cA (r 3) (σ 3), rowW cA (r 4) (σ 4), rowW cA (r 5) (σ 5), rowW cA q ρ] [rowW cA q ρ, rowW cA (r 4) (σ 4)] [[(t 0, .inr (3, [.ref (t 1), .int (nI 4)])), (t 1, .inl (cB, 6, .inr (.inr (.inr (.inr (rA r))))))], rowW cA (r 0) (σ 0), rowW cA (r 1) (σ 1), rowW cA (r 2) (σ 2), rowW cA (r 3) (σ 3), rowW cA (r 5) (σ 5)] (fun _ => [[(t 0, .inr (3, [.ref (t 1), .int (nI 4)])), (t 1, .inl (cB, 6, .inr (.inr (.inr (.inr (rA r))))))], rowW cA (r 0) (σ 0), rowW cA (r 1) (σ 1), rowW cA (r 2) (σ 2), rowW cA (r 3) (σ 3), rowW cA (r 4) (σ 4), rowW cA (r 5) (σ 5), rowW cA q (σ 4)]) (fun _ => [rowW cA q (σ 4), rowW cA (r 4) (σ 4)]) (c_X1_copyOf l D cA cB q (r 4) ρ (σ 4)) kv_X1_copyOf ml_X3_33 dX3_returnToMark_21 rfl rfl rfl rfl (segOk [7, 5, 0, 1, 2, 3, 4, 6] rfl rfl rfl rfl) (fun _ => segOk [7, 5, 0, 1, 2, 3, 4, 6] rfl rfl rfl rfl) rfl (Nat.le_of_ble_eq_true rfl) (fun v u h => ?_)
      subst h
      refine r_st (st' := []) rfl ?_
      exact r_vret (()) dX3_returnToMark_24 (rfl) (rfl)
    · refine r_ws (ws' := [(t 0, .inr (3, [.ref (t 1), .int (nI 5)])), (t 1, .inl (cB, 6, .inr (.inr (.inr (.inr (rA r))))))] ++ (rowW cA (r 0) (σ 0) ++ (rowW cA (r 1) (σ 1) ++ (rowW cA (r 2) (σ 2) ++ (rowW cA (r 3) (σ 3) ++ (rowW cA (r 4) (σ 4) ++ (rowW cA (r 5) (σ 5) ++ (rowW cA q ρ)))))))) rfl ?_
      refine r_aload_n 1 dX3_returnToMark_11 rfl rfl ?_
      refine r_aload_n 0 dX3_returnToMark_12 rfl rfl ?_
      refine r_get 0 fk_X3_11 dX3_returnToMark_13 rfl rfl ?_
      refine r_aload_n 0 dX3_returnToMark_16 rfl rfl ?_
      refine r_get 0 fk_X3_25 dX3_returnToMark_17 rfl rfl ?_
      refine r_aald (x := (r 5) 0) 1 5 dX3_returnToMark_20 rfl rfl rfl (Nat.le_of_ble_eq_true rfl) (Nat.le_of_ble_eq_true rfl) rfl ?_
      refine r_callV2 (As := [.ref ((r 5) 0)]) (st := []) (fun _ => [(t 0, .inr (3, [.ref (t 1), .int (nI 5)])), (t 1, .inl (cB, 6, .inr (.inr (.inr (.inr (rA r))))))] ++ (rowW cA (r 0) (σ 0) ++ (rowW cA (r 1) (σ 1) ++ (rowW cA (r 2) (σ 2) ++ (rowW cA (r 3) (σ 3) ++ (rowW cA (r 4) (σ 4) ++ (rowW cA (r 5) (σ 5) ++ (rowW cA q (σ 5))))))))) [[(t 0, .inr (3, [.ref (t 1), .int (nI 5)])), (t 1, .inl (cB, 6, .inr (.inr (.inr (.inr (rA r))))))], rowW cA (r 0) (σ 0), rowW cA (r 1) (σ 1), rowW cA (r 2) (σ 2), rowW cA (r 3) (σ 3), rowW cA (r 4) (σ 4), rowW cA (r 5) (σ 5), rowW cA q ρ] [rowW cA q ρ, rowW cA (r 5) (σ 5)] [[(t 0, .inr (3, [.ref (t 1), .int (nI 5)])), (t 1, .inl (cB, 6, .inr (.inr (.inr (.inr (rA r))))))], rowW cA (r 0) (σ 0), rowW cA (r 1) (σ 1), rowW cA (r 2) (σ 2), rowW cA (r 3) (σ 3), rowW cA (r 4) (σ 4)] (fun _ => [[(t 0, .inr (3, [.ref (t 1), .int (nI 5)])), (t 1, .inl (cB, 6, .inr (.inr (.inr (.inr (rA r))))))], rowW cA (r 0) (σ 0), rowW cA (r 1) (σ 1), rowW cA (r 2) (σ 2), rowW cA (r 3) (σ 3), rowW cA (r 4) (σ 4), rowW cA (r 5) (σ 5), rowW cA q (σ 5)]) (fun _ => [rowW cA q (σ 5), rowW cA (r 5) (σ 5)]) (c_X1_copyOf l D cA cB q (r 5) ρ (σ 5)) kv_X1_copyOf ml_X3_33 dX3_returnToMark_21 rfl rfl rfl rfl (segOk [7, 6, 0, 1, 2, 3, 4, 5] rfl rfl rfl rfl) (fun _ => segOk [7, 6, 0, 1, 2, 3, 4, 5] rfl rfl rfl rfl) rfl (Nat.le_of_ble_eq_true rfl) (fun v u h => ?_)
      subst h
      refine r_st (st' := []) rfl ?_
      exact r_vret (()) dX3_returnToMark_24 (rfl) (rfl)

set_option maxRecDepth 100000 in
set_option maxHeartbeats 4000000 in
theorem c_X3_keepMark (l : Launch) (D : va_G) (cA cB : ClassId) (t : Nat → Nat) (r : Nat → Nat → Nat) (σ : Nat → Nat → Int32) (h : Nat) (hh : h ≤ 5) : Mt l D (tyS cA cB) yX3_keepMark cX3_keepMark 3 none ({ frames := 0, cells := 0, slots := 0, locals := 0 } : Room) [.ref (t 0)] (stW cA cB t r σ (nI (h))) Unit (fun v _ => v = none) (fun _ => if h < 5 then stW cA cB t r σ (nI (h + 1)) else stW cA cB t (rot r) (rot σ) (nI 5)) 0 0 := by
  refine mt_in RX3 ([some (.ref (t 0)), none, none]) rfl (by decide +kernel) rfl (Nat.le_of_ble_eq_true rfl) rfl rfl (fun X sz => ?_)
  refine r_aload_n 0 dX3_keepMark_0 rfl rfl ?_
  refine r_get 0 fk_X3_25 dX3_keepMark_1 rfl rfl ?_
  refine r_iconst (nI 5) dX3_keepMark_4 (by decide +kernel) ?_
  refine r_ncmp_ge 19 (by omega) (by omega) dX3_keepMark_5 (by decide) (fun hq1 => ?_) (fun hq1 => ?_)
  · obtain rfl : h = 5 := by omega
    refine r_ws (ws' := [(t 0, .inr (3, [.ref (t 1), .int (nI 5)])), (t 1, .inl (cB, 6, .inr (.inr (.inr (.inr (rA r))))))] ++ (rowW cA (r 0) (σ 0) ++ (rowW cA (r 1) (σ 1) ++ (rowW cA (r 2) (σ 2) ++ (rowW cA (r 3) (σ 3) ++ (rowW cA (r 4) (σ 4) ++ (rowW cA (r 5) (σ 5)))))))) rfl ?_
    refine r_aload_n 0 dX3_keepMark_19 rfl rfl ?_
    refine r_get 0 fk_X3_11 dX3_keepMark_20 rfl rfl ?_
    refine r_iconst (nI 0) dX3_keepMark_23 (by decide +kernel) ?_
    refine r_aald (x := (r 0) 0) 1 0 dX3_keepMark_24 rfl rfl rfl (Nat.le_of_ble_eq_true rfl) (Nat.le_of_ble_eq_true rfl) rfl ?_
    refine r_astore_n 1 ([some (.ref (t 0)), some (.ref ((r 0) 0)), none]) dX3_keepMark_25 rfl (Nat.le_of_ble_eq_true rfl) rfl rfl ?_
    refine r_iconst (nI 0) dX3_keepMark_26 (by decide +kernel) ?_
    refine r_istore_n 2 ([some (.ref (t 0)), some (.ref ((r 0) 0)), some (.int (nI 0))]) dX3_keepMark_27 rfl (Nat.le_of_ble_eq_true rfl) rfl rfl ?_
    refine r_iload_n 2 dX3_keepMark_28 rfl rfl ?_
    refine r_iconst (nI 5) dX3_keepMark_29 (by decide +kernel) ?_
    refine r_ncmp_ge 53 (by omega) (by omega) dX3_keepMark_30 (by decide) (fun hq2 => ?_) (fun hq2 => ?_)
    · omega
    · refine r_aload_n 0 dX3_keepMark_33 rfl rfl ?_
      refine r_get 0 fk_X3_11 dX3_keepMark_34 rfl rfl ?_
      refine r_iload_n 2 dX3_keepMark_37 rfl rfl ?_
      refine r_aload_n 0 dX3_keepMark_38 rfl rfl ?_
      refine r_get 0 fk_X3_11 dX3_keepMark_39 rfl rfl ?_
      refine r_iload_n 2 dX3_keepMark_42 rfl rfl ?_
      refine r_iconst (nI 1) dX3_keepMark_43 (by decide +kernel) ?_
      refine r_niadd dX3_keepMark_44 ?_
      refine r_top (y := nI 1) rfl ?_
      refine r_aald (x := (r 1) 0) 1 1 dX3_keepMark_45 rfl rfl rfl (Nat.le_of_ble_eq_true rfl) (Nat.le_of_ble_eq_true rfl) rfl ?_
      refine r_aast (r := (RX1, TX1, 12)) 1 8 0 ([(t 0, .inr (3, [.ref (t 1), .int (nI 5)])), (t 1, .inl (cB, 6, .inr (.inr (.inr (.inr (va_up (rA r) 0 (some ((r 1) 0))))))))] ++ (rowW cA (r 0) (σ 0) ++ (rowW cA (r 1) (σ 1) ++ (rowW cA (r 2) (σ 2) ++ (rowW cA (r 3) (σ 3) ++ (rowW cA (r 4) (σ 4) ++ (rowW cA (r 5) (σ 5)))))))) dX3_keepMark_46 rfl rfl rfl rfl rfl (Nat.le_of_ble_eq_true rfl) (Nat.le_of_ble_eq_true rfl) rfl ?_
      refine r_iinc (v := nI (1)) ([some (.ref (t 0)), some (.ref ((r 0) 0)), some (.int (nI 1))]) dX3_keepMark_47 rfl (nI_add 0 1) (Nat.le_of_ble_eq_true rfl) rfl rfl ?_
      refine r_goto 28 dX3_keepMark_50 (by decide) ?_
      refine r_iload_n 2 dX3_keepMark_28 rfl rfl ?_
      refine r_iconst (nI 5) dX3_keepMark_29 (by decide +kernel) ?_
      refine r_ncmp_ge 53 (by omega) (by omega) dX3_keepMark_30 (by decide) (fun hq3 => ?_) (fun hq3 => ?_)
      · omega
      · refine r_aload_n 0 dX3_keepMark_33 rfl rfl ?_
        refine r_get 0 fk_X3_11 dX3_keepMark_34 rfl rfl ?_
        refine r_iload_n 2 dX3_keepMark_37 rfl rfl ?_
        refine r_aload_n 0 dX3_keepMark_38 rfl rfl ?_
        refine r_get 0 fk_X3_11 dX3_keepMark_39 rfl rfl ?_
        refine r_iload_n 2 dX3_keepMark_42 rfl rfl ?_
        refine r_iconst (nI 1) dX3_keepMark_43 (by decide +kernel) ?_
        refine r_niadd dX3_keepMark_44 ?_
        refine r_top (y := nI 2) rfl ?_
        refine r_aald (x := (r 2) 0) 1 2 dX3_keepMark_45 rfl rfl rfl (Nat.le_of_ble_eq_true rfl) (Nat.le_of_ble_eq_true rfl) rfl ?_
        refine r_aast (r := (RX1, TX1, 12)) 1 14 1 ([(t 0, .inr (3, [.ref (t 1), .int (nI 5)])), (t 1, .inl (cB, 6, .inr (.inr (.inr (.inr (va_up (va_up (rA r) 0 (some ((r 1) 0))) 1 (some ((r 2) 0))))))))] ++ (rowW cA (r 0) (σ 0) ++ (rowW cA (r 1) (σ 1) ++ (rowW cA (r 2) (σ 2) ++ (rowW cA (r 3) (σ 3) ++ (rowW cA (r 4) (σ 4) ++ (rowW cA (r 5) (σ 5)))))))) dX3_keepMark_46 rfl rfl rfl rfl rfl (Nat.le_of_ble_eq_true rfl) (Nat.le_of_ble_eq_true rfl) rfl ?_
        refine r_iinc (v := nI (2)) ([some (.ref (t 0)), some (.ref ((r 0) 0)), some (.int (nI 2))]) dX3_keepMark_47 rfl (nI_add 1 1) (Nat.le_of_ble_eq_true rfl) rfl rfl ?_
        refine r_goto 28 dX3_keepMark_50 (by decide) ?_
        refine r_iload_n 2 dX3_keepMark_28 rfl rfl ?_
        refine r_iconst (nI 5) dX3_keepMark_29 (by decide +kernel) ?_
        refine r_ncmp_ge 53 (by omega) (by omega) dX3_keepMark_30 (by decide) (fun hq4 => ?_) (fun hq4 => ?_)
        · omega
        · refine r_aload_n 0 dX3_keepMark_33 rfl rfl ?_
          refine r_get 0 fk_X3_11 dX3_keepMark_34 rfl rfl ?_
          refine r_iload_n 2 dX3_keepMark_37 rfl rfl ?_
          refine r_aload_n 0 dX3_keepMark_38 rfl rfl ?_
          refine r_get 0 fk_X3_11 dX3_keepMark_39 rfl rfl ?_
          refine r_iload_n 2 dX3_keepMark_42 rfl rfl ?_
          refine r_iconst (nI 1) dX3_keepMark_43 (by decide +kernel) ?_
          refine r_niadd dX3_keepMark_44 ?_
          refine r_top (y := nI 3) rfl ?_
          refine r_aald (x := (r 3) 0) 1 3 dX3_keepMark_45 rfl rfl rfl (Nat.le_of_ble_eq_true rfl) (Nat.le_of_ble_eq_true rfl) rfl ?_
          refine r_aast (r := (RX1, TX1, 12)) 1 20 2 ([(t 0, .inr (3, [.ref (t 1), .int (nI 5)])), (t 1, .inl (cB, 6, .inr (.inr (.inr (.inr (va_up (va_up (va_up (rA r) 0 (some ((r 1) 0))) 1 (some ((r 2) 0))) 2 (some ((r 3) 0))))))))] ++ (rowW cA (r 0) (σ 0) ++ (rowW cA (r 1) (σ 1) ++ (rowW cA (r 2) (σ 2) ++ (rowW cA (r 3) (σ 3) ++ (rowW cA (r 4) (σ 4) ++ (rowW cA (r 5) (σ 5)))))))) dX3_keepMark_46 rfl rfl rfl rfl rfl (Nat.le_of_ble_eq_true rfl) (Nat.le_of_ble_eq_true rfl) rfl ?_
          refine r_iinc (v := nI (3)) ([some (.ref (t 0)), some (.ref ((r 0) 0)), some (.int (nI 3))]) dX3_keepMark_47 rfl (nI_add 2 1) (Nat.le_of_ble_eq_true rfl) rfl rfl ?_
          refine r_goto 28 dX3_keepMark_50 (by decide) ?_
          refine r_iload_n 2 dX3_keepMark_28 rfl rfl ?_
          refine r_iconst (nI 5) dX3_keepMark_29 (by decide +kernel) ?_
          refine r_ncmp_ge 53 (by omega) (by omega) dX3_keepMark_30 (by decide) (fun hq5 => ?_) (fun hq5 => ?_)
          · omega
          · refine r_aload_n 0 dX3_keepMark_33 rfl rfl ?_
            refine r_get 0 fk_X3_11 dX3_keepMark_34 rfl rfl ?_
            refine r_iload_n 2 dX3_keepMark_37 rfl rfl ?_
            refine r_aload_n 0 dX3_keepMark_38 rfl rfl ?_
            refine r_get 0 fk_X3_11 dX3_keepMark_39 rfl rfl ?_
            refine r_iload_n 2 dX3_keepMark_42 rfl rfl ?_
            refine r_iconst (nI 1) dX3_keepMark_43 (by decide +kernel) ?_
            refine r_niadd dX3_keepMark_44 ?_
            refine r_top (y := nI 4) rfl ?_
            refine r_aald (x := (r 4) 0) 1 4 dX3_keepMark_45 rfl rfl rfl (Nat.le_of_ble_eq_true rfl) (Nat.le_of_ble_eq_true rfl) rfl ?_
            refine r_aast (r := (RX1, TX1, 12)) 1 26 3 ([(t 0, .inr (3, [.ref (t 1), .int (nI 5)])), (t 1, .inl (cB, 6, .inr (.inr (.inr (.inr (va_up (va_up (va_up (va_up (rA r) 0 (some ((r 1) 0))) 1 (some ((r 2) 0))) 2 (some ((r 3) 0))) 3 (some ((r 4) 0))))))))] ++ (rowW cA (r 0) (σ 0) ++ (rowW cA (r 1) (σ 1) ++ (rowW cA (r 2) (σ 2) ++ (rowW cA (r 3) (σ 3) ++ (rowW cA (r 4) (σ 4) ++ (rowW cA (r 5) (σ 5)))))))) dX3_keepMark_46 rfl rfl rfl rfl rfl (Nat.le_of_ble_eq_true rfl) (Nat.le_of_ble_eq_true rfl) rfl ?_
            refine r_iinc (v := nI (4)) ([some (.ref (t 0)), some (.ref ((r 0) 0)), some (.int (nI 4))]) dX3_keepMark_47 rfl (nI_add 3 1) (Nat.le_of_ble_eq_true rfl) rfl rfl ?_
            refine r_goto 28 dX3_keepMark_50 (by decide) ?_
            refine r_iload_n 2 dX3_keepMark_28 rfl rfl ?_
            refine r_iconst (nI 5) dX3_keepMark_29 (by decide +kernel) ?_
            refine r_ncmp_ge 53 (by omega) (by omega) dX3_keepMark_30 (by decide) (fun hq6 => ?_) (fun hq6 => ?_)
            · omega
            · refine r_aload_n 0 dX3_keepMark_33 rfl rfl ?_
              refine r_get 0 fk_X3_11 dX3_keepMark_34 rfl rfl ?_
              refine r_iload_n 2 dX3_keepMark_37 rfl rfl ?_
              refine r_aload_n 0 dX3_keepMark_38 rfl rfl ?_
              refine r_get 0 fk_X3_11 dX3_keepMark_39 rfl rfl ?_
              refine r_iload_n 2 dX3_keepMark_42 rfl rfl ?_
              refine r_iconst (nI 1) dX3_keepMark_43 (by decide +kernel) ?_
              refine r_niadd dX3_keepMark_44 ?_
              refine r_top (y := nI 5) rfl ?_
              refine r_aald (x := (r 5) 0) 1 5 dX3_keepMark_45 rfl rfl rfl (Nat.le_of_ble_eq_true rfl) (Nat.le_of_ble_eq_true rfl) rfl ?_
              refine r_aast (r := (RX1, TX1, 12)) 1 32 4 ([(t 0, .inr (3, [.ref (t 1), .int (nI 5)])), (t 1, .inl (cB, 6, .inr (.inr (.inr (.inr (va_up (va_up (va_up (va_up (va_up (rA r) 0 (some ((r 1) 0))) 1 (some ((r 2) 0))) 2 (some ((r 3) 0))) 3 (some ((r 4) 0))) 4 (some ((r 5) 0))))))))] ++ (rowW cA (r 0) (σ 0) ++ (rowW cA (r 1) (σ 1) ++ (rowW cA (r 2) (σ 2) ++ (rowW cA (r 3) (σ 3) ++ (rowW cA (r 4) (σ 4) ++ (rowW cA (r 5) (σ 5)))))))) dX3_keepMark_46 rfl rfl rfl rfl rfl (Nat.le_of_ble_eq_true rfl) (Nat.le_of_ble_eq_true rfl) rfl ?_
              refine r_iinc (v := nI (5)) ([some (.ref (t 0)), some (.ref ((r 0) 0)), some (.int (nI 5))]) dX3_keepMark_47 rfl (nI_add 4 1) (Nat.le_of_ble_eq_true rfl) rfl rfl ?_
              refine r_goto 28 dX3_keepMark_50 (by decide) ?_
              refine r_iload_n 2 dX3_keepMark_28 rfl rfl ?_
              refine r_iconst (nI 5) dX3_keepMark_29 (by decide +kernel) ?_
              refine r_ncmp_ge 53 (by omega) (by omega) dX3_keepMark_30 (by decide) (fun hq7 => ?_) (fun hq7 => ?_)
              · refine r_aload_n 0 dX3_keepMark_53 rfl rfl ?_
                refine r_get 0 fk_X3_11 dX3_keepMark_54 rfl rfl ?_
                refine r_iconst (nI 5) dX3_keepMark_57 (by decide +kernel) ?_
                refine r_aload_n 1 dX3_keepMark_58 rfl rfl ?_
                refine r_aast (r := (RX1, TX1, 12)) 1 2 5 ([(t 0, .inr (3, [.ref (t 1), .int (nI 5)])), (t 1, .inl (cB, 6, .inr (.inr (.inr (.inr (va_up (va_up (va_up (va_up (va_up (va_up (rA r) 0 (some ((r 1) 0))) 1 (some ((r 2) 0))) 2 (some ((r 3) 0))) 3 (some ((r 4) 0))) 4 (some ((r 5) 0))) 5 (some ((r 0) 0))))))))] ++ (rowW cA (r 0) (σ 0) ++ (rowW cA (r 1) (σ 1) ++ (rowW cA (r 2) (σ 2) ++ (rowW cA (r 3) (σ 3) ++ (rowW cA (r 4) (σ 4) ++ (rowW cA (r 5) (σ 5)))))))) dX3_keepMark_59 rfl rfl rfl rfl rfl (Nat.le_of_ble_eq_true rfl) (Nat.le_of_ble_eq_true rfl) rfl ?_
                refine r_perm (ws' := [(t 0, .inr (3, [.ref (t 1), .int (nI 5)])), (t 1, .inl (cB, 6, .inr (.inr (.inr (.inr (va_up (va_up (va_up (va_up (va_up (va_up (rA r) 0 (some ((r 1) 0))) 1 (some ((r 2) 0))) 2 (some ((r 3) 0))) 3 (some ((r 4) 0))) 4 (some ((r 5) 0))) 5 (some ((r 0) 0))))))))] ++ (rowW cA (r 1) (σ 1) ++ (rowW cA (r 2) (σ 2) ++ (rowW cA (r 3) (σ 3) ++ (rowW cA (r 4) (σ 4) ++ (rowW cA (r 5) (σ 5) ++ (rowW cA (r 0) (σ 0)))))))) [0, 1, 8, 9, 10, 11, 12, 13, 14, 15, 16, 17, 18, 19, 20, 21, 22, 23, 24, 25, 26, 27, 28, 29, 30, 31, 32, 33, 34, 35, 36, 37, 2, 3, 4, 5, 6, 7] rfl rfl ?_
                exact r_vret (()) dX3_keepMark_60 (rfl) (by rw [if_neg (by omega)]; unfold stW; rw [← rot_a r]; rfl)
              · omega
  · refine r_aload_n 0 dX3_keepMark_8 rfl rfl ?_
    refine r_dup rfl dX3_keepMark_9 ?_
    refine r_get 0 fk_X3_25 dX3_keepMark_10 rfl rfl ?_
    refine r_iconst (nI 1) dX3_keepMark_13 (by decide +kernel) ?_
    refine r_niadd dX3_keepMark_14 ?_
    refine r_put 0 ([(t 0, .inr (3, [.ref (t 1), .int (nI (h + 1))])), (t 1, .inl (cB, 6, .inr (.inr (.inr (.inr (rA r)))))), ((r 0) 0, .inr (1, [.int ((σ 0) 0), .int ((σ 0) 1), .int ((σ 0) 2), .int ((σ 0) 3), .int ((σ 0) 4), .int ((σ 0) 5), .int ((σ 0) 6), .ref ((r 0) 1), .ref ((r 0) 2), .ref ((r 0) 3), .ref ((r 0) 4), .ref ((r 0) 5)])), ((r 0) 1, .inl (cA, 64, .inl (kA (σ 0)))), ((r 0) 2, .inl (cA, 64, .inl (vA (σ 0)))), ((r 0) 3, .inl (cA, 8, .inl (gA 0 (σ 0)))), ((r 0) 4, .inl (cA, 8, .inl (gA 1 (σ 0)))), ((r 0) 5, .inl (cA, 8, .inl (gA 2 (σ 0)))), ((r 1) 0, .inr (1, [.int ((σ 1) 0), .int ((σ 1) 1), .int ((σ 1) 2), .int ((σ 1) 3), .int ((σ 1) 4), .int ((σ 1) 5), .int ((σ 1) 6), .ref ((r 1) 1), .ref ((r 1) 2), .ref ((r 1) 3), .ref ((r 1) 4), .ref ((r 1) 5)])), ((r 1) 1, .inl (cA, 64, .inl (kA (σ 1)))), ((r 1) 2, .inl (cA, 64, .inl (vA (σ 1)))), ((r 1) 3, .inl (cA, 8, .inl (gA 0 (σ 1)))), ((r 1) 4, .inl (cA, 8, .inl (gA 1 (σ 1)))), ((r 1) 5, .inl (cA, 8, .inl (gA 2 (σ 1)))), ((r 2) 0, .inr (1, [.int ((σ 2) 0), .int ((σ 2) 1), .int ((σ 2) 2), .int ((σ 2) 3), .int ((σ 2) 4), .int ((σ 2) 5), .int ((σ 2) 6), .ref ((r 2) 1), .ref ((r 2) 2), .ref ((r 2) 3), .ref ((r 2) 4), .ref ((r 2) 5)])), ((r 2) 1, .inl (cA, 64, .inl (kA (σ 2)))), ((r 2) 2, .inl (cA, 64, .inl (vA (σ 2)))), ((r 2) 3, .inl (cA, 8, .inl (gA 0 (σ 2)))), ((r 2) 4, .inl (cA, 8, .inl (gA 1 (σ 2)))), ((r 2) 5, .inl (cA, 8, .inl (gA 2 (σ 2)))), ((r 3) 0, .inr (1, [.int ((σ 3) 0), .int ((σ 3) 1), .int ((σ 3) 2), .int ((σ 3) 3), .int ((σ 3) 4), .int ((σ 3) 5), .int ((σ 3) 6), .ref ((r 3) 1), .ref ((r 3) 2), .ref ((r 3) 3), .ref ((r 3) 4), .ref ((r 3) 5)])), ((r 3) 1, .inl (cA, 64, .inl (kA (σ 3)))), ((r 3) 2, .inl (cA, 64, .inl (vA (σ 3)))), ((r 3) 3, .inl (cA, 8, .inl (gA 0 (σ 3)))), ((r 3) 4, .inl (cA, 8, .inl (gA 1 (σ 3)))), ((r 3) 5, .inl (cA, 8, .inl (gA 2 (σ 3)))), ((r 4) 0, .inr (1, [.int ((σ 4) 0), .int ((σ 4) 1), .int ((σ 4) 2), .int ((σ 4) 3), .int ((σ 4) 4), .int ((σ 4) 5), .int ((σ 4) 6), .ref ((r 4) 1), .ref ((r 4) 2), .ref ((r 4) 3), .ref ((r 4) 4), .ref ((r 4) 5)])), ((r 4) 1, .inl (cA, 64, .inl (kA (σ 4)))), ((r 4) 2, .inl (cA, 64, .inl (vA (σ 4)))), ((r 4) 3, .inl (cA, 8, .inl (gA 0 (σ 4)))), ((r 4) 4, .inl (cA, 8, .inl (gA 1 (σ 4)))), ((r 4) 5, .inl (cA, 8, .inl (gA 2 (σ 4)))), ((r 5) 0, .inr (1, [.int ((σ 5) 0), .int ((σ 5) 1), .int ((σ 5) 2), .int ((σ 5) 3), .int ((σ 5) 4), .int ((σ 5) 5), .int ((σ 5) 6), .ref ((r 5) 1), .ref ((r 5) 2), .ref ((r 5) 3), .ref ((r 5) 4), .ref ((r 5) 5)])), ((r 5) 1, .inl (cA, 64, .inl (kA (σ 5)))), ((r 5) 2, .inl (cA, 64, .inl (vA (σ 5)))), ((r 5) 3, .inl (cA, 8, .inl (gA 0 (σ 5)))), ((r 5) 4, .inl (cA, 8, .inl (gA 1 (σ 5)))), ((r 5) 5, .inl (cA, 8, .inl (gA 2 (σ 5))))]) fk_X3_25 dX3_keepMark_15 rfl rfl rfl rfl (Nat.le_of_ble_eq_true rfl) rfl ?_
    exact r_vret (()) dX3_keepMark_18 (rfl) (by rw [if_pos (by omega)]; rfl)

theorem c_X3_keepMark_lt (l : Launch) (D : va_G) (cA cB : ClassId) (t : Nat → Nat) (r : Nat → Nat → Nat) (σ : Nat → Nat → Int32) (h : Nat) (hh : h ≤ 5) (hlt : h < 5) : Mt l D (tyS cA cB) yX3_keepMark cX3_keepMark 3 none ({ frames := 0, cells := 0, slots := 0, locals := 0 } : Room) [.ref (t 0)] (stW cA cB t r σ (nI h)) Unit (fun v _ => v = none) (fun _ => stW cA cB t r σ (nI (h + 1))) 0 0 := by
  have z := c_X3_keepMark l D cA cB t r σ h hh
  rw [if_pos hlt] at z
  exact z
theorem c_X3_keepMark_ge (l : Launch) (D : va_G) (cA cB : ClassId) (t : Nat → Nat) (r : Nat → Nat → Nat) (σ : Nat → Nat → Int32) (h : Nat) (hh : h ≤ 5) (hge : 5 ≤ h) : Mt l D (tyS cA cB) yX3_keepMark cX3_keepMark 3 none ({ frames := 0, cells := 0, slots := 0, locals := 0 } : Room) [.ref (t 0)] (stW cA cB t r σ (nI h)) Unit (fun v _ => v = none) (fun _ => stW cA cB t (rot r) (rot σ) (nI 5)) 0 0 := by
  have z := c_X3_keepMark l D cA cB t r σ h hh
  rw [if_neg (Nat.not_lt.mpr hge)] at z
  exact z
set_option maxRecDepth 100000 in
set_option maxHeartbeats 4000000 in
theorem c_X3_keep (l : Launch) (D : va_G) (cA cB : ClassId) (t : Nat → Nat) (r : Nat → Nat → Nat) (σ : Nat → Nat → Int32) (h : Nat) (hh : h ≤ 5) (q : Nat → Nat) (ρ : Nat → Int32)  : Mt l D (tyS cA cB) yX3_keep cX3_keep 2 none ({ frames := 2, cells := 0, slots := 0, locals := 43 } : Room) [.ref (t 0), .ref (q 0)] (stW cA cB t r σ (nI (h)) ++ (rowW cA q ρ)) Unit (fun v _ => v = none) (fun _ => (if h < 5 then stW cA cB t r (ups σ h ρ) (nI (h + 1)) else stW cA cB t (rot r) (rot (ups σ h ρ)) (nI 5)) ++ (rowW cA q ρ)) 0 0 := by
  refine mt_in RX3 ([some (.ref (t 0)), some (.ref (q 0))]) rfl (by decide +kernel) rfl (Nat.le_of_ble_eq_true rfl) rfl rfl (fun X sz => ?_)
  refine r_aload_n 0 dX3_keep_0 rfl rfl ?_
  refine r_aload_n 1 dX3_keep_1 rfl rfl ?_
  refine r_callV2 (As := [.ref (q 0)]) (st := []) (fun _ => stW cA cB t r (ups σ h ρ) (nI (h)) ++ (rowW cA q ρ)) [stW cA cB t r σ (nI (h)), rowW cA q ρ] [stW cA cB t r σ (nI (h)), rowW cA q ρ] [] (fun _ => [stW cA cB t r (ups σ h ρ) (nI (h)), rowW cA q ρ]) (fun _ => [stW cA cB t r (ups σ h ρ) (nI (h)), rowW cA q ρ]) (c_X3_mark l D cA cB t r σ h hh q ρ) kv_X3_mark ml_X3_18 dX3_keep_2 rfl rfl rfl rfl (segOk [0, 1] rfl rfl rfl rfl) (fun _ => segOk [0, 1] rfl rfl rfl rfl) rfl (Nat.le_of_ble_eq_true rfl) (fun v u h => ?_)
  subst h
  refine r_st (st' := []) rfl ?_
  refine r_aload_n 0 dX3_keep_5 rfl rfl ?_
  rcases Nat.lt_or_ge h 5 with hlt | hge
  · refine r_callV2 (As := []) (st := []) (fun _ => stW cA cB t r (ups σ h ρ) (nI (h + 1)) ++ (rowW cA q ρ)) [stW cA cB t r (ups σ h ρ) (nI (h)), rowW cA q ρ] [stW cA cB t r (ups σ h ρ) (nI (h))] [rowW cA q ρ] (fun _ => [stW cA cB t r (ups σ h ρ) (nI (h + 1)), rowW cA q ρ]) (fun _ => [stW cA cB t r (ups σ h ρ) (nI (h + 1))]) (c_X3_keepMark_lt l D cA cB t r (ups σ h ρ) h hh hlt) kv_X3_keepMark ml_X3_22 dX3_keep_6 rfl rfl rfl rfl (segOk [0, 1] rfl rfl rfl rfl) (fun _ => segOk [0, 1] rfl rfl rfl rfl) rfl (Nat.le_of_ble_eq_true rfl) (fun v u h => ?_)
    subst h
    refine r_st (st' := []) rfl ?_
    exact r_vret (()) dX3_keep_9 (rfl) (by rw [if_pos hlt])
  · refine r_callV2 (As := []) (st := []) (fun _ => stW cA cB t (rot r) (rot (ups σ h ρ)) (nI (5)) ++ (rowW cA q ρ)) [stW cA cB t r (ups σ h ρ) (nI (h)), rowW cA q ρ] [stW cA cB t r (ups σ h ρ) (nI (h))] [rowW cA q ρ] (fun _ => [stW cA cB t (rot r) (rot (ups σ h ρ)) (nI (5)), rowW cA q ρ]) (fun _ => [stW cA cB t (rot r) (rot (ups σ h ρ)) (nI (5))]) (c_X3_keepMark_ge l D cA cB t r (ups σ h ρ) h hh hge) kv_X3_keepMark ml_X3_22 dX3_keep_6 rfl rfl rfl rfl (segOk [0, 1] rfl rfl rfl rfl) (fun _ => segOk [0, 1] rfl rfl rfl rfl) rfl (Nat.le_of_ble_eq_true rfl) (fun v u h => ?_)
    subst h
    refine r_st (st' := []) rfl ?_
    exact r_vret (()) dX3_keep_9 (rfl) (by rw [if_neg (Nat.not_lt.mpr hge)])

set_option maxRecDepth 100000 in
set_option maxHeartbeats 4000000 in
theorem c_X3_goBack (l : Launch) (D : va_G) (cA cB : ClassId) (t : Nat → Nat) (r : Nat → Nat → Nat) (σ : Nat → Nat → Int32) (h : Nat) (hh : h ≤ 5) (q : Nat → Nat) (ρ : Nat → Int32)  : Mt l D (tyS cA cB) yX3_goBack cX3_goBack 2 (some .boolean) ({ frames := 2, cells := 0, slots := 0, locals := 43 } : Room) [.ref (t 0), .ref (q 0)] (stW cA cB t r σ (nI (h)) ++ (rowW cA q ρ)) Unit (fun v _ => v = some (.int (bI (decide (0 < h))))) (fun _ => stW cA cB t r σ (nI (h - 1)) ++ (rowW cA q (if 0 < h then σ (h - 1) else ρ))) 0 0 := by
  refine mt_in RX3 ([some (.ref (t 0)), some (.ref (q 0))]) rfl (by decide +kernel) rfl (Nat.le_of_ble_eq_true rfl) rfl rfl (fun X sz => ?_)
  refine r_aload_n 0 dX3_goBack_0 rfl rfl ?_
  refine r_get 0 fk_X3_25 dX3_goBack_1 rfl rfl ?_
  refine r_if_ne 9 dX3_goBack_4 (by decide) (fun hq1 => ?_) (fun hq1 => ?_)
  · have hp : 0 < h := by rcases Nat.eq_zero_or_pos h with z | z; exact absurd (by rw [z]; rfl) hq1; exact z
    refine r_aload_n 0 dX3_goBack_9 rfl rfl ?_
    refine r_dup rfl dX3_goBack_10 ?_
    refine r_get 0 fk_X3_25 dX3_goBack_11 rfl rfl ?_
    refine r_iconst (nI 1) dX3_goBack_14 (by decide +kernel) ?_
    refine r_nisub (by omega) dX3_goBack_15 ?_
    refine r_put 0 ([(t 0, .inr (3, [.ref (t 1), .int (nI (h - 1))])), (t 1, .inl (cB, 6, .inr (.inr (.inr (.inr (rA r)))))), ((r 0) 0, .inr (1, [.int ((σ 0) 0), .int ((σ 0) 1), .int ((σ 0) 2), .int ((σ 0) 3), .int ((σ 0) 4), .int ((σ 0) 5), .int ((σ 0) 6), .ref ((r 0) 1), .ref ((r 0) 2), .ref ((r 0) 3), .ref ((r 0) 4), .ref ((r 0) 5)])), ((r 0) 1, .inl (cA, 64, .inl (kA (σ 0)))), ((r 0) 2, .inl (cA, 64, .inl (vA (σ 0)))), ((r 0) 3, .inl (cA, 8, .inl (gA 0 (σ 0)))), ((r 0) 4, .inl (cA, 8, .inl (gA 1 (σ 0)))), ((r 0) 5, .inl (cA, 8, .inl (gA 2 (σ 0)))), ((r 1) 0, .inr (1, [.int ((σ 1) 0), .int ((σ 1) 1), .int ((σ 1) 2), .int ((σ 1) 3), .int ((σ 1) 4), .int ((σ 1) 5), .int ((σ 1) 6), .ref ((r 1) 1), .ref ((r 1) 2), .ref ((r 1) 3), .ref ((r 1) 4), .ref ((r 1) 5)])), ((r 1) 1, .inl (cA, 64, .inl (kA (σ 1)))), ((r 1) 2, .inl (cA, 64, .inl (vA (σ 1)))), ((r 1) 3, .inl (cA, 8, .inl (gA 0 (σ 1)))), ((r 1) 4, .inl (cA, 8, .inl (gA 1 (σ 1)))), ((r 1) 5, .inl (cA, 8, .inl (gA 2 (σ 1)))), ((r 2) 0, .inr (1, [.int ((σ 2) 0), .int ((σ 2) 1), .int ((σ 2) 2), .int ((σ 2) 3), .int ((σ 2) 4), .int ((σ 2) 5), .int ((σ 2) 6), .ref ((r 2) 1), .ref ((r 2) 2), .ref ((r 2) 3), .ref ((r 2) 4), .ref ((r 2) 5)])), ((r 2) 1, .inl (cA, 64, .inl (kA (σ 2)))), ((r 2) 2, .inl (cA, 64, .inl (vA (σ 2)))), ((r 2) 3, .inl (cA, 8, .inl (gA 0 (σ 2)))), ((r 2) 4, .inl (cA, 8, .inl (gA 1 (σ 2)))), ((r 2) 5, .inl (cA, 8, .inl (gA 2 (σ 2)))), ((r 3) 0, .inr (1, [.int ((σ 3) 0), .int ((σ 3) 1), .int ((σ 3) 2), .int ((σ 3) 3), .int ((σ 3) 4), .int ((σ 3) 5), .int ((σ 3) 6), .ref ((r 3) 1), .ref ((r 3) 2), .ref ((r 3) 3), .ref ((r 3) 4), .ref ((r 3) 5)])), ((r 3) 1, .inl (cA, 64, .inl (kA (σ 3)))), ((r 3) 2, .inl (cA, 64, .inl (vA (σ 3)))), ((r 3) 3, .inl (cA, 8, .inl (gA 0 (σ 3)))), ((r 3) 4, .inl (cA, 8, .inl (gA 1 (σ 3)))), ((r 3) 5, .inl (cA, 8, .inl (gA 2 (σ 3)))), ((r 4) 0, .inr (1, [.int ((σ 4) 0), .int ((σ 4) 1), .int ((σ 4) 2), .int ((σ 4) 3), .int ((σ 4) 4), .int ((σ 4) 5), .int ((σ 4) 6), .ref ((r 4) 1), .ref ((r 4) 2), .ref ((r 4) 3), .ref ((r 4) 4), .ref ((r 4) 5)])), ((r 4) 1, .inl (cA, 64, .inl (kA (σ 4)))), ((r 4) 2, .inl (cA, 64, .inl (vA (σ 4)))), ((r 4) 3, .inl (cA, 8, .inl (gA 0 (σ 4)))), ((r 4) 4, .inl (cA, 8, .inl (gA 1 (σ 4)))), ((r 4) 5, .inl (cA, 8, .inl (gA 2 (σ 4)))), ((r 5) 0, .inr (1, [.int ((σ 5) 0), .int ((σ 5) 1), .int ((σ 5) 2), .int ((σ 5) 3), .int ((σ 5) 4), .int ((σ 5) 5), .int ((σ 5) 6), .ref ((r 5) 1), .ref ((r 5) 2), .ref ((r 5) 3), .ref ((r 5) 4), .ref ((r 5) 5)])), ((r 5) 1, .inl (cA, 64, .inl (kA (σ 5)))), ((r 5) 2, .inl (cA, 64, .inl (vA (σ 5)))), ((r 5) 3, .inl (cA, 8, .inl (gA 0 (σ 5)))), ((r 5) 4, .inl (cA, 8, .inl (gA 1 (σ 5)))), ((r 5) 5, .inl (cA, 8, .inl (gA 2 (σ 5))))] ++ (rowW cA q ρ)) fk_X3_25 dX3_goBack_16 rfl rfl rfl rfl (Nat.le_of_ble_eq_true rfl) rfl ?_
    refine r_ws (ws' := stW cA cB t r σ (nI (h - 1)) ++ (rowW cA q ρ)) rfl ?_
    refine r_aload_n 0 dX3_goBack_19 rfl rfl ?_
    refine r_aload_n 1 dX3_goBack_20 rfl rfl ?_
    refine r_callV2 (As := [.ref (q 0)]) (st := []) (fun _ => stW cA cB t r σ (nI (h - 1)) ++ (rowW cA q (σ (h - 1)))) [stW cA cB t r σ (nI (h - 1)), rowW cA q ρ] [stW cA cB t r σ (nI (h - 1)), rowW cA q ρ] [] (fun _ => [stW cA cB t r σ (nI (h - 1)), rowW cA q (σ (h - 1))]) (fun _ => [stW cA cB t r σ (nI (h - 1)), rowW cA q (σ (h - 1))]) (c_X3_returnToMark l D cA cB t r σ (h - 1) (by omega) q ρ) kv_X3_returnToMark ml_X3_36 dX3_goBack_21 rfl rfl rfl rfl (segOk [0, 1] rfl rfl rfl rfl) (fun _ => segOk [0, 1] rfl rfl rfl rfl) rfl (Nat.le_of_ble_eq_true rfl) (fun v u h => ?_)
    subst h
    refine r_st (st' := []) rfl ?_
    refine r_iconst (nI 1) dX3_goBack_24 (by decide +kernel) ?_
    exact r_zret (()) (by decide +kernel) dX3_goBack_25 (by rw [decide_eq_true hp]; rfl) (by rw [if_pos hp])
  · have hp : ¬ 0 < h := by have := (nI_inj (b := 0) (by omega) (by decide)).mp hq1; omega
    refine r_iconst (nI 0) dX3_goBack_7 (by decide +kernel) ?_
    exact r_zret (()) (by decide +kernel) dX3_goBack_8 (by rw [decide_eq_false (by omega)]; rfl) (by rw [if_neg (by omega), show h - 1 = h by omega])

