set_option maxRecDepth 100000 in
set_option maxHeartbeats 4000000 in
theorem c_X4_within (l : Launch) (D : va_G) (cA cB : ClassId) (x m : Int32) : Mt l D (tyS cA cB) yX4_within cX4_within 2 (some .boolean) ({ frames := 0, cells := 0, slots := 0, locals := 0 } : Room) [.int (x), .int (m)] ([]) Unit (fun v _ => v = some (.int (bI (wi x m)))) (fun _ => []) 0 0 := by
  refine mt_in RX4 ([some (.int (x)), some (.int (m))]) rfl (by decide +kernel) rfl (Nat.le_of_ble_eq_true rfl) rfl rfl (fun X sz => ?_)
  refine r_iload_n 0 dX4_within_0 rfl rfl ?_
  refine r_if_lt 13 dX4_within_1 (by decide) (fun h1 => ?_) (fun h1 => ?_)
  · refine r_iconst (nI 0) dX4_within_13 (by decide +kernel) ?_
    exact r_zret (()) (by decide +kernel) dX4_within_14 (by first | (rw [wi_f0 h1]; rfl) | (rw [wi_f1 h2]; rfl) | (rw [wi_t h1 h2]; rfl)) (rfl)
  · refine r_iload_n 0 dX4_within_4 rfl rfl ?_
    refine r_iload_n 1 dX4_within_5 rfl rfl ?_
    refine r_icmp_gt 13 dX4_within_6 (by decide) (fun h2 => ?_) (fun h2 => ?_)
    · refine r_iconst (nI 0) dX4_within_13 (by decide +kernel) ?_
      exact r_zret (()) (by decide +kernel) dX4_within_14 (by first | (rw [wi_f0 h1]; rfl) | (rw [wi_f1 h2]; rfl) | (rw [wi_t h1 h2]; rfl)) (rfl)
    · refine r_iconst (nI 1) dX4_within_9 (by decide +kernel) ?_
      refine r_goto 14 dX4_within_10 (by decide) ?_
      exact r_zret (()) (by decide +kernel) dX4_within_14 (by first | (rw [wi_f0 h1]; rfl) | (rw [wi_f1 h2]; rfl) | (rw [wi_t h1 h2]; rfl)) (rfl)

set_option maxRecDepth 100000 in
set_option maxHeartbeats 4000000 in
theorem c_X4_cellsOf (l : Launch) (D : va_G) (cA cB : ClassId) (n : Nat) (hn : n ≤ 4) : Mt l D (tyS cA cB) yX4_cellsOf cX4_cellsOf 1 (some .int) ({ frames := 0, cells := 0, slots := 0, locals := 0 } : Room) [.int (nI n)] ([]) Unit (fun v _ => v = some (.int (nI (4 * 2 ^ n)))) (fun _ => []) 0 0 := by
  refine mt_in RX4 ([some (.int (nI n))]) rfl (by decide +kernel) rfl (Nat.le_of_ble_eq_true rfl) rfl rfl (fun X sz => ?_)
  refine r_iconst (nI 4) dX4_cellsOf_0 (by decide +kernel) ?_
  refine r_iload_n 0 dX4_cellsOf_1 rfl rfl ?_
  refine r_ishl dX4_cellsOf_2 ?_
  refine r_top (shl4 n hn) ?_
  exact r_iret (()) dX4_cellsOf_3 (rfl) (rfl)

set_option maxRecDepth 100000 in
set_option maxHeartbeats 4000000 in
theorem c_X1_keyIn (l : Launch) (D : va_G) (cA cB : ClassId) (q : Nat → Nat) (ρ : Nat → Int32) (c : Nat) (hc : c < 64) : Mt l D (tyS cA cB) yX1_keyIn cX1_keyIn 2 (some .int) ({ frames := 0, cells := 0, slots := 0, locals := 0 } : Room) [.ref (q 0), .int (nI c)] (rowW cA q ρ) Unit (fun v _ => v = some (.int (ρ (31 + c)))) (fun _ => rowW cA q ρ) 0 0 := by
  refine mt_in RX1 ([some (.ref (q 0)), some (.int (nI c))]) rfl (by decide +kernel) rfl (Nat.le_of_ble_eq_true rfl) rfl rfl (fun X sz => ?_)
  refine r_iload_n 1 dX1_keyIn_0 rfl rfl ?_
  refine r_if_lt 22 dX1_keyIn_1 (by decide) (fun h1 => ?_) (fun h1 => ?_)
  · exact absurd h1 (nI_pos (by omega))
  · refine r_iload_n 1 dX1_keyIn_4 rfl rfl ?_
    refine r_aload_n 0 dX1_keyIn_5 rfl rfl ?_
    refine r_get 0 fk_X1_15 dX1_keyIn_6 rfl rfl ?_
    refine r_alen 1 0 dX1_keyIn_9 rfl rfl ?_
    refine r_top (y := nI 64) rfl ?_
    refine r_ncmp_ge 22 (by omega) (by omega) dX1_keyIn_10 (by decide) (fun h2 => ?_) (fun h2 => ?_)
    · omega
    · refine r_aload_n 0 dX1_keyIn_13 rfl rfl ?_
      refine r_get 0 fk_X1_15 dX1_keyIn_14 rfl rfl ?_
      refine r_iload_n 1 dX1_keyIn_17 rfl rfl ?_
      refine r_iald 1 (c) dX1_keyIn_18 rfl rfl rfl (by omega) (Nat.le_of_ble_eq_true rfl) ?_
      refine r_top (kA_lt (by omega)) ?_
      refine r_goto 23 dX1_keyIn_19 (by decide) ?_
      exact r_iret (()) dX1_keyIn_23 (rfl) (rfl)

set_option maxRecDepth 100000 in
set_option maxHeartbeats 4000000 in
theorem c_X1_keyIn_m (l : Launch) (D : va_G) (cA cB : ClassId) (q : Nat → Nat) (ρ : Nat → Int32) : Mt l D (tyS cA cB) yX1_keyIn cX1_keyIn 2 (some .int) ({ frames := 0, cells := 0, slots := 0, locals := 0 } : Room) [.ref (q 0), .int (-1)] (rowW cA q ρ) Unit (fun v _ => v = some (.int (-1))) (fun _ => rowW cA q ρ) 0 0 := by
  refine mt_in RX1 ([some (.ref (q 0)), some (.int (-1))]) rfl (by decide +kernel) rfl (Nat.le_of_ble_eq_true rfl) rfl rfl (fun X sz => ?_)
  refine r_iload_n 1 dX1_keyIn_0 rfl rfl ?_
  refine r_if_lt 22 dX1_keyIn_1 (by decide) (fun h1 => ?_) (fun h1 => ?_)
  · refine r_iconst (-1) dX1_keyIn_22 (by decide +kernel) ?_
    exact r_iret (()) dX1_keyIn_23 (rfl) (rfl)
  · exact absurd (by decide +kernel) h1

set_option maxRecDepth 100000 in
set_option maxHeartbeats 4000000 in
theorem c_X1_valueIn (l : Launch) (D : va_G) (cA cB : ClassId) (q : Nat → Nat) (ρ : Nat → Int32) (c : Nat) (hc : c < 64) : Mt l D (tyS cA cB) yX1_valueIn cX1_valueIn 2 (some .int) ({ frames := 0, cells := 0, slots := 0, locals := 0 } : Room) [.ref (q 0), .int (nI c)] (rowW cA q ρ) Unit (fun v _ => v = some (.int (ρ (95 + c)))) (fun _ => rowW cA q ρ) 0 0 := by
  refine mt_in RX1 ([some (.ref (q 0)), some (.int (nI c))]) rfl (by decide +kernel) rfl (Nat.le_of_ble_eq_true rfl) rfl rfl (fun X sz => ?_)
  refine r_iload_n 1 dX1_valueIn_0 rfl rfl ?_
  refine r_if_lt 22 dX1_valueIn_1 (by decide) (fun h1 => ?_) (fun h1 => ?_)
  · exact absurd h1 (nI_pos (by omega))
  · refine r_iload_n 1 dX1_valueIn_4 rfl rfl ?_
    refine r_aload_n 0 dX1_valueIn_5 rfl rfl ?_
    refine r_get 0 fk_X1_19 dX1_valueIn_6 rfl rfl ?_
    refine r_alen 2 0 dX1_valueIn_9 rfl rfl ?_
    refine r_top (y := nI 64) rfl ?_
    refine r_ncmp_ge 22 (by omega) (by omega) dX1_valueIn_10 (by decide) (fun h2 => ?_) (fun h2 => ?_)
    · omega
    · refine r_aload_n 0 dX1_valueIn_13 rfl rfl ?_
      refine r_get 0 fk_X1_19 dX1_valueIn_14 rfl rfl ?_
      refine r_iload_n 1 dX1_valueIn_17 rfl rfl ?_
      refine r_iald 2 (c) dX1_valueIn_18 rfl rfl rfl (by omega) (Nat.le_of_ble_eq_true rfl) ?_
      refine r_top (vA_lt (by omega)) ?_
      refine r_goto 23 dX1_valueIn_19 (by decide) ?_
      exact r_iret (()) dX1_valueIn_23 (rfl) (rfl)

set_option maxRecDepth 100000 in
set_option maxHeartbeats 4000000 in
theorem c_X1_fill (l : Launch) (D : va_G) (cA cB : ClassId) (q : Nat → Nat) (ρ : Nat → Int32) (c : Nat) (hc : c < 64) (k v : Int32) : Mt l D (tyS cA cB) yX1_fill cX1_fill 4 none ({ frames := 0, cells := 0, slots := 0, locals := 0 } : Room) [.ref (q 0), .int (nI c), .int (k), .int (v)] (rowW cA q ρ) Unit (fun v _ => v = none) (fun _ => rowW cA q (upd (upd ρ (31 + c) k) (95 + c) v)) 0 0 := by
  refine mt_in RX1 ([some (.ref (q 0)), some (.int (nI c)), some (.int (k)), some (.int (v))]) rfl (by decide +kernel) rfl (Nat.le_of_ble_eq_true rfl) rfl rfl (fun X sz => ?_)
  refine r_iload_n 1 dX1_fill_0 rfl rfl ?_
  refine r_if_lt 36 dX1_fill_1 (by decide) (fun h1 => ?_) (fun h1 => ?_)
  · exact absurd h1 (nI_pos (by omega))
  · refine r_iload_n 1 dX1_fill_4 rfl rfl ?_
    refine r_aload_n 0 dX1_fill_5 rfl rfl ?_
    refine r_get 0 fk_X1_15 dX1_fill_6 rfl rfl ?_
    refine r_alen 1 0 dX1_fill_9 rfl rfl ?_
    refine r_top (y := nI 64) rfl ?_
    refine r_ncmp_ge 36 (by omega) (by omega) dX1_fill_10 (by decide) (fun h2 => ?_) (fun h2 => ?_)
    · omega
    · refine r_iload_n 1 dX1_fill_13 rfl rfl ?_
      refine r_aload_n 0 dX1_fill_14 rfl rfl ?_
      refine r_get 0 fk_X1_19 dX1_fill_15 rfl rfl ?_
      refine r_alen 2 0 dX1_fill_18 rfl rfl ?_
      refine r_top (y := nI 64) rfl ?_
      refine r_ncmp_ge 36 (by omega) (by omega) dX1_fill_19 (by decide) (fun h3 => ?_) (fun h3 => ?_)
      · omega
      · refine r_aload_n 0 dX1_fill_22 rfl rfl ?_
        refine r_get 0 fk_X1_15 dX1_fill_23 rfl rfl ?_
        refine r_iload_n 1 dX1_fill_26 rfl rfl ?_
        refine r_iload_n 2 dX1_fill_27 rfl rfl ?_
        refine r_iast 1 (c) ([(q 0, .inr (1, [.int (ρ 0), .int (ρ 1), .int (ρ 2), .int (ρ 3), .int (ρ 4), .int (ρ 5), .int (ρ 6), .ref (q 1), .ref (q 2), .ref (q 3), .ref (q 4), .ref (q 5)])), (q 1, .inl (cA, 64, .inl (upd (kA ρ) c k))), (q 2, .inl (cA, 64, .inl (vA ρ))), (q 3, .inl (cA, 8, .inl (gA 0 ρ))), (q 4, .inl (cA, 8, .inl (gA 1 ρ))), (q 5, .inl (cA, 8, .inl (gA 2 ρ)))]) dX1_fill_28 rfl rfl rfl (by omega) (Nat.le_of_ble_eq_true rfl) rfl ?_
        refine r_ws (row_setK hc) ?_
        refine r_aload_n 0 dX1_fill_29 rfl rfl ?_
        refine r_get 0 fk_X1_19 dX1_fill_30 rfl rfl ?_
        refine r_iload_n 1 dX1_fill_33 rfl rfl ?_
        refine r_iload_n 3 dX1_fill_34 rfl rfl ?_
        refine r_iast 2 (c) ([(q 0, .inr (1, [.int ((upd ρ (31 + c) k) 0), .int ((upd ρ (31 + c) k) 1), .int ((upd ρ (31 + c) k) 2), .int ((upd ρ (31 + c) k) 3), .int ((upd ρ (31 + c) k) 4), .int ((upd ρ (31 + c) k) 5), .int ((upd ρ (31 + c) k) 6), .ref (q 1), .ref (q 2), .ref (q 3), .ref (q 4), .ref (q 5)])), (q 1, .inl (cA, 64, .inl (kA (upd ρ (31 + c) k)))), (q 2, .inl (cA, 64, .inl (upd (vA (upd ρ (31 + c) k)) c v))), (q 3, .inl (cA, 8, .inl (gA 0 (upd ρ (31 + c) k)))), (q 4, .inl (cA, 8, .inl (gA 1 (upd ρ (31 + c) k)))), (q 5, .inl (cA, 8, .inl (gA 2 (upd ρ (31 + c) k))))]) dX1_fill_35 rfl rfl rfl (by omega) (Nat.le_of_ble_eq_true rfl) rfl ?_
        refine r_ws (row_setV hc) ?_
        exact r_vret (()) dX1_fill_36 (rfl) (rfl)

set_option maxRecDepth 100000 in
set_option maxHeartbeats 4000000 in
theorem c_X1_top (l : Launch) (D : va_G) (cA cB : ClassId) (q : Nat → Nat) (ρ : Nat → Int32) (n : Nat) (hsz : ρ 0 = nI n) (h3 : n = 16 ∨ n = 32 ∨ n = 64)  : Mt l D (tyS cA cB) yX1_top cX1_top 1 (some .int) ({ frames := 0, cells := 0, slots := 0, locals := 0 } : Room) [.ref (q 0)] (rowW cA q ρ) Unit (fun v _ => v = some (.int (nI (topN n)))) (fun _ => rowW cA q ρ) 0 0 := by
  refine mt_in RX1 ([some (.ref (q 0))]) rfl (by decide +kernel) rfl (Nat.le_of_ble_eq_true rfl) rfl rfl (fun X sz => ?_)
  have hb : n ≤ 64 := by omega
  refine r_aload_n 0 dX1_top_0 rfl rfl ?_
  refine r_get 0 fk_X1_9 dX1_top_1 rfl rfl ?_
  refine r_top (y := nI (n)) (hsz) ?_
  refine r_bipush (nI 16) dX1_top_4 (by decide +kernel) ?_
  refine r_ncmp_ne 11 (by omega) (by omega) dX1_top_6 (by decide) (fun h1 => ?_) (fun h1 => ?_)
  · refine r_aload_n 0 dX1_top_11 rfl rfl ?_
    refine r_get 0 fk_X1_9 dX1_top_12 rfl rfl ?_
    refine r_top (y := nI (n)) (hsz) ?_
    refine r_bipush (nI 64) dX1_top_15 (by decide +kernel) ?_
    refine r_ncmp_ne 24 (by omega) (by omega) dX1_top_17 (by decide) (fun h2 => ?_) (fun h2 => ?_)
    · refine r_iconst (nI 3) dX1_top_24 (by decide +kernel) ?_
      exact r_iret (()) dX1_top_25 (by rcases h3 with rfl | rfl | rfl <;> first | rfl | omega) (rfl)
    · refine r_iconst (nI 4) dX1_top_20 (by decide +kernel) ?_
      refine r_goto 25 dX1_top_21 (by decide) ?_
      exact r_iret (()) dX1_top_25 (by rcases h3 with rfl | rfl | rfl <;> first | rfl | omega) (rfl)
  · refine r_iconst (nI 2) dX1_top_9 (by decide +kernel) ?_
    exact r_iret (()) dX1_top_10 (by rcases h3 with rfl | rfl | rfl <;> first | rfl | omega) (rfl)

set_option maxRecDepth 100000 in
set_option maxHeartbeats 4000000 in
theorem c_X1_most (l : Launch) (D : va_G) (cA cB : ClassId) (q : Nat → Nat) (ρ : Nat → Int32) (n : Nat) (hsz : ρ 0 = nI n) (h3 : n = 16 ∨ n = 32 ∨ n = 64) (i : Nat) (hi : i ≤ 4) : Mt l D (tyS cA cB) yX1_most cX1_most 2 (some .int) ({ frames := 1, cells := 0, slots := 0, locals := 20 } : Room) [.ref (q 0), .int (nI i)] (rowW cA q ρ) Unit (fun v _ => v = some (.int (nI (mostN n i)))) (fun _ => rowW cA q ρ) 0 0 := by
  refine mt_in RX1 ([some (.ref (q 0)), some (.int (nI i))]) rfl (by decide +kernel) rfl (Nat.le_of_ble_eq_true rfl) rfl rfl (fun X sz => ?_)
  have ht := top_le (sz := n)
  have hq := Nat.div_le_self (25 * i) (topN n)
  have hq5 := Nat.div_le_self (5 * i) (topN n)
  have hp := pow4 i hi
  have hx : 4 * 2 ^ i * (100 - 25 * i / topN n) ≤ 64 * 100 := Nat.mul_le_mul hp (Nat.sub_le _ _)
  have hy : 4 * 2 ^ i * (25 + 5 * i / topN n) ≤ 64 * 45 := Nat.mul_le_mul hp (by omega)
  refine r_iload_n 1 dX1_most_0 rfl rfl ?_
  refine r_callS (As := [.int (nI i)]) (st := []) [] [0, 1, 2, 3, 4, 5] (fun _ => rowW cA q ρ) [0, 1, 2, 3, 4, 5] (c_X4_cellsOf l D cA cB (i) (by omega)) ks_X4_cellsOf ml_X1_62 dX1_most_1 rfl rfl rfl rfl rfl rfl (by decide) (fun _ => rfl) rfl rfl (Nat.le_of_ble_eq_true rfl) (fun v u h => ?_)
  subst h
  refine r_st (st' := [.int (nI (4 * 2 ^ i))]) rfl ?_
  refine r_bipush (nI 100) dX1_most_4 (by decide +kernel) ?_
  refine r_bipush (nI 25) dX1_most_6 (by decide +kernel) ?_
  refine r_iload_n 1 dX1_most_8 rfl rfl ?_
  refine r_nimul dX1_most_9 ?_
  refine r_aload_n 0 dX1_most_10 rfl rfl ?_
  refine r_callV (As := []) (st := [.int (nI (25 * i)), .int (nI 100), .int (nI (4 * 2 ^ i))]) [0, 1, 2, 3, 4, 5] [] (fun _ => rowW cA q ρ) [0, 1, 2, 3, 4, 5] (c_X1_top l D cA cB q ρ n hsz h3) kv_X1_top ml_X1_65 dX1_most_11 rfl rfl rfl rfl rfl rfl rfl rfl (by decide) (fun _ => rfl) rfl rfl (Nat.le_of_ble_eq_true rfl) (fun v u h => ?_)
  subst h
  refine r_st (st' := [.int (nI (topN n)), .int (nI (25 * i)), .int (nI 100), .int (nI (4 * 2 ^ i))]) rfl ?_
  refine r_nidiv (by omega) (by omega) (by omega) dX1_most_14 ?_
  refine r_nisub (by omega) dX1_most_15 ?_
  refine r_nimul dX1_most_16 ?_
  refine r_bipush (nI 100) dX1_most_17 (by decide +kernel) ?_
  refine r_nidiv (by omega) (by omega) (by omega) dX1_most_19 ?_
  exact r_iret (()) dX1_most_20 (rfl) (rfl)

set_option maxRecDepth 100000 in
set_option maxHeartbeats 4000000 in
theorem c_X1_least (l : Launch) (D : va_G) (cA cB : ClassId) (q : Nat → Nat) (ρ : Nat → Int32) (n : Nat) (hsz : ρ 0 = nI n) (h3 : n = 16 ∨ n = 32 ∨ n = 64) (i : Nat) (hi : i ≤ 4) : Mt l D (tyS cA cB) yX1_least cX1_least 2 (some .int) ({ frames := 1, cells := 0, slots := 0, locals := 20 } : Room) [.ref (q 0), .int (nI i)] (rowW cA q ρ) Unit (fun v _ => v = some (.int (nI (leastN n i)))) (fun _ => rowW cA q ρ) 0 0 := by
  refine mt_in RX1 ([some (.ref (q 0)), some (.int (nI i))]) rfl (by decide +kernel) rfl (Nat.le_of_ble_eq_true rfl) rfl rfl (fun X sz => ?_)
  have ht := top_le (sz := n)
  have hq := Nat.div_le_self (25 * i) (topN n)
  have hq5 := Nat.div_le_self (5 * i) (topN n)
  have hp := pow4 i hi
  have hx : 4 * 2 ^ i * (100 - 25 * i / topN n) ≤ 64 * 100 := Nat.mul_le_mul hp (Nat.sub_le _ _)
  have hy : 4 * 2 ^ i * (25 + 5 * i / topN n) ≤ 64 * 45 := Nat.mul_le_mul hp (by omega)
  refine r_iload_n 1 dX1_least_0 rfl rfl ?_
  refine r_callS (As := [.int (nI i)]) (st := []) [] [0, 1, 2, 3, 4, 5] (fun _ => rowW cA q ρ) [0, 1, 2, 3, 4, 5] (c_X4_cellsOf l D cA cB (i) (by omega)) ks_X4_cellsOf ml_X1_62 dX1_least_1 rfl rfl rfl rfl rfl rfl (by decide) (fun _ => rfl) rfl rfl (Nat.le_of_ble_eq_true rfl) (fun v u h => ?_)
  subst h
  refine r_st (st' := [.int (nI (4 * 2 ^ i))]) rfl ?_
  refine r_bipush (nI 25) dX1_least_4 (by decide +kernel) ?_
  refine r_iconst (nI 5) dX1_least_6 (by decide +kernel) ?_
  refine r_iload_n 1 dX1_least_7 rfl rfl ?_
  refine r_nimul dX1_least_8 ?_
  refine r_aload_n 0 dX1_least_9 rfl rfl ?_
  refine r_callV (As := []) (st := [.int (nI (5 * i)), .int (nI 25), .int (nI (4 * 2 ^ i))]) [0, 1, 2, 3, 4, 5] [] (fun _ => rowW cA q ρ) [0, 1, 2, 3, 4, 5] (c_X1_top l D cA cB q ρ n hsz h3) kv_X1_top ml_X1_65 dX1_least_10 rfl rfl rfl rfl rfl rfl rfl rfl (by decide) (fun _ => rfl) rfl rfl (Nat.le_of_ble_eq_true rfl) (fun v u h => ?_)
  subst h
  refine r_st (st' := [.int (nI (topN n)), .int (nI (5 * i)), .int (nI 25), .int (nI (4 * 2 ^ i))]) rfl ?_
  refine r_nidiv (by omega) (by omega) (by omega) dX1_least_13 ?_
  refine r_niadd dX1_least_14 ?_
  refine r_nimul dX1_least_15 ?_
  refine r_bipush (nI 100) dX1_least_16 (by decide +kernel) ?_
  refine r_nidiv (by omega) (by omega) (by omega) dX1_least_18 ?_
  exact r_iret (()) dX1_least_19 (rfl) (rfl)

