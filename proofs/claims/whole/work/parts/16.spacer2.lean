set_option maxRecDepth 100000 in
set_option maxHeartbeats 4000000 in
theorem c_X2_space (l : Launch) (D : va_G) (cA cB : ClassId) (p q : Nat → Nat) (ρ K V C : Nat → Int32) (h0 w0 : Int32) (g : Nat) (hg : ρ 6 = nI g) (hg8 : g ≤ 8) (a n : Nat) (hn : a + n ≤ 64) : Mt l D (tyS cA cB) yX2_space cX2_space 4 (some .int) ({ frames := 2, cells := 0, slots := 0, locals := 52 } : Room) [.ref (p 0), .ref (q 0), .int (nI a), .int (nI n)] (spW cA p K V C (h0) (w0) ++ (rowW cA q ρ)) Sp5 (fun v _ => v = some (.int (nI (spM ρ a n)))) (fun u => spU cA p u ++ (rowW cA q (spR ρ g a n))) 0 0 := by
  refine mt_in RX2 ([some (.ref (p 0)), some (.ref (q 0)), some (.int (nI a)), some (.int (nI n))]) rfl (by decide +kernel) rfl (Nat.le_of_ble_eq_true rfl) rfl rfl (fun X sz => ?_)
  refine r_aload_n 0 dX2_space_0 rfl rfl ?_
  refine r_aload_n 1 dX2_space_1 rfl rfl ?_
  refine r_iload_n 2 dX2_space_2 rfl rfl ?_
  refine r_iload_n 3 dX2_space_3 rfl rfl ?_
  refine r_callV (As := [.ref (q 0), .int (nI a), .int (nI n)]) (st := []) [0, 1, 2, 3, 4, 5, 6, 7, 8, 9] [] (fun _ => spW cA p (tkG ρ (kv ρ) a K n) (tkG ρ (vv ρ) a V n) (tkG ρ nI a C n) (nI (cnt ρ a n)) (-1) ++ (rowW cA q (clr ρ a n))) [0, 1, 2, 3, 4, 5, 6, 7, 8, 9] (c_X2_takeUp l D cA cB p q ρ K V C (h0) (w0) (a) (n) (by omega)) kv_X2_takeUp ml_X2_58 dX2_space_4 rfl rfl rfl rfl rfl rfl rfl rfl (by decide) (fun _ => rfl) rfl rfl (Nat.le_of_ble_eq_true rfl) (fun v u h => ?_)
  subst h
  refine r_st (st' := []) rfl ?_
  refine r_aload_n 0 dX2_space_7 rfl rfl ?_
  refine r_aload_n 1 dX2_space_8 rfl rfl ?_
  refine r_iload_n 2 dX2_space_9 rfl rfl ?_
  refine r_iload_n 3 dX2_space_10 rfl rfl ?_
  refine r_callV (As := [.ref (q 0), .int (nI a), .int (nI n)]) (st := []) [0, 1, 2, 3, 4, 5, 6, 7, 8, 9] [] (fun _ => spW cA p (tkG ρ (kv ρ) a K n) (tkG ρ (vv ρ) a V n) (tkG ρ nI a C n) (nI (cnt ρ a n)) (-1) ++ (rowW cA q (layAll (clr ρ a n) (tkG ρ (kv ρ) a K n) (tkG ρ (vv ρ) a V n) (tkG ρ nI a C n) (cnt ρ a n) (-1) a n g))) [0, 1, 2, 3, 4, 5, 6, 7, 8, 9] (c_X2_layDown l D cA cB p q (clr ρ a n) (tkG ρ (kv ρ) a K n) (tkG ρ (vv ρ) a V n) (tkG ρ nI a C n) (cnt ρ a n) (-1) g (a) (n) (by rw [clr_low (by omega)]; exact hg) hg8 (by omega) (cnt_le _ _ _)) kv_X2_layDown ml_X2_74 dX2_space_11 rfl rfl rfl rfl rfl rfl rfl rfl (by decide) (fun _ => rfl) rfl rfl (Nat.le_of_ble_eq_true rfl) (fun v u h => ?_)
  subst h
  refine r_st (st' := [.int (nI (mvAll (clr ρ a n) (tkG ρ nI a C n) (cnt ρ a n) (-1) a n))]) rfl ?_
  exact r_iret ((tkG ρ (kv ρ) a K n, tkG ρ (vv ρ) a V n, tkG ρ nI a C n, nI (cnt ρ a n), -1)) dX2_space_14 (by rw [spM_c]) (by rw [spR_c])

set_option maxRecDepth 100000 in
set_option maxHeartbeats 4000000 in
theorem c_X2_shrink (l : Launch) (D : va_G) (cA cB : ClassId) (p q : Nat → Nat) (ρ K V C : Nat → Int32) (h0 w0 : Int32) (g : Nat) (hg : ρ 6 = nI g) (hg8 : g ≤ 8) (n : Nat) (hsz : ρ 0 = nI n) (h3 : n = 16 ∨ n = 32 ∨ n = 64) (hc : cnt ρ 0 n ≤ n / 2) : Mt l D (tyS cA cB) yX2_shrink cX2_shrink 2 none ({ frames := 2, cells := 0, slots := 0, locals := 52 } : Room) [.ref (p 0), .ref (q 0)] (spW cA p K V C (h0) (w0) ++ (rowW cA q ρ)) Sp5 (fun v _ => v = none) (fun u => spU cA p u ++ (rowW cA q (shR ρ g n))) 0 0 := by
  refine mt_in RX2 ([some (.ref (p 0)), some (.ref (q 0))]) rfl (by decide +kernel) rfl (Nat.le_of_ble_eq_true rfl) rfl rfl (fun X sz => ?_)
  have hb : n ≤ 64 := by omega
  have hy := cnt_le ρ 0 n
  refine r_aload_n 0 dX2_shrink_0 rfl rfl ?_
  refine r_aload_n 1 dX2_shrink_1 rfl rfl ?_
  refine r_iconst (nI 0) dX2_shrink_2 (by decide +kernel) ?_
  refine r_aload_n 1 dX2_shrink_3 rfl rfl ?_
  refine r_get 4 fk_X2_21 dX2_shrink_4 rfl rfl ?_
  refine r_top (y := nI (n)) (hsz) ?_
  refine r_callV (As := [.ref (q 0), .int (nI 0), .int (nI n)]) (st := []) [0, 1, 2, 3, 4, 5, 6, 7, 8, 9] [] (fun _ => spW cA p (tkG ρ (kv ρ) 0 K n) (tkG ρ (vv ρ) 0 V n) (tkG ρ nI 0 C n) (nI (cnt ρ 0 n)) (-1) ++ (rowW cA q (clr ρ 0 n))) [0, 1, 2, 3, 4, 5, 6, 7, 8, 9] (c_X2_takeUp l D cA cB p q ρ K V C (h0) (w0) (0) (n) (by omega)) kv_X2_takeUp ml_X2_58 dX2_shrink_7 rfl rfl rfl rfl rfl rfl rfl rfl (by decide) (fun _ => rfl) rfl rfl (Nat.le_of_ble_eq_true rfl) (fun v u h => ?_)
  subst h
  refine r_st (st' := []) rfl ?_
  refine r_aload_n 1 dX2_shrink_10 rfl rfl ?_
  refine r_get 4 fk_X2_21 dX2_shrink_11 rfl rfl ?_
  refine r_top (y := nI (n)) (by rw [clr_low (by omega)]; exact hsz) ?_
  refine r_bipush (nI 16) dX2_shrink_14 (by decide +kernel) ?_
  refine r_ncmp_le 39 (by omega) (by omega) dX2_shrink_16 (by decide) (fun h1 => ?_) (fun h1 => ?_)
  · refine r_aload_n 0 dX2_shrink_39 rfl rfl ?_
    refine r_aload_n 1 dX2_shrink_40 rfl rfl ?_
    refine r_iconst (nI 0) dX2_shrink_41 (by decide +kernel) ?_
    refine r_aload_n 1 dX2_shrink_42 rfl rfl ?_
    refine r_get 4 fk_X2_21 dX2_shrink_43 rfl rfl ?_
    refine r_top (y := nI (n)) (by rw [clr_low (by omega)]; exact hsz) ?_
    refine r_callV (As := [.ref (q 0), .int (nI 0), .int (nI n)]) (st := []) [0, 1, 2, 3, 4, 5, 6, 7, 8, 9] [] (fun _ => spW cA p (tkG ρ (kv ρ) 0 K n) (tkG ρ (vv ρ) 0 V n) (tkG ρ nI 0 C n) (nI (cnt ρ 0 n)) (-1) ++ (rowW cA q (layAll (clr ρ 0 n) (tkG ρ (kv ρ) 0 K n) (tkG ρ (vv ρ) 0 V n) (tkG ρ nI 0 C n) (cnt ρ 0 n) (-1) 0 n g))) [0, 1, 2, 3, 4, 5, 6, 7, 8, 9] (c_X2_layDown l D cA cB p q (clr ρ 0 n) (tkG ρ (kv ρ) 0 K n) (tkG ρ (vv ρ) 0 V n) (tkG ρ nI 0 C n) (cnt ρ 0 n) (-1) g (0) (n) (by rw [clr_low (by omega)]; exact hg) hg8 (by omega) (by omega)) kv_X2_layDown ml_X2_74 dX2_shrink_46 rfl rfl rfl rfl rfl rfl rfl rfl (by decide) (fun _ => rfl) rfl rfl (Nat.le_of_ble_eq_true rfl) (fun v u h => ?_)
    subst h
    refine r_st (st' := [.int (nI (mvAll (clr ρ 0 n) (tkG ρ nI 0 C n) (cnt ρ 0 n) (-1) 0 n))]) rfl ?_
    refine r_pop rfl dX2_shrink_49 ?_
    exact r_vret ((tkG ρ (kv ρ) 0 K n, tkG ρ (vv ρ) 0 V n, tkG ρ nI 0 C n, nI (cnt ρ 0 n), -1)) dX2_shrink_50 (rfl) (by unfold shR; rw [if_neg (by omega), spR_c])
  · refine r_aload_n 1 dX2_shrink_19 rfl rfl ?_
    refine r_dup rfl dX2_shrink_20 ?_
    refine r_get 4 fk_X2_21 dX2_shrink_21 rfl rfl ?_
    refine r_top (y := nI (n)) (by rw [clr_low (by omega)]; exact hsz) ?_
    refine r_iconst (nI 2) dX2_shrink_24 (by decide +kernel) ?_
    refine r_nidiv (by omega) (by omega) (by omega) dX2_shrink_25 ?_
    refine r_put 4 (spW cA p (tkG ρ (kv ρ) 0 K n) (tkG ρ (vv ρ) 0 V n) (tkG ρ nI 0 C n) (nI (cnt ρ 0 n)) (-1) ++ ([(q 0, .inr (1, [.int (nI (n / 2)), .int ((clr ρ 0 n) 1), .int ((clr ρ 0 n) 2), .int ((clr ρ 0 n) 3), .int ((clr ρ 0 n) 4), .int ((clr ρ 0 n) 5), .int ((clr ρ 0 n) 6), .ref (q 1), .ref (q 2), .ref (q 3), .ref (q 4), .ref (q 5)])), (q 1, .inl (cA, 64, .inl (kA (clr ρ 0 n)))), (q 2, .inl (cA, 64, .inl (vA (clr ρ 0 n)))), (q 3, .inl (cA, 8, .inl (gA 0 (clr ρ 0 n)))), (q 4, .inl (cA, 8, .inl (gA 1 (clr ρ 0 n)))), (q 5, .inl (cA, 8, .inl (gA 2 (clr ρ 0 n))))])) fk_X2_21 dX2_shrink_26 rfl rfl rfl rfl (Nat.le_of_ble_eq_true rfl) rfl ?_
    refine r_ws (ws' := spW cA p (tkG ρ (kv ρ) 0 K n) (tkG ρ (vv ρ) 0 V n) (tkG ρ nI 0 C n) (nI (cnt ρ 0 n)) (-1) ++ (rowW cA q (upd (clr ρ 0 n) 0 (nI (n / 2))))) (by rw [← row_setF (ρ := clr ρ 0 n) 0 (by omega)]; rfl) ?_
    refine r_aload_n 1 dX2_shrink_29 rfl rfl ?_
    refine r_dup rfl dX2_shrink_30 ?_
    refine r_get 4 fk_X2_95 dX2_shrink_31 rfl rfl ?_
    refine r_top (y := ρ 5) (by rw [upd_n _ _ (by omega), clr_low (by omega)]) ?_
    refine r_iconst (nI 1) dX2_shrink_34 (by decide +kernel) ?_
    refine r_iadd dX2_shrink_35 ?_
    refine r_put 4 (spW cA p (tkG ρ (kv ρ) 0 K n) (tkG ρ (vv ρ) 0 V n) (tkG ρ nI 0 C n) (nI (cnt ρ 0 n)) (-1) ++ ([(q 0, .inr (1, [.int ((upd (clr ρ 0 n) 0 (nI (n / 2))) 0), .int ((upd (clr ρ 0 n) 0 (nI (n / 2))) 1), .int ((upd (clr ρ 0 n) 0 (nI (n / 2))) 2), .int ((upd (clr ρ 0 n) 0 (nI (n / 2))) 3), .int ((upd (clr ρ 0 n) 0 (nI (n / 2))) 4), .int ((ρ 5) + (nI (1))), .int ((upd (clr ρ 0 n) 0 (nI (n / 2))) 6), .ref (q 1), .ref (q 2), .ref (q 3), .ref (q 4), .ref (q 5)])), (q 1, .inl (cA, 64, .inl (kA (upd (clr ρ 0 n) 0 (nI (n / 2)))))), (q 2, .inl (cA, 64, .inl (vA (upd (clr ρ 0 n) 0 (nI (n / 2)))))), (q 3, .inl (cA, 8, .inl (gA 0 (upd (clr ρ 0 n) 0 (nI (n / 2)))))), (q 4, .inl (cA, 8, .inl (gA 1 (upd (clr ρ 0 n) 0 (nI (n / 2)))))), (q 5, .inl (cA, 8, .inl (gA 2 (upd (clr ρ 0 n) 0 (nI (n / 2))))))])) fk_X2_95 dX2_shrink_36 rfl rfl rfl rfl (Nat.le_of_ble_eq_true rfl) rfl ?_
    refine r_ws (ws' := spW cA p (tkG ρ (kv ρ) 0 K n) (tkG ρ (vv ρ) 0 V n) (tkG ρ nI 0 C n) (nI (cnt ρ 0 n)) (-1) ++ (rowW cA q (upd (upd (clr ρ 0 n) 0 (nI (n / 2))) 5 ((ρ 5) + (nI (1)))))) (by rw [← row_setF (ρ := upd (clr ρ 0 n) 0 (nI (n / 2))) 5 (by omega)]; rfl) ?_
    refine r_aload_n 0 dX2_shrink_39 rfl rfl ?_
    refine r_aload_n 1 dX2_shrink_40 rfl rfl ?_
    refine r_iconst (nI 0) dX2_shrink_41 (by decide +kernel) ?_
    refine r_aload_n 1 dX2_shrink_42 rfl rfl ?_
    refine r_get 4 fk_X2_21 dX2_shrink_43 rfl rfl ?_
    refine r_top (y := nI (n / 2)) (by rw [upd_n _ _ (by omega), upd_s]) ?_
    refine r_callV (As := [.ref (q 0), .int (nI 0), .int (nI (n / 2))]) (st := []) [0, 1, 2, 3, 4, 5, 6, 7, 8, 9] [] (fun _ => spW cA p (tkG ρ (kv ρ) 0 K n) (tkG ρ (vv ρ) 0 V n) (tkG ρ nI 0 C n) (nI (cnt ρ 0 n)) (-1) ++ (rowW cA q (layAll (upd (upd (clr ρ 0 n) 0 (nI (n / 2))) 5 ((ρ 5) + (nI (1)))) (tkG ρ (kv ρ) 0 K n) (tkG ρ (vv ρ) 0 V n) (tkG ρ nI 0 C n) (cnt ρ 0 n) (-1) 0 (n / 2) g))) [0, 1, 2, 3, 4, 5, 6, 7, 8, 9] (c_X2_layDown l D cA cB p q (upd (upd (clr ρ 0 n) 0 (nI (n / 2))) 5 ((ρ 5) + (nI (1)))) (tkG ρ (kv ρ) 0 K n) (tkG ρ (vv ρ) 0 V n) (tkG ρ nI 0 C n) (cnt ρ 0 n) (-1) g (0) (n / 2) (by rw [upd_n _ _ (by omega), upd_n _ _ (by omega), clr_low (by omega)]; exact hg) hg8 (by omega) (by omega)) kv_X2_layDown ml_X2_74 dX2_shrink_46 rfl rfl rfl rfl rfl rfl rfl rfl (by decide) (fun _ => rfl) rfl rfl (Nat.le_of_ble_eq_true rfl) (fun v u h => ?_)
    subst h
    refine r_st (st' := [.int (nI (mvAll (upd (upd (clr ρ 0 n) 0 (nI (n / 2))) 5 ((ρ 5) + (nI (1)))) (tkG ρ nI 0 C n) (cnt ρ 0 n) (-1) 0 (n / 2)))]) rfl ?_
    refine r_pop rfl dX2_shrink_49 ?_
    exact r_vret ((tkG ρ (kv ρ) 0 K n, tkG ρ (vv ρ) 0 V n, tkG ρ nI 0 C n, nI (cnt ρ 0 n), -1)) dX2_shrink_50 (rfl) (by unfold shR; rw [if_pos (by omega), layAll_c (fun j hj => tkG_c (f' := Zr) hj) (fun j hj => tkG_c (f' := Zr) hj) (fun j hj => tkG_c (f' := Zr) hj)]; rfl)

set_option maxRecDepth 100000 in
set_option maxHeartbeats 4000000 in
theorem c_X2_come (l : Launch) (D : va_G) (cA cB : ClassId) (p q : Nat → Nat) (ρ K V C : Nat → Int32) (h0 w0 : Int32) (g : Nat) (hg : ρ 6 = nI g) (hg8 : g ≤ 8) (n : Nat) (hsz : ρ 0 = nI n) (h3 : n = 16 ∨ n = 32 ∨ n = 64) (hs : Srt ρ n) (k v : Int32) (hr : hrB ρ n k = true) : Mt l D (tyS cA cB) yX2_come cX2_come 7 (some .int) ({ frames := 3, cells := 0, slots := 0, locals := 67 } : Room) [.ref (p 0), .ref (q 0), .int (k), .int (v)] (spW cA p K V C (h0) (w0) ++ (rowW cA q ρ)) Sp5 (fun v _ => v = some (.int (nI (comeM ρ n k)))) (fun u => spU cA p u ++ (rowW cA q (comeR ρ n g k v))) 0 0 := by
  refine mt_in RX2 ([some (.ref (p 0)), some (.ref (q 0)), some (.int (k)), some (.int (v)), none, none, none]) rfl (by decide +kernel) rfl (Nat.le_of_ble_eq_true rfl) rfl rfl (fun X sz => ?_)
  have hb : n ≤ 64 := by omega
  have hsg := segF_le ρ k n (by omega)
  have hy := cnt_le ρ 0 n
  refine r_aload_n 1 dX2_come_0 rfl rfl ?_
  refine r_iload_n 2 dX2_come_1 rfl rfl ?_
  refine r_callS (As := [.ref (q 0), .int (k)]) (st := []) [4, 5, 6, 7, 8, 9] [0, 1, 2, 3] (fun _ => spW cA p K V C (h0) (w0) ++ (rowW cA q ρ)) [0, 1, 2, 3, 4, 5, 6, 7, 8, 9] (c_X2_segmentFor l D cA cB q ρ n (hsz) h3 hs (k)) ks_X2_segmentFor ml_X2_27 dX2_come_2 rfl rfl rfl rfl rfl rfl (by decide) (fun _ => rfl) rfl rfl (Nat.le_of_ble_eq_true rfl) (fun v u h => ?_)
  subst h
  refine r_st (st' := [.int (nI (segF ρ k n))]) rfl ?_
  refine r_istore ([some (.ref (p 0)), some (.ref (q 0)), some (.int (k)), some (.int (v)), some (.int (nI (segF ρ k n))), none, none]) dX2_come_5 (Nat.le_of_ble_eq_true rfl) rfl rfl ?_
  refine r_aload_n 1 dX2_come_7 rfl rfl ?_
  refine r_iload dX2_come_8 rfl ?_
  refine r_callS (As := [.ref (q 0), .int (nI (segF ρ k n))]) (st := []) [4, 5, 6, 7, 8, 9] [0, 1, 2, 3] (fun _ => spW cA p K V C (h0) (w0) ++ (rowW cA q ρ)) [0, 1, 2, 3, 4, 5, 6, 7, 8, 9] (c_X2_levelFor l D cA cB q ρ n (hsz) h3 (segF ρ k n) (hsg)) ks_X2_levelFor ml_X2_31 dX2_come_10 rfl rfl rfl rfl rfl rfl (by decide) (fun _ => rfl) rfl rfl (Nat.le_of_ble_eq_true rfl) (fun v u h => ?_)
  subst h
  refine r_st (st' := [.int (oI (lvF ρ n (segF ρ k n) (topN n + 1) 0))]) rfl ?_
  refine r_istore ([some (.ref (p 0)), some (.ref (q 0)), some (.int (k)), some (.int (v)), some (.int (nI (segF ρ k n))), some (.int (oI (lvF ρ n (segF ρ k n) (topN n + 1) 0))), none]) dX2_come_13 (Nat.le_of_ble_eq_true rfl) rfl rfl ?_
  rcases e : lvF ρ n (segF ρ k n) (topN n + 1) 0 with _ | i
  · have hn64 : n < 64 := by unfold hrB at hr; rw [e] at hr; simpa using hr
    refine r_lv (lv' := [some (.ref (p 0)), some (.ref (q 0)), some (.int (k)), some (.int (v)), some (.int (nI (segF ρ k n))), some (.int (-1)), none]) (by first | rfl | (rw [e]; rfl)) ?_
    refine r_iload dX2_come_15 rfl ?_
    refine r_iconst (-1) dX2_come_17 (by decide +kernel) ?_
    refine r_icmp_ne 73 dX2_come_18 (by decide) (fun h1 => ?_) (fun h1 => ?_)
    · exact absurd rfl h1
    · refine r_aload_n 0 dX2_come_21 rfl rfl ?_
      refine r_aload_n 1 dX2_come_22 rfl rfl ?_
      refine r_iconst (nI 0) dX2_come_23 (by decide +kernel) ?_
      refine r_aload_n 1 dX2_come_24 rfl rfl ?_
      refine r_get 4 fk_X2_21 dX2_come_25 rfl rfl ?_
      refine r_top (y := nI (n)) (hsz) ?_
      refine r_callV (As := [.ref (q 0), .int (nI 0), .int (nI n)]) (st := []) [0, 1, 2, 3, 4, 5, 6, 7, 8, 9] [] (fun _ => spW cA p (tkG ρ (kv ρ) 0 K n) (tkG ρ (vv ρ) 0 V n) (tkG ρ nI 0 C n) (nI (cnt ρ 0 n)) (-1) ++ (rowW cA q (clr ρ 0 n))) [0, 1, 2, 3, 4, 5, 6, 7, 8, 9] (c_X2_takeUp l D cA cB p q ρ K V C (h0) (w0) (0) (n) (by omega)) kv_X2_takeUp ml_X2_58 dX2_come_28 rfl rfl rfl rfl rfl rfl rfl rfl (by decide) (fun _ => rfl) rfl rfl (Nat.le_of_ble_eq_true rfl) (fun v u h => ?_)
      subst h
      refine r_st (st' := []) rfl ?_
      refine r_aload_n 1 dX2_come_31 rfl rfl ?_
      refine r_iconst (nI 2) dX2_come_32 (by decide +kernel) ?_
      refine r_aload_n 1 dX2_come_33 rfl rfl ?_
      refine r_get 4 fk_X2_21 dX2_come_34 rfl rfl ?_
      refine r_top (y := nI (n)) (by rw [clr_low (by omega)]; exact hsz) ?_
      refine r_nimul dX2_come_37 ?_
      refine r_bipush (nI 64) dX2_come_38 (by decide +kernel) ?_
      refine r_mmin (by omega) (by omega) mm_X2_62 rfl rfl rfl rfl dX2_come_40 ?_
      refine r_top (y := nI (2 * n)) (by rw [Nat.min_eq_left (by omega)]) ?_
      refine r_put 4 (spW cA p (tkG ρ (kv ρ) 0 K n) (tkG ρ (vv ρ) 0 V n) (tkG ρ nI 0 C n) (nI (cnt ρ 0 n)) (-1) ++ ([(q 0, .inr (1, [.int (nI (2 * n)), .int ((clr ρ 0 n) 1), .int ((clr ρ 0 n) 2), .int ((clr ρ 0 n) 3), .int ((clr ρ 0 n) 4), .int ((clr ρ 0 n) 5), .int ((clr ρ 0 n) 6), .ref (q 1), .ref (q 2), .ref (q 3), .ref (q 4), .ref (q 5)])), (q 1, .inl (cA, 64, .inl (kA (clr ρ 0 n)))), (q 2, .inl (cA, 64, .inl (vA (clr ρ 0 n)))), (q 3, .inl (cA, 8, .inl (gA 0 (clr ρ 0 n)))), (q 4, .inl (cA, 8, .inl (gA 1 (clr ρ 0 n)))), (q 5, .inl (cA, 8, .inl (gA 2 (clr ρ 0 n))))])) fk_X2_21 dX2_come_43 rfl rfl rfl rfl (Nat.le_of_ble_eq_true rfl) rfl ?_
      refine r_ws (ws' := spW cA p (tkG ρ (kv ρ) 0 K n) (tkG ρ (vv ρ) 0 V n) (tkG ρ nI 0 C n) (nI (cnt ρ 0 n)) (-1) ++ (rowW cA q (upd (clr ρ 0 n) 0 (nI (2 * n))))) (by rw [← row_setF (ρ := clr ρ 0 n) 0 (by omega)]; rfl) ?_
      refine r_aload_n 1 dX2_come_46 rfl rfl ?_
      refine r_dup rfl dX2_come_47 ?_
      refine r_get 4 fk_X2_67 dX2_come_48 rfl rfl ?_
      refine r_top (y := ρ 4) (by rw [upd_n _ _ (by omega), clr_low (by omega)]) ?_
      refine r_iconst (nI 1) dX2_come_51 (by decide +kernel) ?_
      refine r_iadd dX2_come_52 ?_
      refine r_put 4 (spW cA p (tkG ρ (kv ρ) 0 K n) (tkG ρ (vv ρ) 0 V n) (tkG ρ nI 0 C n) (nI (cnt ρ 0 n)) (-1) ++ ([(q 0, .inr (1, [.int ((upd (clr ρ 0 n) 0 (nI (2 * n))) 0), .int ((upd (clr ρ 0 n) 0 (nI (2 * n))) 1), .int ((upd (clr ρ 0 n) 0 (nI (2 * n))) 2), .int ((upd (clr ρ 0 n) 0 (nI (2 * n))) 3), .int ((ρ 4) + (nI (1))), .int ((upd (clr ρ 0 n) 0 (nI (2 * n))) 5), .int ((upd (clr ρ 0 n) 0 (nI (2 * n))) 6), .ref (q 1), .ref (q 2), .ref (q 3), .ref (q 4), .ref (q 5)])), (q 1, .inl (cA, 64, .inl (kA (upd (clr ρ 0 n) 0 (nI (2 * n)))))), (q 2, .inl (cA, 64, .inl (vA (upd (clr ρ 0 n) 0 (nI (2 * n)))))), (q 3, .inl (cA, 8, .inl (gA 0 (upd (clr ρ 0 n) 0 (nI (2 * n)))))), (q 4, .inl (cA, 8, .inl (gA 1 (upd (clr ρ 0 n) 0 (nI (2 * n)))))), (q 5, .inl (cA, 8, .inl (gA 2 (upd (clr ρ 0 n) 0 (nI (2 * n))))))])) fk_X2_67 dX2_come_53 rfl rfl rfl rfl (Nat.le_of_ble_eq_true rfl) rfl ?_
      refine r_ws (ws' := spW cA p (tkG ρ (kv ρ) 0 K n) (tkG ρ (vv ρ) 0 V n) (tkG ρ nI 0 C n) (nI (cnt ρ 0 n)) (-1) ++ (rowW cA q (upd (upd (clr ρ 0 n) 0 (nI (2 * n))) 4 ((ρ 4) + (nI (1)))))) (by rw [← row_setF (ρ := upd (clr ρ 0 n) 0 (nI (2 * n))) 4 (by omega)]; rfl) ?_
      refine r_aload_n 0 dX2_come_56 rfl rfl ?_
      refine r_iload_n 2 dX2_come_57 rfl rfl ?_
      refine r_iload_n 3 dX2_come_58 rfl rfl ?_
      refine r_callV (As := [.int (k), .int (v)]) (st := []) [0, 1, 2, 3] [4, 5, 6, 7, 8, 9] (fun _ => spW cA p (insA (tkG ρ (kv ρ) 0 K n) (insP (tkG ρ (kv ρ) 0 K n) k (cnt ρ 0 n)) (cnt ρ 0 n) k) (insA (tkG ρ (vv ρ) 0 V n) (insP (tkG ρ (kv ρ) 0 K n) k (cnt ρ 0 n)) (cnt ρ 0 n) v) (insA (tkG ρ nI 0 C n) (insP (tkG ρ (kv ρ) 0 K n) k (cnt ρ 0 n)) (cnt ρ 0 n) (-1)) (nI (cnt ρ 0 n + 1)) (nI (insP (tkG ρ (kv ρ) 0 K n) k (cnt ρ 0 n))) ++ (rowW cA q (upd (upd (clr ρ 0 n) 0 (nI (2 * n))) 4 ((ρ 4) + (nI (1)))))) [6, 7, 8, 9, 0, 1, 2, 3, 4, 5] (c_X2_takeIn l D cA cB p (tkG ρ (kv ρ) 0 K n) (tkG ρ (vv ρ) 0 V n) (tkG ρ nI 0 C n) (cnt ρ 0 n) (by omega) (-1) (k) (v)) kv_X2_takeIn ml_X2_70 dX2_come_59 rfl rfl rfl rfl rfl rfl rfl rfl (by decide) (fun _ => rfl) rfl rfl (Nat.le_of_ble_eq_true rfl) (fun v u h => ?_)
      subst h
      refine r_st (st' := []) rfl ?_
      refine r_aload_n 0 dX2_come_62 rfl rfl ?_
      refine r_aload_n 1 dX2_come_63 rfl rfl ?_
      refine r_iconst (nI 0) dX2_come_64 (by decide +kernel) ?_
      refine r_aload_n 1 dX2_come_65 rfl rfl ?_
      refine r_get 4 fk_X2_21 dX2_come_66 rfl rfl ?_
      refine r_top (y := nI (2 * n)) (by rw [upd_n _ _ (by omega), upd_s]) ?_
      refine r_callV (As := [.ref (q 0), .int (nI 0), .int (nI (2 * n))]) (st := []) [0, 1, 2, 3, 4, 5, 6, 7, 8, 9] [] (fun _ => spW cA p (insA (tkG ρ (kv ρ) 0 K n) (insP (tkG ρ (kv ρ) 0 K n) k (cnt ρ 0 n)) (cnt ρ 0 n) k) (insA (tkG ρ (vv ρ) 0 V n) (insP (tkG ρ (kv ρ) 0 K n) k (cnt ρ 0 n)) (cnt ρ 0 n) v) (insA (tkG ρ nI 0 C n) (insP (tkG ρ (kv ρ) 0 K n) k (cnt ρ 0 n)) (cnt ρ 0 n) (-1)) (nI (cnt ρ 0 n + 1)) (nI (insP (tkG ρ (kv ρ) 0 K n) k (cnt ρ 0 n))) ++ (rowW cA q (layAll (upd (upd (clr ρ 0 n) 0 (nI (2 * n))) 4 ((ρ 4) + (nI (1)))) (insA (tkG ρ (kv ρ) 0 K n) (insP (tkG ρ (kv ρ) 0 K n) k (cnt ρ 0 n)) (cnt ρ 0 n) k) (insA (tkG ρ (vv ρ) 0 V n) (insP (tkG ρ (kv ρ) 0 K n) k (cnt ρ 0 n)) (cnt ρ 0 n) v) (insA (tkG ρ nI 0 C n) (insP (tkG ρ (kv ρ) 0 K n) k (cnt ρ 0 n)) (cnt ρ 0 n) (-1)) (cnt ρ 0 n + 1) (nI (insP (tkG ρ (kv ρ) 0 K n) k (cnt ρ 0 n))) 0 (2 * n) g))) [0, 1, 2, 3, 4, 5, 6, 7, 8, 9] (c_X2_layDown l D cA cB p q (upd (upd (clr ρ 0 n) 0 (nI (2 * n))) 4 ((ρ 4) + (nI (1)))) (insA (tkG ρ (kv ρ) 0 K n) (insP (tkG ρ (kv ρ) 0 K n) k (cnt ρ 0 n)) (cnt ρ 0 n) k) (insA (tkG ρ (vv ρ) 0 V n) (insP (tkG ρ (kv ρ) 0 K n) k (cnt ρ 0 n)) (cnt ρ 0 n) v) (insA (tkG ρ nI 0 C n) (insP (tkG ρ (kv ρ) 0 K n) k (cnt ρ 0 n)) (cnt ρ 0 n) (-1)) (cnt ρ 0 n + 1) (nI (insP (tkG ρ (kv ρ) 0 K n) k (cnt ρ 0 n))) g (0) (2 * n) (by rw [upd_n _ _ (by omega), upd_n _ _ (by omega), clr_low (by omega)]; exact hg) hg8 (by omega) (by omega)) kv_X2_layDown ml_X2_74 dX2_come_69 rfl rfl rfl rfl rfl rfl rfl rfl (by decide) (fun _ => rfl) rfl rfl (Nat.le_of_ble_eq_true rfl) (fun v u h => ?_)
      subst h
      refine r_st (st' := [.int (nI (mvAll (upd (upd (clr ρ 0 n) 0 (nI (2 * n))) 4 ((ρ 4) + (nI (1)))) (insA (tkG ρ nI 0 C n) (insP (tkG ρ (kv ρ) 0 K n) k (cnt ρ 0 n)) (cnt ρ 0 n) (-1)) (cnt ρ 0 n + 1) (nI (insP (tkG ρ (kv ρ) 0 K n) k (cnt ρ 0 n))) 0 (2 * n)))]) rfl ?_
      exact r_iret ((insA (tkG ρ (kv ρ) 0 K n) (insP (tkG ρ (kv ρ) 0 K n) k (cnt ρ 0 n)) (cnt ρ 0 n) k, insA (tkG ρ (vv ρ) 0 V n) (insP (tkG ρ (kv ρ) 0 K n) k (cnt ρ 0 n)) (cnt ρ 0 n) v, insA (tkG ρ nI 0 C n) (insP (tkG ρ (kv ρ) 0 K n) k (cnt ρ 0 n)) (cnt ρ 0 n) (-1), nI (cnt ρ 0 n + 1), nI (insP (tkG ρ (kv ρ) 0 K n) k (cnt ρ 0 n)))) dX2_come_72 (by unfold comeM; rw [e]; dsimp only; rw [← inM_c] <;> rfl) (by unfold comeR; rw [e]; dsimp only; rw [← inR_c] <;> rfl)
  · obtain ⟨-, hi, hm⟩ := lvF_some e
    refine r_lv (lv' := [some (.ref (p 0)), some (.ref (q 0)), some (.int (k)), some (.int (v)), some (.int (nI (segF ρ k n))), some (.int (nI i)), none]) (by first | rfl | (rw [e]; rfl)) ?_
    have ht := top_le (sz := n)
    have hp := pow4 i (by omega)
    have hw := wst_le h3 hsg (show i ≤ topN n by omega)
    have hml := most_le (n := n) (i := i)
    refine r_iload dX2_come_15 rfl ?_
    refine r_iconst (-1) dX2_come_17 (by decide +kernel) ?_
    refine r_icmp_ne 73 dX2_come_18 (by decide) (fun h2 => ?_) (fun h2 => ?_)
    · refine r_iload dX2_come_73 rfl ?_
      refine r_iload dX2_come_75 rfl ?_
      refine r_callS (As := [.int (nI (segF ρ k n)), .int (nI i)]) (st := []) [] [0, 1, 2, 3, 4, 5, 6, 7, 8, 9] (fun _ => spW cA p K V C (h0) (w0) ++ (rowW cA q ρ)) [0, 1, 2, 3, 4, 5, 6, 7, 8, 9] (c_X2_windowStart l D cA cB (segF ρ k n) (i) (by omega) (by omega)) ks_X2_windowStart ml_X2_45 dX2_come_77 rfl rfl rfl rfl rfl rfl (by decide) (fun _ => rfl) rfl rfl (Nat.le_of_ble_eq_true rfl) (fun v u h => ?_)
      subst h
      refine r_st (st' := [.int (nI (wst (segF ρ k n) i))]) rfl ?_
      refine r_istore ([some (.ref (p 0)), some (.ref (q 0)), some (.int (k)), some (.int (v)), some (.int (nI (segF ρ k n))), some (.int (nI i)), some (.int (nI (wst (segF ρ k n) i)))]) dX2_come_80 (Nat.le_of_ble_eq_true rfl) rfl rfl ?_
      refine r_aload_n 0 dX2_come_82 rfl rfl ?_
      refine r_aload_n 1 dX2_come_83 rfl rfl ?_
      refine r_iload dX2_come_84 rfl ?_
      refine r_iload dX2_come_86 rfl ?_
      refine r_callS (As := [.int (nI i)]) (st := [.int (nI (wst (segF ρ k n) i)), .ref (q 0), .ref (p 0)]) [] [0, 1, 2, 3, 4, 5, 6, 7, 8, 9] (fun _ => spW cA p K V C (h0) (w0) ++ (rowW cA q ρ)) [0, 1, 2, 3, 4, 5, 6, 7, 8, 9] (c_X4_cellsOf l D cA cB (i) (by omega)) ks_X4_cellsOf ml_X2_49 dX2_come_88 rfl rfl rfl rfl rfl rfl (by decide) (fun _ => rfl) rfl rfl (Nat.le_of_ble_eq_true rfl) (fun v u h => ?_)
      subst h
      refine r_st (st' := [.int (nI (4 * 2 ^ i)), .int (nI (wst (segF ρ k n) i)), .ref (q 0), .ref (p 0)]) rfl ?_
      refine r_callV (As := [.ref (q 0), .int (nI (wst (segF ρ k n) i)), .int (nI (4 * 2 ^ i))]) (st := []) [0, 1, 2, 3, 4, 5, 6, 7, 8, 9] [] (fun _ => spW cA p (tkG ρ (kv ρ) (wst (segF ρ k n) i) K (4 * 2 ^ i)) (tkG ρ (vv ρ) (wst (segF ρ k n) i) V (4 * 2 ^ i)) (tkG ρ nI (wst (segF ρ k n) i) C (4 * 2 ^ i)) (nI (cnt ρ (wst (segF ρ k n) i) (4 * 2 ^ i))) (-1) ++ (rowW cA q (clr ρ (wst (segF ρ k n) i) (4 * 2 ^ i)))) [0, 1, 2, 3, 4, 5, 6, 7, 8, 9] (c_X2_takeUp l D cA cB p q ρ K V C (h0) (w0) (wst (segF ρ k n) i) (4 * 2 ^ i) (by omega)) kv_X2_takeUp ml_X2_58 dX2_come_91 rfl rfl rfl rfl rfl rfl rfl rfl (by decide) (fun _ => rfl) rfl rfl (Nat.le_of_ble_eq_true rfl) (fun v u h => ?_)
      subst h
      refine r_st (st' := []) rfl ?_
      refine r_aload_n 0 dX2_come_94 rfl rfl ?_
      refine r_iload_n 2 dX2_come_95 rfl rfl ?_
      refine r_iload_n 3 dX2_come_96 rfl rfl ?_
      refine r_callV (As := [.int (k), .int (v)]) (st := []) [0, 1, 2, 3] [4, 5, 6, 7, 8, 9] (fun _ => spW cA p (insA (tkG ρ (kv ρ) (wst (segF ρ k n) i) K (4 * 2 ^ i)) (insP (tkG ρ (kv ρ) (wst (segF ρ k n) i) K (4 * 2 ^ i)) k (cnt ρ (wst (segF ρ k n) i) (4 * 2 ^ i))) (cnt ρ (wst (segF ρ k n) i) (4 * 2 ^ i)) k) (insA (tkG ρ (vv ρ) (wst (segF ρ k n) i) V (4 * 2 ^ i)) (insP (tkG ρ (kv ρ) (wst (segF ρ k n) i) K (4 * 2 ^ i)) k (cnt ρ (wst (segF ρ k n) i) (4 * 2 ^ i))) (cnt ρ (wst (segF ρ k n) i) (4 * 2 ^ i)) v) (insA (tkG ρ nI (wst (segF ρ k n) i) C (4 * 2 ^ i)) (insP (tkG ρ (kv ρ) (wst (segF ρ k n) i) K (4 * 2 ^ i)) k (cnt ρ (wst (segF ρ k n) i) (4 * 2 ^ i))) (cnt ρ (wst (segF ρ k n) i) (4 * 2 ^ i)) (-1)) (nI (cnt ρ (wst (segF ρ k n) i) (4 * 2 ^ i) + 1)) (nI (insP (tkG ρ (kv ρ) (wst (segF ρ k n) i) K (4 * 2 ^ i)) k (cnt ρ (wst (segF ρ k n) i) (4 * 2 ^ i)))) ++ (rowW cA q (clr ρ (wst (segF ρ k n) i) (4 * 2 ^ i)))) [6, 7, 8, 9, 0, 1, 2, 3, 4, 5] (c_X2_takeIn l D cA cB p (tkG ρ (kv ρ) (wst (segF ρ k n) i) K (4 * 2 ^ i)) (tkG ρ (vv ρ) (wst (segF ρ k n) i) V (4 * 2 ^ i)) (tkG ρ nI (wst (segF ρ k n) i) C (4 * 2 ^ i)) (cnt ρ (wst (segF ρ k n) i) (4 * 2 ^ i)) (by omega) (-1) (k) (v)) kv_X2_takeIn ml_X2_70 dX2_come_97 rfl rfl rfl rfl rfl rfl rfl rfl (by decide) (fun _ => rfl) rfl rfl (Nat.le_of_ble_eq_true rfl) (fun v u h => ?_)
      subst h
      refine r_st (st' := []) rfl ?_
      refine r_aload_n 0 dX2_come_100 rfl rfl ?_
      refine r_aload_n 1 dX2_come_101 rfl rfl ?_
      refine r_iload dX2_come_102 rfl ?_
      refine r_iload dX2_come_104 rfl ?_
      refine r_callS (As := [.int (nI i)]) (st := [.int (nI (wst (segF ρ k n) i)), .ref (q 0), .ref (p 0)]) [] [0, 1, 2, 3, 4, 5, 6, 7, 8, 9] (fun _ => spW cA p (insA (tkG ρ (kv ρ) (wst (segF ρ k n) i) K (4 * 2 ^ i)) (insP (tkG ρ (kv ρ) (wst (segF ρ k n) i) K (4 * 2 ^ i)) k (cnt ρ (wst (segF ρ k n) i) (4 * 2 ^ i))) (cnt ρ (wst (segF ρ k n) i) (4 * 2 ^ i)) k) (insA (tkG ρ (vv ρ) (wst (segF ρ k n) i) V (4 * 2 ^ i)) (insP (tkG ρ (kv ρ) (wst (segF ρ k n) i) K (4 * 2 ^ i)) k (cnt ρ (wst (segF ρ k n) i) (4 * 2 ^ i))) (cnt ρ (wst (segF ρ k n) i) (4 * 2 ^ i)) v) (insA (tkG ρ nI (wst (segF ρ k n) i) C (4 * 2 ^ i)) (insP (tkG ρ (kv ρ) (wst (segF ρ k n) i) K (4 * 2 ^ i)) k (cnt ρ (wst (segF ρ k n) i) (4 * 2 ^ i))) (cnt ρ (wst (segF ρ k n) i) (4 * 2 ^ i)) (-1)) (nI (cnt ρ (wst (segF ρ k n) i) (4 * 2 ^ i) + 1)) (nI (insP (tkG ρ (kv ρ) (wst (segF ρ k n) i) K (4 * 2 ^ i)) k (cnt ρ (wst (segF ρ k n) i) (4 * 2 ^ i)))) ++ (rowW cA q (clr ρ (wst (segF ρ k n) i) (4 * 2 ^ i)))) [0, 1, 2, 3, 4, 5, 6, 7, 8, 9] (c_X4_cellsOf l D cA cB (i) (by omega)) ks_X4_cellsOf ml_X2_49 dX2_come_106 rfl rfl rfl rfl rfl rfl (by decide) (fun _ => rfl) rfl rfl (Nat.le_of_ble_eq_true rfl) (fun v u h => ?_)
      subst h
      refine r_st (st' := [.int (nI (4 * 2 ^ i)), .int (nI (wst (segF ρ k n) i)), .ref (q 0), .ref (p 0)]) rfl ?_
      refine r_callV (As := [.ref (q 0), .int (nI (wst (segF ρ k n) i)), .int (nI (4 * 2 ^ i))]) (st := []) [0, 1, 2, 3, 4, 5, 6, 7, 8, 9] [] (fun _ => spW cA p (insA (tkG ρ (kv ρ) (wst (segF ρ k n) i) K (4 * 2 ^ i)) (insP (tkG ρ (kv ρ) (wst (segF ρ k n) i) K (4 * 2 ^ i)) k (cnt ρ (wst (segF ρ k n) i) (4 * 2 ^ i))) (cnt ρ (wst (segF ρ k n) i) (4 * 2 ^ i)) k) (insA (tkG ρ (vv ρ) (wst (segF ρ k n) i) V (4 * 2 ^ i)) (insP (tkG ρ (kv ρ) (wst (segF ρ k n) i) K (4 * 2 ^ i)) k (cnt ρ (wst (segF ρ k n) i) (4 * 2 ^ i))) (cnt ρ (wst (segF ρ k n) i) (4 * 2 ^ i)) v) (insA (tkG ρ nI (wst (segF ρ k n) i) C (4 * 2 ^ i)) (insP (tkG ρ (kv ρ) (wst (segF ρ k n) i) K (4 * 2 ^ i)) k (cnt ρ (wst (segF ρ k n) i) (4 * 2 ^ i))) (cnt ρ (wst (segF ρ k n) i) (4 * 2 ^ i)) (-1)) (nI (cnt ρ (wst (segF ρ k n) i) (4 * 2 ^ i) + 1)) (nI (insP (tkG ρ (kv ρ) (wst (segF ρ k n) i) K (4 * 2 ^ i)) k (cnt ρ (wst (segF ρ k n) i) (4 * 2 ^ i)))) ++ (rowW cA q (layAll (clr ρ (wst (segF ρ k n) i) (4 * 2 ^ i)) (insA (tkG ρ (kv ρ) (wst (segF ρ k n) i) K (4 * 2 ^ i)) (insP (tkG ρ (kv ρ) (wst (segF ρ k n) i) K (4 * 2 ^ i)) k (cnt ρ (wst (segF ρ k n) i) (4 * 2 ^ i))) (cnt ρ (wst (segF ρ k n) i) (4 * 2 ^ i)) k) (insA (tkG ρ (vv ρ) (wst (segF ρ k n) i) V (4 * 2 ^ i)) (insP (tkG ρ (kv ρ) (wst (segF ρ k n) i) K (4 * 2 ^ i)) k (cnt ρ (wst (segF ρ k n) i) (4 * 2 ^ i))) (cnt ρ (wst (segF ρ k n) i) (4 * 2 ^ i)) v) (insA (tkG ρ nI (wst (segF ρ k n) i) C (4 * 2 ^ i)) (insP (tkG ρ (kv ρ) (wst (segF ρ k n) i) K (4 * 2 ^ i)) k (cnt ρ (wst (segF ρ k n) i) (4 * 2 ^ i))) (cnt ρ (wst (segF ρ k n) i) (4 * 2 ^ i)) (-1)) (cnt ρ (wst (segF ρ k n) i) (4 * 2 ^ i) + 1) (nI (insP (tkG ρ (kv ρ) (wst (segF ρ k n) i) K (4 * 2 ^ i)) k (cnt ρ (wst (segF ρ k n) i) (4 * 2 ^ i)))) (wst (segF ρ k n) i) (4 * 2 ^ i) g))) [0, 1, 2, 3, 4, 5, 6, 7, 8, 9] (c_X2_layDown l D cA cB p q (clr ρ (wst (segF ρ k n) i) (4 * 2 ^ i)) (insA (tkG ρ (kv ρ) (wst (segF ρ k n) i) K (4 * 2 ^ i)) (insP (tkG ρ (kv ρ) (wst (segF ρ k n) i) K (4 * 2 ^ i)) k (cnt ρ (wst (segF ρ k n) i) (4 * 2 ^ i))) (cnt ρ (wst (segF ρ k n) i) (4 * 2 ^ i)) k) (insA (tkG ρ (vv ρ) (wst (segF ρ k n) i) V (4 * 2 ^ i)) (insP (tkG ρ (kv ρ) (wst (segF ρ k n) i) K (4 * 2 ^ i)) k (cnt ρ (wst (segF ρ k n) i) (4 * 2 ^ i))) (cnt ρ (wst (segF ρ k n) i) (4 * 2 ^ i)) v) (insA (tkG ρ nI (wst (segF ρ k n) i) C (4 * 2 ^ i)) (insP (tkG ρ (kv ρ) (wst (segF ρ k n) i) K (4 * 2 ^ i)) k (cnt ρ (wst (segF ρ k n) i) (4 * 2 ^ i))) (cnt ρ (wst (segF ρ k n) i) (4 * 2 ^ i)) (-1)) (cnt ρ (wst (segF ρ k n) i) (4 * 2 ^ i) + 1) (nI (insP (tkG ρ (kv ρ) (wst (segF ρ k n) i) K (4 * 2 ^ i)) k (cnt ρ (wst (segF ρ k n) i) (4 * 2 ^ i)))) g (wst (segF ρ k n) i) (4 * 2 ^ i) (by rw [clr_low (by omega)]; exact hg) hg8 (by omega) (by omega)) kv_X2_layDown ml_X2_74 dX2_come_109 rfl rfl rfl rfl rfl rfl rfl rfl (by decide) (fun _ => rfl) rfl rfl (Nat.le_of_ble_eq_true rfl) (fun v u h => ?_)
      subst h
      refine r_st (st' := [.int (nI (mvAll (clr ρ (wst (segF ρ k n) i) (4 * 2 ^ i)) (insA (tkG ρ nI (wst (segF ρ k n) i) C (4 * 2 ^ i)) (insP (tkG ρ (kv ρ) (wst (segF ρ k n) i) K (4 * 2 ^ i)) k (cnt ρ (wst (segF ρ k n) i) (4 * 2 ^ i))) (cnt ρ (wst (segF ρ k n) i) (4 * 2 ^ i)) (-1)) (cnt ρ (wst (segF ρ k n) i) (4 * 2 ^ i) + 1) (nI (insP (tkG ρ (kv ρ) (wst (segF ρ k n) i) K (4 * 2 ^ i)) k (cnt ρ (wst (segF ρ k n) i) (4 * 2 ^ i)))) (wst (segF ρ k n) i) (4 * 2 ^ i)))]) rfl ?_
      exact r_iret ((insA (tkG ρ (kv ρ) (wst (segF ρ k n) i) K (4 * 2 ^ i)) (insP (tkG ρ (kv ρ) (wst (segF ρ k n) i) K (4 * 2 ^ i)) k (cnt ρ (wst (segF ρ k n) i) (4 * 2 ^ i))) (cnt ρ (wst (segF ρ k n) i) (4 * 2 ^ i)) k, insA (tkG ρ (vv ρ) (wst (segF ρ k n) i) V (4 * 2 ^ i)) (insP (tkG ρ (kv ρ) (wst (segF ρ k n) i) K (4 * 2 ^ i)) k (cnt ρ (wst (segF ρ k n) i) (4 * 2 ^ i))) (cnt ρ (wst (segF ρ k n) i) (4 * 2 ^ i)) v, insA (tkG ρ nI (wst (segF ρ k n) i) C (4 * 2 ^ i)) (insP (tkG ρ (kv ρ) (wst (segF ρ k n) i) K (4 * 2 ^ i)) k (cnt ρ (wst (segF ρ k n) i) (4 * 2 ^ i))) (cnt ρ (wst (segF ρ k n) i) (4 * 2 ^ i)) (-1), nI (cnt ρ (wst (segF ρ k n) i) (4 * 2 ^ i) + 1), nI (insP (tkG ρ (kv ρ) (wst (segF ρ k n) i) K (4 * 2 ^ i)) k (cnt ρ (wst (segF ρ k n) i) (4 * 2 ^ i))))) dX2_come_112 (by unfold comeM; rw [e]; dsimp only; rw [← inM_c] <;> rfl) (by unfold comeR; rw [e]; dsimp only; rw [← inR_c] <;> rfl)
    · exact absurd h2 (nI_ne_m1 (by omega))

theorem least_lt {n i : Nat} (h : i ≤ 4) : leastN n i ≤ 64 := by
  unfold leastN
  have hp := pow4 i h
  have ht := top_le (sz := n)
  have hq5 := Nat.div_le_self (5 * i) (topN n)
  have hy : 4 * 2 ^ i * (25 + 5 * i / topN n) ≤ 64 * 45 := Nat.mul_le_mul hp (by omega)
  omega
set_option maxRecDepth 100000 in
set_option maxHeartbeats 4000000 in
theorem lp_X2_go (l : Launch) (D : va_G) (cA cB : ClassId) (p q : Nat → Nat) (ρ K V C : Nat → Int32) (h0 w0 : Int32) (g : Nat) (hg : ρ 6 = nI g) (hg8 : g ≤ 8) (n : Nat) (hsz : ρ 0 = nI n) (h3 : n = 16 ∨ n = 32 ∨ n = 64) (c : Nat) (hc : c < n) (X : Cx) (sz : Nat) : ¬ leastN n 0 ≤ cnt (emp ρ c) (wst (c / 4) 0) 4 → ∀ (f i : Nat), 1 ≤ i → i ≤ topN n + 1 → topN n + 1 < i + f → gvF (emp ρ c) n (c / 4) (topN n + 1 - i) i = gvF (emp ρ c) n (c / 4) (topN n) 1 → G l X ({ frames := 3, cells := 0, slots := 0, locals := 75 } : Room) cX2_go RX2 (some .int) D (tyS cA cB) (va_A (spW cA p K V C (h0) (w0) ++ (rowW cA q ρ)) sz) (QX X D (tyS cA cB) (spW cA p K V C (h0) (w0) ++ (rowW cA q ρ)) sz Sp5 (fun v _ => v = some (.int (ρ (95 + c)))) (fun u => spU cA p u ++ (rowW cA q (goR ρ n g c))) 0 0) 0 0 (spW cA p K V C (h0) (w0) ++ (rowW cA q (emp ρ c))) 42 ([some (.ref (p 0)), some (.ref (q 0)), some (.int (nI c)), some (.int (ρ (95 + c))), some (.int (nI (c / 4))), some (.int (nI i)), none]) [] := by
  intro hb0 f
  have hb : n ≤ 64 := by omega
  have ht := top_le (sz := n)
  induction f with
  | zero => intro i h1 h2 h3; omega
  | succ f ih =>
    intro i hi1 hi hf he
    refine r_iload dX2_go_42 rfl ?_
    refine r_aload_n 1 dX2_go_44 rfl rfl ?_
    refine r_callV (As := []) (st := [.int (nI i)]) [4, 5, 6, 7, 8, 9] [0, 1, 2, 3] (fun _ => spW cA p K V C (h0) (w0) ++ (rowW cA q (emp ρ c))) [0, 1, 2, 3, 4, 5, 6, 7, 8, 9] (c_X1_top l D cA cB q (emp ρ c) n (by unfold emp; rw [upd_n _ _ (by omega), upd_n _ _ (by omega)]; exact hsz) h3 ) kv_X1_top ml_X2_41 dX2_go_45 rfl rfl rfl rfl rfl rfl rfl rfl (by decide) (fun _ => rfl) rfl rfl (Nat.le_of_ble_eq_true rfl) (fun v u h => ?_)
    subst h
    refine r_st (st' := [.int (nI (topN n)), .int (nI i)]) rfl ?_
    refine r_ncmp_gt 101 (by omega) (by omega) dX2_go_48 (by decide) (fun h1 => ?_) (fun h1 => ?_)
    · have hno : gvF (emp ρ c) n (c / 4) (topN n) 1 = none := by rw [← he, show topN n + 1 - i = 0 by omega]; rfl
      have hthin := gvF_none hno (topN n) (by omega) (by omega)
      rw [wst_top h3 (by omega), top_pow h3] at hthin
      have hhalf := least_half h3
      refine r_aload_n 0 dX2_go_101 rfl rfl ?_
      refine r_aload_n 1 dX2_go_102 rfl rfl ?_
      refine r_callV (As := [.ref (q 0)]) (st := []) [0, 1, 2, 3, 4, 5, 6, 7, 8, 9] [] (fun u2 => spU cA p u2 ++ (rowW cA q (shR (emp ρ c) g n))) [0, 1, 2, 3, 4, 5, 6, 7, 8, 9] (c_X2_shrink l D cA cB p q (emp ρ c) K V C (h0) (w0) g (by unfold emp; rw [upd_n _ _ (by omega), upd_n _ _ (by omega)]; exact hg) hg8 n (by unfold emp; rw [upd_n _ _ (by omega), upd_n _ _ (by omega)]; exact hsz) h3 (by omega)) kv_X2_shrink ml_X2_91 dX2_go_103 rfl rfl rfl rfl rfl rfl rfl rfl (by decide) (fun _ => rfl) rfl rfl (Nat.le_of_ble_eq_true rfl) (fun v u2 h => ?_)
      subst h
      refine r_st (st' := []) rfl ?_
      refine r_iload_n 3 dX2_go_106 rfl rfl ?_
      exact r_iret ((u2.1, u2.2.1, u2.2.2.1, u2.2.2.2.1, u2.2.2.2.2)) dX2_go_107 (rfl) (by unfold goR; rw [if_neg hb0, hno])
    · have hw := wst_le (sg := c / 4) h3 (by omega) (show i ≤ topN n by omega)
      have hp := pow4 i (by omega)
      have hy := cnt_le (emp ρ c) (wst (c / 4) i) (4 * 2 ^ i)
      have hll := least_lt (n := n) (i := i) (by omega)
      refine r_iload dX2_go_51 rfl ?_
      refine r_iload dX2_go_53 rfl ?_
      refine r_callS (As := [.int (nI (c / 4)), .int (nI i)]) (st := []) [] [0, 1, 2, 3, 4, 5, 6, 7, 8, 9] (fun _ => spW cA p K V C (h0) (w0) ++ (rowW cA q (emp ρ c))) [0, 1, 2, 3, 4, 5, 6, 7, 8, 9] (c_X2_windowStart l D cA cB (c / 4) (i) (by omega) (by omega)) ks_X2_windowStart ml_X2_45 dX2_go_55 rfl rfl rfl rfl rfl rfl (by decide) (fun _ => rfl) rfl rfl (Nat.le_of_ble_eq_true rfl) (fun v u h => ?_)
      subst h
      refine r_st (st' := [.int (nI (wst (c / 4) i))]) rfl ?_
      refine r_istore ([some (.ref (p 0)), some (.ref (q 0)), some (.int (nI c)), some (.int (ρ (95 + c))), some (.int (nI (c / 4))), some (.int (nI i)), some (.int (nI (wst (c / 4) i)))]) dX2_go_58 (Nat.le_of_ble_eq_true rfl) rfl rfl ?_
      refine r_aload_n 1 dX2_go_60 rfl rfl ?_
      refine r_iload dX2_go_61 rfl ?_
      refine r_iload dX2_go_63 rfl ?_
      refine r_callS (As := [.int (nI i)]) (st := [.int (nI (wst (c / 4) i)), .ref (q 0)]) [] [0, 1, 2, 3, 4, 5, 6, 7, 8, 9] (fun _ => spW cA p K V C (h0) (w0) ++ (rowW cA q (emp ρ c))) [0, 1, 2, 3, 4, 5, 6, 7, 8, 9] (c_X4_cellsOf l D cA cB (i) (by omega)) ks_X4_cellsOf ml_X2_49 dX2_go_65 rfl rfl rfl rfl rfl rfl (by decide) (fun _ => rfl) rfl rfl (Nat.le_of_ble_eq_true rfl) (fun v u h => ?_)
      subst h
      refine r_st (st' := [.int (nI (4 * 2 ^ i)), .int (nI (wst (c / 4) i)), .ref (q 0)]) rfl ?_
      refine r_callV (As := [.int (nI (wst (c / 4) i)), .int (nI (4 * 2 ^ i))]) (st := []) [4, 5, 6, 7, 8, 9] [0, 1, 2, 3] (fun _ => spW cA p K V C (h0) (w0) ++ (rowW cA q (emp ρ c))) [0, 1, 2, 3, 4, 5, 6, 7, 8, 9] (c_X1_keysIn l D cA cB q (emp ρ c) (wst (c / 4) i) (4 * 2 ^ i) (by omega)) kv_X1_keysIn ml_X2_52 dX2_go_68 rfl rfl rfl rfl rfl rfl rfl rfl (by decide) (fun _ => rfl) rfl rfl (Nat.le_of_ble_eq_true rfl) (fun v u h => ?_)
      subst h
      refine r_st (st' := [.int (nI (cnt (emp ρ c) (wst (c / 4) i) (4 * 2 ^ i)))]) rfl ?_
      refine r_aload_n 1 dX2_go_71 rfl rfl ?_
      refine r_iload dX2_go_72 rfl ?_
      refine r_callV (As := [.int (nI i)]) (st := [.int (nI (cnt (emp ρ c) (wst (c / 4) i) (4 * 2 ^ i)))]) [4, 5, 6, 7, 8, 9] [0, 1, 2, 3] (fun _ => spW cA p K V C (h0) (w0) ++ (rowW cA q (emp ρ c))) [0, 1, 2, 3, 4, 5, 6, 7, 8, 9] (c_X1_least l D cA cB q (emp ρ c) n (by unfold emp; rw [upd_n _ _ (by omega), upd_n _ _ (by omega)]; exact hsz) h3 (i) (by omega)) kv_X1_least ml_X2_85 dX2_go_74 rfl rfl rfl rfl rfl rfl rfl rfl (by decide) (fun _ => rfl) rfl rfl (Nat.le_of_ble_eq_true rfl) (fun v u h => ?_)
      subst h
      refine r_st (st' := [.int (nI (leastN n i)), .int (nI (cnt (emp ρ c) (wst (c / 4) i) (4 * 2 ^ i)))]) rfl ?_
      refine r_ncmp_lt 95 (by omega) (by omega) dX2_go_77 (by decide) (fun h3 => ?_) (fun h3 => ?_)
      · refine r_iinc (v := nI (i + 1)) ([some (.ref (p 0)), some (.ref (q 0)), some (.int (nI c)), some (.int (ρ (95 + c))), some (.int (nI (c / 4))), some (.int (nI (i + 1))), some (.int (nI (wst (c / 4) i)))]) dX2_go_95 rfl (nI_1 _) (Nat.le_of_ble_eq_true rfl) rfl rfl ?_
        refine r_goto 42 dX2_go_98 (by decide) ?_
        refine r_drop (lv' := [some (.ref (p 0)), some (.ref (q 0)), some (.int (nI c)), some (.int (ρ (95 + c))), some (.int (nI (c / 4))), some (.int (nI (i + 1))), none]) 6 rfl ?_
        exact ih (i + 1) (by omega) (by omega) (by omega) (by rw [← he, show topN n + 1 - i = (topN n - i) + 1 by omega, show topN n + 1 - (i + 1) = topN n - i by omega]; exact (if_neg (Nat.not_le.mpr h3)).symm)
      · refine r_aload_n 0 dX2_go_80 rfl rfl ?_
        refine r_aload_n 1 dX2_go_81 rfl rfl ?_
        refine r_iload dX2_go_82 rfl ?_
        refine r_iload dX2_go_84 rfl ?_
        refine r_callS (As := [.int (nI i)]) (st := [.int (nI (wst (c / 4) i)), .ref (q 0), .ref (p 0)]) [] [0, 1, 2, 3, 4, 5, 6, 7, 8, 9] (fun _ => spW cA p K V C (h0) (w0) ++ (rowW cA q (emp ρ c))) [0, 1, 2, 3, 4, 5, 6, 7, 8, 9] (c_X4_cellsOf l D cA cB (i) (by omega)) ks_X4_cellsOf ml_X2_49 dX2_go_86 rfl rfl rfl rfl rfl rfl (by decide) (fun _ => rfl) rfl rfl (Nat.le_of_ble_eq_true rfl) (fun v u h => ?_)
        subst h
        refine r_st (st' := [.int (nI (4 * 2 ^ i)), .int (nI (wst (c / 4) i)), .ref (q 0), .ref (p 0)]) rfl ?_
        refine r_callV (As := [.ref (q 0), .int (nI (wst (c / 4) i)), .int (nI (4 * 2 ^ i))]) (st := []) [0, 1, 2, 3, 4, 5, 6, 7, 8, 9] [] (fun u4 => spU cA p u4 ++ (rowW cA q (spR (emp ρ c) g (wst (c / 4) i) (4 * 2 ^ i)))) [0, 1, 2, 3, 4, 5, 6, 7, 8, 9] (c_X2_space l D cA cB p q (emp ρ c) K V C (h0) (w0) g (by unfold emp; rw [upd_n _ _ (by omega), upd_n _ _ (by omega)]; exact hg) hg8 (wst (c / 4) i) (4 * 2 ^ i) (by omega)) kv_X2_space ml_X2_88 dX2_go_89 rfl rfl rfl rfl rfl rfl rfl rfl (by decide) (fun _ => rfl) rfl rfl (Nat.le_of_ble_eq_true rfl) (fun v u4 h => ?_)
        subst h
        refine r_st (st' := [.int (nI (spM (emp ρ c) (wst (c / 4) i) (4 * 2 ^ i)))]) rfl ?_
        refine r_pop rfl dX2_go_92 ?_
        refine r_iload_n 3 dX2_go_93 rfl rfl ?_
        exact r_iret ((u4.1, u4.2.1, u4.2.2.1, u4.2.2.2.1, u4.2.2.2.2)) dX2_go_94 (rfl) (by have hso : gvF (emp ρ c) n (c / 4) (topN n) 1 = some i := (by rw [← he, show topN n + 1 - i = (topN n - i) + 1 by omega]; exact if_pos h3); unfold goR; rw [if_neg hb0, hso])

set_option maxRecDepth 100000 in
set_option maxHeartbeats 4000000 in
theorem c_X2_go (l : Launch) (D : va_G) (cA cB : ClassId) (p q : Nat → Nat) (ρ K V C : Nat → Int32) (h0 w0 : Int32) (g : Nat) (hg : ρ 6 = nI g) (hg8 : g ≤ 8) (n : Nat) (hsz : ρ 0 = nI n) (h3 : n = 16 ∨ n = 32 ∨ n = 64) (c : Nat) (hc : c < n) : Mt l D (tyS cA cB) yX2_go cX2_go 7 (some .int) ({ frames := 3, cells := 0, slots := 0, locals := 75 } : Room) [.ref (p 0), .ref (q 0), .int (nI c)] (spW cA p K V C (h0) (w0) ++ (rowW cA q ρ)) Sp5 (fun v _ => v = some (.int (ρ (95 + c)))) (fun u => spU cA p u ++ (rowW cA q (goR ρ n g c))) 0 0 := by
  refine mt_in RX2 ([some (.ref (p 0)), some (.ref (q 0)), some (.int (nI c)), none, none, none, none]) rfl (by decide +kernel) rfl (Nat.le_of_ble_eq_true rfl) rfl rfl (fun X sz => ?_)
  have hb : n ≤ 64 := by omega
  have ht := top_le (sz := n)
  refine r_aload_n 1 dX2_go_0 rfl rfl ?_
  refine r_iload_n 2 dX2_go_1 rfl rfl ?_
  refine r_callV (As := [.int (nI c)]) (st := []) [4, 5, 6, 7, 8, 9] [0, 1, 2, 3] (fun _ => spW cA p K V C (h0) (w0) ++ (rowW cA q ρ)) [0, 1, 2, 3, 4, 5, 6, 7, 8, 9] (c_X1_valueIn l D cA cB q ρ (c) (by omega)) kv_X1_valueIn ml_X2_78 dX2_go_2 rfl rfl rfl rfl rfl rfl rfl rfl (by decide) (fun _ => rfl) rfl rfl (Nat.le_of_ble_eq_true rfl) (fun v u h => ?_)
  subst h
  refine r_st (st' := [.int (ρ (95 + c))]) rfl ?_
  refine r_istore_n 3 ([some (.ref (p 0)), some (.ref (q 0)), some (.int (nI c)), some (.int (ρ (95 + c))), none, none, none]) dX2_go_5 rfl (Nat.le_of_ble_eq_true rfl) rfl rfl ?_
  refine r_aload_n 1 dX2_go_6 rfl rfl ?_
  refine r_iload_n 2 dX2_go_7 rfl rfl ?_
  refine r_iconst (-1) dX2_go_8 (by decide +kernel) ?_
  refine r_iconst (nI 0) dX2_go_9 (by decide +kernel) ?_
  refine r_callV (As := [.int (nI c), .int (-1), .int (nI 0)]) (st := []) [4, 5, 6, 7, 8, 9] [0, 1, 2, 3] (fun _ => spW cA p K V C (h0) (w0) ++ (rowW cA q (upd (upd ρ (31 + c) (-1)) (95 + c) (nI (0))))) [0, 1, 2, 3, 4, 5, 6, 7, 8, 9] (c_X1_fill l D cA cB q ρ (c) (by omega) (-1) (nI (0))) kv_X1_fill ml_X2_81 dX2_go_10 rfl rfl rfl rfl rfl rfl rfl rfl (by decide) (fun _ => rfl) rfl rfl (Nat.le_of_ble_eq_true rfl) (fun v u h => ?_)
  subst h
  refine r_st (st' := []) rfl ?_
  refine r_ws (ws' := spW cA p K V C (h0) (w0) ++ (rowW cA q (emp ρ c))) rfl ?_
  refine r_iload_n 2 dX2_go_13 rfl rfl ?_
  refine r_iconst (nI 4) dX2_go_14 (by decide +kernel) ?_
  refine r_nidiv (by omega) (by omega) (by omega) dX2_go_15 ?_
  refine r_istore ([some (.ref (p 0)), some (.ref (q 0)), some (.int (nI c)), some (.int (ρ (95 + c))), some (.int (nI (c / 4))), none, none]) dX2_go_16 (Nat.le_of_ble_eq_true rfl) rfl rfl ?_
  have hw := wst_le (sg := c / 4) (i := 0) h3 (by omega) (by omega)
  have hy := cnt_le (emp ρ c) (wst (c / 4) 0) 4
  have hll := least_lt (n := n) (i := 0) (by omega)
  refine r_aload_n 1 dX2_go_18 rfl rfl ?_
  refine r_iload dX2_go_19 rfl ?_
  refine r_iconst (nI 0) dX2_go_21 (by decide +kernel) ?_
  refine r_callS (As := [.int (nI (c / 4)), .int (nI 0)]) (st := [.ref (q 0)]) [] [0, 1, 2, 3, 4, 5, 6, 7, 8, 9] (fun _ => spW cA p K V C (h0) (w0) ++ (rowW cA q (emp ρ c))) [0, 1, 2, 3, 4, 5, 6, 7, 8, 9] (c_X2_windowStart l D cA cB (c / 4) (0) (by omega) (by omega)) ks_X2_windowStart ml_X2_45 dX2_go_22 rfl rfl rfl rfl rfl rfl (by decide) (fun _ => rfl) rfl rfl (Nat.le_of_ble_eq_true rfl) (fun v u h => ?_)
  subst h
  refine r_st (st' := [.int (nI (wst (c / 4) 0)), .ref (q 0)]) rfl ?_
  refine r_iconst (nI 4) dX2_go_25 (by decide +kernel) ?_
  refine r_callV (As := [.int (nI (wst (c / 4) 0)), .int (nI 4)]) (st := []) [4, 5, 6, 7, 8, 9] [0, 1, 2, 3] (fun _ => spW cA p K V C (h0) (w0) ++ (rowW cA q (emp ρ c))) [0, 1, 2, 3, 4, 5, 6, 7, 8, 9] (c_X1_keysIn l D cA cB q (emp ρ c) (wst (c / 4) 0) (4) (by omega)) kv_X1_keysIn ml_X2_52 dX2_go_26 rfl rfl rfl rfl rfl rfl rfl rfl (by decide) (fun _ => rfl) rfl rfl (Nat.le_of_ble_eq_true rfl) (fun v u h => ?_)
  subst h
  refine r_st (st' := [.int (nI (cnt (emp ρ c) (wst (c / 4) 0) 4))]) rfl ?_
  refine r_aload_n 1 dX2_go_29 rfl rfl ?_
  refine r_iconst (nI 0) dX2_go_30 (by decide +kernel) ?_
  refine r_callV (As := [.int (nI 0)]) (st := [.int (nI (cnt (emp ρ c) (wst (c / 4) 0) 4))]) [4, 5, 6, 7, 8, 9] [0, 1, 2, 3] (fun _ => spW cA p K V C (h0) (w0) ++ (rowW cA q (emp ρ c))) [0, 1, 2, 3, 4, 5, 6, 7, 8, 9] (c_X1_least l D cA cB q (emp ρ c) n (by unfold emp; rw [upd_n _ _ (by omega), upd_n _ _ (by omega)]; exact hsz) h3 (0) (by omega)) kv_X1_least ml_X2_85 dX2_go_31 rfl rfl rfl rfl rfl rfl rfl rfl (by decide) (fun _ => rfl) rfl rfl (Nat.le_of_ble_eq_true rfl) (fun v u h => ?_)
  subst h
  refine r_st (st' := [.int (nI (leastN n 0)), .int (nI (cnt (emp ρ c) (wst (c / 4) 0) 4))]) rfl ?_
  refine r_ncmp_lt 39 (by omega) (by omega) dX2_go_34 (by decide) (fun h1 => ?_) (fun h1 => ?_)
  · refine r_iconst (nI 1) dX2_go_39 (by decide +kernel) ?_
    refine r_istore ([some (.ref (p 0)), some (.ref (q 0)), some (.int (nI c)), some (.int (ρ (95 + c))), some (.int (nI (c / 4))), some (.int (nI 1)), none]) dX2_go_40 (Nat.le_of_ble_eq_true rfl) rfl rfl ?_
    exact lp_X2_go l D cA cB p q ρ K V C h0 w0 g hg hg8 n hsz h3 c hc X sz (Nat.not_le.mpr h1) (topN n + 2) 1 (by omega) (by omega) (by omega) rfl
  · refine r_iload_n 3 dX2_go_37 rfl rfl ?_
    exact r_iret ((K, V, C, h0, w0)) dX2_go_38 (rfl) (by unfold goR; rw [if_pos h1])

