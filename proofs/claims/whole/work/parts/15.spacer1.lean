set_option maxRecDepth 100000 in
set_option maxHeartbeats 4000000 in
theorem c_X2_windowStart (l : Launch) (D : va_G) (cA cB : ClassId) (sg i : Nat) (hs : sg < 16) (hi : i ≤ 4) : Mt l D (tyS cA cB) yX2_windowStart cX2_windowStart 2 (some .int) ({ frames := 1, cells := 0, slots := 0, locals := 20 } : Room) [.int (nI sg), .int (nI i)] ([]) Unit (fun v _ => v = some (.int (nI (wst sg i)))) (fun _ => []) 0 0 := by
  refine mt_in RX2 ([some (.int (nI sg)), some (.int (nI i))]) rfl (by decide +kernel) rfl (Nat.le_of_ble_eq_true rfl) rfl rfl (fun X sz => ?_)
  refine r_iload_n 0 dX2_windowStart_0 rfl rfl ?_
  refine r_iload_n 1 dX2_windowStart_1 rfl rfl ?_
  refine r_ishr dX2_windowStart_2 ?_
  refine r_top (shr_ok ⟨sg, hs⟩ ⟨i, by omega⟩) ?_
  refine r_iload_n 1 dX2_windowStart_3 rfl rfl ?_
  refine r_callS (As := [.int (nI i)]) (st := [.int (nI (sg / 2 ^ i))]) [] [] (fun _ => []) [] (c_X4_cellsOf l D cA cB (i) (by omega)) ks_X4_cellsOf ml_X2_49 dX2_windowStart_4 rfl rfl rfl rfl rfl rfl (by decide) (fun _ => rfl) rfl rfl (Nat.le_of_ble_eq_true rfl) (fun v u h => ?_)
  subst h
  refine r_st (st' := [.int (nI (4 * 2 ^ i)), .int (nI (sg / 2 ^ i))]) rfl ?_
  refine r_nimul dX2_windowStart_7 ?_
  exact r_iret (()) dX2_windowStart_8 (rfl) (rfl)

set_option maxRecDepth 100000 in
set_option maxHeartbeats 4000000 in
theorem c_X2_segmentFor (l : Launch) (D : va_G) (cA cB : ClassId) (q : Nat → Nat) (ρ : Nat → Int32) (n : Nat) (hsz : ρ 0 = nI n) (h3 : n = 16 ∨ n = 32 ∨ n = 64) (hs : Srt ρ n) (k : Int32) : Mt l D (tyS cA cB) yX2_segmentFor cX2_segmentFor 3 (some .int) ({ frames := 2, cells := 0, slots := 0, locals := 44 } : Room) [.ref (q 0), .int (k)] (rowW cA q ρ) Unit (fun v _ => v = some (.int (nI (segF ρ k n)))) (fun _ => rowW cA q ρ) 0 0 := by
  refine mt_in RX2 ([some (.ref (q 0)), some (.int (k)), none]) rfl (by decide +kernel) rfl (Nat.le_of_ble_eq_true rfl) rfl rfl (fun X sz => ?_)
  have hb : n ≤ 64 := by omega
  have y1 := blw_le ρ k n
  refine r_aload_n 0 dX2_segmentFor_0 rfl rfl ?_
  refine r_iload_n 1 dX2_segmentFor_1 rfl rfl ?_
  refine r_callV (As := [.int (k)]) (st := []) [0, 1, 2, 3, 4, 5] [] (fun _ => rowW cA q ρ) [0, 1, 2, 3, 4, 5] (c_X1_keysBelow l D cA cB q ρ n (hsz) h3 (k)) kv_X1_keysBelow ml_X2_34 dX2_segmentFor_2 rfl rfl rfl rfl rfl rfl rfl rfl (by decide) (fun _ => rfl) rfl rfl (Nat.le_of_ble_eq_true rfl) (fun v u h => ?_)
  subst h
  refine r_st (st' := [.int (nI (blw ρ k n))]) rfl ?_
  refine r_istore_n 2 ([some (.ref (q 0)), some (.int (k)), some (.int (nI (blw ρ k n)))]) dX2_segmentFor_5 rfl (Nat.le_of_ble_eq_true rfl) rfl rfl ?_
  refine r_iload_n 2 dX2_segmentFor_6 rfl rfl ?_
  rcases segF_rank hs (k := k) (Nat.le_refl n) with ⟨e1, e2⟩ | ⟨c, hc, hk, hl, e1, e2⟩
  · refine r_if_ne 14 dX2_segmentFor_7 (by decide) (fun h1 => ?_) (fun h1 => ?_)
    · exact absurd (by rw [e1]; rfl) h1
    · refine r_iconst (nI 0) dX2_segmentFor_10 (by decide +kernel) ?_
      refine r_goto 23 dX2_segmentFor_11 (by decide) ?_
      exact r_iret (()) dX2_segmentFor_23 (by rw [e2]) (rfl)
  · refine r_if_ne 14 dX2_segmentFor_7 (by decide) (fun h2 => ?_) (fun h2 => ?_)
    · refine r_aload_n 0 dX2_segmentFor_14 rfl rfl ?_
      refine r_iload_n 2 dX2_segmentFor_15 rfl rfl ?_
      refine r_iconst (nI 1) dX2_segmentFor_16 (by decide +kernel) ?_
      refine r_nisub (by omega) dX2_segmentFor_17 ?_
      refine r_callV (As := [.int (nI ((blw ρ k n) - 1))]) (st := []) [0, 1, 2, 3, 4, 5] [] (fun _ => rowW cA q ρ) [0, 1, 2, 3, 4, 5] (c_X1_cellNumber l D cA cB q ρ n (hsz) h3 ((blw ρ k n) - 1) (by omega)) kv_X1_cellNumber ml_X2_38 dX2_segmentFor_18 rfl rfl rfl rfl rfl rfl rfl rfl (by decide) (fun _ => rfl) rfl rfl (Nat.le_of_ble_eq_true rfl) (fun v u h => ?_)
      subst h
      refine r_st (st' := [.int (nthF ρ ((blw ρ k n) - 1) n)]) rfl ?_
      refine r_top (nthF_at hk (by omega) hc) ?_
      refine r_iconst (nI 4) dX2_segmentFor_21 (by decide +kernel) ?_
      refine r_nidiv (by omega) (by omega) (by omega) dX2_segmentFor_22 ?_
      exact r_iret (()) dX2_segmentFor_23 (by rw [e2]) (rfl)
    · exact absurd ((nI_inj (b := 0) (by omega) (by decide)).mp h2) (by omega)

set_option maxRecDepth 100000 in
set_option maxHeartbeats 4000000 in
theorem lp_X2_levelFor (l : Launch) (D : va_G) (cA cB : ClassId) (q : Nat → Nat) (ρ : Nat → Int32) (n : Nat) (hsz : ρ 0 = nI n) (h3 : n = 16 ∨ n = 32 ∨ n = 64) (sg : Nat) (hg : sg * 4 < n) (X : Cx) (sz : Nat) : ∀ (f i : Nat), i ≤ topN n + 1 → topN n + 1 < i + f → lvF ρ n sg (topN n + 1 - i) i = lvF ρ n sg (topN n + 1) 0 → G l X ({ frames := 2, cells := 0, slots := 0, locals := 45 } : Room) cX2_levelFor RX2 (some .int) D (tyS cA cB) (va_A (rowW cA q ρ) sz) (QX X D (tyS cA cB) (rowW cA q ρ) sz Unit (fun v _ => v = some (.int (oI (lvF ρ n sg (topN n + 1) 0)))) (fun _ => rowW cA q ρ) 0 0) 0 0 (rowW cA q ρ) 2 ([some (.ref (q 0)), some (.int (nI sg)), some (.int (nI i))]) [] := by
  intro f
  induction f with
  | zero => intro i h1 h2; omega
  | succ f ih =>
    intro i hi hf he
    have hb : n ≤ 64 := by omega
    have ht := top_le (sz := n)
    refine r_iload_n 2 dX2_levelFor_2 rfl rfl ?_
    refine r_aload_n 0 dX2_levelFor_3 rfl rfl ?_
    refine r_callV (As := []) (st := [.int (nI i)]) [0, 1, 2, 3, 4, 5] [] (fun _ => rowW cA q ρ) [0, 1, 2, 3, 4, 5] (c_X1_top l D cA cB q ρ n (hsz) h3 ) kv_X1_top ml_X2_41 dX2_levelFor_4 rfl rfl rfl rfl rfl rfl rfl rfl (by decide) (fun _ => rfl) rfl rfl (Nat.le_of_ble_eq_true rfl) (fun v u h => ?_)
    subst h
    refine r_st (st' := [.int (nI (topN n)), .int (nI i)]) rfl ?_
    refine r_ncmp_gt 41 (by omega) (by omega) dX2_levelFor_7 (by decide) (fun h1 => ?_) (fun h1 => ?_)
    · refine r_iconst (-1) dX2_levelFor_41 (by decide +kernel) ?_
      exact r_iret (()) dX2_levelFor_42 (by rw [← he, show topN n + 1 - i = 0 by omega]; rfl) (rfl)
    · have hw := wst_le h3 hg (show i ≤ topN n by omega)
      have hp := pow4 i (by omega)
      have hy := cnt_le ρ (wst sg i) (4 * 2 ^ i)
      have hm := most_le (n := n) (i := i)
      refine r_aload_n 0 dX2_levelFor_10 rfl rfl ?_
      refine r_iload_n 1 dX2_levelFor_11 rfl rfl ?_
      refine r_iload_n 2 dX2_levelFor_12 rfl rfl ?_
      refine r_callS (As := [.int (nI sg), .int (nI i)]) (st := [.ref (q 0)]) [] [0, 1, 2, 3, 4, 5] (fun _ => rowW cA q ρ) [0, 1, 2, 3, 4, 5] (c_X2_windowStart l D cA cB (sg) (i) (by omega) (by omega)) ks_X2_windowStart ml_X2_45 dX2_levelFor_13 rfl rfl rfl rfl rfl rfl (by decide) (fun _ => rfl) rfl rfl (Nat.le_of_ble_eq_true rfl) (fun v u h => ?_)
      subst h
      refine r_st (st' := [.int (nI (wst sg i)), .ref (q 0)]) rfl ?_
      refine r_iload_n 2 dX2_levelFor_16 rfl rfl ?_
      refine r_callS (As := [.int (nI i)]) (st := [.int (nI (wst sg i)), .ref (q 0)]) [] [0, 1, 2, 3, 4, 5] (fun _ => rowW cA q ρ) [0, 1, 2, 3, 4, 5] (c_X4_cellsOf l D cA cB (i) (by omega)) ks_X4_cellsOf ml_X2_49 dX2_levelFor_17 rfl rfl rfl rfl rfl rfl (by decide) (fun _ => rfl) rfl rfl (Nat.le_of_ble_eq_true rfl) (fun v u h => ?_)
      subst h
      refine r_st (st' := [.int (nI (4 * 2 ^ i)), .int (nI (wst sg i)), .ref (q 0)]) rfl ?_
      refine r_callV (As := [.int (nI (wst sg i)), .int (nI (4 * 2 ^ i))]) (st := []) [0, 1, 2, 3, 4, 5] [] (fun _ => rowW cA q ρ) [0, 1, 2, 3, 4, 5] (c_X1_keysIn l D cA cB q ρ (wst sg i) (4 * 2 ^ i) (by omega)) kv_X1_keysIn ml_X2_52 dX2_levelFor_20 rfl rfl rfl rfl rfl rfl rfl rfl (by decide) (fun _ => rfl) rfl rfl (Nat.le_of_ble_eq_true rfl) (fun v u h => ?_)
      subst h
      refine r_st (st' := [.int (nI (cnt ρ (wst sg i) (4 * 2 ^ i)))]) rfl ?_
      refine r_iconst (nI 1) dX2_levelFor_23 (by decide +kernel) ?_
      refine r_niadd dX2_levelFor_24 ?_
      refine r_aload_n 0 dX2_levelFor_25 rfl rfl ?_
      refine r_iload_n 2 dX2_levelFor_26 rfl rfl ?_
      refine r_callV (As := [.int (nI i)]) (st := [.int (nI ((cnt ρ (wst sg i) (4 * 2 ^ i)) + 1))]) [0, 1, 2, 3, 4, 5] [] (fun _ => rowW cA q ρ) [0, 1, 2, 3, 4, 5] (c_X1_most l D cA cB q ρ n (hsz) h3 (i) (by omega)) kv_X1_most ml_X2_55 dX2_levelFor_27 rfl rfl rfl rfl rfl rfl rfl rfl (by decide) (fun _ => rfl) rfl rfl (Nat.le_of_ble_eq_true rfl) (fun v u h => ?_)
      subst h
      refine r_st (st' := [.int (nI (mostN n i)), .int (nI ((cnt ρ (wst sg i) (4 * 2 ^ i)) + 1))]) rfl ?_
      refine r_ncmp_gt 35 (by omega) (by omega) dX2_levelFor_30 (by decide) (fun h2 => ?_) (fun h2 => ?_)
      · refine r_iinc (v := nI (i + 1)) ([some (.ref (q 0)), some (.int (nI sg)), some (.int (nI (i + 1)))]) dX2_levelFor_35 rfl (nI_1 _) (Nat.le_of_ble_eq_true rfl) rfl rfl ?_
        refine r_goto 2 dX2_levelFor_38 (by decide) ?_
        exact ih (i + 1) (by omega) (by omega) (by rw [← he, show topN n + 1 - i = (topN n - i) + 1 by omega, show topN n + 1 - (i + 1) = topN n - i by omega]; exact (if_neg (Nat.not_le.mpr h2)).symm)
      · refine r_iload_n 2 dX2_levelFor_33 rfl rfl ?_
        exact r_iret (()) dX2_levelFor_34 (by rw [← he, show topN n + 1 - i = (topN n - i) + 1 by omega]; show _ = some (Value.int (oI (if _ then _ else _))); rw [if_pos h2]; rfl) (rfl)

set_option maxRecDepth 100000 in
set_option maxHeartbeats 4000000 in
theorem c_X2_levelFor (l : Launch) (D : va_G) (cA cB : ClassId) (q : Nat → Nat) (ρ : Nat → Int32) (n : Nat) (hsz : ρ 0 = nI n) (h3 : n = 16 ∨ n = 32 ∨ n = 64) (sg : Nat) (hg : sg * 4 < n) : Mt l D (tyS cA cB) yX2_levelFor cX2_levelFor 3 (some .int) ({ frames := 2, cells := 0, slots := 0, locals := 45 } : Room) [.ref (q 0), .int (nI sg)] (rowW cA q ρ) Unit (fun v _ => v = some (.int (oI (lvF ρ n sg (topN n + 1) 0)))) (fun _ => rowW cA q ρ) 0 0 := by
  refine mt_in RX2 ([some (.ref (q 0)), some (.int (nI sg)), none]) rfl (by decide +kernel) rfl (Nat.le_of_ble_eq_true rfl) rfl rfl (fun X sz => ?_)
  refine r_iconst (nI 0) dX2_levelFor_0 (by decide +kernel) ?_
  refine r_istore_n 2 ([some (.ref (q 0)), some (.int (nI sg)), some (.int (nI 0))]) dX2_levelFor_1 rfl (Nat.le_of_ble_eq_true rfl) rfl rfl ?_
  exact lp_X2_levelFor l D cA cB q ρ n hsz h3 sg hg X sz (topN n + 2) 0 (by omega) (by omega) rfl

def hrB (ρ : Nat → Int32) (n : Nat) (k : Int32) : Bool := decide (n < 64) || (lvF ρ n (segF ρ k n) (topN n + 1) 0).isSome
theorem oI_none {ρ : Nat → Int32} {n sg : Nat} (h : oI (lvF ρ n sg (topN n + 1) 0) = -1) : lvF ρ n sg (topN n + 1) 0 = none := by
  cases e : lvF ρ n sg (topN n + 1) 0 with
  | none => rfl
  | some i =>
    rw [e] at h
    have h2 := lvF_some e
    have := top_le (sz := n)
    exact absurd h (nI_ne_m1 (by omega))
set_option maxRecDepth 100000 in
set_option maxHeartbeats 4000000 in
theorem c_X2_hasRoom (l : Launch) (D : va_G) (cA cB : ClassId) (q : Nat → Nat) (ρ : Nat → Int32) (n : Nat) (hsz : ρ 0 = nI n) (h3 : n = 16 ∨ n = 32 ∨ n = 64) (hs : Srt ρ n) (k : Int32) : Mt l D (tyS cA cB) yX2_hasRoom cX2_hasRoom 2 (some .boolean) ({ frames := 3, cells := 0, slots := 0, locals := 67 } : Room) [.ref (q 0), .int (k)] (rowW cA q ρ) Unit (fun v _ => v = some (.int (bI (hrB ρ n k)))) (fun _ => rowW cA q ρ) 0 0 := by
  refine mt_in RX2 ([some (.ref (q 0)), some (.int (k))]) rfl (by decide +kernel) rfl (Nat.le_of_ble_eq_true rfl) rfl rfl (fun X sz => ?_)
  have hb : n ≤ 64 := by omega
  refine r_aload_n 0 dX2_hasRoom_0 rfl rfl ?_
  refine r_get 0 fk_X2_21 dX2_hasRoom_1 rfl rfl ?_
  refine r_top (y := nI (n)) (hsz) ?_
  refine r_bipush (nI 64) dX2_hasRoom_4 (by decide +kernel) ?_
  refine r_ncmp_lt 22 (by omega) (by omega) dX2_hasRoom_6 (by decide) (fun h1 => ?_) (fun h1 => ?_)
  · refine r_iconst (nI 1) dX2_hasRoom_22 (by decide +kernel) ?_
    refine r_goto 27 dX2_hasRoom_23 (by decide) ?_
    exact r_zret (()) (by decide +kernel) dX2_hasRoom_27 (by unfold hrB; rw [decide_eq_true h1]; rfl) (rfl)
  · refine r_aload_n 0 dX2_hasRoom_9 rfl rfl ?_
    refine r_aload_n 0 dX2_hasRoom_10 rfl rfl ?_
    refine r_iload_n 1 dX2_hasRoom_11 rfl rfl ?_
    refine r_callS (As := [.ref (q 0), .int (k)]) (st := [.ref (q 0)]) [0, 1, 2, 3, 4, 5] [] (fun _ => rowW cA q ρ) [0, 1, 2, 3, 4, 5] (c_X2_segmentFor l D cA cB q ρ n (hsz) h3 hs (k)) ks_X2_segmentFor ml_X2_27 dX2_hasRoom_12 rfl rfl rfl rfl rfl rfl (by decide) (fun _ => rfl) rfl rfl (Nat.le_of_ble_eq_true rfl) (fun v u h => ?_)
    subst h
    refine r_st (st' := [.int (nI (segF ρ k n)), .ref (q 0)]) rfl ?_
    refine r_callS (As := [.ref (q 0), .int (nI (segF ρ k n))]) (st := []) [0, 1, 2, 3, 4, 5] [] (fun _ => rowW cA q ρ) [0, 1, 2, 3, 4, 5] (c_X2_levelFor l D cA cB q ρ n (hsz) h3 (segF ρ k n) (segF_le ρ k n (by omega))) ks_X2_levelFor ml_X2_31 dX2_hasRoom_15 rfl rfl rfl rfl rfl rfl (by decide) (fun _ => rfl) rfl rfl (Nat.le_of_ble_eq_true rfl) (fun v u h => ?_)
    subst h
    refine r_st (st' := [.int (oI (lvF ρ n (segF ρ k n) (topN n + 1) 0))]) rfl ?_
    refine r_iconst (-1) dX2_hasRoom_18 (by decide +kernel) ?_
    refine r_icmp_eq 26 dX2_hasRoom_19 (by decide) (fun h2 => ?_) (fun h2 => ?_)
    · refine r_iconst (nI 0) dX2_hasRoom_26 (by decide +kernel) ?_
      exact r_zret (()) (by decide +kernel) dX2_hasRoom_27 (by unfold hrB; rw [decide_eq_false (Nat.not_lt.mpr h1), oI_none h2]; rfl) (rfl)
    · refine r_iconst (nI 1) dX2_hasRoom_22 (by decide +kernel) ?_
      refine r_goto 27 dX2_hasRoom_23 (by decide) ?_
      exact r_zret (()) (by decide +kernel) dX2_hasRoom_27 (by unfold hrB; cases e : lvF ρ n (segF ρ k n) (topN n + 1) 0 with | none => exact absurd (by rw [e]; rfl) h2 | some i => simp [bI]; rfl) (rfl)

set_option maxRecDepth 100000 in
set_option maxHeartbeats 4000000 in
theorem lp_X2_takeUp (l : Launch) (D : va_G) (cA cB : ClassId) (p q : Nat → Nat) (ρ K V C : Nat → Int32) (h0 w0 : Int32) (a n : Nat) (hn : a + n ≤ 64) (X : Cx) (sz : Nat) : ∀ (f i c x : Nat), c = a + i → x = cnt ρ a i → i ≤ n → n < i + f → G l X ({ frames := 1, cells := 0, slots := 0, locals := 23 } : Room) cX2_takeUp RX2 none D (tyS cA cB) (va_A (spW cA p K V C (h0) (w0) ++ (rowW cA q ρ)) sz) (QX X D (tyS cA cB) (spW cA p K V C (h0) (w0) ++ (rowW cA q ρ)) sz Unit (fun v _ => v = none) (fun _ => spW cA p (tkG ρ (kv ρ) a K n) (tkG ρ (vv ρ) a V n) (tkG ρ nI a C n) (nI (cnt ρ a n)) (-1) ++ (rowW cA q (clr ρ a n))) 0 0) 0 0 (spW cA p (tkG ρ (kv ρ) a K i) (tkG ρ (vv ρ) a V i) (tkG ρ nI a C i) (nI (x)) (-1) ++ (rowW cA q (clr ρ a i))) 13 ([some (.ref (p 0)), some (.ref (q 0)), some (.int (nI a)), some (.int (nI n)), some (.int (nI c))]) [] := by
  intro f
  induction f with
  | zero => intro i c x _ _ h1 h2; omega
  | succ f ih =>
    intro i c x hc hx hi hf
    have hy := cnt_le ρ a i
    refine r_iload dX2_takeUp_13 rfl ?_
    refine r_iload_n 2 dX2_takeUp_15 rfl rfl ?_
    refine r_iload_n 3 dX2_takeUp_16 rfl rfl ?_
    refine r_niadd dX2_takeUp_17 ?_
    refine r_ncmp_ge 105 (by omega) (by omega) dX2_takeUp_18 (by decide) (fun h1 => ?_) (fun h1 => ?_)
    · exact r_vret (()) dX2_takeUp_105 (rfl) (by rw [hx, show i = n by omega])
    · refine r_aload_n 0 dX2_takeUp_21 rfl rfl ?_
      refine r_get 0 fk_X2_98 dX2_takeUp_22 rfl rfl ?_
      refine r_bipush (nI 64) dX2_takeUp_25 (by decide +kernel) ?_
      refine r_ncmp_ge 105 (by omega) (by omega) dX2_takeUp_27 (by decide) (fun h2 => ?_) (fun h2 => ?_)
      · omega
      · refine r_aload_n 1 dX2_takeUp_30 rfl rfl ?_
        refine r_iload dX2_takeUp_31 rfl ?_
        refine r_callV (As := [.int (nI c)]) (st := []) [4, 5, 6, 7, 8, 9] [0, 1, 2, 3] (fun _ => spW cA p (tkG ρ (kv ρ) a K i) (tkG ρ (vv ρ) a V i) (tkG ρ nI a C i) (nI (x)) (-1) ++ (rowW cA q (clr ρ a i))) [0, 1, 2, 3, 4, 5, 6, 7, 8, 9] (c_X1_keyIn l D cA cB q (clr ρ a i) (c) (by omega)) kv_X1_keyIn ml_X2_104 dX2_takeUp_33 rfl rfl rfl rfl rfl rfl rfl rfl (by decide) (fun _ => rfl) rfl rfl (Nat.le_of_ble_eq_true rfl) (fun v u h => ?_)
        subst h
        refine r_st (st' := [.int ((clr ρ a i) (31 + c))]) rfl ?_
        refine r_top (y := ρ (31 + c)) (clr_k (by omega) (by omega)) ?_
        refine r_iconst (-1) dX2_takeUp_36 (by decide +kernel) ?_
        refine r_icmp_eq 99 dX2_takeUp_37 (by decide) (fun h3 => ?_) (fun h3 => ?_)
        · refine r_iinc (v := nI (c + 1)) ([some (.ref (p 0)), some (.ref (q 0)), some (.int (nI a)), some (.int (nI n)), some (.int (nI (c + 1)))]) dX2_takeUp_99 rfl (nI_1 _) (Nat.le_of_ble_eq_true rfl) rfl rfl ?_
          refine r_goto 13 dX2_takeUp_102 (by decide) ?_
          refine r_ws (ws' := spW cA p (tkG ρ (kv ρ) a K (i + 1)) (tkG ρ (vv ρ) a V (i + 1)) (tkG ρ nI a C (i + 1)) (nI (x)) (-1) ++ (rowW cA q (clr ρ a (i + 1)))) (by subst hc; rw [tkG_s0 h3, tkG_s0 h3, tkG_s0 h3, clr_s0 h3]) ?_
          exact ih (i + 1) _ _ (by omega) (by rw [hx, cnt_s0 (by rw [← hc]; exact h3)]) (by omega) (by omega)
        · refine r_aload_n 0 dX2_takeUp_40 rfl rfl ?_
          refine r_get 0 fk_X2_9 dX2_takeUp_41 rfl rfl ?_
          refine r_aload_n 0 dX2_takeUp_44 rfl rfl ?_
          refine r_get 0 fk_X2_98 dX2_takeUp_45 rfl rfl ?_
          refine r_aload_n 1 dX2_takeUp_48 rfl rfl ?_
          refine r_iload dX2_takeUp_49 rfl ?_
          refine r_callV (As := [.int (nI c)]) (st := [.int (nI x), .ref (p 1)]) [4, 5, 6, 7, 8, 9] [0, 1, 2, 3] (fun _ => spW cA p (tkG ρ (kv ρ) a K i) (tkG ρ (vv ρ) a V i) (tkG ρ nI a C i) (nI (x)) (-1) ++ (rowW cA q (clr ρ a i))) [0, 1, 2, 3, 4, 5, 6, 7, 8, 9] (c_X1_keyIn l D cA cB q (clr ρ a i) (c) (by omega)) kv_X1_keyIn ml_X2_104 dX2_takeUp_51 rfl rfl rfl rfl rfl rfl rfl rfl (by decide) (fun _ => rfl) rfl rfl (Nat.le_of_ble_eq_true rfl) (fun v u h => ?_)
          subst h
          refine r_st (st' := [.int ((clr ρ a i) (31 + c)), .int (nI x), .ref (p 1)]) rfl ?_
          refine r_top (y := ρ (31 + c)) (clr_k (by omega) (by omega)) ?_
          refine r_iast 1 (x) ([(p 0, .inr (2, [.ref (p 1), .ref (p 2), .ref (p 3), .int (nI x), .int (-1)])), (p 1, .inl (cA, 64, .inl (upd (tkG ρ (kv ρ) a K i) x (ρ (31 + c))))), (p 2, .inl (cA, 64, .inl (tkG ρ (vv ρ) a V i))), (p 3, .inl (cA, 64, .inl (tkG ρ nI a C i)))] ++ (rowW cA q (clr ρ a i))) dX2_takeUp_54 rfl rfl rfl (by omega) (Nat.le_of_ble_eq_true rfl) rfl ?_
          refine r_aload_n 0 dX2_takeUp_55 rfl rfl ?_
          refine r_get 0 fk_X2_15 dX2_takeUp_56 rfl rfl ?_
          refine r_aload_n 0 dX2_takeUp_59 rfl rfl ?_
          refine r_get 0 fk_X2_98 dX2_takeUp_60 rfl rfl ?_
          refine r_aload_n 1 dX2_takeUp_63 rfl rfl ?_
          refine r_iload dX2_takeUp_64 rfl ?_
          refine r_callV (As := [.int (nI c)]) (st := [.int (nI x), .ref (p 2)]) [4, 5, 6, 7, 8, 9] [0, 1, 2, 3] (fun _ => [(p 0, .inr (2, [.ref (p 1), .ref (p 2), .ref (p 3), .int (nI x), .int (-1)])), (p 1, .inl (cA, 64, .inl (upd (tkG ρ (kv ρ) a K i) x (ρ (31 + c))))), (p 2, .inl (cA, 64, .inl (tkG ρ (vv ρ) a V i))), (p 3, .inl (cA, 64, .inl (tkG ρ nI a C i)))] ++ (rowW cA q (clr ρ a i))) [0, 1, 2, 3, 4, 5, 6, 7, 8, 9] (c_X1_valueIn l D cA cB q (clr ρ a i) (c) (by omega)) kv_X1_valueIn ml_X2_78 dX2_takeUp_66 rfl rfl rfl rfl rfl rfl rfl rfl (by decide) (fun _ => rfl) rfl rfl (Nat.le_of_ble_eq_true rfl) (fun v u h => ?_)
          subst h
          refine r_st (st' := [.int ((clr ρ a i) (95 + c)), .int (nI x), .ref (p 2)]) rfl ?_
          refine r_top (y := ρ (95 + c)) (clr_v (by omega)) ?_
          refine r_iast 2 (x) ([(p 0, .inr (2, [.ref (p 1), .ref (p 2), .ref (p 3), .int (nI x), .int (-1)])), (p 1, .inl (cA, 64, .inl (upd (tkG ρ (kv ρ) a K i) x (ρ (31 + c))))), (p 2, .inl (cA, 64, .inl (upd (tkG ρ (vv ρ) a V i) x (ρ (95 + c))))), (p 3, .inl (cA, 64, .inl (tkG ρ nI a C i)))] ++ (rowW cA q (clr ρ a i))) dX2_takeUp_69 rfl rfl rfl (by omega) (Nat.le_of_ble_eq_true rfl) rfl ?_
          refine r_aload_n 0 dX2_takeUp_70 rfl rfl ?_
          refine r_get 0 fk_X2_18 dX2_takeUp_71 rfl rfl ?_
          refine r_aload_n 0 dX2_takeUp_74 rfl rfl ?_
          refine r_get 0 fk_X2_98 dX2_takeUp_75 rfl rfl ?_
          refine r_iload dX2_takeUp_78 rfl ?_
          refine r_iast 3 (x) ([(p 0, .inr (2, [.ref (p 1), .ref (p 2), .ref (p 3), .int (nI x), .int (-1)])), (p 1, .inl (cA, 64, .inl (upd (tkG ρ (kv ρ) a K i) x (ρ (31 + c))))), (p 2, .inl (cA, 64, .inl (upd (tkG ρ (vv ρ) a V i) x (ρ (95 + c))))), (p 3, .inl (cA, 64, .inl (upd (tkG ρ nI a C i) x (nI (c)))))] ++ (rowW cA q (clr ρ a i))) dX2_takeUp_80 rfl rfl rfl (by omega) (Nat.le_of_ble_eq_true rfl) rfl ?_
          refine r_aload_n 0 dX2_takeUp_81 rfl rfl ?_
          refine r_dup rfl dX2_takeUp_82 ?_
          refine r_get 0 fk_X2_98 dX2_takeUp_83 rfl rfl ?_
          refine r_iconst (nI 1) dX2_takeUp_86 (by decide +kernel) ?_
          refine r_niadd dX2_takeUp_87 ?_
          refine r_put 0 ([(p 0, .inr (2, [.ref (p 1), .ref (p 2), .ref (p 3), .int (nI (x + 1)), .int (-1)])), (p 1, .inl (cA, 64, .inl (upd (tkG ρ (kv ρ) a K i) x (ρ (31 + c))))), (p 2, .inl (cA, 64, .inl (upd (tkG ρ (vv ρ) a V i) x (ρ (95 + c))))), (p 3, .inl (cA, 64, .inl (upd (tkG ρ nI a C i) x (nI (c)))))] ++ (rowW cA q (clr ρ a i))) fk_X2_98 dX2_takeUp_88 rfl rfl rfl rfl (Nat.le_of_ble_eq_true rfl) rfl ?_
          refine r_aload_n 1 dX2_takeUp_91 rfl rfl ?_
          refine r_iload dX2_takeUp_92 rfl ?_
          refine r_iconst (-1) dX2_takeUp_94 (by decide +kernel) ?_
          refine r_iconst (nI 0) dX2_takeUp_95 (by decide +kernel) ?_
          refine r_callV (As := [.int (nI c), .int (-1), .int (nI 0)]) (st := []) [4, 5, 6, 7, 8, 9] [0, 1, 2, 3] (fun _ => [(p 0, .inr (2, [.ref (p 1), .ref (p 2), .ref (p 3), .int (nI (x + 1)), .int (-1)])), (p 1, .inl (cA, 64, .inl (upd (tkG ρ (kv ρ) a K i) x (ρ (31 + c))))), (p 2, .inl (cA, 64, .inl (upd (tkG ρ (vv ρ) a V i) x (ρ (95 + c))))), (p 3, .inl (cA, 64, .inl (upd (tkG ρ nI a C i) x (nI (c)))))] ++ (rowW cA q (upd (upd (clr ρ a i) (31 + c) (-1)) (95 + c) (nI (0))))) [0, 1, 2, 3, 4, 5, 6, 7, 8, 9] (c_X1_fill l D cA cB q (clr ρ a i) (c) (by omega) (-1) (nI (0))) kv_X1_fill ml_X2_81 dX2_takeUp_96 rfl rfl rfl rfl rfl rfl rfl rfl (by decide) (fun _ => rfl) rfl rfl (Nat.le_of_ble_eq_true rfl) (fun v u h => ?_)
          subst h
          refine r_st (st' := []) rfl ?_
          refine r_iinc (v := nI (c + 1)) ([some (.ref (p 0)), some (.ref (q 0)), some (.int (nI a)), some (.int (nI n)), some (.int (nI (c + 1)))]) dX2_takeUp_99 rfl (nI_1 _) (Nat.le_of_ble_eq_true rfl) rfl rfl ?_
          refine r_goto 13 dX2_takeUp_102 (by decide) ?_
          refine r_ws (ws' := spW cA p (tkG ρ (kv ρ) a K (i + 1)) (tkG ρ (vv ρ) a V (i + 1)) (tkG ρ nI a C (i + 1)) (nI (x + 1)) (-1) ++ (rowW cA q (clr ρ a (i + 1)))) (by subst hc; subst hx; rw [tkG_s1 h3, tkG_s1 h3, tkG_s1 h3, clr_s1 h3]; rfl) ?_
          exact ih (i + 1) _ _ (by omega) (by rw [hx, cnt_s1 (by rw [← hc]; exact h3)]) (by omega) (by omega)

set_option maxRecDepth 100000 in
set_option maxHeartbeats 4000000 in
theorem c_X2_takeUp (l : Launch) (D : va_G) (cA cB : ClassId) (p q : Nat → Nat) (ρ K V C : Nat → Int32) (h0 w0 : Int32) (a n : Nat) (hn : a + n ≤ 64) : Mt l D (tyS cA cB) yX2_takeUp cX2_takeUp 5 none ({ frames := 1, cells := 0, slots := 0, locals := 23 } : Room) [.ref (p 0), .ref (q 0), .int (nI a), .int (nI n)] (spW cA p K V C (h0) (w0) ++ (rowW cA q ρ)) Unit (fun v _ => v = none) (fun _ => spW cA p (tkG ρ (kv ρ) a K n) (tkG ρ (vv ρ) a V n) (tkG ρ nI a C n) (nI (cnt ρ a n)) (-1) ++ (rowW cA q (clr ρ a n))) 0 0 := by
  refine mt_in RX2 ([some (.ref (p 0)), some (.ref (q 0)), some (.int (nI a)), some (.int (nI n)), none]) rfl (by decide +kernel) rfl (Nat.le_of_ble_eq_true rfl) rfl rfl (fun X sz => ?_)
  refine r_aload_n 0 dX2_takeUp_0 rfl rfl ?_
  refine r_iconst (nI 0) dX2_takeUp_1 (by decide +kernel) ?_
  refine r_put 0 ([(p 0, .inr (2, [.ref (p 1), .ref (p 2), .ref (p 3), .int (nI 0), .int (w0)])), (p 1, .inl (cA, 64, .inl (K))), (p 2, .inl (cA, 64, .inl (V))), (p 3, .inl (cA, 64, .inl (C)))] ++ (rowW cA q ρ)) fk_X2_98 dX2_takeUp_2 rfl rfl rfl rfl (Nat.le_of_ble_eq_true rfl) rfl ?_
  refine r_aload_n 0 dX2_takeUp_5 rfl rfl ?_
  refine r_iconst (-1) dX2_takeUp_6 (by decide +kernel) ?_
  refine r_put 0 ([(p 0, .inr (2, [.ref (p 1), .ref (p 2), .ref (p 3), .int (nI 0), .int (-1)])), (p 1, .inl (cA, 64, .inl (K))), (p 2, .inl (cA, 64, .inl (V))), (p 3, .inl (cA, 64, .inl (C)))] ++ (rowW cA q ρ)) fk_X2_101 dX2_takeUp_7 rfl rfl rfl rfl (Nat.le_of_ble_eq_true rfl) rfl ?_
  refine r_iload_n 2 dX2_takeUp_10 rfl rfl ?_
  refine r_istore ([some (.ref (p 0)), some (.ref (q 0)), some (.int (nI a)), some (.int (nI n)), some (.int (nI a))]) dX2_takeUp_11 (Nat.le_of_ble_eq_true rfl) rfl rfl ?_
  refine r_ws (ws' := spW cA p (tkG ρ (kv ρ) a K 0) (tkG ρ (vv ρ) a V 0) (tkG ρ nI a C 0) (nI (0)) (-1) ++ (rowW cA q (clr ρ a 0))) rfl ?_
  exact lp_X2_takeUp l D cA cB p q ρ K V C h0 w0 a n hn X sz (n + 1) 0 a 0 rfl rfl (by omega) (by omega)

set_option maxRecDepth 100000 in
set_option maxHeartbeats 4000000 in
theorem lp_X2_takeIn (l : Launch) (D : va_G) (cA cB : ClassId) (p : Nat → Nat) (K V C : Nat → Int32) (h : Nat) (hh : h < 64) (w0 k v : Int32) (X : Cx) (sz : Nat) : ∀ (f j : Nat), j ≤ h → j < f → insP K k h = insP K k j → G l X ({ frames := 0, cells := 0, slots := 0, locals := 0 } : Room) cX2_takeIn RX2 none D (tyS cA cB) (va_A (spW cA p K V C (nI (h)) (w0)) sz) (QX X D (tyS cA cB) (spW cA p K V C (nI (h)) (w0)) sz Unit (fun v _ => v = none) (fun _ => spW cA p (insA K (insP K k h) h k) (insA V (insP K k h) h v) (insA C (insP K k h) h (-1)) (nI (h + 1)) (nI (insP K k h))) 0 0) 0 0 (spW cA p (shi K j h) (shi V j h) (shi C j h) (nI (h)) (w0)) 15 ([some (.ref (p 0)), some (.int (k)), some (.int (v)), some (.int (nI j))]) [] := by
  intro f
  induction f with
  | zero => intro j h1 h2; omega
  | succ f ih =>
    intro j hjh hf he
    refine r_iload_n 3 dX2_takeIn_15 rfl rfl ?_
    refine r_if_le 79 dX2_takeIn_16 (by decide) (fun h1 => ?_) (fun h1 => ?_)
    · have hj : insP K k h = j := by have z := (nI_le_iff (a := j) (b := 0) (by omega) (by decide)).mp h1; rw [he, show j = 0 by omega]; rfl
      refine r_aload_n 0 dX2_takeIn_79 rfl rfl ?_
      refine r_get 0 fk_X2_9 dX2_takeIn_80 rfl rfl ?_
      refine r_iload_n 3 dX2_takeIn_83 rfl rfl ?_
      refine r_iload_n 1 dX2_takeIn_84 rfl rfl ?_
      refine r_iast 1 (j) ([(p 0, .inr (2, [.ref (p 1), .ref (p 2), .ref (p 3), .int (nI h), .int (w0)])), (p 1, .inl (cA, 64, .inl (upd (shi K j h) j k))), (p 2, .inl (cA, 64, .inl (shi V j h))), (p 3, .inl (cA, 64, .inl (shi C j h)))]) dX2_takeIn_85 rfl rfl rfl (by omega) (Nat.le_of_ble_eq_true rfl) rfl ?_
      refine r_aload_n 0 dX2_takeIn_86 rfl rfl ?_
      refine r_get 0 fk_X2_15 dX2_takeIn_87 rfl rfl ?_
      refine r_iload_n 3 dX2_takeIn_90 rfl rfl ?_
      refine r_iload_n 2 dX2_takeIn_91 rfl rfl ?_
      refine r_iast 2 (j) ([(p 0, .inr (2, [.ref (p 1), .ref (p 2), .ref (p 3), .int (nI h), .int (w0)])), (p 1, .inl (cA, 64, .inl (upd (shi K j h) j k))), (p 2, .inl (cA, 64, .inl (upd (shi V j h) j v))), (p 3, .inl (cA, 64, .inl (shi C j h)))]) dX2_takeIn_92 rfl rfl rfl (by omega) (Nat.le_of_ble_eq_true rfl) rfl ?_
      refine r_aload_n 0 dX2_takeIn_93 rfl rfl ?_
      refine r_get 0 fk_X2_18 dX2_takeIn_94 rfl rfl ?_
      refine r_iload_n 3 dX2_takeIn_97 rfl rfl ?_
      refine r_iconst (-1) dX2_takeIn_98 (by decide +kernel) ?_
      refine r_iast 3 (j) ([(p 0, .inr (2, [.ref (p 1), .ref (p 2), .ref (p 3), .int (nI h), .int (w0)])), (p 1, .inl (cA, 64, .inl (upd (shi K j h) j k))), (p 2, .inl (cA, 64, .inl (upd (shi V j h) j v))), (p 3, .inl (cA, 64, .inl (upd (shi C j h) j (-1))))]) dX2_takeIn_99 rfl rfl rfl (by omega) (Nat.le_of_ble_eq_true rfl) rfl ?_
      refine r_aload_n 0 dX2_takeIn_100 rfl rfl ?_
      refine r_iload_n 3 dX2_takeIn_101 rfl rfl ?_
      refine r_put 0 ([(p 0, .inr (2, [.ref (p 1), .ref (p 2), .ref (p 3), .int (nI h), .int (nI j)])), (p 1, .inl (cA, 64, .inl (upd (shi K j h) j k))), (p 2, .inl (cA, 64, .inl (upd (shi V j h) j v))), (p 3, .inl (cA, 64, .inl (upd (shi C j h) j (-1))))]) fk_X2_101 dX2_takeIn_102 rfl rfl rfl rfl (Nat.le_of_ble_eq_true rfl) rfl ?_
      refine r_aload_n 0 dX2_takeIn_105 rfl rfl ?_
      refine r_dup rfl dX2_takeIn_106 ?_
      refine r_get 0 fk_X2_98 dX2_takeIn_107 rfl rfl ?_
      refine r_iconst (nI 1) dX2_takeIn_110 (by decide +kernel) ?_
      refine r_niadd dX2_takeIn_111 ?_
      refine r_put 0 ([(p 0, .inr (2, [.ref (p 1), .ref (p 2), .ref (p 3), .int (nI (h + 1)), .int (nI j)])), (p 1, .inl (cA, 64, .inl (upd (shi K j h) j k))), (p 2, .inl (cA, 64, .inl (upd (shi V j h) j v))), (p 3, .inl (cA, 64, .inl (upd (shi C j h) j (-1))))]) fk_X2_98 dX2_takeIn_112 rfl rfl rfl rfl (Nat.le_of_ble_eq_true rfl) rfl ?_
      exact r_vret (()) dX2_takeIn_115 (rfl) (by rw [hj]; rfl)
    · have hp0 : 0 < j := by rcases Nat.eq_zero_or_pos j with z | z; exact absurd (by rw [z]; exact Int32.le_refl _) h1; exact z
      refine r_aload_n 0 dX2_takeIn_19 rfl rfl ?_
      refine r_get 0 fk_X2_9 dX2_takeIn_20 rfl rfl ?_
      refine r_iload_n 3 dX2_takeIn_23 rfl rfl ?_
      refine r_iconst (nI 1) dX2_takeIn_24 (by decide +kernel) ?_
      refine r_nisub (by omega) dX2_takeIn_25 ?_
      refine r_iald 1 (j - 1) dX2_takeIn_26 rfl rfl rfl (by omega) (Nat.le_of_ble_eq_true rfl) ?_
      refine r_top (shi_lo hp0) ?_
      refine r_iload_n 1 dX2_takeIn_27 rfl rfl ?_
      refine r_icmp_le 79 dX2_takeIn_28 (by decide) (fun h2 => ?_) (fun h2 => ?_)
      · have hj : insP K k h = j := by rw [he]; obtain ⟨d, rfl⟩ : ∃ d, j = d + 1 := ⟨j - 1, by omega⟩; exact if_neg (Int32.not_lt.mpr h2)
        refine r_aload_n 0 dX2_takeIn_79 rfl rfl ?_
        refine r_get 0 fk_X2_9 dX2_takeIn_80 rfl rfl ?_
        refine r_iload_n 3 dX2_takeIn_83 rfl rfl ?_
        refine r_iload_n 1 dX2_takeIn_84 rfl rfl ?_
        refine r_iast 1 (j) ([(p 0, .inr (2, [.ref (p 1), .ref (p 2), .ref (p 3), .int (nI h), .int (w0)])), (p 1, .inl (cA, 64, .inl (upd (shi K j h) j k))), (p 2, .inl (cA, 64, .inl (shi V j h))), (p 3, .inl (cA, 64, .inl (shi C j h)))]) dX2_takeIn_85 rfl rfl rfl (by omega) (Nat.le_of_ble_eq_true rfl) rfl ?_
        refine r_aload_n 0 dX2_takeIn_86 rfl rfl ?_
        refine r_get 0 fk_X2_15 dX2_takeIn_87 rfl rfl ?_
        refine r_iload_n 3 dX2_takeIn_90 rfl rfl ?_
        refine r_iload_n 2 dX2_takeIn_91 rfl rfl ?_
        refine r_iast 2 (j) ([(p 0, .inr (2, [.ref (p 1), .ref (p 2), .ref (p 3), .int (nI h), .int (w0)])), (p 1, .inl (cA, 64, .inl (upd (shi K j h) j k))), (p 2, .inl (cA, 64, .inl (upd (shi V j h) j v))), (p 3, .inl (cA, 64, .inl (shi C j h)))]) dX2_takeIn_92 rfl rfl rfl (by omega) (Nat.le_of_ble_eq_true rfl) rfl ?_
        refine r_aload_n 0 dX2_takeIn_93 rfl rfl ?_
        refine r_get 0 fk_X2_18 dX2_takeIn_94 rfl rfl ?_
        refine r_iload_n 3 dX2_takeIn_97 rfl rfl ?_
        refine r_iconst (-1) dX2_takeIn_98 (by decide +kernel) ?_
        refine r_iast 3 (j) ([(p 0, .inr (2, [.ref (p 1), .ref (p 2), .ref (p 3), .int (nI h), .int (w0)])), (p 1, .inl (cA, 64, .inl (upd (shi K j h) j k))), (p 2, .inl (cA, 64, .inl (upd (shi V j h) j v))), (p 3, .inl (cA, 64, .inl (upd (shi C j h) j (-1))))]) dX2_takeIn_99 rfl rfl rfl (by omega) (Nat.le_of_ble_eq_true rfl) rfl ?_
        refine r_aload_n 0 dX2_takeIn_100 rfl rfl ?_
        refine r_iload_n 3 dX2_takeIn_101 rfl rfl ?_
        refine r_put 0 ([(p 0, .inr (2, [.ref (p 1), .ref (p 2), .ref (p 3), .int (nI h), .int (nI j)])), (p 1, .inl (cA, 64, .inl (upd (shi K j h) j k))), (p 2, .inl (cA, 64, .inl (upd (shi V j h) j v))), (p 3, .inl (cA, 64, .inl (upd (shi C j h) j (-1))))]) fk_X2_101 dX2_takeIn_102 rfl rfl rfl rfl (Nat.le_of_ble_eq_true rfl) rfl ?_
        refine r_aload_n 0 dX2_takeIn_105 rfl rfl ?_
        refine r_dup rfl dX2_takeIn_106 ?_
        refine r_get 0 fk_X2_98 dX2_takeIn_107 rfl rfl ?_
        refine r_iconst (nI 1) dX2_takeIn_110 (by decide +kernel) ?_
        refine r_niadd dX2_takeIn_111 ?_
        refine r_put 0 ([(p 0, .inr (2, [.ref (p 1), .ref (p 2), .ref (p 3), .int (nI (h + 1)), .int (nI j)])), (p 1, .inl (cA, 64, .inl (upd (shi K j h) j k))), (p 2, .inl (cA, 64, .inl (upd (shi V j h) j v))), (p 3, .inl (cA, 64, .inl (upd (shi C j h) j (-1))))]) fk_X2_98 dX2_takeIn_112 rfl rfl rfl rfl (Nat.le_of_ble_eq_true rfl) rfl ?_
        exact r_vret (()) dX2_takeIn_115 (rfl) (by rw [hj]; rfl)
      · refine r_aload_n 0 dX2_takeIn_31 rfl rfl ?_
        refine r_get 0 fk_X2_9 dX2_takeIn_32 rfl rfl ?_
        refine r_iload_n 3 dX2_takeIn_35 rfl rfl ?_
        refine r_aload_n 0 dX2_takeIn_36 rfl rfl ?_
        refine r_get 0 fk_X2_9 dX2_takeIn_37 rfl rfl ?_
        refine r_iload_n 3 dX2_takeIn_40 rfl rfl ?_
        refine r_iconst (nI 1) dX2_takeIn_41 (by decide +kernel) ?_
        refine r_nisub (by omega) dX2_takeIn_42 ?_
        refine r_iald 1 (j - 1) dX2_takeIn_43 rfl rfl rfl (by omega) (Nat.le_of_ble_eq_true rfl) ?_
        refine r_top (shi_lo hp0) ?_
        refine r_iast 1 (j) ([(p 0, .inr (2, [.ref (p 1), .ref (p 2), .ref (p 3), .int (nI h), .int (w0)])), (p 1, .inl (cA, 64, .inl (upd (shi K j h) j (K (j - 1))))), (p 2, .inl (cA, 64, .inl (shi V j h))), (p 3, .inl (cA, 64, .inl (shi C j h)))]) dX2_takeIn_44 rfl rfl rfl (by omega) (Nat.le_of_ble_eq_true rfl) rfl ?_
        refine r_ws (ws' := [(p 0, .inr (2, [.ref (p 1), .ref (p 2), .ref (p 3), .int (nI h), .int (w0)])), (p 1, .inl (cA, 64, .inl (shi K (j - 1) h))), (p 2, .inl (cA, 64, .inl (shi V j h))), (p 3, .inl (cA, 64, .inl (shi C j h)))]) (by rw [shi_step (by omega) (by omega)]) ?_
        refine r_aload_n 0 dX2_takeIn_45 rfl rfl ?_
        refine r_get 0 fk_X2_15 dX2_takeIn_46 rfl rfl ?_
        refine r_iload_n 3 dX2_takeIn_49 rfl rfl ?_
        refine r_aload_n 0 dX2_takeIn_50 rfl rfl ?_
        refine r_get 0 fk_X2_15 dX2_takeIn_51 rfl rfl ?_
        refine r_iload_n 3 dX2_takeIn_54 rfl rfl ?_
        refine r_iconst (nI 1) dX2_takeIn_55 (by decide +kernel) ?_
        refine r_nisub (by omega) dX2_takeIn_56 ?_
        refine r_iald 2 (j - 1) dX2_takeIn_57 rfl rfl rfl (by omega) (Nat.le_of_ble_eq_true rfl) ?_
        refine r_top (shi_lo hp0) ?_
        refine r_iast 2 (j) ([(p 0, .inr (2, [.ref (p 1), .ref (p 2), .ref (p 3), .int (nI h), .int (w0)])), (p 1, .inl (cA, 64, .inl (shi K (j - 1) h))), (p 2, .inl (cA, 64, .inl (upd (shi V j h) j (V (j - 1))))), (p 3, .inl (cA, 64, .inl (shi C j h)))]) dX2_takeIn_58 rfl rfl rfl (by omega) (Nat.le_of_ble_eq_true rfl) rfl ?_
        refine r_ws (ws' := [(p 0, .inr (2, [.ref (p 1), .ref (p 2), .ref (p 3), .int (nI h), .int (w0)])), (p 1, .inl (cA, 64, .inl (shi K (j - 1) h))), (p 2, .inl (cA, 64, .inl (shi V (j - 1) h))), (p 3, .inl (cA, 64, .inl (shi C j h)))]) (by rw [shi_step (by omega) (by omega)]) ?_
        refine r_aload_n 0 dX2_takeIn_59 rfl rfl ?_
        refine r_get 0 fk_X2_18 dX2_takeIn_60 rfl rfl ?_
        refine r_iload_n 3 dX2_takeIn_63 rfl rfl ?_
        refine r_aload_n 0 dX2_takeIn_64 rfl rfl ?_
        refine r_get 0 fk_X2_18 dX2_takeIn_65 rfl rfl ?_
        refine r_iload_n 3 dX2_takeIn_68 rfl rfl ?_
        refine r_iconst (nI 1) dX2_takeIn_69 (by decide +kernel) ?_
        refine r_nisub (by omega) dX2_takeIn_70 ?_
        refine r_iald 3 (j - 1) dX2_takeIn_71 rfl rfl rfl (by omega) (Nat.le_of_ble_eq_true rfl) ?_
        refine r_top (shi_lo hp0) ?_
        refine r_iast 3 (j) ([(p 0, .inr (2, [.ref (p 1), .ref (p 2), .ref (p 3), .int (nI h), .int (w0)])), (p 1, .inl (cA, 64, .inl (shi K (j - 1) h))), (p 2, .inl (cA, 64, .inl (shi V (j - 1) h))), (p 3, .inl (cA, 64, .inl (upd (shi C j h) j (C (j - 1)))))]) dX2_takeIn_72 rfl rfl rfl (by omega) (Nat.le_of_ble_eq_true rfl) rfl ?_
        refine r_ws (ws' := [(p 0, .inr (2, [.ref (p 1), .ref (p 2), .ref (p 3), .int (nI h), .int (w0)])), (p 1, .inl (cA, 64, .inl (shi K (j - 1) h))), (p 2, .inl (cA, 64, .inl (shi V (j - 1) h))), (p 3, .inl (cA, 64, .inl (shi C (j - 1) h)))]) (by rw [shi_step (by omega) (by omega)]) ?_
        refine r_iinc (v := nI (j - 1)) ([some (.ref (p 0)), some (.int (k)), some (.int (v)), some (.int (nI (j - 1)))]) dX2_takeIn_73 rfl (nI_m1 (by omega)) (Nat.le_of_ble_eq_true rfl) rfl rfl ?_
        refine r_goto 15 dX2_takeIn_76 (by decide) ?_
        refine r_ws (ws' := spW cA p (shi K (j - 1) h) (shi V (j - 1) h) (shi C (j - 1) h) (nI (h)) (w0)) rfl ?_
        exact ih _ (by omega) (by omega) (by rw [he]; obtain ⟨d, rfl⟩ : ∃ d, j = d + 1 := ⟨j - 1, by omega⟩; exact if_pos (Int32.not_le.mp h2))

set_option maxRecDepth 100000 in
set_option maxHeartbeats 4000000 in
theorem c_X2_takeIn (l : Launch) (D : va_G) (cA cB : ClassId) (p : Nat → Nat) (K V C : Nat → Int32) (h : Nat) (hh : h < 64) (w0 k v : Int32) : Mt l D (tyS cA cB) yX2_takeIn cX2_takeIn 4 none ({ frames := 0, cells := 0, slots := 0, locals := 0 } : Room) [.ref (p 0), .int (k), .int (v)] (spW cA p K V C (nI (h)) (w0)) Unit (fun v _ => v = none) (fun _ => spW cA p (insA K (insP K k h) h k) (insA V (insP K k h) h v) (insA C (insP K k h) h (-1)) (nI (h + 1)) (nI (insP K k h))) 0 0 := by
  refine mt_in RX2 ([some (.ref (p 0)), some (.int (k)), some (.int (v)), none]) rfl (by decide +kernel) rfl (Nat.le_of_ble_eq_true rfl) rfl rfl (fun X sz => ?_)
  refine r_aload_n 0 dX2_takeIn_0 rfl rfl ?_
  refine r_get 0 fk_X2_98 dX2_takeIn_1 rfl rfl ?_
  refine r_bipush (nI 64) dX2_takeIn_4 (by decide +kernel) ?_
  refine r_ncmp_lt 10 (by omega) (by omega) dX2_takeIn_6 (by decide) (fun h1 => ?_) (fun h1 => ?_)
  · refine r_aload_n 0 dX2_takeIn_10 rfl rfl ?_
    refine r_get 0 fk_X2_98 dX2_takeIn_11 rfl rfl ?_
    refine r_istore_n 3 ([some (.ref (p 0)), some (.int (k)), some (.int (v)), some (.int (nI h))]) dX2_takeIn_14 rfl (Nat.le_of_ble_eq_true rfl) rfl rfl ?_
    refine r_ws (ws' := spW cA p (shi K h h) (shi V h h) (shi C h h) (nI (h)) (w0)) (by rw [shi_h, shi_h, shi_h]) ?_
    exact lp_X2_takeIn l D cA cB p K V C h hh w0 k v X sz (h + 1) h (by omega) (by omega) rfl
  · omega

set_option maxRecDepth 100000 in
set_option maxHeartbeats 4000000 in
theorem lp_X2_layDown (l : Launch) (D : va_G) (cA cB : ClassId) (p q : Nat → Nat) (ρ K V C : Nat → Int32) (h : Nat) (w : Int32) (g a n : Nat) (hg : ρ 6 = nI g) (hg8 : g ≤ 8) (hn : a + n ≤ 64) (hh : h ≤ n) (X : Cx) (sz : Nat) : ∀ (gp : Nat), gp = (if lnB ρ w then (n - h) / 2 else 0) → ∀ (f j mv : Nat), mv = mvF C (pz ρ a n h w) j → j ≤ h → h < j + f → G l X ({ frames := 1, cells := 0, slots := 0, locals := 24 } : Room) cX2_layDown RX2 (some .int) D (tyS cA cB) (va_A (spW cA p K V C (nI (h)) (w) ++ (rowW cA q ρ)) sz) (QX X D (tyS cA cB) (spW cA p K V C (nI (h)) (w) ++ (rowW cA q ρ)) sz Unit (fun v _ => v = some (.int (nI (mvAll ρ C h w a n)))) (fun _ => spW cA p K V C (nI h) w ++ (rowW cA q (layAll ρ K V C h w a n g))) 0 0) 0 0 (spW cA p K V C (nI (h)) (w) ++ (rowW cA q (layF ρ K V (pz ρ a n h w) j))) 48 ([some (.ref (p 0)), some (.ref (q 0)), some (.int (nI a)), some (.int (nI n)), some (.int (bI (lnB ρ w))), some (.int (nI gp)), some (.int (nI mv)), some (.int (nI j)), none]) [] := by
  intro gp hgp f
  have hgn : gp ≤ n := by rw [hgp]; split <;> omega
  induction f with
  | zero => intro j mv _ h1 h2; omega
  | succ f ih =>
    intro j mv hmv hj hf
    have hmj := mvF_le C (pz ρ a n h w) j
    refine r_iload dX2_layDown_48 rfl ?_
    refine r_aload_n 0 dX2_layDown_50 rfl rfl ?_
    refine r_get 0 fk_X2_98 dX2_layDown_51 rfl rfl ?_
    refine r_ncmp_ge 142 (by omega) (by omega) dX2_layDown_54 (by decide) (fun h1 => ?_) (fun h1 => ?_)
    · refine r_aload_n 1 dX2_layDown_142 rfl rfl ?_
      refine r_iload_n 2 dX2_layDown_143 rfl rfl ?_
      refine r_iload_n 3 dX2_layDown_144 rfl rfl ?_
      refine r_iload dX2_layDown_145 rfl ?_
      refine r_callV (As := [.int (nI a), .int (nI n), .int (nI mv)]) (st := []) [4, 5, 6, 7, 8, 9] [0, 1, 2, 3] (fun _ => spW cA p K V C (nI (h)) (w) ++ (rowW cA q (noteF (layF ρ K V (pz ρ a n h w) j) g (nI (a)) (nI (n)) (nI (mv))))) [0, 1, 2, 3, 4, 5, 6, 7, 8, 9] (c_X1_note l D cA cB q (layF ρ K V (pz ρ a n h w) j) g (by rw [layF_low (by omega)]; exact hg) hg8 (nI (a)) (nI (n)) (nI (mv))) kv_X1_note ml_X2_110 dX2_layDown_147 rfl rfl rfl rfl rfl rfl rfl rfl (by decide) (fun _ => rfl) rfl rfl (Nat.le_of_ble_eq_true rfl) (fun v u h => ?_)
      subst h
      refine r_st (st' := []) rfl ?_
      refine r_iload dX2_layDown_150 rfl ?_
      exact r_iret (()) dX2_layDown_152 (by rw [hmv, show j = h by omega]; rfl) (by rw [hmv, show j = h by omega]; rfl)
    · refine r_iload dX2_layDown_57 rfl ?_
      refine r_bipush (nI 64) dX2_layDown_59 (by decide +kernel) ?_
      refine r_ncmp_ge 142 (by omega) (by omega) dX2_layDown_61 (by decide) (fun h2 => ?_) (fun h2 => ?_)
      · omega
      · have hm : j * (n - gp) ≤ 64 * 64 := Nat.mul_le_mul (by omega) (by omega)
        have hdv := Nat.div_le_self (j * (n - gp)) h
        have hpl := pos_lt (a := a) (le := lnB ρ w) (w := w) (show j < h by omega) hh
        refine r_iload_n 2 dX2_layDown_64 rfl rfl ?_
        refine r_iload dX2_layDown_65 rfl ?_
        refine r_iload_n 3 dX2_layDown_67 rfl rfl ?_
        refine r_iload dX2_layDown_68 rfl ?_
        refine r_nisub (by omega) dX2_layDown_70 ?_
        refine r_nimul dX2_layDown_71 ?_
        refine r_aload_n 0 dX2_layDown_72 rfl rfl ?_
        refine r_get 0 fk_X2_98 dX2_layDown_73 rfl rfl ?_
        refine r_nidiv (by omega) (by omega) (by omega) dX2_layDown_76 ?_
        refine r_niadd dX2_layDown_77 ?_
        refine r_istore ([some (.ref (p 0)), some (.ref (q 0)), some (.int (nI a)), some (.int (nI n)), some (.int (bI (lnB ρ w))), some (.int (nI gp)), some (.int (nI mv)), some (.int (nI j)), some (.int (nI (a + ((j * (n - gp)) / h))))]) dX2_layDown_78 (Nat.le_of_ble_eq_true rfl) rfl rfl ?_
        refine r_iload dX2_layDown_80 rfl ?_
        refine r_bif_eq 101 dX2_layDown_82 (by decide) (fun h3 => ?_) (fun h3 => ?_)
        · have hpos : pz ρ a n h w j = a + ((j * (n - gp)) / h) := by unfold pz posF; rw [hgp, h3]; simp
          refine r_lv (lv' := [some (.ref (p 0)), some (.ref (q 0)), some (.int (nI a)), some (.int (nI n)), some (.int (bI (lnB ρ w))), some (.int (nI gp)), some (.int (nI mv)), some (.int (nI j)), some (.int (nI (pz ρ a n h w j)))]) (by rw [hpos]) ?_
          have hpl2 : pz ρ a n h w j < a + n := hpl
          refine r_aload_n 1 dX2_layDown_101 rfl rfl ?_
          refine r_iload dX2_layDown_102 rfl ?_
          refine r_aload_n 0 dX2_layDown_104 rfl rfl ?_
          refine r_get 0 fk_X2_9 dX2_layDown_105 rfl rfl ?_
          refine r_iload dX2_layDown_108 rfl ?_
          refine r_iald 1 (j) dX2_layDown_110 rfl rfl rfl (by omega) (Nat.le_of_ble_eq_true rfl) ?_
          refine r_aload_n 0 dX2_layDown_111 rfl rfl ?_
          refine r_get 0 fk_X2_15 dX2_layDown_112 rfl rfl ?_
          refine r_iload dX2_layDown_115 rfl ?_
          refine r_iald 2 (j) dX2_layDown_117 rfl rfl rfl (by omega) (Nat.le_of_ble_eq_true rfl) ?_
          refine r_callV (As := [.int (nI (pz ρ a n h w j)), .int (K j), .int (V j)]) (st := []) [4, 5, 6, 7, 8, 9] [0, 1, 2, 3] (fun _ => spW cA p K V C (nI (h)) (w) ++ (rowW cA q (upd (upd (layF ρ K V (pz ρ a n h w) j) (31 + (pz ρ a n h w j)) (K j)) (95 + (pz ρ a n h w j)) (V j)))) [0, 1, 2, 3, 4, 5, 6, 7, 8, 9] (c_X1_fill l D cA cB q (layF ρ K V (pz ρ a n h w) j) (pz ρ a n h w j) (by omega) (K j) (V j)) kv_X1_fill ml_X2_81 dX2_layDown_118 rfl rfl rfl rfl rfl rfl rfl rfl (by decide) (fun _ => rfl) rfl rfl (Nat.le_of_ble_eq_true rfl) (fun v u h => ?_)
          subst h
          refine r_st (st' := []) rfl ?_
          refine r_iload dX2_layDown_121 rfl ?_
          refine r_aload_n 0 dX2_layDown_123 rfl rfl ?_
          refine r_get 0 fk_X2_18 dX2_layDown_124 rfl rfl ?_
          refine r_iload dX2_layDown_127 rfl ?_
          refine r_iald 3 (j) dX2_layDown_129 rfl rfl rfl (by omega) (Nat.le_of_ble_eq_true rfl) ?_
          refine r_icmp_eq 136 dX2_layDown_130 (by decide) (fun h4 => ?_) (fun h4 => ?_)
          · refine r_iinc (v := nI (j + 1)) ([some (.ref (p 0)), some (.ref (q 0)), some (.int (nI a)), some (.int (nI n)), some (.int (bI (lnB ρ w))), some (.int (nI gp)), some (.int (nI mv)), some (.int (nI (j + 1))), some (.int (nI (pz ρ a n h w j)))]) dX2_layDown_136 rfl (nI_1 _) (Nat.le_of_ble_eq_true rfl) rfl rfl ?_
            refine r_goto 48 dX2_layDown_139 (by decide) ?_
            refine r_drop (lv' := [some (.ref (p 0)), some (.ref (q 0)), some (.int (nI a)), some (.int (nI n)), some (.int (bI (lnB ρ w))), some (.int (nI gp)), some (.int (nI mv)), some (.int (nI (j + 1))), none]) 8 rfl ?_
            refine r_ws (ws' := spW cA p K V C (nI (h)) (w) ++ (rowW cA q (layF ρ K V (pz ρ a n h w) (j + 1)))) rfl ?_
            exact ih (j + 1) _ (by rw [hmv, mvF_s0 h4]) (by omega) (by omega)
          · refine r_iinc (v := nI (mv + 1)) ([some (.ref (p 0)), some (.ref (q 0)), some (.int (nI a)), some (.int (nI n)), some (.int (bI (lnB ρ w))), some (.int (nI gp)), some (.int (nI (mv + 1))), some (.int (nI j)), some (.int (nI (pz ρ a n h w j)))]) dX2_layDown_133 rfl (nI_1 _) (Nat.le_of_ble_eq_true rfl) rfl rfl ?_
            refine r_iinc (v := nI (j + 1)) ([some (.ref (p 0)), some (.ref (q 0)), some (.int (nI a)), some (.int (nI n)), some (.int (bI (lnB ρ w))), some (.int (nI gp)), some (.int (nI (mv + 1))), some (.int (nI (j + 1))), some (.int (nI (pz ρ a n h w j)))]) dX2_layDown_136 rfl (nI_1 _) (Nat.le_of_ble_eq_true rfl) rfl rfl ?_
            refine r_goto 48 dX2_layDown_139 (by decide) ?_
            refine r_drop (lv' := [some (.ref (p 0)), some (.ref (q 0)), some (.int (nI a)), some (.int (nI n)), some (.int (bI (lnB ρ w))), some (.int (nI gp)), some (.int (nI (mv + 1))), some (.int (nI (j + 1))), none]) 8 rfl ?_
            refine r_ws (ws' := spW cA p K V C (nI (h)) (w) ++ (rowW cA q (layF ρ K V (pz ρ a n h w) (j + 1)))) rfl ?_
            exact ih (j + 1) _ (by rw [hmv, mvF_s1 h4]) (by omega) (by omega)
        · refine r_iload dX2_layDown_85 rfl ?_
          refine r_aload_n 0 dX2_layDown_87 rfl rfl ?_
          refine r_get 0 fk_X2_101 dX2_layDown_88 rfl rfl ?_
          refine r_icmp_le 101 dX2_layDown_91 (by decide) (fun h5 => ?_) (fun h5 => ?_)
          · have hpos : pz ρ a n h w j = a + ((j * (n - gp)) / h) := by unfold pz posF; rw [hgp, h3, decide_eq_false (Int32.not_lt.mpr h5)]; simp
            refine r_lv (lv' := [some (.ref (p 0)), some (.ref (q 0)), some (.int (nI a)), some (.int (nI n)), some (.int (bI (lnB ρ w))), some (.int (nI gp)), some (.int (nI mv)), some (.int (nI j)), some (.int (nI (pz ρ a n h w j)))]) (by rw [hpos]) ?_
            have hpl2 : pz ρ a n h w j < a + n := hpl
            refine r_aload_n 1 dX2_layDown_101 rfl rfl ?_
            refine r_iload dX2_layDown_102 rfl ?_
            refine r_aload_n 0 dX2_layDown_104 rfl rfl ?_
            refine r_get 0 fk_X2_9 dX2_layDown_105 rfl rfl ?_
            refine r_iload dX2_layDown_108 rfl ?_
            refine r_iald 1 (j) dX2_layDown_110 rfl rfl rfl (by omega) (Nat.le_of_ble_eq_true rfl) ?_
            refine r_aload_n 0 dX2_layDown_111 rfl rfl ?_
            refine r_get 0 fk_X2_15 dX2_layDown_112 rfl rfl ?_
            refine r_iload dX2_layDown_115 rfl ?_
            refine r_iald 2 (j) dX2_layDown_117 rfl rfl rfl (by omega) (Nat.le_of_ble_eq_true rfl) ?_
            refine r_callV (As := [.int (nI (pz ρ a n h w j)), .int (K j), .int (V j)]) (st := []) [4, 5, 6, 7, 8, 9] [0, 1, 2, 3] (fun _ => spW cA p K V C (nI (h)) (w) ++ (rowW cA q (upd (upd (layF ρ K V (pz ρ a n h w) j) (31 + (pz ρ a n h w j)) (K j)) (95 + (pz ρ a n h w j)) (V j)))) [0, 1, 2, 3, 4, 5, 6, 7, 8, 9] (c_X1_fill l D cA cB q (layF ρ K V (pz ρ a n h w) j) (pz ρ a n h w j) (by omega) (K j) (V j)) kv_X1_fill ml_X2_81 dX2_layDown_118 rfl rfl rfl rfl rfl rfl rfl rfl (by decide) (fun _ => rfl) rfl rfl (Nat.le_of_ble_eq_true rfl) (fun v u h => ?_)
            subst h
            refine r_st (st' := []) rfl ?_
            refine r_iload dX2_layDown_121 rfl ?_
            refine r_aload_n 0 dX2_layDown_123 rfl rfl ?_
            refine r_get 0 fk_X2_18 dX2_layDown_124 rfl rfl ?_
            refine r_iload dX2_layDown_127 rfl ?_
            refine r_iald 3 (j) dX2_layDown_129 rfl rfl rfl (by omega) (Nat.le_of_ble_eq_true rfl) ?_
            refine r_icmp_eq 136 dX2_layDown_130 (by decide) (fun h6 => ?_) (fun h6 => ?_)
            · refine r_iinc (v := nI (j + 1)) ([some (.ref (p 0)), some (.ref (q 0)), some (.int (nI a)), some (.int (nI n)), some (.int (bI (lnB ρ w))), some (.int (nI gp)), some (.int (nI mv)), some (.int (nI (j + 1))), some (.int (nI (pz ρ a n h w j)))]) dX2_layDown_136 rfl (nI_1 _) (Nat.le_of_ble_eq_true rfl) rfl rfl ?_
              refine r_goto 48 dX2_layDown_139 (by decide) ?_
              refine r_drop (lv' := [some (.ref (p 0)), some (.ref (q 0)), some (.int (nI a)), some (.int (nI n)), some (.int (bI (lnB ρ w))), some (.int (nI gp)), some (.int (nI mv)), some (.int (nI (j + 1))), none]) 8 rfl ?_
              refine r_ws (ws' := spW cA p K V C (nI (h)) (w) ++ (rowW cA q (layF ρ K V (pz ρ a n h w) (j + 1)))) rfl ?_
              exact ih (j + 1) _ (by rw [hmv, mvF_s0 h6]) (by omega) (by omega)
            · refine r_iinc (v := nI (mv + 1)) ([some (.ref (p 0)), some (.ref (q 0)), some (.int (nI a)), some (.int (nI n)), some (.int (bI (lnB ρ w))), some (.int (nI gp)), some (.int (nI (mv + 1))), some (.int (nI j)), some (.int (nI (pz ρ a n h w j)))]) dX2_layDown_133 rfl (nI_1 _) (Nat.le_of_ble_eq_true rfl) rfl rfl ?_
              refine r_iinc (v := nI (j + 1)) ([some (.ref (p 0)), some (.ref (q 0)), some (.int (nI a)), some (.int (nI n)), some (.int (bI (lnB ρ w))), some (.int (nI gp)), some (.int (nI (mv + 1))), some (.int (nI (j + 1))), some (.int (nI (pz ρ a n h w j)))]) dX2_layDown_136 rfl (nI_1 _) (Nat.le_of_ble_eq_true rfl) rfl rfl ?_
              refine r_goto 48 dX2_layDown_139 (by decide) ?_
              refine r_drop (lv' := [some (.ref (p 0)), some (.ref (q 0)), some (.int (nI a)), some (.int (nI n)), some (.int (bI (lnB ρ w))), some (.int (nI gp)), some (.int (nI (mv + 1))), some (.int (nI (j + 1))), none]) 8 rfl ?_
              refine r_ws (ws' := spW cA p K V C (nI (h)) (w) ++ (rowW cA q (layF ρ K V (pz ρ a n h w) (j + 1)))) rfl ?_
              exact ih (j + 1) _ (by rw [hmv, mvF_s1 h6]) (by omega) (by omega)
          · refine r_iload dX2_layDown_94 rfl ?_
            refine r_iload dX2_layDown_96 rfl ?_
            refine r_niadd dX2_layDown_98 ?_
            refine r_istore ([some (.ref (p 0)), some (.ref (q 0)), some (.int (nI a)), some (.int (nI n)), some (.int (bI (lnB ρ w))), some (.int (nI gp)), some (.int (nI mv)), some (.int (nI j)), some (.int (nI ((a + ((j * (n - gp)) / h)) + gp)))]) dX2_layDown_99 (Nat.le_of_ble_eq_true rfl) rfl rfl ?_
            have hpos : pz ρ a n h w j = (a + ((j * (n - gp)) / h)) + gp := by unfold pz posF; rw [hgp, h3, decide_eq_true (Int32.not_le.mp h5)]; simp
            refine r_lv (lv' := [some (.ref (p 0)), some (.ref (q 0)), some (.int (nI a)), some (.int (nI n)), some (.int (bI (lnB ρ w))), some (.int (nI gp)), some (.int (nI mv)), some (.int (nI j)), some (.int (nI (pz ρ a n h w j)))]) (by rw [hpos]) ?_
            have hpl2 : pz ρ a n h w j < a + n := hpl
            refine r_aload_n 1 dX2_layDown_101 rfl rfl ?_
            refine r_iload dX2_layDown_102 rfl ?_
            refine r_aload_n 0 dX2_layDown_104 rfl rfl ?_
            refine r_get 0 fk_X2_9 dX2_layDown_105 rfl rfl ?_
            refine r_iload dX2_layDown_108 rfl ?_
            refine r_iald 1 (j) dX2_layDown_110 rfl rfl rfl (by omega) (Nat.le_of_ble_eq_true rfl) ?_
            refine r_aload_n 0 dX2_layDown_111 rfl rfl ?_
            refine r_get 0 fk_X2_15 dX2_layDown_112 rfl rfl ?_
            refine r_iload dX2_layDown_115 rfl ?_
            refine r_iald 2 (j) dX2_layDown_117 rfl rfl rfl (by omega) (Nat.le_of_ble_eq_true rfl) ?_
            refine r_callV (As := [.int (nI (pz ρ a n h w j)), .int (K j), .int (V j)]) (st := []) [4, 5, 6, 7, 8, 9] [0, 1, 2, 3] (fun _ => spW cA p K V C (nI (h)) (w) ++ (rowW cA q (upd (upd (layF ρ K V (pz ρ a n h w) j) (31 + (pz ρ a n h w j)) (K j)) (95 + (pz ρ a n h w j)) (V j)))) [0, 1, 2, 3, 4, 5, 6, 7, 8, 9] (c_X1_fill l D cA cB q (layF ρ K V (pz ρ a n h w) j) (pz ρ a n h w j) (by omega) (K j) (V j)) kv_X1_fill ml_X2_81 dX2_layDown_118 rfl rfl rfl rfl rfl rfl rfl rfl (by decide) (fun _ => rfl) rfl rfl (Nat.le_of_ble_eq_true rfl) (fun v u h => ?_)
            subst h
            refine r_st (st' := []) rfl ?_
            refine r_iload dX2_layDown_121 rfl ?_
            refine r_aload_n 0 dX2_layDown_123 rfl rfl ?_
            refine r_get 0 fk_X2_18 dX2_layDown_124 rfl rfl ?_
            refine r_iload dX2_layDown_127 rfl ?_
            refine r_iald 3 (j) dX2_layDown_129 rfl rfl rfl (by omega) (Nat.le_of_ble_eq_true rfl) ?_
            refine r_icmp_eq 136 dX2_layDown_130 (by decide) (fun h7 => ?_) (fun h7 => ?_)
            · refine r_iinc (v := nI (j + 1)) ([some (.ref (p 0)), some (.ref (q 0)), some (.int (nI a)), some (.int (nI n)), some (.int (bI (lnB ρ w))), some (.int (nI gp)), some (.int (nI mv)), some (.int (nI (j + 1))), some (.int (nI (pz ρ a n h w j)))]) dX2_layDown_136 rfl (nI_1 _) (Nat.le_of_ble_eq_true rfl) rfl rfl ?_
              refine r_goto 48 dX2_layDown_139 (by decide) ?_
              refine r_drop (lv' := [some (.ref (p 0)), some (.ref (q 0)), some (.int (nI a)), some (.int (nI n)), some (.int (bI (lnB ρ w))), some (.int (nI gp)), some (.int (nI mv)), some (.int (nI (j + 1))), none]) 8 rfl ?_
              refine r_ws (ws' := spW cA p K V C (nI (h)) (w) ++ (rowW cA q (layF ρ K V (pz ρ a n h w) (j + 1)))) rfl ?_
              exact ih (j + 1) _ (by rw [hmv, mvF_s0 h7]) (by omega) (by omega)
            · refine r_iinc (v := nI (mv + 1)) ([some (.ref (p 0)), some (.ref (q 0)), some (.int (nI a)), some (.int (nI n)), some (.int (bI (lnB ρ w))), some (.int (nI gp)), some (.int (nI (mv + 1))), some (.int (nI j)), some (.int (nI (pz ρ a n h w j)))]) dX2_layDown_133 rfl (nI_1 _) (Nat.le_of_ble_eq_true rfl) rfl rfl ?_
              refine r_iinc (v := nI (j + 1)) ([some (.ref (p 0)), some (.ref (q 0)), some (.int (nI a)), some (.int (nI n)), some (.int (bI (lnB ρ w))), some (.int (nI gp)), some (.int (nI (mv + 1))), some (.int (nI (j + 1))), some (.int (nI (pz ρ a n h w j)))]) dX2_layDown_136 rfl (nI_1 _) (Nat.le_of_ble_eq_true rfl) rfl rfl ?_
              refine r_goto 48 dX2_layDown_139 (by decide) ?_
              refine r_drop (lv' := [some (.ref (p 0)), some (.ref (q 0)), some (.int (nI a)), some (.int (nI n)), some (.int (bI (lnB ρ w))), some (.int (nI gp)), some (.int (nI (mv + 1))), some (.int (nI (j + 1))), none]) 8 rfl ?_
              refine r_ws (ws' := spW cA p K V C (nI (h)) (w) ++ (rowW cA q (layF ρ K V (pz ρ a n h w) (j + 1)))) rfl ?_
              exact ih (j + 1) _ (by rw [hmv, mvF_s1 h7]) (by omega) (by omega)

set_option maxRecDepth 100000 in
set_option maxHeartbeats 4000000 in
theorem c_X2_layDown (l : Launch) (D : va_G) (cA cB : ClassId) (p q : Nat → Nat) (ρ K V C : Nat → Int32) (h : Nat) (w : Int32) (g a n : Nat) (hg : ρ 6 = nI g) (hg8 : g ≤ 8) (hn : a + n ≤ 64) (hh : h ≤ n) : Mt l D (tyS cA cB) yX2_layDown cX2_layDown 9 (some .int) ({ frames := 1, cells := 0, slots := 0, locals := 24 } : Room) [.ref (p 0), .ref (q 0), .int (nI a), .int (nI n)] (spW cA p K V C (nI (h)) (w) ++ (rowW cA q ρ)) Unit (fun v _ => v = some (.int (nI (mvAll ρ C h w a n)))) (fun _ => spW cA p K V C (nI h) w ++ (rowW cA q (layAll ρ K V C h w a n g))) 0 0 := by
  refine mt_in RX2 ([some (.ref (p 0)), some (.ref (q 0)), some (.int (nI a)), some (.int (nI n)), none, none, none, none, none]) rfl (by decide +kernel) rfl (Nat.le_of_ble_eq_true rfl) rfl rfl (fun X sz => ?_)
  refine r_aload_n 1 dX2_layDown_0 rfl rfl ?_
  refine r_get 4 fk_X2_107 dX2_layDown_1 rfl rfl ?_
  refine r_iconst (nI 1) dX2_layDown_4 (by decide +kernel) ?_
  refine r_icmp_ne 20 dX2_layDown_5 (by decide) (fun h1 => ?_) (fun h1 => ?_)
  · refine r_iconst (nI 0) dX2_layDown_20 (by decide +kernel) ?_
    refine r_istore ([some (.ref (p 0)), some (.ref (q 0)), some (.int (nI a)), some (.int (nI n)), some (.int (nI 0)), none, none, none, none]) dX2_layDown_21 (Nat.le_of_ble_eq_true rfl) rfl rfl ?_
    refine r_iload dX2_layDown_23 rfl ?_
    refine r_if_eq 39 dX2_layDown_25 (by decide) (fun h2 => ?_) (fun h2 => ?_)
    · refine r_iconst (nI 0) dX2_layDown_39 (by decide +kernel) ?_
      refine r_istore ([some (.ref (p 0)), some (.ref (q 0)), some (.int (nI a)), some (.int (nI n)), some (.int (nI 0)), some (.int (nI 0)), none, none, none]) dX2_layDown_40 (Nat.le_of_ble_eq_true rfl) rfl rfl ?_
      refine r_iconst (nI 0) dX2_layDown_42 (by decide +kernel) ?_
      refine r_istore ([some (.ref (p 0)), some (.ref (q 0)), some (.int (nI a)), some (.int (nI n)), some (.int (nI 0)), some (.int (nI 0)), some (.int (nI 0)), none, none]) dX2_layDown_43 (Nat.le_of_ble_eq_true rfl) rfl rfl ?_
      refine r_iconst (nI 0) dX2_layDown_45 (by decide +kernel) ?_
      refine r_istore ([some (.ref (p 0)), some (.ref (q 0)), some (.int (nI a)), some (.int (nI n)), some (.int (nI 0)), some (.int (nI 0)), some (.int (nI 0)), some (.int (nI 0)), none]) dX2_layDown_46 (Nat.le_of_ble_eq_true rfl) rfl rfl ?_
      have hl : lnB ρ w = false := decide_eq_false (fun z => h1 z.1)
      refine r_lv (lv' := [some (.ref (p 0)), some (.ref (q 0)), some (.int (nI a)), some (.int (nI n)), some (.int (bI (lnB ρ w))), some (.int (nI 0)), some (.int (nI 0)), some (.int (nI 0)), none]) (by rw [hl]; rfl) ?_
      exact lp_X2_layDown l D cA cB p q ρ K V C h w g a n hg hg8 hn hh X sz _ (by rw [hl]; rfl) (h + 1) 0 0 rfl (by omega) (by omega)
    · exact absurd rfl h2
  · refine r_aload_n 0 dX2_layDown_8 rfl rfl ?_
    refine r_get 0 fk_X2_101 dX2_layDown_9 rfl rfl ?_
    refine r_iconst (-1) dX2_layDown_12 (by decide +kernel) ?_
    refine r_icmp_eq 20 dX2_layDown_13 (by decide) (fun h3 => ?_) (fun h3 => ?_)
    · refine r_iconst (nI 0) dX2_layDown_20 (by decide +kernel) ?_
      refine r_istore ([some (.ref (p 0)), some (.ref (q 0)), some (.int (nI a)), some (.int (nI n)), some (.int (nI 0)), none, none, none, none]) dX2_layDown_21 (Nat.le_of_ble_eq_true rfl) rfl rfl ?_
      refine r_iload dX2_layDown_23 rfl ?_
      refine r_if_eq 39 dX2_layDown_25 (by decide) (fun h4 => ?_) (fun h4 => ?_)
      · refine r_iconst (nI 0) dX2_layDown_39 (by decide +kernel) ?_
        refine r_istore ([some (.ref (p 0)), some (.ref (q 0)), some (.int (nI a)), some (.int (nI n)), some (.int (nI 0)), some (.int (nI 0)), none, none, none]) dX2_layDown_40 (Nat.le_of_ble_eq_true rfl) rfl rfl ?_
        refine r_iconst (nI 0) dX2_layDown_42 (by decide +kernel) ?_
        refine r_istore ([some (.ref (p 0)), some (.ref (q 0)), some (.int (nI a)), some (.int (nI n)), some (.int (nI 0)), some (.int (nI 0)), some (.int (nI 0)), none, none]) dX2_layDown_43 (Nat.le_of_ble_eq_true rfl) rfl rfl ?_
        refine r_iconst (nI 0) dX2_layDown_45 (by decide +kernel) ?_
        refine r_istore ([some (.ref (p 0)), some (.ref (q 0)), some (.int (nI a)), some (.int (nI n)), some (.int (nI 0)), some (.int (nI 0)), some (.int (nI 0)), some (.int (nI 0)), none]) dX2_layDown_46 (Nat.le_of_ble_eq_true rfl) rfl rfl ?_
        have hl : lnB ρ w = false := decide_eq_false (fun z => z.2 h3)
        refine r_lv (lv' := [some (.ref (p 0)), some (.ref (q 0)), some (.int (nI a)), some (.int (nI n)), some (.int (bI (lnB ρ w))), some (.int (nI 0)), some (.int (nI 0)), some (.int (nI 0)), none]) (by rw [hl]; rfl) ?_
        exact lp_X2_layDown l D cA cB p q ρ K V C h w g a n hg hg8 hn hh X sz _ (by rw [hl]; rfl) (h + 1) 0 0 rfl (by omega) (by omega)
      · exact absurd rfl h4
    · refine r_iconst (nI 1) dX2_layDown_16 (by decide +kernel) ?_
      refine r_goto 21 dX2_layDown_17 (by decide) ?_
      refine r_istore ([some (.ref (p 0)), some (.ref (q 0)), some (.int (nI a)), some (.int (nI n)), some (.int (nI 1)), none, none, none, none]) dX2_layDown_21 (Nat.le_of_ble_eq_true rfl) rfl rfl ?_
      refine r_iload dX2_layDown_23 rfl ?_
      refine r_if_eq 39 dX2_layDown_25 (by decide) (fun h5 => ?_) (fun h5 => ?_)
      · exact absurd h5 (by decide +kernel)
      · refine r_iload_n 3 dX2_layDown_28 rfl rfl ?_
        refine r_aload_n 0 dX2_layDown_29 rfl rfl ?_
        refine r_get 0 fk_X2_98 dX2_layDown_30 rfl rfl ?_
        refine r_nisub (by omega) dX2_layDown_33 ?_
        refine r_iconst (nI 2) dX2_layDown_34 (by decide +kernel) ?_
        refine r_nidiv (by omega) (by omega) (by omega) dX2_layDown_35 ?_
        refine r_goto 40 dX2_layDown_36 (by decide) ?_
        refine r_istore ([some (.ref (p 0)), some (.ref (q 0)), some (.int (nI a)), some (.int (nI n)), some (.int (nI 1)), some (.int (nI ((n - h) / 2))), none, none, none]) dX2_layDown_40 (Nat.le_of_ble_eq_true rfl) rfl rfl ?_
        refine r_iconst (nI 0) dX2_layDown_42 (by decide +kernel) ?_
        refine r_istore ([some (.ref (p 0)), some (.ref (q 0)), some (.int (nI a)), some (.int (nI n)), some (.int (nI 1)), some (.int (nI ((n - h) / 2))), some (.int (nI 0)), none, none]) dX2_layDown_43 (Nat.le_of_ble_eq_true rfl) rfl rfl ?_
        refine r_iconst (nI 0) dX2_layDown_45 (by decide +kernel) ?_
        refine r_istore ([some (.ref (p 0)), some (.ref (q 0)), some (.int (nI a)), some (.int (nI n)), some (.int (nI 1)), some (.int (nI ((n - h) / 2))), some (.int (nI 0)), some (.int (nI 0)), none]) dX2_layDown_46 (Nat.le_of_ble_eq_true rfl) rfl rfl ?_
        have hl : lnB ρ w = true := decide_eq_true ⟨h1, h3⟩
        refine r_lv (lv' := [some (.ref (p 0)), some (.ref (q 0)), some (.int (nI a)), some (.int (nI n)), some (.int (bI (lnB ρ w))), some (.int (nI ((n - h) / 2))), some (.int (nI 0)), some (.int (nI 0)), none]) (by rw [hl]; rfl) ?_
        exact lp_X2_layDown l D cA cB p q ρ K V C h w g a n hg hg8 hn hh X sz _ (by rw [hl]; rfl) (h + 1) 0 0 rfl (by omega) (by omega)

