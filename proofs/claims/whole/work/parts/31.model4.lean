set_option maxRecDepth 100000 in
set_option maxHeartbeats 4000000 in
theorem c_X5_spacesWindow_n (l : Launch) (D : va_G) (cA cB : ClassId) (m : Nat → Nat) (ρ P : Nat → Int32) (hs : Int32) (α rf K V C : Nat → Int32) (my cm : Int32) (tx : Nat → Int32) (tl sp : Int32) (od : Nat → Int32) (no ft : Int32) (g : Nat) (hg : ρ 6 = nI g) (hg8 : g ≤ 8) (a n : Nat) (hn : a + n ≤ 64) (v : Int32) : Mt l D (tyS cA cB) yX5_spacesWindow cX5_spacesWindow 5 (some .int) ({ frames := 2, cells := 0, slots := 0, locals := 48 } : Room) [.ref (m 0), .int (nI a), .int (nI n), .int (-1), .int (v)] (mdW cA m ρ P hs α rf K V C my cm tx tl sp od no ft) Sp5 (fun v _ => v = some (.int (nI (spM ρ a n)))) (fun u => mdW cA m (spR ρ g a n) P hs α rf u.1 u.2.1 u.2.2.1 u.2.2.2.1 u.2.2.2.2 tx tl sp od no ft) 0 0 := by
  refine mt_in RX5 ([some (.ref (m 0)), some (.int (nI a)), some (.int (nI n)), some (.int (-1)), some (.int (v))]) rfl (by decide +kernel) rfl (Nat.le_of_ble_eq_true rfl) rfl rfl (fun X sz => ?_)
  refine r_aload_n 0 dX5_spacesWindow_0 rfl rfl ?_
  refine r_iload_n 1 dX5_spacesWindow_1 rfl rfl ?_
  refine r_iload_n 2 dX5_spacesWindow_2 rfl rfl ?_
  refine r_iload_n 3 dX5_spacesWindow_3 rfl rfl ?_
  refine r_iload dX5_spacesWindow_4 rfl ?_
  refine r_callV2 (As := [.int (nI a), .int (nI n), .int (-1), .int (v)]) (st := []) (fun _ => mdW cA m (clr ρ a n) P hs α rf (tkG ρ (kv ρ) a K n) (tkG ρ (vv ρ) a V n) (tkG ρ nI a C n) (nI (cnt ρ a n)) (-1) tx tl sp od no ft) [mdW cA m ρ P hs α rf K V C my cm tx tl sp od no ft] [mdW cA m ρ P hs α rf K V C my cm tx tl sp od no ft] [] (fun _ => [mdW cA m (clr ρ a n) P hs α rf (tkG ρ (kv ρ) a K n) (tkG ρ (vv ρ) a V n) (tkG ρ nI a C n) (nI (cnt ρ a n)) (-1) tx tl sp od no ft]) (fun _ => [mdW cA m (clr ρ a n) P hs α rf (tkG ρ (kv ρ) a K n) (tkG ρ (vv ρ) a V n) (tkG ρ nI a C n) (nI (cnt ρ a n)) (-1) tx tl sp od no ft]) (c_X5_takesOut_n l D cA cB m ρ P hs α rf K V C my cm tx tl sp od no ft (a) (n) (by omega) (v)) kv_X5_takesOut ml_X5_63 dX5_spacesWindow_6 rfl rfl rfl rfl (segOk [0] rfl rfl rfl rfl) (fun _ => segOk [0] rfl rfl rfl rfl) rfl (Nat.le_of_ble_eq_true rfl) (fun v u h => ?_)
  subst h
  refine r_st (st' := []) rfl ?_
  refine r_aload_n 0 dX5_spacesWindow_9 rfl rfl ?_
  refine r_iload_n 1 dX5_spacesWindow_10 rfl rfl ?_
  refine r_iload_n 2 dX5_spacesWindow_11 rfl rfl ?_
  refine r_callV2 (As := [.int (nI a), .int (nI n)]) (st := []) (fun _ => mdW cA m (layAll (clr ρ a n) (tkG ρ (kv ρ) a K n) (tkG ρ (vv ρ) a V n) (tkG ρ nI a C n) (cnt ρ a n) (-1) a n g) P hs α rf (tkG ρ (kv ρ) a K n) (tkG ρ (vv ρ) a V n) (tkG ρ nI a C n) (nI (cnt ρ a n)) (-1) tx tl sp od no ft) [mdW cA m (clr ρ a n) P hs α rf (tkG ρ (kv ρ) a K n) (tkG ρ (vv ρ) a V n) (tkG ρ nI a C n) (nI (cnt ρ a n)) (-1) tx tl sp od no ft] [mdW cA m (clr ρ a n) P hs α rf (tkG ρ (kv ρ) a K n) (tkG ρ (vv ρ) a V n) (tkG ρ nI a C n) (nI (cnt ρ a n)) (-1) tx tl sp od no ft] [] (fun _ => [mdW cA m (layAll (clr ρ a n) (tkG ρ (kv ρ) a K n) (tkG ρ (vv ρ) a V n) (tkG ρ nI a C n) (cnt ρ a n) (-1) a n g) P hs α rf (tkG ρ (kv ρ) a K n) (tkG ρ (vv ρ) a V n) (tkG ρ nI a C n) (nI (cnt ρ a n)) (-1) tx tl sp od no ft]) (fun _ => [mdW cA m (layAll (clr ρ a n) (tkG ρ (kv ρ) a K n) (tkG ρ (vv ρ) a V n) (tkG ρ nI a C n) (cnt ρ a n) (-1) a n g) P hs α rf (tkG ρ (kv ρ) a K n) (tkG ρ (vv ρ) a V n) (tkG ρ nI a C n) (nI (cnt ρ a n)) (-1) tx tl sp od no ft]) (c_X5_putsBack l D cA cB m (clr ρ a n) P hs α rf (tkG ρ (kv ρ) a K n) (tkG ρ (vv ρ) a V n) (tkG ρ nI a C n) (cnt ρ a n) (-1) tx tl sp od no ft g (a) (n) (by rw [clr_low (by omega)]; exact hg) hg8 (by omega) (cnt_le _ _ _)) kv_X5_putsBack ml_X5_67 dX5_spacesWindow_12 rfl rfl rfl rfl (segOk [0] rfl rfl rfl rfl) (fun _ => segOk [0] rfl rfl rfl rfl) rfl (Nat.le_of_ble_eq_true rfl) (fun v u h => ?_)
  subst h
  refine r_st (st' := [.int (nI (mvAll (clr ρ a n) (tkG ρ nI a C n) (cnt ρ a n) (-1) a n))]) rfl ?_
  exact r_iret ((tkG ρ (kv ρ) a K n, tkG ρ (vv ρ) a V n, tkG ρ nI a C n, nI (cnt ρ a n), -1)) dX5_spacesWindow_15 (by rw [spM_c]) (by rw [spR_c])

set_option maxRecDepth 100000 in
set_option maxHeartbeats 4000000 in
theorem c_X5_spacesWindow_k (l : Launch) (D : va_G) (cA cB : ClassId) (m : Nat → Nat) (ρ P : Nat → Int32) (hs : Int32) (α rf K V C : Nat → Int32) (my cm : Int32) (tx : Nat → Int32) (tl sp : Int32) (od : Nat → Int32) (no ft : Int32) (g : Nat) (hg : ρ 6 = nI g) (hg8 : g ≤ 8) (a n N : Nat) (hn : a + n ≤ 64) (hN : a + n ≤ N) (hs2 : Srt ρ N) (k v : Int32) (hk0 : ¬ k = -1) (hlt : cnt ρ a n < n) : Mt l D (tyS cA cB) yX5_spacesWindow cX5_spacesWindow 5 (some .int) ({ frames := 2, cells := 0, slots := 0, locals := 48 } : Room) [.ref (m 0), .int (nI a), .int (nI n), .int (k), .int (v)] (mdW cA m ρ P hs α rf K V C my cm tx tl sp od no ft) Sp5 (fun v _ => v = some (.int (nI (inM ρ (clr ρ a n) a n n k)))) (fun u => mdW cA m (inR ρ (clr ρ a n) g a n n k v) P hs α rf u.1 u.2.1 u.2.2.1 u.2.2.2.1 u.2.2.2.2 tx tl sp od no ft) 0 0 := by
  refine mt_in RX5 ([some (.ref (m 0)), some (.int (nI a)), some (.int (nI n)), some (.int (k)), some (.int (v))]) rfl (by decide +kernel) rfl (Nat.le_of_ble_eq_true rfl) rfl rfl (fun X sz => ?_)
  refine r_aload_n 0 dX5_spacesWindow_0 rfl rfl ?_
  refine r_iload_n 1 dX5_spacesWindow_1 rfl rfl ?_
  refine r_iload_n 2 dX5_spacesWindow_2 rfl rfl ?_
  refine r_iload_n 3 dX5_spacesWindow_3 rfl rfl ?_
  refine r_iload dX5_spacesWindow_4 rfl ?_
  refine r_callV2 (As := [.int (nI a), .int (nI n), .int (k), .int (v)]) (st := []) (fun _ => mdW cA m (clr ρ a n) P hs α rf (insA (tkG ρ (kv ρ) a K n) (insP (tkG ρ (kv ρ) a K n) k (cnt ρ a n)) (cnt ρ a n) k) (insA (tkG ρ (vv ρ) a V n) (insP (tkG ρ (kv ρ) a K n) k (cnt ρ a n)) (cnt ρ a n) v) (insA (tkG ρ nI a C n) (insP (tkG ρ (kv ρ) a K n) k (cnt ρ a n)) (cnt ρ a n) (-1)) (nI (cnt ρ a n + 1)) (nI (insP (tkG ρ (kv ρ) a K n) k (cnt ρ a n))) tx tl sp od no ft) [mdW cA m ρ P hs α rf K V C my cm tx tl sp od no ft] [mdW cA m ρ P hs α rf K V C my cm tx tl sp od no ft] [] (fun _ => [mdW cA m (clr ρ a n) P hs α rf (insA (tkG ρ (kv ρ) a K n) (insP (tkG ρ (kv ρ) a K n) k (cnt ρ a n)) (cnt ρ a n) k) (insA (tkG ρ (vv ρ) a V n) (insP (tkG ρ (kv ρ) a K n) k (cnt ρ a n)) (cnt ρ a n) v) (insA (tkG ρ nI a C n) (insP (tkG ρ (kv ρ) a K n) k (cnt ρ a n)) (cnt ρ a n) (-1)) (nI (cnt ρ a n + 1)) (nI (insP (tkG ρ (kv ρ) a K n) k (cnt ρ a n))) tx tl sp od no ft]) (fun _ => [mdW cA m (clr ρ a n) P hs α rf (insA (tkG ρ (kv ρ) a K n) (insP (tkG ρ (kv ρ) a K n) k (cnt ρ a n)) (cnt ρ a n) k) (insA (tkG ρ (vv ρ) a V n) (insP (tkG ρ (kv ρ) a K n) k (cnt ρ a n)) (cnt ρ a n) v) (insA (tkG ρ nI a C n) (insP (tkG ρ (kv ρ) a K n) k (cnt ρ a n)) (cnt ρ a n) (-1)) (nI (cnt ρ a n + 1)) (nI (insP (tkG ρ (kv ρ) a K n) k (cnt ρ a n))) tx tl sp od no ft]) (c_X5_takesOut_k l D cA cB m ρ P hs α rf K V C my cm tx tl sp od no ft (a) (n) N (by omega) (hN) hs2 (k) (v) hk0 (by omega)) kv_X5_takesOut ml_X5_63 dX5_spacesWindow_6 rfl rfl rfl rfl (segOk [0] rfl rfl rfl rfl) (fun _ => segOk [0] rfl rfl rfl rfl) rfl (Nat.le_of_ble_eq_true rfl) (fun v u h => ?_)
  subst h
  refine r_st (st' := []) rfl ?_
  refine r_aload_n 0 dX5_spacesWindow_9 rfl rfl ?_
  refine r_iload_n 1 dX5_spacesWindow_10 rfl rfl ?_
  refine r_iload_n 2 dX5_spacesWindow_11 rfl rfl ?_
  refine r_callV2 (As := [.int (nI a), .int (nI n)]) (st := []) (fun _ => mdW cA m (layAll (clr ρ a n) (insA (tkG ρ (kv ρ) a K n) (insP (tkG ρ (kv ρ) a K n) k (cnt ρ a n)) (cnt ρ a n) k) (insA (tkG ρ (vv ρ) a V n) (insP (tkG ρ (kv ρ) a K n) k (cnt ρ a n)) (cnt ρ a n) v) (insA (tkG ρ nI a C n) (insP (tkG ρ (kv ρ) a K n) k (cnt ρ a n)) (cnt ρ a n) (-1)) (cnt ρ a n + 1) (nI (insP (tkG ρ (kv ρ) a K n) k (cnt ρ a n))) a n g) P hs α rf (insA (tkG ρ (kv ρ) a K n) (insP (tkG ρ (kv ρ) a K n) k (cnt ρ a n)) (cnt ρ a n) k) (insA (tkG ρ (vv ρ) a V n) (insP (tkG ρ (kv ρ) a K n) k (cnt ρ a n)) (cnt ρ a n) v) (insA (tkG ρ nI a C n) (insP (tkG ρ (kv ρ) a K n) k (cnt ρ a n)) (cnt ρ a n) (-1)) (nI (cnt ρ a n + 1)) (nI (insP (tkG ρ (kv ρ) a K n) k (cnt ρ a n))) tx tl sp od no ft) [mdW cA m (clr ρ a n) P hs α rf (insA (tkG ρ (kv ρ) a K n) (insP (tkG ρ (kv ρ) a K n) k (cnt ρ a n)) (cnt ρ a n) k) (insA (tkG ρ (vv ρ) a V n) (insP (tkG ρ (kv ρ) a K n) k (cnt ρ a n)) (cnt ρ a n) v) (insA (tkG ρ nI a C n) (insP (tkG ρ (kv ρ) a K n) k (cnt ρ a n)) (cnt ρ a n) (-1)) (nI (cnt ρ a n + 1)) (nI (insP (tkG ρ (kv ρ) a K n) k (cnt ρ a n))) tx tl sp od no ft] [mdW cA m (clr ρ a n) P hs α rf (insA (tkG ρ (kv ρ) a K n) (insP (tkG ρ (kv ρ) a K n) k (cnt ρ a n)) (cnt ρ a n) k) (insA (tkG ρ (vv ρ) a V n) (insP (tkG ρ (kv ρ) a K n) k (cnt ρ a n)) (cnt ρ a n) v) (insA (tkG ρ nI a C n) (insP (tkG ρ (kv ρ) a K n) k (cnt ρ a n)) (cnt ρ a n) (-1)) (nI (cnt ρ a n + 1)) (nI (insP (tkG ρ (kv ρ) a K n) k (cnt ρ a n))) tx tl sp od no ft] [] (fun _ => [mdW cA m (layAll (clr ρ a n) (insA (tkG ρ (kv ρ) a K n) (insP (tkG ρ (kv ρ) a K n) k (cnt ρ a n)) (cnt ρ a n) k) (insA (tkG ρ (vv ρ) a V n) (insP (tkG ρ (kv ρ) a K n) k (cnt ρ a n)) (cnt ρ a n) v) (insA (tkG ρ nI a C n) (insP (tkG ρ (kv ρ) a K n) k (cnt ρ a n)) (cnt ρ a n) (-1)) (cnt ρ a n + 1) (nI (insP (tkG ρ (kv ρ) a K n) k (cnt ρ a n))) a n g) P hs α rf (insA (tkG ρ (kv ρ) a K n) (insP (tkG ρ (kv ρ) a K n) k (cnt ρ a n)) (cnt ρ a n) k) (insA (tkG ρ (vv ρ) a V n) (insP (tkG ρ (kv ρ) a K n) k (cnt ρ a n)) (cnt ρ a n) v) (insA (tkG ρ nI a C n) (insP (tkG ρ (kv ρ) a K n) k (cnt ρ a n)) (cnt ρ a n) (-1)) (nI (cnt ρ a n + 1)) (nI (insP (tkG ρ (kv ρ) a K n) k (cnt ρ a n))) tx tl sp od no ft]) (fun _ => [mdW cA m (layAll (clr ρ a n) (insA (tkG ρ (kv ρ) a K n) (insP (tkG ρ (kv ρ) a K n) k (cnt ρ a n)) (cnt ρ a n) k) (insA (tkG ρ (vv ρ) a V n) (insP (tkG ρ (kv ρ) a K n) k (cnt ρ a n)) (cnt ρ a n) v) (insA (tkG ρ nI a C n) (insP (tkG ρ (kv ρ) a K n) k (cnt ρ a n)) (cnt ρ a n) (-1)) (cnt ρ a n + 1) (nI (insP (tkG ρ (kv ρ) a K n) k (cnt ρ a n))) a n g) P hs α rf (insA (tkG ρ (kv ρ) a K n) (insP (tkG ρ (kv ρ) a K n) k (cnt ρ a n)) (cnt ρ a n) k) (insA (tkG ρ (vv ρ) a V n) (insP (tkG ρ (kv ρ) a K n) k (cnt ρ a n)) (cnt ρ a n) v) (insA (tkG ρ nI a C n) (insP (tkG ρ (kv ρ) a K n) k (cnt ρ a n)) (cnt ρ a n) (-1)) (nI (cnt ρ a n + 1)) (nI (insP (tkG ρ (kv ρ) a K n) k (cnt ρ a n))) tx tl sp od no ft]) (c_X5_putsBack l D cA cB m (clr ρ a n) P hs α rf (insA (tkG ρ (kv ρ) a K n) (insP (tkG ρ (kv ρ) a K n) k (cnt ρ a n)) (cnt ρ a n) k) (insA (tkG ρ (vv ρ) a V n) (insP (tkG ρ (kv ρ) a K n) k (cnt ρ a n)) (cnt ρ a n) v) (insA (tkG ρ nI a C n) (insP (tkG ρ (kv ρ) a K n) k (cnt ρ a n)) (cnt ρ a n) (-1)) (cnt ρ a n + 1) (nI (insP (tkG ρ (kv ρ) a K n) k (cnt ρ a n))) tx tl sp od no ft g (a) (n) (by rw [clr_low (by omega)]; exact hg) hg8 (by omega) (by omega)) kv_X5_putsBack ml_X5_67 dX5_spacesWindow_12 rfl rfl rfl rfl (segOk [0] rfl rfl rfl rfl) (fun _ => segOk [0] rfl rfl rfl rfl) rfl (Nat.le_of_ble_eq_true rfl) (fun v u h => ?_)
  subst h
  refine r_st (st' := [.int (nI (mvAll (clr ρ a n) (insA (tkG ρ nI a C n) (insP (tkG ρ (kv ρ) a K n) k (cnt ρ a n)) (cnt ρ a n) (-1)) (cnt ρ a n + 1) (nI (insP (tkG ρ (kv ρ) a K n) k (cnt ρ a n))) a n))]) rfl ?_
  exact r_iret ((insA (tkG ρ (kv ρ) a K n) (insP (tkG ρ (kv ρ) a K n) k (cnt ρ a n)) (cnt ρ a n) k, insA (tkG ρ (vv ρ) a V n) (insP (tkG ρ (kv ρ) a K n) k (cnt ρ a n)) (cnt ρ a n) v, insA (tkG ρ nI a C n) (insP (tkG ρ (kv ρ) a K n) k (cnt ρ a n)) (cnt ρ a n) (-1), nI (cnt ρ a n + 1), nI (insP (tkG ρ (kv ρ) a K n) k (cnt ρ a n)))) dX5_spacesWindow_15 (by rw [inM_c]) (by rw [inR_c])

set_option maxRecDepth 100000 in
set_option maxHeartbeats 4000000 in
theorem lp_X5_comes (l : Launch) (D : va_G) (cA cB : ClassId) (m : Nat → Nat) (ρ P : Nat → Int32) (hs : Int32) (α rf K V C : Nat → Int32) (my cm : Int32) (tx : Nat → Int32) (tl sp : Int32) (od : Nat → Int32) (no ft : Int32) (n : Nat) (hsz : ρ 0 = nI n) (h3 : n = 16 ∨ n = 32 ∨ n = 64) (g : Nat) (hg : ρ 6 = nI g) (hg8 : g ≤ 8) (hs2 : Srt ρ n) (k v : Int32) (hk0 : ¬ k = -1) (X : Cx) (sz : Nat) : ∀ (f i : Nat), i ≤ topN n + 1 → topN n + 1 < i + f → lvF ρ n (segF ρ k n) (topN n + 1 - i) i = lvF ρ n (segF ρ k n) (topN n + 1) 0 → G l X ({ frames := 3, cells := 0, slots := 0, locals := 72 } : Room) cX5_comes RX5 (some .int) D (tyS cA cB) (va_A (mdW cA m ρ P hs α rf K V C my cm tx tl sp od no ft) sz) (QX X D (tyS cA cB) (mdW cA m ρ P hs α rf K V C my cm tx tl sp od no ft) sz Sp5 (fun w _ => w = some (.int (if hrB ρ n k = true then nI (comeM ρ n k) else -4))) (fun u => mdW cA m (if hrB ρ n k = true then comeR ρ n g k v else ρ) P hs α rf u.1 u.2.1 u.2.2.1 u.2.2.2.1 u.2.2.2.2 tx tl sp od no ft) 0 0) 0 0 (mdW cA m ρ P hs α rf K V C my cm tx tl sp od no ft) 9 ([some (.ref (m 0)), some (.int (k)), some (.int (v)), some (.int (nI (segF ρ k n))), some (.int (nI i)), none]) [] := by
  intro f
  have hb := n16 h3
  have ht := top_le (sz := n)
  have hsg := segF_le ρ k n (by omega)
  have hyn := cnt_le ρ 0 n
  induction f with
  | zero => intro i h1 h2; omega
  | succ f ih =>
    intro i hi hf he
    refine r_iload dX5_comes_9 rfl ?_
    refine r_aload_n 0 dX5_comes_11 rfl rfl ?_
    refine r_callV2 (As := []) (st := [.int (nI i)]) (fun _ => mdW cA m ρ P hs α rf K V C my cm tx tl sp od no ft) [mdW cA m ρ P hs α rf K V C my cm tx tl sp od no ft] [mdW cA m ρ P hs α rf K V C my cm tx tl sp od no ft] [] (fun _ => [mdW cA m ρ P hs α rf K V C my cm tx tl sp od no ft]) (fun _ => [mdW cA m ρ P hs α rf K V C my cm tx tl sp od no ft]) (c_X5_top l D cA cB m ρ P hs α rf K V C my cm tx tl sp od no ft n (hsz) h3 ) kv_X5_top ml_X5_49 dX5_comes_12 rfl rfl rfl rfl (segOk [0] rfl rfl rfl rfl) (fun _ => segOk [0] rfl rfl rfl rfl) rfl (Nat.le_of_ble_eq_true rfl) (fun v u h => ?_)
    subst h
    refine r_st (st' := [.int (nI (topN n)), .int (nI i)]) rfl ?_
    refine r_ncmp_gt 77 (by omega) (by omega) dX5_comes_15 (by decide) (fun hq1 => ?_) (fun hq1 => ?_)
    · refine r_aload_n 0 dX5_comes_77 rfl rfl ?_
      refine r_get 0 fk_X5_7 dX5_comes_78 rfl rfl ?_
      refine r_iconst (nI 0) dX5_comes_81 (by decide +kernel) ?_
      refine r_iald 1 (0) dX5_comes_82 rfl rfl rfl (by omega) (Nat.le_of_ble_eq_true rfl) ?_
      refine r_top (y := nI (n)) (hsz) ?_
      refine r_bipush (nI 64) dX5_comes_83 (by decide +kernel) ?_
      refine r_ncmp_ne 91 (by omega) (by omega) dX5_comes_85 (by decide) (fun hq2 => ?_) (fun hq2 => ?_)
      · refine r_aload_n 0 dX5_comes_91 rfl rfl ?_
        refine r_iconst (nI 0) dX5_comes_92 (by decide +kernel) ?_
        refine r_aload_n 0 dX5_comes_93 rfl rfl ?_
        refine r_get 0 fk_X5_7 dX5_comes_94 rfl rfl ?_
        refine r_iconst (nI 0) dX5_comes_97 (by decide +kernel) ?_
        refine r_iald 1 (0) dX5_comes_98 rfl rfl rfl (by omega) (Nat.le_of_ble_eq_true rfl) ?_
        refine r_top (y := nI (n)) (hsz) ?_
        refine r_iload_n 1 dX5_comes_99 rfl rfl ?_
        refine r_iload_n 2 dX5_comes_100 rfl rfl ?_
        refine r_callV2 (As := [.int (nI 0), .int (nI n), .int (k), .int (v)]) (st := []) (fun _ => mdW cA m (clr ρ 0 n) P hs α rf (insA (tkG ρ (kv ρ) 0 K n) (insP (tkG ρ (kv ρ) 0 K n) k (cnt ρ 0 n)) (cnt ρ 0 n) k) (insA (tkG ρ (vv ρ) 0 V n) (insP (tkG ρ (kv ρ) 0 K n) k (cnt ρ 0 n)) (cnt ρ 0 n) v) (insA (tkG ρ nI 0 C n) (insP (tkG ρ (kv ρ) 0 K n) k (cnt ρ 0 n)) (cnt ρ 0 n) (-1)) (nI (cnt ρ 0 n + 1)) (nI (insP (tkG ρ (kv ρ) 0 K n) k (cnt ρ 0 n))) tx tl sp od no ft) [mdW cA m ρ P hs α rf K V C my cm tx tl sp od no ft] [mdW cA m ρ P hs α rf K V C my cm tx tl sp od no ft] [] (fun _ => [mdW cA m (clr ρ 0 n) P hs α rf (insA (tkG ρ (kv ρ) 0 K n) (insP (tkG ρ (kv ρ) 0 K n) k (cnt ρ 0 n)) (cnt ρ 0 n) k) (insA (tkG ρ (vv ρ) 0 V n) (insP (tkG ρ (kv ρ) 0 K n) k (cnt ρ 0 n)) (cnt ρ 0 n) v) (insA (tkG ρ nI 0 C n) (insP (tkG ρ (kv ρ) 0 K n) k (cnt ρ 0 n)) (cnt ρ 0 n) (-1)) (nI (cnt ρ 0 n + 1)) (nI (insP (tkG ρ (kv ρ) 0 K n) k (cnt ρ 0 n))) tx tl sp od no ft]) (fun _ => [mdW cA m (clr ρ 0 n) P hs α rf (insA (tkG ρ (kv ρ) 0 K n) (insP (tkG ρ (kv ρ) 0 K n) k (cnt ρ 0 n)) (cnt ρ 0 n) k) (insA (tkG ρ (vv ρ) 0 V n) (insP (tkG ρ (kv ρ) 0 K n) k (cnt ρ 0 n)) (cnt ρ 0 n) v) (insA (tkG ρ nI 0 C n) (insP (tkG ρ (kv ρ) 0 K n) k (cnt ρ 0 n)) (cnt ρ 0 n) (-1)) (nI (cnt ρ 0 n + 1)) (nI (insP (tkG ρ (kv ρ) 0 K n) k (cnt ρ 0 n))) tx tl sp od no ft]) (c_X5_takesOut_k l D cA cB m ρ P hs α rf K V C my cm tx tl sp od no ft (0) (n) n (by omega) (by omega) hs2 (k) (v) hk0 (by omega)) kv_X5_takesOut ml_X5_63 dX5_comes_101 rfl rfl rfl rfl (segOk [0] rfl rfl rfl rfl) (fun _ => segOk [0] rfl rfl rfl rfl) rfl (Nat.le_of_ble_eq_true rfl) (fun v u h => ?_)
        subst h
        refine r_st (st' := []) rfl ?_
        refine r_aload_n 0 dX5_comes_104 rfl rfl ?_
        refine r_get 0 fk_X5_7 dX5_comes_105 rfl rfl ?_
        refine r_iconst (nI 0) dX5_comes_108 (by decide +kernel) ?_
        refine r_dup2 rfl rfl dX5_comes_109 ?_
        refine r_iald 1 (0) dX5_comes_110 rfl rfl rfl (by omega) (Nat.le_of_ble_eq_true rfl) ?_
        refine r_top (y := nI (n)) (by rw [clr_low (by omega)]; exact hsz) ?_
        refine r_iconst (nI 2) dX5_comes_111 (by decide +kernel) ?_
        refine r_nimul dX5_comes_112 ?_
        refine r_top (y := nI (2 * n)) (by rw [Nat.mul_comm]) ?_
        refine r_iast 1 (0) (mdW cA m (upd (clr ρ 0 n) 0 (nI (2 * n))) P hs α rf (insA (tkG ρ (kv ρ) 0 K n) (insP (tkG ρ (kv ρ) 0 K n) k (cnt ρ 0 n)) (cnt ρ 0 n) k) (insA (tkG ρ (vv ρ) 0 V n) (insP (tkG ρ (kv ρ) 0 K n) k (cnt ρ 0 n)) (cnt ρ 0 n) v) (insA (tkG ρ nI 0 C n) (insP (tkG ρ (kv ρ) 0 K n) k (cnt ρ 0 n)) (cnt ρ 0 n) (-1)) (nI (cnt ρ 0 n + 1)) (nI (insP (tkG ρ (kv ρ) 0 K n) k (cnt ρ 0 n))) tx tl sp od no ft) dX5_comes_113 rfl rfl rfl (by omega) (Nat.le_of_ble_eq_true rfl) rfl ?_
        refine r_aload_n 0 dX5_comes_114 rfl rfl ?_
        refine r_get 0 fk_X5_7 dX5_comes_115 rfl rfl ?_
        refine r_iconst (nI 4) dX5_comes_118 (by decide +kernel) ?_
        refine r_dup2 rfl rfl dX5_comes_119 ?_
        refine r_iald 1 (4) dX5_comes_120 rfl rfl rfl (by omega) (Nat.le_of_ble_eq_true rfl) ?_
        refine r_top (y := ρ 4) (by rw [upd_n _ _ (by omega), clr_low (by omega)]) ?_
        refine r_iconst (nI 1) dX5_comes_121 (by decide +kernel) ?_
        refine r_iadd dX5_comes_122 ?_
        refine r_iast 1 (4) (mdW cA m (upd (upd (clr ρ 0 n) 0 (nI (2 * n))) 4 ((ρ 4) + (nI (1)))) P hs α rf (insA (tkG ρ (kv ρ) 0 K n) (insP (tkG ρ (kv ρ) 0 K n) k (cnt ρ 0 n)) (cnt ρ 0 n) k) (insA (tkG ρ (vv ρ) 0 V n) (insP (tkG ρ (kv ρ) 0 K n) k (cnt ρ 0 n)) (cnt ρ 0 n) v) (insA (tkG ρ nI 0 C n) (insP (tkG ρ (kv ρ) 0 K n) k (cnt ρ 0 n)) (cnt ρ 0 n) (-1)) (nI (cnt ρ 0 n + 1)) (nI (insP (tkG ρ (kv ρ) 0 K n) k (cnt ρ 0 n))) tx tl sp od no ft) dX5_comes_123 rfl rfl rfl (by omega) (Nat.le_of_ble_eq_true rfl) rfl ?_
        refine r_aload_n 0 dX5_comes_124 rfl rfl ?_
        refine r_iconst (nI 0) dX5_comes_125 (by decide +kernel) ?_
        refine r_aload_n 0 dX5_comes_126 rfl rfl ?_
        refine r_get 0 fk_X5_7 dX5_comes_127 rfl rfl ?_
        refine r_iconst (nI 0) dX5_comes_130 (by decide +kernel) ?_
        refine r_iald 1 (0) dX5_comes_131 rfl rfl rfl (by omega) (Nat.le_of_ble_eq_true rfl) ?_
        refine r_top (y := nI (2 * n)) (by rw [upd_n _ _ (by omega), upd_s]) ?_
        refine r_callV2 (As := [.int (nI 0), .int (nI (2 * n))]) (st := []) (fun _ => mdW cA m (layAll (upd (upd (clr ρ 0 n) 0 (nI (2 * n))) 4 ((ρ 4) + (nI (1)))) (insA (tkG ρ (kv ρ) 0 K n) (insP (tkG ρ (kv ρ) 0 K n) k (cnt ρ 0 n)) (cnt ρ 0 n) k) (insA (tkG ρ (vv ρ) 0 V n) (insP (tkG ρ (kv ρ) 0 K n) k (cnt ρ 0 n)) (cnt ρ 0 n) v) (insA (tkG ρ nI 0 C n) (insP (tkG ρ (kv ρ) 0 K n) k (cnt ρ 0 n)) (cnt ρ 0 n) (-1)) (cnt ρ 0 n + 1) (nI (insP (tkG ρ (kv ρ) 0 K n) k (cnt ρ 0 n))) 0 (2 * n) g) P hs α rf (insA (tkG ρ (kv ρ) 0 K n) (insP (tkG ρ (kv ρ) 0 K n) k (cnt ρ 0 n)) (cnt ρ 0 n) k) (insA (tkG ρ (vv ρ) 0 V n) (insP (tkG ρ (kv ρ) 0 K n) k (cnt ρ 0 n)) (cnt ρ 0 n) v) (insA (tkG ρ nI 0 C n) (insP (tkG ρ (kv ρ) 0 K n) k (cnt ρ 0 n)) (cnt ρ 0 n) (-1)) (nI (cnt ρ 0 n + 1)) (nI (insP (tkG ρ (kv ρ) 0 K n) k (cnt ρ 0 n))) tx tl sp od no ft) [mdW cA m (upd (upd (clr ρ 0 n) 0 (nI (2 * n))) 4 ((ρ 4) + (nI (1)))) P hs α rf (insA (tkG ρ (kv ρ) 0 K n) (insP (tkG ρ (kv ρ) 0 K n) k (cnt ρ 0 n)) (cnt ρ 0 n) k) (insA (tkG ρ (vv ρ) 0 V n) (insP (tkG ρ (kv ρ) 0 K n) k (cnt ρ 0 n)) (cnt ρ 0 n) v) (insA (tkG ρ nI 0 C n) (insP (tkG ρ (kv ρ) 0 K n) k (cnt ρ 0 n)) (cnt ρ 0 n) (-1)) (nI (cnt ρ 0 n + 1)) (nI (insP (tkG ρ (kv ρ) 0 K n) k (cnt ρ 0 n))) tx tl sp od no ft] [mdW cA m (upd (upd (clr ρ 0 n) 0 (nI (2 * n))) 4 ((ρ 4) + (nI (1)))) P hs α rf (insA (tkG ρ (kv ρ) 0 K n) (insP (tkG ρ (kv ρ) 0 K n) k (cnt ρ 0 n)) (cnt ρ 0 n) k) (insA (tkG ρ (vv ρ) 0 V n) (insP (tkG ρ (kv ρ) 0 K n) k (cnt ρ 0 n)) (cnt ρ 0 n) v) (insA (tkG ρ nI 0 C n) (insP (tkG ρ (kv ρ) 0 K n) k (cnt ρ 0 n)) (cnt ρ 0 n) (-1)) (nI (cnt ρ 0 n + 1)) (nI (insP (tkG ρ (kv ρ) 0 K n) k (cnt ρ 0 n))) tx tl sp od no ft] [] (fun _ => [mdW cA m (layAll (upd (upd (clr ρ 0 n) 0 (nI (2 * n))) 4 ((ρ 4) + (nI (1)))) (insA (tkG ρ (kv ρ) 0 K n) (insP (tkG ρ (kv ρ) 0 K n) k (cnt ρ 0 n)) (cnt ρ 0 n) k) (insA (tkG ρ (vv ρ) 0 V n) (insP (tkG ρ (kv ρ) 0 K n) k (cnt ρ 0 n)) (cnt ρ 0 n) v) (insA (tkG ρ nI 0 C n) (insP (tkG ρ (kv ρ) 0 K n) k (cnt ρ 0 n)) (cnt ρ 0 n) (-1)) (cnt ρ 0 n + 1) (nI (insP (tkG ρ (kv ρ) 0 K n) k (cnt ρ 0 n))) 0 (2 * n) g) P hs α rf (insA (tkG ρ (kv ρ) 0 K n) (insP (tkG ρ (kv ρ) 0 K n) k (cnt ρ 0 n)) (cnt ρ 0 n) k) (insA (tkG ρ (vv ρ) 0 V n) (insP (tkG ρ (kv ρ) 0 K n) k (cnt ρ 0 n)) (cnt ρ 0 n) v) (insA (tkG ρ nI 0 C n) (insP (tkG ρ (kv ρ) 0 K n) k (cnt ρ 0 n)) (cnt ρ 0 n) (-1)) (nI (cnt ρ 0 n + 1)) (nI (insP (tkG ρ (kv ρ) 0 K n) k (cnt ρ 0 n))) tx tl sp od no ft]) (fun _ => [mdW cA m (layAll (upd (upd (clr ρ 0 n) 0 (nI (2 * n))) 4 ((ρ 4) + (nI (1)))) (insA (tkG ρ (kv ρ) 0 K n) (insP (tkG ρ (kv ρ) 0 K n) k (cnt ρ 0 n)) (cnt ρ 0 n) k) (insA (tkG ρ (vv ρ) 0 V n) (insP (tkG ρ (kv ρ) 0 K n) k (cnt ρ 0 n)) (cnt ρ 0 n) v) (insA (tkG ρ nI 0 C n) (insP (tkG ρ (kv ρ) 0 K n) k (cnt ρ 0 n)) (cnt ρ 0 n) (-1)) (cnt ρ 0 n + 1) (nI (insP (tkG ρ (kv ρ) 0 K n) k (cnt ρ 0 n))) 0 (2 * n) g) P hs α rf (insA (tkG ρ (kv ρ) 0 K n) (insP (tkG ρ (kv ρ) 0 K n) k (cnt ρ 0 n)) (cnt ρ 0 n) k) (insA (tkG ρ (vv ρ) 0 V n) (insP (tkG ρ (kv ρ) 0 K n) k (cnt ρ 0 n)) (cnt ρ 0 n) v) (insA (tkG ρ nI 0 C n) (insP (tkG ρ (kv ρ) 0 K n) k (cnt ρ 0 n)) (cnt ρ 0 n) (-1)) (nI (cnt ρ 0 n + 1)) (nI (insP (tkG ρ (kv ρ) 0 K n) k (cnt ρ 0 n))) tx tl sp od no ft]) (c_X5_putsBack l D cA cB m (upd (upd (clr ρ 0 n) 0 (nI (2 * n))) 4 ((ρ 4) + (nI (1)))) P hs α rf (insA (tkG ρ (kv ρ) 0 K n) (insP (tkG ρ (kv ρ) 0 K n) k (cnt ρ 0 n)) (cnt ρ 0 n) k) (insA (tkG ρ (vv ρ) 0 V n) (insP (tkG ρ (kv ρ) 0 K n) k (cnt ρ 0 n)) (cnt ρ 0 n) v) (insA (tkG ρ nI 0 C n) (insP (tkG ρ (kv ρ) 0 K n) k (cnt ρ 0 n)) (cnt ρ 0 n) (-1)) (cnt ρ 0 n + 1) (nI (insP (tkG ρ (kv ρ) 0 K n) k (cnt ρ 0 n))) tx tl sp od no ft g (0) (2 * n) (by rw [upd_n _ _ (by omega), upd_n _ _ (by omega), clr_low (by omega)]; exact hg) hg8 (by omega) (by omega)) kv_X5_putsBack ml_X5_67 dX5_comes_132 rfl rfl rfl rfl (segOk [0] rfl rfl rfl rfl) (fun _ => segOk [0] rfl rfl rfl rfl) rfl (Nat.le_of_ble_eq_true rfl) (fun v u h => ?_)
        subst h
        refine r_st (st' := [.int (nI (mvAll (upd (upd (clr ρ 0 n) 0 (nI (2 * n))) 4 ((ρ 4) + (nI (1)))) (insA (tkG ρ nI 0 C n) (insP (tkG ρ (kv ρ) 0 K n) k (cnt ρ 0 n)) (cnt ρ 0 n) (-1)) (cnt ρ 0 n + 1) (nI (insP (tkG ρ (kv ρ) 0 K n) k (cnt ρ 0 n))) 0 (2 * n)))]) rfl ?_
        exact r_iret ((insA (tkG ρ (kv ρ) 0 K n) (insP (tkG ρ (kv ρ) 0 K n) k (cnt ρ 0 n)) (cnt ρ 0 n) k, insA (tkG ρ (vv ρ) 0 V n) (insP (tkG ρ (kv ρ) 0 K n) k (cnt ρ 0 n)) (cnt ρ 0 n) v, insA (tkG ρ nI 0 C n) (insP (tkG ρ (kv ρ) 0 K n) k (cnt ρ 0 n)) (cnt ρ 0 n) (-1), nI (cnt ρ 0 n + 1), nI (insP (tkG ρ (kv ρ) 0 K n) k (cnt ρ 0 n)))) dX5_comes_135 (by have hno : lvF ρ n (segF ρ k n) (topN n + 1) 0 = none := (by rw [← he, show topN n + 1 - i = 0 by omega]; rfl); have hrt : hrB ρ n k = true := (by unfold hrB; rw [decide_eq_true (show n < 64 by omega)]; rfl); rw [if_pos hrt]; unfold comeM; rw [hno]; dsimp only; rw [← inM_c] <;> rfl) (by have hno : lvF ρ n (segF ρ k n) (topN n + 1) 0 = none := (by rw [← he, show topN n + 1 - i = 0 by omega]; rfl); have hrt : hrB ρ n k = true := (by unfold hrB; rw [decide_eq_true (show n < 64 by omega)]; rfl); rw [if_pos hrt]; unfold comeR; rw [hno]; dsimp only; rw [← inR_c] <;> rfl)
      · refine r_bipush (-4) dX5_comes_88 (by decide +kernel) ?_
        exact r_iret ((K, V, C, my, cm)) dX5_comes_90 (by have hno : lvF ρ n (segF ρ k n) (topN n + 1) 0 = none := (by rw [← he, show topN n + 1 - i = 0 by omega]; rfl); rw [if_neg (by unfold hrB; rw [hno, decide_eq_false (by omega)]; decide)]) (by have hno : lvF ρ n (segF ρ k n) (topN n + 1) 0 = none := (by rw [← he, show topN n + 1 - i = 0 by omega]; rfl); rw [if_neg (by unfold hrB; rw [hno, decide_eq_false (by omega)]; decide)])
    · have hw := wst_le h3 hsg (show i ≤ topN n by omega)
      have hp := pow4 i (by omega)
      have hpp : 0 < 4 * 2 ^ i := Nat.mul_pos (by decide) (Nat.pow_pos (by decide))
      have hyl := cnt_le ρ (wst (segF ρ k n) i) (4 * 2 ^ i)
      have hml := most_le (n := n) (i := i)
      refine r_iload_n 3 dX5_comes_18 rfl rfl ?_
      refine r_iconst (nI 4) dX5_comes_19 (by decide +kernel) ?_
      refine r_nimul dX5_comes_20 ?_
      refine r_iload dX5_comes_21 rfl ?_
      refine r_callS2 (As := [.int (nI i)]) (st := [.int (nI ((segF ρ k n) * 4))]) (fun _ => mdW cA m ρ P hs α rf K V C my cm tx tl sp od no ft) [mdW cA m ρ P hs α rf K V C my cm tx tl sp od no ft] [] [mdW cA m ρ P hs α rf K V C my cm tx tl sp od no ft] (fun _ => [mdW cA m ρ P hs α rf K V C my cm tx tl sp od no ft]) (fun _ => []) (c_X5_wide l D cA cB (i) (by omega)) ks_X5_wide ml_X5_45 dX5_comes_23 rfl rfl (segOk [0] rfl rfl rfl rfl) (fun _ => segOk [0] rfl rfl rfl rfl) rfl (Nat.le_of_ble_eq_true rfl) (fun v u h => ?_)
      subst h
      refine r_st (st' := [.int (nI (4 * 2 ^ i)), .int (nI ((segF ρ k n) * 4))]) rfl ?_
      refine r_nidiv (by omega) (by omega) (by omega) dX5_comes_26 ?_
      refine r_iload dX5_comes_27 rfl ?_
      refine r_callS2 (As := [.int (nI i)]) (st := [.int (nI (((segF ρ k n) * 4) / (4 * 2 ^ i)))]) (fun _ => mdW cA m ρ P hs α rf K V C my cm tx tl sp od no ft) [mdW cA m ρ P hs α rf K V C my cm tx tl sp od no ft] [] [mdW cA m ρ P hs α rf K V C my cm tx tl sp od no ft] (fun _ => [mdW cA m ρ P hs α rf K V C my cm tx tl sp od no ft]) (fun _ => []) (c_X5_wide l D cA cB (i) (by omega)) ks_X5_wide ml_X5_45 dX5_comes_29 rfl rfl (segOk [0] rfl rfl rfl rfl) (fun _ => segOk [0] rfl rfl rfl rfl) rfl (Nat.le_of_ble_eq_true rfl) (fun v u h => ?_)
      subst h
      refine r_st (st' := [.int (nI (4 * 2 ^ i)), .int (nI (((segF ρ k n) * 4) / (4 * 2 ^ i)))]) rfl ?_
      refine r_nimul dX5_comes_32 ?_
      refine r_top (y := nI (wst (segF ρ k n) i)) (by rw [wst_eq]) ?_
      refine r_istore ([some (.ref (m 0)), some (.int (k)), some (.int (v)), some (.int (nI (segF ρ k n))), some (.int (nI i)), some (.int (nI (wst (segF ρ k n) i)))]) dX5_comes_33 (Nat.le_of_ble_eq_true rfl) rfl rfl ?_
      refine r_aload_n 0 dX5_comes_35 rfl rfl ?_
      refine r_iload dX5_comes_36 rfl ?_
      refine r_iload dX5_comes_38 rfl ?_
      refine r_callS2 (As := [.int (nI i)]) (st := [.int (nI (wst (segF ρ k n) i)), .ref (m 0)]) (fun _ => mdW cA m ρ P hs α rf K V C my cm tx tl sp od no ft) [mdW cA m ρ P hs α rf K V C my cm tx tl sp od no ft] [] [mdW cA m ρ P hs α rf K V C my cm tx tl sp od no ft] (fun _ => [mdW cA m ρ P hs α rf K V C my cm tx tl sp od no ft]) (fun _ => []) (c_X5_wide l D cA cB (i) (by omega)) ks_X5_wide ml_X5_45 dX5_comes_40 rfl rfl (segOk [0] rfl rfl rfl rfl) (fun _ => segOk [0] rfl rfl rfl rfl) rfl (Nat.le_of_ble_eq_true rfl) (fun v u h => ?_)
      subst h
      refine r_st (st' := [.int (nI (4 * 2 ^ i)), .int (nI (wst (segF ρ k n) i)), .ref (m 0)]) rfl ?_
      refine r_callV2 (As := [.int (nI (wst (segF ρ k n) i)), .int (nI (4 * 2 ^ i))]) (st := []) (fun _ => mdW cA m ρ P hs α rf K V C my cm tx tl sp od no ft) [mdW cA m ρ P hs α rf K V C my cm tx tl sp od no ft] [mdW cA m ρ P hs α rf K V C my cm tx tl sp od no ft] [] (fun _ => [mdW cA m ρ P hs α rf K V C my cm tx tl sp od no ft]) (fun _ => [mdW cA m ρ P hs α rf K V C my cm tx tl sp od no ft]) (c_X5_keysIn l D cA cB m ρ P hs α rf K V C my cm tx tl sp od no ft (wst (segF ρ k n) i) (4 * 2 ^ i) (by omega)) kv_X5_keysIn ml_X5_74 dX5_comes_43 rfl rfl rfl rfl (segOk [0] rfl rfl rfl rfl) (fun _ => segOk [0] rfl rfl rfl rfl) rfl (Nat.le_of_ble_eq_true rfl) (fun v u h => ?_)
      subst h
      refine r_st (st' := [.int (nI (cnt ρ (wst (segF ρ k n) i) (4 * 2 ^ i)))]) rfl ?_
      refine r_iconst (nI 1) dX5_comes_46 (by decide +kernel) ?_
      refine r_niadd dX5_comes_47 ?_
      refine r_aload_n 0 dX5_comes_48 rfl rfl ?_
      refine r_iload dX5_comes_49 rfl ?_
      refine r_callV2 (As := [.int (nI i)]) (st := [.int (nI ((cnt ρ (wst (segF ρ k n) i) (4 * 2 ^ i)) + 1))]) (fun _ => mdW cA m ρ P hs α rf K V C my cm tx tl sp od no ft) [mdW cA m ρ P hs α rf K V C my cm tx tl sp od no ft] [mdW cA m ρ P hs α rf K V C my cm tx tl sp od no ft] [] (fun _ => [mdW cA m ρ P hs α rf K V C my cm tx tl sp od no ft]) (fun _ => [mdW cA m ρ P hs α rf K V C my cm tx tl sp od no ft]) (c_X5_most l D cA cB m ρ P hs α rf K V C my cm tx tl sp od no ft n (hsz) h3 (i) (by omega)) kv_X5_most ml_X5_77 dX5_comes_51 rfl rfl rfl rfl (segOk [0] rfl rfl rfl rfl) (fun _ => segOk [0] rfl rfl rfl rfl) rfl (Nat.le_of_ble_eq_true rfl) (fun v u h => ?_)
      subst h
      refine r_st (st' := [.int (nI (mostN n i)), .int (nI ((cnt ρ (wst (segF ρ k n) i) (4 * 2 ^ i)) + 1))]) rfl ?_
      refine r_ncmp_gt 71 (by omega) (by omega) dX5_comes_54 (by decide) (fun hq3 => ?_) (fun hq3 => ?_)
      · refine r_iinc (v := nI (i + 1)) ([some (.ref (m 0)), some (.int (k)), some (.int (v)), some (.int (nI (segF ρ k n))), some (.int (nI (i + 1))), some (.int (nI (wst (segF ρ k n) i)))]) dX5_comes_71 rfl (nI_1 _) (Nat.le_of_ble_eq_true rfl) rfl rfl ?_
        refine r_goto 9 dX5_comes_74 (by decide) ?_
        refine r_drop (lv' := [some (.ref (m 0)), some (.int (k)), some (.int (v)), some (.int (nI (segF ρ k n))), some (.int (nI (i + 1))), none]) 5 rfl ?_
        exact ih (i + 1) (by omega) (by omega) (by rw [← he, show topN n + 1 - i = (topN n - i) + 1 by omega, show topN n + 1 - (i + 1) = topN n - i by omega]; exact (if_neg (Nat.not_le.mpr hq3)).symm)
      · refine r_aload_n 0 dX5_comes_57 rfl rfl ?_
        refine r_iload dX5_comes_58 rfl ?_
        refine r_iload dX5_comes_60 rfl ?_
        refine r_callS2 (As := [.int (nI i)]) (st := [.int (nI (wst (segF ρ k n) i)), .ref (m 0)]) (fun _ => mdW cA m ρ P hs α rf K V C my cm tx tl sp od no ft) [mdW cA m ρ P hs α rf K V C my cm tx tl sp od no ft] [] [mdW cA m ρ P hs α rf K V C my cm tx tl sp od no ft] (fun _ => [mdW cA m ρ P hs α rf K V C my cm tx tl sp od no ft]) (fun _ => []) (c_X5_wide l D cA cB (i) (by omega)) ks_X5_wide ml_X5_45 dX5_comes_62 rfl rfl (segOk [0] rfl rfl rfl rfl) (fun _ => segOk [0] rfl rfl rfl rfl) rfl (Nat.le_of_ble_eq_true rfl) (fun v u h => ?_)
        subst h
        refine r_st (st' := [.int (nI (4 * 2 ^ i)), .int (nI (wst (segF ρ k n) i)), .ref (m 0)]) rfl ?_
        refine r_iload_n 1 dX5_comes_65 rfl rfl ?_
        refine r_iload_n 2 dX5_comes_66 rfl rfl ?_
        refine r_callV2 (As := [.int (nI (wst (segF ρ k n) i)), .int (nI (4 * 2 ^ i)), .int (k), .int (v)]) (st := []) (fun u4 => mdW cA m (inR ρ (clr ρ (wst (segF ρ k n) i) (4 * 2 ^ i)) g (wst (segF ρ k n) i) (4 * 2 ^ i) (4 * 2 ^ i) k v) P hs α rf u4.1 u4.2.1 u4.2.2.1 u4.2.2.2.1 u4.2.2.2.2 tx tl sp od no ft) [mdW cA m ρ P hs α rf K V C my cm tx tl sp od no ft] [mdW cA m ρ P hs α rf K V C my cm tx tl sp od no ft] [] (fun u4 => [mdW cA m (inR ρ (clr ρ (wst (segF ρ k n) i) (4 * 2 ^ i)) g (wst (segF ρ k n) i) (4 * 2 ^ i) (4 * 2 ^ i) k v) P hs α rf u4.1 u4.2.1 u4.2.2.1 u4.2.2.2.1 u4.2.2.2.2 tx tl sp od no ft]) (fun u4 => [mdW cA m (inR ρ (clr ρ (wst (segF ρ k n) i) (4 * 2 ^ i)) g (wst (segF ρ k n) i) (4 * 2 ^ i) (4 * 2 ^ i) k v) P hs α rf u4.1 u4.2.1 u4.2.2.1 u4.2.2.2.1 u4.2.2.2.2 tx tl sp od no ft]) (c_X5_spacesWindow_k l D cA cB m ρ P hs α rf K V C my cm tx tl sp od no ft g (hg) hg8 (wst (segF ρ k n) i) (4 * 2 ^ i) n (by omega) (hw) hs2 (k) (v) hk0 (by omega)) kv_X5_spacesWindow ml_X5_80 dX5_comes_67 rfl rfl rfl rfl (segOk [0] rfl rfl rfl rfl) (fun _ => segOk [0] rfl rfl rfl rfl) rfl (Nat.le_of_ble_eq_true rfl) (fun v u4 h => ?_)
        subst h
        refine r_st (st' := [.int (nI (inM ρ (clr ρ (wst (segF ρ k n) i) (4 * 2 ^ i)) (wst (segF ρ k n) i) (4 * 2 ^ i) (4 * 2 ^ i) k))]) rfl ?_
        exact r_iret ((u4.1, u4.2.1, u4.2.2.1, u4.2.2.2.1, u4.2.2.2.2)) dX5_comes_70 (by have hso : lvF ρ n (segF ρ k n) (topN n + 1) 0 = some i := (by rw [← he, show topN n + 1 - i = (topN n - i) + 1 by omega]; exact if_pos hq3); have hrt : hrB ρ n k = true := (by unfold hrB; rw [hso]; simp); rw [if_pos hrt]; unfold comeM; rw [hso]) (by have hso : lvF ρ n (segF ρ k n) (topN n + 1) 0 = some i := (by rw [← he, show topN n + 1 - i = (topN n - i) + 1 by omega]; exact if_pos hq3); have hrt : hrB ρ n k = true := (by unfold hrB; rw [hso]; simp); rw [if_pos hrt]; unfold comeR; rw [hso])

set_option maxRecDepth 100000 in
set_option maxHeartbeats 4000000 in
theorem c_X5_comes (l : Launch) (D : va_G) (cA cB : ClassId) (m : Nat → Nat) (ρ P : Nat → Int32) (hs : Int32) (α rf K V C : Nat → Int32) (my cm : Int32) (tx : Nat → Int32) (tl sp : Int32) (od : Nat → Int32) (no ft : Int32) (n : Nat) (hsz : ρ 0 = nI n) (h3 : n = 16 ∨ n = 32 ∨ n = 64) (g : Nat) (hg : ρ 6 = nI g) (hg8 : g ≤ 8) (hs2 : Srt ρ n) (k v : Int32) (hk0 : ¬ k = -1) : Mt l D (tyS cA cB) yX5_comes cX5_comes 6 (some .int) ({ frames := 3, cells := 0, slots := 0, locals := 72 } : Room) [.ref (m 0), .int (k), .int (v)] (mdW cA m ρ P hs α rf K V C my cm tx tl sp od no ft) Sp5 (fun w _ => w = some (.int (if hrB ρ n k = true then nI (comeM ρ n k) else -4))) (fun u => mdW cA m (if hrB ρ n k = true then comeR ρ n g k v else ρ) P hs α rf u.1 u.2.1 u.2.2.1 u.2.2.2.1 u.2.2.2.2 tx tl sp od no ft) 0 0 := by
  refine mt_in RX5 ([some (.ref (m 0)), some (.int (k)), some (.int (v)), none, none, none]) rfl (by decide +kernel) rfl (Nat.le_of_ble_eq_true rfl) rfl rfl (fun X sz => ?_)
  have hb := n16 h3
  refine r_aload_n 0 dX5_comes_0 rfl rfl ?_
  refine r_iload_n 1 dX5_comes_1 rfl rfl ?_
  refine r_callV2 (As := [.int (k)]) (st := []) (fun _ => mdW cA m ρ P hs α rf K V C my cm tx tl sp od no ft) [mdW cA m ρ P hs α rf K V C my cm tx tl sp od no ft] [mdW cA m ρ P hs α rf K V C my cm tx tl sp od no ft] [] (fun _ => [mdW cA m ρ P hs α rf K V C my cm tx tl sp od no ft]) (fun _ => [mdW cA m ρ P hs α rf K V C my cm tx tl sp od no ft]) (c_X5_segmentFor l D cA cB m ρ P hs α rf K V C my cm tx tl sp od no ft n (hsz) h3 (k)) kv_X5_segmentFor ml_X5_71 dX5_comes_2 rfl rfl rfl rfl (segOk [0] rfl rfl rfl rfl) (fun _ => segOk [0] rfl rfl rfl rfl) rfl (Nat.le_of_ble_eq_true rfl) (fun v u h => ?_)
  subst h
  refine r_st (st' := [.int (nI (segF ρ k n))]) rfl ?_
  refine r_istore_n 3 ([some (.ref (m 0)), some (.int (k)), some (.int (v)), some (.int (nI (segF ρ k n))), none, none]) dX5_comes_5 rfl (Nat.le_of_ble_eq_true rfl) rfl rfl ?_
  refine r_iconst (nI 0) dX5_comes_6 (by decide +kernel) ?_
  refine r_istore ([some (.ref (m 0)), some (.int (k)), some (.int (v)), some (.int (nI (segF ρ k n))), some (.int (nI 0)), none]) dX5_comes_7 (Nat.le_of_ble_eq_true rfl) rfl rfl ?_
  exact lp_X5_comes l D cA cB m ρ P hs α rf K V C my cm tx tl sp od no ft n hsz h3 g hg hg8 hs2 k v hk0 X sz (topN n + 2) 0 (by omega) (by omega) rfl

set_option maxRecDepth 100000 in
set_option maxHeartbeats 4000000 in
theorem lp_X5_goes (l : Launch) (D : va_G) (cA cB : ClassId) (m : Nat → Nat) (ρ P : Nat → Int32) (hs : Int32) (α rf K V C : Nat → Int32) (my cm : Int32) (tx : Nat → Int32) (tl sp : Int32) (od : Nat → Int32) (no ft : Int32) (n : Nat) (hsz : ρ 0 = nI n) (h3 : n = 16 ∨ n = 32 ∨ n = 64) (g : Nat) (hg : ρ 6 = nI g) (hg8 : g ≤ 8) (c : Nat) (hc : c < n) (X : Cx) (sz : Nat) : ¬ leastN n 0 ≤ cnt (emp ρ c) (wst (c / 4) 0) 4 → ∀ (f i : Nat), 1 ≤ i → i ≤ topN n + 1 → topN n + 1 < i + f → gvF (emp ρ c) n (c / 4) (topN n + 1 - i) i = gvF (emp ρ c) n (c / 4) (topN n) 1 → G l X ({ frames := 3, cells := 0, slots := 0, locals := 72 } : Room) cX5_goes RX5 none D (tyS cA cB) (va_A (mdW cA m ρ P hs α rf K V C my cm tx tl sp od no ft) sz) (QX X D (tyS cA cB) (mdW cA m ρ P hs α rf K V C my cm tx tl sp od no ft) sz Sp5 (fun v _ => v = none) (fun u => mdW cA m (goR ρ n g c) P hs α rf u.1 u.2.1 u.2.2.1 u.2.2.2.1 u.2.2.2.2 tx tl sp od no ft) 0 0) 0 0 (mdW cA m (emp ρ c) P hs α rf K V C my cm tx tl sp od no ft) 41 ([some (.ref (m 0)), some (.int (nI c)), some (.int (nI i)), none]) [] := by
  intro hb0 f
  have hb := n16 h3
  have ht := top_le (sz := n)
  induction f with
  | zero => intro i h1 h2 h3; omega
  | succ f ih =>
    intro i hi1 hi hf he
    refine r_iload_n 2 dX5_goes_41 rfl rfl ?_
    refine r_aload_n 0 dX5_goes_42 rfl rfl ?_
    refine r_callV2 (As := []) (st := [.int (nI i)]) (fun _ => mdW cA m (emp ρ c) P hs α rf K V C my cm tx tl sp od no ft) [mdW cA m (emp ρ c) P hs α rf K V C my cm tx tl sp od no ft] [mdW cA m (emp ρ c) P hs α rf K V C my cm tx tl sp od no ft] [] (fun _ => [mdW cA m (emp ρ c) P hs α rf K V C my cm tx tl sp od no ft]) (fun _ => [mdW cA m (emp ρ c) P hs α rf K V C my cm tx tl sp od no ft]) (c_X5_top l D cA cB m (emp ρ c) P hs α rf K V C my cm tx tl sp od no ft n (by unfold emp; rw [upd_n _ _ (by omega), upd_n _ _ (by omega)]; exact hsz) h3 ) kv_X5_top ml_X5_49 dX5_goes_43 rfl rfl rfl rfl (segOk [0] rfl rfl rfl rfl) (fun _ => segOk [0] rfl rfl rfl rfl) rfl (Nat.le_of_ble_eq_true rfl) (fun v u h => ?_)
    subst h
    refine r_st (st' := [.int (nI (topN n)), .int (nI i)]) rfl ?_
    refine r_ncmp_gt 97 (by omega) (by omega) dX5_goes_46 (by decide) (fun hq1 => ?_) (fun hq1 => ?_)
    · have hno : gvF (emp ρ c) n (c / 4) (topN n) 1 = none := by rw [← he, show topN n + 1 - i = 0 by omega]; rfl
      have hthin := gvF_none hno (topN n) (by omega) (by omega)
      rw [wst_top h3 (by omega), top_pow h3] at hthin
      have hhalf := least_half h3
      have hyn := cnt_le (emp ρ c) 0 n
      refine r_aload_n 0 dX5_goes_97 rfl rfl ?_
      refine r_iconst (nI 0) dX5_goes_98 (by decide +kernel) ?_
      refine r_aload_n 0 dX5_goes_99 rfl rfl ?_
      refine r_get 0 fk_X5_7 dX5_goes_100 rfl rfl ?_
      refine r_iconst (nI 0) dX5_goes_103 (by decide +kernel) ?_
      refine r_iald 1 (0) dX5_goes_104 rfl rfl rfl (by omega) (Nat.le_of_ble_eq_true rfl) ?_
      refine r_top (y := nI (n)) (by unfold emp; rw [upd_n _ _ (by omega), upd_n _ _ (by omega)]; exact hsz) ?_
      refine r_iconst (-1) dX5_goes_105 (by decide +kernel) ?_
      refine r_iconst (nI 0) dX5_goes_106 (by decide +kernel) ?_
      refine r_callV2 (As := [.int (nI 0), .int (nI n), .int (-1), .int (nI 0)]) (st := []) (fun _ => mdW cA m (clr (emp ρ c) 0 n) P hs α rf (tkG (emp ρ c) (kv (emp ρ c)) 0 K n) (tkG (emp ρ c) (vv (emp ρ c)) 0 V n) (tkG (emp ρ c) nI 0 C n) (nI (cnt (emp ρ c) 0 n)) (-1) tx tl sp od no ft) [mdW cA m (emp ρ c) P hs α rf K V C my cm tx tl sp od no ft] [mdW cA m (emp ρ c) P hs α rf K V C my cm tx tl sp od no ft] [] (fun _ => [mdW cA m (clr (emp ρ c) 0 n) P hs α rf (tkG (emp ρ c) (kv (emp ρ c)) 0 K n) (tkG (emp ρ c) (vv (emp ρ c)) 0 V n) (tkG (emp ρ c) nI 0 C n) (nI (cnt (emp ρ c) 0 n)) (-1) tx tl sp od no ft]) (fun _ => [mdW cA m (clr (emp ρ c) 0 n) P hs α rf (tkG (emp ρ c) (kv (emp ρ c)) 0 K n) (tkG (emp ρ c) (vv (emp ρ c)) 0 V n) (tkG (emp ρ c) nI 0 C n) (nI (cnt (emp ρ c) 0 n)) (-1) tx tl sp od no ft]) (c_X5_takesOut_n l D cA cB m (emp ρ c) P hs α rf K V C my cm tx tl sp od no ft (0) (n) (by omega) (nI (0))) kv_X5_takesOut ml_X5_63 dX5_goes_107 rfl rfl rfl rfl (segOk [0] rfl rfl rfl rfl) (fun _ => segOk [0] rfl rfl rfl rfl) rfl (Nat.le_of_ble_eq_true rfl) (fun v u h => ?_)
      subst h
      refine r_st (st' := []) rfl ?_
      refine r_aload_n 0 dX5_goes_110 rfl rfl ?_
      refine r_get 0 fk_X5_7 dX5_goes_111 rfl rfl ?_
      refine r_iconst (nI 0) dX5_goes_114 (by decide +kernel) ?_
      refine r_iald 1 (0) dX5_goes_115 rfl rfl rfl (by omega) (Nat.le_of_ble_eq_true rfl) ?_
      refine r_top (y := nI (n)) (by rw [clr_low (by omega)]; unfold emp; rw [upd_n _ _ (by omega), upd_n _ _ (by omega)]; exact hsz) ?_
      refine r_bipush (nI 16) dX5_goes_116 (by decide +kernel) ?_
      refine r_ncmp_le 141 (by omega) (by omega) dX5_goes_118 (by decide) (fun hq2 => ?_) (fun hq2 => ?_)
      · refine r_aload_n 0 dX5_goes_141 rfl rfl ?_
        refine r_iconst (nI 0) dX5_goes_142 (by decide +kernel) ?_
        refine r_aload_n 0 dX5_goes_143 rfl rfl ?_
        refine r_get 0 fk_X5_7 dX5_goes_144 rfl rfl ?_
        refine r_iconst (nI 0) dX5_goes_147 (by decide +kernel) ?_
        refine r_iald 1 (0) dX5_goes_148 rfl rfl rfl (by omega) (Nat.le_of_ble_eq_true rfl) ?_
        refine r_top (y := nI (n)) (by rw [clr_low (by omega)]; unfold emp; rw [upd_n _ _ (by omega), upd_n _ _ (by omega)]; exact hsz) ?_
        refine r_callV2 (As := [.int (nI 0), .int (nI n)]) (st := []) (fun _ => mdW cA m (layAll (clr (emp ρ c) 0 n) (tkG (emp ρ c) (kv (emp ρ c)) 0 K n) (tkG (emp ρ c) (vv (emp ρ c)) 0 V n) (tkG (emp ρ c) nI 0 C n) (cnt (emp ρ c) 0 n) (-1) 0 n g) P hs α rf (tkG (emp ρ c) (kv (emp ρ c)) 0 K n) (tkG (emp ρ c) (vv (emp ρ c)) 0 V n) (tkG (emp ρ c) nI 0 C n) (nI (cnt (emp ρ c) 0 n)) (-1) tx tl sp od no ft) [mdW cA m (clr (emp ρ c) 0 n) P hs α rf (tkG (emp ρ c) (kv (emp ρ c)) 0 K n) (tkG (emp ρ c) (vv (emp ρ c)) 0 V n) (tkG (emp ρ c) nI 0 C n) (nI (cnt (emp ρ c) 0 n)) (-1) tx tl sp od no ft] [mdW cA m (clr (emp ρ c) 0 n) P hs α rf (tkG (emp ρ c) (kv (emp ρ c)) 0 K n) (tkG (emp ρ c) (vv (emp ρ c)) 0 V n) (tkG (emp ρ c) nI 0 C n) (nI (cnt (emp ρ c) 0 n)) (-1) tx tl sp od no ft] [] (fun _ => [mdW cA m (layAll (clr (emp ρ c) 0 n) (tkG (emp ρ c) (kv (emp ρ c)) 0 K n) (tkG (emp ρ c) (vv (emp ρ c)) 0 V n) (tkG (emp ρ c) nI 0 C n) (cnt (emp ρ c) 0 n) (-1) 0 n g) P hs α rf (tkG (emp ρ c) (kv (emp ρ c)) 0 K n) (tkG (emp ρ c) (vv (emp ρ c)) 0 V n) (tkG (emp ρ c) nI 0 C n) (nI (cnt (emp ρ c) 0 n)) (-1) tx tl sp od no ft]) (fun _ => [mdW cA m (layAll (clr (emp ρ c) 0 n) (tkG (emp ρ c) (kv (emp ρ c)) 0 K n) (tkG (emp ρ c) (vv (emp ρ c)) 0 V n) (tkG (emp ρ c) nI 0 C n) (cnt (emp ρ c) 0 n) (-1) 0 n g) P hs α rf (tkG (emp ρ c) (kv (emp ρ c)) 0 K n) (tkG (emp ρ c) (vv (emp ρ c)) 0 V n) (tkG (emp ρ c) nI 0 C n) (nI (cnt (emp ρ c) 0 n)) (-1) tx tl sp od no ft]) (c_X5_putsBack l D cA cB m (clr (emp ρ c) 0 n) P hs α rf (tkG (emp ρ c) (kv (emp ρ c)) 0 K n) (tkG (emp ρ c) (vv (emp ρ c)) 0 V n) (tkG (emp ρ c) nI 0 C n) (cnt (emp ρ c) 0 n) (-1) tx tl sp od no ft g (0) (n) (by rw [clr_low (by omega)]; unfold emp; rw [upd_n _ _ (by omega), upd_n _ _ (by omega)]; exact hg) hg8 (by omega) (by omega)) kv_X5_putsBack ml_X5_67 dX5_goes_149 rfl rfl rfl rfl (segOk [0] rfl rfl rfl rfl) (fun _ => segOk [0] rfl rfl rfl rfl) rfl (Nat.le_of_ble_eq_true rfl) (fun v u h => ?_)
        subst h
        refine r_st (st' := [.int (nI (mvAll (clr (emp ρ c) 0 n) (tkG (emp ρ c) nI 0 C n) (cnt (emp ρ c) 0 n) (-1) 0 n))]) rfl ?_
        refine r_pop rfl dX5_goes_152 ?_
        exact r_vret ((tkG (emp ρ c) (kv (emp ρ c)) 0 K n, tkG (emp ρ c) (vv (emp ρ c)) 0 V n, tkG (emp ρ c) nI 0 C n, nI (cnt (emp ρ c) 0 n), -1)) dX5_goes_153 (rfl) (by unfold goR; rw [if_neg hb0, hno]; dsimp only; unfold shR; rw [if_neg (by omega), spR_c])
      · refine r_aload_n 0 dX5_goes_121 rfl rfl ?_
        refine r_get 0 fk_X5_7 dX5_goes_122 rfl rfl ?_
        refine r_iconst (nI 0) dX5_goes_125 (by decide +kernel) ?_
        refine r_dup2 rfl rfl dX5_goes_126 ?_
        refine r_iald 1 (0) dX5_goes_127 rfl rfl rfl (by omega) (Nat.le_of_ble_eq_true rfl) ?_
        refine r_top (y := nI (n)) (by rw [clr_low (by omega)]; unfold emp; rw [upd_n _ _ (by omega), upd_n _ _ (by omega)]; exact hsz) ?_
        refine r_iconst (nI 2) dX5_goes_128 (by decide +kernel) ?_
        refine r_nidiv (by omega) (by omega) (by omega) dX5_goes_129 ?_
        refine r_iast 1 (0) (mdW cA m (upd (clr (emp ρ c) 0 n) 0 (nI (n / 2))) P hs α rf (tkG (emp ρ c) (kv (emp ρ c)) 0 K n) (tkG (emp ρ c) (vv (emp ρ c)) 0 V n) (tkG (emp ρ c) nI 0 C n) (nI (cnt (emp ρ c) 0 n)) (-1) tx tl sp od no ft) dX5_goes_130 rfl rfl rfl (by omega) (Nat.le_of_ble_eq_true rfl) rfl ?_
        refine r_aload_n 0 dX5_goes_131 rfl rfl ?_
        refine r_get 0 fk_X5_7 dX5_goes_132 rfl rfl ?_
        refine r_iconst (nI 5) dX5_goes_135 (by decide +kernel) ?_
        refine r_dup2 rfl rfl dX5_goes_136 ?_
        refine r_iald 1 (5) dX5_goes_137 rfl rfl rfl (by omega) (Nat.le_of_ble_eq_true rfl) ?_
        refine r_top (y := (emp ρ c) 5) (by rw [upd_n _ _ (by omega), clr_low (by omega)]) ?_
        refine r_iconst (nI 1) dX5_goes_138 (by decide +kernel) ?_
        refine r_iadd dX5_goes_139 ?_
        refine r_iast 1 (5) (mdW cA m (upd (upd (clr (emp ρ c) 0 n) 0 (nI (n / 2))) 5 (((emp ρ c) 5) + (nI (1)))) P hs α rf (tkG (emp ρ c) (kv (emp ρ c)) 0 K n) (tkG (emp ρ c) (vv (emp ρ c)) 0 V n) (tkG (emp ρ c) nI 0 C n) (nI (cnt (emp ρ c) 0 n)) (-1) tx tl sp od no ft) dX5_goes_140 rfl rfl rfl (by omega) (Nat.le_of_ble_eq_true rfl) rfl ?_
        refine r_aload_n 0 dX5_goes_141 rfl rfl ?_
        refine r_iconst (nI 0) dX5_goes_142 (by decide +kernel) ?_
        refine r_aload_n 0 dX5_goes_143 rfl rfl ?_
        refine r_get 0 fk_X5_7 dX5_goes_144 rfl rfl ?_
        refine r_iconst (nI 0) dX5_goes_147 (by decide +kernel) ?_
        refine r_iald 1 (0) dX5_goes_148 rfl rfl rfl (by omega) (Nat.le_of_ble_eq_true rfl) ?_
        refine r_top (y := nI (n / 2)) (by rw [upd_n _ _ (by omega), upd_s]) ?_
        refine r_callV2 (As := [.int (nI 0), .int (nI (n / 2))]) (st := []) (fun _ => mdW cA m (layAll (upd (upd (clr (emp ρ c) 0 n) 0 (nI (n / 2))) 5 (((emp ρ c) 5) + (nI (1)))) (tkG (emp ρ c) (kv (emp ρ c)) 0 K n) (tkG (emp ρ c) (vv (emp ρ c)) 0 V n) (tkG (emp ρ c) nI 0 C n) (cnt (emp ρ c) 0 n) (-1) 0 (n / 2) g) P hs α rf (tkG (emp ρ c) (kv (emp ρ c)) 0 K n) (tkG (emp ρ c) (vv (emp ρ c)) 0 V n) (tkG (emp ρ c) nI 0 C n) (nI (cnt (emp ρ c) 0 n)) (-1) tx tl sp od no ft) [mdW cA m (upd (upd (clr (emp ρ c) 0 n) 0 (nI (n / 2))) 5 (((emp ρ c) 5) + (nI (1)))) P hs α rf (tkG (emp ρ c) (kv (emp ρ c)) 0 K n) (tkG (emp ρ c) (vv (emp ρ c)) 0 V n) (tkG (emp ρ c) nI 0 C n) (nI (cnt (emp ρ c) 0 n)) (-1) tx tl sp od no ft] [mdW cA m (upd (upd (clr (emp ρ c) 0 n) 0 (nI (n / 2))) 5 (((emp ρ c) 5) + (nI (1)))) P hs α rf (tkG (emp ρ c) (kv (emp ρ c)) 0 K n) (tkG (emp ρ c) (vv (emp ρ c)) 0 V n) (tkG (emp ρ c) nI 0 C n) (nI (cnt (emp ρ c) 0 n)) (-1) tx tl sp od no ft] [] (fun _ => [mdW cA m (layAll (upd (upd (clr (emp ρ c) 0 n) 0 (nI (n / 2))) 5 (((emp ρ c) 5) + (nI (1)))) (tkG (emp ρ c) (kv (emp ρ c)) 0 K n) (tkG (emp ρ c) (vv (emp ρ c)) 0 V n) (tkG (emp ρ c) nI 0 C n) (cnt (emp ρ c) 0 n) (-1) 0 (n / 2) g) P hs α rf (tkG (emp ρ c) (kv (emp ρ c)) 0 K n) (tkG (emp ρ c) (vv (emp ρ c)) 0 V n) (tkG (emp ρ c) nI 0 C n) (nI (cnt (emp ρ c) 0 n)) (-1) tx tl sp od no ft]) (fun _ => [mdW cA m (layAll (upd (upd (clr (emp ρ c) 0 n) 0 (nI (n / 2))) 5 (((emp ρ c) 5) + (nI (1)))) (tkG (emp ρ c) (kv (emp ρ c)) 0 K n) (tkG (emp ρ c) (vv (emp ρ c)) 0 V n) (tkG (emp ρ c) nI 0 C n) (cnt (emp ρ c) 0 n) (-1) 0 (n / 2) g) P hs α rf (tkG (emp ρ c) (kv (emp ρ c)) 0 K n) (tkG (emp ρ c) (vv (emp ρ c)) 0 V n) (tkG (emp ρ c) nI 0 C n) (nI (cnt (emp ρ c) 0 n)) (-1) tx tl sp od no ft]) (c_X5_putsBack l D cA cB m (upd (upd (clr (emp ρ c) 0 n) 0 (nI (n / 2))) 5 (((emp ρ c) 5) + (nI (1)))) P hs α rf (tkG (emp ρ c) (kv (emp ρ c)) 0 K n) (tkG (emp ρ c) (vv (emp ρ c)) 0 V n) (tkG (emp ρ c) nI 0 C n) (cnt (emp ρ c) 0 n) (-1) tx tl sp od no ft g (0) (n / 2) (by rw [upd_n _ _ (by omega), upd_n _ _ (by omega), clr_low (by omega)]; unfold emp; rw [upd_n _ _ (by omega), upd_n _ _ (by omega)]; exact hg) hg8 (by omega) (by omega)) kv_X5_putsBack ml_X5_67 dX5_goes_149 rfl rfl rfl rfl (segOk [0] rfl rfl rfl rfl) (fun _ => segOk [0] rfl rfl rfl rfl) rfl (Nat.le_of_ble_eq_true rfl) (fun v u h => ?_)
        subst h
        refine r_st (st' := [.int (nI (mvAll (upd (upd (clr (emp ρ c) 0 n) 0 (nI (n / 2))) 5 (((emp ρ c) 5) + (nI (1)))) (tkG (emp ρ c) nI 0 C n) (cnt (emp ρ c) 0 n) (-1) 0 (n / 2)))]) rfl ?_
        refine r_pop rfl dX5_goes_152 ?_
        exact r_vret ((tkG (emp ρ c) (kv (emp ρ c)) 0 K n, tkG (emp ρ c) (vv (emp ρ c)) 0 V n, tkG (emp ρ c) nI 0 C n, nI (cnt (emp ρ c) 0 n), -1)) dX5_goes_153 (rfl) (by unfold goR; rw [if_neg hb0, hno]; dsimp only; unfold shR; rw [if_pos (by omega), layAll_c (fun j hj => tkG_c (f' := Zr) hj) (fun j hj => tkG_c (f' := Zr) hj) (fun j hj => tkG_c (f' := Zr) hj)]; rfl)
    · have hw := wst_le (sg := c / 4) h3 (by omega) (show i ≤ topN n by omega)
      have hp := pow4 i (by omega)
      have hpp : 0 < 4 * 2 ^ i := Nat.mul_pos (by decide) (Nat.pow_pos (by decide))
      have hyl := cnt_le (emp ρ c) (wst (c / 4) i) (4 * 2 ^ i)
      have hll := least_lt (n := n) (i := i) (by omega)
      refine r_iload_n 1 dX5_goes_49 rfl rfl ?_
      refine r_iload_n 2 dX5_goes_50 rfl rfl ?_
      refine r_callS2 (As := [.int (nI i)]) (st := [.int (nI c)]) (fun _ => mdW cA m (emp ρ c) P hs α rf K V C my cm tx tl sp od no ft) [mdW cA m (emp ρ c) P hs α rf K V C my cm tx tl sp od no ft] [] [mdW cA m (emp ρ c) P hs α rf K V C my cm tx tl sp od no ft] (fun _ => [mdW cA m (emp ρ c) P hs α rf K V C my cm tx tl sp od no ft]) (fun _ => []) (c_X5_wide l D cA cB (i) (by omega)) ks_X5_wide ml_X5_45 dX5_goes_51 rfl rfl (segOk [0] rfl rfl rfl rfl) (fun _ => segOk [0] rfl rfl rfl rfl) rfl (Nat.le_of_ble_eq_true rfl) (fun v u h => ?_)
      subst h
      refine r_st (st' := [.int (nI (4 * 2 ^ i)), .int (nI c)]) rfl ?_
      refine r_nidiv (by omega) (by omega) (by omega) dX5_goes_54 ?_
      refine r_iload_n 2 dX5_goes_55 rfl rfl ?_
      refine r_callS2 (As := [.int (nI i)]) (st := [.int (nI (c / (4 * 2 ^ i)))]) (fun _ => mdW cA m (emp ρ c) P hs α rf K V C my cm tx tl sp od no ft) [mdW cA m (emp ρ c) P hs α rf K V C my cm tx tl sp od no ft] [] [mdW cA m (emp ρ c) P hs α rf K V C my cm tx tl sp od no ft] (fun _ => [mdW cA m (emp ρ c) P hs α rf K V C my cm tx tl sp od no ft]) (fun _ => []) (c_X5_wide l D cA cB (i) (by omega)) ks_X5_wide ml_X5_45 dX5_goes_56 rfl rfl (segOk [0] rfl rfl rfl rfl) (fun _ => segOk [0] rfl rfl rfl rfl) rfl (Nat.le_of_ble_eq_true rfl) (fun v u h => ?_)
      subst h
      refine r_st (st' := [.int (nI (4 * 2 ^ i)), .int (nI (c / (4 * 2 ^ i)))]) rfl ?_
      refine r_nimul dX5_goes_59 ?_
      refine r_top (y := nI (wst (c / 4) i)) (by rw [wst_c]) ?_
      refine r_istore_n 3 ([some (.ref (m 0)), some (.int (nI c)), some (.int (nI i)), some (.int (nI (wst (c / 4) i)))]) dX5_goes_60 rfl (Nat.le_of_ble_eq_true rfl) rfl rfl ?_
      refine r_aload_n 0 dX5_goes_61 rfl rfl ?_
      refine r_iload_n 3 dX5_goes_62 rfl rfl ?_
      refine r_iload_n 2 dX5_goes_63 rfl rfl ?_
      refine r_callS2 (As := [.int (nI i)]) (st := [.int (nI (wst (c / 4) i)), .ref (m 0)]) (fun _ => mdW cA m (emp ρ c) P hs α rf K V C my cm tx tl sp od no ft) [mdW cA m (emp ρ c) P hs α rf K V C my cm tx tl sp od no ft] [] [mdW cA m (emp ρ c) P hs α rf K V C my cm tx tl sp od no ft] (fun _ => [mdW cA m (emp ρ c) P hs α rf K V C my cm tx tl sp od no ft]) (fun _ => []) (c_X5_wide l D cA cB (i) (by omega)) ks_X5_wide ml_X5_45 dX5_goes_64 rfl rfl (segOk [0] rfl rfl rfl rfl) (fun _ => segOk [0] rfl rfl rfl rfl) rfl (Nat.le_of_ble_eq_true rfl) (fun v u h => ?_)
      subst h
      refine r_st (st' := [.int (nI (4 * 2 ^ i)), .int (nI (wst (c / 4) i)), .ref (m 0)]) rfl ?_
      refine r_callV2 (As := [.int (nI (wst (c / 4) i)), .int (nI (4 * 2 ^ i))]) (st := []) (fun _ => mdW cA m (emp ρ c) P hs α rf K V C my cm tx tl sp od no ft) [mdW cA m (emp ρ c) P hs α rf K V C my cm tx tl sp od no ft] [mdW cA m (emp ρ c) P hs α rf K V C my cm tx tl sp od no ft] [] (fun _ => [mdW cA m (emp ρ c) P hs α rf K V C my cm tx tl sp od no ft]) (fun _ => [mdW cA m (emp ρ c) P hs α rf K V C my cm tx tl sp od no ft]) (c_X5_keysIn l D cA cB m (emp ρ c) P hs α rf K V C my cm tx tl sp od no ft (wst (c / 4) i) (4 * 2 ^ i) (by omega)) kv_X5_keysIn ml_X5_74 dX5_goes_67 rfl rfl rfl rfl (segOk [0] rfl rfl rfl rfl) (fun _ => segOk [0] rfl rfl rfl rfl) rfl (Nat.le_of_ble_eq_true rfl) (fun v u h => ?_)
      subst h
      refine r_st (st' := [.int (nI (cnt (emp ρ c) (wst (c / 4) i) (4 * 2 ^ i)))]) rfl ?_
      refine r_aload_n 0 dX5_goes_70 rfl rfl ?_
      refine r_iload_n 2 dX5_goes_71 rfl rfl ?_
      refine r_callV2 (As := [.int (nI i)]) (st := [.int (nI (cnt (emp ρ c) (wst (c / 4) i) (4 * 2 ^ i)))]) (fun _ => mdW cA m (emp ρ c) P hs α rf K V C my cm tx tl sp od no ft) [mdW cA m (emp ρ c) P hs α rf K V C my cm tx tl sp od no ft] [mdW cA m (emp ρ c) P hs α rf K V C my cm tx tl sp od no ft] [] (fun _ => [mdW cA m (emp ρ c) P hs α rf K V C my cm tx tl sp od no ft]) (fun _ => [mdW cA m (emp ρ c) P hs α rf K V C my cm tx tl sp od no ft]) (c_X5_least l D cA cB m (emp ρ c) P hs α rf K V C my cm tx tl sp od no ft n (by unfold emp; rw [upd_n _ _ (by omega), upd_n _ _ (by omega)]; exact hsz) h3 (i) (by omega)) kv_X5_least ml_X5_84 dX5_goes_72 rfl rfl rfl rfl (segOk [0] rfl rfl rfl rfl) (fun _ => segOk [0] rfl rfl rfl rfl) rfl (Nat.le_of_ble_eq_true rfl) (fun v u h => ?_)
      subst h
      refine r_st (st' := [.int (nI (leastN n i)), .int (nI (cnt (emp ρ c) (wst (c / 4) i) (4 * 2 ^ i)))]) rfl ?_
      refine r_ncmp_lt 91 (by omega) (by omega) dX5_goes_75 (by decide) (fun hq3 => ?_) (fun hq3 => ?_)
      · refine r_iinc (v := nI (i + 1)) ([some (.ref (m 0)), some (.int (nI c)), some (.int (nI (i + 1))), some (.int (nI (wst (c / 4) i)))]) dX5_goes_91 rfl (nI_1 _) (Nat.le_of_ble_eq_true rfl) rfl rfl ?_
        refine r_goto 41 dX5_goes_94 (by decide) ?_
        refine r_drop (lv' := [some (.ref (m 0)), some (.int (nI c)), some (.int (nI (i + 1))), none]) 3 rfl ?_
        exact ih (i + 1) (by omega) (by omega) (by omega) (by rw [← he, show topN n + 1 - i = (topN n - i) + 1 by omega, show topN n + 1 - (i + 1) = topN n - i by omega]; exact (if_neg (Nat.not_le.mpr hq3)).symm)
      · refine r_aload_n 0 dX5_goes_78 rfl rfl ?_
        refine r_iload_n 3 dX5_goes_79 rfl rfl ?_
        refine r_iload_n 2 dX5_goes_80 rfl rfl ?_
        refine r_callS2 (As := [.int (nI i)]) (st := [.int (nI (wst (c / 4) i)), .ref (m 0)]) (fun _ => mdW cA m (emp ρ c) P hs α rf K V C my cm tx tl sp od no ft) [mdW cA m (emp ρ c) P hs α rf K V C my cm tx tl sp od no ft] [] [mdW cA m (emp ρ c) P hs α rf K V C my cm tx tl sp od no ft] (fun _ => [mdW cA m (emp ρ c) P hs α rf K V C my cm tx tl sp od no ft]) (fun _ => []) (c_X5_wide l D cA cB (i) (by omega)) ks_X5_wide ml_X5_45 dX5_goes_81 rfl rfl (segOk [0] rfl rfl rfl rfl) (fun _ => segOk [0] rfl rfl rfl rfl) rfl (Nat.le_of_ble_eq_true rfl) (fun v u h => ?_)
        subst h
        refine r_st (st' := [.int (nI (4 * 2 ^ i)), .int (nI (wst (c / 4) i)), .ref (m 0)]) rfl ?_
        refine r_iconst (-1) dX5_goes_84 (by decide +kernel) ?_
        refine r_iconst (nI 0) dX5_goes_85 (by decide +kernel) ?_
        refine r_callV2 (As := [.int (nI (wst (c / 4) i)), .int (nI (4 * 2 ^ i)), .int (-1), .int (nI 0)]) (st := []) (fun u4 => mdW cA m (spR (emp ρ c) g (wst (c / 4) i) (4 * 2 ^ i)) P hs α rf u4.1 u4.2.1 u4.2.2.1 u4.2.2.2.1 u4.2.2.2.2 tx tl sp od no ft) [mdW cA m (emp ρ c) P hs α rf K V C my cm tx tl sp od no ft] [mdW cA m (emp ρ c) P hs α rf K V C my cm tx tl sp od no ft] [] (fun u4 => [mdW cA m (spR (emp ρ c) g (wst (c / 4) i) (4 * 2 ^ i)) P hs α rf u4.1 u4.2.1 u4.2.2.1 u4.2.2.2.1 u4.2.2.2.2 tx tl sp od no ft]) (fun u4 => [mdW cA m (spR (emp ρ c) g (wst (c / 4) i) (4 * 2 ^ i)) P hs α rf u4.1 u4.2.1 u4.2.2.1 u4.2.2.2.1 u4.2.2.2.2 tx tl sp od no ft]) (c_X5_spacesWindow_n l D cA cB m (emp ρ c) P hs α rf K V C my cm tx tl sp od no ft g (by unfold emp; rw [upd_n _ _ (by omega), upd_n _ _ (by omega)]; exact hg) hg8 (wst (c / 4) i) (4 * 2 ^ i) (by omega) (nI (0))) kv_X5_spacesWindow ml_X5_80 dX5_goes_86 rfl rfl rfl rfl (segOk [0] rfl rfl rfl rfl) (fun _ => segOk [0] rfl rfl rfl rfl) rfl (Nat.le_of_ble_eq_true rfl) (fun v u4 h => ?_)
        subst h
        refine r_st (st' := [.int (nI (spM (emp ρ c) (wst (c / 4) i) (4 * 2 ^ i)))]) rfl ?_
        refine r_pop rfl dX5_goes_89 ?_
        exact r_vret ((u4.1, u4.2.1, u4.2.2.1, u4.2.2.2.1, u4.2.2.2.2)) dX5_goes_90 (rfl) (by have hso : gvF (emp ρ c) n (c / 4) (topN n) 1 = some i := (by rw [← he, show topN n + 1 - i = (topN n - i) + 1 by omega]; exact if_pos hq3); unfold goR; rw [if_neg hb0, hso])

set_option maxRecDepth 100000 in
set_option maxHeartbeats 4000000 in
theorem c_X5_goes (l : Launch) (D : va_G) (cA cB : ClassId) (m : Nat → Nat) (ρ P : Nat → Int32) (hs : Int32) (α rf K V C : Nat → Int32) (my cm : Int32) (tx : Nat → Int32) (tl sp : Int32) (od : Nat → Int32) (no ft : Int32) (n : Nat) (hsz : ρ 0 = nI n) (h3 : n = 16 ∨ n = 32 ∨ n = 64) (g : Nat) (hg : ρ 6 = nI g) (hg8 : g ≤ 8) (c : Nat) (hc : c < n) : Mt l D (tyS cA cB) yX5_goes cX5_goes 4 none ({ frames := 3, cells := 0, slots := 0, locals := 72 } : Room) [.ref (m 0), .int (nI c)] (mdW cA m ρ P hs α rf K V C my cm tx tl sp od no ft) Sp5 (fun v _ => v = none) (fun u => mdW cA m (goR ρ n g c) P hs α rf u.1 u.2.1 u.2.2.1 u.2.2.2.1 u.2.2.2.2 tx tl sp od no ft) 0 0 := by
  refine mt_in RX5 ([some (.ref (m 0)), some (.int (nI c)), none, none]) rfl (by decide +kernel) rfl (Nat.le_of_ble_eq_true rfl) rfl rfl (fun X sz => ?_)
  have hb := n16 h3
  have ht := top_le (sz := n)
  refine r_aload_n 0 dX5_goes_0 rfl rfl ?_
  refine r_get 0 fk_X5_7 dX5_goes_1 rfl rfl ?_
  refine r_bipush (nI 31) dX5_goes_4 (by decide +kernel) ?_
  refine r_iload_n 1 dX5_goes_6 rfl rfl ?_
  refine r_niadd dX5_goes_7 ?_
  refine r_iconst (-1) dX5_goes_8 (by decide +kernel) ?_
  refine r_iast 1 (31 + c) (mdW cA m (upd ρ (31 + c) (-1)) P hs α rf K V C my cm tx tl sp od no ft) dX5_goes_9 rfl rfl rfl (by omega) (Nat.le_of_ble_eq_true rfl) rfl ?_
  refine r_aload_n 0 dX5_goes_10 rfl rfl ?_
  refine r_get 0 fk_X5_7 dX5_goes_11 rfl rfl ?_
  refine r_bipush (nI 95) dX5_goes_14 (by decide +kernel) ?_
  refine r_iload_n 1 dX5_goes_16 rfl rfl ?_
  refine r_niadd dX5_goes_17 ?_
  refine r_iconst (nI 0) dX5_goes_18 (by decide +kernel) ?_
  refine r_iast 1 (95 + c) (mdW cA m (upd (upd ρ (31 + c) (-1)) (95 + c) (nI (0))) P hs α rf K V C my cm tx tl sp od no ft) dX5_goes_19 rfl rfl rfl (by omega) (Nat.le_of_ble_eq_true rfl) rfl ?_
  refine r_ws (ws' := mdW cA m (emp ρ c) P hs α rf K V C my cm tx tl sp od no ft) rfl ?_
  refine r_aload_n 0 dX5_goes_20 rfl rfl ?_
  refine r_iload_n 1 dX5_goes_21 rfl rfl ?_
  refine r_iconst (nI 4) dX5_goes_22 (by decide +kernel) ?_
  refine r_nidiv (by omega) (by omega) (by omega) dX5_goes_23 ?_
  refine r_iconst (nI 4) dX5_goes_24 (by decide +kernel) ?_
  refine r_nimul dX5_goes_25 ?_
  have hw := wst_le (sg := c / 4) (i := 0) h3 (by omega) (by omega)
  have hyl := cnt_le (emp ρ c) (wst (c / 4) 0) 4
  have hll := least_lt (n := n) (i := 0) (by omega)
  refine r_top (y := nI (wst (c / 4) 0)) (by rw [wst_0]) ?_
  refine r_iconst (nI 4) dX5_goes_26 (by decide +kernel) ?_
  refine r_callV2 (As := [.int (nI (wst (c / 4) 0)), .int (nI 4)]) (st := []) (fun _ => mdW cA m (emp ρ c) P hs α rf K V C my cm tx tl sp od no ft) [mdW cA m (emp ρ c) P hs α rf K V C my cm tx tl sp od no ft] [mdW cA m (emp ρ c) P hs α rf K V C my cm tx tl sp od no ft] [] (fun _ => [mdW cA m (emp ρ c) P hs α rf K V C my cm tx tl sp od no ft]) (fun _ => [mdW cA m (emp ρ c) P hs α rf K V C my cm tx tl sp od no ft]) (c_X5_keysIn l D cA cB m (emp ρ c) P hs α rf K V C my cm tx tl sp od no ft (wst (c / 4) 0) (4) (by omega)) kv_X5_keysIn ml_X5_74 dX5_goes_27 rfl rfl rfl rfl (segOk [0] rfl rfl rfl rfl) (fun _ => segOk [0] rfl rfl rfl rfl) rfl (Nat.le_of_ble_eq_true rfl) (fun v u h => ?_)
  subst h
  refine r_st (st' := [.int (nI (cnt (emp ρ c) (wst (c / 4) 0) 4))]) rfl ?_
  refine r_aload_n 0 dX5_goes_30 rfl rfl ?_
  refine r_iconst (nI 0) dX5_goes_31 (by decide +kernel) ?_
  refine r_callV2 (As := [.int (nI 0)]) (st := [.int (nI (cnt (emp ρ c) (wst (c / 4) 0) 4))]) (fun _ => mdW cA m (emp ρ c) P hs α rf K V C my cm tx tl sp od no ft) [mdW cA m (emp ρ c) P hs α rf K V C my cm tx tl sp od no ft] [mdW cA m (emp ρ c) P hs α rf K V C my cm tx tl sp od no ft] [] (fun _ => [mdW cA m (emp ρ c) P hs α rf K V C my cm tx tl sp od no ft]) (fun _ => [mdW cA m (emp ρ c) P hs α rf K V C my cm tx tl sp od no ft]) (c_X5_least l D cA cB m (emp ρ c) P hs α rf K V C my cm tx tl sp od no ft n (by unfold emp; rw [upd_n _ _ (by omega), upd_n _ _ (by omega)]; exact hsz) h3 (0) (by omega)) kv_X5_least ml_X5_84 dX5_goes_32 rfl rfl rfl rfl (segOk [0] rfl rfl rfl rfl) (fun _ => segOk [0] rfl rfl rfl rfl) rfl (Nat.le_of_ble_eq_true rfl) (fun v u h => ?_)
  subst h
  refine r_st (st' := [.int (nI (leastN n 0)), .int (nI (cnt (emp ρ c) (wst (c / 4) 0) 4))]) rfl ?_
  refine r_ncmp_lt 39 (by omega) (by omega) dX5_goes_35 (by decide) (fun hq1 => ?_) (fun hq1 => ?_)
  · refine r_iconst (nI 1) dX5_goes_39 (by decide +kernel) ?_
    refine r_istore_n 2 ([some (.ref (m 0)), some (.int (nI c)), some (.int (nI 1)), none]) dX5_goes_40 rfl (Nat.le_of_ble_eq_true rfl) rfl rfl ?_
    exact lp_X5_goes l D cA cB m ρ P hs α rf K V C my cm tx tl sp od no ft n hsz h3 g hg hg8 c hc X sz (Nat.not_le.mpr hq1) (topN n + 2) 1 (by omega) (by omega) (by omega) rfl
  · exact r_vret ((K, V, C, my, cm)) dX5_goes_38 (rfl) (by unfold goR; rw [if_pos hq1])

set_option maxRecDepth 100000 in
set_option maxHeartbeats 4000000 in
theorem c_X5_putOf (l : Launch) (D : va_G) (cA cB : ClassId) (m : Nat → Nat) (ρ P : Nat → Int32) (hs : Int32) (α rf K V C : Nat → Int32) (my cm : Int32) (tx : Nat → Int32) (tl sp : Int32) (od : Nat → Int32) (no ft : Int32) (n : Nat) (hsz : ρ 0 = nI n) (h3 : n = 16 ∨ n = 32 ∨ n = 64) (g : Nat) (hg : ρ 6 = nI g) (hg8 : g ≤ 8) (hs2 : Srt ρ n) (k v : Int32) : Mt l D (tyS cA cB) yX5_putOf cX5_putOf 5 (some .int) ({ frames := 4, cells := 0, slots := 0, locals := 97 } : Room) [.ref (m 0), .int (k), .int (v)] (mdW cA m ρ P hs α rf K V C my cm tx tl sp od no ft) Sp5 (fun w _ => w = some (.int (pAns ρ n k v))) (fun u => mdW cA m (pRow ρ n g k v) P hs α rf u.1 u.2.1 u.2.2.1 u.2.2.2.1 u.2.2.2.2 tx tl sp od no ft) 0 0 := by
  refine mt_in RX5 ([some (.ref (m 0)), some (.int (k)), some (.int (v)), none, none]) rfl (by decide +kernel) rfl (Nat.le_of_ble_eq_true rfl) rfl rfl (fun X sz => ?_)
  have hb := n16 h3
  refine r_iload_n 1 dX5_putOf_0 rfl rfl ?_
  refine r_iconst (nI 0) dX5_putOf_1 (by decide +kernel) ?_
  refine r_sipush (nI 999) dX5_putOf_2 (by decide +kernel) ?_
  refine r_callS2 (As := [.int (k), .int (nI 0), .int (nI 999)]) (st := []) (fun _ => mdW cA m ρ P hs α rf K V C my cm tx tl sp od no ft) [mdW cA m ρ P hs α rf K V C my cm tx tl sp od no ft] [] [mdW cA m ρ P hs α rf K V C my cm tx tl sp od no ft] (fun _ => [mdW cA m ρ P hs α rf K V C my cm tx tl sp od no ft]) (fun _ => []) (c_X5_in0 l D cA cB (k) (nI (999))) ks_X5_in ml_X5_87 dX5_putOf_5 rfl rfl (segOk [0] rfl rfl rfl rfl) (fun _ => segOk [0] rfl rfl rfl rfl) rfl (Nat.le_of_ble_eq_true rfl) (fun v u h => ?_)
  subst h
  refine r_st (st' := [.int (bI (wi k (nI (999))))]) rfl ?_
  refine r_bif_eq 21 dX5_putOf_8 (by decide) (fun hq1 => ?_) (fun hq1 => ?_)
  · refine r_bipush (-2) dX5_putOf_21 (by decide +kernel) ?_
    exact r_iret ((K, V, C, my, cm)) dX5_putOf_23 (by have hr : rfP ρ n k v = -2 := (by unfold rfP; rw [if_neg (by rw [hq1, Bool.false_and]; decide)]); unfold pAns; rw [hr]; rfl) (by have hr : rfP ρ n k v = -2 := (by unfold rfP; rw [if_neg (by rw [hq1, Bool.false_and]; decide)]); unfold pRow; rw [hr]; rfl)
  · refine r_iload_n 2 dX5_putOf_11 rfl rfl ?_
    refine r_iconst (nI 0) dX5_putOf_12 (by decide +kernel) ?_
    refine r_bipush (nI 99) dX5_putOf_13 (by decide +kernel) ?_
    refine r_callS2 (As := [.int (v), .int (nI 0), .int (nI 99)]) (st := []) (fun _ => mdW cA m ρ P hs α rf K V C my cm tx tl sp od no ft) [mdW cA m ρ P hs α rf K V C my cm tx tl sp od no ft] [] [mdW cA m ρ P hs α rf K V C my cm tx tl sp od no ft] (fun _ => [mdW cA m ρ P hs α rf K V C my cm tx tl sp od no ft]) (fun _ => []) (c_X5_in0 l D cA cB (v) (nI (99))) ks_X5_in ml_X5_87 dX5_putOf_15 rfl rfl (segOk [0] rfl rfl rfl rfl) (fun _ => segOk [0] rfl rfl rfl rfl) rfl (Nat.le_of_ble_eq_true rfl) (fun v u h => ?_)
    subst h
    refine r_st (st' := [.int (bI (wi v (nI (99))))]) rfl ?_
    refine r_bif_ne 24 dX5_putOf_18 (by decide) (fun hq2 => ?_) (fun hq2 => ?_)
    · refine r_aload_n 0 dX5_putOf_24 rfl rfl ?_
      refine r_iload_n 1 dX5_putOf_25 rfl rfl ?_
      refine r_callV2 (As := [.int (k)]) (st := []) (fun _ => mdW cA m ρ P hs α rf K V C my cm tx tl sp od no ft) [mdW cA m ρ P hs α rf K V C my cm tx tl sp od no ft] [mdW cA m ρ P hs α rf K V C my cm tx tl sp od no ft] [] (fun _ => [mdW cA m ρ P hs α rf K V C my cm tx tl sp od no ft]) (fun _ => [mdW cA m ρ P hs α rf K V C my cm tx tl sp od no ft]) (c_X5_cellOf l D cA cB m ρ P hs α rf K V C my cm tx tl sp od no ft n (hsz) h3 (k)) kv_X5_cellOf ml_X5_91 dX5_putOf_26 rfl rfl rfl rfl (segOk [0] rfl rfl rfl rfl) (fun _ => segOk [0] rfl rfl rfl rfl) rfl (Nat.le_of_ble_eq_true rfl) (fun v u h => ?_)
      subst h
      refine r_st (st' := [.int (lastF ρ k n)]) rfl ?_
      refine r_istore_n 3 ([some (.ref (m 0)), some (.int (k)), some (.int (v)), some (.int (lastF ρ k n)), none]) dX5_putOf_29 rfl (Nat.le_of_ble_eq_true rfl) rfl rfl ?_
      have hk0 := wi_m1 hq1
      have hok : (wi k (nI 999) && wi v (nI 99)) = true := by rw [hq1, hq2]; rfl
      rcases lastF_cases ρ k n with ⟨c, hc, hck, e1, e2⟩ | ⟨e1, e2⟩
      · refine r_lv (lv' := [some (.ref (m 0)), some (.int (k)), some (.int (v)), some (.int (nI c)), none]) (by rw [e1]) ?_
        refine r_iload_n 3 dX5_putOf_30 rfl rfl ?_
        refine r_iconst (-1) dX5_putOf_31 (by decide +kernel) ?_
        refine r_icmp_ne 42 dX5_putOf_32 (by decide) (fun hq3 => ?_) (fun hq3 => ?_)
        · refine r_aload_n 0 dX5_putOf_42 rfl rfl ?_
          refine r_get 0 fk_X5_7 dX5_putOf_43 rfl rfl ?_
          refine r_bipush (nI 95) dX5_putOf_46 (by decide +kernel) ?_
          refine r_iload_n 3 dX5_putOf_48 rfl rfl ?_
          refine r_niadd dX5_putOf_49 ?_
          refine r_iald 1 (95 + c) dX5_putOf_50 rfl rfl rfl (by omega) (Nat.le_of_ble_eq_true rfl) ?_
          refine r_istore ([some (.ref (m 0)), some (.int (k)), some (.int (v)), some (.int (nI c)), some (.int (ρ (95 + c)))]) dX5_putOf_51 (Nat.le_of_ble_eq_true rfl) rfl rfl ?_
          refine r_aload_n 0 dX5_putOf_53 rfl rfl ?_
          refine r_get 0 fk_X5_7 dX5_putOf_54 rfl rfl ?_
          refine r_bipush (nI 95) dX5_putOf_57 (by decide +kernel) ?_
          refine r_iload_n 3 dX5_putOf_59 rfl rfl ?_
          refine r_niadd dX5_putOf_60 ?_
          refine r_iload_n 2 dX5_putOf_61 rfl rfl ?_
          refine r_iast 1 (95 + c) (mdW cA m (upd ρ (95 + c) v) P hs α rf K V C my cm tx tl sp od no ft) dX5_putOf_62 rfl rfl rfl (by omega) (Nat.le_of_ble_eq_true rfl) rfl ?_
          refine r_iload dX5_putOf_63 rfl ?_
          refine r_bipush (nI 100) dX5_putOf_65 (by decide +kernel) ?_
          refine r_iadd dX5_putOf_67 ?_
          exact r_iret ((K, V, C, my, cm)) dX5_putOf_68 (by have hr : rfP ρ n k v = 0 := (by unfold rfP; rw [if_pos hok, if_neg (by rw [e1]; exact nI_ne_m1 (by omega))]); unfold pAns; rw [if_pos hr]; unfold putM; rw [if_neg (by rw [e1]; exact nI_ne_m1 (by omega)), e2]) (by have hr : rfP ρ n k v = 0 := (by unfold rfP; rw [if_pos hok, if_neg (by rw [e1]; exact nI_ne_m1 (by omega))]); unfold pRow; rw [if_pos hr]; unfold putR; rw [if_neg (by rw [e1]; exact nI_ne_m1 (by omega)), repR_at hck (fun d hd e => srt_u hs2 hk0 hd hc e hck) hc])
        · exact absurd hq3 (nI_ne_m1 (by omega))
      · refine r_lv (lv' := [some (.ref (m 0)), some (.int (k)), some (.int (v)), some (.int (-1)), none]) (by rw [e1]) ?_
        refine r_iload_n 3 dX5_putOf_30 rfl rfl ?_
        refine r_iconst (-1) dX5_putOf_31 (by decide +kernel) ?_
        refine r_icmp_ne 42 dX5_putOf_32 (by decide) (fun hq4 => ?_) (fun hq4 => ?_)
        · exact absurd rfl hq4
        · refine r_aload_n 0 dX5_putOf_35 rfl rfl ?_
          refine r_iload_n 1 dX5_putOf_36 rfl rfl ?_
          refine r_iload_n 2 dX5_putOf_37 rfl rfl ?_
          refine r_callV2 (As := [.int (k), .int (v)]) (st := []) (fun u5 => mdW cA m (if hrB ρ n k = true then comeR ρ n g k v else ρ) P hs α rf u5.1 u5.2.1 u5.2.2.1 u5.2.2.2.1 u5.2.2.2.2 tx tl sp od no ft) [mdW cA m ρ P hs α rf K V C my cm tx tl sp od no ft] [mdW cA m ρ P hs α rf K V C my cm tx tl sp od no ft] [] (fun u5 => [mdW cA m (if hrB ρ n k = true then comeR ρ n g k v else ρ) P hs α rf u5.1 u5.2.1 u5.2.2.1 u5.2.2.2.1 u5.2.2.2.2 tx tl sp od no ft]) (fun u5 => [mdW cA m (if hrB ρ n k = true then comeR ρ n g k v else ρ) P hs α rf u5.1 u5.2.1 u5.2.2.1 u5.2.2.2.1 u5.2.2.2.2 tx tl sp od no ft]) (c_X5_comes l D cA cB m ρ P hs α rf K V C my cm tx tl sp od no ft n hsz h3 g hg hg8 hs2 k v hk0) kv_X5_comes ml_X5_94 dX5_putOf_38 rfl rfl rfl rfl (segOk [0] rfl rfl rfl rfl) (fun _ => segOk [0] rfl rfl rfl rfl) rfl (Nat.le_of_ble_eq_true rfl) (fun v u5 h => ?_)
          subst h
          refine r_st (st' := [.int (if hrB ρ n k = true then nI (comeM ρ n k) else -4)]) rfl ?_
          exact r_iret ((u5.1, u5.2.1, u5.2.2.1, u5.2.2.2.1, u5.2.2.2.2)) dX5_putOf_41 (by by_cases hrb : hrB ρ n k = true; have hr : rfP ρ n k v = 0 := (by unfold rfP; rw [if_pos hok, if_pos e1, if_pos hrb]); unfold pAns; rw [if_pos hrb, if_pos hr]; unfold putM; rw [if_pos e1]; have hr : rfP ρ n k v = -4 := (by unfold rfP; rw [if_pos hok, if_pos e1, if_neg hrb]); unfold pAns; rw [if_neg hrb, hr]; rfl) (by by_cases hrb : hrB ρ n k = true; have hr : rfP ρ n k v = 0 := (by unfold rfP; rw [if_pos hok, if_pos e1, if_pos hrb]); unfold pRow; rw [if_pos hrb, if_pos hr]; unfold putR; rw [if_pos e1]; have hr : rfP ρ n k v = -4 := (by unfold rfP; rw [if_pos hok, if_pos e1, if_neg hrb]); unfold pRow; rw [if_neg hrb, hr]; rfl)
    · refine r_bipush (-2) dX5_putOf_21 (by decide +kernel) ?_
      exact r_iret ((K, V, C, my, cm)) dX5_putOf_23 (by have hr : rfP ρ n k v = -2 := (by unfold rfP; rw [if_neg (by rw [hq1, hq2]; decide)]); unfold pAns; rw [hr]; rfl) (by have hr : rfP ρ n k v = -2 := (by unfold rfP; rw [if_neg (by rw [hq1, hq2]; decide)]); unfold pRow; rw [hr]; rfl)

set_option maxRecDepth 100000 in
set_option maxHeartbeats 4000000 in
theorem c_X5_takeOf (l : Launch) (D : va_G) (cA cB : ClassId) (m : Nat → Nat) (ρ P : Nat → Int32) (hs : Int32) (α rf K V C : Nat → Int32) (my cm : Int32) (tx : Nat → Int32) (tl sp : Int32) (od : Nat → Int32) (no ft : Int32) (n : Nat) (hsz : ρ 0 = nI n) (h3 : n = 16 ∨ n = 32 ∨ n = 64) (g : Nat) (hg : ρ 6 = nI g) (hg8 : g ≤ 8) (k : Int32) : Mt l D (tyS cA cB) yX5_takeOf cX5_takeOf 4 (some .int) ({ frames := 4, cells := 0, slots := 0, locals := 95 } : Room) [.ref (m 0), .int (k)] (mdW cA m ρ P hs α rf K V C my cm tx tl sp od no ft) Sp5 (fun w _ => w = some (.int (tAns ρ n k))) (fun u => mdW cA m (tRow ρ n g k) P hs α rf u.1 u.2.1 u.2.2.1 u.2.2.2.1 u.2.2.2.2 tx tl sp od no ft) 0 0 := by
  refine mt_in RX5 ([some (.ref (m 0)), some (.int (k)), none, none]) rfl (by decide +kernel) rfl (Nat.le_of_ble_eq_true rfl) rfl rfl (fun X sz => ?_)
  have hb := n16 h3
  refine r_iload_n 1 dX5_takeOf_0 rfl rfl ?_
  refine r_iconst (nI 0) dX5_takeOf_1 (by decide +kernel) ?_
  refine r_sipush (nI 999) dX5_takeOf_2 (by decide +kernel) ?_
  refine r_callS2 (As := [.int (k), .int (nI 0), .int (nI 999)]) (st := []) (fun _ => mdW cA m ρ P hs α rf K V C my cm tx tl sp od no ft) [mdW cA m ρ P hs α rf K V C my cm tx tl sp od no ft] [] [mdW cA m ρ P hs α rf K V C my cm tx tl sp od no ft] (fun _ => [mdW cA m ρ P hs α rf K V C my cm tx tl sp od no ft]) (fun _ => []) (c_X5_in0 l D cA cB (k) (nI (999))) ks_X5_in ml_X5_87 dX5_takeOf_5 rfl rfl (segOk [0] rfl rfl rfl rfl) (fun _ => segOk [0] rfl rfl rfl rfl) rfl (Nat.le_of_ble_eq_true rfl) (fun v u h => ?_)
  subst h
  refine r_st (st' := [.int (bI (wi k (nI (999))))]) rfl ?_
  refine r_bif_ne 14 dX5_takeOf_8 (by decide) (fun hq1 => ?_) (fun hq1 => ?_)
  · refine r_aload_n 0 dX5_takeOf_14 rfl rfl ?_
    refine r_iload_n 1 dX5_takeOf_15 rfl rfl ?_
    refine r_callV2 (As := [.int (k)]) (st := []) (fun _ => mdW cA m ρ P hs α rf K V C my cm tx tl sp od no ft) [mdW cA m ρ P hs α rf K V C my cm tx tl sp od no ft] [mdW cA m ρ P hs α rf K V C my cm tx tl sp od no ft] [] (fun _ => [mdW cA m ρ P hs α rf K V C my cm tx tl sp od no ft]) (fun _ => [mdW cA m ρ P hs α rf K V C my cm tx tl sp od no ft]) (c_X5_cellOf l D cA cB m ρ P hs α rf K V C my cm tx tl sp od no ft n (hsz) h3 (k)) kv_X5_cellOf ml_X5_91 dX5_takeOf_16 rfl rfl rfl rfl (segOk [0] rfl rfl rfl rfl) (fun _ => segOk [0] rfl rfl rfl rfl) rfl (Nat.le_of_ble_eq_true rfl) (fun v u h => ?_)
    subst h
    refine r_st (st' := [.int (lastF ρ k n)]) rfl ?_
    refine r_istore_n 2 ([some (.ref (m 0)), some (.int (k)), some (.int (lastF ρ k n)), none]) dX5_takeOf_19 rfl (Nat.le_of_ble_eq_true rfl) rfl rfl ?_
    rcases lastF_cases ρ k n with ⟨c, hc, hck, e1, e2⟩ | ⟨e1, e2⟩
    · refine r_lv (lv' := [some (.ref (m 0)), some (.int (k)), some (.int (nI c)), none]) (by rw [e1]) ?_
      refine r_iload_n 2 dX5_takeOf_20 rfl rfl ?_
      refine r_iconst (-1) dX5_takeOf_21 (by decide +kernel) ?_
      refine r_icmp_ne 28 dX5_takeOf_22 (by decide) (fun hq2 => ?_) (fun hq2 => ?_)
      · refine r_aload_n 0 dX5_takeOf_28 rfl rfl ?_
        refine r_get 0 fk_X5_7 dX5_takeOf_29 rfl rfl ?_
        refine r_bipush (nI 95) dX5_takeOf_32 (by decide +kernel) ?_
        refine r_iload_n 2 dX5_takeOf_34 rfl rfl ?_
        refine r_niadd dX5_takeOf_35 ?_
        refine r_iald 1 (95 + c) dX5_takeOf_36 rfl rfl rfl (by omega) (Nat.le_of_ble_eq_true rfl) ?_
        refine r_istore_n 3 ([some (.ref (m 0)), some (.int (k)), some (.int (nI c)), some (.int (ρ (95 + c)))]) dX5_takeOf_37 rfl (Nat.le_of_ble_eq_true rfl) rfl rfl ?_
        refine r_aload_n 0 dX5_takeOf_38 rfl rfl ?_
        refine r_iload_n 2 dX5_takeOf_39 rfl rfl ?_
        refine r_callV2 (As := [.int (nI c)]) (st := []) (fun u3 => mdW cA m (goR ρ n g c) P hs α rf u3.1 u3.2.1 u3.2.2.1 u3.2.2.2.1 u3.2.2.2.2 tx tl sp od no ft) [mdW cA m ρ P hs α rf K V C my cm tx tl sp od no ft] [mdW cA m ρ P hs α rf K V C my cm tx tl sp od no ft] [] (fun u3 => [mdW cA m (goR ρ n g c) P hs α rf u3.1 u3.2.1 u3.2.2.1 u3.2.2.2.1 u3.2.2.2.2 tx tl sp od no ft]) (fun u3 => [mdW cA m (goR ρ n g c) P hs α rf u3.1 u3.2.1 u3.2.2.1 u3.2.2.2.1 u3.2.2.2.2 tx tl sp od no ft]) (c_X5_goes l D cA cB m ρ P hs α rf K V C my cm tx tl sp od no ft n (hsz) h3 g (hg) hg8 (c) (by omega)) kv_X5_goes ml_X5_97 dX5_takeOf_40 rfl rfl rfl rfl (segOk [0] rfl rfl rfl rfl) (fun _ => segOk [0] rfl rfl rfl rfl) rfl (Nat.le_of_ble_eq_true rfl) (fun v u3 h => ?_)
        subst h
        refine r_st (st' := []) rfl ?_
        refine r_iload_n 3 dX5_takeOf_43 rfl rfl ?_
        exact r_iret ((u3.1, u3.2.1, u3.2.2.1, u3.2.2.2.1, u3.2.2.2.2)) dX5_takeOf_44 (by have hr : rfT ρ n k = 0 := (by unfold rfT; rw [if_pos hq1, if_neg (by rw [e1]; exact nI_ne_m1 (by omega))]); unfold tAns; rw [if_pos hr, e2]) (by have hr : rfT ρ n k = 0 := (by unfold rfT; rw [if_pos hq1, if_neg (by rw [e1]; exact nI_ne_m1 (by omega))]); unfold tRow; rw [if_pos hr]; unfold takR; rw [e1, nI_clamp (by omega)])
      · exact absurd hq2 (nI_ne_m1 (by omega))
    · refine r_lv (lv' := [some (.ref (m 0)), some (.int (k)), some (.int (-1)), none]) (by rw [e1]) ?_
      refine r_iload_n 2 dX5_takeOf_20 rfl rfl ?_
      refine r_iconst (-1) dX5_takeOf_21 (by decide +kernel) ?_
      refine r_icmp_ne 28 dX5_takeOf_22 (by decide) (fun hq4 => ?_) (fun hq4 => ?_)
      · exact absurd rfl hq4
      · refine r_bipush (-3) dX5_takeOf_25 (by decide +kernel) ?_
        exact r_iret ((K, V, C, my, cm)) dX5_takeOf_27 (by have hr : rfT ρ n k = -3 := (by unfold rfT; rw [if_pos hq1, if_pos e1]); unfold tAns; rw [hr]; rfl) (by have hr : rfT ρ n k = -3 := (by unfold rfT; rw [if_pos hq1, if_pos e1]); unfold tRow; rw [hr]; rfl)
  · refine r_bipush (-2) dX5_takeOf_11 (by decide +kernel) ?_
    exact r_iret ((K, V, C, my, cm)) dX5_takeOf_13 (by have hr : rfT ρ n k = -2 := (by unfold rfT; rw [if_neg (ne_t hq1)]); unfold tAns; rw [hr]; rfl) (by have hr : rfT ρ n k = -2 := (by unfold rfT; rw [if_neg (ne_t hq1)]); unfold tRow; rw [hr]; rfl)

set_option maxRecDepth 100000 in
set_option maxHeartbeats 4000000 in
theorem c_X5_modeOf (l : Launch) (D : va_G) (cA cB : ClassId) (m : Nat → Nat) (ρ P : Nat → Int32) (hs : Int32) (α rf K V C : Nat → Int32) (my cm : Int32) (tx : Nat → Int32) (tl sp : Int32) (od : Nat → Int32) (no ft : Int32) (x : Int32) : Mt l D (tyS cA cB) yX5_modeOf cX5_modeOf 3 (some .int) ({ frames := 1, cells := 0, slots := 0, locals := 22 } : Room) [.ref (m 0), .int (x)] (mdW cA m ρ P hs α rf K V C my cm tx tl sp od no ft) Unit (fun w _ => w = some (.int (mAns ρ x))) (fun _ => mdW cA m (mRow ρ x) P hs α rf K V C my cm tx tl sp od no ft) 0 0 := by
  refine mt_in RX5 ([some (.ref (m 0)), some (.int (x)), none]) rfl (by decide +kernel) rfl (Nat.le_of_ble_eq_true rfl) rfl rfl (fun X sz => ?_)
  refine r_iload_n 1 dX5_modeOf_0 rfl rfl ?_
  refine r_iconst (nI 0) dX5_modeOf_1 (by decide +kernel) ?_
  refine r_iconst (nI 1) dX5_modeOf_2 (by decide +kernel) ?_
  refine r_callS2 (As := [.int (x), .int (nI 0), .int (nI 1)]) (st := []) (fun _ => mdW cA m ρ P hs α rf K V C my cm tx tl sp od no ft) [mdW cA m ρ P hs α rf K V C my cm tx tl sp od no ft] [] [mdW cA m ρ P hs α rf K V C my cm tx tl sp od no ft] (fun _ => [mdW cA m ρ P hs α rf K V C my cm tx tl sp od no ft]) (fun _ => []) (c_X5_in0 l D cA cB (x) (nI (1))) ks_X5_in ml_X5_87 dX5_modeOf_3 rfl rfl (segOk [0] rfl rfl rfl rfl) (fun _ => segOk [0] rfl rfl rfl rfl) rfl (Nat.le_of_ble_eq_true rfl) (fun v u h => ?_)
  subst h
  refine r_st (st' := [.int (bI (wi x (nI (1))))]) rfl ?_
  refine r_bif_ne 12 dX5_modeOf_6 (by decide) (fun hq1 => ?_) (fun hq1 => ?_)
  · refine r_aload_n 0 dX5_modeOf_12 rfl rfl ?_
    refine r_get 0 fk_X5_7 dX5_modeOf_13 rfl rfl ?_
    refine r_iconst (nI 1) dX5_modeOf_16 (by decide +kernel) ?_
    refine r_iald 1 (1) dX5_modeOf_17 rfl rfl rfl (by omega) (Nat.le_of_ble_eq_true rfl) ?_
    refine r_istore_n 2 ([some (.ref (m 0)), some (.int (x)), some (.int (ρ 1))]) dX5_modeOf_18 rfl (Nat.le_of_ble_eq_true rfl) rfl rfl ?_
    refine r_aload_n 0 dX5_modeOf_19 rfl rfl ?_
    refine r_get 0 fk_X5_7 dX5_modeOf_20 rfl rfl ?_
    refine r_iconst (nI 1) dX5_modeOf_23 (by decide +kernel) ?_
    refine r_iload_n 1 dX5_modeOf_24 rfl rfl ?_
    refine r_iast 1 (1) (mdW cA m (upd ρ 1 x) P hs α rf K V C my cm tx tl sp od no ft) dX5_modeOf_25 rfl rfl rfl (by omega) (Nat.le_of_ble_eq_true rfl) rfl ?_
    refine r_iload_n 2 dX5_modeOf_26 rfl rfl ?_
    exact r_iret (()) dX5_modeOf_27 (by have hr : rfM x = 0 := (by unfold rfM; rw [if_pos hq1]); unfold mAns; rw [if_pos hr]) (by have hr : rfM x = 0 := (by unfold rfM; rw [if_pos hq1]); unfold mRow; rw [if_pos hr])
  · refine r_bipush (-2) dX5_modeOf_9 (by decide +kernel) ?_
    exact r_iret (()) dX5_modeOf_11 (by have hr : rfM x = -2 := (by unfold rfM; rw [if_neg (ne_t hq1)]); unfold mAns; rw [hr]; rfl) (by have hr : rfM x = -2 := (by unfold rfM; rw [if_neg (ne_t hq1)]); unfold mRow; rw [hr]; rfl)

set_option maxRecDepth 100000 in
set_option maxHeartbeats 4000000 in
theorem lp_X5_laysAside (l : Launch) (D : va_G) (cA cB : ClassId) (m : Nat → Nat) (ρ P : Nat → Int32) (hs : Int32) (α rf K V C : Nat → Int32) (my cm : Int32) (tx : Nat → Int32) (tl sp : Int32) (od : Nat → Int32) (no ft : Int32) (hzr : Zro ρ) (hza : Zro α)  (X : Cx) (sz : Nat) : ∀ (f c : Nat), c ≤ 159 → 159 < c + f → G l X ({ frames := 0, cells := 0, slots := 0, locals := 0 } : Room) cX5_laysAside RX5 none D (tyS cA cB) (va_A (mdW cA m ρ P hs α rf K V C my cm tx tl sp od no ft) sz) (QX X D (tyS cA cB) (mdW cA m ρ P hs α rf K V C my cm tx tl sp od no ft) sz Unit (fun v _ => v = none) (fun _ => mdW cA m ρ P hs ρ rf K V C my cm tx tl sp od no ft) 0 0) 0 0 (mdW cA m ρ P hs (mixF α ρ c) rf K V C my cm tx tl sp od no ft) 2 ([some (.ref (m 0)), some (.int (nI c))]) [] := by
  intro f
  induction f with
  | zero => intro c h1 h2; omega
  | succ f ih =>
    intro c hc hf
    refine r_iload_n 1 dX5_laysAside_2 rfl rfl ?_
    refine r_sipush (nI 159) dX5_laysAside_3 (by decide +kernel) ?_
    refine r_ncmp_ge 27 (by omega) (by omega) dX5_laysAside_6 (by decide) (fun hq1 => ?_) (fun hq1 => ?_)
    · exact r_vret (()) dX5_laysAside_27 (rfl) (by rw [show c = 159 by omega, mix_z hza hzr])
    · refine r_aload_n 0 dX5_laysAside_9 rfl rfl ?_
      refine r_get 0 fk_X5_16 dX5_laysAside_10 rfl rfl ?_
      refine r_iload_n 1 dX5_laysAside_13 rfl rfl ?_
      refine r_aload_n 0 dX5_laysAside_14 rfl rfl ?_
      refine r_get 0 fk_X5_7 dX5_laysAside_15 rfl rfl ?_
      refine r_iload_n 1 dX5_laysAside_18 rfl rfl ?_
      refine r_iald 1 (c) dX5_laysAside_19 rfl rfl rfl (by omega) (Nat.le_of_ble_eq_true rfl) ?_
      refine r_iast 3 (c) (mdW cA m ρ P hs (upd (mixF α ρ c) c (ρ c)) rf K V C my cm tx tl sp od no ft) dX5_laysAside_20 rfl rfl rfl (by omega) (Nat.le_of_ble_eq_true rfl) rfl ?_
      refine r_ws (ws' := mdW cA m ρ P hs (mixF α ρ (c + 1)) rf K V C my cm tx tl sp od no ft) (by rw [mixF_s]) ?_
      refine r_iinc (v := nI (c + 1)) ([some (.ref (m 0)), some (.int (nI (c + 1)))]) dX5_laysAside_21 rfl (nI_1 _) (Nat.le_of_ble_eq_true rfl) rfl rfl ?_
      refine r_goto 2 dX5_laysAside_24 (by decide) ?_
      exact ih (c + 1) (by omega) (by omega)

set_option maxRecDepth 100000 in
set_option maxHeartbeats 4000000 in
theorem c_X5_laysAside (l : Launch) (D : va_G) (cA cB : ClassId) (m : Nat → Nat) (ρ P : Nat → Int32) (hs : Int32) (α rf K V C : Nat → Int32) (my cm : Int32) (tx : Nat → Int32) (tl sp : Int32) (od : Nat → Int32) (no ft : Int32) (hzr : Zro ρ) (hza : Zro α)  : Mt l D (tyS cA cB) yX5_laysAside cX5_laysAside 2 none ({ frames := 0, cells := 0, slots := 0, locals := 0 } : Room) [.ref (m 0)] (mdW cA m ρ P hs α rf K V C my cm tx tl sp od no ft) Unit (fun v _ => v = none) (fun _ => mdW cA m ρ P hs ρ rf K V C my cm tx tl sp od no ft) 0 0 := by
  refine mt_in RX5 ([some (.ref (m 0)), none]) rfl (by decide +kernel) rfl (Nat.le_of_ble_eq_true rfl) rfl rfl (fun X sz => ?_)
  refine r_iconst (nI 0) dX5_laysAside_0 (by decide +kernel) ?_
  refine r_istore_n 1 ([some (.ref (m 0)), some (.int (nI 0))]) dX5_laysAside_1 rfl (Nat.le_of_ble_eq_true rfl) rfl rfl ?_
  refine r_ws (ws' := mdW cA m ρ P hs (mixF α ρ 0) rf K V C my cm tx tl sp od no ft) (by rw [mixF_0]) ?_
  exact lp_X5_laysAside l D cA cB m ρ P hs α rf K V C my cm tx tl sp od no ft hzr hza X sz 160 0 (by omega) (by omega)

set_option maxRecDepth 100000 in
set_option maxHeartbeats 4000000 in
theorem lp_X5_comesBack (l : Launch) (D : va_G) (cA cB : ClassId) (m : Nat → Nat) (ρ P : Nat → Int32) (hs : Int32) (α rf K V C : Nat → Int32) (my cm : Int32) (tx : Nat → Int32) (tl sp : Int32) (od : Nat → Int32) (no ft : Int32) (hzr : Zro ρ) (hza : Zro α)  (X : Cx) (sz : Nat) : ∀ (f c : Nat), c ≤ 159 → 159 < c + f → G l X ({ frames := 0, cells := 0, slots := 0, locals := 0 } : Room) cX5_comesBack RX5 none D (tyS cA cB) (va_A (mdW cA m ρ P hs α rf K V C my cm tx tl sp od no ft) sz) (QX X D (tyS cA cB) (mdW cA m ρ P hs α rf K V C my cm tx tl sp od no ft) sz Unit (fun v _ => v = none) (fun _ => mdW cA m α P hs α rf K V C my cm tx tl sp od no ft) 0 0) 0 0 (mdW cA m (mixF ρ α c) P hs α rf K V C my cm tx tl sp od no ft) 2 ([some (.ref (m 0)), some (.int (nI c))]) [] := by
  intro f
  induction f with
  | zero => intro c h1 h2; omega
  | succ f ih =>
    intro c hc hf
    refine r_iload_n 1 dX5_comesBack_2 rfl rfl ?_
    refine r_sipush (nI 159) dX5_comesBack_3 (by decide +kernel) ?_
    refine r_ncmp_ge 27 (by omega) (by omega) dX5_comesBack_6 (by decide) (fun hq1 => ?_) (fun hq1 => ?_)
    · exact r_vret (()) dX5_comesBack_27 (rfl) (by rw [show c = 159 by omega, mix_z hzr hza])
    · refine r_aload_n 0 dX5_comesBack_9 rfl rfl ?_
      refine r_get 0 fk_X5_7 dX5_comesBack_10 rfl rfl ?_
      refine r_iload_n 1 dX5_comesBack_13 rfl rfl ?_
      refine r_aload_n 0 dX5_comesBack_14 rfl rfl ?_
      refine r_get 0 fk_X5_16 dX5_comesBack_15 rfl rfl ?_
      refine r_iload_n 1 dX5_comesBack_18 rfl rfl ?_
      refine r_iald 3 (c) dX5_comesBack_19 rfl rfl rfl (by omega) (Nat.le_of_ble_eq_true rfl) ?_
      refine r_iast 1 (c) (mdW cA m (upd (mixF ρ α c) c (α c)) P hs α rf K V C my cm tx tl sp od no ft) dX5_comesBack_20 rfl rfl rfl (by omega) (Nat.le_of_ble_eq_true rfl) rfl ?_
      refine r_ws (ws' := mdW cA m (mixF ρ α (c + 1)) P hs α rf K V C my cm tx tl sp od no ft) (by rw [mixF_s]) ?_
      refine r_iinc (v := nI (c + 1)) ([some (.ref (m 0)), some (.int (nI (c + 1)))]) dX5_comesBack_21 rfl (nI_1 _) (Nat.le_of_ble_eq_true rfl) rfl rfl ?_
      refine r_goto 2 dX5_comesBack_24 (by decide) ?_
      exact ih (c + 1) (by omega) (by omega)

set_option maxRecDepth 100000 in
set_option maxHeartbeats 4000000 in
theorem c_X5_comesBack (l : Launch) (D : va_G) (cA cB : ClassId) (m : Nat → Nat) (ρ P : Nat → Int32) (hs : Int32) (α rf K V C : Nat → Int32) (my cm : Int32) (tx : Nat → Int32) (tl sp : Int32) (od : Nat → Int32) (no ft : Int32) (hzr : Zro ρ) (hza : Zro α)  : Mt l D (tyS cA cB) yX5_comesBack cX5_comesBack 2 none ({ frames := 0, cells := 0, slots := 0, locals := 0 } : Room) [.ref (m 0)] (mdW cA m ρ P hs α rf K V C my cm tx tl sp od no ft) Unit (fun v _ => v = none) (fun _ => mdW cA m α P hs α rf K V C my cm tx tl sp od no ft) 0 0 := by
  refine mt_in RX5 ([some (.ref (m 0)), none]) rfl (by decide +kernel) rfl (Nat.le_of_ble_eq_true rfl) rfl rfl (fun X sz => ?_)
  refine r_iconst (nI 0) dX5_comesBack_0 (by decide +kernel) ?_
  refine r_istore_n 1 ([some (.ref (m 0)), some (.int (nI 0))]) dX5_comesBack_1 rfl (Nat.le_of_ble_eq_true rfl) rfl rfl ?_
  refine r_ws (ws' := mdW cA m (mixF ρ α 0) P hs α rf K V C my cm tx tl sp od no ft) (by rw [mixF_0]) ?_
  exact lp_X5_comesBack l D cA cB m ρ P hs α rf K V C my cm tx tl sp od no ft hzr hza X sz 160 0 (by omega) (by omega)

