set_option maxRecDepth 100000 in
set_option maxHeartbeats 4000000 in
theorem c_X5_lays (l : Launch) (D : va_G) (cA cB : ClassId) (m : Nat → Nat) (ρ P : Nat → Int32) (hs : Int32) (α rf K V C : Nat → Int32) (y : Nat) (hy64 : y < 64) (cm : Int32) (tx : Nat → Int32) (tl sp : Int32) (od : Nat → Int32) (no ft : Int32) (k v c : Int32) : Mt l D (tyS cA cB) yX5_lays cX5_lays 4 none ({ frames := 0, cells := 0, slots := 0, locals := 0 } : Room) [.ref (m 0), .int (k), .int (v), .int (c)] (mdW cA m ρ P hs α rf K V C (nI (y)) cm tx tl sp od no ft) Unit (fun v _ => v = none) (fun _ => mdW cA m ρ P hs α rf (upd K y k) (upd V y v) (upd C y c) (nI (y + 1)) cm tx tl sp od no ft) 0 0 := by
  refine mt_in RX5 ([some (.ref (m 0)), some (.int (k)), some (.int (v)), some (.int (c))]) rfl (by decide +kernel) rfl (Nat.le_of_ble_eq_true rfl) rfl rfl (fun X sz => ?_)
  refine r_aload_n 0 dX5_lays_0 rfl rfl ?_
  refine r_get 0 fk_X5_22 dX5_lays_1 rfl rfl ?_
  refine r_aload_n 0 dX5_lays_4 rfl rfl ?_
  refine r_get 0 fk_X5_53 dX5_lays_5 rfl rfl ?_
  refine r_iload_n 1 dX5_lays_8 rfl rfl ?_
  refine r_iast 5 (y) (mdW cA m ρ P hs α rf (upd K y k) V C (nI (y)) cm tx tl sp od no ft) dX5_lays_9 rfl rfl rfl (by omega) (Nat.le_of_ble_eq_true rfl) rfl ?_
  refine r_aload_n 0 dX5_lays_10 rfl rfl ?_
  refine r_get 0 fk_X5_25 dX5_lays_11 rfl rfl ?_
  refine r_aload_n 0 dX5_lays_14 rfl rfl ?_
  refine r_get 0 fk_X5_53 dX5_lays_15 rfl rfl ?_
  refine r_iload_n 2 dX5_lays_18 rfl rfl ?_
  refine r_iast 6 (y) (mdW cA m ρ P hs α rf (upd K y k) (upd V y v) C (nI (y)) cm tx tl sp od no ft) dX5_lays_19 rfl rfl rfl (by omega) (Nat.le_of_ble_eq_true rfl) rfl ?_
  refine r_aload_n 0 dX5_lays_20 rfl rfl ?_
  refine r_get 0 fk_X5_28 dX5_lays_21 rfl rfl ?_
  refine r_aload_n 0 dX5_lays_24 rfl rfl ?_
  refine r_get 0 fk_X5_53 dX5_lays_25 rfl rfl ?_
  refine r_iload_n 3 dX5_lays_28 rfl rfl ?_
  refine r_iast 7 (y) (mdW cA m ρ P hs α rf (upd K y k) (upd V y v) (upd C y c) (nI (y)) cm tx tl sp od no ft) dX5_lays_29 rfl rfl rfl (by omega) (Nat.le_of_ble_eq_true rfl) rfl ?_
  refine r_aload_n 0 dX5_lays_30 rfl rfl ?_
  refine r_dup rfl dX5_lays_31 ?_
  refine r_get 0 fk_X5_53 dX5_lays_32 rfl rfl ?_
  refine r_iconst (nI 1) dX5_lays_35 (by decide +kernel) ?_
  refine r_niadd dX5_lays_36 ?_
  refine r_put 0 (mdW cA m ρ P hs α rf (upd K y k) (upd V y v) (upd C y c) (nI (y + 1)) cm tx tl sp od no ft) fk_X5_53 dX5_lays_37 rfl rfl rfl rfl (Nat.le_of_ble_eq_true rfl) rfl ?_
  exact r_vret (()) dX5_lays_40 (rfl) (rfl)

set_option maxRecDepth 100000 in
set_option maxHeartbeats 4000000 in
theorem lp_X5_takesOut_n (l : Launch) (D : va_G) (cA cB : ClassId) (m : Nat → Nat) (ρ P : Nat → Int32) (hs : Int32) (α rf K V C : Nat → Int32) (my cm : Int32) (tx : Nat → Int32) (tl sp : Int32) (od : Nat → Int32) (no ft : Int32) (a n : Nat) (hn : a + n ≤ 64) (v : Int32) (X : Cx) (sz : Nat) : ∀ (f i c y : Nat), c = a + i → y = cnt ρ a i → i ≤ n → n < i + f → G l X ({ frames := 1, cells := 0, slots := 0, locals := 23 } : Room) cX5_takesOut RX5 none D (tyS cA cB) (va_A (mdW cA m ρ P hs α rf K V C my cm tx tl sp od no ft) sz) (QX X D (tyS cA cB) (mdW cA m ρ P hs α rf K V C my cm tx tl sp od no ft) sz Unit (fun v _ => v = none) (fun _ => mdW cA m (clr ρ a n) P hs α rf (tkG ρ (kv ρ) a K n) (tkG ρ (vv ρ) a V n) (tkG ρ nI a C n) (nI (cnt ρ a n)) (-1) tx tl sp od no ft) 0 0) 0 0 (mdW cA m (clr ρ a i) P hs α rf (tkG ρ (kv ρ) a K i) (tkG ρ (vv ρ) a V i) (tkG ρ nI a C i) (nI (y)) (-1) tx tl sp od no ft) 13 ([some (.ref (m 0)), some (.int (nI a)), some (.int (nI n)), some (.int (-1)), some (.int (v)), some (.int (nI c))]) [] := by
  intro f
  induction f with
  | zero => intro i c y _ _ h1 h2; omega
  | succ f ih =>
    intro i c y hc hy hi hf
    have hyl := cnt_le ρ a i
    refine r_iload dX5_takesOut_13 rfl ?_
    refine r_iload_n 1 dX5_takesOut_15 rfl rfl ?_
    refine r_iload_n 2 dX5_takesOut_16 rfl rfl ?_
    refine r_niadd dX5_takesOut_17 ?_
    refine r_ncmp_ge 132 (by omega) (by omega) dX5_takesOut_18 (by decide) (fun hq1 => ?_) (fun hq1 => ?_)
    · refine r_iload_n 3 dX5_takesOut_132 rfl rfl ?_
      refine r_iconst (-1) dX5_takesOut_133 (by decide +kernel) ?_
      refine r_icmp_eq 161 dX5_takesOut_134 (by decide) (fun hq2 => ?_) (fun hq2 => ?_)
      · exact r_vret (()) dX5_takesOut_161 (rfl) (by rw [hy, show i = n by omega])
      · exact absurd rfl hq2
    · refine r_aload_n 0 dX5_takesOut_21 rfl rfl ?_
      refine r_get 0 fk_X5_7 dX5_takesOut_22 rfl rfl ?_
      refine r_bipush (nI 31) dX5_takesOut_25 (by decide +kernel) ?_
      refine r_iload dX5_takesOut_27 rfl ?_
      refine r_niadd dX5_takesOut_29 ?_
      refine r_iald 1 (31 + c) dX5_takesOut_30 rfl rfl rfl (by omega) (Nat.le_of_ble_eq_true rfl) ?_
      refine r_top (y := ρ (31 + c)) (clr_k (by omega) (by omega)) ?_
      refine r_iconst (-1) dX5_takesOut_31 (by decide +kernel) ?_
      refine r_icmp_eq 126 dX5_takesOut_32 (by decide) (fun hq3 => ?_) (fun hq3 => ?_)
      · refine r_iinc (v := nI (c + 1)) ([some (.ref (m 0)), some (.int (nI a)), some (.int (nI n)), some (.int (-1)), some (.int (v)), some (.int (nI (c + 1)))]) dX5_takesOut_126 rfl (nI_1 _) (Nat.le_of_ble_eq_true rfl) rfl rfl ?_
        refine r_goto 13 dX5_takesOut_129 (by decide) ?_
        refine r_ws (ws' := mdW cA m (clr ρ a (i + 1)) P hs α rf (tkG ρ (kv ρ) a K (i + 1)) (tkG ρ (vv ρ) a V (i + 1)) (tkG ρ nI a C (i + 1)) (nI (y)) (-1) tx tl sp od no ft) (by subst hc; rw [tkG_s0 hq3, tkG_s0 hq3, tkG_s0 hq3, clr_s0 hq3]) ?_
        exact ih (i + 1) _ _ (by omega) (by rw [hy, cnt_s0 (by rw [← hc]; exact hq3)]) (by omega) (by omega)
      · refine r_iload_n 3 dX5_takesOut_35 rfl rfl ?_
        refine r_iconst (-1) dX5_takesOut_36 (by decide +kernel) ?_
        refine r_icmp_eq 78 dX5_takesOut_37 (by decide) (fun hq4 => ?_) (fun hq4 => ?_)
        · refine r_aload_n 0 dX5_takesOut_78 rfl rfl ?_
          refine r_aload_n 0 dX5_takesOut_79 rfl rfl ?_
          refine r_get 0 fk_X5_7 dX5_takesOut_80 rfl rfl ?_
          refine r_bipush (nI 31) dX5_takesOut_83 (by decide +kernel) ?_
          refine r_iload dX5_takesOut_85 rfl ?_
          refine r_niadd dX5_takesOut_87 ?_
          refine r_iald 1 (31 + c) dX5_takesOut_88 rfl rfl rfl (by omega) (Nat.le_of_ble_eq_true rfl) ?_
          refine r_top (y := ρ (31 + c)) (clr_k (by omega) (by omega)) ?_
          refine r_aload_n 0 dX5_takesOut_89 rfl rfl ?_
          refine r_get 0 fk_X5_7 dX5_takesOut_90 rfl rfl ?_
          refine r_bipush (nI 95) dX5_takesOut_93 (by decide +kernel) ?_
          refine r_iload dX5_takesOut_95 rfl ?_
          refine r_niadd dX5_takesOut_97 ?_
          refine r_iald 1 (95 + c) dX5_takesOut_98 rfl rfl rfl (by omega) (Nat.le_of_ble_eq_true rfl) ?_
          refine r_top (y := ρ (95 + c)) (clr_v (by omega)) ?_
          refine r_iload dX5_takesOut_99 rfl ?_
          refine r_callV2 (As := [.int (ρ (31 + c)), .int (ρ (95 + c)), .int (nI c)]) (st := []) (fun _ => mdW cA m (clr ρ a i) P hs α rf (upd (tkG ρ (kv ρ) a K i) y (ρ (31 + c))) (upd (tkG ρ (vv ρ) a V i) y (ρ (95 + c))) (upd (tkG ρ nI a C i) y (nI (c))) (nI (y + 1)) (-1) tx tl sp od no ft) [mdW cA m (clr ρ a i) P hs α rf (tkG ρ (kv ρ) a K i) (tkG ρ (vv ρ) a V i) (tkG ρ nI a C i) (nI (y)) (-1) tx tl sp od no ft] [mdW cA m (clr ρ a i) P hs α rf (tkG ρ (kv ρ) a K i) (tkG ρ (vv ρ) a V i) (tkG ρ nI a C i) (nI (y)) (-1) tx tl sp od no ft] [] (fun _ => [mdW cA m (clr ρ a i) P hs α rf (upd (tkG ρ (kv ρ) a K i) y (ρ (31 + c))) (upd (tkG ρ (vv ρ) a V i) y (ρ (95 + c))) (upd (tkG ρ nI a C i) y (nI (c))) (nI (y + 1)) (-1) tx tl sp od no ft]) (fun _ => [mdW cA m (clr ρ a i) P hs α rf (upd (tkG ρ (kv ρ) a K i) y (ρ (31 + c))) (upd (tkG ρ (vv ρ) a V i) y (ρ (95 + c))) (upd (tkG ρ nI a C i) y (nI (c))) (nI (y + 1)) (-1) tx tl sp od no ft]) (c_X5_lays l D cA cB m (clr ρ a i) P hs α rf (tkG ρ (kv ρ) a K i) (tkG ρ (vv ρ) a V i) (tkG ρ nI a C i) (y) (by omega) (-1) tx tl sp od no ft (ρ (31 + c)) (ρ (95 + c)) (nI (c))) kv_X5_lays ml_X5_59 dX5_takesOut_101 rfl rfl rfl rfl (segOk [0] rfl rfl rfl rfl) (fun _ => segOk [0] rfl rfl rfl rfl) rfl (Nat.le_of_ble_eq_true rfl) (fun v u h => ?_)
          subst h
          refine r_st (st' := []) rfl ?_
          refine r_aload_n 0 dX5_takesOut_104 rfl rfl ?_
          refine r_get 0 fk_X5_7 dX5_takesOut_105 rfl rfl ?_
          refine r_bipush (nI 31) dX5_takesOut_108 (by decide +kernel) ?_
          refine r_iload dX5_takesOut_110 rfl ?_
          refine r_niadd dX5_takesOut_112 ?_
          refine r_iconst (-1) dX5_takesOut_113 (by decide +kernel) ?_
          refine r_iast 1 (31 + c) (mdW cA m (upd (clr ρ a i) (31 + c) (-1)) P hs α rf (upd (tkG ρ (kv ρ) a K i) y (ρ (31 + c))) (upd (tkG ρ (vv ρ) a V i) y (ρ (95 + c))) (upd (tkG ρ nI a C i) y (nI (c))) (nI (y + 1)) (-1) tx tl sp od no ft) dX5_takesOut_114 rfl rfl rfl (by omega) (Nat.le_of_ble_eq_true rfl) rfl ?_
          refine r_aload_n 0 dX5_takesOut_115 rfl rfl ?_
          refine r_get 0 fk_X5_7 dX5_takesOut_116 rfl rfl ?_
          refine r_bipush (nI 95) dX5_takesOut_119 (by decide +kernel) ?_
          refine r_iload dX5_takesOut_121 rfl ?_
          refine r_niadd dX5_takesOut_123 ?_
          refine r_iconst (nI 0) dX5_takesOut_124 (by decide +kernel) ?_
          refine r_iast 1 (95 + c) (mdW cA m (upd (upd (clr ρ a i) (31 + c) (-1)) (95 + c) (nI (0))) P hs α rf (upd (tkG ρ (kv ρ) a K i) y (ρ (31 + c))) (upd (tkG ρ (vv ρ) a V i) y (ρ (95 + c))) (upd (tkG ρ nI a C i) y (nI (c))) (nI (y + 1)) (-1) tx tl sp od no ft) dX5_takesOut_125 rfl rfl rfl (by omega) (Nat.le_of_ble_eq_true rfl) rfl ?_
          refine r_iinc (v := nI (c + 1)) ([some (.ref (m 0)), some (.int (nI a)), some (.int (nI n)), some (.int (-1)), some (.int (v)), some (.int (nI (c + 1)))]) dX5_takesOut_126 rfl (nI_1 _) (Nat.le_of_ble_eq_true rfl) rfl rfl ?_
          refine r_goto 13 dX5_takesOut_129 (by decide) ?_
          refine r_ws (ws' := mdW cA m (clr ρ a (i + 1)) P hs α rf (tkG ρ (kv ρ) a K (i + 1)) (tkG ρ (vv ρ) a V (i + 1)) (tkG ρ nI a C (i + 1)) (nI (y + 1)) (-1) tx tl sp od no ft) (by subst hc; subst hy; rw [tkG_s1 hq3, tkG_s1 hq3, tkG_s1 hq3, clr_s1 hq3]; rfl) ?_
          exact ih (i + 1) _ _ (by omega) (by rw [hy, cnt_s1 (by rw [← hc]; exact hq3)]) (by omega) (by omega)
        · exact absurd rfl hq4

set_option maxRecDepth 100000 in
set_option maxHeartbeats 4000000 in
theorem c_X5_takesOut_n (l : Launch) (D : va_G) (cA cB : ClassId) (m : Nat → Nat) (ρ P : Nat → Int32) (hs : Int32) (α rf K V C : Nat → Int32) (my cm : Int32) (tx : Nat → Int32) (tl sp : Int32) (od : Nat → Int32) (no ft : Int32) (a n : Nat) (hn : a + n ≤ 64) (v : Int32) : Mt l D (tyS cA cB) yX5_takesOut cX5_takesOut 6 none ({ frames := 1, cells := 0, slots := 0, locals := 23 } : Room) [.ref (m 0), .int (nI a), .int (nI n), .int (-1), .int (v)] (mdW cA m ρ P hs α rf K V C my cm tx tl sp od no ft) Unit (fun v _ => v = none) (fun _ => mdW cA m (clr ρ a n) P hs α rf (tkG ρ (kv ρ) a K n) (tkG ρ (vv ρ) a V n) (tkG ρ nI a C n) (nI (cnt ρ a n)) (-1) tx tl sp od no ft) 0 0 := by
  refine mt_in RX5 ([some (.ref (m 0)), some (.int (nI a)), some (.int (nI n)), some (.int (-1)), some (.int (v)), none]) rfl (by decide +kernel) rfl (Nat.le_of_ble_eq_true rfl) rfl rfl (fun X sz => ?_)
  refine r_aload_n 0 dX5_takesOut_0 rfl rfl ?_
  refine r_iconst (nI 0) dX5_takesOut_1 (by decide +kernel) ?_
  refine r_put 0 (mdW cA m ρ P hs α rf K V C (nI (0)) cm tx tl sp od no ft) fk_X5_53 dX5_takesOut_2 rfl rfl rfl rfl (Nat.le_of_ble_eq_true rfl) rfl ?_
  refine r_aload_n 0 dX5_takesOut_5 rfl rfl ?_
  refine r_iconst (-1) dX5_takesOut_6 (by decide +kernel) ?_
  refine r_put 0 (mdW cA m ρ P hs α rf K V C (nI (0)) (-1) tx tl sp od no ft) fk_X5_56 dX5_takesOut_7 rfl rfl rfl rfl (Nat.le_of_ble_eq_true rfl) rfl ?_
  refine r_iload_n 1 dX5_takesOut_10 rfl rfl ?_
  refine r_istore ([some (.ref (m 0)), some (.int (nI a)), some (.int (nI n)), some (.int (-1)), some (.int (v)), some (.int (nI a))]) dX5_takesOut_11 (Nat.le_of_ble_eq_true rfl) rfl rfl ?_
  refine r_ws (ws' := mdW cA m (clr ρ a 0) P hs α rf (tkG ρ (kv ρ) a K 0) (tkG ρ (vv ρ) a V 0) (tkG ρ nI a C 0) (nI (0)) (-1) tx tl sp od no ft) rfl ?_
  exact lp_X5_takesOut_n l D cA cB m ρ P hs α rf K V C my cm tx tl sp od no ft a n hn v X sz (n + 1) 0 a 0 rfl rfl (by omega) (by omega)

theorem TO_y {ρ : Nat → Int32} {a : Nat} {k v : Int32} {K V C : Nat → Int32} {i y : Nat} {cm : Int32} {K' V' C' : Nat → Int32} {m : Nat} (h : TO ρ a k v K V C i y cm K' V' C') (hm : cnt ρ a i + 1 < m) : y < m := by
  rcases h with ⟨-, rfl, -⟩ | ⟨p, -, -, rfl, -⟩ <;> omega
theorem TO_yc {ρ : Nat → Int32} {a : Nat} {k v : Int32} {K V C : Nat → Int32} {i y : Nat} {cm : Int32} {K' V' C' : Nat → Int32} (h : TO ρ a k v K V C i y cm K' V' C') (hb : cnt ρ a i < 2 ^ 31) : cm = -1 → y = cnt ρ a i := by
  intro e
  rcases h with ⟨-, rfl, -⟩ | ⟨p, h1, h2, -⟩
  · rfl
  · rw [e] at h1; exact absurd h1.symm (nI_ne_m1 (by omega))
set_option maxRecDepth 100000 in
set_option maxHeartbeats 4000000 in
theorem lp_X5_takesOut_k (l : Launch) (D : va_G) (cA cB : ClassId) (m : Nat → Nat) (ρ P : Nat → Int32) (hs : Int32) (α rf K V C : Nat → Int32) (my cm : Int32) (tx : Nat → Int32) (tl sp : Int32) (od : Nat → Int32) (no ft : Int32) (a n N : Nat) (hn : a + n ≤ 64) (hN : a + n ≤ N) (hs2 : Srt ρ N) (k v : Int32) (hk0 : ¬ k = -1) (hlt : cnt ρ a n < 64) (X : Cx) (sz : Nat) : ∀ (f i c y : Nat) (w : Int32) (K' V' C' : Nat → Int32), c = a + i → TO ρ a k v K V C i y w K' V' C' → i ≤ n → n < i + f → G l X ({ frames := 1, cells := 0, slots := 0, locals := 23 } : Room) cX5_takesOut RX5 none D (tyS cA cB) (va_A (mdW cA m ρ P hs α rf K V C my cm tx tl sp od no ft) sz) (QX X D (tyS cA cB) (mdW cA m ρ P hs α rf K V C my cm tx tl sp od no ft) sz Unit (fun v _ => v = none) (fun _ => mdW cA m (clr ρ a n) P hs α rf (insA (tkG ρ (kv ρ) a K n) (insP (tkG ρ (kv ρ) a K n) k (cnt ρ a n)) (cnt ρ a n) k) (insA (tkG ρ (vv ρ) a V n) (insP (tkG ρ (kv ρ) a K n) k (cnt ρ a n)) (cnt ρ a n) v) (insA (tkG ρ nI a C n) (insP (tkG ρ (kv ρ) a K n) k (cnt ρ a n)) (cnt ρ a n) (-1)) (nI (cnt ρ a n + 1)) (nI (insP (tkG ρ (kv ρ) a K n) k (cnt ρ a n))) tx tl sp od no ft) 0 0) 0 0 (mdW cA m (clr ρ a i) P hs α rf (K') (V') (C') (nI (y)) w tx tl sp od no ft) 13 ([some (.ref (m 0)), some (.int (nI a)), some (.int (nI n)), some (.int (k)), some (.int (v)), some (.int (nI c))]) [] := by
  intro f
  induction f with
  | zero => intro i c y w K' V' C' _ _ h1 h2; omega
  | succ f ih =>
    intro i c y w K' V' C' hc hTO hi hf
    refine r_iload dX5_takesOut_13 rfl ?_
    refine r_iload_n 1 dX5_takesOut_15 rfl rfl ?_
    refine r_iload_n 2 dX5_takesOut_16 rfl rfl ?_
    refine r_niadd dX5_takesOut_17 ?_
    refine r_ncmp_ge 132 (by omega) (by omega) dX5_takesOut_18 (by decide) (fun hq1 => ?_) (fun hq1 => ?_)
    · obtain rfl : i = n := by omega
      refine r_iload_n 3 dX5_takesOut_132 rfl rfl ?_
      refine r_iconst (-1) dX5_takesOut_133 (by decide +kernel) ?_
      refine r_icmp_eq 161 dX5_takesOut_134 (by decide) (fun hq2 => ?_) (fun hq2 => ?_)
      · exact absurd hq2 hk0
      · refine r_aload_n 0 dX5_takesOut_137 rfl rfl ?_
        refine r_get 0 fk_X5_56 dX5_takesOut_138 rfl rfl ?_
        refine r_iconst (-1) dX5_takesOut_141 (by decide +kernel) ?_
        refine r_icmp_ne 161 dX5_takesOut_142 (by decide) (fun hq3 => ?_) (fun hq3 => ?_)
        · exact r_vret (()) dX5_takesOut_161 (rfl) (by rcases hTO with ⟨e, -⟩ | ⟨p9, rfl, h2, rfl, rfl, rfl, rfl, h7, -⟩; exact absurd e hq3; rw [h7])
        · refine r_aload_n 0 dX5_takesOut_145 rfl rfl ?_
          refine r_aload_n 0 dX5_takesOut_146 rfl rfl ?_
          refine r_get 0 fk_X5_53 dX5_takesOut_147 rfl rfl ?_
          refine r_put 0 (mdW cA m (clr ρ a i) P hs α rf (K') (V') (C') (nI (y)) (nI (y)) tx tl sp od no ft) fk_X5_56 dX5_takesOut_150 rfl rfl rfl rfl (Nat.le_of_ble_eq_true rfl) rfl ?_
          have hyc : y = cnt ρ a i := TO_yc hTO (by have := cnt_le ρ a i; omega) hq3
          refine r_aload_n 0 dX5_takesOut_153 rfl rfl ?_
          refine r_iload_n 3 dX5_takesOut_154 rfl rfl ?_
          refine r_iload dX5_takesOut_155 rfl ?_
          refine r_iconst (-1) dX5_takesOut_157 (by decide +kernel) ?_
          refine r_callV2 (As := [.int (k), .int (v), .int (-1)]) (st := []) (fun _ => mdW cA m (clr ρ a i) P hs α rf (upd (K') y k) (upd (V') y v) (upd (C') y (-1)) (nI (y + 1)) (nI (y)) tx tl sp od no ft) [mdW cA m (clr ρ a i) P hs α rf (K') (V') (C') (nI (y)) (nI (y)) tx tl sp od no ft] [mdW cA m (clr ρ a i) P hs α rf (K') (V') (C') (nI (y)) (nI (y)) tx tl sp od no ft] [] (fun _ => [mdW cA m (clr ρ a i) P hs α rf (upd (K') y k) (upd (V') y v) (upd (C') y (-1)) (nI (y + 1)) (nI (y)) tx tl sp od no ft]) (fun _ => [mdW cA m (clr ρ a i) P hs α rf (upd (K') y k) (upd (V') y v) (upd (C') y (-1)) (nI (y + 1)) (nI (y)) tx tl sp od no ft]) (c_X5_lays l D cA cB m (clr ρ a i) P hs α rf (K') (V') (C') (y) (by omega) (nI (y)) tx tl sp od no ft (k) (v) (-1)) kv_X5_lays ml_X5_59 dX5_takesOut_158 rfl rfl rfl rfl (segOk [0] rfl rfl rfl rfl) (fun _ => segOk [0] rfl rfl rfl rfl) rfl (Nat.le_of_ble_eq_true rfl) (fun v u h => ?_)
          subst h
          refine r_st (st' := []) rfl ?_
          exact r_vret (()) dX5_takesOut_161 (rfl) (by rcases hTO with ⟨-, rfl, rfl, rfl, rfl, h6⟩ | ⟨p9, e1, h2, -⟩; rw [h6, insA_h, insA_h, insA_h]; exact absurd (e1.symm.trans hq3) (nI_ne_m1 (by have := cnt_le ρ a i; omega)))
    · refine r_aload_n 0 dX5_takesOut_21 rfl rfl ?_
      refine r_get 0 fk_X5_7 dX5_takesOut_22 rfl rfl ?_
      refine r_bipush (nI 31) dX5_takesOut_25 (by decide +kernel) ?_
      refine r_iload dX5_takesOut_27 rfl ?_
      refine r_niadd dX5_takesOut_29 ?_
      refine r_iald 1 (31 + c) dX5_takesOut_30 rfl rfl rfl (by omega) (Nat.le_of_ble_eq_true rfl) ?_
      refine r_top (y := ρ (31 + c)) (clr_k (by omega) (by omega)) ?_
      refine r_iconst (-1) dX5_takesOut_31 (by decide +kernel) ?_
      refine r_icmp_eq 126 dX5_takesOut_32 (by decide) (fun hq4 => ?_) (fun hq4 => ?_)
      · refine r_iinc (v := nI (c + 1)) ([some (.ref (m 0)), some (.int (nI a)), some (.int (nI n)), some (.int (k)), some (.int (v)), some (.int (nI (c + 1)))]) dX5_takesOut_126 rfl (nI_1 _) (Nat.le_of_ble_eq_true rfl) rfl rfl ?_
        refine r_goto 13 dX5_takesOut_129 (by decide) ?_
        refine r_ws (ws' := mdW cA m (clr ρ a (i + 1)) P hs α rf (K') (V') (C') (nI (y)) w tx tl sp od no ft) (by rw [show clr ρ a (i + 1) = clr ρ a i from clr_s0 (by subst hc; exact hq4)]) ?_
        exact ih (i + 1) _ _ _ _ _ _ (by omega) (by subst hc; exact TO_e hTO hq4) (by omega) (by omega)
      · have hcm := cnt_mono ρ a (show i + 1 ≤ n by omega)
        rw [cnt_s1 (by subst hc; exact hq4)] at hcm
        have hy1 : y < cnt ρ a i + 2 := TO_y hTO (by omega)
        have hyc : w = -1 → y = cnt ρ a i := TO_yc hTO (by have := cnt_le ρ a i; omega)
        refine r_iload_n 3 dX5_takesOut_35 rfl rfl ?_
        refine r_iconst (-1) dX5_takesOut_36 (by decide +kernel) ?_
        refine r_icmp_eq 78 dX5_takesOut_37 (by decide) (fun hq5 => ?_) (fun hq5 => ?_)
        · exact absurd hq5 hk0
        · refine r_aload_n 0 dX5_takesOut_40 rfl rfl ?_
          refine r_get 0 fk_X5_56 dX5_takesOut_41 rfl rfl ?_
          refine r_iconst (-1) dX5_takesOut_44 (by decide +kernel) ?_
          refine r_icmp_ne 78 dX5_takesOut_45 (by decide) (fun hq6 => ?_) (fun hq6 => ?_)
          · refine r_aload_n 0 dX5_takesOut_78 rfl rfl ?_
            refine r_aload_n 0 dX5_takesOut_79 rfl rfl ?_
            refine r_get 0 fk_X5_7 dX5_takesOut_80 rfl rfl ?_
            refine r_bipush (nI 31) dX5_takesOut_83 (by decide +kernel) ?_
            refine r_iload dX5_takesOut_85 rfl ?_
            refine r_niadd dX5_takesOut_87 ?_
            refine r_iald 1 (31 + c) dX5_takesOut_88 rfl rfl rfl (by omega) (Nat.le_of_ble_eq_true rfl) ?_
            refine r_top (y := ρ (31 + c)) (clr_k (by omega) (by omega)) ?_
            refine r_aload_n 0 dX5_takesOut_89 rfl rfl ?_
            refine r_get 0 fk_X5_7 dX5_takesOut_90 rfl rfl ?_
            refine r_bipush (nI 95) dX5_takesOut_93 (by decide +kernel) ?_
            refine r_iload dX5_takesOut_95 rfl ?_
            refine r_niadd dX5_takesOut_97 ?_
            refine r_iald 1 (95 + c) dX5_takesOut_98 rfl rfl rfl (by omega) (Nat.le_of_ble_eq_true rfl) ?_
            refine r_top (y := ρ (95 + c)) (clr_v (by omega)) ?_
            refine r_iload dX5_takesOut_99 rfl ?_
            refine r_callV2 (As := [.int (ρ (31 + c)), .int (ρ (95 + c)), .int (nI c)]) (st := []) (fun _ => mdW cA m (clr ρ a i) P hs α rf (upd (K') y (ρ (31 + c))) (upd (V') y (ρ (95 + c))) (upd (C') y (nI (c))) (nI (y + 1)) w tx tl sp od no ft) [mdW cA m (clr ρ a i) P hs α rf (K') (V') (C') (nI (y)) w tx tl sp od no ft] [mdW cA m (clr ρ a i) P hs α rf (K') (V') (C') (nI (y)) w tx tl sp od no ft] [] (fun _ => [mdW cA m (clr ρ a i) P hs α rf (upd (K') y (ρ (31 + c))) (upd (V') y (ρ (95 + c))) (upd (C') y (nI (c))) (nI (y + 1)) w tx tl sp od no ft]) (fun _ => [mdW cA m (clr ρ a i) P hs α rf (upd (K') y (ρ (31 + c))) (upd (V') y (ρ (95 + c))) (upd (C') y (nI (c))) (nI (y + 1)) w tx tl sp od no ft]) (c_X5_lays l D cA cB m (clr ρ a i) P hs α rf (K') (V') (C') (y) (by omega) w tx tl sp od no ft (ρ (31 + c)) (ρ (95 + c)) (nI (c))) kv_X5_lays ml_X5_59 dX5_takesOut_101 rfl rfl rfl rfl (segOk [0] rfl rfl rfl rfl) (fun _ => segOk [0] rfl rfl rfl rfl) rfl (Nat.le_of_ble_eq_true rfl) (fun v u h => ?_)
            subst h
            refine r_st (st' := []) rfl ?_
            refine r_aload_n 0 dX5_takesOut_104 rfl rfl ?_
            refine r_get 0 fk_X5_7 dX5_takesOut_105 rfl rfl ?_
            refine r_bipush (nI 31) dX5_takesOut_108 (by decide +kernel) ?_
            refine r_iload dX5_takesOut_110 rfl ?_
            refine r_niadd dX5_takesOut_112 ?_
            refine r_iconst (-1) dX5_takesOut_113 (by decide +kernel) ?_
            refine r_iast 1 (31 + c) (mdW cA m (upd (clr ρ a i) (31 + c) (-1)) P hs α rf (upd (K') y (ρ (31 + c))) (upd (V') y (ρ (95 + c))) (upd (C') y (nI (c))) (nI (y + 1)) w tx tl sp od no ft) dX5_takesOut_114 rfl rfl rfl (by omega) (Nat.le_of_ble_eq_true rfl) rfl ?_
            refine r_aload_n 0 dX5_takesOut_115 rfl rfl ?_
            refine r_get 0 fk_X5_7 dX5_takesOut_116 rfl rfl ?_
            refine r_bipush (nI 95) dX5_takesOut_119 (by decide +kernel) ?_
            refine r_iload dX5_takesOut_121 rfl ?_
            refine r_niadd dX5_takesOut_123 ?_
            refine r_iconst (nI 0) dX5_takesOut_124 (by decide +kernel) ?_
            refine r_iast 1 (95 + c) (mdW cA m (upd (upd (clr ρ a i) (31 + c) (-1)) (95 + c) (nI (0))) P hs α rf (upd (K') y (ρ (31 + c))) (upd (V') y (ρ (95 + c))) (upd (C') y (nI (c))) (nI (y + 1)) w tx tl sp od no ft) dX5_takesOut_125 rfl rfl rfl (by omega) (Nat.le_of_ble_eq_true rfl) rfl ?_
            refine r_iinc (v := nI (c + 1)) ([some (.ref (m 0)), some (.int (nI a)), some (.int (nI n)), some (.int (k)), some (.int (v)), some (.int (nI (c + 1)))]) dX5_takesOut_126 rfl (nI_1 _) (Nat.le_of_ble_eq_true rfl) rfl rfl ?_
            refine r_goto 13 dX5_takesOut_129 (by decide) ?_
            refine r_ws (ws' := mdW cA m (clr ρ a (i + 1)) P hs α rf (upd (K') y (ρ (31 + c))) (upd (V') y (ρ (95 + c))) (upd (C') y (nI (c))) (nI (y + 1)) w tx tl sp od no ft) (by subst hc; rw [clr_s1 hq4] <;> rfl) ?_
            exact ih (i + 1) _ _ _ _ _ _ (by omega) (by subst hc; exact TO_3 hs2 (by omega) hTO hq6 hq4) (by omega) (by omega)
          · refine r_aload_n 0 dX5_takesOut_48 rfl rfl ?_
            refine r_get 0 fk_X5_7 dX5_takesOut_49 rfl rfl ?_
            refine r_bipush (nI 31) dX5_takesOut_52 (by decide +kernel) ?_
            refine r_iload dX5_takesOut_54 rfl ?_
            refine r_niadd dX5_takesOut_56 ?_
            refine r_iald 1 (31 + c) dX5_takesOut_57 rfl rfl rfl (by omega) (Nat.le_of_ble_eq_true rfl) ?_
            refine r_top (y := ρ (31 + c)) (clr_k (by omega) (by omega)) ?_
            refine r_iload_n 3 dX5_takesOut_58 rfl rfl ?_
            refine r_icmp_le 78 dX5_takesOut_59 (by decide) (fun hq7 => ?_) (fun hq7 => ?_)
            · refine r_aload_n 0 dX5_takesOut_78 rfl rfl ?_
              refine r_aload_n 0 dX5_takesOut_79 rfl rfl ?_
              refine r_get 0 fk_X5_7 dX5_takesOut_80 rfl rfl ?_
              refine r_bipush (nI 31) dX5_takesOut_83 (by decide +kernel) ?_
              refine r_iload dX5_takesOut_85 rfl ?_
              refine r_niadd dX5_takesOut_87 ?_
              refine r_iald 1 (31 + c) dX5_takesOut_88 rfl rfl rfl (by omega) (Nat.le_of_ble_eq_true rfl) ?_
              refine r_top (y := ρ (31 + c)) (clr_k (by omega) (by omega)) ?_
              refine r_aload_n 0 dX5_takesOut_89 rfl rfl ?_
              refine r_get 0 fk_X5_7 dX5_takesOut_90 rfl rfl ?_
              refine r_bipush (nI 95) dX5_takesOut_93 (by decide +kernel) ?_
              refine r_iload dX5_takesOut_95 rfl ?_
              refine r_niadd dX5_takesOut_97 ?_
              refine r_iald 1 (95 + c) dX5_takesOut_98 rfl rfl rfl (by omega) (Nat.le_of_ble_eq_true rfl) ?_
              refine r_top (y := ρ (95 + c)) (clr_v (by omega)) ?_
              refine r_iload dX5_takesOut_99 rfl ?_
              refine r_callV2 (As := [.int (ρ (31 + c)), .int (ρ (95 + c)), .int (nI c)]) (st := []) (fun _ => mdW cA m (clr ρ a i) P hs α rf (upd (K') y (ρ (31 + c))) (upd (V') y (ρ (95 + c))) (upd (C') y (nI (c))) (nI (y + 1)) w tx tl sp od no ft) [mdW cA m (clr ρ a i) P hs α rf (K') (V') (C') (nI (y)) w tx tl sp od no ft] [mdW cA m (clr ρ a i) P hs α rf (K') (V') (C') (nI (y)) w tx tl sp od no ft] [] (fun _ => [mdW cA m (clr ρ a i) P hs α rf (upd (K') y (ρ (31 + c))) (upd (V') y (ρ (95 + c))) (upd (C') y (nI (c))) (nI (y + 1)) w tx tl sp od no ft]) (fun _ => [mdW cA m (clr ρ a i) P hs α rf (upd (K') y (ρ (31 + c))) (upd (V') y (ρ (95 + c))) (upd (C') y (nI (c))) (nI (y + 1)) w tx tl sp od no ft]) (c_X5_lays l D cA cB m (clr ρ a i) P hs α rf (K') (V') (C') (y) (by omega) w tx tl sp od no ft (ρ (31 + c)) (ρ (95 + c)) (nI (c))) kv_X5_lays ml_X5_59 dX5_takesOut_101 rfl rfl rfl rfl (segOk [0] rfl rfl rfl rfl) (fun _ => segOk [0] rfl rfl rfl rfl) rfl (Nat.le_of_ble_eq_true rfl) (fun v u h => ?_)
              subst h
              refine r_st (st' := []) rfl ?_
              refine r_aload_n 0 dX5_takesOut_104 rfl rfl ?_
              refine r_get 0 fk_X5_7 dX5_takesOut_105 rfl rfl ?_
              refine r_bipush (nI 31) dX5_takesOut_108 (by decide +kernel) ?_
              refine r_iload dX5_takesOut_110 rfl ?_
              refine r_niadd dX5_takesOut_112 ?_
              refine r_iconst (-1) dX5_takesOut_113 (by decide +kernel) ?_
              refine r_iast 1 (31 + c) (mdW cA m (upd (clr ρ a i) (31 + c) (-1)) P hs α rf (upd (K') y (ρ (31 + c))) (upd (V') y (ρ (95 + c))) (upd (C') y (nI (c))) (nI (y + 1)) w tx tl sp od no ft) dX5_takesOut_114 rfl rfl rfl (by omega) (Nat.le_of_ble_eq_true rfl) rfl ?_
              refine r_aload_n 0 dX5_takesOut_115 rfl rfl ?_
              refine r_get 0 fk_X5_7 dX5_takesOut_116 rfl rfl ?_
              refine r_bipush (nI 95) dX5_takesOut_119 (by decide +kernel) ?_
              refine r_iload dX5_takesOut_121 rfl ?_
              refine r_niadd dX5_takesOut_123 ?_
              refine r_iconst (nI 0) dX5_takesOut_124 (by decide +kernel) ?_
              refine r_iast 1 (95 + c) (mdW cA m (upd (upd (clr ρ a i) (31 + c) (-1)) (95 + c) (nI (0))) P hs α rf (upd (K') y (ρ (31 + c))) (upd (V') y (ρ (95 + c))) (upd (C') y (nI (c))) (nI (y + 1)) w tx tl sp od no ft) dX5_takesOut_125 rfl rfl rfl (by omega) (Nat.le_of_ble_eq_true rfl) rfl ?_
              refine r_iinc (v := nI (c + 1)) ([some (.ref (m 0)), some (.int (nI a)), some (.int (nI n)), some (.int (k)), some (.int (v)), some (.int (nI (c + 1)))]) dX5_takesOut_126 rfl (nI_1 _) (Nat.le_of_ble_eq_true rfl) rfl rfl ?_
              refine r_goto 13 dX5_takesOut_129 (by decide) ?_
              refine r_ws (ws' := mdW cA m (clr ρ a (i + 1)) P hs α rf (upd (K') y (ρ (31 + c))) (upd (V') y (ρ (95 + c))) (upd (C') y (nI (c))) (nI (y + 1)) w tx tl sp od no ft) (by subst hc; rw [clr_s1 hq4] <;> rfl) ?_
              exact ih (i + 1) _ _ _ _ _ _ (by omega) (by subst hc; have e9 := hq6; subst e9; exact TO_1 hTO hq4 (Int32.not_lt.mpr hq7) (by have := cnt_le ρ a i; omega)) (by omega) (by omega)
            · refine r_aload_n 0 dX5_takesOut_62 rfl rfl ?_
              refine r_aload_n 0 dX5_takesOut_63 rfl rfl ?_
              refine r_get 0 fk_X5_53 dX5_takesOut_64 rfl rfl ?_
              refine r_put 0 (mdW cA m (clr ρ a i) P hs α rf (K') (V') (C') (nI (y)) (nI (y)) tx tl sp od no ft) fk_X5_56 dX5_takesOut_67 rfl rfl rfl rfl (Nat.le_of_ble_eq_true rfl) rfl ?_
              have hyc2 := hyc hq6
              refine r_aload_n 0 dX5_takesOut_70 rfl rfl ?_
              refine r_iload_n 3 dX5_takesOut_71 rfl rfl ?_
              refine r_iload dX5_takesOut_72 rfl ?_
              refine r_iconst (-1) dX5_takesOut_74 (by decide +kernel) ?_
              refine r_callV2 (As := [.int (k), .int (v), .int (-1)]) (st := []) (fun _ => mdW cA m (clr ρ a i) P hs α rf (upd (K') y k) (upd (V') y v) (upd (C') y (-1)) (nI (y + 1)) (nI (y)) tx tl sp od no ft) [mdW cA m (clr ρ a i) P hs α rf (K') (V') (C') (nI (y)) (nI (y)) tx tl sp od no ft] [mdW cA m (clr ρ a i) P hs α rf (K') (V') (C') (nI (y)) (nI (y)) tx tl sp od no ft] [] (fun _ => [mdW cA m (clr ρ a i) P hs α rf (upd (K') y k) (upd (V') y v) (upd (C') y (-1)) (nI (y + 1)) (nI (y)) tx tl sp od no ft]) (fun _ => [mdW cA m (clr ρ a i) P hs α rf (upd (K') y k) (upd (V') y v) (upd (C') y (-1)) (nI (y + 1)) (nI (y)) tx tl sp od no ft]) (c_X5_lays l D cA cB m (clr ρ a i) P hs α rf (K') (V') (C') (y) (by omega) (nI (y)) tx tl sp od no ft (k) (v) (-1)) kv_X5_lays ml_X5_59 dX5_takesOut_75 rfl rfl rfl rfl (segOk [0] rfl rfl rfl rfl) (fun _ => segOk [0] rfl rfl rfl rfl) rfl (Nat.le_of_ble_eq_true rfl) (fun v u h => ?_)
              subst h
              refine r_st (st' := []) rfl ?_
              refine r_aload_n 0 dX5_takesOut_78 rfl rfl ?_
              refine r_aload_n 0 dX5_takesOut_79 rfl rfl ?_
              refine r_get 0 fk_X5_7 dX5_takesOut_80 rfl rfl ?_
              refine r_bipush (nI 31) dX5_takesOut_83 (by decide +kernel) ?_
              refine r_iload dX5_takesOut_85 rfl ?_
              refine r_niadd dX5_takesOut_87 ?_
              refine r_iald 1 (31 + c) dX5_takesOut_88 rfl rfl rfl (by omega) (Nat.le_of_ble_eq_true rfl) ?_
              refine r_top (y := ρ (31 + c)) (clr_k (by omega) (by omega)) ?_
              refine r_aload_n 0 dX5_takesOut_89 rfl rfl ?_
              refine r_get 0 fk_X5_7 dX5_takesOut_90 rfl rfl ?_
              refine r_bipush (nI 95) dX5_takesOut_93 (by decide +kernel) ?_
              refine r_iload dX5_takesOut_95 rfl ?_
              refine r_niadd dX5_takesOut_97 ?_
              refine r_iald 1 (95 + c) dX5_takesOut_98 rfl rfl rfl (by omega) (Nat.le_of_ble_eq_true rfl) ?_
              refine r_top (y := ρ (95 + c)) (clr_v (by omega)) ?_
              refine r_iload dX5_takesOut_99 rfl ?_
              refine r_callV2 (As := [.int (ρ (31 + c)), .int (ρ (95 + c)), .int (nI c)]) (st := []) (fun _ => mdW cA m (clr ρ a i) P hs α rf (upd (upd (K') y k) (y + 1) (ρ (31 + c))) (upd (upd (V') y v) (y + 1) (ρ (95 + c))) (upd (upd (C') y (-1)) (y + 1) (nI (c))) (nI (y + 1 + 1)) (nI (y)) tx tl sp od no ft) [mdW cA m (clr ρ a i) P hs α rf (upd (K') y k) (upd (V') y v) (upd (C') y (-1)) (nI (y + 1)) (nI (y)) tx tl sp od no ft] [mdW cA m (clr ρ a i) P hs α rf (upd (K') y k) (upd (V') y v) (upd (C') y (-1)) (nI (y + 1)) (nI (y)) tx tl sp od no ft] [] (fun _ => [mdW cA m (clr ρ a i) P hs α rf (upd (upd (K') y k) (y + 1) (ρ (31 + c))) (upd (upd (V') y v) (y + 1) (ρ (95 + c))) (upd (upd (C') y (-1)) (y + 1) (nI (c))) (nI (y + 1 + 1)) (nI (y)) tx tl sp od no ft]) (fun _ => [mdW cA m (clr ρ a i) P hs α rf (upd (upd (K') y k) (y + 1) (ρ (31 + c))) (upd (upd (V') y v) (y + 1) (ρ (95 + c))) (upd (upd (C') y (-1)) (y + 1) (nI (c))) (nI (y + 1 + 1)) (nI (y)) tx tl sp od no ft]) (c_X5_lays l D cA cB m (clr ρ a i) P hs α rf (upd (K') y k) (upd (V') y v) (upd (C') y (-1)) (y + 1) (by omega) (nI (y)) tx tl sp od no ft (ρ (31 + c)) (ρ (95 + c)) (nI (c))) kv_X5_lays ml_X5_59 dX5_takesOut_101 rfl rfl rfl rfl (segOk [0] rfl rfl rfl rfl) (fun _ => segOk [0] rfl rfl rfl rfl) rfl (Nat.le_of_ble_eq_true rfl) (fun v u h => ?_)
              subst h
              refine r_st (st' := []) rfl ?_
              refine r_aload_n 0 dX5_takesOut_104 rfl rfl ?_
              refine r_get 0 fk_X5_7 dX5_takesOut_105 rfl rfl ?_
              refine r_bipush (nI 31) dX5_takesOut_108 (by decide +kernel) ?_
              refine r_iload dX5_takesOut_110 rfl ?_
              refine r_niadd dX5_takesOut_112 ?_
              refine r_iconst (-1) dX5_takesOut_113 (by decide +kernel) ?_
              refine r_iast 1 (31 + c) (mdW cA m (upd (clr ρ a i) (31 + c) (-1)) P hs α rf (upd (upd (K') y k) (y + 1) (ρ (31 + c))) (upd (upd (V') y v) (y + 1) (ρ (95 + c))) (upd (upd (C') y (-1)) (y + 1) (nI (c))) (nI (y + 1 + 1)) (nI (y)) tx tl sp od no ft) dX5_takesOut_114 rfl rfl rfl (by omega) (Nat.le_of_ble_eq_true rfl) rfl ?_
              refine r_aload_n 0 dX5_takesOut_115 rfl rfl ?_
              refine r_get 0 fk_X5_7 dX5_takesOut_116 rfl rfl ?_
              refine r_bipush (nI 95) dX5_takesOut_119 (by decide +kernel) ?_
              refine r_iload dX5_takesOut_121 rfl ?_
              refine r_niadd dX5_takesOut_123 ?_
              refine r_iconst (nI 0) dX5_takesOut_124 (by decide +kernel) ?_
              refine r_iast 1 (95 + c) (mdW cA m (upd (upd (clr ρ a i) (31 + c) (-1)) (95 + c) (nI (0))) P hs α rf (upd (upd (K') y k) (y + 1) (ρ (31 + c))) (upd (upd (V') y v) (y + 1) (ρ (95 + c))) (upd (upd (C') y (-1)) (y + 1) (nI (c))) (nI (y + 1 + 1)) (nI (y)) tx tl sp od no ft) dX5_takesOut_125 rfl rfl rfl (by omega) (Nat.le_of_ble_eq_true rfl) rfl ?_
              refine r_iinc (v := nI (c + 1)) ([some (.ref (m 0)), some (.int (nI a)), some (.int (nI n)), some (.int (k)), some (.int (v)), some (.int (nI (c + 1)))]) dX5_takesOut_126 rfl (nI_1 _) (Nat.le_of_ble_eq_true rfl) rfl rfl ?_
              refine r_goto 13 dX5_takesOut_129 (by decide) ?_
              refine r_ws (ws' := mdW cA m (clr ρ a (i + 1)) P hs α rf (upd (upd (K') y k) (y + 1) (ρ (31 + c))) (upd (upd (V') y v) (y + 1) (ρ (95 + c))) (upd (upd (C') y (-1)) (y + 1) (nI (c))) (nI (y + 1 + 1)) (nI (y)) tx tl sp od no ft) (by subst hc; rw [clr_s1 hq4] <;> rfl) ?_
              exact ih (i + 1) _ _ _ _ _ _ (by omega) (by subst hc; have e9 := hq6; subst e9; exact TO_2 hTO hq4 (Int32.not_le.mp hq7) (by have := cnt_le ρ a i; omega)) (by omega) (by omega)

set_option maxRecDepth 100000 in
set_option maxHeartbeats 4000000 in
theorem c_X5_takesOut_k (l : Launch) (D : va_G) (cA cB : ClassId) (m : Nat → Nat) (ρ P : Nat → Int32) (hs : Int32) (α rf K V C : Nat → Int32) (my cm : Int32) (tx : Nat → Int32) (tl sp : Int32) (od : Nat → Int32) (no ft : Int32) (a n N : Nat) (hn : a + n ≤ 64) (hN : a + n ≤ N) (hs2 : Srt ρ N) (k v : Int32) (hk0 : ¬ k = -1) (hlt : cnt ρ a n < 64) : Mt l D (tyS cA cB) yX5_takesOut cX5_takesOut 6 none ({ frames := 1, cells := 0, slots := 0, locals := 23 } : Room) [.ref (m 0), .int (nI a), .int (nI n), .int (k), .int (v)] (mdW cA m ρ P hs α rf K V C my cm tx tl sp od no ft) Unit (fun v _ => v = none) (fun _ => mdW cA m (clr ρ a n) P hs α rf (insA (tkG ρ (kv ρ) a K n) (insP (tkG ρ (kv ρ) a K n) k (cnt ρ a n)) (cnt ρ a n) k) (insA (tkG ρ (vv ρ) a V n) (insP (tkG ρ (kv ρ) a K n) k (cnt ρ a n)) (cnt ρ a n) v) (insA (tkG ρ nI a C n) (insP (tkG ρ (kv ρ) a K n) k (cnt ρ a n)) (cnt ρ a n) (-1)) (nI (cnt ρ a n + 1)) (nI (insP (tkG ρ (kv ρ) a K n) k (cnt ρ a n))) tx tl sp od no ft) 0 0 := by
  refine mt_in RX5 ([some (.ref (m 0)), some (.int (nI a)), some (.int (nI n)), some (.int (k)), some (.int (v)), none]) rfl (by decide +kernel) rfl (Nat.le_of_ble_eq_true rfl) rfl rfl (fun X sz => ?_)
  refine r_aload_n 0 dX5_takesOut_0 rfl rfl ?_
  refine r_iconst (nI 0) dX5_takesOut_1 (by decide +kernel) ?_
  refine r_put 0 (mdW cA m ρ P hs α rf K V C (nI (0)) cm tx tl sp od no ft) fk_X5_53 dX5_takesOut_2 rfl rfl rfl rfl (Nat.le_of_ble_eq_true rfl) rfl ?_
  refine r_aload_n 0 dX5_takesOut_5 rfl rfl ?_
  refine r_iconst (-1) dX5_takesOut_6 (by decide +kernel) ?_
  refine r_put 0 (mdW cA m ρ P hs α rf K V C (nI (0)) (-1) tx tl sp od no ft) fk_X5_56 dX5_takesOut_7 rfl rfl rfl rfl (Nat.le_of_ble_eq_true rfl) rfl ?_
  refine r_iload_n 1 dX5_takesOut_10 rfl rfl ?_
  refine r_istore ([some (.ref (m 0)), some (.int (nI a)), some (.int (nI n)), some (.int (k)), some (.int (v)), some (.int (nI a))]) dX5_takesOut_11 (Nat.le_of_ble_eq_true rfl) rfl rfl ?_
  refine r_ws (ws' := mdW cA m (clr ρ a 0) P hs α rf K V C (nI (0)) (-1) tx tl sp od no ft) rfl ?_
  exact lp_X5_takesOut_k l D cA cB m ρ P hs α rf K V C my cm tx tl sp od no ft a n N hn hN hs2 k v hk0 hlt X sz (n + 1) 0 a 0 (-1) K V C rfl TO_0 (by omega) (by omega)

set_option maxRecDepth 100000 in
set_option maxHeartbeats 4000000 in
theorem lp_X5_putsBack2 (l : Launch) (D : va_G) (cA cB : ClassId) (m : Nat → Nat) (ρ P : Nat → Int32) (hs : Int32) (α rf K V C : Nat → Int32) (h : Nat) (w : Int32) (tx : Nat → Int32) (tl sp : Int32) (od : Nat → Int32) (no ft : Int32) (g a n : Nat) (hg : ρ 6 = nI g) (hg8 : g ≤ 8) (hn : a + n ≤ 64) (hh : h ≤ n) (X : Cx) (sz : Nat) : ∀ (gp mv : Nat), mv = mvF C (pz ρ a n h w) h → ∀ (f k : Nat), 2 ≤ k → k ≤ 23 → k < f → G l X ({ frames := 0, cells := 0, slots := 0, locals := 0 } : Room) cX5_putsBack RX5 (some .int) D (tyS cA cB) (va_A (mdW cA m ρ P hs α rf K V C (nI (h)) w tx tl sp od no ft) sz) (QX X D (tyS cA cB) (mdW cA m ρ P hs α rf K V C (nI (h)) w tx tl sp od no ft) sz Unit (fun v _ => v = some (.int (nI (mvAll ρ C h w a n)))) (fun _ => mdW cA m (layAll ρ K V C h w a n g) P hs α rf K V C (nI (h)) w tx tl sp od no ft) 0 0) 0 0 (mdW cA m (shL (upd (upd (layF ρ K V (pz ρ a n h w) h) 2 ((layF ρ K V (pz ρ a n h w) h) 2 + nI 1)) 3 ((layF ρ K V (pz ρ a n h w) h) 3 + nI mv)) k) P hs α rf K V C (nI (h)) w tx tl sp od no ft) 180 ([some (.ref (m 0)), some (.int (nI a)), some (.int (nI n)), some (.int (bI (lnB ρ w))), some (.int (nI gp)), some (.int (nI mv)), some (.int (nI k)), none]) [] := by
  intro gp mv hmv f
  have hmj := mvF_le C (pz ρ a n h w) h
  induction f with
  | zero => intro k h1 h2 h3; omega
  | succ f ih =>
    intro k hk hk2 hf
    refine r_iload dX5_putsBack_180 rfl ?_
    refine r_iconst (nI 3) dX5_putsBack_182 (by decide +kernel) ?_
    refine r_ncmp_lt 214 (by omega) (by omega) dX5_putsBack_183 (by decide) (fun hq1 => ?_) (fun hq1 => ?_)
    · obtain rfl : k = 2 := by omega
      have h6 : (layF ρ K V (pz ρ a n h w) h) 6 = nI g := by rw [layF_low (by omega)]; exact hg
      refine r_aload_n 0 dX5_putsBack_214 rfl rfl ?_
      refine r_get 0 fk_X5_7 dX5_putsBack_215 rfl rfl ?_
      refine r_bipush (nI 7) dX5_putsBack_218 (by decide +kernel) ?_
      refine r_iload_n 1 dX5_putsBack_220 rfl rfl ?_
      refine r_iast 1 (7) (mdW cA m (upd (shL (upd (upd (layF ρ K V (pz ρ a n h w) h) 2 ((layF ρ K V (pz ρ a n h w) h) 2 + nI 1)) 3 ((layF ρ K V (pz ρ a n h w) h) 3 + nI mv)) 2) 7 (nI (a))) P hs α rf K V C (nI (h)) w tx tl sp od no ft) dX5_putsBack_221 rfl rfl rfl (by omega) (Nat.le_of_ble_eq_true rfl) rfl ?_
      refine r_aload_n 0 dX5_putsBack_222 rfl rfl ?_
      refine r_get 0 fk_X5_7 dX5_putsBack_223 rfl rfl ?_
      refine r_bipush (nI 8) dX5_putsBack_226 (by decide +kernel) ?_
      refine r_iload_n 2 dX5_putsBack_228 rfl rfl ?_
      refine r_iast 1 (8) (mdW cA m (upd (upd (shL (upd (upd (layF ρ K V (pz ρ a n h w) h) 2 ((layF ρ K V (pz ρ a n h w) h) 2 + nI 1)) 3 ((layF ρ K V (pz ρ a n h w) h) 3 + nI mv)) 2) 7 (nI (a))) 8 (nI (n))) P hs α rf K V C (nI (h)) w tx tl sp od no ft) dX5_putsBack_229 rfl rfl rfl (by omega) (Nat.le_of_ble_eq_true rfl) rfl ?_
      refine r_aload_n 0 dX5_putsBack_230 rfl rfl ?_
      refine r_get 0 fk_X5_7 dX5_putsBack_231 rfl rfl ?_
      refine r_bipush (nI 9) dX5_putsBack_234 (by decide +kernel) ?_
      refine r_iload dX5_putsBack_236 rfl ?_
      refine r_iast 1 (9) (mdW cA m (upd (upd (upd (shL (upd (upd (layF ρ K V (pz ρ a n h w) h) 2 ((layF ρ K V (pz ρ a n h w) h) 2 + nI 1)) 3 ((layF ρ K V (pz ρ a n h w) h) 3 + nI mv)) 2) 7 (nI (a))) 8 (nI (n))) 9 (nI (mv))) P hs α rf K V C (nI (h)) w tx tl sp od no ft) dX5_putsBack_238 rfl rfl rfl (by omega) (Nat.le_of_ble_eq_true rfl) rfl ?_
      refine r_aload_n 0 dX5_putsBack_239 rfl rfl ?_
      refine r_get 0 fk_X5_7 dX5_putsBack_240 rfl rfl ?_
      refine r_bipush (nI 6) dX5_putsBack_243 (by decide +kernel) ?_
      refine r_dup2 rfl rfl dX5_putsBack_245 ?_
      refine r_iald 1 (6) dX5_putsBack_246 rfl rfl rfl (by omega) (Nat.le_of_ble_eq_true rfl) ?_
      refine r_top (y := nI g) (by rw [upd_n _ _ (by omega), upd_n _ _ (by omega), upd_n _ _ (by omega)]; unfold shL; rw [if_neg (by omega), upd_n _ _ (by omega), upd_n _ _ (by omega)]; exact h6) ?_
      refine r_aload_n 0 dX5_putsBack_247 rfl rfl ?_
      refine r_get 0 fk_X5_7 dX5_putsBack_248 rfl rfl ?_
      refine r_bipush (nI 6) dX5_putsBack_251 (by decide +kernel) ?_
      refine r_iald 1 (6) dX5_putsBack_253 rfl rfl rfl (by omega) (Nat.le_of_ble_eq_true rfl) ?_
      refine r_top (y := nI g) (by rw [upd_n _ _ (by omega), upd_n _ _ (by omega), upd_n _ _ (by omega)]; unfold shL; rw [if_neg (by omega), upd_n _ _ (by omega), upd_n _ _ (by omega)]; exact h6) ?_
      refine r_bipush (nI 8) dX5_putsBack_254 (by decide +kernel) ?_
      refine r_ncmp_ge 263 (by omega) (by omega) dX5_putsBack_256 (by decide) (fun hq2 => ?_) (fun hq2 => ?_)
      · refine r_iconst (nI 0) dX5_putsBack_263 (by decide +kernel) ?_
        refine r_niadd dX5_putsBack_264 ?_
        refine r_iast 1 (6) (mdW cA m (upd (upd (upd (upd (shL (upd (upd (layF ρ K V (pz ρ a n h w) h) 2 ((layF ρ K V (pz ρ a n h w) h) 2 + nI 1)) 3 ((layF ρ K V (pz ρ a n h w) h) 3 + nI mv)) 2) 7 (nI (a))) 8 (nI (n))) 9 (nI (mv))) 6 (nI (g + 0))) P hs α rf K V C (nI (h)) w tx tl sp od no ft) dX5_putsBack_265 rfl rfl rfl (by omega) (Nat.le_of_ble_eq_true rfl) rfl ?_
        refine r_iload dX5_putsBack_266 rfl ?_
        exact r_iret (()) dX5_putsBack_268 (by rw [hmv]; rfl) (by rw [note_m (g := g) (by rw [Nat.min_eq_right (by omega)]; congr 1; omega), hmv]; rfl)
      · refine r_iconst (nI 1) dX5_putsBack_259 (by decide +kernel) ?_
        refine r_goto 264 dX5_putsBack_260 (by decide) ?_
        refine r_niadd dX5_putsBack_264 ?_
        refine r_iast 1 (6) (mdW cA m (upd (upd (upd (upd (shL (upd (upd (layF ρ K V (pz ρ a n h w) h) 2 ((layF ρ K V (pz ρ a n h w) h) 2 + nI 1)) 3 ((layF ρ K V (pz ρ a n h w) h) 3 + nI mv)) 2) 7 (nI (a))) 8 (nI (n))) 9 (nI (mv))) 6 (nI (g + 1))) P hs α rf K V C (nI (h)) w tx tl sp od no ft) dX5_putsBack_265 rfl rfl rfl (by omega) (Nat.le_of_ble_eq_true rfl) rfl ?_
        refine r_iload dX5_putsBack_266 rfl ?_
        exact r_iret (()) dX5_putsBack_268 (by rw [hmv]; rfl) (by rw [note_m (g := g) (by rw [Nat.min_eq_left (by omega)]), hmv]; rfl)
    · refine r_aload_n 0 dX5_putsBack_186 rfl rfl ?_
      refine r_get 0 fk_X5_7 dX5_putsBack_187 rfl rfl ?_
      refine r_bipush (nI 7) dX5_putsBack_190 (by decide +kernel) ?_
      refine r_iload dX5_putsBack_192 rfl ?_
      refine r_niadd dX5_putsBack_194 ?_
      refine r_aload_n 0 dX5_putsBack_195 rfl rfl ?_
      refine r_get 0 fk_X5_7 dX5_putsBack_196 rfl rfl ?_
      refine r_bipush (nI 7) dX5_putsBack_199 (by decide +kernel) ?_
      refine r_iload dX5_putsBack_201 rfl ?_
      refine r_niadd dX5_putsBack_203 ?_
      refine r_iconst (nI 3) dX5_putsBack_204 (by decide +kernel) ?_
      refine r_nisub (by omega) dX5_putsBack_205 ?_
      refine r_iald 1 ((7 + k) - 3) dX5_putsBack_206 rfl rfl rfl (by omega) (Nat.le_of_ble_eq_true rfl) ?_
      refine r_iast 1 (7 + k) (mdW cA m (upd (shL (upd (upd (layF ρ K V (pz ρ a n h w) h) 2 ((layF ρ K V (pz ρ a n h w) h) 2 + nI 1)) 3 ((layF ρ K V (pz ρ a n h w) h) 3 + nI mv)) k) (7 + k) ((shL (upd (upd (layF ρ K V (pz ρ a n h w) h) 2 ((layF ρ K V (pz ρ a n h w) h) 2 + nI 1)) 3 ((layF ρ K V (pz ρ a n h w) h) 3 + nI mv)) k) ((7 + k) - 3))) P hs α rf K V C (nI (h)) w tx tl sp od no ft) dX5_putsBack_207 rfl rfl rfl (by omega) (Nat.le_of_ble_eq_true rfl) rfl ?_
      refine r_ws (ws' := mdW cA m (shL (upd (upd (layF ρ K V (pz ρ a n h w) h) 2 ((layF ρ K V (pz ρ a n h w) h) 2 + nI 1)) 3 ((layF ρ K V (pz ρ a n h w) h) 3 + nI mv)) (k - 1)) P hs α rf K V C (nI (h)) w tx tl sp od no ft) (by rw [shL_step (by omega) (by omega)]) ?_
      refine r_iinc (v := nI (k - 1)) ([some (.ref (m 0)), some (.int (nI a)), some (.int (nI n)), some (.int (bI (lnB ρ w))), some (.int (nI gp)), some (.int (nI mv)), some (.int (nI (k - 1))), none]) dX5_putsBack_208 rfl (nI_m1 (by omega)) (Nat.le_of_ble_eq_true rfl) rfl rfl ?_
      refine r_goto 180 dX5_putsBack_211 (by decide) ?_
      exact ih _ (by omega) (by omega) (by omega)

set_option maxRecDepth 100000 in
set_option maxHeartbeats 4000000 in
theorem lp_X5_putsBack (l : Launch) (D : va_G) (cA cB : ClassId) (m : Nat → Nat) (ρ P : Nat → Int32) (hs : Int32) (α rf K V C : Nat → Int32) (h : Nat) (w : Int32) (tx : Nat → Int32) (tl sp : Int32) (od : Nat → Int32) (no ft : Int32) (g a n : Nat) (hg : ρ 6 = nI g) (hg8 : g ≤ 8) (hn : a + n ≤ 64) (hh : h ≤ n) (X : Cx) (sz : Nat) : ∀ (gp : Nat), gp = (if lnB ρ w then (n - h) / 2 else 0) → ∀ (f j mv : Nat), mv = mvF C (pz ρ a n h w) j → j ≤ h → h < j + f → G l X ({ frames := 0, cells := 0, slots := 0, locals := 0 } : Room) cX5_putsBack RX5 (some .int) D (tyS cA cB) (va_A (mdW cA m ρ P hs α rf K V C (nI (h)) w tx tl sp od no ft) sz) (QX X D (tyS cA cB) (mdW cA m ρ P hs α rf K V C (nI (h)) w tx tl sp od no ft) sz Unit (fun v _ => v = some (.int (nI (mvAll ρ C h w a n)))) (fun _ => mdW cA m (layAll ρ K V C h w a n g) P hs α rf K V C (nI (h)) w tx tl sp od no ft) 0 0) 0 0 (mdW cA m (layF ρ K V (pz ρ a n h w) j) P hs α rf K V C (nI (h)) w tx tl sp od no ft) 48 ([some (.ref (m 0)), some (.int (nI a)), some (.int (nI n)), some (.int (bI (lnB ρ w))), some (.int (nI gp)), some (.int (nI mv)), some (.int (nI j)), none]) [] := by
  intro gp hgp f
  have hgn : gp ≤ n := by rw [hgp]; split <;> omega
  induction f with
  | zero => intro j mv _ h1 h2; omega
  | succ f ih =>
    intro j mv hmv hj hf
    have hmj := mvF_le C (pz ρ a n h w) j
    refine r_iload dX5_putsBack_48 rfl ?_
    refine r_aload_n 0 dX5_putsBack_50 rfl rfl ?_
    refine r_get 0 fk_X5_53 dX5_putsBack_51 rfl rfl ?_
    refine r_ncmp_ge 155 (by omega) (by omega) dX5_putsBack_54 (by decide) (fun hq1 => ?_) (fun hq1 => ?_)
    · obtain rfl : h = j := by omega
      refine r_aload_n 0 dX5_putsBack_155 rfl rfl ?_
      refine r_get 0 fk_X5_7 dX5_putsBack_156 rfl rfl ?_
      refine r_iconst (nI 2) dX5_putsBack_159 (by decide +kernel) ?_
      refine r_dup2 rfl rfl dX5_putsBack_160 ?_
      refine r_iald 1 (2) dX5_putsBack_161 rfl rfl rfl (by omega) (Nat.le_of_ble_eq_true rfl) ?_
      refine r_iconst (nI 1) dX5_putsBack_162 (by decide +kernel) ?_
      refine r_iadd dX5_putsBack_163 ?_
      refine r_iast 1 (2) (mdW cA m (upd (layF ρ K V (pz ρ a n h w) h) 2 (((layF ρ K V (pz ρ a n h w) h) 2) + (nI (1)))) P hs α rf K V C (nI (h)) w tx tl sp od no ft) dX5_putsBack_164 rfl rfl rfl (by omega) (Nat.le_of_ble_eq_true rfl) rfl ?_
      refine r_aload_n 0 dX5_putsBack_165 rfl rfl ?_
      refine r_get 0 fk_X5_7 dX5_putsBack_166 rfl rfl ?_
      refine r_iconst (nI 3) dX5_putsBack_169 (by decide +kernel) ?_
      refine r_dup2 rfl rfl dX5_putsBack_170 ?_
      refine r_iald 1 (3) dX5_putsBack_171 rfl rfl rfl (by omega) (Nat.le_of_ble_eq_true rfl) ?_
      refine r_iload dX5_putsBack_172 rfl ?_
      refine r_iadd dX5_putsBack_174 ?_
      refine r_iast 1 (3) (mdW cA m (upd (upd (layF ρ K V (pz ρ a n h w) h) 2 (((layF ρ K V (pz ρ a n h w) h) 2) + (nI (1)))) 3 (((upd (layF ρ K V (pz ρ a n h w) h) 2 (((layF ρ K V (pz ρ a n h w) h) 2) + (nI (1)))) 3) + (nI (mv)))) P hs α rf K V C (nI (h)) w tx tl sp od no ft) dX5_putsBack_175 rfl rfl rfl (by omega) (Nat.le_of_ble_eq_true rfl) rfl ?_
      refine r_bipush (nI 23) dX5_putsBack_176 (by decide +kernel) ?_
      refine r_istore ([some (.ref (m 0)), some (.int (nI a)), some (.int (nI n)), some (.int (bI (lnB ρ w))), some (.int (nI gp)), some (.int (nI mv)), some (.int (nI 23)), none]) dX5_putsBack_178 (Nat.le_of_ble_eq_true rfl) rfl rfl ?_
      refine r_ws (ws' := mdW cA m (shL (upd (upd (layF ρ K V (pz ρ a n h w) h) 2 ((layF ρ K V (pz ρ a n h w) h) 2 + nI 1)) 3 ((layF ρ K V (pz ρ a n h w) h) 3 + nI mv)) 23) P hs α rf K V C (nI (h)) w tx tl sp od no ft) (by rw [shL_23]; rfl) ?_
      exact lp_X5_putsBack2 l D cA cB m ρ P hs α rf K V C h w tx tl sp od no ft g a n hg hg8 hn hh X sz gp mv hmv 24 23 (by omega) (by omega) (by omega)
    · have hm : j * (n - gp) ≤ 64 * 64 := Nat.mul_le_mul (by omega) (by omega)
      have hdv := Nat.div_le_self (j * (n - gp)) h
      have hpl := pos_lt (a := a) (le := lnB ρ w) (w := w) (show j < h by omega) hh
      refine r_iload_n 1 dX5_putsBack_57 rfl rfl ?_
      refine r_iload dX5_putsBack_58 rfl ?_
      refine r_iload_n 2 dX5_putsBack_60 rfl rfl ?_
      refine r_iload dX5_putsBack_61 rfl ?_
      refine r_nisub (by omega) dX5_putsBack_63 ?_
      refine r_nimul dX5_putsBack_64 ?_
      refine r_aload_n 0 dX5_putsBack_65 rfl rfl ?_
      refine r_get 0 fk_X5_53 dX5_putsBack_66 rfl rfl ?_
      refine r_nidiv (by omega) (by omega) (by omega) dX5_putsBack_69 ?_
      refine r_niadd dX5_putsBack_70 ?_
      refine r_iload_n 3 dX5_putsBack_71 rfl rfl ?_
      refine r_bif_eq 89 dX5_putsBack_72 (by decide) (fun hq2 => ?_) (fun hq2 => ?_)
      · refine r_iconst (nI 0) dX5_putsBack_89 (by decide +kernel) ?_
        refine r_niadd dX5_putsBack_90 ?_
        have hpos : pz ρ a n h w j = (a + ((j * (n - gp)) / h)) + 0 := by unfold pz posF; rw [hgp, hq2]; simp
        refine r_top (y := nI (pz ρ a n h w j)) (by rw [hpos]) ?_
        have hpl2 : pz ρ a n h w j < a + n := hpl
        refine r_istore ([some (.ref (m 0)), some (.int (nI a)), some (.int (nI n)), some (.int (bI (lnB ρ w))), some (.int (nI gp)), some (.int (nI mv)), some (.int (nI j)), some (.int (nI (pz ρ a n h w j)))]) dX5_putsBack_91 (Nat.le_of_ble_eq_true rfl) rfl rfl ?_
        refine r_aload_n 0 dX5_putsBack_93 rfl rfl ?_
        refine r_get 0 fk_X5_7 dX5_putsBack_94 rfl rfl ?_
        refine r_bipush (nI 31) dX5_putsBack_97 (by decide +kernel) ?_
        refine r_iload dX5_putsBack_99 rfl ?_
        refine r_niadd dX5_putsBack_101 ?_
        refine r_aload_n 0 dX5_putsBack_102 rfl rfl ?_
        refine r_get 0 fk_X5_22 dX5_putsBack_103 rfl rfl ?_
        refine r_iload dX5_putsBack_106 rfl ?_
        refine r_iald 5 (j) dX5_putsBack_108 rfl rfl rfl (by omega) (Nat.le_of_ble_eq_true rfl) ?_
        refine r_iast 1 (31 + (pz ρ a n h w j)) (mdW cA m (upd (layF ρ K V (pz ρ a n h w) j) (31 + (pz ρ a n h w j)) (K j)) P hs α rf K V C (nI (h)) w tx tl sp od no ft) dX5_putsBack_109 rfl rfl rfl (by omega) (Nat.le_of_ble_eq_true rfl) rfl ?_
        refine r_aload_n 0 dX5_putsBack_110 rfl rfl ?_
        refine r_get 0 fk_X5_7 dX5_putsBack_111 rfl rfl ?_
        refine r_bipush (nI 95) dX5_putsBack_114 (by decide +kernel) ?_
        refine r_iload dX5_putsBack_116 rfl ?_
        refine r_niadd dX5_putsBack_118 ?_
        refine r_aload_n 0 dX5_putsBack_119 rfl rfl ?_
        refine r_get 0 fk_X5_25 dX5_putsBack_120 rfl rfl ?_
        refine r_iload dX5_putsBack_123 rfl ?_
        refine r_iald 6 (j) dX5_putsBack_125 rfl rfl rfl (by omega) (Nat.le_of_ble_eq_true rfl) ?_
        refine r_iast 1 (95 + (pz ρ a n h w j)) (mdW cA m (upd (upd (layF ρ K V (pz ρ a n h w) j) (31 + (pz ρ a n h w j)) (K j)) (95 + (pz ρ a n h w j)) (V j)) P hs α rf K V C (nI (h)) w tx tl sp od no ft) dX5_putsBack_126 rfl rfl rfl (by omega) (Nat.le_of_ble_eq_true rfl) rfl ?_
        refine r_iload dX5_putsBack_127 rfl ?_
        refine r_aload_n 0 dX5_putsBack_129 rfl rfl ?_
        refine r_get 0 fk_X5_28 dX5_putsBack_130 rfl rfl ?_
        refine r_iload dX5_putsBack_133 rfl ?_
        refine r_iald 7 (j) dX5_putsBack_135 rfl rfl rfl (by omega) (Nat.le_of_ble_eq_true rfl) ?_
        refine r_iload dX5_putsBack_136 rfl ?_
        refine r_icmp_ne 145 dX5_putsBack_138 (by decide) (fun hq3 => ?_) (fun hq3 => ?_)
        · refine r_iconst (nI 1) dX5_putsBack_145 (by decide +kernel) ?_
          refine r_niadd dX5_putsBack_146 ?_
          refine r_istore ([some (.ref (m 0)), some (.int (nI a)), some (.int (nI n)), some (.int (bI (lnB ρ w))), some (.int (nI gp)), some (.int (nI (mv + 1))), some (.int (nI j)), some (.int (nI (pz ρ a n h w j)))]) dX5_putsBack_147 (Nat.le_of_ble_eq_true rfl) rfl rfl ?_
          refine r_iinc (v := nI (j + 1)) ([some (.ref (m 0)), some (.int (nI a)), some (.int (nI n)), some (.int (bI (lnB ρ w))), some (.int (nI gp)), some (.int (nI (mv + 1))), some (.int (nI (j + 1))), some (.int (nI (pz ρ a n h w j)))]) dX5_putsBack_149 rfl (nI_1 _) (Nat.le_of_ble_eq_true rfl) rfl rfl ?_
          refine r_goto 48 dX5_putsBack_152 (by decide) ?_
          refine r_drop (lv' := [some (.ref (m 0)), some (.int (nI a)), some (.int (nI n)), some (.int (bI (lnB ρ w))), some (.int (nI gp)), some (.int (nI (mv + 1))), some (.int (nI (j + 1))), none]) 7 rfl ?_
          refine r_ws (ws' := mdW cA m (layF ρ K V (pz ρ a n h w) (j + 1)) P hs α rf K V C (nI (h)) w tx tl sp od no ft) rfl ?_
          exact ih (j + 1) _ (by rw [hmv, mvF_s1 (fun q => hq3 q.symm)] <;> rfl) (by omega) (by omega)
        · refine r_iconst (nI 0) dX5_putsBack_141 (by decide +kernel) ?_
          refine r_goto 146 dX5_putsBack_142 (by decide) ?_
          refine r_niadd dX5_putsBack_146 ?_
          refine r_istore ([some (.ref (m 0)), some (.int (nI a)), some (.int (nI n)), some (.int (bI (lnB ρ w))), some (.int (nI gp)), some (.int (nI (mv + 0))), some (.int (nI j)), some (.int (nI (pz ρ a n h w j)))]) dX5_putsBack_147 (Nat.le_of_ble_eq_true rfl) rfl rfl ?_
          refine r_iinc (v := nI (j + 1)) ([some (.ref (m 0)), some (.int (nI a)), some (.int (nI n)), some (.int (bI (lnB ρ w))), some (.int (nI gp)), some (.int (nI (mv + 0))), some (.int (nI (j + 1))), some (.int (nI (pz ρ a n h w j)))]) dX5_putsBack_149 rfl (nI_1 _) (Nat.le_of_ble_eq_true rfl) rfl rfl ?_
          refine r_goto 48 dX5_putsBack_152 (by decide) ?_
          refine r_drop (lv' := [some (.ref (m 0)), some (.int (nI a)), some (.int (nI n)), some (.int (bI (lnB ρ w))), some (.int (nI gp)), some (.int (nI (mv + 0))), some (.int (nI (j + 1))), none]) 7 rfl ?_
          refine r_ws (ws' := mdW cA m (layF ρ K V (pz ρ a n h w) (j + 1)) P hs α rf K V C (nI (h)) w tx tl sp od no ft) rfl ?_
          exact ih (j + 1) _ (by rw [hmv, mvF_s0 hq3.symm] <;> rfl) (by omega) (by omega)
      · refine r_iload dX5_putsBack_75 rfl ?_
        refine r_aload_n 0 dX5_putsBack_77 rfl rfl ?_
        refine r_get 0 fk_X5_56 dX5_putsBack_78 rfl rfl ?_
        refine r_icmp_le 89 dX5_putsBack_81 (by decide) (fun hq4 => ?_) (fun hq4 => ?_)
        · refine r_iconst (nI 0) dX5_putsBack_89 (by decide +kernel) ?_
          refine r_niadd dX5_putsBack_90 ?_
          have hpos : pz ρ a n h w j = (a + ((j * (n - gp)) / h)) + 0 := by unfold pz posF; rw [hgp, hq2, decide_eq_false (Int32.not_lt.mpr hq4)]; simp
          refine r_top (y := nI (pz ρ a n h w j)) (by rw [hpos]) ?_
          have hpl2 : pz ρ a n h w j < a + n := hpl
          refine r_istore ([some (.ref (m 0)), some (.int (nI a)), some (.int (nI n)), some (.int (bI (lnB ρ w))), some (.int (nI gp)), some (.int (nI mv)), some (.int (nI j)), some (.int (nI (pz ρ a n h w j)))]) dX5_putsBack_91 (Nat.le_of_ble_eq_true rfl) rfl rfl ?_
          refine r_aload_n 0 dX5_putsBack_93 rfl rfl ?_
          refine r_get 0 fk_X5_7 dX5_putsBack_94 rfl rfl ?_
          refine r_bipush (nI 31) dX5_putsBack_97 (by decide +kernel) ?_
          refine r_iload dX5_putsBack_99 rfl ?_
          refine r_niadd dX5_putsBack_101 ?_
          refine r_aload_n 0 dX5_putsBack_102 rfl rfl ?_
          refine r_get 0 fk_X5_22 dX5_putsBack_103 rfl rfl ?_
          refine r_iload dX5_putsBack_106 rfl ?_
          refine r_iald 5 (j) dX5_putsBack_108 rfl rfl rfl (by omega) (Nat.le_of_ble_eq_true rfl) ?_
          refine r_iast 1 (31 + (pz ρ a n h w j)) (mdW cA m (upd (layF ρ K V (pz ρ a n h w) j) (31 + (pz ρ a n h w j)) (K j)) P hs α rf K V C (nI (h)) w tx tl sp od no ft) dX5_putsBack_109 rfl rfl rfl (by omega) (Nat.le_of_ble_eq_true rfl) rfl ?_
          refine r_aload_n 0 dX5_putsBack_110 rfl rfl ?_
          refine r_get 0 fk_X5_7 dX5_putsBack_111 rfl rfl ?_
          refine r_bipush (nI 95) dX5_putsBack_114 (by decide +kernel) ?_
          refine r_iload dX5_putsBack_116 rfl ?_
          refine r_niadd dX5_putsBack_118 ?_
          refine r_aload_n 0 dX5_putsBack_119 rfl rfl ?_
          refine r_get 0 fk_X5_25 dX5_putsBack_120 rfl rfl ?_
          refine r_iload dX5_putsBack_123 rfl ?_
          refine r_iald 6 (j) dX5_putsBack_125 rfl rfl rfl (by omega) (Nat.le_of_ble_eq_true rfl) ?_
          refine r_iast 1 (95 + (pz ρ a n h w j)) (mdW cA m (upd (upd (layF ρ K V (pz ρ a n h w) j) (31 + (pz ρ a n h w j)) (K j)) (95 + (pz ρ a n h w j)) (V j)) P hs α rf K V C (nI (h)) w tx tl sp od no ft) dX5_putsBack_126 rfl rfl rfl (by omega) (Nat.le_of_ble_eq_true rfl) rfl ?_
          refine r_iload dX5_putsBack_127 rfl ?_
          refine r_aload_n 0 dX5_putsBack_129 rfl rfl ?_
          refine r_get 0 fk_X5_28 dX5_putsBack_130 rfl rfl ?_
          refine r_iload dX5_putsBack_133 rfl ?_
          refine r_iald 7 (j) dX5_putsBack_135 rfl rfl rfl (by omega) (Nat.le_of_ble_eq_true rfl) ?_
          refine r_iload dX5_putsBack_136 rfl ?_
          refine r_icmp_ne 145 dX5_putsBack_138 (by decide) (fun hq5 => ?_) (fun hq5 => ?_)
          · refine r_iconst (nI 1) dX5_putsBack_145 (by decide +kernel) ?_
            refine r_niadd dX5_putsBack_146 ?_
            refine r_istore ([some (.ref (m 0)), some (.int (nI a)), some (.int (nI n)), some (.int (bI (lnB ρ w))), some (.int (nI gp)), some (.int (nI (mv + 1))), some (.int (nI j)), some (.int (nI (pz ρ a n h w j)))]) dX5_putsBack_147 (Nat.le_of_ble_eq_true rfl) rfl rfl ?_
            refine r_iinc (v := nI (j + 1)) ([some (.ref (m 0)), some (.int (nI a)), some (.int (nI n)), some (.int (bI (lnB ρ w))), some (.int (nI gp)), some (.int (nI (mv + 1))), some (.int (nI (j + 1))), some (.int (nI (pz ρ a n h w j)))]) dX5_putsBack_149 rfl (nI_1 _) (Nat.le_of_ble_eq_true rfl) rfl rfl ?_
            refine r_goto 48 dX5_putsBack_152 (by decide) ?_
            refine r_drop (lv' := [some (.ref (m 0)), some (.int (nI a)), some (.int (nI n)), some (.int (bI (lnB ρ w))), some (.int (nI gp)), some (.int (nI (mv + 1))), some (.int (nI (j + 1))), none]) 7 rfl ?_
            refine r_ws (ws' := mdW cA m (layF ρ K V (pz ρ a n h w) (j + 1)) P hs α rf K V C (nI (h)) w tx tl sp od no ft) rfl ?_
            exact ih (j + 1) _ (by rw [hmv, mvF_s1 (fun q => hq5 q.symm)] <;> rfl) (by omega) (by omega)
          · refine r_iconst (nI 0) dX5_putsBack_141 (by decide +kernel) ?_
            refine r_goto 146 dX5_putsBack_142 (by decide) ?_
            refine r_niadd dX5_putsBack_146 ?_
            refine r_istore ([some (.ref (m 0)), some (.int (nI a)), some (.int (nI n)), some (.int (bI (lnB ρ w))), some (.int (nI gp)), some (.int (nI (mv + 0))), some (.int (nI j)), some (.int (nI (pz ρ a n h w j)))]) dX5_putsBack_147 (Nat.le_of_ble_eq_true rfl) rfl rfl ?_
            refine r_iinc (v := nI (j + 1)) ([some (.ref (m 0)), some (.int (nI a)), some (.int (nI n)), some (.int (bI (lnB ρ w))), some (.int (nI gp)), some (.int (nI (mv + 0))), some (.int (nI (j + 1))), some (.int (nI (pz ρ a n h w j)))]) dX5_putsBack_149 rfl (nI_1 _) (Nat.le_of_ble_eq_true rfl) rfl rfl ?_
            refine r_goto 48 dX5_putsBack_152 (by decide) ?_
            refine r_drop (lv' := [some (.ref (m 0)), some (.int (nI a)), some (.int (nI n)), some (.int (bI (lnB ρ w))), some (.int (nI gp)), some (.int (nI (mv + 0))), some (.int (nI (j + 1))), none]) 7 rfl ?_
            refine r_ws (ws' := mdW cA m (layF ρ K V (pz ρ a n h w) (j + 1)) P hs α rf K V C (nI (h)) w tx tl sp od no ft) rfl ?_
            exact ih (j + 1) _ (by rw [hmv, mvF_s0 hq5.symm] <;> rfl) (by omega) (by omega)
        · refine r_iload dX5_putsBack_84 rfl ?_
          refine r_goto 90 dX5_putsBack_86 (by decide) ?_
          refine r_niadd dX5_putsBack_90 ?_
          have hpos : pz ρ a n h w j = (a + ((j * (n - gp)) / h)) + gp := by unfold pz posF; rw [hgp, hq2, decide_eq_true (Int32.not_le.mp hq4)]; simp
          refine r_top (y := nI (pz ρ a n h w j)) (by rw [hpos]) ?_
          have hpl2 : pz ρ a n h w j < a + n := hpl
          refine r_istore ([some (.ref (m 0)), some (.int (nI a)), some (.int (nI n)), some (.int (bI (lnB ρ w))), some (.int (nI gp)), some (.int (nI mv)), some (.int (nI j)), some (.int (nI (pz ρ a n h w j)))]) dX5_putsBack_91 (Nat.le_of_ble_eq_true rfl) rfl rfl ?_
          refine r_aload_n 0 dX5_putsBack_93 rfl rfl ?_
          refine r_get 0 fk_X5_7 dX5_putsBack_94 rfl rfl ?_
          refine r_bipush (nI 31) dX5_putsBack_97 (by decide +kernel) ?_
          refine r_iload dX5_putsBack_99 rfl ?_
          refine r_niadd dX5_putsBack_101 ?_
          refine r_aload_n 0 dX5_putsBack_102 rfl rfl ?_
          refine r_get 0 fk_X5_22 dX5_putsBack_103 rfl rfl ?_
          refine r_iload dX5_putsBack_106 rfl ?_
          refine r_iald 5 (j) dX5_putsBack_108 rfl rfl rfl (by omega) (Nat.le_of_ble_eq_true rfl) ?_
          refine r_iast 1 (31 + (pz ρ a n h w j)) (mdW cA m (upd (layF ρ K V (pz ρ a n h w) j) (31 + (pz ρ a n h w j)) (K j)) P hs α rf K V C (nI (h)) w tx tl sp od no ft) dX5_putsBack_109 rfl rfl rfl (by omega) (Nat.le_of_ble_eq_true rfl) rfl ?_
          refine r_aload_n 0 dX5_putsBack_110 rfl rfl ?_
          refine r_get 0 fk_X5_7 dX5_putsBack_111 rfl rfl ?_
          refine r_bipush (nI 95) dX5_putsBack_114 (by decide +kernel) ?_
          refine r_iload dX5_putsBack_116 rfl ?_
          refine r_niadd dX5_putsBack_118 ?_
          refine r_aload_n 0 dX5_putsBack_119 rfl rfl ?_
          refine r_get 0 fk_X5_25 dX5_putsBack_120 rfl rfl ?_
          refine r_iload dX5_putsBack_123 rfl ?_
          refine r_iald 6 (j) dX5_putsBack_125 rfl rfl rfl (by omega) (Nat.le_of_ble_eq_true rfl) ?_
          refine r_iast 1 (95 + (pz ρ a n h w j)) (mdW cA m (upd (upd (layF ρ K V (pz ρ a n h w) j) (31 + (pz ρ a n h w j)) (K j)) (95 + (pz ρ a n h w j)) (V j)) P hs α rf K V C (nI (h)) w tx tl sp od no ft) dX5_putsBack_126 rfl rfl rfl (by omega) (Nat.le_of_ble_eq_true rfl) rfl ?_
          refine r_iload dX5_putsBack_127 rfl ?_
          refine r_aload_n 0 dX5_putsBack_129 rfl rfl ?_
          refine r_get 0 fk_X5_28 dX5_putsBack_130 rfl rfl ?_
          refine r_iload dX5_putsBack_133 rfl ?_
          refine r_iald 7 (j) dX5_putsBack_135 rfl rfl rfl (by omega) (Nat.le_of_ble_eq_true rfl) ?_
          refine r_iload dX5_putsBack_136 rfl ?_
          refine r_icmp_ne 145 dX5_putsBack_138 (by decide) (fun hq6 => ?_) (fun hq6 => ?_)
          · refine r_iconst (nI 1) dX5_putsBack_145 (by decide +kernel) ?_
            refine r_niadd dX5_putsBack_146 ?_
            refine r_istore ([some (.ref (m 0)), some (.int (nI a)), some (.int (nI n)), some (.int (bI (lnB ρ w))), some (.int (nI gp)), some (.int (nI (mv + 1))), some (.int (nI j)), some (.int (nI (pz ρ a n h w j)))]) dX5_putsBack_147 (Nat.le_of_ble_eq_true rfl) rfl rfl ?_
            refine r_iinc (v := nI (j + 1)) ([some (.ref (m 0)), some (.int (nI a)), some (.int (nI n)), some (.int (bI (lnB ρ w))), some (.int (nI gp)), some (.int (nI (mv + 1))), some (.int (nI (j + 1))), some (.int (nI (pz ρ a n h w j)))]) dX5_putsBack_149 rfl (nI_1 _) (Nat.le_of_ble_eq_true rfl) rfl rfl ?_
            refine r_goto 48 dX5_putsBack_152 (by decide) ?_
            refine r_drop (lv' := [some (.ref (m 0)), some (.int (nI a)), some (.int (nI n)), some (.int (bI (lnB ρ w))), some (.int (nI gp)), some (.int (nI (mv + 1))), some (.int (nI (j + 1))), none]) 7 rfl ?_
            refine r_ws (ws' := mdW cA m (layF ρ K V (pz ρ a n h w) (j + 1)) P hs α rf K V C (nI (h)) w tx tl sp od no ft) rfl ?_
            exact ih (j + 1) _ (by rw [hmv, mvF_s1 (fun q => hq6 q.symm)] <;> rfl) (by omega) (by omega)
          · refine r_iconst (nI 0) dX5_putsBack_141 (by decide +kernel) ?_
            refine r_goto 146 dX5_putsBack_142 (by decide) ?_
            refine r_niadd dX5_putsBack_146 ?_
            refine r_istore ([some (.ref (m 0)), some (.int (nI a)), some (.int (nI n)), some (.int (bI (lnB ρ w))), some (.int (nI gp)), some (.int (nI (mv + 0))), some (.int (nI j)), some (.int (nI (pz ρ a n h w j)))]) dX5_putsBack_147 (Nat.le_of_ble_eq_true rfl) rfl rfl ?_
            refine r_iinc (v := nI (j + 1)) ([some (.ref (m 0)), some (.int (nI a)), some (.int (nI n)), some (.int (bI (lnB ρ w))), some (.int (nI gp)), some (.int (nI (mv + 0))), some (.int (nI (j + 1))), some (.int (nI (pz ρ a n h w j)))]) dX5_putsBack_149 rfl (nI_1 _) (Nat.le_of_ble_eq_true rfl) rfl rfl ?_
            refine r_goto 48 dX5_putsBack_152 (by decide) ?_
            refine r_drop (lv' := [some (.ref (m 0)), some (.int (nI a)), some (.int (nI n)), some (.int (bI (lnB ρ w))), some (.int (nI gp)), some (.int (nI (mv + 0))), some (.int (nI (j + 1))), none]) 7 rfl ?_
            refine r_ws (ws' := mdW cA m (layF ρ K V (pz ρ a n h w) (j + 1)) P hs α rf K V C (nI (h)) w tx tl sp od no ft) rfl ?_
            exact ih (j + 1) _ (by rw [hmv, mvF_s0 hq6.symm] <;> rfl) (by omega) (by omega)

set_option maxRecDepth 100000 in
set_option maxHeartbeats 4000000 in
theorem c_X5_putsBack (l : Launch) (D : va_G) (cA cB : ClassId) (m : Nat → Nat) (ρ P : Nat → Int32) (hs : Int32) (α rf K V C : Nat → Int32) (h : Nat) (w : Int32) (tx : Nat → Int32) (tl sp : Int32) (od : Nat → Int32) (no ft : Int32) (g a n : Nat) (hg : ρ 6 = nI g) (hg8 : g ≤ 8) (hn : a + n ≤ 64) (hh : h ≤ n) : Mt l D (tyS cA cB) yX5_putsBack cX5_putsBack 8 (some .int) ({ frames := 0, cells := 0, slots := 0, locals := 0 } : Room) [.ref (m 0), .int (nI a), .int (nI n)] (mdW cA m ρ P hs α rf K V C (nI (h)) w tx tl sp od no ft) Unit (fun v _ => v = some (.int (nI (mvAll ρ C h w a n)))) (fun _ => mdW cA m (layAll ρ K V C h w a n g) P hs α rf K V C (nI (h)) w tx tl sp od no ft) 0 0 := by
  refine mt_in RX5 ([some (.ref (m 0)), some (.int (nI a)), some (.int (nI n)), none, none, none, none, none]) rfl (by decide +kernel) rfl (Nat.le_of_ble_eq_true rfl) rfl rfl (fun X sz => ?_)
  refine r_aload_n 0 dX5_putsBack_0 rfl rfl ?_
  refine r_get 0 fk_X5_7 dX5_putsBack_1 rfl rfl ?_
  refine r_iconst (nI 1) dX5_putsBack_4 (by decide +kernel) ?_
  refine r_iald 1 (1) dX5_putsBack_5 rfl rfl rfl (by omega) (Nat.le_of_ble_eq_true rfl) ?_
  refine r_iconst (nI 1) dX5_putsBack_6 (by decide +kernel) ?_
  refine r_icmp_ne 22 dX5_putsBack_7 (by decide) (fun hq1 => ?_) (fun hq1 => ?_)
  · refine r_iconst (nI 0) dX5_putsBack_22 (by decide +kernel) ?_
    refine r_istore_n 3 ([some (.ref (m 0)), some (.int (nI a)), some (.int (nI n)), some (.int (nI 0)), none, none, none, none]) dX5_putsBack_23 rfl (Nat.le_of_ble_eq_true rfl) rfl rfl ?_
    refine r_iload_n 3 dX5_putsBack_24 rfl rfl ?_
    refine r_if_eq 39 dX5_putsBack_25 (by decide) (fun hq2 => ?_) (fun hq2 => ?_)
    · refine r_iconst (nI 0) dX5_putsBack_39 (by decide +kernel) ?_
      refine r_istore ([some (.ref (m 0)), some (.int (nI a)), some (.int (nI n)), some (.int (nI 0)), some (.int (nI 0)), none, none, none]) dX5_putsBack_40 (Nat.le_of_ble_eq_true rfl) rfl rfl ?_
      refine r_iconst (nI 0) dX5_putsBack_42 (by decide +kernel) ?_
      refine r_istore ([some (.ref (m 0)), some (.int (nI a)), some (.int (nI n)), some (.int (nI 0)), some (.int (nI 0)), some (.int (nI 0)), none, none]) dX5_putsBack_43 (Nat.le_of_ble_eq_true rfl) rfl rfl ?_
      refine r_iconst (nI 0) dX5_putsBack_45 (by decide +kernel) ?_
      refine r_istore ([some (.ref (m 0)), some (.int (nI a)), some (.int (nI n)), some (.int (nI 0)), some (.int (nI 0)), some (.int (nI 0)), some (.int (nI 0)), none]) dX5_putsBack_46 (Nat.le_of_ble_eq_true rfl) rfl rfl ?_
      have hl : lnB ρ w = false := decide_eq_false (fun z => hq1 z.1)
      refine r_lv (lv' := [some (.ref (m 0)), some (.int (nI a)), some (.int (nI n)), some (.int (bI (lnB ρ w))), some (.int (nI 0)), some (.int (nI 0)), some (.int (nI 0)), none]) (by rw [hl]; rfl) ?_
      exact lp_X5_putsBack l D cA cB m ρ P hs α rf K V C h w tx tl sp od no ft g a n hg hg8 hn hh X sz _ (by rw [hl]; rfl) (h + 1) 0 0 rfl (by omega) (by omega)
    · exact absurd rfl hq2
  · refine r_aload_n 0 dX5_putsBack_10 rfl rfl ?_
    refine r_get 0 fk_X5_56 dX5_putsBack_11 rfl rfl ?_
    refine r_iconst (-1) dX5_putsBack_14 (by decide +kernel) ?_
    refine r_icmp_eq 22 dX5_putsBack_15 (by decide) (fun hq3 => ?_) (fun hq3 => ?_)
    · refine r_iconst (nI 0) dX5_putsBack_22 (by decide +kernel) ?_
      refine r_istore_n 3 ([some (.ref (m 0)), some (.int (nI a)), some (.int (nI n)), some (.int (nI 0)), none, none, none, none]) dX5_putsBack_23 rfl (Nat.le_of_ble_eq_true rfl) rfl rfl ?_
      refine r_iload_n 3 dX5_putsBack_24 rfl rfl ?_
      refine r_if_eq 39 dX5_putsBack_25 (by decide) (fun hq4 => ?_) (fun hq4 => ?_)
      · refine r_iconst (nI 0) dX5_putsBack_39 (by decide +kernel) ?_
        refine r_istore ([some (.ref (m 0)), some (.int (nI a)), some (.int (nI n)), some (.int (nI 0)), some (.int (nI 0)), none, none, none]) dX5_putsBack_40 (Nat.le_of_ble_eq_true rfl) rfl rfl ?_
        refine r_iconst (nI 0) dX5_putsBack_42 (by decide +kernel) ?_
        refine r_istore ([some (.ref (m 0)), some (.int (nI a)), some (.int (nI n)), some (.int (nI 0)), some (.int (nI 0)), some (.int (nI 0)), none, none]) dX5_putsBack_43 (Nat.le_of_ble_eq_true rfl) rfl rfl ?_
        refine r_iconst (nI 0) dX5_putsBack_45 (by decide +kernel) ?_
        refine r_istore ([some (.ref (m 0)), some (.int (nI a)), some (.int (nI n)), some (.int (nI 0)), some (.int (nI 0)), some (.int (nI 0)), some (.int (nI 0)), none]) dX5_putsBack_46 (Nat.le_of_ble_eq_true rfl) rfl rfl ?_
        have hl : lnB ρ w = false := decide_eq_false (fun z => z.2 hq3)
        refine r_lv (lv' := [some (.ref (m 0)), some (.int (nI a)), some (.int (nI n)), some (.int (bI (lnB ρ w))), some (.int (nI 0)), some (.int (nI 0)), some (.int (nI 0)), none]) (by rw [hl]; rfl) ?_
        exact lp_X5_putsBack l D cA cB m ρ P hs α rf K V C h w tx tl sp od no ft g a n hg hg8 hn hh X sz _ (by rw [hl]; rfl) (h + 1) 0 0 rfl (by omega) (by omega)
      · exact absurd rfl hq4
    · refine r_iconst (nI 1) dX5_putsBack_18 (by decide +kernel) ?_
      refine r_goto 23 dX5_putsBack_19 (by decide) ?_
      refine r_istore_n 3 ([some (.ref (m 0)), some (.int (nI a)), some (.int (nI n)), some (.int (nI 1)), none, none, none, none]) dX5_putsBack_23 rfl (Nat.le_of_ble_eq_true rfl) rfl rfl ?_
      refine r_iload_n 3 dX5_putsBack_24 rfl rfl ?_
      refine r_if_eq 39 dX5_putsBack_25 (by decide) (fun hq5 => ?_) (fun hq5 => ?_)
      · exact absurd hq5 (by decide +kernel)
      · refine r_iload_n 2 dX5_putsBack_28 rfl rfl ?_
        refine r_aload_n 0 dX5_putsBack_29 rfl rfl ?_
        refine r_get 0 fk_X5_53 dX5_putsBack_30 rfl rfl ?_
        refine r_nisub (by omega) dX5_putsBack_33 ?_
        refine r_iconst (nI 2) dX5_putsBack_34 (by decide +kernel) ?_
        refine r_nidiv (by omega) (by omega) (by omega) dX5_putsBack_35 ?_
        refine r_goto 40 dX5_putsBack_36 (by decide) ?_
        refine r_istore ([some (.ref (m 0)), some (.int (nI a)), some (.int (nI n)), some (.int (nI 1)), some (.int (nI ((n - h) / 2))), none, none, none]) dX5_putsBack_40 (Nat.le_of_ble_eq_true rfl) rfl rfl ?_
        refine r_iconst (nI 0) dX5_putsBack_42 (by decide +kernel) ?_
        refine r_istore ([some (.ref (m 0)), some (.int (nI a)), some (.int (nI n)), some (.int (nI 1)), some (.int (nI ((n - h) / 2))), some (.int (nI 0)), none, none]) dX5_putsBack_43 (Nat.le_of_ble_eq_true rfl) rfl rfl ?_
        refine r_iconst (nI 0) dX5_putsBack_45 (by decide +kernel) ?_
        refine r_istore ([some (.ref (m 0)), some (.int (nI a)), some (.int (nI n)), some (.int (nI 1)), some (.int (nI ((n - h) / 2))), some (.int (nI 0)), some (.int (nI 0)), none]) dX5_putsBack_46 (Nat.le_of_ble_eq_true rfl) rfl rfl ?_
        have hl : lnB ρ w = true := decide_eq_true ⟨hq1, hq3⟩
        refine r_lv (lv' := [some (.ref (m 0)), some (.int (nI a)), some (.int (nI n)), some (.int (bI (lnB ρ w))), some (.int (nI ((n - h) / 2))), some (.int (nI 0)), some (.int (nI 0)), none]) (by rw [hl]; rfl) ?_
        exact lp_X5_putsBack l D cA cB m ρ P hs α rf K V C h w tx tl sp od no ft g a n hg hg8 hn hh X sz _ (by rw [hl]; rfl) (h + 1) 0 0 rfl (by omega) (by omega)

