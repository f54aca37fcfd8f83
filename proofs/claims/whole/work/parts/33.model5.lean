set_option maxRecDepth 100000 in
set_option maxHeartbeats 4000000 in
theorem lp_X5_leaves2 (l : Launch) (D : va_G) (cA cB : ClassId) (m : Nat → Nat) (ρ P : Nat → Int32) (h : Nat) (α rf K V C : Nat → Int32) (my cm : Int32) (tx : Nat → Int32) (tl sp : Int32) (od : Nat → Int32) (no ft : Int32) (hh : h ≤ 5) (X : Cx) (sz : Nat) : ∀ (Q : Nat → Int32) (e : Nat), e ≤ 4 → e + 1 = kpH h → lv2 Q α e 159 = lvP P h α → ∀ (f c : Nat), c ≤ 159 → 159 < c + f → G l X ({ frames := 0, cells := 0, slots := 0, locals := 0 } : Room) cX5_leaves RX5 none D (tyS cA cB) (va_A (mdW cA m ρ P (nI (h)) α rf K V C my cm tx tl sp od no ft) sz) (QX X D (tyS cA cB) (mdW cA m ρ P (nI (h)) α rf K V C my cm tx tl sp od no ft) sz Unit (fun v _ => v = none) (fun _ => mdW cA m ρ (lvP P h α) (nI (kpH h)) α rf K V C my cm tx tl sp od no ft) 0 0) 0 0 (mdW cA m ρ (lv2 Q α e c) (nI (e)) α rf K V C my cm tx tl sp od no ft) 51 ([some (.ref (m 0)), some (.int (nI c))]) [] := by
  intro Q e he4 he hQ f
  induction f with
  | zero => intro c h1 h2; omega
  | succ f ih =>
    intro c hc hf
    refine r_iload_n 1 dX5_leaves_51 rfl rfl ?_
    refine r_sipush (nI 159) dX5_leaves_52 (by decide +kernel) ?_
    refine r_ncmp_ge 85 (by omega) (by omega) dX5_leaves_55 (by decide) (fun hq1 => ?_) (fun hq1 => ?_)
    · refine r_aload_n 0 dX5_leaves_85 rfl rfl ?_
      refine r_dup rfl dX5_leaves_86 ?_
      refine r_get 0 fk_X5_101 dX5_leaves_87 rfl rfl ?_
      refine r_iconst (nI 1) dX5_leaves_90 (by decide +kernel) ?_
      refine r_niadd dX5_leaves_91 ?_
      refine r_put 0 (mdW cA m ρ (lv2 Q α e c) (nI (e + 1)) α rf K V C my cm tx tl sp od no ft) fk_X5_101 dX5_leaves_92 rfl rfl rfl rfl (Nat.le_of_ble_eq_true rfl) rfl ?_
      exact r_vret (()) dX5_leaves_95 (rfl) (by rw [he, show c = 159 by omega, hQ])
    · refine r_aload_n 0 dX5_leaves_58 rfl rfl ?_
      refine r_get 0 fk_X5_13 dX5_leaves_59 rfl rfl ?_
      refine r_sipush (nI 159) dX5_leaves_62 (by decide +kernel) ?_
      refine r_aload_n 0 dX5_leaves_65 rfl rfl ?_
      refine r_get 0 fk_X5_101 dX5_leaves_66 rfl rfl ?_
      refine r_nimul dX5_leaves_69 ?_
      refine r_iload_n 1 dX5_leaves_70 rfl rfl ?_
      refine r_niadd dX5_leaves_71 ?_
      refine r_aload_n 0 dX5_leaves_72 rfl rfl ?_
      refine r_get 0 fk_X5_16 dX5_leaves_73 rfl rfl ?_
      refine r_iload_n 1 dX5_leaves_76 rfl rfl ?_
      refine r_iald 3 (c) dX5_leaves_77 rfl rfl rfl (by omega) (Nat.le_of_ble_eq_true rfl) ?_
      refine r_iast 2 ((159 * e) + c) (mdW cA m ρ (upd (lv2 Q α e c) ((159 * e) + c) (α c)) (nI (e)) α rf K V C my cm tx tl sp od no ft) dX5_leaves_78 rfl rfl rfl (by omega) (Nat.le_of_ble_eq_true rfl) rfl ?_
      refine r_ws (ws' := mdW cA m ρ (lv2 Q α e (c + 1)) (nI (e)) α rf K V C my cm tx tl sp od no ft) (by rw [lv2_s]) ?_
      refine r_iinc (v := nI (c + 1)) ([some (.ref (m 0)), some (.int (nI (c + 1)))]) dX5_leaves_79 rfl (nI_1 _) (Nat.le_of_ble_eq_true rfl) rfl rfl ?_
      refine r_goto 51 dX5_leaves_82 (by decide) ?_
      exact ih (c + 1) (by omega) (by omega)

set_option maxRecDepth 100000 in
set_option maxHeartbeats 4000000 in
theorem lp_X5_leaves1 (l : Launch) (D : va_G) (cA cB : ClassId) (m : Nat → Nat) (ρ P : Nat → Int32) (α rf K V C : Nat → Int32) (my cm : Int32) (tx : Nat → Int32) (tl sp : Int32) (od : Nat → Int32) (no ft : Int32)  (X : Cx) (sz : Nat) : ∀ (f c : Nat), c ≤ 636 → 636 < c + f → G l X ({ frames := 0, cells := 0, slots := 0, locals := 0 } : Room) cX5_leaves RX5 none D (tyS cA cB) (va_A (mdW cA m ρ P (nI (5)) α rf K V C my cm tx tl sp od no ft) sz) (QX X D (tyS cA cB) (mdW cA m ρ P (nI (5)) α rf K V C my cm tx tl sp od no ft) sz Unit (fun v _ => v = none) (fun _ => mdW cA m ρ (lvP P 5 α) (nI (kpH 5)) α rf K V C my cm tx tl sp od no ft) 0 0) 0 0 (mdW cA m ρ (lv1 P c) (nI (5)) α rf K V C my cm tx tl sp od no ft) 10 ([some (.ref (m 0)), some (.int (nI c))]) [] := by
  intro f
  induction f with
  | zero => intro c h1 h2; omega
  | succ f ih =>
    intro c hc hf
    refine r_iload_n 1 dX5_leaves_10 rfl rfl ?_
    refine r_sipush (nI 636) dX5_leaves_11 (by decide +kernel) ?_
    refine r_ncmp_ge 39 (by omega) (by omega) dX5_leaves_14 (by decide) (fun hq1 => ?_) (fun hq1 => ?_)
    · refine r_aload_n 0 dX5_leaves_39 rfl rfl ?_
      refine r_dup rfl dX5_leaves_40 ?_
      refine r_get 0 fk_X5_101 dX5_leaves_41 rfl rfl ?_
      refine r_iconst (nI 1) dX5_leaves_44 (by decide +kernel) ?_
      refine r_nisub (by omega) dX5_leaves_45 ?_
      refine r_put 0 (mdW cA m ρ (lv1 P c) (nI (5 - 1)) α rf K V C my cm tx tl sp od no ft) fk_X5_101 dX5_leaves_46 rfl rfl rfl rfl (Nat.le_of_ble_eq_true rfl) rfl ?_
      refine r_iconst (nI 0) dX5_leaves_49 (by decide +kernel) ?_
      refine r_istore_n 1 ([some (.ref (m 0)), some (.int (nI 0))]) dX5_leaves_50 rfl (Nat.le_of_ble_eq_true rfl) rfl rfl ?_
      refine r_ws (ws' := mdW cA m ρ (lv2 (lv1 P 636) α 4 0) (nI (4)) α rf K V C my cm tx tl sp od no ft) (by rw [show c = 636 by omega, lv2_0]) ?_
      exact lp_X5_leaves2 l D cA cB m ρ P 5 α rf K V C my cm tx tl sp od no ft (by omega) X sz (lv1 P 636) 4 (by omega) rfl lvP_ge 160 0 (by omega) (by omega)
    · refine r_aload_n 0 dX5_leaves_17 rfl rfl ?_
      refine r_get 0 fk_X5_13 dX5_leaves_18 rfl rfl ?_
      refine r_iload_n 1 dX5_leaves_21 rfl rfl ?_
      refine r_aload_n 0 dX5_leaves_22 rfl rfl ?_
      refine r_get 0 fk_X5_13 dX5_leaves_23 rfl rfl ?_
      refine r_iload_n 1 dX5_leaves_26 rfl rfl ?_
      refine r_sipush (nI 159) dX5_leaves_27 (by decide +kernel) ?_
      refine r_niadd dX5_leaves_30 ?_
      refine r_iald 2 (c + 159) dX5_leaves_31 rfl rfl rfl (by omega) (Nat.le_of_ble_eq_true rfl) ?_
      refine r_iast 2 (c) (mdW cA m ρ (upd (lv1 P c) c ((lv1 P c) (c + 159))) (nI (5)) α rf K V C my cm tx tl sp od no ft) dX5_leaves_32 rfl rfl rfl (by omega) (Nat.le_of_ble_eq_true rfl) rfl ?_
      refine r_ws (ws' := mdW cA m ρ (lv1 P (c + 1)) (nI (5)) α rf K V C my cm tx tl sp od no ft) (by rw [lv1_s]) ?_
      refine r_iinc (v := nI (c + 1)) ([some (.ref (m 0)), some (.int (nI (c + 1)))]) dX5_leaves_33 rfl (nI_1 _) (Nat.le_of_ble_eq_true rfl) rfl rfl ?_
      refine r_goto 10 dX5_leaves_36 (by decide) ?_
      exact ih (c + 1) (by omega) (by omega)

set_option maxRecDepth 100000 in
set_option maxHeartbeats 4000000 in
theorem c_X5_leaves (l : Launch) (D : va_G) (cA cB : ClassId) (m : Nat → Nat) (ρ P : Nat → Int32) (h : Nat) (α rf K V C : Nat → Int32) (my cm : Int32) (tx : Nat → Int32) (tl sp : Int32) (od : Nat → Int32) (no ft : Int32) (hh : h ≤ 5) : Mt l D (tyS cA cB) yX5_leaves cX5_leaves 2 none ({ frames := 0, cells := 0, slots := 0, locals := 0 } : Room) [.ref (m 0)] (mdW cA m ρ P (nI (h)) α rf K V C my cm tx tl sp od no ft) Unit (fun v _ => v = none) (fun _ => mdW cA m ρ (lvP P h α) (nI (kpH h)) α rf K V C my cm tx tl sp od no ft) 0 0 := by
  refine mt_in RX5 ([some (.ref (m 0)), none]) rfl (by decide +kernel) rfl (Nat.le_of_ble_eq_true rfl) rfl rfl (fun X sz => ?_)
  refine r_aload_n 0 dX5_leaves_0 rfl rfl ?_
  refine r_get 0 fk_X5_101 dX5_leaves_1 rfl rfl ?_
  refine r_iconst (nI 5) dX5_leaves_4 (by decide +kernel) ?_
  refine r_ncmp_ne 49 (by omega) (by omega) dX5_leaves_5 (by decide) (fun hq1 => ?_) (fun hq1 => ?_)
  · refine r_iconst (nI 0) dX5_leaves_49 (by decide +kernel) ?_
    refine r_istore_n 1 ([some (.ref (m 0)), some (.int (nI 0))]) dX5_leaves_50 rfl (Nat.le_of_ble_eq_true rfl) rfl rfl ?_
    refine r_ws (ws' := mdW cA m ρ (lv2 P α h 0) (nI (h)) α rf K V C my cm tx tl sp od no ft) (by rw [lv2_0]) ?_
    exact lp_X5_leaves2 l D cA cB m ρ P h α rf K V C my cm tx tl sp od no ft hh X sz P h (by omega) (kp_lt (by omega)).symm (lvP_lt (by omega)) 160 0 (by omega) (by omega)
  · refine r_iconst (nI 0) dX5_leaves_8 (by decide +kernel) ?_
    refine r_istore_n 1 ([some (.ref (m 0)), some (.int (nI 0))]) dX5_leaves_9 rfl (Nat.le_of_ble_eq_true rfl) rfl rfl ?_
    obtain rfl : 5 = h := by omega
    refine r_ws (ws' := mdW cA m ρ (lv1 P 0) (nI (5)) α rf K V C my cm tx tl sp od no ft) (by rw [lv1_0]) ?_
    exact lp_X5_leaves1 l D cA cB m ρ P α rf K V C my cm tx tl sp od no ft X sz 637 0 (by omega) (by omega)

set_option maxRecDepth 100000 in
set_option maxHeartbeats 4000000 in
theorem c_X5_done_n (l : Launch) (D : va_G) (cA cB : ClassId) (m : Nat → Nat) (ρ P : Nat → Int32) (h : Nat) (α rf K V C : Nat → Int32) (my cm : Int32) (tx : Nat → Int32) (tl sp : Int32) (od : Nat → Int32) (no ft : Int32) (hh : h ≤ 5) (x : Int32) (hx : 0 ≤ x) : Mt l D (tyS cA cB) yX5_done cX5_done 2 (some .int) ({ frames := 1, cells := 0, slots := 0, locals := 22 } : Room) [.ref (m 0), .int (x)] (mdW cA m ρ P (nI (h)) α rf K V C my cm tx tl sp od no ft) Unit (fun v _ => v = some (.int x)) (fun _ => mdW cA m ρ (lvP P h α) (nI (kpH h)) α rf K V C my cm tx tl sp od no ft) 0 0 := by
  refine mt_in RX5 ([some (.ref (m 0)), some (.int (x))]) rfl (by decide +kernel) rfl (Nat.le_of_ble_eq_true rfl) rfl rfl (fun X sz => ?_)
  refine r_iload_n 1 dX5_done_0 rfl rfl ?_
  refine r_if_ge 11 dX5_done_1 (by decide) (fun hq1 => ?_) (fun hq1 => ?_)
  · refine r_aload_n 0 dX5_done_11 rfl rfl ?_
    refine r_callV2 (As := []) (st := []) (fun _ => mdW cA m ρ (lvP P h α) (nI (kpH h)) α rf K V C my cm tx tl sp od no ft) [mdW cA m ρ P (nI (h)) α rf K V C my cm tx tl sp od no ft] [mdW cA m ρ P (nI (h)) α rf K V C my cm tx tl sp od no ft] [] (fun _ => [mdW cA m ρ (lvP P h α) (nI (kpH h)) α rf K V C my cm tx tl sp od no ft]) (fun _ => [mdW cA m ρ (lvP P h α) (nI (kpH h)) α rf K V C my cm tx tl sp od no ft]) (c_X5_leaves l D cA cB m ρ P (h) α rf K V C my cm tx tl sp od no ft hh) kv_X5_leaves ml_X5_104 dX5_done_12 rfl rfl rfl rfl (segOk [0] rfl rfl rfl rfl) (fun _ => segOk [0] rfl rfl rfl rfl) rfl (Nat.le_of_ble_eq_true rfl) (fun v u h => ?_)
    subst h
    refine r_st (st' := []) rfl ?_
    refine r_iload_n 1 dX5_done_15 rfl rfl ?_
    exact r_iret (()) dX5_done_16 (rfl) (rfl)
  · exact absurd hx hq1

set_option maxRecDepth 100000 in
set_option maxHeartbeats 4000000 in
theorem c_X5_done_2 (l : Launch) (D : va_G) (cA cB : ClassId) (m : Nat → Nat) (ρ P : Nat → Int32) (hs : Int32) (α rf K V C : Nat → Int32) (my cm : Int32) (tx : Nat → Int32) (tl sp : Int32) (od : Nat → Int32) (no ft : Int32)  : Mt l D (tyS cA cB) yX5_done cX5_done 2 (some .int) ({ frames := 1, cells := 0, slots := 0, locals := 22 } : Room) [.ref (m 0), .int (-2)] (mdW cA m ρ P hs α rf K V C my cm tx tl sp od no ft) Unit (fun v _ => v = some (.int (-2))) (fun _ => mdW cA m ρ P hs α (badR rf) K V C my cm tx tl sp od no ft) 0 0 := by
  refine mt_in RX5 ([some (.ref (m 0)), some (.int (-2))]) rfl (by decide +kernel) rfl (Nat.le_of_ble_eq_true rfl) rfl rfl (fun X sz => ?_)
  refine r_iload_n 1 dX5_done_0 rfl rfl ?_
  refine r_if_ge 11 dX5_done_1 (by decide) (fun hq1 => ?_) (fun hq1 => ?_)
  · exact absurd hq1 (by decide +kernel)
  · refine r_aload_n 0 dX5_done_4 rfl rfl ?_
    refine r_iload_n 1 dX5_done_5 rfl rfl ?_
    refine r_iconst (nI 1) dX5_done_6 (by decide +kernel) ?_
    refine r_callV2 (As := [.int (-2), .int (nI 1)]) (st := []) (fun _ => mdW cA m ρ P hs α (badR rf) K V C my cm tx tl sp od no ft) [mdW cA m ρ P hs α rf K V C my cm tx tl sp od no ft] [mdW cA m ρ P hs α rf K V C my cm tx tl sp od no ft] [] (fun _ => [mdW cA m ρ P hs α (badR rf) K V C my cm tx tl sp od no ft]) (fun _ => [mdW cA m ρ P hs α (badR rf) K V C my cm tx tl sp od no ft]) (c_X5_answers_2 l D cA cB m ρ P hs α rf K V C my cm tx tl sp od no ft ) kv_X5_answers ml_X5_41 dX5_done_7 rfl rfl rfl rfl (segOk [0] rfl rfl rfl rfl) (fun _ => segOk [0] rfl rfl rfl rfl) rfl (Nat.le_of_ble_eq_true rfl) (fun v u h => ?_)
    subst h
    refine r_st (st' := [.int (-2)]) rfl ?_
    exact r_iret (()) dX5_done_10 (rfl) (rfl)

set_option maxRecDepth 100000 in
set_option maxHeartbeats 4000000 in
theorem c_X5_done_3 (l : Launch) (D : va_G) (cA cB : ClassId) (m : Nat → Nat) (ρ P : Nat → Int32) (hs : Int32) (α rf K V C : Nat → Int32) (my cm : Int32) (tx : Nat → Int32) (tl sp : Int32) (od : Nat → Int32) (no ft : Int32)  : Mt l D (tyS cA cB) yX5_done cX5_done 2 (some .int) ({ frames := 1, cells := 0, slots := 0, locals := 22 } : Room) [.ref (m 0), .int (-3)] (mdW cA m ρ P hs α rf K V C my cm tx tl sp od no ft) Unit (fun v _ => v = some (.int (-3))) (fun _ => mdW cA m ρ P hs α (noR rf) K V C my cm tx tl sp od no ft) 0 0 := by
  refine mt_in RX5 ([some (.ref (m 0)), some (.int (-3))]) rfl (by decide +kernel) rfl (Nat.le_of_ble_eq_true rfl) rfl rfl (fun X sz => ?_)
  refine r_iload_n 1 dX5_done_0 rfl rfl ?_
  refine r_if_ge 11 dX5_done_1 (by decide) (fun hq1 => ?_) (fun hq1 => ?_)
  · exact absurd hq1 (by decide +kernel)
  · refine r_aload_n 0 dX5_done_4 rfl rfl ?_
    refine r_iload_n 1 dX5_done_5 rfl rfl ?_
    refine r_iconst (nI 1) dX5_done_6 (by decide +kernel) ?_
    refine r_callV2 (As := [.int (-3), .int (nI 1)]) (st := []) (fun _ => mdW cA m ρ P hs α (noR rf) K V C my cm tx tl sp od no ft) [mdW cA m ρ P hs α rf K V C my cm tx tl sp od no ft] [mdW cA m ρ P hs α rf K V C my cm tx tl sp od no ft] [] (fun _ => [mdW cA m ρ P hs α (noR rf) K V C my cm tx tl sp od no ft]) (fun _ => [mdW cA m ρ P hs α (noR rf) K V C my cm tx tl sp od no ft]) (c_X5_answers_3 l D cA cB m ρ P hs α rf K V C my cm tx tl sp od no ft ) kv_X5_answers ml_X5_41 dX5_done_7 rfl rfl rfl rfl (segOk [0] rfl rfl rfl rfl) (fun _ => segOk [0] rfl rfl rfl rfl) rfl (Nat.le_of_ble_eq_true rfl) (fun v u h => ?_)
    subst h
    refine r_st (st' := [.int (-3)]) rfl ?_
    exact r_iret (()) dX5_done_10 (rfl) (rfl)

set_option maxRecDepth 100000 in
set_option maxHeartbeats 4000000 in
theorem c_X5_done_4 (l : Launch) (D : va_G) (cA cB : ClassId) (m : Nat → Nat) (ρ P : Nat → Int32) (hs : Int32) (α rf K V C : Nat → Int32) (my cm : Int32) (tx : Nat → Int32) (tl sp : Int32) (od : Nat → Int32) (no ft : Int32)  : Mt l D (tyS cA cB) yX5_done cX5_done 2 (some .int) ({ frames := 1, cells := 0, slots := 0, locals := 22 } : Room) [.ref (m 0), .int (-4)] (mdW cA m ρ P hs α rf K V C my cm tx tl sp od no ft) Unit (fun v _ => v = some (.int (-4))) (fun _ => mdW cA m ρ P hs α (fulR rf) K V C my cm tx tl sp od no ft) 0 0 := by
  refine mt_in RX5 ([some (.ref (m 0)), some (.int (-4))]) rfl (by decide +kernel) rfl (Nat.le_of_ble_eq_true rfl) rfl rfl (fun X sz => ?_)
  refine r_iload_n 1 dX5_done_0 rfl rfl ?_
  refine r_if_ge 11 dX5_done_1 (by decide) (fun hq1 => ?_) (fun hq1 => ?_)
  · exact absurd hq1 (by decide +kernel)
  · refine r_aload_n 0 dX5_done_4 rfl rfl ?_
    refine r_iload_n 1 dX5_done_5 rfl rfl ?_
    refine r_iconst (nI 1) dX5_done_6 (by decide +kernel) ?_
    refine r_callV2 (As := [.int (-4), .int (nI 1)]) (st := []) (fun _ => mdW cA m ρ P hs α (fulR rf) K V C my cm tx tl sp od no ft) [mdW cA m ρ P hs α rf K V C my cm tx tl sp od no ft] [mdW cA m ρ P hs α rf K V C my cm tx tl sp od no ft] [] (fun _ => [mdW cA m ρ P hs α (fulR rf) K V C my cm tx tl sp od no ft]) (fun _ => [mdW cA m ρ P hs α (fulR rf) K V C my cm tx tl sp od no ft]) (c_X5_answers_4 l D cA cB m ρ P hs α rf K V C my cm tx tl sp od no ft ) kv_X5_answers ml_X5_41 dX5_done_7 rfl rfl rfl rfl (segOk [0] rfl rfl rfl rfl) (fun _ => segOk [0] rfl rfl rfl rfl) rfl (Nat.le_of_ble_eq_true rfl) (fun v u h => ?_)
    subst h
    refine r_st (st' := [.int (-4)]) rfl ?_
    exact r_iret (()) dX5_done_10 (rfl) (rfl)

set_option maxRecDepth 100000 in
set_option maxHeartbeats 4000000 in
theorem c_X5_puts (l : Launch) (D : va_G) (cA cB : ClassId) (m : Nat → Nat) (ρ P : Nat → Int32) (h : Nat) (α rf K V C : Nat → Int32) (my cm : Int32) (tx : Nat → Int32) (tl sp : Int32) (od : Nat → Int32) (no ft : Int32) (n : Nat) (hsz : ρ 0 = nI n) (h3 : n = 16 ∨ n = 32 ∨ n = 64) (g : Nat) (hg : ρ 6 = nI g) (hg8 : g ≤ 8) (hh : h ≤ 5) (hzr : Zro ρ) (hza : Zro α) (hs2 : Srt ρ n) (k v : Int32) (hnn : rfP ρ n k v = 0 → 0 ≤ putM ρ n k) : Mt l D (tyS cA cB) yX5_puts cX5_puts 3 (some .int) ({ frames := 5, cells := 0, slots := 0, locals := 121 } : Room) [.ref (m 0), .int (k), .int (v)] (mdW cA m ρ P (nI (h)) α rf K V C my cm tx tl sp od no ft) Sp5 (fun w _ => w = some (.int (pAns ρ n k v))) (fun u => mdW cA m (pRow ρ n g k v) (if rfP ρ n k v = 0 then lvP P h ρ else P) (nI (if rfP ρ n k v = 0 then kpH h else h)) ρ (rfU (rfP ρ n k v) rf) u.1 u.2.1 u.2.2.1 u.2.2.2.1 u.2.2.2.2 tx tl sp od no ft) 0 0 := by
  refine mt_in RX5 ([some (.ref (m 0)), some (.int (k)), some (.int (v))]) rfl (by decide +kernel) rfl (Nat.le_of_ble_eq_true rfl) rfl rfl (fun X sz => ?_)
  have hb := n16 h3
  refine r_aload_n 0 dX5_puts_0 rfl rfl ?_
  refine r_iconst (nI 0) dX5_puts_1 (by decide +kernel) ?_
  refine r_put 0 (mdW cA m ρ P (nI (h)) α rf K V C my cm tx tl sp od no ft) fk_X5_37 dX5_puts_2 rfl rfl rfl rfl (Nat.le_of_ble_eq_true rfl) rfl ?_
  refine r_aload_n 0 dX5_puts_5 rfl rfl ?_
  refine r_callV2 (As := []) (st := []) (fun _ => mdW cA m ρ P (nI (h)) ρ rf K V C my cm tx tl sp od no ft) [mdW cA m ρ P (nI (h)) α rf K V C my cm tx tl sp od no ft] [mdW cA m ρ P (nI (h)) α rf K V C my cm tx tl sp od no ft] [] (fun _ => [mdW cA m ρ P (nI (h)) ρ rf K V C my cm tx tl sp od no ft]) (fun _ => [mdW cA m ρ P (nI (h)) ρ rf K V C my cm tx tl sp od no ft]) (c_X5_laysAside l D cA cB m ρ P (nI (h)) α rf K V C my cm tx tl sp od no ft hzr hza) kv_X5_laysAside ml_X5_107 dX5_puts_6 rfl rfl rfl rfl (segOk [0] rfl rfl rfl rfl) (fun _ => segOk [0] rfl rfl rfl rfl) rfl (Nat.le_of_ble_eq_true rfl) (fun v u h => ?_)
  subst h
  refine r_st (st' := []) rfl ?_
  refine r_aload_n 0 dX5_puts_9 rfl rfl ?_
  refine r_aload_n 0 dX5_puts_10 rfl rfl ?_
  refine r_iload_n 1 dX5_puts_11 rfl rfl ?_
  refine r_iload_n 2 dX5_puts_12 rfl rfl ?_
  refine r_callV2 (As := [.int (k), .int (v)]) (st := [.ref (m 0)]) (fun u1 => mdW cA m (pRow ρ n g k v) P (nI (h)) ρ rf u1.1 u1.2.1 u1.2.2.1 u1.2.2.2.1 u1.2.2.2.2 tx tl sp od no ft) [mdW cA m ρ P (nI (h)) ρ rf K V C my cm tx tl sp od no ft] [mdW cA m ρ P (nI (h)) ρ rf K V C my cm tx tl sp od no ft] [] (fun u1 => [mdW cA m (pRow ρ n g k v) P (nI (h)) ρ rf u1.1 u1.2.1 u1.2.2.1 u1.2.2.2.1 u1.2.2.2.2 tx tl sp od no ft]) (fun u1 => [mdW cA m (pRow ρ n g k v) P (nI (h)) ρ rf u1.1 u1.2.1 u1.2.2.1 u1.2.2.2.1 u1.2.2.2.2 tx tl sp od no ft]) (c_X5_putOf l D cA cB m ρ P (nI (h)) ρ rf K V C my cm tx tl sp od no ft n hsz h3 g hg hg8 hs2 k v) kv_X5_putOf ml_X5_110 dX5_puts_13 rfl rfl rfl rfl (segOk [0] rfl rfl rfl rfl) (fun _ => segOk [0] rfl rfl rfl rfl) rfl (Nat.le_of_ble_eq_true rfl) (fun v u1 h => ?_)
  subst h
  refine r_st (st' := [.int (pAns ρ n k v), .ref (m 0)]) rfl ?_
  rcases rfP_cases ρ n k v with e | e | e
  · refine r_ws (ws' := mdW cA m (putR ρ n g k v) P (nI (h)) ρ rf u1.1 u1.2.1 u1.2.2.1 u1.2.2.2.1 u1.2.2.2.2 tx tl sp od no ft) (by unfold pRow; rw [if_pos e]) ?_
    refine r_top (y := putM ρ n k) (by unfold pAns; rw [if_pos e]) ?_
    refine r_callV2 (As := [.int (putM ρ n k)]) (st := []) (fun _ => mdW cA m (putR ρ n g k v) (lvP P h ρ) (nI (kpH h)) ρ rf u1.1 u1.2.1 u1.2.2.1 u1.2.2.2.1 u1.2.2.2.2 tx tl sp od no ft) [mdW cA m (putR ρ n g k v) P (nI (h)) ρ rf u1.1 u1.2.1 u1.2.2.1 u1.2.2.2.1 u1.2.2.2.2 tx tl sp od no ft] [mdW cA m (putR ρ n g k v) P (nI (h)) ρ rf u1.1 u1.2.1 u1.2.2.1 u1.2.2.2.1 u1.2.2.2.2 tx tl sp od no ft] [] (fun _ => [mdW cA m (putR ρ n g k v) (lvP P h ρ) (nI (kpH h)) ρ rf u1.1 u1.2.1 u1.2.2.1 u1.2.2.2.1 u1.2.2.2.2 tx tl sp od no ft]) (fun _ => [mdW cA m (putR ρ n g k v) (lvP P h ρ) (nI (kpH h)) ρ rf u1.1 u1.2.1 u1.2.2.1 u1.2.2.2.1 u1.2.2.2.2 tx tl sp od no ft]) (c_X5_done_n l D cA cB m (putR ρ n g k v) P (h) ρ rf u1.1 u1.2.1 u1.2.2.1 u1.2.2.2.1 u1.2.2.2.2 tx tl sp od no ft hh (putM ρ n k) (hnn e)) kv_X5_done ml_X5_113 dX5_puts_16 rfl rfl rfl rfl (segOk [0] rfl rfl rfl rfl) (fun _ => segOk [0] rfl rfl rfl rfl) rfl (Nat.le_of_ble_eq_true rfl) (fun v u h => ?_)
    subst h
    refine r_st (st' := [.int (putM ρ n k)]) rfl ?_
    exact r_iret ((u1.1, u1.2.1, u1.2.2.1, u1.2.2.2.1, u1.2.2.2.2)) dX5_puts_19 (by unfold pAns; rw [if_pos e]) (by unfold pRow; rw [if_pos e, if_pos e, if_pos e]; unfold rfU; rw [e]; rfl)
  · refine r_ws (ws' := mdW cA m ρ P (nI (h)) ρ rf u1.1 u1.2.1 u1.2.2.1 u1.2.2.2.1 u1.2.2.2.2 tx tl sp od no ft) (by unfold pRow; rw [if_neg (by rw [e]; decide +kernel)]) ?_
    refine r_top (y := -2) (by unfold pAns; rw [if_neg (by rw [e]; decide +kernel), e]) ?_
    refine r_callV2 (As := [.int (-2)]) (st := []) (fun _ => mdW cA m ρ P (nI (h)) ρ (badR rf) u1.1 u1.2.1 u1.2.2.1 u1.2.2.2.1 u1.2.2.2.2 tx tl sp od no ft) [mdW cA m ρ P (nI (h)) ρ rf u1.1 u1.2.1 u1.2.2.1 u1.2.2.2.1 u1.2.2.2.2 tx tl sp od no ft] [mdW cA m ρ P (nI (h)) ρ rf u1.1 u1.2.1 u1.2.2.1 u1.2.2.2.1 u1.2.2.2.2 tx tl sp od no ft] [] (fun _ => [mdW cA m ρ P (nI (h)) ρ (badR rf) u1.1 u1.2.1 u1.2.2.1 u1.2.2.2.1 u1.2.2.2.2 tx tl sp od no ft]) (fun _ => [mdW cA m ρ P (nI (h)) ρ (badR rf) u1.1 u1.2.1 u1.2.2.1 u1.2.2.2.1 u1.2.2.2.2 tx tl sp od no ft]) (c_X5_done_2 l D cA cB m ρ P (nI (h)) ρ rf u1.1 u1.2.1 u1.2.2.1 u1.2.2.2.1 u1.2.2.2.2 tx tl sp od no ft) kv_X5_done ml_X5_113 dX5_puts_16 rfl rfl rfl rfl (segOk [0] rfl rfl rfl rfl) (fun _ => segOk [0] rfl rfl rfl rfl) rfl (Nat.le_of_ble_eq_true rfl) (fun v u h => ?_)
    subst h
    refine r_st (st' := [.int (-2)]) rfl ?_
    exact r_iret ((u1.1, u1.2.1, u1.2.2.1, u1.2.2.2.1, u1.2.2.2.2)) dX5_puts_19 (by unfold pAns; rw [if_neg (by rw [e]; decide +kernel), e]) (by unfold pRow; rw [if_neg (by rw [e]; decide +kernel), if_neg (by rw [e]; decide +kernel), if_neg (by rw [e]; decide +kernel)]; unfold rfU; rw [e]; rfl)
  · refine r_ws (ws' := mdW cA m ρ P (nI (h)) ρ rf u1.1 u1.2.1 u1.2.2.1 u1.2.2.2.1 u1.2.2.2.2 tx tl sp od no ft) (by unfold pRow; rw [if_neg (by rw [e]; decide +kernel)]) ?_
    refine r_top (y := -4) (by unfold pAns; rw [if_neg (by rw [e]; decide +kernel), e]) ?_
    refine r_callV2 (As := [.int (-4)]) (st := []) (fun _ => mdW cA m ρ P (nI (h)) ρ (fulR rf) u1.1 u1.2.1 u1.2.2.1 u1.2.2.2.1 u1.2.2.2.2 tx tl sp od no ft) [mdW cA m ρ P (nI (h)) ρ rf u1.1 u1.2.1 u1.2.2.1 u1.2.2.2.1 u1.2.2.2.2 tx tl sp od no ft] [mdW cA m ρ P (nI (h)) ρ rf u1.1 u1.2.1 u1.2.2.1 u1.2.2.2.1 u1.2.2.2.2 tx tl sp od no ft] [] (fun _ => [mdW cA m ρ P (nI (h)) ρ (fulR rf) u1.1 u1.2.1 u1.2.2.1 u1.2.2.2.1 u1.2.2.2.2 tx tl sp od no ft]) (fun _ => [mdW cA m ρ P (nI (h)) ρ (fulR rf) u1.1 u1.2.1 u1.2.2.1 u1.2.2.2.1 u1.2.2.2.2 tx tl sp od no ft]) (c_X5_done_4 l D cA cB m ρ P (nI (h)) ρ rf u1.1 u1.2.1 u1.2.2.1 u1.2.2.2.1 u1.2.2.2.2 tx tl sp od no ft) kv_X5_done ml_X5_113 dX5_puts_16 rfl rfl rfl rfl (segOk [0] rfl rfl rfl rfl) (fun _ => segOk [0] rfl rfl rfl rfl) rfl (Nat.le_of_ble_eq_true rfl) (fun v u h => ?_)
    subst h
    refine r_st (st' := [.int (-4)]) rfl ?_
    exact r_iret ((u1.1, u1.2.1, u1.2.2.1, u1.2.2.2.1, u1.2.2.2.2)) dX5_puts_19 (by unfold pAns; rw [if_neg (by rw [e]; decide +kernel), e]) (by unfold pRow; rw [if_neg (by rw [e]; decide +kernel), if_neg (by rw [e]; decide +kernel), if_neg (by rw [e]; decide +kernel)]; unfold rfU; rw [e]; rfl)

set_option maxRecDepth 100000 in
set_option maxHeartbeats 4000000 in
theorem c_X5_takes (l : Launch) (D : va_G) (cA cB : ClassId) (m : Nat → Nat) (ρ P : Nat → Int32) (h : Nat) (α rf K V C : Nat → Int32) (my cm : Int32) (tx : Nat → Int32) (tl sp : Int32) (od : Nat → Int32) (no ft : Int32) (n : Nat) (hsz : ρ 0 = nI n) (h3 : n = 16 ∨ n = 32 ∨ n = 64) (g : Nat) (hg : ρ 6 = nI g) (hg8 : g ≤ 8) (hh : h ≤ 5) (hzr : Zro ρ) (hza : Zro α) (k : Int32) (hnn : rfT ρ n k = 0 → 0 ≤ valOf ρ k n) : Mt l D (tyS cA cB) yX5_takes cX5_takes 2 (some .int) ({ frames := 5, cells := 0, slots := 0, locals := 118 } : Room) [.ref (m 0), .int (k)] (mdW cA m ρ P (nI (h)) α rf K V C my cm tx tl sp od no ft) Sp5 (fun w _ => w = some (.int (tAns ρ n k))) (fun u => mdW cA m (tRow ρ n g k) (if rfT ρ n k = 0 then lvP P h ρ else P) (nI (if rfT ρ n k = 0 then kpH h else h)) ρ (rfU (rfT ρ n k) rf) u.1 u.2.1 u.2.2.1 u.2.2.2.1 u.2.2.2.2 tx tl sp od no ft) 0 0 := by
  refine mt_in RX5 ([some (.ref (m 0)), some (.int (k))]) rfl (by decide +kernel) rfl (Nat.le_of_ble_eq_true rfl) rfl rfl (fun X sz => ?_)
  have hb := n16 h3
  refine r_aload_n 0 dX5_takes_0 rfl rfl ?_
  refine r_iconst (nI 0) dX5_takes_1 (by decide +kernel) ?_
  refine r_put 0 (mdW cA m ρ P (nI (h)) α rf K V C my cm tx tl sp od no ft) fk_X5_37 dX5_takes_2 rfl rfl rfl rfl (Nat.le_of_ble_eq_true rfl) rfl ?_
  refine r_aload_n 0 dX5_takes_5 rfl rfl ?_
  refine r_callV2 (As := []) (st := []) (fun _ => mdW cA m ρ P (nI (h)) ρ rf K V C my cm tx tl sp od no ft) [mdW cA m ρ P (nI (h)) α rf K V C my cm tx tl sp od no ft] [mdW cA m ρ P (nI (h)) α rf K V C my cm tx tl sp od no ft] [] (fun _ => [mdW cA m ρ P (nI (h)) ρ rf K V C my cm tx tl sp od no ft]) (fun _ => [mdW cA m ρ P (nI (h)) ρ rf K V C my cm tx tl sp od no ft]) (c_X5_laysAside l D cA cB m ρ P (nI (h)) α rf K V C my cm tx tl sp od no ft hzr hza) kv_X5_laysAside ml_X5_107 dX5_takes_6 rfl rfl rfl rfl (segOk [0] rfl rfl rfl rfl) (fun _ => segOk [0] rfl rfl rfl rfl) rfl (Nat.le_of_ble_eq_true rfl) (fun v u h => ?_)
  subst h
  refine r_st (st' := []) rfl ?_
  refine r_aload_n 0 dX5_takes_9 rfl rfl ?_
  refine r_aload_n 0 dX5_takes_10 rfl rfl ?_
  refine r_iload_n 1 dX5_takes_11 rfl rfl ?_
  refine r_callV2 (As := [.int (k)]) (st := [.ref (m 0)]) (fun u1 => mdW cA m (tRow ρ n g k) P (nI (h)) ρ rf u1.1 u1.2.1 u1.2.2.1 u1.2.2.2.1 u1.2.2.2.2 tx tl sp od no ft) [mdW cA m ρ P (nI (h)) ρ rf K V C my cm tx tl sp od no ft] [mdW cA m ρ P (nI (h)) ρ rf K V C my cm tx tl sp od no ft] [] (fun u1 => [mdW cA m (tRow ρ n g k) P (nI (h)) ρ rf u1.1 u1.2.1 u1.2.2.1 u1.2.2.2.1 u1.2.2.2.2 tx tl sp od no ft]) (fun u1 => [mdW cA m (tRow ρ n g k) P (nI (h)) ρ rf u1.1 u1.2.1 u1.2.2.1 u1.2.2.2.1 u1.2.2.2.2 tx tl sp od no ft]) (c_X5_takeOf l D cA cB m ρ P (nI (h)) ρ rf K V C my cm tx tl sp od no ft n hsz h3 g hg hg8 k) kv_X5_takeOf ml_X5_116 dX5_takes_12 rfl rfl rfl rfl (segOk [0] rfl rfl rfl rfl) (fun _ => segOk [0] rfl rfl rfl rfl) rfl (Nat.le_of_ble_eq_true rfl) (fun v u1 h => ?_)
  subst h
  refine r_st (st' := [.int (tAns ρ n k), .ref (m 0)]) rfl ?_
  rcases rfT_cases ρ n k with e | e | e
  · refine r_ws (ws' := mdW cA m (takR ρ n g k) P (nI (h)) ρ rf u1.1 u1.2.1 u1.2.2.1 u1.2.2.2.1 u1.2.2.2.2 tx tl sp od no ft) (by unfold tRow; rw [if_pos e]) ?_
    refine r_top (y := valOf ρ k n) (by unfold tAns; rw [if_pos e]) ?_
    refine r_callV2 (As := [.int (valOf ρ k n)]) (st := []) (fun _ => mdW cA m (takR ρ n g k) (lvP P h ρ) (nI (kpH h)) ρ rf u1.1 u1.2.1 u1.2.2.1 u1.2.2.2.1 u1.2.2.2.2 tx tl sp od no ft) [mdW cA m (takR ρ n g k) P (nI (h)) ρ rf u1.1 u1.2.1 u1.2.2.1 u1.2.2.2.1 u1.2.2.2.2 tx tl sp od no ft] [mdW cA m (takR ρ n g k) P (nI (h)) ρ rf u1.1 u1.2.1 u1.2.2.1 u1.2.2.2.1 u1.2.2.2.2 tx tl sp od no ft] [] (fun _ => [mdW cA m (takR ρ n g k) (lvP P h ρ) (nI (kpH h)) ρ rf u1.1 u1.2.1 u1.2.2.1 u1.2.2.2.1 u1.2.2.2.2 tx tl sp od no ft]) (fun _ => [mdW cA m (takR ρ n g k) (lvP P h ρ) (nI (kpH h)) ρ rf u1.1 u1.2.1 u1.2.2.1 u1.2.2.2.1 u1.2.2.2.2 tx tl sp od no ft]) (c_X5_done_n l D cA cB m (takR ρ n g k) P (h) ρ rf u1.1 u1.2.1 u1.2.2.1 u1.2.2.2.1 u1.2.2.2.2 tx tl sp od no ft hh (valOf ρ k n) (hnn e)) kv_X5_done ml_X5_113 dX5_takes_15 rfl rfl rfl rfl (segOk [0] rfl rfl rfl rfl) (fun _ => segOk [0] rfl rfl rfl rfl) rfl (Nat.le_of_ble_eq_true rfl) (fun v u h => ?_)
    subst h
    refine r_st (st' := [.int (valOf ρ k n)]) rfl ?_
    exact r_iret ((u1.1, u1.2.1, u1.2.2.1, u1.2.2.2.1, u1.2.2.2.2)) dX5_takes_18 (by unfold tAns; rw [if_pos e]) (by unfold tRow; rw [if_pos e, if_pos e, if_pos e]; unfold rfU; rw [e]; rfl)
  · refine r_ws (ws' := mdW cA m ρ P (nI (h)) ρ rf u1.1 u1.2.1 u1.2.2.1 u1.2.2.2.1 u1.2.2.2.2 tx tl sp od no ft) (by unfold tRow; rw [if_neg (by rw [e]; decide +kernel)]) ?_
    refine r_top (y := -2) (by unfold tAns; rw [if_neg (by rw [e]; decide +kernel), e]) ?_
    refine r_callV2 (As := [.int (-2)]) (st := []) (fun _ => mdW cA m ρ P (nI (h)) ρ (badR rf) u1.1 u1.2.1 u1.2.2.1 u1.2.2.2.1 u1.2.2.2.2 tx tl sp od no ft) [mdW cA m ρ P (nI (h)) ρ rf u1.1 u1.2.1 u1.2.2.1 u1.2.2.2.1 u1.2.2.2.2 tx tl sp od no ft] [mdW cA m ρ P (nI (h)) ρ rf u1.1 u1.2.1 u1.2.2.1 u1.2.2.2.1 u1.2.2.2.2 tx tl sp od no ft] [] (fun _ => [mdW cA m ρ P (nI (h)) ρ (badR rf) u1.1 u1.2.1 u1.2.2.1 u1.2.2.2.1 u1.2.2.2.2 tx tl sp od no ft]) (fun _ => [mdW cA m ρ P (nI (h)) ρ (badR rf) u1.1 u1.2.1 u1.2.2.1 u1.2.2.2.1 u1.2.2.2.2 tx tl sp od no ft]) (c_X5_done_2 l D cA cB m ρ P (nI (h)) ρ rf u1.1 u1.2.1 u1.2.2.1 u1.2.2.2.1 u1.2.2.2.2 tx tl sp od no ft) kv_X5_done ml_X5_113 dX5_takes_15 rfl rfl rfl rfl (segOk [0] rfl rfl rfl rfl) (fun _ => segOk [0] rfl rfl rfl rfl) rfl (Nat.le_of_ble_eq_true rfl) (fun v u h => ?_)
    subst h
    refine r_st (st' := [.int (-2)]) rfl ?_
    exact r_iret ((u1.1, u1.2.1, u1.2.2.1, u1.2.2.2.1, u1.2.2.2.2)) dX5_takes_18 (by unfold tAns; rw [if_neg (by rw [e]; decide +kernel), e]) (by unfold tRow; rw [if_neg (by rw [e]; decide +kernel), if_neg (by rw [e]; decide +kernel), if_neg (by rw [e]; decide +kernel)]; unfold rfU; rw [e]; rfl)
  · refine r_ws (ws' := mdW cA m ρ P (nI (h)) ρ rf u1.1 u1.2.1 u1.2.2.1 u1.2.2.2.1 u1.2.2.2.2 tx tl sp od no ft) (by unfold tRow; rw [if_neg (by rw [e]; decide +kernel)]) ?_
    refine r_top (y := -3) (by unfold tAns; rw [if_neg (by rw [e]; decide +kernel), e]) ?_
    refine r_callV2 (As := [.int (-3)]) (st := []) (fun _ => mdW cA m ρ P (nI (h)) ρ (noR rf) u1.1 u1.2.1 u1.2.2.1 u1.2.2.2.1 u1.2.2.2.2 tx tl sp od no ft) [mdW cA m ρ P (nI (h)) ρ rf u1.1 u1.2.1 u1.2.2.1 u1.2.2.2.1 u1.2.2.2.2 tx tl sp od no ft] [mdW cA m ρ P (nI (h)) ρ rf u1.1 u1.2.1 u1.2.2.1 u1.2.2.2.1 u1.2.2.2.2 tx tl sp od no ft] [] (fun _ => [mdW cA m ρ P (nI (h)) ρ (noR rf) u1.1 u1.2.1 u1.2.2.1 u1.2.2.2.1 u1.2.2.2.2 tx tl sp od no ft]) (fun _ => [mdW cA m ρ P (nI (h)) ρ (noR rf) u1.1 u1.2.1 u1.2.2.1 u1.2.2.2.1 u1.2.2.2.2 tx tl sp od no ft]) (c_X5_done_3 l D cA cB m ρ P (nI (h)) ρ rf u1.1 u1.2.1 u1.2.2.1 u1.2.2.2.1 u1.2.2.2.2 tx tl sp od no ft) kv_X5_done ml_X5_113 dX5_takes_15 rfl rfl rfl rfl (segOk [0] rfl rfl rfl rfl) (fun _ => segOk [0] rfl rfl rfl rfl) rfl (Nat.le_of_ble_eq_true rfl) (fun v u h => ?_)
    subst h
    refine r_st (st' := [.int (-3)]) rfl ?_
    exact r_iret ((u1.1, u1.2.1, u1.2.2.1, u1.2.2.2.1, u1.2.2.2.2)) dX5_takes_18 (by unfold tAns; rw [if_neg (by rw [e]; decide +kernel), e]) (by unfold tRow; rw [if_neg (by rw [e]; decide +kernel), if_neg (by rw [e]; decide +kernel), if_neg (by rw [e]; decide +kernel)]; unfold rfU; rw [e]; rfl)

set_option maxRecDepth 100000 in
set_option maxHeartbeats 4000000 in
theorem c_X5_mode (l : Launch) (D : va_G) (cA cB : ClassId) (m : Nat → Nat) (ρ P : Nat → Int32) (h : Nat) (α rf K V C : Nat → Int32) (my cm : Int32) (tx : Nat → Int32) (tl sp : Int32) (od : Nat → Int32) (no ft : Int32) (hh : h ≤ 5) (hzr : Zro ρ) (hza : Zro α) (x : Int32) (hnn : 0 ≤ ρ 1) : Mt l D (tyS cA cB) yX5_mode cX5_mode 2 (some .int) ({ frames := 2, cells := 0, slots := 0, locals := 44 } : Room) [.ref (m 0), .int (x)] (mdW cA m ρ P (nI (h)) α rf K V C my cm tx tl sp od no ft) Sp5 (fun w _ => w = some (.int (mAns ρ x))) (fun u => mdW cA m (mRow ρ x) (if rfM x = 0 then lvP P h ρ else P) (nI (if rfM x = 0 then kpH h else h)) ρ (rfU (rfM x) rf) u.1 u.2.1 u.2.2.1 u.2.2.2.1 u.2.2.2.2 tx tl sp od no ft) 0 0 := by
  refine mt_in RX5 ([some (.ref (m 0)), some (.int (x))]) rfl (by decide +kernel) rfl (Nat.le_of_ble_eq_true rfl) rfl rfl (fun X sz => ?_)
  refine r_aload_n 0 dX5_mode_0 rfl rfl ?_
  refine r_iconst (nI 0) dX5_mode_1 (by decide +kernel) ?_
  refine r_put 0 (mdW cA m ρ P (nI (h)) α rf K V C my cm tx tl sp od no ft) fk_X5_37 dX5_mode_2 rfl rfl rfl rfl (Nat.le_of_ble_eq_true rfl) rfl ?_
  refine r_aload_n 0 dX5_mode_5 rfl rfl ?_
  refine r_callV2 (As := []) (st := []) (fun _ => mdW cA m ρ P (nI (h)) ρ rf K V C my cm tx tl sp od no ft) [mdW cA m ρ P (nI (h)) α rf K V C my cm tx tl sp od no ft] [mdW cA m ρ P (nI (h)) α rf K V C my cm tx tl sp od no ft] [] (fun _ => [mdW cA m ρ P (nI (h)) ρ rf K V C my cm tx tl sp od no ft]) (fun _ => [mdW cA m ρ P (nI (h)) ρ rf K V C my cm tx tl sp od no ft]) (c_X5_laysAside l D cA cB m ρ P (nI (h)) α rf K V C my cm tx tl sp od no ft hzr hza) kv_X5_laysAside ml_X5_107 dX5_mode_6 rfl rfl rfl rfl (segOk [0] rfl rfl rfl rfl) (fun _ => segOk [0] rfl rfl rfl rfl) rfl (Nat.le_of_ble_eq_true rfl) (fun v u h => ?_)
  subst h
  refine r_st (st' := []) rfl ?_
  refine r_aload_n 0 dX5_mode_9 rfl rfl ?_
  refine r_aload_n 0 dX5_mode_10 rfl rfl ?_
  refine r_iload_n 1 dX5_mode_11 rfl rfl ?_
  refine r_callV2 (As := [.int (x)]) (st := [.ref (m 0)]) (fun _ => mdW cA m (mRow ρ x) P (nI (h)) ρ rf K V C my cm tx tl sp od no ft) [mdW cA m ρ P (nI (h)) ρ rf K V C my cm tx tl sp od no ft] [mdW cA m ρ P (nI (h)) ρ rf K V C my cm tx tl sp od no ft] [] (fun _ => [mdW cA m (mRow ρ x) P (nI (h)) ρ rf K V C my cm tx tl sp od no ft]) (fun _ => [mdW cA m (mRow ρ x) P (nI (h)) ρ rf K V C my cm tx tl sp od no ft]) (c_X5_modeOf l D cA cB m ρ P (nI (h)) ρ rf K V C my cm tx tl sp od no ft x) kv_X5_modeOf ml_X5_122 dX5_mode_12 rfl rfl rfl rfl (segOk [0] rfl rfl rfl rfl) (fun _ => segOk [0] rfl rfl rfl rfl) rfl (Nat.le_of_ble_eq_true rfl) (fun v u h => ?_)
  subst h
  refine r_st (st' := [.int (mAns ρ x), .ref (m 0)]) rfl ?_
  rcases rfM_cases x with e | e
  · refine r_ws (ws' := mdW cA m (upd ρ 1 x) P (nI (h)) ρ rf K V C my cm tx tl sp od no ft) (by unfold mRow; rw [if_pos e]) ?_
    refine r_top (y := ρ 1) (by unfold mAns; rw [if_pos e]) ?_
    refine r_callV2 (As := [.int (ρ 1)]) (st := []) (fun _ => mdW cA m (upd ρ 1 x) (lvP P h ρ) (nI (kpH h)) ρ rf K V C my cm tx tl sp od no ft) [mdW cA m (upd ρ 1 x) P (nI (h)) ρ rf K V C my cm tx tl sp od no ft] [mdW cA m (upd ρ 1 x) P (nI (h)) ρ rf K V C my cm tx tl sp od no ft] [] (fun _ => [mdW cA m (upd ρ 1 x) (lvP P h ρ) (nI (kpH h)) ρ rf K V C my cm tx tl sp od no ft]) (fun _ => [mdW cA m (upd ρ 1 x) (lvP P h ρ) (nI (kpH h)) ρ rf K V C my cm tx tl sp od no ft]) (c_X5_done_n l D cA cB m (upd ρ 1 x) P (h) ρ rf K V C my cm tx tl sp od no ft hh (ρ 1) (hnn)) kv_X5_done ml_X5_113 dX5_mode_15 rfl rfl rfl rfl (segOk [0] rfl rfl rfl rfl) (fun _ => segOk [0] rfl rfl rfl rfl) rfl (Nat.le_of_ble_eq_true rfl) (fun v u h => ?_)
    subst h
    refine r_st (st' := [.int (ρ 1)]) rfl ?_
    exact r_iret ((K, V, C, my, cm)) dX5_mode_18 (by unfold mAns; rw [if_pos e]) (by unfold mRow; rw [if_pos e, if_pos e, if_pos e]; unfold rfU; rw [e]; rfl)
  · refine r_ws (ws' := mdW cA m ρ P (nI (h)) ρ rf K V C my cm tx tl sp od no ft) (by unfold mRow; rw [if_neg (by rw [e]; decide +kernel)]) ?_
    refine r_top (y := -2) (by unfold mAns; rw [if_neg (by rw [e]; decide +kernel), e]) ?_
    refine r_callV2 (As := [.int (-2)]) (st := []) (fun _ => mdW cA m ρ P (nI (h)) ρ (badR rf) K V C my cm tx tl sp od no ft) [mdW cA m ρ P (nI (h)) ρ rf K V C my cm tx tl sp od no ft] [mdW cA m ρ P (nI (h)) ρ rf K V C my cm tx tl sp od no ft] [] (fun _ => [mdW cA m ρ P (nI (h)) ρ (badR rf) K V C my cm tx tl sp od no ft]) (fun _ => [mdW cA m ρ P (nI (h)) ρ (badR rf) K V C my cm tx tl sp od no ft]) (c_X5_done_2 l D cA cB m ρ P (nI (h)) ρ rf K V C my cm tx tl sp od no ft) kv_X5_done ml_X5_113 dX5_mode_15 rfl rfl rfl rfl (segOk [0] rfl rfl rfl rfl) (fun _ => segOk [0] rfl rfl rfl rfl) rfl (Nat.le_of_ble_eq_true rfl) (fun v u h => ?_)
    subst h
    refine r_st (st' := [.int (-2)]) rfl ?_
    exact r_iret ((K, V, C, my, cm)) dX5_mode_18 (by unfold mAns; rw [if_neg (by rw [e]; decide +kernel), e]) (by unfold mRow; rw [if_neg (by rw [e]; decide +kernel), if_neg (by rw [e]; decide +kernel), if_neg (by rw [e]; decide +kernel)]; unfold rfU; rw [e]; rfl)

theorem spM_le {ρ : Nat → Int32} {a n : Nat} : spM ρ a n ≤ n := Nat.le_trans (mvF_le _ _ _) (cnt_le _ _ _)
set_option maxRecDepth 100000 in
set_option maxHeartbeats 4000000 in
theorem c_X5_spaces (l : Launch) (D : va_G) (cA cB : ClassId) (m : Nat → Nat) (ρ P : Nat → Int32) (h : Nat) (α rf K V C : Nat → Int32) (my cm : Int32) (tx : Nat → Int32) (tl sp : Int32) (od : Nat → Int32) (no ft : Int32) (n : Nat) (hsz : ρ 0 = nI n) (h3 : n = 16 ∨ n = 32 ∨ n = 64) (g : Nat) (hg : ρ 6 = nI g) (hg8 : g ≤ 8) (hh : h ≤ 5) (hzr : Zro ρ) (hza : Zro α) : Mt l D (tyS cA cB) yX5_spaces cX5_spaces 1 (some .int) ({ frames := 3, cells := 0, slots := 0, locals := 72 } : Room) [.ref (m 0)] (mdW cA m ρ P (nI (h)) α rf K V C my cm tx tl sp od no ft) Sp5 (fun w _ => w = some (.int (nI (spM ρ 0 n)))) (fun u => mdW cA m (spR ρ g 0 n) (lvP P h ρ) (nI (kpH h)) ρ rf u.1 u.2.1 u.2.2.1 u.2.2.2.1 u.2.2.2.2 tx tl sp od no ft) 0 0 := by
  refine mt_in RX5 ([some (.ref (m 0))]) rfl (by decide +kernel) rfl (Nat.le_of_ble_eq_true rfl) rfl rfl (fun X sz => ?_)
  have hb := n16 h3
  refine r_aload_n 0 dX5_spaces_0 rfl rfl ?_
  refine r_iconst (nI 0) dX5_spaces_1 (by decide +kernel) ?_
  refine r_put 0 (mdW cA m ρ P (nI (h)) α rf K V C my cm tx tl sp od no ft) fk_X5_37 dX5_spaces_2 rfl rfl rfl rfl (Nat.le_of_ble_eq_true rfl) rfl ?_
  refine r_aload_n 0 dX5_spaces_5 rfl rfl ?_
  refine r_callV2 (As := []) (st := []) (fun _ => mdW cA m ρ P (nI (h)) ρ rf K V C my cm tx tl sp od no ft) [mdW cA m ρ P (nI (h)) α rf K V C my cm tx tl sp od no ft] [mdW cA m ρ P (nI (h)) α rf K V C my cm tx tl sp od no ft] [] (fun _ => [mdW cA m ρ P (nI (h)) ρ rf K V C my cm tx tl sp od no ft]) (fun _ => [mdW cA m ρ P (nI (h)) ρ rf K V C my cm tx tl sp od no ft]) (c_X5_laysAside l D cA cB m ρ P (nI (h)) α rf K V C my cm tx tl sp od no ft hzr hza) kv_X5_laysAside ml_X5_107 dX5_spaces_6 rfl rfl rfl rfl (segOk [0] rfl rfl rfl rfl) (fun _ => segOk [0] rfl rfl rfl rfl) rfl (Nat.le_of_ble_eq_true rfl) (fun v u h => ?_)
  subst h
  refine r_st (st' := []) rfl ?_
  refine r_aload_n 0 dX5_spaces_9 rfl rfl ?_
  refine r_aload_n 0 dX5_spaces_10 rfl rfl ?_
  refine r_iconst (nI 0) dX5_spaces_11 (by decide +kernel) ?_
  refine r_aload_n 0 dX5_spaces_12 rfl rfl ?_
  refine r_get 0 fk_X5_7 dX5_spaces_13 rfl rfl ?_
  refine r_iconst (nI 0) dX5_spaces_16 (by decide +kernel) ?_
  refine r_iald 1 (0) dX5_spaces_17 rfl rfl rfl (by omega) (Nat.le_of_ble_eq_true rfl) ?_
  refine r_top (y := nI (n)) (hsz) ?_
  refine r_iconst (-1) dX5_spaces_18 (by decide +kernel) ?_
  refine r_iconst (nI 0) dX5_spaces_19 (by decide +kernel) ?_
  refine r_callV2 (As := [.int (nI 0), .int (nI n), .int (-1), .int (nI 0)]) (st := [.ref (m 0)]) (fun u1 => mdW cA m (spR ρ g 0 n) P (nI (h)) ρ rf u1.1 u1.2.1 u1.2.2.1 u1.2.2.2.1 u1.2.2.2.2 tx tl sp od no ft) [mdW cA m ρ P (nI (h)) ρ rf K V C my cm tx tl sp od no ft] [mdW cA m ρ P (nI (h)) ρ rf K V C my cm tx tl sp od no ft] [] (fun u1 => [mdW cA m (spR ρ g 0 n) P (nI (h)) ρ rf u1.1 u1.2.1 u1.2.2.1 u1.2.2.2.1 u1.2.2.2.2 tx tl sp od no ft]) (fun u1 => [mdW cA m (spR ρ g 0 n) P (nI (h)) ρ rf u1.1 u1.2.1 u1.2.2.1 u1.2.2.2.1 u1.2.2.2.2 tx tl sp od no ft]) (c_X5_spacesWindow_n l D cA cB m ρ P (nI (h)) ρ rf K V C my cm tx tl sp od no ft g (hg) hg8 (0) (n) (by omega) (nI (0))) kv_X5_spacesWindow ml_X5_80 dX5_spaces_20 rfl rfl rfl rfl (segOk [0] rfl rfl rfl rfl) (fun _ => segOk [0] rfl rfl rfl rfl) rfl (Nat.le_of_ble_eq_true rfl) (fun v u1 h => ?_)
  subst h
  refine r_st (st' := [.int (nI (spM ρ 0 n)), .ref (m 0)]) rfl ?_
  refine r_callV2 (As := [.int (nI (spM ρ 0 n))]) (st := []) (fun _ => mdW cA m (spR ρ g 0 n) (lvP P h ρ) (nI (kpH h)) ρ rf u1.1 u1.2.1 u1.2.2.1 u1.2.2.2.1 u1.2.2.2.2 tx tl sp od no ft) [mdW cA m (spR ρ g 0 n) P (nI (h)) ρ rf u1.1 u1.2.1 u1.2.2.1 u1.2.2.2.1 u1.2.2.2.2 tx tl sp od no ft] [mdW cA m (spR ρ g 0 n) P (nI (h)) ρ rf u1.1 u1.2.1 u1.2.2.1 u1.2.2.2.1 u1.2.2.2.2 tx tl sp od no ft] [] (fun _ => [mdW cA m (spR ρ g 0 n) (lvP P h ρ) (nI (kpH h)) ρ rf u1.1 u1.2.1 u1.2.2.1 u1.2.2.2.1 u1.2.2.2.2 tx tl sp od no ft]) (fun _ => [mdW cA m (spR ρ g 0 n) (lvP P h ρ) (nI (kpH h)) ρ rf u1.1 u1.2.1 u1.2.2.1 u1.2.2.2.1 u1.2.2.2.2 tx tl sp od no ft]) (c_X5_done_n l D cA cB m (spR ρ g 0 n) P (h) ρ rf u1.1 u1.2.1 u1.2.2.1 u1.2.2.2.1 u1.2.2.2.2 tx tl sp od no ft hh (nI (spM ρ 0 n)) (nI_nn (by have := spM_le (ρ := ρ) (a := 0) (n := n); omega))) kv_X5_done ml_X5_113 dX5_spaces_23 rfl rfl rfl rfl (segOk [0] rfl rfl rfl rfl) (fun _ => segOk [0] rfl rfl rfl rfl) rfl (Nat.le_of_ble_eq_true rfl) (fun v u h => ?_)
  subst h
  refine r_st (st' := [.int (nI (spM ρ 0 n))]) rfl ?_
  exact r_iret ((u1.1, u1.2.1, u1.2.2.1, u1.2.2.2.1, u1.2.2.2.2)) dX5_spaces_26 (rfl) (rfl)

set_option maxRecDepth 100000 in
set_option maxHeartbeats 4000000 in
theorem lp_X5_back (l : Launch) (D : va_G) (cA cB : ClassId) (m : Nat → Nat) (ρ P : Nat → Int32) (h : Nat) (α rf K V C : Nat → Int32) (my cm : Int32) (tx : Nat → Int32) (tl sp : Int32) (od : Nat → Int32) (no ft : Int32) (hh : h ≤ 5) (X : Cx) (sz : Nat) : 0 < h → ∀ (f c : Nat), c ≤ 159 → 159 < c + f → G l X ({ frames := 1, cells := 0, slots := 0, locals := 22 } : Room) cX5_back RX5 (some .int) D (tyS cA cB) (va_A (mdW cA m ρ P (nI (h)) α rf K V C my cm tx tl sp od no ft) sz) (QX X D (tyS cA cB) (mdW cA m ρ P (nI (h)) α rf K V C my cm tx tl sp od no ft) sz Unit (fun v _ => v = some (.int (if 0 < h then nI (h - 1) else -3))) (fun _ => mdW cA m (if 0 < h then bkR P ρ (h - 1) 159 else ρ) P (nI (h - 1)) α (if 0 < h then rf else noR rf) K V C my cm tx tl sp od no ft) 0 0) 0 0 (mdW cA m (bkR P ρ (h - 1) c) P (nI (h - 1)) α rf K V C my cm tx tl sp od no ft) 32 ([some (.ref (m 0)), some (.int (nI c))]) [] := by
  intro hp f
  induction f with
  | zero => intro c h1 h2; omega
  | succ f ih =>
    intro c hc hf
    refine r_iload_n 1 dX5_back_32 rfl rfl ?_
    refine r_sipush (nI 159) dX5_back_33 (by decide +kernel) ?_
    refine r_ncmp_ge 66 (by omega) (by omega) dX5_back_36 (by decide) (fun hq1 => ?_) (fun hq1 => ?_)
    · refine r_aload_n 0 dX5_back_66 rfl rfl ?_
      refine r_get 0 fk_X5_101 dX5_back_67 rfl rfl ?_
      exact r_iret (()) dX5_back_70 (by rw [if_pos hp]) (by rw [if_pos hp, if_pos hp, show c = 159 by omega])
    · refine r_aload_n 0 dX5_back_39 rfl rfl ?_
      refine r_get 0 fk_X5_7 dX5_back_40 rfl rfl ?_
      refine r_iload_n 1 dX5_back_43 rfl rfl ?_
      refine r_aload_n 0 dX5_back_44 rfl rfl ?_
      refine r_get 0 fk_X5_13 dX5_back_45 rfl rfl ?_
      refine r_sipush (nI 159) dX5_back_48 (by decide +kernel) ?_
      refine r_aload_n 0 dX5_back_51 rfl rfl ?_
      refine r_get 0 fk_X5_101 dX5_back_52 rfl rfl ?_
      refine r_nimul dX5_back_55 ?_
      refine r_iload_n 1 dX5_back_56 rfl rfl ?_
      refine r_niadd dX5_back_57 ?_
      refine r_iald 2 ((159 * (h - 1)) + c) dX5_back_58 rfl rfl rfl (by omega) (Nat.le_of_ble_eq_true rfl) ?_
      refine r_iast 1 (c) (mdW cA m (upd (bkR P ρ (h - 1) c) c (P ((159 * (h - 1)) + c))) P (nI (h - 1)) α rf K V C my cm tx tl sp od no ft) dX5_back_59 rfl rfl rfl (by omega) (Nat.le_of_ble_eq_true rfl) rfl ?_
      refine r_ws (ws' := mdW cA m (bkR P ρ (h - 1) (c + 1)) P (nI (h - 1)) α rf K V C my cm tx tl sp od no ft) (by rw [bk_s]) ?_
      refine r_iinc (v := nI (c + 1)) ([some (.ref (m 0)), some (.int (nI (c + 1)))]) dX5_back_60 rfl (nI_1 _) (Nat.le_of_ble_eq_true rfl) rfl rfl ?_
      refine r_goto 32 dX5_back_63 (by decide) ?_
      exact ih (c + 1) (by omega) (by omega)

set_option maxRecDepth 100000 in
set_option maxHeartbeats 4000000 in
theorem c_X5_back (l : Launch) (D : va_G) (cA cB : ClassId) (m : Nat → Nat) (ρ P : Nat → Int32) (h : Nat) (α rf K V C : Nat → Int32) (my cm : Int32) (tx : Nat → Int32) (tl sp : Int32) (od : Nat → Int32) (no ft : Int32) (hh : h ≤ 5) : Mt l D (tyS cA cB) yX5_back cX5_back 2 (some .int) ({ frames := 1, cells := 0, slots := 0, locals := 22 } : Room) [.ref (m 0)] (mdW cA m ρ P (nI (h)) α rf K V C my cm tx tl sp od no ft) Unit (fun v _ => v = some (.int (if 0 < h then nI (h - 1) else -3))) (fun _ => mdW cA m (if 0 < h then bkR P ρ (h - 1) 159 else ρ) P (nI (h - 1)) α (if 0 < h then rf else noR rf) K V C my cm tx tl sp od no ft) 0 0 := by
  refine mt_in RX5 ([some (.ref (m 0)), none]) rfl (by decide +kernel) rfl (Nat.le_of_ble_eq_true rfl) rfl rfl (fun X sz => ?_)
  refine r_aload_n 0 dX5_back_0 rfl rfl ?_
  refine r_iconst (nI 0) dX5_back_1 (by decide +kernel) ?_
  refine r_put 0 (mdW cA m ρ P (nI (h)) α rf K V C my cm tx tl sp od no ft) fk_X5_37 dX5_back_2 rfl rfl rfl rfl (Nat.le_of_ble_eq_true rfl) rfl ?_
  refine r_aload_n 0 dX5_back_5 rfl rfl ?_
  refine r_get 0 fk_X5_101 dX5_back_6 rfl rfl ?_
  refine r_if_ne 20 dX5_back_9 (by decide) (fun hq1 => ?_) (fun hq1 => ?_)
  · have hp : 0 < h := by rcases Nat.eq_zero_or_pos h with z | z; exact absurd (by rw [z]; rfl) hq1; exact z
    refine r_aload_n 0 dX5_back_20 rfl rfl ?_
    refine r_dup rfl dX5_back_21 ?_
    refine r_get 0 fk_X5_101 dX5_back_22 rfl rfl ?_
    refine r_iconst (nI 1) dX5_back_25 (by decide +kernel) ?_
    refine r_nisub (by omega) dX5_back_26 ?_
    refine r_put 0 (mdW cA m ρ P (nI (h - 1)) α rf K V C my cm tx tl sp od no ft) fk_X5_101 dX5_back_27 rfl rfl rfl rfl (Nat.le_of_ble_eq_true rfl) rfl ?_
    refine r_iconst (nI 0) dX5_back_30 (by decide +kernel) ?_
    refine r_istore_n 1 ([some (.ref (m 0)), some (.int (nI 0))]) dX5_back_31 rfl (Nat.le_of_ble_eq_true rfl) rfl rfl ?_
    refine r_ws (ws' := mdW cA m (bkR P ρ (h - 1) 0) P (nI (h - 1)) α rf K V C my cm tx tl sp od no ft) (by rw [bk_0]) ?_
    exact lp_X5_back l D cA cB m ρ P h α rf K V C my cm tx tl sp od no ft hh X sz hp 160 0 (by omega) (by omega)
  · have hp : ¬ 0 < h := by have := (nI_z (by omega)).mp hq1; omega
    refine r_aload_n 0 dX5_back_12 rfl rfl ?_
    refine r_bipush (-3) dX5_back_13 (by decide +kernel) ?_
    refine r_iconst (nI 1) dX5_back_15 (by decide +kernel) ?_
    refine r_callV2 (As := [.int (-3), .int (nI 1)]) (st := []) (fun _ => mdW cA m ρ P (nI (h)) α (noR rf) K V C my cm tx tl sp od no ft) [mdW cA m ρ P (nI (h)) α rf K V C my cm tx tl sp od no ft] [mdW cA m ρ P (nI (h)) α rf K V C my cm tx tl sp od no ft] [] (fun _ => [mdW cA m ρ P (nI (h)) α (noR rf) K V C my cm tx tl sp od no ft]) (fun _ => [mdW cA m ρ P (nI (h)) α (noR rf) K V C my cm tx tl sp od no ft]) (c_X5_answers_3 l D cA cB m ρ P (nI (h)) α rf K V C my cm tx tl sp od no ft ) kv_X5_answers ml_X5_41 dX5_back_16 rfl rfl rfl rfl (segOk [0] rfl rfl rfl rfl) (fun _ => segOk [0] rfl rfl rfl rfl) rfl (Nat.le_of_ble_eq_true rfl) (fun v u h => ?_)
    subst h
    refine r_st (st' := [.int (-3)]) rfl ?_
    exact r_iret (()) dX5_back_19 (by rw [if_neg hp]) (by rw [if_neg hp, if_neg hp, show h - 1 = h by omega])

