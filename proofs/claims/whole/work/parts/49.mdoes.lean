set_option maxRecDepth 100000 in
set_option maxHeartbeats 4000000 in
theorem c_X5_doneBy (l : Launch) (D : va_G) (cA cB : ClassId) (m : Nat → Nat) (ρ P : Nat → Int32) (hs : Int32) (α rf K V C : Nat → Int32) (my cm : Int32) (tx : Nat → Int32) (tl sp : Int32) (od : Nat → Int32) (no ft : Int32) (hI : IvR ρ) (i : Nat) (hi : i < 60) (z : Ord3) (hz : od (3 * i) = z.1 ∧ od (3 * i + 1) = z.2.1 ∧ od (3 * i + 2) = z.2.2) : Mt l D (tyS cA cB) yX5_doneBy cX5_doneBy 4 (some .int) ({ frames := 5, cells := 0, slots := 0, locals := 121 } : Room) [.ref (m 0), .int (nI i)] (mdW cA m ρ P hs α rf K V C my cm tx tl sp od no ft) Sp5 (fun w _ => w = some (.int (oAns ρ z))) (fun u => mdW cA m (oRow ρ z) P hs α rf u.1 u.2.1 u.2.2.1 u.2.2.2.1 u.2.2.2.2 tx tl sp od no ft) 0 0 := by
  refine mt_in RX5 ([some (.ref (m 0)), some (.int (nI i)), none, none]) rfl (by decide +kernel) rfl (Nat.le_of_ble_eq_true rfl) rfl rfl (fun X sz => ?_)
  refine r_aload_n 0 dX5_doneBy_0 rfl rfl ?_
  refine r_get 0 fk_X5_34 dX5_doneBy_1 rfl rfl ?_
  refine r_iconst (nI 3) dX5_doneBy_4 (by decide +kernel) ?_
  refine r_iload_n 1 dX5_doneBy_5 rfl rfl ?_
  refine r_nimul dX5_doneBy_6 ?_
  refine r_iconst (nI 1) dX5_doneBy_7 (by decide +kernel) ?_
  refine r_niadd dX5_doneBy_8 ?_
  refine r_iald 9 ((3 * i) + 1) dX5_doneBy_9 rfl rfl rfl (by omega) (Nat.le_of_ble_eq_true rfl) ?_
  refine r_top (y := z.2.1) (hz.2.1) ?_
  refine r_istore_n 2 ([some (.ref (m 0)), some (.int (nI i)), some (.int (z.2.1)), none]) dX5_doneBy_10 rfl (Nat.le_of_ble_eq_true rfl) rfl rfl ?_
  refine r_aload_n 0 dX5_doneBy_11 rfl rfl ?_
  refine r_get 0 fk_X5_34 dX5_doneBy_12 rfl rfl ?_
  refine r_iconst (nI 3) dX5_doneBy_15 (by decide +kernel) ?_
  refine r_iload_n 1 dX5_doneBy_16 rfl rfl ?_
  refine r_nimul dX5_doneBy_17 ?_
  refine r_iconst (nI 2) dX5_doneBy_18 (by decide +kernel) ?_
  refine r_niadd dX5_doneBy_19 ?_
  refine r_iald 9 ((3 * i) + 2) dX5_doneBy_20 rfl rfl rfl (by omega) (Nat.le_of_ble_eq_true rfl) ?_
  refine r_top (y := z.2.2) (hz.2.2) ?_
  refine r_istore_n 3 ([some (.ref (m 0)), some (.int (nI i)), some (.int (z.2.1)), some (.int (z.2.2))]) dX5_doneBy_21 rfl (Nat.le_of_ble_eq_true rfl) rfl rfl ?_
  refine r_aload_n 0 dX5_doneBy_22 rfl rfl ?_
  refine r_get 0 fk_X5_34 dX5_doneBy_23 rfl rfl ?_
  refine r_iconst (nI 3) dX5_doneBy_26 (by decide +kernel) ?_
  refine r_iload_n 1 dX5_doneBy_27 rfl rfl ?_
  refine r_nimul dX5_doneBy_28 ?_
  refine r_iald 9 (3 * i) dX5_doneBy_29 rfl rfl rfl (by omega) (Nat.le_of_ble_eq_true rfl) ?_
  refine r_top (y := z.1) (hz.1) ?_
  by_cases hq1 : z.1 = 109
  · refine r_lookup (off := 47) 77 dX5_doneBy_30 (by decide +kernel) (by rw [hq1]; decide +kernel) (by decide) ?_
    refine r_aload_n 0 dX5_doneBy_77 rfl rfl ?_
    refine r_iload_n 2 dX5_doneBy_78 rfl rfl ?_
    refine r_callV2 (As := [.int (z.2.1)]) (st := []) (fun _ => mdW cA m (mRow ρ z.2.1) P hs α rf K V C my cm tx tl sp od no ft) [mdW cA m ρ P hs α rf K V C my cm tx tl sp od no ft] [mdW cA m ρ P hs α rf K V C my cm tx tl sp od no ft] [] (fun _ => [mdW cA m (mRow ρ z.2.1) P hs α rf K V C my cm tx tl sp od no ft]) (fun _ => [mdW cA m (mRow ρ z.2.1) P hs α rf K V C my cm tx tl sp od no ft]) (c_X5_modeOf l D cA cB m ρ P hs α rf K V C my cm tx tl sp od no ft z.2.1) kv_X5_modeOf ml_X5_122 dX5_doneBy_79 rfl rfl rfl rfl (segOk [0] rfl rfl rfl rfl) (fun _ => segOk [0] rfl rfl rfl rfl) rfl (Nat.le_of_ble_eq_true rfl) (fun v u h => ?_)
    subst h
    refine r_st (st' := [.int (mAns ρ z.2.1)]) rfl ?_
    exact r_iret ((K, V, C, my, cm)) dX5_doneBy_82 (by unfold oAns; rw [if_pos hq1]) (by unfold oRow; rw [if_pos hq1])
  by_cases hq2 : z.1 = 112
  · refine r_lookup (off := 34) 64 dX5_doneBy_30 (by decide +kernel) (by rw [hq2]; decide +kernel) (by decide) ?_
    refine r_aload_n 0 dX5_doneBy_64 rfl rfl ?_
    refine r_iload_n 2 dX5_doneBy_65 rfl rfl ?_
    refine r_iload_n 3 dX5_doneBy_66 rfl rfl ?_
    refine r_callV2 (As := [.int (z.2.1), .int (z.2.2)]) (st := []) (fun u3 => mdW cA m (pRow ρ (nOf ρ) (gOf ρ) z.2.1 z.2.2) P hs α rf u3.1 u3.2.1 u3.2.2.1 u3.2.2.2.1 u3.2.2.2.2 tx tl sp od no ft) [mdW cA m ρ P hs α rf K V C my cm tx tl sp od no ft] [mdW cA m ρ P hs α rf K V C my cm tx tl sp od no ft] [] (fun u3 => [mdW cA m (pRow ρ (nOf ρ) (gOf ρ) z.2.1 z.2.2) P hs α rf u3.1 u3.2.1 u3.2.2.1 u3.2.2.2.1 u3.2.2.2.2 tx tl sp od no ft]) (fun u3 => [mdW cA m (pRow ρ (nOf ρ) (gOf ρ) z.2.1 z.2.2) P hs α rf u3.1 u3.2.1 u3.2.2.1 u3.2.2.2.1 u3.2.2.2.2 tx tl sp od no ft]) (c_X5_putOf l D cA cB m ρ P hs α rf K V C my cm tx tl sp od no ft (nOf ρ) hI.1 hI.2.1 (gOf ρ) hI.2.2.1 hI.2.2.2.1 hI.2.2.2.2.1 z.2.1 z.2.2) kv_X5_putOf ml_X5_110 dX5_doneBy_67 rfl rfl rfl rfl (segOk [0] rfl rfl rfl rfl) (fun _ => segOk [0] rfl rfl rfl rfl) rfl (Nat.le_of_ble_eq_true rfl) (fun v u3 h => ?_)
    subst h
    refine r_st (st' := [.int (pAns ρ (nOf ρ) z.2.1 z.2.2)]) rfl ?_
    exact r_iret ((u3.1, u3.2.1, u3.2.2.1, u3.2.2.2.1, u3.2.2.2.2)) dX5_doneBy_70 (by unfold oAns; rw [if_neg (by rw [hq2]; decide +kernel), if_pos hq2]) (by unfold oRow; rw [if_neg (by rw [hq2]; decide +kernel), if_pos hq2])
  by_cases hq4 : z.1 = 116
  · refine r_lookup (off := 41) 71 dX5_doneBy_30 (by decide +kernel) (by rw [hq4]; decide +kernel) (by decide) ?_
    refine r_aload_n 0 dX5_doneBy_71 rfl rfl ?_
    refine r_iload_n 2 dX5_doneBy_72 rfl rfl ?_
    refine r_callV2 (As := [.int (z.2.1)]) (st := []) (fun u5 => mdW cA m (tRow ρ (nOf ρ) (gOf ρ) z.2.1) P hs α rf u5.1 u5.2.1 u5.2.2.1 u5.2.2.2.1 u5.2.2.2.2 tx tl sp od no ft) [mdW cA m ρ P hs α rf K V C my cm tx tl sp od no ft] [mdW cA m ρ P hs α rf K V C my cm tx tl sp od no ft] [] (fun u5 => [mdW cA m (tRow ρ (nOf ρ) (gOf ρ) z.2.1) P hs α rf u5.1 u5.2.1 u5.2.2.1 u5.2.2.2.1 u5.2.2.2.2 tx tl sp od no ft]) (fun u5 => [mdW cA m (tRow ρ (nOf ρ) (gOf ρ) z.2.1) P hs α rf u5.1 u5.2.1 u5.2.2.1 u5.2.2.2.1 u5.2.2.2.2 tx tl sp od no ft]) (c_X5_takeOf l D cA cB m ρ P hs α rf K V C my cm tx tl sp od no ft (nOf ρ) hI.1 hI.2.1 (gOf ρ) hI.2.2.1 hI.2.2.2.1 z.2.1) kv_X5_takeOf ml_X5_116 dX5_doneBy_73 rfl rfl rfl rfl (segOk [0] rfl rfl rfl rfl) (fun _ => segOk [0] rfl rfl rfl rfl) rfl (Nat.le_of_ble_eq_true rfl) (fun v u5 h => ?_)
    subst h
    refine r_st (st' := [.int (tAns ρ (nOf ρ) z.2.1)]) rfl ?_
    exact r_iret ((u5.1, u5.2.1, u5.2.2.1, u5.2.2.2.1, u5.2.2.2.2)) dX5_doneBy_76 (by unfold oAns; rw [if_neg (by rw [hq4]; decide +kernel), if_neg (by rw [hq4]; decide +kernel), if_pos hq4]) (by unfold oRow; rw [if_neg (by rw [hq4]; decide +kernel), if_neg (by rw [hq4]; decide +kernel), if_pos hq4])
  refine r_lookup (off := 53) 83 dX5_doneBy_30 (by decide +kernel) (lk_cons (lk_ne hq1 (by decide +kernel)) (lk_cons (lk_ne hq2 (by decide +kernel)) (lk_cons (lk_ne hq4 (by decide +kernel)) (lk_nil)))) (by decide) ?_
  refine r_aload_n 0 dX5_doneBy_83 rfl rfl ?_
  refine r_iload_n 2 dX5_doneBy_84 rfl rfl ?_
  refine r_iload_n 3 dX5_doneBy_85 rfl rfl ?_
  refine r_callV2 (As := [.int (z.2.1), .int (z.2.2)]) (st := []) (fun u6 => mdW cA m (dRow ρ z.2.1 z.2.2) P hs α rf u6.1 u6.2.1 u6.2.2.1 u6.2.2.2.1 u6.2.2.2.2 tx tl sp od no ft) [mdW cA m ρ P hs α rf K V C my cm tx tl sp od no ft] [mdW cA m ρ P hs α rf K V C my cm tx tl sp od no ft] [] (fun u6 => [mdW cA m (dRow ρ z.2.1 z.2.2) P hs α rf u6.1 u6.2.1 u6.2.2.1 u6.2.2.2.1 u6.2.2.2.2 tx tl sp od no ft]) (fun u6 => [mdW cA m (dRow ρ z.2.1 z.2.2) P hs α rf u6.1 u6.2.1 u6.2.2.1 u6.2.2.2.1 u6.2.2.2.2 tx tl sp od no ft]) (c_X5_dropOf l D cA cB m ρ P hs α rf K V C my cm tx tl sp od no ft (nOf ρ) (gOf ρ) hI z.2.1 z.2.2) kv_X5_dropOf ml_X5_119 dX5_doneBy_86 rfl rfl rfl rfl (segOk [0] rfl rfl rfl rfl) (fun _ => segOk [0] rfl rfl rfl rfl) rfl (Nat.le_of_ble_eq_true rfl) (fun v u6 h => ?_)
  subst h
  refine r_st (st' := [.int (dAns ρ z.2.1 z.2.2)]) rfl ?_
  exact r_iret ((u6.1, u6.2.1, u6.2.2.1, u6.2.2.2.1, u6.2.2.2.2)) dX5_doneBy_89 (by unfold oAns; rw [if_neg hq1, if_neg hq2, if_neg hq4]) (by unfold oRow; rw [if_neg hq1, if_neg hq2, if_neg hq4])

set_option maxRecDepth 100000 in
set_option maxHeartbeats 4000000 in
theorem lp_X5_does (l : Launch) (D : va_G) (cA cB : ClassId) (m : Nat → Nat) (ρ P : Nat → Int32) (h : Nat) (α rf K V C : Nat → Int32) (my cm : Int32) (tx : Nat → Int32) (tl sp : Nat) (htl : tl ≤ 120) (od : Nat → Int32) (no ft : Int32) (hh : h ≤ 5) (hza : Zro α) (hI : IvR ρ)  (X : Cx) (sz : Nat) : ∀ (od9 : Nat → Int32) (sp9 : Nat) (hO : hasO od9 (rdT tx tl).2) (hn40 : (rdT tx tl).2.length ≤ 40) (hX : rdX tx tl = none) , Zro ρ → ∀ (f i : Nat) (τ : Nat → Int32) (w9 : Sp5), i ≤ (rdT tx tl).2.length → (rdT tx tl).2.length < i + f → IvR τ → runL ((rdT tx tl).2.drop i) τ i = runL (rdT tx tl).2 ρ 0 → G l X ({ frames := 6, cells := 0, slots := 0, locals := 144 } : Room) cX5_does RX5 (some .int) D (tyS cA cB) (va_A (mdW cA m ρ P (nI (h)) α rf K V C my cm tx (nI (tl)) (nI (sp)) od no ft) sz) (QX X D (tyS cA cB) (mdW cA m ρ P (nI (h)) α rf K V C my cm tx (nI (tl)) (nI (sp)) od no ft) sz (Sp5 × (Nat → Int32) × Nat × Nat) (fun w _ => w = some (.int (dsAns tx tl ρ))) (fun u => mdW cA m (dsRow tx tl ρ) (if dsB tx tl ρ = true then lvP P h ρ else P) (nI (if dsB tx tl ρ = true then kpH h else h)) (if rdX tx tl = none then ρ else α) rf u.1.1 u.1.2.1 u.1.2.2.1 u.1.2.2.2.1 u.1.2.2.2.2 tx (nI (tl)) (nI (u.2.2.2)) u.2.1 (nI (u.2.2.1)) (oI (rdX tx tl))) 0 0) 0 0 (mdW cA m τ P (nI (h)) ρ rf w9.1 w9.2.1 w9.2.2.1 w9.2.2.2.1 w9.2.2.2.2 tx (nI (tl)) (nI (sp9)) od9 (nI ((rdT tx tl).2.length)) (-1)) 31 ([some (.ref (m 0)), some (.int (nI i))]) [] := by
  intro od9 sp9 hO hn40 hX hzr f
  induction f with
  | zero => intro i τ w9 h1 h2; omega
  | succ f ih =>
    intro i τ w9 hi hf hT hR
    refine r_iload_n 1 dX5_does_31 rfl rfl ?_
    refine r_aload_n 0 dX5_does_32 rfl rfl ?_
    refine r_get 0 fk_X5_159 dX5_does_33 rfl rfl ?_
    refine r_ncmp_ge 63 (by omega) (by omega) dX5_does_36 (by decide) (fun hq1 => ?_) (fun hq1 => ?_)
    · refine r_aload_n 0 dX5_does_63 rfl rfl ?_
      refine r_callV2 (As := []) (st := []) (fun _ => mdW cA m τ (lvP P h ρ) (nI (kpH h)) ρ rf w9.1 w9.2.1 w9.2.2.1 w9.2.2.2.1 w9.2.2.2.2 tx (nI (tl)) (nI (sp9)) od9 (nI ((rdT tx tl).2.length)) (-1)) [mdW cA m τ P (nI (h)) ρ rf w9.1 w9.2.1 w9.2.2.1 w9.2.2.2.1 w9.2.2.2.2 tx (nI (tl)) (nI (sp9)) od9 (nI ((rdT tx tl).2.length)) (-1)] [mdW cA m τ P (nI (h)) ρ rf w9.1 w9.2.1 w9.2.2.1 w9.2.2.2.1 w9.2.2.2.2 tx (nI (tl)) (nI (sp9)) od9 (nI ((rdT tx tl).2.length)) (-1)] [] (fun _ => [mdW cA m τ (lvP P h ρ) (nI (kpH h)) ρ rf w9.1 w9.2.1 w9.2.2.1 w9.2.2.2.1 w9.2.2.2.2 tx (nI (tl)) (nI (sp9)) od9 (nI ((rdT tx tl).2.length)) (-1)]) (fun _ => [mdW cA m τ (lvP P h ρ) (nI (kpH h)) ρ rf w9.1 w9.2.1 w9.2.2.1 w9.2.2.2.1 w9.2.2.2.2 tx (nI (tl)) (nI (sp9)) od9 (nI ((rdT tx tl).2.length)) (-1)]) (c_X5_leaves l D cA cB m τ P (h) ρ rf w9.1 w9.2.1 w9.2.2.1 w9.2.2.2.1 w9.2.2.2.2 tx (nI (tl)) (nI (sp9)) od9 (nI ((rdT tx tl).2.length)) (-1) hh) kv_X5_leaves ml_X5_104 dX5_does_64 rfl rfl rfl rfl (segOk [0] rfl rfl rfl rfl) (fun _ => segOk [0] rfl rfl rfl rfl) rfl (Nat.le_of_ble_eq_true rfl) (fun v u h => ?_)
      subst h
      refine r_st (st' := []) rfl ?_
      refine r_aload_n 0 dX5_does_67 rfl rfl ?_
      refine r_get 0 fk_X5_159 dX5_does_68 rfl rfl ?_
      exact r_iret (((w9.1, w9.2.1, w9.2.2.1, w9.2.2.2.1, w9.2.2.2.2), od9, (rdT tx tl).2.length, sp9)) dX5_does_71 (by have hr : runL (rdT tx tl).2 ρ 0 = (τ, none) := (by rw [← hR, List.drop_eq_nil_of_le (by omega)]; rfl); unfold dsAns; rw [hX]; dsimp only; rw [hr]) (by have hr : runL (rdT tx tl).2 ρ 0 = (τ, none) := (by rw [← hR, List.drop_eq_nil_of_le (by omega)]; rfl); have hb : dsB tx tl ρ = true := (by unfold dsB; rw [hX]; dsimp only; rw [hr]); unfold dsRow; rw [if_pos hb, if_pos hb, if_pos hb, if_pos hX, hX, hr]; rfl)
    · have hil : i < (rdT tx tl).2.length := hq1
      have hdr := List.drop_eq_getElem_cons hil
      have hstep : runL ((rdT tx tl).2[i] :: (rdT tx tl).2.drop (i + 1)) τ i = runL (rdT tx tl).2 ρ 0 := by rw [← hdr]; exact hR
      refine r_aload_n 0 dX5_does_39 rfl rfl ?_
      refine r_iload_n 1 dX5_does_40 rfl rfl ?_
      refine r_callV2 (As := [.int (nI i)]) (st := []) (fun u2 => mdW cA m (oRow τ (rdT tx tl).2[i]) P (nI (h)) ρ rf u2.1 u2.2.1 u2.2.2.1 u2.2.2.2.1 u2.2.2.2.2 tx (nI (tl)) (nI (sp9)) od9 (nI ((rdT tx tl).2.length)) (-1)) [mdW cA m τ P (nI (h)) ρ rf w9.1 w9.2.1 w9.2.2.1 w9.2.2.2.1 w9.2.2.2.2 tx (nI (tl)) (nI (sp9)) od9 (nI ((rdT tx tl).2.length)) (-1)] [mdW cA m τ P (nI (h)) ρ rf w9.1 w9.2.1 w9.2.2.1 w9.2.2.2.1 w9.2.2.2.2 tx (nI (tl)) (nI (sp9)) od9 (nI ((rdT tx tl).2.length)) (-1)] [] (fun u2 => [mdW cA m (oRow τ (rdT tx tl).2[i]) P (nI (h)) ρ rf u2.1 u2.2.1 u2.2.2.1 u2.2.2.2.1 u2.2.2.2.2 tx (nI (tl)) (nI (sp9)) od9 (nI ((rdT tx tl).2.length)) (-1)]) (fun u2 => [mdW cA m (oRow τ (rdT tx tl).2[i]) P (nI (h)) ρ rf u2.1 u2.2.1 u2.2.2.1 u2.2.2.2.1 u2.2.2.2.2 tx (nI (tl)) (nI (sp9)) od9 (nI ((rdT tx tl).2.length)) (-1)]) (c_X5_doneBy l D cA cB m τ P (nI (h)) ρ rf w9.1 w9.2.1 w9.2.2.1 w9.2.2.2.1 w9.2.2.2.2 tx (nI (tl)) (nI (sp9)) od9 (nI ((rdT tx tl).2.length)) (-1) hT i (by omega) (rdT tx tl).2[i] (hO i _ (List.getElem?_eq_getElem hil))) kv_X5_doneBy ml_X5_168 dX5_does_41 rfl rfl rfl rfl (segOk [0] rfl rfl rfl rfl) (fun _ => segOk [0] rfl rfl rfl rfl) rfl (Nat.le_of_ble_eq_true rfl) (fun v u2 h => ?_)
      subst h
      refine r_st (st' := [.int (oAns τ (rdT tx tl).2[i])]) rfl ?_
      by_cases e : oRf τ (rdT tx tl).2[i] = 0
      · refine r_if_ge 57 dX5_does_44 (by decide) (fun hq3 => ?_) (fun hq3 => ?_)
        · refine r_iinc (v := nI (i + 1)) ([some (.ref (m 0)), some (.int (nI (i + 1)))]) dX5_does_57 rfl (nI_1 _) (Nat.le_of_ble_eq_true rfl) rfl rfl ?_
          refine r_goto 31 dX5_does_60 (by decide) ?_
          exact ih (i + 1) _ _ (by omega) (by omega) (oRow_iv hT _) (by rw [← hstep]; exact (if_pos e).symm)
        · exact absurd (oAns_nn hT e) hq3
      · refine r_if_ge 57 dX5_does_44 (by decide) (fun hq4 => ?_) (fun hq4 => ?_)
        · exact absurd hq4 (Int32.not_le.mpr (oAns_lt e).1)
        · refine r_aload_n 0 dX5_does_47 rfl rfl ?_
          refine r_callV2 (As := []) (st := []) (fun _ => mdW cA m ρ P (nI (h)) ρ rf u2.1 u2.2.1 u2.2.2.1 u2.2.2.2.1 u2.2.2.2.2 tx (nI (tl)) (nI (sp9)) od9 (nI ((rdT tx tl).2.length)) (-1)) [mdW cA m (oRow τ (rdT tx tl).2[i]) P (nI (h)) ρ rf u2.1 u2.2.1 u2.2.2.1 u2.2.2.2.1 u2.2.2.2.2 tx (nI (tl)) (nI (sp9)) od9 (nI ((rdT tx tl).2.length)) (-1)] [mdW cA m (oRow τ (rdT tx tl).2[i]) P (nI (h)) ρ rf u2.1 u2.2.1 u2.2.2.1 u2.2.2.2.1 u2.2.2.2.2 tx (nI (tl)) (nI (sp9)) od9 (nI ((rdT tx tl).2.length)) (-1)] [] (fun _ => [mdW cA m ρ P (nI (h)) ρ rf u2.1 u2.2.1 u2.2.2.1 u2.2.2.2.1 u2.2.2.2.2 tx (nI (tl)) (nI (sp9)) od9 (nI ((rdT tx tl).2.length)) (-1)]) (fun _ => [mdW cA m ρ P (nI (h)) ρ rf u2.1 u2.2.1 u2.2.2.1 u2.2.2.2.1 u2.2.2.2.2 tx (nI (tl)) (nI (sp9)) od9 (nI ((rdT tx tl).2.length)) (-1)]) (c_X5_comesBack l D cA cB m (oRow τ (rdT tx tl).2[i]) P (nI (h)) ρ rf u2.1 u2.2.1 u2.2.2.1 u2.2.2.2.1 u2.2.2.2.2 tx (nI (tl)) (nI (sp9)) od9 (nI ((rdT tx tl).2.length)) (-1) (oRow_iv hT _).2.2.2.2.2.2.2.2 hzr) kv_X5_comesBack ml_X5_171 dX5_does_48 rfl rfl rfl rfl (segOk [0] rfl rfl rfl rfl) (fun _ => segOk [0] rfl rfl rfl rfl) rfl (Nat.le_of_ble_eq_true rfl) (fun v u h => ?_)
          subst h
          refine r_st (st' := []) rfl ?_
          refine r_sipush (-1000) dX5_does_51 (by decide +kernel) ?_
          refine r_iload_n 1 dX5_does_54 rfl rfl ?_
          refine r_isub dX5_does_55 ?_
          exact r_iret (((u2.1, u2.2.1, u2.2.2.1, u2.2.2.2.1, u2.2.2.2.2), od9, (rdT tx tl).2.length, sp9)) dX5_does_56 (by have hr : (runL (rdT tx tl).2 ρ 0).2 = some i := (by rw [← hstep]; unfold runL; rw [if_neg e]); unfold dsAns; rw [hX]; dsimp only; rw [hr]) (by have hr : (runL (rdT tx tl).2 ρ 0).2 = some i := (by rw [← hstep]; unfold runL; rw [if_neg e]); have hb : ¬ dsB tx tl ρ = true := (by unfold dsB; rw [hX]; dsimp only; rw [hr]; exact Bool.noConfusion); unfold dsRow; rw [if_neg hb, if_neg hb, if_neg hb, if_pos hX, hX]; rfl)

set_option maxRecDepth 100000 in
set_option maxHeartbeats 4000000 in
theorem c_X5_does (l : Launch) (D : va_G) (cA cB : ClassId) (m : Nat → Nat) (ρ P : Nat → Int32) (h : Nat) (α rf K V C : Nat → Int32) (my cm : Int32) (tx : Nat → Int32) (tl sp : Nat) (htl : tl ≤ 120) (od : Nat → Int32) (no ft : Int32) (hh : h ≤ 5) (hza : Zro α) (hI : IvR ρ)  : Mt l D (tyS cA cB) yX5_does cX5_does 2 (some .int) ({ frames := 6, cells := 0, slots := 0, locals := 144 } : Room) [.ref (m 0)] (mdW cA m ρ P (nI (h)) α rf K V C my cm tx (nI (tl)) (nI (sp)) od no ft) (Sp5 × (Nat → Int32) × Nat × Nat) (fun w _ => w = some (.int (dsAns tx tl ρ))) (fun u => mdW cA m (dsRow tx tl ρ) (if dsB tx tl ρ = true then lvP P h ρ else P) (nI (if dsB tx tl ρ = true then kpH h else h)) (if rdX tx tl = none then ρ else α) rf u.1.1 u.1.2.1 u.1.2.2.1 u.1.2.2.2.1 u.1.2.2.2.2 tx (nI (tl)) (nI (u.2.2.2)) u.2.1 (nI (u.2.2.1)) (oI (rdX tx tl))) 0 0 := by
  refine mt_in RX5 ([some (.ref (m 0)), none]) rfl (by decide +kernel) rfl (Nat.le_of_ble_eq_true rfl) rfl rfl (fun X sz => ?_)
  refine r_aload_n 0 dX5_does_0 rfl rfl ?_
  refine r_iconst (nI 0) dX5_does_1 (by decide +kernel) ?_
  refine r_put 0 (mdW cA m ρ P (nI (h)) α rf K V C my cm tx (nI (tl)) (nI (sp)) od no ft) fk_X5_37 dX5_does_2 rfl rfl rfl rfl (Nat.le_of_ble_eq_true rfl) rfl ?_
  refine r_aload_n 0 dX5_does_5 rfl rfl ?_
  refine r_callV2 (As := []) (st := []) (fun u1 => mdW cA m ρ P (nI (h)) α rf K V C my cm tx (nI (tl)) (nI (u1.2.2)) u1.1 (nI (u1.2.1)) (oI (rdX tx tl))) [mdW cA m ρ P (nI (h)) α rf K V C my cm tx (nI (tl)) (nI (sp)) od no ft] [mdW cA m ρ P (nI (h)) α rf K V C my cm tx (nI (tl)) (nI (sp)) od no ft] [] (fun u1 => [mdW cA m ρ P (nI (h)) α rf K V C my cm tx (nI (tl)) (nI (u1.2.2)) u1.1 (nI (u1.2.1)) (oI (rdX tx tl))]) (fun u1 => [mdW cA m ρ P (nI (h)) α rf K V C my cm tx (nI (tl)) (nI (u1.2.2)) u1.1 (nI (u1.2.1)) (oI (rdX tx tl))]) (c_X5_reads l D cA cB m ρ P (nI (h)) α rf K V C my cm tx tl sp htl od no ft) kv_X5_reads ml_X5_165 dX5_does_6 rfl rfl rfl rfl (segOk [0] rfl rfl rfl rfl) (fun _ => segOk [0] rfl rfl rfl rfl) rfl (Nat.le_of_ble_eq_true rfl) (fun v u1 h => ?_)
  obtain ⟨rfl, hRO, hn40, hsp9⟩ := h
  refine r_st (st' := []) rfl ?_
  have hzr := hI.2.2.2.2.2.2.2.2
  rcases opt_cases (rdX tx tl) with hX | ⟨x, hX⟩
  · obtain ⟨hO, hno⟩ := hRO hX
    refine r_ws (ws' := mdW cA m ρ P (nI (h)) α rf K V C my cm tx (nI (tl)) (nI (u1.2.2)) u1.1 (nI ((rdT tx tl).2.length)) (-1)) (by rw [hX, hno]; rfl) ?_
    refine r_aload_n 0 dX5_does_9 rfl rfl ?_
    refine r_get 0 fk_X5_146 dX5_does_10 rfl rfl ?_
    refine r_iconst (-1) dX5_does_13 (by decide +kernel) ?_
    refine r_icmp_eq 25 dX5_does_14 (by decide) (fun hq2 => ?_) (fun hq2 => ?_)
    · refine r_aload_n 0 dX5_does_25 rfl rfl ?_
      refine r_callV2 (As := []) (st := []) (fun _ => mdW cA m ρ P (nI (h)) ρ rf K V C my cm tx (nI (tl)) (nI (u1.2.2)) u1.1 (nI ((rdT tx tl).2.length)) (-1)) [mdW cA m ρ P (nI (h)) α rf K V C my cm tx (nI (tl)) (nI (u1.2.2)) u1.1 (nI ((rdT tx tl).2.length)) (-1)] [mdW cA m ρ P (nI (h)) α rf K V C my cm tx (nI (tl)) (nI (u1.2.2)) u1.1 (nI ((rdT tx tl).2.length)) (-1)] [] (fun _ => [mdW cA m ρ P (nI (h)) ρ rf K V C my cm tx (nI (tl)) (nI (u1.2.2)) u1.1 (nI ((rdT tx tl).2.length)) (-1)]) (fun _ => [mdW cA m ρ P (nI (h)) ρ rf K V C my cm tx (nI (tl)) (nI (u1.2.2)) u1.1 (nI ((rdT tx tl).2.length)) (-1)]) (c_X5_laysAside l D cA cB m ρ P (nI (h)) α rf K V C my cm tx (nI (tl)) (nI (u1.2.2)) u1.1 (nI ((rdT tx tl).2.length)) (-1) hzr hza) kv_X5_laysAside ml_X5_107 dX5_does_26 rfl rfl rfl rfl (segOk [0] rfl rfl rfl rfl) (fun _ => segOk [0] rfl rfl rfl rfl) rfl (Nat.le_of_ble_eq_true rfl) (fun v u h => ?_)
      subst h
      refine r_st (st' := []) rfl ?_
      refine r_iconst (nI 0) dX5_does_29 (by decide +kernel) ?_
      refine r_istore_n 1 ([some (.ref (m 0)), some (.int (nI 0))]) dX5_does_30 rfl (Nat.le_of_ble_eq_true rfl) rfl rfl ?_
      refine r_ws (ws' := mdW cA m ρ P (nI (h)) ρ rf ((K, V, C, my, cm).1) ((K, V, C, my, cm).2.1) ((K, V, C, my, cm).2.2.1) ((K, V, C, my, cm).2.2.2.1) ((K, V, C, my, cm).2.2.2.2) tx (nI (tl)) (nI (u1.2.2)) u1.1 (nI ((rdT tx tl).2.length)) (-1)) rfl ?_
      exact lp_X5_does l D cA cB m ρ P h α rf K V C my cm tx tl sp htl od no ft hh hza hI X sz u1.1 u1.2.2 hO (by omega) hX hzr ((rdT tx tl).2.length + 1) 0 ρ (K, V, C, my, cm) (by omega) (by omega) hI rfl
    · exact absurd rfl hq2
  · have hxle := rdX_le hX
    refine r_ws (ws' := mdW cA m ρ P (nI (h)) α rf K V C my cm tx (nI (tl)) (nI (u1.2.2)) u1.1 (nI (u1.2.1)) (nI (x))) (by rw [hX]; rfl) ?_
    refine r_aload_n 0 dX5_does_9 rfl rfl ?_
    refine r_get 0 fk_X5_146 dX5_does_10 rfl rfl ?_
    refine r_iconst (-1) dX5_does_13 (by decide +kernel) ?_
    refine r_icmp_eq 25 dX5_does_14 (by decide) (fun hq3 => ?_) (fun hq3 => ?_)
    · exact absurd hq3 (nI_ne_m1 (by omega))
    · refine r_bipush (-10) dX5_does_17 (by decide +kernel) ?_
      refine r_aload_n 0 dX5_does_19 rfl rfl ?_
      refine r_get 0 fk_X5_146 dX5_does_20 rfl rfl ?_
      refine r_isub dX5_does_23 ?_
      exact r_iret (((K, V, C, my, cm), u1.1, u1.2.1, u1.2.2)) dX5_does_24 (by unfold dsAns; rw [hX]) (by have hb : ¬ dsB tx tl ρ = true := (by unfold dsB; rw [hX]; exact Bool.noConfusion); unfold dsRow; rw [if_neg hb, if_neg hb, if_neg hb, if_neg (by rw [hX]; exact fun z => nomatch z), hX]; rfl)

