/-- what the model's reading leaves: fault and orders, a list of them in the array -/
def hasO (od : Nat → Int32) (L : List (Int32 × Int32 × Int32)) : Prop := ∀ (i : Nat) (z : Int32 × Int32 × Int32), L[i]? = some z → od (3 * i) = z.1 ∧ od (3 * i + 1) = z.2.1 ∧ od (3 * i + 2) = z.2.2
theorem hasO_s {od : Nat → Int32} {L : List (Int32 × Int32 × Int32)} {z : Int32 × Int32 × Int32} (h : hasO od L) : hasO (upd (upd (upd od (3 * L.length) z.1) (3 * L.length + 1) z.2.1) (3 * L.length + 2) z.2.2) (L ++ [z]) := by
  intro i y hy
  rcases Nat.lt_trichotomy i L.length with e | e | e
  · rw [List.getElem?_append_left e] at hy
    have := h i y hy
    rw [upd_n _ _ (by omega), upd_n _ _ (by omega), upd_n _ _ (by omega), upd_n _ _ (by omega), upd_n _ _ (by omega), upd_n _ _ (by omega), upd_n _ _ (by omega), upd_n _ _ (by omega), upd_n _ _ (by omega)]
    exact this
  · subst e
    rw [List.getElem?_append_right (Nat.le_refl _), Nat.sub_self] at hy
    cases hy
    rw [upd_n _ _ (by omega), upd_n _ _ (by omega), upd_s, upd_n _ _ (by omega), upd_s, upd_s]
    exact ⟨rfl, rfl, rfl⟩
  · rw [List.getElem?_eq_none (by simp; omega)] at hy; cases hy
def rdT (tx : Nat → Int32) (tl : Nat) : Option Nat × List (Int32 × Int32 × Int32) := rdsF tx tl 121 (blkF tx (tl - 0) 0)
/-- the fault as it is told -/
def rdX (tx : Nat → Int32) (tl : Nat) : Option Nat := match (rdT tx tl).1 with
  | some f => some f
  | none => if (rdT tx tl).2 = [] then some tl else none
set_option maxRecDepth 100000 in
set_option maxHeartbeats 4000000 in
theorem c_X5_readsOrder (l : Launch) (D : va_G) (cA cB : ClassId) (m : Nat → Nat) (ρ P : Nat → Int32) (hs : Int32) (α rf K V C : Nat → Int32) (my cm : Int32) (tx : Nat → Int32) (tl sp : Nat) (htl : tl ≤ 120) (od : Nat → Int32) (k : Nat) (hk : k < 60) (ft : Int32) (hsp : sp < tl) : Mt l D (tyS cA cB) yX5_readsOrder cX5_readsOrder 5 none ({ frames := 3, cells := 0, slots := 0, locals := 64 } : Room) [.ref (m 0)] (mdW cA m ρ P hs α rf K V C my cm tx (nI (tl)) (nI (sp)) od (nI (k)) (-1)) Unit (fun v _ => v = none) (fun _ => mdW cA m ρ P hs α rf K V C my cm tx (nI (tl)) (nI ((roF tx tl sp).1)) (odF od k (roF tx tl sp)) (nI (odK k (roF tx tl sp))) (oI (roF tx tl sp).2.1)) 0 0 := by
  refine mt_in RX5 ([some (.ref (m 0)), none, none, none, none]) rfl (by decide +kernel) rfl (Nat.le_of_ble_eq_true rfl) rfl rfl (fun X sz => ?_)
  have h1 := nmF_le (tx := tx) (tl := tl) (p := sp + 1) (ft := none) (by omega)
  have f1 := nmF_f (tx := tx) (tl := tl) (p := sp + 1) (ft := none) (by omega) nof
  have h2 := nmF_le (tx := tx) (tl := tl) (p := (nmF tx tl (sp + 1) none).1) (ft := (nmF tx tl (sp + 1) none).2.2) (by omega)
  have f2 := nmF_f (tx := tx) (tl := tl) (p := (nmF tx tl (sp + 1) none).1) (ft := (nmF tx tl (sp + 1) none).2.2) (by omega) f1
  have hro := roF_le (tx := tx) hsp
  refine r_aload_n 0 dX5_readsOrder_0 rfl rfl ?_
  refine r_get 0 fk_X5_31 dX5_readsOrder_1 rfl rfl ?_
  refine r_aload_n 0 dX5_readsOrder_4 rfl rfl ?_
  refine r_get 0 fk_X5_140 dX5_readsOrder_5 rfl rfl ?_
  refine r_iald 8 (sp) dX5_readsOrder_8 rfl rfl rfl (by omega) (Nat.le_of_ble_eq_true rfl) ?_
  refine r_istore_n 1 ([some (.ref (m 0)), some (.int (tx sp)), none, none, none]) dX5_readsOrder_9 rfl (Nat.le_of_ble_eq_true rfl) rfl rfl ?_
  refine r_iload_n 1 dX5_readsOrder_10 rfl rfl ?_
  refine r_bipush (nI 112) dX5_readsOrder_11 (by decide +kernel) ?_
  refine r_icmp_eq 22 dX5_readsOrder_13 (by decide) (fun hq1 => ?_) (fun hq1 => ?_)
  · refine r_iconst (nI 1) dX5_readsOrder_22 (by decide +kernel) ?_
    refine r_goto 27 dX5_readsOrder_23 (by decide) ?_
    refine r_istore_n 2 ([some (.ref (m 0)), some (.int (tx sp)), some (.int (nI 1)), none, none]) dX5_readsOrder_27 rfl (Nat.le_of_ble_eq_true rfl) rfl rfl ?_
    refine r_iload_n 2 dX5_readsOrder_28 rfl rfl ?_
    refine r_if_ne 53 dX5_readsOrder_29 (by decide) (fun hq2 => ?_) (fun hq2 => ?_)
    · refine r_aload_n 0 dX5_readsOrder_53 rfl rfl ?_
      refine r_dup rfl dX5_readsOrder_54 ?_
      refine r_get 0 fk_X5_140 dX5_readsOrder_55 rfl rfl ?_
      refine r_iconst (nI 1) dX5_readsOrder_58 (by decide +kernel) ?_
      refine r_niadd dX5_readsOrder_59 ?_
      refine r_put 0 (mdW cA m ρ P hs α rf K V C my cm tx (nI (tl)) (nI (sp + 1)) od (nI (k)) (-1)) fk_X5_140 dX5_readsOrder_60 rfl rfl rfl rfl (Nat.le_of_ble_eq_true rfl) rfl ?_
      refine r_aload_n 0 dX5_readsOrder_63 rfl rfl ?_
      refine r_callV2 (As := []) (st := []) (fun _ => mdW cA m ρ P hs α rf K V C my cm tx (nI (tl)) (nI ((nmF tx tl (sp + 1) none).1)) od (nI (k)) (oI (nmF tx tl (sp + 1) none).2.2)) [mdW cA m ρ P hs α rf K V C my cm tx (nI (tl)) (nI (sp + 1)) od (nI (k)) (-1)] [mdW cA m ρ P hs α rf K V C my cm tx (nI (tl)) (nI (sp + 1)) od (nI (k)) (-1)] [] (fun _ => [mdW cA m ρ P hs α rf K V C my cm tx (nI (tl)) (nI ((nmF tx tl (sp + 1) none).1)) od (nI (k)) (oI (nmF tx tl (sp + 1) none).2.2)]) (fun _ => [mdW cA m ρ P hs α rf K V C my cm tx (nI (tl)) (nI ((nmF tx tl (sp + 1) none).1)) od (nI (k)) (oI (nmF tx tl (sp + 1) none).2.2)]) (c_X5_number l D cA cB m ρ P hs α rf K V C my cm tx tl (sp + 1) htl od (nI (k)) none (by omega) (nof)) kv_X5_number ml_X5_153 dX5_readsOrder_64 rfl rfl rfl rfl (segOk [0] rfl rfl rfl rfl) (fun _ => segOk [0] rfl rfl rfl rfl) rfl (Nat.le_of_ble_eq_true rfl) (fun v u h => ?_)
      subst h
      refine r_st (st' := [.int ((nmF tx tl (sp + 1) none).2.1)]) rfl ?_
      refine r_istore_n 3 ([some (.ref (m 0)), some (.int (tx sp)), some (.int (nI 1)), some (.int ((nmF tx tl (sp + 1) none).2.1)), none]) dX5_readsOrder_67 rfl (Nat.le_of_ble_eq_true rfl) rfl rfl ?_
      refine r_iload_n 2 dX5_readsOrder_68 rfl rfl ?_
      refine r_if_eq 79 dX5_readsOrder_69 (by decide) (fun hq3 => ?_) (fun hq3 => ?_)
      · exact absurd hq3 (by decide +kernel)
      · refine r_aload_n 0 dX5_readsOrder_72 rfl rfl ?_
        refine r_callV2 (As := []) (st := []) (fun _ => mdW cA m ρ P hs α rf K V C my cm tx (nI (tl)) (nI ((nmF tx tl ((nmF tx tl (sp + 1) none).1) ((nmF tx tl (sp + 1) none).2.2)).1)) od (nI (k)) (oI (nmF tx tl ((nmF tx tl (sp + 1) none).1) ((nmF tx tl (sp + 1) none).2.2)).2.2)) [mdW cA m ρ P hs α rf K V C my cm tx (nI (tl)) (nI ((nmF tx tl (sp + 1) none).1)) od (nI (k)) (oI (nmF tx tl (sp + 1) none).2.2)] [mdW cA m ρ P hs α rf K V C my cm tx (nI (tl)) (nI ((nmF tx tl (sp + 1) none).1)) od (nI (k)) (oI (nmF tx tl (sp + 1) none).2.2)] [] (fun _ => [mdW cA m ρ P hs α rf K V C my cm tx (nI (tl)) (nI ((nmF tx tl ((nmF tx tl (sp + 1) none).1) ((nmF tx tl (sp + 1) none).2.2)).1)) od (nI (k)) (oI (nmF tx tl ((nmF tx tl (sp + 1) none).1) ((nmF tx tl (sp + 1) none).2.2)).2.2)]) (fun _ => [mdW cA m ρ P hs α rf K V C my cm tx (nI (tl)) (nI ((nmF tx tl ((nmF tx tl (sp + 1) none).1) ((nmF tx tl (sp + 1) none).2.2)).1)) od (nI (k)) (oI (nmF tx tl ((nmF tx tl (sp + 1) none).1) ((nmF tx tl (sp + 1) none).2.2)).2.2)]) (c_X5_number l D cA cB m ρ P hs α rf K V C my cm tx tl ((nmF tx tl (sp + 1) none).1) htl od (nI (k)) ((nmF tx tl (sp + 1) none).2.2) (by omega) (f1)) kv_X5_number ml_X5_153 dX5_readsOrder_73 rfl rfl rfl rfl (segOk [0] rfl rfl rfl rfl) (fun _ => segOk [0] rfl rfl rfl rfl) rfl (Nat.le_of_ble_eq_true rfl) (fun v u h => ?_)
        subst h
        refine r_st (st' := [.int ((nmF tx tl ((nmF tx tl (sp + 1) none).1) ((nmF tx tl (sp + 1) none).2.2)).2.1)]) rfl ?_
        refine r_goto 80 dX5_readsOrder_76 (by decide) ?_
        refine r_istore ([some (.ref (m 0)), some (.int (tx sp)), some (.int (nI 1)), some (.int ((nmF tx tl (sp + 1) none).2.1)), some (.int ((nmF tx tl ((nmF tx tl (sp + 1) none).1) ((nmF tx tl (sp + 1) none).2.2)).2.1))]) dX5_readsOrder_80 (Nat.le_of_ble_eq_true rfl) rfl rfl ?_
        refine r_aload_n 0 dX5_readsOrder_82 rfl rfl ?_
        refine r_bipush (nI 59) dX5_readsOrder_83 (by decide +kernel) ?_
        refine r_callV2 (As := [.int (nI 59)]) (st := []) (fun _ => mdW cA m ρ P hs α rf K V C my cm tx (nI (tl)) (nI ((sgF tx tl ((nmF tx tl ((nmF tx tl (sp + 1) none).1) ((nmF tx tl (sp + 1) none).2.2)).1) ((nmF tx tl ((nmF tx tl (sp + 1) none).1) ((nmF tx tl (sp + 1) none).2.2)).2.2)).1)) od (nI (k)) (oI (sgF tx tl ((nmF tx tl ((nmF tx tl (sp + 1) none).1) ((nmF tx tl (sp + 1) none).2.2)).1) ((nmF tx tl ((nmF tx tl (sp + 1) none).1) ((nmF tx tl (sp + 1) none).2.2)).2.2)).2)) [mdW cA m ρ P hs α rf K V C my cm tx (nI (tl)) (nI ((nmF tx tl ((nmF tx tl (sp + 1) none).1) ((nmF tx tl (sp + 1) none).2.2)).1)) od (nI (k)) (oI (nmF tx tl ((nmF tx tl (sp + 1) none).1) ((nmF tx tl (sp + 1) none).2.2)).2.2)] [mdW cA m ρ P hs α rf K V C my cm tx (nI (tl)) (nI ((nmF tx tl ((nmF tx tl (sp + 1) none).1) ((nmF tx tl (sp + 1) none).2.2)).1)) od (nI (k)) (oI (nmF tx tl ((nmF tx tl (sp + 1) none).1) ((nmF tx tl (sp + 1) none).2.2)).2.2)] [] (fun _ => [mdW cA m ρ P hs α rf K V C my cm tx (nI (tl)) (nI ((sgF tx tl ((nmF tx tl ((nmF tx tl (sp + 1) none).1) ((nmF tx tl (sp + 1) none).2.2)).1) ((nmF tx tl ((nmF tx tl (sp + 1) none).1) ((nmF tx tl (sp + 1) none).2.2)).2.2)).1)) od (nI (k)) (oI (sgF tx tl ((nmF tx tl ((nmF tx tl (sp + 1) none).1) ((nmF tx tl (sp + 1) none).2.2)).1) ((nmF tx tl ((nmF tx tl (sp + 1) none).1) ((nmF tx tl (sp + 1) none).2.2)).2.2)).2)]) (fun _ => [mdW cA m ρ P hs α rf K V C my cm tx (nI (tl)) (nI ((sgF tx tl ((nmF tx tl ((nmF tx tl (sp + 1) none).1) ((nmF tx tl (sp + 1) none).2.2)).1) ((nmF tx tl ((nmF tx tl (sp + 1) none).1) ((nmF tx tl (sp + 1) none).2.2)).2.2)).1)) od (nI (k)) (oI (sgF tx tl ((nmF tx tl ((nmF tx tl (sp + 1) none).1) ((nmF tx tl (sp + 1) none).2.2)).1) ((nmF tx tl ((nmF tx tl (sp + 1) none).1) ((nmF tx tl (sp + 1) none).2.2)).2.2)).2)]) (c_X5_sign l D cA cB m ρ P hs α rf K V C my cm tx tl ((nmF tx tl ((nmF tx tl (sp + 1) none).1) ((nmF tx tl (sp + 1) none).2.2)).1) htl od (nI (k)) ((nmF tx tl ((nmF tx tl (sp + 1) none).1) ((nmF tx tl (sp + 1) none).2.2)).2.2) (by omega) (f2)) kv_X5_sign ml_X5_156 dX5_readsOrder_85 rfl rfl rfl rfl (segOk [0] rfl rfl rfl rfl) (fun _ => segOk [0] rfl rfl rfl rfl) rfl (Nat.le_of_ble_eq_true rfl) (fun v u h => ?_)
        subst h
        refine r_st (st' := []) rfl ?_
        have hk2 : numOf (tx sp) = 2 := by rw [hq1]; rfl
        have hroe : roF tx tl sp = ((sgF tx tl ((nmF tx tl ((nmF tx tl (sp + 1) none).1) ((nmF tx tl (sp + 1) none).2.2)).1) ((nmF tx tl ((nmF tx tl (sp + 1) none).1) ((nmF tx tl (sp + 1) none).2.2)).2.2)).1, (sgF tx tl ((nmF tx tl ((nmF tx tl (sp + 1) none).1) ((nmF tx tl (sp + 1) none).2.2)).1) ((nmF tx tl ((nmF tx tl (sp + 1) none).1) ((nmF tx tl (sp + 1) none).2.2)).2.2)).2, tx sp, (nmF tx tl (sp + 1) none).2.1, (nmF tx tl (nmF tx tl (sp + 1) none).1 (nmF tx tl (sp + 1) none).2.2).2.1) := by unfold roF; rw [if_neg (by omega), if_pos hk2]
        have hff : ∀ f, ((sgF tx tl ((nmF tx tl ((nmF tx tl (sp + 1) none).1) ((nmF tx tl (sp + 1) none).2.2)).1) ((nmF tx tl ((nmF tx tl (sp + 1) none).1) ((nmF tx tl (sp + 1) none).2.2)).2.2)).2) = some f → f ≤ tl := fun f e => hro.2.2 f (by rw [hroe]; exact e)
        refine r_aload_n 0 dX5_readsOrder_88 rfl rfl ?_
        refine r_get 0 fk_X5_146 dX5_readsOrder_89 rfl rfl ?_
        refine r_iconst (-1) dX5_readsOrder_92 (by decide +kernel) ?_
        refine r_icmp_ne 147 dX5_readsOrder_93 (by decide) (fun hq4 => ?_) (fun hq4 => ?_)
        · exact r_vret (()) dX5_readsOrder_147 (rfl) (by unfold odF odK; rw [hroe]; dsimp only; rw [if_neg (fun z => hq4 (by rw [z]; rfl)), if_neg (fun z => hq4 (by rw [z]; rfl))])
        · refine r_aload_n 0 dX5_readsOrder_96 rfl rfl ?_
          refine r_get 0 fk_X5_34 dX5_readsOrder_97 rfl rfl ?_
          refine r_iconst (nI 3) dX5_readsOrder_100 (by decide +kernel) ?_
          refine r_aload_n 0 dX5_readsOrder_101 rfl rfl ?_
          refine r_get 0 fk_X5_159 dX5_readsOrder_102 rfl rfl ?_
          refine r_nimul dX5_readsOrder_105 ?_
          refine r_iload_n 1 dX5_readsOrder_106 rfl rfl ?_
          refine r_iast 9 (3 * k) (mdW cA m ρ P hs α rf K V C my cm tx (nI (tl)) (nI ((sgF tx tl ((nmF tx tl ((nmF tx tl (sp + 1) none).1) ((nmF tx tl (sp + 1) none).2.2)).1) ((nmF tx tl ((nmF tx tl (sp + 1) none).1) ((nmF tx tl (sp + 1) none).2.2)).2.2)).1)) (upd od (3 * k) (tx sp)) (nI (k)) (oI (sgF tx tl ((nmF tx tl ((nmF tx tl (sp + 1) none).1) ((nmF tx tl (sp + 1) none).2.2)).1) ((nmF tx tl ((nmF tx tl (sp + 1) none).1) ((nmF tx tl (sp + 1) none).2.2)).2.2)).2)) dX5_readsOrder_107 rfl rfl rfl (by omega) (Nat.le_of_ble_eq_true rfl) rfl ?_
          refine r_aload_n 0 dX5_readsOrder_108 rfl rfl ?_
          refine r_get 0 fk_X5_34 dX5_readsOrder_109 rfl rfl ?_
          refine r_iconst (nI 3) dX5_readsOrder_112 (by decide +kernel) ?_
          refine r_aload_n 0 dX5_readsOrder_113 rfl rfl ?_
          refine r_get 0 fk_X5_159 dX5_readsOrder_114 rfl rfl ?_
          refine r_nimul dX5_readsOrder_117 ?_
          refine r_iconst (nI 1) dX5_readsOrder_118 (by decide +kernel) ?_
          refine r_niadd dX5_readsOrder_119 ?_
          refine r_iload_n 3 dX5_readsOrder_120 rfl rfl ?_
          refine r_iast 9 ((3 * k) + 1) (mdW cA m ρ P hs α rf K V C my cm tx (nI (tl)) (nI ((sgF tx tl ((nmF tx tl ((nmF tx tl (sp + 1) none).1) ((nmF tx tl (sp + 1) none).2.2)).1) ((nmF tx tl ((nmF tx tl (sp + 1) none).1) ((nmF tx tl (sp + 1) none).2.2)).2.2)).1)) (upd (upd od (3 * k) (tx sp)) ((3 * k) + 1) ((nmF tx tl (sp + 1) none).2.1)) (nI (k)) (oI (sgF tx tl ((nmF tx tl ((nmF tx tl (sp + 1) none).1) ((nmF tx tl (sp + 1) none).2.2)).1) ((nmF tx tl ((nmF tx tl (sp + 1) none).1) ((nmF tx tl (sp + 1) none).2.2)).2.2)).2)) dX5_readsOrder_121 rfl rfl rfl (by omega) (Nat.le_of_ble_eq_true rfl) rfl ?_
          refine r_aload_n 0 dX5_readsOrder_122 rfl rfl ?_
          refine r_get 0 fk_X5_34 dX5_readsOrder_123 rfl rfl ?_
          refine r_iconst (nI 3) dX5_readsOrder_126 (by decide +kernel) ?_
          refine r_aload_n 0 dX5_readsOrder_127 rfl rfl ?_
          refine r_get 0 fk_X5_159 dX5_readsOrder_128 rfl rfl ?_
          refine r_nimul dX5_readsOrder_131 ?_
          refine r_iconst (nI 2) dX5_readsOrder_132 (by decide +kernel) ?_
          refine r_niadd dX5_readsOrder_133 ?_
          refine r_iload dX5_readsOrder_134 rfl ?_
          refine r_iast 9 ((3 * k) + 2) (mdW cA m ρ P hs α rf K V C my cm tx (nI (tl)) (nI ((sgF tx tl ((nmF tx tl ((nmF tx tl (sp + 1) none).1) ((nmF tx tl (sp + 1) none).2.2)).1) ((nmF tx tl ((nmF tx tl (sp + 1) none).1) ((nmF tx tl (sp + 1) none).2.2)).2.2)).1)) (upd (upd (upd od (3 * k) (tx sp)) ((3 * k) + 1) ((nmF tx tl (sp + 1) none).2.1)) ((3 * k) + 2) ((nmF tx tl ((nmF tx tl (sp + 1) none).1) ((nmF tx tl (sp + 1) none).2.2)).2.1)) (nI (k)) (oI (sgF tx tl ((nmF tx tl ((nmF tx tl (sp + 1) none).1) ((nmF tx tl (sp + 1) none).2.2)).1) ((nmF tx tl ((nmF tx tl (sp + 1) none).1) ((nmF tx tl (sp + 1) none).2.2)).2.2)).2)) dX5_readsOrder_136 rfl rfl rfl (by omega) (Nat.le_of_ble_eq_true rfl) rfl ?_
          refine r_aload_n 0 dX5_readsOrder_137 rfl rfl ?_
          refine r_dup rfl dX5_readsOrder_138 ?_
          refine r_get 0 fk_X5_159 dX5_readsOrder_139 rfl rfl ?_
          refine r_iconst (nI 1) dX5_readsOrder_142 (by decide +kernel) ?_
          refine r_niadd dX5_readsOrder_143 ?_
          refine r_put 0 (mdW cA m ρ P hs α rf K V C my cm tx (nI (tl)) (nI ((sgF tx tl ((nmF tx tl ((nmF tx tl (sp + 1) none).1) ((nmF tx tl (sp + 1) none).2.2)).1) ((nmF tx tl ((nmF tx tl (sp + 1) none).1) ((nmF tx tl (sp + 1) none).2.2)).2.2)).1)) (upd (upd (upd od (3 * k) (tx sp)) ((3 * k) + 1) ((nmF tx tl (sp + 1) none).2.1)) ((3 * k) + 2) ((nmF tx tl ((nmF tx tl (sp + 1) none).1) ((nmF tx tl (sp + 1) none).2.2)).2.1)) (nI (k + 1)) (oI (sgF tx tl ((nmF tx tl ((nmF tx tl (sp + 1) none).1) ((nmF tx tl (sp + 1) none).2.2)).1) ((nmF tx tl ((nmF tx tl (sp + 1) none).1) ((nmF tx tl (sp + 1) none).2.2)).2.2)).2)) fk_X5_159 dX5_readsOrder_144 rfl rfl rfl rfl (Nat.le_of_ble_eq_true rfl) rfl ?_
          exact r_vret (()) dX5_readsOrder_147 (rfl) (by have hz := oI_n1 (fun f e => by have := hff f e; omega) hq4; unfold odF odK; rw [hroe]; dsimp only; rw [if_pos hz, if_pos hz])
    · exact absurd hq2 (by decide +kernel)
  · refine r_iload_n 1 dX5_readsOrder_16 rfl rfl ?_
    refine r_bipush (nI 100) dX5_readsOrder_17 (by decide +kernel) ?_
    refine r_icmp_ne 26 dX5_readsOrder_19 (by decide) (fun hq5 => ?_) (fun hq5 => ?_)
    · refine r_iconst (nI 0) dX5_readsOrder_26 (by decide +kernel) ?_
      refine r_istore_n 2 ([some (.ref (m 0)), some (.int (tx sp)), some (.int (nI 0)), none, none]) dX5_readsOrder_27 rfl (Nat.le_of_ble_eq_true rfl) rfl rfl ?_
      refine r_iload_n 2 dX5_readsOrder_28 rfl rfl ?_
      refine r_if_ne 53 dX5_readsOrder_29 (by decide) (fun hq6 => ?_) (fun hq6 => ?_)
      · exact absurd rfl hq6
      · refine r_iload_n 1 dX5_readsOrder_32 rfl rfl ?_
        refine r_bipush (nI 116) dX5_readsOrder_33 (by decide +kernel) ?_
        refine r_icmp_eq 53 dX5_readsOrder_35 (by decide) (fun hq7 => ?_) (fun hq7 => ?_)
        · refine r_aload_n 0 dX5_readsOrder_53 rfl rfl ?_
          refine r_dup rfl dX5_readsOrder_54 ?_
          refine r_get 0 fk_X5_140 dX5_readsOrder_55 rfl rfl ?_
          refine r_iconst (nI 1) dX5_readsOrder_58 (by decide +kernel) ?_
          refine r_niadd dX5_readsOrder_59 ?_
          refine r_put 0 (mdW cA m ρ P hs α rf K V C my cm tx (nI (tl)) (nI (sp + 1)) od (nI (k)) (-1)) fk_X5_140 dX5_readsOrder_60 rfl rfl rfl rfl (Nat.le_of_ble_eq_true rfl) rfl ?_
          refine r_aload_n 0 dX5_readsOrder_63 rfl rfl ?_
          refine r_callV2 (As := []) (st := []) (fun _ => mdW cA m ρ P hs α rf K V C my cm tx (nI (tl)) (nI ((nmF tx tl (sp + 1) none).1)) od (nI (k)) (oI (nmF tx tl (sp + 1) none).2.2)) [mdW cA m ρ P hs α rf K V C my cm tx (nI (tl)) (nI (sp + 1)) od (nI (k)) (-1)] [mdW cA m ρ P hs α rf K V C my cm tx (nI (tl)) (nI (sp + 1)) od (nI (k)) (-1)] [] (fun _ => [mdW cA m ρ P hs α rf K V C my cm tx (nI (tl)) (nI ((nmF tx tl (sp + 1) none).1)) od (nI (k)) (oI (nmF tx tl (sp + 1) none).2.2)]) (fun _ => [mdW cA m ρ P hs α rf K V C my cm tx (nI (tl)) (nI ((nmF tx tl (sp + 1) none).1)) od (nI (k)) (oI (nmF tx tl (sp + 1) none).2.2)]) (c_X5_number l D cA cB m ρ P hs α rf K V C my cm tx tl (sp + 1) htl od (nI (k)) none (by omega) (nof)) kv_X5_number ml_X5_153 dX5_readsOrder_64 rfl rfl rfl rfl (segOk [0] rfl rfl rfl rfl) (fun _ => segOk [0] rfl rfl rfl rfl) rfl (Nat.le_of_ble_eq_true rfl) (fun v u h => ?_)
          subst h
          refine r_st (st' := [.int ((nmF tx tl (sp + 1) none).2.1)]) rfl ?_
          refine r_istore_n 3 ([some (.ref (m 0)), some (.int (tx sp)), some (.int (nI 0)), some (.int ((nmF tx tl (sp + 1) none).2.1)), none]) dX5_readsOrder_67 rfl (Nat.le_of_ble_eq_true rfl) rfl rfl ?_
          refine r_iload_n 2 dX5_readsOrder_68 rfl rfl ?_
          refine r_if_eq 79 dX5_readsOrder_69 (by decide) (fun hq8 => ?_) (fun hq8 => ?_)
          · refine r_iconst (nI 0) dX5_readsOrder_79 (by decide +kernel) ?_
            refine r_istore ([some (.ref (m 0)), some (.int (tx sp)), some (.int (nI 0)), some (.int ((nmF tx tl (sp + 1) none).2.1)), some (.int (nI 0))]) dX5_readsOrder_80 (Nat.le_of_ble_eq_true rfl) rfl rfl ?_
            refine r_aload_n 0 dX5_readsOrder_82 rfl rfl ?_
            refine r_bipush (nI 59) dX5_readsOrder_83 (by decide +kernel) ?_
            refine r_callV2 (As := [.int (nI 59)]) (st := []) (fun _ => mdW cA m ρ P hs α rf K V C my cm tx (nI (tl)) (nI ((sgF tx tl ((nmF tx tl (sp + 1) none).1) ((nmF tx tl (sp + 1) none).2.2)).1)) od (nI (k)) (oI (sgF tx tl ((nmF tx tl (sp + 1) none).1) ((nmF tx tl (sp + 1) none).2.2)).2)) [mdW cA m ρ P hs α rf K V C my cm tx (nI (tl)) (nI ((nmF tx tl (sp + 1) none).1)) od (nI (k)) (oI (nmF tx tl (sp + 1) none).2.2)] [mdW cA m ρ P hs α rf K V C my cm tx (nI (tl)) (nI ((nmF tx tl (sp + 1) none).1)) od (nI (k)) (oI (nmF tx tl (sp + 1) none).2.2)] [] (fun _ => [mdW cA m ρ P hs α rf K V C my cm tx (nI (tl)) (nI ((sgF tx tl ((nmF tx tl (sp + 1) none).1) ((nmF tx tl (sp + 1) none).2.2)).1)) od (nI (k)) (oI (sgF tx tl ((nmF tx tl (sp + 1) none).1) ((nmF tx tl (sp + 1) none).2.2)).2)]) (fun _ => [mdW cA m ρ P hs α rf K V C my cm tx (nI (tl)) (nI ((sgF tx tl ((nmF tx tl (sp + 1) none).1) ((nmF tx tl (sp + 1) none).2.2)).1)) od (nI (k)) (oI (sgF tx tl ((nmF tx tl (sp + 1) none).1) ((nmF tx tl (sp + 1) none).2.2)).2)]) (c_X5_sign l D cA cB m ρ P hs α rf K V C my cm tx tl ((nmF tx tl (sp + 1) none).1) htl od (nI (k)) ((nmF tx tl (sp + 1) none).2.2) (by omega) (f1)) kv_X5_sign ml_X5_156 dX5_readsOrder_85 rfl rfl rfl rfl (segOk [0] rfl rfl rfl rfl) (fun _ => segOk [0] rfl rfl rfl rfl) rfl (Nat.le_of_ble_eq_true rfl) (fun v u h => ?_)
            subst h
            refine r_st (st' := []) rfl ?_
            have hk1 : numOf (tx sp) = 1 := by rw [hq7]; rfl
            have hroe : roF tx tl sp = ((sgF tx tl ((nmF tx tl (sp + 1) none).1) ((nmF tx tl (sp + 1) none).2.2)).1, (sgF tx tl ((nmF tx tl (sp + 1) none).1) ((nmF tx tl (sp + 1) none).2.2)).2, tx sp, (nmF tx tl (sp + 1) none).2.1, nI 0) := by unfold roF; rw [if_neg (by omega), if_neg (by omega)]
            have hff : ∀ f, ((sgF tx tl ((nmF tx tl (sp + 1) none).1) ((nmF tx tl (sp + 1) none).2.2)).2) = some f → f ≤ tl := fun f e => hro.2.2 f (by rw [hroe]; exact e)
            refine r_aload_n 0 dX5_readsOrder_88 rfl rfl ?_
            refine r_get 0 fk_X5_146 dX5_readsOrder_89 rfl rfl ?_
            refine r_iconst (-1) dX5_readsOrder_92 (by decide +kernel) ?_
            refine r_icmp_ne 147 dX5_readsOrder_93 (by decide) (fun hq9 => ?_) (fun hq9 => ?_)
            · exact r_vret (()) dX5_readsOrder_147 (rfl) (by unfold odF odK; rw [hroe]; dsimp only; rw [if_neg (fun z => hq9 (by rw [z]; rfl)), if_neg (fun z => hq9 (by rw [z]; rfl))])
            · refine r_aload_n 0 dX5_readsOrder_96 rfl rfl ?_
              refine r_get 0 fk_X5_34 dX5_readsOrder_97 rfl rfl ?_
              refine r_iconst (nI 3) dX5_readsOrder_100 (by decide +kernel) ?_
              refine r_aload_n 0 dX5_readsOrder_101 rfl rfl ?_
              refine r_get 0 fk_X5_159 dX5_readsOrder_102 rfl rfl ?_
              refine r_nimul dX5_readsOrder_105 ?_
              refine r_iload_n 1 dX5_readsOrder_106 rfl rfl ?_
              refine r_iast 9 (3 * k) (mdW cA m ρ P hs α rf K V C my cm tx (nI (tl)) (nI ((sgF tx tl ((nmF tx tl (sp + 1) none).1) ((nmF tx tl (sp + 1) none).2.2)).1)) (upd od (3 * k) (tx sp)) (nI (k)) (oI (sgF tx tl ((nmF tx tl (sp + 1) none).1) ((nmF tx tl (sp + 1) none).2.2)).2)) dX5_readsOrder_107 rfl rfl rfl (by omega) (Nat.le_of_ble_eq_true rfl) rfl ?_
              refine r_aload_n 0 dX5_readsOrder_108 rfl rfl ?_
              refine r_get 0 fk_X5_34 dX5_readsOrder_109 rfl rfl ?_
              refine r_iconst (nI 3) dX5_readsOrder_112 (by decide +kernel) ?_
              refine r_aload_n 0 dX5_readsOrder_113 rfl rfl ?_
              refine r_get 0 fk_X5_159 dX5_readsOrder_114 rfl rfl ?_
              refine r_nimul dX5_readsOrder_117 ?_
              refine r_iconst (nI 1) dX5_readsOrder_118 (by decide +kernel) ?_
              refine r_niadd dX5_readsOrder_119 ?_
              refine r_iload_n 3 dX5_readsOrder_120 rfl rfl ?_
              refine r_iast 9 ((3 * k) + 1) (mdW cA m ρ P hs α rf K V C my cm tx (nI (tl)) (nI ((sgF tx tl ((nmF tx tl (sp + 1) none).1) ((nmF tx tl (sp + 1) none).2.2)).1)) (upd (upd od (3 * k) (tx sp)) ((3 * k) + 1) ((nmF tx tl (sp + 1) none).2.1)) (nI (k)) (oI (sgF tx tl ((nmF tx tl (sp + 1) none).1) ((nmF tx tl (sp + 1) none).2.2)).2)) dX5_readsOrder_121 rfl rfl rfl (by omega) (Nat.le_of_ble_eq_true rfl) rfl ?_
              refine r_aload_n 0 dX5_readsOrder_122 rfl rfl ?_
              refine r_get 0 fk_X5_34 dX5_readsOrder_123 rfl rfl ?_
              refine r_iconst (nI 3) dX5_readsOrder_126 (by decide +kernel) ?_
              refine r_aload_n 0 dX5_readsOrder_127 rfl rfl ?_
              refine r_get 0 fk_X5_159 dX5_readsOrder_128 rfl rfl ?_
              refine r_nimul dX5_readsOrder_131 ?_
              refine r_iconst (nI 2) dX5_readsOrder_132 (by decide +kernel) ?_
              refine r_niadd dX5_readsOrder_133 ?_
              refine r_iload dX5_readsOrder_134 rfl ?_
              refine r_iast 9 ((3 * k) + 2) (mdW cA m ρ P hs α rf K V C my cm tx (nI (tl)) (nI ((sgF tx tl ((nmF tx tl (sp + 1) none).1) ((nmF tx tl (sp + 1) none).2.2)).1)) (upd (upd (upd od (3 * k) (tx sp)) ((3 * k) + 1) ((nmF tx tl (sp + 1) none).2.1)) ((3 * k) + 2) (nI (0))) (nI (k)) (oI (sgF tx tl ((nmF tx tl (sp + 1) none).1) ((nmF tx tl (sp + 1) none).2.2)).2)) dX5_readsOrder_136 rfl rfl rfl (by omega) (Nat.le_of_ble_eq_true rfl) rfl ?_
              refine r_aload_n 0 dX5_readsOrder_137 rfl rfl ?_
              refine r_dup rfl dX5_readsOrder_138 ?_
              refine r_get 0 fk_X5_159 dX5_readsOrder_139 rfl rfl ?_
              refine r_iconst (nI 1) dX5_readsOrder_142 (by decide +kernel) ?_
              refine r_niadd dX5_readsOrder_143 ?_
              refine r_put 0 (mdW cA m ρ P hs α rf K V C my cm tx (nI (tl)) (nI ((sgF tx tl ((nmF tx tl (sp + 1) none).1) ((nmF tx tl (sp + 1) none).2.2)).1)) (upd (upd (upd od (3 * k) (tx sp)) ((3 * k) + 1) ((nmF tx tl (sp + 1) none).2.1)) ((3 * k) + 2) (nI (0))) (nI (k + 1)) (oI (sgF tx tl ((nmF tx tl (sp + 1) none).1) ((nmF tx tl (sp + 1) none).2.2)).2)) fk_X5_159 dX5_readsOrder_144 rfl rfl rfl rfl (Nat.le_of_ble_eq_true rfl) rfl ?_
              exact r_vret (()) dX5_readsOrder_147 (rfl) (by have hz := oI_n1 (fun f e => by have := hff f e; omega) hq9; unfold odF odK; rw [hroe]; dsimp only; rw [if_pos hz, if_pos hz])
          · exact absurd rfl hq8
        · refine r_iload_n 1 dX5_readsOrder_38 rfl rfl ?_
          refine r_bipush (nI 109) dX5_readsOrder_39 (by decide +kernel) ?_
          refine r_icmp_eq 53 dX5_readsOrder_41 (by decide) (fun hq10 => ?_) (fun hq10 => ?_)
          · refine r_aload_n 0 dX5_readsOrder_53 rfl rfl ?_
            refine r_dup rfl dX5_readsOrder_54 ?_
            refine r_get 0 fk_X5_140 dX5_readsOrder_55 rfl rfl ?_
            refine r_iconst (nI 1) dX5_readsOrder_58 (by decide +kernel) ?_
            refine r_niadd dX5_readsOrder_59 ?_
            refine r_put 0 (mdW cA m ρ P hs α rf K V C my cm tx (nI (tl)) (nI (sp + 1)) od (nI (k)) (-1)) fk_X5_140 dX5_readsOrder_60 rfl rfl rfl rfl (Nat.le_of_ble_eq_true rfl) rfl ?_
            refine r_aload_n 0 dX5_readsOrder_63 rfl rfl ?_
            refine r_callV2 (As := []) (st := []) (fun _ => mdW cA m ρ P hs α rf K V C my cm tx (nI (tl)) (nI ((nmF tx tl (sp + 1) none).1)) od (nI (k)) (oI (nmF tx tl (sp + 1) none).2.2)) [mdW cA m ρ P hs α rf K V C my cm tx (nI (tl)) (nI (sp + 1)) od (nI (k)) (-1)] [mdW cA m ρ P hs α rf K V C my cm tx (nI (tl)) (nI (sp + 1)) od (nI (k)) (-1)] [] (fun _ => [mdW cA m ρ P hs α rf K V C my cm tx (nI (tl)) (nI ((nmF tx tl (sp + 1) none).1)) od (nI (k)) (oI (nmF tx tl (sp + 1) none).2.2)]) (fun _ => [mdW cA m ρ P hs α rf K V C my cm tx (nI (tl)) (nI ((nmF tx tl (sp + 1) none).1)) od (nI (k)) (oI (nmF tx tl (sp + 1) none).2.2)]) (c_X5_number l D cA cB m ρ P hs α rf K V C my cm tx tl (sp + 1) htl od (nI (k)) none (by omega) (nof)) kv_X5_number ml_X5_153 dX5_readsOrder_64 rfl rfl rfl rfl (segOk [0] rfl rfl rfl rfl) (fun _ => segOk [0] rfl rfl rfl rfl) rfl (Nat.le_of_ble_eq_true rfl) (fun v u h => ?_)
            subst h
            refine r_st (st' := [.int ((nmF tx tl (sp + 1) none).2.1)]) rfl ?_
            refine r_istore_n 3 ([some (.ref (m 0)), some (.int (tx sp)), some (.int (nI 0)), some (.int ((nmF tx tl (sp + 1) none).2.1)), none]) dX5_readsOrder_67 rfl (Nat.le_of_ble_eq_true rfl) rfl rfl ?_
            refine r_iload_n 2 dX5_readsOrder_68 rfl rfl ?_
            refine r_if_eq 79 dX5_readsOrder_69 (by decide) (fun hq11 => ?_) (fun hq11 => ?_)
            · refine r_iconst (nI 0) dX5_readsOrder_79 (by decide +kernel) ?_
              refine r_istore ([some (.ref (m 0)), some (.int (tx sp)), some (.int (nI 0)), some (.int ((nmF tx tl (sp + 1) none).2.1)), some (.int (nI 0))]) dX5_readsOrder_80 (Nat.le_of_ble_eq_true rfl) rfl rfl ?_
              refine r_aload_n 0 dX5_readsOrder_82 rfl rfl ?_
              refine r_bipush (nI 59) dX5_readsOrder_83 (by decide +kernel) ?_
              refine r_callV2 (As := [.int (nI 59)]) (st := []) (fun _ => mdW cA m ρ P hs α rf K V C my cm tx (nI (tl)) (nI ((sgF tx tl ((nmF tx tl (sp + 1) none).1) ((nmF tx tl (sp + 1) none).2.2)).1)) od (nI (k)) (oI (sgF tx tl ((nmF tx tl (sp + 1) none).1) ((nmF tx tl (sp + 1) none).2.2)).2)) [mdW cA m ρ P hs α rf K V C my cm tx (nI (tl)) (nI ((nmF tx tl (sp + 1) none).1)) od (nI (k)) (oI (nmF tx tl (sp + 1) none).2.2)] [mdW cA m ρ P hs α rf K V C my cm tx (nI (tl)) (nI ((nmF tx tl (sp + 1) none).1)) od (nI (k)) (oI (nmF tx tl (sp + 1) none).2.2)] [] (fun _ => [mdW cA m ρ P hs α rf K V C my cm tx (nI (tl)) (nI ((sgF tx tl ((nmF tx tl (sp + 1) none).1) ((nmF tx tl (sp + 1) none).2.2)).1)) od (nI (k)) (oI (sgF tx tl ((nmF tx tl (sp + 1) none).1) ((nmF tx tl (sp + 1) none).2.2)).2)]) (fun _ => [mdW cA m ρ P hs α rf K V C my cm tx (nI (tl)) (nI ((sgF tx tl ((nmF tx tl (sp + 1) none).1) ((nmF tx tl (sp + 1) none).2.2)).1)) od (nI (k)) (oI (sgF tx tl ((nmF tx tl (sp + 1) none).1) ((nmF tx tl (sp + 1) none).2.2)).2)]) (c_X5_sign l D cA cB m ρ P hs α rf K V C my cm tx tl ((nmF tx tl (sp + 1) none).1) htl od (nI (k)) ((nmF tx tl (sp + 1) none).2.2) (by omega) (f1)) kv_X5_sign ml_X5_156 dX5_readsOrder_85 rfl rfl rfl rfl (segOk [0] rfl rfl rfl rfl) (fun _ => segOk [0] rfl rfl rfl rfl) rfl (Nat.le_of_ble_eq_true rfl) (fun v u h => ?_)
              subst h
              refine r_st (st' := []) rfl ?_
              have hk1 : numOf (tx sp) = 1 := by rw [hq10]; rfl
              have hroe : roF tx tl sp = ((sgF tx tl ((nmF tx tl (sp + 1) none).1) ((nmF tx tl (sp + 1) none).2.2)).1, (sgF tx tl ((nmF tx tl (sp + 1) none).1) ((nmF tx tl (sp + 1) none).2.2)).2, tx sp, (nmF tx tl (sp + 1) none).2.1, nI 0) := by unfold roF; rw [if_neg (by omega), if_neg (by omega)]
              have hff : ∀ f, ((sgF tx tl ((nmF tx tl (sp + 1) none).1) ((nmF tx tl (sp + 1) none).2.2)).2) = some f → f ≤ tl := fun f e => hro.2.2 f (by rw [hroe]; exact e)
              refine r_aload_n 0 dX5_readsOrder_88 rfl rfl ?_
              refine r_get 0 fk_X5_146 dX5_readsOrder_89 rfl rfl ?_
              refine r_iconst (-1) dX5_readsOrder_92 (by decide +kernel) ?_
              refine r_icmp_ne 147 dX5_readsOrder_93 (by decide) (fun hq12 => ?_) (fun hq12 => ?_)
              · exact r_vret (()) dX5_readsOrder_147 (rfl) (by unfold odF odK; rw [hroe]; dsimp only; rw [if_neg (fun z => hq12 (by rw [z]; rfl)), if_neg (fun z => hq12 (by rw [z]; rfl))])
              · refine r_aload_n 0 dX5_readsOrder_96 rfl rfl ?_
                refine r_get 0 fk_X5_34 dX5_readsOrder_97 rfl rfl ?_
                refine r_iconst (nI 3) dX5_readsOrder_100 (by decide +kernel) ?_
                refine r_aload_n 0 dX5_readsOrder_101 rfl rfl ?_
                refine r_get 0 fk_X5_159 dX5_readsOrder_102 rfl rfl ?_
                refine r_nimul dX5_readsOrder_105 ?_
                refine r_iload_n 1 dX5_readsOrder_106 rfl rfl ?_
                refine r_iast 9 (3 * k) (mdW cA m ρ P hs α rf K V C my cm tx (nI (tl)) (nI ((sgF tx tl ((nmF tx tl (sp + 1) none).1) ((nmF tx tl (sp + 1) none).2.2)).1)) (upd od (3 * k) (tx sp)) (nI (k)) (oI (sgF tx tl ((nmF tx tl (sp + 1) none).1) ((nmF tx tl (sp + 1) none).2.2)).2)) dX5_readsOrder_107 rfl rfl rfl (by omega) (Nat.le_of_ble_eq_true rfl) rfl ?_
                refine r_aload_n 0 dX5_readsOrder_108 rfl rfl ?_
                refine r_get 0 fk_X5_34 dX5_readsOrder_109 rfl rfl ?_
                refine r_iconst (nI 3) dX5_readsOrder_112 (by decide +kernel) ?_
                refine r_aload_n 0 dX5_readsOrder_113 rfl rfl ?_
                refine r_get 0 fk_X5_159 dX5_readsOrder_114 rfl rfl ?_
                refine r_nimul dX5_readsOrder_117 ?_
                refine r_iconst (nI 1) dX5_readsOrder_118 (by decide +kernel) ?_
                refine r_niadd dX5_readsOrder_119 ?_
                refine r_iload_n 3 dX5_readsOrder_120 rfl rfl ?_
                refine r_iast 9 ((3 * k) + 1) (mdW cA m ρ P hs α rf K V C my cm tx (nI (tl)) (nI ((sgF tx tl ((nmF tx tl (sp + 1) none).1) ((nmF tx tl (sp + 1) none).2.2)).1)) (upd (upd od (3 * k) (tx sp)) ((3 * k) + 1) ((nmF tx tl (sp + 1) none).2.1)) (nI (k)) (oI (sgF tx tl ((nmF tx tl (sp + 1) none).1) ((nmF tx tl (sp + 1) none).2.2)).2)) dX5_readsOrder_121 rfl rfl rfl (by omega) (Nat.le_of_ble_eq_true rfl) rfl ?_
                refine r_aload_n 0 dX5_readsOrder_122 rfl rfl ?_
                refine r_get 0 fk_X5_34 dX5_readsOrder_123 rfl rfl ?_
                refine r_iconst (nI 3) dX5_readsOrder_126 (by decide +kernel) ?_
                refine r_aload_n 0 dX5_readsOrder_127 rfl rfl ?_
                refine r_get 0 fk_X5_159 dX5_readsOrder_128 rfl rfl ?_
                refine r_nimul dX5_readsOrder_131 ?_
                refine r_iconst (nI 2) dX5_readsOrder_132 (by decide +kernel) ?_
                refine r_niadd dX5_readsOrder_133 ?_
                refine r_iload dX5_readsOrder_134 rfl ?_
                refine r_iast 9 ((3 * k) + 2) (mdW cA m ρ P hs α rf K V C my cm tx (nI (tl)) (nI ((sgF tx tl ((nmF tx tl (sp + 1) none).1) ((nmF tx tl (sp + 1) none).2.2)).1)) (upd (upd (upd od (3 * k) (tx sp)) ((3 * k) + 1) ((nmF tx tl (sp + 1) none).2.1)) ((3 * k) + 2) (nI (0))) (nI (k)) (oI (sgF tx tl ((nmF tx tl (sp + 1) none).1) ((nmF tx tl (sp + 1) none).2.2)).2)) dX5_readsOrder_136 rfl rfl rfl (by omega) (Nat.le_of_ble_eq_true rfl) rfl ?_
                refine r_aload_n 0 dX5_readsOrder_137 rfl rfl ?_
                refine r_dup rfl dX5_readsOrder_138 ?_
                refine r_get 0 fk_X5_159 dX5_readsOrder_139 rfl rfl ?_
                refine r_iconst (nI 1) dX5_readsOrder_142 (by decide +kernel) ?_
                refine r_niadd dX5_readsOrder_143 ?_
                refine r_put 0 (mdW cA m ρ P hs α rf K V C my cm tx (nI (tl)) (nI ((sgF tx tl ((nmF tx tl (sp + 1) none).1) ((nmF tx tl (sp + 1) none).2.2)).1)) (upd (upd (upd od (3 * k) (tx sp)) ((3 * k) + 1) ((nmF tx tl (sp + 1) none).2.1)) ((3 * k) + 2) (nI (0))) (nI (k + 1)) (oI (sgF tx tl ((nmF tx tl (sp + 1) none).1) ((nmF tx tl (sp + 1) none).2.2)).2)) fk_X5_159 dX5_readsOrder_144 rfl rfl rfl rfl (Nat.le_of_ble_eq_true rfl) rfl ?_
                exact r_vret (()) dX5_readsOrder_147 (rfl) (by have hz := oI_n1 (fun f e => by have := hff f e; omega) hq12; unfold odF odK; rw [hroe]; dsimp only; rw [if_pos hz, if_pos hz])
            · exact absurd rfl hq11
          · have hk9 : numOf (tx sp) = 0 := by unfold numOf; exact ((if_neg (show ¬ tx sp = 100 from hq5)).trans ((if_neg (show ¬ tx sp = 109 from hq10)).trans ((if_neg (show ¬ tx sp = 112 from hq1)).trans (if_neg (show ¬ tx sp = 116 from hq7)))))
            have hroe : roF tx tl sp = (sp, some sp, tx sp, nI 0, nI 0) := by unfold roF; rw [if_pos hk9]
            refine r_aload_n 0 dX5_readsOrder_44 rfl rfl ?_
            refine r_aload_n 0 dX5_readsOrder_45 rfl rfl ?_
            refine r_get 0 fk_X5_140 dX5_readsOrder_46 rfl rfl ?_
            refine r_put 0 (mdW cA m ρ P hs α rf K V C my cm tx (nI (tl)) (nI (sp)) od (nI (k)) (nI (sp))) fk_X5_146 dX5_readsOrder_49 rfl rfl rfl rfl (Nat.le_of_ble_eq_true rfl) rfl ?_
            exact r_vret (()) dX5_readsOrder_52 (rfl) (by unfold odF odK; rw [hroe]; rfl)
    · refine r_iconst (nI 1) dX5_readsOrder_22 (by decide +kernel) ?_
      refine r_goto 27 dX5_readsOrder_23 (by decide) ?_
      refine r_istore_n 2 ([some (.ref (m 0)), some (.int (tx sp)), some (.int (nI 1)), none, none]) dX5_readsOrder_27 rfl (Nat.le_of_ble_eq_true rfl) rfl rfl ?_
      refine r_iload_n 2 dX5_readsOrder_28 rfl rfl ?_
      refine r_if_ne 53 dX5_readsOrder_29 (by decide) (fun hq13 => ?_) (fun hq13 => ?_)
      · refine r_aload_n 0 dX5_readsOrder_53 rfl rfl ?_
        refine r_dup rfl dX5_readsOrder_54 ?_
        refine r_get 0 fk_X5_140 dX5_readsOrder_55 rfl rfl ?_
        refine r_iconst (nI 1) dX5_readsOrder_58 (by decide +kernel) ?_
        refine r_niadd dX5_readsOrder_59 ?_
        refine r_put 0 (mdW cA m ρ P hs α rf K V C my cm tx (nI (tl)) (nI (sp + 1)) od (nI (k)) (-1)) fk_X5_140 dX5_readsOrder_60 rfl rfl rfl rfl (Nat.le_of_ble_eq_true rfl) rfl ?_
        refine r_aload_n 0 dX5_readsOrder_63 rfl rfl ?_
        refine r_callV2 (As := []) (st := []) (fun _ => mdW cA m ρ P hs α rf K V C my cm tx (nI (tl)) (nI ((nmF tx tl (sp + 1) none).1)) od (nI (k)) (oI (nmF tx tl (sp + 1) none).2.2)) [mdW cA m ρ P hs α rf K V C my cm tx (nI (tl)) (nI (sp + 1)) od (nI (k)) (-1)] [mdW cA m ρ P hs α rf K V C my cm tx (nI (tl)) (nI (sp + 1)) od (nI (k)) (-1)] [] (fun _ => [mdW cA m ρ P hs α rf K V C my cm tx (nI (tl)) (nI ((nmF tx tl (sp + 1) none).1)) od (nI (k)) (oI (nmF tx tl (sp + 1) none).2.2)]) (fun _ => [mdW cA m ρ P hs α rf K V C my cm tx (nI (tl)) (nI ((nmF tx tl (sp + 1) none).1)) od (nI (k)) (oI (nmF tx tl (sp + 1) none).2.2)]) (c_X5_number l D cA cB m ρ P hs α rf K V C my cm tx tl (sp + 1) htl od (nI (k)) none (by omega) (nof)) kv_X5_number ml_X5_153 dX5_readsOrder_64 rfl rfl rfl rfl (segOk [0] rfl rfl rfl rfl) (fun _ => segOk [0] rfl rfl rfl rfl) rfl (Nat.le_of_ble_eq_true rfl) (fun v u h => ?_)
        subst h
        refine r_st (st' := [.int ((nmF tx tl (sp + 1) none).2.1)]) rfl ?_
        refine r_istore_n 3 ([some (.ref (m 0)), some (.int (tx sp)), some (.int (nI 1)), some (.int ((nmF tx tl (sp + 1) none).2.1)), none]) dX5_readsOrder_67 rfl (Nat.le_of_ble_eq_true rfl) rfl rfl ?_
        refine r_iload_n 2 dX5_readsOrder_68 rfl rfl ?_
        refine r_if_eq 79 dX5_readsOrder_69 (by decide) (fun hq14 => ?_) (fun hq14 => ?_)
        · exact absurd hq14 (by decide +kernel)
        · refine r_aload_n 0 dX5_readsOrder_72 rfl rfl ?_
          refine r_callV2 (As := []) (st := []) (fun _ => mdW cA m ρ P hs α rf K V C my cm tx (nI (tl)) (nI ((nmF tx tl ((nmF tx tl (sp + 1) none).1) ((nmF tx tl (sp + 1) none).2.2)).1)) od (nI (k)) (oI (nmF tx tl ((nmF tx tl (sp + 1) none).1) ((nmF tx tl (sp + 1) none).2.2)).2.2)) [mdW cA m ρ P hs α rf K V C my cm tx (nI (tl)) (nI ((nmF tx tl (sp + 1) none).1)) od (nI (k)) (oI (nmF tx tl (sp + 1) none).2.2)] [mdW cA m ρ P hs α rf K V C my cm tx (nI (tl)) (nI ((nmF tx tl (sp + 1) none).1)) od (nI (k)) (oI (nmF tx tl (sp + 1) none).2.2)] [] (fun _ => [mdW cA m ρ P hs α rf K V C my cm tx (nI (tl)) (nI ((nmF tx tl ((nmF tx tl (sp + 1) none).1) ((nmF tx tl (sp + 1) none).2.2)).1)) od (nI (k)) (oI (nmF tx tl ((nmF tx tl (sp + 1) none).1) ((nmF tx tl (sp + 1) none).2.2)).2.2)]) (fun _ => [mdW cA m ρ P hs α rf K V C my cm tx (nI (tl)) (nI ((nmF tx tl ((nmF tx tl (sp + 1) none).1) ((nmF tx tl (sp + 1) none).2.2)).1)) od (nI (k)) (oI (nmF tx tl ((nmF tx tl (sp + 1) none).1) ((nmF tx tl (sp + 1) none).2.2)).2.2)]) (c_X5_number l D cA cB m ρ P hs α rf K V C my cm tx tl ((nmF tx tl (sp + 1) none).1) htl od (nI (k)) ((nmF tx tl (sp + 1) none).2.2) (by omega) (f1)) kv_X5_number ml_X5_153 dX5_readsOrder_73 rfl rfl rfl rfl (segOk [0] rfl rfl rfl rfl) (fun _ => segOk [0] rfl rfl rfl rfl) rfl (Nat.le_of_ble_eq_true rfl) (fun v u h => ?_)
          subst h
          refine r_st (st' := [.int ((nmF tx tl ((nmF tx tl (sp + 1) none).1) ((nmF tx tl (sp + 1) none).2.2)).2.1)]) rfl ?_
          refine r_goto 80 dX5_readsOrder_76 (by decide) ?_
          refine r_istore ([some (.ref (m 0)), some (.int (tx sp)), some (.int (nI 1)), some (.int ((nmF tx tl (sp + 1) none).2.1)), some (.int ((nmF tx tl ((nmF tx tl (sp + 1) none).1) ((nmF tx tl (sp + 1) none).2.2)).2.1))]) dX5_readsOrder_80 (Nat.le_of_ble_eq_true rfl) rfl rfl ?_
          refine r_aload_n 0 dX5_readsOrder_82 rfl rfl ?_
          refine r_bipush (nI 59) dX5_readsOrder_83 (by decide +kernel) ?_
          refine r_callV2 (As := [.int (nI 59)]) (st := []) (fun _ => mdW cA m ρ P hs α rf K V C my cm tx (nI (tl)) (nI ((sgF tx tl ((nmF tx tl ((nmF tx tl (sp + 1) none).1) ((nmF tx tl (sp + 1) none).2.2)).1) ((nmF tx tl ((nmF tx tl (sp + 1) none).1) ((nmF tx tl (sp + 1) none).2.2)).2.2)).1)) od (nI (k)) (oI (sgF tx tl ((nmF tx tl ((nmF tx tl (sp + 1) none).1) ((nmF tx tl (sp + 1) none).2.2)).1) ((nmF tx tl ((nmF tx tl (sp + 1) none).1) ((nmF tx tl (sp + 1) none).2.2)).2.2)).2)) [mdW cA m ρ P hs α rf K V C my cm tx (nI (tl)) (nI ((nmF tx tl ((nmF tx tl (sp + 1) none).1) ((nmF tx tl (sp + 1) none).2.2)).1)) od (nI (k)) (oI (nmF tx tl ((nmF tx tl (sp + 1) none).1) ((nmF tx tl (sp + 1) none).2.2)).2.2)] [mdW cA m ρ P hs α rf K V C my cm tx (nI (tl)) (nI ((nmF tx tl ((nmF tx tl (sp + 1) none).1) ((nmF tx tl (sp + 1) none).2.2)).1)) od (nI (k)) (oI (nmF tx tl ((nmF tx tl (sp + 1) none).1) ((nmF tx tl (sp + 1) none).2.2)).2.2)] [] (fun _ => [mdW cA m ρ P hs α rf K V C my cm tx (nI (tl)) (nI ((sgF tx tl ((nmF tx tl ((nmF tx tl (sp + 1) none).1) ((nmF tx tl (sp + 1) none).2.2)).1) ((nmF tx tl ((nmF tx tl (sp + 1) none).1) ((nmF tx tl (sp + 1) none).2.2)).2.2)).1)) od (nI (k)) (oI (sgF tx tl ((nmF tx tl ((nmF tx tl (sp + 1) none).1) ((nmF tx tl (sp + 1) none).2.2)).1) ((nmF tx tl ((nmF tx tl (sp + 1) none).1) ((nmF tx tl (sp + 1) none).2.2)).2.2)).2)]) (fun _ => [mdW cA m ρ P hs α rf K V C my cm tx (nI (tl)) (nI ((sgF tx tl ((nmF tx tl ((nmF tx tl (sp + 1) none).1) ((nmF tx tl (sp + 1) none).2.2)).1) ((nmF tx tl ((nmF tx tl (sp + 1) none).1) ((nmF tx tl (sp + 1) none).2.2)).2.2)).1)) od (nI (k)) (oI (sgF tx tl ((nmF tx tl ((nmF tx tl (sp + 1) none).1) ((nmF tx tl (sp + 1) none).2.2)).1) ((nmF tx tl ((nmF tx tl (sp + 1) none).1) ((nmF tx tl (sp + 1) none).2.2)).2.2)).2)]) (c_X5_sign l D cA cB m ρ P hs α rf K V C my cm tx tl ((nmF tx tl ((nmF tx tl (sp + 1) none).1) ((nmF tx tl (sp + 1) none).2.2)).1) htl od (nI (k)) ((nmF tx tl ((nmF tx tl (sp + 1) none).1) ((nmF tx tl (sp + 1) none).2.2)).2.2) (by omega) (f2)) kv_X5_sign ml_X5_156 dX5_readsOrder_85 rfl rfl rfl rfl (segOk [0] rfl rfl rfl rfl) (fun _ => segOk [0] rfl rfl rfl rfl) rfl (Nat.le_of_ble_eq_true rfl) (fun v u h => ?_)
          subst h
          refine r_st (st' := []) rfl ?_
          have hk2 : numOf (tx sp) = 2 := by rw [hq5]; rfl
          have hroe : roF tx tl sp = ((sgF tx tl ((nmF tx tl ((nmF tx tl (sp + 1) none).1) ((nmF tx tl (sp + 1) none).2.2)).1) ((nmF tx tl ((nmF tx tl (sp + 1) none).1) ((nmF tx tl (sp + 1) none).2.2)).2.2)).1, (sgF tx tl ((nmF tx tl ((nmF tx tl (sp + 1) none).1) ((nmF tx tl (sp + 1) none).2.2)).1) ((nmF tx tl ((nmF tx tl (sp + 1) none).1) ((nmF tx tl (sp + 1) none).2.2)).2.2)).2, tx sp, (nmF tx tl (sp + 1) none).2.1, (nmF tx tl (nmF tx tl (sp + 1) none).1 (nmF tx tl (sp + 1) none).2.2).2.1) := by unfold roF; rw [if_neg (by omega), if_pos hk2]
          have hff : ∀ f, ((sgF tx tl ((nmF tx tl ((nmF tx tl (sp + 1) none).1) ((nmF tx tl (sp + 1) none).2.2)).1) ((nmF tx tl ((nmF tx tl (sp + 1) none).1) ((nmF tx tl (sp + 1) none).2.2)).2.2)).2) = some f → f ≤ tl := fun f e => hro.2.2 f (by rw [hroe]; exact e)
          refine r_aload_n 0 dX5_readsOrder_88 rfl rfl ?_
          refine r_get 0 fk_X5_146 dX5_readsOrder_89 rfl rfl ?_
          refine r_iconst (-1) dX5_readsOrder_92 (by decide +kernel) ?_
          refine r_icmp_ne 147 dX5_readsOrder_93 (by decide) (fun hq15 => ?_) (fun hq15 => ?_)
          · exact r_vret (()) dX5_readsOrder_147 (rfl) (by unfold odF odK; rw [hroe]; dsimp only; rw [if_neg (fun z => hq15 (by rw [z]; rfl)), if_neg (fun z => hq15 (by rw [z]; rfl))])
          · refine r_aload_n 0 dX5_readsOrder_96 rfl rfl ?_
            refine r_get 0 fk_X5_34 dX5_readsOrder_97 rfl rfl ?_
            refine r_iconst (nI 3) dX5_readsOrder_100 (by decide +kernel) ?_
            refine r_aload_n 0 dX5_readsOrder_101 rfl rfl ?_
            refine r_get 0 fk_X5_159 dX5_readsOrder_102 rfl rfl ?_
            refine r_nimul dX5_readsOrder_105 ?_
            refine r_iload_n 1 dX5_readsOrder_106 rfl rfl ?_
            refine r_iast 9 (3 * k) (mdW cA m ρ P hs α rf K V C my cm tx (nI (tl)) (nI ((sgF tx tl ((nmF tx tl ((nmF tx tl (sp + 1) none).1) ((nmF tx tl (sp + 1) none).2.2)).1) ((nmF tx tl ((nmF tx tl (sp + 1) none).1) ((nmF tx tl (sp + 1) none).2.2)).2.2)).1)) (upd od (3 * k) (tx sp)) (nI (k)) (oI (sgF tx tl ((nmF tx tl ((nmF tx tl (sp + 1) none).1) ((nmF tx tl (sp + 1) none).2.2)).1) ((nmF tx tl ((nmF tx tl (sp + 1) none).1) ((nmF tx tl (sp + 1) none).2.2)).2.2)).2)) dX5_readsOrder_107 rfl rfl rfl (by omega) (Nat.le_of_ble_eq_true rfl) rfl ?_
            refine r_aload_n 0 dX5_readsOrder_108 rfl rfl ?_
            refine r_get 0 fk_X5_34 dX5_readsOrder_109 rfl rfl ?_
            refine r_iconst (nI 3) dX5_readsOrder_112 (by decide +kernel) ?_
            refine r_aload_n 0 dX5_readsOrder_113 rfl rfl ?_
            refine r_get 0 fk_X5_159 dX5_readsOrder_114 rfl rfl ?_
            refine r_nimul dX5_readsOrder_117 ?_
            refine r_iconst (nI 1) dX5_readsOrder_118 (by decide +kernel) ?_
            refine r_niadd dX5_readsOrder_119 ?_
            refine r_iload_n 3 dX5_readsOrder_120 rfl rfl ?_
            refine r_iast 9 ((3 * k) + 1) (mdW cA m ρ P hs α rf K V C my cm tx (nI (tl)) (nI ((sgF tx tl ((nmF tx tl ((nmF tx tl (sp + 1) none).1) ((nmF tx tl (sp + 1) none).2.2)).1) ((nmF tx tl ((nmF tx tl (sp + 1) none).1) ((nmF tx tl (sp + 1) none).2.2)).2.2)).1)) (upd (upd od (3 * k) (tx sp)) ((3 * k) + 1) ((nmF tx tl (sp + 1) none).2.1)) (nI (k)) (oI (sgF tx tl ((nmF tx tl ((nmF tx tl (sp + 1) none).1) ((nmF tx tl (sp + 1) none).2.2)).1) ((nmF tx tl ((nmF tx tl (sp + 1) none).1) ((nmF tx tl (sp + 1) none).2.2)).2.2)).2)) dX5_readsOrder_121 rfl rfl rfl (by omega) (Nat.le_of_ble_eq_true rfl) rfl ?_
            refine r_aload_n 0 dX5_readsOrder_122 rfl rfl ?_
            refine r_get 0 fk_X5_34 dX5_readsOrder_123 rfl rfl ?_
            refine r_iconst (nI 3) dX5_readsOrder_126 (by decide +kernel) ?_
            refine r_aload_n 0 dX5_readsOrder_127 rfl rfl ?_
            refine r_get 0 fk_X5_159 dX5_readsOrder_128 rfl rfl ?_
            refine r_nimul dX5_readsOrder_131 ?_
            refine r_iconst (nI 2) dX5_readsOrder_132 (by decide +kernel) ?_
            refine r_niadd dX5_readsOrder_133 ?_
            refine r_iload dX5_readsOrder_134 rfl ?_
            refine r_iast 9 ((3 * k) + 2) (mdW cA m ρ P hs α rf K V C my cm tx (nI (tl)) (nI ((sgF tx tl ((nmF tx tl ((nmF tx tl (sp + 1) none).1) ((nmF tx tl (sp + 1) none).2.2)).1) ((nmF tx tl ((nmF tx tl (sp + 1) none).1) ((nmF tx tl (sp + 1) none).2.2)).2.2)).1)) (upd (upd (upd od (3 * k) (tx sp)) ((3 * k) + 1) ((nmF tx tl (sp + 1) none).2.1)) ((3 * k) + 2) ((nmF tx tl ((nmF tx tl (sp + 1) none).1) ((nmF tx tl (sp + 1) none).2.2)).2.1)) (nI (k)) (oI (sgF tx tl ((nmF tx tl ((nmF tx tl (sp + 1) none).1) ((nmF tx tl (sp + 1) none).2.2)).1) ((nmF tx tl ((nmF tx tl (sp + 1) none).1) ((nmF tx tl (sp + 1) none).2.2)).2.2)).2)) dX5_readsOrder_136 rfl rfl rfl (by omega) (Nat.le_of_ble_eq_true rfl) rfl ?_
            refine r_aload_n 0 dX5_readsOrder_137 rfl rfl ?_
            refine r_dup rfl dX5_readsOrder_138 ?_
            refine r_get 0 fk_X5_159 dX5_readsOrder_139 rfl rfl ?_
            refine r_iconst (nI 1) dX5_readsOrder_142 (by decide +kernel) ?_
            refine r_niadd dX5_readsOrder_143 ?_
            refine r_put 0 (mdW cA m ρ P hs α rf K V C my cm tx (nI (tl)) (nI ((sgF tx tl ((nmF tx tl ((nmF tx tl (sp + 1) none).1) ((nmF tx tl (sp + 1) none).2.2)).1) ((nmF tx tl ((nmF tx tl (sp + 1) none).1) ((nmF tx tl (sp + 1) none).2.2)).2.2)).1)) (upd (upd (upd od (3 * k) (tx sp)) ((3 * k) + 1) ((nmF tx tl (sp + 1) none).2.1)) ((3 * k) + 2) ((nmF tx tl ((nmF tx tl (sp + 1) none).1) ((nmF tx tl (sp + 1) none).2.2)).2.1)) (nI (k + 1)) (oI (sgF tx tl ((nmF tx tl ((nmF tx tl (sp + 1) none).1) ((nmF tx tl (sp + 1) none).2.2)).1) ((nmF tx tl ((nmF tx tl (sp + 1) none).1) ((nmF tx tl (sp + 1) none).2.2)).2.2)).2)) fk_X5_159 dX5_readsOrder_144 rfl rfl rfl rfl (Nat.le_of_ble_eq_true rfl) rfl ?_
            exact r_vret (()) dX5_readsOrder_147 (rfl) (by have hz := oI_n1 (fun f e => by have := hff f e; omega) hq15; unfold odF odK; rw [hroe]; dsimp only; rw [if_pos hz, if_pos hz])
      · exact absurd hq13 (by decide +kernel)

set_option maxRecDepth 100000 in
set_option maxHeartbeats 4000000 in
theorem lp_X5_reads (l : Launch) (D : va_G) (cA cB : ClassId) (m : Nat → Nat) (ρ P : Nat → Int32) (hs : Int32) (α rf K V C : Nat → Int32) (my cm : Int32) (tx : Nat → Int32) (tl sp : Nat) (htl : tl ≤ 120) (od : Nat → Int32) (no ft : Int32)  (X : Cx) (sz : Nat) : ∀ (f p : Nat) (fo : Option Nat) (od' : Nat → Int32) (L : List (Int32 × Int32 × Int32)), (fo = none ∧ p ≤ tl ∧ tl + 1 ≤ p + f ∧ ((rdsF tx tl f p).1, L ++ (rdsF tx tl f p).2) = rdT tx tl ∧ hasO od' L ∨ ∃ x, fo = some x ∧ 0 < f ∧ (some x) = (rdT tx tl).1 ∧ x ≤ tl) → p ≤ 121 → 3 * L.length ≤ p ∧ 3 * L.length ≤ 120 → G l X ({ frames := 4, cells := 0, slots := 0, locals := 88 } : Room) cX5_reads RX5 none D (tyS cA cB) (va_A (mdW cA m ρ P hs α rf K V C my cm tx (nI (tl)) (nI (sp)) od no ft) sz) (QX X D (tyS cA cB) (mdW cA m ρ P hs α rf K V C my cm tx (nI (tl)) (nI (sp)) od no ft) sz ((Nat → Int32) × Nat × Nat) (fun v u => v = none ∧ (rdX tx tl = none → hasO u.1 (rdT tx tl).2 ∧ u.2.1 = (rdT tx tl).2.length) ∧ u.2.1 ≤ 40 ∧ u.2.2 ≤ 121) (fun u => mdW cA m ρ P hs α rf K V C my cm tx (nI (tl)) (nI (u.2.2)) u.1 (nI (u.2.1)) (oI (rdX tx tl))) 0 0) 0 0 (mdW cA m ρ P hs α rf K V C my cm tx (nI (tl)) (nI (p)) (od') (nI (L.length)) (oI fo)) 19 ([some (.ref (m 0))]) [] := by
  intro f
  induction f with
  | zero => intro p fo od' L hfo _ _; rcases hfo with ⟨_, _, _, _⟩ | ⟨_, _, _, _⟩ <;> omega
  | succ f ih =>
    intro p fo od' L hfo hp1 hL3
    rcases hfo with ⟨rfl, hptl, hfu, hres, hO⟩ | ⟨x, rfl, hfu, hres, hx⟩
    · refine r_ws (ws' := mdW cA m ρ P hs α rf K V C my cm tx (nI (tl)) (nI (p)) (od') (nI (L.length)) (-1)) rfl ?_
      refine r_aload_n 0 dX5_reads_19 rfl rfl ?_
      refine r_get 0 fk_X5_146 dX5_reads_20 rfl rfl ?_
      refine r_iconst (-1) dX5_reads_23 (by decide +kernel) ?_
      refine r_icmp_ne 57 dX5_reads_24 (by decide) (fun hq1 => ?_) (fun hq1 => ?_)
      · exact absurd rfl hq1
      · refine r_aload_n 0 dX5_reads_27 rfl rfl ?_
        refine r_get 0 fk_X5_140 dX5_reads_28 rfl rfl ?_
        refine r_aload_n 0 dX5_reads_31 rfl rfl ?_
        refine r_get 0 fk_X5_137 dX5_reads_32 rfl rfl ?_
        refine r_ncmp_ge 57 (by omega) (by omega) dX5_reads_35 (by decide) (fun hq2 => ?_) (fun hq2 => ?_)
        · refine r_aload_n 0 dX5_reads_57 rfl rfl ?_
          refine r_get 0 fk_X5_146 dX5_reads_58 rfl rfl ?_
          refine r_iconst (-1) dX5_reads_61 (by decide +kernel) ?_
          refine r_icmp_ne 80 dX5_reads_62 (by decide) (fun hq3 => ?_) (fun hq3 => ?_)
          · exact absurd rfl hq3
          · refine r_aload_n 0 dX5_reads_65 rfl rfl ?_
            refine r_get 0 fk_X5_159 dX5_reads_66 rfl rfl ?_
            refine r_if_ne 80 dX5_reads_69 (by decide) (fun hq4 => ?_) (fun hq4 => ?_)
            · exact r_vret ((od', L.length, p)) dX5_reads_80 (⟨rfl, fun z => by have hT : rdT tx tl = (none, L) := (by rw [← hres, show rdsF tx tl (f + 1) p = (none, []) from if_neg (Nat.not_lt.mpr hq2)]; simp); rw [hT]; exact ⟨hO, rfl⟩, by dsimp only; omega, by dsimp only; omega⟩) (by have hT : rdT tx tl = (none, L) := (by rw [← hres, show rdsF tx tl (f + 1) p = (none, []) from if_neg (Nat.not_lt.mpr hq2)]; simp); unfold rdX; rw [hT]; dsimp only; rw [if_neg (fun z => hq4 (by rw [z]; rfl))]; rfl)
            · refine r_aload_n 0 dX5_reads_72 rfl rfl ?_
              refine r_aload_n 0 dX5_reads_73 rfl rfl ?_
              refine r_get 0 fk_X5_137 dX5_reads_74 rfl rfl ?_
              refine r_put 0 (mdW cA m ρ P hs α rf K V C my cm tx (nI (tl)) (nI (p)) (od') (nI (L.length)) (nI (tl))) fk_X5_146 dX5_reads_77 rfl rfl rfl rfl (Nat.le_of_ble_eq_true rfl) rfl ?_
              exact r_vret ((od', L.length, p)) dX5_reads_80 (⟨rfl, fun z => by have hT : rdT tx tl = (none, L) := (by rw [← hres, show rdsF tx tl (f + 1) p = (none, []) from if_neg (Nat.not_lt.mpr hq2)]; simp); rw [hT]; exact ⟨hO, rfl⟩, by dsimp only; omega, by dsimp only; omega⟩) (by have hT : rdT tx tl = (none, L) := (by rw [← hres, show rdsF tx tl (f + 1) p = (none, []) from if_neg (Nat.not_lt.mpr hq2)]; simp); have hl0 : L = [] := List.length_eq_zero_iff.mp ((nI_z (by omega)).mp hq4); unfold rdX; rw [hT]; dsimp only; rw [if_pos hl0]; rfl)
        · refine r_aload_n 0 dX5_reads_38 rfl rfl ?_
          refine r_callV2 (As := []) (st := []) (fun _ => mdW cA m ρ P hs α rf K V C my cm tx (nI (tl)) (nI ((roF tx tl p).1)) (odF (od') L.length (roF tx tl p)) (nI (odK L.length (roF tx tl p))) (oI (roF tx tl p).2.1)) [mdW cA m ρ P hs α rf K V C my cm tx (nI (tl)) (nI (p)) (od') (nI (L.length)) (-1)] [mdW cA m ρ P hs α rf K V C my cm tx (nI (tl)) (nI (p)) (od') (nI (L.length)) (-1)] [] (fun _ => [mdW cA m ρ P hs α rf K V C my cm tx (nI (tl)) (nI ((roF tx tl p).1)) (odF (od') L.length (roF tx tl p)) (nI (odK L.length (roF tx tl p))) (oI (roF tx tl p).2.1)]) (fun _ => [mdW cA m ρ P hs α rf K V C my cm tx (nI (tl)) (nI ((roF tx tl p).1)) (odF (od') L.length (roF tx tl p)) (nI (odK L.length (roF tx tl p))) (oI (roF tx tl p).2.1)]) (c_X5_readsOrder l D cA cB m ρ P hs α rf K V C my cm tx tl p htl (od') L.length (by omega) (-1) (by omega)) kv_X5_readsOrder ml_X5_162 dX5_reads_39 rfl rfl rfl rfl (segOk [0] rfl rfl rfl rfl) (fun _ => segOk [0] rfl rfl rfl rfl) rfl (Nat.le_of_ble_eq_true rfl) (fun v u h => ?_)
          subst h
          refine r_st (st' := []) rfl ?_
          have hro := roF_le (tx := tx) hq2
          have hstep : rdsF tx tl (f + 1) p = _ := if_pos hq2
          rcases e : (roF tx tl p).2.1 with _ | x
          · have h3 := roF_3 hq2 e
            refine r_ws (ws' := mdW cA m ρ P hs α rf K V C my cm tx (nI (tl)) (nI ((roF tx tl p).1)) (odF (od') L.length (roF tx tl p)) (nI (odK L.length (roF tx tl p))) (-1)) rfl ?_
            refine r_aload_n 0 dX5_reads_42 rfl rfl ?_
            refine r_get 0 fk_X5_146 dX5_reads_43 rfl rfl ?_
            refine r_iconst (-1) dX5_reads_46 (by decide +kernel) ?_
            refine r_icmp_ne 19 dX5_reads_47 (by decide) (fun hq5 => ?_) (fun hq5 => ?_)
            · exact absurd rfl hq5
            · refine r_aload_n 0 dX5_reads_50 rfl rfl ?_
              refine r_callV2 (As := []) (st := []) (fun _ => mdW cA m ρ P hs α rf K V C my cm tx (nI (tl)) (nI (blkF tx (tl - ((roF tx tl p).1)) ((roF tx tl p).1))) (odF (od') L.length (roF tx tl p)) (nI (odK L.length (roF tx tl p))) (-1)) [mdW cA m ρ P hs α rf K V C my cm tx (nI (tl)) (nI ((roF tx tl p).1)) (odF (od') L.length (roF tx tl p)) (nI (odK L.length (roF tx tl p))) (-1)] [mdW cA m ρ P hs α rf K V C my cm tx (nI (tl)) (nI ((roF tx tl p).1)) (odF (od') L.length (roF tx tl p)) (nI (odK L.length (roF tx tl p))) (-1)] [] (fun _ => [mdW cA m ρ P hs α rf K V C my cm tx (nI (tl)) (nI (blkF tx (tl - ((roF tx tl p).1)) ((roF tx tl p).1))) (odF (od') L.length (roF tx tl p)) (nI (odK L.length (roF tx tl p))) (-1)]) (fun _ => [mdW cA m ρ P hs α rf K V C my cm tx (nI (tl)) (nI (blkF tx (tl - ((roF tx tl p).1)) ((roF tx tl p).1))) (odF (od') L.length (roF tx tl p)) (nI (odK L.length (roF tx tl p))) (-1)]) (c_X5_blanks l D cA cB m ρ P hs α rf K V C my cm tx tl ((roF tx tl p).1) htl (odF (od') L.length (roF tx tl p)) (nI (odK L.length (roF tx tl p))) (-1) (by omega)) kv_X5_blanks ml_X5_143 dX5_reads_51 rfl rfl rfl rfl (segOk [0] rfl rfl rfl rfl) (fun _ => segOk [0] rfl rfl rfl rfl) rfl (Nat.le_of_ble_eq_true rfl) (fun v u h => ?_)
              subst h
              refine r_st (st' := []) rfl ?_
              refine r_goto 19 dX5_reads_54 (by decide) ?_
              refine r_ws (ws' := mdW cA m ρ P hs α rf K V C my cm tx (nI (tl)) (nI (blkF tx (tl - (roF tx tl p).1) (roF tx tl p).1)) (upd (upd (upd od' (3 * L.length) (roF tx tl p).2.2.1) (3 * L.length + 1) (roF tx tl p).2.2.2.1) (3 * L.length + 2) (roF tx tl p).2.2.2.2) (nI ((L ++ [(roF tx tl p).2.2]).length)) (oI none)) (by unfold odF odK; rw [if_pos e, if_pos e, List.length_append]; rfl) ?_
              exact ih _ none _ (L ++ [(roF tx tl p).2.2]) (Or.inl ⟨rfl, by have := blkF_le tx (tl - (roF tx tl p).1) (roF tx tl p).1; omega, by have := blkF_le tx (tl - (roF tx tl p).1) (roF tx tl p).1; omega, by rw [← hres, hstep, e]; simp, hasO_s hO⟩) (by have := blkF_le tx (tl - (roF tx tl p).1) (roF tx tl p).1; omega) (by have := blkF_le tx (tl - (roF tx tl p).1) (roF tx tl p).1; rw [List.length_append]; simp; omega)
          · refine r_ws (ws' := mdW cA m ρ P hs α rf K V C my cm tx (nI (tl)) (nI ((roF tx tl p).1)) (odF (od') L.length (roF tx tl p)) (nI (odK L.length (roF tx tl p))) (nI (x))) rfl ?_
            have hxx := hro.2.2 x e
            refine r_aload_n 0 dX5_reads_42 rfl rfl ?_
            refine r_get 0 fk_X5_146 dX5_reads_43 rfl rfl ?_
            refine r_iconst (-1) dX5_reads_46 (by decide +kernel) ?_
            refine r_icmp_ne 19 dX5_reads_47 (by decide) (fun hq6 => ?_) (fun hq6 => ?_)
            · refine r_ws (ws' := mdW cA m ρ P hs α rf K V C my cm tx (nI (tl)) (nI ((roF tx tl p).1)) (od') (nI (L.length)) (oI (some x))) (by unfold odF odK; rw [if_neg (by rw [e]; exact fun z => nomatch z), if_neg (by rw [e]; exact fun z => nomatch z)]; rfl) ?_
              exact ih _ (some x) od' L (Or.inr ⟨x, rfl, by omega, by rw [← hres, hstep, e], hxx⟩) (by omega) (by omega)
            · exact absurd hq6 (nI_ne_m1 (by omega))
    · refine r_ws (ws' := mdW cA m ρ P hs α rf K V C my cm tx (nI (tl)) (nI (p)) (od') (nI (L.length)) (nI (x))) rfl ?_
      refine r_aload_n 0 dX5_reads_19 rfl rfl ?_
      refine r_get 0 fk_X5_146 dX5_reads_20 rfl rfl ?_
      refine r_iconst (-1) dX5_reads_23 (by decide +kernel) ?_
      refine r_icmp_ne 57 dX5_reads_24 (by decide) (fun hq7 => ?_) (fun hq7 => ?_)
      · refine r_aload_n 0 dX5_reads_57 rfl rfl ?_
        refine r_get 0 fk_X5_146 dX5_reads_58 rfl rfl ?_
        refine r_iconst (-1) dX5_reads_61 (by decide +kernel) ?_
        refine r_icmp_ne 80 dX5_reads_62 (by decide) (fun hq8 => ?_) (fun hq8 => ?_)
        · exact r_vret ((od', L.length, p)) dX5_reads_80 (⟨rfl, fun z => by unfold rdX at z; rw [show (rdT tx tl).1 = some x by rw [← hres]] at z; exact (nomatch z), by dsimp only; omega, by dsimp only; omega⟩) (by unfold rdX; rw [show (rdT tx tl).1 = some x by rw [← hres]]; rfl)
        · exact absurd hq8 (nI_ne_m1 (by omega))
      · exact absurd hq7 (nI_ne_m1 (by omega))

set_option maxRecDepth 100000 in
set_option maxHeartbeats 4000000 in
theorem c_X5_reads (l : Launch) (D : va_G) (cA cB : ClassId) (m : Nat → Nat) (ρ P : Nat → Int32) (hs : Int32) (α rf K V C : Nat → Int32) (my cm : Int32) (tx : Nat → Int32) (tl sp : Nat) (htl : tl ≤ 120) (od : Nat → Int32) (no ft : Int32)  : Mt l D (tyS cA cB) yX5_reads cX5_reads 1 none ({ frames := 4, cells := 0, slots := 0, locals := 88 } : Room) [.ref (m 0)] (mdW cA m ρ P hs α rf K V C my cm tx (nI (tl)) (nI (sp)) od no ft) ((Nat → Int32) × Nat × Nat) (fun v u => v = none ∧ (rdX tx tl = none → hasO u.1 (rdT tx tl).2 ∧ u.2.1 = (rdT tx tl).2.length) ∧ u.2.1 ≤ 40 ∧ u.2.2 ≤ 121) (fun u => mdW cA m ρ P hs α rf K V C my cm tx (nI (tl)) (nI (u.2.2)) u.1 (nI (u.2.1)) (oI (rdX tx tl))) 0 0 := by
  refine mt_in RX5 ([some (.ref (m 0))]) rfl (by decide +kernel) rfl (Nat.le_of_ble_eq_true rfl) rfl rfl (fun X sz => ?_)
  have hbl := blkF_le tx (tl - 0) 0
  refine r_aload_n 0 dX5_reads_0 rfl rfl ?_
  refine r_iconst (nI 0) dX5_reads_1 (by decide +kernel) ?_
  refine r_put 0 (mdW cA m ρ P hs α rf K V C my cm tx (nI (tl)) (nI (0)) od no ft) fk_X5_140 dX5_reads_2 rfl rfl rfl rfl (Nat.le_of_ble_eq_true rfl) rfl ?_
  refine r_aload_n 0 dX5_reads_5 rfl rfl ?_
  refine r_iconst (nI 0) dX5_reads_6 (by decide +kernel) ?_
  refine r_put 0 (mdW cA m ρ P hs α rf K V C my cm tx (nI (tl)) (nI (0)) od (nI (0)) ft) fk_X5_159 dX5_reads_7 rfl rfl rfl rfl (Nat.le_of_ble_eq_true rfl) rfl ?_
  refine r_aload_n 0 dX5_reads_10 rfl rfl ?_
  refine r_iconst (-1) dX5_reads_11 (by decide +kernel) ?_
  refine r_put 0 (mdW cA m ρ P hs α rf K V C my cm tx (nI (tl)) (nI (0)) od (nI (0)) (-1)) fk_X5_146 dX5_reads_12 rfl rfl rfl rfl (Nat.le_of_ble_eq_true rfl) rfl ?_
  refine r_aload_n 0 dX5_reads_15 rfl rfl ?_
  refine r_callV2 (As := []) (st := []) (fun _ => mdW cA m ρ P hs α rf K V C my cm tx (nI (tl)) (nI (blkF tx (tl - 0) 0)) od (nI (0)) (-1)) [mdW cA m ρ P hs α rf K V C my cm tx (nI (tl)) (nI (0)) od (nI (0)) (-1)] [mdW cA m ρ P hs α rf K V C my cm tx (nI (tl)) (nI (0)) od (nI (0)) (-1)] [] (fun _ => [mdW cA m ρ P hs α rf K V C my cm tx (nI (tl)) (nI (blkF tx (tl - 0) 0)) od (nI (0)) (-1)]) (fun _ => [mdW cA m ρ P hs α rf K V C my cm tx (nI (tl)) (nI (blkF tx (tl - 0) 0)) od (nI (0)) (-1)]) (c_X5_blanks l D cA cB m ρ P hs α rf K V C my cm tx tl 0 htl od (nI (0)) (-1) (by omega)) kv_X5_blanks ml_X5_143 dX5_reads_16 rfl rfl rfl rfl (segOk [0] rfl rfl rfl rfl) (fun _ => segOk [0] rfl rfl rfl rfl) rfl (Nat.le_of_ble_eq_true rfl) (fun v u h => ?_)
  subst h
  refine r_st (st' := []) rfl ?_
  refine r_ws (ws' := mdW cA m ρ P hs α rf K V C my cm tx (nI (tl)) (nI (blkF tx (tl - 0) 0)) od (nI (([] : List (Int32 × Int32 × Int32)).length)) (oI none)) rfl ?_
  exact lp_X5_reads l D cA cB m ρ P hs α rf K V C my cm tx tl sp htl od no ft X sz 121 (blkF tx (tl - 0) 0) none od [] (Or.inl ⟨rfl, by omega, by omega, rfl, fun i z h => by cases h⟩) (by omega) (by exact ⟨Nat.zero_le _, by decide⟩)

