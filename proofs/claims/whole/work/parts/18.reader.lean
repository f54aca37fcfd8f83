set_option maxRecDepth 100000 in
set_option maxHeartbeats 4000000 in
theorem c_X0_numbersOf (l : Launch) (D : va_G) (cA cB : ClassId) (c : Int32) : Mt l D (tyS cA cB) yX0_numbersOf cX0_numbersOf 1 (some .int) ({ frames := 0, cells := 0, slots := 0, locals := 0 } : Room) [.int (c)] ([]) Unit (fun v _ => v = some (.int (nI (numOf c)))) (fun _ => []) 0 0 := by
  refine mt_in RX0 ([some (.int (c))]) rfl (by decide +kernel) rfl (Nat.le_of_ble_eq_true rfl) rfl rfl (fun X sz => ?_)
  refine r_iload_n 0 dX0_numbersOf_0 rfl rfl ?_
  by_cases h1 : c = 100
  · refine r_lookup (off := 43) 44 dX0_numbersOf_1 (by decide +kernel) (by rw [h1]; decide +kernel) (by decide) ?_
    refine r_iconst (nI 2) dX0_numbersOf_44 (by decide +kernel) ?_
    exact r_iret (()) dX0_numbersOf_45 (by unfold numOf; rw [h1]; rfl) (rfl)
  by_cases h2 : c = 109
  · refine r_lookup (off := 45) 46 dX0_numbersOf_1 (by decide +kernel) (by rw [h2]; decide +kernel) (by decide) ?_
    refine r_iconst (nI 1) dX0_numbersOf_46 (by decide +kernel) ?_
    exact r_iret (()) dX0_numbersOf_47 (by unfold numOf; rw [h2]; rfl) (rfl)
  by_cases h3 : c = 112
  · refine r_lookup (off := 43) 44 dX0_numbersOf_1 (by decide +kernel) (by rw [h3]; decide +kernel) (by decide) ?_
    refine r_iconst (nI 2) dX0_numbersOf_44 (by decide +kernel) ?_
    exact r_iret (()) dX0_numbersOf_45 (by unfold numOf; rw [h3]; rfl) (rfl)
  by_cases h4 : c = 116
  · refine r_lookup (off := 45) 46 dX0_numbersOf_1 (by decide +kernel) (by rw [h4]; decide +kernel) (by decide) ?_
    refine r_iconst (nI 1) dX0_numbersOf_46 (by decide +kernel) ?_
    exact r_iret (()) dX0_numbersOf_47 (by unfold numOf; rw [h4]; rfl) (rfl)
  refine r_lookup (off := 47) 48 dX0_numbersOf_1 (by decide +kernel) (lk_cons (lk_ne h1 (by decide +kernel)) (lk_cons (lk_ne h2 (by decide +kernel)) (lk_cons (lk_ne h3 (by decide +kernel)) (lk_cons (lk_ne h4 (by decide +kernel)) (lk_nil))))) (by decide) ?_
  refine r_iconst (nI 0) dX0_numbersOf_48 (by decide +kernel) ?_
  exact r_iret (()) dX0_numbersOf_49 (by unfold numOf; rw [if_neg h1, if_neg h2, if_neg h3, if_neg h4]) (rfl)

set_option maxRecDepth 100000 in
set_option maxHeartbeats 4000000 in
theorem c_X0_begin (l : Launch) (D : va_G) (cA cB : ClassId) (b : Nat) (kd f1 f2 : Int32) (op : Bool) (od nu fg : Nat) : Mt l D (tyS cA cB) yX0_begin cX0_begin 1 none ({ frames := 0, cells := 0, slots := 0, locals := 0 } : Room) [.ref (b)] (rdW b kd f1 f2 op od nu fg) Unit (fun v _ => v = none) (fun _ => rdW b kd f1 f2 false 0 nu fg) 0 0 := by
  refine mt_in RX0 ([some (.ref (b))]) rfl (by decide +kernel) rfl (Nat.le_of_ble_eq_true rfl) rfl rfl (fun X sz => ?_)
  refine r_aload_n 0 dX0_begin_0 rfl rfl ?_
  refine r_iconst (nI 0) dX0_begin_1 (by decide +kernel) ?_
  refine r_put 0 ([(b, .inr (0, [.int (kd), .int (f1), .int (f2), .int (nI 0), .int (nI od), .int (nI nu), .int (nI fg)]))]) fk_X0_9 dX0_begin_2 rfl rfl (by decide +kernel) rfl (Nat.le_of_ble_eq_true rfl) rfl ?_
  refine r_aload_n 0 dX0_begin_5 rfl rfl ?_
  refine r_iconst (nI 0) dX0_begin_6 (by decide +kernel) ?_
  refine r_put 0 ([(b, .inr (0, [.int (kd), .int (f1), .int (f2), .int (nI 0), .int (nI 0), .int (nI nu), .int (nI fg)]))]) fk_X0_15 dX0_begin_7 rfl rfl rfl rfl (Nat.le_of_ble_eq_true rfl) rfl ?_
  exact r_vret (()) dX0_begin_10 (rfl) (rfl)

set_option maxRecDepth 100000 in
set_option maxHeartbeats 4000000 in
theorem c_X0_mayEnd (l : Launch) (D : va_G) (cA cB : ClassId) (b : Nat) (kd f1 f2 : Int32) (op : Bool) (od nu fg : Nat) (hod : od < 1000) : Mt l D (tyS cA cB) yX0_mayEnd cX0_mayEnd 1 (some .boolean) ({ frames := 0, cells := 0, slots := 0, locals := 0 } : Room) [.ref (b)] (rdW b kd f1 f2 op od nu fg) Unit (fun v _ => v = some (.int (bI (!op && decide (0 < od))))) (fun _ => rdW b kd f1 f2 op od nu fg) 0 0 := by
  refine mt_in RX0 ([some (.ref (b))]) rfl (by decide +kernel) rfl (Nat.le_of_ble_eq_true rfl) rfl rfl (fun X sz => ?_)
  refine r_aload_n 0 dX0_mayEnd_0 rfl rfl ?_
  refine r_get 0 fk_X0_9 dX0_mayEnd_1 rfl rfl ?_
  refine r_bif_ne 18 dX0_mayEnd_4 (by decide) (fun h1 => ?_) (fun h1 => ?_)
  · refine r_iconst (nI 0) dX0_mayEnd_18 (by decide +kernel) ?_
    exact r_zret (()) (by decide +kernel) dX0_mayEnd_19 (by rw [h1]; rfl) (rfl)
  · refine r_aload_n 0 dX0_mayEnd_7 rfl rfl ?_
    refine r_get 0 fk_X0_15 dX0_mayEnd_8 rfl rfl ?_
    refine r_if_le 18 dX0_mayEnd_11 (by decide) (fun h2 => ?_) (fun h2 => ?_)
    · refine r_iconst (nI 0) dX0_mayEnd_18 (by decide +kernel) ?_
      exact r_zret (()) (by decide +kernel) dX0_mayEnd_19 (by rw [h1, decide_eq_false (fun z => by have := (nI_le_iff (a := od) (b := 0) (by omega) (by decide)).mp h2; omega)]; rfl) (rfl)
    · refine r_iconst (nI 1) dX0_mayEnd_14 (by decide +kernel) ?_
      refine r_goto 19 dX0_mayEnd_15 (by decide) ?_
      exact r_zret (()) (by decide +kernel) dX0_mayEnd_19 (by rw [h1, decide_eq_true (by rcases Nat.eq_zero_or_pos od with z | z; exact absurd (by rw [z]; exact Int32.le_refl _) h2; exact z)]; rfl) (rfl)

set_option maxRecDepth 100000 in
set_option maxHeartbeats 4000000 in
theorem c_X0_takeKind (l : Launch) (D : va_G) (cA cB : ClassId) (b : Nat) (kd f1 f2 : Int32) (op : Bool) (od nu fg : Nat) (c : Int32) : Mt l D (tyS cA cB) yX0_takeKind cX0_takeKind 2 (some .int) ({ frames := 1, cells := 0, slots := 0, locals := 20 } : Room) [.ref (b), .int (c)] (rdW b kd f1 f2 op od nu fg) Unit (fun v _ => v = some (.int (kindF (kd, f1, f2, op, od, nu, fg) c).1)) (fun _ => rdZ b (kindF (kd, f1, f2, op, od, nu, fg) c).2) 0 0 := by
  refine mt_in RX0 ([some (.ref (b)), some (.int (c))]) rfl (by decide +kernel) rfl (Nat.le_of_ble_eq_true rfl) rfl rfl (fun X sz => ?_)
  refine r_iload_n 1 dX0_takeKind_0 rfl rfl ?_
  refine r_callS (As := [.int (c)]) (st := []) [] [0] (fun _ => rdW b kd f1 f2 op od nu fg) [0] (c_X0_numbersOf l D cA cB (c)) ks_X0_numbersOf ml_X0_35 dX0_takeKind_1 rfl rfl rfl rfl rfl rfl (by decide) (fun _ => rfl) rfl rfl (Nat.le_of_ble_eq_true rfl) (fun v u h => ?_)
  subst h
  refine r_st (st' := [.int (nI (numOf c))]) rfl ?_
  refine r_if_ne 9 dX0_takeKind_4 (by decide) (fun h1 => ?_) (fun h1 => ?_)
  · refine r_aload_n 0 dX0_takeKind_9 rfl rfl ?_
    refine r_iconst (nI 1) dX0_takeKind_10 (by decide +kernel) ?_
    refine r_put 0 ([(b, .inr (0, [.int (kd), .int (f1), .int (f2), .int (nI 1), .int (nI od), .int (nI nu), .int (nI fg)]))]) fk_X0_9 dX0_takeKind_11 rfl rfl (by decide +kernel) rfl (Nat.le_of_ble_eq_true rfl) rfl ?_
    refine r_aload_n 0 dX0_takeKind_14 rfl rfl ?_
    refine r_iload_n 1 dX0_takeKind_15 rfl rfl ?_
    refine r_put 0 ([(b, .inr (0, [.int (c), .int (f1), .int (f2), .int (nI 1), .int (nI od), .int (nI nu), .int (nI fg)]))]) fk_X0_32 dX0_takeKind_16 rfl rfl rfl rfl (Nat.le_of_ble_eq_true rfl) rfl ?_
    refine r_aload_n 0 dX0_takeKind_19 rfl rfl ?_
    refine r_iconst (nI 0) dX0_takeKind_20 (by decide +kernel) ?_
    refine r_put 0 ([(b, .inr (0, [.int (c), .int (nI 0), .int (f2), .int (nI 1), .int (nI od), .int (nI nu), .int (nI fg)]))]) fk_X0_38 dX0_takeKind_21 rfl rfl rfl rfl (Nat.le_of_ble_eq_true rfl) rfl ?_
    refine r_aload_n 0 dX0_takeKind_24 rfl rfl ?_
    refine r_iconst (nI 0) dX0_takeKind_25 (by decide +kernel) ?_
    refine r_put 0 ([(b, .inr (0, [.int (c), .int (nI 0), .int (nI 0), .int (nI 1), .int (nI od), .int (nI nu), .int (nI fg)]))]) fk_X0_41 dX0_takeKind_26 rfl rfl rfl rfl (Nat.le_of_ble_eq_true rfl) rfl ?_
    refine r_aload_n 0 dX0_takeKind_29 rfl rfl ?_
    refine r_iconst (nI 0) dX0_takeKind_30 (by decide +kernel) ?_
    refine r_put 0 ([(b, .inr (0, [.int (c), .int (nI 0), .int (nI 0), .int (nI 1), .int (nI od), .int (nI 0), .int (nI fg)]))]) fk_X0_29 dX0_takeKind_31 rfl rfl rfl rfl (Nat.le_of_ble_eq_true rfl) rfl ?_
    refine r_aload_n 0 dX0_takeKind_34 rfl rfl ?_
    refine r_iconst (nI 0) dX0_takeKind_35 (by decide +kernel) ?_
    refine r_put 0 ([(b, .inr (0, [.int (c), .int (nI 0), .int (nI 0), .int (nI 1), .int (nI od), .int (nI 0), .int (nI 0)]))]) fk_X0_19 dX0_takeKind_36 rfl rfl rfl rfl (Nat.le_of_ble_eq_true rfl) rfl ?_
    refine r_iconst (nI 1) dX0_takeKind_39 (by decide +kernel) ?_
    exact r_iret (()) dX0_takeKind_40 (by unfold kindF; rw [if_neg (fun z => h1 (by rw [z]; rfl))] <;> rfl) (by unfold kindF; rw [if_neg (fun z => h1 (by rw [z]; rfl))] <;> rfl)
  · refine r_iconst (nI 0) dX0_takeKind_7 (by decide +kernel) ?_
    exact r_iret (()) dX0_takeKind_8 (by unfold kindF; rw [if_pos ((nI_inj (b := 0) (by have := numOf_le c; omega) (by decide)).mp h1)] <;> rfl) (by unfold kindF; rw [if_pos ((nI_inj (b := 0) (by have := numOf_le c; omega) (by decide)).mp h1)] <;> rfl)

set_option maxRecDepth 100000 in
set_option maxHeartbeats 4000000 in
theorem c_X0_takeFigure (l : Launch) (D : va_G) (cA cB : ClassId) (b : Nat) (kd f1 f2 : Int32) (op : Bool) (od nu fg : Nat) (hod : od < 1000) (hnu : nu < 1000) (hfg : fg < 1000) (d : Int32) : Mt l D (tyS cA cB) yX0_takeFigure cX0_takeFigure 2 (some .int) ({ frames := 1, cells := 0, slots := 0, locals := 20 } : Room) [.ref (b), .int (d)] (rdW b kd f1 f2 op od nu fg) Unit (fun v _ => v = some (.int (figF kd f1 f2 op od nu fg d).1)) (fun _ => rdZ b (figF kd f1 f2 op od nu fg d).2) 0 0 := by
  refine mt_in RX0 ([some (.ref (b)), some (.int (d))]) rfl (by decide +kernel) rfl (Nat.le_of_ble_eq_true rfl) rfl rfl (fun X sz => ?_)
  have hk := numOf_le kd
  refine r_aload_n 0 dX0_takeFigure_0 rfl rfl ?_
  refine r_get 0 fk_X0_19 dX0_takeFigure_1 rfl rfl ?_
  refine r_if_ne 33 dX0_takeFigure_4 (by decide) (fun h1 => ?_) (fun h1 => ?_)
  · refine r_aload_n 0 dX0_takeFigure_33 rfl rfl ?_
    refine r_get 0 fk_X0_19 dX0_takeFigure_34 rfl rfl ?_
    refine r_iconst (nI 3) dX0_takeFigure_37 (by decide +kernel) ?_
    refine r_ncmp_ne 43 (by omega) (by omega) dX0_takeFigure_38 (by decide) (fun h2 => ?_) (fun h2 => ?_)
    · refine r_aload_n 0 dX0_takeFigure_43 rfl rfl ?_
      refine r_dup rfl dX0_takeFigure_44 ?_
      refine r_get 0 fk_X0_19 dX0_takeFigure_45 rfl rfl ?_
      refine r_iconst (nI 1) dX0_takeFigure_48 (by decide +kernel) ?_
      refine r_niadd dX0_takeFigure_49 ?_
      refine r_put 0 ([(b, .inr (0, [.int (kd), .int (f1), .int (f2), .int (bI (op)), .int (nI od), .int (nI nu), .int (nI (fg + 1))]))]) fk_X0_19 dX0_takeFigure_50 rfl rfl rfl rfl (Nat.le_of_ble_eq_true rfl) rfl ?_
      refine r_aload_n 0 dX0_takeFigure_53 rfl rfl ?_
      refine r_get 0 fk_X0_29 dX0_takeFigure_54 rfl rfl ?_
      refine r_iconst (nI 1) dX0_takeFigure_57 (by decide +kernel) ?_
      refine r_ncmp_ne 77 (by omega) (by omega) dX0_takeFigure_58 (by decide) (fun h3 => ?_) (fun h3 => ?_)
      · refine r_aload_n 0 dX0_takeFigure_77 rfl rfl ?_
        refine r_bipush (nI 10) dX0_takeFigure_78 (by decide +kernel) ?_
        refine r_aload_n 0 dX0_takeFigure_80 rfl rfl ?_
        refine r_get 0 fk_X0_41 dX0_takeFigure_81 rfl rfl ?_
        refine r_imul dX0_takeFigure_84 ?_
        refine r_iload_n 1 dX0_takeFigure_85 rfl rfl ?_
        refine r_iadd dX0_takeFigure_86 ?_
        refine r_put 0 ([(b, .inr (0, [.int (kd), .int (f1), .int (((nI (10)) * f2) + d), .int (bI (op)), .int (nI od), .int (nI nu), .int (nI (fg + 1))]))]) fk_X0_41 dX0_takeFigure_87 rfl rfl rfl rfl (Nat.le_of_ble_eq_true rfl) rfl ?_
        refine r_iconst (nI 1) dX0_takeFigure_90 (by decide +kernel) ?_
        exact r_iret (()) dX0_takeFigure_91 (by unfold figF; rw [if_neg (fun z => h1 (by rw [z]; rfl)), if_neg h2, if_neg h3] <;> rfl) (by unfold figF; rw [if_neg (fun z => h1 (by rw [z]; rfl)), if_neg h2, if_neg h3] <;> rfl)
      · refine r_aload_n 0 dX0_takeFigure_61 rfl rfl ?_
        refine r_bipush (nI 10) dX0_takeFigure_62 (by decide +kernel) ?_
        refine r_aload_n 0 dX0_takeFigure_64 rfl rfl ?_
        refine r_get 0 fk_X0_38 dX0_takeFigure_65 rfl rfl ?_
        refine r_imul dX0_takeFigure_68 ?_
        refine r_iload_n 1 dX0_takeFigure_69 rfl rfl ?_
        refine r_iadd dX0_takeFigure_70 ?_
        refine r_put 0 ([(b, .inr (0, [.int (kd), .int (((nI (10)) * f1) + d), .int (f2), .int (bI (op)), .int (nI od), .int (nI nu), .int (nI (fg + 1))]))]) fk_X0_38 dX0_takeFigure_71 rfl rfl rfl rfl (Nat.le_of_ble_eq_true rfl) rfl ?_
        refine r_goto 90 dX0_takeFigure_74 (by decide) ?_
        refine r_iconst (nI 1) dX0_takeFigure_90 (by decide +kernel) ?_
        exact r_iret (()) dX0_takeFigure_91 (by unfold figF; rw [if_neg (fun z => h1 (by rw [z]; rfl)), if_neg h2, if_pos h3] <;> rfl) (by unfold figF; rw [if_neg (fun z => h1 (by rw [z]; rfl)), if_neg h2, if_pos h3] <;> rfl)
    · refine r_iconst (nI 0) dX0_takeFigure_41 (by decide +kernel) ?_
      exact r_iret (()) dX0_takeFigure_42 (by unfold figF; rw [if_neg (fun z => h1 (by rw [z]; rfl)), if_pos h2] <;> rfl) (by unfold figF; rw [if_neg (fun z => h1 (by rw [z]; rfl)), if_pos h2] <;> rfl)
  · refine r_aload_n 0 dX0_takeFigure_7 rfl rfl ?_
    refine r_get 0 fk_X0_29 dX0_takeFigure_8 rfl rfl ?_
    refine r_aload_n 0 dX0_takeFigure_11 rfl rfl ?_
    refine r_get 0 fk_X0_32 dX0_takeFigure_12 rfl rfl ?_
    refine r_callS (As := [.int (kd)]) (st := [.int (nI nu)]) [] [0] (fun _ => rdW b kd f1 f2 op od nu fg) [0] (c_X0_numbersOf l D cA cB (kd)) ks_X0_numbersOf ml_X0_35 dX0_takeFigure_15 rfl rfl rfl rfl rfl rfl (by decide) (fun _ => rfl) rfl rfl (Nat.le_of_ble_eq_true rfl) (fun v u h => ?_)
    subst h
    refine r_st (st' := [.int (nI (numOf kd)), .int (nI nu)]) rfl ?_
    refine r_ncmp_ne 23 (by omega) (by omega) dX0_takeFigure_18 (by decide) (fun h4 => ?_) (fun h4 => ?_)
    · refine r_aload_n 0 dX0_takeFigure_23 rfl rfl ?_
      refine r_dup rfl dX0_takeFigure_24 ?_
      refine r_get 0 fk_X0_29 dX0_takeFigure_25 rfl rfl ?_
      refine r_iconst (nI 1) dX0_takeFigure_28 (by decide +kernel) ?_
      refine r_niadd dX0_takeFigure_29 ?_
      refine r_put 0 ([(b, .inr (0, [.int (kd), .int (f1), .int (f2), .int (bI (op)), .int (nI od), .int (nI (nu + 1)), .int (nI fg)]))]) fk_X0_29 dX0_takeFigure_30 rfl rfl rfl rfl (Nat.le_of_ble_eq_true rfl) rfl ?_
      refine r_aload_n 0 dX0_takeFigure_33 rfl rfl ?_
      refine r_get 0 fk_X0_19 dX0_takeFigure_34 rfl rfl ?_
      refine r_iconst (nI 3) dX0_takeFigure_37 (by decide +kernel) ?_
      refine r_ncmp_ne 43 (by omega) (by omega) dX0_takeFigure_38 (by decide) (fun h5 => ?_) (fun h5 => ?_)
      · refine r_aload_n 0 dX0_takeFigure_43 rfl rfl ?_
        refine r_dup rfl dX0_takeFigure_44 ?_
        refine r_get 0 fk_X0_19 dX0_takeFigure_45 rfl rfl ?_
        refine r_iconst (nI 1) dX0_takeFigure_48 (by decide +kernel) ?_
        refine r_niadd dX0_takeFigure_49 ?_
        refine r_put 0 ([(b, .inr (0, [.int (kd), .int (f1), .int (f2), .int (bI (op)), .int (nI od), .int (nI (nu + 1)), .int (nI (fg + 1))]))]) fk_X0_19 dX0_takeFigure_50 rfl rfl rfl rfl (Nat.le_of_ble_eq_true rfl) rfl ?_
        refine r_aload_n 0 dX0_takeFigure_53 rfl rfl ?_
        refine r_get 0 fk_X0_29 dX0_takeFigure_54 rfl rfl ?_
        refine r_iconst (nI 1) dX0_takeFigure_57 (by decide +kernel) ?_
        refine r_ncmp_ne 77 (by omega) (by omega) dX0_takeFigure_58 (by decide) (fun h6 => ?_) (fun h6 => ?_)
        · refine r_aload_n 0 dX0_takeFigure_77 rfl rfl ?_
          refine r_bipush (nI 10) dX0_takeFigure_78 (by decide +kernel) ?_
          refine r_aload_n 0 dX0_takeFigure_80 rfl rfl ?_
          refine r_get 0 fk_X0_41 dX0_takeFigure_81 rfl rfl ?_
          refine r_imul dX0_takeFigure_84 ?_
          refine r_iload_n 1 dX0_takeFigure_85 rfl rfl ?_
          refine r_iadd dX0_takeFigure_86 ?_
          refine r_put 0 ([(b, .inr (0, [.int (kd), .int (f1), .int (((nI (10)) * f2) + d), .int (bI (op)), .int (nI od), .int (nI (nu + 1)), .int (nI (fg + 1))]))]) fk_X0_41 dX0_takeFigure_87 rfl rfl rfl rfl (Nat.le_of_ble_eq_true rfl) rfl ?_
          refine r_iconst (nI 1) dX0_takeFigure_90 (by decide +kernel) ?_
          exact r_iret (()) dX0_takeFigure_91 (by unfold figF; rw [if_pos ((nI_inj (b := 0) (by omega) (by decide)).mp h1), if_neg h4, if_neg h6] <;> rfl) (by unfold figF; rw [if_pos ((nI_inj (b := 0) (by omega) (by decide)).mp h1), if_neg h4, if_neg h6] <;> rfl)
        · refine r_aload_n 0 dX0_takeFigure_61 rfl rfl ?_
          refine r_bipush (nI 10) dX0_takeFigure_62 (by decide +kernel) ?_
          refine r_aload_n 0 dX0_takeFigure_64 rfl rfl ?_
          refine r_get 0 fk_X0_38 dX0_takeFigure_65 rfl rfl ?_
          refine r_imul dX0_takeFigure_68 ?_
          refine r_iload_n 1 dX0_takeFigure_69 rfl rfl ?_
          refine r_iadd dX0_takeFigure_70 ?_
          refine r_put 0 ([(b, .inr (0, [.int (kd), .int (((nI (10)) * f1) + d), .int (f2), .int (bI (op)), .int (nI od), .int (nI (nu + 1)), .int (nI (fg + 1))]))]) fk_X0_38 dX0_takeFigure_71 rfl rfl rfl rfl (Nat.le_of_ble_eq_true rfl) rfl ?_
          refine r_goto 90 dX0_takeFigure_74 (by decide) ?_
          refine r_iconst (nI 1) dX0_takeFigure_90 (by decide +kernel) ?_
          exact r_iret (()) dX0_takeFigure_91 (by unfold figF; rw [if_pos ((nI_inj (b := 0) (by omega) (by decide)).mp h1), if_neg h4, if_pos h6] <;> rfl) (by unfold figF; rw [if_pos ((nI_inj (b := 0) (by omega) (by decide)).mp h1), if_neg h4, if_pos h6] <;> rfl)
      · exact absurd ((nI_inj (b := 0) (by omega) (by decide)).mp h1) (by omega)
    · refine r_iconst (nI 0) dX0_takeFigure_21 (by decide +kernel) ?_
      exact r_iret (()) dX0_takeFigure_22 (by unfold figF; rw [if_pos ((nI_inj (b := 0) (by omega) (by decide)).mp h1), if_pos h4] <;> rfl) (by unfold figF; rw [if_pos ((nI_inj (b := 0) (by omega) (by decide)).mp h1), if_pos h4] <;> rfl)

set_option maxRecDepth 100000 in
set_option maxHeartbeats 4000000 in
theorem c_X0_take (l : Launch) (D : va_G) (cA cB : ClassId) (b : Nat) (kd f1 f2 : Int32) (op : Bool) (od nu fg : Nat) (hod : od < 1000) (hnu : nu < 1000) (hfg : fg < 1000) (c : Int32) : Mt l D (tyS cA cB) yX0_take cX0_take 2 (some .int) ({ frames := 2, cells := 0, slots := 0, locals := 41 } : Room) [.ref (b), .int (c)] (rdW b kd f1 f2 op od nu fg) Unit (fun v _ => v = some (.int (takeF kd f1 f2 op od nu fg c).1)) (fun _ => rdZ b (takeF kd f1 f2 op od nu fg c).2) 0 0 := by
  refine mt_in RX0 ([some (.ref (b)), some (.int (c))]) rfl (by decide +kernel) rfl (Nat.le_of_ble_eq_true rfl) rfl rfl (fun X sz => ?_)
  have hk := numOf_le kd
  refine r_iload_n 1 dX0_take_0 rfl rfl ?_
  refine r_bipush (nI 32) dX0_take_1 (by decide +kernel) ?_
  refine r_icmp_ne 13 dX0_take_3 (by decide) (fun h1 => ?_) (fun h1 => ?_)
  · refine r_aload_n 0 dX0_take_13 rfl rfl ?_
    refine r_get 0 fk_X0_9 dX0_take_14 rfl rfl ?_
    refine r_bif_ne 26 dX0_take_17 (by decide) (fun h2 => ?_) (fun h2 => ?_)
    · refine r_iload_n 1 dX0_take_26 rfl rfl ?_
      refine r_bipush (nI 48) dX0_take_27 (by decide +kernel) ?_
      refine r_icmp_lt 47 dX0_take_29 (by decide) (fun h3 => ?_) (fun h3 => ?_)
      · refine r_iload_n 1 dX0_take_47 rfl rfl ?_
        refine r_bipush (nI 59) dX0_take_48 (by decide +kernel) ?_
        refine r_icmp_ne 67 dX0_take_50 (by decide) (fun h4 => ?_) (fun h4 => ?_)
        · refine r_iconst (nI 0) dX0_take_67 (by decide +kernel) ?_
          exact r_iret (()) dX0_take_68 (by unfold takeF; rw [if_neg h1, if_neg (by rw [h2]; decide), if_neg (fun z => Int32.not_lt.mpr z.1 h3), if_neg (fun z => h4 z.1)] <;> rfl) (by unfold takeF; rw [if_neg h1, if_neg (by rw [h2]; decide), if_neg (fun z => Int32.not_lt.mpr z.1 h3), if_neg (fun z => h4 z.1)] <;> rfl)
        · refine r_aload_n 0 dX0_take_53 rfl rfl ?_
          refine r_get 0 fk_X0_29 dX0_take_54 rfl rfl ?_
          refine r_aload_n 0 dX0_take_57 rfl rfl ?_
          refine r_get 0 fk_X0_32 dX0_take_58 rfl rfl ?_
          refine r_callS (As := [.int (kd)]) (st := [.int (nI nu)]) [] [0] (fun _ => rdW b kd f1 f2 op od nu fg) [0] (c_X0_numbersOf l D cA cB (kd)) ks_X0_numbersOf ml_X0_35 dX0_take_61 rfl rfl rfl rfl rfl rfl (by decide) (fun _ => rfl) rfl rfl (Nat.le_of_ble_eq_true rfl) (fun v u h => ?_)
          subst h
          refine r_st (st' := [.int (nI (numOf kd)), .int (nI nu)]) rfl ?_
          refine r_ncmp_eq 69 (by omega) (by omega) dX0_take_64 (by decide) (fun h5 => ?_) (fun h5 => ?_)
          · refine r_aload_n 0 dX0_take_69 rfl rfl ?_
            refine r_iconst (nI 0) dX0_take_70 (by decide +kernel) ?_
            refine r_put 0 ([(b, .inr (0, [.int (kd), .int (f1), .int (f2), .int (nI 0), .int (nI od), .int (nI nu), .int (nI fg)]))]) fk_X0_9 dX0_take_71 rfl rfl (by decide +kernel) rfl (Nat.le_of_ble_eq_true rfl) rfl ?_
            refine r_aload_n 0 dX0_take_74 rfl rfl ?_
            refine r_dup rfl dX0_take_75 ?_
            refine r_get 0 fk_X0_15 dX0_take_76 rfl rfl ?_
            refine r_iconst (nI 1) dX0_take_79 (by decide +kernel) ?_
            refine r_niadd dX0_take_80 ?_
            refine r_put 0 ([(b, .inr (0, [.int (kd), .int (f1), .int (f2), .int (nI 0), .int (nI (od + 1)), .int (nI nu), .int (nI fg)]))]) fk_X0_15 dX0_take_81 rfl rfl rfl rfl (Nat.le_of_ble_eq_true rfl) rfl ?_
            refine r_iconst (nI 2) dX0_take_84 (by decide +kernel) ?_
            exact r_iret (()) dX0_take_85 (by unfold takeF; rw [if_neg h1, if_neg (by rw [h2]; decide), if_neg (fun z => Int32.not_lt.mpr z.1 h3), if_pos ⟨h4, h5⟩] <;> rfl) (by unfold takeF; rw [if_neg h1, if_neg (by rw [h2]; decide), if_neg (fun z => Int32.not_lt.mpr z.1 h3), if_pos ⟨h4, h5⟩] <;> rfl)
          · refine r_iconst (nI 0) dX0_take_67 (by decide +kernel) ?_
            exact r_iret (()) dX0_take_68 (by unfold takeF; rw [if_neg h1, if_neg (by rw [h2]; decide), if_neg (fun z => Int32.not_lt.mpr z.1 h3), if_neg (fun z => h5 z.2)] <;> rfl) (by unfold takeF; rw [if_neg h1, if_neg (by rw [h2]; decide), if_neg (fun z => Int32.not_lt.mpr z.1 h3), if_neg (fun z => h5 z.2)] <;> rfl)
      · refine r_iload_n 1 dX0_take_32 rfl rfl ?_
        refine r_bipush (nI 57) dX0_take_33 (by decide +kernel) ?_
        refine r_icmp_gt 47 dX0_take_35 (by decide) (fun h6 => ?_) (fun h6 => ?_)
        · refine r_iload_n 1 dX0_take_47 rfl rfl ?_
          refine r_bipush (nI 59) dX0_take_48 (by decide +kernel) ?_
          refine r_icmp_ne 67 dX0_take_50 (by decide) (fun h7 => ?_) (fun h7 => ?_)
          · refine r_iconst (nI 0) dX0_take_67 (by decide +kernel) ?_
            exact r_iret (()) dX0_take_68 (by unfold takeF; rw [if_neg h1, if_neg (by rw [h2]; decide), if_neg (fun z => Int32.not_lt.mpr z.2 h6), if_neg (fun z => h7 z.1)] <;> rfl) (by unfold takeF; rw [if_neg h1, if_neg (by rw [h2]; decide), if_neg (fun z => Int32.not_lt.mpr z.2 h6), if_neg (fun z => h7 z.1)] <;> rfl)
          · refine r_aload_n 0 dX0_take_53 rfl rfl ?_
            refine r_get 0 fk_X0_29 dX0_take_54 rfl rfl ?_
            refine r_aload_n 0 dX0_take_57 rfl rfl ?_
            refine r_get 0 fk_X0_32 dX0_take_58 rfl rfl ?_
            refine r_callS (As := [.int (kd)]) (st := [.int (nI nu)]) [] [0] (fun _ => rdW b kd f1 f2 op od nu fg) [0] (c_X0_numbersOf l D cA cB (kd)) ks_X0_numbersOf ml_X0_35 dX0_take_61 rfl rfl rfl rfl rfl rfl (by decide) (fun _ => rfl) rfl rfl (Nat.le_of_ble_eq_true rfl) (fun v u h => ?_)
            subst h
            refine r_st (st' := [.int (nI (numOf kd)), .int (nI nu)]) rfl ?_
            refine r_ncmp_eq 69 (by omega) (by omega) dX0_take_64 (by decide) (fun h8 => ?_) (fun h8 => ?_)
            · refine r_aload_n 0 dX0_take_69 rfl rfl ?_
              refine r_iconst (nI 0) dX0_take_70 (by decide +kernel) ?_
              refine r_put 0 ([(b, .inr (0, [.int (kd), .int (f1), .int (f2), .int (nI 0), .int (nI od), .int (nI nu), .int (nI fg)]))]) fk_X0_9 dX0_take_71 rfl rfl (by decide +kernel) rfl (Nat.le_of_ble_eq_true rfl) rfl ?_
              refine r_aload_n 0 dX0_take_74 rfl rfl ?_
              refine r_dup rfl dX0_take_75 ?_
              refine r_get 0 fk_X0_15 dX0_take_76 rfl rfl ?_
              refine r_iconst (nI 1) dX0_take_79 (by decide +kernel) ?_
              refine r_niadd dX0_take_80 ?_
              refine r_put 0 ([(b, .inr (0, [.int (kd), .int (f1), .int (f2), .int (nI 0), .int (nI (od + 1)), .int (nI nu), .int (nI fg)]))]) fk_X0_15 dX0_take_81 rfl rfl rfl rfl (Nat.le_of_ble_eq_true rfl) rfl ?_
              refine r_iconst (nI 2) dX0_take_84 (by decide +kernel) ?_
              exact r_iret (()) dX0_take_85 (by unfold takeF; rw [if_neg h1, if_neg (by rw [h2]; decide), if_neg (fun z => Int32.not_lt.mpr z.2 h6), if_pos ⟨h7, h8⟩] <;> rfl) (by unfold takeF; rw [if_neg h1, if_neg (by rw [h2]; decide), if_neg (fun z => Int32.not_lt.mpr z.2 h6), if_pos ⟨h7, h8⟩] <;> rfl)
            · refine r_iconst (nI 0) dX0_take_67 (by decide +kernel) ?_
              exact r_iret (()) dX0_take_68 (by unfold takeF; rw [if_neg h1, if_neg (by rw [h2]; decide), if_neg (fun z => Int32.not_lt.mpr z.2 h6), if_neg (fun z => h8 z.2)] <;> rfl) (by unfold takeF; rw [if_neg h1, if_neg (by rw [h2]; decide), if_neg (fun z => Int32.not_lt.mpr z.2 h6), if_neg (fun z => h8 z.2)] <;> rfl)
        · refine r_aload_n 0 dX0_take_38 rfl rfl ?_
          refine r_iload_n 1 dX0_take_39 rfl rfl ?_
          refine r_bipush (nI 48) dX0_take_40 (by decide +kernel) ?_
          refine r_isub dX0_take_42 ?_
          refine r_callV (As := [.int (c - (nI (48)))]) (st := []) [0] [] (fun _ => rdZ b (figF kd f1 f2 op od nu fg (c - nI 48)).2) [0] (c_X0_takeFigure l D cA cB b kd f1 f2 op od nu fg hod hnu hfg (c - nI 48)) kv_X0_takeFigure ml_X0_26 dX0_take_43 rfl rfl rfl rfl rfl rfl rfl rfl (by decide) (fun _ => rfl) rfl rfl (Nat.le_of_ble_eq_true rfl) (fun v u h => ?_)
          subst h
          refine r_st (st' := [.int ((figF kd f1 f2 op od nu fg (c - nI 48)).1)]) rfl ?_
          exact r_iret (()) dX0_take_46 (by unfold takeF; rw [if_neg h1, if_neg (by rw [h2]; decide), if_pos ⟨Int32.not_lt.mp h3, Int32.not_lt.mp h6⟩] <;> rfl) (by unfold takeF; rw [if_neg h1, if_neg (by rw [h2]; decide), if_pos ⟨Int32.not_lt.mp h3, Int32.not_lt.mp h6⟩] <;> rfl)
    · refine r_aload_n 0 dX0_take_20 rfl rfl ?_
      refine r_iload_n 1 dX0_take_21 rfl rfl ?_
      refine r_callV (As := [.int (c)]) (st := []) [0] [] (fun _ => rdZ b (kindF (kd, f1, f2, op, od, nu, fg) c).2) [0] (c_X0_takeKind l D cA cB b kd f1 f2 op od nu fg c) kv_X0_takeKind ml_X0_22 dX0_take_22 rfl rfl rfl rfl rfl rfl rfl rfl (by decide) (fun _ => rfl) rfl rfl (Nat.le_of_ble_eq_true rfl) (fun v u h => ?_)
      subst h
      refine r_st (st' := [.int ((kindF (kd, f1, f2, op, od, nu, fg) c).1)]) rfl ?_
      exact r_iret (()) dX0_take_25 (by unfold takeF; rw [if_neg h1, if_pos h2] <;> rfl) (by unfold takeF; rw [if_neg h1, if_pos h2] <;> rfl)
  · refine r_aload_n 0 dX0_take_6 rfl rfl ?_
    refine r_iconst (nI 0) dX0_take_7 (by decide +kernel) ?_
    refine r_put 0 ([(b, .inr (0, [.int (kd), .int (f1), .int (f2), .int (bI (op)), .int (nI od), .int (nI nu), .int (nI 0)]))]) fk_X0_19 dX0_take_8 rfl rfl rfl rfl (Nat.le_of_ble_eq_true rfl) rfl ?_
    refine r_iconst (nI 1) dX0_take_11 (by decide +kernel) ?_
    exact r_iret (()) dX0_take_12 (by unfold takeF; rw [if_pos h1] <;> rfl) (by unfold takeF; rw [if_pos h1] <;> rfl)

