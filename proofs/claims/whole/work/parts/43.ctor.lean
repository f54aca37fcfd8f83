set_option maxRecDepth 100000 in
set_option maxHeartbeats 4000000 in
theorem c_X0_init (l : Launch) (D : va_G) (cA cB : ClassId) (a : Nat) : Mt l D (tyS cA cB) yX0_init cX0_init 1 none ({ frames := 1, cells := 0, slots := 0, locals := 20 } : Room) [.ref (a)] ([(a, .inr (0, [.int (0), .int (0), .int (0), .int (0), .int (0), .int (0), .int (0)]))]) Unit (fun v _ => v = none) (fun _ => rdW a 0 0 0 false 0 0 0) 0 0 := by
  refine mt_ini RX0 ([some (.ref (a))]) rfl rfl (by decide +kernel) rfl (Nat.le_of_ble_eq_true rfl) rfl rfl (fun X sz hX => ?_)
  refine r_aload_n 0 dX0_init_0 rfl rfl ?_
  refine r_obj mo_X0_3 dX0_init_1 rfl rfl ?_
  exact r_vret (()) dX0_init_4 (rfl) (rfl)

theorem row0 {cA : ClassId} (a b1 b2 b3 b4 b5 : Nat) : ([(a, .inr (1, [.int (nI 16), .int (0), .int (0), .int (0), .int (0), .int (0), .int (0), .ref (b1), .ref (b2), .ref (b3), .ref (b4), .ref (b5)])), (b1, .inl (cA, 64, .inl (kA rho0))), (b2, .inl (cA, 64, .inl (fun _ => 0))), (b3, .inl (cA, 8, .inl (fun _ => 0))), (b4, .inl (cA, 8, .inl (fun _ => 0))), (b5, .inl (cA, 8, .inl (fun _ => 0)))] : va_W) = rowW cA (v6 a b1 b2 b3 b4 b5) rho0 := by
  unfold rowW
  rw [← z_v, ← z_g 0 (by omega), ← z_g 1 (by omega), ← z_g 2 (by omega)]
  rfl
set_option maxRecDepth 100000 in
set_option maxHeartbeats 4000000 in
theorem lp_X1_init (l : Launch) (D : va_G) (cA cB : ClassId) (a : Nat) (X : Cx) (sz : Nat) : ∀ (b1 b2 b3 b4 b5 : Nat) (f c : Nat), c ≤ 64 → 64 < c + f → G l X ({ frames := 1, cells := 5, slots := 152, locals := 20 } : Room) cX1_init RX1 none D (tyS cA cB) (va_A ([(a, .inr (1, [.int (0), .int (0), .int (0), .int (0), .int (0), .int (0), .int (0), .null, .null, .null, .null, .null]))]) sz) (QX X D (tyS cA cB) ([(a, .inr (1, [.int (0), .int (0), .int (0), .int (0), .int (0), .int (0), .int (0), .null, .null, .null, .null, .null]))]) sz (Nat → Nat) (fun v u => v = none ∧ u 0 = a) (fun u => rowW cA u rho0) 5 152) 5 152 ([(a, .inr (1, [.int (nI 16), .int (0), .int (0), .int (0), .int (0), .int (0), .int (0), .ref (b1), .ref (b2), .ref (b3), .ref (b4), .ref (b5)])), (b1, .inl (cA, 64, .inl (kL c))), (b2, .inl (cA, 64, .inl (fun _ => 0))), (b3, .inl (cA, 8, .inl (fun _ => 0))), (b4, .inl (cA, 8, .inl (fun _ => 0))), (b5, .inl (cA, 8, .inl (fun _ => 0)))]) 52 ([some (.ref (a)), some (.int (nI c))]) [] := by
  intro b1 b2 b3 b4 b5 f
  induction f with
  | zero => intro c h1 h2; omega
  | succ f ih =>
    intro c hc hf
    refine r_iload_n 1 dX1_init_52 rfl rfl ?_
    refine r_bipush (nI 64) dX1_init_53 (by decide +kernel) ?_
    refine r_ncmp_ge 71 (by omega) (by omega) dX1_init_55 (by decide) (fun hq1 => ?_) (fun hq1 => ?_)
    · exact r_vret (v6 a b1 b2 b3 b4 b5) dX1_init_71 (⟨rfl, rfl⟩) (by rw [show c = 64 by omega, kL_k]; exact row0 a b1 b2 b3 b4 b5)
    · refine r_aload_n 0 dX1_init_58 rfl rfl ?_
      refine r_get 0 fk_X1_15 dX1_init_59 rfl rfl ?_
      refine r_iload_n 1 dX1_init_62 rfl rfl ?_
      refine r_iconst (-1) dX1_init_63 (by decide +kernel) ?_
      refine r_iast 1 (c) ([(a, .inr (1, [.int (nI 16), .int (0), .int (0), .int (0), .int (0), .int (0), .int (0), .ref (b1), .ref (b2), .ref (b3), .ref (b4), .ref (b5)])), (b1, .inl (cA, 64, .inl (upd (kL c) c (-1)))), (b2, .inl (cA, 64, .inl (fun _ => 0))), (b3, .inl (cA, 8, .inl (fun _ => 0))), (b4, .inl (cA, 8, .inl (fun _ => 0))), (b5, .inl (cA, 8, .inl (fun _ => 0)))]) dX1_init_64 rfl rfl rfl (by omega) (Nat.le_of_ble_eq_true rfl) rfl ?_
      refine r_ws (ws' := [(a, .inr (1, [.int (nI 16), .int (0), .int (0), .int (0), .int (0), .int (0), .int (0), .ref (b1), .ref (b2), .ref (b3), .ref (b4), .ref (b5)])), (b1, .inl (cA, 64, .inl (kL (c + 1)))), (b2, .inl (cA, 64, .inl (fun _ => 0))), (b3, .inl (cA, 8, .inl (fun _ => 0))), (b4, .inl (cA, 8, .inl (fun _ => 0))), (b5, .inl (cA, 8, .inl (fun _ => 0)))]) (by rw [kL_s]) ?_
      refine r_iinc (v := nI (c + 1)) ([some (.ref (a)), some (.int (nI (c + 1)))]) dX1_init_65 rfl (nI_1 _) (Nat.le_of_ble_eq_true rfl) rfl rfl ?_
      refine r_goto 52 dX1_init_68 (by decide) ?_
      exact ih (c + 1) (by omega) (by omega)

set_option maxRecDepth 100000 in
set_option maxHeartbeats 4000000 in
theorem c_X1_init (l : Launch) (D : va_G) (cA cB : ClassId) (a : Nat) : Mt l D (tyS cA cB) yX1_init cX1_init 2 none ({ frames := 1, cells := 5, slots := 152, locals := 20 } : Room) [.ref (a)] ([(a, .inr (1, [.int (0), .int (0), .int (0), .int (0), .int (0), .int (0), .int (0), .null, .null, .null, .null, .null]))]) (Nat → Nat) (fun v u => v = none ∧ u 0 = a) (fun u => rowW cA u rho0) 5 152 := by
  refine mt_ini RX1 ([some (.ref (a)), none]) rfl rfl (by decide +kernel) rfl (Nat.le_of_ble_eq_true rfl) rfl rfl (fun X sz hX => ?_)
  refine r_aload_n 0 dX1_init_0 rfl rfl ?_
  refine r_obj mo_X1_3 dX1_init_1 rfl rfl ?_
  refine r_aload_n 0 dX1_init_4 rfl rfl ?_
  refine r_bipush (nI 16) dX1_init_5 (by decide +kernel) ?_
  refine r_put 0 ([(a, .inr (1, [.int (nI 16), .int (0), .int (0), .int (0), .int (0), .int (0), .int (0), .null, .null, .null, .null, .null]))]) fk_X1_9 dX1_init_7 rfl rfl rfl rfl (Nat.le_of_ble_eq_true rfl) rfl ?_
  refine r_aload_n 0 dX1_init_10 rfl rfl ?_
  refine r_bipush (nI 64) dX1_init_11 (by decide +kernel) ?_
  refine r_newa 64 rfl dX1_init_13 rfl rfl rfl (fun qa1 => ?_)
  refine r_ws (ws' := [(a, .inr (1, [.int (nI 16), .int (0), .int (0), .int (0), .int (0), .int (0), .int (0), .null, .null, .null, .null, .null])), (qa1, .inl (cA, 64, .inl (fun _ => 0)))]) rfl ?_
  refine r_putF hX 0 ([(a, .inr (1, [.int (nI 16), .int (0), .int (0), .int (0), .int (0), .int (0), .int (0), .ref (qa1), .null, .null, .null, .null])), (qa1, .inl (cA, 64, .inl (fun _ => 0)))]) fk_X1_15 dX1_init_15 rfl rfl rfl rfl rfl (Nat.le_of_ble_eq_true rfl) rfl (fun _ => Or.inr trivial) (fun q9 hq9 => by cases hq9; exact TB_of 118 (by decide +kernel) (by decide +kernel)) ?_
  refine r_aload_n 0 dX1_init_18 rfl rfl ?_
  refine r_bipush (nI 64) dX1_init_19 (by decide +kernel) ?_
  refine r_newa 64 rfl dX1_init_21 rfl rfl rfl (fun qa2 => ?_)
  refine r_ws (ws' := [(a, .inr (1, [.int (nI 16), .int (0), .int (0), .int (0), .int (0), .int (0), .int (0), .ref (qa1), .null, .null, .null, .null])), (qa1, .inl (cA, 64, .inl (fun _ => 0))), (qa2, .inl (cA, 64, .inl (fun _ => 0)))]) rfl ?_
  refine r_putF hX 0 ([(a, .inr (1, [.int (nI 16), .int (0), .int (0), .int (0), .int (0), .int (0), .int (0), .ref (qa1), .ref (qa2), .null, .null, .null])), (qa1, .inl (cA, 64, .inl (fun _ => 0))), (qa2, .inl (cA, 64, .inl (fun _ => 0)))]) fk_X1_19 dX1_init_23 rfl rfl rfl rfl rfl (Nat.le_of_ble_eq_true rfl) rfl (fun _ => Or.inr trivial) (fun q9 hq9 => by cases hq9; exact TB_of 119 (by decide +kernel) (by decide +kernel)) ?_
  refine r_aload_n 0 dX1_init_26 rfl rfl ?_
  refine r_bipush (nI 8) dX1_init_27 (by decide +kernel) ?_
  refine r_newa 8 rfl dX1_init_29 rfl rfl rfl (fun qa3 => ?_)
  refine r_ws (ws' := [(a, .inr (1, [.int (nI 16), .int (0), .int (0), .int (0), .int (0), .int (0), .int (0), .ref (qa1), .ref (qa2), .null, .null, .null])), (qa1, .inl (cA, 64, .inl (fun _ => 0))), (qa2, .inl (cA, 64, .inl (fun _ => 0))), (qa3, .inl (cA, 8, .inl (fun _ => 0)))]) rfl ?_
  refine r_putF hX 0 ([(a, .inr (1, [.int (nI 16), .int (0), .int (0), .int (0), .int (0), .int (0), .int (0), .ref (qa1), .ref (qa2), .ref (qa3), .null, .null])), (qa1, .inl (cA, 64, .inl (fun _ => 0))), (qa2, .inl (cA, 64, .inl (fun _ => 0))), (qa3, .inl (cA, 8, .inl (fun _ => 0)))]) fk_X1_22 dX1_init_31 rfl rfl rfl rfl rfl (Nat.le_of_ble_eq_true rfl) rfl (fun _ => Or.inr trivial) (fun q9 hq9 => by cases hq9; exact TB_of 120 (by decide +kernel) (by decide +kernel)) ?_
  refine r_aload_n 0 dX1_init_34 rfl rfl ?_
  refine r_bipush (nI 8) dX1_init_35 (by decide +kernel) ?_
  refine r_newa 8 rfl dX1_init_37 rfl rfl rfl (fun qa4 => ?_)
  refine r_ws (ws' := [(a, .inr (1, [.int (nI 16), .int (0), .int (0), .int (0), .int (0), .int (0), .int (0), .ref (qa1), .ref (qa2), .ref (qa3), .null, .null])), (qa1, .inl (cA, 64, .inl (fun _ => 0))), (qa2, .inl (cA, 64, .inl (fun _ => 0))), (qa3, .inl (cA, 8, .inl (fun _ => 0))), (qa4, .inl (cA, 8, .inl (fun _ => 0)))]) rfl ?_
  refine r_putF hX 0 ([(a, .inr (1, [.int (nI 16), .int (0), .int (0), .int (0), .int (0), .int (0), .int (0), .ref (qa1), .ref (qa2), .ref (qa3), .ref (qa4), .null])), (qa1, .inl (cA, 64, .inl (fun _ => 0))), (qa2, .inl (cA, 64, .inl (fun _ => 0))), (qa3, .inl (cA, 8, .inl (fun _ => 0))), (qa4, .inl (cA, 8, .inl (fun _ => 0)))]) fk_X1_25 dX1_init_39 rfl rfl rfl rfl rfl (Nat.le_of_ble_eq_true rfl) rfl (fun _ => Or.inr trivial) (fun q9 hq9 => by cases hq9; exact TB_of 121 (by decide +kernel) (by decide +kernel)) ?_
  refine r_aload_n 0 dX1_init_42 rfl rfl ?_
  refine r_bipush (nI 8) dX1_init_43 (by decide +kernel) ?_
  refine r_newa 8 rfl dX1_init_45 rfl rfl rfl (fun qa5 => ?_)
  refine r_ws (ws' := [(a, .inr (1, [.int (nI 16), .int (0), .int (0), .int (0), .int (0), .int (0), .int (0), .ref (qa1), .ref (qa2), .ref (qa3), .ref (qa4), .null])), (qa1, .inl (cA, 64, .inl (fun _ => 0))), (qa2, .inl (cA, 64, .inl (fun _ => 0))), (qa3, .inl (cA, 8, .inl (fun _ => 0))), (qa4, .inl (cA, 8, .inl (fun _ => 0))), (qa5, .inl (cA, 8, .inl (fun _ => 0)))]) rfl ?_
  refine r_putF hX 0 ([(a, .inr (1, [.int (nI 16), .int (0), .int (0), .int (0), .int (0), .int (0), .int (0), .ref (qa1), .ref (qa2), .ref (qa3), .ref (qa4), .ref (qa5)])), (qa1, .inl (cA, 64, .inl (fun _ => 0))), (qa2, .inl (cA, 64, .inl (fun _ => 0))), (qa3, .inl (cA, 8, .inl (fun _ => 0))), (qa4, .inl (cA, 8, .inl (fun _ => 0))), (qa5, .inl (cA, 8, .inl (fun _ => 0)))]) fk_X1_28 dX1_init_47 rfl rfl rfl rfl rfl (Nat.le_of_ble_eq_true rfl) rfl (fun _ => Or.inr trivial) (fun q9 hq9 => by cases hq9; exact TB_of 122 (by decide +kernel) (by decide +kernel)) ?_
  refine r_iconst (nI 0) dX1_init_50 (by decide +kernel) ?_
  refine r_istore_n 1 ([some (.ref (a)), some (.int (nI 0))]) dX1_init_51 rfl (Nat.le_of_ble_eq_true rfl) rfl rfl ?_
  refine r_ws (ws' := [(a, .inr (1, [.int (nI 16), .int (0), .int (0), .int (0), .int (0), .int (0), .int (0), .ref (qa1), .ref (qa2), .ref (qa3), .ref (qa4), .ref (qa5)])), (qa1, .inl (cA, 64, .inl (kL 0))), (qa2, .inl (cA, 64, .inl (fun _ => 0))), (qa3, .inl (cA, 8, .inl (fun _ => 0))), (qa4, .inl (cA, 8, .inl (fun _ => 0))), (qa5, .inl (cA, 8, .inl (fun _ => 0)))]) (by rw [kL_0]) ?_
  exact lp_X1_init l D cA cB a X sz qa1 qa2 qa3 qa4 qa5 65 0 (by omega) (by omega)

set_option maxRecDepth 100000 in
set_option maxHeartbeats 4000000 in
theorem c_X2_init (l : Launch) (D : va_G) (cA cB : ClassId) (a : Nat) : Mt l D (tyS cA cB) yX2_init cX2_init 1 none ({ frames := 1, cells := 3, slots := 192, locals := 20 } : Room) [.ref (a)] ([(a, .inr (2, [.null, .null, .null, .int (0), .int (0)]))]) (Nat → Nat) (fun v u => v = none ∧ u 0 = a) (fun u => spW cA u (fun _ => 0) (fun _ => 0) (fun _ => 0) 0 0) 3 192 := by
  refine mt_ini RX2 ([some (.ref (a))]) rfl rfl (by decide +kernel) rfl (Nat.le_of_ble_eq_true rfl) rfl rfl (fun X sz hX => ?_)
  refine r_aload_n 0 dX2_init_0 rfl rfl ?_
  refine r_obj mo_X2_3 dX2_init_1 rfl rfl ?_
  refine r_aload_n 0 dX2_init_4 rfl rfl ?_
  refine r_bipush (nI 64) dX2_init_5 (by decide +kernel) ?_
  refine r_newa 64 rfl dX2_init_7 rfl rfl rfl (fun qa1 => ?_)
  refine r_ws (ws' := [(a, .inr (2, [.null, .null, .null, .int (0), .int (0)])), (qa1, .inl (cA, 64, .inl (fun _ => 0)))]) rfl ?_
  refine r_putF hX 0 ([(a, .inr (2, [.ref (qa1), .null, .null, .int (0), .int (0)])), (qa1, .inl (cA, 64, .inl (fun _ => 0)))]) fk_X2_9 dX2_init_9 rfl rfl rfl rfl rfl (Nat.le_of_ble_eq_true rfl) rfl (fun _ => Or.inr trivial) (fun q9 hq9 => by cases hq9; exact TB_of 155 (by decide +kernel) (by decide +kernel)) ?_
  refine r_aload_n 0 dX2_init_12 rfl rfl ?_
  refine r_bipush (nI 64) dX2_init_13 (by decide +kernel) ?_
  refine r_newa 64 rfl dX2_init_15 rfl rfl rfl (fun qa2 => ?_)
  refine r_ws (ws' := [(a, .inr (2, [.ref (qa1), .null, .null, .int (0), .int (0)])), (qa1, .inl (cA, 64, .inl (fun _ => 0))), (qa2, .inl (cA, 64, .inl (fun _ => 0)))]) rfl ?_
  refine r_putF hX 0 ([(a, .inr (2, [.ref (qa1), .ref (qa2), .null, .int (0), .int (0)])), (qa1, .inl (cA, 64, .inl (fun _ => 0))), (qa2, .inl (cA, 64, .inl (fun _ => 0)))]) fk_X2_15 dX2_init_17 rfl rfl rfl rfl rfl (Nat.le_of_ble_eq_true rfl) rfl (fun _ => Or.inr trivial) (fun q9 hq9 => by cases hq9; exact TB_of 156 (by decide +kernel) (by decide +kernel)) ?_
  refine r_aload_n 0 dX2_init_20 rfl rfl ?_
  refine r_bipush (nI 64) dX2_init_21 (by decide +kernel) ?_
  refine r_newa 64 rfl dX2_init_23 rfl rfl rfl (fun qa3 => ?_)
  refine r_ws (ws' := [(a, .inr (2, [.ref (qa1), .ref (qa2), .null, .int (0), .int (0)])), (qa1, .inl (cA, 64, .inl (fun _ => 0))), (qa2, .inl (cA, 64, .inl (fun _ => 0))), (qa3, .inl (cA, 64, .inl (fun _ => 0)))]) rfl ?_
  refine r_putF hX 0 ([(a, .inr (2, [.ref (qa1), .ref (qa2), .ref (qa3), .int (0), .int (0)])), (qa1, .inl (cA, 64, .inl (fun _ => 0))), (qa2, .inl (cA, 64, .inl (fun _ => 0))), (qa3, .inl (cA, 64, .inl (fun _ => 0)))]) fk_X2_18 dX2_init_25 rfl rfl rfl rfl rfl (Nat.le_of_ble_eq_true rfl) rfl (fun _ => Or.inr trivial) (fun q9 hq9 => by cases hq9; exact TB_of 157 (by decide +kernel) (by decide +kernel)) ?_
  exact r_vret (v4 a qa1 qa2 qa3) dX2_init_28 (⟨rfl, rfl⟩) (rfl)

set_option maxRecDepth 100000 in
set_option maxHeartbeats 4000000 in
theorem c_X3_init (l : Launch) (D : va_G) (cA cB : ClassId) (a : Nat) : Mt l D (tyS cA cB) yX3_init cX3_init 2 none ({ frames := 2, cells := 37, slots := 990, locals := 41 } : Room) [.ref (a)] ([(a, .inr (3, [.null, .int (0)]))]) ((Nat → Nat) × (Nat → Nat → Nat)) (fun v u => v = none ∧ u.1 0 = a) (fun u => stW cA cB u.1 u.2 (fun _ => rho0) (nI 0)) 37 990 := by
  refine mt_ini RX3 ([some (.ref (a)), none]) rfl rfl (by decide +kernel) rfl (Nat.le_of_ble_eq_true rfl) rfl rfl (fun X sz hX => ?_)
  refine r_aload_n 0 dX3_init_0 rfl rfl ?_
  refine r_obj mo_X3_3 dX3_init_1 rfl rfl ?_
  refine r_aload_n 0 dX3_init_4 rfl rfl ?_
  refine r_bipush (nI 6) dX3_init_5 (by decide +kernel) ?_
  refine r_newq 6 rfl cl_X3_9 dX3_init_7 rfl rfl rfl (fun qa1 => ?_)
  refine r_ws (ws' := [(a, .inr (3, [.null, .int (0)]))] ++ ([(qa1, .inl (cB, 6, .inr (.inr (.inr (.inr (fun _ => none))))))])) rfl ?_
  refine r_putF hX 0 ([(a, .inr (3, [.ref (qa1), .int (0)]))] ++ ([(qa1, .inl (cB, 6, .inr (.inr (.inr (.inr (fun _ => none))))))])) fk_X3_11 dX3_init_10 rfl rfl rfl rfl rfl (Nat.le_of_ble_eq_true rfl) rfl (fun _ => Or.inr trivial) (fun q9 hq9 => by cases hq9; exact TB_of 180 (by decide +kernel) (by decide +kernel)) ?_
  refine r_iconst (nI 0) dX3_init_13 (by decide +kernel) ?_
  refine r_istore_n 1 ([some (.ref (a)), some (.int (nI 0))]) dX3_init_14 rfl (Nat.le_of_ble_eq_true rfl) rfl rfl ?_
  refine r_iload_n 1 dX3_init_15 rfl rfl ?_
  refine r_aload_n 0 dX3_init_16 rfl rfl ?_
  refine r_get 0 fk_X3_11 dX3_init_17 rfl rfl ?_
  refine r_alen 1 1 dX3_init_20 rfl rfl ?_
  refine r_top (y := nI 6) rfl ?_
  refine r_ncmp_ge 43 (by omega) (by omega) dX3_init_21 (by decide) (fun hq2 => ?_) (fun hq2 => ?_)
  · omega
  · refine r_aload_n 0 dX3_init_24 rfl rfl ?_
    refine r_get 0 fk_X3_11 dX3_init_25 rfl rfl ?_
    refine r_iload_n 1 dX3_init_28 rfl rfl ?_
    refine r_new 1 [.int (0), .int (0), .int (0), .int (0), .int (0), .int (0), .int (0), .null, .null, .null, .null, .null] rfl in_X1 cl_X3_9 ins_X1 ini_X1 (by decide +kernel) dX3_init_29 rfl rfl (fun qa3 => ?_)
    refine r_ws (ws' := [(a, .inr (3, [.ref (qa1), .int (0)]))] ++ ([(qa1, .inl (cB, 6, .inr (.inr (.inr (.inr (fun _ => none))))))] ++ ([(qa3, .inr (1, [.int (0), .int (0), .int (0), .int (0), .int (0), .int (0), .int (0), .null, .null, .null, .null, .null]))]))) rfl ?_
    refine r_dup rfl dX3_init_32 ?_
    refine r_callI2 (As := []) (st := [.ref (qa3), .int (nI 0), .ref (qa1)]) (fun u4 => [(a, .inr (3, [.ref (qa1), .int (0)]))] ++ ([(qa1, .inl (cB, 6, .inr (.inr (.inr (.inr (fun _ => none))))))] ++ (rowW cA u4 rho0))) [[(a, .inr (3, [.ref (qa1), .int (0)]))], [(qa1, .inl (cB, 6, .inr (.inr (.inr (.inr (fun _ => none))))))], [(qa3, .inr (1, [.int (0), .int (0), .int (0), .int (0), .int (0), .int (0), .int (0), .null, .null, .null, .null, .null]))]] [[(qa3, .inr (1, [.int (0), .int (0), .int (0), .int (0), .int (0), .int (0), .int (0), .null, .null, .null, .null, .null]))]] [[(a, .inr (3, [.ref (qa1), .int (0)]))], [(qa1, .inl (cB, 6, .inr (.inr (.inr (.inr (fun _ => none))))))]] (fun u4 => [[(a, .inr (3, [.ref (qa1), .int (0)]))], [(qa1, .inl (cB, 6, .inr (.inr (.inr (.inr (fun _ => none))))))], rowW cA u4 rho0]) (fun u4 => [rowW cA u4 rho0]) (c_X1_init l D cA cB qa3) ki_X1_init ml_X3_17 dX3_init_33 rfl rfl (segOk [2, 0, 1] rfl rfl rfl rfl) (fun _ => segOk [2, 0, 1] rfl rfl rfl rfl) rfl (Nat.le_of_ble_eq_true rfl) (fun v u4 h => ?_)
    obtain ⟨hv9, hu9⟩ := h
    subst hv9
    subst hu9
    refine r_st (st' := [.ref (u4 0), .int (nI 0), .ref (qa1)]) rfl ?_
    refine r_aast (r := (RX1, TX1, 12)) 1 2 0 ([(a, .inr (3, [.ref (qa1), .int (0)]))] ++ ([(qa1, .inl (cB, 6, .inr (.inr (.inr (.inr (va_up (fun _ => none) 0 (some (u4 0))))))))] ++ (rowW cA u4 rho0))) dX3_init_36 rfl rfl rfl rfl rfl (Nat.le_of_ble_eq_true rfl) (Nat.le_of_ble_eq_true rfl) rfl ?_
    refine r_iinc (v := nI (1)) ([some (.ref (a)), some (.int (nI 1))]) dX3_init_37 rfl (nI_add 0 1) (Nat.le_of_ble_eq_true rfl) rfl rfl ?_
    refine r_goto 15 dX3_init_40 (by decide) ?_
    refine r_iload_n 1 dX3_init_15 rfl rfl ?_
    refine r_aload_n 0 dX3_init_16 rfl rfl ?_
    refine r_get 0 fk_X3_11 dX3_init_17 rfl rfl ?_
    refine r_alen 1 1 dX3_init_20 rfl rfl ?_
    refine r_top (y := nI 6) rfl ?_
    refine r_ncmp_ge 43 (by omega) (by omega) dX3_init_21 (by decide) (fun hq5 => ?_) (fun hq5 => ?_)
    · omega
    · refine r_aload_n 0 dX3_init_24 rfl rfl ?_
      refine r_get 0 fk_X3_11 dX3_init_25 rfl rfl ?_
      refine r_iload_n 1 dX3_init_28 rfl rfl ?_
      refine r_new 1 [.int (0), .int (0), .int (0), .int (0), .int (0), .int (0), .int (0), .null, .null, .null, .null, .null] rfl in_X1 cl_X3_9 ins_X1 ini_X1 (by decide +kernel) dX3_init_29 rfl rfl (fun qa6 => ?_)
      refine r_ws (ws' := [(a, .inr (3, [.ref (qa1), .int (0)]))] ++ ([(qa1, .inl (cB, 6, .inr (.inr (.inr (.inr (va_up (fun _ => none) 0 (some (u4 0))))))))] ++ (rowW cA u4 rho0 ++ ([(qa6, .inr (1, [.int (0), .int (0), .int (0), .int (0), .int (0), .int (0), .int (0), .null, .null, .null, .null, .null]))])))) rfl ?_
      refine r_dup rfl dX3_init_32 ?_
      refine r_callI2 (As := []) (st := [.ref (qa6), .int (nI 1), .ref (qa1)]) (fun u7 => [(a, .inr (3, [.ref (qa1), .int (0)]))] ++ ([(qa1, .inl (cB, 6, .inr (.inr (.inr (.inr (va_up (fun _ => none) 0 (some (u4 0))))))))] ++ (rowW cA u4 rho0 ++ (rowW cA u7 rho0)))) [[(a, .inr (3, [.ref (qa1), .int (0)]))], [(qa1, .inl (cB, 6, .inr (.inr (.inr (.inr (va_up (fun _ => none) 0 (some (u4 0))))))))], rowW cA u4 rho0, [(qa6, .inr (1, [.int (0), .int (0), .int (0), .int (0), .int (0), .int (0), .int (0), .null, .null, .null, .null, .null]))]] [[(qa6, .inr (1, [.int (0), .int (0), .int (0), .int (0), .int (0), .int (0), .int (0), .null, .null, .null, .null, .null]))]] [[(a, .inr (3, [.ref (qa1), .int (0)]))], [(qa1, .inl (cB, 6, .inr (.inr (.inr (.inr (va_up (fun _ => none) 0 (some (u4 0))))))))], rowW cA u4 rho0] (fun u7 => [[(a, .inr (3, [.ref (qa1), .int (0)]))], [(qa1, .inl (cB, 6, .inr (.inr (.inr (.inr (va_up (fun _ => none) 0 (some (u4 0))))))))], rowW cA u4 rho0, rowW cA u7 rho0]) (fun u7 => [rowW cA u7 rho0]) (c_X1_init l D cA cB qa6) ki_X1_init ml_X3_17 dX3_init_33 rfl rfl (segOk [3, 0, 1, 2] rfl rfl rfl rfl) (fun _ => segOk [3, 0, 1, 2] rfl rfl rfl rfl) rfl (Nat.le_of_ble_eq_true rfl) (fun v u7 h => ?_)
      obtain ⟨hv9, hu9⟩ := h
      subst hv9
      subst hu9
      refine r_st (st' := [.ref (u7 0), .int (nI 1), .ref (qa1)]) rfl ?_
      refine r_aast (r := (RX1, TX1, 12)) 1 8 1 ([(a, .inr (3, [.ref (qa1), .int (0)]))] ++ ([(qa1, .inl (cB, 6, .inr (.inr (.inr (.inr (va_up (va_up (fun _ => none) 0 (some (u4 0))) 1 (some (u7 0))))))))] ++ (rowW cA u4 rho0 ++ (rowW cA u7 rho0)))) dX3_init_36 rfl rfl rfl rfl rfl (Nat.le_of_ble_eq_true rfl) (Nat.le_of_ble_eq_true rfl) rfl ?_
      refine r_iinc (v := nI (2)) ([some (.ref (a)), some (.int (nI 2))]) dX3_init_37 rfl (nI_add 1 1) (Nat.le_of_ble_eq_true rfl) rfl rfl ?_
      refine r_goto 15 dX3_init_40 (by decide) ?_
      refine r_iload_n 1 dX3_init_15 rfl rfl ?_
      refine r_aload_n 0 dX3_init_16 rfl rfl ?_
      refine r_get 0 fk_X3_11 dX3_init_17 rfl rfl ?_
      refine r_alen 1 1 dX3_init_20 rfl rfl ?_
      refine r_top (y := nI 6) rfl ?_
      refine r_ncmp_ge 43 (by omega) (by omega) dX3_init_21 (by decide) (fun hq8 => ?_) (fun hq8 => ?_)
      · omega
      · refine r_aload_n 0 dX3_init_24 rfl rfl ?_
        refine r_get 0 fk_X3_11 dX3_init_25 rfl rfl ?_
        refine r_iload_n 1 dX3_init_28 rfl rfl ?_
        refine r_new 1 [.int (0), .int (0), .int (0), .int (0), .int (0), .int (0), .int (0), .null, .null, .null, .null, .null] rfl in_X1 cl_X3_9 ins_X1 ini_X1 (by decide +kernel) dX3_init_29 rfl rfl (fun qa9 => ?_)
        refine r_ws (ws' := [(a, .inr (3, [.ref (qa1), .int (0)]))] ++ ([(qa1, .inl (cB, 6, .inr (.inr (.inr (.inr (va_up (va_up (fun _ => none) 0 (some (u4 0))) 1 (some (u7 0))))))))] ++ (rowW cA u4 rho0 ++ (rowW cA u7 rho0 ++ ([(qa9, .inr (1, [.int (0), .int (0), .int (0), .int (0), .int (0), .int (0), .int (0), .null, .null, .null, .null, .null]))]))))) rfl ?_
        refine r_dup rfl dX3_init_32 ?_
        refine r_callI2 (As := []) (st := [.ref (qa9), .int (nI 2), .ref (qa1)]) (fun u10 => [(a, .inr (3, [.ref (qa1), .int (0)]))] ++ ([(qa1, .inl (cB, 6, .inr (.inr (.inr (.inr (va_up (va_up (fun _ => none) 0 (some (u4 0))) 1 (some (u7 0))))))))] ++ (rowW cA u4 rho0 ++ (rowW cA u7 rho0 ++ (rowW cA u10 rho0))))) [[(a, .inr (3, [.ref (qa1), .int (0)]))], [(qa1, .inl (cB, 6, .inr (.inr (.inr (.inr (va_up (va_up (fun _ => none) 0 (some (u4 0))) 1 (some (u7 0))))))))], rowW cA u4 rho0, rowW cA u7 rho0, [(qa9, .inr (1, [.int (0), .int (0), .int (0), .int (0), .int (0), .int (0), .int (0), .null, .null, .null, .null, .null]))]] [[(qa9, .inr (1, [.int (0), .int (0), .int (0), .int (0), .int (0), .int (0), .int (0), .null, .null, .null, .null, .null]))]] [[(a, .inr (3, [.ref (qa1), .int (0)]))], [(qa1, .inl (cB, 6, .inr (.inr (.inr (.inr (va_up (va_up (fun _ => none) 0 (some (u4 0))) 1 (some (u7 0))))))))], rowW cA u4 rho0, rowW cA u7 rho0] (fun u10 => [[(a, .inr (3, [.ref (qa1), .int (0)]))], [(qa1, .inl (cB, 6, .inr (.inr (.inr (.inr (va_up (va_up (fun _ => none) 0 (some (u4 0))) 1 (some (u7 0))))))))], rowW cA u4 rho0, rowW cA u7 rho0, rowW cA u10 rho0]) (fun u10 => [rowW cA u10 rho0]) (c_X1_init l D cA cB qa9) ki_X1_init ml_X3_17 dX3_init_33 rfl rfl (segOk [4, 0, 1, 2, 3] rfl rfl rfl rfl) (fun _ => segOk [4, 0, 1, 2, 3] rfl rfl rfl rfl) rfl (Nat.le_of_ble_eq_true rfl) (fun v u10 h => ?_)
        obtain ⟨hv9, hu9⟩ := h
        subst hv9
        subst hu9
        refine r_st (st' := [.ref (u10 0), .int (nI 2), .ref (qa1)]) rfl ?_
        refine r_aast (r := (RX1, TX1, 12)) 1 14 2 ([(a, .inr (3, [.ref (qa1), .int (0)]))] ++ ([(qa1, .inl (cB, 6, .inr (.inr (.inr (.inr (va_up (va_up (va_up (fun _ => none) 0 (some (u4 0))) 1 (some (u7 0))) 2 (some (u10 0))))))))] ++ (rowW cA u4 rho0 ++ (rowW cA u7 rho0 ++ (rowW cA u10 rho0))))) dX3_init_36 rfl rfl rfl rfl rfl (Nat.le_of_ble_eq_true rfl) (Nat.le_of_ble_eq_true rfl) rfl ?_
        refine r_iinc (v := nI (3)) ([some (.ref (a)), some (.int (nI 3))]) dX3_init_37 rfl (nI_add 2 1) (Nat.le_of_ble_eq_true rfl) rfl rfl ?_
        refine r_goto 15 dX3_init_40 (by decide) ?_
        refine r_iload_n 1 dX3_init_15 rfl rfl ?_
        refine r_aload_n 0 dX3_init_16 rfl rfl ?_
        refine r_get 0 fk_X3_11 dX3_init_17 rfl rfl ?_
        refine r_alen 1 1 dX3_init_20 rfl rfl ?_
        refine r_top (y := nI 6) rfl ?_
        refine r_ncmp_ge 43 (by omega) (by omega) dX3_init_21 (by decide) (fun hq11 => ?_) (fun hq11 => ?_)
        · omega
        · refine r_aload_n 0 dX3_init_24 rfl rfl ?_
          refine r_get 0 fk_X3_11 dX3_init_25 rfl rfl ?_
          refine r_iload_n 1 dX3_init_28 rfl rfl ?_
          refine r_new 1 [.int (0), .int (0), .int (0), .int (0), .int (0), .int (0), .int (0), .null, .null, .null, .null, .null] rfl in_X1 cl_X3_9 ins_X1 ini_X1 (by decide +kernel) dX3_init_29 rfl rfl (fun qa12 => ?_)
          refine r_ws (ws' := [(a, .inr (3, [.ref (qa1), .int (0)]))] ++ ([(qa1, .inl (cB, 6, .inr (.inr (.inr (.inr (va_up (va_up (va_up (fun _ => none) 0 (some (u4 0))) 1 (some (u7 0))) 2 (some (u10 0))))))))] ++ (rowW cA u4 rho0 ++ (rowW cA u7 rho0 ++ (rowW cA u10 rho0 ++ ([(qa12, .inr (1, [.int (0), .int (0), .int (0), .int (0), .int (0), .int (0), .int (0), .null, .null, .null, .null, .null]))])))))) rfl ?_
          refine r_dup rfl dX3_init_32 ?_
          refine r_callI2 (As := []) (st := [.ref (qa12), .int (nI 3), .ref (qa1)]) (fun u13 => [(a, .inr (3, [.ref (qa1), .int (0)]))] ++ ([(qa1, .inl (cB, 6, .inr (.inr (.inr (.inr (va_up (va_up (va_up (fun _ => none) 0 (some (u4 0))) 1 (some (u7 0))) 2 (some (u10 0))))))))] ++ (rowW cA u4 rho0 ++ (rowW cA u7 rho0 ++ (rowW cA u10 rho0 ++ (rowW cA u13 rho0)))))) [[(a, .inr (3, [.ref (qa1), .int (0)]))], [(qa1, .inl (cB, 6, .inr (.inr (.inr (.inr (va_up (va_up (va_up (fun _ => none) 0 (some (u4 0))) 1 (some (u7 0))) 2 (some (u10 0))))))))], rowW cA u4 rho0, rowW cA u7 rho0, rowW cA u10 rho0, [(qa12, .inr (1, [.int (0), .int (0), .int (0), .int (0), .int (0), .int (0), .int (0), .null, .null, .null, .null, .null]))]] [[(qa12, .inr (1, [.int (0), .int (0), .int (0), .int (0), .int (0), .int (0), .int (0), .null, .null, .null, .null, .null]))]] [[(a, .inr (3, [.ref (qa1), .int (0)]))], [(qa1, .inl (cB, 6, .inr (.inr (.inr (.inr (va_up (va_up (va_up (fun _ => none) 0 (some (u4 0))) 1 (some (u7 0))) 2 (some (u10 0))))))))], rowW cA u4 rho0, rowW cA u7 rho0, rowW cA u10 rho0] (fun u13 => [[(a, .inr (3, [.ref (qa1), .int (0)]))], [(qa1, .inl (cB, 6, .inr (.inr (.inr (.inr (va_up (va_up (va_up (fun _ => none) 0 (some (u4 0))) 1 (some (u7 0))) 2 (some (u10 0))))))))], rowW cA u4 rho0, rowW cA u7 rho0, rowW cA u10 rho0, rowW cA u13 rho0]) (fun u13 => [rowW cA u13 rho0]) (c_X1_init l D cA cB qa12) ki_X1_init ml_X3_17 dX3_init_33 rfl rfl (segOk [5, 0, 1, 2, 3, 4] rfl rfl rfl rfl) (fun _ => segOk [5, 0, 1, 2, 3, 4] rfl rfl rfl rfl) rfl (Nat.le_of_ble_eq_true rfl) (fun v u13 h => ?_)
          obtain ⟨hv9, hu9⟩ := h
          subst hv9
          subst hu9
          refine r_st (st' := [.ref (u13 0), .int (nI 3), .ref (qa1)]) rfl ?_
          refine r_aast (r := (RX1, TX1, 12)) 1 20 3 ([(a, .inr (3, [.ref (qa1), .int (0)]))] ++ ([(qa1, .inl (cB, 6, .inr (.inr (.inr (.inr (va_up (va_up (va_up (va_up (fun _ => none) 0 (some (u4 0))) 1 (some (u7 0))) 2 (some (u10 0))) 3 (some (u13 0))))))))] ++ (rowW cA u4 rho0 ++ (rowW cA u7 rho0 ++ (rowW cA u10 rho0 ++ (rowW cA u13 rho0)))))) dX3_init_36 rfl rfl rfl rfl rfl (Nat.le_of_ble_eq_true rfl) (Nat.le_of_ble_eq_true rfl) rfl ?_
          refine r_iinc (v := nI (4)) ([some (.ref (a)), some (.int (nI 4))]) dX3_init_37 rfl (nI_add 3 1) (Nat.le_of_ble_eq_true rfl) rfl rfl ?_
          refine r_goto 15 dX3_init_40 (by decide) ?_
          refine r_iload_n 1 dX3_init_15 rfl rfl ?_
          refine r_aload_n 0 dX3_init_16 rfl rfl ?_
          refine r_get 0 fk_X3_11 dX3_init_17 rfl rfl ?_
          refine r_alen 1 1 dX3_init_20 rfl rfl ?_
          refine r_top (y := nI 6) rfl ?_
          refine r_ncmp_ge 43 (by omega) (by omega) dX3_init_21 (by decide) (fun hq14 => ?_) (fun hq14 => ?_)
          · omega
          · refine r_aload_n 0 dX3_init_24 rfl rfl ?_
            refine r_get 0 fk_X3_11 dX3_init_25 rfl rfl ?_
            refine r_iload_n 1 dX3_init_28 rfl rfl ?_
            refine r_new 1 [.int (0), .int (0), .int (0), .int (0), .int (0), .int (0), .int (0), .null, .null, .null, .null, .null] rfl in_X1 cl_X3_9 ins_X1 ini_X1 (by decide +kernel) dX3_init_29 rfl rfl (fun qa15 => ?_)
            refine r_ws (ws' := [(a, .inr (3, [.ref (qa1), .int (0)]))] ++ ([(qa1, .inl (cB, 6, .inr (.inr (.inr (.inr (va_up (va_up (va_up (va_up (fun _ => none) 0 (some (u4 0))) 1 (some (u7 0))) 2 (some (u10 0))) 3 (some (u13 0))))))))] ++ (rowW cA u4 rho0 ++ (rowW cA u7 rho0 ++ (rowW cA u10 rho0 ++ (rowW cA u13 rho0 ++ ([(qa15, .inr (1, [.int (0), .int (0), .int (0), .int (0), .int (0), .int (0), .int (0), .null, .null, .null, .null, .null]))]))))))) rfl ?_
            refine r_dup rfl dX3_init_32 ?_
            refine r_callI2 (As := []) (st := [.ref (qa15), .int (nI 4), .ref (qa1)]) (fun u16 => [(a, .inr (3, [.ref (qa1), .int (0)]))] ++ ([(qa1, .inl (cB, 6, .inr (.inr (.inr (.inr (va_up (va_up (va_up (va_up (fun _ => none) 0 (some (u4 0))) 1 (some (u7 0))) 2 (some (u10 0))) 3 (some (u13 0))))))))] ++ (rowW cA u4 rho0 ++ (rowW cA u7 rho0 ++ (rowW cA u10 rho0 ++ (rowW cA u13 rho0 ++ (rowW cA u16 rho0))))))) [[(a, .inr (3, [.ref (qa1), .int (0)]))], [(qa1, .inl (cB, 6, .inr (.inr (.inr (.inr (va_up (va_up (va_up (va_up (fun _ => none) 0 (some (u4 0))) 1 (some (u7 0))) 2 (some (u10 0))) 3 (some (u13 0))))))))], rowW cA u4 rho0, rowW cA u7 rho0, rowW cA u10 rho0, rowW cA u13 rho0, [(qa15, .inr (1, [.int (0), .int (0), .int (0), .int (0), .int (0), .int (0), .int (0), .null, .null, .null, .null, .null]))]] [[(qa15, .inr (1, [.int (0), .int (0), .int (0), .int (0), .int (0), .int (0), .int (0), .null, .null, .null, .null, .null]))]] [[(a, .inr (3, [.ref (qa1), .int (0)]))], [(qa1, .inl (cB, 6, .inr (.inr (.inr (.inr (va_up (va_up (va_up (va_up (fun _ => none) 0 (some (u4 0))) 1 (some (u7 0))) 2 (some (u10 0))) 3 (some (u13 0))))))))], rowW cA u4 rho0, rowW cA u7 rho0, rowW cA u10 rho0, rowW cA u13 rho0] (fun u16 => [[(a, .inr (3, [.ref (qa1), .int (0)]))], [(qa1, .inl (cB, 6, .inr (.inr (.inr (.inr (va_up (va_up (va_up (va_up (fun _ => none) 0 (some (u4 0))) 1 (some (u7 0))) 2 (some (u10 0))) 3 (some (u13 0))))))))], rowW cA u4 rho0, rowW cA u7 rho0, rowW cA u10 rho0, rowW cA u13 rho0, rowW cA u16 rho0]) (fun u16 => [rowW cA u16 rho0]) (c_X1_init l D cA cB qa15) ki_X1_init ml_X3_17 dX3_init_33 rfl rfl (segOk [6, 0, 1, 2, 3, 4, 5] rfl rfl rfl rfl) (fun _ => segOk [6, 0, 1, 2, 3, 4, 5] rfl rfl rfl rfl) rfl (Nat.le_of_ble_eq_true rfl) (fun v u16 h => ?_)
            obtain ⟨hv9, hu9⟩ := h
            subst hv9
            subst hu9
            refine r_st (st' := [.ref (u16 0), .int (nI 4), .ref (qa1)]) rfl ?_
            refine r_aast (r := (RX1, TX1, 12)) 1 26 4 ([(a, .inr (3, [.ref (qa1), .int (0)]))] ++ ([(qa1, .inl (cB, 6, .inr (.inr (.inr (.inr (va_up (va_up (va_up (va_up (va_up (fun _ => none) 0 (some (u4 0))) 1 (some (u7 0))) 2 (some (u10 0))) 3 (some (u13 0))) 4 (some (u16 0))))))))] ++ (rowW cA u4 rho0 ++ (rowW cA u7 rho0 ++ (rowW cA u10 rho0 ++ (rowW cA u13 rho0 ++ (rowW cA u16 rho0))))))) dX3_init_36 rfl rfl rfl rfl rfl (Nat.le_of_ble_eq_true rfl) (Nat.le_of_ble_eq_true rfl) rfl ?_
            refine r_iinc (v := nI (5)) ([some (.ref (a)), some (.int (nI 5))]) dX3_init_37 rfl (nI_add 4 1) (Nat.le_of_ble_eq_true rfl) rfl rfl ?_
            refine r_goto 15 dX3_init_40 (by decide) ?_
            refine r_iload_n 1 dX3_init_15 rfl rfl ?_
            refine r_aload_n 0 dX3_init_16 rfl rfl ?_
            refine r_get 0 fk_X3_11 dX3_init_17 rfl rfl ?_
            refine r_alen 1 1 dX3_init_20 rfl rfl ?_
            refine r_top (y := nI 6) rfl ?_
            refine r_ncmp_ge 43 (by omega) (by omega) dX3_init_21 (by decide) (fun hq17 => ?_) (fun hq17 => ?_)
            · omega
            · refine r_aload_n 0 dX3_init_24 rfl rfl ?_
              refine r_get 0 fk_X3_11 dX3_init_25 rfl rfl ?_
              refine r_iload_n 1 dX3_init_28 rfl rfl ?_
              refine r_new 1 [.int (0), .int (0), .int (0), .int (0), .int (0), .int (0), .int (0), .null, .null, .null, .null, .null] rfl in_X1 cl_X3_9 ins_X1 ini_X1 (by decide +kernel) dX3_init_29 rfl rfl (fun qa18 => ?_)
              refine r_ws (ws' := [(a, .inr (3, [.ref (qa1), .int (0)]))] ++ ([(qa1, .inl (cB, 6, .inr (.inr (.inr (.inr (va_up (va_up (va_up (va_up (va_up (fun _ => none) 0 (some (u4 0))) 1 (some (u7 0))) 2 (some (u10 0))) 3 (some (u13 0))) 4 (some (u16 0))))))))] ++ (rowW cA u4 rho0 ++ (rowW cA u7 rho0 ++ (rowW cA u10 rho0 ++ (rowW cA u13 rho0 ++ (rowW cA u16 rho0 ++ ([(qa18, .inr (1, [.int (0), .int (0), .int (0), .int (0), .int (0), .int (0), .int (0), .null, .null, .null, .null, .null]))])))))))) rfl ?_
              refine r_dup rfl dX3_init_32 ?_
              refine r_callI2 (As := []) (st := [.ref (qa18), .int (nI 5), .ref (qa1)]) (fun u19 => [(a, .inr (3, [.ref (qa1), .int (0)]))] ++ ([(qa1, .inl (cB, 6, .inr (.inr (.inr (.inr (va_up (va_up (va_up (va_up (va_up (fun _ => none) 0 (some (u4 0))) 1 (some (u7 0))) 2 (some (u10 0))) 3 (some (u13 0))) 4 (some (u16 0))))))))] ++ (rowW cA u4 rho0 ++ (rowW cA u7 rho0 ++ (rowW cA u10 rho0 ++ (rowW cA u13 rho0 ++ (rowW cA u16 rho0 ++ (rowW cA u19 rho0)))))))) [[(a, .inr (3, [.ref (qa1), .int (0)]))], [(qa1, .inl (cB, 6, .inr (.inr (.inr (.inr (va_up (va_up (va_up (va_up (va_up (fun _ => none) 0 (some (u4 0))) 1 (some (u7 0))) 2 (some (u10 0))) 3 (some (u13 0))) 4 (some (u16 0))))))))], rowW cA u4 rho0, rowW cA u7 rho0, rowW cA u10 rho0, rowW cA u13 rho0, rowW cA u16 rho0, [(qa18, .inr (1, [.int (0), .int (0), .int (0), .int (0), .int (0), .int (0), .int (0), .null, .null, .null, .null, .null]))]] [[(qa18, .inr (1, [.int (0), .int (0), .int (0), .int (0), .int (0), .int (0), .int (0), .null, .null, .null, .null, .null]))]] [[(a, .inr (3, [.ref (qa1), .int (0)]))], [(qa1, .inl (cB, 6, .inr (.inr (.inr (.inr (va_up (va_up (va_up (va_up (va_up (fun _ => none) 0 (some (u4 0))) 1 (some (u7 0))) 2 (some (u10 0))) 3 (some (u13 0))) 4 (some (u16 0))))))))], rowW cA u4 rho0, rowW cA u7 rho0, rowW cA u10 rho0, rowW cA u13 rho0, rowW cA u16 rho0] (fun u19 => [[(a, .inr (3, [.ref (qa1), .int (0)]))], [(qa1, .inl (cB, 6, .inr (.inr (.inr (.inr (va_up (va_up (va_up (va_up (va_up (fun _ => none) 0 (some (u4 0))) 1 (some (u7 0))) 2 (some (u10 0))) 3 (some (u13 0))) 4 (some (u16 0))))))))], rowW cA u4 rho0, rowW cA u7 rho0, rowW cA u10 rho0, rowW cA u13 rho0, rowW cA u16 rho0, rowW cA u19 rho0]) (fun u19 => [rowW cA u19 rho0]) (c_X1_init l D cA cB qa18) ki_X1_init ml_X3_17 dX3_init_33 rfl rfl (segOk [7, 0, 1, 2, 3, 4, 5, 6] rfl rfl rfl rfl) (fun _ => segOk [7, 0, 1, 2, 3, 4, 5, 6] rfl rfl rfl rfl) rfl (Nat.le_of_ble_eq_true rfl) (fun v u19 h => ?_)
              obtain ⟨hv9, hu9⟩ := h
              subst hv9
              subst hu9
              refine r_st (st' := [.ref (u19 0), .int (nI 5), .ref (qa1)]) rfl ?_
              refine r_aast (r := (RX1, TX1, 12)) 1 32 5 ([(a, .inr (3, [.ref (qa1), .int (0)]))] ++ ([(qa1, .inl (cB, 6, .inr (.inr (.inr (.inr (va_up (va_up (va_up (va_up (va_up (va_up (fun _ => none) 0 (some (u4 0))) 1 (some (u7 0))) 2 (some (u10 0))) 3 (some (u13 0))) 4 (some (u16 0))) 5 (some (u19 0))))))))] ++ (rowW cA u4 rho0 ++ (rowW cA u7 rho0 ++ (rowW cA u10 rho0 ++ (rowW cA u13 rho0 ++ (rowW cA u16 rho0 ++ (rowW cA u19 rho0)))))))) dX3_init_36 rfl rfl rfl rfl rfl (Nat.le_of_ble_eq_true rfl) (Nat.le_of_ble_eq_true rfl) rfl ?_
              refine r_iinc (v := nI (6)) ([some (.ref (a)), some (.int (nI 6))]) dX3_init_37 rfl (nI_add 5 1) (Nat.le_of_ble_eq_true rfl) rfl rfl ?_
              refine r_goto 15 dX3_init_40 (by decide) ?_
              refine r_iload_n 1 dX3_init_15 rfl rfl ?_
              refine r_aload_n 0 dX3_init_16 rfl rfl ?_
              refine r_get 0 fk_X3_11 dX3_init_17 rfl rfl ?_
              refine r_alen 1 1 dX3_init_20 rfl rfl ?_
              refine r_top (y := nI 6) rfl ?_
              refine r_ncmp_ge 43 (by omega) (by omega) dX3_init_21 (by decide) (fun hq20 => ?_) (fun hq20 => ?_)
              · exact r_vret ((v3 a qa1 0, w6 u4 u7 u10 u13 u16 u19)) dX3_init_43 (⟨rfl, rfl⟩) (by unfold stW; rw [← rA6]; rfl)
              · omega

set_option maxRecDepth 100000 in
set_option maxHeartbeats 4000000 in
theorem c_X4_init (l : Launch) (D : va_G) (cA cB : ClassId) (a : Nat) : Mt l D (tyS cA cB) yX4_init cX4_init 1 none ({ frames := 3, cells := 51, slots := 1483, locals := 62 } : Room) [.ref (a)] ([(a, .inr (4, [.null, .null, .null, .null, .null, .int (0), .null]))]) ((Nat → Nat) × (Nat → Nat) × (Nat → Nat) × (Nat → Nat) × (Nat → Nat → Nat) × Nat) (fun v u => v = none ∧ u.1 0 = a) (fun u => gapW cA u.1 u.2.1 u.2.2.1 u.2.2.2.1 u.2.2.2.2.2 (fun _ => 0) 0 (fun _ => 0) ++ (rowW cA u.2.1 rho0 ++ (spW cA u.2.2.1 (fun _ => 0) (fun _ => 0) (fun _ => 0) 0 0 ++ (stW cA cB u.2.2.2.1 u.2.2.2.2.1 (fun _ => rho0) (nI 0) ++ (rdW u.2.2.2.2.2 0 0 0 false 0 0 0))))) 51 1483 := by
  refine mt_ini RX4 ([some (.ref (a))]) rfl rfl (by decide +kernel) rfl (Nat.le_of_ble_eq_true rfl) rfl rfl (fun X sz hX => ?_)
  refine r_aload_n 0 dX4_init_0 rfl rfl ?_
  refine r_obj mo_X4_1 dX4_init_1 rfl rfl ?_
  refine r_aload_n 0 dX4_init_4 rfl rfl ?_
  refine r_new 1 [.int (0), .int (0), .int (0), .int (0), .int (0), .int (0), .int (0), .null, .null, .null, .null, .null] rfl in_X1 cl_X4_7 ins_X1 ini_X1 (by decide +kernel) dX4_init_5 rfl rfl (fun qa1 => ?_)
  refine r_ws (ws' := [(a, .inr (4, [.null, .null, .null, .null, .null, .int (0), .null]))] ++ ([(qa1, .inr (1, [.int (0), .int (0), .int (0), .int (0), .int (0), .int (0), .int (0), .null, .null, .null, .null, .null]))])) rfl ?_
  refine r_dup rfl dX4_init_8 ?_
  refine r_callI2 (As := []) (st := [.ref (qa1), .ref (a)]) (fun u2 => [(a, .inr (4, [.null, .null, .null, .null, .null, .int (0), .null]))] ++ (rowW cA u2 rho0)) [[(a, .inr (4, [.null, .null, .null, .null, .null, .int (0), .null]))], [(qa1, .inr (1, [.int (0), .int (0), .int (0), .int (0), .int (0), .int (0), .int (0), .null, .null, .null, .null, .null]))]] [[(qa1, .inr (1, [.int (0), .int (0), .int (0), .int (0), .int (0), .int (0), .int (0), .null, .null, .null, .null, .null]))]] [[(a, .inr (4, [.null, .null, .null, .null, .null, .int (0), .null]))]] (fun u2 => [[(a, .inr (4, [.null, .null, .null, .null, .null, .int (0), .null]))], rowW cA u2 rho0]) (fun u2 => [rowW cA u2 rho0]) (c_X1_init l D cA cB qa1) ki_X1_init ml_X4_9 dX4_init_9 rfl rfl (segOk [1, 0] rfl rfl rfl rfl) (fun _ => segOk [1, 0] rfl rfl rfl rfl) rfl (Nat.le_of_ble_eq_true rfl) (fun v u2 h => ?_)
  obtain ⟨hv9, hu9⟩ := h
  subst hv9
  subst hu9
  refine r_st (st' := [.ref (u2 0), .ref (a)]) rfl ?_
  refine r_putF hX 0 ([(a, .inr (4, [.ref (u2 0), .null, .null, .null, .null, .int (0), .null]))] ++ (rowW cA u2 rho0)) fk_X4_10 dX4_init_12 rfl rfl rfl rfl rfl (Nat.le_of_ble_eq_true rfl) rfl (fun _ => Or.inr trivial) (fun q9 hq9 => by cases hq9; exact TB_of 219 (by decide +kernel) (by decide +kernel)) ?_
  refine r_aload_n 0 dX4_init_15 rfl rfl ?_
  refine r_new 2 [.null, .null, .null, .int (0), .int (0)] rfl in_X2 cl_X4_16 ins_X2 ini_X2 (by decide +kernel) dX4_init_16 rfl rfl (fun qa3 => ?_)
  refine r_ws (ws' := [(a, .inr (4, [.ref (u2 0), .null, .null, .null, .null, .int (0), .null]))] ++ (rowW cA u2 rho0 ++ ([(qa3, .inr (2, [.null, .null, .null, .int (0), .int (0)]))]))) rfl ?_
  refine r_dup rfl dX4_init_19 ?_
  refine r_callI2 (As := []) (st := [.ref (qa3), .ref (a)]) (fun u4 => [(a, .inr (4, [.ref (u2 0), .null, .null, .null, .null, .int (0), .null]))] ++ (rowW cA u2 rho0 ++ (spW cA u4 (fun _ => 0) (fun _ => 0) (fun _ => 0) 0 0))) [[(a, .inr (4, [.ref (u2 0), .null, .null, .null, .null, .int (0), .null]))], rowW cA u2 rho0, [(qa3, .inr (2, [.null, .null, .null, .int (0), .int (0)]))]] [[(qa3, .inr (2, [.null, .null, .null, .int (0), .int (0)]))]] [[(a, .inr (4, [.ref (u2 0), .null, .null, .null, .null, .int (0), .null]))], rowW cA u2 rho0] (fun u4 => [[(a, .inr (4, [.ref (u2 0), .null, .null, .null, .null, .int (0), .null]))], rowW cA u2 rho0, spW cA u4 (fun _ => 0) (fun _ => 0) (fun _ => 0) 0 0]) (fun u4 => [spW cA u4 (fun _ => 0) (fun _ => 0) (fun _ => 0) 0 0]) (c_X2_init l D cA cB qa3) ki_X2_init ml_X4_18 dX4_init_20 rfl rfl (segOk [2, 0, 1] rfl rfl rfl rfl) (fun _ => segOk [2, 0, 1] rfl rfl rfl rfl) rfl (Nat.le_of_ble_eq_true rfl) (fun v u4 h => ?_)
  obtain ⟨hv9, hu9⟩ := h
  subst hv9
  subst hu9
  refine r_st (st' := [.ref (u4 0), .ref (a)]) rfl ?_
  refine r_putF hX 0 ([(a, .inr (4, [.ref (u2 0), .ref (u4 0), .null, .null, .null, .int (0), .null]))] ++ (rowW cA u2 rho0 ++ (spW cA u4 (fun _ => 0) (fun _ => 0) (fun _ => 0) 0 0))) fk_X4_19 dX4_init_23 rfl rfl rfl rfl rfl (Nat.le_of_ble_eq_true rfl) rfl (fun _ => Or.inr trivial) (fun q9 hq9 => by cases hq9; exact TB_of 220 (by decide +kernel) (by decide +kernel)) ?_
  refine r_aload_n 0 dX4_init_26 rfl rfl ?_
  refine r_new 3 [.null, .int (0)] rfl in_X3 cl_X4_23 ins_X3 ini_X3 (by decide +kernel) dX4_init_27 rfl rfl (fun qa5 => ?_)
  refine r_ws (ws' := [(a, .inr (4, [.ref (u2 0), .ref (u4 0), .null, .null, .null, .int (0), .null]))] ++ (rowW cA u2 rho0 ++ (spW cA u4 (fun _ => 0) (fun _ => 0) (fun _ => 0) 0 0 ++ ([(qa5, .inr (3, [.null, .int (0)]))])))) rfl ?_
  refine r_dup rfl dX4_init_30 ?_
  refine r_callI2 (As := []) (st := [.ref (qa5), .ref (a)]) (fun u6 => [(a, .inr (4, [.ref (u2 0), .ref (u4 0), .null, .null, .null, .int (0), .null]))] ++ (rowW cA u2 rho0 ++ (spW cA u4 (fun _ => 0) (fun _ => 0) (fun _ => 0) 0 0 ++ (stW cA cB u6.1 u6.2 (fun _ => rho0) (nI 0))))) [[(a, .inr (4, [.ref (u2 0), .ref (u4 0), .null, .null, .null, .int (0), .null]))], rowW cA u2 rho0, spW cA u4 (fun _ => 0) (fun _ => 0) (fun _ => 0) 0 0, [(qa5, .inr (3, [.null, .int (0)]))]] [[(qa5, .inr (3, [.null, .int (0)]))]] [[(a, .inr (4, [.ref (u2 0), .ref (u4 0), .null, .null, .null, .int (0), .null]))], rowW cA u2 rho0, spW cA u4 (fun _ => 0) (fun _ => 0) (fun _ => 0) 0 0] (fun u6 => [[(a, .inr (4, [.ref (u2 0), .ref (u4 0), .null, .null, .null, .int (0), .null]))], rowW cA u2 rho0, spW cA u4 (fun _ => 0) (fun _ => 0) (fun _ => 0) 0 0, stW cA cB u6.1 u6.2 (fun _ => rho0) (nI 0)]) (fun u6 => [stW cA cB u6.1 u6.2 (fun _ => rho0) (nI 0)]) (c_X3_init l D cA cB qa5) ki_X3_init ml_X4_25 dX4_init_31 rfl rfl (segOk [3, 0, 1, 2] rfl rfl rfl rfl) (fun _ => segOk [3, 0, 1, 2] rfl rfl rfl rfl) rfl (Nat.le_of_ble_eq_true rfl) (fun v u6 h => ?_)
  obtain ⟨hv9, hu9⟩ := h
  subst hv9
  subst hu9
  refine r_st (st' := [.ref (u6.1 0), .ref (a)]) rfl ?_
  refine r_putF hX 0 ([(a, .inr (4, [.ref (u2 0), .ref (u4 0), .ref (u6.1 0), .null, .null, .int (0), .null]))] ++ (rowW cA u2 rho0 ++ (spW cA u4 (fun _ => 0) (fun _ => 0) (fun _ => 0) 0 0 ++ (stW cA cB u6.1 u6.2 (fun _ => rho0) (nI 0))))) fk_X4_26 dX4_init_34 rfl rfl rfl rfl rfl (Nat.le_of_ble_eq_true rfl) rfl (fun _ => Or.inr trivial) (fun q9 hq9 => by cases hq9; exact TB_of 221 (by decide +kernel) (by decide +kernel)) ?_
  refine r_aload_n 0 dX4_init_37 rfl rfl ?_
  refine r_new 0 [.int (0), .int (0), .int (0), .int (0), .int (0), .int (0), .int (0)] rfl in_X0 cl_X4_30 ins_X0 ini_X0 (by decide +kernel) dX4_init_38 rfl rfl (fun qa7 => ?_)
  refine r_ws (ws' := [(a, .inr (4, [.ref (u2 0), .ref (u4 0), .ref (u6.1 0), .null, .null, .int (0), .null]))] ++ (rowW cA u2 rho0 ++ (spW cA u4 (fun _ => 0) (fun _ => 0) (fun _ => 0) 0 0 ++ (stW cA cB u6.1 u6.2 (fun _ => rho0) (nI 0) ++ ([(qa7, .inr (0, [.int (0), .int (0), .int (0), .int (0), .int (0), .int (0), .int (0)]))]))))) rfl ?_
  refine r_dup rfl dX4_init_41 ?_
  refine r_callI2 (As := []) (st := [.ref (qa7), .ref (a)]) (fun _ => [(a, .inr (4, [.ref (u2 0), .ref (u4 0), .ref (u6.1 0), .null, .null, .int (0), .null]))] ++ (rowW cA u2 rho0 ++ (spW cA u4 (fun _ => 0) (fun _ => 0) (fun _ => 0) 0 0 ++ (stW cA cB u6.1 u6.2 (fun _ => rho0) (nI 0) ++ (rdW qa7 0 0 0 false 0 0 0))))) [[(a, .inr (4, [.ref (u2 0), .ref (u4 0), .ref (u6.1 0), .null, .null, .int (0), .null]))], rowW cA u2 rho0, spW cA u4 (fun _ => 0) (fun _ => 0) (fun _ => 0) 0 0, stW cA cB u6.1 u6.2 (fun _ => rho0) (nI 0), [(qa7, .inr (0, [.int (0), .int (0), .int (0), .int (0), .int (0), .int (0), .int (0)]))]] [[(qa7, .inr (0, [.int (0), .int (0), .int (0), .int (0), .int (0), .int (0), .int (0)]))]] [[(a, .inr (4, [.ref (u2 0), .ref (u4 0), .ref (u6.1 0), .null, .null, .int (0), .null]))], rowW cA u2 rho0, spW cA u4 (fun _ => 0) (fun _ => 0) (fun _ => 0) 0 0, stW cA cB u6.1 u6.2 (fun _ => rho0) (nI 0)] (fun _ => [[(a, .inr (4, [.ref (u2 0), .ref (u4 0), .ref (u6.1 0), .null, .null, .int (0), .null]))], rowW cA u2 rho0, spW cA u4 (fun _ => 0) (fun _ => 0) (fun _ => 0) 0 0, stW cA cB u6.1 u6.2 (fun _ => rho0) (nI 0), rdW qa7 0 0 0 false 0 0 0]) (fun _ => [rdW qa7 0 0 0 false 0 0 0]) (c_X0_init l D cA cB qa7) ki_X0_init ml_X4_32 dX4_init_42 rfl rfl (segOk [4, 0, 1, 2, 3] rfl rfl rfl rfl) (fun _ => segOk [4, 0, 1, 2, 3] rfl rfl rfl rfl) rfl (Nat.le_of_ble_eq_true rfl) (fun v u h => ?_)
  subst h
  refine r_st (st' := [.ref (qa7), .ref (a)]) rfl ?_
  refine r_putF hX 0 ([(a, .inr (4, [.ref (u2 0), .ref (u4 0), .ref (u6.1 0), .ref (qa7), .null, .int (0), .null]))] ++ (rowW cA u2 rho0 ++ (spW cA u4 (fun _ => 0) (fun _ => 0) (fun _ => 0) 0 0 ++ (stW cA cB u6.1 u6.2 (fun _ => rho0) (nI 0) ++ (rdW qa7 0 0 0 false 0 0 0))))) fk_X4_33 dX4_init_45 rfl rfl rfl rfl rfl (Nat.le_of_ble_eq_true rfl) rfl (fun _ => Or.inr trivial) (fun q9 hq9 => by cases hq9; exact TB_of 222 (by decide +kernel) (by decide +kernel)) ?_
  refine r_aload_n 0 dX4_init_48 rfl rfl ?_
  refine r_bipush (nI 120) dX4_init_49 (by decide +kernel) ?_
  refine r_newa 120 rfl dX4_init_51 rfl rfl rfl (fun qa8 => ?_)
  refine r_ws (ws' := [(a, .inr (4, [.ref (u2 0), .ref (u4 0), .ref (u6.1 0), .ref (qa7), .null, .int (0), .null]))] ++ (rowW cA u2 rho0 ++ (spW cA u4 (fun _ => 0) (fun _ => 0) (fun _ => 0) 0 0 ++ (stW cA cB u6.1 u6.2 (fun _ => rho0) (nI 0) ++ (rdW qa7 0 0 0 false 0 0 0 ++ ([(qa8, .inl (cA, 120, .inl (fun _ => 0)))])))))) rfl ?_
  refine r_putF hX 0 ([(a, .inr (4, [.ref (u2 0), .ref (u4 0), .ref (u6.1 0), .ref (qa7), .ref (qa8), .int (0), .null]))] ++ (rowW cA u2 rho0 ++ (spW cA u4 (fun _ => 0) (fun _ => 0) (fun _ => 0) 0 0 ++ (stW cA cB u6.1 u6.2 (fun _ => rho0) (nI 0) ++ (rdW qa7 0 0 0 false 0 0 0 ++ ([(qa8, .inl (cA, 120, .inl (fun _ => 0)))])))))) fk_X4_37 dX4_init_53 rfl rfl rfl rfl rfl (Nat.le_of_ble_eq_true rfl) rfl (fun _ => Or.inr trivial) (fun q9 hq9 => by cases hq9; exact TB_of 223 (by decide +kernel) (by decide +kernel)) ?_
  refine r_aload_n 0 dX4_init_56 rfl rfl ?_
  refine r_iconst (nI 0) dX4_init_57 (by decide +kernel) ?_
  refine r_put 0 ([(a, .inr (4, [.ref (u2 0), .ref (u4 0), .ref (u6.1 0), .ref (qa7), .ref (qa8), .int (nI 0), .null]))] ++ (rowW cA u2 rho0 ++ (spW cA u4 (fun _ => 0) (fun _ => 0) (fun _ => 0) 0 0 ++ (stW cA cB u6.1 u6.2 (fun _ => rho0) (nI 0) ++ (rdW qa7 0 0 0 false 0 0 0 ++ ([(qa8, .inl (cA, 120, .inl (fun _ => 0)))])))))) fk_X4_41 dX4_init_58 rfl rfl rfl rfl (Nat.le_of_ble_eq_true rfl) rfl ?_
  refine r_aload_n 0 dX4_init_61 rfl rfl ?_
  refine r_iconst (nI 3) dX4_init_62 (by decide +kernel) ?_
  refine r_newa 3 rfl dX4_init_63 rfl rfl rfl (fun qa9 => ?_)
  refine r_ws (ws' := [(a, .inr (4, [.ref (u2 0), .ref (u4 0), .ref (u6.1 0), .ref (qa7), .ref (qa8), .int (nI 0), .null]))] ++ (rowW cA u2 rho0 ++ (spW cA u4 (fun _ => 0) (fun _ => 0) (fun _ => 0) 0 0 ++ (stW cA cB u6.1 u6.2 (fun _ => rho0) (nI 0) ++ (rdW qa7 0 0 0 false 0 0 0 ++ ([(qa8, .inl (cA, 120, .inl (fun _ => 0)))] ++ ([(qa9, .inl (cA, 3, .inl (fun _ => 0)))]))))))) rfl ?_
  refine r_putF hX 0 ([(a, .inr (4, [.ref (u2 0), .ref (u4 0), .ref (u6.1 0), .ref (qa7), .ref (qa8), .int (nI 0), .ref (qa9)]))] ++ (rowW cA u2 rho0 ++ (spW cA u4 (fun _ => 0) (fun _ => 0) (fun _ => 0) 0 0 ++ (stW cA cB u6.1 u6.2 (fun _ => rho0) (nI 0) ++ (rdW qa7 0 0 0 false 0 0 0 ++ ([(qa8, .inl (cA, 120, .inl (fun _ => 0)))] ++ ([(qa9, .inl (cA, 3, .inl (fun _ => 0)))]))))))) fk_X4_45 dX4_init_65 rfl rfl rfl rfl rfl (Nat.le_of_ble_eq_true rfl) rfl (fun _ => Or.inr trivial) (fun q9 hq9 => by cases hq9; exact TB_of 225 (by decide +kernel) (by decide +kernel)) ?_
  refine r_perm2 (ws' := [(a, .inr (4, [.ref (u2 0), .ref (u4 0), .ref (u6.1 0), .ref (qa7), .ref (qa8), .int (nI 0), .ref (qa9)]))] ++ ([(qa8, .inl (cA, 120, .inl (fun _ => 0)))] ++ ([(qa9, .inl (cA, 3, .inl (fun _ => 0)))] ++ (rowW cA u2 rho0 ++ (spW cA u4 (fun _ => 0) (fun _ => 0) (fun _ => 0) 0 0 ++ (stW cA cB u6.1 u6.2 (fun _ => rho0) (nI 0) ++ (rdW qa7 0 0 0 false 0 0 0))))))) (SS := [[(a, .inr (4, [.ref (u2 0), .ref (u4 0), .ref (u6.1 0), .ref (qa7), .ref (qa8), .int (nI 0), .ref (qa9)]))], rowW cA u2 rho0, spW cA u4 (fun _ => 0) (fun _ => 0) (fun _ => 0) 0 0, stW cA cB u6.1 u6.2 (fun _ => rho0) (nI 0), rdW qa7 0 0 0 false 0 0 0, [(qa8, .inl (cA, 120, .inl (fun _ => 0)))], [(qa9, .inl (cA, 3, .inl (fun _ => 0)))]]) (SS' := [[(a, .inr (4, [.ref (u2 0), .ref (u4 0), .ref (u6.1 0), .ref (qa7), .ref (qa8), .int (nI 0), .ref (qa9)]))], [(qa8, .inl (cA, 120, .inl (fun _ => 0)))], [(qa9, .inl (cA, 3, .inl (fun _ => 0)))], rowW cA u2 rho0, spW cA u4 (fun _ => 0) (fun _ => 0) (fun _ => 0) 0 0, stW cA cB u6.1 u6.2 (fun _ => rho0) (nI 0), rdW qa7 0 0 0 false 0 0 0]) [0, 5, 6, 1, 2, 3, 4] rfl rfl rfl rfl ?_
  exact r_vret ((v3 a qa8 qa9, u2, u4, u6.1, u6.2, qa7)) dX4_init_68 (⟨rfl, rfl⟩) (rfl)

set_option maxRecDepth 100000 in
set_option maxHeartbeats 4000000 in
theorem lp_X5_init (l : Launch) (D : va_G) (cA cB : ClassId) (a : Nat) (X : Cx) (sz : Nat) : ∀ (b1 b2 b3 b4 b5 b6 b7 b8 b9 : Nat) (f c : Nat), c ≤ 64 → 64 < c + f → G l X ({ frames := 1, cells := 9, slots := 1608, locals := 20 } : Room) cX5_init RX5 none D (tyS cA cB) (va_A ([(a, .inr (5, [.int (0), .null, .null, .int (0), .null, .null, .null, .null, .null, .int (0), .int (0), .null, .int (0), .int (0), .null, .int (0), .int (0)]))]) sz) (QX X D (tyS cA cB) ([(a, .inr (5, [.int (0), .null, .null, .int (0), .null, .null, .null, .null, .null, .int (0), .int (0), .null, .int (0), .int (0), .null, .int (0), .int (0)]))]) sz (Nat → Nat) (fun v u => v = none ∧ u 0 = a) (fun u => mdW cA u rho0 (fun _ => 0) 0 (fun _ => 0) (fun _ => 0) (fun _ => 0) (fun _ => 0) (fun _ => 0) 0 0 (fun _ => 0) 0 0 (fun _ => 0) 0 0) 9 1608) 9 1608 ([(a, .inr (5, [.int (0), .ref (b1), .ref (b2), .int (0), .ref (b3), .ref (b4), .ref (b5), .ref (b6), .ref (b7), .int (0), .int (0), .ref (b8), .int (0), .int (0), .ref (b9), .int (0), .int (0)])), (b1, .inl (cA, 159, .inl (sL c))), (b2, .inl (cA, 795, .inl (fun _ => 0))), (b3, .inl (cA, 159, .inl (fun _ => 0))), (b4, .inl (cA, 3, .inl (fun _ => 0))), (b5, .inl (cA, 64, .inl (fun _ => 0))), (b6, .inl (cA, 64, .inl (fun _ => 0))), (b7, .inl (cA, 64, .inl (fun _ => 0))), (b8, .inl (cA, 120, .inl (fun _ => 0))), (b9, .inl (cA, 180, .inl (fun _ => 0)))]) 89 ([some (.ref (a)), some (.int (nI c))]) [] := by
  intro b1 b2 b3 b4 b5 b6 b7 b8 b9 f
  induction f with
  | zero => intro c h1 h2; omega
  | succ f ih =>
    intro c hc hf
    refine r_iload_n 1 dX5_init_89 rfl rfl ?_
    refine r_bipush (nI 64) dX5_init_90 (by decide +kernel) ?_
    refine r_ncmp_ge 111 (by omega) (by omega) dX5_init_92 (by decide) (fun hq1 => ?_) (fun hq1 => ?_)
    · exact r_vret (v10 a b1 b2 b3 b4 b5 b6 b7 b8 b9) dX5_init_111 (⟨rfl, rfl⟩) (by rw [show c = 64 by omega]; rfl)
    · refine r_aload_n 0 dX5_init_95 rfl rfl ?_
      refine r_get 0 fk_X5_7 dX5_init_96 rfl rfl ?_
      refine r_bipush (nI 31) dX5_init_99 (by decide +kernel) ?_
      refine r_iload_n 1 dX5_init_101 rfl rfl ?_
      refine r_niadd dX5_init_102 ?_
      refine r_iconst (-1) dX5_init_103 (by decide +kernel) ?_
      refine r_iast 1 (31 + c) ([(a, .inr (5, [.int (0), .ref (b1), .ref (b2), .int (0), .ref (b3), .ref (b4), .ref (b5), .ref (b6), .ref (b7), .int (0), .int (0), .ref (b8), .int (0), .int (0), .ref (b9), .int (0), .int (0)])), (b1, .inl (cA, 159, .inl (upd (sL c) (31 + c) (-1)))), (b2, .inl (cA, 795, .inl (fun _ => 0))), (b3, .inl (cA, 159, .inl (fun _ => 0))), (b4, .inl (cA, 3, .inl (fun _ => 0))), (b5, .inl (cA, 64, .inl (fun _ => 0))), (b6, .inl (cA, 64, .inl (fun _ => 0))), (b7, .inl (cA, 64, .inl (fun _ => 0))), (b8, .inl (cA, 120, .inl (fun _ => 0))), (b9, .inl (cA, 180, .inl (fun _ => 0)))]) dX5_init_104 rfl rfl rfl (by omega) (Nat.le_of_ble_eq_true rfl) rfl ?_
      refine r_ws (ws' := [(a, .inr (5, [.int (0), .ref (b1), .ref (b2), .int (0), .ref (b3), .ref (b4), .ref (b5), .ref (b6), .ref (b7), .int (0), .int (0), .ref (b8), .int (0), .int (0), .ref (b9), .int (0), .int (0)])), (b1, .inl (cA, 159, .inl (sL (c + 1)))), (b2, .inl (cA, 795, .inl (fun _ => 0))), (b3, .inl (cA, 159, .inl (fun _ => 0))), (b4, .inl (cA, 3, .inl (fun _ => 0))), (b5, .inl (cA, 64, .inl (fun _ => 0))), (b6, .inl (cA, 64, .inl (fun _ => 0))), (b7, .inl (cA, 64, .inl (fun _ => 0))), (b8, .inl (cA, 120, .inl (fun _ => 0))), (b9, .inl (cA, 180, .inl (fun _ => 0)))]) (by rw [sL_s]) ?_
      refine r_iinc (v := nI (c + 1)) ([some (.ref (a)), some (.int (nI (c + 1)))]) dX5_init_105 rfl (nI_1 _) (Nat.le_of_ble_eq_true rfl) rfl rfl ?_
      refine r_goto 89 dX5_init_108 (by decide) ?_
      exact ih (c + 1) (by omega) (by omega)

set_option maxRecDepth 100000 in
set_option maxHeartbeats 4000000 in
theorem c_X5_init (l : Launch) (D : va_G) (cA cB : ClassId) (a : Nat) : Mt l D (tyS cA cB) yX5_init cX5_init 2 none ({ frames := 1, cells := 9, slots := 1608, locals := 20 } : Room) [.ref (a)] ([(a, .inr (5, [.int (0), .null, .null, .int (0), .null, .null, .null, .null, .null, .int (0), .int (0), .null, .int (0), .int (0), .null, .int (0), .int (0)]))]) (Nat → Nat) (fun v u => v = none ∧ u 0 = a) (fun u => mdW cA u rho0 (fun _ => 0) 0 (fun _ => 0) (fun _ => 0) (fun _ => 0) (fun _ => 0) (fun _ => 0) 0 0 (fun _ => 0) 0 0 (fun _ => 0) 0 0) 9 1608 := by
  refine mt_ini RX5 ([some (.ref (a)), none]) rfl rfl (by decide +kernel) rfl (Nat.le_of_ble_eq_true rfl) rfl rfl (fun X sz hX => ?_)
  refine r_aload_n 0 dX5_init_0 rfl rfl ?_
  refine r_obj mo_X5_1 dX5_init_1 rfl rfl ?_
  refine r_aload_n 0 dX5_init_4 rfl rfl ?_
  refine r_sipush (nI 159) dX5_init_5 (by decide +kernel) ?_
  refine r_newa 159 rfl dX5_init_8 rfl rfl rfl (fun qa1 => ?_)
  refine r_ws (ws' := [(a, .inr (5, [.int (0), .null, .null, .int (0), .null, .null, .null, .null, .null, .int (0), .int (0), .null, .int (0), .int (0), .null, .int (0), .int (0)])), (qa1, .inl (cA, 159, .inl (fun _ => 0)))]) rfl ?_
  refine r_putF hX 0 ([(a, .inr (5, [.int (0), .ref (qa1), .null, .int (0), .null, .null, .null, .null, .null, .int (0), .int (0), .null, .int (0), .int (0), .null, .int (0), .int (0)])), (qa1, .inl (cA, 159, .inl (fun _ => 0)))]) fk_X5_7 dX5_init_10 rfl rfl rfl rfl rfl (Nat.le_of_ble_eq_true rfl) rfl (fun _ => Or.inr trivial) (fun q9 hq9 => by cases hq9; exact TB_of 563 (by decide +kernel) (by decide +kernel)) ?_
  refine r_aload_n 0 dX5_init_13 rfl rfl ?_
  refine r_sipush (nI 795) dX5_init_14 (by decide +kernel) ?_
  refine r_newa 795 rfl dX5_init_17 rfl rfl rfl (fun qa2 => ?_)
  refine r_ws (ws' := [(a, .inr (5, [.int (0), .ref (qa1), .null, .int (0), .null, .null, .null, .null, .null, .int (0), .int (0), .null, .int (0), .int (0), .null, .int (0), .int (0)])), (qa1, .inl (cA, 159, .inl (fun _ => 0))), (qa2, .inl (cA, 795, .inl (fun _ => 0)))]) rfl ?_
  refine r_putF hX 0 ([(a, .inr (5, [.int (0), .ref (qa1), .ref (qa2), .int (0), .null, .null, .null, .null, .null, .int (0), .int (0), .null, .int (0), .int (0), .null, .int (0), .int (0)])), (qa1, .inl (cA, 159, .inl (fun _ => 0))), (qa2, .inl (cA, 795, .inl (fun _ => 0)))]) fk_X5_13 dX5_init_19 rfl rfl rfl rfl rfl (Nat.le_of_ble_eq_true rfl) rfl (fun _ => Or.inr trivial) (fun q9 hq9 => by cases hq9; exact TB_of 564 (by decide +kernel) (by decide +kernel)) ?_
  refine r_aload_n 0 dX5_init_22 rfl rfl ?_
  refine r_sipush (nI 159) dX5_init_23 (by decide +kernel) ?_
  refine r_newa 159 rfl dX5_init_26 rfl rfl rfl (fun qa3 => ?_)
  refine r_ws (ws' := [(a, .inr (5, [.int (0), .ref (qa1), .ref (qa2), .int (0), .null, .null, .null, .null, .null, .int (0), .int (0), .null, .int (0), .int (0), .null, .int (0), .int (0)])), (qa1, .inl (cA, 159, .inl (fun _ => 0))), (qa2, .inl (cA, 795, .inl (fun _ => 0))), (qa3, .inl (cA, 159, .inl (fun _ => 0)))]) rfl ?_
  refine r_putF hX 0 ([(a, .inr (5, [.int (0), .ref (qa1), .ref (qa2), .int (0), .ref (qa3), .null, .null, .null, .null, .int (0), .int (0), .null, .int (0), .int (0), .null, .int (0), .int (0)])), (qa1, .inl (cA, 159, .inl (fun _ => 0))), (qa2, .inl (cA, 795, .inl (fun _ => 0))), (qa3, .inl (cA, 159, .inl (fun _ => 0)))]) fk_X5_16 dX5_init_28 rfl rfl rfl rfl rfl (Nat.le_of_ble_eq_true rfl) rfl (fun _ => Or.inr trivial) (fun q9 hq9 => by cases hq9; exact TB_of 566 (by decide +kernel) (by decide +kernel)) ?_
  refine r_aload_n 0 dX5_init_31 rfl rfl ?_
  refine r_iconst (nI 3) dX5_init_32 (by decide +kernel) ?_
  refine r_newa 3 rfl dX5_init_33 rfl rfl rfl (fun qa4 => ?_)
  refine r_ws (ws' := [(a, .inr (5, [.int (0), .ref (qa1), .ref (qa2), .int (0), .ref (qa3), .null, .null, .null, .null, .int (0), .int (0), .null, .int (0), .int (0), .null, .int (0), .int (0)])), (qa1, .inl (cA, 159, .inl (fun _ => 0))), (qa2, .inl (cA, 795, .inl (fun _ => 0))), (qa3, .inl (cA, 159, .inl (fun _ => 0))), (qa4, .inl (cA, 3, .inl (fun _ => 0)))]) rfl ?_
  refine r_putF hX 0 ([(a, .inr (5, [.int (0), .ref (qa1), .ref (qa2), .int (0), .ref (qa3), .ref (qa4), .null, .null, .null, .int (0), .int (0), .null, .int (0), .int (0), .null, .int (0), .int (0)])), (qa1, .inl (cA, 159, .inl (fun _ => 0))), (qa2, .inl (cA, 795, .inl (fun _ => 0))), (qa3, .inl (cA, 159, .inl (fun _ => 0))), (qa4, .inl (cA, 3, .inl (fun _ => 0)))]) fk_X5_19 dX5_init_35 rfl rfl rfl rfl rfl (Nat.le_of_ble_eq_true rfl) rfl (fun _ => Or.inr trivial) (fun q9 hq9 => by cases hq9; exact TB_of 567 (by decide +kernel) (by decide +kernel)) ?_
  refine r_aload_n 0 dX5_init_38 rfl rfl ?_
  refine r_bipush (nI 64) dX5_init_39 (by decide +kernel) ?_
  refine r_newa 64 rfl dX5_init_41 rfl rfl rfl (fun qa5 => ?_)
  refine r_ws (ws' := [(a, .inr (5, [.int (0), .ref (qa1), .ref (qa2), .int (0), .ref (qa3), .ref (qa4), .null, .null, .null, .int (0), .int (0), .null, .int (0), .int (0), .null, .int (0), .int (0)])), (qa1, .inl (cA, 159, .inl (fun _ => 0))), (qa2, .inl (cA, 795, .inl (fun _ => 0))), (qa3, .inl (cA, 159, .inl (fun _ => 0))), (qa4, .inl (cA, 3, .inl (fun _ => 0))), (qa5, .inl (cA, 64, .inl (fun _ => 0)))]) rfl ?_
  refine r_putF hX 0 ([(a, .inr (5, [.int (0), .ref (qa1), .ref (qa2), .int (0), .ref (qa3), .ref (qa4), .ref (qa5), .null, .null, .int (0), .int (0), .null, .int (0), .int (0), .null, .int (0), .int (0)])), (qa1, .inl (cA, 159, .inl (fun _ => 0))), (qa2, .inl (cA, 795, .inl (fun _ => 0))), (qa3, .inl (cA, 159, .inl (fun _ => 0))), (qa4, .inl (cA, 3, .inl (fun _ => 0))), (qa5, .inl (cA, 64, .inl (fun _ => 0)))]) fk_X5_22 dX5_init_43 rfl rfl rfl rfl rfl (Nat.le_of_ble_eq_true rfl) rfl (fun _ => Or.inr trivial) (fun q9 hq9 => by cases hq9; exact TB_of 568 (by decide +kernel) (by decide +kernel)) ?_
  refine r_aload_n 0 dX5_init_46 rfl rfl ?_
  refine r_bipush (nI 64) dX5_init_47 (by decide +kernel) ?_
  refine r_newa 64 rfl dX5_init_49 rfl rfl rfl (fun qa6 => ?_)
  refine r_ws (ws' := [(a, .inr (5, [.int (0), .ref (qa1), .ref (qa2), .int (0), .ref (qa3), .ref (qa4), .ref (qa5), .null, .null, .int (0), .int (0), .null, .int (0), .int (0), .null, .int (0), .int (0)])), (qa1, .inl (cA, 159, .inl (fun _ => 0))), (qa2, .inl (cA, 795, .inl (fun _ => 0))), (qa3, .inl (cA, 159, .inl (fun _ => 0))), (qa4, .inl (cA, 3, .inl (fun _ => 0))), (qa5, .inl (cA, 64, .inl (fun _ => 0))), (qa6, .inl (cA, 64, .inl (fun _ => 0)))]) rfl ?_
  refine r_putF hX 0 ([(a, .inr (5, [.int (0), .ref (qa1), .ref (qa2), .int (0), .ref (qa3), .ref (qa4), .ref (qa5), .ref (qa6), .null, .int (0), .int (0), .null, .int (0), .int (0), .null, .int (0), .int (0)])), (qa1, .inl (cA, 159, .inl (fun _ => 0))), (qa2, .inl (cA, 795, .inl (fun _ => 0))), (qa3, .inl (cA, 159, .inl (fun _ => 0))), (qa4, .inl (cA, 3, .inl (fun _ => 0))), (qa5, .inl (cA, 64, .inl (fun _ => 0))), (qa6, .inl (cA, 64, .inl (fun _ => 0)))]) fk_X5_25 dX5_init_51 rfl rfl rfl rfl rfl (Nat.le_of_ble_eq_true rfl) rfl (fun _ => Or.inr trivial) (fun q9 hq9 => by cases hq9; exact TB_of 569 (by decide +kernel) (by decide +kernel)) ?_
  refine r_aload_n 0 dX5_init_54 rfl rfl ?_
  refine r_bipush (nI 64) dX5_init_55 (by decide +kernel) ?_
  refine r_newa 64 rfl dX5_init_57 rfl rfl rfl (fun qa7 => ?_)
  refine r_ws (ws' := [(a, .inr (5, [.int (0), .ref (qa1), .ref (qa2), .int (0), .ref (qa3), .ref (qa4), .ref (qa5), .ref (qa6), .null, .int (0), .int (0), .null, .int (0), .int (0), .null, .int (0), .int (0)])), (qa1, .inl (cA, 159, .inl (fun _ => 0))), (qa2, .inl (cA, 795, .inl (fun _ => 0))), (qa3, .inl (cA, 159, .inl (fun _ => 0))), (qa4, .inl (cA, 3, .inl (fun _ => 0))), (qa5, .inl (cA, 64, .inl (fun _ => 0))), (qa6, .inl (cA, 64, .inl (fun _ => 0))), (qa7, .inl (cA, 64, .inl (fun _ => 0)))]) rfl ?_
  refine r_putF hX 0 ([(a, .inr (5, [.int (0), .ref (qa1), .ref (qa2), .int (0), .ref (qa3), .ref (qa4), .ref (qa5), .ref (qa6), .ref (qa7), .int (0), .int (0), .null, .int (0), .int (0), .null, .int (0), .int (0)])), (qa1, .inl (cA, 159, .inl (fun _ => 0))), (qa2, .inl (cA, 795, .inl (fun _ => 0))), (qa3, .inl (cA, 159, .inl (fun _ => 0))), (qa4, .inl (cA, 3, .inl (fun _ => 0))), (qa5, .inl (cA, 64, .inl (fun _ => 0))), (qa6, .inl (cA, 64, .inl (fun _ => 0))), (qa7, .inl (cA, 64, .inl (fun _ => 0)))]) fk_X5_28 dX5_init_59 rfl rfl rfl rfl rfl (Nat.le_of_ble_eq_true rfl) rfl (fun _ => Or.inr trivial) (fun q9 hq9 => by cases hq9; exact TB_of 570 (by decide +kernel) (by decide +kernel)) ?_
  refine r_aload_n 0 dX5_init_62 rfl rfl ?_
  refine r_bipush (nI 120) dX5_init_63 (by decide +kernel) ?_
  refine r_newa 120 rfl dX5_init_65 rfl rfl rfl (fun qa8 => ?_)
  refine r_ws (ws' := [(a, .inr (5, [.int (0), .ref (qa1), .ref (qa2), .int (0), .ref (qa3), .ref (qa4), .ref (qa5), .ref (qa6), .ref (qa7), .int (0), .int (0), .null, .int (0), .int (0), .null, .int (0), .int (0)])), (qa1, .inl (cA, 159, .inl (fun _ => 0))), (qa2, .inl (cA, 795, .inl (fun _ => 0))), (qa3, .inl (cA, 159, .inl (fun _ => 0))), (qa4, .inl (cA, 3, .inl (fun _ => 0))), (qa5, .inl (cA, 64, .inl (fun _ => 0))), (qa6, .inl (cA, 64, .inl (fun _ => 0))), (qa7, .inl (cA, 64, .inl (fun _ => 0))), (qa8, .inl (cA, 120, .inl (fun _ => 0)))]) rfl ?_
  refine r_putF hX 0 ([(a, .inr (5, [.int (0), .ref (qa1), .ref (qa2), .int (0), .ref (qa3), .ref (qa4), .ref (qa5), .ref (qa6), .ref (qa7), .int (0), .int (0), .ref (qa8), .int (0), .int (0), .null, .int (0), .int (0)])), (qa1, .inl (cA, 159, .inl (fun _ => 0))), (qa2, .inl (cA, 795, .inl (fun _ => 0))), (qa3, .inl (cA, 159, .inl (fun _ => 0))), (qa4, .inl (cA, 3, .inl (fun _ => 0))), (qa5, .inl (cA, 64, .inl (fun _ => 0))), (qa6, .inl (cA, 64, .inl (fun _ => 0))), (qa7, .inl (cA, 64, .inl (fun _ => 0))), (qa8, .inl (cA, 120, .inl (fun _ => 0)))]) fk_X5_31 dX5_init_67 rfl rfl rfl rfl rfl (Nat.le_of_ble_eq_true rfl) rfl (fun _ => Or.inr trivial) (fun q9 hq9 => by cases hq9; exact TB_of 573 (by decide +kernel) (by decide +kernel)) ?_
  refine r_aload_n 0 dX5_init_70 rfl rfl ?_
  refine r_sipush (nI 180) dX5_init_71 (by decide +kernel) ?_
  refine r_newa 180 rfl dX5_init_74 rfl rfl rfl (fun qa9 => ?_)
  refine r_ws (ws' := [(a, .inr (5, [.int (0), .ref (qa1), .ref (qa2), .int (0), .ref (qa3), .ref (qa4), .ref (qa5), .ref (qa6), .ref (qa7), .int (0), .int (0), .ref (qa8), .int (0), .int (0), .null, .int (0), .int (0)])), (qa1, .inl (cA, 159, .inl (fun _ => 0))), (qa2, .inl (cA, 795, .inl (fun _ => 0))), (qa3, .inl (cA, 159, .inl (fun _ => 0))), (qa4, .inl (cA, 3, .inl (fun _ => 0))), (qa5, .inl (cA, 64, .inl (fun _ => 0))), (qa6, .inl (cA, 64, .inl (fun _ => 0))), (qa7, .inl (cA, 64, .inl (fun _ => 0))), (qa8, .inl (cA, 120, .inl (fun _ => 0))), (qa9, .inl (cA, 180, .inl (fun _ => 0)))]) rfl ?_
  refine r_putF hX 0 ([(a, .inr (5, [.int (0), .ref (qa1), .ref (qa2), .int (0), .ref (qa3), .ref (qa4), .ref (qa5), .ref (qa6), .ref (qa7), .int (0), .int (0), .ref (qa8), .int (0), .int (0), .ref (qa9), .int (0), .int (0)])), (qa1, .inl (cA, 159, .inl (fun _ => 0))), (qa2, .inl (cA, 795, .inl (fun _ => 0))), (qa3, .inl (cA, 159, .inl (fun _ => 0))), (qa4, .inl (cA, 3, .inl (fun _ => 0))), (qa5, .inl (cA, 64, .inl (fun _ => 0))), (qa6, .inl (cA, 64, .inl (fun _ => 0))), (qa7, .inl (cA, 64, .inl (fun _ => 0))), (qa8, .inl (cA, 120, .inl (fun _ => 0))), (qa9, .inl (cA, 180, .inl (fun _ => 0)))]) fk_X5_34 dX5_init_76 rfl rfl rfl rfl rfl (Nat.le_of_ble_eq_true rfl) rfl (fun _ => Or.inr trivial) (fun q9 hq9 => by cases hq9; exact TB_of 576 (by decide +kernel) (by decide +kernel)) ?_
  refine r_aload_n 0 dX5_init_79 rfl rfl ?_
  refine r_get 0 fk_X5_7 dX5_init_80 rfl rfl ?_
  refine r_iconst (nI 0) dX5_init_83 (by decide +kernel) ?_
  refine r_bipush (nI 16) dX5_init_84 (by decide +kernel) ?_
  refine r_iast 1 (0) ([(a, .inr (5, [.int (0), .ref (qa1), .ref (qa2), .int (0), .ref (qa3), .ref (qa4), .ref (qa5), .ref (qa6), .ref (qa7), .int (0), .int (0), .ref (qa8), .int (0), .int (0), .ref (qa9), .int (0), .int (0)])), (qa1, .inl (cA, 159, .inl (upd (fun _ => 0) 0 (nI (16))))), (qa2, .inl (cA, 795, .inl (fun _ => 0))), (qa3, .inl (cA, 159, .inl (fun _ => 0))), (qa4, .inl (cA, 3, .inl (fun _ => 0))), (qa5, .inl (cA, 64, .inl (fun _ => 0))), (qa6, .inl (cA, 64, .inl (fun _ => 0))), (qa7, .inl (cA, 64, .inl (fun _ => 0))), (qa8, .inl (cA, 120, .inl (fun _ => 0))), (qa9, .inl (cA, 180, .inl (fun _ => 0)))]) dX5_init_86 rfl rfl rfl (by omega) (Nat.le_of_ble_eq_true rfl) rfl ?_
  refine r_iconst (nI 0) dX5_init_87 (by decide +kernel) ?_
  refine r_istore_n 1 ([some (.ref (a)), some (.int (nI 0))]) dX5_init_88 rfl (Nat.le_of_ble_eq_true rfl) rfl rfl ?_
  refine r_ws (ws' := [(a, .inr (5, [.int (0), .ref (qa1), .ref (qa2), .int (0), .ref (qa3), .ref (qa4), .ref (qa5), .ref (qa6), .ref (qa7), .int (0), .int (0), .ref (qa8), .int (0), .int (0), .ref (qa9), .int (0), .int (0)])), (qa1, .inl (cA, 159, .inl (sL 0))), (qa2, .inl (cA, 795, .inl (fun _ => 0))), (qa3, .inl (cA, 159, .inl (fun _ => 0))), (qa4, .inl (cA, 3, .inl (fun _ => 0))), (qa5, .inl (cA, 64, .inl (fun _ => 0))), (qa6, .inl (cA, 64, .inl (fun _ => 0))), (qa7, .inl (cA, 64, .inl (fun _ => 0))), (qa8, .inl (cA, 120, .inl (fun _ => 0))), (qa9, .inl (cA, 180, .inl (fun _ => 0)))]) (by rw [← sL_0]) ?_
  exact lp_X5_init l D cA cB a X sz qa1 qa2 qa3 qa4 qa5 qa6 qa7 qa8 qa9 65 0 (by omega) (by omega)

