set_option maxRecDepth 100000 in
set_option maxHeartbeats 4000000 in
theorem lp_X1_keysIn (l : Launch) (D : va_G) (cA cB : ClassId) (q : Nat → Nat) (ρ : Nat → Int32) (a n : Nat) (hn : a + n ≤ 64) (X : Cx) (sz : Nat) : ∀ (f i c x : Nat), c = a + i → x = cnt ρ a i → i ≤ n → n < i + f → G l X ({ frames := 1, cells := 0, slots := 0, locals := 21 } : Room) cX1_keysIn RX1 (some .int) D (tyS cA cB) (va_A (rowW cA q ρ) sz) (QX X D (tyS cA cB) (rowW cA q ρ) sz Unit (fun v _ => v = some (.int (nI (cnt ρ a n)))) (fun _ => rowW cA q ρ) 0 0) 0 0 (rowW cA q ρ) 5 ([some (.ref (q 0)), some (.int (nI a)), some (.int (nI n)), some (.int (nI x)), some (.int (nI c))]) [] := by
  intro f
  induction f with
  | zero => intro i c x hc hx h1 h2; omega
  | succ f ih =>
    intro i c x hc hx hi hf
    have hy := cnt_le ρ a i
    refine r_iload dX1_keysIn_5 rfl ?_
    refine r_iload_n 1 dX1_keysIn_7 rfl rfl ?_
    refine r_iload_n 2 dX1_keysIn_8 rfl rfl ?_
    refine r_niadd dX1_keysIn_9 ?_
    refine r_ncmp_ge 32 (by omega) (by omega) dX1_keysIn_10 (by decide) (fun h1 => ?_) (fun h1 => ?_)
    · refine r_iload_n 3 dX1_keysIn_32 rfl rfl ?_
      exact r_iret (()) dX1_keysIn_33 (by rw [hx, show i = n by omega]) (rfl)
    · refine r_aload_n 0 dX1_keysIn_13 rfl rfl ?_
      refine r_iload dX1_keysIn_14 rfl ?_
      refine r_callV (As := [.int (nI c)]) (st := []) [0, 1, 2, 3, 4, 5] [] (fun _ => rowW cA q ρ) [0, 1, 2, 3, 4, 5] (c_X1_keyIn l D cA cB q ρ (c) (by omega)) kv_X1_keyIn ml_X1_49 dX1_keysIn_16 rfl rfl rfl rfl rfl rfl rfl rfl (by decide) (fun _ => rfl) rfl rfl (Nat.le_of_ble_eq_true rfl) (fun v u h => ?_)
      subst h
      refine r_st (st' := [.int (ρ (31 + c))]) rfl ?_
      refine r_iconst (-1) dX1_keysIn_19 (by decide +kernel) ?_
      refine r_icmp_eq 26 dX1_keysIn_20 (by decide) (fun h2 => ?_) (fun h2 => ?_)
      · refine r_iinc (v := nI (c + 1)) ([some (.ref (q 0)), some (.int (nI a)), some (.int (nI n)), some (.int (nI x)), some (.int (nI (c + 1)))]) dX1_keysIn_26 rfl (nI_1 _) (Nat.le_of_ble_eq_true rfl) rfl rfl ?_
        refine r_goto 5 dX1_keysIn_29 (by decide) ?_
        exact ih (i + 1) _ _ (by omega) (by rw [hx, cnt_s0 (by rw [← hc]; exact h2)]) (by omega) (by omega)
      · refine r_iinc (v := nI (x + 1)) ([some (.ref (q 0)), some (.int (nI a)), some (.int (nI n)), some (.int (nI (x + 1))), some (.int (nI c))]) dX1_keysIn_23 rfl (nI_1 _) (Nat.le_of_ble_eq_true rfl) rfl rfl ?_
        refine r_iinc (v := nI (c + 1)) ([some (.ref (q 0)), some (.int (nI a)), some (.int (nI n)), some (.int (nI (x + 1))), some (.int (nI (c + 1)))]) dX1_keysIn_26 rfl (nI_1 _) (Nat.le_of_ble_eq_true rfl) rfl rfl ?_
        refine r_goto 5 dX1_keysIn_29 (by decide) ?_
        exact ih (i + 1) _ _ (by omega) (by rw [hx, cnt_s1 (by rw [← hc]; exact h2)]) (by omega) (by omega)

set_option maxRecDepth 100000 in
set_option maxHeartbeats 4000000 in
theorem c_X1_keysIn (l : Launch) (D : va_G) (cA cB : ClassId) (q : Nat → Nat) (ρ : Nat → Int32) (a n : Nat) (hn : a + n ≤ 64) : Mt l D (tyS cA cB) yX1_keysIn cX1_keysIn 5 (some .int) ({ frames := 1, cells := 0, slots := 0, locals := 21 } : Room) [.ref (q 0), .int (nI a), .int (nI n)] (rowW cA q ρ) Unit (fun v _ => v = some (.int (nI (cnt ρ a n)))) (fun _ => rowW cA q ρ) 0 0 := by
  refine mt_in RX1 ([some (.ref (q 0)), some (.int (nI a)), some (.int (nI n)), none, none]) rfl (by decide +kernel) rfl (Nat.le_of_ble_eq_true rfl) rfl rfl (fun X sz => ?_)
  refine r_iconst (nI 0) dX1_keysIn_0 (by decide +kernel) ?_
  refine r_istore_n 3 ([some (.ref (q 0)), some (.int (nI a)), some (.int (nI n)), some (.int (nI 0)), none]) dX1_keysIn_1 rfl (Nat.le_of_ble_eq_true rfl) rfl rfl ?_
  refine r_iload_n 1 dX1_keysIn_2 rfl rfl ?_
  refine r_istore ([some (.ref (q 0)), some (.int (nI a)), some (.int (nI n)), some (.int (nI 0)), some (.int (nI a))]) dX1_keysIn_3 (Nat.le_of_ble_eq_true rfl) rfl rfl ?_
  exact lp_X1_keysIn l D cA cB q ρ a n hn X sz (n + 1) 0 a 0 rfl rfl (by omega) (by omega)

set_option maxRecDepth 100000 in
set_option maxHeartbeats 4000000 in
theorem lp_X1_cellOf (l : Launch) (D : va_G) (cA cB : ClassId) (q : Nat → Nat) (ρ : Nat → Int32) (n : Nat) (hsz : ρ 0 = nI n) (h3 : n = 16 ∨ n = 32 ∨ n = 64) (k : Int32) (hu : ∀ c d, c < n → d < n → ρ (31 + c) = k → ρ (31 + d) = k → c = d) (X : Cx) (sz : Nat) : ∀ (f c : Nat), c ≤ n → n < c + f → (∀ d, d < c → ¬ ρ (31 + d) = k) → G l X ({ frames := 1, cells := 0, slots := 0, locals := 21 } : Room) cX1_cellOf RX1 (some .int) D (tyS cA cB) (va_A (rowW cA q ρ) sz) (QX X D (tyS cA cB) (rowW cA q ρ) sz Unit (fun v _ => v = some (.int (lastF ρ k n))) (fun _ => rowW cA q ρ) 0 0) 0 0 (rowW cA q ρ) 2 ([some (.ref (q 0)), some (.int (k)), some (.int (nI c))]) [] := by
  intro f
  induction f with
  | zero => intro c h1 h2 h3; omega
  | succ f ih =>
    intro c hc hf hno
    have hb : n ≤ 64 := by omega
    refine r_iload_n 2 dX1_cellOf_2 rfl rfl ?_
    refine r_aload_n 0 dX1_cellOf_3 rfl rfl ?_
    refine r_get 0 fk_X1_9 dX1_cellOf_4 rfl rfl ?_
    refine r_top (y := nI (n)) (hsz) ?_
    refine r_ncmp_ge 27 (by omega) (by omega) dX1_cellOf_7 (by decide) (fun h1 => ?_) (fun h1 => ?_)
    · refine r_iconst (-1) dX1_cellOf_27 (by decide +kernel) ?_
      exact r_iret (()) dX1_cellOf_28 (by rw [lastF_none (fun d hd => hno d (by omega))]) (rfl)
    · refine r_aload_n 0 dX1_cellOf_10 rfl rfl ?_
      refine r_iload_n 2 dX1_cellOf_11 rfl rfl ?_
      refine r_callV (As := [.int (nI c)]) (st := []) [0, 1, 2, 3, 4, 5] [] (fun _ => rowW cA q ρ) [0, 1, 2, 3, 4, 5] (c_X1_keyIn l D cA cB q ρ (c) (by omega)) kv_X1_keyIn ml_X1_49 dX1_cellOf_12 rfl rfl rfl rfl rfl rfl rfl rfl (by decide) (fun _ => rfl) rfl rfl (Nat.le_of_ble_eq_true rfl) (fun v u h => ?_)
      subst h
      refine r_st (st' := [.int (ρ (31 + c))]) rfl ?_
      refine r_iload_n 1 dX1_cellOf_15 rfl rfl ?_
      refine r_icmp_ne 21 dX1_cellOf_16 (by decide) (fun h2 => ?_) (fun h2 => ?_)
      · refine r_iinc (v := nI (c + 1)) ([some (.ref (q 0)), some (.int (k)), some (.int (nI (c + 1)))]) dX1_cellOf_21 rfl (nI_1 _) (Nat.le_of_ble_eq_true rfl) rfl rfl ?_
        refine r_goto 2 dX1_cellOf_24 (by decide) ?_
        exact ih (c + 1) (by omega) (by omega) (fun d hd => by rcases Nat.lt_or_ge d c with e | e; exact hno d e; rw [show d = c by omega]; exact h2)
      · refine r_iload_n 2 dX1_cellOf_19 rfl rfl ?_
        exact r_iret (()) dX1_cellOf_20 (by rw [lastF_at h2 (fun d hd e => hu d c hd (by omega) e h2) (by omega)]) (rfl)

set_option maxRecDepth 100000 in
set_option maxHeartbeats 4000000 in
theorem c_X1_cellOf (l : Launch) (D : va_G) (cA cB : ClassId) (q : Nat → Nat) (ρ : Nat → Int32) (n : Nat) (hsz : ρ 0 = nI n) (h3 : n = 16 ∨ n = 32 ∨ n = 64) (k : Int32) (hu : ∀ c d, c < n → d < n → ρ (31 + c) = k → ρ (31 + d) = k → c = d) : Mt l D (tyS cA cB) yX1_cellOf cX1_cellOf 3 (some .int) ({ frames := 1, cells := 0, slots := 0, locals := 21 } : Room) [.ref (q 0), .int (k)] (rowW cA q ρ) Unit (fun v _ => v = some (.int (lastF ρ k n))) (fun _ => rowW cA q ρ) 0 0 := by
  refine mt_in RX1 ([some (.ref (q 0)), some (.int (k)), none]) rfl (by decide +kernel) rfl (Nat.le_of_ble_eq_true rfl) rfl rfl (fun X sz => ?_)
  refine r_iconst (nI 0) dX1_cellOf_0 (by decide +kernel) ?_
  refine r_istore_n 2 ([some (.ref (q 0)), some (.int (k)), some (.int (nI 0))]) dX1_cellOf_1 rfl (Nat.le_of_ble_eq_true rfl) rfl rfl ?_
  exact lp_X1_cellOf l D cA cB q ρ n hsz h3 k hu X sz (n + 1) 0 (by omega) (by omega) (fun d hd => absurd hd (Nat.not_lt_zero _))

set_option maxRecDepth 100000 in
set_option maxHeartbeats 4000000 in
theorem lp_X1_cellNumber (l : Launch) (D : va_G) (cA cB : ClassId) (q : Nat → Nat) (ρ : Nat → Int32) (n : Nat) (hsz : ρ 0 = nI n) (h3 : n = 16 ∨ n = 32 ∨ n = 64) (i : Nat) (hi : i < 2 ^ 31) (X : Cx) (sz : Nat) : ∀ (f c x : Nat), x = cnt ρ 0 c → x ≤ i → c ≤ n → n < c + f → G l X ({ frames := 1, cells := 0, slots := 0, locals := 21 } : Room) cX1_cellNumber RX1 (some .int) D (tyS cA cB) (va_A (rowW cA q ρ) sz) (QX X D (tyS cA cB) (rowW cA q ρ) sz Unit (fun v _ => v = some (.int (nthF ρ i n))) (fun _ => rowW cA q ρ) 0 0) 0 0 (rowW cA q ρ) 4 ([some (.ref (q 0)), some (.int (nI i)), some (.int (nI x)), some (.int (nI c))]) [] := by
  intro f
  induction f with
  | zero => intro c x _ _ h1 h2; omega
  | succ f ih =>
    intro c x hx hxi hc hf
    have hb : n ≤ 64 := by omega
    have hy := cnt_le ρ 0 c
    refine r_iload_n 3 dX1_cellNumber_4 rfl rfl ?_
    refine r_aload_n 0 dX1_cellNumber_5 rfl rfl ?_
    refine r_get 0 fk_X1_9 dX1_cellNumber_6 rfl rfl ?_
    refine r_top (y := nI (n)) (hsz) ?_
    refine r_ncmp_ge 40 (by omega) (by omega) dX1_cellNumber_9 (by decide) (fun h1 => ?_) (fun h1 => ?_)
    · refine r_iconst (-1) dX1_cellNumber_40 (by decide +kernel) ?_
      exact r_iret (()) dX1_cellNumber_41 (by rw [nthF_none (by rw [← show c = n by omega, ← hx]; exact hxi)]) (rfl)
    · refine r_aload_n 0 dX1_cellNumber_12 rfl rfl ?_
      refine r_iload_n 3 dX1_cellNumber_13 rfl rfl ?_
      refine r_callV (As := [.int (nI c)]) (st := []) [0, 1, 2, 3, 4, 5] [] (fun _ => rowW cA q ρ) [0, 1, 2, 3, 4, 5] (c_X1_keyIn l D cA cB q ρ (c) (by omega)) kv_X1_keyIn ml_X1_49 dX1_cellNumber_14 rfl rfl rfl rfl rfl rfl rfl rfl (by decide) (fun _ => rfl) rfl rfl (Nat.le_of_ble_eq_true rfl) (fun v u h => ?_)
      subst h
      refine r_st (st' := [.int (ρ (31 + c))]) rfl ?_
      refine r_iconst (-1) dX1_cellNumber_17 (by decide +kernel) ?_
      refine r_icmp_ne 24 dX1_cellNumber_18 (by decide) (fun h2 => ?_) (fun h2 => ?_)
      · refine r_iload_n 2 dX1_cellNumber_24 rfl rfl ?_
        refine r_iload_n 1 dX1_cellNumber_25 rfl rfl ?_
        refine r_ncmp_ne 31 (by omega) (by omega) dX1_cellNumber_26 (by decide) (fun h3 => ?_) (fun h3 => ?_)
        · refine r_iinc (v := nI (x + 1)) ([some (.ref (q 0)), some (.int (nI i)), some (.int (nI (x + 1))), some (.int (nI c))]) dX1_cellNumber_31 rfl (nI_1 _) (Nat.le_of_ble_eq_true rfl) rfl rfl ?_
          refine r_iinc (v := nI (c + 1)) ([some (.ref (q 0)), some (.int (nI i)), some (.int (nI (x + 1))), some (.int (nI (c + 1)))]) dX1_cellNumber_34 rfl (nI_1 _) (Nat.le_of_ble_eq_true rfl) rfl rfl ?_
          refine r_goto 4 dX1_cellNumber_37 (by decide) ?_
          exact ih (c + 1) _ (by rw [hx, cnt0_s1 h2]) (by omega) (by omega) (by omega)
        · refine r_iload_n 3 dX1_cellNumber_29 rfl rfl ?_
          exact r_iret (()) dX1_cellNumber_30 (by rw [nthF_at h2 (by rw [← hx]; exact h3) (by omega)]) (rfl)
      · refine r_goto 34 dX1_cellNumber_21 (by decide) ?_
        refine r_iinc (v := nI (c + 1)) ([some (.ref (q 0)), some (.int (nI i)), some (.int (nI x)), some (.int (nI (c + 1)))]) dX1_cellNumber_34 rfl (nI_1 _) (Nat.le_of_ble_eq_true rfl) rfl rfl ?_
        refine r_goto 4 dX1_cellNumber_37 (by decide) ?_
        exact ih (c + 1) _ (by rw [hx, cnt0_s0 h2]) (by omega) (by omega) (by omega)

set_option maxRecDepth 100000 in
set_option maxHeartbeats 4000000 in
theorem c_X1_cellNumber (l : Launch) (D : va_G) (cA cB : ClassId) (q : Nat → Nat) (ρ : Nat → Int32) (n : Nat) (hsz : ρ 0 = nI n) (h3 : n = 16 ∨ n = 32 ∨ n = 64) (i : Nat) (hi : i < 2 ^ 31) : Mt l D (tyS cA cB) yX1_cellNumber cX1_cellNumber 4 (some .int) ({ frames := 1, cells := 0, slots := 0, locals := 21 } : Room) [.ref (q 0), .int (nI i)] (rowW cA q ρ) Unit (fun v _ => v = some (.int (nthF ρ i n))) (fun _ => rowW cA q ρ) 0 0 := by
  refine mt_in RX1 ([some (.ref (q 0)), some (.int (nI i)), none, none]) rfl (by decide +kernel) rfl (Nat.le_of_ble_eq_true rfl) rfl rfl (fun X sz => ?_)
  refine r_iconst (nI 0) dX1_cellNumber_0 (by decide +kernel) ?_
  refine r_istore_n 2 ([some (.ref (q 0)), some (.int (nI i)), some (.int (nI 0)), none]) dX1_cellNumber_1 rfl (Nat.le_of_ble_eq_true rfl) rfl rfl ?_
  refine r_iconst (nI 0) dX1_cellNumber_2 (by decide +kernel) ?_
  refine r_istore_n 3 ([some (.ref (q 0)), some (.int (nI i)), some (.int (nI 0)), some (.int (nI 0))]) dX1_cellNumber_3 rfl (Nat.le_of_ble_eq_true rfl) rfl rfl ?_
  exact lp_X1_cellNumber l D cA cB q ρ n hsz h3 i hi X sz (n + 1) 0 0 rfl (by omega) (by omega) (by omega)

set_option maxRecDepth 100000 in
set_option maxHeartbeats 4000000 in
theorem lp_X1_keysBelow (l : Launch) (D : va_G) (cA cB : ClassId) (q : Nat → Nat) (ρ : Nat → Int32) (n : Nat) (hsz : ρ 0 = nI n) (h3 : n = 16 ∨ n = 32 ∨ n = 64) (k : Int32) (X : Cx) (sz : Nat) : ∀ (f c x : Nat), x = blw ρ k c → c ≤ n → n < c + f → G l X ({ frames := 1, cells := 0, slots := 0, locals := 21 } : Room) cX1_keysBelow RX1 (some .int) D (tyS cA cB) (va_A (rowW cA q ρ) sz) (QX X D (tyS cA cB) (rowW cA q ρ) sz Unit (fun v _ => v = some (.int (nI (blw ρ k n)))) (fun _ => rowW cA q ρ) 0 0) 0 0 (rowW cA q ρ) 4 ([some (.ref (q 0)), some (.int (k)), some (.int (nI x)), some (.int (nI c))]) [] := by
  intro f
  induction f with
  | zero => intro c x _ h1 h2; omega
  | succ f ih =>
    intro c x hx hc hf
    have hb : n ≤ 64 := by omega
    have hy := blw_le ρ k c
    refine r_iload_n 3 dX1_keysBelow_4 rfl rfl ?_
    refine r_aload_n 0 dX1_keysBelow_5 rfl rfl ?_
    refine r_get 0 fk_X1_9 dX1_keysBelow_6 rfl rfl ?_
    refine r_top (y := nI (n)) (hsz) ?_
    refine r_ncmp_ge 39 (by omega) (by omega) dX1_keysBelow_9 (by decide) (fun h1 => ?_) (fun h1 => ?_)
    · refine r_iload_n 2 dX1_keysBelow_39 rfl rfl ?_
      exact r_iret (()) dX1_keysBelow_40 (by rw [hx, show c = n by omega]) (rfl)
    · refine r_aload_n 0 dX1_keysBelow_12 rfl rfl ?_
      refine r_iload_n 3 dX1_keysBelow_13 rfl rfl ?_
      refine r_callV (As := [.int (nI c)]) (st := []) [0, 1, 2, 3, 4, 5] [] (fun _ => rowW cA q ρ) [0, 1, 2, 3, 4, 5] (c_X1_keyIn l D cA cB q ρ (c) (by omega)) kv_X1_keyIn ml_X1_49 dX1_keysBelow_14 rfl rfl rfl rfl rfl rfl rfl rfl (by decide) (fun _ => rfl) rfl rfl (Nat.le_of_ble_eq_true rfl) (fun v u h => ?_)
      subst h
      refine r_st (st' := [.int (ρ (31 + c))]) rfl ?_
      refine r_iconst (-1) dX1_keysBelow_17 (by decide +kernel) ?_
      refine r_icmp_eq 33 dX1_keysBelow_18 (by decide) (fun h2 => ?_) (fun h2 => ?_)
      · refine r_iinc (v := nI (c + 1)) ([some (.ref (q 0)), some (.int (k)), some (.int (nI x)), some (.int (nI (c + 1)))]) dX1_keysBelow_33 rfl (nI_1 _) (Nat.le_of_ble_eq_true rfl) rfl rfl ?_
        refine r_goto 4 dX1_keysBelow_36 (by decide) ?_
        exact ih (c + 1) _ (by rw [hx, blw_s0 h2]) (by omega) (by omega)
      · refine r_aload_n 0 dX1_keysBelow_21 rfl rfl ?_
        refine r_iload_n 3 dX1_keysBelow_22 rfl rfl ?_
        refine r_callV (As := [.int (nI c)]) (st := []) [0, 1, 2, 3, 4, 5] [] (fun _ => rowW cA q ρ) [0, 1, 2, 3, 4, 5] (c_X1_keyIn l D cA cB q ρ (c) (by omega)) kv_X1_keyIn ml_X1_49 dX1_keysBelow_23 rfl rfl rfl rfl rfl rfl rfl rfl (by decide) (fun _ => rfl) rfl rfl (Nat.le_of_ble_eq_true rfl) (fun v u h => ?_)
        subst h
        refine r_st (st' := [.int (ρ (31 + c))]) rfl ?_
        refine r_iload_n 1 dX1_keysBelow_26 rfl rfl ?_
        refine r_icmp_ge 33 dX1_keysBelow_27 (by decide) (fun h3 => ?_) (fun h3 => ?_)
        · refine r_iinc (v := nI (c + 1)) ([some (.ref (q 0)), some (.int (k)), some (.int (nI x)), some (.int (nI (c + 1)))]) dX1_keysBelow_33 rfl (nI_1 _) (Nat.le_of_ble_eq_true rfl) rfl rfl ?_
          refine r_goto 4 dX1_keysBelow_36 (by decide) ?_
          exact ih (c + 1) _ (by rw [hx, blw_s2 h2 (Int32.not_lt.mpr h3)]) (by omega) (by omega)
        · refine r_iinc (v := nI (x + 1)) ([some (.ref (q 0)), some (.int (k)), some (.int (nI (x + 1))), some (.int (nI c))]) dX1_keysBelow_30 rfl (nI_1 _) (Nat.le_of_ble_eq_true rfl) rfl rfl ?_
          refine r_iinc (v := nI (c + 1)) ([some (.ref (q 0)), some (.int (k)), some (.int (nI (x + 1))), some (.int (nI (c + 1)))]) dX1_keysBelow_33 rfl (nI_1 _) (Nat.le_of_ble_eq_true rfl) rfl rfl ?_
          refine r_goto 4 dX1_keysBelow_36 (by decide) ?_
          exact ih (c + 1) _ (by rw [hx, blw_s1 h2 (Int32.not_le.mp h3)]) (by omega) (by omega)

set_option maxRecDepth 100000 in
set_option maxHeartbeats 4000000 in
theorem c_X1_keysBelow (l : Launch) (D : va_G) (cA cB : ClassId) (q : Nat → Nat) (ρ : Nat → Int32) (n : Nat) (hsz : ρ 0 = nI n) (h3 : n = 16 ∨ n = 32 ∨ n = 64) (k : Int32) : Mt l D (tyS cA cB) yX1_keysBelow cX1_keysBelow 4 (some .int) ({ frames := 1, cells := 0, slots := 0, locals := 21 } : Room) [.ref (q 0), .int (k)] (rowW cA q ρ) Unit (fun v _ => v = some (.int (nI (blw ρ k n)))) (fun _ => rowW cA q ρ) 0 0 := by
  refine mt_in RX1 ([some (.ref (q 0)), some (.int (k)), none, none]) rfl (by decide +kernel) rfl (Nat.le_of_ble_eq_true rfl) rfl rfl (fun X sz => ?_)
  refine r_iconst (nI 0) dX1_keysBelow_0 (by decide +kernel) ?_
  refine r_istore_n 2 ([some (.ref (q 0)), some (.int (k)), some (.int (nI 0)), none]) dX1_keysBelow_1 rfl (Nat.le_of_ble_eq_true rfl) rfl rfl ?_
  refine r_iconst (nI 0) dX1_keysBelow_2 (by decide +kernel) ?_
  refine r_istore_n 3 ([some (.ref (q 0)), some (.int (k)), some (.int (nI 0)), some (.int (nI 0))]) dX1_keysBelow_3 rfl (Nat.le_of_ble_eq_true rfl) rfl rfl ?_
  exact lp_X1_keysBelow l D cA cB q ρ n hsz h3 k X sz (n + 1) 0 0 rfl (by omega) (by omega)

set_option maxRecDepth 100000 in
set_option maxHeartbeats 4000000 in
theorem lp_X1_valuesFrom (l : Launch) (D : va_G) (cA cB : ClassId) (q : Nat → Nat) (ρ : Nat → Int32) (n : Nat) (hsz : ρ 0 = nI n) (h3 : n = 16 ∨ n = 32 ∨ n = 64) (a b : Int32) (X : Cx) (sz : Nat) : ∀ (f c : Nat) (x : Int32), x = vsum ρ a b c → c ≤ n → n < c + f → G l X ({ frames := 1, cells := 0, slots := 0, locals := 21 } : Room) cX1_valuesFrom RX1 (some .int) D (tyS cA cB) (va_A (rowW cA q ρ) sz) (QX X D (tyS cA cB) (rowW cA q ρ) sz Unit (fun v _ => v = some (.int (vsum ρ a b n))) (fun _ => rowW cA q ρ) 0 0) 0 0 (rowW cA q ρ) 5 ([some (.ref (q 0)), some (.int (a)), some (.int (b)), some (.int (x)), some (.int (nI c))]) [] := by
  intro f
  induction f with
  | zero => intro c x _ h1 h2; omega
  | succ f ih =>
    intro c x hx hc hf
    have hb : n ≤ 64 := by omega
    refine r_iload dX1_valuesFrom_5 rfl ?_
    refine r_aload_n 0 dX1_valuesFrom_7 rfl rfl ?_
    refine r_get 0 fk_X1_9 dX1_valuesFrom_8 rfl rfl ?_
    refine r_top (y := nI (n)) (hsz) ?_
    refine r_ncmp_ge 49 (by omega) (by omega) dX1_valuesFrom_11 (by decide) (fun h1 => ?_) (fun h1 => ?_)
    · refine r_iload_n 3 dX1_valuesFrom_49 rfl rfl ?_
      exact r_iret (()) dX1_valuesFrom_50 (by rw [hx, show c = n by omega]) (rfl)
    · refine r_aload_n 0 dX1_valuesFrom_14 rfl rfl ?_
      refine r_iload dX1_valuesFrom_15 rfl ?_
      refine r_callV (As := [.int (nI c)]) (st := []) [0, 1, 2, 3, 4, 5] [] (fun _ => rowW cA q ρ) [0, 1, 2, 3, 4, 5] (c_X1_keyIn l D cA cB q ρ (c) (by omega)) kv_X1_keyIn ml_X1_49 dX1_valuesFrom_17 rfl rfl rfl rfl rfl rfl rfl rfl (by decide) (fun _ => rfl) rfl rfl (Nat.le_of_ble_eq_true rfl) (fun v u h => ?_)
      subst h
      refine r_st (st' := [.int (ρ (31 + c))]) rfl ?_
      refine r_iload_n 1 dX1_valuesFrom_20 rfl rfl ?_
      refine r_icmp_lt 43 dX1_valuesFrom_21 (by decide) (fun h2 => ?_) (fun h2 => ?_)
      · refine r_iinc (v := nI (c + 1)) ([some (.ref (q 0)), some (.int (a)), some (.int (b)), some (.int (x)), some (.int (nI (c + 1)))]) dX1_valuesFrom_43 rfl (nI_1 _) (Nat.le_of_ble_eq_true rfl) rfl rfl ?_
        refine r_goto 5 dX1_valuesFrom_46 (by decide) ?_
        exact ih (c + 1) _ (by rw [hx, vsum_s0 (fun z => Int32.not_lt.mpr z.1 h2)]) (by omega) (by omega)
      · refine r_aload_n 0 dX1_valuesFrom_24 rfl rfl ?_
        refine r_iload dX1_valuesFrom_25 rfl ?_
        refine r_callV (As := [.int (nI c)]) (st := []) [0, 1, 2, 3, 4, 5] [] (fun _ => rowW cA q ρ) [0, 1, 2, 3, 4, 5] (c_X1_keyIn l D cA cB q ρ (c) (by omega)) kv_X1_keyIn ml_X1_49 dX1_valuesFrom_27 rfl rfl rfl rfl rfl rfl rfl rfl (by decide) (fun _ => rfl) rfl rfl (Nat.le_of_ble_eq_true rfl) (fun v u h => ?_)
        subst h
        refine r_st (st' := [.int (ρ (31 + c))]) rfl ?_
        refine r_iload_n 2 dX1_valuesFrom_30 rfl rfl ?_
        refine r_icmp_gt 43 dX1_valuesFrom_31 (by decide) (fun h3 => ?_) (fun h3 => ?_)
        · refine r_iinc (v := nI (c + 1)) ([some (.ref (q 0)), some (.int (a)), some (.int (b)), some (.int (x)), some (.int (nI (c + 1)))]) dX1_valuesFrom_43 rfl (nI_1 _) (Nat.le_of_ble_eq_true rfl) rfl rfl ?_
          refine r_goto 5 dX1_valuesFrom_46 (by decide) ?_
          exact ih (c + 1) _ (by rw [hx, vsum_s0 (fun z => Int32.not_lt.mpr z.2 h3)]) (by omega) (by omega)
        · refine r_iload_n 3 dX1_valuesFrom_34 rfl rfl ?_
          refine r_aload_n 0 dX1_valuesFrom_35 rfl rfl ?_
          refine r_iload dX1_valuesFrom_36 rfl ?_
          refine r_callV (As := [.int (nI c)]) (st := [.int (x)]) [0, 1, 2, 3, 4, 5] [] (fun _ => rowW cA q ρ) [0, 1, 2, 3, 4, 5] (c_X1_valueIn l D cA cB q ρ (c) (by omega)) kv_X1_valueIn ml_X1_56 dX1_valuesFrom_38 rfl rfl rfl rfl rfl rfl rfl rfl (by decide) (fun _ => rfl) rfl rfl (Nat.le_of_ble_eq_true rfl) (fun v u h => ?_)
          subst h
          refine r_st (st' := [.int (ρ (95 + c)), .int (x)]) rfl ?_
          refine r_iadd dX1_valuesFrom_41 ?_
          refine r_istore_n 3 ([some (.ref (q 0)), some (.int (a)), some (.int (b)), some (.int (x + (ρ (95 + c)))), some (.int (nI c))]) dX1_valuesFrom_42 rfl (Nat.le_of_ble_eq_true rfl) rfl rfl ?_
          refine r_iinc (v := nI (c + 1)) ([some (.ref (q 0)), some (.int (a)), some (.int (b)), some (.int (x + (ρ (95 + c)))), some (.int (nI (c + 1)))]) dX1_valuesFrom_43 rfl (nI_1 _) (Nat.le_of_ble_eq_true rfl) rfl rfl ?_
          refine r_goto 5 dX1_valuesFrom_46 (by decide) ?_
          exact ih (c + 1) _ (by rw [hx, vsum_s1 (Int32.not_lt.mp h2) (Int32.not_lt.mp h3)]) (by omega) (by omega)

set_option maxRecDepth 100000 in
set_option maxHeartbeats 4000000 in
theorem c_X1_valuesFrom (l : Launch) (D : va_G) (cA cB : ClassId) (q : Nat → Nat) (ρ : Nat → Int32) (n : Nat) (hsz : ρ 0 = nI n) (h3 : n = 16 ∨ n = 32 ∨ n = 64) (a b : Int32) : Mt l D (tyS cA cB) yX1_valuesFrom cX1_valuesFrom 5 (some .int) ({ frames := 1, cells := 0, slots := 0, locals := 21 } : Room) [.ref (q 0), .int (a), .int (b)] (rowW cA q ρ) Unit (fun v _ => v = some (.int (vsum ρ a b n))) (fun _ => rowW cA q ρ) 0 0 := by
  refine mt_in RX1 ([some (.ref (q 0)), some (.int (a)), some (.int (b)), none, none]) rfl (by decide +kernel) rfl (Nat.le_of_ble_eq_true rfl) rfl rfl (fun X sz => ?_)
  refine r_iconst (nI 0) dX1_valuesFrom_0 (by decide +kernel) ?_
  refine r_istore_n 3 ([some (.ref (q 0)), some (.int (a)), some (.int (b)), some (.int (nI 0)), none]) dX1_valuesFrom_1 rfl (Nat.le_of_ble_eq_true rfl) rfl rfl ?_
  refine r_iconst (nI 0) dX1_valuesFrom_2 (by decide +kernel) ?_
  refine r_istore ([some (.ref (q 0)), some (.int (a)), some (.int (b)), some (.int (nI 0)), some (.int (nI 0))]) dX1_valuesFrom_3 (Nat.le_of_ble_eq_true rfl) rfl rfl ?_
  exact lp_X1_valuesFrom l D cA cB q ρ n hsz h3 a b X sz (n + 1) 0 0 rfl (by omega) (by omega)

set_option maxRecDepth 100000 in
set_option maxHeartbeats 4000000 in
theorem lp_X1_leastKeyOf (l : Launch) (D : va_G) (cA cB : ClassId) (q : Nat → Nat) (ρ : Nat → Int32) (g : Nat) (hg : g < 16) (X : Cx) (sz : Nat) : ∀ (f i c : Nat), c = 4 * g + i → i ≤ 4 → 4 < i + f → (∀ d, d < i → ρ (31 + (4 * g + d)) = -1) → G l X ({ frames := 1, cells := 0, slots := 0, locals := 21 } : Room) cX1_leastKeyOf RX1 (some .int) D (tyS cA cB) (va_A (rowW cA q ρ) sz) (QX X D (tyS cA cB) (rowW cA q ρ) sz Unit (fun v _ => v = some (.int (lstF ρ g))) (fun _ => rowW cA q ρ) 0 0) 0 0 (rowW cA q ρ) 6 ([some (.ref (q 0)), some (.int (nI g)), some (.int (nI (g * 4))), some (.int (nI c))]) [] := by
  intro f
  induction f with
  | zero => intro i c _ h1 h2 _; omega
  | succ f ih =>
    intro i c hc hi hf hno
    refine r_iload_n 3 dX1_leastKeyOf_6 rfl rfl ?_
    refine r_iload_n 2 dX1_leastKeyOf_7 rfl rfl ?_
    refine r_iconst (nI 4) dX1_leastKeyOf_8 (by decide +kernel) ?_
    refine r_niadd dX1_leastKeyOf_9 ?_
    refine r_ncmp_ge 34 (by omega) (by omega) dX1_leastKeyOf_10 (by decide) (fun h1 => ?_) (fun h1 => ?_)
    · refine r_iconst (-1) dX1_leastKeyOf_34 (by decide +kernel) ?_
      exact r_iret (()) dX1_leastKeyOf_35 (by rw [lstF_none (fun d hd => hno d (by omega))]) (rfl)
    · refine r_aload_n 0 dX1_leastKeyOf_13 rfl rfl ?_
      refine r_iload_n 3 dX1_leastKeyOf_14 rfl rfl ?_
      refine r_callV (As := [.int (nI c)]) (st := []) [0, 1, 2, 3, 4, 5] [] (fun _ => rowW cA q ρ) [0, 1, 2, 3, 4, 5] (c_X1_keyIn l D cA cB q ρ (c) (by omega)) kv_X1_keyIn ml_X1_49 dX1_leastKeyOf_15 rfl rfl rfl rfl rfl rfl rfl rfl (by decide) (fun _ => rfl) rfl rfl (Nat.le_of_ble_eq_true rfl) (fun v u h => ?_)
      subst h
      refine r_st (st' := [.int (ρ (31 + c))]) rfl ?_
      refine r_iconst (-1) dX1_leastKeyOf_18 (by decide +kernel) ?_
      refine r_icmp_eq 28 dX1_leastKeyOf_19 (by decide) (fun h2 => ?_) (fun h2 => ?_)
      · refine r_iinc (v := nI (c + 1)) ([some (.ref (q 0)), some (.int (nI g)), some (.int (nI (g * 4))), some (.int (nI (c + 1)))]) dX1_leastKeyOf_28 rfl (nI_1 _) (Nat.le_of_ble_eq_true rfl) rfl rfl ?_
        refine r_goto 6 dX1_leastKeyOf_31 (by decide) ?_
        exact ih (i + 1) _ (by omega) (by omega) (by omega) (fun d hd => by rcases Nat.lt_or_ge d i with e | e; exact hno d e; rw [show d = i by omega, ← hc]; exact h2)
      · refine r_aload_n 0 dX1_leastKeyOf_22 rfl rfl ?_
        refine r_iload_n 3 dX1_leastKeyOf_23 rfl rfl ?_
        refine r_callV (As := [.int (nI c)]) (st := []) [0, 1, 2, 3, 4, 5] [] (fun _ => rowW cA q ρ) [0, 1, 2, 3, 4, 5] (c_X1_keyIn l D cA cB q ρ (c) (by omega)) kv_X1_keyIn ml_X1_49 dX1_leastKeyOf_24 rfl rfl rfl rfl rfl rfl rfl rfl (by decide) (fun _ => rfl) rfl rfl (Nat.le_of_ble_eq_true rfl) (fun v u h => ?_)
        subst h
        refine r_st (st' := [.int (ρ (31 + c))]) rfl ?_
        exact r_iret (()) dX1_leastKeyOf_27 (by rw [lstF_at i hno (by omega) (by rw [← hc]; exact h2), hc]) (rfl)

set_option maxRecDepth 100000 in
set_option maxHeartbeats 4000000 in
theorem c_X1_leastKeyOf (l : Launch) (D : va_G) (cA cB : ClassId) (q : Nat → Nat) (ρ : Nat → Int32) (g : Nat) (hg : g < 16) : Mt l D (tyS cA cB) yX1_leastKeyOf cX1_leastKeyOf 4 (some .int) ({ frames := 1, cells := 0, slots := 0, locals := 21 } : Room) [.ref (q 0), .int (nI g)] (rowW cA q ρ) Unit (fun v _ => v = some (.int (lstF ρ g))) (fun _ => rowW cA q ρ) 0 0 := by
  refine mt_in RX1 ([some (.ref (q 0)), some (.int (nI g)), none, none]) rfl (by decide +kernel) rfl (Nat.le_of_ble_eq_true rfl) rfl rfl (fun X sz => ?_)
  refine r_iload_n 1 dX1_leastKeyOf_0 rfl rfl ?_
  refine r_iconst (nI 4) dX1_leastKeyOf_1 (by decide +kernel) ?_
  refine r_nimul dX1_leastKeyOf_2 ?_
  refine r_istore_n 2 ([some (.ref (q 0)), some (.int (nI g)), some (.int (nI (g * 4))), none]) dX1_leastKeyOf_3 rfl (Nat.le_of_ble_eq_true rfl) rfl rfl ?_
  refine r_iload_n 2 dX1_leastKeyOf_4 rfl rfl ?_
  refine r_istore_n 3 ([some (.ref (q 0)), some (.int (nI g)), some (.int (nI (g * 4))), some (.int (nI (g * 4)))]) dX1_leastKeyOf_5 rfl (Nat.le_of_ble_eq_true rfl) rfl rfl ?_
  exact lp_X1_leastKeyOf l D cA cB q ρ g hg X sz 5 0 (g * 4) (by omega) (by omega) (by omega) (fun d hd => absurd hd (Nat.not_lt_zero _))

set_option maxRecDepth 100000 in
set_option maxHeartbeats 4000000 in
theorem c_X1_logged (l : Launch) (D : va_G) (cA cB : ClassId) (q : Nat → Nat) (ρ : Nat → Int32) (m : Nat) (hm : ρ 6 = nI m) (hm8 : m ≤ 8) (i t : Nat) (hi : i < 2 ^ 31) (ht : t ≤ 2) : Mt l D (tyS cA cB) yX1_logged cX1_logged 3 (some .int) ({ frames := 1, cells := 0, slots := 0, locals := 21 } : Room) [.ref (q 0), .int (nI i), .int (nI t)] (rowW cA q ρ) Unit (fun v _ => v = some (.int (logF ρ m i t))) (fun _ => rowW cA q ρ) 0 0 := by
  refine mt_in RX1 ([some (.ref (q 0)), some (.int (nI i)), some (.int (nI t))]) rfl (by decide +kernel) rfl (Nat.le_of_ble_eq_true rfl) rfl rfl (fun X sz => ?_)
  refine r_iload_n 1 dX1_logged_0 rfl rfl ?_
  refine r_aload_n 0 dX1_logged_1 rfl rfl ?_
  refine r_get 0 fk_X1_46 dX1_logged_2 rfl rfl ?_
  refine r_top (y := nI (m)) (hm) ?_
  refine r_iconst (nI 1) dX1_logged_5 (by decide +kernel) ?_
  refine r_isub dX1_logged_6 ?_
  refine r_callS (As := [.int (nI i), .int ((nI (m)) - (nI (1)))]) (st := []) [] [0, 1, 2, 3, 4, 5] (fun _ => rowW cA q ρ) [0, 1, 2, 3, 4, 5] (c_X4_within l D cA cB (nI (i)) ((nI (m)) - (nI (1)))) ks_X4_within ml_X1_69 dX1_logged_7 rfl rfl rfl rfl rfl rfl (by decide) (fun _ => rfl) rfl rfl (Nat.le_of_ble_eq_true rfl) (fun v u h => ?_)
  subst h
  refine r_st (st' := [.int (bI (wi (nI (i)) ((nI (m)) - (nI (1)))))]) rfl ?_
  refine r_bif_eq 22 dX1_logged_10 (by decide) (fun h1 => ?_) (fun h1 => ?_)
  · refine r_iconst (-1) dX1_logged_22 (by decide +kernel) ?_
    exact r_iret (()) dX1_logged_23 (by unfold logF; rw [if_neg (fun z => by rw [wi_lt hi (by omega)] at h1; simp [z] at h1)]) (rfl)
  · refine r_iload_n 1 dX1_logged_13 rfl rfl ?_
    refine r_bipush (nI 7) dX1_logged_14 (by decide +kernel) ?_
    refine r_callS (As := [.int (nI i), .int (nI 7)]) (st := []) [] [0, 1, 2, 3, 4, 5] (fun _ => rowW cA q ρ) [0, 1, 2, 3, 4, 5] (c_X4_within l D cA cB (nI (i)) (nI (7))) ks_X4_within ml_X1_69 dX1_logged_16 rfl rfl rfl rfl rfl rfl (by decide) (fun _ => rfl) rfl rfl (Nat.le_of_ble_eq_true rfl) (fun v u h => ?_)
    subst h
    refine r_st (st' := [.int (bI (wi (nI (i)) (nI (7))))]) rfl ?_
    refine r_bif_ne 24 dX1_logged_19 (by decide) (fun h2 => ?_) (fun h2 => ?_)
    · refine r_iload_n 2 dX1_logged_24 rfl rfl ?_
      refine r_if_ne 35 dX1_logged_25 (by decide) (fun h3 => ?_) (fun h3 => ?_)
      · have hi8 : i < 8 := by have := h2; rw [wi_n hi (by omega)] at this; have := of_decide_eq_true this; omega
        have ht0 : ¬ t = 0 := fun z => h3 (by rw [z]; rfl)
        refine r_iload_n 2 dX1_logged_35 rfl rfl ?_
        refine r_iconst (nI 1) dX1_logged_36 (by decide +kernel) ?_
        refine r_ncmp_ne 49 (by omega) (by omega) dX1_logged_37 (by decide) (fun h4 => ?_) (fun h4 => ?_)
        · refine r_aload_n 0 dX1_logged_49 rfl rfl ?_
          refine r_get 0 fk_X1_28 dX1_logged_50 rfl rfl ?_
          refine r_iload_n 1 dX1_logged_53 rfl rfl ?_
          refine r_iald 5 (i) dX1_logged_54 rfl rfl rfl (by omega) (Nat.le_of_ble_eq_true rfl) ?_
          refine r_top (gA_lt (by omega)) ?_
          exact r_iret (()) dX1_logged_55 (by rw [wi_lt hi (by omega)] at h1; unfold logF; rw [if_pos (of_decide_eq_true h1), show t = 2 from by omega]) (rfl)
        · refine r_aload_n 0 dX1_logged_40 rfl rfl ?_
          refine r_get 0 fk_X1_25 dX1_logged_41 rfl rfl ?_
          refine r_iload_n 1 dX1_logged_44 rfl rfl ?_
          refine r_iald 4 (i) dX1_logged_45 rfl rfl rfl (by omega) (Nat.le_of_ble_eq_true rfl) ?_
          refine r_top (gA_lt (by omega)) ?_
          refine r_goto 55 dX1_logged_46 (by decide) ?_
          exact r_iret (()) dX1_logged_55 (by rw [wi_lt hi (by omega)] at h1; unfold logF; rw [if_pos (of_decide_eq_true h1), show t = 1 from h4]) (rfl)
      · have hi8 : i < 8 := by have := h2; rw [wi_n hi (by omega)] at this; have := of_decide_eq_true this; omega
        refine r_aload_n 0 dX1_logged_28 rfl rfl ?_
        refine r_get 0 fk_X1_22 dX1_logged_29 rfl rfl ?_
        refine r_iload_n 1 dX1_logged_32 rfl rfl ?_
        refine r_iald 3 (i) dX1_logged_33 rfl rfl rfl (by omega) (Nat.le_of_ble_eq_true rfl) ?_
        refine r_top (gA_lt (by omega)) ?_
        exact r_iret (()) dX1_logged_34 (by rw [wi_lt hi (by omega)] at h1; unfold logF; rw [if_pos (of_decide_eq_true h1), show t = 0 from (nI_inj (by omega) (by decide)).mp h3]) (rfl)
    · refine r_iconst (-1) dX1_logged_22 (by decide +kernel) ?_
      exact r_iret (()) dX1_logged_23 (by rw [wi_lt hi (by omega)] at h1; rw [wi_n hi (by omega)] at h2; simp at h1 h2; omega) (rfl)

