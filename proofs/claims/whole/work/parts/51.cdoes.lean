theorem c_X0_takeS (l : Launch) (D : va_G) (cA cB : ClassId) (rd : Nat) (z : RS) (hz : RB z) (hod : z.2.2.2.2.1 ≤ 120) (c : Int32) : Mt l D (tyS cA cB) yX0_take cX0_take 2 (some .int) ({ frames := 2, cells := 0, slots := 0, locals := 41 } : Room) [.ref rd, .int c] (rdZ rd z) Unit (fun v _ => v = some (.int (tkS z c).1)) (fun _ => rdZ rd (tkS z c).2) 0 0 := c_X0_take l D cA cB rd z.1 z.2.1 z.2.2.1 z.2.2.2.1 z.2.2.2.2.1 z.2.2.2.2.2.1 z.2.2.2.2.2.2 (by omega) (by have := hz.1; omega) (by have := hz.2.1; omega) c
theorem c_X0_beginS (l : Launch) (D : va_G) (cA cB : ClassId) (rd : Nat) (z : RS) : Mt l D (tyS cA cB) yX0_begin cX0_begin 1 none ({ frames := 0, cells := 0, slots := 0, locals := 0 } : Room) [.ref rd] (rdZ rd z) Unit (fun v _ => v = none) (fun _ => rdZ rd (bgn z)) 0 0 := c_X0_begin l D cA cB rd z.1 z.2.1 z.2.2.1 z.2.2.2.1 z.2.2.2.2.1 z.2.2.2.2.2.1 z.2.2.2.2.2.2
theorem c_X0_mayEndS (l : Launch) (D : va_G) (cA cB : ClassId) (rd : Nat) (z : RS) (hod : z.2.2.2.2.1 ≤ 120) : Mt l D (tyS cA cB) yX0_mayEnd cX0_mayEnd 1 (some .boolean) ({ frames := 0, cells := 0, slots := 0, locals := 0 } : Room) [.ref rd] (rdZ rd z) Unit (fun v _ => v = some (.int (bI (!z.2.2.2.1 && decide (0 < z.2.2.2.2.1))))) (fun _ => rdZ rd z) 0 0 := c_X0_mayEnd l D cA cB rd z.1 z.2.1 z.2.2.1 z.2.2.2.1 z.2.2.2.2.1 z.2.2.2.2.2.1 z.2.2.2.2.2.2 (by omega)
set_option maxRecDepth 100000 in
set_option maxHeartbeats 4000000 in
theorem lp_X4_faultOfText (l : Launch) (D : va_G) (cA cB : ClassId) (b q p t : Nat → Nat) (rd : Nat) (tx : Nat → Int32) (tl : Nat) (rf : Nat → Int32) (htl : tl ≤ 120) (z : RS) (hz : RB z)  (X : Cx) (sz : Nat) : ∀ (f i : Nat) (z9 : RS), RB z9 → z9.2.2.2.2.1 ≤ i → i ≤ tl → tl < i + f → (cR tx (tl - i) i z9).1 = (cR tx tl 0 (bgn z)).1 → G l X ({ frames := 3, cells := 0, slots := 0, locals := 62 } : Room) cX4_faultOfText RX4 (some .int) D (tyS cA cB) (va_A (gapW cA b q p t rd tx tl rf ++ (rdZ rd z)) sz) (QX X D (tyS cA cB) (gapW cA b q p t rd tx tl rf ++ (rdZ rd z)) sz RS (fun v u => v = some (.int (oI (cR tx tl 0 (bgn z)).1)) ∧ RB u) (fun u => gapW cA b q p t rd tx tl rf ++ (rdZ rd u)) 0 0) 0 0 (gapW cA b q p t rd tx tl rf ++ (rdZ rd z9)) 9 ([some (.ref (b 0)), some (.int (nI i))]) [] := by
  intro f
  induction f with
  | zero => intro i z9 _ _ h1 h2; omega
  | succ f ih =>
    intro i z9 hzb hzi hi hf hR
    have hzo : z9.2.2.2.2.1 ≤ 120 := by omega
    refine r_iload_n 1 dX4_faultOfText_9 rfl rfl ?_
    refine r_aload_n 0 dX4_faultOfText_10 rfl rfl ?_
    refine r_get 0 fk_X4_41 dX4_faultOfText_11 rfl rfl ?_
    refine r_ncmp_ge 50 (by omega) (by omega) dX4_faultOfText_14 (by decide) (fun hq1 => ?_) (fun hq1 => ?_)
    · refine r_aload_n 0 dX4_faultOfText_50 rfl rfl ?_
      refine r_get 0 fk_X4_33 dX4_faultOfText_51 rfl rfl ?_
      refine r_callV2 (As := []) (st := []) (fun _ => gapW cA b q p t rd tx tl rf ++ (rdZ rd z9)) [gapW cA b q p t rd tx tl rf, rdZ rd z9] [rdZ rd z9] [gapW cA b q p t rd tx tl rf] (fun _ => [gapW cA b q p t rd tx tl rf, rdZ rd z9]) (fun _ => [rdZ rd z9]) (c_X0_mayEndS l D cA cB rd z9 hzo) kv_X0_mayEnd ml_X4_216 dX4_faultOfText_54 rfl rfl rfl rfl (segOk [1, 0] rfl rfl rfl rfl) (fun _ => segOk [1, 0] rfl rfl rfl rfl) rfl (Nat.le_of_ble_eq_true rfl) (fun v u h => ?_)
      subst h
      refine r_st (st' := [.int (bI (!z9.2.2.2.1 && decide (0 < z9.2.2.2.2.1)))]) rfl ?_
      refine r_bif_eq 64 dX4_faultOfText_57 (by decide) (fun hq2 => ?_) (fun hq2 => ?_)
      · refine r_aload_n 0 dX4_faultOfText_64 rfl rfl ?_
        refine r_get 0 fk_X4_41 dX4_faultOfText_65 rfl rfl ?_
        exact r_iret (z9) dX4_faultOfText_68 (⟨by rw [← hR, show i = tl by omega, cR_e, if_neg (by rw [hq2]; decide)]; rfl, hzb⟩) (rfl)
      · refine r_iconst (-1) dX4_faultOfText_60 (by decide +kernel) ?_
        refine r_goto 68 dX4_faultOfText_61 (by decide) ?_
        exact r_iret (z9) dX4_faultOfText_68 (⟨by rw [← hR, show i = tl by omega, cR_e, if_pos hq2]; rfl, hzb⟩) (rfl)
    · refine r_iload_n 1 dX4_faultOfText_17 rfl rfl ?_
      refine r_aload_n 0 dX4_faultOfText_18 rfl rfl ?_
      refine r_get 0 fk_X4_37 dX4_faultOfText_19 rfl rfl ?_
      refine r_alen 1 0 dX4_faultOfText_22 rfl rfl ?_
      refine r_top (y := nI 120) rfl ?_
      refine r_ncmp_ge 50 (by omega) (by omega) dX4_faultOfText_23 (by decide) (fun hq3 => ?_) (fun hq3 => ?_)
      · omega
      · refine r_aload_n 0 dX4_faultOfText_26 rfl rfl ?_
        refine r_get 0 fk_X4_33 dX4_faultOfText_27 rfl rfl ?_
        refine r_aload_n 0 dX4_faultOfText_30 rfl rfl ?_
        refine r_get 0 fk_X4_37 dX4_faultOfText_31 rfl rfl ?_
        refine r_iload_n 1 dX4_faultOfText_34 rfl rfl ?_
        refine r_iald 1 (i) dX4_faultOfText_35 rfl rfl rfl (by omega) (Nat.le_of_ble_eq_true rfl) ?_
        refine r_callV2 (As := [.int (tx i)]) (st := []) (fun _ => gapW cA b q p t rd tx tl rf ++ (rdZ rd ((tkS z9 (tx i)).2))) [gapW cA b q p t rd tx tl rf, rdZ rd z9] [rdZ rd z9] [gapW cA b q p t rd tx tl rf] (fun _ => [gapW cA b q p t rd tx tl rf, rdZ rd ((tkS z9 (tx i)).2)]) (fun _ => [rdZ rd ((tkS z9 (tx i)).2)]) (c_X0_takeS l D cA cB rd z9 hzb hzo (tx i)) kv_X0_take ml_X4_142 dX4_faultOfText_36 rfl rfl rfl rfl (segOk [1, 0] rfl rfl rfl rfl) (fun _ => segOk [1, 0] rfl rfl rfl rfl) rfl (Nat.le_of_ble_eq_true rfl) (fun v u h => ?_)
        subst h
        refine r_st (st' := [.int ((tkS z9 (tx i)).1)]) rfl ?_
        refine r_if_ne 44 dX4_faultOfText_39 (by decide) (fun hq4 => ?_) (fun hq4 => ?_)
        · refine r_iinc (v := nI (i + 1)) ([some (.ref (b 0)), some (.int (nI (i + 1)))]) dX4_faultOfText_44 rfl (nI_1 _) (Nat.le_of_ble_eq_true rfl) rfl rfl ?_
          refine r_goto 9 dX4_faultOfText_47 (by decide) ?_
          have hnx := tk_rb (tx i) hzb
          exact ih (i + 1) _ hnx.1 (by omega) (by omega) (by omega) (by rw [← hR, cR_f1 hq1 hq4])
        · refine r_iload_n 1 dX4_faultOfText_42 rfl rfl ?_
          exact r_iret ((tkS z9 (tx i)).2) dX4_faultOfText_43 (⟨by rw [← hR, cR_0 hq1 hq4]; rfl, (tk_rb _ hzb).1⟩) (rfl)

set_option maxRecDepth 100000 in
set_option maxHeartbeats 4000000 in
theorem c_X4_faultOfText (l : Launch) (D : va_G) (cA cB : ClassId) (b q p t : Nat → Nat) (rd : Nat) (tx : Nat → Int32) (tl : Nat) (rf : Nat → Int32) (htl : tl ≤ 120) (z : RS) (hz : RB z)  : Mt l D (tyS cA cB) yX4_faultOfText cX4_faultOfText 2 (some .int) ({ frames := 3, cells := 0, slots := 0, locals := 62 } : Room) [.ref (b 0)] (gapW cA b q p t rd tx tl rf ++ (rdZ rd z)) RS (fun v u => v = some (.int (oI (cR tx tl 0 (bgn z)).1)) ∧ RB u) (fun u => gapW cA b q p t rd tx tl rf ++ (rdZ rd u)) 0 0 := by
  refine mt_in RX4 ([some (.ref (b 0)), none]) rfl (by decide +kernel) rfl (Nat.le_of_ble_eq_true rfl) rfl rfl (fun X sz => ?_)
  refine r_aload_n 0 dX4_faultOfText_0 rfl rfl ?_
  refine r_get 0 fk_X4_33 dX4_faultOfText_1 rfl rfl ?_
  refine r_callV2 (As := []) (st := []) (fun _ => gapW cA b q p t rd tx tl rf ++ (rdZ rd (bgn z))) [gapW cA b q p t rd tx tl rf, rdZ rd z] [rdZ rd z] [gapW cA b q p t rd tx tl rf] (fun _ => [gapW cA b q p t rd tx tl rf, rdZ rd (bgn z)]) (fun _ => [rdZ rd (bgn z)]) (c_X0_beginS l D cA cB rd z) kv_X0_begin ml_X4_139 dX4_faultOfText_4 rfl rfl rfl rfl (segOk [1, 0] rfl rfl rfl rfl) (fun _ => segOk [1, 0] rfl rfl rfl rfl) rfl (Nat.le_of_ble_eq_true rfl) (fun v u h => ?_)
  subst h
  refine r_st (st' := []) rfl ?_
  refine r_iconst (nI 0) dX4_faultOfText_7 (by decide +kernel) ?_
  refine r_istore_n 1 ([some (.ref (b 0)), some (.int (nI 0))]) dX4_faultOfText_8 rfl (Nat.le_of_ble_eq_true rfl) rfl rfl ?_
  exact lp_X4_faultOfText l D cA cB b q p t rd tx tl rf htl z hz X sz (tl + 1) 0 (bgn z) (bgn_rb hz) (Nat.zero_le _) (by omega) (by omega) (by rw [Nat.sub_zero])

theorem c_X4_refusalOf (l : Launch) (D : va_G) (cA cB : ClassId) (b q p t : Nat → Nat) (rd : Nat) (tx : Nat → Int32) (tl : Nat) (rf : Nat → Int32) (ρ : Nat → Int32) (hI : IvR ρ) (k a c : Int32) (hk : ¬ numOf k = 0) : Mt l D (tyS cA cB) yX4_refusalOf cX4_refusalOf 4 (some .int) ({ frames := 4, cells := 0, slots := 0, locals := 88 } : Room) [.ref (b 0), .int k, .int a, .int c] (gapW cA b q p t rd tx tl rf ++ (rowW cA q ρ)) Unit (fun w _ => w = some (.int (oRf ρ (k, a, c)))) (fun _ => gapW cA b q p t rd tx tl rf ++ (rowW cA q ρ)) 0 0 := by
  rcases num_cases hk with rfl | rfl | rfl | rfl
  · rw [(o_d ρ a c).1]; exact c_X4_refusalOf_d l D cA cB b q p t rd tx tl rf ρ a c
  · rw [(o_m ρ a c).1]; exact c_X4_refusalOf_m l D cA cB b q p t rd tx tl rf ρ a c
  · rw [(o_p ρ a c).1]; exact c_X4_refusalOf_p l D cA cB b q p t rd tx tl rf ρ (nOf ρ) hI.1 hI.2.1 hI.2.2.2.2.1 a c
  · rw [(o_t ρ a c).1]; exact c_X4_refusalOf_t l D cA cB b q p t rd tx tl rf ρ (nOf ρ) hI.1 hI.2.1 hI.2.2.2.2.1 a c
theorem c_X4_carryOut (l : Launch) (D : va_G) (cA cB : ClassId) (b q p t : Nat → Nat) (rd : Nat) (tx : Nat → Int32) (tl : Nat) (rf : Nat → Int32) (ρ : Nat → Int32) (hI : IvR ρ) (u0 : Sp5) (k a c : Int32) (hk : ¬ numOf k = 0) (h0 : oRf ρ (k, a, c) = 0) : Mt l D (tyS cA cB) yX4_carryOut cX4_carryOut 4 none ({ frames := 5, cells := 0, slots := 0, locals := 126 } : Room) [.ref (b 0), .int k, .int a, .int c] (gapW cA b q p t rd tx tl rf ++ (rowW cA q (ρ) ++ (spU cA p u0))) Sp5 (fun w _ => w = none) (fun u => gapW cA b q p t rd tx tl rf ++ (rowW cA q (oRow ρ (k, a, c)) ++ (spU cA p u))) 0 0 := by
  rcases num_cases hk with rfl | rfl | rfl | rfl
  · rw [(o_d ρ a c).2.2]
    rw [(o_d ρ a c).1] at h0
    obtain ⟨x, y, hxy, hy, rfl, rfl⟩ := rfD_ex h0
    unfold dRow
    rw [if_pos h0, nI_clamp (by omega), nI_clamp (by omega)]
    exact c_X4_carryOut_d l D cA cB b q p t rd tx tl rf ρ (nOf ρ) (gOf ρ) hI u0 x y hxy hy
  · rw [(o_m ρ a c).2.2]
    rw [(o_m ρ a c).1] at h0
    unfold mRow
    rw [if_pos h0]
    exact c_X4_carryOut_m l D cA cB b q p t rd tx tl rf ρ u0 a c
  · rw [(o_p ρ a c).2.2]
    rw [(o_p ρ a c).1] at h0
    unfold pRow
    rw [if_pos h0]
    exact c_X4_carryOut_p l D cA cB b q p t rd tx tl rf ρ (nOf ρ) hI.1 hI.2.1 (gOf ρ) hI.2.2.1 hI.2.2.2.1 hI.2.2.2.2.1 u0 a c (rfP_hr h0).1 (rfP_hr h0).2
  · rw [(o_t ρ a c).2.2]
    rw [(o_t ρ a c).1] at h0
    unfold tRow
    rw [if_pos h0]
    exact c_X4_carryOut_t l D cA cB b q p t rd tx tl rf ρ (nOf ρ) hI.1 hI.2.1 (gOf ρ) hI.2.2.1 hI.2.2.2.1 hI.2.2.2.2.1 u0 a c (rfT_0 h0).1 (rfT_0 h0).2
theorem c_X3_keepMark_k (l : Launch) (D : va_G) (cA cB : ClassId) (t : Nat → Nat) (r : Nat → Nat → Nat) (σ : Nat → Nat → Int32) (h : Nat) (hh : h ≤ 5) (ρ : Nat → Int32) : Mt l D (tyS cA cB) yX3_keepMark cX3_keepMark 3 none ({ frames := 0, cells := 0, slots := 0, locals := 0 } : Room) [.ref (t 0)] (stW cA cB t r (ups σ h ρ) (nI h)) Unit (fun v _ => v = none) (fun _ => stW cA cB t (kpR r h) (kpS σ h ρ) (nI (kpH h))) 0 0 := by
  unfold kpR kpS kpH
  rcases Nat.lt_or_ge h 5 with e | e
  · rw [if_pos e, if_pos e, if_pos e]; exact c_X3_keepMark_lt l D cA cB t r _ h hh e
  · rw [if_neg (Nat.not_lt.mpr e), if_neg (Nat.not_lt.mpr e), if_neg (Nat.not_lt.mpr e)]; exact c_X3_keepMark_ge l D cA cB t r _ h hh e
set_option maxRecDepth 100000 in
set_option maxHeartbeats 4000000 in
theorem lp_X4_does (l : Launch) (D : va_G) (cA cB : ClassId) (b q p t : Nat → Nat) (rd : Nat) (tx : Nat → Int32) (tl : Nat) (rf : Nat → Int32) (htl : tl ≤ 120) (ρ : Nat → Int32) (hI : IvR ρ) (u0 : Sp5) (r : Nat → Nat → Nat) (σ : Nat → Nat → Int32) (h : Nat) (hh : h ≤ 5) (z : RS) (hz : RB z)  (X : Cx) (sz : Nat) : rdX tx tl = none → ∀ (f i d : Nat) (τ : Nat → Int32) (w9 : Sp5) (z9 : RS), RB z9 → z9.2.2.2.2.1 ≤ i → i ≤ tl → tl < i + f → IvR τ → d ≤ i → (cR tx (tl - i) i z9).1 = none → runL (cR tx (tl - i) i z9).2 τ d = runL (rdT tx tl).2 ρ 0 → d + (cR tx (tl - i) i z9).2.length = (rdT tx tl).2.length → G l X ({ frames := 6, cells := 0, slots := 0, locals := 149 } : Room) cX4_does RX4 (some .int) D (tyS cA cB) (va_A (gapW cA b q p t rd tx tl rf ++ (rowW cA q ρ ++ (spU cA p u0 ++ (stW cA cB t r σ (nI (h)) ++ (rdZ rd z))))) sz) (QX X D (tyS cA cB) (gapW cA b q p t rd tx tl rf ++ (rowW cA q ρ ++ (spU cA p u0 ++ (stW cA cB t r σ (nI (h)) ++ (rdZ rd z))))) sz (Sp5 × RS) (fun w u => w = some (.int (dsAns tx tl ρ)) ∧ RB u.2) (fun u => gapW cA b q p t rd tx tl rf ++ (rowW cA q (dsRow tx tl ρ) ++ (spU cA p u.1 ++ (stW cA cB t (if dsB tx tl ρ = true then kpR r h else r) (if dsB tx tl ρ = true then kpS σ h ρ else if rdX tx tl = none then ups σ h ρ else σ) (nI (if dsB tx tl ρ = true then kpH h else h)) ++ (rdZ rd u.2))))) 0 0) 0 0 (gapW cA b q p t rd tx tl rf ++ (rowW cA q τ ++ (spU cA p w9 ++ (stW cA cB t r (ups σ h ρ) (nI (h)) ++ (rdZ rd z9))))) 37 ([some (.ref (b 0)), some (.int (-1)), some (.int (nI d)), some (.int (nI i))]) [] := by
  intro hX f
  induction f with
  | zero => intro i d τ w9 z9 _ _ h1 h2; omega
  | succ f ih =>
    intro i d τ w9 z9 hzb hzi hi hf hT hdi hN hR hlen
    have hzo : z9.2.2.2.2.1 ≤ 120 := by omega
    refine r_iload_n 3 dX4_does_37 rfl rfl ?_
    refine r_aload_n 0 dX4_does_38 rfl rfl ?_
    refine r_get 0 fk_X4_41 dX4_does_39 rfl rfl ?_
    refine r_ncmp_ge 153 (by omega) (by omega) dX4_does_42 (by decide) (fun hq1 => ?_) (fun hq1 => ?_)
    · refine r_aload_n 0 dX4_does_153 rfl rfl ?_
      refine r_get 0 fk_X4_26 dX4_does_154 rfl rfl ?_
      refine r_callV2 (As := []) (st := []) (fun _ => gapW cA b q p t rd tx tl rf ++ (rowW cA q τ ++ (spU cA p w9 ++ (stW cA cB t (kpR r h) (kpS σ h ρ) (nI (kpH h)) ++ (rdZ rd z9))))) [gapW cA b q p t rd tx tl rf, rowW cA q τ, spU cA p w9, stW cA cB t r (ups σ h ρ) (nI (h)), rdZ rd z9] [stW cA cB t r (ups σ h ρ) (nI (h))] [gapW cA b q p t rd tx tl rf, rowW cA q τ, spU cA p w9, rdZ rd z9] (fun _ => [gapW cA b q p t rd tx tl rf, rowW cA q τ, spU cA p w9, stW cA cB t (kpR r h) (kpS σ h ρ) (nI (kpH h)), rdZ rd z9]) (fun _ => [stW cA cB t (kpR r h) (kpS σ h ρ) (nI (kpH h))]) (c_X3_keepMark_k l D cA cB t r σ h hh ρ) kv_X3_keepMark ml_X4_164 dX4_does_157 rfl rfl rfl rfl (segOk [3, 0, 1, 2, 4] rfl rfl rfl rfl) (fun _ => segOk [3, 0, 1, 2, 4] rfl rfl rfl rfl) rfl (Nat.le_of_ble_eq_true rfl) (fun v u h => ?_)
      subst h
      refine r_st (st' := []) rfl ?_
      refine r_iload_n 2 dX4_does_160 rfl rfl ?_
      exact r_iret (((w9.1, w9.2.1, w9.2.2.1, w9.2.2.2.1, w9.2.2.2.2), z9)) dX4_does_161 (⟨by have he : (cR tx (tl - i) i z9).2 = [] := (by rw [show i = tl by omega, cR_e]); rw [he] at hR hlen; have hr : runL (rdT tx tl).2 ρ 0 = (τ, none) := hR.symm; have hd : d = (rdT tx tl).2.length := hlen; unfold dsAns; rw [hX]; dsimp only; rw [hr, hd], hzb⟩) (by have he : (cR tx (tl - i) i z9).2 = [] := (by rw [show i = tl by omega, cR_e]); rw [he] at hR hlen; have hr : runL (rdT tx tl).2 ρ 0 = (τ, none) := hR.symm; have hd : d = (rdT tx tl).2.length := hlen; have hb : dsB tx tl ρ = true := (by unfold dsB; rw [hX]; dsimp only; rw [hr]); unfold dsRow; rw [if_pos hb, if_pos hb, if_pos hb, if_pos hb, hr])
    · refine r_iload_n 3 dX4_does_45 rfl rfl ?_
      refine r_aload_n 0 dX4_does_46 rfl rfl ?_
      refine r_get 0 fk_X4_37 dX4_does_47 rfl rfl ?_
      refine r_alen 1 0 dX4_does_50 rfl rfl ?_
      refine r_top (y := nI 120) rfl ?_
      refine r_ncmp_ge 153 (by omega) (by omega) dX4_does_51 (by decide) (fun hq2 => ?_) (fun hq2 => ?_)
      · omega
      · refine r_aload_n 0 dX4_does_54 rfl rfl ?_
        refine r_get 0 fk_X4_33 dX4_does_55 rfl rfl ?_
        refine r_aload_n 0 dX4_does_58 rfl rfl ?_
        refine r_get 0 fk_X4_37 dX4_does_59 rfl rfl ?_
        refine r_iload_n 3 dX4_does_62 rfl rfl ?_
        refine r_iald 1 (i) dX4_does_63 rfl rfl rfl (by omega) (Nat.le_of_ble_eq_true rfl) ?_
        refine r_callV2 (As := [.int (tx i)]) (st := []) (fun _ => gapW cA b q p t rd tx tl rf ++ (rowW cA q τ ++ (spU cA p w9 ++ (stW cA cB t r (ups σ h ρ) (nI (h)) ++ (rdZ rd ((tkS z9 (tx i)).2)))))) [gapW cA b q p t rd tx tl rf, rowW cA q τ, spU cA p w9, stW cA cB t r (ups σ h ρ) (nI (h)), rdZ rd z9] [rdZ rd z9] [gapW cA b q p t rd tx tl rf, rowW cA q τ, spU cA p w9, stW cA cB t r (ups σ h ρ) (nI (h))] (fun _ => [gapW cA b q p t rd tx tl rf, rowW cA q τ, spU cA p w9, stW cA cB t r (ups σ h ρ) (nI (h)), rdZ rd ((tkS z9 (tx i)).2)]) (fun _ => [rdZ rd ((tkS z9 (tx i)).2)]) (c_X0_takeS l D cA cB rd z9 hzb hzo (tx i)) kv_X0_take ml_X4_142 dX4_does_64 rfl rfl rfl rfl (segOk [4, 0, 1, 2, 3] rfl rfl rfl rfl) (fun _ => segOk [4, 0, 1, 2, 3] rfl rfl rfl rfl) rfl (Nat.le_of_ble_eq_true rfl) (fun v u h => ?_)
        subst h
        refine r_st (st' := [.int ((tkS z9 (tx i)).1)]) rfl ?_
        refine r_iconst (nI 2) dX4_does_67 (by decide +kernel) ?_
        refine r_icmp_eq 74 dX4_does_68 (by decide) (fun hq3 => ?_) (fun hq3 => ?_)
        · have h2 : (tkS z9 (tx i)).1 = 2 := hq3
          have hnx := tk_rb (tx i) hzb
          have hst := cR_s2 hq1 h2
          rw [hst] at hN hR hlen
          have hNK := hnx.2.2 h2
          refine r_aload_n 0 dX4_does_74 rfl rfl ?_
          refine r_aload_n 0 dX4_does_75 rfl rfl ?_
          refine r_get 0 fk_X4_33 dX4_does_76 rfl rfl ?_
          refine r_get 51 fk_X4_145 dX4_does_79 rfl rfl ?_
          refine r_aload_n 0 dX4_does_82 rfl rfl ?_
          refine r_get 0 fk_X4_33 dX4_does_83 rfl rfl ?_
          refine r_get 51 fk_X4_148 dX4_does_86 rfl rfl ?_
          refine r_aload_n 0 dX4_does_89 rfl rfl ?_
          refine r_get 0 fk_X4_33 dX4_does_90 rfl rfl ?_
          refine r_get 51 fk_X4_151 dX4_does_93 rfl rfl ?_
          refine r_callV2 (As := [.int (((tkS z9 (tx i)).2).1), .int (((tkS z9 (tx i)).2).2.1), .int (((tkS z9 (tx i)).2).2.2.1)]) (st := []) (fun _ => gapW cA b q p t rd tx tl rf ++ (rowW cA q τ ++ (spU cA p w9 ++ (stW cA cB t r (ups σ h ρ) (nI (h)) ++ (rdZ rd ((tkS z9 (tx i)).2)))))) [gapW cA b q p t rd tx tl rf, rowW cA q τ, spU cA p w9, stW cA cB t r (ups σ h ρ) (nI (h)), rdZ rd ((tkS z9 (tx i)).2)] [gapW cA b q p t rd tx tl rf, rowW cA q τ] [spU cA p w9, stW cA cB t r (ups σ h ρ) (nI (h)), rdZ rd ((tkS z9 (tx i)).2)] (fun _ => [gapW cA b q p t rd tx tl rf, rowW cA q τ, spU cA p w9, stW cA cB t r (ups σ h ρ) (nI (h)), rdZ rd ((tkS z9 (tx i)).2)]) (fun _ => [gapW cA b q p t rd tx tl rf, rowW cA q τ]) (c_X4_refusalOf l D cA cB b q p t rd tx tl rf τ hT _ _ _ hNK) kv_X4_refusalOf ml_X4_154 dX4_does_96 rfl rfl rfl rfl (segOk [0, 1, 2, 3, 4] rfl rfl rfl rfl) (fun _ => segOk [0, 1, 2, 3, 4] rfl rfl rfl rfl) rfl (Nat.le_of_ble_eq_true rfl) (fun v u h => ?_)
          subst h
          refine r_st (st' := [.int (oRf τ (ordS (tkS z9 (tx i)).2))]) rfl ?_
          refine r_if_eq 119 dX4_does_99 (by decide) (fun hq4 => ?_) (fun hq4 => ?_)
          · refine r_aload_n 0 dX4_does_119 rfl rfl ?_
            refine r_aload_n 0 dX4_does_120 rfl rfl ?_
            refine r_get 0 fk_X4_33 dX4_does_121 rfl rfl ?_
            refine r_get 51 fk_X4_145 dX4_does_124 rfl rfl ?_
            refine r_aload_n 0 dX4_does_127 rfl rfl ?_
            refine r_get 0 fk_X4_33 dX4_does_128 rfl rfl ?_
            refine r_get 51 fk_X4_148 dX4_does_131 rfl rfl ?_
            refine r_aload_n 0 dX4_does_134 rfl rfl ?_
            refine r_get 0 fk_X4_33 dX4_does_135 rfl rfl ?_
            refine r_get 51 fk_X4_151 dX4_does_138 rfl rfl ?_
            refine r_callV2 (As := [.int (((tkS z9 (tx i)).2).1), .int (((tkS z9 (tx i)).2).2.1), .int (((tkS z9 (tx i)).2).2.2.1)]) (st := []) (fun u5 => gapW cA b q p t rd tx tl rf ++ (rowW cA q (oRow τ (ordS (tkS z9 (tx i)).2)) ++ (spU cA p u5 ++ (stW cA cB t r (ups σ h ρ) (nI (h)) ++ (rdZ rd ((tkS z9 (tx i)).2)))))) [gapW cA b q p t rd tx tl rf, rowW cA q τ, spU cA p w9, stW cA cB t r (ups σ h ρ) (nI (h)), rdZ rd ((tkS z9 (tx i)).2)] [gapW cA b q p t rd tx tl rf, rowW cA q τ, spU cA p w9] [stW cA cB t r (ups σ h ρ) (nI (h)), rdZ rd ((tkS z9 (tx i)).2)] (fun u5 => [gapW cA b q p t rd tx tl rf, rowW cA q (oRow τ (ordS (tkS z9 (tx i)).2)), spU cA p u5, stW cA cB t r (ups σ h ρ) (nI (h)), rdZ rd ((tkS z9 (tx i)).2)]) (fun u5 => [gapW cA b q p t rd tx tl rf, rowW cA q (oRow τ (ordS (tkS z9 (tx i)).2)), spU cA p u5]) (c_X4_carryOut l D cA cB b q p t rd tx tl rf τ hT w9 _ _ _ hNK hq4) kv_X4_carryOut ml_X4_160 dX4_does_141 rfl rfl rfl rfl (segOk [0, 1, 2, 3, 4] rfl rfl rfl rfl) (fun _ => segOk [0, 1, 2, 3, 4] rfl rfl rfl rfl) rfl (Nat.le_of_ble_eq_true rfl) (fun v u5 h => ?_)
            subst h
            refine r_st (st' := []) rfl ?_
            refine r_iinc (v := nI (d + 1)) ([some (.ref (b 0)), some (.int (-1)), some (.int (nI (d + 1))), some (.int (nI i))]) dX4_does_144 rfl (nI_1 _) (Nat.le_of_ble_eq_true rfl) rfl rfl ?_
            refine r_iinc (v := nI (i + 1)) ([some (.ref (b 0)), some (.int (-1)), some (.int (nI (d + 1))), some (.int (nI (i + 1)))]) dX4_does_147 rfl (nI_1 _) (Nat.le_of_ble_eq_true rfl) rfl rfl ?_
            refine r_goto 37 dX4_does_150 (by decide) ?_
            exact ih (i + 1) (d + 1) _ _ _ hnx.1 (by omega) (by omega) (by omega) (oRow_iv hT _) (by omega) hN (by rw [← hR]; exact (if_pos hq4).symm) (by rw [← hlen, List.length_cons]; omega)
          · refine r_aload_n 0 dX4_does_102 rfl rfl ?_
            refine r_get 0 fk_X4_26 dX4_does_103 rfl rfl ?_
            refine r_aload_n 0 dX4_does_106 rfl rfl ?_
            refine r_get 0 fk_X4_10 dX4_does_107 rfl rfl ?_
            refine r_callV2 (As := [.ref (q 0)]) (st := []) (fun _ => gapW cA b q p t rd tx tl rf ++ (rowW cA q (ups σ h ρ h) ++ (spU cA p w9 ++ (stW cA cB t r (ups σ h ρ) (nI (h)) ++ (rdZ rd ((tkS z9 (tx i)).2)))))) [gapW cA b q p t rd tx tl rf, rowW cA q τ, spU cA p w9, stW cA cB t r (ups σ h ρ) (nI (h)), rdZ rd ((tkS z9 (tx i)).2)] [stW cA cB t r (ups σ h ρ) (nI (h)), rowW cA q τ] [gapW cA b q p t rd tx tl rf, spU cA p w9, rdZ rd ((tkS z9 (tx i)).2)] (fun _ => [gapW cA b q p t rd tx tl rf, rowW cA q (ups σ h ρ h), spU cA p w9, stW cA cB t r (ups σ h ρ) (nI (h)), rdZ rd ((tkS z9 (tx i)).2)]) (fun _ => [stW cA cB t r (ups σ h ρ) (nI (h)), rowW cA q (ups σ h ρ h)]) (c_X3_returnToMark l D cA cB t r (ups σ h ρ) h hh q τ) kv_X3_returnToMark ml_X4_157 dX4_does_110 rfl rfl rfl rfl (segOk [3, 1, 0, 2, 4] rfl rfl rfl rfl) (fun _ => segOk [3, 1, 0, 2, 4] rfl rfl rfl rfl) rfl (Nat.le_of_ble_eq_true rfl) (fun v u h => ?_)
            subst h
            refine r_st (st' := []) rfl ?_
            refine r_sipush (-1000) dX4_does_113 (by decide +kernel) ?_
            refine r_iload_n 2 dX4_does_116 rfl rfl ?_
            refine r_isub dX4_does_117 ?_
            exact r_iret (((w9.1, w9.2.1, w9.2.2.1, w9.2.2.2.1, w9.2.2.2.2), (tkS z9 (tx i)).2)) dX4_does_118 (⟨by have hr : (runL (rdT tx tl).2 ρ 0).2 = some d := (by rw [← hR]; unfold runL; rw [if_neg hq4]); unfold dsAns; rw [hX]; dsimp only; rw [hr], hnx.1⟩) (by have hr : (runL (rdT tx tl).2 ρ 0).2 = some d := (by rw [← hR]; unfold runL; rw [if_neg hq4]); have hb : ¬ dsB tx tl ρ = true := (by unfold dsB; rw [hX]; dsimp only; rw [hr]; exact Bool.noConfusion); unfold dsRow; rw [if_neg hb, if_neg hb, if_neg hb, if_neg hb, if_pos hX, ups_s])
        · refine r_goto 147 dX4_does_71 (by decide) ?_
          refine r_iinc (v := nI (i + 1)) ([some (.ref (b 0)), some (.int (-1)), some (.int (nI d)), some (.int (nI (i + 1)))]) dX4_does_147 rfl (nI_1 _) (Nat.le_of_ble_eq_true rfl) rfl rfl ?_
          refine r_goto 37 dX4_does_150 (by decide) ?_
          have hnx := tk_rb (tx i) hzb
          have hst := cR_s1 hq1 (cR_n0 hq1 hN) hq3
          rw [hst] at hN hR hlen
          exact ih (i + 1) d τ w9 _ hnx.1 (by omega) (by omega) (by omega) hT (by omega) hN hR hlen

set_option maxRecDepth 100000 in
set_option maxHeartbeats 4000000 in
theorem c_X4_does (l : Launch) (D : va_G) (cA cB : ClassId) (b q p t : Nat → Nat) (rd : Nat) (tx : Nat → Int32) (tl : Nat) (rf : Nat → Int32) (htl : tl ≤ 120) (ρ : Nat → Int32) (hI : IvR ρ) (u0 : Sp5) (r : Nat → Nat → Nat) (σ : Nat → Nat → Int32) (h : Nat) (hh : h ≤ 5) (z : RS) (hz : RB z)  : Mt l D (tyS cA cB) yX4_does cX4_does 4 (some .int) ({ frames := 6, cells := 0, slots := 0, locals := 149 } : Room) [.ref (b 0)] (gapW cA b q p t rd tx tl rf ++ (rowW cA q ρ ++ (spU cA p u0 ++ (stW cA cB t r σ (nI (h)) ++ (rdZ rd z))))) (Sp5 × RS) (fun w u => w = some (.int (dsAns tx tl ρ)) ∧ RB u.2) (fun u => gapW cA b q p t rd tx tl rf ++ (rowW cA q (dsRow tx tl ρ) ++ (spU cA p u.1 ++ (stW cA cB t (if dsB tx tl ρ = true then kpR r h else r) (if dsB tx tl ρ = true then kpS σ h ρ else if rdX tx tl = none then ups σ h ρ else σ) (nI (if dsB tx tl ρ = true then kpH h else h)) ++ (rdZ rd u.2))))) 0 0 := by
  refine mt_in RX4 ([some (.ref (b 0)), none, none, none]) rfl (by decide +kernel) rfl (Nat.le_of_ble_eq_true rfl) rfl rfl (fun X sz => ?_)
  refine r_aload_n 0 dX4_does_0 rfl rfl ?_
  refine r_callV2 (As := []) (st := []) (fun u1 => gapW cA b q p t rd tx tl rf ++ (rowW cA q ρ ++ (spU cA p u0 ++ (stW cA cB t r σ (nI (h)) ++ (rdZ rd u1))))) [gapW cA b q p t rd tx tl rf, rowW cA q ρ, spU cA p u0, stW cA cB t r σ (nI (h)), rdZ rd z] [gapW cA b q p t rd tx tl rf, rdZ rd z] [rowW cA q ρ, spU cA p u0, stW cA cB t r σ (nI (h))] (fun u1 => [gapW cA b q p t rd tx tl rf, rowW cA q ρ, spU cA p u0, stW cA cB t r σ (nI (h)), rdZ rd u1]) (fun u1 => [gapW cA b q p t rd tx tl rf, rdZ rd u1]) (c_X4_faultOfText l D cA cB b q p t rd tx tl rf htl z hz) kv_X4_faultOfText ml_X4_133 dX4_does_1 rfl rfl rfl rfl (segOk [0, 4, 1, 2, 3] rfl rfl rfl rfl) (fun _ => segOk [0, 4, 1, 2, 3] rfl rfl rfl rfl) rfl (Nat.le_of_ble_eq_true rfl) (fun v u1 h => ?_)
  obtain ⟨rfl, hzb1⟩ := h
  refine r_st (st' := [.int (oI (cR tx tl 0 (bgn z)).1)]) rfl ?_
  have hcr := cR_rd tx htl z.1 z.2.1 z.2.2.1 z.2.2.2.2.2.1 z.2.2.2.2.2.2
  rcases opt_cases (rdX tx tl) with hX | ⟨x, hX⟩
  · refine r_top (y := -1) (by rw [hcr.1, hX]; rfl) ?_
    refine r_istore_n 1 ([some (.ref (b 0)), some (.int (-1)), none, none]) dX4_does_4 rfl (Nat.le_of_ble_eq_true rfl) rfl rfl ?_
    refine r_iload_n 1 dX4_does_5 rfl rfl ?_
    refine r_iconst (-1) dX4_does_6 (by decide +kernel) ?_
    refine r_icmp_eq 15 dX4_does_7 (by decide) (fun hq2 => ?_) (fun hq2 => ?_)
    · refine r_aload_n 0 dX4_does_15 rfl rfl ?_
      refine r_get 0 fk_X4_26 dX4_does_16 rfl rfl ?_
      refine r_aload_n 0 dX4_does_19 rfl rfl ?_
      refine r_get 0 fk_X4_10 dX4_does_20 rfl rfl ?_
      refine r_callV2 (As := [.ref (q 0)]) (st := []) (fun _ => gapW cA b q p t rd tx tl rf ++ (rowW cA q ρ ++ (spU cA p u0 ++ (stW cA cB t r (ups σ h ρ) (nI (h)) ++ (rdZ rd u1))))) [gapW cA b q p t rd tx tl rf, rowW cA q ρ, spU cA p u0, stW cA cB t r σ (nI (h)), rdZ rd u1] [stW cA cB t r σ (nI (h)), rowW cA q ρ] [gapW cA b q p t rd tx tl rf, spU cA p u0, rdZ rd u1] (fun _ => [gapW cA b q p t rd tx tl rf, rowW cA q ρ, spU cA p u0, stW cA cB t r (ups σ h ρ) (nI (h)), rdZ rd u1]) (fun _ => [stW cA cB t r (ups σ h ρ) (nI (h)), rowW cA q ρ]) (c_X3_mark l D cA cB t r σ h hh q ρ) kv_X3_mark ml_X4_136 dX4_does_23 rfl rfl rfl rfl (segOk [3, 1, 0, 2, 4] rfl rfl rfl rfl) (fun _ => segOk [3, 1, 0, 2, 4] rfl rfl rfl rfl) rfl (Nat.le_of_ble_eq_true rfl) (fun v u h => ?_)
      subst h
      refine r_st (st' := []) rfl ?_
      refine r_iconst (nI 0) dX4_does_26 (by decide +kernel) ?_
      refine r_istore_n 2 ([some (.ref (b 0)), some (.int (-1)), some (.int (nI 0)), none]) dX4_does_27 rfl (Nat.le_of_ble_eq_true rfl) rfl rfl ?_
      refine r_aload_n 0 dX4_does_28 rfl rfl ?_
      refine r_get 0 fk_X4_33 dX4_does_29 rfl rfl ?_
      refine r_callV2 (As := []) (st := []) (fun _ => gapW cA b q p t rd tx tl rf ++ (rowW cA q ρ ++ (spU cA p u0 ++ (stW cA cB t r (ups σ h ρ) (nI (h)) ++ (rdZ rd (bgn u1)))))) [gapW cA b q p t rd tx tl rf, rowW cA q ρ, spU cA p u0, stW cA cB t r (ups σ h ρ) (nI (h)), rdZ rd u1] [rdZ rd u1] [gapW cA b q p t rd tx tl rf, rowW cA q ρ, spU cA p u0, stW cA cB t r (ups σ h ρ) (nI (h))] (fun _ => [gapW cA b q p t rd tx tl rf, rowW cA q ρ, spU cA p u0, stW cA cB t r (ups σ h ρ) (nI (h)), rdZ rd (bgn u1)]) (fun _ => [rdZ rd (bgn u1)]) (c_X0_beginS l D cA cB rd u1) kv_X0_begin ml_X4_139 dX4_does_32 rfl rfl rfl rfl (segOk [4, 0, 1, 2, 3] rfl rfl rfl rfl) (fun _ => segOk [4, 0, 1, 2, 3] rfl rfl rfl rfl) rfl (Nat.le_of_ble_eq_true rfl) (fun v u h => ?_)
      subst h
      refine r_st (st' := []) rfl ?_
      refine r_iconst (nI 0) dX4_does_35 (by decide +kernel) ?_
      refine r_istore_n 3 ([some (.ref (b 0)), some (.int (-1)), some (.int (nI 0)), some (.int (nI 0))]) dX4_does_36 rfl (Nat.le_of_ble_eq_true rfl) rfl rfl ?_
      have hc2 := cR_rd tx htl u1.1 u1.2.1 u1.2.2.1 u1.2.2.2.2.2.1 u1.2.2.2.2.2.2
      exact lp_X4_does l D cA cB b q p t rd tx tl rf htl ρ hI u0 r σ h hh z hz X sz hX (tl + 1) 0 0 ρ u0 (bgn u1) (bgn_rb hzb1) (Nat.zero_le _) (by omega) (by omega) hI (Nat.le_refl _) (by rw [Nat.sub_zero]; exact hc2.1.trans hX) (by rw [Nat.sub_zero, hc2.2 hX]) (by rw [Nat.sub_zero, hc2.2 hX]; omega)
    · exact absurd rfl hq2
  · have hxle := rdX_le hX
    refine r_top (y := nI x) (by rw [hcr.1, hX]; rfl) ?_
    refine r_istore_n 1 ([some (.ref (b 0)), some (.int (nI x)), none, none]) dX4_does_4 rfl (Nat.le_of_ble_eq_true rfl) rfl rfl ?_
    refine r_iload_n 1 dX4_does_5 rfl rfl ?_
    refine r_iconst (-1) dX4_does_6 (by decide +kernel) ?_
    refine r_icmp_eq 15 dX4_does_7 (by decide) (fun hq3 => ?_) (fun hq3 => ?_)
    · exact absurd hq3 (nI_ne_m1 (by omega))
    · refine r_bipush (-10) dX4_does_10 (by decide +kernel) ?_
      refine r_iload_n 1 dX4_does_12 rfl rfl ?_
      refine r_isub dX4_does_13 ?_
      exact r_iret (((u0.1, u0.2.1, u0.2.2.1, u0.2.2.2.1, u0.2.2.2.2), u1)) dX4_does_14 (⟨by unfold dsAns; rw [hX], hzb1⟩) (by have hb : ¬ dsB tx tl ρ = true := (by unfold dsB; rw [hX]; exact Bool.noConfusion); unfold dsRow; rw [if_neg hb, if_neg hb, if_neg hb, if_neg hb, if_neg (by rw [hX]; exact fun z => nomatch z)])

