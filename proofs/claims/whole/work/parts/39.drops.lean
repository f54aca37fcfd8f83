set_option maxRecDepth 100000 in
set_option maxHeartbeats 4000000 in
theorem lp_X4_dropKeys (l : Launch) (D : va_G) (cA cB : ClassId) (b q p t : Nat → Nat) (rd : Nat) (tx : Nat → Int32) (tl : Nat) (rf : Nat → Int32) (ρ : Nat → Int32) (n g : Nat) (hI : Inv ρ n g) (u0 : Sp5) (x y : Nat) (hxy : x ≤ y) (hy : y ≤ 999) (X : Cx) (sz : Nat) : ∀ (f i : Nat) (τ : Nat → Int32) (n2 g2 : Nat) (u1 : Sp5), Inv τ n2 g2 → blw τ (nI (y + 1)) n2 + i = blw ρ (nI (y + 1)) n → i ≤ blw ρ (nI (y + 1)) n - blw ρ (nI x) n → blw ρ (nI (y + 1)) n - blw ρ (nI x) n < i + f → dcF (blw ρ (nI x) n) (blw ρ (nI (y + 1)) n - blw ρ (nI x) n - i) τ = dcF (blw ρ (nI x) n) (blw ρ (nI (y + 1)) n - blw ρ (nI x) n) ρ → G l X ({ frames := 4, cells := 0, slots := 0, locals := 101 } : Room) cX4_dropKeys RX4 (some .int) D (tyS cA cB) (va_A (gapW cA b q p t rd tx tl rf ++ (rowW cA q ρ ++ (spU cA p u0))) sz) (QX X D (tyS cA cB) (gapW cA b q p t rd tx tl rf ++ (rowW cA q ρ ++ (spU cA p u0))) sz Sp5 (fun w _ => w = some (.int (nI (drN (y + 1 - x) x ρ)))) (fun u => gapW cA b q p t rd tx tl rf ++ (rowW cA q (drF (y + 1 - x) x ρ) ++ (spU cA p u))) 0 0) 0 0 (gapW cA b q p t rd tx tl rf ++ (rowW cA q τ ++ (spU cA p u1))) 26 ([some (.ref (b 0)), some (.int (nI x)), some (.int (nI y)), some (.int (nI (blw ρ (nI x) n))), some (.int (nI (blw ρ (nI (y + 1)) n - blw ρ (nI x) n))), some (.int (nI i))]) [] := by
  intro f
  have hle : blw ρ (nI x) n ≤ blw ρ (nI (y + 1)) n := blw_mono ((nI_le_iff (by omega) (by omega)).mpr (by omega)) n
  have hy1 := blw_le ρ (nI x) n
  have hy2 := blw_le ρ (nI (y + 1)) n
  have hn3 := hI.2.1
  obtain ⟨de1, de2, -⟩ := drop_eq (y + 1 - x) x (blw ρ (nI x) n) ρ n g hI (by omega) rfl
  rw [show x + (y + 1 - x) = y + 1 by omega] at de1 de2
  induction f with
  | zero => intro i τ n2 g2 u1 _ _ h1 h2; omega
  | succ f ih =>
    intro i τ n2 g2 u1 hT hbl hi hf hdc
    refine r_iload dX4_dropKeys_26 rfl ?_
    refine r_iload dX4_dropKeys_28 rfl ?_
    refine r_ncmp_ge 59 (by omega) (by omega) dX4_dropKeys_30 (by decide) (fun hq1 => ?_) (fun hq1 => ?_)
    · refine r_iload dX4_dropKeys_59 rfl ?_
      exact r_iret (u1) dX4_dropKeys_61 (by rw [de2]) (by rw [de1, ← hdc, show blw ρ (nI (y + 1)) n - blw ρ (nI x) n - i = 0 by omega]; rfl)
    · obtain ⟨c, hc, hck, hcr, e1⟩ := nth_ex (ρ := τ) (n := n2) (i := blw ρ (nI x) n) (x := nI (y + 1)) (by omega)
      have h3 := hT.2.1
      have hg8 := hT.2.2.2.1
      refine r_aload_n 0 dX4_dropKeys_33 rfl rfl ?_
      refine r_get 0 fk_X4_19 dX4_dropKeys_34 rfl rfl ?_
      refine r_aload_n 0 dX4_dropKeys_37 rfl rfl ?_
      refine r_get 0 fk_X4_10 dX4_dropKeys_38 rfl rfl ?_
      refine r_aload_n 0 dX4_dropKeys_41 rfl rfl ?_
      refine r_get 0 fk_X4_10 dX4_dropKeys_42 rfl rfl ?_
      refine r_iload_n 3 dX4_dropKeys_45 rfl rfl ?_
      refine r_callV2 (As := [.int (nI (blw ρ (nI x) n))]) (st := [.ref (q 0), .ref (p 0)]) (fun _ => gapW cA b q p t rd tx tl rf ++ (rowW cA q τ ++ (spU cA p u1))) [gapW cA b q p t rd tx tl rf, rowW cA q τ, spU cA p u1] [rowW cA q τ] [gapW cA b q p t rd tx tl rf, spU cA p u1] (fun _ => [gapW cA b q p t rd tx tl rf, rowW cA q τ, spU cA p u1]) (fun _ => [rowW cA q τ]) (c_X1_cellNumber l D cA cB q τ n2 (hT.1) hT.2.1 (blw ρ (nI x) n) (by omega)) kv_X1_cellNumber ml_X4_201 dX4_dropKeys_46 rfl rfl rfl rfl (segOk [1, 0, 2] rfl rfl rfl rfl) (fun _ => segOk [1, 0, 2] rfl rfl rfl rfl) rfl (Nat.le_of_ble_eq_true rfl) (fun v u h => ?_)
      subst h
      refine r_st (st' := [.int (nthF τ (blw ρ (nI x) n) n2), .ref (q 0), .ref (p 0)]) rfl ?_
      refine r_top e1 ?_
      refine r_callV2 (As := [.ref (q 0), .int (nI c)]) (st := []) (fun u2 => gapW cA b q p t rd tx tl rf ++ (rowW cA q (goR τ n2 g2 c) ++ (spU cA p u2))) [gapW cA b q p t rd tx tl rf, rowW cA q τ, spU cA p u1] [spU cA p u1, rowW cA q τ] [gapW cA b q p t rd tx tl rf] (fun u2 => [gapW cA b q p t rd tx tl rf, rowW cA q (goR τ n2 g2 c), spU cA p u2]) (fun u2 => [spU cA p u2, rowW cA q (goR τ n2 g2 c)]) (c_X2_go l D cA cB p q τ u1.1 u1.2.1 u1.2.2.1 u1.2.2.2.1 u1.2.2.2.2 g2 hT.2.2.1 hT.2.2.2.1 n2 hT.1 hT.2.1 c hc) kv_X2_go ml_X4_197 dX4_dropKeys_49 rfl rfl rfl rfl (segOk [2, 1, 0] rfl rfl rfl rfl) (fun _ => segOk [2, 1, 0] rfl rfl rfl rfl) rfl (Nat.le_of_ble_eq_true rfl) (fun v u2 h => ?_)
      subst h
      refine r_st (st' := [.int (τ (95 + c))]) rfl ?_
      refine r_pop rfl dX4_dropKeys_52 ?_
      refine r_iinc (v := nI (i + 1)) ([some (.ref (b 0)), some (.int (nI x)), some (.int (nI y)), some (.int (nI (blw ρ (nI x) n))), some (.int (nI (blw ρ (nI (y + 1)) n - blw ρ (nI x) n))), some (.int (nI (i + 1)))]) dX4_dropKeys_53 rfl (nI_1 _) (Nat.le_of_ble_eq_true rfl) rfl rfl ?_
      refine r_goto 26 dX4_dropKeys_56 (by decide) ?_
      obtain ⟨n3, g3, hT3, hb3⟩ := goR_all hT hc hck
      have hone := hb3 (nI (y + 1))
      rw [one_t ((rank_iff hT.2.2.2.2.1 hc hck).mpr (by omega))] at hone
      exact ih (i + 1) _ n3 g3 _ hT3 (by omega) (by omega) (by omega) (by rw [← hdc, show blw ρ (nI (y + 1)) n - blw ρ (nI x) n - i = (blw ρ (nI (y + 1)) n - blw ρ (nI x) n - (i + 1)) + 1 by omega]; show dcF _ _ _ = dcF _ _ (goQ τ (nthF τ _ (nOf τ)).toNatClampNeg); rw [hT.n, e1, nI_clamp (by omega)]; unfold goQ; rw [hT.n, hT.g])

set_option maxRecDepth 100000 in
set_option maxHeartbeats 4000000 in
theorem c_X4_dropKeys (l : Launch) (D : va_G) (cA cB : ClassId) (b q p t : Nat → Nat) (rd : Nat) (tx : Nat → Int32) (tl : Nat) (rf : Nat → Int32) (ρ : Nat → Int32) (n g : Nat) (hI : Inv ρ n g) (u0 : Sp5) (x y : Nat) (hxy : x ≤ y) (hy : y ≤ 999) : Mt l D (tyS cA cB) yX4_dropKeys cX4_dropKeys 6 (some .int) ({ frames := 4, cells := 0, slots := 0, locals := 101 } : Room) [.ref (b 0), .int (nI x), .int (nI y)] (gapW cA b q p t rd tx tl rf ++ (rowW cA q ρ ++ (spU cA p u0))) Sp5 (fun w _ => w = some (.int (nI (drN (y + 1 - x) x ρ)))) (fun u => gapW cA b q p t rd tx tl rf ++ (rowW cA q (drF (y + 1 - x) x ρ) ++ (spU cA p u))) 0 0 := by
  refine mt_in RX4 ([some (.ref (b 0)), some (.int (nI x)), some (.int (nI y)), none, none, none]) rfl (by decide +kernel) rfl (Nat.le_of_ble_eq_true rfl) rfl rfl (fun X sz => ?_)
  have hn3 := hI.2.1
  have hle : blw ρ (nI x) n ≤ blw ρ (nI (y + 1)) n := blw_mono ((nI_le_iff (by omega) (by omega)).mpr (by omega)) n
  have hy1 := blw_le ρ (nI x) n
  have hy2 := blw_le ρ (nI (y + 1)) n
  refine r_aload_n 0 dX4_dropKeys_0 rfl rfl ?_
  refine r_get 0 fk_X4_10 dX4_dropKeys_1 rfl rfl ?_
  refine r_iload_n 1 dX4_dropKeys_4 rfl rfl ?_
  refine r_callV2 (As := [.int (nI x)]) (st := []) (fun _ => gapW cA b q p t rd tx tl rf ++ (rowW cA q ρ ++ (spU cA p u0))) [gapW cA b q p t rd tx tl rf, rowW cA q ρ, spU cA p u0] [rowW cA q ρ] [gapW cA b q p t rd tx tl rf, spU cA p u0] (fun _ => [gapW cA b q p t rd tx tl rf, rowW cA q ρ, spU cA p u0]) (fun _ => [rowW cA q ρ]) (c_X1_keysBelow l D cA cB q ρ n (hI.1) hI.2.1 (nI (x))) kv_X1_keysBelow ml_X4_93 dX4_dropKeys_5 rfl rfl rfl rfl (segOk [1, 0, 2] rfl rfl rfl rfl) (fun _ => segOk [1, 0, 2] rfl rfl rfl rfl) rfl (Nat.le_of_ble_eq_true rfl) (fun v u h => ?_)
  subst h
  refine r_st (st' := [.int (nI (blw ρ (nI (x)) n))]) rfl ?_
  refine r_istore_n 3 ([some (.ref (b 0)), some (.int (nI x)), some (.int (nI y)), some (.int (nI (blw ρ (nI (x)) n))), none, none]) dX4_dropKeys_8 rfl (Nat.le_of_ble_eq_true rfl) rfl rfl ?_
  refine r_aload_n 0 dX4_dropKeys_9 rfl rfl ?_
  refine r_get 0 fk_X4_10 dX4_dropKeys_10 rfl rfl ?_
  refine r_iload_n 2 dX4_dropKeys_13 rfl rfl ?_
  refine r_iconst (nI 1) dX4_dropKeys_14 (by decide +kernel) ?_
  refine r_niadd dX4_dropKeys_15 ?_
  refine r_callV2 (As := [.int (nI (y + 1))]) (st := []) (fun _ => gapW cA b q p t rd tx tl rf ++ (rowW cA q ρ ++ (spU cA p u0))) [gapW cA b q p t rd tx tl rf, rowW cA q ρ, spU cA p u0] [rowW cA q ρ] [gapW cA b q p t rd tx tl rf, spU cA p u0] (fun _ => [gapW cA b q p t rd tx tl rf, rowW cA q ρ, spU cA p u0]) (fun _ => [rowW cA q ρ]) (c_X1_keysBelow l D cA cB q ρ n (hI.1) hI.2.1 (nI (y + 1))) kv_X1_keysBelow ml_X4_93 dX4_dropKeys_16 rfl rfl rfl rfl (segOk [1, 0, 2] rfl rfl rfl rfl) (fun _ => segOk [1, 0, 2] rfl rfl rfl rfl) rfl (Nat.le_of_ble_eq_true rfl) (fun v u h => ?_)
  subst h
  refine r_st (st' := [.int (nI (blw ρ (nI (y + 1)) n))]) rfl ?_
  refine r_iload_n 3 dX4_dropKeys_19 rfl rfl ?_
  refine r_nisub (by omega) dX4_dropKeys_20 ?_
  refine r_istore ([some (.ref (b 0)), some (.int (nI x)), some (.int (nI y)), some (.int (nI (blw ρ (nI (x)) n))), some (.int (nI ((blw ρ (nI (y + 1)) n) - (blw ρ (nI (x)) n)))), none]) dX4_dropKeys_21 (Nat.le_of_ble_eq_true rfl) rfl rfl ?_
  refine r_iconst (nI 0) dX4_dropKeys_23 (by decide +kernel) ?_
  refine r_istore ([some (.ref (b 0)), some (.int (nI x)), some (.int (nI y)), some (.int (nI (blw ρ (nI (x)) n))), some (.int (nI ((blw ρ (nI (y + 1)) n) - (blw ρ (nI (x)) n)))), some (.int (nI 0))]) dX4_dropKeys_24 (Nat.le_of_ble_eq_true rfl) rfl rfl ?_
  exact lp_X4_dropKeys l D cA cB b q p t rd tx tl rf ρ n g hI u0 x y hxy hy X sz (blw ρ (nI (y + 1)) n - blw ρ (nI x) n + 1) 0 ρ n g u0 hI (by omega) (by omega) (by omega) rfl

set_option maxRecDepth 100000 in
set_option maxHeartbeats 4000000 in
theorem c_X4_carryOut_d (l : Launch) (D : va_G) (cA cB : ClassId) (b q p t : Nat → Nat) (rd : Nat) (tx : Nat → Int32) (tl : Nat) (rf : Nat → Int32) (ρ : Nat → Int32) (n g : Nat) (hI : Inv ρ n g) (u0 : Sp5) (x y : Nat) (hxy : x ≤ y) (hy : y ≤ 999) : Mt l D (tyS cA cB) yX4_carryOut cX4_carryOut 4 none ({ frames := 5, cells := 0, slots := 0, locals := 126 } : Room) [.ref (b 0), .int (nI 100), .int (nI x), .int (nI y)] (gapW cA b q p t rd tx tl rf ++ (rowW cA q ρ ++ (spU cA p u0))) Sp5 (fun w _ => w = none) (fun u => gapW cA b q p t rd tx tl rf ++ (rowW cA q (drF (y + 1 - x) x ρ) ++ (spU cA p u))) 0 0 := by
  refine mt_in RX4 ([some (.ref (b 0)), some (.int (nI 100)), some (.int (nI x)), some (.int (nI y))]) rfl (by decide +kernel) rfl (Nat.le_of_ble_eq_true rfl) rfl rfl (fun X sz => ?_)
  refine r_iload_n 1 dX4_carryOut_0 rfl rfl ?_
  refine r_lookup (off := 54) 55 dX4_carryOut_1 (by decide +kernel) (by decide +kernel) (by decide) ?_
  refine r_aload_n 0 dX4_carryOut_55 rfl rfl ?_
  refine r_iload_n 2 dX4_carryOut_56 rfl rfl ?_
  refine r_iload_n 3 dX4_carryOut_57 rfl rfl ?_
  refine r_callV2 (As := [.int (nI x), .int (nI y)]) (st := []) (fun u1 => gapW cA b q p t rd tx tl rf ++ (rowW cA q (drF (y + 1 - x) x ρ) ++ (spU cA p u1))) [gapW cA b q p t rd tx tl rf, rowW cA q ρ, spU cA p u0] [gapW cA b q p t rd tx tl rf, rowW cA q ρ, spU cA p u0] [] (fun u1 => [gapW cA b q p t rd tx tl rf, rowW cA q (drF (y + 1 - x) x ρ), spU cA p u1]) (fun u1 => [gapW cA b q p t rd tx tl rf, rowW cA q (drF (y + 1 - x) x ρ), spU cA p u1]) (c_X4_dropKeys l D cA cB b q p t rd tx tl rf ρ n g hI u0 x y hxy hy) kv_X4_dropKeys ml_X4_60 dX4_carryOut_58 rfl rfl rfl rfl (segOk [0, 1, 2] rfl rfl rfl rfl) (fun _ => segOk [0, 1, 2] rfl rfl rfl rfl) rfl (Nat.le_of_ble_eq_true rfl) (fun v u1 h => ?_)
  subst h
  refine r_st (st' := [.int (nI (drN (y + 1 - x) x ρ))]) rfl ?_
  refine r_pop rfl dX4_carryOut_61 ?_
  refine r_goto 71 dX4_carryOut_62 (by decide) ?_
  exact r_vret ((u1.1, u1.2.1, u1.2.2.1, u1.2.2.2.1, u1.2.2.2.2)) dX4_carryOut_71 (rfl) (rfl)

set_option maxRecDepth 100000 in
set_option maxHeartbeats 4000000 in
theorem c_X4_drops (l : Launch) (D : va_G) (cA cB : ClassId) (b q p t : Nat → Nat) (rd : Nat) (tx : Nat → Int32) (tl : Nat) (rf : Nat → Int32) (ρ : Nat → Int32) (n g : Nat) (hI : Inv ρ n g) (u0 : Sp5) (r : Nat → Nat → Nat) (σ : Nat → Nat → Int32) (h : Nat) (hh : h ≤ 5) (a c : Int32) : Mt l D (tyS cA cB) yX4_drops cX4_drops 4 (some .int) ({ frames := 6, cells := 0, slots := 0, locals := 135 } : Room) [.ref (b 0), .int (a), .int (c)] (gapW cA b q p t rd tx tl rf ++ (rowW cA q ρ ++ (spU cA p u0 ++ (stW cA cB t r σ (nI (h)))))) Sp5 (fun w _ => w = some (.int (dAns ρ a c))) (fun u => gapW cA b q p t rd tx tl (rfU (rfD a c) rf) ++ (rowW cA q (dRow ρ a c) ++ (spU cA p u ++ (stK cA cB t r σ h ρ (rfD a c))))) 0 0 := by
  refine mt_in RX4 ([some (.ref (b 0)), some (.int (a)), some (.int (c)), none]) rfl (by decide +kernel) rfl (Nat.le_of_ble_eq_true rfl) rfl rfl (fun X sz => ?_)
  refine r_aload_n 0 dX4_drops_0 rfl rfl ?_
  refine r_bipush (nI 100) dX4_drops_1 (by decide +kernel) ?_
  refine r_iload_n 1 dX4_drops_3 rfl rfl ?_
  refine r_iload_n 2 dX4_drops_4 rfl rfl ?_
  refine r_callV2 (As := [.int (nI 100), .int (a), .int (c)]) (st := []) (fun _ => gapW cA b q p t rd tx tl (rfU (rfD a c) rf) ++ (rowW cA q ρ ++ (spU cA p u0 ++ (stK cA cB t r σ h ρ (rfD a c))))) [gapW cA b q p t rd tx tl rf, rowW cA q ρ, spU cA p u0, stW cA cB t r σ (nI (h))] [gapW cA b q p t rd tx tl rf, rowW cA q ρ, stW cA cB t r σ (nI (h))] [spU cA p u0] (fun _ => [gapW cA b q p t rd tx tl (rfU (rfD a c) rf), rowW cA q ρ, spU cA p u0, stK cA cB t r σ h ρ (rfD a c)]) (fun _ => [gapW cA b q p t rd tx tl (rfU (rfD a c) rf), rowW cA q ρ, stK cA cB t r σ h ρ (rfD a c)]) (c_X4_admt_d l D cA cB b q p t rd tx tl rf ρ r σ h hh a c) kv_X4_admt ml_X4_48 dX4_drops_5 rfl rfl rfl rfl (segOk [0, 1, 3, 2] rfl rfl rfl rfl) (fun _ => segOk [0, 1, 3, 2] rfl rfl rfl rfl) rfl (Nat.le_of_ble_eq_true rfl) (fun v u h => ?_)
  subst h
  refine r_st (st' := [.int (rfD a c)]) rfl ?_
  refine r_istore_n 3 ([some (.ref (b 0)), some (.int (a)), some (.int (c)), some (.int (rfD a c))]) dX4_drops_8 rfl (Nat.le_of_ble_eq_true rfl) rfl rfl ?_
  rcases rfD_cases a c with e | e
  · obtain ⟨x, y, hxy, hy, ea, ec⟩ := rfD_ex e
    refine r_lv (lv' := [some (.ref (b 0)), some (.int (nI x)), some (.int (nI y)), some (.int (0))]) (by rw [e, ea, ec]) ?_
    refine r_iload_n 3 dX4_drops_9 rfl rfl ?_
    refine r_if_ne 22 dX4_drops_10 (by decide) (fun hq1 => ?_) (fun hq1 => ?_)
    · exact absurd rfl hq1
    · refine r_aload_n 0 dX4_drops_13 rfl rfl ?_
      refine r_iload_n 1 dX4_drops_14 rfl rfl ?_
      refine r_iload_n 2 dX4_drops_15 rfl rfl ?_
      refine r_callV2 (As := [.int (nI x), .int (nI y)]) (st := []) (fun u2 => gapW cA b q p t rd tx tl (rfU (rfD a c) rf) ++ (rowW cA q (drF (y + 1 - x) x ρ) ++ (spU cA p u2 ++ (stK cA cB t r σ h ρ (rfD a c))))) [gapW cA b q p t rd tx tl (rfU (rfD a c) rf), rowW cA q ρ, spU cA p u0, stK cA cB t r σ h ρ (rfD a c)] [gapW cA b q p t rd tx tl (rfU (rfD a c) rf), rowW cA q ρ, spU cA p u0] [stK cA cB t r σ h ρ (rfD a c)] (fun u2 => [gapW cA b q p t rd tx tl (rfU (rfD a c) rf), rowW cA q (drF (y + 1 - x) x ρ), spU cA p u2, stK cA cB t r σ h ρ (rfD a c)]) (fun u2 => [gapW cA b q p t rd tx tl (rfU (rfD a c) rf), rowW cA q (drF (y + 1 - x) x ρ), spU cA p u2]) (c_X4_dropKeys l D cA cB b q p t rd tx tl (rfU (rfD a c) rf) ρ n g hI u0 x y hxy hy) kv_X4_dropKeys ml_X4_60 dX4_drops_16 rfl rfl rfl rfl (segOk [0, 1, 2, 3] rfl rfl rfl rfl) (fun _ => segOk [0, 1, 2, 3] rfl rfl rfl rfl) rfl (Nat.le_of_ble_eq_true rfl) (fun v u2 h => ?_)
      subst h
      refine r_st (st' := [.int (nI (drN (y + 1 - x) x ρ))]) rfl ?_
      refine r_goto 23 dX4_drops_19 (by decide) ?_
      exact r_iret ((u2.1, u2.2.1, u2.2.2.1, u2.2.2.2.1, u2.2.2.2.2)) dX4_drops_23 (by unfold dAns; rw [if_pos e, ea, ec, nI_clamp (by omega), nI_clamp (by omega)]) (by unfold dRow; rw [if_pos e, ea, ec, nI_clamp (by omega), nI_clamp (by omega)])
  · refine r_lv (lv' := [some (.ref (b 0)), some (.int (a)), some (.int (c)), some (.int (-2))]) (by rw [e]) ?_
    refine r_iload_n 3 dX4_drops_9 rfl rfl ?_
    refine r_if_ne 22 dX4_drops_10 (by decide) (fun hq3 => ?_) (fun hq3 => ?_)
    · refine r_iload_n 3 dX4_drops_22 rfl rfl ?_
      exact r_iret ((u0.1, u0.2.1, u0.2.2.1, u0.2.2.2.1, u0.2.2.2.2)) dX4_drops_23 (by unfold dAns; rw [if_neg (by rw [e]; decide +kernel), e]) (by unfold dRow; rw [if_neg (by rw [e]; decide +kernel)])
    · exact absurd hq3 (by decide +kernel)

set_option maxRecDepth 100000 in
set_option maxHeartbeats 4000000 in
theorem lp_X5_dropOf (l : Launch) (D : va_G) (cA cB : ClassId) (m : Nat → Nat) (ρ P : Nat → Int32) (hs : Int32) (α rf K V C : Nat → Int32) (my cm : Int32) (tx : Nat → Int32) (tl sp : Int32) (od : Nat → Int32) (no ft : Int32) (n g : Nat) (hI : Inv ρ n g) (x y : Nat) (hxy : x ≤ y) (hy : y ≤ 999) (X : Cx) (sz : Nat) : ∀ (f k j : Nat) (τ : Nat → Int32) (n2 g2 : Nat) (u1 : Sp5), Inv τ n2 g2 → drF (y + 1 - k) k τ = drF (y + 1 - x) x ρ → j + drN (y + 1 - k) k τ = drN (y + 1 - x) x ρ → x ≤ k → k ≤ y + 1 → y + 1 < k + f → G l X ({ frames := 4, cells := 0, slots := 0, locals := 95 } : Room) cX5_dropOf RX5 (some .int) D (tyS cA cB) (va_A (mdW cA m ρ P hs α rf K V C my cm tx tl sp od no ft) sz) (QX X D (tyS cA cB) (mdW cA m ρ P hs α rf K V C my cm tx tl sp od no ft) sz Sp5 (fun w _ => w = some (.int (nI (drN (y + 1 - x) x ρ)))) (fun u => mdW cA m (drF (y + 1 - x) x ρ) P hs α rf u.1 u.2.1 u.2.2.1 u.2.2.2.1 u.2.2.2.2 tx tl sp od no ft) 0 0) 0 0 (mdW cA m τ P hs α rf u1.1 u1.2.1 u1.2.2.1 u1.2.2.2.1 u1.2.2.2.2 tx tl sp od no ft) 30 ([some (.ref (m 0)), some (.int (nI x)), some (.int (nI y)), some (.int (nI j)), some (.int (nI k)), none]) [] := by
  intro f
  have hle := drN_le hI hxy hy
  induction f with
  | zero => intro k j τ n2 g2 u1 _ _ _ _ h1 h2; omega
  | succ f ih =>
    intro k j τ n2 g2 u1 hT hF hN hk0 hk hf
    refine r_iload dX5_dropOf_30 rfl ?_
    refine r_iload_n 2 dX5_dropOf_32 rfl rfl ?_
    refine r_ncmp_gt 65 (by omega) (by omega) dX5_dropOf_33 (by decide) (fun hq1 => ?_) (fun hq1 => ?_)
    · refine r_iload_n 3 dX5_dropOf_65 rfl rfl ?_
      exact r_iret (u1) dX5_dropOf_66 (by rw [← hN, show y + 1 - k = 0 by omega]; rfl) (by rw [← hF, show y + 1 - k = 0 by omega]; rfl)
    · refine r_aload_n 0 dX5_dropOf_36 rfl rfl ?_
      refine r_iload dX5_dropOf_37 rfl ?_
      refine r_callV2 (As := [.int (nI k)]) (st := []) (fun _ => mdW cA m τ P hs α rf u1.1 u1.2.1 u1.2.2.1 u1.2.2.2.1 u1.2.2.2.2 tx tl sp od no ft) [mdW cA m τ P hs α rf u1.1 u1.2.1 u1.2.2.1 u1.2.2.2.1 u1.2.2.2.2 tx tl sp od no ft] [mdW cA m τ P hs α rf u1.1 u1.2.1 u1.2.2.1 u1.2.2.2.1 u1.2.2.2.2 tx tl sp od no ft] [] (fun _ => [mdW cA m τ P hs α rf u1.1 u1.2.1 u1.2.2.1 u1.2.2.2.1 u1.2.2.2.2 tx tl sp od no ft]) (fun _ => [mdW cA m τ P hs α rf u1.1 u1.2.1 u1.2.2.1 u1.2.2.2.1 u1.2.2.2.2 tx tl sp od no ft]) (c_X5_cellOf l D cA cB m τ P hs α rf u1.1 u1.2.1 u1.2.2.1 u1.2.2.2.1 u1.2.2.2.2 tx tl sp od no ft n2 (hT.1) hT.2.1 (nI (k))) kv_X5_cellOf ml_X5_91 dX5_dropOf_39 rfl rfl rfl rfl (segOk [0] rfl rfl rfl rfl) (fun _ => segOk [0] rfl rfl rfl rfl) rfl (Nat.le_of_ble_eq_true rfl) (fun v u h => ?_)
      subst h
      refine r_st (st' := [.int (lastF τ (nI (k)) n2)]) rfl ?_
      refine r_istore ([some (.ref (m 0)), some (.int (nI x)), some (.int (nI y)), some (.int (nI j)), some (.int (nI k)), some (.int (lastF τ (nI (k)) n2))]) dX5_dropOf_42 (Nat.le_of_ble_eq_true rfl) rfl rfl ?_
      have h3 := hT.2.1
      have hg8 := hT.2.2.2.1
      have hstep : drF (y + 1 - k) k τ = (if lastF τ (nI k) n2 = -1 then drF (y + 1 - (k + 1)) (k + 1) τ else drF (y + 1 - (k + 1)) (k + 1) (goQ τ (lastF τ (nI k) n2).toNatClampNeg)) := by rw [show y + 1 - k = (y + 1 - (k + 1)) + 1 by omega, ← hT.n]; rfl
      have hstepN : drN (y + 1 - k) k τ = (if lastF τ (nI k) n2 = -1 then drN (y + 1 - (k + 1)) (k + 1) τ else drN (y + 1 - (k + 1)) (k + 1) (goQ τ (lastF τ (nI k) n2).toNatClampNeg) + 1) := by rw [show y + 1 - k = (y + 1 - (k + 1)) + 1 by omega, ← hT.n]; rfl
      rcases lastF_cases τ (nI k) n2 with ⟨c, hc, hck, e1, e2⟩ | ⟨e1, e2⟩
      · refine r_lv (lv' := [some (.ref (m 0)), some (.int (nI x)), some (.int (nI y)), some (.int (nI j)), some (.int (nI k)), some (.int (nI c))]) (by rw [e1]) ?_
        refine r_iload dX5_dropOf_44 rfl ?_
        refine r_iconst (-1) dX5_dropOf_46 (by decide +kernel) ?_
        refine r_icmp_eq 59 dX5_dropOf_47 (by decide) (fun hq2 => ?_) (fun hq2 => ?_)
        · exact absurd hq2 (nI_ne_m1 (by omega))
        · refine r_aload_n 0 dX5_dropOf_50 rfl rfl ?_
          refine r_iload dX5_dropOf_51 rfl ?_
          refine r_callV2 (As := [.int (nI c)]) (st := []) (fun u3 => mdW cA m (goR τ n2 g2 c) P hs α rf u3.1 u3.2.1 u3.2.2.1 u3.2.2.2.1 u3.2.2.2.2 tx tl sp od no ft) [mdW cA m τ P hs α rf u1.1 u1.2.1 u1.2.2.1 u1.2.2.2.1 u1.2.2.2.2 tx tl sp od no ft] [mdW cA m τ P hs α rf u1.1 u1.2.1 u1.2.2.1 u1.2.2.2.1 u1.2.2.2.2 tx tl sp od no ft] [] (fun u3 => [mdW cA m (goR τ n2 g2 c) P hs α rf u3.1 u3.2.1 u3.2.2.1 u3.2.2.2.1 u3.2.2.2.2 tx tl sp od no ft]) (fun u3 => [mdW cA m (goR τ n2 g2 c) P hs α rf u3.1 u3.2.1 u3.2.2.1 u3.2.2.2.1 u3.2.2.2.2 tx tl sp od no ft]) (c_X5_goes l D cA cB m τ P hs α rf u1.1 u1.2.1 u1.2.2.1 u1.2.2.2.1 u1.2.2.2.2 tx tl sp od no ft n2 hT.1 hT.2.1 g2 hT.2.2.1 hT.2.2.2.1 c hc) kv_X5_goes ml_X5_97 dX5_dropOf_53 rfl rfl rfl rfl (segOk [0] rfl rfl rfl rfl) (fun _ => segOk [0] rfl rfl rfl rfl) rfl (Nat.le_of_ble_eq_true rfl) (fun v u3 h => ?_)
          subst h
          refine r_st (st' := []) rfl ?_
          refine r_iinc (v := nI (j + 1)) ([some (.ref (m 0)), some (.int (nI x)), some (.int (nI y)), some (.int (nI (j + 1))), some (.int (nI k)), some (.int (nI c))]) dX5_dropOf_56 rfl (nI_1 _) (Nat.le_of_ble_eq_true rfl) rfl rfl ?_
          refine r_iinc (v := nI (k + 1)) ([some (.ref (m 0)), some (.int (nI x)), some (.int (nI y)), some (.int (nI (j + 1))), some (.int (nI (k + 1))), some (.int (nI c))]) dX5_dropOf_59 rfl (nI_1 _) (Nat.le_of_ble_eq_true rfl) rfl rfl ?_
          refine r_goto 30 dX5_dropOf_62 (by decide) ?_
          refine r_drop (lv' := [some (.ref (m 0)), some (.int (nI x)), some (.int (nI y)), some (.int (nI (j + 1))), some (.int (nI (k + 1))), none]) 5 rfl ?_
          obtain ⟨n3, g3, hT3, -⟩ := goR_all hT hc (by rw [hck]; exact nI_ne_m1 (by omega))
          have hgo : goQ τ c = goR τ n2 g2 c := by unfold goQ; rw [hT.n, hT.g]
          exact ih (k + 1) _ _ n3 g3 _ hT3 (by rw [← hF, hstep, if_neg (by rw [e1]; exact nI_ne_m1 (by omega)), e1, nI_clamp (by omega), hgo]) (by rw [← hN, hstepN, if_neg (by rw [e1]; exact nI_ne_m1 (by omega)), e1, nI_clamp (by omega), hgo]; omega) (by omega) (by omega) (by omega)
      · refine r_lv (lv' := [some (.ref (m 0)), some (.int (nI x)), some (.int (nI y)), some (.int (nI j)), some (.int (nI k)), some (.int (-1))]) (by rw [e1]) ?_
        refine r_iload dX5_dropOf_44 rfl ?_
        refine r_iconst (-1) dX5_dropOf_46 (by decide +kernel) ?_
        refine r_icmp_eq 59 dX5_dropOf_47 (by decide) (fun hq4 => ?_) (fun hq4 => ?_)
        · refine r_iinc (v := nI (k + 1)) ([some (.ref (m 0)), some (.int (nI x)), some (.int (nI y)), some (.int (nI j)), some (.int (nI (k + 1))), some (.int (-1))]) dX5_dropOf_59 rfl (nI_1 _) (Nat.le_of_ble_eq_true rfl) rfl rfl ?_
          refine r_goto 30 dX5_dropOf_62 (by decide) ?_
          refine r_drop (lv' := [some (.ref (m 0)), some (.int (nI x)), some (.int (nI y)), some (.int (nI j)), some (.int (nI (k + 1))), none]) 5 rfl ?_
          exact ih (k + 1) _ τ n2 g2 u1 hT (by rw [← hF, hstep, if_pos e1]) (by rw [← hN, hstepN, if_pos e1]) (by omega) (by omega) (by omega)
        · exact absurd rfl hq4

set_option maxRecDepth 100000 in
set_option maxHeartbeats 4000000 in
theorem c_X5_dropOf_n (l : Launch) (D : va_G) (cA cB : ClassId) (m : Nat → Nat) (ρ P : Nat → Int32) (hs : Int32) (α rf K V C : Nat → Int32) (my cm : Int32) (tx : Nat → Int32) (tl sp : Int32) (od : Nat → Int32) (no ft : Int32) (n g : Nat) (hI : Inv ρ n g) (x y : Nat) (hxy : x ≤ y) (hy : y ≤ 999) : Mt l D (tyS cA cB) yX5_dropOf cX5_dropOf 6 (some .int) ({ frames := 4, cells := 0, slots := 0, locals := 95 } : Room) [.ref (m 0), .int (nI x), .int (nI y)] (mdW cA m ρ P hs α rf K V C my cm tx tl sp od no ft) Sp5 (fun w _ => w = some (.int (nI (drN (y + 1 - x) x ρ)))) (fun u => mdW cA m (drF (y + 1 - x) x ρ) P hs α rf u.1 u.2.1 u.2.2.1 u.2.2.2.1 u.2.2.2.2 tx tl sp od no ft) 0 0 := by
  refine mt_in RX5 ([some (.ref (m 0)), some (.int (nI x)), some (.int (nI y)), none, none, none]) rfl (by decide +kernel) rfl (Nat.le_of_ble_eq_true rfl) rfl rfl (fun X sz => ?_)
  refine r_iload_n 1 dX5_dropOf_0 rfl rfl ?_
  refine r_iconst (nI 0) dX5_dropOf_1 (by decide +kernel) ?_
  refine r_sipush (nI 999) dX5_dropOf_2 (by decide +kernel) ?_
  refine r_callS2 (As := [.int (nI x), .int (nI 0), .int (nI 999)]) (st := []) (fun _ => mdW cA m ρ P hs α rf K V C my cm tx tl sp od no ft) [mdW cA m ρ P hs α rf K V C my cm tx tl sp od no ft] [] [mdW cA m ρ P hs α rf K V C my cm tx tl sp od no ft] (fun _ => [mdW cA m ρ P hs α rf K V C my cm tx tl sp od no ft]) (fun _ => []) (c_X5_in0 l D cA cB (nI (x)) (nI (999))) ks_X5_in ml_X5_87 dX5_dropOf_5 rfl rfl (segOk [0] rfl rfl rfl rfl) (fun _ => segOk [0] rfl rfl rfl rfl) rfl (Nat.le_of_ble_eq_true rfl) (fun v u h => ?_)
  subst h
  refine r_st (st' := [.int (bI (wi (nI (x)) (nI (999))))]) rfl ?_
  refine r_bif_eq 22 dX5_dropOf_8 (by decide) (fun hq1 => ?_) (fun hq1 => ?_)
  · exact absurd hq1 (by rw [wi_n (by omega) (by decide), decide_eq_true (show x ≤ 999 by omega)]; decide)
  · refine r_iload_n 2 dX5_dropOf_11 rfl rfl ?_
    refine r_iload_n 1 dX5_dropOf_12 rfl rfl ?_
    refine r_sipush (nI 999) dX5_dropOf_13 (by decide +kernel) ?_
    refine r_callS2 (As := [.int (nI y), .int (nI x), .int (nI 999)]) (st := []) (fun _ => mdW cA m ρ P hs α rf K V C my cm tx tl sp od no ft) [mdW cA m ρ P hs α rf K V C my cm tx tl sp od no ft] [] [mdW cA m ρ P hs α rf K V C my cm tx tl sp od no ft] (fun _ => [mdW cA m ρ P hs α rf K V C my cm tx tl sp od no ft]) (fun _ => []) (c_X5_in l D cA cB (nI (y)) (nI (x)) (nI (999))) ks_X5_in ml_X5_87 dX5_dropOf_16 rfl rfl (segOk [0] rfl rfl rfl rfl) (fun _ => segOk [0] rfl rfl rfl rfl) rfl (Nat.le_of_ble_eq_true rfl) (fun v u h => ?_)
    subst h
    refine r_st (st' := [.int (bI (inB (nI (y)) (nI (x)) (nI (999))))]) rfl ?_
    refine r_bif_ne 25 dX5_dropOf_19 (by decide) (fun hq2 => ?_) (fun hq2 => ?_)
    · refine r_iconst (nI 0) dX5_dropOf_25 (by decide +kernel) ?_
      refine r_istore_n 3 ([some (.ref (m 0)), some (.int (nI x)), some (.int (nI y)), some (.int (nI 0)), none, none]) dX5_dropOf_26 rfl (Nat.le_of_ble_eq_true rfl) rfl rfl ?_
      refine r_iload_n 1 dX5_dropOf_27 rfl rfl ?_
      refine r_istore ([some (.ref (m 0)), some (.int (nI x)), some (.int (nI y)), some (.int (nI 0)), some (.int (nI x)), none]) dX5_dropOf_28 (Nat.le_of_ble_eq_true rfl) rfl rfl ?_
      exact lp_X5_dropOf l D cA cB m ρ P hs α rf K V C my cm tx tl sp od no ft n g hI x y hxy hy X sz (y + 2 - x) x 0 ρ n g (K, V, C, my, cm) hI rfl (by omega) (by omega) (by omega) (by omega)
    · exact absurd hq2 (by rw [show inB (nI y) (nI x) (nI 999) = true from decide_eq_true ⟨(nI_le_iff (by omega) (by omega)).mpr hxy, (nI_le_iff (by omega) (by decide)).mpr hy⟩]; decide)

set_option maxRecDepth 100000 in
set_option maxHeartbeats 4000000 in
theorem c_X5_dropOf_r (l : Launch) (D : va_G) (cA cB : ClassId) (m : Nat → Nat) (ρ P : Nat → Int32) (hs : Int32) (α rf K V C : Nat → Int32) (my cm : Int32) (tx : Nat → Int32) (tl sp : Int32) (od : Nat → Int32) (no ft : Int32) (a c : Int32) (hr : spanB a c = false) : Mt l D (tyS cA cB) yX5_dropOf cX5_dropOf 6 (some .int) ({ frames := 4, cells := 0, slots := 0, locals := 95 } : Room) [.ref (m 0), .int (a), .int (c)] (mdW cA m ρ P hs α rf K V C my cm tx tl sp od no ft) Sp5 (fun w _ => w = some (.int (-2))) (fun u => mdW cA m ρ P hs α rf u.1 u.2.1 u.2.2.1 u.2.2.2.1 u.2.2.2.2 tx tl sp od no ft) 0 0 := by
  refine mt_in RX5 ([some (.ref (m 0)), some (.int (a)), some (.int (c)), none, none, none]) rfl (by decide +kernel) rfl (Nat.le_of_ble_eq_true rfl) rfl rfl (fun X sz => ?_)
  refine r_iload_n 1 dX5_dropOf_0 rfl rfl ?_
  refine r_iconst (nI 0) dX5_dropOf_1 (by decide +kernel) ?_
  refine r_sipush (nI 999) dX5_dropOf_2 (by decide +kernel) ?_
  refine r_callS2 (As := [.int (a), .int (nI 0), .int (nI 999)]) (st := []) (fun _ => mdW cA m ρ P hs α rf K V C my cm tx tl sp od no ft) [mdW cA m ρ P hs α rf K V C my cm tx tl sp od no ft] [] [mdW cA m ρ P hs α rf K V C my cm tx tl sp od no ft] (fun _ => [mdW cA m ρ P hs α rf K V C my cm tx tl sp od no ft]) (fun _ => []) (c_X5_in0 l D cA cB (a) (nI (999))) ks_X5_in ml_X5_87 dX5_dropOf_5 rfl rfl (segOk [0] rfl rfl rfl rfl) (fun _ => segOk [0] rfl rfl rfl rfl) rfl (Nat.le_of_ble_eq_true rfl) (fun v u h => ?_)
  subst h
  refine r_st (st' := [.int (bI (wi a (nI (999))))]) rfl ?_
  refine r_bif_eq 22 dX5_dropOf_8 (by decide) (fun hq1 => ?_) (fun hq1 => ?_)
  · refine r_bipush (-2) dX5_dropOf_22 (by decide +kernel) ?_
    exact r_iret ((K, V, C, my, cm)) dX5_dropOf_24 (rfl) (rfl)
  · refine r_iload_n 2 dX5_dropOf_11 rfl rfl ?_
    refine r_iload_n 1 dX5_dropOf_12 rfl rfl ?_
    refine r_sipush (nI 999) dX5_dropOf_13 (by decide +kernel) ?_
    refine r_callS2 (As := [.int (c), .int (a), .int (nI 999)]) (st := []) (fun _ => mdW cA m ρ P hs α rf K V C my cm tx tl sp od no ft) [mdW cA m ρ P hs α rf K V C my cm tx tl sp od no ft] [] [mdW cA m ρ P hs α rf K V C my cm tx tl sp od no ft] (fun _ => [mdW cA m ρ P hs α rf K V C my cm tx tl sp od no ft]) (fun _ => []) (c_X5_in l D cA cB (c) (a) (nI (999))) ks_X5_in ml_X5_87 dX5_dropOf_16 rfl rfl (segOk [0] rfl rfl rfl rfl) (fun _ => segOk [0] rfl rfl rfl rfl) rfl (Nat.le_of_ble_eq_true rfl) (fun v u h => ?_)
    subst h
    refine r_st (st' := [.int (bI (inB c a (nI (999))))]) rfl ?_
    refine r_bif_ne 25 dX5_dropOf_19 (by decide) (fun hq2 => ?_) (fun hq2 => ?_)
    · exact absurd (inB_span hq1 hq2) (by rw [hr]; decide)
    · refine r_bipush (-2) dX5_dropOf_22 (by decide +kernel) ?_
      exact r_iret ((K, V, C, my, cm)) dX5_dropOf_24 (rfl) (rfl)

theorem c_X5_dropOf (l : Launch) (D : va_G) (cA cB : ClassId) (m : Nat → Nat) (ρ P : Nat → Int32) (hs : Int32) (α rf K V C : Nat → Int32) (my cm : Int32) (tx : Nat → Int32) (tl sp : Int32) (od : Nat → Int32) (no ft : Int32) (n g : Nat) (hI : Inv ρ n g) (a c : Int32) : Mt l D (tyS cA cB) yX5_dropOf cX5_dropOf 6 (some .int) ({ frames := 4, cells := 0, slots := 0, locals := 95 } : Room) [.ref (m 0), .int (a), .int (c)] (mdW cA m ρ P hs α rf K V C my cm tx tl sp od no ft) Sp5 (fun w _ => w = some (.int (dAns ρ a c))) (fun u => mdW cA m (dRow ρ a c) P hs α rf u.1 u.2.1 u.2.2.1 u.2.2.2.1 u.2.2.2.2 tx tl sp od no ft) 0 0 := by
  rcases rfD_cases a c with e | e
  · obtain ⟨x, y, hxy, hy, rfl, rfl⟩ := rfD_ex e
    have z := c_X5_dropOf_n l D cA cB m ρ P hs α rf K V C my cm tx tl sp od no ft n g hI x y hxy hy
    unfold dAns dRow
    rw [if_pos e, if_pos e, nI_clamp (by omega), nI_clamp (by omega)]
    exact z
  · have z := c_X5_dropOf_r l D cA cB m ρ P hs α rf K V C my cm tx tl sp od no ft a c (by unfold rfD at e; cases h : spanB a c with | false => rfl | true => rw [h] at e; exact absurd e (by decide +kernel))
    unfold dAns dRow
    rw [if_neg (by rw [e]; decide +kernel), if_neg (by rw [e]; decide +kernel), e]
    exact z
set_option maxRecDepth 100000 in
set_option maxHeartbeats 4000000 in
theorem c_X5_drops (l : Launch) (D : va_G) (cA cB : ClassId) (m : Nat → Nat) (ρ P : Nat → Int32) (h : Nat) (α rf K V C : Nat → Int32) (my cm : Int32) (tx : Nat → Int32) (tl sp : Int32) (od : Nat → Int32) (no ft : Int32) (n g : Nat) (hI : Inv ρ n g) (hh : h ≤ 5) (hza : Zro α) (a c : Int32) : Mt l D (tyS cA cB) yX5_drops cX5_drops 3 (some .int) ({ frames := 5, cells := 0, slots := 0, locals := 120 } : Room) [.ref (m 0), .int (a), .int (c)] (mdW cA m ρ P (nI (h)) α rf K V C my cm tx tl sp od no ft) Sp5 (fun w _ => w = some (.int (dAns ρ a c))) (fun u => mdW cA m (dRow ρ a c) (if rfD a c = 0 then lvP P h ρ else P) (nI (if rfD a c = 0 then kpH h else h)) ρ (rfU (rfD a c) rf) u.1 u.2.1 u.2.2.1 u.2.2.2.1 u.2.2.2.2 tx tl sp od no ft) 0 0 := by
  refine mt_in RX5 ([some (.ref (m 0)), some (.int (a)), some (.int (c))]) rfl (by decide +kernel) rfl (Nat.le_of_ble_eq_true rfl) rfl rfl (fun X sz => ?_)
  have hzr := hI.2.2.2.2.2.2.2.2
  refine r_aload_n 0 dX5_drops_0 rfl rfl ?_
  refine r_iconst (nI 0) dX5_drops_1 (by decide +kernel) ?_
  refine r_put 0 (mdW cA m ρ P (nI (h)) α rf K V C my cm tx tl sp od no ft) fk_X5_37 dX5_drops_2 rfl rfl rfl rfl (Nat.le_of_ble_eq_true rfl) rfl ?_
  refine r_aload_n 0 dX5_drops_5 rfl rfl ?_
  refine r_callV2 (As := []) (st := []) (fun _ => mdW cA m ρ P (nI (h)) ρ rf K V C my cm tx tl sp od no ft) [mdW cA m ρ P (nI (h)) α rf K V C my cm tx tl sp od no ft] [mdW cA m ρ P (nI (h)) α rf K V C my cm tx tl sp od no ft] [] (fun _ => [mdW cA m ρ P (nI (h)) ρ rf K V C my cm tx tl sp od no ft]) (fun _ => [mdW cA m ρ P (nI (h)) ρ rf K V C my cm tx tl sp od no ft]) (c_X5_laysAside l D cA cB m ρ P (nI (h)) α rf K V C my cm tx tl sp od no ft hzr hza) kv_X5_laysAside ml_X5_107 dX5_drops_6 rfl rfl rfl rfl (segOk [0] rfl rfl rfl rfl) (fun _ => segOk [0] rfl rfl rfl rfl) rfl (Nat.le_of_ble_eq_true rfl) (fun v u h => ?_)
  subst h
  refine r_st (st' := []) rfl ?_
  refine r_aload_n 0 dX5_drops_9 rfl rfl ?_
  refine r_aload_n 0 dX5_drops_10 rfl rfl ?_
  refine r_iload_n 1 dX5_drops_11 rfl rfl ?_
  refine r_iload_n 2 dX5_drops_12 rfl rfl ?_
  refine r_callV2 (As := [.int (a), .int (c)]) (st := [.ref (m 0)]) (fun u1 => mdW cA m (dRow ρ a c) P (nI (h)) ρ rf u1.1 u1.2.1 u1.2.2.1 u1.2.2.2.1 u1.2.2.2.2 tx tl sp od no ft) [mdW cA m ρ P (nI (h)) ρ rf K V C my cm tx tl sp od no ft] [mdW cA m ρ P (nI (h)) ρ rf K V C my cm tx tl sp od no ft] [] (fun u1 => [mdW cA m (dRow ρ a c) P (nI (h)) ρ rf u1.1 u1.2.1 u1.2.2.1 u1.2.2.2.1 u1.2.2.2.2 tx tl sp od no ft]) (fun u1 => [mdW cA m (dRow ρ a c) P (nI (h)) ρ rf u1.1 u1.2.1 u1.2.2.1 u1.2.2.2.1 u1.2.2.2.2 tx tl sp od no ft]) (c_X5_dropOf l D cA cB m ρ P (nI (h)) ρ rf K V C my cm tx tl sp od no ft n g hI a c) kv_X5_dropOf ml_X5_119 dX5_drops_13 rfl rfl rfl rfl (segOk [0] rfl rfl rfl rfl) (fun _ => segOk [0] rfl rfl rfl rfl) rfl (Nat.le_of_ble_eq_true rfl) (fun v u1 h => ?_)
  subst h
  refine r_st (st' := [.int (dAns ρ a c), .ref (m 0)]) rfl ?_
  rcases rfD_cases a c with e | e
  · obtain ⟨x, y, hxy, hy, rfl, rfl⟩ := rfD_ex e
    have hnl := drN_le hI hxy hy
    refine r_ws (ws' := mdW cA m (drF (y + 1 - x) x ρ) P (nI (h)) ρ rf u1.1 u1.2.1 u1.2.2.1 u1.2.2.2.1 u1.2.2.2.2 tx tl sp od no ft) (by unfold dRow; rw [if_pos e, nI_clamp (by omega), nI_clamp (by omega)]) ?_
    refine r_top (y := nI (drN (y + 1 - x) x ρ)) (by unfold dAns; rw [if_pos e, nI_clamp (by omega), nI_clamp (by omega)]) ?_
    refine r_callV2 (As := [.int (nI (drN (y + 1 - x) x ρ))]) (st := []) (fun _ => mdW cA m (drF (y + 1 - x) x ρ) (lvP P h ρ) (nI (kpH h)) ρ rf u1.1 u1.2.1 u1.2.2.1 u1.2.2.2.1 u1.2.2.2.2 tx tl sp od no ft) [mdW cA m (drF (y + 1 - x) x ρ) P (nI (h)) ρ rf u1.1 u1.2.1 u1.2.2.1 u1.2.2.2.1 u1.2.2.2.2 tx tl sp od no ft] [mdW cA m (drF (y + 1 - x) x ρ) P (nI (h)) ρ rf u1.1 u1.2.1 u1.2.2.1 u1.2.2.2.1 u1.2.2.2.2 tx tl sp od no ft] [] (fun _ => [mdW cA m (drF (y + 1 - x) x ρ) (lvP P h ρ) (nI (kpH h)) ρ rf u1.1 u1.2.1 u1.2.2.1 u1.2.2.2.1 u1.2.2.2.2 tx tl sp od no ft]) (fun _ => [mdW cA m (drF (y + 1 - x) x ρ) (lvP P h ρ) (nI (kpH h)) ρ rf u1.1 u1.2.1 u1.2.2.1 u1.2.2.2.1 u1.2.2.2.2 tx tl sp od no ft]) (c_X5_done_n l D cA cB m (drF (y + 1 - x) x ρ) P (h) ρ rf u1.1 u1.2.1 u1.2.2.1 u1.2.2.2.1 u1.2.2.2.2 tx tl sp od no ft hh (nI (drN (y + 1 - x) x ρ)) (nI_nn (by omega))) kv_X5_done ml_X5_113 dX5_drops_16 rfl rfl rfl rfl (segOk [0] rfl rfl rfl rfl) (fun _ => segOk [0] rfl rfl rfl rfl) rfl (Nat.le_of_ble_eq_true rfl) (fun v u h => ?_)
    subst h
    refine r_st (st' := [.int (nI (drN (y + 1 - x) x ρ))]) rfl ?_
    exact r_iret ((u1.1, u1.2.1, u1.2.2.1, u1.2.2.2.1, u1.2.2.2.2)) dX5_drops_19 (by unfold dAns; rw [if_pos e, nI_clamp (by omega), nI_clamp (by omega)]) (by unfold dRow; rw [if_pos e, if_pos e, if_pos e, nI_clamp (by omega), nI_clamp (by omega)]; unfold rfU; rw [e]; rfl)
  · refine r_ws (ws' := mdW cA m ρ P (nI (h)) ρ rf u1.1 u1.2.1 u1.2.2.1 u1.2.2.2.1 u1.2.2.2.2 tx tl sp od no ft) (by unfold dRow; rw [if_neg (by rw [e]; decide +kernel)]) ?_
    refine r_top (y := -2) (by unfold dAns; rw [if_neg (by rw [e]; decide +kernel), e]) ?_
    refine r_callV2 (As := [.int (-2)]) (st := []) (fun _ => mdW cA m ρ P (nI (h)) ρ (badR rf) u1.1 u1.2.1 u1.2.2.1 u1.2.2.2.1 u1.2.2.2.2 tx tl sp od no ft) [mdW cA m ρ P (nI (h)) ρ rf u1.1 u1.2.1 u1.2.2.1 u1.2.2.2.1 u1.2.2.2.2 tx tl sp od no ft] [mdW cA m ρ P (nI (h)) ρ rf u1.1 u1.2.1 u1.2.2.1 u1.2.2.2.1 u1.2.2.2.2 tx tl sp od no ft] [] (fun _ => [mdW cA m ρ P (nI (h)) ρ (badR rf) u1.1 u1.2.1 u1.2.2.1 u1.2.2.2.1 u1.2.2.2.2 tx tl sp od no ft]) (fun _ => [mdW cA m ρ P (nI (h)) ρ (badR rf) u1.1 u1.2.1 u1.2.2.1 u1.2.2.2.1 u1.2.2.2.2 tx tl sp od no ft]) (c_X5_done_2 l D cA cB m ρ P (nI (h)) ρ rf u1.1 u1.2.1 u1.2.2.1 u1.2.2.2.1 u1.2.2.2.2 tx tl sp od no ft) kv_X5_done ml_X5_113 dX5_drops_16 rfl rfl rfl rfl (segOk [0] rfl rfl rfl rfl) (fun _ => segOk [0] rfl rfl rfl rfl) rfl (Nat.le_of_ble_eq_true rfl) (fun v u h => ?_)
    subst h
    refine r_st (st' := [.int (-2)]) rfl ?_
    exact r_iret ((u1.1, u1.2.1, u1.2.2.1, u1.2.2.2.1, u1.2.2.2.2)) dX5_drops_19 (by unfold dAns; rw [if_neg (by rw [e]; decide +kernel), e]) (by unfold dRow; rw [if_neg (by rw [e]; decide +kernel), if_neg (by rw [e]; decide +kernel), if_neg (by rw [e]; decide +kernel)]; unfold rfU; rw [e]; rfl)

