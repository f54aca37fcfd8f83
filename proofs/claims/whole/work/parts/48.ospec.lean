/-! THE ROW BEHIND A CALL, and what calls answer -/
theorem rfP_ok {ρ : Nat → Int32} {n : Nat} {k v : Int32} (h : rfP ρ n k v = 0) : OKv k v := by
  unfold rfP at h
  split at h
  · next e =>
    simp only [Bool.and_eq_true] at e
    exact e
  · exact absurd h (by decide +kernel)
theorem rfT_ok {ρ : Nat → Int32} {n : Nat} {k : Int32} (h : rfT ρ n k = 0) : wi k (nI 999) = true := by
  unfold rfT at h
  split at h
  · next e => exact e
  · exact absurd h (by decide +kernel)
theorem rfM_ok {x : Int32} (h : rfM x = 0) : x = 0 ∨ x = 1 := by
  unfold rfM at h
  split at h
  · next e =>
    obtain ⟨a, ha, rfl⟩ := wi_ex (by decide) e
    rcases (show a = 0 ∨ a = 1 by omega) with rfl | rfl
    · exact Or.inl rfl
    · exact Or.inr rfl
  · exact absurd h (by decide +kernel)
theorem pRow_inv {ρ : Nat → Int32} {n g : Nat} (hI : Inv ρ n g) (k v : Int32) : ∃ n' g', Inv (pRow ρ n g k v) n' g' := by
  unfold pRow
  split
  · next e =>
    have hkv := rfP_ok e
    unfold putR
    rcases lastF_cases ρ k n with ⟨c, hc, hck, e1, -⟩ | ⟨e1, e2⟩
    · have h3 := hI.2.1
      rw [if_neg (by rw [e1]; exact nI_ne_m1 (by omega)), repR_at hck (fun d hd h => srt_u hI.2.2.2.2.1 hkv.ne hd hc h hck) hc]
      exact ⟨n, g, val_inv hI hc hkv.2⟩
    · rw [if_pos e1]
      exact comeR_inv hI hkv e2 ((rfP_hr e).2 e1)
  · exact ⟨n, g, hI⟩
theorem tRow_inv {ρ : Nat → Int32} {n g : Nat} (hI : Inv ρ n g) (k : Int32) : ∃ n' g', Inv (tRow ρ n g k) n' g' := by
  unfold tRow
  split
  · next e =>
    have h0 := rfT_0 e
    unfold takR
    rcases lastF_cases ρ k n with ⟨c, hc, hck, e1, -⟩ | ⟨e1, e2⟩
    · have h3 := hI.2.1
      rw [e1, nI_clamp (by omega)]
      exact goR_inv hI hc
    · exact absurd e1 h0.2
  · exact ⟨n, g, hI⟩
theorem mRow_inv {ρ : Nat → Int32} {n g : Nat} (hI : Inv ρ n g) (x : Int32) : ∃ n' g', Inv (mRow ρ x) n' g' := by
  unfold mRow
  split
  · next e => exact ⟨n, g, mod_inv hI (rfM_ok e)⟩
  · exact ⟨n, g, hI⟩
theorem dRow_inv {ρ : Nat → Int32} {n g : Nat} (hI : Inv ρ n g) (a c : Int32) : ∃ n' g', Inv (dRow ρ a c) n' g' := by
  unfold dRow
  split
  · next e =>
    obtain ⟨x, y, hxy, hy, rfl, rfl⟩ := rfD_ex e
    rw [nI_clamp (by omega), nI_clamp (by omega)]
    exact drF_inv _ _ _ _ _ hI (by omega)
  · exact ⟨n, g, hI⟩
theorem mvAll_le {ρ C : Nat → Int32} {h : Nat} {w : Int32} {a n : Nat} : mvAll ρ C h w a n ≤ h := mvF_le _ _ _
theorem wst_c4 {ρ : Nat → Int32} {n : Nat} {k : Int32} (h3 : n = 16 ∨ n = 32 ∨ n = 64) : comeM ρ n k ≤ 65 := by
  unfold comeM
  split
  · next i e =>
    have h := lvF_some e
    have ht := top_le (sz := n)
    have hp := pow4 i (by omega)
    have hc := cnt_le ρ (wst (segF ρ k n) i) (4 * 2 ^ i)
    have hm : inM ρ (clr ρ (wst (segF ρ k n) i) (4 * 2 ^ i)) (wst (segF ρ k n) i) (4 * 2 ^ i) (4 * 2 ^ i) k ≤ cnt ρ (wst (segF ρ k n) i) (4 * 2 ^ i) + 1 := mvAll_le
    omega
  · have hc := cnt_le ρ 0 n
    have hm : inM ρ (dbl ρ n) 0 n (2 * n) k ≤ cnt ρ 0 n + 1 := mvAll_le
    omega
theorem val_nn {ρ : Nat → Int32} {n g : Nat} {k : Int32} (hI : Inv ρ n g) (hk : ¬ k = -1) (h : ¬ lastF ρ k n = -1) : ∃ a : Nat, a ≤ 99 ∧ valOf ρ k n = nI a := by
  rcases lastF_cases ρ k n with ⟨c, hc, hck, e1, e2⟩ | ⟨e1, e2⟩
  · rw [e2]
    have hv := (hI.2.2.2.2.2.1 c hc (by rw [hck]; exact hk)).2
    exact wi_ex (by decide) hv
  · exact absurd e1 h
theorem putM_nn {ρ : Nat → Int32} {n g : Nat} {k v : Int32} (hI : Inv ρ n g) (h : rfP ρ n k v = 0) : 0 ≤ putM ρ n k := by
  unfold putM
  split
  · exact nI_nn (by have := wst_c4 (ρ := ρ) (k := k) hI.2.1; omega)
  · next e =>
    obtain ⟨a, ha, e2⟩ := val_nn hI (rfP_hr h).1 e
    rw [e2, nI_add a 100]
    exact nI_nn (by omega)
theorem takV_nn {ρ : Nat → Int32} {n g : Nat} {k : Int32} (hI : Inv ρ n g) (h : rfT ρ n k = 0) : 0 ≤ valOf ρ k n := by
  obtain ⟨a, ha, e2⟩ := val_nn hI (rfT_0 h).1 (rfT_0 h).2
  rw [e2]
  exact nI_nn (by omega)
theorem mod_nn {ρ : Nat → Int32} {n g : Nat} (hI : Inv ρ n g) : 0 ≤ ρ 1 := by
  rcases hI.2.2.2.2.2.2.2.1 with e | e <;> rw [e] <;> decide +kernel
/-! ORDERS: kind, first, second -/
abbrev Ord3 : Type := Int32 × Int32 × Int32
def oRf (ρ : Nat → Int32) (z : Ord3) : Int32 := if z.1 = 109 then rfM z.2.1 else if z.1 = 112 then rfP ρ (nOf ρ) z.2.1 z.2.2 else if z.1 = 116 then rfT ρ (nOf ρ) z.2.1 else rfD z.2.1 z.2.2
def oAns (ρ : Nat → Int32) (z : Ord3) : Int32 := if z.1 = 109 then mAns ρ z.2.1 else if z.1 = 112 then pAns ρ (nOf ρ) z.2.1 z.2.2 else if z.1 = 116 then tAns ρ (nOf ρ) z.2.1 else dAns ρ z.2.1 z.2.2
def oRow (ρ : Nat → Int32) (z : Ord3) : Nat → Int32 := if z.1 = 109 then mRow ρ z.2.1 else if z.1 = 112 then pRow ρ (nOf ρ) (gOf ρ) z.2.1 z.2.2 else if z.1 = 116 then tRow ρ (nOf ρ) (gOf ρ) z.2.1 else dRow ρ z.2.1 z.2.2
theorem oRow_inv {ρ : Nat → Int32} {n g : Nat} (hI : Inv ρ n g) (z : Ord3) : ∃ n' g', Inv (oRow ρ z) n' g' := by
  unfold oRow
  rw [hI.n, hI.g]
  split
  · exact mRow_inv hI _
  · split
    · exact pRow_inv hI _ _
    · split
      · exact tRow_inv hI _
      · exact dRow_inv hI _ _
theorem lt0 : (-2 : Int32) < 0 ∧ (-3 : Int32) < 0 ∧ (-4 : Int32) < 0 := by decide +kernel
theorem oAns_nn {ρ : Nat → Int32} {n g : Nat} (hI : Inv ρ n g) {z : Ord3} (h : oRf ρ z = 0) : 0 ≤ oAns ρ z := by
  unfold oRf at h
  unfold oAns
  rw [hI.n] at h ⊢
  split
  · next e => rw [if_pos e] at h; unfold mAns; rw [if_pos h]; exact mod_nn hI
  · next e =>
    rw [if_neg e] at h
    split
    · next e => rw [if_pos e] at h; unfold pAns; rw [if_pos h]; exact putM_nn hI h
    · next e =>
      rw [if_neg e] at h
      split
      · next e => rw [if_pos e] at h; unfold tAns; rw [if_pos h]; exact takV_nn hI h
      · next e =>
        rw [if_neg e] at h
        unfold dAns; rw [if_pos h]
        obtain ⟨x, y, hxy, hy, e1, e2⟩ := rfD_ex h
        rw [e1, e2, nI_clamp (by omega), nI_clamp (by omega)]
        exact nI_nn (by have := drN_le hI hxy hy; omega)
theorem oAns_lt {ρ : Nat → Int32} {z : Ord3} (h : ¬ oRf ρ z = 0) : oAns ρ z < 0 ∧ oRow ρ z = ρ := by
  unfold oRf at h
  unfold oAns oRow
  split
  · next e =>
    rw [if_pos e] at h; unfold mAns mRow; rw [if_neg h, if_neg h]
    refine ⟨?_, rfl⟩
    rcases rfM_cases z.2.1 with e | e
    · exact absurd e h
    · rw [e]; exact lt0.1
  · next e =>
    rw [if_neg e] at h
    split
    · next e =>
      rw [if_pos e] at h; unfold pAns pRow; rw [if_neg h, if_neg h]
      refine ⟨?_, rfl⟩
      rcases rfP_cases ρ (nOf ρ) z.2.1 z.2.2 with e | e | e
      · exact absurd e h
      · rw [e]; exact lt0.1
      · rw [e]; exact lt0.2.2
    · next e =>
      rw [if_neg e] at h
      split
      · next e =>
        rw [if_pos e] at h; unfold tAns tRow; rw [if_neg h, if_neg h]
        refine ⟨?_, rfl⟩
        rcases rfT_cases ρ (nOf ρ) z.2.1 with e | e | e
        · exact absurd e h
        · rw [e]; exact lt0.1
        · rw [e]; exact lt0.2.1
      · next e =>
        rw [if_neg e] at h
        unfold dAns dRow; rw [if_neg h, if_neg h]
        refine ⟨?_, rfl⟩
        rcases rfD_cases z.2.1 z.2.2 with e | e
        · exact absurd e h
        · rw [e]; exact lt0.1
/-- orders one after another: the row behind them, and the first one that was refused (counted from i on) -/
def runL : List Ord3 → (Nat → Int32) → Nat → (Nat → Int32) × Option Nat
  | [], ρ, _ => (ρ, none)
  | z :: L, ρ, i => if oRf ρ z = 0 then runL L (oRow ρ z) (i + 1) else (ρ, some i)
theorem runL_inv : ∀ (L : List Ord3) (ρ : Nat → Int32) (i n g : Nat), Inv ρ n g → ∃ n' g', Inv (runL L ρ i).1 n' g'
  | [], ρ, _, n, g, hI => ⟨n, g, hI⟩
  | z :: L, ρ, i, n, g, hI => by
    unfold runL
    split
    · obtain ⟨n', g', h⟩ := oRow_inv hI z
      exact runL_inv L _ _ n' g' h
    · exact ⟨n, g, hI⟩
theorem runL_le : ∀ (L : List Ord3) (ρ : Nat → Int32) (i j : Nat), (runL L ρ i).2 = some j → i ≤ j ∧ j < i + L.length
  | [], _, _, _, h => by cases h
  | z :: L, ρ, i, j, h => by
    unfold runL at h
    split at h
    · have := runL_le L _ _ j h
      rw [List.length_cons]; omega
    · cases h; rw [List.length_cons]; omega
def dsAns (tx : Nat → Int32) (tl : Nat) (ρ : Nat → Int32) : Int32 := match rdX tx tl with
  | some f => -10 - nI f
  | none => match (runL (rdT tx tl).2 ρ 0).2 with
    | some i => -1000 - nI i
    | none => nI (rdT tx tl).2.length
/-- all was done -/
def dsB (tx : Nat → Int32) (tl : Nat) (ρ : Nat → Int32) : Bool := match rdX tx tl with
  | some _ => false
  | none => match (runL (rdT tx tl).2 ρ 0).2 with
    | some _ => false
    | none => true
def dsRow (tx : Nat → Int32) (tl : Nat) (ρ : Nat → Int32) : Nat → Int32 := if dsB tx tl ρ = true then (runL (rdT tx tl).2 ρ 0).1 else ρ
abbrev IvR (ρ : Nat → Int32) : Prop := Inv ρ (nOf ρ) (gOf ρ)
theorem Inv.iv {ρ : Nat → Int32} {n g : Nat} (h : Inv ρ n g) : IvR ρ := by unfold IvR; rw [h.n, h.g]; exact h
theorem oRow_iv {ρ : Nat → Int32} (hI : IvR ρ) (z : Ord3) : IvR (oRow ρ z) := by
  obtain ⟨n, g, h⟩ := oRow_inv hI z
  exact h.iv
theorem runL_iv {ρ : Nat → Int32} (hI : IvR ρ) (L : List Ord3) (i : Nat) : IvR (runL L ρ i).1 := by
  obtain ⟨n, g, h⟩ := runL_inv L ρ i _ _ hI
  exact h.iv
theorem dsRow_iv {ρ : Nat → Int32} (hI : IvR ρ) (tx : Nat → Int32) (tl : Nat) : IvR (dsRow tx tl ρ) := by
  unfold dsRow
  split
  · exact runL_iv hI _ _
  · exact hI
theorem opt_cases (o : Option Nat) : o = none ∨ ∃ x, o = some x := by
  cases o with
  | none => exact Or.inl rfl
  | some x => exact Or.inr ⟨x, rfl⟩
theorem rdsF_f {tx : Nat → Int32} {tl : Nat} : ∀ (f p x : Nat), (rdsF tx tl f p).1 = some x → x ≤ tl
  | 0, _, _, h => by cases h
  | f + 1, p, x, h => by
    unfold rdsF at h
    split at h
    · next hp =>
      rcases opt_cases (roF tx tl p).2.1 with e | ⟨y, e⟩
      · rw [e] at h; exact rdsF_f f _ x h
      · rw [e] at h; have hh : y = x := Option.some.inj h; rw [← hh]; exact (roF_le hp).2.2 y e
    · cases h
theorem rdX_le {tx : Nat → Int32} {tl x : Nat} (h : rdX tx tl = some x) : x ≤ tl := by
  unfold rdX at h
  rcases opt_cases (rdT tx tl).1 with e | ⟨y, e⟩
  · rw [e] at h
    dsimp only at h
    split at h
    · cases h; exact Nat.le_refl _
    · cases h
  · rw [e] at h; have hh : y = x := Option.some.inj h; rw [← hh]; exact rdsF_f _ _ _ e
