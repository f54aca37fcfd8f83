/-- the order array behind an order's reading -/
def odF (od : Nat → Int32) (k : Nat) (r : Nat × Option Nat × Int32 × Int32 × Int32) : Nat → Int32 := if r.2.1 = none then upd (upd (upd od (3 * k) r.2.2.1) (3 * k + 1) r.2.2.2.1) (3 * k + 2) r.2.2.2.2 else od
def odK (k : Nat) (r : Nat × Option Nat × Int32 × Int32 × Int32) : Nat := if r.2.1 = none then k + 1 else k
theorem oI_n1 {o : Option Nat} (hb : ∀ f, o = some f → f < 2 ^ 31) (h : oI o = -1) : o = none := by
  cases o with
  | none => rfl
  | some f => exact absurd h (nI_ne_m1 (hb f rfl))
theorem sgF_f {tx : Nat → Int32} {tl p : Nat} {ft : Option Nat} (h : p ≤ tl) (hf : ∀ f, ft = some f → f ≤ tl) : ∀ f, (sgF tx tl p ft).2 = some f → f ≤ tl := by
  intro f e
  have hb := blkF_le tx (tl - p) p
  cases ft with
  | some g => exact hf f e
  | none =>
    unfold sgF at e
    dsimp only at e
    split at e
    · cases e; omega
    · cases e
theorem sgF_le {tx : Nat → Int32} {tl p : Nat} {ft : Option Nat} (h : p ≤ tl) : p < (sgF tx tl p ft).1 ∧ (sgF tx tl p ft).1 ≤ tl + 1 := by
  have hb := blkF_le tx (tl - p) p
  show p < blkF tx (tl - p) p + 1 ∧ blkF tx (tl - p) p + 1 ≤ tl + 1
  omega
theorem nof {f : Nat} : ∀ g, (none : Option Nat) = some g → g ≤ f := fun g h => by cases h
theorem roF_le {tx : Nat → Int32} {tl p : Nat} (h : p < tl) : p ≤ (roF tx tl p).1 ∧ (roF tx tl p).1 ≤ tl + 1 ∧ ∀ f, (roF tx tl p).2.1 = some f → f ≤ tl := by
  have h1 := nmF_le (tx := tx) (tl := tl) (p := p + 1) (ft := none) (by omega)
  have f1 := nmF_f (tx := tx) (tl := tl) (p := p + 1) (ft := none) (by omega) nof
  have h2 := nmF_le (tx := tx) (tl := tl) (p := (nmF tx tl (p + 1) none).1) (ft := (nmF tx tl (p + 1) none).2.2) (by omega)
  have f2 := nmF_f (tx := tx) (tl := tl) (p := (nmF tx tl (p + 1) none).1) (ft := (nmF tx tl (p + 1) none).2.2) (by omega) f1
  unfold roF
  split
  · exact ⟨Nat.le_refl _, by show p ≤ tl + 1; omega, fun f e => by cases e; omega⟩
  · split
    · have h3 := sgF_le (tx := tx) (tl := tl) (p := (nmF tx tl (nmF tx tl (p + 1) none).1 (nmF tx tl (p + 1) none).2.2).1) (ft := (nmF tx tl (nmF tx tl (p + 1) none).1 (nmF tx tl (p + 1) none).2.2).2.2) (by omega)
      exact ⟨by dsimp only; omega, h3.2, sgF_f (by omega) f2⟩
    · have h3 := sgF_le (tx := tx) (tl := tl) (p := (nmF tx tl (p + 1) none).1) (ft := (nmF tx tl (p + 1) none).2.2) (by omega)
      exact ⟨by dsimp only; omega, h3.2, sgF_f (by omega) f1⟩
/-- an order without a fault is three bytes at least -/
theorem nmF_3 {tx : Nat → Int32} {tl p : Nat} {ft : Option Nat} (h : p ≤ tl) (hn : (nmF tx tl p ft).2.2 = none) : ft = none ∧ p + 1 ≤ (nmF tx tl p ft).1 := by
  cases ft with
  | some f => cases hn
  | none =>
    refine ⟨rfl, ?_⟩
    have hb := blkF_le tx (tl - p) p
    have hn : nuF tx tl p = none := hn
    show p + 1 ≤ nuP tx tl p
    unfold nuF at hn
    split at hn
    · cases hn
    · next e =>
      have := ngP_le tx tl 3 (blkF tx (tl - p) p)
      have e1 : ¬ nuP tx tl p = blkF tx (tl - p) p := fun z => e (Or.inl z)
      unfold nuP at e1 ⊢
      omega
theorem sgF_n {tx : Nat → Int32} {tl p : Nat} {ft : Option Nat} (hn : (sgF tx tl p ft).2 = none) : ft = none := by
  cases ft with
  | none => rfl
  | some f => cases hn
theorem roF_3 {tx : Nat → Int32} {tl p : Nat} (h : p < tl) (hn : (roF tx tl p).2.1 = none) : p + 3 ≤ (roF tx tl p).1 ∧ (roF tx tl p).1 ≤ tl := by
  have h1 := nmF_le (tx := tx) (tl := tl) (p := p + 1) (ft := none) (by omega)
  unfold roF at hn ⊢
  split at hn
  · cases hn
  · next e0 =>
    rw [if_neg e0]
    split at hn
    · next e1 =>
      rw [if_pos e1]
      have a2 := sgF_n hn
      have h2 := nmF_3 (tx := tx) (tl := tl) (by omega) a2
      have h3 := nmF_3 (tx := tx) (tl := tl) (p := p + 1) (ft := none) (by omega) h2.1
      have h4 := nmF_le (tx := tx) (tl := tl) (p := (nmF tx tl (p + 1) none).1) (ft := (nmF tx tl (p + 1) none).2.2) (by omega)
      have h5 := sgF_le (tx := tx) (tl := tl) (p := (nmF tx tl (nmF tx tl (p + 1) none).1 (nmF tx tl (p + 1) none).2.2).1) (ft := (nmF tx tl (nmF tx tl (p + 1) none).1 (nmF tx tl (p + 1) none).2.2).2.2) (by omega)
      refine ⟨by dsimp only; omega, ?_⟩
      dsimp only
      have hb := blkF_le tx (tl - (nmF tx tl (nmF tx tl (p + 1) none).1 (nmF tx tl (p + 1) none).2.2).1) (nmF tx tl (nmF tx tl (p + 1) none).1 (nmF tx tl (p + 1) none).2.2).1
      have hn : (sgF tx tl (nmF tx tl (nmF tx tl (p + 1) none).1 (nmF tx tl (p + 1) none).2.2).1 (nmF tx tl (nmF tx tl (p + 1) none).1 (nmF tx tl (p + 1) none).2.2).2.2).2 = none := hn
      unfold sgF at hn ⊢
      rw [a2] at hn
      dsimp only at hn ⊢
      split at hn
      · cases hn
      · next e9 => have : ¬ blkF tx (tl - (nmF tx tl (nmF tx tl (p + 1) none).1 (nmF tx tl (p + 1) none).2.2).1) (nmF tx tl (nmF tx tl (p + 1) none).1 (nmF tx tl (p + 1) none).2.2).1 = tl := fun z => e9 (Or.inl z)
                   omega
    · next e1 =>
      rw [if_neg e1]
      have a2 := sgF_n hn
      have h3 := nmF_3 (tx := tx) (tl := tl) (p := p + 1) (ft := none) (by omega) a2
      have h5 := sgF_le (tx := tx) (tl := tl) (p := (nmF tx tl (p + 1) none).1) (ft := (nmF tx tl (p + 1) none).2.2) (by omega)
      refine ⟨by dsimp only; omega, ?_⟩
      dsimp only
      have hb := blkF_le tx (tl - (nmF tx tl (p + 1) none).1) (nmF tx tl (p + 1) none).1
      have hn : (sgF tx tl (nmF tx tl (p + 1) none).1 (nmF tx tl (p + 1) none).2.2).2 = none := hn
      unfold sgF at hn ⊢
      rw [a2] at hn
      dsimp only at hn ⊢
      split at hn
      · cases hn
      · next e9 => have : ¬ blkF tx (tl - (nmF tx tl (p + 1) none).1) (nmF tx tl (p + 1) none).1 = tl := fun z => e9 (Or.inl z)
                   omega
