/-! THE TEXT, as the model reads it -/
def digB (c : Int32) : Bool := inB c (nI 48) (nI 57)
def blkF (tx : Nat → Int32) : Nat → Nat → Nat
  | 0, p => p
  | m + 1, p => if tx p = nI 32 then blkF tx m (p + 1) else p
theorem blkF_le (tx : Nat → Int32) : ∀ m p, p ≤ blkF tx m p ∧ blkF tx m p ≤ p + m
  | 0, p => ⟨Nat.le_refl _, Nat.le_refl _⟩
  | m + 1, p => by
    have := blkF_le tx m (p + 1)
    unfold blkF
    split <;> omega
theorem blk_s1 {tx : Nat → Int32} {tl p : Nat} (h : p < tl) (hs : tx p = nI 32) : blkF tx (tl - p) p = blkF tx (tl - (p + 1)) (p + 1) := by
  rw [show tl - p = (tl - (p + 1)) + 1 by omega]
  exact if_pos hs
theorem blk_s0 {tx : Nat → Int32} {tl p : Nat} (hs : ¬ tx p = nI 32) : blkF tx (tl - p) p = p := by
  cases h : tl - p with
  | zero => rfl
  | succ m => exact if_neg hs
theorem blk_e {tx : Nat → Int32} {tl p : Nat} (h : tl ≤ p) : blkF tx (tl - p) p = p := by rw [show tl - p = 0 by omega]; rfl
/-- a number's figures: at most r more from p on -/
def ngV (tx : Nat → Int32) (tl : Nat) : Nat → Nat → Int32 → Int32
  | 0, _, v => v
  | r + 1, p, v => if p < tl ∧ digB (tx p) = true then ngV tx tl r (p + 1) (nI 10 * v + tx p - nI 48) else v
def ngP (tx : Nat → Int32) (tl : Nat) : Nat → Nat → Nat
  | 0, p => p
  | r + 1, p => if p < tl ∧ digB (tx p) = true then ngP tx tl r (p + 1) else p
theorem ngP_le (tx : Nat → Int32) (tl : Nat) : ∀ r p, p ≤ ngP tx tl r p ∧ ngP tx tl r p ≤ p + r
  | 0, p => ⟨Nat.le_refl _, Nat.le_refl _⟩
  | r + 1, p => by
    have := ngP_le tx tl r (p + 1)
    unfold ngP
    split <;> omega
theorem ngP_tl (tx : Nat → Int32) (tl : Nat) : ∀ r p, p ≤ tl → ngP tx tl r p ≤ tl
  | 0, p, h => h
  | r + 1, p, h => by
    unfold ngP
    split
    · exact ngP_tl tx tl r (p + 1) (by omega)
    · exact h
/-- a number: where it ends, its fault (none: none) -/
def nuP (tx : Nat → Int32) (tl p : Nat) : Nat := ngP tx tl 3 (blkF tx (tl - p) p)
def nuV (tx : Nat → Int32) (tl p : Nat) : Int32 := ngV tx tl 3 (blkF tx (tl - p) p) (nI 0)
def nuF (tx : Nat → Int32) (tl p : Nat) : Option Nat := if nuP tx tl p = blkF tx (tl - p) p ∨ (nuP tx tl p < tl ∧ digB (tx (nuP tx tl p)) = true) then some (nuP tx tl p) else none
/-- the spot, the number and the fault behind number() -/
def nmF (tx : Nat → Int32) (tl p : Nat) (ft : Option Nat) : Nat × Int32 × Option Nat := match ft with
  | some f => (blkF tx (tl - p) p, nI 0, some f)
  | none => (nuP tx tl p, nuV tx tl p, nuF tx tl p)
def sgF (tx : Nat → Int32) (tl p : Nat) (ft : Option Nat) : Nat × Option Nat := (blkF tx (tl - p) p + 1, match ft with
  | some f => some f
  | none => if blkF tx (tl - p) p = tl ∨ ¬ tx (blkF tx (tl - p) p) = nI 59 then some (blkF tx (tl - p) p) else none)
/-- an order from p on: the spot behind it, its fault, its kind and numbers -/
def roF (tx : Nat → Int32) (tl p : Nat) : Nat × Option Nat × Int32 × Int32 × Int32 :=
  if numOf (tx p) = 0 then (p, some p, tx p, nI 0, nI 0)
  else if numOf (tx p) = 2 then
    ((sgF tx tl (nmF tx tl (nmF tx tl (p + 1) none).1 (nmF tx tl (p + 1) none).2.2).1 (nmF tx tl (nmF tx tl (p + 1) none).1 (nmF tx tl (p + 1) none).2.2).2.2).1, (sgF tx tl (nmF tx tl (nmF tx tl (p + 1) none).1 (nmF tx tl (p + 1) none).2.2).1 (nmF tx tl (nmF tx tl (p + 1) none).1 (nmF tx tl (p + 1) none).2.2).2.2).2, tx p, (nmF tx tl (p + 1) none).2.1, (nmF tx tl (nmF tx tl (p + 1) none).1 (nmF tx tl (p + 1) none).2.2).2.1)
  else ((sgF tx tl (nmF tx tl (p + 1) none).1 (nmF tx tl (p + 1) none).2.2).1, (sgF tx tl (nmF tx tl (p + 1) none).1 (nmF tx tl (p + 1) none).2.2).2, tx p, (nmF tx tl (p + 1) none).2.1, nI 0)
theorem nmF_le {tx : Nat → Int32} {tl p : Nat} {ft : Option Nat} (h : p ≤ tl) : p ≤ (nmF tx tl p ft).1 ∧ (nmF tx tl p ft).1 ≤ tl := by
  have hb := blkF_le tx (tl - p) p
  cases ft with
  | some f => show p ≤ blkF tx (tl - p) p ∧ blkF tx (tl - p) p ≤ tl; omega
  | none =>
    show p ≤ nuP tx tl p ∧ nuP tx tl p ≤ tl
    unfold nuP
    have := ngP_le tx tl 3 (blkF tx (tl - p) p)
    have := ngP_tl tx tl 3 (blkF tx (tl - p) p) (by omega)
    omega
theorem nmF_f {tx : Nat → Int32} {tl p : Nat} {ft : Option Nat} (h : p ≤ tl) (hf : ∀ f, ft = some f → f ≤ tl) : ∀ f, (nmF tx tl p ft).2.2 = some f → f ≤ tl := by
  intro f e
  cases ft with
  | some g => exact hf f e
  | none =>
    have : nuF tx tl p = some f := e
    unfold nuF at this
    split at this
    · cases this; exact (nmF_le (ft := none) h).2
    · cases this
/-- all orders from p on: i of them were read -/
def rdsF (tx : Nat → Int32) (tl : Nat) : Nat → Nat → Option Nat × List (Int32 × Int32 × Int32)
  | 0, _ => (none, [])
  | f + 1, p => if p < tl then (match (roF tx tl p).2.1 with
      | some x => (some x, [])
      | none => ((rdsF tx tl f (blkF tx (tl - (roF tx tl p).1) (roF tx tl p).1)).1, (roF tx tl p).2.2 :: (rdsF tx tl f (blkF tx (tl - (roF tx tl p).1) (roF tx tl p).1)).2)) else (none, [])
