abbrev mdW (cA : ClassId) (m : Nat → Nat) (ρ P : Nat → Int32) (hs : Int32) (α rf K V C : Nat → Int32) (my cm : Int32) (tx : Nat → Int32) (tl sp : Int32) (od : Nat → Int32) (no ft : Int32) : va_W := [(m 0, .inr (5, [.int (nI 0), .ref (m 1), .ref (m 2), .int hs, .ref (m 3), .ref (m 4), .ref (m 5), .ref (m 6), .ref (m 7), .int my, .int cm, .ref (m 8), .int tl, .int sp, .ref (m 9), .int no, .int ft])), (m 1, .inl (cA, 159, .inl ρ)), (m 2, .inl (cA, 795, .inl P)), (m 3, .inl (cA, 159, .inl α)), (m 4, .inl (cA, 3, .inl rf)), (m 5, .inl (cA, 64, .inl K)), (m 6, .inl (cA, 64, .inl V)), (m 7, .inl (cA, 64, .inl C)), (m 8, .inl (cA, 120, .inl tx)), (m 9, .inl (cA, 180, .inl od))]
def inB (v lo hi : Int32) : Bool := decide (lo ≤ v ∧ v ≤ hi)
theorem inB_t {x lo m : Int32} (h0 : ¬ x < lo) (h1 : ¬ m < x) : inB x lo m = true := decide_eq_true ⟨Int32.not_lt.mp h0, Int32.not_lt.mp h1⟩
theorem inB_f0 {x lo m : Int32} (h0 : x < lo) : inB x lo m = false := decide_eq_false (fun h => Int32.not_lt.mpr h.1 h0)
theorem inB_f1 {x lo m : Int32} (h1 : m < x) : inB x lo m = false := decide_eq_false (fun h => Int32.not_lt.mpr h.2 h1)
theorem inB_0 (x m : Int32) : inB x (nI 0) m = wi x m := rfl
theorem lastF_s1 {ρ : Nat → Int32} {k : Int32} {n : Nat} (h : ρ (31 + n) = k) : lastF ρ k (n + 1) = nI n := if_pos h
theorem lastF_s0 {ρ : Nat → Int32} {k : Int32} {n : Nat} (h : ¬ ρ (31 + n) = k) : lastF ρ k (n + 1) = lastF ρ k n := if_neg h
theorem segF_s1 {ρ : Nat → Int32} {k : Int32} {n : Nat} (h : ¬ ρ (31 + n) = -1) (h2 : ρ (31 + n) < k) : segF ρ k (n + 1) = n / 4 := if_pos ⟨h, h2⟩
theorem segF_s0 {ρ : Nat → Int32} {k : Int32} {n : Nat} (h : ¬ (¬ ρ (31 + n) = -1 ∧ ρ (31 + n) < k)) : segF ρ k (n + 1) = segF ρ k n := if_neg h
/-- the least key of a segment, from behind -/
def lsbF (ρ : Nat → Int32) (g : Nat) : Nat → Int32
  | 0 => -1
  | d + 1 => if ρ (31 + (4 * g + (3 - d))) = -1 then lsbF ρ g d else ρ (31 + (4 * g + (3 - d)))
theorem lsb_4 (ρ : Nat → Int32) (g : Nat) : lsbF ρ g 4 = lstF ρ g := by
  by_cases h0 : ρ (31 + 4 * g) = -1 <;> by_cases h1 : ρ (31 + (4 * g + 1)) = -1 <;> by_cases h2 : ρ (31 + (4 * g + 2)) = -1 <;> by_cases h3 : ρ (31 + (4 * g + 3)) = -1 <;> simp [lsbF, lstF, h0, h1, h2, h3]
theorem m1_lt {a : Nat} (h : a < 2 ^ 31) : nI a + Int32.ofInt (-1) < nI a := by
  rcases Nat.eq_zero_or_pos a with rfl | h0
  · decide +kernel
  · rw [nI_m1 h0]; exact (nI_lt_iff (by omega) h).mpr (by omega)
def scN (ρ : Nat → Int32) (a b : Int32) : Nat → Nat
  | 0 => 0
  | n + 1 => if a ≤ ρ (31 + n) ∧ ρ (31 + n) ≤ b then scN ρ a b n + 1 else scN ρ a b n
def scF (ρ : Nat → Int32) (a b : Int32) : Nat → Int32
  | 0 => -1
  | n + 1 => if a ≤ ρ (31 + n) ∧ ρ (31 + n) ≤ b then (if scN ρ a b n = 0 then nI n else scF ρ a b n) else scF ρ a b n
def scL (ρ : Nat → Int32) (a b : Int32) : Nat → Int32
  | 0 => -1
  | n + 1 => if a ≤ ρ (31 + n) ∧ ρ (31 + n) ≤ b then nI n else scL ρ a b n
theorem scN_le (ρ : Nat → Int32) (a b : Int32) : ∀ n, scN ρ a b n ≤ n
  | 0 => Nat.le_refl _
  | n + 1 => by have := scN_le ρ a b n; unfold scN; split <;> omega
