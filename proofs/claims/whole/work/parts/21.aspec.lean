/-! what the public calls answer: the answer, and how often was refused then -/
abbrev PR : Type := Int32 × (Nat → Int32)
def badR (rf : Nat → Int32) : Nat → Int32 := upd rf 0 (rf 0 + 1)
def noR (rf : Nat → Int32) : Nat → Int32 := upd rf 1 (rf 1 + 1)
def fulR (rf : Nat → Int32) : Nat → Int32 := upd rf 2 (rf 2 + 1)
def valOf (ρ : Nat → Int32) (k : Int32) : Nat → Int32
  | 0 => -1
  | n + 1 => if ρ (31 + n) = k then ρ (95 + n) else valOf ρ k n
theorem lastF_cases (ρ : Nat → Int32) (k : Int32) : ∀ n, (∃ c, c < n ∧ ρ (31 + c) = k ∧ lastF ρ k n = nI c ∧ valOf ρ k n = ρ (95 + c)) ∨ (lastF ρ k n = -1 ∧ ∀ c, c < n → ¬ ρ (31 + c) = k)
  | 0 => Or.inr ⟨rfl, fun c hc => absurd hc (Nat.not_lt_zero _)⟩
  | n + 1 => by
    by_cases e : ρ (31 + n) = k
    · exact Or.inl ⟨n, by omega, e, if_pos e, if_pos e⟩
    · rcases lastF_cases ρ k n with ⟨c, h1, h2, h3, h4⟩ | ⟨h1, h2⟩
      · exact Or.inl ⟨c, by omega, h2, (if_neg e).trans h3, (if_neg e).trans h4⟩
      · exact Or.inr ⟨(if_neg e).trans h1, fun c hc => by rcases Nat.lt_or_ge c n with z | z; exact h2 c z; rw [show c = n by omega]; exact e⟩
def spanB (a b : Int32) : Bool := wi a (nI 999) && wi b (nI 999) && decide (a ≤ b)
def valA (ρ rf : Nat → Int32) (n : Nat) (k : Int32) : PR := if wi k (nI 999) = true then (if lastF ρ k n = -1 then (-3, noR rf) else (valOf ρ k n, rf)) else (-2, badR rf)
def celA (ρ rf : Nat → Int32) (n : Nat) (k : Int32) : PR := if wi k (nI 999) = true then (lastF ρ k n, rf) else (-2, badR rf)
def atA (ρ rf : Nat → Int32) (n : Nat) (c : Int32) : PR := if wi c (nI (n - 1)) = true then (ρ (31 + c.toNatClampNeg), rf) else (-2, badR rf)
def rnkA (ρ rf : Nat → Int32) (n : Nat) (k : Int32) : PR := if wi k (nI 1000) = true then (nI (blw ρ k n), rf) else (-2, badR rf)
def keyA (ρ rf : Nat → Int32) (n : Nat) (i : Int32) : PR := if i < 0 then (-2, badR rf) else (keyNF ρ i.toNatClampNeg n, rf)
def scnA (ρ rf : Nat → Int32) (n : Nat) (a b w : Int32) : PR := if (spanB a b && wi w (nI 2)) = true then (if w = 0 then nI (blw ρ (b + 1) n) - nI (blw ρ a n) else if w = nI 1 then vsum ρ a b n else crdF ρ a b n, rf) else (-2, badR rf)
def idxA (ρ rf : Nat → Int32) (n : Nat) (g : Int32) : PR := if wi g (nI (n / 4 - 1)) = true then (lstF ρ g.toNatClampNeg, rf) else (-2, badR rf)
def winA (ρ rf : Nat → Int32) (n : Nat) (i j w : Int32) : PR := if (wi i (nI (topN n)) && wi w (nI 2)) = true then (if wi j (nI (n / (4 * 2 ^ i.toNatClampNeg) - 1)) = true then (if w = 0 then nI (cnt ρ (j.toNatClampNeg * (4 * 2 ^ i.toNatClampNeg)) (4 * 2 ^ i.toNatClampNeg)) else if w = nI 1 then nI (mostN n i.toNatClampNeg) else nI (leastN n i.toNatClampNeg), rf) else (-2, badR rf)) else (-2, badR rf)
def countF (ρ : Nat → Int32) (n t : Nat) : Int32 := if t = 0 then ρ 0 else if t = 1 then nI (cnt ρ 0 n) else ρ (t - 1)
def cntA (ρ rf : Nat → Int32) (n : Nat) (w : Int32) : PR := if wi w (nI 6) = true then (countF ρ n w.toNatClampNeg, rf) else (-2, badR rf)
def logA (ρ rf : Nat → Int32) (g : Nat) (i w : Int32) : PR := if i < 0 then (-2, badR rf) else if wi w (nI 2) = true then (logF ρ g i.toNatClampNeg w.toNatClampNeg, rf) else (-2, badR rf)
def toldF (rf : Nat → Int32) (tl h t : Nat) : Int32 := if t < 3 then rf t else if t = 3 then nI tl else nI h
def tldA (rf : Nat → Int32) (tl h : Nat) (w : Int32) : PR := if wi w (nI 4) = true then (toldF rf tl h w.toNatClampNeg, rf) else (-2, badR rf)
abbrev gapW (cA : ClassId) (b q p t : Nat → Nat) (rd : Nat) (tx : Nat → Int32) (tl : Nat) (rf : Nat → Int32) : va_W := [(b 0, .inr (4, [.ref (q 0), .ref (p 0), .ref (t 0), .ref rd, .ref (b 1), .int (nI tl), .ref (b 2)])), (b 1, .inl (cA, 120, .inl tx)), (b 2, .inl (cA, 3, .inl rf))]
theorem ne_t {b : Bool} (h : b = false) : ¬ b = true := by rw [h]; decide
theorem n16 {n : Nat} (h3 : n = 16 ∨ n = 32 ∨ n = 64) : n ≤ 64 ∧ 16 ≤ n := by omega
theorem idx_lt {n i j : Nat} (h3 : n = 16 ∨ n = 32 ∨ n = 64) (hi : i ≤ topN n) (hj : j ≤ n / (4 * 2 ^ i) - 1) : j * (4 * 2 ^ i) + 4 * 2 ^ i ≤ 64 := by
  have hp : i = 0 ∨ i = 1 ∨ i = 2 ∨ i = 3 ∨ i = 4 := by have := top_le (sz := n); omega
  rcases h3 with rfl | rfl | rfl
  · have : i ≤ 2 := hi
    rcases hp with rfl | rfl | rfl | rfl | rfl <;> omega
  · have : i ≤ 3 := hi
    rcases hp with rfl | rfl | rfl | rfl | rfl <;> omega
  · rcases hp with rfl | rfl | rfl | rfl | rfl <;> omega
theorem pow_div {n i : Nat} (h3 : n = 16 ∨ n = 32 ∨ n = 64) (hi : i ≤ topN n) : 1 ≤ n / (4 * 2 ^ i) := by
  have hp : i = 0 ∨ i = 1 ∨ i = 2 ∨ i = 3 ∨ i = 4 := by have := top_le (sz := n); omega
  rcases h3 with rfl | rfl | rfl
  · have : i ≤ 2 := hi
    rcases hp with rfl | rfl | rfl | rfl | rfl <;> omega
  · have : i ≤ 3 := hi
    rcases hp with rfl | rfl | rfl | rfl | rfl <;> omega
  · rcases hp with rfl | rfl | rfl | rfl | rfl <;> omega
theorem c_ge0 {i : Int32} (h : ¬ i < 0) : ∃ a : Nat, a < 2 ^ 31 ∧ i = nI a := nI_ex (Int32.not_lt.mp h)
theorem le_b1 {a b : Int32} (ha : wi b (nI 999) = true) (h : a ≤ b) : a ≤ b + 1 := by
  obtain ⟨m, hm, rfl⟩ := wi_ex (by decide) ha
  rw [nI_1]
  exact Int32.le_trans h ((nI_le_iff (by omega) (by omega)).mpr (by omega))
