theorem cnt_s0 {ρ : Nat → Int32} {a i : Nat} (h : ρ (31 + (a + i)) = -1) : cnt ρ a (i + 1) = cnt ρ a i := by show cnt ρ a i + _ = _; rw [if_pos h]; rfl
theorem cnt_s1 {ρ : Nat → Int32} {a i : Nat} (h : ¬ ρ (31 + (a + i)) = -1) : cnt ρ a (i + 1) = cnt ρ a i + 1 := by show cnt ρ a i + _ = _; rw [if_neg h]
theorem cnt0_s0 {ρ : Nat → Int32} {i : Nat} (h : ρ (31 + i) = -1) : cnt ρ 0 (i + 1) = cnt ρ 0 i := cnt_s0 (by rw [Nat.zero_add]; exact h)
theorem cnt0_s1 {ρ : Nat → Int32} {i : Nat} (h : ¬ ρ (31 + i) = -1) : cnt ρ 0 (i + 1) = cnt ρ 0 i + 1 := cnt_s1 (by rw [Nat.zero_add]; exact h)
theorem blw_s0 {ρ : Nat → Int32} {k : Int32} {i : Nat} (h : ρ (31 + i) = -1) : blw ρ k (i + 1) = blw ρ k i := by show blw ρ k i + _ = _; rw [if_pos h]; rfl
theorem blw_s1 {ρ : Nat → Int32} {k : Int32} {i : Nat} (h : ¬ ρ (31 + i) = -1) (h2 : ρ (31 + i) < k) : blw ρ k (i + 1) = blw ρ k i + 1 := by show blw ρ k i + _ = _; rw [if_neg h, if_pos h2]
theorem blw_s2 {ρ : Nat → Int32} {k : Int32} {i : Nat} (h : ¬ ρ (31 + i) = -1) (h2 : ¬ ρ (31 + i) < k) : blw ρ k (i + 1) = blw ρ k i := by show blw ρ k i + _ = _; rw [if_neg h, if_neg h2]; rfl
theorem vsum_s1 {ρ : Nat → Int32} {a b : Int32} {i : Nat} (h : a ≤ ρ (31 + i)) (h2 : ρ (31 + i) ≤ b) : vsum ρ a b (i + 1) = vsum ρ a b i + ρ (95 + i) := if_pos ⟨h, h2⟩
theorem vsum_s0 {ρ : Nat → Int32} {a b : Int32} {i : Nat} (h : ¬ (a ≤ ρ (31 + i) ∧ ρ (31 + i) ≤ b)) : vsum ρ a b (i + 1) = vsum ρ a b i := if_neg h
theorem lstF_at {ρ : Nat → Int32} {g : Nat} : ∀ (i : Nat), (∀ d, d < i → ρ (31 + (4 * g + d)) = -1) → i < 4 → ¬ ρ (31 + (4 * g + i)) = -1 → lstF ρ g = ρ (31 + (4 * g + i))
  | 0, _, _, h => by unfold lstF; rw [if_pos (by simpa using h)]; rfl
  | 1, hd, _, h => by unfold lstF; rw [if_neg (fun z => z (by simpa using hd 0 (by omega))), if_pos h]
  | 2, hd, _, h => by unfold lstF; rw [if_neg (fun z => z (by simpa using hd 0 (by omega))), if_neg (fun z => z (hd 1 (by omega))), if_pos h]
  | 3, hd, _, h => by unfold lstF; rw [if_neg (fun z => z (by simpa using hd 0 (by omega))), if_neg (fun z => z (hd 1 (by omega))), if_neg (fun z => z (hd 2 (by omega)))]
  | i + 4, _, h, _ => absurd h (by omega)
theorem lstF_none {ρ : Nat → Int32} {g : Nat} (hd : ∀ d, d < 4 → ρ (31 + (4 * g + d)) = -1) : lstF ρ g = -1 := by
  unfold lstF
  rw [if_neg (fun z => z (by simpa using hd 0 (by omega))), if_neg (fun z => z (hd 1 (by omega))), if_neg (fun z => z (hd 2 (by omega))), hd 3 (by omega)]
theorem wi_lt {i m : Nat} (hi : i < 2 ^ 31) (hm : m < 2 ^ 31) : wi (nI i) (nI m - nI 1) = decide (i < m) := by
  rcases Nat.eq_zero_or_pos m with rfl | h
  · rw [show nI 0 - nI 1 = -1 by decide +kernel]
    rw [show decide (i < 0) = false by simp]
    exact wi_f1 (by have := nI_nn hi; exact Int32.lt_of_lt_of_le (by decide +kernel) this)
  · rw [nI_sb (by omega), wi_n hi (by omega)]
    congr 1
    exact propext ⟨fun _ => by omega, fun _ => by omega⟩
def logF (ρ : Nat → Int32) (m i w : Nat) : Int32 := if i < m then ρ (7 + 3 * i + w) else -1
/-- the rows of the log one place on, from the end down to i -/
def shf (f : Nat → Int32) (i : Nat) : Nat → Int32 := fun j => if i < j ∧ j < 8 then f (j - 1) else f j
theorem shf_7 (f : Nat → Int32) : shf f 7 = f := by
  funext j
  unfold shf
  rw [if_neg (by omega)]
theorem shf_step {f : Nat → Int32} {i : Nat} (h0 : 0 < i) (h : i ≤ 7) : upd (shf f i) i (shf f i (i - 1)) = shf f (i - 1) := by
  funext j
  unfold upd
  by_cases e : j = i
  · subst e
    rw [if_pos rfl]
    unfold shf
    rw [if_neg (by omega), if_pos (by omega)]
  · rw [if_neg e]
    unfold shf
    by_cases e2 : i < j ∧ j < 8
    · rw [if_pos e2, if_pos (by omega)]
    · rw [if_neg e2, if_neg (by omega)]
/-- a spacing is noted: log, spacings, moves -/
def noteF (ρ : Nat → Int32) (g : Nat) (a b m : Int32) : Nat → Int32 := fun j => if j = 2 then ρ 2 + 1 else if j = 3 then ρ 3 + m else if j = 6 then nI (min (g + 1) 8) else if j = 7 then a else if j = 8 then b else if j = 9 then m else if 10 ≤ j ∧ j < 31 then ρ (j - 3) else ρ j
theorem note_k {ρ : Nat → Int32} {g : Nat} {a b m : Int32} : kA ρ = kA (noteF ρ g a b m) := by
  funext j
  unfold kA noteF
  by_cases h : j < 64
  · rw [if_pos h, if_pos h, if_neg (by omega), if_neg (by omega), if_neg (by omega), if_neg (by omega), if_neg (by omega), if_neg (by omega), if_neg (by omega)]
  · rw [if_neg h, if_neg h]
theorem note_v {ρ : Nat → Int32} {g : Nat} {a b m : Int32} : vA ρ = vA (noteF ρ g a b m) := by
  funext j
  unfold vA noteF
  by_cases h : j < 64
  · rw [if_pos h, if_pos h, if_neg (by omega), if_neg (by omega), if_neg (by omega), if_neg (by omega), if_neg (by omega), if_neg (by omega), if_neg (by omega)]
  · rw [if_neg h, if_neg h]
theorem note_g {ρ : Nat → Int32} {g : Nat} {a b m : Int32} {w : Nat} (hw : w < 3) {x : Int32} (hx : x = noteF ρ g a b m (7 + w)) : upd (shf (gA w ρ) 0) 0 x = gA w (noteF ρ g a b m) := by
  funext j
  unfold upd
  by_cases e : j = 0
  · subst e
    rw [if_pos rfl, hx, gA_lt (by omega)]
  · rw [if_neg e]
    unfold shf
    by_cases h : j < 8
    · rw [if_pos (by omega), gA_lt (by omega), gA_lt h]
      unfold noteF
      rw [if_neg (by omega), if_neg (by omega), if_neg (by omega), if_neg (by omega), if_neg (by omega), if_neg (by omega), if_pos (by omega)]
      congr 1
      omega
    · rw [if_neg (by omega)]
      unfold gA
      rw [if_neg h, if_neg h]
