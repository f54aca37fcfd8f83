def rfU (c : Int32) (rf : Nat → Int32) : Nat → Int32 := if c = -2 then badR rf else if c = -3 then noR rf else if c = -4 then fulR rf else rf
theorem rfP_cases (ρ : Nat → Int32) (n : Nat) (k v : Int32) : rfP ρ n k v = 0 ∨ rfP ρ n k v = -2 ∨ rfP ρ n k v = -4 := by
  unfold rfP
  split
  · split
    · split
      · exact Or.inl rfl
      · exact Or.inr (Or.inr rfl)
    · exact Or.inl rfl
  · exact Or.inr (Or.inl rfl)
theorem rfT_cases (ρ : Nat → Int32) (n : Nat) (k : Int32) : rfT ρ n k = 0 ∨ rfT ρ n k = -2 ∨ rfT ρ n k = -3 := by
  unfold rfT
  split
  · split
    · exact Or.inr (Or.inr rfl)
    · exact Or.inl rfl
  · exact Or.inr (Or.inl rfl)
theorem rfM_cases (x : Int32) : rfM x = 0 ∨ rfM x = -2 := by
  unfold rfM
  split
  · exact Or.inl rfl
  · exact Or.inr rfl
theorem rfD_cases (x y : Int32) : rfD x y = 0 ∨ rfD x y = -2 := by
  unfold rfD
  split
  · exact Or.inl rfl
  · exact Or.inr rfl
theorem rfP_hr {ρ : Nat → Int32} {n : Nat} {k v : Int32} (h : rfP ρ n k v = 0) : ¬ k = -1 ∧ (lastF ρ k n = -1 → hrB ρ n k = true) := by
  unfold rfP at h
  split at h
  · next e =>
    simp only [Bool.and_eq_true] at e
    refine ⟨wi_m1 e.1, fun e1 => ?_⟩
    rw [if_pos e1] at h
    split at h
    · next e2 => exact e2
    · exact absurd h (by decide +kernel)
  · exact absurd h (by decide +kernel)
theorem rfT_0 {ρ : Nat → Int32} {n : Nat} {k : Int32} (h : rfT ρ n k = 0) : ¬ k = -1 ∧ ¬ lastF ρ k n = -1 := by
  unfold rfT at h
  split at h
  · next e =>
    refine ⟨wi_m1 e, fun e1 => ?_⟩
    rw [if_pos e1] at h
    exact absurd h (by decide +kernel)
  · exact absurd h (by decide +kernel)
/-- the states' cells behind a call that was refused with c, or done (c = 0) -/
abbrev stK (cA cB : ClassId) (t : Nat → Nat) (r : Nat → Nat → Nat) (σ : Nat → Nat → Int32) (h : Nat) (ρ : Nat → Int32) (c : Int32) : va_W := stW cA cB t (if c = 0 then kpR r h else r) (if c = 0 then kpS σ h ρ else σ) (nI (if c = 0 then kpH h else h))
/-- one past behind one more -/
def lv2 (Q α : Nat → Int32) (e c : Nat) : Nat → Int32 := fun j => if 159 * e ≤ j ∧ j < 159 * e + c then α (j - 159 * e) else Q j
theorem lv2_0 (Q α : Nat → Int32) (e : Nat) : lv2 Q α e 0 = Q := by funext j; unfold lv2; rw [if_neg (by omega)]
theorem lv2_s (Q α : Nat → Int32) (e c : Nat) : upd (lv2 Q α e c) (159 * e + c) (α c) = lv2 Q α e (c + 1) := by
  funext j
  unfold upd lv2
  by_cases h : j = 159 * e + c
  · subst h
    rw [if_pos rfl, if_pos (by omega)]
    congr 1; omega
  · rw [if_neg h]
    by_cases h2 : 159 * e ≤ j ∧ j < 159 * e + c
    · rw [if_pos h2, if_pos (by omega)]
    · rw [if_neg h2, if_neg (by omega)]
def lv1 (P : Nat → Int32) (c : Nat) : Nat → Int32 := fun j => if j < c then P (j + 159) else P j
theorem lv1_0 (P : Nat → Int32) : lv1 P 0 = P := by funext j; unfold lv1; rw [if_neg (by omega)]
theorem lv1_s (P : Nat → Int32) (c : Nat) : upd (lv1 P c) c (lv1 P c (c + 159)) = lv1 P (c + 1) := by
  funext j
  unfold upd lv1
  by_cases h : j = c
  · subst h
    rw [if_pos rfl, if_neg (by omega), if_pos (by omega)]
  · rw [if_neg h]
    by_cases h2 : j < c
    · rw [if_pos h2, if_pos (by omega)]
    · rw [if_neg h2, if_neg (by omega)]
theorem lvP_lt {P α : Nat → Int32} {h : Nat} (hh : h < 5) : lv2 P α h 159 = lvP P h α := by
  funext j
  unfold lv2 lvP kpH
  rw [if_pos hh, if_pos hh, Nat.add_sub_cancel]
theorem lvP_ge {P α : Nat → Int32} : lv2 (lv1 P 636) α 4 159 = lvP P 5 α := by
  funext j
  rfl
theorem kp_lt {h : Nat} (hh : h < 5) : kpH h = h + 1 := if_pos hh
/-- going back: the past's row at e -/
def bkR (P ρ : Nat → Int32) (e c : Nat) : Nat → Int32 := fun j => if j < c then P (159 * e + j) else ρ j
theorem bk_0 (P ρ : Nat → Int32) (e : Nat) : bkR P ρ e 0 = ρ := by funext j; unfold bkR; rw [if_neg (by omega)]
theorem bk_s (P ρ : Nat → Int32) (e c : Nat) : upd (bkR P ρ e c) c (P (159 * e + c)) = bkR P ρ e (c + 1) := by
  funext j
  unfold upd bkR
  by_cases h : j = c
  · subst h; rw [if_pos rfl, if_pos (by omega)]
  · rw [if_neg h]
    by_cases h2 : j < c
    · rw [if_pos h2, if_pos (by omega)]
    · rw [if_neg h2, if_neg (by omega)]
