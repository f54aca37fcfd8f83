/-- the row of a new object -/
def rho0 : Nat → Int32 := fun j => if j = 0 then nI 16 else if 31 ≤ j ∧ j < 95 then -1 else 0
def v6 (a b c d e f : Nat) : Nat → Nat := fun i => match i with
  | 0 => a
  | 1 => b
  | 2 => c
  | 3 => d
  | 4 => e
  | _ => f
def v4 (a b c d : Nat) : Nat → Nat := fun i => match i with
  | 0 => a
  | 1 => b
  | 2 => c
  | _ => d
def v3 (a b c : Nat) : Nat → Nat := fun i => match i with
  | 0 => a
  | 1 => b
  | _ => c
def v10 (a b c d e f g h i j : Nat) : Nat → Nat := fun k => match k with
  | 0 => a
  | 1 => b
  | 2 => c
  | 3 => d
  | 4 => e
  | 5 => f
  | 6 => g
  | 7 => h
  | 8 => i
  | _ => j
def w6 (a b c d e f : Nat → Nat) : Nat → Nat → Nat := fun i => match i with
  | 0 => a
  | 1 => b
  | 2 => c
  | 3 => d
  | 4 => e
  | _ => f
def kL (c : Nat) : Nat → Int32 := fun j => if j < c then -1 else 0
theorem kL_0 : kL 0 = fun _ => 0 := by funext j; unfold kL; rw [if_neg (by omega)]
theorem kL_s (c : Nat) : upd (kL c) c (-1) = kL (c + 1) := by
  funext j
  unfold upd kL
  by_cases h : j = c
  · rw [if_pos h, if_pos (by omega)]
  · rw [if_neg h]
    by_cases h2 : j < c
    · rw [if_pos h2, if_pos (by omega)]
    · rw [if_neg h2, if_neg (by omega)]
theorem kL_k : kL 64 = kA rho0 := by
  funext j
  unfold kL kA rho0
  by_cases h : j < 64
  · rw [if_pos h, if_pos h, if_neg (by omega), if_pos (by omega)]
  · rw [if_neg h, if_neg h]
theorem z_v : (fun _ => 0 : Nat → Int32) = vA rho0 := by
  funext j
  unfold vA rho0
  by_cases h : j < 64
  · rw [if_pos h, if_neg (by omega), if_neg (by omega)]
  · rw [if_neg h]
theorem z_g (w : Nat) (hw : w < 3) : (fun _ => 0 : Nat → Int32) = gA w rho0 := by
  funext j
  unfold gA rho0
  by_cases h : j < 8
  · rw [if_pos h, if_neg (by omega), if_neg (by omega)]
  · rw [if_neg h]
def sL (c : Nat) : Nat → Int32 := fun j => if j = 0 then nI 16 else if 31 ≤ j ∧ j < 31 + c then -1 else 0
theorem sL_0 : upd (fun _ => 0) 0 (nI 16) = sL 0 := by
  funext j
  unfold upd sL
  by_cases h : j = 0
  · rw [if_pos h, if_pos h]
  · rw [if_neg h, if_neg h, if_neg (by omega)]
theorem sL_s {c : Nat} : upd (sL c) (31 + c) (-1) = sL (c + 1) := by
  funext j
  unfold upd sL
  by_cases h : j = 31 + c
  · rw [if_pos h, if_neg (by omega), if_pos (by omega)]
  · rw [if_neg h]
    by_cases h2 : j = 0
    · rw [if_pos h2, if_pos h2]
    · rw [if_neg h2, if_neg h2]
      by_cases h3 : 31 ≤ j ∧ j < 31 + c
      · rw [if_pos h3, if_pos (by omega)]
      · rw [if_neg h3, if_neg (by omega)]
theorem sL_e : sL 64 = rho0 := rfl
theorem inv0 : Inv rho0 16 0 := by
  have hk : ∀ c, c < 64 → rho0 (31 + c) = -1 := fun c hc => by unfold rho0; rw [if_neg (by omega), if_pos (by omega)]
  refine ⟨rfl, Or.inl rfl, rfl, by omega, fun c d h1 h2 h3 => absurd (hk c (by omega)) h3, fun c h1 h2 => absurd (hk c (by omega)) h2, fun c _ h2 => hk c h2, Or.inl rfl, fun j hj => ?_⟩
  unfold rho0; rw [if_neg (by omega), if_neg (by omega)]
theorem rA6 (a b c d e f : Nat → Nat) : va_up (va_up (va_up (va_up (va_up (va_up (fun _ => none) 0 (some (a 0))) 1 (some (b 0))) 2 (some (c 0))) 3 (some (d 0))) 4 (some (e 0))) 5 (some (f 0)) = rA (w6 a b c d e f) := by
  funext j
  match j with
  | 0 => rfl
  | 1 => rfl
  | 2 => rfl
  | 3 => rfl
  | 4 => rfl
  | 5 => rfl
  | j + 6 =>
    simp only [va_up, rA]
    rw [if_neg (by omega), if_neg (by omega), if_neg (by omega), if_neg (by omega), if_neg (by omega), if_neg (by omega), if_neg (by omega)]
