def kpR (r : Nat → Nat → Nat) (h : Nat) : Nat → Nat → Nat := if h < 5 then r else rot r
def kpS (σ : Nat → Nat → Int32) (h : Nat) (ρ : Nat → Int32) : Nat → Nat → Int32 := if h < 5 then ups σ h ρ else rot (ups σ h ρ)
def kpH (h : Nat) : Nat := if h < 5 then h + 1 else 5
theorem kp_w {cA cB : ClassId} {t : Nat → Nat} {r : Nat → Nat → Nat} {σ : Nat → Nat → Int32} {h : Nat} {ρ : Nat → Int32} : (if h < 5 then stW cA cB t r (ups σ h ρ) (nI (h + 1)) else stW cA cB t (rot r) (rot (ups σ h ρ)) (nI 5)) = stW cA cB t (kpR r h) (kpS σ h ρ) (nI (kpH h)) := by
  unfold kpR kpS kpH
  by_cases e : h < 5
  · rw [if_pos e, if_pos e, if_pos e, if_pos e]
  · rw [if_neg e, if_neg e, if_neg e, if_neg e]
def typA (tx rf : Nat → Int32) (tl : Nat) (c : Int32) : Int32 × (Nat → Int32) × Nat × (Nat → Int32) := if wi c (nI 127) = true then (if tl < 120 then (nI (tl + 1), upd tx tl c, tl + 1, rf) else (-4, tx, tl, fulR rf)) else (-2, tx, tl, badR rf)
def repR (ρ : Nat → Int32) (k v : Int32) : Nat → Nat → Int32
  | 0 => ρ
  | n + 1 => if ρ (31 + n) = k then upd ρ (95 + n) v else repR ρ k v n
theorem repR_at {ρ : Nat → Int32} {k v : Int32} {c : Nat} (hk : ρ (31 + c) = k) : ∀ {n : Nat}, (∀ d, d < n → ρ (31 + d) = k → d = c) → c < n → repR ρ k v n = upd ρ (95 + c) v
  | 0, _, h => absurd h (Nat.not_lt_zero _)
  | n + 1, hu, h => by
    unfold repR
    by_cases e : ρ (31 + n) = k
    · rw [if_pos e, hu n (Nat.lt_succ_self n) e]
    · rw [if_neg e]
      exact repR_at hk (fun d hd => hu d (by omega)) (by rcases Nat.lt_or_ge c n with h1 | h1; exact h1; exact absurd hk (by rw [show c = n by omega]; exact e))
theorem upd_id {ρ : Nat → Int32} {j : Nat} {x : Int32} (h : ρ j = x) : upd ρ j x = ρ := by
  funext i
  unfold upd
  by_cases e : i = j
  · rw [if_pos e, e, h]
  · rw [if_neg e]
def putM (ρ : Nat → Int32) (n : Nat) (k : Int32) : Int32 := if lastF ρ k n = -1 then nI (comeM ρ n k) else valOf ρ k n + nI 100
def putR (ρ : Nat → Int32) (n g : Nat) (k v : Int32) : Nat → Int32 := if lastF ρ k n = -1 then comeR ρ n g k v else repR ρ k v n
def takR (ρ : Nat → Int32) (n g : Nat) (k : Int32) : Nat → Int32 := goR ρ n g (lastF ρ k n).toNatClampNeg
/-- why a put is refused: 0, if it isn't -/
def rfP (ρ : Nat → Int32) (n : Nat) (k v : Int32) : Int32 := if (wi k (nI 999) && wi v (nI 99)) = true then (if lastF ρ k n = -1 then (if hrB ρ n k = true then 0 else -4) else 0) else -2
def rfT (ρ : Nat → Int32) (n : Nat) (k : Int32) : Int32 := if wi k (nI 999) = true then (if lastF ρ k n = -1 then -3 else 0) else -2
def rfD (a b : Int32) : Int32 := if spanB a b = true then 0 else -2
def rfM (n : Int32) : Int32 := if wi n (nI 1) = true then 0 else -2
