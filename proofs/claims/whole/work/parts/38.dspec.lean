def dAns (ρ : Nat → Int32) (a b : Int32) : Int32 := if rfD a b = 0 then nI (drN (b.toNatClampNeg + 1 - a.toNatClampNeg) a.toNatClampNeg ρ) else rfD a b
def dRow (ρ : Nat → Int32) (a b : Int32) : Nat → Int32 := if rfD a b = 0 then drF (b.toNatClampNeg + 1 - a.toNatClampNeg) a.toNatClampNeg ρ else ρ
theorem rfD_ex {a b : Int32} (h : rfD a b = 0) : ∃ x y : Nat, x ≤ y ∧ y ≤ 999 ∧ a = nI x ∧ b = nI y := by
  unfold rfD at h
  split at h
  · next e =>
    unfold spanB at e
    simp only [Bool.and_eq_true, decide_eq_true_eq] at e
    obtain ⟨x, hx, rfl⟩ := wi_ex (by decide) e.1.1
    obtain ⟨y, hy, rfl⟩ := wi_ex (by decide) e.1.2
    exact ⟨x, y, (nI_le_iff (by omega) (by omega)).mp e.2, hy, rfl, rfl⟩
  · exact absurd h (by decide +kernel)
theorem drN_le {ρ : Nat → Int32} {n g x y : Nat} (hI : Inv ρ n g) (hxy : x ≤ y) (hy : y ≤ 999) : drN (y + 1 - x) x ρ ≤ 64 := by
  have h := drop_eq (y + 1 - x) x _ ρ n g hI (by omega) rfl
  have := blw_le ρ (nI (x + (y + 1 - x))) n
  have := hI.2.1
  omega
theorem drF_inv : ∀ (m k : Nat) (ρ : Nat → Int32) (n g : Nat), Inv ρ n g → k + m ≤ 1000 → ∃ n' g', Inv (drF m k ρ) n' g'
  | 0, k, ρ, n, g, hI, _ => ⟨n, g, hI⟩
  | m + 1, k, ρ, n, g, hI, hm => by
    show ∃ n' g', Inv (if lastF ρ (nI k) (nOf ρ) = -1 then drF m (k + 1) ρ else drF m (k + 1) (goQ ρ (lastF ρ (nI k) (nOf ρ)).toNatClampNeg)) n' g'
    rw [hI.n]
    rcases lastF_cases ρ (nI k) n with ⟨c, hc, hck, e1, -⟩ | ⟨e1, e2⟩
    · have h3 := hI.2.1
      rw [e1, if_neg (nI_ne_m1 (by omega)), nI_clamp (by omega)]
      obtain ⟨n', g', hI', -⟩ := goR_all hI hc (by rw [hck]; exact nI_ne_m1 (by omega))
      have hgo : goQ ρ c = goR ρ n g c := by unfold goQ; rw [hI.n, hI.g]
      rw [hgo]
      exact drF_inv m (k + 1) _ n' g' hI' (by omega)
    · rw [if_pos e1]; exact drF_inv m (k + 1) ρ n g hI (by omega)
