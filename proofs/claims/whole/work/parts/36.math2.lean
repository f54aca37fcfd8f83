/-- the last cell whose key is below k, and its segment -/
theorem segF_last (ρ : Nat → Int32) (k : Int32) : ∀ n, ((∀ c, c < n → ¬ ρ (31 + c) = -1 → ¬ ρ (31 + c) < k) ∧ segF ρ k n = 0) ∨ ∃ c, c < n ∧ ¬ ρ (31 + c) = -1 ∧ ρ (31 + c) < k ∧ (∀ d, c < d → d < n → ¬ ρ (31 + d) = -1 → ¬ ρ (31 + d) < k) ∧ segF ρ k n = c / 4
  | 0 => Or.inl ⟨fun c hc => absurd hc (Nat.not_lt_zero _), rfl⟩
  | n + 1 => by
    by_cases e : ¬ ρ (31 + n) = -1 ∧ ρ (31 + n) < k
    · exact Or.inr ⟨n, by omega, e.1, e.2, fun d h1 h2 => by omega, if_pos e⟩
    · have hsg : segF ρ k (n + 1) = segF ρ k n := if_neg e
      rw [hsg]
      rcases segF_last ρ k n with ⟨h1, h2⟩ | ⟨c, h1, h2, h3, h4, h5⟩
      · exact Or.inl ⟨fun c hc hk z => by rcases Nat.lt_or_ge c n with y | y; exact h1 c y hk z; rw [show c = n by omega] at hk z; exact e ⟨hk, z⟩, h2⟩
      · exact Or.inr ⟨c, by omega, h2, h3, fun d hd1 hd2 hk z => by rcases Nat.lt_or_ge d n with y | y; exact h4 d hd1 y hk z; rw [show d = n by omega] at hk z; exact e ⟨hk, z⟩, h5⟩
theorem wst_in (c i : Nat) : wst (c / 4) i ≤ c ∧ c < wst (c / 4) i + 4 * 2 ^ i := by
  rw [← wst_c]
  have hp : 0 < 4 * 2 ^ i := Nat.mul_pos (by decide) (Nat.pow_pos (by decide))
  have h1 := Nat.div_mul_le_self c (4 * 2 ^ i)
  have h2 := Nat.lt_div_mul_add hp (a := c)
  exact ⟨h1, h2⟩
theorem insP_hi {f : Nat → Int32} {k : Int32} : ∀ {h : Nat} (j : Nat), insP f k h ≤ j → j < h → k < f j
  | 0, j, _, h2 => absurd h2 (Nat.not_lt_zero _)
  | h + 1, j, h1, h2 => by
    unfold insP at h1
    split at h1
    · next e =>
      rcases Nat.eq_or_lt_of_le (Nat.le_of_lt_succ h2) with z | z
      · rw [z]; exact e
      · exact insP_hi j h1 z
    · omega
theorem insP_lo {f : Nat → Int32} {k : Int32} : ∀ {h : Nat}, 0 < insP f k h → ¬ k < f (insP f k h - 1)
  | 0, h => absurd h (Nat.lt_irrefl 0)
  | h + 1, hp => by
    have e0 : insP f k (h + 1) = if k < f h then insP f k h else h + 1 := rfl
    by_cases e : k < f h
    · rw [if_pos e] at e0
      rw [e0] at hp ⊢
      exact insP_lo hp
    · rw [if_neg e] at e0
      rw [e0, Nat.add_sub_cancel]; exact e
/-- a key that wasn't there comes into a window that holds its place -/
theorem inR_inv {ρ ρ0 : Nat → Int32} {n N g a m n0 : Nat} {k v : Int32} (hI : Inv ρ n g) (hm : a + m ≤ n) (hkv : OKv k v) (hno : ∀ c, c < n → ¬ ρ (31 + c) = k)
    (hsz : ρ0 0 = nI N) (h3 : N = 16 ∨ N = 32 ∨ N = 64) (hmd : ρ0 1 = 0 ∨ ρ0 1 = 1) (hz : Zro ρ0) (hbe : ∀ c, N ≤ c → c < 64 → ρ0 (31 + c) = -1) (hw : a + n0 ≤ N) (hh : cnt ρ a m + 1 ≤ n0) (hemp : ∀ c, a ≤ c → c < a + n0 → ρ0 (31 + c) = -1)
    (hout : ∀ c, c < N → ¬ ρ0 (31 + c) = -1 → c < n ∧ (c < a ∨ a + m ≤ c) ∧ ρ (31 + c) = ρ0 (31 + c) ∧ OKv (ρ0 (31 + c)) (ρ0 (95 + c))) (hs0 : Srt ρ0 N) (hlk : ∀ c, c < a → ¬ ρ0 (31 + c) = -1 → ρ0 (31 + c) < k) (hhk : ∀ c, a + n0 ≤ c → c < N → ¬ ρ0 (31 + c) = -1 → k < ρ0 (31 + c)) (hmn : m ≤ n0) : Inv (inR ρ ρ0 g a m n0 k v) N (min (g + 1) 8) := by
  obtain ⟨h1, h2, h3', h4, h5, h6, h7, h8, h9⟩ := hI
  have key : ∀ j, j < cnt ρ a m → ∃ i, i < m ∧ ¬ ρ (31 + (a + i)) = -1 ∧ cnt ρ a i = j ∧ tkG ρ (kv ρ) a Zr m j = ρ (31 + (a + i)) ∧ tkG ρ (vv ρ) a Zr m j = ρ (95 + (a + i)) := by
    intro j hj
    obtain ⟨i, e1, e2, e3⟩ := tk_ex hj
    exact ⟨i, e1, e2, e3, by rw [← e3]; exact tk_at e1 e2, by rw [← e3]; exact tk_at e1 e2⟩
  have kinc : ∀ i j, i < j → j < cnt ρ a m → tkG ρ (kv ρ) a Zr m i < tkG ρ (kv ρ) a Zr m j := by
    intro i j hij hj
    obtain ⟨c, e1, e2, e3, e4, e5⟩ := key i (by omega)
    obtain ⟨d, g1, g2, g3, g4, g5⟩ := key j hj
    rw [e4, g4]
    have := tk_lt (ρ := ρ) (a := a) (i := c) (j := d) (by omega)
    exact h5 (a + c) (a + d) (by omega) (by omega) e2 g2
  have kne : ∀ j, j < cnt ρ a m → ¬ tkG ρ (kv ρ) a Zr m j = k := by
    intro j hj
    obtain ⟨i, e1, e2, e3, e4, e5⟩ := key j hj
    rw [e4]; exact hno (a + i) (by omega)
  generalize hKe : tkG ρ (kv ρ) a Zr m = K at key kinc kne
  generalize hVe : tkG ρ (vv ρ) a Zr m = V at key
  generalize hPe : insP K k (cnt ρ a m) = p
  have hple : p ≤ cnt ρ a m := by rw [← hPe]; exact insP_le _ _ _
  have below : ∀ j, j < p → K j < k := by
    intro j hj
    have hl : ¬ k < K (p - 1) := by rw [← hPe]; exact insP_lo (by rw [hPe]; omega)
    have hp1 : K (p - 1) < k := by
      rcases Int32.lt_or_le (K (p - 1)) k with z | z
      · exact z
      · rcases Int32.lt_or_eq_of_le z with y | y
        · exact absurd y hl
        · exact absurd y.symm (kne (p - 1) (by omega))
    rcases Nat.eq_or_lt_of_le (show j ≤ p - 1 by omega) with z | z
    · rw [z]; exact hp1
    · exact Int32.lt_trans (kinc j (p - 1) z (by omega)) hp1
  have above : ∀ j, p ≤ j → j < cnt ρ a m → k < K j := fun j h1 h2 => insP_hi (h := cnt ρ a m) j (by rw [hPe]; exact h1) h2
  -- the j-th key with the one that comes
  have kc : ∀ j, j < cnt ρ a m + 1 → (j < p ∧ insA K p (cnt ρ a m) k j = K j ∧ insA V p (cnt ρ a m) v j = V j) ∨ (j = p ∧ insA K p (cnt ρ a m) k j = k ∧ insA V p (cnt ρ a m) v j = v) ∨ (p < j ∧ insA K p (cnt ρ a m) k j = K (j - 1) ∧ insA V p (cnt ρ a m) v j = V (j - 1)) := by
    intro j hj
    unfold insA
    rcases Nat.lt_trichotomy j p with z | z | z
    · exact Or.inl ⟨z, by rw [if_neg (by omega), if_neg (by omega)], by rw [if_neg (by omega), if_neg (by omega)]⟩
    · exact Or.inr (Or.inl ⟨z, by rw [if_pos z], by rw [if_pos z]⟩)
    · exact Or.inr (Or.inr ⟨z, by rw [if_neg (by omega), if_pos (by omega)], by rw [if_neg (by omega), if_pos (by omega)]⟩)
  unfold inR
  rw [hKe, hVe, hPe]
  refine lay_inv hsz h3 h4 hmd hz hbe hw hh hemp (fun c hc h => (hout c hc h).2.2.2) hs0 ?_ ?_ ?_ ?_
  · intro j hj
    rcases kc j hj with ⟨z, e1, e2⟩ | ⟨z, e1, e2⟩ | ⟨z, e1, e2⟩
    · obtain ⟨i, g1, g2, g3, g4, g5⟩ := key j (by omega)
      rw [e1, e2, g4, g5]; exact h6 (a + i) (by omega) g2
    · rw [e1, e2]; exact hkv
    · obtain ⟨i, g1, g2, g3, g4, g5⟩ := key (j - 1) (by omega)
      rw [e1, e2, g4, g5]; exact h6 (a + i) (by omega) g2
  · intro i j hij hj
    rcases kc i (by omega) with ⟨z, e1, -⟩ | ⟨z, e1, -⟩ | ⟨z, e1, -⟩
    · rcases kc j hj with ⟨y, f1, -⟩ | ⟨y, f1, -⟩ | ⟨y, f1, -⟩
      · rw [e1, f1]; exact kinc i j hij (by omega)
      · rw [e1, f1]; exact below i z
      · rw [e1, f1]; exact Int32.lt_trans (below i z) (above (j - 1) (by omega) (by omega))
    · rcases kc j hj with ⟨y, f1, -⟩ | ⟨y, f1, -⟩ | ⟨y, f1, -⟩
      · omega
      · omega
      · rw [e1, f1]; exact above (j - 1) (by omega) (by omega)
    · rcases kc j hj with ⟨y, f1, -⟩ | ⟨y, f1, -⟩ | ⟨y, f1, -⟩
      · omega
      · omega
      · rw [e1, f1]; exact kinc (i - 1) (j - 1) (by omega) (by omega)
  · intro c j hc hne hj
    obtain ⟨o1, o2, o3, -⟩ := hout c (by omega) hne
    have g0 : ∀ j, j < cnt ρ a m → ρ0 (31 + c) < K j := fun j hj => by
      obtain ⟨i, g1, g2, g3, g4, g5⟩ := key j hj
      rw [g4, ← o3]
      exact h5 c (a + i) (by omega) (by omega) (by rw [o3]; exact hne) g2
    rcases kc j hj with ⟨z, e1, -⟩ | ⟨z, e1, -⟩ | ⟨z, e1, -⟩
    · rw [e1]; exact g0 j (by omega)
    · rw [e1]; exact hlk c hc hne
    · rw [e1]; exact g0 (j - 1) (by omega)
  · intro c j hc hcn hne hj
    obtain ⟨o1, o2, o3, -⟩ := hout c hcn hne
    have g0 : ∀ j, j < cnt ρ a m → K j < ρ0 (31 + c) := fun j hj => by
      obtain ⟨i, g1, g2, g3, g4, g5⟩ := key j hj
      rw [g4, ← o3]
      exact h5 (a + i) c (by omega) (by omega) g2 (by rw [o3]; exact hne)
    rcases kc j hj with ⟨z, e1, -⟩ | ⟨z, e1, -⟩ | ⟨z, e1, -⟩
    · rw [e1]; exact g0 j (by omega)
    · rw [e1]; exact hhk c hc hcn hne
    · rw [e1]; exact g0 (j - 1) (by omega)
/-- a key comes -/
theorem comeR_inv {ρ : Nat → Int32} {n g : Nat} {k v : Int32} (hI : Inv ρ n g) (hkv : OKv k v) (hno : ∀ c, c < n → ¬ ρ (31 + c) = k) (hr : hrB ρ n k = true) : ∃ n' g', Inv (comeR ρ n g k v) n' g' := by
  have h3 := hI.2.1
  have h5 := hI.2.2.2.2.1
  have gtk : ∀ c, c < n → ¬ ρ (31 + c) < k → k < ρ (31 + c) := by
    intro c hc h
    rcases Int32.lt_or_eq_of_le (Int32.not_lt.mp h) with z | z
    · exact z
    · exact absurd z.symm (hno c hc)
  unfold comeR
  cases e : lvF ρ n (segF ρ k n) (topN n + 1) 0 with
  | some i =>
    obtain ⟨-, hi, hm⟩ := lvF_some e
    have hsg := segF_le ρ k n (by omega)
    have hw := wst_le h3 hsg (show i ≤ topN n by omega)
    have hml := most_le (n := n) (i := i)
    obtain ⟨f1, f2, f3, f4, f5⟩ := clr_facts hI hw
    refine ⟨n, _, inR_inv hI hw hkv hno (by rw [clr_low (by omega)]; exact hI.1) h3 (by rw [clr_low (by omega)]; exact hI.2.2.2.2.2.2.2.1) f5 f1 hw (by omega) f2 (fun c hc h => ⟨hc, (f3 c hc h).1, (f3 c hc h).2.1, (f3 c hc h).2.2⟩) f4 ?_ ?_ (Nat.le_refl _)⟩
    · intro c hc hne
      obtain ⟨-, o2, -⟩ := f3 c (by omega) hne
      rw [← o2]
      have hne' : ¬ ρ (31 + c) = -1 := by rw [o2]; exact hne
      rcases segF_last ρ k n with ⟨s1, s2⟩ | ⟨d, s1, s2, s3, s4, s5⟩
      · rw [s2] at hc; unfold wst at hc; simp at hc
      · have := wst_in d i
        rw [s5] at hc
        exact Int32.lt_trans (h5 c d (by omega) s1 hne' s2) s3
    · intro c hc hcn hne
      obtain ⟨-, o2, -⟩ := f3 c hcn hne
      rw [← o2]
      have hne' : ¬ ρ (31 + c) = -1 := by rw [o2]; exact hne
      rcases segF_last ρ k n with ⟨s1, s2⟩ | ⟨d, s1, s2, s3, s4, s5⟩
      · exact gtk c hcn (s1 c hcn hne')
      · have := wst_in d i
        rw [s5] at hc
        exact gtk c hcn (s4 c (by omega) hcn hne')
  | none =>
    have hn : n < 64 := by unfold hrB at hr; rw [e] at hr; simpa using hr
    obtain ⟨f1, f2, f3, f4, f5⟩ := clr_facts hI (a := 0) (m := n) (by omega)
    have ae : ∀ c, c < 64 → dbl ρ n (31 + c) = -1 := by
      intro c hc
      unfold dbl
      rw [upd_n _ _ (by omega), upd_n _ _ (by omega)]
      rcases Nat.lt_or_ge c n with z | z
      · exact f2 c (Nat.zero_le _) (by omega)
      · exact f1 c z hc
    have hcl := cnt_le ρ 0 n
    refine ⟨2 * n, _, inR_inv hI (by omega) hkv hno (by unfold dbl; rw [upd_n _ _ (by omega), upd_s]) (by omega) (by unfold dbl; rw [upd_n _ _ (by omega), upd_n _ _ (by omega), clr_low (by omega)]; exact hI.2.2.2.2.2.2.2.1) (fun j hj => by unfold dbl; rw [upd_n _ _ (by omega), upd_n _ _ (by omega)]; exact f5 j hj) (fun c hc hc2 => ae c hc2) (by omega) (by omega) (fun c hc hc2 => ae c (by omega)) (fun c hc h => absurd (ae c (by omega)) h) (fun c d hcd hd h => absurd (ae c (by omega)) h) (fun c hc => absurd hc (Nat.not_lt_zero _)) (fun c hc hcn h => absurd (ae c (by omega)) h) (by omega)⟩
theorem val_inv {ρ : Nat → Int32} {n g c : Nat} {v : Int32} (hI : Inv ρ n g) (hc : c < n) (hv : wi v (nI 99) = true) : Inv (upd ρ (95 + c) v) n g := by
  obtain ⟨h1, h2, h3, h4, h5, h6, h7, h8, h9⟩ := hI
  have hk : ∀ d, d < 64 → upd ρ (95 + c) v (31 + d) = ρ (31 + d) := fun d hd => upd_n _ _ (by omega)
  refine ⟨by rw [upd_n _ _ (by omega)]; exact h1, h2, by rw [upd_n _ _ (by omega)]; exact h3, h4, ?_, ?_, ?_, by rw [upd_n _ _ (by omega)]; exact h8, ?_⟩
  · intro x y hxy hy hx1 hy1
    rw [hk x (by omega)] at hx1 ⊢; rw [hk y (by omega)] at hy1 ⊢
    exact h5 x y hxy hy hx1 hy1
  · intro x hx hx1
    rw [hk x (by omega)] at hx1 ⊢
    have := h6 x hx hx1
    by_cases e : x = c
    · subst e; rw [upd_s]; exact ⟨this.1, hv⟩
    · rw [upd_n _ _ (by omega)]; exact this
  · intro x h1 h2; rw [hk x h2]; exact h7 x h1 h2
  · intro j hj; rw [upd_n _ _ (by omega)]; exact h9 j hj
theorem mod_inv {ρ : Nat → Int32} {n g : Nat} {x : Int32} (hI : Inv ρ n g) (hx : x = 0 ∨ x = 1) : Inv (upd ρ 1 x) n g := by
  obtain ⟨h1, h2, h3, h4, h5, h6, h7, h8, h9⟩ := hI
  have hk : ∀ j, ¬ j = 1 → upd ρ 1 x j = ρ j := fun j hj => upd_n _ _ hj
  refine ⟨by rw [hk 0 (by omega)]; exact h1, h2, by rw [hk 6 (by omega)]; exact h3, h4, ?_, ?_, ?_, by rw [upd_s]; exact hx, ?_⟩
  · intro a b hab hb ha1 hb1
    rw [hk _ (by omega)] at ha1 hb1 ⊢; rw [hk _ (by omega)]
    exact h5 a b hab hb ha1 hb1
  · intro a ha ha1
    rw [hk _ (by omega)] at ha1 ⊢; rw [hk _ (by omega)]
    exact h6 a ha ha1
  · intro a h1 h2; rw [hk _ (by omega)]; exact h7 a h1 h2
  · intro j hj; rw [hk _ (by omega)]; exact h9 j hj
