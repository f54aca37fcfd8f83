/-! WHAT HOLDS OF EVERY ROW: its size, its log, keys in order, in their bounds, none behind its size -/
def OKv (k v : Int32) : Prop := wi k (nI 999) = true ∧ wi v (nI 99) = true
def Inv (ρ : Nat → Int32) (n g : Nat) : Prop := ρ 0 = nI n ∧ (n = 16 ∨ n = 32 ∨ n = 64) ∧ ρ 6 = nI g ∧ g ≤ 8 ∧ Srt ρ n ∧ (∀ c, c < n → ¬ ρ (31 + c) = -1 → OKv (ρ (31 + c)) (ρ (95 + c))) ∧ (∀ c, n ≤ c → c < 64 → ρ (31 + c) = -1) ∧ (ρ 1 = 0 ∨ ρ 1 = 1) ∧ Zro ρ
theorem OKv.ne {k v : Int32} (h : OKv k v) : ¬ k = -1 := wi_m1 h.1
/-! laying -/
theorem lay_oth {ρ K V : Nat → Int32} {pos : Nat → Nat} {i : Nat} : ∀ {h : Nat}, (∀ j, j < h → pos j < 64 ∧ ¬ i = 31 + pos j ∧ ¬ i = 95 + pos j) → layF ρ K V pos h i = ρ i
  | 0, _ => rfl
  | h + 1, hp => by
    obtain ⟨h1, h2, h3⟩ := hp h (by omega)
    show upd (upd _ _ _) _ _ i = _
    rw [upd_n _ _ h3, upd_n _ _ h2]
    exact lay_oth (fun j hj => hp j (by omega))
theorem lay_k {ρ K V : Nat → Int32} {pos : Nat → Nat} : ∀ {h : Nat}, (∀ j, j < h → pos j < 64) → (∀ i j, i < j → j < h → pos i < pos j) → ∀ j, j < h → layF ρ K V pos h (31 + pos j) = K j ∧ layF ρ K V pos h (95 + pos j) = V j
  | 0, _, _, j, hj => absurd hj (Nat.not_lt_zero _)
  | h + 1, hp, hi, j, hj => by
    have hph := hp h (by omega)
    have hpj := hp j hj
    show upd (upd _ _ _) _ _ (31 + pos j) = K j ∧ upd (upd _ _ _) _ _ (95 + pos j) = V j
    by_cases e : j = h
    · subst e
      rw [upd_n _ _ (by omega), upd_s, upd_s]
      exact ⟨rfl, rfl⟩
    · have hlt := hi j h (by omega) (by omega)
      rw [upd_n _ _ (by omega), upd_n _ _ (by omega), upd_n _ _ (by omega), upd_n _ _ (by omega)]
      exact lay_k (fun j hj => hp j (by omega)) (fun i j h1 h2 => hi i j h1 (by omega)) j (by omega)
theorem pos_step {a n h : Nat} {le : Bool} {w : Int32} {j : Nat} (hj : j + 1 < h) (hh : h ≤ n) (hb : n ≤ 64) : posF a n h le w j < posF a n h le w (j + 1) := by
  unfold posF
  have hM : ∀ M, h ≤ M → j * M / h + 1 ≤ (j + 1) * M / h := by
    intro M hM
    rw [Nat.succ_mul, Nat.le_div_iff_mul_le (by omega), Nat.add_mul, Nat.one_mul]
    have := Nat.div_mul_le_self (j * M) h
    omega
  cases le with
  | false =>
    have := hM n hh
    simp only [Bool.false_and, Bool.false_eq_true, if_false, Nat.sub_zero, Nat.add_zero]
    omega
  | true =>
    have := hM (n - (n - h) / 2) (by omega)
    simp only [Bool.true_and, if_true]
    by_cases e : w < nI j
    · have e2 : w < nI (j + 1) := Int32.lt_trans e ((nI_lt_iff (by omega) (by omega)).mpr (by omega))
      rw [decide_eq_true e, decide_eq_true e2]
      simp only [if_true]
      omega
    · rw [decide_eq_false e]
      simp only [Bool.false_eq_true, if_false]
      split <;> omega
theorem pos_mono {a n h : Nat} {le : Bool} {w : Int32} {i : Nat} (hh : h ≤ n) (hb : n ≤ 64) : ∀ j, i < j → j < h → posF a n h le w i < posF a n h le w j
  | 0, h1, _ => absurd h1 (Nat.not_lt_zero _)
  | j + 1, h1, h2 => by
    have s := pos_step (a := a) (le := le) (w := w) h2 hh hb
    rcases Nat.eq_or_lt_of_le (Nat.le_of_lt_succ h1) with e | e
    · rw [e]; exact s
    · exact Nat.lt_trans (pos_mono hh hb j e (by omega)) s
theorem pos_ge {a n h : Nat} {le : Bool} {w : Int32} {j : Nat} : a ≤ posF a n h le w j := Nat.le_trans (Nat.le_add_right _ _) (Nat.le_add_right _ _)
theorem note_hi {R : Nat → Int32} {g : Nat} {a b m : Int32} {j : Nat} (h : 31 ≤ j) : noteF R g a b m j = R j := by
  unfold noteF
  rw [if_neg (by omega), if_neg (by omega), if_neg (by omega), if_neg (by omega), if_neg (by omega), if_neg (by omega), if_neg (by omega)]
theorem note_lo {R : Nat → Int32} {g : Nat} {a b m : Int32} {j : Nat} (h : j = 0 ∨ j = 1) : noteF R g a b m j = R j := by
  unfold noteF
  rw [if_neg (by omega), if_neg (by omega), if_neg (by omega), if_neg (by omega), if_neg (by omega), if_neg (by omega), if_neg (by omega)]
/-- a row with an empty window, laid anew with h keys in order that fit there -/
theorem lay_inv {ρ K V C : Nat → Int32} {h N g a n0 : Nat} {w : Int32} (hsz : ρ 0 = nI N) (h3 : N = 16 ∨ N = 32 ∨ N = 64) (hg8 : g ≤ 8) (hm : ρ 1 = 0 ∨ ρ 1 = 1) (hz : Zro ρ) (hbe : ∀ c, N ≤ c → c < 64 → ρ (31 + c) = -1)
    (hw : a + n0 ≤ N) (hh : h ≤ n0) (hemp : ∀ c, a ≤ c → c < a + n0 → ρ (31 + c) = -1) (hok : ∀ c, c < N → ¬ ρ (31 + c) = -1 → OKv (ρ (31 + c)) (ρ (95 + c))) (hs : Srt ρ N)
    (hK : ∀ j, j < h → OKv (K j) (V j)) (hKs : ∀ i j, i < j → j < h → K i < K j) (hlo : ∀ c j, c < a → ¬ ρ (31 + c) = -1 → j < h → ρ (31 + c) < K j) (hhi : ∀ c j, a + n0 ≤ c → c < N → ¬ ρ (31 + c) = -1 → j < h → K j < ρ (31 + c)) : Inv (layAll ρ K V C h w a n0 g) N (min (g + 1) 8) := by
  have hN : N ≤ 64 := by omega
  generalize hpe : posF a n0 h (lnB ρ w) w = pos
  have pl : ∀ j, j < h → a ≤ pos j ∧ pos j < a + n0 := fun j hj => by rw [← hpe]; exact ⟨pos_ge, pos_lt hj hh⟩
  have pm : ∀ i j, i < j → j < h → pos i < pos j := fun i j h1 h2 => by rw [← hpe]; exact pos_mono hh (by omega) j h1 h2
  have p64 : ∀ j, j < h → pos j < 64 := fun j hj => by have := pl j hj; omega
  have E : layAll ρ K V C h w a n0 g = noteF (layF ρ K V pos h) g (nI a) (nI n0) (nI (mvF C pos h)) := by unfold layAll; rw [hpe]
  rw [E]
  -- each cell's key and value
  have cell : ∀ c, c < 64 → (∃ j, j < h ∧ pos j = c ∧ layF ρ K V pos h (31 + c) = K j ∧ layF ρ K V pos h (95 + c) = V j) ∨ (layF ρ K V pos h (31 + c) = ρ (31 + c) ∧ layF ρ K V pos h (95 + c) = ρ (95 + c) ∧ (a ≤ c → c < a + n0 → ρ (31 + c) = -1)) := by
    intro c hc
    by_cases e : ∃ j, j < h ∧ pos j = c
    · obtain ⟨j, hj, rfl⟩ := e
      exact Or.inl ⟨j, hj, rfl, lay_k p64 pm j hj⟩
    · refine Or.inr ⟨lay_oth (fun j hj => ⟨p64 j hj, ?_, ?_⟩), lay_oth (fun j hj => ⟨p64 j hj, ?_, ?_⟩), hemp c⟩
      · intro z; exact e ⟨j, hj, by omega⟩
      · have := p64 j hj; omega
      · have := p64 j hj; omega
      · intro z; exact e ⟨j, hj, by omega⟩
  refine ⟨by rw [note_lo (Or.inl rfl), layF_low (by omega)]; exact hsz, h3, rfl, by omega, ?_, ?_, ?_, ?_, ?_⟩
  · intro c d hcd hd hc1 hd1
    rw [note_hi (by omega)] at hc1 hd1 ⊢
    rw [note_hi (by omega)]
    rcases cell c (by omega) with ⟨i, hi, rfl, e1, -⟩ | ⟨e1, -, e2⟩
    · rcases cell d (by omega) with ⟨j, hj, rfl, f1, -⟩ | ⟨f1, -, f2⟩
      · rw [e1, f1]
        rcases Nat.lt_trichotomy i j with z | z | z
        · exact hKs i j z hj
        · rw [z] at hcd; omega
        · have := pm j i z hi; omega
      · rw [e1, f1]
        rw [f1] at hd1
        have := pl i hi
        rcases Nat.lt_or_ge d (a + n0) with z | z
        · exact absurd (f2 (by omega) z) hd1
        · exact hhi d i z hd hd1 hi
    · rw [e1] at hc1
      rcases cell d (by omega) with ⟨j, hj, rfl, f1, -⟩ | ⟨f1, -, f2⟩
      · rw [e1, f1]
        have := pl j hj
        rcases Nat.lt_or_ge c a with z | z
        · exact hlo c j z hc1 hj
        · exact absurd (e2 z (by omega)) hc1
      · rw [f1] at hd1
        rw [e1, f1]
        exact hs c d hcd hd hc1 hd1
  · intro c hc h1
    rw [note_hi (by omega)] at h1 ⊢
    rw [note_hi (by omega)]
    rcases cell c (by omega) with ⟨i, hi, rfl, e1, e3⟩ | ⟨e1, e3, e2⟩
    · rw [e1, e3]; exact hK i hi
    · rw [e1] at h1; rw [e1, e3]; exact hok c hc h1
  · intro c h1 h2
    rw [note_hi (by omega)]
    rcases cell c h2 with ⟨i, hi, rfl, e1, e3⟩ | ⟨e1, e3, e2⟩
    · have := pl i hi; omega
    · rw [e1]; exact hbe c h1 h2
  · rw [note_lo (Or.inr rfl), layF_low (by omega)]; exact hm
  · intro j hj
    rw [note_hi (by omega), lay_oth (fun i hi => ⟨p64 i hi, by have := p64 i hi; omega, by have := p64 i hi; omega⟩)]
    exact hz j hj
/-! what a window holds -/
theorem tk_at {ρ val f : Nat → Int32} {a : Nat} : ∀ {m i : Nat}, i < m → ¬ ρ (31 + (a + i)) = -1 → tkG ρ val a f m (cnt ρ a i) = val (a + i)
  | 0, _, h, _ => absurd h (Nat.not_lt_zero _)
  | m + 1, i, h, he => by
    rcases Nat.eq_or_lt_of_le (Nat.le_of_lt_succ h) with e | e
    · subst e; rw [tkG_s1 he, upd_s]
    · by_cases e2 : ρ (31 + (a + m)) = -1
      · rw [tkG_s0 e2]; exact tk_at e he
      · rw [tkG_s1 e2, upd_n]
        · exact tk_at e he
        · have h1 := cnt_s1 he
          have h2 := cnt_mono ρ a (show i + 1 ≤ m by omega)
          omega
theorem tk_ex {ρ : Nat → Int32} {a : Nat} : ∀ {m j : Nat}, j < cnt ρ a m → ∃ i, i < m ∧ ¬ ρ (31 + (a + i)) = -1 ∧ cnt ρ a i = j
  | 0, _, h => absurd h (Nat.not_lt_zero _)
  | m + 1, j, h => by
    by_cases e : ρ (31 + (a + m)) = -1
    · rw [cnt_s0 e] at h
      obtain ⟨i, h1, h2⟩ := tk_ex h
      exact ⟨i, by omega, h2⟩
    · rw [cnt_s1 e] at h
      rcases Nat.eq_or_lt_of_le (Nat.le_of_lt_succ h) with z | z
      · exact ⟨m, by omega, e, z.symm⟩
      · obtain ⟨i, h1, h2⟩ := tk_ex z
        exact ⟨i, by omega, h2⟩
theorem tk_lt {ρ : Nat → Int32} {a i j : Nat} (h : cnt ρ a i < cnt ρ a j) : i < j := by
  rcases Nat.lt_or_ge i j with z | z
  · exact z
  · have := cnt_mono ρ a z; omega
theorem clr_in {ρ : Nat → Int32} {a : Nat} : ∀ {m c : Nat}, a ≤ c → c < a + m → a + m ≤ 64 → clr ρ a m (31 + c) = -1
  | 0, c, h1, h2, _ => by omega
  | m + 1, c, h1, h2, h3 => by
    by_cases e : ρ (31 + (a + m)) = -1
    · rw [clr_s0 e]
      rcases Nat.lt_or_ge c (a + m) with z | z
      · exact clr_in h1 z (by omega)
      · rw [show c = a + m by omega, clr_k (Nat.le_refl _) (by omega)]; exact e
    · rw [clr_s1 e, upd_n _ _ (by omega)]
      rcases Nat.lt_or_ge c (a + m) with z | z
      · rw [upd_n _ _ (by omega)]; exact clr_in h1 z (by omega)
      · rw [show c = a + m by omega, upd_s]
theorem clr_ok {ρ : Nat → Int32} {a m c : Nat} (h : c < a ∨ a + m ≤ c) (hc : c < 64) (hm : a + m ≤ 64) : clr ρ a m (31 + c) = ρ (31 + c) ∧ clr ρ a m (95 + c) = ρ (95 + c) := ⟨clr_out (fun d h1 h2 => by omega), clr_out (fun d h1 h2 => by omega)⟩
/-- the cleared row's facts -/
theorem clr_facts {ρ : Nat → Int32} {n g a m : Nat} (hI : Inv ρ n g) (hm : a + m ≤ n) : (∀ c, n ≤ c → c < 64 → clr ρ a m (31 + c) = -1) ∧ (∀ c, a ≤ c → c < a + m → clr ρ a m (31 + c) = -1) ∧ (∀ c, c < n → ¬ clr ρ a m (31 + c) = -1 → (c < a ∨ a + m ≤ c) ∧ ρ (31 + c) = clr ρ a m (31 + c) ∧ OKv (clr ρ a m (31 + c)) (clr ρ a m (95 + c))) ∧ Srt (clr ρ a m) n ∧ Zro (clr ρ a m) := by
  obtain ⟨h1, h2, h3, h4, h5, h6, h7, h8, h9⟩ := hI
  have cl : ∀ c, c < n → ¬ clr ρ a m (31 + c) = -1 → (c < a ∨ a + m ≤ c) ∧ ρ (31 + c) = clr ρ a m (31 + c) ∧ clr ρ a m (95 + c) = ρ (95 + c) := by
    intro c hc h
    have : c < a ∨ a + m ≤ c := by
      rcases Nat.lt_or_ge c a with z | z
      · exact Or.inl z
      · rcases Nat.lt_or_ge c (a + m) with y | y
        · exact absurd (clr_in z y (by omega)) h
        · exact Or.inr y
    obtain ⟨e1, e2⟩ := clr_ok (ρ := ρ) this (by omega) (by omega)
    exact ⟨this, e1.symm, e2⟩
  refine ⟨fun c hc hc2 => ?_, fun c hc hc2 => clr_in hc hc2 (by omega), fun c hc h => ?_, fun c d hcd hd hc hd1 => ?_, fun j hj => ?_⟩
  · rw [(clr_ok (Or.inr (by omega)) hc2 (by omega)).1]; exact h7 c hc hc2
  · obtain ⟨e1, e2, e3⟩ := cl c hc h
    refine ⟨e1, e2, ?_⟩
    rw [← e2, e3]
    exact h6 c hc (by rw [e2]; exact h)
  · obtain ⟨-, e2, -⟩ := cl c (by omega) hc
    obtain ⟨-, f2, -⟩ := cl d hd hd1
    rw [← e2, ← f2]
    exact h5 c d hcd hd (by rw [e2]; exact hc) (by rw [f2]; exact hd1)
  · rw [clr_out (fun d h1 h2 => by omega)]; exact h9 j hj
/-- spacing a window keeps all that holds of a row -/
theorem spR_inv {ρ : Nat → Int32} {n g a m : Nat} (hI : Inv ρ n g) (hm : a + m ≤ n) : Inv (spR ρ g a m) n (min (g + 1) 8) := by
  obtain ⟨f1, f2, f3, f4, f5⟩ := clr_facts hI hm
  obtain ⟨h1, h2, h3, h4, h5, h6, h7, h8, h9⟩ := hI
  have key : ∀ j, j < cnt ρ a m → ∃ i, i < m ∧ ¬ ρ (31 + (a + i)) = -1 ∧ cnt ρ a i = j ∧ tkG ρ (kv ρ) a Zr m j = ρ (31 + (a + i)) ∧ tkG ρ (vv ρ) a Zr m j = ρ (95 + (a + i)) := by
    intro j hj
    obtain ⟨i, e1, e2, e3⟩ := tk_ex hj
    exact ⟨i, e1, e2, e3, by rw [← e3]; exact tk_at e1 e2, by rw [← e3]; exact tk_at e1 e2⟩
  refine lay_inv (by rw [clr_low (by omega)]; exact h1) h2 h4 (by rw [clr_low (by omega)]; exact h8) f5 f1 hm (cnt_le _ _ _) f2 (fun c hc h => (f3 c hc h).2.2) f4 ?_ ?_ ?_ ?_
  · intro j hj
    obtain ⟨i, e1, e2, e3, e4, e5⟩ := key j hj
    rw [e4, e5]; exact h6 (a + i) (by omega) e2
  · intro i j hij hj
    obtain ⟨c, e1, e2, e3, e4, e5⟩ := key i (by omega)
    obtain ⟨d, g1, g2, g3, g4, g5⟩ := key j hj
    rw [e4, g4]
    have := tk_lt (ρ := ρ) (a := a) (i := c) (j := d) (by omega)
    exact h5 (a + c) (a + d) (by omega) (by omega) e2 g2
  · intro c j hc hne hj
    obtain ⟨d, g1, g2, g3, g4, g5⟩ := key j hj
    obtain ⟨-, e2, -⟩ := f3 c (by omega) hne
    rw [g4, ← e2]
    exact h5 c (a + d) (by omega) (by omega) (by rw [e2]; exact hne) g2
  · intro c j hc hcn hne hj
    obtain ⟨d, g1, g2, g3, g4, g5⟩ := key j hj
    obtain ⟨-, e2, -⟩ := f3 c hcn hne
    rw [g4, ← e2]
    exact h5 (a + d) c (by omega) hcn g2 (by rw [e2]; exact hne)
theorem emp_inv {ρ : Nat → Int32} {n g c : Nat} (hI : Inv ρ n g) (hc : c < n) : Inv (emp ρ c) n g := by
  obtain ⟨h1, h2, h3, h4, h5, h6, h7, h8, h9⟩ := hI
  have lo : ∀ i, i < 31 → emp ρ c i = ρ i := fun i hi => by unfold emp; rw [upd_n _ _ (by omega), upd_n _ _ (by omega)]
  have ke : ∀ d, d < 64 → ¬ emp ρ c (31 + d) = -1 → ¬ d = c ∧ emp ρ c (31 + d) = ρ (31 + d) ∧ emp ρ c (95 + d) = ρ (95 + d) := by
    intro d hd h
    unfold emp at h ⊢
    rw [upd_n _ _ (by omega)] at h
    by_cases e : d = c
    · subst e; rw [upd_s] at h; exact absurd rfl h
    · exact ⟨e, by rw [upd_n _ _ (by omega), upd_n _ _ (by omega)], by rw [upd_n _ _ (by omega), upd_n _ _ (by omega)]⟩
  refine ⟨by rw [lo 0 (by omega)]; exact h1, h2, by rw [lo 6 (by omega)]; exact h3, h4, ?_, ?_, ?_, by rw [lo 1 (by omega)]; exact h8, ?_⟩
  · intro x y hxy hy hx1 hy1
    obtain ⟨-, e1, -⟩ := ke x (by omega) hx1
    obtain ⟨-, e2, -⟩ := ke y (by omega) hy1
    rw [e1] at hx1 ⊢; rw [e2] at hy1 ⊢
    exact h5 x y hxy hy hx1 hy1
  · intro x hx hx1
    obtain ⟨-, e1, e2⟩ := ke x (by omega) hx1
    rw [e1] at hx1 ⊢; rw [e2]
    exact h6 x hx hx1
  · intro x h1 h2
    unfold emp
    rw [upd_n _ _ (by omega), upd_n _ _ (by omega)]; exact h7 x h1 h2
  · intro j hj
    unfold emp
    rw [upd_n _ _ (by omega), upd_n _ _ (by omega)]; exact h9 j hj
/-- the row halves, if it can -/
theorem shR_inv {ρ : Nat → Int32} {n g : Nat} (hI : Inv ρ n g) (hc : cnt ρ 0 n ≤ n / 2) : Inv (shR ρ g n) (if 16 < n then n / 2 else n) (min (g + 1) 8) := by
  unfold shR
  by_cases e : 16 < n
  · rw [if_pos e, if_pos e]
    obtain ⟨f1, f2, f3, f4, f5⟩ := clr_facts hI (a := 0) (m := n) (by omega)
    obtain ⟨h1, h2, h3, h4, h5, h6, h7, h8, h9⟩ := hI
    have ae : ∀ c, c < 64 → upd (upd (clr ρ 0 n) 0 (nI (n / 2))) 5 (ρ 5 + 1) (31 + c) = -1 := by
      intro c hc
      rw [upd_n _ _ (by omega), upd_n _ _ (by omega)]
      rcases Nat.lt_or_ge c n with z | z
      · exact f2 c (Nat.zero_le _) (by omega)
      · exact f1 c z hc
    have key : ∀ j, j < cnt ρ 0 n → ∃ i, i < n ∧ ¬ ρ (31 + (0 + i)) = -1 ∧ cnt ρ 0 i = j ∧ tkG ρ (kv ρ) 0 Zr n j = ρ (31 + (0 + i)) ∧ tkG ρ (vv ρ) 0 Zr n j = ρ (95 + (0 + i)) := by
      intro j hj
      obtain ⟨i, e1, e2, e3⟩ := tk_ex hj
      exact ⟨i, e1, e2, e3, by rw [← e3]; exact tk_at e1 e2, by rw [← e3]; exact tk_at e1 e2⟩
    refine lay_inv (by rw [upd_n _ _ (by omega), upd_s]) (by omega) h4 (by rw [upd_n _ _ (by omega), upd_n _ _ (by omega), clr_low (by omega)]; exact h8) (fun j hj => by rw [upd_n _ _ (by omega), upd_n _ _ (by omega)]; exact f5 j hj) (fun c hc hc2 => ae c hc2) (by omega) hc (fun c hc hc2 => ae c (by omega)) (fun c hc h => absurd (ae c (by omega)) h) (fun c d hcd hd h => absurd (ae c (by omega)) h) ?_ ?_ (fun c j hc => absurd hc (Nat.not_lt_zero _)) (fun c j hc hcn h => absurd (ae c (by omega)) h)
    · intro j hj
      obtain ⟨i, e1, e2, e3, e4, e5⟩ := key j hj
      rw [e4, e5]; exact h6 (0 + i) (by omega) e2
    · intro i j hij hj
      obtain ⟨c, e1, e2, e3, e4, e5⟩ := key i (by omega)
      obtain ⟨d, g1, g2, g3, g4, g5⟩ := key j hj
      rw [e4, g4]
      have := tk_lt (ρ := ρ) (a := 0) (i := c) (j := d) (by omega)
      exact h5 (0 + c) (0 + d) (by omega) (by omega) e2 g2
  · rw [if_neg e, if_neg e]
    exact spR_inv hI (by omega)
theorem min8 {g : Nat} : min (g + 1) 8 ≤ 8 := Nat.min_le_right _ _
/-- a key goes -/
theorem goR_inv {ρ : Nat → Int32} {n g c : Nat} (hI : Inv ρ n g) (hc : c < n) : ∃ n' g', Inv (goR ρ n g c) n' g' := by
  have hE := emp_inv hI hc
  have h3 := hI.2.1
  unfold goR
  split
  · exact ⟨n, g, hE⟩
  · cases e : gvF (emp ρ c) n (c / 4) (topN n) 1 with
    | some i =>
      have : 1 ≤ i ∧ i < 1 + topN n := by
        have hg : ∀ {f j : Nat}, gvF (emp ρ c) n (c / 4) f j = some i → j ≤ i ∧ i < j + f := by
          intro f
          induction f with
          | zero => intro j h; cases h
          | succ f ih =>
            intro j h
            unfold gvF at h
            split at h
            · cases h; omega
            · have := ih h; omega
        exact hg e
      exact ⟨n, _, spR_inv hE (wst_le h3 (by omega) (by omega))⟩
    | none =>
      have hthin := gvF_none e (topN n) (by have := top_le (sz := n); omega) (by omega)
      rw [wst_top h3 (by omega), top_pow h3] at hthin
      have hhalf := least_half h3
      exact ⟨_, _, shR_inv hE (by omega)⟩
