theorem insA_step {f : Nat → Int32} {p h : Nat} {x y : Int32} (hp : p ≤ h) : upd (insA f p h x) (h + 1) y = insA (upd f h y) p (h + 1) x := by
  funext j
  unfold upd insA
  dsimp only
  by_cases e : j = h + 1
  · subst e
    rw [if_pos rfl, if_neg (by omega), if_pos (by omega), if_pos (by omega)]
  · rw [if_neg e]
    by_cases e2 : j = p
    · rw [if_pos e2, if_pos e2]
    · rw [if_neg e2, if_neg e2]
      by_cases e3 : p < j ∧ j ≤ h
      · rw [if_pos e3, if_pos (by omega), if_neg (by omega)]
      · rw [if_neg e3, if_neg (by omega)]
        by_cases e4 : j = h
        · exact absurd e4 (by omega)
        · rw [if_neg e4]
theorem insA_h (f : Nat → Int32) (h : Nat) (x : Int32) : upd f h x = insA f h h x := by
  funext j
  unfold upd insA
  by_cases e : j = h
  · rw [if_pos e, if_pos e]
  · rw [if_neg e, if_neg e, if_neg (by omega)]
theorem insP_gt {f : Nat → Int32} {k y : Int32} {h : Nat} (hy : k < y) : insP (upd f h y) k (h + 1) = insP f k h := by
  show (if k < upd f h y h then insP (upd f h y) k h else h + 1) = _
  rw [upd_s, if_pos hy]
  exact insP_c (fun j hj => upd_n _ _ (by omega))
theorem insP_le2 {f : Nat → Int32} {k y : Int32} {h : Nat} (hy : ¬ k < y) : insP (upd f h y) k (h + 1) = h + 1 := by
  show (if k < upd f h y h then insP (upd f h y) k h else h + 1) = _
  rw [upd_s, if_neg hy]
/-- the scratch of takesOut while a key k with value v comes, i cells looked at -/
def TO (ρ : Nat → Int32) (a : Nat) (k v : Int32) (K V C : Nat → Int32) (i y : Nat) (cm : Int32) (K' V' C' : Nat → Int32) : Prop :=
  (cm = -1 ∧ y = cnt ρ a i ∧ K' = tkG ρ (kv ρ) a K i ∧ V' = tkG ρ (vv ρ) a V i ∧ C' = tkG ρ nI a C i ∧ insP (tkG ρ (kv ρ) a K i) k (cnt ρ a i) = cnt ρ a i) ∨
  (∃ p, cm = nI p ∧ p ≤ cnt ρ a i ∧ y = cnt ρ a i + 1 ∧ K' = insA (tkG ρ (kv ρ) a K i) p (cnt ρ a i) k ∧ V' = insA (tkG ρ (vv ρ) a V i) p (cnt ρ a i) v ∧ C' = insA (tkG ρ nI a C i) p (cnt ρ a i) (-1) ∧ insP (tkG ρ (kv ρ) a K i) k (cnt ρ a i) = p ∧ ∃ d, d < i ∧ ¬ ρ (31 + (a + d)) = -1 ∧ k < ρ (31 + (a + d)))
theorem TO_0 {ρ : Nat → Int32} {a : Nat} {k v : Int32} {K V C : Nat → Int32} : TO ρ a k v K V C 0 0 (-1) K V C := Or.inl ⟨rfl, rfl, rfl, rfl, rfl, rfl⟩
theorem TO_e {ρ : Nat → Int32} {a : Nat} {k v : Int32} {K V C : Nat → Int32} {i y : Nat} {cm : Int32} {K' V' C' : Nat → Int32} (h : TO ρ a k v K V C i y cm K' V' C') (he : ρ (31 + (a + i)) = -1) : TO ρ a k v K V C (i + 1) y cm K' V' C' := by
  unfold TO at h ⊢
  rw [tkG_s0 he, tkG_s0 he, tkG_s0 he, cnt_s0 he]
  rcases h with h | ⟨p, h1, h2, h3, h4, h5, h6, h7, d, h8, h9⟩
  · exact Or.inl h
  · exact Or.inr ⟨p, h1, h2, h3, h4, h5, h6, h7, d, by omega, h9⟩
/-- a kept cell whose key isn't greater, nothing has come yet -/
theorem TO_1 {ρ : Nat → Int32} {a : Nat} {k v : Int32} {K V C : Nat → Int32} {i y : Nat} {K' V' C' : Nat → Int32} (h : TO ρ a k v K V C i y (-1) K' V' C') (he : ¬ ρ (31 + (a + i)) = -1) (hk : ¬ k < ρ (31 + (a + i))) (hb : cnt ρ a i < 2 ^ 31) : TO ρ a k v K V C (i + 1) (y + 1) (-1) (upd K' y (ρ (31 + (a + i)))) (upd V' y (ρ (95 + (a + i)))) (upd C' y (nI (a + i))) := by
  rcases h with ⟨h1, rfl, rfl, rfl, rfl, h6⟩ | ⟨p, h1, h2, -⟩
  · refine Or.inl ⟨rfl, (cnt_s1 he).symm, (tkG_s1 he).symm, (tkG_s1 he).symm, (tkG_s1 he).symm, ?_⟩
    rw [tkG_s1 he, cnt_s1 he]
    exact insP_le2 hk
  · exact absurd h1.symm (nI_ne_m1 (by omega))
/-- a kept cell whose key is greater: the one that comes goes ahead of it -/
theorem TO_2 {ρ : Nat → Int32} {a : Nat} {k v : Int32} {K V C : Nat → Int32} {i y : Nat} {K' V' C' : Nat → Int32} (h : TO ρ a k v K V C i y (-1) K' V' C') (he : ¬ ρ (31 + (a + i)) = -1) (hk : k < ρ (31 + (a + i))) (hb : cnt ρ a i < 2 ^ 31) : TO ρ a k v K V C (i + 1) (y + 1 + 1) (nI y) (upd (upd K' y k) (y + 1) (ρ (31 + (a + i)))) (upd (upd V' y v) (y + 1) (ρ (95 + (a + i)))) (upd (upd C' y (-1)) (y + 1) (nI (a + i))) := by
  rcases h with ⟨h1, rfl, rfl, rfl, rfl, h6⟩ | ⟨p, h1, h2, -⟩
  · refine Or.inr ⟨cnt ρ a i, rfl, by rw [cnt_s1 he]; omega, by rw [cnt_s1 he], ?_, ?_, ?_, ?_, i, by omega, he, hk⟩
    · rw [tkG_s1 he, cnt_s1 he, insA_h (tkG ρ (kv ρ) a K i) (cnt ρ a i) k, insA_step (Nat.le_refl _)]; rfl
    · rw [tkG_s1 he, cnt_s1 he, insA_h (tkG ρ (vv ρ) a V i) (cnt ρ a i) v, insA_step (Nat.le_refl _)]; rfl
    · rw [tkG_s1 he, cnt_s1 he, insA_h (tkG ρ nI a C i) (cnt ρ a i) (-1), insA_step (Nat.le_refl _)]
    · rw [tkG_s1 he, cnt_s1 he]
      exact (insP_gt hk).trans h6
  · exact absurd h1.symm (nI_ne_m1 (by omega))
/-- a kept cell behind the one that came: keys stand in order -/
theorem TO_3 {ρ : Nat → Int32} {a N : Nat} {k v : Int32} {K V C : Nat → Int32} {i y : Nat} {cm : Int32} {K' V' C' : Nat → Int32} (hs : Srt ρ N) (hN : a + i < N) (h : TO ρ a k v K V C i y cm K' V' C') (hc : ¬ cm = -1) (he : ¬ ρ (31 + (a + i)) = -1) : TO ρ a k v K V C (i + 1) (y + 1) cm (upd K' y (ρ (31 + (a + i)))) (upd V' y (ρ (95 + (a + i)))) (upd C' y (nI (a + i))) := by
  rcases h with ⟨h1, -⟩ | ⟨p, rfl, h2, rfl, rfl, rfl, rfl, h7, d, h8, h9, h10⟩
  · exact absurd h1 hc
  · have hk : k < ρ (31 + (a + i)) := Int32.lt_trans h10 (hs (a + d) (a + i) (by omega) hN h9 he)
    refine Or.inr ⟨p, rfl, by rw [cnt_s1 he]; omega, by rw [cnt_s1 he], ?_, ?_, ?_, ?_, d, by omega, h9, h10⟩
    · rw [tkG_s1 he, cnt_s1 he, insA_step h2]; rfl
    · rw [tkG_s1 he, cnt_s1 he, insA_step h2]; rfl
    · rw [tkG_s1 he, cnt_s1 he, insA_step h2]
    · rw [tkG_s1 he, cnt_s1 he]
      exact (insP_gt hk).trans h7
/-- the log's rows from k on are one place (three numbers) on -/
def shL (f : Nat → Int32) (k : Nat) : Nat → Int32 := fun j => if 7 + k < j ∧ j < 31 then f (j - 3) else f j
theorem shL_23 (f : Nat → Int32) : shL f 23 = f := by funext j; unfold shL; rw [if_neg (by omega)]
theorem shL_step {f : Nat → Int32} {k : Nat} (h : 3 ≤ k) (h2 : k ≤ 23) : upd (shL f k) (7 + k) (shL f k (7 + k - 3)) = shL f (k - 1) := by
  funext j
  unfold upd
  by_cases e : j = 7 + k
  · subst e
    rw [if_pos rfl]
    unfold shL
    rw [if_neg (by omega), if_pos (by omega)]
  · rw [if_neg e]
    unfold shL
    by_cases e2 : 7 + k < j ∧ j < 31
    · rw [if_pos e2, if_pos (by omega)]
    · rw [if_neg e2, if_neg (by omega)]
theorem note_m {R : Nat → Int32} {g : Nat} {a b m x : Int32} (hx : x = nI (min (g + 1) 8)) : upd (upd (upd (upd (shL (upd (upd R 2 (R 2 + nI 1)) 3 (R 3 + m)) 2) 7 a) 8 b) 9 m) 6 x = noteF R g a b m := by
  funext j
  unfold noteF
  by_cases h6 : j = 6
  · subst h6; rw [upd_s, hx]; rfl
  · rw [upd_n _ _ h6]
    by_cases h9 : j = 9
    · subst h9; rw [upd_s]; rfl
    · rw [upd_n _ _ h9]
      by_cases h8 : j = 8
      · subst h8; rw [upd_s]; rfl
      · rw [upd_n _ _ h8]
        by_cases h7 : j = 7
        · subst h7; rw [upd_s]; rfl
        · rw [upd_n _ _ h7]
          unfold shL
          by_cases hr : 7 + 2 < j ∧ j < 31
          · rw [if_pos hr, upd_n _ _ (by omega), upd_n _ _ (by omega), if_neg (by omega), if_neg (by omega), if_neg h6, if_neg h7, if_neg h8, if_neg h9, if_pos (by omega)]
          · rw [if_neg hr]
            by_cases h2 : j = 2
            · subst h2; rw [upd_n _ _ (by omega), upd_s]; rfl
            · by_cases h3 : j = 3
              · subst h3; rw [upd_s]; rfl
              · rw [upd_n _ _ h3, upd_n _ _ h2, if_neg h2, if_neg h3, if_neg h6, if_neg h7, if_neg h8, if_neg h9, if_neg (by omega)]
/-- the past behind leaves() -/
def lvP (P : Nat → Int32) (h : Nat) (α : Nat → Int32) : Nat → Int32 := fun j => if 159 * (kpH h - 1) ≤ j ∧ j < 159 * (kpH h - 1) + 159 then α (j - 159 * (kpH h - 1)) else if h < 5 then P j else if j < 636 then P (j + 159) else P j
def Zro (f : Nat → Int32) : Prop := ∀ j, 159 ≤ j → f j = 0
theorem mix_z {f g : Nat → Int32} (hf : Zro f) (hg : Zro g) : mixF f g 159 = g := mixF_e (fun j h => by rw [hf j h, hg j h])
def pAns (ρ : Nat → Int32) (n : Nat) (k v : Int32) : Int32 := if rfP ρ n k v = 0 then putM ρ n k else rfP ρ n k v
def pRow (ρ : Nat → Int32) (n g : Nat) (k v : Int32) : Nat → Int32 := if rfP ρ n k v = 0 then putR ρ n g k v else ρ
def tAns (ρ : Nat → Int32) (n : Nat) (k : Int32) : Int32 := if rfT ρ n k = 0 then valOf ρ k n else rfT ρ n k
def tRow (ρ : Nat → Int32) (n g : Nat) (k : Int32) : Nat → Int32 := if rfT ρ n k = 0 then takR ρ n g k else ρ
def mAns (ρ : Nat → Int32) (x : Int32) : Int32 := if rfM x = 0 then ρ 1 else rfM x
def mRow (ρ : Nat → Int32) (x : Int32) : Nat → Int32 := if rfM x = 0 then upd ρ 1 x else ρ
theorem wst_eq {sg i : Nat} : sg * 4 / (4 * 2 ^ i) * (4 * 2 ^ i) = wst sg i := by
  unfold wst
  rw [Nat.mul_comm sg 4, Nat.mul_div_mul_left _ _ (by decide)]
theorem wst_c {c i : Nat} : c / (4 * 2 ^ i) * (4 * 2 ^ i) = wst (c / 4) i := by
  unfold wst
  rw [Nat.div_div_eq_div_mul]
theorem wst_0 {c : Nat} : c / 4 * 4 = wst (c / 4) 0 := by unfold wst; simp
