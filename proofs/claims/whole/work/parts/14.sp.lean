section GD
variable {l : Launch} {X : Cx} {R : Room} {cc : ByteArray} {own : String} {ret : Option FieldType} {D : va_G} {tys : List (ClassId × FieldType)} {A : Nat → Prop} {Q : State → Prop} {k n : Nat} {ws : va_W} {pc : Nat} {lv : Lv} {st : List Value}
/-- a local's value is forgotten -/
theorem r_drop {lv' : Lv} (i : Nat) (h : lv.set i none = lv') (kk : G l X R cc own ret D tys A Q k n ws pc lv' st) : G l X R cc own ret D tys A Q k n ws pc lv st := by
  obtain ⟨p, e, s, m, args, below, meth, c⟩ := X
  intro F H locs ls hP hD hS hl
  have e1 : lv'.length = lv.length := by rw [← h, List.length_set]
  refine kk (by rw [e1]; exact F) H locs ls hP hD hS ⟨hl.1.trans e1.symm, hl.2.1, fun j v hj => hl.2.2 j v ?_⟩
  rw [← h] at hj
  by_cases e : i = j
  · subst e
    by_cases hi : i < lv.length
    · rw [List.getElem?_set_self hi] at hj; cases hj
    · rw [List.getElem?_eq_none (by rw [List.length_set]; omega)] at hj; cases hj
  · rw [List.getElem?_set_ne e] at hj; exact hj
end GD
abbrev spW (cA : ClassId) (p : Nat → Nat) (K V C : Nat → Int32) (h w : Int32) : va_W := [(p 0, .inr (2, [.ref (p 1), .ref (p 2), .ref (p 3), .int h, .int w])), (p 1, .inl (cA, 64, .inl K)), (p 2, .inl (cA, 64, .inl V)), (p 3, .inl (cA, 64, .inl C))]
abbrev Sp5 : Type := (Nat → Int32) × (Nat → Int32) × (Nat → Int32) × Int32 × Int32
abbrev spU (cA : ClassId) (p : Nat → Nat) (u : Sp5) : va_W := spW cA p u.1 u.2.1 u.2.2.1 u.2.2.2.1 u.2.2.2.2
def pz (ρ : Nat → Int32) (a n h : Nat) (w : Int32) : Nat → Nat := posF a n h (lnB ρ w) w
def Zr : Nat → Int32 := fun _ => 0
theorem tkG_c {ρ val f f' : Nat → Int32} {a : Nat} : ∀ {n j : Nat}, j < cnt ρ a n → tkG ρ val a f n j = tkG ρ val a f' n j
  | 0, _, h => absurd h (Nat.not_lt_zero _)
  | n + 1, j, h => by
    by_cases e : ρ (31 + (a + n)) = -1
    · rw [tkG_s0 e, tkG_s0 e]; rw [cnt_s0 e] at h; exact tkG_c h
    · rw [tkG_s1 e, tkG_s1 e]
      rw [cnt_s1 e] at h
      by_cases e2 : j = cnt ρ a n
      · rw [e2, upd_s, upd_s]
      · rw [upd_n _ _ e2, upd_n _ _ e2]; exact tkG_c (by omega)
theorem layF_c {ρ K V K' V' : Nat → Int32} {pos : Nat → Nat} : ∀ {h : Nat}, (∀ j, j < h → K j = K' j) → (∀ j, j < h → V j = V' j) → layF ρ K V pos h = layF ρ K' V' pos h
  | 0, _, _ => rfl
  | h + 1, h1, h2 => by
    show upd (upd _ _ _) _ _ = upd (upd _ _ _) _ _
    rw [layF_c (fun j hj => h1 j (by omega)) (fun j hj => h2 j (by omega)), h1 h (by omega), h2 h (by omega)]
theorem mvF_c {C C' : Nat → Int32} {pos : Nat → Nat} : ∀ {h : Nat}, (∀ j, j < h → C j = C' j) → mvF C pos h = mvF C' pos h
  | 0, _ => rfl
  | h + 1, h1 => by
    show mvF C pos h + _ = mvF C' pos h + _
    rw [mvF_c (fun j hj => h1 j (by omega)), h1 h (by omega)]
theorem layAll_c {ρ K V C K' V' C' : Nat → Int32} {h : Nat} {w : Int32} {a n g : Nat} (h1 : ∀ j, j < h → K j = K' j) (h2 : ∀ j, j < h → V j = V' j) (h3 : ∀ j, j < h → C j = C' j) : layAll ρ K V C h w a n g = layAll ρ K' V' C' h w a n g := by
  unfold layAll
  rw [layF_c h1 h2, mvF_c h3]
theorem mvAll_c {ρ C C' : Nat → Int32} {h : Nat} {w : Int32} {a n : Nat} (h3 : ∀ j, j < h → C j = C' j) : mvAll ρ C h w a n = mvAll ρ C' h w a n := mvF_c h3
/-- a window is spaced with none that comes -/
def spR (ρ : Nat → Int32) (g a n : Nat) : Nat → Int32 := layAll (clr ρ a n) (tkG ρ (kv ρ) a Zr n) (tkG ρ (vv ρ) a Zr n) (tkG ρ nI a Zr n) (cnt ρ a n) (-1) a n g
def spM (ρ : Nat → Int32) (a n : Nat) : Nat := mvAll (clr ρ a n) (tkG ρ nI a Zr n) (cnt ρ a n) (-1) a n
theorem spR_c {ρ fk fv fc : Nat → Int32} {g a n : Nat} : layAll (clr ρ a n) (tkG ρ (kv ρ) a fk n) (tkG ρ (vv ρ) a fv n) (tkG ρ nI a fc n) (cnt ρ a n) (-1) a n g = spR ρ g a n := layAll_c (fun j hj => tkG_c hj) (fun j hj => tkG_c hj) (fun j hj => tkG_c hj)
theorem spM_c {ρ fc : Nat → Int32} {a n : Nat} : mvAll (clr ρ a n) (tkG ρ nI a fc n) (cnt ρ a n) (-1) a n = spM ρ a n := mvAll_c (fun j hj => tkG_c hj)
/-- the row all of which is too thin: half of it, if it can -/
def shR (ρ : Nat → Int32) (g n : Nat) : Nat → Int32 := if 16 < n then layAll (upd (upd (clr ρ 0 n) 0 (nI (n / 2))) 5 (ρ 5 + 1)) (tkG ρ (kv ρ) 0 Zr n) (tkG ρ (vv ρ) 0 Zr n) (tkG ρ nI 0 Zr n) (cnt ρ 0 n) (-1) 0 (n / 2) g else spR ρ g 0 n
theorem insP_c {f f' : Nat → Int32} {k : Int32} : ∀ {h : Nat}, (∀ j, j < h → f j = f' j) → insP f k h = insP f' k h
  | 0, _ => rfl
  | h + 1, h1 => by
    unfold insP
    rw [h1 h (by omega), insP_c (fun j hj => h1 j (by omega))]
theorem insA_c {f f' : Nat → Int32} {p h : Nat} {x : Int32} (h1 : ∀ j, j < h → f j = f' j) {j : Nat} (hp : p ≤ h) (hj : j < h + 1) : insA f p h x j = insA f' p h x j := by
  unfold insA
  by_cases e : j = p
  · rw [if_pos e, if_pos e]
  · rw [if_neg e, if_neg e]
    by_cases e2 : p < j ∧ j ≤ h
    · rw [if_pos e2, if_pos e2]; exact h1 _ (by omega)
    · rw [if_neg e2, if_neg e2]; exact h1 _ (by omega)
/-- a key comes into a window of n cells from a (ρ0: the row it is laid into, n0 cells from a) -/
def inR (ρ ρ0 : Nat → Int32) (g a n n0 : Nat) (k v : Int32) : Nat → Int32 := layAll ρ0 (insA (tkG ρ (kv ρ) a Zr n) (insP (tkG ρ (kv ρ) a Zr n) k (cnt ρ a n)) (cnt ρ a n) k) (insA (tkG ρ (vv ρ) a Zr n) (insP (tkG ρ (kv ρ) a Zr n) k (cnt ρ a n)) (cnt ρ a n) v) (insA (tkG ρ nI a Zr n) (insP (tkG ρ (kv ρ) a Zr n) k (cnt ρ a n)) (cnt ρ a n) (-1)) (cnt ρ a n + 1) (nI (insP (tkG ρ (kv ρ) a Zr n) k (cnt ρ a n))) a n0 g
def inM (ρ ρ0 : Nat → Int32) (a n n0 : Nat) (k : Int32) : Nat := mvAll ρ0 (insA (tkG ρ nI a Zr n) (insP (tkG ρ (kv ρ) a Zr n) k (cnt ρ a n)) (cnt ρ a n) (-1)) (cnt ρ a n + 1) (nI (insP (tkG ρ (kv ρ) a Zr n) k (cnt ρ a n))) a n0
theorem inR_c {ρ ρ0 fk fv fc : Nat → Int32} {g a n n0 : Nat} {k v : Int32} : layAll ρ0 (insA (tkG ρ (kv ρ) a fk n) (insP (tkG ρ (kv ρ) a fk n) k (cnt ρ a n)) (cnt ρ a n) k) (insA (tkG ρ (vv ρ) a fv n) (insP (tkG ρ (kv ρ) a fk n) k (cnt ρ a n)) (cnt ρ a n) v) (insA (tkG ρ nI a fc n) (insP (tkG ρ (kv ρ) a fk n) k (cnt ρ a n)) (cnt ρ a n) (-1)) (cnt ρ a n + 1) (nI (insP (tkG ρ (kv ρ) a fk n) k (cnt ρ a n))) a n0 g = inR ρ ρ0 g a n n0 k v := by
  unfold inR
  rw [insP_c (f := tkG ρ (kv ρ) a fk n) (f' := tkG ρ (kv ρ) a Zr n) (fun j hj => tkG_c hj)]
  exact layAll_c (fun j hj => insA_c (fun j hj => tkG_c hj) (insP_le _ _ _) hj) (fun j hj => insA_c (fun j hj => tkG_c hj) (insP_le _ _ _) hj) (fun j hj => insA_c (fun j hj => tkG_c hj) (insP_le _ _ _) hj)
theorem inM_c {ρ ρ0 fk fc : Nat → Int32} {a n n0 : Nat} {k : Int32} : mvAll ρ0 (insA (tkG ρ nI a fc n) (insP (tkG ρ (kv ρ) a fk n) k (cnt ρ a n)) (cnt ρ a n) (-1)) (cnt ρ a n + 1) (nI (insP (tkG ρ (kv ρ) a fk n) k (cnt ρ a n))) a n0 = inM ρ ρ0 a n n0 k := by
  unfold inM
  rw [insP_c (f := tkG ρ (kv ρ) a fk n) (f' := tkG ρ (kv ρ) a Zr n) (fun j hj => tkG_c hj)]
  exact mvAll_c (fun j hj => insA_c (fun j hj => tkG_c hj) (insP_le _ _ _) hj)
/-- a key comes: the row, and how many moved -/
def dbl (ρ : Nat → Int32) (n : Nat) : Nat → Int32 := upd (upd (clr ρ 0 n) 0 (nI (2 * n))) 4 (ρ 4 + 1)
def comeR (ρ : Nat → Int32) (n g : Nat) (k v : Int32) : Nat → Int32 := match lvF ρ n (segF ρ k n) (topN n + 1) 0 with
  | some i => inR ρ (clr ρ (wst (segF ρ k n) i) (4 * 2 ^ i)) g (wst (segF ρ k n) i) (4 * 2 ^ i) (4 * 2 ^ i) k v
  | none => inR ρ (dbl ρ n) g 0 n (2 * n) k v
def comeM (ρ : Nat → Int32) (n : Nat) (k : Int32) : Nat := match lvF ρ n (segF ρ k n) (topN n + 1) 0 with
  | some i => inM ρ (clr ρ (wst (segF ρ k n) i) (4 * 2 ^ i)) (wst (segF ρ k n) i) (4 * 2 ^ i) (4 * 2 ^ i) k
  | none => inM ρ (dbl ρ n) 0 n (2 * n) k
theorem lvF_some {ρ : Nat → Int32} {n sg i : Nat} : ∀ {f j : Nat}, lvF ρ n sg f j = some i → j ≤ i ∧ i < j + f ∧ cnt ρ (wst sg i) (4 * 2 ^ i) + 1 ≤ mostN n i
  | 0, _, h => by cases h
  | f + 1, j, h => by
    unfold lvF at h
    split at h
    · next e => cases h; exact ⟨Nat.le_refl _, by omega, e⟩
    · have := lvF_some h; exact ⟨by omega, by omega, this.2.2⟩
/-- a key goes: the least window that is not too thin, the levels from i on -/
def gvF (ρ : Nat → Int32) (n sg : Nat) : Nat → Nat → Option Nat
  | 0, _ => none
  | f + 1, i => if leastN n i ≤ cnt ρ (wst sg i) (4 * 2 ^ i) then some i else gvF ρ n sg f (i + 1)
def emp (ρ : Nat → Int32) (c : Nat) : Nat → Int32 := upd (upd ρ (31 + c) (-1)) (95 + c) 0
def goR (ρ : Nat → Int32) (n g c : Nat) : Nat → Int32 := if leastN n 0 ≤ cnt (emp ρ c) (wst (c / 4) 0) 4 then emp ρ c else match gvF (emp ρ c) n (c / 4) (topN n) 1 with
  | some i => spR (emp ρ c) g (wst (c / 4) i) (4 * 2 ^ i)
  | none => shR (emp ρ c) g n
theorem gvF_none {ρ : Nat → Int32} {n sg : Nat} : ∀ {f j : Nat}, gvF ρ n sg f j = none → ∀ i, j ≤ i → i < j + f → cnt ρ (wst sg i) (4 * 2 ^ i) < leastN n i
  | 0, _, _, i, h1, h2 => absurd h1 (by omega)
  | f + 1, j, h, i, h1, h2 => by
    unfold gvF at h
    split at h
    · cases h
    · next e =>
      rcases Nat.lt_or_ge j i with h3 | h3
      · exact gvF_none h i (by omega) (by omega)
      · rw [show i = j by omega]; omega
/-- the top window is the whole row -/
theorem top_pow {n : Nat} (h3 : n = 16 ∨ n = 32 ∨ n = 64) : 4 * 2 ^ topN n = n := by rcases h3 with rfl | rfl | rfl <;> decide
theorem wst_top {n sg : Nat} (h3 : n = 16 ∨ n = 32 ∨ n = 64) (hs : sg * 4 < n) : wst sg (topN n) = 0 := by
  have h := wst_le h3 hs (Nat.le_refl _)
  rw [top_pow h3] at h
  omega
theorem least_half {n : Nat} (h3 : n = 16 ∨ n = 32 ∨ n = 64) : leastN n (topN n) ≤ n / 2 := by rcases h3 with rfl | rfl | rfl <;> decide
