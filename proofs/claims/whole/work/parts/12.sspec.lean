/-! keys and values by their cells -/
def kv (ρ : Nat → Int32) : Nat → Int32 := fun c => ρ (31 + c)
def vv (ρ : Nat → Int32) : Nat → Int32 := fun c => ρ (95 + c)
/-- a row of scratch behind the taking of n cells from a: the kept ones' values, one behind the other -/
def tkG (ρ val : Nat → Int32) (a : Nat) (f : Nat → Int32) : Nat → Nat → Int32
  | 0 => f
  | n + 1 => if ρ (31 + (a + n)) = -1 then tkG ρ val a f n else upd (tkG ρ val a f n) (cnt ρ a n) (val (a + n))
/-- the row behind it: those cells are empty -/
def clr (ρ : Nat → Int32) (a : Nat) : Nat → Nat → Int32
  | 0 => ρ
  | n + 1 => if ρ (31 + (a + n)) = -1 then clr ρ a n else upd (upd (clr ρ a n) (31 + (a + n)) (-1)) (95 + (a + n)) 0
theorem tkG_s0 {ρ val f : Nat → Int32} {a n : Nat} (h : ρ (31 + (a + n)) = -1) : tkG ρ val a f (n + 1) = tkG ρ val a f n := if_pos h
theorem tkG_s1 {ρ val f : Nat → Int32} {a n : Nat} (h : ¬ ρ (31 + (a + n)) = -1) : tkG ρ val a f (n + 1) = upd (tkG ρ val a f n) (cnt ρ a n) (val (a + n)) := if_neg h
theorem clr_s0 {ρ : Nat → Int32} {a n : Nat} (h : ρ (31 + (a + n)) = -1) : clr ρ a (n + 1) = clr ρ a n := if_pos h
theorem clr_s1 {ρ : Nat → Int32} {a n : Nat} (h : ¬ ρ (31 + (a + n)) = -1) : clr ρ a (n + 1) = upd (upd (clr ρ a n) (31 + (a + n)) (-1)) (95 + (a + n)) 0 := if_neg h
/-- outside its cells nothing is emptied -/
theorem clr_out {ρ : Nat → Int32} {a : Nat} {j : Nat} : ∀ {n : Nat}, (∀ c, a ≤ c → c < a + n → ¬ j = 31 + c ∧ ¬ j = 95 + c) → clr ρ a n j = ρ j
  | 0, _ => rfl
  | n + 1, h => by
    have h1 := clr_out (ρ := ρ) (n := n) (fun c h1 h2 => h c h1 (by omega))
    by_cases e : ρ (31 + (a + n)) = -1
    · rw [clr_s0 e]; exact h1
    · obtain ⟨h2, h3⟩ := h (a + n) (by omega) (by omega)
      rw [clr_s1 e, upd_n _ _ h3, upd_n _ _ h2]; exact h1
theorem clr_k {ρ : Nat → Int32} {a n c : Nat} (h : a + n ≤ c) (hc : c < 64) : clr ρ a n (31 + c) = ρ (31 + c) := clr_out (fun d h1 h2 => by omega)
theorem clr_v {ρ : Nat → Int32} {a n c : Nat} (h : a + n ≤ c) : clr ρ a n (95 + c) = ρ (95 + c) := clr_out (fun d h1 h2 => by omega)
/-- where one that comes is put among h: behind the last that isn't greater -/
def insP (f : Nat → Int32) (k : Int32) : Nat → Nat
  | 0 => 0
  | h + 1 => if k < f h then insP f k h else h + 1
theorem insP_le (f : Nat → Int32) (k : Int32) : ∀ h, insP f k h ≤ h
  | 0 => Nat.le_refl _
  | h + 1 => by unfold insP; split; exact Nat.le_succ_of_le (insP_le f k h); exact Nat.le_refl _
def shi (f : Nat → Int32) (p h : Nat) : Nat → Int32 := fun j => if p < j ∧ j ≤ h then f (j - 1) else f j
def insA (f : Nat → Int32) (p h : Nat) (x : Int32) : Nat → Int32 := fun j => if j = p then x else if p < j ∧ j ≤ h then f (j - 1) else f j
theorem shi_h (f : Nat → Int32) (h : Nat) : shi f h h = f := by
  funext j
  unfold shi
  rw [if_neg (by omega)]
theorem shi_lo {f : Nat → Int32} {p h : Nat} (hp : 0 < p) : shi f p h (p - 1) = f (p - 1) := by
  unfold shi
  rw [if_neg (by omega)]
theorem shi_step {f : Nat → Int32} {p h : Nat} (hp : 0 < p) (hh : p ≤ h) : upd (shi f p h) p (f (p - 1)) = shi f (p - 1) h := by
  funext j
  unfold upd
  by_cases e : j = p
  · subst e
    rw [if_pos rfl]
    unfold shi
    rw [if_pos (by omega)]
  · rw [if_neg e]
    unfold shi
    by_cases e2 : p < j ∧ j ≤ h
    · rw [if_pos e2, if_pos (by omega)]
    · rw [if_neg e2, if_neg (by omega)]
theorem shi_ins (f : Nat → Int32) (p h : Nat) (x : Int32) : upd (shi f p h) p x = insA f p h x := rfl
/-- where the j-th of h is laid among n cells from a -/
def posF (a n h : Nat) (le : Bool) (w : Int32) (j : Nat) : Nat := a + j * (n - (if le then (n - h) / 2 else 0)) / h + (if le && decide (w < nI j) then (n - h) / 2 else 0)
def layF (ρ K V : Nat → Int32) (pos : Nat → Nat) : Nat → Nat → Int32
  | 0 => ρ
  | j + 1 => upd (upd (layF ρ K V pos j) (31 + pos j) (K j)) (95 + pos j) (V j)
def mvF (C : Nat → Int32) (pos : Nat → Nat) : Nat → Nat
  | 0 => 0
  | j + 1 => mvF C pos j + (if nI (pos j) = C j then 0 else 1)
theorem mvF_le (C : Nat → Int32) (pos : Nat → Nat) : ∀ j, mvF C pos j ≤ j
  | 0 => Nat.le_refl _
  | j + 1 => by have := mvF_le C pos j; unfold mvF; split <;> omega
theorem mvF_s0 {C : Nat → Int32} {pos : Nat → Nat} {j : Nat} (h : nI (pos j) = C j) : mvF C pos (j + 1) = mvF C pos j := by show _ + _ = _; rw [if_pos h]; rfl
theorem mvF_s1 {C : Nat → Int32} {pos : Nat → Nat} {j : Nat} (h : ¬ nI (pos j) = C j) : mvF C pos (j + 1) = mvF C pos j + 1 := by show _ + _ = _; rw [if_neg h]
def lnB (ρ : Nat → Int32) (w : Int32) : Bool := decide (ρ 1 = 1 ∧ ¬ w = -1)
def layAll (ρ K V C : Nat → Int32) (h : Nat) (w : Int32) (a n g : Nat) : Nat → Int32 := noteF (layF ρ K V (posF a n h (lnB ρ w) w) h) g (nI a) (nI n) (nI (mvF C (posF a n h (lnB ρ w) w) h))
def mvAll (ρ C : Nat → Int32) (h : Nat) (w : Int32) (a n : Nat) : Nat := mvF C (posF a n h (lnB ρ w) w) h
theorem div_lt_of {j h x : Nat} (hj : j < h) (hx : 0 < x) : j * x / h < x := by
  rw [Nat.div_lt_iff_lt_mul (by omega)]
  rw [Nat.mul_comm x h]
  exact Nat.mul_lt_mul_of_pos_right hj hx
theorem pos_lt {a n h : Nat} {le : Bool} {w : Int32} {j : Nat} (hj : j < h) (hh : h ≤ n) : posF a n h le w j < a + n := by
  unfold posF
  cases le with
  | false =>
    simp only [Bool.false_and, Nat.sub_zero]
    have := div_lt_of hj (show 0 < n by omega)
    simp
    omega
  | true =>
    have := div_lt_of hj (show 0 < n - (n - h) / 2 by omega)
    simp only [Bool.true_and, if_pos]
    split <;> omega
theorem layF_low {ρ K V : Nat → Int32} {pos : Nat → Nat} {i : Nat} (hi : i < 31) : ∀ j, layF ρ K V pos j i = ρ i
  | 0 => rfl
  | j + 1 => by
    show upd (upd _ _ _) _ _ i = _
    rw [upd_n _ _ (by omega), upd_n _ _ (by omega)]
    exact layF_low hi j
theorem clr_low {ρ : Nat → Int32} {a n i : Nat} (hi : i < 31) : clr ρ a n i = ρ i := clr_out (fun d h1 h2 => by omega)
/-- where a window of level i lies, for a segment -/
def wst (sg i : Nat) : Nat := sg / 2 ^ i * (4 * 2 ^ i)
theorem shr_ok : ∀ (sg : Fin 16) (i : Fin 5), nI sg.val >>> (nI i.val &&& 31) = nI (sg.val / 2 ^ i.val) := by decide +kernel
theorem wst_16 : ∀ (sg : Fin 4) (i : Fin 3), wst sg.val i.val + 4 * 2 ^ i.val ≤ 16 := by decide +kernel
theorem wst_32 : ∀ (sg : Fin 8) (i : Fin 4), wst sg.val i.val + 4 * 2 ^ i.val ≤ 32 := by decide +kernel
theorem wst_64 : ∀ (sg : Fin 16) (i : Fin 5), wst sg.val i.val + 4 * 2 ^ i.val ≤ 64 := by decide +kernel
theorem wst_le {n sg i : Nat} (h3 : n = 16 ∨ n = 32 ∨ n = 64) (hs : sg * 4 < n) (hi : i ≤ topN n) : wst sg i + 4 * 2 ^ i ≤ n := by
  rcases h3 with rfl | rfl | rfl
  · have : i ≤ 2 := hi
    exact wst_16 ⟨sg, by omega⟩ ⟨i, by omega⟩
  · have : i ≤ 3 := hi
    exact wst_32 ⟨sg, by omega⟩ ⟨i, by omega⟩
  · have : i ≤ 4 := hi
    exact wst_64 ⟨sg, by omega⟩ ⟨i, by omega⟩
theorem most_le {n i : Nat} : mostN n i ≤ 4 * 2 ^ i := by
  unfold mostN
  apply Nat.div_le_of_le_mul
  rw [Nat.mul_comm 100]
  exact Nat.mul_le_mul_left _ (Nat.sub_le _ _)
/-- the least level from i on whose window would not be too dense -/
def lvF (ρ : Nat → Int32) (n sg : Nat) : Nat → Nat → Option Nat
  | 0, _ => none
  | f + 1, i => if cnt ρ (wst sg i) (4 * 2 ^ i) + 1 ≤ mostN n i then some i else lvF ρ n sg f (i + 1)
def oI (o : Option Nat) : Int32 := match o with
  | none => -1
  | some i => nI i
/-- the segment of the last cell whose key is below k -/
def segF (ρ : Nat → Int32) (k : Int32) : Nat → Nat
  | 0 => 0
  | n + 1 => if ¬ ρ (31 + n) = -1 ∧ ρ (31 + n) < k then n / 4 else segF ρ k n
/-- keys stand in order -/
def Srt (ρ : Nat → Int32) (n : Nat) : Prop := ∀ c d, c < d → d < n → ¬ ρ (31 + c) = -1 → ¬ ρ (31 + d) = -1 → ρ (31 + c) < ρ (31 + d)
theorem segF_le (ρ : Nat → Int32) (k : Int32) : ∀ n, 0 < n → segF ρ k n * 4 < n
  | 0, h => absurd h (Nat.lt_irrefl 0)
  | n + 1, _ => by
    unfold segF
    split
    · omega
    · rcases Nat.eq_zero_or_pos n with h | h
      · rw [h]; exact Nat.lt_succ_of_le (Nat.le_refl 0)
      · have := segF_le ρ k n h; omega
theorem blw_c {ρ : Nat → Int32} {k : Int32} : ∀ {n : Nat}, (∀ c, c < n → ¬ ρ (31 + c) = -1 → ρ (31 + c) < k) → blw ρ k n = cnt ρ 0 n
  | 0, _ => rfl
  | n + 1, h => by
    have ih := blw_c (ρ := ρ) (k := k) (n := n) (fun c hc => h c (by omega))
    by_cases e : ρ (31 + n) = -1
    · rw [blw_s0 e, cnt0_s0 e, ih]
    · rw [blw_s1 e (h n (by omega) e), cnt0_s1 e, ih]
theorem blw_n {ρ : Nat → Int32} {k : Int32} {m : Nat} : ∀ {n : Nat}, m ≤ n → (∀ c, m ≤ c → c < n → ¬ ρ (31 + c) = -1 → ¬ ρ (31 + c) < k) → blw ρ k n = blw ρ k m
  | 0, h, _ => by rw [Nat.le_zero.mp h]
  | n + 1, h, h2 => by
    rcases Nat.lt_or_ge m (n + 1) with h1 | h1
    · have ih := blw_n (ρ := ρ) (k := k) (m := m) (n := n) (by omega) (fun c a b => h2 c a (by omega))
      by_cases e : ρ (31 + n) = -1
      · rw [blw_s0 e, ih]
      · rw [blw_s2 e (h2 n (by omega) (by omega) e), ih]
    · rw [show m = n + 1 by omega]
/-- the segment for a key, by ranks: keys stand in order -/
theorem segF_rank {ρ : Nat → Int32} {k : Int32} {N : Nat} (hs : Srt ρ N) : ∀ {n : Nat}, n ≤ N → (blw ρ k n = 0 ∧ segF ρ k n = 0) ∨ ∃ c, c < n ∧ ¬ ρ (31 + c) = -1 ∧ ρ (31 + c) < k ∧ cnt ρ 0 c + 1 = blw ρ k n ∧ segF ρ k n = c / 4
  | 0, _ => Or.inl ⟨rfl, rfl⟩
  | n + 1, hn => by
    by_cases e : ¬ ρ (31 + n) = -1 ∧ ρ (31 + n) < k
    · right
      have hb : blw ρ k n = cnt ρ 0 n := blw_c (fun c hc hk => Int32.lt_trans (hs c n hc (by omega) hk e.1) e.2)
      exact ⟨n, by omega, e.1, e.2, by rw [blw_s1 e.1 e.2, hb], if_pos e⟩
    · have hsg : segF ρ k (n + 1) = segF ρ k n := if_neg e
      have hb : blw ρ k (n + 1) = blw ρ k n := by
        by_cases e1 : ρ (31 + n) = -1
        · exact blw_s0 e1
        · exact blw_s2 e1 (fun z => e ⟨e1, z⟩)
      rw [hsg, hb]
      rcases segF_rank hs (n := n) (by omega) with h | ⟨c, h1, h2⟩
      · exact Or.inl h
      · exact Or.inr ⟨c, by omega, h2⟩
