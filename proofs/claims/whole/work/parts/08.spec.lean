theorem cat1 {av : List Value} (h : av.all (fun v => v.category == 1) = true) : ∀ v ∈ av, v.category = 1 := fun v hv => by simpa using List.all_eq_true.mp h v hv
theorem mt_in {l : Launch} {D : va_G} {tys : List (ClassId × FieldType)} {y : MethodName} {b : ByteArray} {n : Nat} {ret : Option FieldType} {rm : Room} {av : List Value} {w : va_W} {S : Type} {post : Option Value → S → Prop} {w' : S → va_W} {mc ms : Nat} (own : String) (lv : Lv)
    (hown : y.cls = own) (hy : plainName own = true) (hc : av.all (fun v => v.category == 1) = true) (hle : (lg_sl av).length ≤ n) (hlv : av.map some ++ List.replicate (n - av.length) none = lv) (hn : lv.length = n)
    (body : ∀ (X : Cx) (sz : Nat), G l X rm b own ret D tys (va_A w sz) (QX X D tys w sz S post w' mc ms) 0 0 w 0 lv []) : Mt l D tys y b n ret rm av w S post w' mc ms := by
  subst hown
  exact mt_of lv hy (cat1 hc) hle hlv hn body
/-! A ROW is one function ρ: 0 size, 1 mode, 2 spacings, 3 moves, 4 doubled, 5 halved, 6 logs, 7.. the log by threes, 31.. keys, 95.. values. -/
def kA (ρ : Nat → Int32) : Nat → Int32 := fun j => if j < 64 then ρ (31 + j) else 0
def vA (ρ : Nat → Int32) : Nat → Int32 := fun j => if j < 64 then ρ (95 + j) else 0
def gA (w : Nat) (ρ : Nat → Int32) : Nat → Int32 := fun j => if j < 8 then ρ (7 + 3 * j + w) else 0
theorem kA_lt {ρ : Nat → Int32} {j : Nat} (h : j < 64) : kA ρ j = ρ (31 + j) := if_pos h
theorem vA_lt {ρ : Nat → Int32} {j : Nat} (h : j < 64) : vA ρ j = ρ (95 + j) := if_pos h
theorem gA_lt {w : Nat} {ρ : Nat → Int32} {j : Nat} (h : j < 8) : gA w ρ j = ρ (7 + 3 * j + w) := if_pos h
theorem kA_upd {ρ : Nat → Int32} {c : Nat} {x : Int32} (h : c < 64) : upd (kA ρ) c x = kA (upd ρ (31 + c) x) := by
  funext j
  by_cases e : j = c
  · subst e; simp [upd, kA, h]
  · have e2 : ¬ 31 + j = 31 + c := by omega
    simp [upd, kA, e]
theorem kA_oth {ρ : Nat → Int32} {i : Nat} {x : Int32} (h : i < 31 ∨ 95 ≤ i) : kA (upd ρ i x) = kA ρ := by
  funext j
  unfold kA upd
  by_cases hj : j < 64
  · rw [if_pos hj, if_pos hj, if_neg (by omega)]
  · rw [if_neg hj, if_neg hj]
theorem vA_upd {ρ : Nat → Int32} {c : Nat} {x : Int32} (h : c < 64) : upd (vA ρ) c x = vA (upd ρ (95 + c) x) := by
  funext j
  by_cases e : j = c
  · subst e; simp [upd, vA, h]
  · have e2 : ¬ 95 + j = 95 + c := by omega
    simp [upd, vA, e]
theorem vA_oth {ρ : Nat → Int32} {i : Nat} {x : Int32} (h : i < 95 ∨ 159 ≤ i) : vA (upd ρ i x) = vA ρ := by
  funext j
  unfold vA upd
  by_cases hj : j < 64
  · rw [if_pos hj, if_pos hj, if_neg (by omega)]
  · rw [if_neg hj, if_neg hj]
theorem gA_oth {w : Nat} {ρ : Nat → Int32} {i : Nat} {x : Int32} (hw : w < 3) (h : i < 7 ∨ 31 ≤ i) : gA w (upd ρ i x) = gA w ρ := by
  funext j
  unfold gA upd
  by_cases hj : j < 8
  · rw [if_pos hj, if_pos hj, if_neg (by omega)]
  · rw [if_neg hj, if_neg hj]
abbrev rowW (cA : ClassId) (q : Nat → Nat) (ρ : Nat → Int32) : va_W := [(q 0, .inr (1, [.int (ρ 0), .int (ρ 1), .int (ρ 2), .int (ρ 3), .int (ρ 4), .int (ρ 5), .int (ρ 6), .ref (q 1), .ref (q 2), .ref (q 3), .ref (q 4), .ref (q 5)])), (q 1, .inl (cA, 64, .inl (kA ρ))), (q 2, .inl (cA, 64, .inl (vA ρ))), (q 3, .inl (cA, 8, .inl (gA 0 ρ))), (q 4, .inl (cA, 8, .inl (gA 1 ρ))), (q 5, .inl (cA, 8, .inl (gA 2 ρ)))]
theorem row_setK {cA : ClassId} {q : Nat → Nat} {ρ : Nat → Int32} {c : Nat} {x : Int32} (h : c < 64) : ([(q 0, .inr (1, [.int (ρ 0), .int (ρ 1), .int (ρ 2), .int (ρ 3), .int (ρ 4), .int (ρ 5), .int (ρ 6), .ref (q 1), .ref (q 2), .ref (q 3), .ref (q 4), .ref (q 5)])), (q 1, .inl (cA, 64, .inl (upd (kA ρ) c x))), (q 2, .inl (cA, 64, .inl (vA ρ))), (q 3, .inl (cA, 8, .inl (gA 0 ρ))), (q 4, .inl (cA, 8, .inl (gA 1 ρ))), (q 5, .inl (cA, 8, .inl (gA 2 ρ)))] : va_W) = rowW cA q (upd ρ (31 + c) x) := by
  unfold rowW
  rw [kA_upd h, vA_oth (by omega), gA_oth (by omega) (by omega), gA_oth (by omega) (by omega), gA_oth (by omega) (by omega)]
  simp only [upd_n ρ x (show ¬ 0 = 31 + c by omega), upd_n ρ x (show ¬ 1 = 31 + c by omega), upd_n ρ x (show ¬ 2 = 31 + c by omega), upd_n ρ x (show ¬ 3 = 31 + c by omega), upd_n ρ x (show ¬ 4 = 31 + c by omega), upd_n ρ x (show ¬ 5 = 31 + c by omega), upd_n ρ x (show ¬ 6 = 31 + c by omega)]
theorem row_setV {cA : ClassId} {q : Nat → Nat} {ρ : Nat → Int32} {c : Nat} {x : Int32} (h : c < 64) : ([(q 0, .inr (1, [.int (ρ 0), .int (ρ 1), .int (ρ 2), .int (ρ 3), .int (ρ 4), .int (ρ 5), .int (ρ 6), .ref (q 1), .ref (q 2), .ref (q 3), .ref (q 4), .ref (q 5)])), (q 1, .inl (cA, 64, .inl (kA ρ))), (q 2, .inl (cA, 64, .inl (upd (vA ρ) c x))), (q 3, .inl (cA, 8, .inl (gA 0 ρ))), (q 4, .inl (cA, 8, .inl (gA 1 ρ))), (q 5, .inl (cA, 8, .inl (gA 2 ρ)))] : va_W) = rowW cA q (upd ρ (95 + c) x) := by
  unfold rowW
  rw [vA_upd h, kA_oth (by omega), gA_oth (by omega) (by omega), gA_oth (by omega) (by omega), gA_oth (by omega) (by omega)]
  simp only [upd_n ρ x (show ¬ 0 = 95 + c by omega), upd_n ρ x (show ¬ 1 = 95 + c by omega), upd_n ρ x (show ¬ 2 = 95 + c by omega), upd_n ρ x (show ¬ 3 = 95 + c by omega), upd_n ρ x (show ¬ 4 = 95 + c by omega), upd_n ρ x (show ¬ 5 = 95 + c by omega), upd_n ρ x (show ¬ 6 = 95 + c by omega)]
/-- one of the seven numbers of a row is set -/
theorem row_setF {cA : ClassId} {q : Nat → Nat} {ρ : Nat → Int32} (i : Nat) {x : Int32} (h : i < 7) : ([(q 0, .inr (1, ([.int (ρ 0), .int (ρ 1), .int (ρ 2), .int (ρ 3), .int (ρ 4), .int (ρ 5), .int (ρ 6), .ref (q 1), .ref (q 2), .ref (q 3), .ref (q 4), .ref (q 5)] : List Value).set i (.int x))), (q 1, .inl (cA, 64, .inl (kA ρ))), (q 2, .inl (cA, 64, .inl (vA ρ))), (q 3, .inl (cA, 8, .inl (gA 0 ρ))), (q 4, .inl (cA, 8, .inl (gA 1 ρ))), (q 5, .inl (cA, 8, .inl (gA 2 ρ)))] : va_W) = rowW cA q (upd ρ i x) := by
  unfold rowW
  rw [kA_oth (by omega), vA_oth (by omega), gA_oth (by omega) (by omega), gA_oth (by omega) (by omega), gA_oth (by omega) (by omega)]
  match i, h with
  | 0, _ => rfl
  | 1, _ => rfl
  | 2, _ => rfl
  | 3, _ => rfl
  | 4, _ => rfl
  | 5, _ => rfl
  | 6, _ => rfl
  | k + 7, h => exact absurd h (by omega)
/-! what is asked of a row -/
def topN (sz : Nat) : Nat := if sz = 16 then 2 else if sz = 32 then 3 else 4
def mostN (sz n : Nat) : Nat := 4 * 2 ^ n * (100 - 25 * n / topN sz) / 100
def leastN (sz n : Nat) : Nat := 4 * 2 ^ n * (25 + 5 * n / topN sz) / 100
def cnt (ρ : Nat → Int32) (a : Nat) : Nat → Nat
  | 0 => 0
  | n + 1 => cnt ρ a n + (if ρ (31 + (a + n)) = -1 then 0 else 1)
def blw (ρ : Nat → Int32) (k : Int32) : Nat → Nat
  | 0 => 0
  | n + 1 => blw ρ k n + (if ρ (31 + n) = -1 then 0 else if ρ (31 + n) < k then 1 else 0)
def lastF (ρ : Nat → Int32) (k : Int32) : Nat → Int32
  | 0 => -1
  | n + 1 => if ρ (31 + n) = k then nI n else lastF ρ k n
def nthF (ρ : Nat → Int32) (i : Nat) : Nat → Int32
  | 0 => -1
  | n + 1 => if ¬ ρ (31 + n) = -1 ∧ cnt ρ 0 n = i then nI n else nthF ρ i n
def vsum (ρ : Nat → Int32) (a b : Int32) : Nat → Int32
  | 0 => 0
  | n + 1 => if a ≤ ρ (31 + n) ∧ ρ (31 + n) ≤ b then vsum ρ a b n + ρ (95 + n) else vsum ρ a b n
def lstF (ρ : Nat → Int32) (g : Nat) : Int32 := if ¬ ρ (31 + 4 * g) = -1 then ρ (31 + 4 * g) else if ¬ ρ (31 + (4 * g + 1)) = -1 then ρ (31 + (4 * g + 1)) else if ¬ ρ (31 + (4 * g + 2)) = -1 then ρ (31 + (4 * g + 2)) else ρ (31 + (4 * g + 3))
theorem cnt_le (ρ : Nat → Int32) (a : Nat) : ∀ n, cnt ρ a n ≤ n
  | 0 => Nat.le_refl _
  | n + 1 => by
    have := cnt_le ρ a n
    unfold cnt
    split <;> omega
theorem blw_le (ρ : Nat → Int32) (k : Int32) : ∀ n, blw ρ k n ≤ n
  | 0 => Nat.le_refl _
  | n + 1 => by
    have := blw_le ρ k n
    unfold blw
    split
    · omega
    · split <;> omega
theorem cnt_mono (ρ : Nat → Int32) (a : Nat) {n m : Nat} (h : n ≤ m) : cnt ρ a n ≤ cnt ρ a m := by
  induction m with
  | zero => rw [Nat.le_zero.mp h]; exact Nat.le_refl _
  | succ m ih =>
    rcases Nat.lt_or_ge n (m + 1) with h1 | h1
    · exact Nat.le_trans (ih (by omega)) (by show _ ≤ cnt ρ a m + _; omega)
    · rw [show n = m + 1 by omega]; exact Nat.le_refl _
theorem nthF_none {ρ : Nat → Int32} {i : Nat} : ∀ {n : Nat}, cnt ρ 0 n ≤ i → nthF ρ i n = -1
  | 0, _ => rfl
  | n + 1, h => by
    have h1 : cnt ρ 0 n ≤ cnt ρ 0 (n + 1) := cnt_mono ρ 0 (Nat.le_succ n)
    unfold nthF
    by_cases e : ρ (31 + n) = -1
    · rw [if_neg (fun z => z.1 e)]; exact nthF_none (Nat.le_trans h1 h)
    · have h2 : cnt ρ 0 (n + 1) = cnt ρ 0 n + 1 := by show cnt ρ 0 n + _ = _; rw [Nat.zero_add, if_neg e]
      rw [if_neg (fun z => by omega)]; exact nthF_none (Nat.le_trans h1 h)
theorem nthF_at {ρ : Nat → Int32} {i c : Nat} (hk : ¬ ρ (31 + c) = -1) (hi : cnt ρ 0 c = i) : ∀ {n : Nat}, c < n → nthF ρ i n = nI c
  | 0, h => absurd h (Nat.not_lt_zero _)
  | n + 1, h => by
    unfold nthF
    by_cases e : c = n
    · subst e; rw [if_pos ⟨hk, hi⟩]
    · have hc : cnt ρ 0 (c + 1) = cnt ρ 0 c + 1 := by show cnt ρ 0 c + _ = _; rw [Nat.zero_add, if_neg hk]
      have hm : cnt ρ 0 (c + 1) ≤ cnt ρ 0 n := cnt_mono ρ 0 (by omega)
      rw [if_neg (fun z => by omega)]
      exact nthF_at hk hi (by omega)
theorem lastF_none {ρ : Nat → Int32} {k : Int32} : ∀ {n : Nat}, (∀ c, c < n → ¬ ρ (31 + c) = k) → lastF ρ k n = -1
  | 0, _ => rfl
  | n + 1, h => by
    unfold lastF
    rw [if_neg (h n (Nat.lt_succ_self n))]
    exact lastF_none (fun c hc => h c (by omega))
theorem lastF_at {ρ : Nat → Int32} {k : Int32} {c : Nat} (hk : ρ (31 + c) = k) : ∀ {n : Nat}, (∀ d, d < n → ρ (31 + d) = k → d = c) → c < n → lastF ρ k n = nI c
  | 0, _, h => absurd h (Nat.not_lt_zero _)
  | n + 1, hu, h => by
    unfold lastF
    by_cases e : ρ (31 + n) = k
    · rw [if_pos e, hu n (Nat.lt_succ_self n) e]
    · rw [if_neg e]
      exact lastF_at hk (fun d hd => hu d (by omega)) (by rcases Nat.lt_or_ge c n with h1 | h1; exact h1; exact absurd hk (by rw [show c = n by omega]; exact e))
theorem top_le {sz : Nat} : 2 ≤ topN sz ∧ topN sz ≤ 4 := by unfold topN; split; omega; split <;> omega
theorem shl4 : ∀ n, n ≤ 4 → nI 4 <<< (nI n &&& 31) = nI (4 * 2 ^ n)
  | 0, _ => by decide +kernel
  | 1, _ => by decide +kernel
  | 2, _ => by decide +kernel
  | 3, _ => by decide +kernel
  | 4, _ => by decide +kernel
  | n + 5, h => absurd h (by omega)
theorem pow4 : ∀ n, n ≤ 4 → 4 * 2 ^ n ≤ 64
  | 0, _ => by decide
  | 1, _ => by decide
  | 2, _ => by decide
  | 3, _ => by decide
  | 4, _ => by decide
  | n + 5, h => absurd h (by omega)
