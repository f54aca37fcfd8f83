/-! how many keys below x: of n cells from a -/
def bw (ρ : Nat → Int32) (x : Int32) (a : Nat) : Nat → Nat
  | 0 => 0
  | n + 1 => bw ρ x a n + (if ρ (31 + (a + n)) = -1 then 0 else if ρ (31 + (a + n)) < x then 1 else 0)
theorem bw_0 (ρ : Nat → Int32) (x : Int32) : ∀ n, bw ρ x 0 n = blw ρ x n
  | 0 => rfl
  | n + 1 => by show bw ρ x 0 n + _ = blw ρ x n + _; rw [bw_0 ρ x n, Nat.zero_add]
theorem bw_add (ρ : Nat → Int32) (x : Int32) (a m : Nat) : ∀ n, bw ρ x a (m + n) = bw ρ x a m + bw ρ x (a + m) n
  | 0 => rfl
  | n + 1 => by
    show bw ρ x a (m + n) + (if ρ (31 + (a + (m + n))) = -1 then 0 else if ρ (31 + (a + (m + n))) < x then 1 else 0) = bw ρ x a m + (bw ρ x (a + m) n + _)
    rw [bw_add ρ x a m n, Nat.add_assoc, show a + (m + n) = a + m + n by omega]
theorem bw_c {ρ ρ' : Nat → Int32} {x : Int32} {a : Nat} : ∀ {n : Nat}, (∀ c, a ≤ c → c < a + n → ρ (31 + c) = ρ' (31 + c)) → bw ρ x a n = bw ρ' x a n
  | 0, _ => rfl
  | n + 1, h => by
    show bw ρ x a n + _ = bw ρ' x a n + _
    rw [bw_c (fun c h1 h2 => h c h1 (by omega)), h (a + n) (by omega) (by omega)]
theorem bw_e {ρ : Nat → Int32} {x : Int32} {a : Nat} : ∀ {n : Nat}, (∀ c, a ≤ c → c < a + n → ρ (31 + c) = -1) → bw ρ x a n = 0
  | 0, _ => rfl
  | n + 1, h => by
    show bw ρ x a n + _ = 0
    rw [bw_e (fun c h1 h2 => h c h1 (by omega)), if_pos (h (a + n) (by omega) (by omega))]
def one (k x : Int32) : Nat := if k < x then 1 else 0
theorem bw_upd {ρ : Nat → Int32} {x k v : Int32} {a c : Nat} (hk : ¬ k = -1) (he : ρ (31 + c) = -1) (hc : c < 64) : ∀ {n : Nat}, a ≤ c → c < a + n → a + n ≤ 64 → bw (upd (upd ρ (31 + c) k) (95 + c) v) x a n = bw ρ x a n + one k x
  | 0, h1, h2, _ => by omega
  | n + 1, h1, h2, h3 => by
    show bw _ x a n + _ = bw ρ x a n + _ + one k x
    by_cases e : a + n = c
    · have e1 : bw (upd (upd ρ (31 + c) k) (95 + c) v) x a n = bw ρ x a n := bw_c (fun d d1 d2 => by rw [upd_n _ _ (by omega), upd_n _ _ (by omega)])
      rw [e1, e, he, if_pos rfl, upd_n _ _ (by omega), upd_s, if_neg hk]; rfl
    · rw [bw_upd hk he hc h1 (by omega) (by omega), upd_n _ _ (by omega), upd_n _ _ (by omega)]; omega
def cK (K : Nat → Int32) (x : Int32) : Nat → Nat
  | 0 => 0
  | h + 1 => cK K x h + one (K h) x
theorem cK_c {K K' : Nat → Int32} {x : Int32} : ∀ {h : Nat}, (∀ j, j < h → K j = K' j) → cK K x h = cK K' x h
  | 0, _ => rfl
  | h + 1, e => by show cK K x h + _ = cK K' x h + _; rw [cK_c (fun j hj => e j (by omega)), e h (by omega)]
theorem cK_tk {ρ f : Nat → Int32} {x : Int32} {a : Nat} : ∀ m, cK (tkG ρ (kv ρ) a f m) x (cnt ρ a m) = bw ρ x a m
  | 0 => rfl
  | m + 1 => by
    show _ = bw ρ x a m + _
    by_cases e : ρ (31 + (a + m)) = -1
    · rw [tkG_s0 e, cnt_s0 e, if_pos e]; exact cK_tk m
    · rw [tkG_s1 e, cnt_s1 e, if_neg e, ← cK_tk (f := f) m]
      show cK _ x (cnt ρ a m) + one (upd _ _ _ (cnt ρ a m)) x = _
      rw [upd_s, cK_c (K' := tkG ρ (kv ρ) a f m) (fun j hj => upd_n _ _ (by omega))]; rfl
theorem bw_lay {ρ K V : Nat → Int32} {pos : Nat → Nat} {x : Int32} {a n : Nat} (hn : a + n ≤ 64) (he : ∀ c, a ≤ c → c < a + n → ρ (31 + c) = -1) : ∀ {h : Nat}, (∀ j, j < h → a ≤ pos j ∧ pos j < a + n) → (∀ i j, i < j → j < h → pos i < pos j) → (∀ j, j < h → ¬ K j = -1) → bw (layF ρ K V pos h) x a n = cK K x h
  | 0, _, _, _ => bw_e he
  | h + 1, hp, hi, hk => by
    have hph := hp h (by omega)
    show bw (upd (upd (layF ρ K V pos h) (31 + pos h) (K h)) (95 + pos h) (V h)) x a n = cK K x h + one (K h) x
    rw [bw_upd (hk h (by omega)) ?_ (by omega) hph.1 hph.2 hn, bw_lay hn he (fun j hj => hp j (by omega)) (fun i j h1 h2 => hi i j h1 (by omega)) (fun j hj => hk j (by omega))]
    rw [lay_oth (fun j hj => ⟨by have := hp j (by omega); omega, by have := hi j h hj (by omega); omega, by omega⟩)]
    exact he (pos h) hph.1 hph.2
/-- all keys below x behind a laying -/
theorem blw_lay {ρ K V C : Nat → Int32} {h N g a n0 : Nat} {w x : Int32} (hN : N ≤ 64) (hw : a + n0 ≤ N) (hh : h ≤ n0) (hemp : ∀ c, a ≤ c → c < a + n0 → ρ (31 + c) = -1) (hk : ∀ j, j < h → ¬ K j = -1) : blw (layAll ρ K V C h w a n0 g) x N = bw ρ x 0 a + cK K x h + bw ρ x (a + n0) (N - (a + n0)) := by
  generalize hpe : posF a n0 h (lnB ρ w) w = pos
  have pl : ∀ j, j < h → a ≤ pos j ∧ pos j < a + n0 := fun j hj => by rw [← hpe]; exact ⟨pos_ge, pos_lt hj hh⟩
  have pm : ∀ i j, i < j → j < h → pos i < pos j := fun i j h1 h2 => by rw [← hpe]; exact pos_mono hh (by omega) j h1 h2
  have E : layAll ρ K V C h w a n0 g = noteF (layF ρ K V pos h) g (nI a) (nI n0) (nI (mvF C pos h)) := by unfold layAll; rw [hpe]
  rw [E, ← bw_0, bw_c (ρ' := layF ρ K V pos h) (fun c _ _ => note_hi (by omega))]
  have e1 := bw_add (layF ρ K V pos h) x 0 a (n0 + (N - (a + n0)))
  have e2 := bw_add (layF ρ K V pos h) x (0 + a) n0 (N - (a + n0))
  rw [show a + (n0 + (N - (a + n0))) = N by omega] at e1
  rw [e1, e2]
  rw [bw_c (ρ' := ρ) (a := 0) (n := a) (fun c h1 h2 => lay_oth (fun j hj => ⟨by have := pl j hj; omega, by have := pl j hj; omega, by have := pl j hj; omega⟩))]
  rw [bw_c (ρ' := ρ) (a := 0 + a + n0) (fun c h1 h2 => lay_oth (fun j hj => ⟨by have := pl j hj; omega, by have := pl j hj; omega, by have := pl j hj; omega⟩))]
  rw [Nat.zero_add, bw_lay (by omega) hemp pl pm hk]
  omega
theorem tk_ne {ρ f : Nat → Int32} {a m j : Nat} (hj : j < cnt ρ a m) : ¬ tkG ρ (kv ρ) a f m j = -1 := by
  obtain ⟨i, e1, e2, e3⟩ := tk_ex hj
  rw [← e3, tk_at e1 e2]; exact e2
theorem spR_blw {ρ : Nat → Int32} {n g a m : Nat} {x : Int32} (hI : Inv ρ n g) (hm : a + m ≤ n) : blw (spR ρ g a m) x n = blw ρ x n := by
  have h2 := hI.2.1
  have hN : n ≤ 64 := by omega
  obtain ⟨f1, f2, f3, f4, f5⟩ := clr_facts hI hm
  unfold spR
  rw [blw_lay hN hm (cnt_le _ _ _) f2 (fun j hj => tk_ne hj), cK_tk]
  rw [bw_c (ρ' := ρ) (a := 0) (n := a) (fun c h1 h2 => (clr_ok (Or.inl (by omega)) (by omega) (by omega)).1), bw_c (ρ' := ρ) (a := a + m) (fun c h1 h2 => (clr_ok (Or.inr (by omega)) (by omega) (by omega)).1)]
  have e1 := bw_add ρ x 0 a (m + (n - (a + m)))
  have e2 := bw_add ρ x (0 + a) m (n - (a + m))
  rw [show a + (m + (n - (a + m))) = n by omega] at e1
  rw [← bw_0, e1, e2, Nat.zero_add]; omega
theorem shR_blw {ρ : Nat → Int32} {n g : Nat} {x : Int32} (hI : Inv ρ n g) (hc : cnt ρ 0 n ≤ n / 2) : blw (shR ρ g n) x (if 16 < n then n / 2 else n) = blw ρ x n := by
  unfold shR
  by_cases e : 16 < n
  · rw [if_pos e, if_pos e]
    have h2 := hI.2.1
    obtain ⟨f1, f2, f3, f4, f5⟩ := clr_facts hI (a := 0) (m := n) (by omega)
    rw [blw_lay (by omega) (by omega) hc (fun c h1 h2 => by rw [upd_n _ _ (by omega), upd_n _ _ (by omega)]; exact f2 c (by omega) (by omega)) (fun j hj => tk_ne hj), cK_tk, show n / 2 - (0 + n / 2) = 0 by omega]
    show 0 + bw ρ x 0 n + 0 = _
    rw [bw_0]
    omega
  · rw [if_neg e, if_neg e]; exact spR_blw hI (by omega)
theorem emp_blw {ρ : Nat → Int32} {c : Nat} {x : Int32} (hc64 : c < 64) (hk : ¬ ρ (31 + c) = -1) : ∀ {n : Nat}, c < n → n ≤ 64 → blw (emp ρ c) x n + one (ρ (31 + c)) x = blw ρ x n
  | 0, h, _ => absurd h (Nat.not_lt_zero _)
  | n + 1, h, h2 => by
    show blw (emp ρ c) x n + _ + _ = blw ρ x n + _
    by_cases e : c = n
    · subst e
      have e1 : blw (emp ρ c) x c = blw ρ x c := by
        rw [← bw_0, ← bw_0]
        exact bw_c (fun d d1 d2 => by unfold emp; rw [upd_n _ _ (by omega), upd_n _ _ (by omega)])
      rw [e1, if_neg hk]
      unfold emp
      rw [upd_n _ _ (by omega), upd_s, if_pos rfl]; rfl
    · have ih := emp_blw (x := x) hc64 hk (n := n) (by omega) (by omega)
      have e2 : emp ρ c (31 + n) = ρ (31 + n) := by unfold emp; rw [upd_n _ _ (by omega), upd_n _ _ (by omega)]
      rw [e2]; omega
/-- a key goes: what holds of a row, and how many are below x then -/
theorem goR_all {ρ : Nat → Int32} {n g c : Nat} (hI : Inv ρ n g) (hc : c < n) (hk : ¬ ρ (31 + c) = -1) : ∃ n' g', Inv (goR ρ n g c) n' g' ∧ ∀ x, blw (goR ρ n g c) x n' + one (ρ (31 + c)) x = blw ρ x n := by
  have hE := emp_inv hI hc
  have h3 := hI.2.1
  have hb : ∀ x, blw (emp ρ c) x n + one (ρ (31 + c)) x = blw ρ x n := fun x => emp_blw (by omega) hk hc (by omega)
  unfold goR
  split
  · exact ⟨n, g, hE, hb⟩
  · cases e : gvF (emp ρ c) n (c / 4) (topN n) 1 with
    | some i =>
      have : 1 ≤ i ∧ i < 1 + topN n := by
        have hg : ∀ {f j : Nat}, gvF (emp ρ c) n (c / 4) f j = some i → j ≤ i ∧ i < j + f := by
          intro f
          induction f with
          | zero => intro j h; cases h
          | succ f ih =>
            intro j h
            unfold gvF at h
            split at h
            · cases h; omega
            · have := ih h; omega
        exact hg e
      have hw := wst_le (sg := c / 4) h3 (by omega) (show i ≤ topN n by omega)
      exact ⟨n, _, spR_inv hE hw, fun x => by dsimp only; rw [spR_blw hE hw]; exact hb x⟩
    | none =>
      have hthin := gvF_none e (topN n) (by have := top_le (sz := n); omega) (by omega)
      rw [wst_top h3 (by omega), top_pow h3] at hthin
      have hhalf := least_half h3
      exact ⟨_, _, shR_inv hE (by omega), fun x => by dsimp only; rw [shR_blw hE (by omega)]; exact hb x⟩
/-- a cell's rank and the keys below x -/
theorem rank_iff {ρ : Nat → Int32} {n c : Nat} {x : Int32} (hs : Srt ρ n) (hc : c < n) (hk : ¬ ρ (31 + c) = -1) : ρ (31 + c) < x ↔ cnt ρ 0 c < blw ρ x n := by
  constructor
  · intro h
    have e1 : blw ρ x (c + 1) = cnt ρ 0 c + 1 := by
      rw [blw_s1 hk h, blw_c (fun d hd h2 => Int32.lt_trans (hs d c hd hc h2 hk) h)]
    have e2 : blw ρ x (c + 1) ≤ blw ρ x n := by
      have := bw_add ρ x 0 (c + 1) (n - (c + 1))
      rw [bw_0, bw_0, show c + 1 + (n - (c + 1)) = n by omega] at this
      omega
    omega
  · intro h
    rcases Int32.lt_or_le (ρ (31 + c)) x with z | z
    · exact z
    · have e1 : blw ρ x n = blw ρ x c := blw_n (by omega) (fun d h1 h2 h3 => by
        rcases Nat.eq_or_lt_of_le h1 with y | y
        · rw [← y]; exact Int32.not_lt.mpr z
        · exact Int32.not_lt.mpr (Int32.le_trans z (Int32.le_of_lt (hs c d y h2 hk h3))))
      have e2 : blw ρ x c ≤ cnt ρ 0 c := by
        have : ∀ m, blw ρ x m ≤ cnt ρ 0 m := by
          intro m
          induction m with
          | zero => exact Nat.le_refl _
          | succ m ih =>
            by_cases q : ρ (31 + m) = -1
            · rw [blw_s0 q, cnt0_s0 q]; exact ih
            · by_cases q2 : ρ (31 + m) < x
              · rw [blw_s1 q q2, cnt0_s1 q]; omega
              · rw [blw_s2 q q2, cnt0_s1 q]; omega
        exact this c
      omega
theorem nth_ex {ρ : Nat → Int32} {n i : Nat} {x : Int32} (h : i < blw ρ x n) : ∃ c, c < n ∧ ¬ ρ (31 + c) = -1 ∧ cnt ρ 0 c = i ∧ nthF ρ i n = nI c := by
  rcases nthF_cases ρ i n with z | ⟨z, -⟩
  · exact z
  · have : ∀ m, blw ρ x m ≤ cnt ρ 0 m := by
      intro m
      induction m with
      | zero => exact Nat.le_refl _
      | succ m ih =>
        by_cases q : ρ (31 + m) = -1
        · rw [blw_s0 q, cnt0_s0 q]; exact ih
        · by_cases q2 : ρ (31 + m) < x
          · rw [blw_s1 q q2, cnt0_s1 q]; omega
          · rw [blw_s2 q q2, cnt0_s1 q]; omega
    have := this n
    omega
def nOf (ρ : Nat → Int32) : Nat := (ρ 0).toNatClampNeg
def gOf (ρ : Nat → Int32) : Nat := (ρ 6).toNatClampNeg
theorem Inv.n {ρ : Nat → Int32} {n g : Nat} (h : Inv ρ n g) : nOf ρ = n := by unfold nOf; rw [h.1]; exact nI_clamp (by have := h.2.1; omega)
theorem Inv.g {ρ : Nat → Int32} {n g : Nat} (h : Inv ρ n g) : gOf ρ = g := by unfold gOf; rw [h.2.2.1]; exact nI_clamp (by have := h.2.2.2.1; omega)
/-- one that goes, by its cell -/
def goQ (ρ : Nat → Int32) (c : Nat) : Nat → Int32 := goR ρ (nOf ρ) (gOf ρ) c
/-- by ranks: t times the one of rank f goes -/
def dcF (f : Nat) : Nat → (Nat → Int32) → Nat → Int32
  | 0, ρ => ρ
  | t + 1, ρ => dcF f t (goQ ρ (nthF ρ f (nOf ρ)).toNatClampNeg)
/-- by keys: of m keys from k on each that is there goes; the row, and how many -/
def drF : Nat → Nat → (Nat → Int32) → Nat → Int32
  | 0, _, ρ => ρ
  | m + 1, k, ρ => if lastF ρ (nI k) (nOf ρ) = -1 then drF m (k + 1) ρ else drF m (k + 1) (goQ ρ (lastF ρ (nI k) (nOf ρ)).toNatClampNeg)
def drN : Nat → Nat → (Nat → Int32) → Nat
  | 0, _, _ => 0
  | m + 1, k, ρ => if lastF ρ (nI k) (nOf ρ) = -1 then drN m (k + 1) ρ else drN m (k + 1) (goQ ρ (lastF ρ (nI k) (nOf ρ)).toNatClampNeg) + 1
theorem one_t {k x : Int32} (h : k < x) : one k x = 1 := if_pos h
theorem one_f {k x : Int32} (h : ¬ k < x) : one k x = 0 := if_neg h
theorem blw_k1 {ρ : Nat → Int32} {k : Nat} (hk : k ≤ 999) : ∀ {n : Nat}, (∀ c, c < n → ¬ ρ (31 + c) = nI k) → blw ρ (nI k + 1) n = blw ρ (nI k) n
  | 0, _ => rfl
  | n + 1, h => by
    have ih := blw_k1 (ρ := ρ) hk (n := n) (fun c hc => h c (by omega))
    by_cases e : ρ (31 + n) = -1
    · rw [blw_s0 e, blw_s0 e, ih]
    · by_cases e2 : ρ (31 + n) < nI k
      · rw [blw_s1 e e2, blw_s1 e ((lt_b1 hk).mpr (Int32.le_of_lt e2)), ih]
      · rw [blw_s2 e e2, blw_s2 e (fun z => by
          rcases Int32.lt_or_eq_of_le ((lt_b1 hk).mp z) with y | y
          · exact e2 y
          · exact h n (by omega) y), ih]
/-- dropping by ranks is dropping by keys -/
theorem drop_eq : ∀ (m k f : Nat) (ρ : Nat → Int32) (n g : Nat), Inv ρ n g → k + m ≤ 1000 → blw ρ (nI k) n = f → drF m k ρ = dcF f (blw ρ (nI (k + m)) n - f) ρ ∧ drN m k ρ = blw ρ (nI (k + m)) n - f ∧ f ≤ blw ρ (nI (k + m)) n
  | 0, k, f, ρ, n, g, hI, hm, hf => by
    rw [Nat.add_zero, hf, Nat.sub_self]
    exact ⟨rfl, rfl, Nat.le_refl _⟩
  | m + 1, k, f, ρ, n, g, hI, hm, hf => by
    have hn := hI.n
    have hg := hI.g
    have h3 := hI.2.1
    have hs := hI.2.2.2.2.1
    have hne : ¬ nI k = -1 := nI_ne_m1 (by omega)
    show (if lastF ρ (nI k) (nOf ρ) = -1 then drF m (k + 1) ρ else drF m (k + 1) (goQ ρ (lastF ρ (nI k) (nOf ρ)).toNatClampNeg)) = _ ∧ (if lastF ρ (nI k) (nOf ρ) = -1 then drN m (k + 1) ρ else drN m (k + 1) (goQ ρ (lastF ρ (nI k) (nOf ρ)).toNatClampNeg) + 1) = _ ∧ _
    rw [hn]
    rcases lastF_cases ρ (nI k) n with ⟨c, hc, hck, e1, -⟩ | ⟨e1, e2⟩
    · have hcne : ¬ ρ (31 + c) = -1 := by rw [hck]; exact hne
      rw [e1, if_neg (nI_ne_m1 (by omega)), if_neg (nI_ne_m1 (by omega)), nI_clamp (by omega)]
      obtain ⟨n', g', hI', hb⟩ := goR_all hI hc hcne
      have hgo : goQ ρ c = goR ρ n g c := by unfold goQ; rw [hn, hg]
      rw [hgo]
      -- its rank
      have r1 : cnt ρ 0 c = f := by
        have a1 : ¬ cnt ρ 0 c < blw ρ (nI k) n := fun z => by
          have := (rank_iff hs hc hcne).mpr z
          rw [hck] at this; exact Int32.lt_irrefl this
        have a2 : cnt ρ 0 c < blw ρ (nI k + 1) n := (rank_iff hs hc hcne).mp (by rw [hck]; exact (lt_b1 (by omega)).mpr (Int32.le_refl _))
        have b1 := hb (nI k)
        have b2 := hb (nI k + 1)
        rw [hck, one_f Int32.lt_irrefl] at b1
        rw [hck, one_t ((lt_b1 (by omega)).mpr (Int32.le_refl _))] at b2
        have b3 : blw (goR ρ n g c) (nI k + 1) n' = blw (goR ρ n g c) (nI k) n' := by
          refine blw_k1 (by omega) (fun d hd he => ?_)
          -- no second one with this key
          have hd1 : ¬ goR ρ n g c (31 + d) = -1 := by rw [he]; exact hne
          have q1 := (rank_iff hI'.2.2.2.2.1 hd hd1 (x := nI k + 1)).mp (by rw [he]; exact (lt_b1 (by omega)).mpr (Int32.le_refl _))
          have q2 : ¬ cnt (goR ρ n g c) 0 d < blw (goR ρ n g c) (nI k) n' := fun z => by
            have := (rank_iff hI'.2.2.2.2.1 hd hd1).mpr z
            rw [he] at this; exact Int32.lt_irrefl this
          -- blw at k + 1 of the old row is one more than at k
          have q3 : blw ρ (nI k + 1) n ≤ blw ρ (nI k) n + 1 := by
            have : ∀ M, M ≤ n → blw ρ (nI k + 1) M ≤ blw ρ (nI k) M + (if c < M then 1 else 0) := by
              intro M
              induction M with
              | zero => intro _; exact Nat.zero_le _
              | succ M ih =>
                intro hM
                have ih := ih (by omega)
                by_cases q : ρ (31 + M) = -1
                · rw [blw_s0 q, blw_s0 q]; split <;> split at ih <;> omega
                · by_cases q2 : ρ (31 + M) < nI k
                  · rw [blw_s1 q q2, blw_s1 q ((lt_b1 (by omega)).mpr (Int32.le_of_lt q2))]; split <;> split at ih <;> omega
                  · rw [blw_s2 q q2]
                    by_cases q3 : ρ (31 + M) < nI k + 1
                    · have q4 : ρ (31 + M) = nI k := by
                        rcases Int32.lt_or_eq_of_le ((lt_b1 (by omega)).mp q3) with y | y
                        · exact absurd y q2
                        · exact y
                      have q5 : M = c := srt_u hs hne (by omega) hc q4 hck
                      rw [blw_s1 q q3, if_pos (by omega)]
                      rw [if_neg (by omega)] at ih; omega
                    · rw [blw_s2 q q3]; split <;> split at ih <;> omega
            have := this n (Nat.le_refl _)
            rw [if_pos hc] at this; exact this
          omega
        omega
      have b1 : blw (goR ρ n g c) (nI (k + 1)) n' = f := by
        have q3 := hb (nI (k + 1))
        rw [hck, one_t ((nI_lt_iff (by omega) (by omega)).mpr (by omega))] at q3
        have a2 : blw ρ (nI (k + 1)) n = f + 1 := by
          have u1 : cnt ρ 0 c < blw ρ (nI (k + 1)) n := (rank_iff hs hc hcne).mp (by rw [hck]; exact (nI_lt_iff (by omega) (by omega)).mpr (by omega))
          have u2 : blw ρ (nI (k + 1)) n ≤ blw ρ (nI k) n + 1 := by
            have : ∀ M, M ≤ n → blw ρ (nI (k + 1)) M ≤ blw ρ (nI k) M + (if c < M then 1 else 0) := by
              intro M
              induction M with
              | zero => intro _; exact Nat.zero_le _
              | succ M ih =>
                intro hM
                have ih := ih (by omega)
                rw [nI_succ] at ih ⊢
                by_cases q : ρ (31 + M) = -1
                · rw [blw_s0 q, blw_s0 q]; split <;> split at ih <;> omega
                · by_cases q2 : ρ (31 + M) < nI k
                  · rw [blw_s1 q q2, blw_s1 q ((lt_b1 (by omega)).mpr (Int32.le_of_lt q2))]; split <;> split at ih <;> omega
                  · rw [blw_s2 q q2]
                    by_cases q3 : ρ (31 + M) < nI k + 1
                    · have q4 : ρ (31 + M) = nI k := by
                        rcases Int32.lt_or_eq_of_le ((lt_b1 (by omega)).mp q3) with y | y
                        · exact absurd y q2
                        · exact y
                      have q5 : M = c := srt_u hs hne (by omega) hc q4 hck
                      rw [blw_s1 q q3, if_pos (by omega)]
                      rw [if_neg (by omega)] at ih; omega
                    · rw [blw_s2 q q3]; split <;> split at ih <;> omega
            have := this n (Nat.le_refl _)
            rw [if_pos hc] at this; exact this
          omega
        omega
      obtain ⟨d1, d2, d3⟩ := drop_eq m (k + 1) f (goR ρ n g c) n' g' hI' (by omega) b1
      have q4 := hb (nI (k + 1 + m))
      rw [hck, one_t ((nI_lt_iff (by omega) (by omega)).mpr (by omega))] at q4
      rw [show k + (m + 1) = k + 1 + m by omega, d1, d2]
      refine ⟨?_, by omega, by omega⟩
      rw [show blw ρ (nI (k + 1 + m)) n - f = (blw (goR ρ n g c) (nI (k + 1 + m)) n' - f) + 1 by omega]
      show _ = dcF f _ (goQ ρ (nthF ρ f (nOf ρ)).toNatClampNeg)
      rw [hn, nthF_at hcne r1 hc, nI_clamp (by omega), hgo]
    · rw [e1, if_pos rfl, if_pos rfl]
      have b1 : blw ρ (nI (k + 1)) n = f := by rw [nI_succ, blw_k1 (by omega) e2]; exact hf
      have := drop_eq m (k + 1) f ρ n g hI (by omega) b1
      rw [show k + (m + 1) = k + 1 + m by omega]; exact this
