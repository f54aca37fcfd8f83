theorem lt_b1 {x : Int32} {m : Nat} (hm : m ≤ 999) : x < nI m + 1 ↔ x ≤ nI m := by
  rw [nI_1, Int32.lt_iff_toInt_lt, Int32.le_iff_toInt_le, nI_toInt (by omega), nI_toInt (by omega)]
  omega
theorem sc_blw {ρ : Nat → Int32} {a : Int32} {m : Nat} (hm : m ≤ 999) (h0 : 0 ≤ a) (hab : a ≤ nI m) : ∀ n, scN ρ a (nI m) n + blw ρ a n = blw ρ (nI m + 1) n
  | 0 => rfl
  | n + 1 => by
    have ih := sc_blw (ρ := ρ) hm h0 hab n
    by_cases e : ρ (31 + n) = -1
    · rw [blw_s0 e, blw_s0 e]
      have : scN ρ a (nI m) (n + 1) = scN ρ a (nI m) n := if_neg (fun z => by rw [e] at z; exact absurd (Int32.le_trans h0 z.1) (by decide +kernel))
      rw [this]; exact ih
    · by_cases e1 : ρ (31 + n) < a
      · have : scN ρ a (nI m) (n + 1) = scN ρ a (nI m) n := if_neg (fun z => Int32.not_lt.mpr z.1 e1)
        rw [this, blw_s1 e e1, blw_s1 e ((lt_b1 hm).mpr (Int32.le_of_lt (Int32.lt_of_lt_of_le e1 hab)))]; omega
      · by_cases e2 : ρ (31 + n) ≤ nI m
        · have : scN ρ a (nI m) (n + 1) = scN ρ a (nI m) n + 1 := if_pos ⟨Int32.not_lt.mp e1, e2⟩
          rw [this, blw_s2 e e1, blw_s1 e ((lt_b1 hm).mpr e2)]; omega
        · have : scN ρ a (nI m) (n + 1) = scN ρ a (nI m) n := if_neg (fun z => e2 z.2)
          rw [this, blw_s2 e e1, blw_s2 e (fun z => e2 ((lt_b1 hm).mp z))]; exact ih
theorem sc_none {ρ : Nat → Int32} {a b : Int32} : ∀ {n : Nat}, scN ρ a b n = 0 → ∀ c, c < n → ¬ (a ≤ ρ (31 + c) ∧ ρ (31 + c) ≤ b)
  | 0, _, c, hc => absurd hc (Nat.not_lt_zero _)
  | n + 1, h, c, hc => by
    unfold scN at h
    split at h
    · omega
    · next e =>
      rcases Nat.lt_or_ge c n with z | z
      · exact sc_none h c z
      · rw [show c = n by omega]; exact e
theorem scF_at {ρ : Nat → Int32} {a b : Int32} : ∀ {n : Nat}, 0 < scN ρ a b n → ∃ c, c < n ∧ (a ≤ ρ (31 + c) ∧ ρ (31 + c) ≤ b) ∧ scN ρ a b c = 0 ∧ scF ρ a b n = nI c
  | 0, h => absurd h (Nat.lt_irrefl 0)
  | n + 1, h => by
    unfold scN at h
    split at h
    · next e =>
      rcases Nat.eq_zero_or_pos (scN ρ a b n) with z | z
      · exact ⟨n, by omega, e, z, by unfold scF; rw [if_pos e, if_pos z]⟩
      · obtain ⟨c, h1, h2, h3, h4⟩ := scF_at z
        exact ⟨c, by omega, h2, h3, by unfold scF; rw [if_pos e, if_neg (by omega), h4]⟩
    · next e =>
      obtain ⟨c, h1, h2, h3, h4⟩ := scF_at h
      exact ⟨c, by omega, h2, h3, by unfold scF; rw [if_neg e, h4]⟩
theorem scL_at {ρ : Nat → Int32} {a b : Int32} : ∀ {n : Nat}, 0 < scN ρ a b n → ∃ c, c < n ∧ (a ≤ ρ (31 + c) ∧ ρ (31 + c) ≤ b) ∧ (∀ d, c < d → d < n → ¬ (a ≤ ρ (31 + d) ∧ ρ (31 + d) ≤ b)) ∧ scL ρ a b n = nI c
  | 0, h => absurd h (Nat.lt_irrefl 0)
  | n + 1, h => by
    by_cases e : a ≤ ρ (31 + n) ∧ ρ (31 + n) ≤ b
    · exact ⟨n, by omega, e, fun d h1 h2 => by omega, if_pos e⟩
    · have h' : 0 < scN ρ a b n := by unfold scN at h; rw [if_neg e] at h; exact h
      obtain ⟨c, h1, h2, h3, h4⟩ := scL_at h'
      exact ⟨c, by omega, h2, fun d hd1 hd2 => by rcases Nat.lt_or_ge d n with z | z; exact h3 d hd1 z; rw [show d = n by omega]; exact e, by unfold scL; rw [if_neg e, h4]⟩
theorem ge0_ne {x a : Int32} (h0 : 0 ≤ a) (h : a ≤ x) : ¬ x = -1 := fun e => by rw [e] at h; exact absurd (Int32.le_trans h0 h) (by decide +kernel)
/-- the cells that a scan reads, by ranks and by looking: keys stand in order -/
theorem scan_crd {ρ : Nat → Int32} {a : Int32} {m n : Nat} (hs : Srt ρ n) (hm : m ≤ 999) (h0 : 0 ≤ a) (hab : a ≤ nI m) : crdF ρ a (nI m) n = if scN ρ a (nI m) n = 0 then 0 else scL ρ a (nI m) n - scF ρ a (nI m) n + 1 := by
  have hb := sc_blw (ρ := ρ) hm h0 hab n
  unfold crdF
  by_cases e : scN ρ a (nI m) n = 0
  · rw [if_pos e, if_pos (by omega)]
  · rw [if_neg e, if_neg (by omega)]
    obtain ⟨c, hc, hc2, hc3, hc4⟩ := scF_at (show 0 < scN ρ a (nI m) n by omega)
    obtain ⟨d, hd, hd2, hd3, hd4⟩ := scL_at (show 0 < scN ρ a (nI m) n by omega)
    have hcn := ge0_ne h0 hc2.1
    have hdn := ge0_ne h0 hd2.1
    have b1 : blw ρ a n = cnt ρ 0 c := by
      rw [blw_n (m := c) (by omega) (fun x h1 h2 h3 => ?_)]
      · exact blw_c (fun x h1 h2 => by
          have hx := hs x c h1 hc h2 hcn
          rcases Int32.lt_or_le (ρ (31 + x)) a with z | z
          · exact z
          · exact absurd ⟨z, Int32.le_of_lt (Int32.lt_of_lt_of_le hx hc2.2)⟩ (sc_none hc3 x h1))
      · rcases Nat.eq_or_lt_of_le h1 with z | z
        · rw [← z]; exact Int32.not_lt.mpr hc2.1
        · exact Int32.not_lt.mpr (Int32.le_trans hc2.1 (Int32.le_of_lt (hs c x z h2 hcn h3)))
    have b2 : blw ρ (nI m + 1) n = cnt ρ 0 d + 1 := by
      rw [blw_n (m := d + 1) (by omega) (fun x h1 h2 h3 => ?_)]
      · rw [blw_s1 hdn ((lt_b1 hm).mpr hd2.2), blw_c (fun x h1 h2 => ?_)]
        exact (lt_b1 hm).mpr (Int32.le_of_lt (Int32.lt_of_lt_of_le (hs x d h1 hd h2 hdn) hd2.2))
      · intro z
        have hx := hs d x (by omega) h2 hdn h3
        exact hd3 x (by omega) h2 ⟨Int32.le_trans hd2.1 (Int32.le_of_lt hx), (lt_b1 hm).mp z⟩
    rw [b1, b2, Nat.add_sub_cancel, nthF_at hcn rfl hc, nthF_at hdn rfl hd, hc4, hd4]
theorem span_ex {a b : Int32} (h : spanB a b = true) : 0 ≤ a ∧ a ≤ b ∧ ∃ m : Nat, m ≤ 999 ∧ b = nI m := by
  unfold spanB at h
  simp only [Bool.and_eq_true, decide_eq_true_eq] at h
  obtain ⟨m, hm, rfl⟩ := wi_ex (by decide) h.1.2
  exact ⟨(of_decide_eq_true h.1.1).1, h.2, m, hm, rfl⟩
theorem inB_span {a b : Int32} (h1 : wi a (nI 999) = true) (h2 : inB b a (nI 999) = true) : spanB a b = true := by
  obtain ⟨h3, h4⟩ := of_decide_eq_true h2
  have h5 := (of_decide_eq_true h1).1
  unfold spanB
  rw [h1, show wi b (nI 999) = true from decide_eq_true ⟨Int32.le_trans h5 h3, h4⟩, decide_eq_true h3]; rfl
theorem inB_nspan {a b : Int32} (h2 : inB b a (nI 999) = false) : spanB a b = false := by
  have h3 := of_decide_eq_false h2
  unfold spanB
  by_cases e : a ≤ b
  · by_cases e2 : wi b (nI 999) = true
    · exact absurd ⟨e, (of_decide_eq_true e2).2⟩ h3
    · rw [show wi b (nI 999) = false by simpa using e2]; simp
  · rw [decide_eq_false e]; simp
theorem scN_s1 {ρ : Nat → Int32} {a b : Int32} {n : Nat} (h : inB (ρ (31 + n)) a b = true) : scN ρ a b (n + 1) = scN ρ a b n + 1 := if_pos (of_decide_eq_true h)
theorem scN_s0 {ρ : Nat → Int32} {a b : Int32} {n : Nat} (h : ¬ (a ≤ ρ (31 + n) ∧ ρ (31 + n) ≤ b)) : scN ρ a b (n + 1) = scN ρ a b n := if_neg h
theorem scL_s1 {ρ : Nat → Int32} {a b : Int32} {n : Nat} (h : inB (ρ (31 + n)) a b = true) : scL ρ a b (n + 1) = nI n := if_pos (of_decide_eq_true h)
theorem scL_s0 {ρ : Nat → Int32} {a b : Int32} {n : Nat} (h : ¬ (a ≤ ρ (31 + n) ∧ ρ (31 + n) ≤ b)) : scL ρ a b (n + 1) = scL ρ a b n := if_neg h
theorem scF_s1 {ρ : Nat → Int32} {a b : Int32} {n : Nat} (h : inB (ρ (31 + n)) a b = true) (h2 : scN ρ a b n = 0) : scF ρ a b (n + 1) = nI n := by unfold scF; rw [if_pos (of_decide_eq_true h), if_pos h2]
theorem scF_s2 {ρ : Nat → Int32} {a b : Int32} {n : Nat} (h : inB (ρ (31 + n)) a b = true) (h2 : ¬ scN ρ a b n = 0) : scF ρ a b (n + 1) = scF ρ a b n := (if_pos (of_decide_eq_true h)).trans (if_neg h2)
theorem scF_s0 {ρ : Nat → Int32} {a b : Int32} {n : Nat} (h : ¬ (a ≤ ρ (31 + n) ∧ ρ (31 + n) ≤ b)) : scF ρ a b (n + 1) = scF ρ a b n := if_neg h
theorem nI_z {a : Nat} (h : a < 2 ^ 31) : nI a = 0 ↔ a = 0 := ⟨fun e => (nI_inj (b := 0) h (by decide)).mp e, fun e => by rw [e]; rfl⟩
