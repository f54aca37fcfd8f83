/-! THE CLASS'S READING: byte by byte, and that it is the model's -/
def tkS (z : RS) (c : Int32) : Int32 × RS := takeF z.1 z.2.1 z.2.2.1 z.2.2.2.1 z.2.2.2.2.1 z.2.2.2.2.2.1 z.2.2.2.2.2.2 c
def cR (tx : Nat → Int32) : Nat → Nat → RS → Option Nat × List Ord3
  | 0, i, z => (if (!z.2.2.2.1 && decide (0 < z.2.2.2.2.1)) = true then none else some i, [])
  | m + 1, i, z => if (tkS z (tx i)).1 = 0 then (some i, []) else if (tkS z (tx i)).1 = 2 then ((cR tx m (i + 1) (tkS z (tx i)).2).1, ((tkS z (tx i)).2.1, (tkS z (tx i)).2.2.1, (tkS z (tx i)).2.2.2.1) :: (cR tx m (i + 1) (tkS z (tx i)).2).2) else cR tx m (i + 1) (tkS z (tx i)).2
theorem c1_0 : ¬ (1 : Int32) = 0 := by decide +kernel
theorem c1_2 : ¬ (1 : Int32) = 2 := by decide +kernel
theorem c2_0 : ¬ (2 : Int32) = 0 := by decide +kernel
theorem cR_0 {tx : Nat → Int32} {tl p : Nat} {z : RS} (hp : p < tl) (h : (tkS z (tx p)).1 = 0) : cR tx (tl - p) p z = (some p, []) := by
  rw [show tl - p = (tl - (p + 1)) + 1 by omega]
  exact if_pos h
theorem cR_1 {tx : Nat → Int32} {tl p : Nat} {z z' : RS} (hp : p < tl) (h : tkS z (tx p) = (1, z')) : cR tx (tl - p) p z = cR tx (tl - (p + 1)) (p + 1) z' := by
  rw [show tl - p = (tl - (p + 1)) + 1 by omega]
  exact (if_neg (by rw [h]; exact c1_0)).trans ((if_neg (by rw [h]; exact c1_2)).trans (by rw [h]))
theorem cR_2 {tx : Nat → Int32} {tl p : Nat} {z z' : RS} (hp : p < tl) (h : tkS z (tx p) = (2, z')) : cR tx (tl - p) p z = ((cR tx (tl - (p + 1)) (p + 1) z').1, (z'.1, z'.2.1, z'.2.2.1) :: (cR tx (tl - (p + 1)) (p + 1) z').2) := by
  rw [show tl - p = (tl - (p + 1)) + 1 by omega]
  exact (if_neg (by rw [h]; exact c2_0)).trans ((if_pos (by rw [h])).trans (by rw [h]))
theorem cR_e {tx : Nat → Int32} {tl : Nat} {z : RS} : cR tx (tl - tl) tl z = (if (!z.2.2.2.1 && decide (0 < z.2.2.2.2.1)) = true then none else some tl, []) := by rw [Nat.sub_self]; rfl
theorem cR_o {tx : Nat → Int32} {tl : Nat} {kd f1 f2 : Int32} {od nu fg : Nat} : cR tx (tl - tl) tl (kd, f1, f2, true, od, nu, fg) = (some tl, []) := by rw [cR_e]; rfl
/-- blanks -/
theorem tk_b {kd f1 f2 : Int32} {op : Bool} {od nu fg : Nat} : tkS (kd, f1, f2, op, od, nu, fg) (nI 32) = (1, (kd, f1, f2, op, od, nu, 0)) := by
  show takeF kd f1 f2 op od nu fg (nI 32) = _
  unfold takeF
  rw [if_pos rfl]
theorem cR_b0 {tx : Nat → Int32} {tl : Nat} {kd f1 f2 : Int32} {op : Bool} {od nu : Nat} : ∀ (m p : Nat), tl - p = m → p ≤ tl → cR tx (tl - p) p (kd, f1, f2, op, od, nu, 0) = cR tx (tl - blkF tx (tl - p) p) (blkF tx (tl - p) p) (kd, f1, f2, op, od, nu, 0)
  | 0, p, h, hp => by rw [blk_e (by omega)]
  | m + 1, p, h, hp => by
    by_cases hs : tx p = nI 32
    · rw [blk_s1 (by omega) hs, cR_1 (by omega) (by rw [hs]; exact tk_b)]
      exact cR_b0 m (p + 1) (by omega) (by omega)
    · rw [blk_s0 hs]
theorem cR_b {tx : Nat → Int32} {tl p : Nat} {kd f1 f2 : Int32} {op : Bool} {od nu fg : Nat} (hp : p ≤ tl) : cR tx (tl - p) p (kd, f1, f2, op, od, nu, fg) = cR tx (tl - blkF tx (tl - p) p) (blkF tx (tl - p) p) (kd, f1, f2, op, od, nu, if blkF tx (tl - p) p = p then fg else 0) := by
  by_cases hs : tx p = nI 32
  · rcases Nat.lt_or_ge p tl with h | h
    · have hb := blkF_le tx (tl - (p + 1)) (p + 1)
      rw [blk_s1 h hs, if_neg (by omega), cR_1 h (by rw [hs]; exact tk_b)]
      exact cR_b0 _ (p + 1) rfl (by omega)
    · rw [blk_e h, if_pos rfl]
  · rw [blk_s0 hs, if_pos rfl]
theorem blk_ne {tx : Nat → Int32} : ∀ (m p : Nat), blkF tx m p < p + m → ¬ tx (blkF tx m p) = nI 32
  | 0, p, h => by have := (blkF_le tx 0 p).1; omega
  | m + 1, p, h => by
    unfold blkF at h ⊢
    split
    · next e => rw [if_pos e] at h; exact blk_ne m (p + 1) (by omega)
    · next e => exact e
theorem blk_n {tx : Nat → Int32} {tl p : Nat} (hp : p ≤ tl) (h : blkF tx (tl - p) p < tl) : ¬ tx (blkF tx (tl - p) p) = nI 32 := blk_ne _ _ (by omega)
/-- one byte of an open order that is no blank -/
theorem dig_32 {c : Int32} (h : digB c = true) : ¬ c = nI 32 ∧ nI 48 ≤ c ∧ c ≤ nI 57 := by
  have h2 := of_decide_eq_true h
  exact ⟨fun e => by rw [e] at h2; exact absurd h2.1 (by decide +kernel), h2⟩
theorem tk_d {kd f1 f2 : Int32} {od nu fg : Nat} {c : Int32} (h : digB c = true) : tkS (kd, f1, f2, true, od, nu, fg) c = figF kd f1 f2 true od nu fg (c - nI 48) := by
  have h2 := dig_32 h
  show takeF kd f1 f2 true od nu fg c = _
  unfold takeF
  rw [if_neg h2.1, if_neg (by decide), if_pos h2.2]
theorem tk_n {kd f1 f2 : Int32} {od nu fg : Nat} {c : Int32} (h0 : ¬ c = nI 32) (h : digB c = false) : tkS (kd, f1, f2, true, od, nu, fg) c = if c = nI 59 ∧ nu = numOf kd then (2, (kd, f1, f2, false, od + 1, nu, fg)) else (0, (kd, f1, f2, true, od, nu, fg)) := by
  show takeF kd f1 f2 true od nu fg c = _
  unfold takeF
  rw [if_neg h0, if_neg (by decide), if_neg (of_decide_eq_false h)]
/-- the state while a number is read: its place nu, its value v -/
def stV (kd a b : Int32) (od nu : Nat) (v : Int32) (fg : Nat) : RS := if nu = 1 then (kd, v, b, true, od, nu, fg) else (kd, a, v, true, od, nu, fg)
theorem stV_d {kd a b : Int32} {od nu : Nat} {v : Int32} {fg : Nat} {c : Int32} (h : digB c = true) (h0 : 0 < fg) (h3 : fg < 3) : tkS (stV kd a b od nu v fg) c = (1, stV kd a b od nu (nI 10 * v + (c - nI 48)) (fg + 1)) := by
  unfold stV
  by_cases e : nu = 1
  · rw [if_pos e, if_pos e, tk_d h]
    unfold figF
    rw [if_neg (by omega), if_neg (by omega), if_pos e]
  · rw [if_neg e, if_neg e, tk_d h]
    unfold figF
    rw [if_neg (by omega), if_neg (by omega), if_neg e]
theorem stV_3 {kd a b : Int32} {od nu : Nat} {v : Int32} {c : Int32} (h : digB c = true) : (tkS (stV kd a b od nu v 3) c).1 = 0 := by
  unfold stV
  by_cases e : nu = 1
  · rw [if_pos e, tk_d h]; rfl
  · rw [if_neg e, tk_d h]; rfl
theorem add_sub9 (a b c : Int32) : a + b - c = a + (b - c) := by rw [Int32.sub_eq_add_neg, Int32.sub_eq_add_neg, Int32.add_assoc]
/-- the figures behind the first one -/
theorem cR_g {tx : Nat → Int32} {tl : Nat} {kd a b : Int32} {od nu : Nat} : ∀ (r p : Nat) (v : Int32), r ≤ 2 → p ≤ tl → ∃ fg, 0 < fg ∧ (fg = 3 ∨ ¬ (ngP tx tl r p < tl ∧ digB (tx (ngP tx tl r p)) = true)) ∧ fg ≤ 3 ∧ cR tx (tl - p) p (stV kd a b od nu v (3 - r)) = cR tx (tl - ngP tx tl r p) (ngP tx tl r p) (stV kd a b od nu (ngV tx tl r p v) fg)
  | 0, p, v, _, hp => ⟨3, by omega, Or.inl rfl, by omega, rfl⟩
  | r + 1, p, v, hr, hp => by
    unfold ngP ngV
    by_cases h : p < tl ∧ digB (tx p) = true
    · rw [if_pos h, if_pos h]
      obtain ⟨fg, h1, h2, h3, h4⟩ := cR_g (kd := kd) (a := a) (b := b) (od := od) (nu := nu) (tx := tx) (tl := tl) r (p + 1) (nI 10 * v + tx p - nI 48) (by omega) (by omega)
      refine ⟨fg, h1, h2, h3, ?_⟩
      rw [cR_1 h.1 (stV_d (fg := 3 - (r + 1)) h.2 (by omega) (by omega)), ← h4, add_sub9, show 3 - (r + 1) + 1 = 3 - r by omega]
    · rw [if_neg h, if_neg h]
      exact ⟨3 - (r + 1), by omega, Or.inr h, by omega, rfl⟩
/-- a number -/
theorem cR_n {tx : Nat → Int32} {tl p : Nat} {kd a b : Int32} {od nu fg : Nat} (hp : p ≤ tl) (hnu : nu < numOf kd) (hab : nu = 0 ∧ a = nI 0 ∨ nu = 1 ∧ b = nI 0) (hfg : fg = 0 ∨ (p < tl → digB (tx p) = false)) : (∀ x, nuF tx tl p = some x → (cR tx (tl - p) p (kd, a, b, true, od, nu, fg)).1 = some x) ∧ (nuF tx tl p = none → ∃ fg', cR tx (tl - p) p (kd, a, b, true, od, nu, fg) = cR tx (tl - nuP tx tl p) (nuP tx tl p) (stV kd a b od (nu + 1) (nuV tx tl p) fg') ∧ (nuP tx tl p < tl → digB (tx (nuP tx tl p)) = false)) := by
  have hbl := blkF_le tx (tl - p) p
  rw [cR_b hp]
  by_cases hd : blkF tx (tl - p) p < tl ∧ digB (tx (blkF tx (tl - p) p)) = true
  · have hz : (if blkF tx (tl - p) p = p then fg else 0) = 0 := by
      split
      · next e =>
        rcases hfg with h | h
        · exact h
        · rw [e] at hd; rw [h hd.1] at hd; exact absurd hd.2 (by decide)
      · rfl
    rw [hz]
    have hP : nuP tx tl p = ngP tx tl 2 (blkF tx (tl - p) p + 1) := if_pos hd
    have hV : nuV tx tl p = ngV tx tl 2 (blkF tx (tl - p) p + 1) (nI 10 * nI 0 + tx (blkF tx (tl - p) p) - nI 48) := if_pos hd
    have hst : tkS (kd, a, b, true, od, nu, 0) (tx (blkF tx (tl - p) p)) = (1, stV kd a b od (nu + 1) (nI 10 * nI 0 + (tx (blkF tx (tl - p) p) - nI 48)) 1) := by
      rw [tk_d hd.2]
      unfold figF stV
      rw [if_pos rfl, if_neg (by omega)]
      rcases hab with ⟨h1, h2⟩ | ⟨h1, h2⟩
      · rw [if_pos (by omega), if_pos (by omega), h2]
      · rw [if_neg (by omega), if_neg (by omega), h2]
    rw [cR_1 hd.1 hst, ← add_sub9]
    obtain ⟨fg', h1, h2, h3, h4⟩ := cR_g (tx := tx) (tl := tl) (kd := kd) (a := a) (b := b) (od := od) (nu := nu + 1) 2 (blkF tx (tl - p) p + 1) (nI 10 * nI 0 + tx (blkF tx (tl - p) p) - nI 48) (by omega) (by omega)
    rw [show (3 : Nat) - 2 = 1 by rfl] at h4
    rw [h4, ← hP, ← hV]
    rw [← hP] at h2
    have hge := ngP_le tx tl 2 (blkF tx (tl - p) p + 1)
    unfold nuF
    by_cases hf : nuP tx tl p < tl ∧ digB (tx (nuP tx tl p)) = true
    · rw [if_pos (Or.inr hf)]
      have h33 : fg' = 3 := by rcases h2 with h | h; exact h; exact absurd hf h
      refine ⟨fun x hx => ?_, fun hx => by cases hx⟩
      have hx2 := Option.some.inj hx
      rw [h33, cR_0 hf.1 (stV_3 hf.2), hx2]
    · rw [if_neg (fun q => by rcases q with q | q; omega; exact hf q)]
      refine ⟨fun x hx => (by cases hx), fun _ => ⟨fg', rfl, fun hq => ?_⟩⟩
      cases hz9 : digB (tx (nuP tx tl p)) with
      | false => rfl
      | true => exact absurd ⟨hq, hz9⟩ hf
  · have hP : nuP tx tl p = blkF tx (tl - p) p := if_neg hd
    have hF : nuF tx tl p = some (blkF tx (tl - p) p) := by unfold nuF; rw [if_pos (Or.inl hP), hP]
    rw [hF]
    refine ⟨fun x hx => ?_, fun hx => by cases hx⟩
    have hx2 := Option.some.inj hx
    rw [← hx2]
    rcases Nat.lt_or_ge (blkF tx (tl - p) p) tl with h | h
    · have hdf : digB (tx (blkF tx (tl - p) p)) = false := by
        cases hz9 : digB (tx (blkF tx (tl - p) p)) with
        | false => rfl
        | true => exact absurd ⟨h, hz9⟩ hd
      rw [cR_0 h (by rw [tk_n (blk_n hp h) hdf, if_neg (fun q => by omega)])]
    · have he : blkF tx (tl - p) p = tl := by omega
      rw [he, cR_o]
/-- the sign behind an order -/
theorem cR_s {tx : Nat → Int32} {tl p : Nat} {kd a b : Int32} {od nu fg : Nat} (hp : p ≤ tl) (hnu : nu = numOf kd) (hfg : p < tl → digB (tx p) = false) : (∀ x, (sgF tx tl p none).2 = some x → (cR tx (tl - p) p (kd, a, b, true, od, nu, fg)).1 = some x) ∧ ((sgF tx tl p none).2 = none → ∃ fg', cR tx (tl - p) p (kd, a, b, true, od, nu, fg) = ((cR tx (tl - (sgF tx tl p none).1) (sgF tx tl p none).1 (kd, a, b, false, od + 1, nu, fg')).1, (kd, a, b) :: (cR tx (tl - (sgF tx tl p none).1) (sgF tx tl p none).1 (kd, a, b, false, od + 1, nu, fg')).2)) := by
  have hbl := blkF_le tx (tl - p) p
  rw [cR_b hp]
  unfold sgF
  dsimp only
  by_cases hf : blkF tx (tl - p) p = tl ∨ ¬ tx (blkF tx (tl - p) p) = nI 59
  · rw [if_pos hf]
    refine ⟨fun x hx => ?_, fun hx => by cases hx⟩
    have hx2 := Option.some.inj hx
    rw [← hx2]
    rcases Nat.lt_or_ge (blkF tx (tl - p) p) tl with h | h
    · have hne : ¬ tx (blkF tx (tl - p) p) = nI 59 := by rcases hf with q | q; omega; exact q
      cases hz9 : digB (tx (blkF tx (tl - p) p)) with
      | false => rw [cR_0 h (by rw [tk_n (blk_n hp h) hz9, if_neg (fun q => hne q.1)])]
      | true =>
        have hz : (if blkF tx (tl - p) p = p then fg else 0) = 0 := by
          split
          · next e => rw [e] at hz9 h; rw [hfg h] at hz9; exact absurd hz9 (by decide)
          · rfl
        rw [hz, cR_0 h (by rw [tk_d hz9]; unfold figF; rw [if_pos rfl, if_pos hnu])]
    · have he : blkF tx (tl - p) p = tl := by omega
      rw [he, cR_o]
  · rw [if_neg hf]
    refine ⟨fun x hx => (by cases hx), fun _ => ⟨if blkF tx (tl - p) p = p then fg else 0, ?_⟩⟩
    have h1 : ¬ blkF tx (tl - p) p = tl := fun q => hf (Or.inl q)
    have h2 : tx (blkF tx (tl - p) p) = nI 59 := Classical.byContradiction (fun q => hf (Or.inr q))
    have h : blkF tx (tl - p) p < tl := by omega
    rw [cR_2 h (show tkS _ _ = (2, (kd, a, b, false, od + 1, nu, _)) by rw [h2, tk_n (by decide +kernel) (by decide +kernel), if_pos ⟨rfl, hnu⟩])]
/-- an order, from its letter on -/
theorem tk_k {kd a b : Int32} {od nu fg : Nat} {c : Int32} (h : ¬ c = nI 32) : tkS (kd, a, b, false, od, nu, fg) c = kindF (kd, a, b, false, od, nu, fg) c := by
  show takeF kd a b false od nu fg c = _
  unfold takeF
  rw [if_neg h, if_pos rfl]
theorem cR_or {tx : Nat → Int32} {tl p : Nat} {kd a b : Int32} {od nu fg : Nat} (hp : p < tl) (hne : ¬ tx p = nI 32) : (∀ x, (roF tx tl p).2.1 = some x → (cR tx (tl - p) p (kd, a, b, false, od, nu, fg)).1 = some x) ∧ ((roF tx tl p).2.1 = none → ∃ kd' a' b' nu' fg', cR tx (tl - p) p (kd, a, b, false, od, nu, fg) = ((cR tx (tl - (roF tx tl p).1) (roF tx tl p).1 (kd', a', b', false, od + 1, nu', fg')).1, (roF tx tl p).2.2 :: (cR tx (tl - (roF tx tl p).1) (roF tx tl p).1 (kd', a', b', false, od + 1, nu', fg')).2)) := by
  have hk := numOf_le (tx p)
  by_cases h0 : numOf (tx p) = 0
  · have hr : roF tx tl p = (p, some p, tx p, nI 0, nI 0) := if_pos h0
    rw [hr]
    refine ⟨fun x hx => ?_, fun hx => (by cases hx)⟩
    have hx2 : p = x := Option.some.inj hx
    rw [cR_0 hp (by rw [tk_k hne]; unfold kindF; rw [if_pos h0]), hx2]
  · have hst : tkS (kd, a, b, false, od, nu, fg) (tx p) = (1, (tx p, nI 0, nI 0, true, od, 0, 0)) := by
      rw [tk_k hne]; unfold kindF; rw [if_neg h0]; rfl
    rw [cR_1 hp hst]
    have hn1 := cR_n (tx := tx) (tl := tl) (p := p + 1) (kd := tx p) (a := nI 0) (b := nI 0) (od := od) (nu := 0) (fg := 0) (by omega) (by omega) (Or.inl ⟨rfl, rfl⟩) (Or.inl rfl)
    have hle1 := nmF_le (tx := tx) (tl := tl) (p := p + 1) (ft := none) (by omega)
    have hle1 : p + 1 ≤ nuP tx tl (p + 1) ∧ nuP tx tl (p + 1) ≤ tl := hle1
    by_cases h2 : numOf (tx p) = 2
    · have hr : roF tx tl p = ((sgF tx tl (nmF tx tl (nuP tx tl (p + 1)) (nuF tx tl (p + 1))).1 (nmF tx tl (nuP tx tl (p + 1)) (nuF tx tl (p + 1))).2.2).1, (sgF tx tl (nmF tx tl (nuP tx tl (p + 1)) (nuF tx tl (p + 1))).1 (nmF tx tl (nuP tx tl (p + 1)) (nuF tx tl (p + 1))).2.2).2, tx p, nuV tx tl (p + 1), (nmF tx tl (nuP tx tl (p + 1)) (nuF tx tl (p + 1))).2.1) := by
        unfold roF; rw [if_neg h0, if_pos h2]; rfl
      rw [hr]
      dsimp only
      rcases opt_cases (nuF tx tl (p + 1)) with e | ⟨y, e⟩
      · rw [e]
        obtain ⟨fg1, e1, e2⟩ := hn1.2 e
        rw [e1]
        have hs1 : stV (tx p) (nI 0) (nI 0) od (0 + 1) (nuV tx tl (p + 1)) fg1 = (tx p, nuV tx tl (p + 1), nI 0, true, od, 1, fg1) := if_pos rfl
        rw [hs1]
        have hn2 := cR_n (tx := tx) (tl := tl) (p := nuP tx tl (p + 1)) (kd := tx p) (a := nuV tx tl (p + 1)) (b := nI 0) (od := od) (nu := 1) (fg := fg1) (by omega) (by omega) (Or.inr ⟨rfl, rfl⟩) (Or.inr e2)
        have hle2 := nmF_le (tx := tx) (tl := tl) (p := nuP tx tl (p + 1)) (ft := none) (by omega)
        have hle2 : nuP tx tl (p + 1) ≤ nuP tx tl (nuP tx tl (p + 1)) ∧ nuP tx tl (nuP tx tl (p + 1)) ≤ tl := hle2
        have hm2 : nmF tx tl (nuP tx tl (p + 1)) none = (nuP tx tl (nuP tx tl (p + 1)), nuV tx tl (nuP tx tl (p + 1)), nuF tx tl (nuP tx tl (p + 1))) := rfl
        rw [hm2]
        dsimp only
        rcases opt_cases (nuF tx tl (nuP tx tl (p + 1))) with e3 | ⟨y, e3⟩
        · rw [e3]
          obtain ⟨fg2, e4, e5⟩ := hn2.2 e3
          rw [e4]
          have hs2 : stV (tx p) (nuV tx tl (p + 1)) (nI 0) od (1 + 1) (nuV tx tl (nuP tx tl (p + 1))) fg2 = (tx p, nuV tx tl (p + 1), nuV tx tl (nuP tx tl (p + 1)), true, od, 2, fg2) := if_neg (by decide)
          rw [hs2]
          have hs := cR_s (tx := tx) (tl := tl) (p := nuP tx tl (nuP tx tl (p + 1))) (kd := tx p) (a := nuV tx tl (p + 1)) (b := nuV tx tl (nuP tx tl (p + 1))) (od := od) (nu := 2) (fg := fg2) (by omega) h2.symm e5
          refine ⟨hs.1, fun hx => ?_⟩
          obtain ⟨fg3, e6⟩ := hs.2 hx
          exact ⟨_, _, _, _, _, e6⟩
        · rw [e3]
          refine ⟨fun x hx => ?_, fun hx => (by cases hx)⟩
          have hx2 : y = x := Option.some.inj hx
          rw [← hx2]; exact hn2.1 y e3
      · rw [e]
        refine ⟨fun x hx => ?_, fun hx => (by cases hx)⟩
        have hx2 : y = x := Option.some.inj hx
        rw [← hx2]; exact hn1.1 y e
    · have h1 : numOf (tx p) = 1 := by omega
      have hr : roF tx tl p = ((sgF tx tl (nuP tx tl (p + 1)) (nuF tx tl (p + 1))).1, (sgF tx tl (nuP tx tl (p + 1)) (nuF tx tl (p + 1))).2, tx p, nuV tx tl (p + 1), nI 0) := by
        unfold roF; rw [if_neg h0, if_neg h2]; rfl
      rw [hr]
      dsimp only
      rcases opt_cases (nuF tx tl (p + 1)) with e | ⟨y, e⟩
      · rw [e]
        obtain ⟨fg1, e1, e2⟩ := hn1.2 e
        rw [e1]
        have hs1 : stV (tx p) (nI 0) (nI 0) od (0 + 1) (nuV tx tl (p + 1)) fg1 = (tx p, nuV tx tl (p + 1), nI 0, true, od, 1, fg1) := if_pos rfl
        rw [hs1]
        have hs := cR_s (tx := tx) (tl := tl) (p := nuP tx tl (p + 1)) (kd := tx p) (a := nuV tx tl (p + 1)) (b := nI 0) (od := od) (nu := 1) (fg := fg1) (by omega) h1.symm e2
        refine ⟨hs.1, fun hx => ?_⟩
        obtain ⟨fg3, e6⟩ := hs.2 hx
        exact ⟨_, _, _, _, _, e6⟩
      · rw [e]
        refine ⟨fun x hx => ?_, fun hx => (by cases hx)⟩
        have hx2 : y = x := Option.some.inj hx
        rw [← hx2]; exact hn1.1 y e
theorem cR_all {tx : Nat → Int32} {tl : Nat} : ∀ (f p : Nat) (kd a b : Int32) (od nu fg : Nat), p ≤ tl → tl < p + f → (p < tl → ¬ tx p = nI 32) → (∀ x, (rdsF tx tl f p).1 = some x → (cR tx (tl - p) p (kd, a, b, false, od, nu, fg)).1 = some x) ∧ ((rdsF tx tl f p).1 = none → cR tx (tl - p) p (kd, a, b, false, od, nu, fg) = (if 0 < od + (rdsF tx tl f p).2.length then none else some tl, (rdsF tx tl f p).2))
  | 0, p, kd, a, b, od, nu, fg, hp, hf, _ => by omega
  | f + 1, p, kd, a, b, od, nu, fg, hp, hf, hne => by
    rcases Nat.lt_or_ge p tl with h | h
    · have hro := roF_le (tx := tx) h
      have hor := cR_or (tx := tx) (tl := tl) (p := p) (kd := kd) (a := a) (b := b) (od := od) (nu := nu) (fg := fg) h (hne h)
      rcases opt_cases (roF tx tl p).2.1 with e | ⟨y, e⟩
      · have h3 := roF_3 h e
        have hst : rdsF tx tl (f + 1) p = ((rdsF tx tl f (blkF tx (tl - (roF tx tl p).1) (roF tx tl p).1)).1, (roF tx tl p).2.2 :: (rdsF tx tl f (blkF tx (tl - (roF tx tl p).1) (roF tx tl p).1)).2) := (if_pos h).trans (by rw [e])
        obtain ⟨kd', a', b', nu', fg', e1⟩ := hor.2 e
        have hbl := blkF_le tx (tl - (roF tx tl p).1) (roF tx tl p).1
        rw [e1, hst, cR_b h3.2]
        have ih := cR_all f (blkF tx (tl - (roF tx tl p).1) (roF tx tl p).1) kd' a' b' (od + 1) nu' (if blkF tx (tl - (roF tx tl p).1) (roF tx tl p).1 = (roF tx tl p).1 then fg' else 0) (by omega) (by omega) (fun q => blk_n h3.2 q)
        refine ⟨fun x hx => ih.1 x hx, fun hx => ?_⟩
        have e2 := ih.2 hx
        rw [e2]
        dsimp only
        rw [List.length_cons, show od + ((rdsF tx tl f (blkF tx (tl - (roF tx tl p).1) (roF tx tl p).1)).2.length + 1) = od + 1 + (rdsF tx tl f (blkF tx (tl - (roF tx tl p).1) (roF tx tl p).1)).2.length by omega]
      · have hst : rdsF tx tl (f + 1) p = (some y, []) := (if_pos h).trans (by rw [e])
        rw [hst]
        refine ⟨fun x hx => ?_, fun hx => (by cases hx)⟩
        have hx2 : y = x := Option.some.inj hx
        rw [← hx2]; exact hor.1 y e
    · have hpe : p = tl := by omega
      have hst : rdsF tx tl (f + 1) p = (none, []) := if_neg (by omega)
      rw [hst, hpe, cR_e]
      refine ⟨fun x hx => (by cases hx), fun _ => ?_⟩
      show (if (true && decide (0 < od)) = true then none else some tl, []) = (if 0 < od + 0 then none else some tl, [])
      rw [Bool.true_and, Nat.add_zero]
      by_cases hod : 0 < od
      · rw [if_pos hod, if_pos (decide_eq_true hod)]
      · rw [if_neg hod, if_neg (by rw [decide_eq_false hod]; decide)]
/-- what the class reads is what the model reads -/
theorem cR_rd (tx : Nat → Int32) {tl : Nat} (htl : tl ≤ 120) (kd a b : Int32) (nu fg : Nat) : (cR tx tl 0 (kd, a, b, false, 0, nu, fg)).1 = rdX tx tl ∧ (rdX tx tl = none → (cR tx tl 0 (kd, a, b, false, 0, nu, fg)).2 = (rdT tx tl).2) := by
  have hbl := blkF_le tx (tl - 0) 0
  have hz : cR tx tl 0 (kd, a, b, false, 0, nu, fg) = cR tx (tl - 0) 0 (kd, a, b, false, 0, nu, fg) := by rw [Nat.sub_zero]
  rw [hz, cR_b (Nat.zero_le _)]
  have h := cR_all (tx := tx) (tl := tl) 121 (blkF tx (tl - 0) 0) kd a b 0 nu (if blkF tx (tl - 0) 0 = 0 then fg else 0) (by omega) (by omega) (fun q => blk_n (Nat.zero_le _) q)
  unfold rdX
  have hT : rdsF tx tl 121 (blkF tx (tl - 0) 0) = rdT tx tl := rfl
  rw [hT] at h
  rcases opt_cases (rdT tx tl).1 with e | ⟨y, e⟩
  · rw [e]
    dsimp only
    rw [h.2 e, Nat.zero_add]
    refine ⟨?_, fun _ => rfl⟩
    dsimp only
    by_cases hl : (rdT tx tl).2 = []
    · rw [if_pos hl, hl]; rfl
    · rw [if_neg hl, if_pos (List.length_pos_iff.mpr hl)]
  · rw [e]
    exact ⟨h.1 y e, fun hx => (by cases hx)⟩
theorem c0_2 : ¬ (0 : Int32) = 2 := by decide +kernel
/-! what holds of the reader at all times -/
def RB (z : RS) : Prop := z.2.2.2.2.2.1 ≤ 2 ∧ z.2.2.2.2.2.2 ≤ 3 ∧ (z.2.2.2.1 = true → z.2.2.2.2.2.1 ≤ numOf z.1 ∧ ¬ numOf z.1 = 0)
abbrev bgn (z : RS) : RS := (z.1, z.2.1, z.2.2.1, false, 0, z.2.2.2.2.2.1, z.2.2.2.2.2.2)
theorem bgn_rb {z : RS} (h : RB z) : RB (bgn z) := ⟨h.1, h.2.1, fun q => by cases q⟩
theorem tk_rb {z : RS} (c : Int32) (h : RB z) : RB (tkS z c).2 ∧ (tkS z c).2.2.2.2.2.1 ≤ z.2.2.2.2.1 + 1 ∧ ((tkS z c).1 = 2 → ¬ numOf (tkS z c).2.1 = 0) := by
  obtain ⟨kd, f1, f2, op, od, nu, fg⟩ := z
  obtain ⟨h1, h2, h3⟩ := h
  have h1 : nu ≤ 2 := h1
  have h2 : fg ≤ 3 := h2
  have h3 : op = true → nu ≤ numOf kd ∧ ¬ numOf kd = 0 := h3
  show RB (takeF kd f1 f2 op od nu fg c).2 ∧ (takeF kd f1 f2 op od nu fg c).2.2.2.2.2.1 ≤ od + 1 ∧ ((takeF kd f1 f2 op od nu fg c).1 = 2 → ¬ numOf (takeF kd f1 f2 op od nu fg c).2.1 = 0)
  have hk := numOf_le kd
  unfold takeF
  split
  · exact ⟨⟨h1, Nat.zero_le _, h3⟩, Nat.le_succ _, fun q => absurd q c1_2⟩
  · split
    · next e =>
      unfold kindF
      split
      · exact ⟨⟨h1, h2, h3⟩, Nat.le_succ _, fun q => absurd q c0_2⟩
      · next e2 => exact ⟨⟨Nat.zero_le _, Nat.zero_le _, fun _ => ⟨Nat.zero_le _, e2⟩⟩, Nat.le_succ _, fun q => absurd q c1_2⟩
    · next e =>
      have ho : op = true := by cases op; exact absurd rfl e; rfl
      have h4 := h3 ho
      split
      · unfold figF
        split
        · split
          · exact ⟨⟨h1, h2, h3⟩, Nat.le_succ _, fun q => absurd q c0_2⟩
          · split
            · exact ⟨⟨by show nu + 1 ≤ 2; omega, by show fg + 1 ≤ 3; omega, fun _ => ⟨by show nu + 1 ≤ numOf kd; omega, h4.2⟩⟩, Nat.le_succ _, fun q => absurd q c1_2⟩
            · exact ⟨⟨by show nu + 1 ≤ 2; omega, by show fg + 1 ≤ 3; omega, fun _ => ⟨by show nu + 1 ≤ numOf kd; omega, h4.2⟩⟩, Nat.le_succ _, fun q => absurd q c1_2⟩
        · split
          · exact ⟨⟨h1, h2, h3⟩, Nat.le_succ _, fun q => absurd q c0_2⟩
          · split
            · exact ⟨⟨h1, by show fg + 1 ≤ 3; omega, h3⟩, Nat.le_succ _, fun q => absurd q c1_2⟩
            · exact ⟨⟨h1, by show fg + 1 ≤ 3; omega, h3⟩, Nat.le_succ _, fun q => absurd q c1_2⟩
      · split
        · exact ⟨⟨h1, h2, fun q => by cases q⟩, Nat.le_refl _, fun _ => h4.2⟩
        · exact ⟨⟨h1, h2, h3⟩, Nat.le_succ _, fun q => absurd q c0_2⟩
theorem cR_f1 {tx : Nat → Int32} {tl p : Nat} {z : RS} (hp : p < tl) (h : ¬ (tkS z (tx p)).1 = 0) : (cR tx (tl - p) p z).1 = (cR tx (tl - (p + 1)) (p + 1) (tkS z (tx p)).2).1 := by
  rw [show tl - p = (tl - (p + 1)) + 1 by omega]
  have e : cR tx ((tl - (p + 1)) + 1) p z = (if (tkS z (tx p)).1 = 2 then ((cR tx (tl - (p + 1)) (p + 1) (tkS z (tx p)).2).1, ((tkS z (tx p)).2.1, (tkS z (tx p)).2.2.1, (tkS z (tx p)).2.2.2.1) :: (cR tx (tl - (p + 1)) (p + 1) (tkS z (tx p)).2).2) else cR tx (tl - (p + 1)) (p + 1) (tkS z (tx p)).2) := if_neg h
  rw [e]
  split <;> rfl
theorem cR_n0 {tx : Nat → Int32} {tl p : Nat} {z : RS} (hp : p < tl) (h : (cR tx (tl - p) p z).1 = none) : ¬ (tkS z (tx p)).1 = 0 := fun q => by
  rw [cR_0 hp q] at h; cases h
theorem cR_s1 {tx : Nat → Int32} {tl p : Nat} {z : RS} (hp : p < tl) (h : ¬ (tkS z (tx p)).1 = 0) (h2 : ¬ (tkS z (tx p)).1 = 2) : cR tx (tl - p) p z = cR tx (tl - (p + 1)) (p + 1) (tkS z (tx p)).2 := by
  rw [show tl - p = (tl - (p + 1)) + 1 by omega]
  exact (if_neg h).trans (if_neg h2)
abbrev ordS (z : RS) : Ord3 := (z.1, z.2.1, z.2.2.1)
theorem cR_s2 {tx : Nat → Int32} {tl p : Nat} {z : RS} (hp : p < tl) (h2 : (tkS z (tx p)).1 = 2) : cR tx (tl - p) p z = ((cR tx (tl - (p + 1)) (p + 1) (tkS z (tx p)).2).1, ordS (tkS z (tx p)).2 :: (cR tx (tl - (p + 1)) (p + 1) (tkS z (tx p)).2).2) := by
  rw [show tl - p = (tl - (p + 1)) + 1 by omega]
  exact (if_neg (by rw [h2]; exact c2_0)).trans (if_pos h2)
theorem num_cases {k : Int32} (h : ¬ numOf k = 0) : k = 100 ∨ k = 109 ∨ k = 112 ∨ k = 116 := by
  unfold numOf at h
  split at h
  · next e => exact Or.inl e
  · split at h
    · next e => exact Or.inr (Or.inl e)
    · split at h
      · next e => exact Or.inr (Or.inr (Or.inl e))
      · split at h
        · next e => exact Or.inr (Or.inr (Or.inr e))
        · exact absurd rfl h
theorem ups_s (σ : Nat → Nat → Int32) (h : Nat) (ρ : Nat → Int32) : ups σ h ρ h = ρ := if_pos rfl
theorem o_m (ρ : Nat → Int32) (a c : Int32) : oRf ρ (109, a, c) = rfM a ∧ oAns ρ (109, a, c) = mAns ρ a ∧ oRow ρ (109, a, c) = mRow ρ a := ⟨if_pos rfl, if_pos rfl, if_pos rfl⟩
theorem k112 : ¬ (112 : Int32) = 109 := by decide +kernel
theorem k116 : ¬ (116 : Int32) = 109 ∧ ¬ (116 : Int32) = 112 := by decide +kernel
theorem k100 : ¬ (100 : Int32) = 109 ∧ ¬ (100 : Int32) = 112 ∧ ¬ (100 : Int32) = 116 := by decide +kernel
theorem o_p (ρ : Nat → Int32) (a c : Int32) : oRf ρ (112, a, c) = rfP ρ (nOf ρ) a c ∧ oAns ρ (112, a, c) = pAns ρ (nOf ρ) a c ∧ oRow ρ (112, a, c) = pRow ρ (nOf ρ) (gOf ρ) a c := ⟨(if_neg k112).trans (if_pos rfl), (if_neg k112).trans (if_pos rfl), (if_neg k112).trans (if_pos rfl)⟩
theorem o_t (ρ : Nat → Int32) (a c : Int32) : oRf ρ (116, a, c) = rfT ρ (nOf ρ) a ∧ oAns ρ (116, a, c) = tAns ρ (nOf ρ) a ∧ oRow ρ (116, a, c) = tRow ρ (nOf ρ) (gOf ρ) a := ⟨(if_neg k116.1).trans ((if_neg k116.2).trans (if_pos rfl)), (if_neg k116.1).trans ((if_neg k116.2).trans (if_pos rfl)), (if_neg k116.1).trans ((if_neg k116.2).trans (if_pos rfl))⟩
theorem o_d (ρ : Nat → Int32) (a c : Int32) : oRf ρ (100, a, c) = rfD a c ∧ oAns ρ (100, a, c) = dAns ρ a c ∧ oRow ρ (100, a, c) = dRow ρ a c := ⟨(if_neg k100.1).trans ((if_neg k100.2.1).trans (if_neg k100.2.2)), (if_neg k100.1).trans ((if_neg k100.2.1).trans (if_neg k100.2.2)), (if_neg k100.1).trans ((if_neg k100.2.1).trans (if_neg k100.2.2))⟩
