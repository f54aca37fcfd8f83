/-! THE LAW'S OWN RULES: the script, its end -/
def AX (X : Cx) : Nat → Prop := fun q => X.2.2.1.heap.size ≤ q
def QL (bs : Nat) (X : Cx) : State → Prop := lw_Z X.2.2.2.2.2.1 #[Value.ref bs] X.2.2.1
def SX (X : Cx) (bs L : Nat) (xs : Nat → Int32) : Prop := X.2.2.2.2.1 = #[Value.ref bs] ∧ va_X bs L xs X.2.2.1 X.2.2.1.heap ∧ bs < X.2.2.1.heap.size
section GL
variable {l : Launch} {X : Cx} {R : Room} {cc : ByteArray} {own : String} {rt : Option FieldType} {D : va_G} {tys : List (ClassId × FieldType)} {Q : State → Prop} {k n : Nat} {ws : va_W} {pc : Nat} {lv : Lv} {st : List Value} {bs L : Nat} {xs : Nat → Int32}
theorem r_slen (hX : SX X bs L xs) (hd : decode cc pc = .ok (.arraylength, 1)) (kk : G l X R cc own rt D tys (AX X) Q k n ws (pc + 1) lv (.int (nI L) :: st)) : G l X R cc own rt D tys (AX X) Q k n ws pc lv (.ref bs :: st) := by
  obtain ⟨p, e, s, m, args, below, meth, c⟩ := X
  intro F H locs ls hP hD hS hl
  exact va_slen F.1.1 F.1.2.1 hX.2.1 hX.2.2 (Nat.not_le.mpr hX.2.2) hS hd (kk F H locs ls hP hD hS hl)
theorem r_sld {i : Int32} (hX : SX X bs L xs) (j : Nat) (hd : decode cc pc = .ok (.iaload, 1)) (hi : i = nI j) (hj : j < L) (hL : L < 2 ^ 31) (kk : G l X R cc own rt D tys (AX X) Q k n ws (pc + 1) lv (.int (xs j) :: st)) : G l X R cc own rt D tys (AX X) Q k n ws pc lv (.int i :: .ref bs :: st) := by
  obtain ⟨p, e, s, m, args, below, meth, c⟩ := X
  intro F H locs ls hP hD hS hl
  subst hi
  refine va_sld F.1.1 F.1.2.1 hX.2.1 hX.2.2 (Nat.not_le.mpr hX.2.2) hS (vp_in_nI hj hL) hd ?_
  rw [nI_clamp (Nat.lt_trans hj hL)]
  exact kk F H locs ls hP hD hS hl
theorem r_lend (hX : SX X bs L xs) (hk : k ≤ 600000) (hn : n ≤ 7302250) (hd : decode code pc = .ok (.ireturn, 1)) : G l X room_1 code own ret D tys (AX X) (QL bs X) k n ws pc lv [.int 1] := by
  obtain ⟨p, e, s, m, args, below, meth, c⟩ := X
  intro F H locs ls hP hD hS hl
  have e1 : args = #[Value.ref bs] := hX.1
  subst e1
  exact va_forget (fun q hq => hS.2.2 q hq) (W.widen hk hn (lw_ret F.1.1 F.1.2.1 F.2.1 F.2.2.1 hd))
end GL
theorem and31 (x : Int32) : ∃ k, k < 32 ∧ x &&& nI 31 = nI k := by
  refine ⟨x.toBitVec.toNat % 32, Nat.mod_lt _ (by decide), ?_⟩
  apply Int32.toBitVec_inj.mp
  apply BitVec.eq_of_toNat_eq
  rw [Int32.toBitVec_and, BitVec.toNat_and, show (nI 31).toBitVec.toNat = 2 ^ 5 - 1 by decide +kernel, Nat.and_two_pow_sub_one_eq_mod]
  show _ = (BitVec.ofNat 32 _).toNat
  rw [BitVec.toNat_ofNat, Nat.mod_eq_of_lt (Nat.lt_trans (Nat.mod_lt _ (by decide)) (by decide))]
theorem nI_sub4 {a : Nat} (h : 4 ≤ a) : nI a - nI 4 = nI (a - 4) := by
  obtain ⟨d, rfl⟩ : ∃ d, a = d + 4 := ⟨a - 4, by omega⟩
  rw [Nat.add_sub_cancel, ← nI_add, Int32.sub_eq_add_neg, Int32.add_assoc, show nI 4 + -nI 4 = 0 by decide +kernel, Int32.add_zero]
theorem lt4 {L i : Nat} (hL : L ≤ 2048) (hi : i ≤ L) (h : ¬ nI L - nI 4 < nI i) : i + 4 ≤ L := by
  rcases Nat.lt_or_ge L 4 with h4 | h4
  · exfalso
    apply h
    rcases (show L = 0 ∨ L = 1 ∨ L = 2 ∨ L = 3 by omega) with e | e | e | e
    all_goals
      rw [e]
      exact Int32.lt_of_lt_of_le (show _ < (0 : Int32) by decide +kernel) (nI_nn (by omega))
  · rw [nI_sub4 h4] at h
    have h2 := (nI_le_iff (a := i) (b := L - 4) (by omega) (by omega)).mp (Int32.not_lt.mp h)
    omega
theorem tb_in {k : Nat} (hk : k ≤ 20) : ¬ (nI k).toInt < 0 ∧ ¬ (20 : Int) < (nI k).toInt ∧ ((nI k).toInt - 0).toNat = k := by
  rw [nI_toInt (by omega)]
  omega
theorem tb_out {k : Nat} (h : 20 < k) (h2 : k < 32) : (nI k).toInt < 0 ∨ (20 : Int) < (nI k).toInt := by
  rw [nI_toInt (by omega)]
  omega
/-! WHAT HOLDS BETWEEN TWO CALLS -/
def Rl (ρ : Nat → Int32) (σ : Nat → Nat → Int32) (h : Nat) (z : RS) (tl : Nat) (P α : Nat → Int32) : Prop := IvR ρ ∧ h ≤ 5 ∧ tl ≤ 120 ∧ RB z ∧ Zro α ∧ ∀ i, i < h → IvR (σ i) ∧ ∀ j, j < 159 → P (159 * i + j) = σ i j
theorem IvR.z {ρ : Nat → Int32} (h : IvR ρ) : Zro ρ := h.2.2.2.2.2.2.2.2
theorem kpH_le {h : Nat} (hh : h ≤ 5) : kpH h ≤ 5 := by unfold kpH; split <;> omega
theorem Rl_same {ρ : Nat → Int32} {σ : Nat → Nat → Int32} {h : Nat} {z : RS} {tl : Nat} {P α : Nat → Int32} (H : Rl ρ σ h z tl P α) : Rl ρ σ h z tl P ρ := ⟨H.1, H.2.1, H.2.2.1, H.2.2.2.1, H.1.z, H.2.2.2.2.2⟩
theorem Rl_keep {ρ ρ' : Nat → Int32} {σ : Nat → Nat → Int32} {h : Nat} {z : RS} {tl : Nat} {P α : Nat → Int32} (H : Rl ρ σ h z tl P α) (h' : IvR ρ') : Rl ρ' (kpS σ h ρ) (kpH h) z tl (lvP P h ρ) ρ := by
  obtain ⟨h1, h2, h3, h4, h5, h6⟩ := H
  refine ⟨h', kpH_le h2, h3, h4, h1.z, fun i hi => ?_⟩
  rcases Nat.lt_or_ge h 5 with e | e
  · have hk : kpH h = h + 1 := if_pos e
    have hS : kpS σ h ρ = ups σ h ρ := if_pos e
    rw [hk] at hi
    rw [hS]
    by_cases ei : i = h
    · have hu : ups σ h ρ i = ρ := if_pos ei
      rw [hu]
      refine ⟨h1, fun j hj => ?_⟩
      unfold lvP
      rw [hk, if_pos (by omega)]
      congr 1; omega
    · have hu : ups σ h ρ i = σ i := if_neg ei
      rw [hu]
      have h7 := h6 i (by omega)
      refine ⟨h7.1, fun j hj => ?_⟩
      unfold lvP
      rw [hk, if_neg (by omega), if_pos e]
      exact h7.2 j hj
  · have h50 : h = 5 := by omega
    subst h50
    have hk : kpH 5 = 5 := if_neg (by decide)
    have hS : kpS σ 5 ρ = rot (ups σ 5 ρ) := if_neg (by decide)
    rw [hk] at hi
    rw [hS]
    have hr : rot (ups σ 5 ρ) i = ups σ 5 ρ (i + 1) := if_pos hi
    rw [hr]
    by_cases ei : i = 4
    · have hu : ups σ 5 ρ (i + 1) = ρ := if_pos (by omega)
      rw [hu]
      refine ⟨h1, fun j hj => ?_⟩
      unfold lvP
      rw [hk, if_pos (by omega)]
      rw [show 159 * i + j - 159 * (5 - 1) = j by omega]
    · have hu : ups σ 5 ρ (i + 1) = σ (i + 1) := if_neg (by omega)
      rw [hu]
      have h7 := h6 (i + 1) (by omega)
      refine ⟨h7.1, fun j hj => ?_⟩
      unfold lvP
      rw [hk, if_neg (by omega), if_neg (by decide), if_pos (by omega), ← h7.2 j hj]
      congr 1; omega
/-- behind a call that may be refused (c: why) -/
theorem Rl_call {ρ ρ' : Nat → Int32} {σ : Nat → Nat → Int32} {h : Nat} {z : RS} {tl : Nat} {P α : Nat → Int32} {c : Int32} (H : Rl ρ σ h z tl P α) (h' : IvR ρ') (hn : ¬ c = 0 → ρ' = ρ) : Rl ρ' (if c = 0 then kpS σ h ρ else σ) (if c = 0 then kpH h else h) z tl (if c = 0 then lvP P h ρ else P) ρ := by
  by_cases e : c = 0
  · rw [if_pos e, if_pos e, if_pos e]; exact Rl_keep H h'
  · rw [if_neg e, if_neg e, if_neg e, hn e]; exact Rl_same H
theorem pRow_iv {ρ : Nat → Int32} (hI : IvR ρ) (k v : Int32) : IvR (pRow ρ (nOf ρ) (gOf ρ) k v) := by
  obtain ⟨n, g, h⟩ := pRow_inv hI k v; exact h.iv
theorem tRow_iv {ρ : Nat → Int32} (hI : IvR ρ) (k : Int32) : IvR (tRow ρ (nOf ρ) (gOf ρ) k) := by
  obtain ⟨n, g, h⟩ := tRow_inv hI k; exact h.iv
theorem mRow_iv {ρ : Nat → Int32} (hI : IvR ρ) (x : Int32) : IvR (mRow ρ x) := by
  obtain ⟨n, g, h⟩ := mRow_inv hI x; exact h.iv
theorem dRow_iv {ρ : Nat → Int32} (hI : IvR ρ) (a c : Int32) : IvR (dRow ρ a c) := by
  obtain ⟨n, g, h⟩ := dRow_inv hI a c; exact h.iv
theorem spR_iv {ρ : Nat → Int32} (hI : IvR ρ) : IvR (spR ρ (gOf ρ) 0 (nOf ρ)) := (spR_inv hI (by omega)).iv
theorem Rl_back {ρ : Nat → Int32} {σ : Nat → Nat → Int32} {h : Nat} {z : RS} {tl : Nat} {P α : Nat → Int32} (H : Rl ρ σ h z tl P α) : Rl (if 0 < h then σ (h - 1) else ρ) σ (h - 1) z tl P α := by
  obtain ⟨h1, h2, h3, h4, h5, h6⟩ := H
  refine ⟨?_, by omega, h3, h4, h5, fun i hi => h6 i (by omega)⟩
  split
  · exact (h6 (h - 1) (by omega)).1
  · exact h1
theorem bk_eq {ρ : Nat → Int32} {σ : Nat → Nat → Int32} {h : Nat} {z : RS} {tl : Nat} {P α : Nat → Int32} (H : Rl ρ σ h z tl P α) : (if 0 < h then bkR P ρ (h - 1) 159 else ρ) = (if 0 < h then σ (h - 1) else ρ) := by
  split
  · next e =>
    have h7 := H.2.2.2.2.2 (h - 1) (by omega)
    funext j
    unfold bkR
    rcases Nat.lt_or_ge j 159 with hj | hj
    · rw [if_pos hj]; exact h7.2 j hj
    · rw [if_neg (by omega), H.1.z j hj, h7.1.z j hj]
  · rfl
theorem Rl_does {ρ : Nat → Int32} {σ : Nat → Nat → Int32} {h : Nat} {z z' : RS} {tl : Nat} {P α : Nat → Int32} (tx : Nat → Int32) (H : Rl ρ σ h z tl P α) (hz : RB z') : Rl (dsRow tx tl ρ) (if dsB tx tl ρ = true then kpS σ h ρ else if rdX tx tl = none then ups σ h ρ else σ) (if dsB tx tl ρ = true then kpH h else h) z' tl (if dsB tx tl ρ = true then lvP P h ρ else P) (if rdX tx tl = none then ρ else α) := by
  have H' : Rl ρ σ h z' tl P α := ⟨H.1, H.2.1, H.2.2.1, hz, H.2.2.2.2.1, H.2.2.2.2.2⟩
  by_cases e : dsB tx tl ρ = true
  · have hX : rdX tx tl = none := by
      unfold dsB at e
      rcases opt_cases (rdX tx tl) with q | ⟨x, q⟩
      · exact q
      · rw [q] at e; cases e
    rw [if_pos e, if_pos e, if_pos e, if_pos hX]
    exact Rl_keep H' (dsRow_iv H.1 tx tl)
  · have hr : dsRow tx tl ρ = ρ := if_neg e
    rw [if_neg e, if_neg e, if_neg e, hr]
    by_cases hX : rdX tx tl = none
    · rw [if_pos hX, if_pos hX]
      refine ⟨H'.1, H'.2.1, H'.2.2.1, hz, H'.1.z, fun i hi => ?_⟩
      have hu : ups σ h ρ i = σ i := if_neg (by omega)
      rw [hu]
      exact H'.2.2.2.2.2 i hi
    · rw [if_neg hX, if_neg hX]; exact H'
theorem Rl_tl {ρ : Nat → Int32} {σ : Nat → Nat → Int32} {h : Nat} {z : RS} {tl tl' : Nat} {P α : Nat → Int32} (H : Rl ρ σ h z tl P α) (ht : tl' ≤ 120) : Rl ρ σ h z tl' P α := ⟨H.1, H.2.1, ht, H.2.2.2⟩
theorem typ_le {tx rf : Nat → Int32} {tl : Nat} {c : Int32} (h : tl ≤ 120) : (typA tx rf tl c).2.2.1 ≤ 120 := by
  unfold typA
  split
  · split
    · show tl + 1 ≤ 120; omega
    · exact h
  · exact h
theorem lg_same (x : Int64) : lg_cmp x x = 0 := by unfold lg_cmp; simp
/-! WHAT THE MACHINE KNOWS AT THE START -/
theorem K_start {args : Array Value} {s : State} (hts : ∀ w ∈ TB, w.before args s = true) : ∃ (D : va_G) (cA cB : ClassId), va_K D vwCl (tyS cA cB) s := by
  obtain ⟨c0, i0, k0⟩ := u_known hts in_X0 (hts _ ins_X0)
  obtain ⟨c1, i1, k1⟩ := u_known hts in_X1 (hts _ ins_X1)
  obtain ⟨c2, i2, k2⟩ := u_known hts in_X2 (hts _ ins_X2)
  obtain ⟨c3, i3, k3⟩ := u_known hts in_X3 (hts _ ins_X3)
  obtain ⟨c4, i4, k4⟩ := u_known hts in_X4 (hts _ ins_X4)
  obtain ⟨c5, i5, k5⟩ := u_known hts in_X5 (hts _ ins_X5)
  obtain ⟨cA, kA, comp, a1, a2, a3⟩ := Cond.arrayClass_spec (hts _ ac_I)
  obtain ⟨comp2, cB, kB, b1, -, b3, b4, b5⟩ := Cond.arrayOver_spec (hts _ ao_R)
  refine ⟨(fun c => match c with | 0 => c0 | 1 => c1 | 2 => c2 | 3 => c3 | 4 => c4 | _ => c5, fun c => match c with | 0 => i0 | 1 => i1 | 2 => i2 | 3 => i3 | 4 => i4 | _ => i5), cA, cB, fun c q hq => ?_, fun k q hq => ?_⟩
  · match c with
    | 0 => cases hq; exact k0
    | 1 => cases hq; exact k1
    | 2 => cases hq; exact k2
    | 3 => cases hq; exact k3
    | 4 => cases hq; exact k4
    | 5 => cases hq; exact k5
    | c + 6 => simp at hq
  · match k with
    | 0 => cases hq; exact ⟨fun n z => ⟨fun k h => (by cases h), kA, a2, comp, a3⟩, a1⟩
    | 1 => cases hq; exact ⟨fun n z => ⟨fun k h => (by cases h), kB, b3, comp2, b4⟩, kB, comp2, b3, b4, b1, b5⟩
    | k + 2 => simp at hq
