/-! worlds by pieces: a call takes some pieces, the rest stays -/
def cat : List va_W → va_W
  | [] => []
  | [a] => a
  | a :: b :: r => a ++ cat (b :: r)
theorem cat_flat : ∀ S : List va_W, cat S = S.flatten
  | [] => rfl
  | [a] => by simp [cat]
  | a :: b :: r => by
    have h := cat_flat (b :: r)
    show a ++ cat (b :: r) = _
    rw [h]; rfl
theorem P_mem {D : va_G} {cl : List vw_C} {ws : va_W} {H : Heap} : va_P D cl ws H ↔ ∀ q ∈ ws, va_at D cl q H := ⟨fun h q hq => by obtain ⟨k, hk⟩ := List.getElem?_of_mem hq; exact h k q hk, fun h k q hk => h q (List.mem_of_getElem? hk)⟩
theorem D_mem {A : Nat → Prop} {ws : va_W} : va_D A ws ↔ ws.Pairwise (fun p q => p.1 ≠ q.1) ∧ ∀ q ∈ ws, A q.1 := by
  constructor
  · rintro ⟨h1, h2⟩
    refine ⟨List.pairwise_iff_getElem.mpr (fun i j hi hj hij e => ?_), fun q hq => by obtain ⟨k, hk⟩ := List.getElem?_of_mem hq; exact h2 k q hk⟩
    have := h1 i j _ _ (List.getElem?_eq_getElem hi) (List.getElem?_eq_getElem hj) e
    omega
  · rintro ⟨h1, h2⟩
    refine ⟨fun i j p q hp hq e => ?_, fun k q hk => h2 q (List.mem_of_getElem? hk)⟩
    obtain ⟨hi, rfl⟩ := List.getElem?_eq_some_iff.mp hp
    obtain ⟨hj, rfl⟩ := List.getElem?_eq_some_iff.mp hq
    have h3 := List.pairwise_iff_getElem.mp h1
    rcases Nat.lt_trichotomy i j with h | h | h
    · exact absurd e (h3 i j hi hj h)
    · exact h
    · exact absurd e.symm (h3 j i hj hi h)
theorem va_P.perm {D : va_G} {cl : List vw_C} {ws ws' : va_W} {H : Heap} (hp : ws.Perm ws') (h : va_P D cl ws H) : va_P D cl ws' H := P_mem.mpr (fun q hq => P_mem.mp h q (hp.mem_iff.mpr hq))
theorem va_D.perm {A : Nat → Prop} {ws ws' : va_W} (hp : ws.Perm ws') (h : va_D A ws) : va_D A ws' := by
  obtain ⟨h1, h2⟩ := D_mem.mp h
  exact D_mem.mpr ⟨(hp.pairwise_iff (fun z => Ne.symm z)).mp h1, fun q hq => h2 q (hp.mem_iff.mpr hq)⟩
/-- pieces by their numbers: an order of all of them -/
theorem perm_idx {α : Type} : ∀ {S L : List α} {is : List Nat}, is.map (fun i => S[i]?) = L.map some → is.Perm (List.range S.length) → L.Perm S := by
  intro S L is h hp
  have h1 : (L.map some).Perm (S.map some) := by
    rw [← h]
    have e : S.map some = (List.range S.length).map (fun i => S[i]?) := by
      apply List.ext_getElem?
      intro i
      simp only [List.getElem?_map, List.getElem?_range]
      by_cases hi : i < S.length
      · simp [hi]
      · simp [hi]
    rw [e]
    exact hp.map _
  have h2 := h1.filterMap id
  simpa using h2
/-- 'is' holds each number below n once -/
def isOk (is : List Nat) (n : Nat) : Bool := is.isPerm (List.range n)
theorem isOk_perm {is : List Nat} {n : Nat} (h : isOk is n = true) : is.Perm (List.range n) := List.isPerm_iff.mp h
theorem cat_perm {S S' : List va_W} (h : S.Perm S') : (cat S).Perm (cat S') := by
  rw [cat_flat, cat_flat]
  exact h.flatten
theorem cat_app (S T : List va_W) : (cat (S ++ T)).Perm (cat S ++ cat T) := by
  rw [cat_flat, cat_flat, cat_flat, List.flatten_append]
/-- behind a call, by pieces -/
theorem join_perm {A0 : Nat → Prop} {D : va_G} {cl : List vw_C} {ws wc wr w1 : va_W} {H H1 : Heap} (hp : ws.Perm (wc ++ wr)) (hP : va_P D cl ws H) (hD : va_D A0 ws)
    (hk : ∀ q : Nat, q < H.size → ¬ va_A wc H.size q → H1[q]? = H[q]?) (hF : ∀ q, va_A wc H.size q → A0 q) (hP1 : va_P D cl w1 H1) (hD1 : va_D (va_A wc H.size) w1) : va_P D cl (wr ++ w1) H1 ∧ va_D A0 (wr ++ w1) := by
  have hP' := P_mem.mp (hP.perm hp)
  obtain ⟨hd1, hd2⟩ := D_mem.mp (hD.perm hp)
  obtain ⟨hdc, hdr, hdx⟩ := List.pairwise_append.mp hd1
  obtain ⟨e1, e2⟩ := D_mem.mp hD1
  have apart : ∀ q ∈ wr, q.1 < H.size ∧ ¬ va_A wc H.size q.1 := by
    intro q hq
    have hl := (hP' q (List.mem_append_right _ hq)).lt
    refine ⟨hl, fun h => ?_⟩
    rcases h with ⟨k2, e, h⟩ | h
    · exact hdx (q.1, e) (List.mem_of_getElem? h) q hq rfl
    · omega
  refine ⟨P_mem.mpr (fun q hq => ?_), D_mem.mpr ⟨List.pairwise_append.mpr ⟨hdr, e1, fun a ha b hb e => ?_⟩, fun q hq => ?_⟩⟩
  · rcases List.mem_append.mp hq with h | h
    · obtain ⟨g1, g2⟩ := apart q h
      exact (hP' q (List.mem_append_right _ h)).kept (hk q.1 g1 g2)
    · exact P_mem.mp hP1 q h
  · exact (apart a ha).2 (by rw [e]; exact e2 b hb)
  · rcases List.mem_append.mp hq with h | h
    · exact hd2 q (List.mem_append_right _ h)
    · exact hF q.1 (e2 q h)
section GS
variable {l : Launch} {X : Cx} {R : Room} {cc : ByteArray} {own : String} {ret : Option FieldType} {D : va_G} {tys : List (ClassId × FieldType)} {A : Nat → Prop} {Q : State → Prop} {k n : Nat} {ws : va_W} {pc : Nat} {lv : Lv} {st : List Value}
theorem run_fin2 {p : Program} {e : Env} {s : State} {m : MethodId} {args : Array Value} {below : List Frame} {meth : Method} {c : Code} {H : Heap} {locs : List Loc} {ls : Array Slot} {stk : List Value} {S : Type} {post : Option Value → S → Prop} {wc wr : va_W} {wc' : S → va_W} {a : Array Value} {mc ms : Nat} (ws' : S → va_W)
    (F : Fx (p, e, s, m, args, below, meth, c) cc lv.length own ret D tys A) (hP : va_P D vwCl ws H) (hD : va_D A ws) (hS : va_S A s.heap H locs) (hl : lh ls lv)
    (hp : ws.Perm (wc ++ wr)) (hp' : ∀ u, (wr ++ wc' u).Perm (ws' u))
    (hrun : va_Run p l e R s m args below meth c H locs k n mc ms (F0 m pc ls stk) st (Qc D tys wc H.size S post wc' a) (va_A wc H.size))
    (kk : ∀ (v : Option Value) (u : S), post v u → G l (p, e, s, m, args, below, meth, c) R cc own ret D tys A Q (k + mc) (n + ms) (ws' u) (pc + 3) lv (v.toList ++ st)) : W p l e R s m args below meth c H locs k n Q (F0 m pc ls stk) := by
  intro T hT XX
  have hFc : ∀ q, va_A wc H.size q → A q := by
    intro q h
    rcases h with ⟨k2, e2, h⟩ | h
    · exact (D_mem.mp (hD.perm hp)).2 (q, e2) (List.mem_append_left _ (List.mem_of_getElem? h))
    · exact F.2.2.2.1 q (Nat.le_trans hS.1 h)
  obtain ⟨v, st₀, t, T', L, h0, X', hL, e1, e2, ⟨⟨v2, u, hv, hpo, hB1, hB2, hB3⟩, hz, hk⟩, stp⟩ := hrun T hT XX
  cases hv
  rw [h0] at hz hk
  have j := join_perm hp hP hD (H1 := T'.heap) (fun q h1 h2 => by rw [e1]; exact hk q h1 h2) hFc (by rw [e1]; exact hB1) hB3
  obtain ⟨t2, a1, b1⟩ := kk v u hpo F T'.heap (locs ++ L) ls (j.1.perm (hp' u)) (j.2.perm (hp' u))
    ⟨Nat.le_trans hS.1 (by rw [e1]; exact hz), fun q h1 h2 => by rw [e1, hk q (Nat.lt_of_lt_of_le h1 hS.1) (fun z => h2 (hFc q z))]; exact hS.2.1 q h1 h2, fun q hq => by
      rcases List.mem_append.mp hq with h | h
      · exact hS.2.2 q h
      · exact hFc _ (hL q h)⟩ hl T' rfl X'
  exact ⟨t2, stp t2 a1, b1⟩
/-- the pieces of a call: SS the caller's, WC the callee's, WR the rest; WC' and SS' behind it -/
def SegOk (ws : va_W) (wc : va_W) (SS WC WR : List va_W) : Prop := ws = cat SS ∧ wc = cat WC ∧ (WC ++ WR).Perm SS
theorem segOk {ws wc : va_W} {SS WC WR : List va_W} (is : List Nat) (h1 : ws = cat SS) (h2 : wc = cat WC) (h3 : is.map (fun i => SS[i]?) = (WC ++ WR).map some) (h4 : isOk is SS.length = true) : SegOk ws wc SS WC WR := ⟨h1, h2, perm_idx h3 (isOk_perm h4)⟩
theorem SegOk.p {ws wc : va_W} {SS WC WR : List va_W} (h : SegOk ws wc SS WC WR) : ws.Perm (wc ++ cat WR) := by
  obtain ⟨rfl, rfl, h3⟩ := h
  exact (cat_perm h3.symm).trans (cat_app WC WR)
theorem SegOk.p' {ws wc : va_W} {SS WC WR : List va_W} (h : SegOk ws wc SS WC WR) : (cat WR ++ wc).Perm ws := (List.perm_append_comm.trans h.p.symm)
theorem r_callV2 {S : Type} {post : Option Value → S → Prop} {wc : va_W} {wc' : S → va_W} {y : MethodName} {b' : ByteArray} {n' np ix mc ms q ci : Nat} {ret' : Option FieldType} {rm' : Room} {As stk : List Value} {fs : List Value} {T : u_T} {N : Nat} (ws' : S → va_W) (SS WC WR : List va_W) (SS' WC' : S → List va_W)
    (hM : Mt l D tys y b' n' ret' rm' (.ref q :: As) wc S post wc' mc ms) (hkv : LkV y b' n' ret' np) (hkm : LkM own ix y) (hd : decode cc pc = .ok (.invokevirtual ix, 3)) (hnp : As.length = np) (hrm : RmOk R rm' n' mc ms k n = true)
    (hrv : wc[0]? = some (q, .inr (ci, fs))) (hcl : vwCl[ci]? = some (y.cls, T, N))
    (hs : SegOk ws wc SS WC WR) (hs' : ∀ u, SegOk (ws' u) (wc' u) (SS' u) (WC' u) WR)
    (hst : stk = As.reverse ++ .ref q :: st) (hsum : (st.map fun v => v.category).sum ≤ 8)
    (kk : ∀ (v : Option Value) (u : S), post v u → G l X R cc own ret D tys A Q (k + mc) (n + ms) (ws' u) (pc + 3) lv (v.toList ++ st)) : G l X R cc own ret D tys A Q k n ws pc lv stk := by
  obtain ⟨p, e, s, m, args, below, meth, c⟩ := X
  intro F H locs ls hP hD hS hl
  have hPc : va_P D vwCl wc H := P_mem.mpr (fun q hq => P_mem.mp (hP.perm hs.p) q (List.mem_append_left _ hq))
  have hDc : va_D A wc := by
    obtain ⟨h1, h2⟩ := D_mem.mp (hD.perm hs.p)
    exact D_mem.mpr ⟨(List.pairwise_append.mp h1).1, fun q hq => h2 q (List.mem_append_left _ hq)⟩
  have hK := F.2.2.2.2
  have hts := F.1.2.2.2.2
  obtain ⟨r1, r2, r3, r4, r5, r6⟩ := RmOk.of hrm
  obtain ⟨⟨h1, h2, h3, h4, h5⟩, hin, hsel⟩ := hkv
  have pre : PreV s H y.cls q (PcX D tys (.ref q :: As) wc H.size) As := ⟨pc_blind, va_recv hK hPc (q0 := 0) hcl hrv, fun U hU hW => ⟨rfl, by rw [hU], by rw [hU]; exact hPc, va_K.moved hW.alike hK, hDc.weaken (fun _ _ _ _ => trivial)⟩⟩
  refine run_fin2 (a := (.ref q :: As).toArray) (wc := wc) (wc' := wc') ws' F hP hD hS hl hs.p (fun u => (hs' u).p') ?_ kk
  rcases hkm with hkm | ⟨host, hkm⟩
  · exact va_runV F.1 (hM H.size) ⟨⟨r1, r2, r3, r4, pay_y hts h1, List.mem_cons_self, hts _ h1, hts _ h2, ⟨h3, h4⟩, np_of h5, hts _ hkm⟩, hts _ hin, hts _ hsel⟩ pre rfl hnp hl.1 hst (lv_room hsum) hd ⟨r5, r6⟩
  · exact va_runVN F.1 (hM H.size) ⟨⟨⟨r1, r2, r3, r4, pay_y hts h1, List.mem_cons_self⟩, hts _ h1, hts _ h2, ⟨h3, h4⟩, np_of h5, hts _ hkm⟩, hts _ hin, hts _ hsel⟩ pre rfl hnp hl.1 hst (lv_room hsum) hd ⟨r5, r6⟩
theorem r_callS2 {S : Type} {post : Option Value → S → Prop} {wc : va_W} {wc' : S → va_W} {y : MethodName} {b' : ByteArray} {n' np ix mc ms : Nat} {ret' : Option FieldType} {rm' : Room} {As stk : List Value} (ws' : S → va_W) (SS WC WR : List va_W) (SS' WC' : S → List va_W)
    (hM : Mt l D tys y b' n' ret' rm' As wc S post wc' mc ms) (hkv : LkS y b' n' ret' np) (hkm : LkM own ix y) (hd : decode cc pc = .ok (.invokestatic ix, 3)) (hnp : As.length = np) (hrm : RmOk R rm' n' mc ms k n = true)
    (hs : SegOk ws wc SS WC WR) (hs' : ∀ u, SegOk (ws' u) (wc' u) (SS' u) (WC' u) WR)
    (hst : stk = As.reverse ++ st) (hsum : (st.map fun v => v.category).sum ≤ 8)
    (kk : ∀ (v : Option Value) (u : S), post v u → G l X R cc own ret D tys A Q (k + mc) (n + ms) (ws' u) (pc + 3) lv (v.toList ++ st)) : G l X R cc own ret D tys A Q k n ws pc lv stk := by
  obtain ⟨p, e, s, m, args, below, meth, c⟩ := X
  intro F H locs ls hP hD hS hl
  have hPc : va_P D vwCl wc H := P_mem.mpr (fun q hq => P_mem.mp (hP.perm hs.p) q (List.mem_append_left _ hq))
  have hDc : va_D A wc := by
    obtain ⟨h1, h2⟩ := D_mem.mp (hD.perm hs.p)
    exact D_mem.mpr ⟨(List.pairwise_append.mp h1).1, fun q hq => h2 q (List.mem_append_left _ hq)⟩
  have hK := F.2.2.2.2
  have hts := F.1.2.2.2.2
  obtain ⟨r1, r2, r3, r4, r5, r6⟩ := RmOk.of hrm
  obtain ⟨⟨h1, h2, h3, h4, h5⟩, hstt⟩ := hkv
  have pre : PreS s H (PcX D tys As wc H.size) As := ⟨pc_blind, fun U hU hW => ⟨rfl, by rw [hU], by rw [hU]; exact hPc, va_K.moved hW.alike hK, hDc.weaken (fun _ _ _ _ => trivial)⟩⟩
  refine run_fin2 (a := As.toArray) (wc := wc) (wc' := wc') ws' F hP hD hS hl hs.p (fun u => (hs' u).p') ?_ kk
  rcases hkm with hkm | ⟨host, hkm⟩
  · exact va_runS F.1 (hM H.size) ⟨⟨r1, r2, r3, r4, pay_y hts h1, List.mem_cons_self, hts _ h1, hts _ h2, ⟨h3, h4⟩, np_of h5, hts _ hkm⟩, hts _ hstt⟩ pre rfl hnp hl.1 hst (lv_room hsum) hd ⟨r5, r6⟩
  · exact va_runSN F.1 (hM H.size) ⟨⟨⟨r1, r2, r3, r4, pay_y hts h1, List.mem_cons_self⟩, hts _ h1, hts _ h2, ⟨h3, h4⟩, np_of h5, hts _ hkm⟩, hts _ hstt, trivial⟩ pre rfl hnp hl.1 hst (lv_room hsum) hd ⟨r5, r6⟩
theorem r_callI2 {S : Type} {post : Option Value → S → Prop} {wc : va_W} {wc' : S → va_W} {y : MethodName} {b' : ByteArray} {n' np ix mc ms q : Nat} {rm' : Room} {As stk : List Value} (ws' : S → va_W) (SS WC WR : List va_W) (SS' WC' : S → List va_W)
    (hM : Mt l D tys y b' n' none rm' (.ref q :: As) wc S post wc' mc ms) (hkv : LkI y b' n' np) (hkm : LkM own ix y) (hd : decode cc pc = .ok (.invokespecial ix, 3)) (hnp : As.length = np) (hrm : RmOk R rm' n' mc ms k n = true)
    (hs : SegOk ws wc SS WC WR) (hs' : ∀ u, SegOk (ws' u) (wc' u) (SS' u) (WC' u) WR)
    (hst : stk = As.reverse ++ .ref q :: st) (hsum : (st.map fun v => v.category).sum ≤ 8)
    (kk : ∀ (v : Option Value) (u : S), post v u → G l X R cc own ret D tys A Q (k + mc) (n + ms) (ws' u) (pc + 3) lv (v.toList ++ st)) : G l X R cc own ret D tys A Q k n ws pc lv stk := by
  obtain ⟨p, e, s, m, args, below, meth, c⟩ := X
  intro F H locs ls hP hD hS hl
  have hPc : va_P D vwCl wc H := P_mem.mpr (fun q hq => P_mem.mp (hP.perm hs.p) q (List.mem_append_left _ hq))
  have hDc : va_D A wc := by
    obtain ⟨h1, h2⟩ := D_mem.mp (hD.perm hs.p)
    exact D_mem.mpr ⟨(List.pairwise_append.mp h1).1, fun q hq => h2 q (List.mem_append_left _ hq)⟩
  have hK := F.2.2.2.2
  have hts := F.1.2.2.2.2
  obtain ⟨r1, r2, r3, r4, r5, r6⟩ := RmOk.of hrm
  obtain ⟨⟨h1, h2, h3, h4, h5⟩, hin, hy1⟩ := hkv
  have pre : PreS s H (PcX D tys (.ref q :: As) wc H.size) (.ref q :: As) := ⟨pc_blind, fun U hU hW => ⟨rfl, by rw [hU], by rw [hU]; exact hPc, va_K.moved hW.alike hK, hDc.weaken (fun _ _ _ _ => trivial)⟩⟩
  refine run_fin2 (a := (.ref q :: As).toArray) (wc := wc) (wc' := wc') ws' F hP hD hS hl hs.p (fun u => (hs' u).p') ?_ kk
  rcases hkm with hkm | ⟨host, hkm⟩
  · exact va_runI F.1 (hM H.size) ⟨⟨r1, r2, r3, r4, pay_y hts h1, List.mem_cons_self, hts _ h1, hts _ h2, ⟨h3, h4⟩, np_of h5, hts _ hkm⟩, hy1, hts _ hin⟩ pre rfl hnp hl.1 hst (lv_room hsum) hd ⟨r5, r6⟩
  · exact va_runIN F.1 (hM H.size) ⟨⟨⟨r1, r2, r3, r4, pay_y hts h1, List.mem_cons_self⟩, hts _ h1, hts _ h2, ⟨h3, h4⟩, np_of h5, hts _ hkm⟩, hy1, hts _ hin⟩ pre rfl hnp hl.1 hst (lv_room hsum) hd ⟨r5, r6⟩
theorem r_perm2 {ws' : va_W} {SS SS' : List va_W} (is : List Nat) (h1 : ws = cat SS) (h2 : ws' = cat SS') (h3 : is.map (fun i => SS[i]?) = SS'.map some) (h4 : isOk is SS.length = true) (kk : G l X R cc own ret D tys A Q k n ws' pc lv st) : G l X R cc own ret D tys A Q k n ws pc lv st := by
  obtain ⟨p, e, s, m, args, below, meth, c⟩ := X
  intro F H locs ls hP hD hS hl
  subst h1; subst h2
  have hp := cat_perm (perm_idx h3 (isOk_perm h4)).symm
  exact kk F H locs ls (hP.perm hp) (hD.perm hp) hS hl
end GS
