/-- a contract's end: the answer v and the state u are such that post; the cells are then w' u; nothing else changed -/
def Qc (D : va_G) (tys : List (ClassId × FieldType)) (w : va_W) (sz : Nat) (S : Type) (post : Option Value → S → Prop) (w' : S → va_W) : Array Value → State → Outcome → State → Prop := fun _ st oc t => (∃ (v : Option Value) (u : S), oc = .returned v ∧ post v u ∧ va_P D vwCl (w' u) t.heap ∧ va_K D vwCl tys t ∧ va_D (va_A w sz) (w' u)) ∧ va_F (va_A w sz) st t
def QX (X : Cx) (D : va_G) (tys : List (ClassId × FieldType)) (w : va_W) (sz : Nat) (S : Type) (post : Option Value → S → Prop) (w' : S → va_W) (mc ms : Nat) : State → Prop := match X with
  | (_, _, s, _, args, below, _, _) => MQ below (Qc D tys w sz S post w') args s mc ms (va_A w sz)
def PcX (D : va_G) (tys : List (ClassId × FieldType)) (av : List Value) (w : va_W) (sz : Nat) : Array Value → State → Prop := va_Pc av (fun U => U.heap.size = sz ∧ va_P D vwCl w U.heap ∧ va_K D vwCl tys U ∧ va_D (fun _ => True) w)
theorem pc_blind {D : va_G} {tys : List (ClassId × FieldType)} {av : List Value} {w : va_W} {sz : Nat} : FrameBlind (PcX D tys av w sz) := fun a U g mk q => by
  obtain ⟨q0, q1, qP, qK, qD⟩ := q
  exact ⟨q0, q1, qP, va_K.moved (u := U) (U := U.calling g mk a) (Vm.Alike.refl U.vm) qK, qD⟩
/-- a method's contract: called with av over the cells w -/
def Mt (l : Launch) (D : va_G) (tys : List (ClassId × FieldType)) (y : MethodName) (b : ByteArray) (n : Nat) (ret : Option FieldType) (rm : Room) (av : List Value) (w : va_W) (S : Type) (post : Option Value → S → Prop) (w' : S → va_W) (mc ms : Nat) : Prop :=
  ∀ sz : Nat, Met l y (Cond.code y b n ret :: TB) rm (PcX D tys av w sz) (Qc D tys w sz S post w') mc ms (va_A w sz)
theorem lv_args_mem : ∀ (av : List Value), (∀ v ∈ av, v.category = 1) → ∀ (k j i : Nat) (v : Value), (av.map some ++ List.replicate k (none : Option Value))[i]? = some (some v) → (j + i, v) ∈ lv_args j av
  | [], _, k, j, i, v, h => by
    simp [List.getElem?_replicate] at h
  | a :: av, hc, k, j, i, v, h => by
    have ha : a.category = 1 := hc a List.mem_cons_self
    cases i with
    | zero =>
      simp at h
      subst h
      exact List.mem_cons_self
    | succ i =>
      have h2 : (av.map some ++ List.replicate k (none : Option Value))[i]? = some (some v) := by simpa using h
      have h3 := lv_args_mem av (fun v hv => hc v (List.mem_cons_of_mem _ hv)) k (j + 1) i v h2
      have e : lv_args j (a :: av) = (j, a) :: lv_args (j + 1) av := by simp [lv_args, ha]
      rw [e, show j + (i + 1) = j + 1 + i by omega]
      exact List.mem_cons_of_mem _ h3
theorem mt_of {l : Launch} {D : va_G} {tys : List (ClassId × FieldType)} {y : MethodName} {b : ByteArray} {n : Nat} {ret : Option FieldType} {rm : Room} {av : List Value} {w : va_W} {S : Type} {post : Option Value → S → Prop} {w' : S → va_W} {mc ms : Nat} (lv : Lv)
    (hy : plainName y.cls = true) (hc : ∀ v ∈ av, v.category = 1) (hle : (lg_sl av).length ≤ n) (hlv : av.map some ++ List.replicate (n - av.length) none = lv) (hn : lv.length = n)
    (body : ∀ (X : Cx) (sz : Nat), G l X rm b y.cls ret D tys (va_A w sz) (QX X D tys w sz S post w' mc ms) 0 0 w 0 lv []) : Mt l D tys y b n ret rm av w S post w' mc ms := by
  intro sz
  refine Met.ofW (cc := b) (maxL := n) (ret := ret) hy rfl ?_
  intro p e s m args below meth c s₁ B hml hv
  obtain ⟨rfl, hsz, hP, hK, hD0⟩ := hv
  subst hsz
  have hts := atoms_spec (ws := Cond.code y b n ret :: TB) B.pre
  have hle2 := lv_entry av hle
  rw [lg_entry_eq]
  refine body (p, e, s, m, av.toArray, below, meth, c) s.heap.size ⟨⟨B.exec, B.bytes, hml.trans hn.symm, findClass_of_methodNamed B.named, fun w hw => hts w (List.mem_cons_of_mem _ hw)⟩, B.returns, B.notSynchronized, fun q h => Or.inr h, hK⟩ s.heap [] _ hP (hD0.self (sz := s.heap.size)) va_S.rf ⟨hle2.1.trans hn.symm, hle2.2.1, fun i v hi => ?_⟩
  rw [← hlv] at hi
  have h := lv_args_mem av hc _ 0 i v hi
  rw [Nat.zero_add] at h
  exact hle2.2.2 (i, v) h
/-- the cells at some places -/
abbrev pick (ws : va_W) (is : List Nat) : va_W := is.filterMap (fun i => ws[i]?)
theorem fm_of_map {ws ws' : va_W} {is : List Nat} (h : is.map (fun i => ws[i]?) = ws'.map some) : is.filterMap (fun i => ws[i]?) = ws' := by
  have e : is.filterMap (fun i => ws[i]?) = (is.map (fun i => ws[i]?)).filterMap id := by rw [List.filterMap_map]; rfl
  rw [e, h, List.filterMap_map]
  simp
section GC
variable {l : Launch} {X : Cx} {R : Room} {cc : ByteArray} {own : String} {ret : Option FieldType} {D : va_G} {tys : List (ClassId × FieldType)} {A : Nat → Prop} {Q : State → Prop} {k n : Nat} {ws : va_W} {pc : Nat} {lv : Lv} {st : List Value}
theorem r_iret {S : Type} {post : Option Value → S → Prop} {w' : S → va_W} {w : va_W} {sz : Nat} {v : Int32} (u : S) (hd : decode cc pc = .ok (.ireturn, 1)) (hp : post (some (.int v)) u) (hw : ws = w' u) : G l X R cc own (some .int) D tys (va_A w sz) (QX X D tys w sz S post w' k n) k n ws pc lv [.int v] := by
  obtain ⟨p, e, s, m, args, below, meth, c⟩ := X
  intro F H locs ls hP hD hS hl
  subst hw
  exact W.iret F.1.1 F.1.2.1 F.2.1 (fun t ht hW => ⟨⟨_, u, rfl, hp, by rw [ht]; exact hP, va_K.moved hW.alike F.2.2.2.2, hD⟩, hS.F ht⟩) hS.2.2 hd F.2.2.1
theorem r_zret {S : Type} {post : Option Value → S → Prop} {w' : S → va_W} {w : va_W} {sz : Nat} {v : Int32} (u : S) (hn : narrow .boolean (.int v) = .int v) (hd : decode cc pc = .ok (.ireturn, 1)) (hp : post (some (.int v)) u) (hw : ws = w' u) : G l X R cc own (some .boolean) D tys (va_A w sz) (QX X D tys w sz S post w' k n) k n ws pc lv [.int v] := by
  obtain ⟨p, e, s, m, args, below, meth, c⟩ := X
  intro F H locs ls hP hD hS hl
  subst hw
  exact W.zret F.1.1 F.1.2.1 F.2.1 hn (fun t ht hW => ⟨⟨_, u, rfl, hp, by rw [ht]; exact hP, va_K.moved hW.alike F.2.2.2.2, hD⟩, hS.F ht⟩) hS.2.2 hd F.2.2.1
theorem r_lret {S : Type} {post : Option Value → S → Prop} {w' : S → va_W} {w : va_W} {sz : Nat} {v : Int64} (u : S) (hd : decode cc pc = .ok (.lreturn, 1)) (hp : post (some (.long v)) u) (hw : ws = w' u) : G l X R cc own (some .long) D tys (va_A w sz) (QX X D tys w sz S post w' k n) k n ws pc lv [.long v] := by
  obtain ⟨p, e, s, m, args, below, meth, c⟩ := X
  intro F H locs ls hP hD hS hl
  subst hw
  exact W.lret F.1.1 F.1.2.1 F.2.1 (fun t ht hW => ⟨⟨_, u, rfl, hp, by rw [ht]; exact hP, va_K.moved hW.alike F.2.2.2.2, hD⟩, hS.F ht⟩) hS.2.2 hd F.2.2.1
theorem r_vret {S : Type} {post : Option Value → S → Prop} {w' : S → va_W} {w : va_W} {sz : Nat} (u : S) (hd : decode cc pc = .ok (.return_, 1)) (hp : post none u) (hw : ws = w' u) : G l X R cc own none D tys (va_A w sz) (QX X D tys w sz S post w' k n) k n ws pc lv [] := by
  obtain ⟨p, e, s, m, args, below, meth, c⟩ := X
  intro F H locs ls hP hD hS hl
  subst hw
  exact W.vret F.1.1 F.1.2.1 F.2.1 (fun t ht hW => ⟨⟨_, u, rfl, hp, by rw [ht]; exact hP, va_K.moved hW.alike F.2.2.2.2, hD⟩, hS.F ht⟩) hS.2.2 hd F.2.2.1
/-- behind a call -/
theorem run_fin {p : Program} {e : Env} {s : State} {m : MethodId} {args : Array Value} {below : List Frame} {meth : Method} {c : Code} {H : Heap} {locs : List Loc} {ls : Array Slot} {stk : List Value} {S : Type} {post : Option Value → S → Prop} {wc wr : va_W} {wc' : S → va_W} {a : Array Value} {mc ms : Nat} (isC isR : List Nat) (ws' : S → va_W) (isP : List Nat)
    (F : Fx (p, e, s, m, args, below, meth, c) cc lv.length own ret D tys A) (hP : va_P D vwCl ws H) (hD : va_D A ws) (hS : va_S A s.heap H locs) (hl : lh ls lv)
    (hC : isC.map (fun i => ws[i]?) = wc.map some) (hRr : isR.map (fun i => ws[i]?) = wr.map some) (hnR : va_nd isR = true) (hdis : ∀ i ∈ isR, i ∉ isC) (hPm : ∀ u, isP.map (fun i => (wr ++ wc' u)[i]?) = (ws' u).map some) (hPn : va_nd isP = true)
    (hrun : va_Run p l e R s m args below meth c H locs k n mc ms (F0 m pc ls stk) st (Qc D tys wc H.size S post wc' a) (va_A wc H.size))
    (kk : ∀ (v : Option Value) (u : S), post v u → G l (p, e, s, m, args, below, meth, c) R cc own ret D tys A Q (k + mc) (n + ms) (ws' u) (pc + 3) lv (v.toList ++ st)) : W p l e R s m args below meth c H locs k n Q (F0 m pc ls stk) := by
  intro T hT XX
  have hFc := va_free (wc := wc) hD hS F.2.2.2.1 isC hC
  obtain ⟨v, st₀, t, T', L, h0, X', hL, e1, e2, ⟨⟨v2, u, hv, hp, hB1, hB2, hB3⟩, hz, hk⟩, stp⟩ := hrun T hT XX
  cases hv
  rw [h0] at hz hk
  have j := va_join hP hD isC isR hC hRr hnR hdis (H1 := T'.heap) (fun q h1 h2 => by rw [e1]; exact hk q h1 h2) hFc (by rw [e1]; exact hB1) hB3
  obtain ⟨t2, a1, b1⟩ := kk v u hp F T'.heap (locs ++ L) ls (j.1.sub isP (fm_of_map (hPm u))) (j.2.sub isP hPn (hPm u))
    ⟨Nat.le_trans hS.1 (by rw [e1]; exact hz), fun q h1 h2 => by rw [e1, hk q (Nat.lt_of_lt_of_le h1 hS.1) (fun z => h2 (hFc q z))]; exact hS.2.1 q h1 h2, fun q hq => by
      rcases List.mem_append.mp hq with h | h
      · exact hS.2.2 q h
      · exact hFc _ (hL q h)⟩ hl T' rfl X'
  exact ⟨t2, stp t2 a1, b1⟩
theorem pay_y {args : Array Value} {s : State} (hts : ∀ w ∈ TB, w.before args s = true) {y : MethodName} {b : ByteArray} {n : Nat} {ret : Option FieldType} (h : Cond.code y b n ret ∈ TB) : ∀ w ∈ Cond.code y b n ret :: TB, ∀ (a' : Array Value) (U : State), s.WarmedH U.vm → w.before a' U = true := by
  intro w hw
  rcases List.mem_cons.mp hw with h1 | h1
  · subst h1; exact TB_pay hts _ h
  · exact TB_pay hts _ h1
theorem np_of {y : MethodName} {np : Nat} (h : (parseMethodDescriptor y.desc).map (fun d => d.parameters.length) = some np) : ∀ sig, parseMethodDescriptor y.desc = some sig → np = sig.parameters.length := fun sig h1 => by
  rw [h1] at h
  exact (Option.some.inj h).symm
/-- what a call's room asks -/
def RmOk (R rm : Room) (n' mc ms k n : Nat) : Bool := (rm.cells == mc && rm.slots == ms) && (Nat.ble (rm.frames + 1) R.frames && Nat.ble (8 + (n' + 11) + rm.locals) R.locals) && (Nat.ble (k + mc) R.cells && Nat.ble (n + ms) R.slots)
theorem RmOk.of {R rm : Room} {n' mc ms k n : Nat} (h : RmOk R rm n' mc ms k n = true) : rm.cells = mc ∧ rm.slots = ms ∧ rm.frames + 1 ≤ R.frames ∧ 8 + (n' + 11) + rm.locals ≤ R.locals ∧ k + mc ≤ R.cells ∧ n + ms ≤ R.slots := by
  unfold RmOk at h
  simp only [Bool.and_eq_true, beq_iff_eq] at h
  obtain ⟨⟨⟨h1, h2⟩, h3, h4⟩, h5, h6⟩ := h
  exact ⟨h1, h2, Nat.le_of_ble_eq_true h3, Nat.le_of_ble_eq_true h4, Nat.le_of_ble_eq_true h5, Nat.le_of_ble_eq_true h6⟩
theorem r_callV {S : Type} {post : Option Value → S → Prop} {wc : va_W} {wc' : S → va_W} {y : MethodName} {b' : ByteArray} {n' np ix mc ms q ci : Nat} {ret' : Option FieldType} {rm' : Room} {As stk : List Value} {fs : List Value} {T : u_T} {N : Nat} (isC isR : List Nat) (ws' : S → va_W) (isP : List Nat)
    (hM : Mt l D tys y b' n' ret' rm' (.ref q :: As) wc S post wc' mc ms) (hkv : LkV y b' n' ret' np) (hkm : LkM own ix y) (hd : decode cc pc = .ok (.invokevirtual ix, 3)) (hnp : As.length = np) (hrm : RmOk R rm' n' mc ms k n = true)
    (hrv : wc[0]? = some (q, .inr (ci, fs))) (hcl : vwCl[ci]? = some (y.cls, T, N))
    (hC : isC.map (fun i => ws[i]?) = wc.map some) (hRr : isR.map (fun i => ws[i]?) = (pick ws isR).map some) (hnC : va_nd isC = true) (hnR : va_nd isR = true) (hdis : ∀ i ∈ isR, i ∉ isC) (hPm : ∀ u, isP.map (fun i => (pick ws isR ++ wc' u)[i]?) = (ws' u).map some) (hPn : va_nd isP = true)
    (hst : stk = As.reverse ++ .ref q :: st) (hsum : (st.map fun v => v.category).sum ≤ 8)
    (kk : ∀ (v : Option Value) (u : S), post v u → G l X R cc own ret D tys A Q (k + mc) (n + ms) (ws' u) (pc + 3) lv (v.toList ++ st)) : G l X R cc own ret D tys A Q k n ws pc lv stk := by
  obtain ⟨p, e, s, m, args, below, meth, c⟩ := X
  intro F H locs ls hP hD hS hl
  have hPc := hP.sub isC (fm_of_map hC)
  have hDc := hD.sub isC hnC hC
  have hK := F.2.2.2.2
  have hts := F.1.2.2.2.2
  obtain ⟨r1, r2, r3, r4, r5, r6⟩ := RmOk.of hrm
  obtain ⟨⟨h1, h2, h3, h4, h5⟩, hin, hsel⟩ := hkv
  have pre : PreV s H y.cls q (PcX D tys (.ref q :: As) wc H.size) As := ⟨pc_blind, va_recv hK hPc (q0 := 0) hcl hrv, fun U hU hW => ⟨rfl, by rw [hU], by rw [hU]; exact hPc, va_K.moved hW.alike hK, hDc.weaken (fun _ _ _ _ => trivial)⟩⟩
  refine run_fin (a := (.ref q :: As).toArray) (wc := wc) (wc' := wc') isC isR ws' isP F hP hD hS hl hC hRr hnR hdis hPm hPn ?_ kk
  rcases hkm with hkm | ⟨host, hkm⟩
  · exact va_runV F.1 (hM H.size) ⟨⟨r1, r2, r3, r4, pay_y hts h1, List.mem_cons_self, hts _ h1, hts _ h2, ⟨h3, h4⟩, np_of h5, hts _ hkm⟩, hts _ hin, hts _ hsel⟩ pre rfl hnp hl.1 hst (lv_room hsum) hd ⟨r5, r6⟩
  · exact va_runVN F.1 (hM H.size) ⟨⟨⟨r1, r2, r3, r4, pay_y hts h1, List.mem_cons_self⟩, hts _ h1, hts _ h2, ⟨h3, h4⟩, np_of h5, hts _ hkm⟩, hts _ hin, hts _ hsel⟩ pre rfl hnp hl.1 hst (lv_room hsum) hd ⟨r5, r6⟩
theorem r_callS {S : Type} {post : Option Value → S → Prop} {wc : va_W} {wc' : S → va_W} {y : MethodName} {b' : ByteArray} {n' np ix mc ms : Nat} {ret' : Option FieldType} {rm' : Room} {As stk : List Value} (isC isR : List Nat) (ws' : S → va_W) (isP : List Nat)
    (hM : Mt l D tys y b' n' ret' rm' As wc S post wc' mc ms) (hkv : LkS y b' n' ret' np) (hkm : LkM own ix y) (hd : decode cc pc = .ok (.invokestatic ix, 3)) (hnp : As.length = np) (hrm : RmOk R rm' n' mc ms k n = true)
    (hC : isC.map (fun i => ws[i]?) = wc.map some) (hRr : isR.map (fun i => ws[i]?) = (pick ws isR).map some) (hnC : va_nd isC = true) (hnR : va_nd isR = true) (hdis : ∀ i ∈ isR, i ∉ isC) (hPm : ∀ u, isP.map (fun i => (pick ws isR ++ wc' u)[i]?) = (ws' u).map some) (hPn : va_nd isP = true)
    (hst : stk = As.reverse ++ st) (hsum : (st.map fun v => v.category).sum ≤ 8)
    (kk : ∀ (v : Option Value) (u : S), post v u → G l X R cc own ret D tys A Q (k + mc) (n + ms) (ws' u) (pc + 3) lv (v.toList ++ st)) : G l X R cc own ret D tys A Q k n ws pc lv stk := by
  obtain ⟨p, e, s, m, args, below, meth, c⟩ := X
  intro F H locs ls hP hD hS hl
  have hPc := hP.sub isC (fm_of_map hC)
  have hDc := hD.sub isC hnC hC
  have hK := F.2.2.2.2
  have hts := F.1.2.2.2.2
  obtain ⟨r1, r2, r3, r4, r5, r6⟩ := RmOk.of hrm
  obtain ⟨⟨h1, h2, h3, h4, h5⟩, hstt⟩ := hkv
  have pre : PreS s H (PcX D tys As wc H.size) As := ⟨pc_blind, fun U hU hW => ⟨rfl, by rw [hU], by rw [hU]; exact hPc, va_K.moved hW.alike hK, hDc.weaken (fun _ _ _ _ => trivial)⟩⟩
  refine run_fin (a := As.toArray) (wc := wc) (wc' := wc') isC isR ws' isP F hP hD hS hl hC hRr hnR hdis hPm hPn ?_ kk
  rcases hkm with hkm | ⟨host, hkm⟩
  · exact va_runS F.1 (hM H.size) ⟨⟨r1, r2, r3, r4, pay_y hts h1, List.mem_cons_self, hts _ h1, hts _ h2, ⟨h3, h4⟩, np_of h5, hts _ hkm⟩, hts _ hstt⟩ pre rfl hnp hl.1 hst (lv_room hsum) hd ⟨r5, r6⟩
  · exact va_runSN F.1 (hM H.size) ⟨⟨⟨r1, r2, r3, r4, pay_y hts h1, List.mem_cons_self⟩, hts _ h1, hts _ h2, ⟨h3, h4⟩, np_of h5, hts _ hkm⟩, hts _ hstt, trivial⟩ pre rfl hnp hl.1 hst (lv_room hsum) hd ⟨r5, r6⟩
theorem r_callI {S : Type} {post : Option Value → S → Prop} {wc : va_W} {wc' : S → va_W} {y : MethodName} {b' : ByteArray} {n' np ix mc ms q : Nat} {rm' : Room} {As stk : List Value} (isC isR : List Nat) (ws' : S → va_W) (isP : List Nat)
    (hM : Mt l D tys y b' n' none rm' (.ref q :: As) wc S post wc' mc ms) (hkv : LkI y b' n' np) (hkm : LkM own ix y) (hd : decode cc pc = .ok (.invokespecial ix, 3)) (hnp : As.length = np) (hrm : RmOk R rm' n' mc ms k n = true)
    (hC : isC.map (fun i => ws[i]?) = wc.map some) (hRr : isR.map (fun i => ws[i]?) = (pick ws isR).map some) (hnC : va_nd isC = true) (hnR : va_nd isR = true) (hdis : ∀ i ∈ isR, i ∉ isC) (hPm : ∀ u, isP.map (fun i => (pick ws isR ++ wc' u)[i]?) = (ws' u).map some) (hPn : va_nd isP = true)
    (hst : stk = As.reverse ++ .ref q :: st) (hsum : (st.map fun v => v.category).sum ≤ 8)
    (kk : ∀ (v : Option Value) (u : S), post v u → G l X R cc own ret D tys A Q (k + mc) (n + ms) (ws' u) (pc + 3) lv (v.toList ++ st)) : G l X R cc own ret D tys A Q k n ws pc lv stk := by
  obtain ⟨p, e, s, m, args, below, meth, c⟩ := X
  intro F H locs ls hP hD hS hl
  have hPc := hP.sub isC (fm_of_map hC)
  have hDc := hD.sub isC hnC hC
  have hK := F.2.2.2.2
  have hts := F.1.2.2.2.2
  obtain ⟨r1, r2, r3, r4, r5, r6⟩ := RmOk.of hrm
  obtain ⟨⟨h1, h2, h3, h4, h5⟩, hin, hy1⟩ := hkv
  have pre : PreS s H (PcX D tys (.ref q :: As) wc H.size) (.ref q :: As) := ⟨pc_blind, fun U hU hW => ⟨rfl, by rw [hU], by rw [hU]; exact hPc, va_K.moved hW.alike hK, hDc.weaken (fun _ _ _ _ => trivial)⟩⟩
  refine run_fin (a := (.ref q :: As).toArray) (wc := wc) (wc' := wc') isC isR ws' isP F hP hD hS hl hC hRr hnR hdis hPm hPn ?_ kk
  rcases hkm with hkm | ⟨host, hkm⟩
  · exact va_runI F.1 (hM H.size) ⟨⟨r1, r2, r3, r4, pay_y hts h1, List.mem_cons_self, hts _ h1, hts _ h2, ⟨h3, h4⟩, np_of h5, hts _ hkm⟩, hy1, hts _ hin⟩ pre rfl hnp hl.1 hst (lv_room hsum) hd ⟨r5, r6⟩
  · exact va_runIN F.1 (hM H.size) ⟨⟨⟨r1, r2, r3, r4, pay_y hts h1, List.mem_cons_self⟩, hts _ h1, hts _ h2, ⟨h3, h4⟩, np_of h5, hts _ hkm⟩, hy1, hts _ hin⟩ pre rfl hnp hl.1 hst (lv_room hsum) hd ⟨r5, r6⟩
end GC
