/-- locals by their places -/
abbrev Lv : Type := List (Option Value)
def lh (ls : Array Slot) (lv : Lv) : Prop := ls.size = lv.length ∧ lv_wf ls ∧ ∀ (i : Nat) (v : Value), lv[i]? = some (some v) → ls[i]? = some (.val v)
def asc (lv : Lv) : List (Nat × Value) := lv.zipIdx.filterMap (fun q => q.1.map (fun v => (q.2, v)))
theorem asc_mem {lv : Lv} {i : Nat} {v : Value} : (i, v) ∈ asc lv ↔ lv[i]? = some (some v) := by
  unfold asc
  rw [List.mem_filterMap]
  constructor
  · rintro ⟨⟨a, j⟩, h1, h2⟩
    have h3 := List.mem_zipIdx_iff_getElem?.mp h1
    cases a with
    | none => cases h2
    | some w => cases h2; exact h3
  · intro h
    exact ⟨(some v, i), List.mem_zipIdx_iff_getElem?.mpr h, rfl⟩
theorem lh_has {ls : Array Slot} {lv : Lv} (h : lh ls lv) : lv_has ls lv.length (asc lv) := ⟨h.1, h.2.1, fun q hq => h.2.2 q.1 q.2 (asc_mem.mp hq)⟩
def catOk (lv : Lv) (i : Nat) : Bool := match i with
  | 0 => true
  | j + 1 => match lv[j]? with
    | some (some w) => w.category == 1
    | _ => true
theorem lh_set {ls' : Array Slot} {lv : Lv} {i : Nat} {v : Value} (hc : catOk lv i = true) (hi : i < lv.length) (h : lv_has ls' lv.length ((i, v) :: (asc lv).filter (fun q => !(q.1 == i) && !(q.1 + 1 == i && q.2.category == 2)))) : lh ls' (lv.set i (some v)) := by
  refine ⟨by rw [List.length_set]; exact h.1, h.2.1, fun j w hj => ?_⟩
  by_cases e : i = j
  · subst e
    rw [List.getElem?_set_self hi] at hj
    cases hj
    exact h.2.2 (i, v) List.mem_cons_self
  · rw [List.getElem?_set_ne e] at hj
    refine h.2.2 (j, w) (List.mem_cons_of_mem _ (List.mem_filter.mpr ⟨asc_mem.mpr hj, ?_⟩))
    have e1 : (j == i) = false := by simp; exact fun z => e z.symm
    by_cases e2 : j + 1 = i
    · subst e2
      unfold catOk at hc
      simp only [hj] at hc
      have : w.category = 1 := by simpa using hc
      simp [this]
    · simp [e2]
      exact fun z => e z.symm
theorem lh_set2 {ls' : Array Slot} {lv : Lv} {i : Nat} {v : Value} (hc : catOk lv i = true) (hi : i + 1 < lv.length) (h : lv_has ls' lv.length ((i, v) :: (asc lv).filter (fun q => !(q.1 == i) && (!(q.1 == i + 1) && !(q.1 + 1 == i && q.2.category == 2))))) : lh ls' ((lv.set i (some v)).set (i + 1) none) := by
  refine ⟨by rw [List.length_set, List.length_set]; exact h.1, h.2.1, fun j w hj => ?_⟩
  by_cases e0 : i + 1 = j
  · subst e0
    rw [List.getElem?_set_self (by rw [List.length_set]; exact hi)] at hj
    cases hj
  · rw [List.getElem?_set_ne e0] at hj
    by_cases e : i = j
    · subst e
      rw [List.getElem?_set_self (by omega)] at hj
      cases hj
      exact h.2.2 (i, v) List.mem_cons_self
    · rw [List.getElem?_set_ne e] at hj
      refine h.2.2 (j, w) (List.mem_cons_of_mem _ (List.mem_filter.mpr ⟨asc_mem.mpr hj, ?_⟩))
      have e1 : ¬ j = i := fun z => e z.symm
      have e3 : ¬ j = i + 1 := fun z => e0 z.symm
      by_cases e2 : j + 1 = i
      · subst e2
        unfold catOk at hc
        simp only [hj] at hc
        have : w.category = 1 := by simpa using hc
        simp [this]
        omega
      · simp [e2, e1, e3]
/-- what stands fixed while a method's body is walked -/
abbrev Cx : Type := Program × Env × State × MethodId × Array Value × List Frame × Method × Code
def Fx (X : Cx) (cc : ByteArray) (nL : Nat) (own : String) (ret : Option FieldType) (D : va_G) (tys : List (ClassId × FieldType)) (A : Nat → Prop) : Prop := match X with
  | (p, _, s, m, args, _, meth, c) => CallFix p m c cc nL s args TB own ∧ meth.sig.returnType = ret ∧ meth.locks = false ∧ (∀ q, s.heap.size ≤ q → A q) ∧ va_K D vwCl tys s
/-- the machine at a frame: from any heap that holds the cells ws, any locals that hold lv, it comes to Q -/
def G (l : Launch) (X : Cx) (R : Room) (cc : ByteArray) (own : String) (ret : Option FieldType) (D : va_G) (tys : List (ClassId × FieldType)) (A : Nat → Prop) (Q : State → Prop) (k n : Nat) (ws : va_W) (pc : Nat) (lv : Lv) (st : List Value) : Prop := match X with
  | (p, e, s, m, args, below, meth, c) => Fx (p, e, s, m, args, below, meth, c) cc lv.length own ret D tys A → ∀ (H : Heap) (locs : List Loc) (ls : Array Slot), va_P D vwCl ws H → va_D A ws → va_S A s.heap H locs → lh ls lv → W p l e R s m args below meth c H locs k n Q (F0 m pc ls st)
section GR
variable {l : Launch} {X : Cx} {R : Room} {cc : ByteArray} {own : String} {ret : Option FieldType} {D : va_G} {tys : List (ClassId × FieldType)} {A : Nat → Prop} {Q : State → Prop} {k n : Nat} {ws : va_W} {pc : Nat} {lv : Lv} {st : List Value}
theorem r_eq {pc' : Nat} {lv' : Lv} {st' : List Value} {ws' : va_W} (h1 : pc = pc') (h2 : lv = lv') (h3 : st = st') (h4 : ws = ws') (kk : G l X R cc own ret D tys A Q k n ws' pc' lv' st') : G l X R cc own ret D tys A Q k n ws pc lv st := by
  subst h1; subst h2; subst h3; subst h4; exact kk
theorem r_ws {ws' : va_W} (h4 : ws = ws') (kk : G l X R cc own ret D tys A Q k n ws' pc lv st) : G l X R cc own ret D tys A Q k n ws pc lv st := by
  subst h4; exact kk
theorem r_top {x y : Int32} (h : x = y) (kk : G l X R cc own ret D tys A Q k n ws pc lv (.int y :: st)) : G l X R cc own ret D tys A Q k n ws pc lv (.int x :: st) := by
  subst h; exact kk
theorem r_topl {x y : Int64} (h : x = y) (kk : G l X R cc own ret D tys A Q k n ws pc lv (.long y :: st)) : G l X R cc own ret D tys A Q k n ws pc lv (.long x :: st) := by
  subst h; exact kk
theorem r_wide {k' n' : Nat} (h1 : k ≤ k') (h2 : n ≤ n') (kk : G l X R cc own ret D tys A Q k' n' ws pc lv st) : G l X R cc own ret D tys A Q k n ws pc lv st := by
  obtain ⟨p, e, s, m, args, below, meth, c⟩ := X
  intro F H locs ls hP hD hS hl
  exact W.widen h1 h2 (kk F H locs ls hP hD hS hl)

theorem r_iconst {z : Int} (v : Int32) (hd : decode cc pc = .ok (.iconst z, 1)) (hv : Int32.ofInt z = v) (kk : G l X R cc own ret D tys A Q k n ws (pc + 1) lv (.int v :: st)) : G l X R cc own ret D tys A Q k n ws pc lv (st) := by
  obtain ⟨p, e, s, m, args, below, meth, c⟩ := X
  intro F H locs ls hP hD hS hl
  exact lv_iconst F.1.1 F.1.2.1 hd hv (kk F H locs ls hP hD hS hl)
theorem r_bipush {z : Int} (v : Int32) (hd : decode cc pc = .ok (.bipush z, 2)) (hv : (Int8.ofInt z).toInt32 = v) (kk : G l X R cc own ret D tys A Q k n ws (pc + 2) lv (.int v :: st)) : G l X R cc own ret D tys A Q k n ws pc lv (st) := by
  obtain ⟨p, e, s, m, args, below, meth, c⟩ := X
  intro F H locs ls hP hD hS hl
  exact lv_bipush F.1.1 F.1.2.1 hd hv (kk F H locs ls hP hD hS hl)
theorem r_sipush {z : Int} (v : Int32) (hd : decode cc pc = .ok (.sipush z, 3)) (hv : (Int16.ofInt z).toInt32 = v) (kk : G l X R cc own ret D tys A Q k n ws (pc + 3) lv (.int v :: st)) : G l X R cc own ret D tys A Q k n ws pc lv (st) := by
  obtain ⟨p, e, s, m, args, below, meth, c⟩ := X
  intro F H locs ls hP hD hS hl
  exact lv_sipush F.1.1 F.1.2.1 hd hv (kk F H locs ls hP hD hS hl)
theorem r_ldc2 {ix : Nat} {v : Int64} (hc : Cond.constantLong own ix v ∈ TB) (hd : decode cc pc = .ok (.ldc2_w ix, 3)) (kk : G l X R cc own ret D tys A Q k n ws (pc + 3) lv (.long v :: st)) : G l X R cc own ret D tys A Q k n ws pc lv (st) := by
  obtain ⟨p, e, s, m, args, below, meth, c⟩ := X
  intro F H locs ls hP hD hS hl
  exact lv_ldc2 F.1.1 F.1.2.1 F.1.2.2.2.1 (F.1.2.2.2.2 _ hc) hd (kk F H locs ls hP hD hS hl)
theorem r_iload_n {j : Fin 4} {x : Int32} (i : Nat) (hd : decode cc pc = .ok (.iload_n j, 1)) (hj : (j : Nat) = i) (hi : lv[i]? = some (some (.int x))) (kk : G l X R cc own ret D tys A Q k n ws (pc + 1) lv (.int x :: st)) : G l X R cc own ret D tys A Q k n ws pc lv (st) := by
  obtain ⟨p, e, s, m, args, below, meth, c⟩ := X
  intro F H locs ls hP hD hS hl
  exact lv_iload_n F.1.1 F.1.2.1 hd hj (hl.2.2 _ _ hi) (kk F H locs ls hP hD hS hl)
theorem r_iload {x : Int32} {i : Nat} (hd : decode cc pc = .ok (.iload i, 2)) (hi : lv[i]? = some (some (.int x))) (kk : G l X R cc own ret D tys A Q k n ws (pc + 2) lv (.int x :: st)) : G l X R cc own ret D tys A Q k n ws pc lv (st) := by
  obtain ⟨p, e, s, m, args, below, meth, c⟩ := X
  intro F H locs ls hP hD hS hl
  exact lv_iload F.1.1 F.1.2.1 hd (hl.2.2 _ _ hi) (kk F H locs ls hP hD hS hl)
theorem r_aload_n {j : Fin 4} {x : Nat} (i : Nat) (hd : decode cc pc = .ok (.aload_n j, 1)) (hj : (j : Nat) = i) (hi : lv[i]? = some (some (.ref x))) (kk : G l X R cc own ret D tys A Q k n ws (pc + 1) lv (.ref x :: st)) : G l X R cc own ret D tys A Q k n ws pc lv (st) := by
  obtain ⟨p, e, s, m, args, below, meth, c⟩ := X
  intro F H locs ls hP hD hS hl
  exact lv_aload_n F.1.1 F.1.2.1 hd hj (hl.2.2 _ _ hi) (kk F H locs ls hP hD hS hl)
theorem r_aload {x : Nat} {i : Nat} (hd : decode cc pc = .ok (.aload i, 2)) (hi : lv[i]? = some (some (.ref x))) (kk : G l X R cc own ret D tys A Q k n ws (pc + 2) lv (.ref x :: st)) : G l X R cc own ret D tys A Q k n ws pc lv (st) := by
  obtain ⟨p, e, s, m, args, below, meth, c⟩ := X
  intro F H locs ls hP hD hS hl
  exact lv_aload F.1.1 F.1.2.1 hd (hl.2.2 _ _ hi) (kk F H locs ls hP hD hS hl)
theorem r_lload_n {j : Fin 4} {x : Int64} (i : Nat) (hd : decode cc pc = .ok (.lload_n j, 1)) (hj : (j : Nat) = i) (hi : lv[i]? = some (some (.long x))) (kk : G l X R cc own ret D tys A Q k n ws (pc + 1) lv (.long x :: st)) : G l X R cc own ret D tys A Q k n ws pc lv (st) := by
  obtain ⟨p, e, s, m, args, below, meth, c⟩ := X
  intro F H locs ls hP hD hS hl
  exact lv_lload_n F.1.1 F.1.2.1 hd hj (hl.2.2 _ _ hi) (kk F H locs ls hP hD hS hl)
theorem r_lload {x : Int64} {i : Nat} (hd : decode cc pc = .ok (.lload i, 2)) (hi : lv[i]? = some (some (.long x))) (kk : G l X R cc own ret D tys A Q k n ws (pc + 2) lv (.long x :: st)) : G l X R cc own ret D tys A Q k n ws pc lv (st) := by
  obtain ⟨p, e, s, m, args, below, meth, c⟩ := X
  intro F H locs ls hP hD hS hl
  exact lv_lload F.1.1 F.1.2.1 hd (hl.2.2 _ _ hi) (kk F H locs ls hP hD hS hl)
theorem r_istore_n {x : Int32} {j : Fin 4} (i : Nat) (lv' : Lv) (hd : decode cc pc = .ok (.istore_n j, 1)) (hj : (j : Nat) = i) (hi : i < lv.length) (hc : catOk lv i = true) (hs : lv.set i (some (.int x)) = lv') (kk : G l X R cc own ret D tys A Q k n ws (pc + 1) lv' st) : G l X R cc own ret D tys A Q k n ws pc lv (.int x :: st) := by
  obtain ⟨p, e, s, m, args, below, meth, c⟩ := X
  intro F H locs ls hP hD hS hl
  exact lv_istore_n F.1.1 F.1.2.1 hd hj (lh_has hl) hi rfl (fun ls2 hl2 => kk (by rw [← hs, List.length_set]; exact F) H locs ls2 hP hD hS (hs ▸ lh_set hc hi hl2))
theorem r_istore {x : Int32} {i : Nat} (lv' : Lv) (hd : decode cc pc = .ok (.istore i, 2))  (hi : i < lv.length) (hc : catOk lv i = true) (hs : lv.set i (some (.int x)) = lv') (kk : G l X R cc own ret D tys A Q k n ws (pc + 2) lv' st) : G l X R cc own ret D tys A Q k n ws pc lv (.int x :: st) := by
  obtain ⟨p, e, s, m, args, below, meth, c⟩ := X
  intro F H locs ls hP hD hS hl
  exact lv_istore F.1.1 F.1.2.1 hd  (lh_has hl) hi rfl (fun ls2 hl2 => kk (by rw [← hs, List.length_set]; exact F) H locs ls2 hP hD hS (hs ▸ lh_set hc hi hl2))
theorem r_astore_n {x : Nat} {j : Fin 4} (i : Nat) (lv' : Lv) (hd : decode cc pc = .ok (.astore_n j, 1)) (hj : (j : Nat) = i) (hi : i < lv.length) (hc : catOk lv i = true) (hs : lv.set i (some (.ref x)) = lv') (kk : G l X R cc own ret D tys A Q k n ws (pc + 1) lv' st) : G l X R cc own ret D tys A Q k n ws pc lv (.ref x :: st) := by
  obtain ⟨p, e, s, m, args, below, meth, c⟩ := X
  intro F H locs ls hP hD hS hl
  exact lv_astore_n F.1.1 F.1.2.1 hd hj (lh_has hl) hi rfl (fun ls2 hl2 => kk (by rw [← hs, List.length_set]; exact F) H locs ls2 hP hD hS (hs ▸ lh_set hc hi hl2))
theorem r_astore {x : Nat} {i : Nat} (lv' : Lv) (hd : decode cc pc = .ok (.astore i, 2))  (hi : i < lv.length) (hc : catOk lv i = true) (hs : lv.set i (some (.ref x)) = lv') (kk : G l X R cc own ret D tys A Q k n ws (pc + 2) lv' st) : G l X R cc own ret D tys A Q k n ws pc lv (.ref x :: st) := by
  obtain ⟨p, e, s, m, args, below, meth, c⟩ := X
  intro F H locs ls hP hD hS hl
  exact lv_astore F.1.1 F.1.2.1 hd  (lh_has hl) hi rfl (fun ls2 hl2 => kk (by rw [← hs, List.length_set]; exact F) H locs ls2 hP hD hS (hs ▸ lh_set hc hi hl2))
theorem r_lstore_n {x : Int64} {j : Fin 4} (i : Nat) (lv' : Lv) (hd : decode cc pc = .ok (.lstore_n j, 1)) (hj : (j : Nat) = i) (hi : i + 1 < lv.length) (hc : catOk lv i = true) (hs : (lv.set i (some (.long x))).set (i + 1) none = lv') (kk : G l X R cc own ret D tys A Q k n ws (pc + 1) lv' st) : G l X R cc own ret D tys A Q k n ws pc lv (.long x :: st) := by
  obtain ⟨p, e, s, m, args, below, meth, c⟩ := X
  intro F H locs ls hP hD hS hl
  exact lv_lstore_n F.1.1 F.1.2.1 hd hj (lh_has hl) hi rfl (fun ls2 hl2 => kk (by rw [← hs, List.length_set, List.length_set]; exact F) H locs ls2 hP hD hS (hs ▸ lh_set2 hc hi hl2))
theorem r_iinc {x v : Int32} {i : Nat} {z : Int} (lv' : Lv) (hd : decode cc pc = .ok (.iinc i z, 3)) (hx : lv[i]? = some (some (.int x))) (hv : x + Int32.ofInt z = v) (hi : i < lv.length) (hc : catOk lv i = true) (hs : lv.set i (some (.int v)) = lv') (kk : G l X R cc own ret D tys A Q k n ws (pc + 3) lv' st) : G l X R cc own ret D tys A Q k n ws pc lv st := by
  obtain ⟨p, e, s, m, args, below, meth, c⟩ := X
  intro F H locs ls hP hD hS hl
  obtain ⟨q, hq⟩ := List.getElem?_of_mem (asc_mem.mpr hx)
  exact lv_iinc F.1.1 F.1.2.1 hd (lh_has hl) (k := q) hq hv hi rfl (fun ls2 hl2 => kk (by rw [← hs, List.length_set]; exact F) H locs ls2 hP hD hS (hs ▸ lh_set hc hi hl2))
theorem r_iadd {x y : Int32} (hd : decode cc pc = .ok (.iadd, 1)) (kk : G l X R cc own ret D tys A Q k n ws (pc + 1) lv (.int (x + y) :: st)) : G l X R cc own ret D tys A Q k n ws pc lv (.int y :: .int x :: st) := by
  obtain ⟨p, e, s, m, args, below, meth, c⟩ := X
  intro F H locs ls hP hD hS hl
  exact lv_iadd F.1.1 F.1.2.1 hd  (kk F H locs ls hP hD hS hl)
theorem r_isub {x y : Int32} (hd : decode cc pc = .ok (.isub, 1)) (kk : G l X R cc own ret D tys A Q k n ws (pc + 1) lv (.int (x - y) :: st)) : G l X R cc own ret D tys A Q k n ws pc lv (.int y :: .int x :: st) := by
  obtain ⟨p, e, s, m, args, below, meth, c⟩ := X
  intro F H locs ls hP hD hS hl
  exact lv_isub F.1.1 F.1.2.1 hd  (kk F H locs ls hP hD hS hl)
theorem r_imul {x y : Int32} (hd : decode cc pc = .ok (.imul, 1)) (kk : G l X R cc own ret D tys A Q k n ws (pc + 1) lv (.int (x * y) :: st)) : G l X R cc own ret D tys A Q k n ws pc lv (.int y :: .int x :: st) := by
  obtain ⟨p, e, s, m, args, below, meth, c⟩ := X
  intro F H locs ls hP hD hS hl
  exact lv_imul F.1.1 F.1.2.1 hd  (kk F H locs ls hP hD hS hl)
theorem r_iand {x y : Int32} (hd : decode cc pc = .ok (.iand, 1)) (kk : G l X R cc own ret D tys A Q k n ws (pc + 1) lv (.int (x &&& y) :: st)) : G l X R cc own ret D tys A Q k n ws pc lv (.int y :: .int x :: st) := by
  obtain ⟨p, e, s, m, args, below, meth, c⟩ := X
  intro F H locs ls hP hD hS hl
  exact lv_iand F.1.1 F.1.2.1 hd  (kk F H locs ls hP hD hS hl)
theorem r_ishl {x y : Int32} (hd : decode cc pc = .ok (.ishl, 1)) (kk : G l X R cc own ret D tys A Q k n ws (pc + 1) lv (.int (x <<< (y &&& 31)) :: st)) : G l X R cc own ret D tys A Q k n ws pc lv (.int y :: .int x :: st) := by
  obtain ⟨p, e, s, m, args, below, meth, c⟩ := X
  intro F H locs ls hP hD hS hl
  exact lv_ishl F.1.1 F.1.2.1 hd  (kk F H locs ls hP hD hS hl)
theorem r_ishr {x y : Int32} (hd : decode cc pc = .ok (.ishr, 1)) (kk : G l X R cc own ret D tys A Q k n ws (pc + 1) lv (.int (x >>> (y &&& 31)) :: st)) : G l X R cc own ret D tys A Q k n ws pc lv (.int y :: .int x :: st) := by
  obtain ⟨p, e, s, m, args, below, meth, c⟩ := X
  intro F H locs ls hP hD hS hl
  exact lv_ishr F.1.1 F.1.2.1 hd  (kk F H locs ls hP hD hS hl)
theorem r_idiv {x y : Int32} (hy : ¬ y = 0) (hd : decode cc pc = .ok (.idiv, 1)) (kk : G l X R cc own ret D tys A Q k n ws (pc + 1) lv (.int (x / y) :: st)) : G l X R cc own ret D tys A Q k n ws pc lv (.int y :: .int x :: st) := by
  obtain ⟨p, e, s, m, args, below, meth, c⟩ := X
  intro F H locs ls hP hD hS hl
  exact lv_idiv F.1.1 F.1.2.1 hd hy (kk F H locs ls hP hD hS hl)
theorem r_ladd {x y : Int64} (hd : decode cc pc = .ok (.ladd, 1)) (kk : G l X R cc own ret D tys A Q k n ws (pc + 1) lv (.long (x + y) :: st)) : G l X R cc own ret D tys A Q k n ws pc lv (.long y :: .long x :: st) := by
  obtain ⟨p, e, s, m, args, below, meth, c⟩ := X
  intro F H locs ls hP hD hS hl
  exact lv_ladd F.1.1 F.1.2.1 hd  (kk F H locs ls hP hD hS hl)
theorem r_lmul {x y : Int64} (hd : decode cc pc = .ok (.lmul, 1)) (kk : G l X R cc own ret D tys A Q k n ws (pc + 1) lv (.long (x * y) :: st)) : G l X R cc own ret D tys A Q k n ws pc lv (.long y :: .long x :: st) := by
  obtain ⟨p, e, s, m, args, below, meth, c⟩ := X
  intro F H locs ls hP hD hS hl
  exact lv_lmul F.1.1 F.1.2.1 hd  (kk F H locs ls hP hD hS hl)
theorem r_i2l {x : Int32} (hd : decode cc pc = .ok (.i2l, 1)) (kk : G l X R cc own ret D tys A Q k n ws (pc + 1) lv (.long x.toInt64 :: st)) : G l X R cc own ret D tys A Q k n ws pc lv (.int x :: st) := by
  obtain ⟨p, e, s, m, args, below, meth, c⟩ := X
  intro F H locs ls hP hD hS hl
  exact lv_i2l F.1.1 F.1.2.1 hd rfl (kk F H locs ls hP hD hS hl)
theorem r_lcmp {x y : Int64} (hd : decode cc pc = .ok (.lcmp, 1)) (kk : G l X R cc own ret D tys A Q k n ws (pc + 1) lv (.int (lg_cmp x y) :: st)) : G l X R cc own ret D tys A Q k n ws pc lv (.long y :: .long x :: st) := by
  obtain ⟨p, e, s, m, args, below, meth, c⟩ := X
  intro F H locs ls hP hD hS hl
  exact W.lcmp F.1.1 F.1.2.1 hd  (kk F H locs ls hP hD hS hl)
theorem r_dup {v : Value} (hv : v.category = 1) (hd : decode cc pc = .ok (.dup, 1)) (kk : G l X R cc own ret D tys A Q k n ws (pc + 1) lv (v :: v :: st)) : G l X R cc own ret D tys A Q k n ws pc lv (v :: st) := by
  obtain ⟨p, e, s, m, args, below, meth, c⟩ := X
  intro F H locs ls hP hD hS hl
  exact lv_dup F.1.1 F.1.2.1 hd hv (kk F H locs ls hP hD hS hl)
theorem r_pop {v : Value} (hv : v.category = 1) (hd : decode cc pc = .ok (.pop, 1)) (kk : G l X R cc own ret D tys A Q k n ws (pc + 1) lv (st)) : G l X R cc own ret D tys A Q k n ws pc lv (v :: st) := by
  obtain ⟨p, e, s, m, args, below, meth, c⟩ := X
  intro F H locs ls hP hD hS hl
  exact lv_pop F.1.1 F.1.2.1 hd hv (kk F H locs ls hP hD hS hl)
theorem r_dup2 {v w : Value} (hv : v.category = 1) (hw : w.category = 1) (hd : decode cc pc = .ok (.dup2, 1)) (kk : G l X R cc own ret D tys A Q k n ws (pc + 1) lv (v :: w :: v :: w :: st)) : G l X R cc own ret D tys A Q k n ws pc lv (v :: w :: st) := by
  obtain ⟨p, e, s, m, args, below, meth, c⟩ := X
  intro F H locs ls hP hD hS hl
  exact lv_dup2_11 F.1.1 F.1.2.1 hd hv hw (kk F H locs ls hP hD hS hl)
theorem r_goto {off : Int} (tgt : Nat) (hd : decode cc pc = .ok (.goto off, 3)) (ht : (pc : Int) + off = (tgt : Int)) (kk : G l X R cc own ret D tys A Q k n ws tgt lv st) : G l X R cc own ret D tys A Q k n ws pc lv (st) := by
  obtain ⟨p, e, s, m, args, below, meth, c⟩ := X
  intro F H locs ls hP hD hS hl
  exact lv_goto F.1.1 F.1.2.1 hd ht (kk F H locs ls hP hD hS hl)
theorem r_if_eq {x : Int32} {off : Int} (tgt : Nat) (hd : decode cc pc = .ok (.ifCond .eq off, 3)) (ht : (pc : Int) + off = (tgt : Int)) (kt : x = 0 → G l X R cc own ret D tys A Q k n ws tgt lv st) (kf : ¬ (x = 0) → G l X R cc own ret D tys A Q k n ws (pc + 3) lv st) : G l X R cc own ret D tys A Q k n ws pc lv (.int x :: st) := by
  obtain ⟨p, e, s, m, args, below, meth, c⟩ := X
  intro F H locs ls hP hD hS hl
  exact lv_if_eq F.1.1 F.1.2.1 hd ht (fun z => kt z F H locs ls hP hD hS hl) (fun z => kf z F H locs ls hP hD hS hl)
theorem r_icmp_eq {x y : Int32} {off : Int} (tgt : Nat) (hd : decode cc pc = .ok (.if_icmp .eq off, 3)) (ht : (pc : Int) + off = (tgt : Int)) (kt : x = y → G l X R cc own ret D tys A Q k n ws tgt lv st) (kf : ¬ (x = y) → G l X R cc own ret D tys A Q k n ws (pc + 3) lv st) : G l X R cc own ret D tys A Q k n ws pc lv (.int y :: .int x :: st) := by
  obtain ⟨p, e, s, m, args, below, meth, c⟩ := X
  intro F H locs ls hP hD hS hl
  exact lv_icmp_eq F.1.1 F.1.2.1 hd ht (fun z => kt z F H locs ls hP hD hS hl) (fun z => kf z F H locs ls hP hD hS hl)
theorem r_if_ne {x : Int32} {off : Int} (tgt : Nat) (hd : decode cc pc = .ok (.ifCond .ne off, 3)) (ht : (pc : Int) + off = (tgt : Int)) (kt : ¬ x = 0 → G l X R cc own ret D tys A Q k n ws tgt lv st) (kf : x = 0 → G l X R cc own ret D tys A Q k n ws (pc + 3) lv st) : G l X R cc own ret D tys A Q k n ws pc lv (.int x :: st) := by
  obtain ⟨p, e, s, m, args, below, meth, c⟩ := X
  intro F H locs ls hP hD hS hl
  exact lv_if_ne F.1.1 F.1.2.1 hd ht (fun z => kt z F H locs ls hP hD hS hl) (fun z => kf z F H locs ls hP hD hS hl)
theorem r_icmp_ne {x y : Int32} {off : Int} (tgt : Nat) (hd : decode cc pc = .ok (.if_icmp .ne off, 3)) (ht : (pc : Int) + off = (tgt : Int)) (kt : ¬ x = y → G l X R cc own ret D tys A Q k n ws tgt lv st) (kf : x = y → G l X R cc own ret D tys A Q k n ws (pc + 3) lv st) : G l X R cc own ret D tys A Q k n ws pc lv (.int y :: .int x :: st) := by
  obtain ⟨p, e, s, m, args, below, meth, c⟩ := X
  intro F H locs ls hP hD hS hl
  exact lv_icmp_ne F.1.1 F.1.2.1 hd ht (fun z => kt z F H locs ls hP hD hS hl) (fun z => kf z F H locs ls hP hD hS hl)
theorem r_if_lt {x : Int32} {off : Int} (tgt : Nat) (hd : decode cc pc = .ok (.ifCond .lt off, 3)) (ht : (pc : Int) + off = (tgt : Int)) (kt : x < 0 → G l X R cc own ret D tys A Q k n ws tgt lv st) (kf : ¬ (x < 0) → G l X R cc own ret D tys A Q k n ws (pc + 3) lv st) : G l X R cc own ret D tys A Q k n ws pc lv (.int x :: st) := by
  obtain ⟨p, e, s, m, args, below, meth, c⟩ := X
  intro F H locs ls hP hD hS hl
  exact lv_if_lt F.1.1 F.1.2.1 hd ht (fun z => kt z F H locs ls hP hD hS hl) (fun z => kf z F H locs ls hP hD hS hl)
theorem r_icmp_lt {x y : Int32} {off : Int} (tgt : Nat) (hd : decode cc pc = .ok (.if_icmp .lt off, 3)) (ht : (pc : Int) + off = (tgt : Int)) (kt : x < y → G l X R cc own ret D tys A Q k n ws tgt lv st) (kf : ¬ (x < y) → G l X R cc own ret D tys A Q k n ws (pc + 3) lv st) : G l X R cc own ret D tys A Q k n ws pc lv (.int y :: .int x :: st) := by
  obtain ⟨p, e, s, m, args, below, meth, c⟩ := X
  intro F H locs ls hP hD hS hl
  exact lv_icmp_lt F.1.1 F.1.2.1 hd ht (fun z => kt z F H locs ls hP hD hS hl) (fun z => kf z F H locs ls hP hD hS hl)
theorem r_if_ge {x : Int32} {off : Int} (tgt : Nat) (hd : decode cc pc = .ok (.ifCond .ge off, 3)) (ht : (pc : Int) + off = (tgt : Int)) (kt : 0 ≤ x → G l X R cc own ret D tys A Q k n ws tgt lv st) (kf : ¬ (0 ≤ x) → G l X R cc own ret D tys A Q k n ws (pc + 3) lv st) : G l X R cc own ret D tys A Q k n ws pc lv (.int x :: st) := by
  obtain ⟨p, e, s, m, args, below, meth, c⟩ := X
  intro F H locs ls hP hD hS hl
  exact lv_if_ge F.1.1 F.1.2.1 hd ht (fun z => kt z F H locs ls hP hD hS hl) (fun z => kf z F H locs ls hP hD hS hl)
theorem r_icmp_ge {x y : Int32} {off : Int} (tgt : Nat) (hd : decode cc pc = .ok (.if_icmp .ge off, 3)) (ht : (pc : Int) + off = (tgt : Int)) (kt : y ≤ x → G l X R cc own ret D tys A Q k n ws tgt lv st) (kf : ¬ (y ≤ x) → G l X R cc own ret D tys A Q k n ws (pc + 3) lv st) : G l X R cc own ret D tys A Q k n ws pc lv (.int y :: .int x :: st) := by
  obtain ⟨p, e, s, m, args, below, meth, c⟩ := X
  intro F H locs ls hP hD hS hl
  exact lv_icmp_ge F.1.1 F.1.2.1 hd ht (fun z => kt z F H locs ls hP hD hS hl) (fun z => kf z F H locs ls hP hD hS hl)
theorem r_if_gt {x : Int32} {off : Int} (tgt : Nat) (hd : decode cc pc = .ok (.ifCond .gt off, 3)) (ht : (pc : Int) + off = (tgt : Int)) (kt : 0 < x → G l X R cc own ret D tys A Q k n ws tgt lv st) (kf : ¬ (0 < x) → G l X R cc own ret D tys A Q k n ws (pc + 3) lv st) : G l X R cc own ret D tys A Q k n ws pc lv (.int x :: st) := by
  obtain ⟨p, e, s, m, args, below, meth, c⟩ := X
  intro F H locs ls hP hD hS hl
  exact lv_if_gt F.1.1 F.1.2.1 hd ht (fun z => kt z F H locs ls hP hD hS hl) (fun z => kf z F H locs ls hP hD hS hl)
theorem r_icmp_gt {x y : Int32} {off : Int} (tgt : Nat) (hd : decode cc pc = .ok (.if_icmp .gt off, 3)) (ht : (pc : Int) + off = (tgt : Int)) (kt : y < x → G l X R cc own ret D tys A Q k n ws tgt lv st) (kf : ¬ (y < x) → G l X R cc own ret D tys A Q k n ws (pc + 3) lv st) : G l X R cc own ret D tys A Q k n ws pc lv (.int y :: .int x :: st) := by
  obtain ⟨p, e, s, m, args, below, meth, c⟩ := X
  intro F H locs ls hP hD hS hl
  exact lv_icmp_gt F.1.1 F.1.2.1 hd ht (fun z => kt z F H locs ls hP hD hS hl) (fun z => kf z F H locs ls hP hD hS hl)
theorem r_if_le {x : Int32} {off : Int} (tgt : Nat) (hd : decode cc pc = .ok (.ifCond .le off, 3)) (ht : (pc : Int) + off = (tgt : Int)) (kt : x ≤ 0 → G l X R cc own ret D tys A Q k n ws tgt lv st) (kf : ¬ (x ≤ 0) → G l X R cc own ret D tys A Q k n ws (pc + 3) lv st) : G l X R cc own ret D tys A Q k n ws pc lv (.int x :: st) := by
  obtain ⟨p, e, s, m, args, below, meth, c⟩ := X
  intro F H locs ls hP hD hS hl
  exact lv_if_le F.1.1 F.1.2.1 hd ht (fun z => kt z F H locs ls hP hD hS hl) (fun z => kf z F H locs ls hP hD hS hl)
theorem r_icmp_le {x y : Int32} {off : Int} (tgt : Nat) (hd : decode cc pc = .ok (.if_icmp .le off, 3)) (ht : (pc : Int) + off = (tgt : Int)) (kt : x ≤ y → G l X R cc own ret D tys A Q k n ws tgt lv st) (kf : ¬ (x ≤ y) → G l X R cc own ret D tys A Q k n ws (pc + 3) lv st) : G l X R cc own ret D tys A Q k n ws pc lv (.int y :: .int x :: st) := by
  obtain ⟨p, e, s, m, args, below, meth, c⟩ := X
  intro F H locs ls hP hD hS hl
  exact lv_icmp_le F.1.1 F.1.2.1 hd ht (fun z => kt z F H locs ls hP hD hS hl) (fun z => kf z F H locs ls hP hD hS hl)
theorem nI_inj {a b : Nat} (ha : a < 2 ^ 31) (hb : b < 2 ^ 31) : nI a = nI b ↔ a = b := ⟨fun h => by have := congrArg Int32.toInt h; rw [nI_toInt ha, nI_toInt hb] at this; omega, fun h => by rw [h]⟩
theorem nI_lt_iff {a b : Nat} (ha : a < 2 ^ 31) (hb : b < 2 ^ 31) : nI a < nI b ↔ a < b := by rw [Int32.lt_iff_toInt_lt, nI_toInt ha, nI_toInt hb]; omega
theorem nI_le_iff {a b : Nat} (ha : a < 2 ^ 31) (hb : b < 2 ^ 31) : nI a ≤ nI b ↔ a ≤ b := by rw [Int32.le_iff_toInt_le, nI_toInt ha, nI_toInt hb]; omega
theorem r_ncmp_eq {a b : Nat} {off : Int} (tgt : Nat) (ha : a < 2 ^ 31) (hb : b < 2 ^ 31) (hd : decode cc pc = .ok (.if_icmp .eq off, 3)) (ht : (pc : Int) + off = (tgt : Int)) (kt : a = b → G l X R cc own ret D tys A Q k n ws tgt lv st) (kf : ¬ a = b → G l X R cc own ret D tys A Q k n ws (pc + 3) lv st) : G l X R cc own ret D tys A Q k n ws pc lv (.int (nI b) :: .int (nI a) :: st) :=
  r_icmp_eq tgt hd ht (fun z => kt ((nI_inj ha hb).mp z)) (fun z => kf (fun e => z ((nI_inj ha hb).mpr e)))
theorem r_ncmp_ne {a b : Nat} {off : Int} (tgt : Nat) (ha : a < 2 ^ 31) (hb : b < 2 ^ 31) (hd : decode cc pc = .ok (.if_icmp .ne off, 3)) (ht : (pc : Int) + off = (tgt : Int)) (kt : ¬ a = b → G l X R cc own ret D tys A Q k n ws tgt lv st) (kf : a = b → G l X R cc own ret D tys A Q k n ws (pc + 3) lv st) : G l X R cc own ret D tys A Q k n ws pc lv (.int (nI b) :: .int (nI a) :: st) :=
  r_icmp_ne tgt hd ht (fun z => kt (fun e => z ((nI_inj ha hb).mpr e))) (fun z => kf ((nI_inj ha hb).mp z))
theorem r_ncmp_lt {a b : Nat} {off : Int} (tgt : Nat) (ha : a < 2 ^ 31) (hb : b < 2 ^ 31) (hd : decode cc pc = .ok (.if_icmp .lt off, 3)) (ht : (pc : Int) + off = (tgt : Int)) (kt : a < b → G l X R cc own ret D tys A Q k n ws tgt lv st) (kf : b ≤ a → G l X R cc own ret D tys A Q k n ws (pc + 3) lv st) : G l X R cc own ret D tys A Q k n ws pc lv (.int (nI b) :: .int (nI a) :: st) :=
  r_icmp_lt tgt hd ht (fun z => kt ((nI_lt_iff ha hb).mp z)) (fun z => kf (Nat.not_lt.mp (fun e => z ((nI_lt_iff ha hb).mpr e))))
theorem r_ncmp_ge {a b : Nat} {off : Int} (tgt : Nat) (ha : a < 2 ^ 31) (hb : b < 2 ^ 31) (hd : decode cc pc = .ok (.if_icmp .ge off, 3)) (ht : (pc : Int) + off = (tgt : Int)) (kt : b ≤ a → G l X R cc own ret D tys A Q k n ws tgt lv st) (kf : a < b → G l X R cc own ret D tys A Q k n ws (pc + 3) lv st) : G l X R cc own ret D tys A Q k n ws pc lv (.int (nI b) :: .int (nI a) :: st) :=
  r_icmp_ge tgt hd ht (fun z => kt ((nI_le_iff hb ha).mp z)) (fun z => kf (Nat.not_le.mp (fun e => z ((nI_le_iff hb ha).mpr e))))
theorem r_ncmp_gt {a b : Nat} {off : Int} (tgt : Nat) (ha : a < 2 ^ 31) (hb : b < 2 ^ 31) (hd : decode cc pc = .ok (.if_icmp .gt off, 3)) (ht : (pc : Int) + off = (tgt : Int)) (kt : b < a → G l X R cc own ret D tys A Q k n ws tgt lv st) (kf : a ≤ b → G l X R cc own ret D tys A Q k n ws (pc + 3) lv st) : G l X R cc own ret D tys A Q k n ws pc lv (.int (nI b) :: .int (nI a) :: st) :=
  r_icmp_gt tgt hd ht (fun z => kt ((nI_lt_iff hb ha).mp z)) (fun z => kf (Nat.not_lt.mp (fun e => z ((nI_lt_iff hb ha).mpr e))))
theorem r_ncmp_le {a b : Nat} {off : Int} (tgt : Nat) (ha : a < 2 ^ 31) (hb : b < 2 ^ 31) (hd : decode cc pc = .ok (.if_icmp .le off, 3)) (ht : (pc : Int) + off = (tgt : Int)) (kt : a ≤ b → G l X R cc own ret D tys A Q k n ws tgt lv st) (kf : b < a → G l X R cc own ret D tys A Q k n ws (pc + 3) lv st) : G l X R cc own ret D tys A Q k n ws pc lv (.int (nI b) :: .int (nI a) :: st) :=
  r_icmp_le tgt hd ht (fun z => kt ((nI_le_iff ha hb).mp z)) (fun z => kf (Nat.not_le.mp (fun e => z ((nI_le_iff ha hb).mpr e))))
theorem nI_ad (a b : Nat) : nI a + nI b = nI (a + b) := by
  induction b with
  | zero => rw [nI_0, Nat.add_zero]; exact Int32.add_zero _
  | succ b ih => rw [nI_succ, ← Int32.add_assoc, ih, ← Nat.add_assoc, nI_succ]
theorem nI_sb {a b : Nat} (h : b ≤ a) : nI a - nI b = nI (a - b) := by
  have e : nI a = nI (a - b) + nI b := by rw [nI_ad, Nat.sub_add_cancel h]
  rw [e, Int32.sub_eq_add_neg, Int32.add_assoc, ← Int32.sub_eq_add_neg, Int32.sub_self, Int32.add_zero]
theorem nI_ml (a b : Nat) : nI a * nI b = nI (a * b) := by
  induction b with
  | zero => rw [nI_0, Nat.mul_zero, nI_0]; exact Int32.mul_zero
  | succ b ih => rw [nI_succ, Int32.mul_add, ih, Int32.mul_one, nI_ad, Nat.mul_succ]
theorem nI_dv {a b : Nat} (ha : a < 2 ^ 31) (hb : b < 2 ^ 31) (h0 : 0 < b) : nI a / nI b = nI (a / b) := by
  have hq : a / b < 2 ^ 31 := Nat.lt_of_le_of_lt (Nat.div_le_self a b) ha
  apply Int32.toInt_inj.mp
  rw [Int32.toInt_div, nI_toInt ha, nI_toInt hb, nI_toInt hq]
  have e : ((a : Int).tdiv (b : Int)) = ((a / b : Nat) : Int) := by rw [Int.tdiv_eq_ediv_of_nonneg (by omega)]; rfl
  rw [e]
  clear e
  generalize a / b = q at hq ⊢
  rw [Int.bmod_eq_of_le] <;> omega
theorem nI_rem_z {a b : Nat} (hb : b < 2 ^ 31) (h0 : 0 < b) : ¬ nI b = 0 := nI_ne0 h0 hb
theorem r_niadd {a b : Nat} (hd : decode cc pc = .ok (.iadd, 1)) (kk : G l X R cc own ret D tys A Q k n ws (pc + 1) lv (.int (nI (a + b)) :: st)) : G l X R cc own ret D tys A Q k n ws pc lv (.int (nI b) :: .int (nI a) :: st) := r_iadd hd (r_top (nI_ad a b) kk)
theorem r_nimul {a b : Nat} (hd : decode cc pc = .ok (.imul, 1)) (kk : G l X R cc own ret D tys A Q k n ws (pc + 1) lv (.int (nI (a * b)) :: st)) : G l X R cc own ret D tys A Q k n ws pc lv (.int (nI b) :: .int (nI a) :: st) := r_imul hd (r_top (nI_ml a b) kk)
theorem r_nisub {a b : Nat} (h : b ≤ a) (hd : decode cc pc = .ok (.isub, 1)) (kk : G l X R cc own ret D tys A Q k n ws (pc + 1) lv (.int (nI (a - b)) :: st)) : G l X R cc own ret D tys A Q k n ws pc lv (.int (nI b) :: .int (nI a) :: st) := r_isub hd (r_top (nI_sb h) kk)
theorem r_nidiv {a b : Nat} (ha : a < 2 ^ 31) (hb : b < 2 ^ 31) (h0 : 0 < b) (hd : decode cc pc = .ok (.idiv, 1)) (kk : G l X R cc own ret D tys A Q k n ws (pc + 1) lv (.int (nI (a / b)) :: st)) : G l X R cc own ret D tys A Q k n ws pc lv (.int (nI b) :: .int (nI a) :: st) := r_idiv (nI_ne0 h0 hb) hd (r_top (nI_dv ha hb h0) kk)
theorem r_get {ix ci f a : Nat} {fs : List Value} {v : Value} (q0 : Nat) (hk : LkF own ix ci f) (hd : decode cc pc = .ok (.getfield ix, 3)) (he : ws[q0]? = some (a, .inr (ci, fs))) (hv : fs[f]? = some v) (kk : G l X R cc own ret D tys A Q k n ws (pc + 3) lv (v :: st)) : G l X R cc own ret D tys A Q k n ws pc lv (.ref a :: st) := by
  obtain ⟨p, e, s, m, args, below, meth, c⟩ := X
  intro F H locs ls hP hD hS hl
  obtain ⟨q, h1, h2, h3, h4⟩ := hk
  rcases h4 with h4 | ⟨host, h4⟩
  · exact va_get (C := q.1) (T := q.2.1) (N := q.2.2) F.1.1 F.1.2.1 F.1.2.2.2.2 h3 F.1.2.2.2.1 F.2.2.2.2 hP q0 he h1 f h2 (F.1.2.2.2.2 _ h4) (fun _ h => h) hv hd (kk F H locs ls hP hD hS hl)
  · exact va_getN (C := q.1) (T := q.2.1) (N := q.2.2) F.1.1 F.1.2.1 F.1.2.2.2.2 h3 F.1.2.2.2.1 F.2.2.2.2 hP q0 he h1 f h2 (F.1.2.2.2.2 _ h4) (fun _ h => h) hv hd (kk F H locs ls hP hD hS hl)
def tyOf : Nat → Nat → FieldType
  | 0 => tyX0
  | 1 => tyX1
  | 2 => tyX2
  | 3 => tyX3
  | 4 => tyX4
  | _ => tyX5
theorem ty_ok : ∀ (ci : Nat) (q : vw_C), vwCl[ci]? = some q → ∀ k, k < q.2.2 → parseFieldDescriptor (q.2.1 k).2.2.1 = some (tyOf ci k)
  | 0, _, h => by cases h; exact tyX0_ok
  | 1, _, h => by cases h; exact tyX1_ok
  | 2, _, h => by cases h; exact tyX2_ok
  | 3, _, h => by cases h; exact tyX3_ok
  | 4, _, h => by cases h; exact tyX4_ok
  | 5, _, h => by cases h; exact tyX5_ok
  | k + 6, _, h => by simp [vwCl] at h
theorem nm_ok : ∀ (ci : Nat) (q : vw_C), vwCl[ci]? = some q → ∀ a, a < q.2.2 → ∀ b, b < q.2.2 → a ≠ b → (q.2.1 a).2.1 ≠ (q.2.1 b).2.1
  | 0, _, h => by cases h; exact nmX0
  | 1, _, h => by cases h; exact nmX1
  | 2, _, h => by cases h; exact nmX2
  | 3, _, h => by cases h; exact nmX3
  | 4, _, h => by cases h; exact nmX4
  | 5, _, h => by cases h; exact nmX5
  | k + 6, _, h => by simp [vwCl] at h
def finOf (ci k : Nat) : Bool := match vwCl[ci]? with
  | some q => (q.2.1 k).2.2.2
  | none => false
def declOf (ci k : Nat) : String := match vwCl[ci]? with
  | some q => (q.2.1 k).1
  | none => ""
theorem r_put {ix ci f a : Nat} {fs : List Value} {v : Value} (q0 : Nat) (ws' : va_W) (hk : LkF own ix ci f) (hd : decode cc pc = .ok (.putfield ix, 3)) (he : ws[q0]? = some (a, .inr (ci, fs))) (hfin : finOf ci f = false) (hn : narrow (tyOf ci f) v = v) (hfit : fits (tyOf ci f) v = true) (hl0 : f < fs.length) (hs : ws.set q0 (a, .inr (ci, fs.set f v)) = ws') (kk : G l X R cc own ret D tys A Q k n ws' (pc + 3) lv st) : G l X R cc own ret D tys A Q k n ws pc lv (v :: .ref a :: st) := by
  obtain ⟨p, e, s, m, args, below, meth, c⟩ := X
  intro F H locs ls hP hD hS hl
  subst hs
  obtain ⟨q, h1, h2, h3, h4⟩ := hk
  have hfin : (q.2.1 f).2.2.2 = false := by unfold finOf at hfin; rw [h1] at hfin; exact hfin
  rcases h4 with h4 | ⟨host, h4⟩
  · exact va_put (C := q.1) (T := q.2.1) (N := q.2.2) F.1.1 F.1.2.1 F.1.2.2.2.2 h3 (tyOf ci) (ty_ok ci q h1) (nm_ok ci q h1) F.1.2.2.2.1 F.2.2.2.2 hP hD hS q0 he h1 f h2 (F.1.2.2.2.2 _ h4) (fun _ h => h) hfin (ty_ok ci q h1 f h2) hn hfit hl0 hd (fun H1 locs1 hP hD hS => kk F H1 locs1 ls hP hD hS hl)
  · exact va_putN (C := q.1) (T := q.2.1) (N := q.2.2) F.1.1 F.1.2.1 F.1.2.2.2.2 h3 (tyOf ci) (ty_ok ci q h1) (nm_ok ci q h1) F.1.2.2.2.1 F.2.2.2.2 hP hD hS q0 he h1 f h2 (F.1.2.2.2.2 _ h4) (fun _ h => h) hfin (ty_ok ci q h1 f h2) hn hfit hl0 hd (fun H1 locs1 hP hD hS => kk F H1 locs1 ls hP hD hS hl)
theorem r_iald {a N : Nat} {cA : ClassId} {f : Nat → Int32} {i : Int32} (q0 j : Nat) (hd : decode cc pc = .ok (.iaload, 1)) (he : ws[q0]? = some (a, .inl (cA, N, .inl f))) (ht : tys[0]? = some (cA, .int)) (hi : i = nI j) (hj : j < N) (hN : N < 2 ^ 31) (kk : G l X R cc own ret D tys A Q k n ws (pc + 1) lv (.int (f j) :: st)) : G l X R cc own ret D tys A Q k n ws pc lv (.int i :: .ref a :: st) := by
  obtain ⟨p, e, s, m, args, below, meth, c⟩ := X
  intro F H locs ls hP hD hS hl
  subst hi
  refine va_iald F.1.1 F.1.2.1 F.2.2.2.2 hP q0 0 he ht (vp_in_nI hj hN) hd ?_
  rw [nI_clamp (Nat.lt_trans hj hN)]
  exact (kk F H locs ls hP hD hS hl)
theorem r_iast {a N : Nat} {cA : ClassId} {f : Nat → Int32} {i x : Int32} (q0 j : Nat) (ws' : va_W) (hd : decode cc pc = .ok (.iastore, 1)) (he : ws[q0]? = some (a, .inl (cA, N, .inl f))) (ht : tys[0]? = some (cA, .int)) (hi : i = nI j) (hj : j < N) (hN : N < 2 ^ 31) (hs : ws.set q0 (a, .inl (cA, N, .inl (upd f j x))) = ws') (kk : G l X R cc own ret D tys A Q k n ws' (pc + 1) lv st) : G l X R cc own ret D tys A Q k n ws pc lv (.int x :: .int i :: .ref a :: st) := by
  obtain ⟨p, e, s, m, args, below, meth, c⟩ := X
  intro F H locs ls hP hD hS hl
  subst hi
  subst hs
  refine va_iast F.1.1 F.1.2.1 F.2.2.2.2 hP hD hS q0 0 he ht (vp_in_nI hj hN) hd ?_
  rw [nI_clamp (Nat.lt_trans hj hN)]
  exact fun H1 locs1 hP hD hS => kk F H1 locs1 ls hP hD hS hl
theorem r_alen {a : Nat} {cA : ClassId} {x : vp_A} {ty : FieldType} (q0 t0 : Nat) (hd : decode cc pc = .ok (.arraylength, 1)) (he : ws[q0]? = some (a, .inl (cA, x))) (ht : tys[t0]? = some (cA, ty)) (kk : G l X R cc own ret D tys A Q k n ws (pc + 1) lv (.int (nI x.1) :: st)) : G l X R cc own ret D tys A Q k n ws pc lv (.ref a :: st) := by
  obtain ⟨p, e, s, m, args, below, meth, c⟩ := X
  intro F H locs ls hP hD hS hl
  exact va_alen F.1.1 F.1.2.1 F.2.2.2.2 hP q0 t0 he ht rfl hd (kk F H locs ls hP hD hS hl)
theorem r_lookup {dflt off : Int} {ps : Array (Int × Int)} {len : Nat} {x : Int32} (tgt : Nat) (hd : decode cc pc = .ok (.lookupswitch dflt ps, len)) (hp : (ps.toList.zip (ps.toList.drop 1)).all (fun (a, next) => a.1 < next.1) = true) (ho : Op.lookupswitch.offset ps.toList dflt x.toInt = off) (ht : (pc : Int) + off = (tgt : Int)) (kk : G l X R cc own ret D tys A Q k n ws tgt lv st) : G l X R cc own ret D tys A Q k n ws pc lv (.int x :: st) := by
  obtain ⟨p, e, s, m, args, below, meth, c⟩ := X
  intro F H locs ls hP hD hS hl
  exact lv_lookup F.1.1 F.1.2.1 hd hp ho ht (kk F H locs ls hP hD hS hl)
theorem r_tabOut {dflt lo hi : Int} {offs : Array Int} {len : Nat} {x : Int32} (tgt : Nat) (hd : decode cc pc = .ok (.tableswitch dflt lo hi offs, len)) (h : x.toInt < lo ∨ hi < x.toInt) (ht : (pc : Int) + dflt = (tgt : Int)) (kk : G l X R cc own ret D tys A Q k n ws tgt lv st) : G l X R cc own ret D tys A Q k n ws pc lv (.int x :: st) := by
  obtain ⟨p, e, s, m, args, below, meth, c⟩ := X
  intro F H locs ls hP hD hS hl
  exact lv_tableOut F.1.1 F.1.2.1 hd h ht (kk F H locs ls hP hD hS hl)
theorem r_tabIn {dflt lo hi off : Int} {offs : Array Int} {len : Nat} {x : Int32} (tgt : Nat) (hd : decode cc pc = .ok (.tableswitch dflt lo hi offs, len)) (h1 : ¬ x.toInt < lo) (h2 : ¬ hi < x.toInt) (ho : offs[(x.toInt - lo).toNat]? = some off) (ht : (pc : Int) + off = (tgt : Int)) (kk : G l X R cc own ret D tys A Q k n ws tgt lv st) : G l X R cc own ret D tys A Q k n ws pc lv (.int x :: st) := by
  obtain ⟨p, e, s, m, args, below, meth, c⟩ := X
  intro F H locs ls hP hD hS hl
  exact lv_tableIn F.1.1 F.1.2.1 hd h1 h2 ho ht (kk F H locs ls hP hD hS hl)
end GR
