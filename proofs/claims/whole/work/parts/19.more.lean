def InitX (X : Cx) : Prop := match X with
  | (_, _, _, _, _, _, meth, _) => meth.name = "<init>"
theorem mt_ini {l : Launch} {D : va_G} {tys : List (ClassId × FieldType)} {y : MethodName} {b : ByteArray} {n : Nat} {ret : Option FieldType} {rm : Room} {av : List Value} {w : va_W} {S : Type} {post : Option Value → S → Prop} {w' : S → va_W} {mc ms : Nat} (own : String) (lv : Lv)
    (hown : y.cls = own) (hnm : y.name = "<init>") (hy : plainName own = true) (hc : av.all (fun v => v.category == 1) = true) (hle : (lg_sl av).length ≤ n) (hlv : av.map some ++ List.replicate (n - av.length) none = lv) (hn : lv.length = n)
    (body : ∀ (X : Cx) (sz : Nat), InitX X → G l X rm b own ret D tys (va_A w sz) (QX X D tys w sz S post w' mc ms) 0 0 w 0 lv []) : Mt l D tys y b n ret rm av w S post w' mc ms := by
  subst hown
  intro sz
  refine Met.ofW (cc := b) (maxL := n) (ret := ret) hy rfl ?_
  intro p e s m args below meth c s₁ B hml hv
  obtain ⟨rfl, hsz, hP, hK, hD0⟩ := hv
  subst hsz
  have hts := atoms_spec (ws := Cond.code y b n ret :: TB) B.pre
  have hle2 := lv_entry av hle
  have hin : meth.name = "<init>" := (name_of_methodNamed B.named B.method).1.trans hnm
  rw [lg_entry_eq]
  refine body (p, e, s, m, av.toArray, below, meth, c) s.heap.size hin ⟨⟨B.exec, B.bytes, hml.trans hn.symm, findClass_of_methodNamed B.named, fun w hw => hts w (List.mem_cons_of_mem _ hw)⟩, B.returns, B.notSynchronized, fun q h => Or.inr h, hK⟩ s.heap [] _ hP (hD0.self (sz := s.heap.size)) va_S.rf ⟨hle2.1.trans hn.symm, hle2.2.1, fun i v hi => ?_⟩
  rw [← hlv] at hi
  have h := lv_args_mem av (cat1 hc) _ 0 i v hi
  rw [Nat.zero_add] at h
  exact hle2.2.2 (i, v) h
section GM
variable {l : Launch} {X : Cx} {R : Room} {cc : ByteArray} {own : String} {ret : Option FieldType} {D : va_G} {tys : List (ClassId × FieldType)} {A : Nat → Prop} {Q : State → Prop} {k n : Nat} {ws : va_W} {pc : Nat} {lv : Lv} {st : List Value}
/-- the cells in another order -/
theorem r_perm {ws' : va_W} (isP : List Nat) (hn : va_nd isP = true) (h : isP.map (fun i => ws[i]?) = ws'.map some) (kk : G l X R cc own ret D tys A Q k n ws' pc lv st) : G l X R cc own ret D tys A Q k n ws pc lv st := by
  obtain ⟨p, e, s, m, args, below, meth, c⟩ := X
  intro F H locs ls hP hD hS hl
  exact kk F H locs ls (hP.sub isP (fm_of_map h)) (hD.sub isP hn h) hS hl
theorem r_aald {a N : Nat} {cB : ClassId} {C : String} {f : Nat → Option Nat} {i : Int32} (q0 j : Nat) {x : Nat} (hd : decode cc pc = .ok (.aaload, 1)) (he : ws[q0]? = some (a, .inl (cB, N, .inr (.inr (.inr (.inr f)))))) (ht : tys[1]? = some (cB, .object C)) (hi : i = nI j) (hj : j < N) (hN : N < 2 ^ 31) (hx : f j = some x) (kk : G l X R cc own ret D tys A Q k n ws (pc + 1) lv (.ref x :: st)) : G l X R cc own ret D tys A Q k n ws pc lv (.int i :: .ref a :: st) := by
  obtain ⟨p, e, s, m, args, below, meth, c⟩ := X
  intro F H locs ls hP hD hS hl
  subst hi
  refine va_aldq F.1.1 F.1.2.1 F.2.2.2.2 hP q0 1 he ht (vp_in_nI hj hN) hd ?_
  rw [nI_clamp (Nat.lt_trans hj hN), hx]
  exact kk F H locs ls hP hD hS hl
theorem r_aast {a N v ci : Nat} {cB : ClassId} {r : vw_C} {vs : List Value} {f : Nat → Option Nat} {i : Int32} (q0 qk j : Nat) (ws' : va_W) (hd : decode cc pc = .ok (.aastore, 1)) (he : ws[q0]? = some (a, .inl (cB, N, .inr (.inr (.inr (.inr f)))))) (ht : tys[1]? = some (cB, .object r.1)) (hv : ws[qk]? = some (v, .inr (ci, vs))) (hc : vwCl[ci]? = some r) (hi : i = nI j) (hj : j < N) (hN : N < 2 ^ 31) (hs : ws.set q0 (a, .inl (cB, N, .inr (.inr (.inr (.inr (va_up f j (some v))))))) = ws') (kk : G l X R cc own ret D tys A Q k n ws' (pc + 1) lv st) : G l X R cc own ret D tys A Q k n ws pc lv (.ref v :: .int i :: .ref a :: st) := by
  obtain ⟨p, e, s, m, args, below, meth, c⟩ := X
  intro F H locs ls hP hD hS hl
  subst hi
  subst hs
  refine va_astq F.1.1 F.1.2.1 F.2.2.2.2 hP hD hS q0 1 qk ci he ht hv hc (vp_in_nI hj hN) hd ?_
  rw [nI_clamp (Nat.lt_trans hj hN)]
  exact fun H1 locs1 hP hD hS => kk F H1 locs1 ls hP hD hS hl
theorem r_newa {cA : ClassId} (N : Nat) (hty : tys[0]? = some (cA, .int)) (hd : decode cc pc = .ok (.newarray .int, 2)) (hN : Nat.ble (N + 1) 1048576 = true) (hk : Nat.ble (k + 1) R.cells = true) (hn : Nat.ble (n + N) R.slots = true) (kk : ∀ q : Nat, G l X R cc own ret D tys A Q (k + 1) (n + N) (ws ++ [(q, .inl (cA, N, .inl (fun _ => 0)))]) (pc + 2) lv (.ref q :: st)) : G l X R cc own ret D tys A Q k n ws pc lv (.int (nI N) :: st) := by
  obtain ⟨p, e, s, m, args, below, meth, c⟩ := X
  intro F H locs ls hP hD hS hl
  have hN := Nat.le_of_ble_eq_true hN
  have hts := F.1.2.2.2.2
  refine va_newa (atype := .int) (a0 := (N, .inl (fun _ => 0))) F.1.1 F.1.2.1 (hts _ ac_I) rfl F.2.2.2.2 hP hD hS F.2.2.2.1 (fun _ => rfl) (nI_pos (by omega)) (nI_clamp (by omega)) (by show N * 4 ≤ _; omega) (Nat.le_of_ble_eq_true hk) (Nat.le_of_ble_eq_true hn) hd (fun q cA' H1 hK hP hD hS => ?_)
  have e1 := (F.2.2.2.2.2 0 _ hty).2
  have e2 := (hK.2 tys.length (cA', .int) (by simp; rfl)).2
  have e3 : cA' = cA := Option.some.inj ((show s.vm.findClass _ = some cA' from e2).symm.trans (show s.vm.findClass _ = some cA from e1))
  subst e3
  exact kk q F H1 locs ls hP hD hS hl
theorem r_newq {cB : ClassId} {ix : Nat} (N : Nat) (hty : tys[1]? = some (cB, .object RX1)) (hcl : Cond.classLink own ix RX1 ∈ TB) (hd : decode cc pc = .ok (.anewarray ix, 3)) (hN : Nat.ble (N + 1) 1048576 = true) (hk : Nat.ble (k + 1) R.cells = true) (hn : Nat.ble (n + N) R.slots = true) (kk : ∀ q : Nat, G l X R cc own ret D tys A Q (k + 1) (n + N) (ws ++ [(q, .inl (cB, N, .inr (.inr (.inr (.inr (fun _ => none))))))]) (pc + 3) lv (.ref q :: st)) : G l X R cc own ret D tys A Q k n ws pc lv (.int (nI N) :: st) := by
  obtain ⟨p, e, s, m, args, below, meth, c⟩ := X
  intro F H locs ls hP hD hS hl
  have hN := Nat.le_of_ble_eq_true hN
  have hts := F.1.2.2.2.2
  refine va_newq F.1.1 F.1.2.1 F.1.2.2.2.1 (hts _ hcl) (va_AO.of (hts _ ao_R)) F.2.2.2.2 hP hD hS F.2.2.2.1 (nI_pos (by omega)) (nI_clamp (by omega)) (by omega) (Nat.le_of_ble_eq_true hk) (Nat.le_of_ble_eq_true hn) hd (fun q cB' H1 hK hP hD hS => ?_)
  obtain ⟨_, _, _, _, _, e1⟩ := (F.2.2.2.2.2 1 _ hty).2
  obtain ⟨_, _, _, _, _, e2⟩ := (hK.2 tys.length (cB', .object RX1) (by simp)).2
  have e3 : cB' = cB := Option.some.inj (e2.symm.trans e1)
  subst e3
  exact kk q F H1 locs ls hP hD hS hl
theorem r_new {C : String} {T : u_T} {N ix : Nat} (ci : Nat) (fs : List Value) (hc : vwCl[ci]? = some (C, T, N)) (hw : ∀ w ∈ u_ws C T N, w ∈ TB) (hcl : Cond.classLink own ix C ∈ TB) (hins : Cond.instantiable C N ∈ TB) (hini : Cond.initialized C ∈ TB) (hfs : (List.range N).all (fun j => decide (defaultValue (tyOf ci j) = vp_V fs j)) = true) (hd : decode cc pc = .ok (.new ix, 3)) (hk : Nat.ble (k + 1) R.cells = true) (hn : Nat.ble (n + N) R.slots = true) (kk : ∀ q : Nat, G l X R cc own ret D tys A Q (k + 1) (n + N) (ws ++ [(q, .inr (ci, fs))]) (pc + 3) lv (.ref q :: st)) : G l X R cc own ret D tys A Q k n ws pc lv st := by
  obtain ⟨p, e, s, m, args, below, meth, c⟩ := X
  intro F H locs ls hP hD hS hl
  have hts := F.1.2.2.2.2
  exact va_new (T := T) (N := N) F.1.1 F.1.2.1 hts hw (tyOf ci) (ty_ok ci _ hc) F.1.2.2.2.1 (hts _ hcl) (hts _ hins) (hts _ hini) F.2.2.2.2 hP hD hS F.2.2.2.1 hc (fun j hj => of_decide_eq_true (List.all_eq_true.mp hfs j (List.mem_range.mpr hj))) (Nat.le_of_ble_eq_true hk) (Nat.le_of_ble_eq_true hn) hd (fun q H1 hP hD hS => kk q F H1 locs ls hP hD hS hl)
theorem r_obj {ix a : Nat} (hlk : Cond.methodLink own ix objectInit ∈ TB) (hd : decode cc pc = .ok (.invokespecial ix, 3)) (hf : Nat.ble 1 R.frames = true) (hlo : Nat.ble ((st.map fun v => v.category).sum + 12) R.locals = true) (kk : G l X R cc own ret D tys A Q k n ws (pc + 3) lv st) : G l X R cc own ret D tys A Q k n ws pc lv (.ref a :: st) := by
  obtain ⟨p, e, s, m, args, below, meth, c⟩ := X
  intro F H locs ls hP hD hS hl
  have hts := F.1.2.2.2.2
  refine W.objInit F.1.1 F.1.2.1 F.1.2.2.2.1 (hts _ hlk) (hts _ oi_i) (hts _ oi_c) rfl (hl.1.trans F.1.2.2.1.symm) rfl hd (Nat.le_of_ble_eq_true hf) ?_ ?_
  · show 2 * 0 + _ + 12 ≤ _
    have := Nat.le_of_ble_eq_true hlo
    omega
  · exact kk F H locs ls hP hD hS hl
theorem r_putF {ix ci f a : Nat} {fs : List Value} {v : Value} (hX : InitX X) (q0 : Nat) (ws' : va_W) (hk : LkF own ix ci f) (hd : decode cc pc = .ok (.putfield ix, 3)) (he : ws[q0]? = some (a, .inr (ci, fs))) (hfin : finOf ci f = true) (hdc : declOf ci f = own) (hn : narrow (tyOf ci f) v = v) (hfit : fits (tyOf ci f) v = true) (hl0 : f < fs.length) (hs : ws.set q0 (a, .inr (ci, fs.set f v)) = ws') (hnn : ∀ host, ¬ Cond.fieldLinkNest own ix (declOf ci f) "" "" host ∈ TB ∨ True) (h4 : ∀ q : vw_C, vwCl[ci]? = some q → Cond.fieldLink own ix (q.2.1 f).1 (q.2.1 f).2.1 (q.2.1 f).2.2.1 ∈ TB) (kk : G l X R cc own ret D tys A Q k n ws' (pc + 3) lv st) : G l X R cc own ret D tys A Q k n ws pc lv (v :: .ref a :: st) := by
  obtain ⟨p, e, s, m, args, below, meth, c⟩ := X
  intro F H locs ls hP hD hS hl
  subst hs
  obtain ⟨q, h1, h2, h3, -⟩ := hk
  have hfin : (q.2.1 f).2.2.2 = true := by unfold finOf at hfin; rw [h1] at hfin; exact hfin
  have hdc : (q.2.1 f).1 = own := by unfold declOf at hdc; rw [h1] at hdc; exact hdc
  exact va_putF (C := q.1) (T := q.2.1) (N := q.2.2) F.1.1 F.1.2.1 F.1.2.2.2.2 h3 (tyOf ci) (ty_ok ci q h1) (nm_ok ci q h1) F.1.2.2.2.1 F.2.2.2.2 hP hD hS q0 he h1 f h2 (F.1.2.2.2.2 _ (h4 q h1)) (fun _ h => h) hfin hX hdc (ty_ok ci q h1 f h2) hn hfit hl0 hd (fun H1 locs1 hP hD hS => kk F H1 locs1 ls hP hD hS hl)
end GM
/-! THE STATES: six rows, r their cells, σ what they hold, h of them kept -/
def rA (r : Nat → Nat → Nat) : Nat → Option Nat := fun j => if j < 6 then some (r j 0) else none
abbrev stW (cA cB : ClassId) (t : Nat → Nat) (r : Nat → Nat → Nat) (σ : Nat → Nat → Int32) (h : Int32) : va_W := [(t 0, .inr (3, [.ref (t 1), .int h])), (t 1, .inl (cB, 6, .inr (.inr (.inr (.inr (rA r))))))] ++ (rowW cA (r 0) (σ 0) ++ (rowW cA (r 1) (σ 1) ++ (rowW cA (r 2) (σ 2) ++ (rowW cA (r 3) (σ 3) ++ (rowW cA (r 4) (σ 4) ++ rowW cA (r 5) (σ 5))))))
def ups (σ : Nat → Nat → Int32) (h : Nat) (ρ : Nat → Int32) : Nat → Nat → Int32 := fun i => if i = h then ρ else σ i
def rot {α : Type} (r : Nat → α) : Nat → α := fun i => if i < 5 then r (i + 1) else r 0
theorem rot_a (r : Nat → Nat → Nat) : va_up (va_up (va_up (va_up (va_up (va_up (rA r) 0 (some (r 1 0))) 1 (some (r 2 0))) 2 (some (r 3 0))) 3 (some (r 4 0))) 4 (some (r 5 0))) 5 (some (r 0 0)) = rA (rot r) := by
  funext j
  match j with
  | 0 => rfl
  | 1 => rfl
  | 2 => rfl
  | 3 => rfl
  | 4 => rfl
  | 5 => rfl
  | j + 6 =>
    simp only [va_up, rA]
    rw [if_neg (by omega), if_neg (by omega), if_neg (by omega), if_neg (by omega), if_neg (by omega), if_neg (by omega), if_neg (by omega), if_neg (by omega)]
