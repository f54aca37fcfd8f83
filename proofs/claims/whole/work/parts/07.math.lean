theorem mm_i : Cond.initialized "java/lang/Math" ∈ TB := TB_of 85 (by decide +kernel) (by decide +kernel)
theorem mm_X2_62 : Cond.methodLink RX2 62 Lib.Math.min.name ∈ TB := TB_of 346 (by decide +kernel) (by decide +kernel)
theorem mm_s : Cond.static Lib.Math.min.name ∈ TB := TB_of 347 (by decide +kernel) (by decide +kernel)
theorem mm_c : Cond.code Lib.Math.min.name Lib.Math.min.code 2 (some .int) ∈ TB := TB_of 348 (by decide +kernel) (by decide +kernel)
theorem r_mmin {l : Launch} {X : Cx} {R : Room} {cc : ByteArray} {own : String} {ret : Option FieldType} {D : va_G} {tys : List (ClassId × FieldType)} {A : Nat → Prop} {Q : State → Prop} {k n : Nat} {ws : va_W} {pc : Nat} {lv : Lv} {st : List Value} {a b ix : Nat} (ha : a < 2 ^ 31) (hb : b < 2 ^ 31) (hlk : Cond.methodLink own ix Lib.Math.min.name ∈ TB) (hf : Nat.ble 1 R.frames = true) (hlo : Nat.ble ((st.map fun v => v.category).sum + 13) R.locals = true) (hc : Nat.ble k R.cells = true) (hs : Nat.ble n R.slots = true) (hd : decode cc pc = .ok (.invokestatic ix, 3))
    (kk : G l X R cc own ret D tys A Q k n ws (pc + 3) lv (.int (nI (min a b)) :: st)) : G l X R cc own ret D tys A Q k n ws pc lv (.int (nI b) :: .int (nI a) :: st) := by
  obtain ⟨p, e, s, m, args, below, meth, c⟩ := X
  intro F H locs ls hP hD hS hl
  have hts := F.1.2.2.2.2
  refine va_mmin F.1.1 F.1.2.1 (F.1.2.2.1.trans hl.1.symm) F.1.2.2.2.1 (hts _ hlk) (hts _ mm_s) (hts _ mm_i) (hts _ mm_c) (Nat.le_of_ble_eq_true hf) (Nat.le_of_ble_eq_true hlo) (Nat.le_of_ble_eq_true hc) (Nat.le_of_ble_eq_true hs) hd ?_
  have e2 : (if nI b < nI a then nI b else nI a) = nI (min a b) := by
    by_cases h : b < a
    · rw [if_pos ((nI_lt_iff hb ha).mpr h), Nat.min_eq_right (by omega)]
    · rw [if_neg (fun z => h ((nI_lt_iff hb ha).mp z)), Nat.min_eq_left (by omega)]
  rw [e2]
  exact kk F H locs ls hP hD hS hl
