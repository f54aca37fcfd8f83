def bI (b : Bool) : Int32 := if b then 1 else 0
theorem bI_t : bI true = 1 := rfl
theorem bI_f : bI false = 0 := rfl
theorem bI_nar (b : Bool) : narrow .boolean (.int (bI b)) = .int (bI b) := by cases b <;> decide +kernel
theorem nI_m1 {c : Nat} (h : 0 < c) : nI c + Int32.ofInt (-1) = nI (c - 1) := by
  obtain ⟨d, rfl⟩ : ∃ d, c = d + 1 := ⟨c - 1, by omega⟩
  rw [nI_succ, Nat.add_sub_cancel, Int32.add_assoc]
  rw [show (1 : Int32) + Int32.ofInt (-1) = 0 by decide +kernel, Int32.add_zero]
abbrev tyS (cA cB : ClassId) : List (ClassId × FieldType) := [(cA, .int), (cB, .object RX1)]
section GB
variable {l : Launch} {X : Cx} {R : Room} {cc : ByteArray} {own : String} {ret : Option FieldType} {D : va_G} {tys : List (ClassId × FieldType)} {A : Nat → Prop} {Q : State → Prop} {k n : Nat} {ws : va_W} {pc : Nat} {lv : Lv} {st : List Value}
theorem r_st {st' : List Value} (h : st = st') (kk : G l X R cc own ret D tys A Q k n ws pc lv st') : G l X R cc own ret D tys A Q k n ws pc lv st := by
  subst h; exact kk
theorem r_lv {lv' : Lv} (h : lv = lv') (kk : G l X R cc own ret D tys A Q k n ws pc lv' st) : G l X R cc own ret D tys A Q k n ws pc lv st := by
  subst h; exact kk
theorem r_bif_eq {b : Bool} {off : Int} (tgt : Nat) (hd : decode cc pc = .ok (.ifCond .eq off, 3)) (ht : (pc : Int) + off = (tgt : Int)) (kt : b = false → G l X R cc own ret D tys A Q k n ws tgt lv st) (kf : b = true → G l X R cc own ret D tys A Q k n ws (pc + 3) lv st) : G l X R cc own ret D tys A Q k n ws pc lv (.int (bI b) :: st) := by
  cases b with
  | false => exact r_if_eq tgt hd ht (fun _ => kt rfl) (fun z => absurd rfl z)
  | true => exact r_if_eq tgt hd ht (fun z => absurd z (by decide +kernel)) (fun _ => kf rfl)
theorem r_bif_ne {b : Bool} {off : Int} (tgt : Nat) (hd : decode cc pc = .ok (.ifCond .ne off, 3)) (ht : (pc : Int) + off = (tgt : Int)) (kt : b = true → G l X R cc own ret D tys A Q k n ws tgt lv st) (kf : b = false → G l X R cc own ret D tys A Q k n ws (pc + 3) lv st) : G l X R cc own ret D tys A Q k n ws pc lv (.int (bI b) :: st) := by
  cases b with
  | false => exact r_if_ne tgt hd ht (fun z => absurd rfl z) (fun _ => kf rfl)
  | true => exact r_if_ne tgt hd ht (fun _ => kt rfl) (fun z => absurd z (by decide +kernel))
end GB
/-- 0 ≤ x ≤ m -/
def wi (x m : Int32) : Bool := decide (0 ≤ x ∧ x ≤ m)
theorem wi_t {x m : Int32} (h0 : ¬ x < 0) (h1 : ¬ m < x) : wi x m = true := decide_eq_true ⟨Int32.not_lt.mp h0, Int32.not_lt.mp h1⟩
theorem wi_f0 {x m : Int32} (h0 : x < 0) : wi x m = false := decide_eq_false (fun h => Int32.not_lt.mpr h.1 h0)
theorem wi_f1 {x m : Int32} (h1 : m < x) : wi x m = false := decide_eq_false (fun h => Int32.not_lt.mpr h.2 h1)
theorem nI_ex {x : Int32} (h : 0 ≤ x) : ∃ a : Nat, a < 2 ^ 31 ∧ x = nI a := by
  refine ⟨x.toInt.toNat, ?_, ?_⟩
  · have := Int32.toInt_lt x
    have h2 := Int32.le_iff_toInt_le.mp h
    rw [show (0 : Int32).toInt = 0 by decide +kernel] at h2
    omega
  · have h2 := Int32.le_iff_toInt_le.mp h
    rw [show (0 : Int32).toInt = 0 by decide +kernel] at h2
    have h3 := Int32.toInt_lt x
    apply Int32.toInt_inj.mp
    rw [nI_toInt (by omega)]
    omega
theorem wi_ex {x : Int32} {m : Nat} (hm : m < 2 ^ 31) (h : wi x (nI m) = true) : ∃ a : Nat, a ≤ m ∧ x = nI a := by
  obtain ⟨h0, h1⟩ := of_decide_eq_true h
  obtain ⟨a, ha, rfl⟩ := nI_ex h0
  exact ⟨a, (nI_le_iff ha hm).mp h1, rfl⟩
theorem wi_n {a b : Nat} (ha : a < 2 ^ 31) (hb : b < 2 ^ 31) : wi (nI a) (nI b) = decide (a ≤ b) := by
  unfold wi
  congr 1
  exact propext ⟨fun h => (nI_le_iff ha hb).mp h.2, fun h => ⟨by rw [← nI_0]; exact (nI_le_iff (by decide) ha).mpr (Nat.zero_le _), (nI_le_iff ha hb).mpr h⟩⟩
theorem nI_nn {a : Nat} (h : a < 2 ^ 31) : 0 ≤ nI a := nI_pos' h
theorem nI_ne_m1 {a : Nat} (h : a < 2 ^ 31) : ¬ nI a = -1 := fun e => by
  have := congrArg Int32.toInt e
  rw [nI_toInt h, show (-1 : Int32).toInt = -1 by decide +kernel] at this
  omega
theorem upd_s (f : Nat → Int32) (k : Nat) (x : Int32) : upd f k x k = x := by simp [upd]
theorem upd_n (f : Nat → Int32) {k j : Nat} (x : Int32) (h : ¬ j = k) : upd f k x j = f j := by simp [upd, h]
