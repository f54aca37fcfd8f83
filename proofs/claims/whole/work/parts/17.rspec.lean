theorem lk_ne {x k : Int32} {z : Int} (h : ¬ x = k) (hz : k.toInt = z) : ¬ z = x.toInt := fun e => h (Int32.toInt_inj.mp (by rw [← e, hz]))
theorem lk_nil {d k : Int} : Op.lookupswitch.offset [] d k = d := rfl
theorem lk_cons {a o d k : Int} {r : List (Int × Int)} (h : ¬ a = k) (hr : Op.lookupswitch.offset r d k = d) : Op.lookupswitch.offset ((a, o) :: r) d k = d := by
  show (if a = k then o else Op.lookupswitch.offset r d k) = d
  rw [if_neg h]; exact hr
/-! THE READER: kind, first, second, open, orders, numbers, figures -/
abbrev RS : Type := Int32 × Int32 × Int32 × Bool × Nat × Nat × Nat
abbrev rdW (b : Nat) (kd f1 f2 : Int32) (op : Bool) (od nu fg : Nat) : va_W := [(b, .inr (0, [.int kd, .int f1, .int f2, .int (bI op), .int (nI od), .int (nI nu), .int (nI fg)]))]
abbrev rdZ (b : Nat) (z : RS) : va_W := rdW b z.1 z.2.1 z.2.2.1 z.2.2.2.1 z.2.2.2.2.1 z.2.2.2.2.2.1 z.2.2.2.2.2.2
def numOf (c : Int32) : Nat := if c = 100 then 2 else if c = 109 then 1 else if c = 112 then 2 else if c = 116 then 1 else 0
theorem numOf_le (c : Int32) : numOf c ≤ 2 := by
  unfold numOf
  split
  · omega
  · split
    · omega
    · split
      · omega
      · split <;> omega
def kindF (z : RS) (c : Int32) : Int32 × RS := if numOf c = 0 then (0, z) else (1, (c, 0, 0, true, z.2.2.2.2.1, 0, 0))
def figF (kd f1 f2 : Int32) (op : Bool) (od nu fg : Nat) (d : Int32) : Int32 × RS :=
  if fg = 0 then (if nu = numOf kd then (0, (kd, f1, f2, op, od, nu, fg)) else if nu + 1 = 1 then (1, (kd, nI 10 * f1 + d, f2, op, od, nu + 1, fg + 1)) else (1, (kd, f1, nI 10 * f2 + d, op, od, nu + 1, fg + 1)))
  else if fg = 3 then (0, (kd, f1, f2, op, od, nu, fg)) else if nu = 1 then (1, (kd, nI 10 * f1 + d, f2, op, od, nu, fg + 1)) else (1, (kd, f1, nI 10 * f2 + d, op, od, nu, fg + 1))
def takeF (kd f1 f2 : Int32) (op : Bool) (od nu fg : Nat) (c : Int32) : Int32 × RS :=
  if c = nI 32 then (1, (kd, f1, f2, op, od, nu, 0)) else if op = false then kindF (kd, f1, f2, op, od, nu, fg) c else if nI 48 ≤ c ∧ c ≤ nI 57 then figF kd f1 f2 op od nu fg (c - nI 48) else if c = nI 59 ∧ nu = numOf kd then (2, (kd, f1, f2, false, od + 1, nu, fg)) else (0, (kd, f1, f2, op, od, nu, fg))
