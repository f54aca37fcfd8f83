def dgT (rf : Nat → Int32) (tl h : Nat) : Nat → Int64
  | 0 => 1837
  | k + 1 => 31 * dgT rf tl h k + (toldF rf tl h k).toInt64
def dgN (ρ : Nat → Int32) (n : Nat) (z : Int64) : Nat → Int64
  | 0 => z
  | k + 1 => 31 * dgN ρ n z k + (countF ρ n k).toInt64
def dgC (ρ : Nat → Int32) (z : Int64) : Nat → Int64
  | 0 => z
  | c + 1 => if ρ (31 + c) = -1 then 31 * dgC ρ z c + (ρ (31 + c)).toInt64 else 31 * (31 * dgC ρ z c + (ρ (31 + c)).toInt64) + (ρ (95 + c)).toInt64
def dgS (ρ : Nat → Int32) (z : Int64) : Nat → Int64
  | 0 => z
  | g + 1 => 31 * dgS ρ z g + (lstF ρ g).toInt64
def dgL (ρ : Nat → Int32) (z : Int64) : Nat → Int64
  | 0 => z
  | k + 1 => 31 * dgL ρ z k + (ρ (7 + k)).toInt64
def dgA (ρ rf : Nat → Int32) (n g tl h : Nat) : Int64 := dgL ρ (dgS ρ (dgC ρ (dgN ρ n (dgT rf tl h 5) 7) n) (n / 4)) (3 * g)
theorem dgC_0 {ρ : Nat → Int32} {z : Int64} {c : Nat} (h : ρ (31 + c) = -1) : dgC ρ z (c + 1) = 31 * dgC ρ z c + (ρ (31 + c)).toInt64 := if_pos h
theorem dgC_1 {ρ : Nat → Int32} {z : Int64} {c : Nat} (h : ¬ ρ (31 + c) = -1) : dgC ρ z (c + 1) = 31 * (31 * dgC ρ z c + (ρ (31 + c)).toInt64) + (ρ (95 + c)).toInt64 := if_neg h
theorem logF_lt {ρ : Nat → Int32} {m i w : Nat} (h : i < m) : logF ρ m i w = ρ (7 + (3 * i + w)) := by unfold logF; rw [if_pos h, Nat.add_assoc]
