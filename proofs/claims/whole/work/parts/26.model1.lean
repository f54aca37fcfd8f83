set_option maxRecDepth 100000 in
set_option maxHeartbeats 4000000 in
theorem c_X5_in (l : Launch) (D : va_G) (cA cB : ClassId) (x lo hi : Int32) : Mt l D (tyS cA cB) yX5_in cX5_in 3 (some .boolean) ({ frames := 0, cells := 0, slots := 0, locals := 0 } : Room) [.int (x), .int (lo), .int (hi)] ([]) Unit (fun v _ => v = some (.int (bI (inB x lo hi)))) (fun _ => []) 0 0 := by
  refine mt_in RX5 ([some (.int (x)), some (.int (lo)), some (.int (hi))]) rfl (by decide +kernel) rfl (Nat.le_of_ble_eq_true rfl) rfl rfl (fun X sz => ?_)
  refine r_iload_n 0 dX5_in_0 rfl rfl ?_
  refine r_iload_n 1 dX5_in_1 rfl rfl ?_
  refine r_icmp_lt 14 dX5_in_2 (by decide) (fun hq1 => ?_) (fun hq1 => ?_)
  · refine r_iconst (nI 0) dX5_in_14 (by decide +kernel) ?_
    exact r_zret (()) (by decide +kernel) dX5_in_15 (by first | (rw [inB_f0 hq1]; rfl) | (rw [inB_f1 hq2]; rfl) | (rw [inB_t hq1 hq2]; rfl)) (rfl)
  · refine r_iload_n 0 dX5_in_5 rfl rfl ?_
    refine r_iload_n 2 dX5_in_6 rfl rfl ?_
    refine r_icmp_gt 14 dX5_in_7 (by decide) (fun hq2 => ?_) (fun hq2 => ?_)
    · refine r_iconst (nI 0) dX5_in_14 (by decide +kernel) ?_
      exact r_zret (()) (by decide +kernel) dX5_in_15 (by first | (rw [inB_f0 hq1]; rfl) | (rw [inB_f1 hq2]; rfl) | (rw [inB_t hq1 hq2]; rfl)) (rfl)
    · refine r_iconst (nI 1) dX5_in_10 (by decide +kernel) ?_
      refine r_goto 15 dX5_in_11 (by decide) ?_
      exact r_zret (()) (by decide +kernel) dX5_in_15 (by first | (rw [inB_f0 hq1]; rfl) | (rw [inB_f1 hq2]; rfl) | (rw [inB_t hq1 hq2]; rfl)) (rfl)

theorem c_X5_in0 (l : Launch) (D : va_G) (cA cB : ClassId) (x hi : Int32) : Mt l D (tyS cA cB) yX5_in cX5_in 3 (some .boolean) ({ frames := 0, cells := 0, slots := 0, locals := 0 } : Room) [.int x, .int (nI 0), .int hi] ([]) Unit (fun v _ => v = some (.int (bI (wi x hi)))) (fun _ => []) 0 0 := c_X5_in l D cA cB x (nI 0) hi
set_option maxRecDepth 100000 in
set_option maxHeartbeats 4000000 in
theorem c_X5_answers_2 (l : Launch) (D : va_G) (cA cB : ClassId) (m : Nat → Nat) (ρ P : Nat → Int32) (hs : Int32) (α rf K V C : Nat → Int32) (my cm : Int32) (tx : Nat → Int32) (tl sp : Int32) (od : Nat → Int32) (no ft : Int32)  : Mt l D (tyS cA cB) yX5_answers cX5_answers 3 (some .int) ({ frames := 0, cells := 0, slots := 0, locals := 0 } : Room) [.ref (m 0), .int (-2), .int (nI 1)] (mdW cA m ρ P hs α rf K V C my cm tx tl sp od no ft) Unit (fun v _ => v = some (.int (-2))) (fun _ => mdW cA m ρ P hs α (badR rf) K V C my cm tx tl sp od no ft) 0 0 := by
  refine mt_in RX5 ([some (.ref (m 0)), some (.int (-2)), some (.int (nI 1))]) rfl (by decide +kernel) rfl (Nat.le_of_ble_eq_true rfl) rfl rfl (fun X sz => ?_)
  refine r_iload_n 2 dX5_answers_0 rfl rfl ?_
  refine r_if_eq 17 dX5_answers_1 (by decide) (fun hq1 => ?_) (fun hq1 => ?_)
  · exact absurd hq1 (by decide +kernel)
  · refine r_aload_n 0 dX5_answers_4 rfl rfl ?_
    refine r_get 0 fk_X5_19 dX5_answers_5 rfl rfl ?_
    refine r_bipush (-2) dX5_answers_8 (by decide +kernel) ?_
    refine r_iload_n 1 dX5_answers_10 rfl rfl ?_
    refine r_isub dX5_answers_11 ?_
    refine r_top (y := nI 0) (by decide +kernel) ?_
    refine r_dup2 rfl rfl dX5_answers_12 ?_
    refine r_iald 4 (0) dX5_answers_13 rfl rfl rfl (by omega) (Nat.le_of_ble_eq_true rfl) ?_
    refine r_iconst (nI 1) dX5_answers_14 (by decide +kernel) ?_
    refine r_iadd dX5_answers_15 ?_
    refine r_iast 4 (0) (mdW cA m ρ P hs α (upd rf 0 ((rf 0) + (nI (1)))) K V C my cm tx tl sp od no ft) dX5_answers_16 rfl rfl rfl (by omega) (Nat.le_of_ble_eq_true rfl) rfl ?_
    refine r_iload_n 1 dX5_answers_17 rfl rfl ?_
    exact r_iret (()) dX5_answers_18 (rfl) (rfl)

set_option maxRecDepth 100000 in
set_option maxHeartbeats 4000000 in
theorem c_X5_answers_3 (l : Launch) (D : va_G) (cA cB : ClassId) (m : Nat → Nat) (ρ P : Nat → Int32) (hs : Int32) (α rf K V C : Nat → Int32) (my cm : Int32) (tx : Nat → Int32) (tl sp : Int32) (od : Nat → Int32) (no ft : Int32)  : Mt l D (tyS cA cB) yX5_answers cX5_answers 3 (some .int) ({ frames := 0, cells := 0, slots := 0, locals := 0 } : Room) [.ref (m 0), .int (-3), .int (nI 1)] (mdW cA m ρ P hs α rf K V C my cm tx tl sp od no ft) Unit (fun v _ => v = some (.int (-3))) (fun _ => mdW cA m ρ P hs α (noR rf) K V C my cm tx tl sp od no ft) 0 0 := by
  refine mt_in RX5 ([some (.ref (m 0)), some (.int (-3)), some (.int (nI 1))]) rfl (by decide +kernel) rfl (Nat.le_of_ble_eq_true rfl) rfl rfl (fun X sz => ?_)
  refine r_iload_n 2 dX5_answers_0 rfl rfl ?_
  refine r_if_eq 17 dX5_answers_1 (by decide) (fun hq1 => ?_) (fun hq1 => ?_)
  · exact absurd hq1 (by decide +kernel)
  · refine r_aload_n 0 dX5_answers_4 rfl rfl ?_
    refine r_get 0 fk_X5_19 dX5_answers_5 rfl rfl ?_
    refine r_bipush (-2) dX5_answers_8 (by decide +kernel) ?_
    refine r_iload_n 1 dX5_answers_10 rfl rfl ?_
    refine r_isub dX5_answers_11 ?_
    refine r_top (y := nI 1) (by decide +kernel) ?_
    refine r_dup2 rfl rfl dX5_answers_12 ?_
    refine r_iald 4 (1) dX5_answers_13 rfl rfl rfl (by omega) (Nat.le_of_ble_eq_true rfl) ?_
    refine r_iconst (nI 1) dX5_answers_14 (by decide +kernel) ?_
    refine r_iadd dX5_answers_15 ?_
    refine r_iast 4 (1) (mdW cA m ρ P hs α (upd rf 1 ((rf 1) + (nI (1)))) K V C my cm tx tl sp od no ft) dX5_answers_16 rfl rfl rfl (by omega) (Nat.le_of_ble_eq_true rfl) rfl ?_
    refine r_iload_n 1 dX5_answers_17 rfl rfl ?_
    exact r_iret (()) dX5_answers_18 (rfl) (rfl)

set_option maxRecDepth 100000 in
set_option maxHeartbeats 4000000 in
theorem c_X5_answers_4 (l : Launch) (D : va_G) (cA cB : ClassId) (m : Nat → Nat) (ρ P : Nat → Int32) (hs : Int32) (α rf K V C : Nat → Int32) (my cm : Int32) (tx : Nat → Int32) (tl sp : Int32) (od : Nat → Int32) (no ft : Int32)  : Mt l D (tyS cA cB) yX5_answers cX5_answers 3 (some .int) ({ frames := 0, cells := 0, slots := 0, locals := 0 } : Room) [.ref (m 0), .int (-4), .int (nI 1)] (mdW cA m ρ P hs α rf K V C my cm tx tl sp od no ft) Unit (fun v _ => v = some (.int (-4))) (fun _ => mdW cA m ρ P hs α (fulR rf) K V C my cm tx tl sp od no ft) 0 0 := by
  refine mt_in RX5 ([some (.ref (m 0)), some (.int (-4)), some (.int (nI 1))]) rfl (by decide +kernel) rfl (Nat.le_of_ble_eq_true rfl) rfl rfl (fun X sz => ?_)
  refine r_iload_n 2 dX5_answers_0 rfl rfl ?_
  refine r_if_eq 17 dX5_answers_1 (by decide) (fun hq1 => ?_) (fun hq1 => ?_)
  · exact absurd hq1 (by decide +kernel)
  · refine r_aload_n 0 dX5_answers_4 rfl rfl ?_
    refine r_get 0 fk_X5_19 dX5_answers_5 rfl rfl ?_
    refine r_bipush (-2) dX5_answers_8 (by decide +kernel) ?_
    refine r_iload_n 1 dX5_answers_10 rfl rfl ?_
    refine r_isub dX5_answers_11 ?_
    refine r_top (y := nI 2) (by decide +kernel) ?_
    refine r_dup2 rfl rfl dX5_answers_12 ?_
    refine r_iald 4 (2) dX5_answers_13 rfl rfl rfl (by omega) (Nat.le_of_ble_eq_true rfl) ?_
    refine r_iconst (nI 1) dX5_answers_14 (by decide +kernel) ?_
    refine r_iadd dX5_answers_15 ?_
    refine r_iast 4 (2) (mdW cA m ρ P hs α (upd rf 2 ((rf 2) + (nI (1)))) K V C my cm tx tl sp od no ft) dX5_answers_16 rfl rfl rfl (by omega) (Nat.le_of_ble_eq_true rfl) rfl ?_
    refine r_iload_n 1 dX5_answers_17 rfl rfl ?_
    exact r_iret (()) dX5_answers_18 (rfl) (rfl)

set_option maxRecDepth 100000 in
set_option maxHeartbeats 4000000 in
theorem c_X5_bad (l : Launch) (D : va_G) (cA cB : ClassId) (m : Nat → Nat) (ρ P : Nat → Int32) (hs : Int32) (α rf K V C : Nat → Int32) (my cm : Int32) (tx : Nat → Int32) (tl sp : Int32) (od : Nat → Int32) (no ft : Int32)  : Mt l D (tyS cA cB) yX5_bad cX5_bad 1 (some .int) ({ frames := 1, cells := 0, slots := 0, locals := 22 } : Room) [.ref (m 0)] (mdW cA m ρ P hs α rf K V C my cm tx tl sp od no ft) Unit (fun v _ => v = some (.int (-2))) (fun _ => mdW cA m ρ P hs α (badR rf) K V C my cm tx tl sp od no ft) 0 0 := by
  refine mt_in RX5 ([some (.ref (m 0))]) rfl (by decide +kernel) rfl (Nat.le_of_ble_eq_true rfl) rfl rfl (fun X sz => ?_)
  refine r_aload_n 0 dX5_bad_0 rfl rfl ?_
  refine r_bipush (-2) dX5_bad_1 (by decide +kernel) ?_
  refine r_iconst (nI 1) dX5_bad_3 (by decide +kernel) ?_
  refine r_callV2 (As := [.int (-2), .int (nI 1)]) (st := []) (fun _ => mdW cA m ρ P hs α (badR rf) K V C my cm tx tl sp od no ft) [mdW cA m ρ P hs α rf K V C my cm tx tl sp od no ft] [mdW cA m ρ P hs α rf K V C my cm tx tl sp od no ft] [] (fun _ => [mdW cA m ρ P hs α (badR rf) K V C my cm tx tl sp od no ft]) (fun _ => [mdW cA m ρ P hs α (badR rf) K V C my cm tx tl sp od no ft]) (c_X5_answers_2 l D cA cB m ρ P hs α rf K V C my cm tx tl sp od no ft ) kv_X5_answers ml_X5_41 dX5_bad_4 rfl rfl rfl rfl (segOk [0] rfl rfl rfl rfl) (fun _ => segOk [0] rfl rfl rfl rfl) rfl (Nat.le_of_ble_eq_true rfl) (fun v u h => ?_)
  subst h
  refine r_st (st' := [.int (-2)]) rfl ?_
  exact r_iret (()) dX5_bad_7 (rfl) (rfl)

set_option maxRecDepth 100000 in
set_option maxHeartbeats 4000000 in
theorem c_X5_wide (l : Launch) (D : va_G) (cA cB : ClassId) (n : Nat) (hn : n ≤ 4) : Mt l D (tyS cA cB) yX5_wide cX5_wide 1 (some .int) ({ frames := 0, cells := 0, slots := 0, locals := 0 } : Room) [.int (nI n)] ([]) Unit (fun v _ => v = some (.int (nI (4 * 2 ^ n)))) (fun _ => []) 0 0 := by
  refine mt_in RX5 ([some (.int (nI n))]) rfl (by decide +kernel) rfl (Nat.le_of_ble_eq_true rfl) rfl rfl (fun X sz => ?_)
  refine r_iconst (nI 4) dX5_wide_0 (by decide +kernel) ?_
  refine r_iload_n 0 dX5_wide_1 rfl rfl ?_
  refine r_ishl dX5_wide_2 ?_
  refine r_top (shl4 n hn) ?_
  exact r_iret (()) dX5_wide_3 (rfl) (rfl)

set_option maxRecDepth 100000 in
set_option maxHeartbeats 4000000 in
theorem c_X5_top (l : Launch) (D : va_G) (cA cB : ClassId) (m : Nat → Nat) (ρ P : Nat → Int32) (hs : Int32) (α rf K V C : Nat → Int32) (my cm : Int32) (tx : Nat → Int32) (tl sp : Int32) (od : Nat → Int32) (no ft : Int32) (n : Nat) (hsz : ρ 0 = nI n) (h3 : n = 16 ∨ n = 32 ∨ n = 64)  : Mt l D (tyS cA cB) yX5_top cX5_top 1 (some .int) ({ frames := 0, cells := 0, slots := 0, locals := 0 } : Room) [.ref (m 0)] (mdW cA m ρ P hs α rf K V C my cm tx tl sp od no ft) Unit (fun v _ => v = some (.int (nI (topN n)))) (fun _ => mdW cA m ρ P hs α rf K V C my cm tx tl sp od no ft) 0 0 := by
  refine mt_in RX5 ([some (.ref (m 0))]) rfl (by decide +kernel) rfl (Nat.le_of_ble_eq_true rfl) rfl rfl (fun X sz => ?_)
  have hb := n16 h3
  refine r_aload_n 0 dX5_top_0 rfl rfl ?_
  refine r_get 0 fk_X5_7 dX5_top_1 rfl rfl ?_
  refine r_iconst (nI 0) dX5_top_4 (by decide +kernel) ?_
  refine r_iald 1 (0) dX5_top_5 rfl rfl rfl (by omega) (Nat.le_of_ble_eq_true rfl) ?_
  refine r_top (y := nI (n)) (hsz) ?_
  refine r_bipush (nI 16) dX5_top_6 (by decide +kernel) ?_
  refine r_ncmp_ne 15 (by omega) (by omega) dX5_top_8 (by decide) (fun hq1 => ?_) (fun hq1 => ?_)
  · refine r_aload_n 0 dX5_top_15 rfl rfl ?_
    refine r_get 0 fk_X5_7 dX5_top_16 rfl rfl ?_
    refine r_iconst (nI 0) dX5_top_19 (by decide +kernel) ?_
    refine r_iald 1 (0) dX5_top_20 rfl rfl rfl (by omega) (Nat.le_of_ble_eq_true rfl) ?_
    refine r_top (y := nI (n)) (hsz) ?_
    refine r_bipush (nI 32) dX5_top_21 (by decide +kernel) ?_
    refine r_ncmp_ne 30 (by omega) (by omega) dX5_top_23 (by decide) (fun hq2 => ?_) (fun hq2 => ?_)
    · refine r_iconst (nI 4) dX5_top_30 (by decide +kernel) ?_
      exact r_iret (()) dX5_top_31 (by rcases h3 with rfl | rfl | rfl <;> first | rfl | omega) (rfl)
    · refine r_iconst (nI 3) dX5_top_26 (by decide +kernel) ?_
      refine r_goto 31 dX5_top_27 (by decide) ?_
      exact r_iret (()) dX5_top_31 (by rcases h3 with rfl | rfl | rfl <;> first | rfl | omega) (rfl)
  · refine r_iconst (nI 2) dX5_top_11 (by decide +kernel) ?_
    refine r_goto 31 dX5_top_12 (by decide) ?_
    exact r_iret (()) dX5_top_31 (by rcases h3 with rfl | rfl | rfl <;> first | rfl | omega) (rfl)

set_option maxRecDepth 100000 in
set_option maxHeartbeats 4000000 in
theorem c_X5_most (l : Launch) (D : va_G) (cA cB : ClassId) (m : Nat → Nat) (ρ P : Nat → Int32) (hs : Int32) (α rf K V C : Nat → Int32) (my cm : Int32) (tx : Nat → Int32) (tl sp : Int32) (od : Nat → Int32) (no ft : Int32) (n : Nat) (hsz : ρ 0 = nI n) (h3 : n = 16 ∨ n = 32 ∨ n = 64) (i : Nat) (hi : i ≤ 4) : Mt l D (tyS cA cB) yX5_most cX5_most 2 (some .int) ({ frames := 1, cells := 0, slots := 0, locals := 20 } : Room) [.ref (m 0), .int (nI i)] (mdW cA m ρ P hs α rf K V C my cm tx tl sp od no ft) Unit (fun v _ => v = some (.int (nI (mostN n i)))) (fun _ => mdW cA m ρ P hs α rf K V C my cm tx tl sp od no ft) 0 0 := by
  refine mt_in RX5 ([some (.ref (m 0)), some (.int (nI i))]) rfl (by decide +kernel) rfl (Nat.le_of_ble_eq_true rfl) rfl rfl (fun X sz => ?_)
  have hb := n16 h3
  have ht := top_le (sz := n)
  have hq := Nat.div_le_self (25 * i) (topN n)
  have hq5 := Nat.div_le_self (5 * i) (topN n)
  have hp := pow4 i hi
  have hx : 4 * 2 ^ i * (100 - 25 * i / topN n) ≤ 64 * 100 := Nat.mul_le_mul hp (Nat.sub_le _ _)
  have hy : 4 * 2 ^ i * (25 + 5 * i / topN n) ≤ 64 * 45 := Nat.mul_le_mul hp (by omega)
  refine r_iload_n 1 dX5_most_0 rfl rfl ?_
  refine r_callS2 (As := [.int (nI i)]) (st := []) (fun _ => mdW cA m ρ P hs α rf K V C my cm tx tl sp od no ft) [mdW cA m ρ P hs α rf K V C my cm tx tl sp od no ft] [] [mdW cA m ρ P hs α rf K V C my cm tx tl sp od no ft] (fun _ => [mdW cA m ρ P hs α rf K V C my cm tx tl sp od no ft]) (fun _ => []) (c_X5_wide l D cA cB (i) (by omega)) ks_X5_wide ml_X5_45 dX5_most_1 rfl rfl (segOk [0] rfl rfl rfl rfl) (fun _ => segOk [0] rfl rfl rfl rfl) rfl (Nat.le_of_ble_eq_true rfl) (fun v u h => ?_)
  subst h
  refine r_st (st' := [.int (nI (4 * 2 ^ i))]) rfl ?_
  refine r_bipush (nI 100) dX5_most_4 (by decide +kernel) ?_
  refine r_bipush (nI 25) dX5_most_6 (by decide +kernel) ?_
  refine r_iload_n 1 dX5_most_8 rfl rfl ?_
  refine r_nimul dX5_most_9 ?_
  refine r_aload_n 0 dX5_most_10 rfl rfl ?_
  refine r_callV2 (As := []) (st := [.int (nI (25 * i)), .int (nI 100), .int (nI (4 * 2 ^ i))]) (fun _ => mdW cA m ρ P hs α rf K V C my cm tx tl sp od no ft) [mdW cA m ρ P hs α rf K V C my cm tx tl sp od no ft] [mdW cA m ρ P hs α rf K V C my cm tx tl sp od no ft] [] (fun _ => [mdW cA m ρ P hs α rf K V C my cm tx tl sp od no ft]) (fun _ => [mdW cA m ρ P hs α rf K V C my cm tx tl sp od no ft]) (c_X5_top l D cA cB m ρ P hs α rf K V C my cm tx tl sp od no ft n (hsz) h3 ) kv_X5_top ml_X5_49 dX5_most_11 rfl rfl rfl rfl (segOk [0] rfl rfl rfl rfl) (fun _ => segOk [0] rfl rfl rfl rfl) rfl (Nat.le_of_ble_eq_true rfl) (fun v u h => ?_)
  subst h
  refine r_st (st' := [.int (nI (topN n)), .int (nI (25 * i)), .int (nI 100), .int (nI (4 * 2 ^ i))]) rfl ?_
  refine r_nidiv (by omega) (by omega) (by omega) dX5_most_14 ?_
  refine r_nisub (by omega) dX5_most_15 ?_
  refine r_nimul dX5_most_16 ?_
  refine r_bipush (nI 100) dX5_most_17 (by decide +kernel) ?_
  refine r_nidiv (by omega) (by omega) (by omega) dX5_most_19 ?_
  exact r_iret (()) dX5_most_20 (rfl) (rfl)

set_option maxRecDepth 100000 in
set_option maxHeartbeats 4000000 in
theorem c_X5_least (l : Launch) (D : va_G) (cA cB : ClassId) (m : Nat → Nat) (ρ P : Nat → Int32) (hs : Int32) (α rf K V C : Nat → Int32) (my cm : Int32) (tx : Nat → Int32) (tl sp : Int32) (od : Nat → Int32) (no ft : Int32) (n : Nat) (hsz : ρ 0 = nI n) (h3 : n = 16 ∨ n = 32 ∨ n = 64) (i : Nat) (hi : i ≤ 4) : Mt l D (tyS cA cB) yX5_least cX5_least 2 (some .int) ({ frames := 1, cells := 0, slots := 0, locals := 20 } : Room) [.ref (m 0), .int (nI i)] (mdW cA m ρ P hs α rf K V C my cm tx tl sp od no ft) Unit (fun v _ => v = some (.int (nI (leastN n i)))) (fun _ => mdW cA m ρ P hs α rf K V C my cm tx tl sp od no ft) 0 0 := by
  refine mt_in RX5 ([some (.ref (m 0)), some (.int (nI i))]) rfl (by decide +kernel) rfl (Nat.le_of_ble_eq_true rfl) rfl rfl (fun X sz => ?_)
  have hb := n16 h3
  have ht := top_le (sz := n)
  have hq := Nat.div_le_self (25 * i) (topN n)
  have hq5 := Nat.div_le_self (5 * i) (topN n)
  have hp := pow4 i hi
  have hx : 4 * 2 ^ i * (100 - 25 * i / topN n) ≤ 64 * 100 := Nat.mul_le_mul hp (Nat.sub_le _ _)
  have hy : 4 * 2 ^ i * (25 + 5 * i / topN n) ≤ 64 * 45 := Nat.mul_le_mul hp (by omega)
  refine r_iload_n 1 dX5_least_0 rfl rfl ?_
  refine r_callS2 (As := [.int (nI i)]) (st := []) (fun _ => mdW cA m ρ P hs α rf K V C my cm tx tl sp od no ft) [mdW cA m ρ P hs α rf K V C my cm tx tl sp od no ft] [] [mdW cA m ρ P hs α rf K V C my cm tx tl sp od no ft] (fun _ => [mdW cA m ρ P hs α rf K V C my cm tx tl sp od no ft]) (fun _ => []) (c_X5_wide l D cA cB (i) (by omega)) ks_X5_wide ml_X5_45 dX5_least_1 rfl rfl (segOk [0] rfl rfl rfl rfl) (fun _ => segOk [0] rfl rfl rfl rfl) rfl (Nat.le_of_ble_eq_true rfl) (fun v u h => ?_)
  subst h
  refine r_st (st' := [.int (nI (4 * 2 ^ i))]) rfl ?_
  refine r_bipush (nI 25) dX5_least_4 (by decide +kernel) ?_
  refine r_iconst (nI 5) dX5_least_6 (by decide +kernel) ?_
  refine r_iload_n 1 dX5_least_7 rfl rfl ?_
  refine r_nimul dX5_least_8 ?_
  refine r_aload_n 0 dX5_least_9 rfl rfl ?_
  refine r_callV2 (As := []) (st := [.int (nI (5 * i)), .int (nI 25), .int (nI (4 * 2 ^ i))]) (fun _ => mdW cA m ρ P hs α rf K V C my cm tx tl sp od no ft) [mdW cA m ρ P hs α rf K V C my cm tx tl sp od no ft] [mdW cA m ρ P hs α rf K V C my cm tx tl sp od no ft] [] (fun _ => [mdW cA m ρ P hs α rf K V C my cm tx tl sp od no ft]) (fun _ => [mdW cA m ρ P hs α rf K V C my cm tx tl sp od no ft]) (c_X5_top l D cA cB m ρ P hs α rf K V C my cm tx tl sp od no ft n (hsz) h3 ) kv_X5_top ml_X5_49 dX5_least_10 rfl rfl rfl rfl (segOk [0] rfl rfl rfl rfl) (fun _ => segOk [0] rfl rfl rfl rfl) rfl (Nat.le_of_ble_eq_true rfl) (fun v u h => ?_)
  subst h
  refine r_st (st' := [.int (nI (topN n)), .int (nI (5 * i)), .int (nI 25), .int (nI (4 * 2 ^ i))]) rfl ?_
  refine r_nidiv (by omega) (by omega) (by omega) dX5_least_13 ?_
  refine r_niadd dX5_least_14 ?_
  refine r_nimul dX5_least_15 ?_
  refine r_bipush (nI 100) dX5_least_16 (by decide +kernel) ?_
  refine r_nidiv (by omega) (by omega) (by omega) dX5_least_18 ?_
  exact r_iret (()) dX5_least_19 (rfl) (rfl)

set_option maxRecDepth 100000 in
set_option maxHeartbeats 4000000 in
theorem lp_X5_keysIn (l : Launch) (D : va_G) (cA cB : ClassId) (m : Nat → Nat) (ρ P : Nat → Int32) (hs : Int32) (α rf K V C : Nat → Int32) (my cm : Int32) (tx : Nat → Int32) (tl sp : Int32) (od : Nat → Int32) (no ft : Int32) (a n : Nat) (hn : a + n ≤ 64) (X : Cx) (sz : Nat) : ∀ (f i c x : Nat), c = a + i → x = cnt ρ a i → i ≤ n → n < i + f → G l X ({ frames := 0, cells := 0, slots := 0, locals := 0 } : Room) cX5_keysIn RX5 (some .int) D (tyS cA cB) (va_A (mdW cA m ρ P hs α rf K V C my cm tx tl sp od no ft) sz) (QX X D (tyS cA cB) (mdW cA m ρ P hs α rf K V C my cm tx tl sp od no ft) sz Unit (fun v _ => v = some (.int (nI (cnt ρ a n)))) (fun _ => mdW cA m ρ P hs α rf K V C my cm tx tl sp od no ft) 0 0) 0 0 (mdW cA m ρ P hs α rf K V C my cm tx tl sp od no ft) 5 ([some (.ref (m 0)), some (.int (nI a)), some (.int (nI n)), some (.int (nI x)), some (.int (nI c))]) [] := by
  intro f
  induction f with
  | zero => intro i c x hc hx h1 h2; omega
  | succ f ih =>
    intro i c x hc hx hi hf
    have hy := cnt_le ρ a i
    refine r_iload dX5_keysIn_5 rfl ?_
    refine r_iload_n 1 dX5_keysIn_7 rfl rfl ?_
    refine r_iload_n 2 dX5_keysIn_8 rfl rfl ?_
    refine r_niadd dX5_keysIn_9 ?_
    refine r_ncmp_ge 41 (by omega) (by omega) dX5_keysIn_10 (by decide) (fun hq1 => ?_) (fun hq1 => ?_)
    · refine r_iload_n 3 dX5_keysIn_41 rfl rfl ?_
      exact r_iret (()) dX5_keysIn_42 (by rw [hx, show i = n by omega]) (rfl)
    · refine r_iload_n 3 dX5_keysIn_13 rfl rfl ?_
      refine r_aload_n 0 dX5_keysIn_14 rfl rfl ?_
      refine r_get 0 fk_X5_7 dX5_keysIn_15 rfl rfl ?_
      refine r_bipush (nI 31) dX5_keysIn_18 (by decide +kernel) ?_
      refine r_iload dX5_keysIn_20 rfl ?_
      refine r_niadd dX5_keysIn_22 ?_
      refine r_iald 1 (31 + c) dX5_keysIn_23 rfl rfl rfl (by omega) (Nat.le_of_ble_eq_true rfl) ?_
      refine r_iconst (-1) dX5_keysIn_24 (by decide +kernel) ?_
      refine r_icmp_ne 32 dX5_keysIn_25 (by decide) (fun hq2 => ?_) (fun hq2 => ?_)
      · refine r_iconst (nI 1) dX5_keysIn_32 (by decide +kernel) ?_
        refine r_niadd dX5_keysIn_33 ?_
        refine r_istore_n 3 ([some (.ref (m 0)), some (.int (nI a)), some (.int (nI n)), some (.int (nI (x + 1))), some (.int (nI c))]) dX5_keysIn_34 rfl (Nat.le_of_ble_eq_true rfl) rfl rfl ?_
        refine r_iinc (v := nI (c + 1)) ([some (.ref (m 0)), some (.int (nI a)), some (.int (nI n)), some (.int (nI (x + 1))), some (.int (nI (c + 1)))]) dX5_keysIn_35 rfl (nI_1 _) (Nat.le_of_ble_eq_true rfl) rfl rfl ?_
        refine r_goto 5 dX5_keysIn_38 (by decide) ?_
        exact ih (i + 1) _ _ (by omega) (by rw [hx, cnt_s1 (by rw [← hc]; exact hq2)] <;> rfl) (by omega) (by omega)
      · refine r_iconst (nI 0) dX5_keysIn_28 (by decide +kernel) ?_
        refine r_goto 33 dX5_keysIn_29 (by decide) ?_
        refine r_niadd dX5_keysIn_33 ?_
        refine r_istore_n 3 ([some (.ref (m 0)), some (.int (nI a)), some (.int (nI n)), some (.int (nI (x + 0))), some (.int (nI c))]) dX5_keysIn_34 rfl (Nat.le_of_ble_eq_true rfl) rfl rfl ?_
        refine r_iinc (v := nI (c + 1)) ([some (.ref (m 0)), some (.int (nI a)), some (.int (nI n)), some (.int (nI (x + 0))), some (.int (nI (c + 1)))]) dX5_keysIn_35 rfl (nI_1 _) (Nat.le_of_ble_eq_true rfl) rfl rfl ?_
        refine r_goto 5 dX5_keysIn_38 (by decide) ?_
        exact ih (i + 1) _ _ (by omega) (by rw [hx, cnt_s0 (by rw [← hc]; exact hq2)] <;> rfl) (by omega) (by omega)

set_option maxRecDepth 100000 in
set_option maxHeartbeats 4000000 in
theorem c_X5_keysIn (l : Launch) (D : va_G) (cA cB : ClassId) (m : Nat → Nat) (ρ P : Nat → Int32) (hs : Int32) (α rf K V C : Nat → Int32) (my cm : Int32) (tx : Nat → Int32) (tl sp : Int32) (od : Nat → Int32) (no ft : Int32) (a n : Nat) (hn : a + n ≤ 64) : Mt l D (tyS cA cB) yX5_keysIn cX5_keysIn 5 (some .int) ({ frames := 0, cells := 0, slots := 0, locals := 0 } : Room) [.ref (m 0), .int (nI a), .int (nI n)] (mdW cA m ρ P hs α rf K V C my cm tx tl sp od no ft) Unit (fun v _ => v = some (.int (nI (cnt ρ a n)))) (fun _ => mdW cA m ρ P hs α rf K V C my cm tx tl sp od no ft) 0 0 := by
  refine mt_in RX5 ([some (.ref (m 0)), some (.int (nI a)), some (.int (nI n)), none, none]) rfl (by decide +kernel) rfl (Nat.le_of_ble_eq_true rfl) rfl rfl (fun X sz => ?_)
  refine r_iconst (nI 0) dX5_keysIn_0 (by decide +kernel) ?_
  refine r_istore_n 3 ([some (.ref (m 0)), some (.int (nI a)), some (.int (nI n)), some (.int (nI 0)), none]) dX5_keysIn_1 rfl (Nat.le_of_ble_eq_true rfl) rfl rfl ?_
  refine r_iload_n 1 dX5_keysIn_2 rfl rfl ?_
  refine r_istore ([some (.ref (m 0)), some (.int (nI a)), some (.int (nI n)), some (.int (nI 0)), some (.int (nI a))]) dX5_keysIn_3 (Nat.le_of_ble_eq_true rfl) rfl rfl ?_
  exact lp_X5_keysIn l D cA cB m ρ P hs α rf K V C my cm tx tl sp od no ft a n hn X sz (n + 1) 0 a 0 rfl rfl (by omega) (by omega)

set_option maxRecDepth 100000 in
set_option maxHeartbeats 4000000 in
theorem lp_X5_cellOf (l : Launch) (D : va_G) (cA cB : ClassId) (m : Nat → Nat) (ρ P : Nat → Int32) (hs : Int32) (α rf K V C : Nat → Int32) (my cm : Int32) (tx : Nat → Int32) (tl sp : Int32) (od : Nat → Int32) (no ft : Int32) (n : Nat) (hsz : ρ 0 = nI n) (h3 : n = 16 ∨ n = 32 ∨ n = 64) (k : Int32) (X : Cx) (sz : Nat) : ∀ (f c : Nat) (x : Int32), x = lastF ρ k c → c ≤ n → n < c + f → G l X ({ frames := 0, cells := 0, slots := 0, locals := 0 } : Room) cX5_cellOf RX5 (some .int) D (tyS cA cB) (va_A (mdW cA m ρ P hs α rf K V C my cm tx tl sp od no ft) sz) (QX X D (tyS cA cB) (mdW cA m ρ P hs α rf K V C my cm tx tl sp od no ft) sz Unit (fun v _ => v = some (.int (lastF ρ k n))) (fun _ => mdW cA m ρ P hs α rf K V C my cm tx tl sp od no ft) 0 0) 0 0 (mdW cA m ρ P hs α rf K V C my cm tx tl sp od no ft) 4 ([some (.ref (m 0)), some (.int (k)), some (.int (x)), some (.int (nI c))]) [] := by
  intro f
  induction f with
  | zero => intro c x _ h1 h2; omega
  | succ f ih =>
    intro c x hx hc hf
    have hb := n16 h3
    refine r_iload_n 3 dX5_cellOf_4 rfl rfl ?_
    refine r_aload_n 0 dX5_cellOf_5 rfl rfl ?_
    refine r_get 0 fk_X5_7 dX5_cellOf_6 rfl rfl ?_
    refine r_iconst (nI 0) dX5_cellOf_9 (by decide +kernel) ?_
    refine r_iald 1 (0) dX5_cellOf_10 rfl rfl rfl (by omega) (Nat.le_of_ble_eq_true rfl) ?_
    refine r_top (y := nI (n)) (hsz) ?_
    refine r_ncmp_ge 39 (by omega) (by omega) dX5_cellOf_11 (by decide) (fun hq1 => ?_) (fun hq1 => ?_)
    · refine r_iload_n 2 dX5_cellOf_39 rfl rfl ?_
      exact r_iret (()) dX5_cellOf_40 (by rw [hx, show c = n by omega]) (rfl)
    · refine r_aload_n 0 dX5_cellOf_14 rfl rfl ?_
      refine r_get 0 fk_X5_7 dX5_cellOf_15 rfl rfl ?_
      refine r_bipush (nI 31) dX5_cellOf_18 (by decide +kernel) ?_
      refine r_iload_n 3 dX5_cellOf_20 rfl rfl ?_
      refine r_niadd dX5_cellOf_21 ?_
      refine r_iald 1 (31 + c) dX5_cellOf_22 rfl rfl rfl (by omega) (Nat.le_of_ble_eq_true rfl) ?_
      refine r_iload_n 1 dX5_cellOf_23 rfl rfl ?_
      refine r_icmp_ne 31 dX5_cellOf_24 (by decide) (fun hq2 => ?_) (fun hq2 => ?_)
      · refine r_iload_n 2 dX5_cellOf_31 rfl rfl ?_
        refine r_istore_n 2 ([some (.ref (m 0)), some (.int (k)), some (.int (x)), some (.int (nI c))]) dX5_cellOf_32 rfl (Nat.le_of_ble_eq_true rfl) rfl rfl ?_
        refine r_iinc (v := nI (c + 1)) ([some (.ref (m 0)), some (.int (k)), some (.int (x)), some (.int (nI (c + 1)))]) dX5_cellOf_33 rfl (nI_1 _) (Nat.le_of_ble_eq_true rfl) rfl rfl ?_
        refine r_goto 4 dX5_cellOf_36 (by decide) ?_
        exact ih (c + 1) _ (by rw [lastF_s0 hq2, hx]) (by omega) (by omega)
      · refine r_iload_n 3 dX5_cellOf_27 rfl rfl ?_
        refine r_goto 32 dX5_cellOf_28 (by decide) ?_
        refine r_istore_n 2 ([some (.ref (m 0)), some (.int (k)), some (.int (nI c)), some (.int (nI c))]) dX5_cellOf_32 rfl (Nat.le_of_ble_eq_true rfl) rfl rfl ?_
        refine r_iinc (v := nI (c + 1)) ([some (.ref (m 0)), some (.int (k)), some (.int (nI c)), some (.int (nI (c + 1)))]) dX5_cellOf_33 rfl (nI_1 _) (Nat.le_of_ble_eq_true rfl) rfl rfl ?_
        refine r_goto 4 dX5_cellOf_36 (by decide) ?_
        exact ih (c + 1) _ (by rw [lastF_s1 hq2]) (by omega) (by omega)

set_option maxRecDepth 100000 in
set_option maxHeartbeats 4000000 in
theorem c_X5_cellOf (l : Launch) (D : va_G) (cA cB : ClassId) (m : Nat → Nat) (ρ P : Nat → Int32) (hs : Int32) (α rf K V C : Nat → Int32) (my cm : Int32) (tx : Nat → Int32) (tl sp : Int32) (od : Nat → Int32) (no ft : Int32) (n : Nat) (hsz : ρ 0 = nI n) (h3 : n = 16 ∨ n = 32 ∨ n = 64) (k : Int32) : Mt l D (tyS cA cB) yX5_cellOf cX5_cellOf 4 (some .int) ({ frames := 0, cells := 0, slots := 0, locals := 0 } : Room) [.ref (m 0), .int (k)] (mdW cA m ρ P hs α rf K V C my cm tx tl sp od no ft) Unit (fun v _ => v = some (.int (lastF ρ k n))) (fun _ => mdW cA m ρ P hs α rf K V C my cm tx tl sp od no ft) 0 0 := by
  refine mt_in RX5 ([some (.ref (m 0)), some (.int (k)), none, none]) rfl (by decide +kernel) rfl (Nat.le_of_ble_eq_true rfl) rfl rfl (fun X sz => ?_)
  refine r_iconst (-1) dX5_cellOf_0 (by decide +kernel) ?_
  refine r_istore_n 2 ([some (.ref (m 0)), some (.int (k)), some (.int (-1)), none]) dX5_cellOf_1 rfl (Nat.le_of_ble_eq_true rfl) rfl rfl ?_
  refine r_iconst (nI 0) dX5_cellOf_2 (by decide +kernel) ?_
  refine r_istore_n 3 ([some (.ref (m 0)), some (.int (k)), some (.int (-1)), some (.int (nI 0))]) dX5_cellOf_3 rfl (Nat.le_of_ble_eq_true rfl) rfl rfl ?_
  exact lp_X5_cellOf l D cA cB m ρ P hs α rf K V C my cm tx tl sp od no ft n hsz h3 k X sz (n + 1) 0 (-1) rfl (by omega) (by omega)

set_option maxRecDepth 100000 in
set_option maxHeartbeats 4000000 in
theorem lp_X5_below (l : Launch) (D : va_G) (cA cB : ClassId) (m : Nat → Nat) (ρ P : Nat → Int32) (hs : Int32) (α rf K V C : Nat → Int32) (my cm : Int32) (tx : Nat → Int32) (tl sp : Int32) (od : Nat → Int32) (no ft : Int32) (n : Nat) (hsz : ρ 0 = nI n) (h3 : n = 16 ∨ n = 32 ∨ n = 64) (k : Int32) (X : Cx) (sz : Nat) : ∀ (f c x : Nat), x = blw ρ k c → c ≤ n → n < c + f → G l X ({ frames := 0, cells := 0, slots := 0, locals := 0 } : Room) cX5_below RX5 (some .int) D (tyS cA cB) (va_A (mdW cA m ρ P hs α rf K V C my cm tx tl sp od no ft) sz) (QX X D (tyS cA cB) (mdW cA m ρ P hs α rf K V C my cm tx tl sp od no ft) sz Unit (fun v _ => v = some (.int (nI (blw ρ k n)))) (fun _ => mdW cA m ρ P hs α rf K V C my cm tx tl sp od no ft) 0 0) 0 0 (mdW cA m ρ P hs α rf K V C my cm tx tl sp od no ft) 4 ([some (.ref (m 0)), some (.int (k)), some (.int (nI x)), some (.int (nI c))]) [] := by
  intro f
  induction f with
  | zero => intro c x _ h1 h2; omega
  | succ f ih =>
    intro c x hx hc hf
    have hb := n16 h3
    have hy := blw_le ρ k c
    refine r_iload_n 3 dX5_below_4 rfl rfl ?_
    refine r_aload_n 0 dX5_below_5 rfl rfl ?_
    refine r_get 0 fk_X5_7 dX5_below_6 rfl rfl ?_
    refine r_iconst (nI 0) dX5_below_9 (by decide +kernel) ?_
    refine r_iald 1 (0) dX5_below_10 rfl rfl rfl (by omega) (Nat.le_of_ble_eq_true rfl) ?_
    refine r_top (y := nI (n)) (hsz) ?_
    refine r_ncmp_ge 54 (by omega) (by omega) dX5_below_11 (by decide) (fun hq1 => ?_) (fun hq1 => ?_)
    · refine r_iload_n 2 dX5_below_54 rfl rfl ?_
      exact r_iret (()) dX5_below_55 (by rw [hx, show c = n by omega]) (rfl)
    · refine r_iload_n 2 dX5_below_14 rfl rfl ?_
      refine r_aload_n 0 dX5_below_15 rfl rfl ?_
      refine r_get 0 fk_X5_7 dX5_below_16 rfl rfl ?_
      refine r_bipush (nI 31) dX5_below_19 (by decide +kernel) ?_
      refine r_iload_n 3 dX5_below_21 rfl rfl ?_
      refine r_niadd dX5_below_22 ?_
      refine r_iald 1 (31 + c) dX5_below_23 rfl rfl rfl (by omega) (Nat.le_of_ble_eq_true rfl) ?_
      refine r_iconst (-1) dX5_below_24 (by decide +kernel) ?_
      refine r_icmp_eq 45 dX5_below_25 (by decide) (fun hq2 => ?_) (fun hq2 => ?_)
      · refine r_iconst (nI 0) dX5_below_45 (by decide +kernel) ?_
        refine r_niadd dX5_below_46 ?_
        refine r_istore_n 2 ([some (.ref (m 0)), some (.int (k)), some (.int (nI (x + 0))), some (.int (nI c))]) dX5_below_47 rfl (Nat.le_of_ble_eq_true rfl) rfl rfl ?_
        refine r_iinc (v := nI (c + 1)) ([some (.ref (m 0)), some (.int (k)), some (.int (nI (x + 0))), some (.int (nI (c + 1)))]) dX5_below_48 rfl (nI_1 _) (Nat.le_of_ble_eq_true rfl) rfl rfl ?_
        refine r_goto 4 dX5_below_51 (by decide) ?_
        exact ih (c + 1) _ (by rw [hx, blw_s0 hq2] <;> rfl) (by omega) (by omega)
      · refine r_aload_n 0 dX5_below_28 rfl rfl ?_
        refine r_get 0 fk_X5_7 dX5_below_29 rfl rfl ?_
        refine r_bipush (nI 31) dX5_below_32 (by decide +kernel) ?_
        refine r_iload_n 3 dX5_below_34 rfl rfl ?_
        refine r_niadd dX5_below_35 ?_
        refine r_iald 1 (31 + c) dX5_below_36 rfl rfl rfl (by omega) (Nat.le_of_ble_eq_true rfl) ?_
        refine r_iload_n 1 dX5_below_37 rfl rfl ?_
        refine r_icmp_ge 45 dX5_below_38 (by decide) (fun hq3 => ?_) (fun hq3 => ?_)
        · refine r_iconst (nI 0) dX5_below_45 (by decide +kernel) ?_
          refine r_niadd dX5_below_46 ?_
          refine r_istore_n 2 ([some (.ref (m 0)), some (.int (k)), some (.int (nI (x + 0))), some (.int (nI c))]) dX5_below_47 rfl (Nat.le_of_ble_eq_true rfl) rfl rfl ?_
          refine r_iinc (v := nI (c + 1)) ([some (.ref (m 0)), some (.int (k)), some (.int (nI (x + 0))), some (.int (nI (c + 1)))]) dX5_below_48 rfl (nI_1 _) (Nat.le_of_ble_eq_true rfl) rfl rfl ?_
          refine r_goto 4 dX5_below_51 (by decide) ?_
          exact ih (c + 1) _ (by rw [hx, blw_s2 hq2 (Int32.not_lt.mpr hq3)] <;> rfl) (by omega) (by omega)
        · refine r_iconst (nI 1) dX5_below_41 (by decide +kernel) ?_
          refine r_goto 46 dX5_below_42 (by decide) ?_
          refine r_niadd dX5_below_46 ?_
          refine r_istore_n 2 ([some (.ref (m 0)), some (.int (k)), some (.int (nI (x + 1))), some (.int (nI c))]) dX5_below_47 rfl (Nat.le_of_ble_eq_true rfl) rfl rfl ?_
          refine r_iinc (v := nI (c + 1)) ([some (.ref (m 0)), some (.int (k)), some (.int (nI (x + 1))), some (.int (nI (c + 1)))]) dX5_below_48 rfl (nI_1 _) (Nat.le_of_ble_eq_true rfl) rfl rfl ?_
          refine r_goto 4 dX5_below_51 (by decide) ?_
          exact ih (c + 1) _ (by rw [hx, blw_s1 hq2 (Int32.not_le.mp hq3)] <;> rfl) (by omega) (by omega)

set_option maxRecDepth 100000 in
set_option maxHeartbeats 4000000 in
theorem c_X5_below (l : Launch) (D : va_G) (cA cB : ClassId) (m : Nat → Nat) (ρ P : Nat → Int32) (hs : Int32) (α rf K V C : Nat → Int32) (my cm : Int32) (tx : Nat → Int32) (tl sp : Int32) (od : Nat → Int32) (no ft : Int32) (n : Nat) (hsz : ρ 0 = nI n) (h3 : n = 16 ∨ n = 32 ∨ n = 64) (k : Int32) : Mt l D (tyS cA cB) yX5_below cX5_below 4 (some .int) ({ frames := 0, cells := 0, slots := 0, locals := 0 } : Room) [.ref (m 0), .int (k)] (mdW cA m ρ P hs α rf K V C my cm tx tl sp od no ft) Unit (fun v _ => v = some (.int (nI (blw ρ k n)))) (fun _ => mdW cA m ρ P hs α rf K V C my cm tx tl sp od no ft) 0 0 := by
  refine mt_in RX5 ([some (.ref (m 0)), some (.int (k)), none, none]) rfl (by decide +kernel) rfl (Nat.le_of_ble_eq_true rfl) rfl rfl (fun X sz => ?_)
  refine r_iconst (nI 0) dX5_below_0 (by decide +kernel) ?_
  refine r_istore_n 2 ([some (.ref (m 0)), some (.int (k)), some (.int (nI 0)), none]) dX5_below_1 rfl (Nat.le_of_ble_eq_true rfl) rfl rfl ?_
  refine r_iconst (nI 0) dX5_below_2 (by decide +kernel) ?_
  refine r_istore_n 3 ([some (.ref (m 0)), some (.int (k)), some (.int (nI 0)), some (.int (nI 0))]) dX5_below_3 rfl (Nat.le_of_ble_eq_true rfl) rfl rfl ?_
  exact lp_X5_below l D cA cB m ρ P hs α rf K V C my cm tx tl sp od no ft n hsz h3 k X sz (n + 1) 0 0 rfl (by omega) (by omega)

set_option maxRecDepth 100000 in
set_option maxHeartbeats 4000000 in
theorem lp_X5_segmentFor (l : Launch) (D : va_G) (cA cB : ClassId) (m : Nat → Nat) (ρ P : Nat → Int32) (hs : Int32) (α rf K V C : Nat → Int32) (my cm : Int32) (tx : Nat → Int32) (tl sp : Int32) (od : Nat → Int32) (no ft : Int32) (n : Nat) (hsz : ρ 0 = nI n) (h3 : n = 16 ∨ n = 32 ∨ n = 64) (k : Int32) (X : Cx) (sz : Nat) : ∀ (f c x : Nat), x = segF ρ k c → c ≤ n → n < c + f → G l X ({ frames := 0, cells := 0, slots := 0, locals := 0 } : Room) cX5_segmentFor RX5 (some .int) D (tyS cA cB) (va_A (mdW cA m ρ P hs α rf K V C my cm tx tl sp od no ft) sz) (QX X D (tyS cA cB) (mdW cA m ρ P hs α rf K V C my cm tx tl sp od no ft) sz Unit (fun v _ => v = some (.int (nI (segF ρ k n)))) (fun _ => mdW cA m ρ P hs α rf K V C my cm tx tl sp od no ft) 0 0) 0 0 (mdW cA m ρ P hs α rf K V C my cm tx tl sp od no ft) 4 ([some (.ref (m 0)), some (.int (k)), some (.int (nI x)), some (.int (nI c))]) [] := by
  intro f
  induction f with
  | zero => intro c x _ h1 h2; omega
  | succ f ih =>
    intro c x hx hc hf
    have hb := n16 h3
    refine r_iload_n 3 dX5_segmentFor_4 rfl rfl ?_
    refine r_aload_n 0 dX5_segmentFor_5 rfl rfl ?_
    refine r_get 0 fk_X5_7 dX5_segmentFor_6 rfl rfl ?_
    refine r_iconst (nI 0) dX5_segmentFor_9 (by decide +kernel) ?_
    refine r_iald 1 (0) dX5_segmentFor_10 rfl rfl rfl (by omega) (Nat.le_of_ble_eq_true rfl) ?_
    refine r_top (y := nI (n)) (hsz) ?_
    refine r_ncmp_ge 54 (by omega) (by omega) dX5_segmentFor_11 (by decide) (fun hq1 => ?_) (fun hq1 => ?_)
    · refine r_iload_n 2 dX5_segmentFor_54 rfl rfl ?_
      exact r_iret (()) dX5_segmentFor_55 (by rw [hx, show c = n by omega]) (rfl)
    · refine r_aload_n 0 dX5_segmentFor_14 rfl rfl ?_
      refine r_get 0 fk_X5_7 dX5_segmentFor_15 rfl rfl ?_
      refine r_bipush (nI 31) dX5_segmentFor_18 (by decide +kernel) ?_
      refine r_iload_n 3 dX5_segmentFor_20 rfl rfl ?_
      refine r_niadd dX5_segmentFor_21 ?_
      refine r_iald 1 (31 + c) dX5_segmentFor_22 rfl rfl rfl (by omega) (Nat.le_of_ble_eq_true rfl) ?_
      refine r_iconst (-1) dX5_segmentFor_23 (by decide +kernel) ?_
      refine r_icmp_eq 46 dX5_segmentFor_24 (by decide) (fun hq2 => ?_) (fun hq2 => ?_)
      · refine r_iload_n 2 dX5_segmentFor_46 rfl rfl ?_
        refine r_istore_n 2 ([some (.ref (m 0)), some (.int (k)), some (.int (nI x)), some (.int (nI c))]) dX5_segmentFor_47 rfl (Nat.le_of_ble_eq_true rfl) rfl rfl ?_
        refine r_iinc (v := nI (c + 1)) ([some (.ref (m 0)), some (.int (k)), some (.int (nI x)), some (.int (nI (c + 1)))]) dX5_segmentFor_48 rfl (nI_1 _) (Nat.le_of_ble_eq_true rfl) rfl rfl ?_
        refine r_goto 4 dX5_segmentFor_51 (by decide) ?_
        exact ih (c + 1) _ (by rw [segF_s0 (fun z => z.1 hq2), hx]) (by omega) (by omega)
      · refine r_aload_n 0 dX5_segmentFor_27 rfl rfl ?_
        refine r_get 0 fk_X5_7 dX5_segmentFor_28 rfl rfl ?_
        refine r_bipush (nI 31) dX5_segmentFor_31 (by decide +kernel) ?_
        refine r_iload_n 3 dX5_segmentFor_33 rfl rfl ?_
        refine r_niadd dX5_segmentFor_34 ?_
        refine r_iald 1 (31 + c) dX5_segmentFor_35 rfl rfl rfl (by omega) (Nat.le_of_ble_eq_true rfl) ?_
        refine r_iload_n 1 dX5_segmentFor_36 rfl rfl ?_
        refine r_icmp_ge 46 dX5_segmentFor_37 (by decide) (fun hq3 => ?_) (fun hq3 => ?_)
        · refine r_iload_n 2 dX5_segmentFor_46 rfl rfl ?_
          refine r_istore_n 2 ([some (.ref (m 0)), some (.int (k)), some (.int (nI x)), some (.int (nI c))]) dX5_segmentFor_47 rfl (Nat.le_of_ble_eq_true rfl) rfl rfl ?_
          refine r_iinc (v := nI (c + 1)) ([some (.ref (m 0)), some (.int (k)), some (.int (nI x)), some (.int (nI (c + 1)))]) dX5_segmentFor_48 rfl (nI_1 _) (Nat.le_of_ble_eq_true rfl) rfl rfl ?_
          refine r_goto 4 dX5_segmentFor_51 (by decide) ?_
          exact ih (c + 1) _ (by rw [segF_s0 (fun z => Int32.not_lt.mpr hq3 z.2), hx]) (by omega) (by omega)
        · refine r_iload_n 3 dX5_segmentFor_40 rfl rfl ?_
          refine r_iconst (nI 4) dX5_segmentFor_41 (by decide +kernel) ?_
          refine r_nidiv (by omega) (by omega) (by omega) dX5_segmentFor_42 ?_
          refine r_goto 47 dX5_segmentFor_43 (by decide) ?_
          refine r_istore_n 2 ([some (.ref (m 0)), some (.int (k)), some (.int (nI (c / 4))), some (.int (nI c))]) dX5_segmentFor_47 rfl (Nat.le_of_ble_eq_true rfl) rfl rfl ?_
          refine r_iinc (v := nI (c + 1)) ([some (.ref (m 0)), some (.int (k)), some (.int (nI (c / 4))), some (.int (nI (c + 1)))]) dX5_segmentFor_48 rfl (nI_1 _) (Nat.le_of_ble_eq_true rfl) rfl rfl ?_
          refine r_goto 4 dX5_segmentFor_51 (by decide) ?_
          exact ih (c + 1) _ (by rw [segF_s1 hq2 (Int32.not_le.mp hq3)]) (by omega) (by omega)

set_option maxRecDepth 100000 in
set_option maxHeartbeats 4000000 in
theorem c_X5_segmentFor (l : Launch) (D : va_G) (cA cB : ClassId) (m : Nat → Nat) (ρ P : Nat → Int32) (hs : Int32) (α rf K V C : Nat → Int32) (my cm : Int32) (tx : Nat → Int32) (tl sp : Int32) (od : Nat → Int32) (no ft : Int32) (n : Nat) (hsz : ρ 0 = nI n) (h3 : n = 16 ∨ n = 32 ∨ n = 64) (k : Int32) : Mt l D (tyS cA cB) yX5_segmentFor cX5_segmentFor 4 (some .int) ({ frames := 0, cells := 0, slots := 0, locals := 0 } : Room) [.ref (m 0), .int (k)] (mdW cA m ρ P hs α rf K V C my cm tx tl sp od no ft) Unit (fun v _ => v = some (.int (nI (segF ρ k n)))) (fun _ => mdW cA m ρ P hs α rf K V C my cm tx tl sp od no ft) 0 0 := by
  refine mt_in RX5 ([some (.ref (m 0)), some (.int (k)), none, none]) rfl (by decide +kernel) rfl (Nat.le_of_ble_eq_true rfl) rfl rfl (fun X sz => ?_)
  refine r_iconst (nI 0) dX5_segmentFor_0 (by decide +kernel) ?_
  refine r_istore_n 2 ([some (.ref (m 0)), some (.int (k)), some (.int (nI 0)), none]) dX5_segmentFor_1 rfl (Nat.le_of_ble_eq_true rfl) rfl rfl ?_
  refine r_iconst (nI 0) dX5_segmentFor_2 (by decide +kernel) ?_
  refine r_istore_n 3 ([some (.ref (m 0)), some (.int (k)), some (.int (nI 0)), some (.int (nI 0))]) dX5_segmentFor_3 rfl (Nat.le_of_ble_eq_true rfl) rfl rfl ?_
  exact lp_X5_segmentFor l D cA cB m ρ P hs α rf K V C my cm tx tl sp od no ft n hsz h3 k X sz (n + 1) 0 0 rfl (by omega) (by omega)

set_option maxRecDepth 100000 in
set_option maxHeartbeats 4000000 in
theorem lp_X5_leastOf (l : Launch) (D : va_G) (cA cB : ClassId) (m : Nat → Nat) (ρ P : Nat → Int32) (hs : Int32) (α rf K V C : Nat → Int32) (my cm : Int32) (tx : Nat → Int32) (tl sp : Int32) (od : Nat → Int32) (no ft : Int32) (g : Nat) (hg : g < 16) (X : Cx) (sz : Nat) : ∀ (f d : Nat) (x y : Int32), x = lsbF ρ g d → (d ≤ 3 ∧ y = nI (4 * g + (3 - d)) ∨ d = 4 ∧ y = nI (4 * g) + Int32.ofInt (-1)) → 4 < d + f → G l X ({ frames := 0, cells := 0, slots := 0, locals := 0 } : Room) cX5_leastOf RX5 (some .int) D (tyS cA cB) (va_A (mdW cA m ρ P hs α rf K V C my cm tx tl sp od no ft) sz) (QX X D (tyS cA cB) (mdW cA m ρ P hs α rf K V C my cm tx tl sp od no ft) sz Unit (fun v _ => v = some (.int (lstF ρ g))) (fun _ => mdW cA m ρ P hs α rf K V C my cm tx tl sp od no ft) 0 0) 0 0 (mdW cA m ρ P hs α rf K V C my cm tx tl sp od no ft) 8 ([some (.ref (m 0)), some (.int (nI g)), some (.int (x)), some (.int (y))]) [] := by
  intro f
  induction f with
  | zero => intro d x y _ h1 h2; omega
  | succ f ih =>
    intro d x y hx hy hf
    rcases hy with ⟨hd, rfl⟩ | ⟨hd, rfl⟩
    · refine r_iload_n 3 dX5_leastOf_8 rfl rfl ?_
      refine r_iconst (nI 4) dX5_leastOf_9 (by decide +kernel) ?_
      refine r_iload_n 1 dX5_leastOf_10 rfl rfl ?_
      refine r_nimul dX5_leastOf_11 ?_
      refine r_ncmp_lt 48 (by omega) (by omega) dX5_leastOf_12 (by decide) (fun hq1 => ?_) (fun hq1 => ?_)
      · omega
      · refine r_aload_n 0 dX5_leastOf_15 rfl rfl ?_
        refine r_get 0 fk_X5_7 dX5_leastOf_16 rfl rfl ?_
        refine r_bipush (nI 31) dX5_leastOf_19 (by decide +kernel) ?_
        refine r_iload_n 3 dX5_leastOf_21 rfl rfl ?_
        refine r_niadd dX5_leastOf_22 ?_
        refine r_iald 1 (31 + (4 * g + (3 - d))) dX5_leastOf_23 rfl rfl rfl (by omega) (Nat.le_of_ble_eq_true rfl) ?_
        refine r_iconst (-1) dX5_leastOf_24 (by decide +kernel) ?_
        refine r_icmp_ne 32 dX5_leastOf_25 (by decide) (fun hq2 => ?_) (fun hq2 => ?_)
        · refine r_aload_n 0 dX5_leastOf_32 rfl rfl ?_
          refine r_get 0 fk_X5_7 dX5_leastOf_33 rfl rfl ?_
          refine r_bipush (nI 31) dX5_leastOf_36 (by decide +kernel) ?_
          refine r_iload_n 3 dX5_leastOf_38 rfl rfl ?_
          refine r_niadd dX5_leastOf_39 ?_
          refine r_iald 1 (31 + (4 * g + (3 - d))) dX5_leastOf_40 rfl rfl rfl (by omega) (Nat.le_of_ble_eq_true rfl) ?_
          refine r_istore_n 2 ([some (.ref (m 0)), some (.int (nI g)), some (.int (ρ (31 + (4 * g + (3 - d))))), some (.int (nI (4 * g + (3 - d))))]) dX5_leastOf_41 rfl (Nat.le_of_ble_eq_true rfl) rfl rfl ?_
          refine r_iinc (v := (nI (4 * g + (3 - d))) + Int32.ofInt (-1)) ([some (.ref (m 0)), some (.int (nI g)), some (.int (ρ (31 + (4 * g + (3 - d))))), some (.int ((nI (4 * g + (3 - d))) + Int32.ofInt (-1)))]) dX5_leastOf_42 rfl (rfl) (Nat.le_of_ble_eq_true rfl) rfl rfl ?_
          refine r_goto 8 dX5_leastOf_45 (by decide) ?_
          exact ih (d + 1) _ _ (by rw [show lsbF ρ g (d + 1) = (if ρ (31 + (4 * g + (3 - d))) = -1 then lsbF ρ g d else ρ (31 + (4 * g + (3 - d)))) from rfl, if_neg hq2]) (by by_cases e : d = 3; right; subst e; exact ⟨rfl, rfl⟩; left; refine ⟨by omega, ?_⟩; rw [nI_m1 (by omega)]; congr 1; omega) (by omega)
        · refine r_iload_n 2 dX5_leastOf_28 rfl rfl ?_
          refine r_goto 41 dX5_leastOf_29 (by decide) ?_
          refine r_istore_n 2 ([some (.ref (m 0)), some (.int (nI g)), some (.int (x)), some (.int (nI (4 * g + (3 - d))))]) dX5_leastOf_41 rfl (Nat.le_of_ble_eq_true rfl) rfl rfl ?_
          refine r_iinc (v := (nI (4 * g + (3 - d))) + Int32.ofInt (-1)) ([some (.ref (m 0)), some (.int (nI g)), some (.int (x)), some (.int ((nI (4 * g + (3 - d))) + Int32.ofInt (-1)))]) dX5_leastOf_42 rfl (rfl) (Nat.le_of_ble_eq_true rfl) rfl rfl ?_
          refine r_goto 8 dX5_leastOf_45 (by decide) ?_
          exact ih (d + 1) _ _ (by rw [show lsbF ρ g (d + 1) = (if ρ (31 + (4 * g + (3 - d))) = -1 then lsbF ρ g d else ρ (31 + (4 * g + (3 - d)))) from rfl, if_pos hq2]; exact hx) (by by_cases e : d = 3; right; subst e; exact ⟨rfl, rfl⟩; left; refine ⟨by omega, ?_⟩; rw [nI_m1 (by omega)]; congr 1; omega) (by omega)
    · refine r_iload_n 3 dX5_leastOf_8 rfl rfl ?_
      refine r_iconst (nI 4) dX5_leastOf_9 (by decide +kernel) ?_
      refine r_iload_n 1 dX5_leastOf_10 rfl rfl ?_
      refine r_nimul dX5_leastOf_11 ?_
      refine r_icmp_lt 48 dX5_leastOf_12 (by decide) (fun hq3 => ?_) (fun hq3 => ?_)
      · refine r_iload_n 2 dX5_leastOf_48 rfl rfl ?_
        exact r_iret (()) dX5_leastOf_49 (by rw [hx, hd, lsb_4]) (rfl)
      · exact absurd (m1_lt (by omega)) hq3

set_option maxRecDepth 100000 in
set_option maxHeartbeats 4000000 in
theorem c_X5_leastOf (l : Launch) (D : va_G) (cA cB : ClassId) (m : Nat → Nat) (ρ P : Nat → Int32) (hs : Int32) (α rf K V C : Nat → Int32) (my cm : Int32) (tx : Nat → Int32) (tl sp : Int32) (od : Nat → Int32) (no ft : Int32) (g : Nat) (hg : g < 16) : Mt l D (tyS cA cB) yX5_leastOf cX5_leastOf 4 (some .int) ({ frames := 0, cells := 0, slots := 0, locals := 0 } : Room) [.ref (m 0), .int (nI g)] (mdW cA m ρ P hs α rf K V C my cm tx tl sp od no ft) Unit (fun v _ => v = some (.int (lstF ρ g))) (fun _ => mdW cA m ρ P hs α rf K V C my cm tx tl sp od no ft) 0 0 := by
  refine mt_in RX5 ([some (.ref (m 0)), some (.int (nI g)), none, none]) rfl (by decide +kernel) rfl (Nat.le_of_ble_eq_true rfl) rfl rfl (fun X sz => ?_)
  refine r_iconst (-1) dX5_leastOf_0 (by decide +kernel) ?_
  refine r_istore_n 2 ([some (.ref (m 0)), some (.int (nI g)), some (.int (-1)), none]) dX5_leastOf_1 rfl (Nat.le_of_ble_eq_true rfl) rfl rfl ?_
  refine r_iconst (nI 4) dX5_leastOf_2 (by decide +kernel) ?_
  refine r_iload_n 1 dX5_leastOf_3 rfl rfl ?_
  refine r_nimul dX5_leastOf_4 ?_
  refine r_iconst (nI 3) dX5_leastOf_5 (by decide +kernel) ?_
  refine r_niadd dX5_leastOf_6 ?_
  refine r_istore_n 3 ([some (.ref (m 0)), some (.int (nI g)), some (.int (-1)), some (.int (nI ((4 * g) + 3)))]) dX5_leastOf_7 rfl (Nat.le_of_ble_eq_true rfl) rfl rfl ?_
  exact lp_X5_leastOf l D cA cB m ρ P hs α rf K V C my cm tx tl sp od no ft g hg X sz 5 0 (-1) _ rfl (Or.inl ⟨by omega, rfl⟩) (by omega)

set_option maxRecDepth 100000 in
set_option maxHeartbeats 4000000 in
theorem c_X5_value (l : Launch) (D : va_G) (cA cB : ClassId) (m : Nat → Nat) (ρ P : Nat → Int32) (hs : Int32) (α rf K V C : Nat → Int32) (my cm : Int32) (tx : Nat → Int32) (tl sp : Int32) (od : Nat → Int32) (no ft : Int32) (n : Nat) (hsz : ρ 0 = nI n) (h3 : n = 16 ∨ n = 32 ∨ n = 64) (k : Int32) : Mt l D (tyS cA cB) yX5_value cX5_value 3 (some .int) ({ frames := 2, cells := 0, slots := 0, locals := 42 } : Room) [.ref (m 0), .int (k)] (mdW cA m ρ P hs α rf K V C my cm tx tl sp od no ft) Unit (fun v _ => v = some (.int (valA ρ rf n k).1)) (fun _ => mdW cA m ρ P hs α ((valA ρ rf n k).2) K V C my cm tx tl sp od no ft) 0 0 := by
  refine mt_in RX5 ([some (.ref (m 0)), some (.int (k)), none]) rfl (by decide +kernel) rfl (Nat.le_of_ble_eq_true rfl) rfl rfl (fun X sz => ?_)
  have hb := n16 h3
  refine r_aload_n 0 dX5_value_0 rfl rfl ?_
  refine r_iconst (nI 0) dX5_value_1 (by decide +kernel) ?_
  refine r_put 0 (mdW cA m ρ P hs α rf K V C my cm tx tl sp od no ft) fk_X5_37 dX5_value_2 rfl rfl rfl rfl (Nat.le_of_ble_eq_true rfl) rfl ?_
  refine r_iload_n 1 dX5_value_5 rfl rfl ?_
  refine r_iconst (nI 0) dX5_value_6 (by decide +kernel) ?_
  refine r_sipush (nI 999) dX5_value_7 (by decide +kernel) ?_
  refine r_callS2 (As := [.int (k), .int (nI 0), .int (nI 999)]) (st := []) (fun _ => mdW cA m ρ P hs α rf K V C my cm tx tl sp od no ft) [mdW cA m ρ P hs α rf K V C my cm tx tl sp od no ft] [] [mdW cA m ρ P hs α rf K V C my cm tx tl sp od no ft] (fun _ => [mdW cA m ρ P hs α rf K V C my cm tx tl sp od no ft]) (fun _ => []) (c_X5_in0 l D cA cB (k) (nI (999))) ks_X5_in ml_X5_87 dX5_value_10 rfl rfl (segOk [0] rfl rfl rfl rfl) (fun _ => segOk [0] rfl rfl rfl rfl) rfl (Nat.le_of_ble_eq_true rfl) (fun v u h => ?_)
  subst h
  refine r_st (st' := [.int (bI (wi k (nI (999))))]) rfl ?_
  refine r_bif_ne 21 dX5_value_13 (by decide) (fun hq1 => ?_) (fun hq1 => ?_)
  · refine r_aload_n 0 dX5_value_21 rfl rfl ?_
    refine r_iload_n 1 dX5_value_22 rfl rfl ?_
    refine r_callV2 (As := [.int (k)]) (st := []) (fun _ => mdW cA m ρ P hs α rf K V C my cm tx tl sp od no ft) [mdW cA m ρ P hs α rf K V C my cm tx tl sp od no ft] [mdW cA m ρ P hs α rf K V C my cm tx tl sp od no ft] [] (fun _ => [mdW cA m ρ P hs α rf K V C my cm tx tl sp od no ft]) (fun _ => [mdW cA m ρ P hs α rf K V C my cm tx tl sp od no ft]) (c_X5_cellOf l D cA cB m ρ P hs α rf K V C my cm tx tl sp od no ft n (hsz) h3 (k)) kv_X5_cellOf ml_X5_91 dX5_value_23 rfl rfl rfl rfl (segOk [0] rfl rfl rfl rfl) (fun _ => segOk [0] rfl rfl rfl rfl) rfl (Nat.le_of_ble_eq_true rfl) (fun v u h => ?_)
    subst h
    refine r_st (st' := [.int (lastF ρ k n)]) rfl ?_
    refine r_istore_n 2 ([some (.ref (m 0)), some (.int (k)), some (.int (lastF ρ k n))]) dX5_value_26 rfl (Nat.le_of_ble_eq_true rfl) rfl rfl ?_
    rcases lastF_cases ρ k n with ⟨c, hc, hck, e1, e2⟩ | ⟨e1, e2⟩
    · refine r_lv (lv' := [some (.ref (m 0)), some (.int (k)), some (.int (nI c))]) (by rw [e1]) ?_
      refine r_iload_n 2 dX5_value_27 rfl rfl ?_
      refine r_iconst (-1) dX5_value_28 (by decide +kernel) ?_
      refine r_icmp_ne 42 dX5_value_29 (by decide) (fun hq2 => ?_) (fun hq2 => ?_)
      · refine r_aload_n 0 dX5_value_42 rfl rfl ?_
        refine r_get 0 fk_X5_7 dX5_value_43 rfl rfl ?_
        refine r_bipush (nI 95) dX5_value_46 (by decide +kernel) ?_
        refine r_iload_n 2 dX5_value_48 rfl rfl ?_
        refine r_niadd dX5_value_49 ?_
        refine r_iald 1 (95 + c) dX5_value_50 rfl rfl rfl (by omega) (Nat.le_of_ble_eq_true rfl) ?_
        exact r_iret (()) dX5_value_51 (by unfold valA; rw [if_pos hq1, if_neg (by rw [e1]; exact nI_ne_m1 (by omega)), e2]) (by unfold valA; rw [if_pos hq1, if_neg (by rw [e1]; exact nI_ne_m1 (by omega))])
      · exact absurd hq2 (nI_ne_m1 (by omega))
    · refine r_lv (lv' := [some (.ref (m 0)), some (.int (k)), some (.int (-1))]) (by rw [e1]) ?_
      refine r_iload_n 2 dX5_value_27 rfl rfl ?_
      refine r_iconst (-1) dX5_value_28 (by decide +kernel) ?_
      refine r_icmp_ne 42 dX5_value_29 (by decide) (fun hq3 => ?_) (fun hq3 => ?_)
      · exact absurd rfl hq3
      · refine r_aload_n 0 dX5_value_32 rfl rfl ?_
        refine r_bipush (-3) dX5_value_33 (by decide +kernel) ?_
        refine r_iconst (nI 1) dX5_value_35 (by decide +kernel) ?_
        refine r_callV2 (As := [.int (-3), .int (nI 1)]) (st := []) (fun _ => mdW cA m ρ P hs α (noR rf) K V C my cm tx tl sp od no ft) [mdW cA m ρ P hs α rf K V C my cm tx tl sp od no ft] [mdW cA m ρ P hs α rf K V C my cm tx tl sp od no ft] [] (fun _ => [mdW cA m ρ P hs α (noR rf) K V C my cm tx tl sp od no ft]) (fun _ => [mdW cA m ρ P hs α (noR rf) K V C my cm tx tl sp od no ft]) (c_X5_answers_3 l D cA cB m ρ P hs α rf K V C my cm tx tl sp od no ft ) kv_X5_answers ml_X5_41 dX5_value_36 rfl rfl rfl rfl (segOk [0] rfl rfl rfl rfl) (fun _ => segOk [0] rfl rfl rfl rfl) rfl (Nat.le_of_ble_eq_true rfl) (fun v u h => ?_)
        subst h
        refine r_st (st' := [.int (-3)]) rfl ?_
        refine r_goto 51 dX5_value_39 (by decide) ?_
        exact r_iret (()) dX5_value_51 (by unfold valA; rw [if_pos hq1, if_pos e1]) (by unfold valA; rw [if_pos hq1, if_pos e1])
  · refine r_aload_n 0 dX5_value_16 rfl rfl ?_
    refine r_callV2 (As := []) (st := []) (fun _ => mdW cA m ρ P hs α (badR rf) K V C my cm tx tl sp od no ft) [mdW cA m ρ P hs α rf K V C my cm tx tl sp od no ft] [mdW cA m ρ P hs α rf K V C my cm tx tl sp od no ft] [] (fun _ => [mdW cA m ρ P hs α (badR rf) K V C my cm tx tl sp od no ft]) (fun _ => [mdW cA m ρ P hs α (badR rf) K V C my cm tx tl sp od no ft]) (c_X5_bad l D cA cB m ρ P hs α rf K V C my cm tx tl sp od no ft ) kv_X5_bad ml_X5_125 dX5_value_17 rfl rfl rfl rfl (segOk [0] rfl rfl rfl rfl) (fun _ => segOk [0] rfl rfl rfl rfl) rfl (Nat.le_of_ble_eq_true rfl) (fun v u h => ?_)
    subst h
    refine r_st (st' := [.int (-2)]) rfl ?_
    exact r_iret (()) dX5_value_20 (by unfold valA; rw [if_neg (ne_t hq1)]) (by unfold valA; rw [if_neg (ne_t hq1)])

set_option maxRecDepth 100000 in
set_option maxHeartbeats 4000000 in
theorem c_X5_cell (l : Launch) (D : va_G) (cA cB : ClassId) (m : Nat → Nat) (ρ P : Nat → Int32) (hs : Int32) (α rf K V C : Nat → Int32) (my cm : Int32) (tx : Nat → Int32) (tl sp : Int32) (od : Nat → Int32) (no ft : Int32) (n : Nat) (hsz : ρ 0 = nI n) (h3 : n = 16 ∨ n = 32 ∨ n = 64) (k : Int32) : Mt l D (tyS cA cB) yX5_cell cX5_cell 2 (some .int) ({ frames := 2, cells := 0, slots := 0, locals := 42 } : Room) [.ref (m 0), .int (k)] (mdW cA m ρ P hs α rf K V C my cm tx tl sp od no ft) Unit (fun v _ => v = some (.int (celA ρ rf n k).1)) (fun _ => mdW cA m ρ P hs α ((celA ρ rf n k).2) K V C my cm tx tl sp od no ft) 0 0 := by
  refine mt_in RX5 ([some (.ref (m 0)), some (.int (k))]) rfl (by decide +kernel) rfl (Nat.le_of_ble_eq_true rfl) rfl rfl (fun X sz => ?_)
  have hb := n16 h3
  refine r_aload_n 0 dX5_cell_0 rfl rfl ?_
  refine r_iconst (nI 0) dX5_cell_1 (by decide +kernel) ?_
  refine r_put 0 (mdW cA m ρ P hs α rf K V C my cm tx tl sp od no ft) fk_X5_37 dX5_cell_2 rfl rfl rfl rfl (Nat.le_of_ble_eq_true rfl) rfl ?_
  refine r_iload_n 1 dX5_cell_5 rfl rfl ?_
  refine r_iconst (nI 0) dX5_cell_6 (by decide +kernel) ?_
  refine r_sipush (nI 999) dX5_cell_7 (by decide +kernel) ?_
  refine r_callS2 (As := [.int (k), .int (nI 0), .int (nI 999)]) (st := []) (fun _ => mdW cA m ρ P hs α rf K V C my cm tx tl sp od no ft) [mdW cA m ρ P hs α rf K V C my cm tx tl sp od no ft] [] [mdW cA m ρ P hs α rf K V C my cm tx tl sp od no ft] (fun _ => [mdW cA m ρ P hs α rf K V C my cm tx tl sp od no ft]) (fun _ => []) (c_X5_in0 l D cA cB (k) (nI (999))) ks_X5_in ml_X5_87 dX5_cell_10 rfl rfl (segOk [0] rfl rfl rfl rfl) (fun _ => segOk [0] rfl rfl rfl rfl) rfl (Nat.le_of_ble_eq_true rfl) (fun v u h => ?_)
  subst h
  refine r_st (st' := [.int (bI (wi k (nI (999))))]) rfl ?_
  refine r_bif_eq 24 dX5_cell_13 (by decide) (fun hq1 => ?_) (fun hq1 => ?_)
  · refine r_aload_n 0 dX5_cell_24 rfl rfl ?_
    refine r_callV2 (As := []) (st := []) (fun _ => mdW cA m ρ P hs α (badR rf) K V C my cm tx tl sp od no ft) [mdW cA m ρ P hs α rf K V C my cm tx tl sp od no ft] [mdW cA m ρ P hs α rf K V C my cm tx tl sp od no ft] [] (fun _ => [mdW cA m ρ P hs α (badR rf) K V C my cm tx tl sp od no ft]) (fun _ => [mdW cA m ρ P hs α (badR rf) K V C my cm tx tl sp od no ft]) (c_X5_bad l D cA cB m ρ P hs α rf K V C my cm tx tl sp od no ft ) kv_X5_bad ml_X5_125 dX5_cell_25 rfl rfl rfl rfl (segOk [0] rfl rfl rfl rfl) (fun _ => segOk [0] rfl rfl rfl rfl) rfl (Nat.le_of_ble_eq_true rfl) (fun v u h => ?_)
    subst h
    refine r_st (st' := [.int (-2)]) rfl ?_
    exact r_iret (()) dX5_cell_28 (by unfold celA; rw [if_neg (ne_t hq1)]) (by unfold celA; rw [if_neg (ne_t hq1)])
  · refine r_aload_n 0 dX5_cell_16 rfl rfl ?_
    refine r_iload_n 1 dX5_cell_17 rfl rfl ?_
    refine r_callV2 (As := [.int (k)]) (st := []) (fun _ => mdW cA m ρ P hs α rf K V C my cm tx tl sp od no ft) [mdW cA m ρ P hs α rf K V C my cm tx tl sp od no ft] [mdW cA m ρ P hs α rf K V C my cm tx tl sp od no ft] [] (fun _ => [mdW cA m ρ P hs α rf K V C my cm tx tl sp od no ft]) (fun _ => [mdW cA m ρ P hs α rf K V C my cm tx tl sp od no ft]) (c_X5_cellOf l D cA cB m ρ P hs α rf K V C my cm tx tl sp od no ft n (hsz) h3 (k)) kv_X5_cellOf ml_X5_91 dX5_cell_18 rfl rfl rfl rfl (segOk [0] rfl rfl rfl rfl) (fun _ => segOk [0] rfl rfl rfl rfl) rfl (Nat.le_of_ble_eq_true rfl) (fun v u h => ?_)
    subst h
    refine r_st (st' := [.int (lastF ρ k n)]) rfl ?_
    refine r_goto 28 dX5_cell_21 (by decide) ?_
    exact r_iret (()) dX5_cell_28 (by unfold celA; rw [if_pos hq1]) (by unfold celA; rw [if_pos hq1])

set_option maxRecDepth 100000 in
set_option maxHeartbeats 4000000 in
theorem c_X5_at (l : Launch) (D : va_G) (cA cB : ClassId) (m : Nat → Nat) (ρ P : Nat → Int32) (hs : Int32) (α rf K V C : Nat → Int32) (my cm : Int32) (tx : Nat → Int32) (tl sp : Int32) (od : Nat → Int32) (no ft : Int32) (n : Nat) (hsz : ρ 0 = nI n) (h3 : n = 16 ∨ n = 32 ∨ n = 64) (c : Int32) : Mt l D (tyS cA cB) yX5_at cX5_at 2 (some .int) ({ frames := 2, cells := 0, slots := 0, locals := 42 } : Room) [.ref (m 0), .int (c)] (mdW cA m ρ P hs α rf K V C my cm tx tl sp od no ft) Unit (fun v _ => v = some (.int (atA ρ rf n c).1)) (fun _ => mdW cA m ρ P hs α ((atA ρ rf n c).2) K V C my cm tx tl sp od no ft) 0 0 := by
  refine mt_in RX5 ([some (.ref (m 0)), some (.int (c))]) rfl (by decide +kernel) rfl (Nat.le_of_ble_eq_true rfl) rfl rfl (fun X sz => ?_)
  have hb := n16 h3
  refine r_aload_n 0 dX5_at_0 rfl rfl ?_
  refine r_iconst (nI 0) dX5_at_1 (by decide +kernel) ?_
  refine r_put 0 (mdW cA m ρ P hs α rf K V C my cm tx tl sp od no ft) fk_X5_37 dX5_at_2 rfl rfl rfl rfl (Nat.le_of_ble_eq_true rfl) rfl ?_
  refine r_iload_n 1 dX5_at_5 rfl rfl ?_
  refine r_iconst (nI 0) dX5_at_6 (by decide +kernel) ?_
  refine r_aload_n 0 dX5_at_7 rfl rfl ?_
  refine r_get 0 fk_X5_7 dX5_at_8 rfl rfl ?_
  refine r_iconst (nI 0) dX5_at_11 (by decide +kernel) ?_
  refine r_iald 1 (0) dX5_at_12 rfl rfl rfl (by omega) (Nat.le_of_ble_eq_true rfl) ?_
  refine r_top (y := nI (n)) (hsz) ?_
  refine r_iconst (nI 1) dX5_at_13 (by decide +kernel) ?_
  refine r_nisub (by omega) dX5_at_14 ?_
  refine r_callS2 (As := [.int (c), .int (nI 0), .int (nI (n - 1))]) (st := []) (fun _ => mdW cA m ρ P hs α rf K V C my cm tx tl sp od no ft) [mdW cA m ρ P hs α rf K V C my cm tx tl sp od no ft] [] [mdW cA m ρ P hs α rf K V C my cm tx tl sp od no ft] (fun _ => [mdW cA m ρ P hs α rf K V C my cm tx tl sp od no ft]) (fun _ => []) (c_X5_in0 l D cA cB (c) (nI (n - 1))) ks_X5_in ml_X5_87 dX5_at_15 rfl rfl (segOk [0] rfl rfl rfl rfl) (fun _ => segOk [0] rfl rfl rfl rfl) rfl (Nat.le_of_ble_eq_true rfl) (fun v u h => ?_)
  subst h
  refine r_st (st' := [.int (bI (wi c (nI (n - 1))))]) rfl ?_
  refine r_bif_eq 33 dX5_at_18 (by decide) (fun hq1 => ?_) (fun hq1 => ?_)
  · refine r_aload_n 0 dX5_at_33 rfl rfl ?_
    refine r_callV2 (As := []) (st := []) (fun _ => mdW cA m ρ P hs α (badR rf) K V C my cm tx tl sp od no ft) [mdW cA m ρ P hs α rf K V C my cm tx tl sp od no ft] [mdW cA m ρ P hs α rf K V C my cm tx tl sp od no ft] [] (fun _ => [mdW cA m ρ P hs α (badR rf) K V C my cm tx tl sp od no ft]) (fun _ => [mdW cA m ρ P hs α (badR rf) K V C my cm tx tl sp od no ft]) (c_X5_bad l D cA cB m ρ P hs α rf K V C my cm tx tl sp od no ft ) kv_X5_bad ml_X5_125 dX5_at_34 rfl rfl rfl rfl (segOk [0] rfl rfl rfl rfl) (fun _ => segOk [0] rfl rfl rfl rfl) rfl (Nat.le_of_ble_eq_true rfl) (fun v u h => ?_)
    subst h
    refine r_st (st' := [.int (-2)]) rfl ?_
    exact r_iret (()) dX5_at_37 (by unfold atA; rw [if_neg (ne_t hq1)]) (by unfold atA; rw [if_neg (ne_t hq1)])
  · obtain ⟨i, hi, rfl⟩ := wi_ex (by omega) hq1
    refine r_aload_n 0 dX5_at_21 rfl rfl ?_
    refine r_get 0 fk_X5_7 dX5_at_22 rfl rfl ?_
    refine r_bipush (nI 31) dX5_at_25 (by decide +kernel) ?_
    refine r_iload_n 1 dX5_at_27 rfl rfl ?_
    refine r_niadd dX5_at_28 ?_
    refine r_iald 1 (31 + i) dX5_at_29 rfl rfl rfl (by omega) (Nat.le_of_ble_eq_true rfl) ?_
    refine r_goto 37 dX5_at_30 (by decide) ?_
    exact r_iret (()) dX5_at_37 (by unfold atA; rw [if_pos hq1, nI_clamp (by omega)]) (by unfold atA; rw [if_pos hq1])

set_option maxRecDepth 100000 in
set_option maxHeartbeats 4000000 in
theorem c_X5_rank (l : Launch) (D : va_G) (cA cB : ClassId) (m : Nat → Nat) (ρ P : Nat → Int32) (hs : Int32) (α rf K V C : Nat → Int32) (my cm : Int32) (tx : Nat → Int32) (tl sp : Int32) (od : Nat → Int32) (no ft : Int32) (n : Nat) (hsz : ρ 0 = nI n) (h3 : n = 16 ∨ n = 32 ∨ n = 64) (k : Int32) : Mt l D (tyS cA cB) yX5_rank cX5_rank 2 (some .int) ({ frames := 2, cells := 0, slots := 0, locals := 42 } : Room) [.ref (m 0), .int (k)] (mdW cA m ρ P hs α rf K V C my cm tx tl sp od no ft) Unit (fun v _ => v = some (.int (rnkA ρ rf n k).1)) (fun _ => mdW cA m ρ P hs α ((rnkA ρ rf n k).2) K V C my cm tx tl sp od no ft) 0 0 := by
  refine mt_in RX5 ([some (.ref (m 0)), some (.int (k))]) rfl (by decide +kernel) rfl (Nat.le_of_ble_eq_true rfl) rfl rfl (fun X sz => ?_)
  have hb := n16 h3
  refine r_aload_n 0 dX5_rank_0 rfl rfl ?_
  refine r_iconst (nI 0) dX5_rank_1 (by decide +kernel) ?_
  refine r_put 0 (mdW cA m ρ P hs α rf K V C my cm tx tl sp od no ft) fk_X5_37 dX5_rank_2 rfl rfl rfl rfl (Nat.le_of_ble_eq_true rfl) rfl ?_
  refine r_iload_n 1 dX5_rank_5 rfl rfl ?_
  refine r_iconst (nI 0) dX5_rank_6 (by decide +kernel) ?_
  refine r_sipush (nI 1000) dX5_rank_7 (by decide +kernel) ?_
  refine r_callS2 (As := [.int (k), .int (nI 0), .int (nI 1000)]) (st := []) (fun _ => mdW cA m ρ P hs α rf K V C my cm tx tl sp od no ft) [mdW cA m ρ P hs α rf K V C my cm tx tl sp od no ft] [] [mdW cA m ρ P hs α rf K V C my cm tx tl sp od no ft] (fun _ => [mdW cA m ρ P hs α rf K V C my cm tx tl sp od no ft]) (fun _ => []) (c_X5_in0 l D cA cB (k) (nI (1000))) ks_X5_in ml_X5_87 dX5_rank_10 rfl rfl (segOk [0] rfl rfl rfl rfl) (fun _ => segOk [0] rfl rfl rfl rfl) rfl (Nat.le_of_ble_eq_true rfl) (fun v u h => ?_)
  subst h
  refine r_st (st' := [.int (bI (wi k (nI (1000))))]) rfl ?_
  refine r_bif_eq 24 dX5_rank_13 (by decide) (fun hq1 => ?_) (fun hq1 => ?_)
  · refine r_aload_n 0 dX5_rank_24 rfl rfl ?_
    refine r_callV2 (As := []) (st := []) (fun _ => mdW cA m ρ P hs α (badR rf) K V C my cm tx tl sp od no ft) [mdW cA m ρ P hs α rf K V C my cm tx tl sp od no ft] [mdW cA m ρ P hs α rf K V C my cm tx tl sp od no ft] [] (fun _ => [mdW cA m ρ P hs α (badR rf) K V C my cm tx tl sp od no ft]) (fun _ => [mdW cA m ρ P hs α (badR rf) K V C my cm tx tl sp od no ft]) (c_X5_bad l D cA cB m ρ P hs α rf K V C my cm tx tl sp od no ft ) kv_X5_bad ml_X5_125 dX5_rank_25 rfl rfl rfl rfl (segOk [0] rfl rfl rfl rfl) (fun _ => segOk [0] rfl rfl rfl rfl) rfl (Nat.le_of_ble_eq_true rfl) (fun v u h => ?_)
    subst h
    refine r_st (st' := [.int (-2)]) rfl ?_
    exact r_iret (()) dX5_rank_28 (by unfold rnkA; rw [if_neg (ne_t hq1)]) (by unfold rnkA; rw [if_neg (ne_t hq1)])
  · refine r_aload_n 0 dX5_rank_16 rfl rfl ?_
    refine r_iload_n 1 dX5_rank_17 rfl rfl ?_
    refine r_callV2 (As := [.int (k)]) (st := []) (fun _ => mdW cA m ρ P hs α rf K V C my cm tx tl sp od no ft) [mdW cA m ρ P hs α rf K V C my cm tx tl sp od no ft] [mdW cA m ρ P hs α rf K V C my cm tx tl sp od no ft] [] (fun _ => [mdW cA m ρ P hs α rf K V C my cm tx tl sp od no ft]) (fun _ => [mdW cA m ρ P hs α rf K V C my cm tx tl sp od no ft]) (c_X5_below l D cA cB m ρ P hs α rf K V C my cm tx tl sp od no ft n (hsz) h3 (k)) kv_X5_below ml_X5_128 dX5_rank_18 rfl rfl rfl rfl (segOk [0] rfl rfl rfl rfl) (fun _ => segOk [0] rfl rfl rfl rfl) rfl (Nat.le_of_ble_eq_true rfl) (fun v u h => ?_)
    subst h
    refine r_st (st' := [.int (nI (blw ρ k n))]) rfl ?_
    refine r_goto 28 dX5_rank_21 (by decide) ?_
    exact r_iret (()) dX5_rank_28 (by unfold rnkA; rw [if_pos hq1]) (by unfold rnkA; rw [if_pos hq1])

