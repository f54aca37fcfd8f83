theorem nthF_cases (ρ : Nat → Int32) (i : Nat) : ∀ n, (∃ c, c < n ∧ ¬ ρ (31 + c) = -1 ∧ cnt ρ 0 c = i ∧ nthF ρ i n = nI c) ∨ (cnt ρ 0 n ≤ i ∧ nthF ρ i n = -1)
  | 0 => Or.inr ⟨Nat.zero_le _, rfl⟩
  | n + 1 => by
    by_cases e : ¬ ρ (31 + n) = -1 ∧ cnt ρ 0 n = i
    · exact Or.inl ⟨n, by omega, e.1, e.2, if_pos e⟩
    · rcases nthF_cases ρ i n with ⟨c, h1, h2, h3, h4⟩ | ⟨h1, h2⟩
      · exact Or.inl ⟨c, by omega, h2, h3, by rw [← h4]; exact if_neg e⟩
      · refine Or.inr ⟨?_, by rw [← h2]; exact if_neg e⟩
        by_cases e1 : ρ (31 + n) = -1
        · rw [cnt0_s0 e1]; exact h1
        · rw [cnt0_s1 e1]
          have : ¬ cnt ρ 0 n = i := fun z => e ⟨e1, z⟩
          omega
def keyNF (ρ : Nat → Int32) (i : Nat) : Nat → Int32
  | 0 => -1
  | n + 1 => if ¬ ρ (31 + n) = -1 ∧ cnt ρ 0 n = i then ρ (31 + n) else keyNF ρ i n
theorem keyNF_none {ρ : Nat → Int32} {i : Nat} : ∀ {n : Nat}, cnt ρ 0 n ≤ i → keyNF ρ i n = -1
  | 0, _ => rfl
  | n + 1, h => by
    have h1 : cnt ρ 0 n ≤ cnt ρ 0 (n + 1) := cnt_mono ρ 0 (Nat.le_succ n)
    unfold keyNF
    by_cases e : ρ (31 + n) = -1
    · rw [if_neg (fun z => z.1 e)]; exact keyNF_none (Nat.le_trans h1 h)
    · have h2 := cnt0_s1 e
      rw [if_neg (fun z => by omega)]; exact keyNF_none (Nat.le_trans h1 h)
theorem keyNF_at {ρ : Nat → Int32} {i c : Nat} (hk : ¬ ρ (31 + c) = -1) (hi : cnt ρ 0 c = i) : ∀ {n : Nat}, c < n → keyNF ρ i n = ρ (31 + c)
  | 0, h => absurd h (Nat.not_lt_zero _)
  | n + 1, h => by
    unfold keyNF
    by_cases e : c = n
    · subst e; rw [if_pos ⟨hk, hi⟩]
    · have hc := cnt0_s1 hk
      have hm : cnt ρ 0 (c + 1) ≤ cnt ρ 0 n := cnt_mono ρ 0 (by omega)
      rw [if_neg (fun z => by omega)]
      exact keyNF_at hk hi (by omega)
def crdF (ρ : Nat → Int32) (a b : Int32) (n : Nat) : Int32 := if blw ρ a n = blw ρ (b + 1) n then 0 else nthF ρ (blw ρ (b + 1) n - 1) n - nthF ρ (blw ρ a n) n + 1
theorem blw_mono {ρ : Nat → Int32} {a b : Int32} (h : a ≤ b) : ∀ n, blw ρ a n ≤ blw ρ b n
  | 0 => Nat.le_refl _
  | n + 1 => by
    have ih := blw_mono (ρ := ρ) h n
    by_cases e : ρ (31 + n) = -1
    · rw [blw_s0 e, blw_s0 e]; exact ih
    · by_cases e1 : ρ (31 + n) < a
      · rw [blw_s1 e e1, blw_s1 e (Int32.lt_of_lt_of_le e1 h)]; omega
      · rw [blw_s2 e e1]
        by_cases e2 : ρ (31 + n) < b
        · rw [blw_s1 e e2]; omega
        · rw [blw_s2 e e2]; exact ih
def mixF (f g : Nat → Int32) (c : Nat) : Nat → Int32 := fun j => if j < c then g j else f j
theorem mixF_0 (f g : Nat → Int32) : mixF f g 0 = f := by funext j; simp [mixF]
theorem mixF_s (f g : Nat → Int32) (c : Nat) : upd (mixF f g c) c (g c) = mixF f g (c + 1) := by
  funext j
  unfold upd mixF
  by_cases e : j = c
  · subst e; rw [if_pos rfl, if_pos (by omega)]
  · rw [if_neg e]
    by_cases e2 : j < c
    · rw [if_pos e2, if_pos (by omega)]
    · rw [if_neg e2, if_neg (by omega)]
theorem mixF_e {f g : Nat → Int32} {c : Nat} (h : ∀ j, c ≤ j → f j = g j) : mixF f g c = g := by
  funext j
  unfold mixF
  by_cases e : j < c
  · rw [if_pos e]
  · rw [if_neg e]; exact h j (by omega)
theorem mix_k (ρ σ : Nat → Int32) : mixF (kA ρ) (kA σ) 64 = kA σ := mixF_e (fun j h => by unfold kA; rw [if_neg (by omega), if_neg (by omega)])
theorem mix_v (ρ σ : Nat → Int32) : mixF (vA ρ) (vA σ) 64 = vA σ := mixF_e (fun j h => by unfold vA; rw [if_neg (by omega), if_neg (by omega)])
theorem mix_g (w : Nat) (ρ σ : Nat → Int32) : mixF (gA w ρ) (gA w σ) 8 = gA w σ := mixF_e (fun j h => by unfold gA; rw [if_neg (by omega), if_neg (by omega)])

set_option maxRecDepth 100000 in
set_option maxHeartbeats 4000000 in
theorem c_X1_keyNumber (l : Launch) (D : va_G) (cA cB : ClassId) (q : Nat → Nat) (ρ : Nat → Int32) (n : Nat) (hsz : ρ 0 = nI n) (h3 : n = 16 ∨ n = 32 ∨ n = 64) (i : Nat) (hi : i < 2 ^ 31) : Mt l D (tyS cA cB) yX1_keyNumber cX1_keyNumber 2 (some .int) ({ frames := 2, cells := 0, slots := 0, locals := 44 } : Room) [.ref (q 0), .int (nI i)] (rowW cA q ρ) Unit (fun v _ => v = some (.int (keyNF ρ i n))) (fun _ => rowW cA q ρ) 0 0 := by
  refine mt_in RX1 ([some (.ref (q 0)), some (.int (nI i))]) rfl (by decide +kernel) rfl (Nat.le_of_ble_eq_true rfl) rfl rfl (fun X sz => ?_)
  have hb : n ≤ 64 := by omega
  refine r_aload_n 0 dX1_keyNumber_0 rfl rfl ?_
  refine r_aload_n 0 dX1_keyNumber_1 rfl rfl ?_
  refine r_iload_n 1 dX1_keyNumber_2 rfl rfl ?_
  refine r_callV (As := [.int (nI i)]) (st := [.ref (q 0)]) [0, 1, 2, 3, 4, 5] [] (fun _ => rowW cA q ρ) [0, 1, 2, 3, 4, 5] (c_X1_cellNumber l D cA cB q ρ n (hsz) h3 (i) (by omega)) kv_X1_cellNumber ml_X1_53 dX1_keyNumber_3 rfl rfl rfl rfl rfl rfl rfl rfl (by decide) (fun _ => rfl) rfl rfl (Nat.le_of_ble_eq_true rfl) (fun v u h => ?_)
  subst h
  refine r_st (st' := [.int (nthF ρ i n), .ref (q 0)]) rfl ?_
  rcases nthF_cases ρ i n with ⟨c, hc, hk, hi2, e⟩ | ⟨hi2, e⟩
  · refine r_top e ?_
    refine r_callV (As := [.int (nI c)]) (st := []) [0, 1, 2, 3, 4, 5] [] (fun _ => rowW cA q ρ) [0, 1, 2, 3, 4, 5] (c_X1_keyIn l D cA cB q ρ (c) (by omega)) kv_X1_keyIn ml_X1_49 dX1_keyNumber_6 rfl rfl rfl rfl rfl rfl rfl rfl (by decide) (fun _ => rfl) rfl rfl (Nat.le_of_ble_eq_true rfl) (fun v u h => ?_)
    subst h
    refine r_st (st' := [.int (ρ (31 + c))]) rfl ?_
    exact r_iret (()) dX1_keyNumber_9 (by first | rw [keyNF_at hk hi2 hc] | rw [keyNF_none hi2]) (rfl)
  · refine r_top e ?_
    refine r_callV (As := [.int (-1)]) (st := []) [0, 1, 2, 3, 4, 5] [] (fun _ => rowW cA q ρ) [0, 1, 2, 3, 4, 5] (c_X1_keyIn_m l D cA cB q ρ ) kv_X1_keyIn ml_X1_49 dX1_keyNumber_6 rfl rfl rfl rfl rfl rfl rfl rfl (by decide) (fun _ => rfl) rfl rfl (Nat.le_of_ble_eq_true rfl) (fun v u h => ?_)
    subst h
    refine r_st (st' := [.int (-1)]) rfl ?_
    exact r_iret (()) dX1_keyNumber_9 (by first | rw [keyNF_at hk hi2 hc] | rw [keyNF_none hi2]) (rfl)

set_option maxRecDepth 100000 in
set_option maxHeartbeats 4000000 in
theorem c_X1_cellsRead (l : Launch) (D : va_G) (cA cB : ClassId) (q : Nat → Nat) (ρ : Nat → Int32) (n : Nat) (hsz : ρ 0 = nI n) (h3 : n = 16 ∨ n = 32 ∨ n = 64) (a b : Int32) (hab : a ≤ b + 1) : Mt l D (tyS cA cB) yX1_cellsRead cX1_cellsRead 5 (some .int) ({ frames := 2, cells := 0, slots := 0, locals := 44 } : Room) [.ref (q 0), .int (a), .int (b)] (rowW cA q ρ) Unit (fun v _ => v = some (.int (crdF ρ a b n))) (fun _ => rowW cA q ρ) 0 0 := by
  refine mt_in RX1 ([some (.ref (q 0)), some (.int (a)), some (.int (b)), none, none]) rfl (by decide +kernel) rfl (Nat.le_of_ble_eq_true rfl) rfl rfl (fun X sz => ?_)
  have hb : n ≤ 64 := by omega
  have y1 := blw_le ρ a n
  have y2 := blw_le ρ (b + 1) n
  have y3 := blw_mono (ρ := ρ) hab n
  refine r_aload_n 0 dX1_cellsRead_0 rfl rfl ?_
  refine r_iload_n 1 dX1_cellsRead_1 rfl rfl ?_
  refine r_callV (As := [.int (a)]) (st := []) [0, 1, 2, 3, 4, 5] [] (fun _ => rowW cA q ρ) [0, 1, 2, 3, 4, 5] (c_X1_keysBelow l D cA cB q ρ n (hsz) h3 (a)) kv_X1_keysBelow ml_X1_59 dX1_cellsRead_2 rfl rfl rfl rfl rfl rfl rfl rfl (by decide) (fun _ => rfl) rfl rfl (Nat.le_of_ble_eq_true rfl) (fun v u h => ?_)
  subst h
  refine r_st (st' := [.int (nI (blw ρ a n))]) rfl ?_
  refine r_istore_n 3 ([some (.ref (q 0)), some (.int (a)), some (.int (b)), some (.int (nI (blw ρ a n))), none]) dX1_cellsRead_5 rfl (Nat.le_of_ble_eq_true rfl) rfl rfl ?_
  refine r_aload_n 0 dX1_cellsRead_6 rfl rfl ?_
  refine r_iload_n 2 dX1_cellsRead_7 rfl rfl ?_
  refine r_iconst (nI 1) dX1_cellsRead_8 (by decide +kernel) ?_
  refine r_iadd dX1_cellsRead_9 ?_
  refine r_top (y := b + 1) rfl ?_
  refine r_callV (As := [.int (b + 1)]) (st := []) [0, 1, 2, 3, 4, 5] [] (fun _ => rowW cA q ρ) [0, 1, 2, 3, 4, 5] (c_X1_keysBelow l D cA cB q ρ n (hsz) h3 (b + 1)) kv_X1_keysBelow ml_X1_59 dX1_cellsRead_10 rfl rfl rfl rfl rfl rfl rfl rfl (by decide) (fun _ => rfl) rfl rfl (Nat.le_of_ble_eq_true rfl) (fun v u h => ?_)
  subst h
  refine r_st (st' := [.int (nI (blw ρ (b + 1) n))]) rfl ?_
  refine r_istore ([some (.ref (q 0)), some (.int (a)), some (.int (b)), some (.int (nI (blw ρ a n))), some (.int (nI (blw ρ (b + 1) n)))]) dX1_cellsRead_13 (Nat.le_of_ble_eq_true rfl) rfl rfl ?_
  refine r_iload_n 3 dX1_cellsRead_15 rfl rfl ?_
  refine r_iload dX1_cellsRead_16 rfl ?_
  refine r_ncmp_ne 25 (by omega) (by omega) dX1_cellsRead_18 (by decide) (fun h1 => ?_) (fun h1 => ?_)
  · refine r_aload_n 0 dX1_cellsRead_25 rfl rfl ?_
    refine r_iload dX1_cellsRead_26 rfl ?_
    refine r_iconst (nI 1) dX1_cellsRead_28 (by decide +kernel) ?_
    refine r_nisub (by omega) dX1_cellsRead_29 ?_
    refine r_callV (As := [.int (nI ((blw ρ (b + 1) n) - 1))]) (st := []) [0, 1, 2, 3, 4, 5] [] (fun _ => rowW cA q ρ) [0, 1, 2, 3, 4, 5] (c_X1_cellNumber l D cA cB q ρ n (hsz) h3 ((blw ρ (b + 1) n) - 1) (by omega)) kv_X1_cellNumber ml_X1_53 dX1_cellsRead_30 rfl rfl rfl rfl rfl rfl rfl rfl (by decide) (fun _ => rfl) rfl rfl (Nat.le_of_ble_eq_true rfl) (fun v u h => ?_)
    subst h
    refine r_st (st' := [.int (nthF ρ ((blw ρ (b + 1) n) - 1) n)]) rfl ?_
    refine r_aload_n 0 dX1_cellsRead_33 rfl rfl ?_
    refine r_iload_n 3 dX1_cellsRead_34 rfl rfl ?_
    refine r_callV (As := [.int (nI (blw ρ a n))]) (st := [.int (nthF ρ ((blw ρ (b + 1) n) - 1) n)]) [0, 1, 2, 3, 4, 5] [] (fun _ => rowW cA q ρ) [0, 1, 2, 3, 4, 5] (c_X1_cellNumber l D cA cB q ρ n (hsz) h3 (blw ρ a n) (by omega)) kv_X1_cellNumber ml_X1_53 dX1_cellsRead_35 rfl rfl rfl rfl rfl rfl rfl rfl (by decide) (fun _ => rfl) rfl rfl (Nat.le_of_ble_eq_true rfl) (fun v u h => ?_)
    subst h
    refine r_st (st' := [.int (nthF ρ (blw ρ a n) n), .int (nthF ρ ((blw ρ (b + 1) n) - 1) n)]) rfl ?_
    refine r_isub dX1_cellsRead_38 ?_
    refine r_iconst (nI 1) dX1_cellsRead_39 (by decide +kernel) ?_
    refine r_iadd dX1_cellsRead_40 ?_
    exact r_iret (()) dX1_cellsRead_41 (by unfold crdF; rw [if_neg h1]; rfl) (rfl)
  · refine r_iconst (nI 0) dX1_cellsRead_21 (by decide +kernel) ?_
    refine r_goto 41 dX1_cellsRead_22 (by decide) ?_
    exact r_iret (()) dX1_cellsRead_41 (by unfold crdF; rw [if_pos h1]; rfl) (rfl)

set_option maxRecDepth 100000 in
set_option maxHeartbeats 4000000 in
theorem lp_X1_note (l : Launch) (D : va_G) (cA cB : ClassId) (q : Nat → Nat) (ρ : Nat → Int32) (g : Nat) (hg : ρ 6 = nI g) (hg8 : g ≤ 8) (a b m : Int32) (X : Cx) (sz : Nat) : ∀ (f i : Nat), i ≤ 7 → i < f → G l X ({ frames := 0, cells := 0, slots := 0, locals := 0 } : Room) cX1_note RX1 none D (tyS cA cB) (va_A (rowW cA q ρ) sz) (QX X D (tyS cA cB) (rowW cA q ρ) sz Unit (fun v _ => v = none) (fun _ => rowW cA q (noteF ρ g a b m)) 0 0) 0 0 ([(q 0, .inr (1, [.int (ρ 0), .int (ρ 1), .int (ρ 2), .int (ρ 3), .int (ρ 4), .int (ρ 5), .int (ρ 6), .ref (q 1), .ref (q 2), .ref (q 3), .ref (q 4), .ref (q 5)])), (q 1, .inl (cA, 64, .inl (kA ρ))), (q 2, .inl (cA, 64, .inl (vA ρ))), (q 3, .inl (cA, 8, .inl (shf (gA 0 ρ) i))), (q 4, .inl (cA, 8, .inl (shf (gA 1 ρ) i))), (q 5, .inl (cA, 8, .inl (shf (gA 2 ρ) i)))]) 4 ([some (.ref (q 0)), some (.int (a)), some (.int (b)), some (.int (m)), some (.int (nI i))]) [] := by
  intro f
  induction f with
  | zero => intro i h1 h2; omega
  | succ f ih =>
    intro i hi hf
    refine r_iload dX1_note_4 rfl ?_
    refine r_if_le 63 dX1_note_6 (by decide) (fun h1 => ?_) (fun h1 => ?_)
    · obtain rfl : i = 0 := by have := (nI_le_iff (a := i) (b := 0) (by omega) (by decide)).mp h1; omega
      refine r_aload_n 0 dX1_note_63 rfl rfl ?_
      refine r_get 0 fk_X1_22 dX1_note_64 rfl rfl ?_
      refine r_iconst (nI 0) dX1_note_67 (by decide +kernel) ?_
      refine r_iload_n 1 dX1_note_68 rfl rfl ?_
      refine r_iast 3 (0) ([(q 0, .inr (1, [.int (ρ 0), .int (ρ 1), .int (ρ 2), .int (ρ 3), .int (ρ 4), .int (ρ 5), .int (ρ 6), .ref (q 1), .ref (q 2), .ref (q 3), .ref (q 4), .ref (q 5)])), (q 1, .inl (cA, 64, .inl (kA ρ))), (q 2, .inl (cA, 64, .inl (vA ρ))), (q 3, .inl (cA, 8, .inl (upd (shf (gA 0 ρ) 0) 0 a))), (q 4, .inl (cA, 8, .inl (shf (gA 1 ρ) 0))), (q 5, .inl (cA, 8, .inl (shf (gA 2 ρ) 0)))]) dX1_note_69 rfl rfl rfl (by omega) (Nat.le_of_ble_eq_true rfl) rfl ?_
      refine r_aload_n 0 dX1_note_70 rfl rfl ?_
      refine r_get 0 fk_X1_25 dX1_note_71 rfl rfl ?_
      refine r_iconst (nI 0) dX1_note_74 (by decide +kernel) ?_
      refine r_iload_n 2 dX1_note_75 rfl rfl ?_
      refine r_iast 4 (0) ([(q 0, .inr (1, [.int (ρ 0), .int (ρ 1), .int (ρ 2), .int (ρ 3), .int (ρ 4), .int (ρ 5), .int (ρ 6), .ref (q 1), .ref (q 2), .ref (q 3), .ref (q 4), .ref (q 5)])), (q 1, .inl (cA, 64, .inl (kA ρ))), (q 2, .inl (cA, 64, .inl (vA ρ))), (q 3, .inl (cA, 8, .inl (upd (shf (gA 0 ρ) 0) 0 a))), (q 4, .inl (cA, 8, .inl (upd (shf (gA 1 ρ) 0) 0 b))), (q 5, .inl (cA, 8, .inl (shf (gA 2 ρ) 0)))]) dX1_note_76 rfl rfl rfl (by omega) (Nat.le_of_ble_eq_true rfl) rfl ?_
      refine r_aload_n 0 dX1_note_77 rfl rfl ?_
      refine r_get 0 fk_X1_28 dX1_note_78 rfl rfl ?_
      refine r_iconst (nI 0) dX1_note_81 (by decide +kernel) ?_
      refine r_iload_n 3 dX1_note_82 rfl rfl ?_
      refine r_iast 5 (0) ([(q 0, .inr (1, [.int (ρ 0), .int (ρ 1), .int (ρ 2), .int (ρ 3), .int (ρ 4), .int (ρ 5), .int (ρ 6), .ref (q 1), .ref (q 2), .ref (q 3), .ref (q 4), .ref (q 5)])), (q 1, .inl (cA, 64, .inl (kA ρ))), (q 2, .inl (cA, 64, .inl (vA ρ))), (q 3, .inl (cA, 8, .inl (upd (shf (gA 0 ρ) 0) 0 a))), (q 4, .inl (cA, 8, .inl (upd (shf (gA 1 ρ) 0) 0 b))), (q 5, .inl (cA, 8, .inl (upd (shf (gA 2 ρ) 0) 0 m)))]) dX1_note_83 rfl rfl rfl (by omega) (Nat.le_of_ble_eq_true rfl) rfl ?_
      refine r_aload_n 0 dX1_note_84 rfl rfl ?_
      refine r_get 0 fk_X1_46 dX1_note_85 rfl rfl ?_
      refine r_top (y := nI (g)) (hg) ?_
      refine r_bipush (nI 8) dX1_note_88 (by decide +kernel) ?_
      refine r_ncmp_ge 103 (by omega) (by omega) dX1_note_90 (by decide) (fun h2 => ?_) (fun h2 => ?_)
      · refine r_aload_n 0 dX1_note_103 rfl rfl ?_
        refine r_dup rfl dX1_note_104 ?_
        refine r_get 0 fk_X1_34 dX1_note_105 rfl rfl ?_
        refine r_iconst (nI 1) dX1_note_108 (by decide +kernel) ?_
        refine r_iadd dX1_note_109 ?_
        refine r_put 0 ([(q 0, .inr (1, [.int (ρ 0), .int (ρ 1), .int ((ρ 2) + (nI (1))), .int (ρ 3), .int (ρ 4), .int (ρ 5), .int (ρ 6), .ref (q 1), .ref (q 2), .ref (q 3), .ref (q 4), .ref (q 5)])), (q 1, .inl (cA, 64, .inl (kA ρ))), (q 2, .inl (cA, 64, .inl (vA ρ))), (q 3, .inl (cA, 8, .inl (upd (shf (gA 0 ρ) 0) 0 a))), (q 4, .inl (cA, 8, .inl (upd (shf (gA 1 ρ) 0) 0 b))), (q 5, .inl (cA, 8, .inl (upd (shf (gA 2 ρ) 0) 0 m)))]) fk_X1_34 dX1_note_110 rfl rfl rfl rfl (Nat.le_of_ble_eq_true rfl) rfl ?_
        refine r_aload_n 0 dX1_note_113 rfl rfl ?_
        refine r_dup rfl dX1_note_114 ?_
        refine r_get 0 fk_X1_37 dX1_note_115 rfl rfl ?_
        refine r_iload_n 3 dX1_note_118 rfl rfl ?_
        refine r_iadd dX1_note_119 ?_
        refine r_put 0 ([(q 0, .inr (1, [.int (ρ 0), .int (ρ 1), .int ((ρ 2) + (nI (1))), .int ((ρ 3) + m), .int (ρ 4), .int (ρ 5), .int (ρ 6), .ref (q 1), .ref (q 2), .ref (q 3), .ref (q 4), .ref (q 5)])), (q 1, .inl (cA, 64, .inl (kA ρ))), (q 2, .inl (cA, 64, .inl (vA ρ))), (q 3, .inl (cA, 8, .inl (upd (shf (gA 0 ρ) 0) 0 a))), (q 4, .inl (cA, 8, .inl (upd (shf (gA 1 ρ) 0) 0 b))), (q 5, .inl (cA, 8, .inl (upd (shf (gA 2 ρ) 0) 0 m)))]) fk_X1_37 dX1_note_120 rfl rfl rfl rfl (Nat.le_of_ble_eq_true rfl) rfl ?_
        exact r_vret (()) dX1_note_123 (rfl) (by rw [show ρ 6 = nI (min (g + 1) 8) by rw [hg, show min (g + 1) 8 = g by omega], note_k (ρ := ρ) (g := g) (a := a) (b := b) (m := m), note_v (ρ := ρ) (g := g) (a := a) (b := b) (m := m), note_g (x := a) (g := g) (a := a) (b := b) (m := m) (w := 0) (by omega) rfl, note_g (x := b) (g := g) (a := a) (b := b) (m := m) (w := 1) (by omega) rfl, note_g (x := m) (g := g) (a := a) (b := b) (m := m) (w := 2) (by omega) rfl]; rfl)
      · refine r_aload_n 0 dX1_note_93 rfl rfl ?_
        refine r_dup rfl dX1_note_94 ?_
        refine r_get 0 fk_X1_46 dX1_note_95 rfl rfl ?_
        refine r_top (y := nI (g)) (hg) ?_
        refine r_iconst (nI 1) dX1_note_98 (by decide +kernel) ?_
        refine r_niadd dX1_note_99 ?_
        refine r_put 0 ([(q 0, .inr (1, [.int (ρ 0), .int (ρ 1), .int (ρ 2), .int (ρ 3), .int (ρ 4), .int (ρ 5), .int (nI (g + 1)), .ref (q 1), .ref (q 2), .ref (q 3), .ref (q 4), .ref (q 5)])), (q 1, .inl (cA, 64, .inl (kA ρ))), (q 2, .inl (cA, 64, .inl (vA ρ))), (q 3, .inl (cA, 8, .inl (upd (shf (gA 0 ρ) 0) 0 a))), (q 4, .inl (cA, 8, .inl (upd (shf (gA 1 ρ) 0) 0 b))), (q 5, .inl (cA, 8, .inl (upd (shf (gA 2 ρ) 0) 0 m)))]) fk_X1_46 dX1_note_100 rfl rfl rfl rfl (Nat.le_of_ble_eq_true rfl) rfl ?_
        refine r_aload_n 0 dX1_note_103 rfl rfl ?_
        refine r_dup rfl dX1_note_104 ?_
        refine r_get 0 fk_X1_34 dX1_note_105 rfl rfl ?_
        refine r_iconst (nI 1) dX1_note_108 (by decide +kernel) ?_
        refine r_iadd dX1_note_109 ?_
        refine r_put 0 ([(q 0, .inr (1, [.int (ρ 0), .int (ρ 1), .int ((ρ 2) + (nI (1))), .int (ρ 3), .int (ρ 4), .int (ρ 5), .int (nI (g + 1)), .ref (q 1), .ref (q 2), .ref (q 3), .ref (q 4), .ref (q 5)])), (q 1, .inl (cA, 64, .inl (kA ρ))), (q 2, .inl (cA, 64, .inl (vA ρ))), (q 3, .inl (cA, 8, .inl (upd (shf (gA 0 ρ) 0) 0 a))), (q 4, .inl (cA, 8, .inl (upd (shf (gA 1 ρ) 0) 0 b))), (q 5, .inl (cA, 8, .inl (upd (shf (gA 2 ρ) 0) 0 m)))]) fk_X1_34 dX1_note_110 rfl rfl rfl rfl (Nat.le_of_ble_eq_true rfl) rfl ?_
        refine r_aload_n 0 dX1_note_113 rfl rfl ?_
        refine r_dup rfl dX1_note_114 ?_
        refine r_get 0 fk_X1_37 dX1_note_115 rfl rfl ?_
        refine r_iload_n 3 dX1_note_118 rfl rfl ?_
        refine r_iadd dX1_note_119 ?_
        refine r_put 0 ([(q 0, .inr (1, [.int (ρ 0), .int (ρ 1), .int ((ρ 2) + (nI (1))), .int ((ρ 3) + m), .int (ρ 4), .int (ρ 5), .int (nI (g + 1)), .ref (q 1), .ref (q 2), .ref (q 3), .ref (q 4), .ref (q 5)])), (q 1, .inl (cA, 64, .inl (kA ρ))), (q 2, .inl (cA, 64, .inl (vA ρ))), (q 3, .inl (cA, 8, .inl (upd (shf (gA 0 ρ) 0) 0 a))), (q 4, .inl (cA, 8, .inl (upd (shf (gA 1 ρ) 0) 0 b))), (q 5, .inl (cA, 8, .inl (upd (shf (gA 2 ρ) 0) 0 m)))]) fk_X1_37 dX1_note_120 rfl rfl rfl rfl (Nat.le_of_ble_eq_true rfl) rfl ?_
        exact r_vret (()) dX1_note_123 (rfl) (by rw [show nI (g + 1) = nI (min (g + 1) 8) by rw [show min (g + 1) 8 = g + 1 by omega], note_k (ρ := ρ) (g := g) (a := a) (b := b) (m := m), note_v (ρ := ρ) (g := g) (a := a) (b := b) (m := m), note_g (x := a) (g := g) (a := a) (b := b) (m := m) (w := 0) (by omega) rfl, note_g (x := b) (g := g) (a := a) (b := b) (m := m) (w := 1) (by omega) rfl, note_g (x := m) (g := g) (a := a) (b := b) (m := m) (w := 2) (by omega) rfl]; rfl)
    · have hi0 : 0 < i := by rcases Nat.eq_zero_or_pos i with z | z; exact absurd (by rw [z]; exact Int32.le_refl _) h1; exact z
      refine r_aload_n 0 dX1_note_9 rfl rfl ?_
      refine r_get 0 fk_X1_22 dX1_note_10 rfl rfl ?_
      refine r_iload dX1_note_13 rfl ?_
      refine r_aload_n 0 dX1_note_15 rfl rfl ?_
      refine r_get 0 fk_X1_22 dX1_note_16 rfl rfl ?_
      refine r_iload dX1_note_19 rfl ?_
      refine r_iconst (nI 1) dX1_note_21 (by decide +kernel) ?_
      refine r_nisub (by omega) dX1_note_22 ?_
      refine r_iald 3 (i - 1) dX1_note_23 rfl rfl rfl (by omega) (Nat.le_of_ble_eq_true rfl) ?_
      refine r_iast 3 (i) ([(q 0, .inr (1, [.int (ρ 0), .int (ρ 1), .int (ρ 2), .int (ρ 3), .int (ρ 4), .int (ρ 5), .int (ρ 6), .ref (q 1), .ref (q 2), .ref (q 3), .ref (q 4), .ref (q 5)])), (q 1, .inl (cA, 64, .inl (kA ρ))), (q 2, .inl (cA, 64, .inl (vA ρ))), (q 3, .inl (cA, 8, .inl (upd (shf (gA 0 ρ) i) i ((shf (gA 0 ρ) i) (i - 1))))), (q 4, .inl (cA, 8, .inl (shf (gA 1 ρ) i))), (q 5, .inl (cA, 8, .inl (shf (gA 2 ρ) i)))]) dX1_note_24 rfl rfl rfl (by omega) (Nat.le_of_ble_eq_true rfl) rfl ?_
      refine r_ws (ws' := [(q 0, .inr (1, [.int (ρ 0), .int (ρ 1), .int (ρ 2), .int (ρ 3), .int (ρ 4), .int (ρ 5), .int (ρ 6), .ref (q 1), .ref (q 2), .ref (q 3), .ref (q 4), .ref (q 5)])), (q 1, .inl (cA, 64, .inl (kA ρ))), (q 2, .inl (cA, 64, .inl (vA ρ))), (q 3, .inl (cA, 8, .inl (shf (gA 0 ρ) (i - 1)))), (q 4, .inl (cA, 8, .inl (shf (gA 1 ρ) i))), (q 5, .inl (cA, 8, .inl (shf (gA 2 ρ) i)))]) (by rw [shf_step (by omega) (by omega)]) ?_
      refine r_aload_n 0 dX1_note_25 rfl rfl ?_
      refine r_get 0 fk_X1_25 dX1_note_26 rfl rfl ?_
      refine r_iload dX1_note_29 rfl ?_
      refine r_aload_n 0 dX1_note_31 rfl rfl ?_
      refine r_get 0 fk_X1_25 dX1_note_32 rfl rfl ?_
      refine r_iload dX1_note_35 rfl ?_
      refine r_iconst (nI 1) dX1_note_37 (by decide +kernel) ?_
      refine r_nisub (by omega) dX1_note_38 ?_
      refine r_iald 4 (i - 1) dX1_note_39 rfl rfl rfl (by omega) (Nat.le_of_ble_eq_true rfl) ?_
      refine r_iast 4 (i) ([(q 0, .inr (1, [.int (ρ 0), .int (ρ 1), .int (ρ 2), .int (ρ 3), .int (ρ 4), .int (ρ 5), .int (ρ 6), .ref (q 1), .ref (q 2), .ref (q 3), .ref (q 4), .ref (q 5)])), (q 1, .inl (cA, 64, .inl (kA ρ))), (q 2, .inl (cA, 64, .inl (vA ρ))), (q 3, .inl (cA, 8, .inl (shf (gA 0 ρ) (i - 1)))), (q 4, .inl (cA, 8, .inl (upd (shf (gA 1 ρ) i) i ((shf (gA 1 ρ) i) (i - 1))))), (q 5, .inl (cA, 8, .inl (shf (gA 2 ρ) i)))]) dX1_note_40 rfl rfl rfl (by omega) (Nat.le_of_ble_eq_true rfl) rfl ?_
      refine r_ws (ws' := [(q 0, .inr (1, [.int (ρ 0), .int (ρ 1), .int (ρ 2), .int (ρ 3), .int (ρ 4), .int (ρ 5), .int (ρ 6), .ref (q 1), .ref (q 2), .ref (q 3), .ref (q 4), .ref (q 5)])), (q 1, .inl (cA, 64, .inl (kA ρ))), (q 2, .inl (cA, 64, .inl (vA ρ))), (q 3, .inl (cA, 8, .inl (shf (gA 0 ρ) (i - 1)))), (q 4, .inl (cA, 8, .inl (shf (gA 1 ρ) (i - 1)))), (q 5, .inl (cA, 8, .inl (shf (gA 2 ρ) i)))]) (by rw [shf_step (by omega) (by omega)]) ?_
      refine r_aload_n 0 dX1_note_41 rfl rfl ?_
      refine r_get 0 fk_X1_28 dX1_note_42 rfl rfl ?_
      refine r_iload dX1_note_45 rfl ?_
      refine r_aload_n 0 dX1_note_47 rfl rfl ?_
      refine r_get 0 fk_X1_28 dX1_note_48 rfl rfl ?_
      refine r_iload dX1_note_51 rfl ?_
      refine r_iconst (nI 1) dX1_note_53 (by decide +kernel) ?_
      refine r_nisub (by omega) dX1_note_54 ?_
      refine r_iald 5 (i - 1) dX1_note_55 rfl rfl rfl (by omega) (Nat.le_of_ble_eq_true rfl) ?_
      refine r_iast 5 (i) ([(q 0, .inr (1, [.int (ρ 0), .int (ρ 1), .int (ρ 2), .int (ρ 3), .int (ρ 4), .int (ρ 5), .int (ρ 6), .ref (q 1), .ref (q 2), .ref (q 3), .ref (q 4), .ref (q 5)])), (q 1, .inl (cA, 64, .inl (kA ρ))), (q 2, .inl (cA, 64, .inl (vA ρ))), (q 3, .inl (cA, 8, .inl (shf (gA 0 ρ) (i - 1)))), (q 4, .inl (cA, 8, .inl (shf (gA 1 ρ) (i - 1)))), (q 5, .inl (cA, 8, .inl (upd (shf (gA 2 ρ) i) i ((shf (gA 2 ρ) i) (i - 1)))))]) dX1_note_56 rfl rfl rfl (by omega) (Nat.le_of_ble_eq_true rfl) rfl ?_
      refine r_ws (ws' := [(q 0, .inr (1, [.int (ρ 0), .int (ρ 1), .int (ρ 2), .int (ρ 3), .int (ρ 4), .int (ρ 5), .int (ρ 6), .ref (q 1), .ref (q 2), .ref (q 3), .ref (q 4), .ref (q 5)])), (q 1, .inl (cA, 64, .inl (kA ρ))), (q 2, .inl (cA, 64, .inl (vA ρ))), (q 3, .inl (cA, 8, .inl (shf (gA 0 ρ) (i - 1)))), (q 4, .inl (cA, 8, .inl (shf (gA 1 ρ) (i - 1)))), (q 5, .inl (cA, 8, .inl (shf (gA 2 ρ) (i - 1))))]) (by rw [shf_step (by omega) (by omega)]) ?_
      refine r_iinc (v := nI (i - 1)) ([some (.ref (q 0)), some (.int (a)), some (.int (b)), some (.int (m)), some (.int (nI (i - 1)))]) dX1_note_57 rfl (nI_m1 (by omega)) (Nat.le_of_ble_eq_true rfl) rfl rfl ?_
      refine r_goto 4 dX1_note_60 (by decide) ?_
      exact ih _ (by omega) (by omega)

set_option maxRecDepth 100000 in
set_option maxHeartbeats 4000000 in
theorem c_X1_note (l : Launch) (D : va_G) (cA cB : ClassId) (q : Nat → Nat) (ρ : Nat → Int32) (g : Nat) (hg : ρ 6 = nI g) (hg8 : g ≤ 8) (a b m : Int32) : Mt l D (tyS cA cB) yX1_note cX1_note 5 none ({ frames := 0, cells := 0, slots := 0, locals := 0 } : Room) [.ref (q 0), .int (a), .int (b), .int (m)] (rowW cA q ρ) Unit (fun v _ => v = none) (fun _ => rowW cA q (noteF ρ g a b m)) 0 0 := by
  refine mt_in RX1 ([some (.ref (q 0)), some (.int (a)), some (.int (b)), some (.int (m)), none]) rfl (by decide +kernel) rfl (Nat.le_of_ble_eq_true rfl) rfl rfl (fun X sz => ?_)
  refine r_bipush (nI 7) dX1_note_0 (by decide +kernel) ?_
  refine r_istore ([some (.ref (q 0)), some (.int (a)), some (.int (b)), some (.int (m)), some (.int (nI 7))]) dX1_note_2 (Nat.le_of_ble_eq_true rfl) rfl rfl ?_
  refine r_ws (ws' := [(q 0, .inr (1, [.int (ρ 0), .int (ρ 1), .int (ρ 2), .int (ρ 3), .int (ρ 4), .int (ρ 5), .int (ρ 6), .ref (q 1), .ref (q 2), .ref (q 3), .ref (q 4), .ref (q 5)])), (q 1, .inl (cA, 64, .inl (kA ρ))), (q 2, .inl (cA, 64, .inl (vA ρ))), (q 3, .inl (cA, 8, .inl (shf (gA 0 ρ) 7))), (q 4, .inl (cA, 8, .inl (shf (gA 1 ρ) 7))), (q 5, .inl (cA, 8, .inl (shf (gA 2 ρ) 7)))]) (by rw [shf_7, shf_7, shf_7]) ?_
  exact lp_X1_note l D cA cB q ρ g hg hg8 a b m X sz 8 7 (by omega) (by omega)

set_option maxRecDepth 100000 in
set_option maxHeartbeats 4000000 in
theorem lp_X1_copyOf2 (l : Launch) (D : va_G) (cA cB : ClassId) (q q2 : Nat → Nat) (ρ σ : Nat → Int32) (X : Cx) (sz : Nat) : ∀ (f c : Nat), c ≤ 8 → 8 < c + f → G l X ({ frames := 0, cells := 0, slots := 0, locals := 0 } : Room) cX1_copyOf RX1 none D (tyS cA cB) (va_A (rowW cA q ρ ++ (rowW cA q2 σ)) sz) (QX X D (tyS cA cB) (rowW cA q ρ ++ (rowW cA q2 σ)) sz Unit (fun v _ => v = none) (fun _ => rowW cA q σ ++ (rowW cA q2 σ)) 0 0) 0 0 ([(q 0, .inr (1, [.int (σ 0), .int (σ 1), .int (σ 2), .int (σ 3), .int (σ 4), .int (σ 5), .int (σ 6), .ref (q 1), .ref (q 2), .ref (q 3), .ref (q 4), .ref (q 5)])), (q 1, .inl (cA, 64, .inl (kA σ))), (q 2, .inl (cA, 64, .inl (vA σ))), (q 3, .inl (cA, 8, .inl (mixF (gA 0 ρ) (gA 0 σ) c))), (q 4, .inl (cA, 8, .inl (mixF (gA 1 ρ) (gA 1 σ) c))), (q 5, .inl (cA, 8, .inl (mixF (gA 2 ρ) (gA 2 σ) c)))] ++ (rowW cA q2 σ)) 96 ([some (.ref (q 0)), some (.ref (q2 0)), some (.int (nI c))]) [] := by
  intro f
  induction f with
  | zero => intro c h1 h2; omega
  | succ f ih =>
    intro c hc hf
    refine r_iload_n 2 dX1_copyOf_96 rfl rfl ?_
    refine r_bipush (nI 8) dX1_copyOf_97 (by decide +kernel) ?_
    refine r_ncmp_ge 144 (by omega) (by omega) dX1_copyOf_99 (by decide) (fun h1 => ?_) (fun h1 => ?_)
    · exact r_vret (()) dX1_copyOf_144 (rfl) (by rw [show c = 8 by omega, mix_g, mix_g, mix_g])
    · refine r_aload_n 0 dX1_copyOf_102 rfl rfl ?_
      refine r_get 0 fk_X1_22 dX1_copyOf_103 rfl rfl ?_
      refine r_iload_n 2 dX1_copyOf_106 rfl rfl ?_
      refine r_aload_n 1 dX1_copyOf_107 rfl rfl ?_
      refine r_get 6 fk_X1_22 dX1_copyOf_108 rfl rfl ?_
      refine r_iload_n 2 dX1_copyOf_111 rfl rfl ?_
      refine r_iald 9 (c) dX1_copyOf_112 rfl rfl rfl (by omega) (Nat.le_of_ble_eq_true rfl) ?_
      refine r_iast 3 (c) ([(q 0, .inr (1, [.int (σ 0), .int (σ 1), .int (σ 2), .int (σ 3), .int (σ 4), .int (σ 5), .int (σ 6), .ref (q 1), .ref (q 2), .ref (q 3), .ref (q 4), .ref (q 5)])), (q 1, .inl (cA, 64, .inl (kA σ))), (q 2, .inl (cA, 64, .inl (vA σ))), (q 3, .inl (cA, 8, .inl (upd (mixF (gA 0 ρ) (gA 0 σ) c) c ((gA 0 σ) c)))), (q 4, .inl (cA, 8, .inl (mixF (gA 1 ρ) (gA 1 σ) c))), (q 5, .inl (cA, 8, .inl (mixF (gA 2 ρ) (gA 2 σ) c)))] ++ (rowW cA q2 σ)) dX1_copyOf_113 rfl rfl rfl (by omega) (Nat.le_of_ble_eq_true rfl) rfl ?_
      refine r_ws (ws' := [(q 0, .inr (1, [.int (σ 0), .int (σ 1), .int (σ 2), .int (σ 3), .int (σ 4), .int (σ 5), .int (σ 6), .ref (q 1), .ref (q 2), .ref (q 3), .ref (q 4), .ref (q 5)])), (q 1, .inl (cA, 64, .inl (kA σ))), (q 2, .inl (cA, 64, .inl (vA σ))), (q 3, .inl (cA, 8, .inl (mixF (gA 0 ρ) (gA 0 σ) (c + 1)))), (q 4, .inl (cA, 8, .inl (mixF (gA 1 ρ) (gA 1 σ) c))), (q 5, .inl (cA, 8, .inl (mixF (gA 2 ρ) (gA 2 σ) c)))] ++ (rowW cA q2 σ)) (by rw [mixF_s]) ?_
      refine r_aload_n 0 dX1_copyOf_114 rfl rfl ?_
      refine r_get 0 fk_X1_25 dX1_copyOf_115 rfl rfl ?_
      refine r_iload_n 2 dX1_copyOf_118 rfl rfl ?_
      refine r_aload_n 1 dX1_copyOf_119 rfl rfl ?_
      refine r_get 6 fk_X1_25 dX1_copyOf_120 rfl rfl ?_
      refine r_iload_n 2 dX1_copyOf_123 rfl rfl ?_
      refine r_iald 10 (c) dX1_copyOf_124 rfl rfl rfl (by omega) (Nat.le_of_ble_eq_true rfl) ?_
      refine r_iast 4 (c) ([(q 0, .inr (1, [.int (σ 0), .int (σ 1), .int (σ 2), .int (σ 3), .int (σ 4), .int (σ 5), .int (σ 6), .ref (q 1), .ref (q 2), .ref (q 3), .ref (q 4), .ref (q 5)])), (q 1, .inl (cA, 64, .inl (kA σ))), (q 2, .inl (cA, 64, .inl (vA σ))), (q 3, .inl (cA, 8, .inl (mixF (gA 0 ρ) (gA 0 σ) (c + 1)))), (q 4, .inl (cA, 8, .inl (upd (mixF (gA 1 ρ) (gA 1 σ) c) c ((gA 1 σ) c)))), (q 5, .inl (cA, 8, .inl (mixF (gA 2 ρ) (gA 2 σ) c)))] ++ (rowW cA q2 σ)) dX1_copyOf_125 rfl rfl rfl (by omega) (Nat.le_of_ble_eq_true rfl) rfl ?_
      refine r_ws (ws' := [(q 0, .inr (1, [.int (σ 0), .int (σ 1), .int (σ 2), .int (σ 3), .int (σ 4), .int (σ 5), .int (σ 6), .ref (q 1), .ref (q 2), .ref (q 3), .ref (q 4), .ref (q 5)])), (q 1, .inl (cA, 64, .inl (kA σ))), (q 2, .inl (cA, 64, .inl (vA σ))), (q 3, .inl (cA, 8, .inl (mixF (gA 0 ρ) (gA 0 σ) (c + 1)))), (q 4, .inl (cA, 8, .inl (mixF (gA 1 ρ) (gA 1 σ) (c + 1)))), (q 5, .inl (cA, 8, .inl (mixF (gA 2 ρ) (gA 2 σ) c)))] ++ (rowW cA q2 σ)) (by rw [mixF_s]) ?_
      refine r_aload_n 0 dX1_copyOf_126 rfl rfl ?_
      refine r_get 0 fk_X1_28 dX1_copyOf_127 rfl rfl ?_
      refine r_iload_n 2 dX1_copyOf_130 rfl rfl ?_
      refine r_aload_n 1 dX1_copyOf_131 rfl rfl ?_
      refine r_get 6 fk_X1_28 dX1_copyOf_132 rfl rfl ?_
      refine r_iload_n 2 dX1_copyOf_135 rfl rfl ?_
      refine r_iald 11 (c) dX1_copyOf_136 rfl rfl rfl (by omega) (Nat.le_of_ble_eq_true rfl) ?_
      refine r_iast 5 (c) ([(q 0, .inr (1, [.int (σ 0), .int (σ 1), .int (σ 2), .int (σ 3), .int (σ 4), .int (σ 5), .int (σ 6), .ref (q 1), .ref (q 2), .ref (q 3), .ref (q 4), .ref (q 5)])), (q 1, .inl (cA, 64, .inl (kA σ))), (q 2, .inl (cA, 64, .inl (vA σ))), (q 3, .inl (cA, 8, .inl (mixF (gA 0 ρ) (gA 0 σ) (c + 1)))), (q 4, .inl (cA, 8, .inl (mixF (gA 1 ρ) (gA 1 σ) (c + 1)))), (q 5, .inl (cA, 8, .inl (upd (mixF (gA 2 ρ) (gA 2 σ) c) c ((gA 2 σ) c))))] ++ (rowW cA q2 σ)) dX1_copyOf_137 rfl rfl rfl (by omega) (Nat.le_of_ble_eq_true rfl) rfl ?_
      refine r_ws (ws' := [(q 0, .inr (1, [.int (σ 0), .int (σ 1), .int (σ 2), .int (σ 3), .int (σ 4), .int (σ 5), .int (σ 6), .ref (q 1), .ref (q 2), .ref (q 3), .ref (q 4), .ref (q 5)])), (q 1, .inl (cA, 64, .inl (kA σ))), (q 2, .inl (cA, 64, .inl (vA σ))), (q 3, .inl (cA, 8, .inl (mixF (gA 0 ρ) (gA 0 σ) (c + 1)))), (q 4, .inl (cA, 8, .inl (mixF (gA 1 ρ) (gA 1 σ) (c + 1)))), (q 5, .inl (cA, 8, .inl (mixF (gA 2 ρ) (gA 2 σ) (c + 1))))] ++ (rowW cA q2 σ)) (by rw [mixF_s]) ?_
      refine r_iinc (v := nI (c + 1)) ([some (.ref (q 0)), some (.ref (q2 0)), some (.int (nI (c + 1)))]) dX1_copyOf_138 rfl (nI_1 _) (Nat.le_of_ble_eq_true rfl) rfl rfl ?_
      refine r_goto 96 dX1_copyOf_141 (by decide) ?_
      exact ih (c + 1) (by omega) (by omega)

set_option maxRecDepth 100000 in
set_option maxHeartbeats 4000000 in
theorem lp_X1_copyOf (l : Launch) (D : va_G) (cA cB : ClassId) (q q2 : Nat → Nat) (ρ σ : Nat → Int32) (X : Cx) (sz : Nat) : ∀ (f c : Nat), c ≤ 64 → 64 < c + f → G l X ({ frames := 0, cells := 0, slots := 0, locals := 0 } : Room) cX1_copyOf RX1 none D (tyS cA cB) (va_A (rowW cA q ρ ++ (rowW cA q2 σ)) sz) (QX X D (tyS cA cB) (rowW cA q ρ ++ (rowW cA q2 σ)) sz Unit (fun v _ => v = none) (fun _ => rowW cA q σ ++ (rowW cA q2 σ)) 0 0) 0 0 ([(q 0, .inr (1, [.int (σ 0), .int (σ 1), .int (σ 2), .int (σ 3), .int (σ 4), .int (σ 5), .int (σ 6), .ref (q 1), .ref (q 2), .ref (q 3), .ref (q 4), .ref (q 5)])), (q 1, .inl (cA, 64, .inl (mixF (kA ρ) (kA σ) c))), (q 2, .inl (cA, 64, .inl (mixF (vA ρ) (vA σ) c))), (q 3, .inl (cA, 8, .inl (gA 0 ρ))), (q 4, .inl (cA, 8, .inl (gA 1 ρ))), (q 5, .inl (cA, 8, .inl (gA 2 ρ)))] ++ (rowW cA q2 σ)) 58 ([some (.ref (q 0)), some (.ref (q2 0)), some (.int (nI c))]) [] := by
  intro f
  induction f with
  | zero => intro c h1 h2; omega
  | succ f ih =>
    intro c hc hf
    refine r_iload_n 2 dX1_copyOf_58 rfl rfl ?_
    refine r_bipush (nI 64) dX1_copyOf_59 (by decide +kernel) ?_
    refine r_ncmp_ge 94 (by omega) (by omega) dX1_copyOf_61 (by decide) (fun h1 => ?_) (fun h1 => ?_)
    · refine r_iconst (nI 0) dX1_copyOf_94 (by decide +kernel) ?_
      refine r_istore_n 2 ([some (.ref (q 0)), some (.ref (q2 0)), some (.int (nI 0))]) dX1_copyOf_95 rfl (Nat.le_of_ble_eq_true rfl) rfl rfl ?_
      refine r_ws (ws' := [(q 0, .inr (1, [.int (σ 0), .int (σ 1), .int (σ 2), .int (σ 3), .int (σ 4), .int (σ 5), .int (σ 6), .ref (q 1), .ref (q 2), .ref (q 3), .ref (q 4), .ref (q 5)])), (q 1, .inl (cA, 64, .inl (kA σ))), (q 2, .inl (cA, 64, .inl (vA σ))), (q 3, .inl (cA, 8, .inl (mixF (gA 0 ρ) (gA 0 σ) 0))), (q 4, .inl (cA, 8, .inl (mixF (gA 1 ρ) (gA 1 σ) 0))), (q 5, .inl (cA, 8, .inl (mixF (gA 2 ρ) (gA 2 σ) 0)))] ++ (rowW cA q2 σ)) (by rw [show c = 64 by omega, mix_k, mix_v, mixF_0, mixF_0, mixF_0]) ?_
      exact lp_X1_copyOf2 l D cA cB q q2 ρ σ X sz 9 0 (by omega) (by omega)
    · refine r_aload_n 0 dX1_copyOf_64 rfl rfl ?_
      refine r_get 0 fk_X1_15 dX1_copyOf_65 rfl rfl ?_
      refine r_iload_n 2 dX1_copyOf_68 rfl rfl ?_
      refine r_aload_n 1 dX1_copyOf_69 rfl rfl ?_
      refine r_get 6 fk_X1_15 dX1_copyOf_70 rfl rfl ?_
      refine r_iload_n 2 dX1_copyOf_73 rfl rfl ?_
      refine r_iald 7 (c) dX1_copyOf_74 rfl rfl rfl (by omega) (Nat.le_of_ble_eq_true rfl) ?_
      refine r_iast 1 (c) ([(q 0, .inr (1, [.int (σ 0), .int (σ 1), .int (σ 2), .int (σ 3), .int (σ 4), .int (σ 5), .int (σ 6), .ref (q 1), .ref (q 2), .ref (q 3), .ref (q 4), .ref (q 5)])), (q 1, .inl (cA, 64, .inl (upd (mixF (kA ρ) (kA σ) c) c ((kA σ) c)))), (q 2, .inl (cA, 64, .inl (mixF (vA ρ) (vA σ) c))), (q 3, .inl (cA, 8, .inl (gA 0 ρ))), (q 4, .inl (cA, 8, .inl (gA 1 ρ))), (q 5, .inl (cA, 8, .inl (gA 2 ρ)))] ++ (rowW cA q2 σ)) dX1_copyOf_75 rfl rfl rfl (by omega) (Nat.le_of_ble_eq_true rfl) rfl ?_
      refine r_ws (ws' := [(q 0, .inr (1, [.int (σ 0), .int (σ 1), .int (σ 2), .int (σ 3), .int (σ 4), .int (σ 5), .int (σ 6), .ref (q 1), .ref (q 2), .ref (q 3), .ref (q 4), .ref (q 5)])), (q 1, .inl (cA, 64, .inl (mixF (kA ρ) (kA σ) (c + 1)))), (q 2, .inl (cA, 64, .inl (mixF (vA ρ) (vA σ) c))), (q 3, .inl (cA, 8, .inl (gA 0 ρ))), (q 4, .inl (cA, 8, .inl (gA 1 ρ))), (q 5, .inl (cA, 8, .inl (gA 2 ρ)))] ++ (rowW cA q2 σ)) (by rw [mixF_s]) ?_
      refine r_aload_n 0 dX1_copyOf_76 rfl rfl ?_
      refine r_get 0 fk_X1_19 dX1_copyOf_77 rfl rfl ?_
      refine r_iload_n 2 dX1_copyOf_80 rfl rfl ?_
      refine r_aload_n 1 dX1_copyOf_81 rfl rfl ?_
      refine r_get 6 fk_X1_19 dX1_copyOf_82 rfl rfl ?_
      refine r_iload_n 2 dX1_copyOf_85 rfl rfl ?_
      refine r_iald 8 (c) dX1_copyOf_86 rfl rfl rfl (by omega) (Nat.le_of_ble_eq_true rfl) ?_
      refine r_iast 2 (c) ([(q 0, .inr (1, [.int (σ 0), .int (σ 1), .int (σ 2), .int (σ 3), .int (σ 4), .int (σ 5), .int (σ 6), .ref (q 1), .ref (q 2), .ref (q 3), .ref (q 4), .ref (q 5)])), (q 1, .inl (cA, 64, .inl (mixF (kA ρ) (kA σ) (c + 1)))), (q 2, .inl (cA, 64, .inl (upd (mixF (vA ρ) (vA σ) c) c ((vA σ) c)))), (q 3, .inl (cA, 8, .inl (gA 0 ρ))), (q 4, .inl (cA, 8, .inl (gA 1 ρ))), (q 5, .inl (cA, 8, .inl (gA 2 ρ)))] ++ (rowW cA q2 σ)) dX1_copyOf_87 rfl rfl rfl (by omega) (Nat.le_of_ble_eq_true rfl) rfl ?_
      refine r_ws (ws' := [(q 0, .inr (1, [.int (σ 0), .int (σ 1), .int (σ 2), .int (σ 3), .int (σ 4), .int (σ 5), .int (σ 6), .ref (q 1), .ref (q 2), .ref (q 3), .ref (q 4), .ref (q 5)])), (q 1, .inl (cA, 64, .inl (mixF (kA ρ) (kA σ) (c + 1)))), (q 2, .inl (cA, 64, .inl (mixF (vA ρ) (vA σ) (c + 1)))), (q 3, .inl (cA, 8, .inl (gA 0 ρ))), (q 4, .inl (cA, 8, .inl (gA 1 ρ))), (q 5, .inl (cA, 8, .inl (gA 2 ρ)))] ++ (rowW cA q2 σ)) (by rw [mixF_s]) ?_
      refine r_iinc (v := nI (c + 1)) ([some (.ref (q 0)), some (.ref (q2 0)), some (.int (nI (c + 1)))]) dX1_copyOf_88 rfl (nI_1 _) (Nat.le_of_ble_eq_true rfl) rfl rfl ?_
      refine r_goto 58 dX1_copyOf_91 (by decide) ?_
      exact ih (c + 1) (by omega) (by omega)

set_option maxRecDepth 100000 in
set_option maxHeartbeats 4000000 in
theorem c_X1_copyOf (l : Launch) (D : va_G) (cA cB : ClassId) (q q2 : Nat → Nat) (ρ σ : Nat → Int32) : Mt l D (tyS cA cB) yX1_copyOf cX1_copyOf 3 none ({ frames := 0, cells := 0, slots := 0, locals := 0 } : Room) [.ref (q 0), .ref (q2 0)] (rowW cA q ρ ++ (rowW cA q2 σ)) Unit (fun v _ => v = none) (fun _ => rowW cA q σ ++ (rowW cA q2 σ)) 0 0 := by
  refine mt_in RX1 ([some (.ref (q 0)), some (.ref (q2 0)), none]) rfl (by decide +kernel) rfl (Nat.le_of_ble_eq_true rfl) rfl rfl (fun X sz => ?_)
  refine r_aload_n 0 dX1_copyOf_0 rfl rfl ?_
  refine r_aload_n 1 dX1_copyOf_1 rfl rfl ?_
  refine r_get 6 fk_X1_9 dX1_copyOf_2 rfl rfl ?_
  refine r_put 0 ([(q 0, .inr (1, [.int (σ 0), .int (ρ 1), .int (ρ 2), .int (ρ 3), .int (ρ 4), .int (ρ 5), .int (ρ 6), .ref (q 1), .ref (q 2), .ref (q 3), .ref (q 4), .ref (q 5)])), (q 1, .inl (cA, 64, .inl (kA ρ))), (q 2, .inl (cA, 64, .inl (vA ρ))), (q 3, .inl (cA, 8, .inl (gA 0 ρ))), (q 4, .inl (cA, 8, .inl (gA 1 ρ))), (q 5, .inl (cA, 8, .inl (gA 2 ρ)))] ++ (rowW cA q2 σ)) fk_X1_9 dX1_copyOf_5 rfl rfl rfl rfl (Nat.le_of_ble_eq_true rfl) rfl ?_
  refine r_aload_n 0 dX1_copyOf_8 rfl rfl ?_
  refine r_aload_n 1 dX1_copyOf_9 rfl rfl ?_
  refine r_get 6 fk_X1_31 dX1_copyOf_10 rfl rfl ?_
  refine r_put 0 ([(q 0, .inr (1, [.int (σ 0), .int (σ 1), .int (ρ 2), .int (ρ 3), .int (ρ 4), .int (ρ 5), .int (ρ 6), .ref (q 1), .ref (q 2), .ref (q 3), .ref (q 4), .ref (q 5)])), (q 1, .inl (cA, 64, .inl (kA ρ))), (q 2, .inl (cA, 64, .inl (vA ρ))), (q 3, .inl (cA, 8, .inl (gA 0 ρ))), (q 4, .inl (cA, 8, .inl (gA 1 ρ))), (q 5, .inl (cA, 8, .inl (gA 2 ρ)))] ++ (rowW cA q2 σ)) fk_X1_31 dX1_copyOf_13 rfl rfl rfl rfl (Nat.le_of_ble_eq_true rfl) rfl ?_
  refine r_aload_n 0 dX1_copyOf_16 rfl rfl ?_
  refine r_aload_n 1 dX1_copyOf_17 rfl rfl ?_
  refine r_get 6 fk_X1_34 dX1_copyOf_18 rfl rfl ?_
  refine r_put 0 ([(q 0, .inr (1, [.int (σ 0), .int (σ 1), .int (σ 2), .int (ρ 3), .int (ρ 4), .int (ρ 5), .int (ρ 6), .ref (q 1), .ref (q 2), .ref (q 3), .ref (q 4), .ref (q 5)])), (q 1, .inl (cA, 64, .inl (kA ρ))), (q 2, .inl (cA, 64, .inl (vA ρ))), (q 3, .inl (cA, 8, .inl (gA 0 ρ))), (q 4, .inl (cA, 8, .inl (gA 1 ρ))), (q 5, .inl (cA, 8, .inl (gA 2 ρ)))] ++ (rowW cA q2 σ)) fk_X1_34 dX1_copyOf_21 rfl rfl rfl rfl (Nat.le_of_ble_eq_true rfl) rfl ?_
  refine r_aload_n 0 dX1_copyOf_24 rfl rfl ?_
  refine r_aload_n 1 dX1_copyOf_25 rfl rfl ?_
  refine r_get 6 fk_X1_37 dX1_copyOf_26 rfl rfl ?_
  refine r_put 0 ([(q 0, .inr (1, [.int (σ 0), .int (σ 1), .int (σ 2), .int (σ 3), .int (ρ 4), .int (ρ 5), .int (ρ 6), .ref (q 1), .ref (q 2), .ref (q 3), .ref (q 4), .ref (q 5)])), (q 1, .inl (cA, 64, .inl (kA ρ))), (q 2, .inl (cA, 64, .inl (vA ρ))), (q 3, .inl (cA, 8, .inl (gA 0 ρ))), (q 4, .inl (cA, 8, .inl (gA 1 ρ))), (q 5, .inl (cA, 8, .inl (gA 2 ρ)))] ++ (rowW cA q2 σ)) fk_X1_37 dX1_copyOf_29 rfl rfl rfl rfl (Nat.le_of_ble_eq_true rfl) rfl ?_
  refine r_aload_n 0 dX1_copyOf_32 rfl rfl ?_
  refine r_aload_n 1 dX1_copyOf_33 rfl rfl ?_
  refine r_get 6 fk_X1_40 dX1_copyOf_34 rfl rfl ?_
  refine r_put 0 ([(q 0, .inr (1, [.int (σ 0), .int (σ 1), .int (σ 2), .int (σ 3), .int (σ 4), .int (ρ 5), .int (ρ 6), .ref (q 1), .ref (q 2), .ref (q 3), .ref (q 4), .ref (q 5)])), (q 1, .inl (cA, 64, .inl (kA ρ))), (q 2, .inl (cA, 64, .inl (vA ρ))), (q 3, .inl (cA, 8, .inl (gA 0 ρ))), (q 4, .inl (cA, 8, .inl (gA 1 ρ))), (q 5, .inl (cA, 8, .inl (gA 2 ρ)))] ++ (rowW cA q2 σ)) fk_X1_40 dX1_copyOf_37 rfl rfl rfl rfl (Nat.le_of_ble_eq_true rfl) rfl ?_
  refine r_aload_n 0 dX1_copyOf_40 rfl rfl ?_
  refine r_aload_n 1 dX1_copyOf_41 rfl rfl ?_
  refine r_get 6 fk_X1_43 dX1_copyOf_42 rfl rfl ?_
  refine r_put 0 ([(q 0, .inr (1, [.int (σ 0), .int (σ 1), .int (σ 2), .int (σ 3), .int (σ 4), .int (σ 5), .int (ρ 6), .ref (q 1), .ref (q 2), .ref (q 3), .ref (q 4), .ref (q 5)])), (q 1, .inl (cA, 64, .inl (kA ρ))), (q 2, .inl (cA, 64, .inl (vA ρ))), (q 3, .inl (cA, 8, .inl (gA 0 ρ))), (q 4, .inl (cA, 8, .inl (gA 1 ρ))), (q 5, .inl (cA, 8, .inl (gA 2 ρ)))] ++ (rowW cA q2 σ)) fk_X1_43 dX1_copyOf_45 rfl rfl rfl rfl (Nat.le_of_ble_eq_true rfl) rfl ?_
  refine r_aload_n 0 dX1_copyOf_48 rfl rfl ?_
  refine r_aload_n 1 dX1_copyOf_49 rfl rfl ?_
  refine r_get 6 fk_X1_46 dX1_copyOf_50 rfl rfl ?_
  refine r_put 0 ([(q 0, .inr (1, [.int (σ 0), .int (σ 1), .int (σ 2), .int (σ 3), .int (σ 4), .int (σ 5), .int (σ 6), .ref (q 1), .ref (q 2), .ref (q 3), .ref (q 4), .ref (q 5)])), (q 1, .inl (cA, 64, .inl (kA ρ))), (q 2, .inl (cA, 64, .inl (vA ρ))), (q 3, .inl (cA, 8, .inl (gA 0 ρ))), (q 4, .inl (cA, 8, .inl (gA 1 ρ))), (q 5, .inl (cA, 8, .inl (gA 2 ρ)))] ++ (rowW cA q2 σ)) fk_X1_46 dX1_copyOf_53 rfl rfl rfl rfl (Nat.le_of_ble_eq_true rfl) rfl ?_
  refine r_iconst (nI 0) dX1_copyOf_56 (by decide +kernel) ?_
  refine r_istore_n 2 ([some (.ref (q 0)), some (.ref (q2 0)), some (.int (nI 0))]) dX1_copyOf_57 rfl (Nat.le_of_ble_eq_true rfl) rfl rfl ?_
  refine r_ws (ws' := [(q 0, .inr (1, [.int (σ 0), .int (σ 1), .int (σ 2), .int (σ 3), .int (σ 4), .int (σ 5), .int (σ 6), .ref (q 1), .ref (q 2), .ref (q 3), .ref (q 4), .ref (q 5)])), (q 1, .inl (cA, 64, .inl (mixF (kA ρ) (kA σ) 0))), (q 2, .inl (cA, 64, .inl (mixF (vA ρ) (vA σ) 0))), (q 3, .inl (cA, 8, .inl (gA 0 ρ))), (q 4, .inl (cA, 8, .inl (gA 1 ρ))), (q 5, .inl (cA, 8, .inl (gA 2 ρ)))] ++ (rowW cA q2 σ)) (by rw [mixF_0, mixF_0]) ?_
  exact lp_X1_copyOf l D cA cB q q2 ρ σ X sz 65 0 (by omega) (by omega)

