set_option maxRecDepth 100000 in
set_option maxHeartbeats 4000000 in
theorem law_at (l : Launch) (D : va_G) (cA cB : ClassId) (bs : Nat) (X : Cx) (b q p t : Nat → Nat) (rd : Nat) (m : Nat → Nat) (L : Nat) (xs : Nat → Int32) (hL : L ≤ 2048) (hX9 : SX X bs L xs) (tx : Nat → Int32) (tl : Nat) (rf ρ : Nat → Int32) (u0 : Sp5) (r : Nat → Nat → Nat) (σ : Nat → Nat → Int32) (h : Nat) (z : RS) (P α K V C : Nat → Int32) (my cm : Int32) (sp : Nat) (od : Nat → Int32) (no ft : Int32) (hR : Rl ρ σ h z tl P α) (i : Nat) (hi : i + 4 ≤ L) (kk : Nx l D cA cB bs X b q p t rd m i) (v : Nat) (hv : v < 32) : G l X room_1 cL_law RL ret D (tyS cA cB) (AX X) (QL bs X) 62 3115 (gapW cA b q p t rd tx tl rf ++ (rowW cA q ρ ++ (spU cA p u0 ++ (stW cA cB t r σ (nI (h)) ++ (rdZ rd z ++ (mdW cA m ρ P (nI (h)) α rf K V C my cm tx (nI (tl)) (nI (sp)) od no ft)))))) 32 [some (.ref (bs)), some (.ref (b 0)), some (.ref (m 0)), some (.int (nI i))] [.int (nI v)] := by
  rcases Nat.lt_or_ge 20 v with h20 | h20
  · exact r_tabOut 636 dL_law_32 (tb_out h20 hv) (by decide) (kk tx tl rf ρ u0 r σ h z P α K V C my cm sp od no ft hR)
  · match v, h20 with
    | 0, _ => exact r_tabIn (off := 100) 132 dL_law_32 (by decide +kernel) (by decide +kernel) (by decide +kernel) (by decide) (law_132 l D cA cB bs X b q p t rd m L xs hL hX9 tx tl rf ρ u0 r σ h z P α K V C my cm sp od no ft hR i hi kk)
    | 1, _ => exact r_tabIn (off := 133) 165 dL_law_32 (by decide +kernel) (by decide +kernel) (by decide +kernel) (by decide) (law_165 l D cA cB bs X b q p t rd m L xs hL hX9 tx tl rf ρ u0 r σ h z P α K V C my cm sp od no ft hR i hi kk)
    | 2, _ => exact r_tabIn (off := 156) 188 dL_law_32 (by decide +kernel) (by decide +kernel) (by decide +kernel) (by decide) (law_188 l D cA cB bs X b q p t rd m L xs hL hX9 tx tl rf ρ u0 r σ h z P α K V C my cm sp od no ft hR i hi kk)
    | 3, _ => exact r_tabIn (off := 189) 221 dL_law_32 (by decide +kernel) (by decide +kernel) (by decide +kernel) (by decide) (law_221 l D cA cB bs X b q p t rd m L xs hL hX9 tx tl rf ρ u0 r σ h z P α K V C my cm sp od no ft hR i hi kk)
    | 4, _ => exact r_tabIn (off := 212) 244 dL_law_32 (by decide +kernel) (by decide +kernel) (by decide +kernel) (by decide) (law_244 l D cA cB bs X b q p t rd m L xs hL hX9 tx tl rf ρ u0 r σ h z P α K V C my cm sp od no ft hR i hi kk)
    | 5, _ => exact r_tabIn (off := 225) 257 dL_law_32 (by decide +kernel) (by decide +kernel) (by decide +kernel) (by decide) (law_257 l D cA cB bs X b q p t rd m L xs hL hX9 tx tl rf ρ u0 r σ h z P α K V C my cm sp od no ft hR i hi kk)
    | 6, _ => exact r_tabIn (off := 248) 280 dL_law_32 (by decide +kernel) (by decide +kernel) (by decide +kernel) (by decide) (law_280 l D cA cB bs X b q p t rd m L xs hL hX9 tx tl rf ρ u0 r σ h z P α K V C my cm sp od no ft hR i hi kk)
    | 7, _ => exact r_tabIn (off := 271) 303 dL_law_32 (by decide +kernel) (by decide +kernel) (by decide +kernel) (by decide) (law_303 l D cA cB bs X b q p t rd m L xs hL hX9 tx tl rf ρ u0 r σ h z P α K V C my cm sp od no ft hR i hi kk)
    | 8, _ => exact r_tabIn (off := 294) 326 dL_law_32 (by decide +kernel) (by decide +kernel) (by decide +kernel) (by decide) (law_326 l D cA cB bs X b q p t rd m L xs hL hX9 tx tl rf ρ u0 r σ h z P α K V C my cm sp od no ft hR i hi kk)
    | 9, _ => exact r_tabIn (off := 317) 349 dL_law_32 (by decide +kernel) (by decide +kernel) (by decide +kernel) (by decide) (law_349 l D cA cB bs X b q p t rd m L xs hL hX9 tx tl rf ρ u0 r σ h z P α K V C my cm sp od no ft hR i hi kk)
    | 10, _ => exact r_tabIn (off := 340) 372 dL_law_32 (by decide +kernel) (by decide +kernel) (by decide +kernel) (by decide) (law_372 l D cA cB bs X b q p t rd m L xs hL hX9 tx tl rf ρ u0 r σ h z P α K V C my cm sp od no ft hR i hi kk)
    | 11, _ => exact r_tabIn (off := 383) 415 dL_law_32 (by decide +kernel) (by decide +kernel) (by decide +kernel) (by decide) (law_415 l D cA cB bs X b q p t rd m L xs hL hX9 tx tl rf ρ u0 r σ h z P α K V C my cm sp od no ft hR i hi kk)
    | 12, _ => exact r_tabIn (off := 406) 438 dL_law_32 (by decide +kernel) (by decide +kernel) (by decide +kernel) (by decide) (law_438 l D cA cB bs X b q p t rd m L xs hL hX9 tx tl rf ρ u0 r σ h z P α K V C my cm sp od no ft hR i hi kk)
    | 13, _ => exact r_tabIn (off := 449) 481 dL_law_32 (by decide +kernel) (by decide +kernel) (by decide +kernel) (by decide) (law_481 l D cA cB bs X b q p t rd m L xs hL hX9 tx tl rf ρ u0 r σ h z P α K V C my cm sp od no ft hR i hi kk)
    | 14, _ => exact r_tabIn (off := 472) 504 dL_law_32 (by decide +kernel) (by decide +kernel) (by decide +kernel) (by decide) (law_504 l D cA cB bs X b q p t rd m L xs hL hX9 tx tl rf ρ u0 r σ h z P α K V C my cm sp od no ft hR i hi kk)
    | 15, _ => exact r_tabIn (off := 505) 537 dL_law_32 (by decide +kernel) (by decide +kernel) (by decide +kernel) (by decide) (law_537 l D cA cB bs X b q p t rd m L xs hL hX9 tx tl rf ρ u0 r σ h z P α K V C my cm sp od no ft hR i hi kk)
    | 16, _ => exact r_tabIn (off := 528) 560 dL_law_32 (by decide +kernel) (by decide +kernel) (by decide +kernel) (by decide) (law_560 l D cA cB bs X b q p t rd m L xs hL hX9 tx tl rf ρ u0 r σ h z P α K V C my cm sp od no ft hR i hi kk)
    | 17, _ => exact r_tabIn (off := 541) 573 dL_law_32 (by decide +kernel) (by decide +kernel) (by decide +kernel) (by decide) (law_573 l D cA cB bs X b q p t rd m L xs hL hX9 tx tl rf ρ u0 r σ h z P α K V C my cm sp od no ft hR i hi kk)
    | 18, _ => exact r_tabIn (off := 554) 586 dL_law_32 (by decide +kernel) (by decide +kernel) (by decide +kernel) (by decide) (law_586 l D cA cB bs X b q p t rd m L xs hL hX9 tx tl rf ρ u0 r σ h z P α K V C my cm sp od no ft hR i hi kk)
    | 19, _ => exact r_tabIn (off := 567) 599 dL_law_32 (by decide +kernel) (by decide +kernel) (by decide +kernel) (by decide) (law_599 l D cA cB bs X b q p t rd m L xs hL hX9 tx tl rf ρ u0 r σ h z P α K V C my cm sp od no ft hR i hi kk)
    | 20, _ => exact r_tabIn (off := 590) 622 dL_law_32 (by decide +kernel) (by decide +kernel) (by decide +kernel) (by decide) (law_622 l D cA cB bs X b q p t rd m L xs hL hX9 tx tl rf ρ u0 r σ h z P α K V C my cm sp od no ft hR i hi kk)
    | v + 21, h21 => exact absurd h21 (by omega)

set_option maxRecDepth 100000 in
set_option maxHeartbeats 4000000 in
theorem law_loop (l : Launch) (D : va_G) (cA cB : ClassId) (bs : Nat) (X : Cx) (b q p t : Nat → Nat) (rd : Nat) (m : Nat → Nat) (L : Nat) (xs : Nat → Int32) (hL : L ≤ 2048) (hX9 : SX X bs L xs) : ∀ (f i : Nat), i ≤ L → L + 1 ≤ i + f → ∀ (tx : Nat → Int32) (tl : Nat) (rf ρ : Nat → Int32) (u0 : Sp5) (r : Nat → Nat → Nat) (σ : Nat → Nat → Int32) (h : Nat) (z : RS) (P α K V C : Nat → Int32) (my cm : Int32) (sp : Nat) (od : Nat → Int32) (no ft : Int32) , Rl ρ σ h z tl P α → LG l D cA cB bs X b q p t rd m 18 i tx tl rf ρ u0 r σ h z P α K V C my cm sp od no ft := by
  intro f
  induction f with
  | zero => intro i h1 h2; omega
  | succ f ih =>
    intro i h1 h2 tx tl rf ρ u0 r σ h z P α K V C my cm sp od no ft hR
    refine r_iload_n 3 dL_law_18 rfl rfl ?_
    refine r_aload_n 0 dL_law_19 rfl rfl ?_
    refine r_slen hX9 dL_law_20 ?_
    refine r_iconst (nI 4) dL_law_21 (by decide +kernel) ?_
    refine r_isub dL_law_22 ?_
    refine r_icmp_gt 642 dL_law_23 (by decide) (fun _ => ?_) (fun hg => ?_)
    · refine r_iconst 1 dL_law_642 (by decide +kernel) ?_
      exact r_lend hX9 (by omega) (by omega) dL_law_643
    · have hi := lt4 hL h1 hg
      refine r_aload_n 0 dL_law_26 rfl rfl ?_
      refine r_iload_n 3 dL_law_27 rfl rfl ?_
      refine r_sld hX9 i dL_law_28 rfl (by omega) (by omega) ?_
      refine r_bipush (nI 31) dL_law_29 (by decide +kernel) ?_
      refine r_iand dL_law_31 ?_
      obtain ⟨v, hv, e⟩ := and31 (xs i)
      refine r_top e ?_
      refine law_at l D cA cB bs X b q p t rd m L xs hL hX9 tx tl rf ρ u0 r σ h z P α K V C my cm sp od no ft hR i hi ?_ v hv
      intro tx tl rf ρ u0 r σ h z P α K V C my cm sp od no ft hR
      refine r_iinc (v := nI (i + 4)) ([some (.ref (bs)), some (.ref (b 0)), some (.ref (m 0)), some (.int (nI (i + 4)))]) dL_law_636 rfl (nI_add i 4) (Nat.le_of_ble_eq_true rfl) rfl rfl ?_
      refine r_goto 18 dL_law_639 (by decide) ?_
      exact ih (i + 4) hi (by omega) tx tl rf ρ u0 r σ h z P α K V C my cm sp od no ft hR

theorem Rl_0 : Rl rho0 (fun _ => rho0) 0 (0, 0, 0, false, 0, 0, 0) 0 (fun _ => 0) (fun _ => 0) := by
  refine ⟨inv0.iv, by omega, by omega, ⟨by decide, by decide, fun h => by cases h⟩, fun _ _ => rfl, fun i h => by omega⟩

set_option maxRecDepth 100000 in
set_option maxHeartbeats 4000000 in
theorem law_start (l : Launch) (D : va_G) (cA cB : ClassId) (bs : Nat) (X : Cx) (L : Nat) (xs : Nat → Int32) (hL : L ≤ 2048) (hX9 : SX X bs L xs) : G l X room_1 cL_law RL ret D (tyS cA cB) (AX X) (QL bs X) 0 0 [] 0 [some (.ref bs), none, none, none] [] := by
  refine r_new 4 [.null, .null, .null, .null, .null, .int (0), .null] rfl in_X4 cl_L_7 ins_X4 ini_X4 (by decide +kernel) dL_law_0 rfl rfl (fun qa => ?_)
  refine r_ws (ws' := [(qa, .inr (4, [.null, .null, .null, .null, .null, .int (0), .null]))]) rfl ?_
  refine r_dup rfl dL_law_3 ?_
  refine r_callI2 (As := []) (st := [.ref qa]) (fun u => gapW cA u.1 u.2.1 u.2.2.1 u.2.2.2.1 u.2.2.2.2.2 (fun _ => 0) 0 (fun _ => 0) ++ (rowW cA u.2.1 rho0 ++ (spW cA u.2.2.1 (fun _ => 0) (fun _ => 0) (fun _ => 0) 0 0 ++ (stW cA cB u.2.2.2.1 u.2.2.2.2.1 (fun _ => rho0) (nI 0) ++ (rdW u.2.2.2.2.2 0 0 0 false 0 0 0))))) [[(qa, .inr (4, [.null, .null, .null, .null, .null, .int (0), .null]))]] [[(qa, .inr (4, [.null, .null, .null, .null, .null, .int (0), .null]))]] [] (fun u => [gapW cA u.1 u.2.1 u.2.2.1 u.2.2.2.1 u.2.2.2.2.2 (fun _ => 0) 0 (fun _ => 0) ++ (rowW cA u.2.1 rho0 ++ (spW cA u.2.2.1 (fun _ => 0) (fun _ => 0) (fun _ => 0) 0 0 ++ (stW cA cB u.2.2.2.1 u.2.2.2.2.1 (fun _ => rho0) (nI 0) ++ (rdW u.2.2.2.2.2 0 0 0 false 0 0 0))))]) (fun u => [gapW cA u.1 u.2.1 u.2.2.1 u.2.2.2.1 u.2.2.2.2.2 (fun _ => 0) 0 (fun _ => 0) ++ (rowW cA u.2.1 rho0 ++ (spW cA u.2.2.1 (fun _ => 0) (fun _ => 0) (fun _ => 0) 0 0 ++ (stW cA cB u.2.2.2.1 u.2.2.2.2.1 (fun _ => rho0) (nI 0) ++ (rdW u.2.2.2.2.2 0 0 0 false 0 0 0))))]) (c_X4_init l D cA cB qa) ki_X4_init ml_L_9 dL_law_4 rfl rfl (segOk [0] rfl rfl rfl rfl) (fun _ => segOk [0] rfl rfl rfl rfl) rfl (Nat.le_of_ble_eq_true rfl) (fun v u h => ?_)
  obtain ⟨hv9, hu9⟩ := h
  subst hv9
  subst hu9
  refine r_st (st' := [.ref (u.1 0)]) rfl ?_
  refine r_astore_n 1 ([some (.ref bs), some (.ref (u.1 0)), none, none]) dL_law_7 rfl (Nat.le_of_ble_eq_true rfl) rfl rfl ?_
  refine r_new 5 [.int (0), .null, .null, .int (0), .null, .null, .null, .null, .null, .int (0), .int (0), .null, .int (0), .int (0), .null, .int (0), .int (0)] rfl in_X5 cl_L_10 ins_X5 ini_X5 (by decide +kernel) dL_law_8 rfl rfl (fun qm => ?_)
  refine r_dup rfl dL_law_11 ?_
  refine r_callI2 (As := []) (st := [.ref qm]) (fun u5 => (gapW cA u.1 u.2.1 u.2.2.1 u.2.2.2.1 u.2.2.2.2.2 (fun _ => 0) 0 (fun _ => 0) ++ (rowW cA u.2.1 rho0 ++ (spW cA u.2.2.1 (fun _ => 0) (fun _ => 0) (fun _ => 0) 0 0 ++ (stW cA cB u.2.2.2.1 u.2.2.2.2.1 (fun _ => rho0) (nI 0) ++ (rdW u.2.2.2.2.2 0 0 0 false 0 0 0))))) ++ mdW cA u5 rho0 (fun _ => 0) 0 (fun _ => 0) (fun _ => 0) (fun _ => 0) (fun _ => 0) (fun _ => 0) 0 0 (fun _ => 0) 0 0 (fun _ => 0) 0 0) [gapW cA u.1 u.2.1 u.2.2.1 u.2.2.2.1 u.2.2.2.2.2 (fun _ => 0) 0 (fun _ => 0) ++ (rowW cA u.2.1 rho0 ++ (spW cA u.2.2.1 (fun _ => 0) (fun _ => 0) (fun _ => 0) 0 0 ++ (stW cA cB u.2.2.2.1 u.2.2.2.2.1 (fun _ => rho0) (nI 0) ++ (rdW u.2.2.2.2.2 0 0 0 false 0 0 0)))), [(qm, .inr (5, [.int (0), .null, .null, .int (0), .null, .null, .null, .null, .null, .int (0), .int (0), .null, .int (0), .int (0), .null, .int (0), .int (0)]))]] [[(qm, .inr (5, [.int (0), .null, .null, .int (0), .null, .null, .null, .null, .null, .int (0), .int (0), .null, .int (0), .int (0), .null, .int (0), .int (0)]))]] [gapW cA u.1 u.2.1 u.2.2.1 u.2.2.2.1 u.2.2.2.2.2 (fun _ => 0) 0 (fun _ => 0) ++ (rowW cA u.2.1 rho0 ++ (spW cA u.2.2.1 (fun _ => 0) (fun _ => 0) (fun _ => 0) 0 0 ++ (stW cA cB u.2.2.2.1 u.2.2.2.2.1 (fun _ => rho0) (nI 0) ++ (rdW u.2.2.2.2.2 0 0 0 false 0 0 0))))] (fun u5 => [gapW cA u.1 u.2.1 u.2.2.1 u.2.2.2.1 u.2.2.2.2.2 (fun _ => 0) 0 (fun _ => 0) ++ (rowW cA u.2.1 rho0 ++ (spW cA u.2.2.1 (fun _ => 0) (fun _ => 0) (fun _ => 0) 0 0 ++ (stW cA cB u.2.2.2.1 u.2.2.2.2.1 (fun _ => rho0) (nI 0) ++ (rdW u.2.2.2.2.2 0 0 0 false 0 0 0)))), mdW cA u5 rho0 (fun _ => 0) 0 (fun _ => 0) (fun _ => 0) (fun _ => 0) (fun _ => 0) (fun _ => 0) 0 0 (fun _ => 0) 0 0 (fun _ => 0) 0 0]) (fun u5 => [mdW cA u5 rho0 (fun _ => 0) 0 (fun _ => 0) (fun _ => 0) (fun _ => 0) (fun _ => 0) (fun _ => 0) 0 0 (fun _ => 0) 0 0 (fun _ => 0) 0 0]) (c_X5_init l D cA cB qm) ki_X5_init ml_L_12 dL_law_12 rfl rfl (segOk [1, 0] rfl rfl rfl rfl) (fun _ => segOk [1, 0] rfl rfl rfl rfl) rfl (Nat.le_of_ble_eq_true rfl) (fun v u5 h => ?_)
  obtain ⟨hv9, hu9⟩ := h
  subst hv9
  subst hu9
  refine r_st (st' := [.ref (u5 0)]) rfl ?_
  refine r_astore_n 2 ([some (.ref bs), some (.ref (u.1 0)), some (.ref (u5 0)), none]) dL_law_15 rfl (Nat.le_of_ble_eq_true rfl) rfl rfl ?_
  refine r_iconst (nI 0) dL_law_16 (by decide +kernel) ?_
  refine r_istore_n 3 ([some (.ref bs), some (.ref (u.1 0)), some (.ref (u5 0)), some (.int (nI 0))]) dL_law_17 rfl (Nat.le_of_ble_eq_true rfl) rfl rfl ?_
  have kk := law_loop l D cA cB bs X u.1 u.2.1 u.2.2.1 u.2.2.2.1 u.2.2.2.2.2 u5 L xs hL hX9 (L + 1) 0 (by omega) (by omega) (fun _ => 0) 0 (fun _ => 0) rho0 ((fun _ => 0), (fun _ => 0), (fun _ => 0), 0, 0) u.2.2.2.2.1 (fun _ => rho0) 0 (0, 0, 0, false, 0, 0, 0) (fun _ => 0) (fun _ => 0) (fun _ => 0) (fun _ => 0) (fun _ => 0) 0 0 0 (fun _ => 0) 0 0 Rl_0
  refine r_ws ?_ kk
  simp only [List.append_assoc]
  rfl

theorem whole_start {p : Program} {e : Env} {s : State} {m : MethodId} {below : List Frame} {meth : Method} {c : Code} (l : Launch) (hflags : l.flags = flags0) {b L : Nat} {xs : Nat → Int32} (hL : L ≤ 2048) (C0 : lw_At p s m meth c b L xs) : W p l e room_1 s m #[Value.ref b] below meth c s.heap [] 0 0 (lw_Z below #[Value.ref b] s) (entryFrame m ([Value.ref b] : List Value).toArray 4) := by
  obtain ⟨hx, hb, hr, hml, hown, hts, hX, hbl, hlocks, hgv⟩ := C0
  have hts' : ∀ w ∈ TB, w.before #[Value.ref b] s = true := fun w hw => hts w (TB_in hw)
  obtain ⟨D, cA, cB, hK⟩ := K_start hts'
  have hle2 := lv_entry [Value.ref b] (n := 4) (Nat.le_of_ble_eq_true rfl)
  rw [lg_entry_eq]
  have hA : ∀ (i : Nat) (v : Value), ([some (.ref b), none, none, none] : Lv)[i]? = some (some v) → (i, v) ∈ lv_args 0 [Value.ref b] := by
    intro i v hi
    have h := lv_args_mem [Value.ref b] (by intro v hv; rw [List.mem_singleton.mp hv]; rfl) 3 0 i v hi
    rwa [Nat.zero_add] at h
  exact law_start l D cA cB b (p, e, s, m, #[Value.ref b], below, meth, c) L xs hL ⟨rfl, hX, hbl⟩ ⟨⟨hx, hb, hml, hown, hts'⟩, hr, hlocks, fun q h => h, hK⟩ s.heap [] _ (fun k q h => by simp at h) ⟨fun i j p q h => by simp at h, fun k q h => by simp at h⟩ va_S.rf ⟨hle2.1, hle2.2.1, fun i v hi => hle2.2.2 (i, v) (hA i v hi)⟩

