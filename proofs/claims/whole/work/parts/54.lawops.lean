abbrev LG (l : Launch) (D : va_G) (cA cB : ClassId) (bs : Nat) (X : Cx) (b q p t : Nat → Nat) (rd : Nat) (m : Nat → Nat) (pc i : Nat) (tx : Nat → Int32) (tl : Nat) (rf ρ : Nat → Int32) (u0 : Sp5) (r : Nat → Nat → Nat) (σ : Nat → Nat → Int32) (h : Nat) (z : RS) (P α K V C : Nat → Int32) (my cm : Int32) (sp : Nat) (od : Nat → Int32) (no ft : Int32) : Prop := G l X room_1 cL_law RL ret D (tyS cA cB) (AX X) (QL bs X) 62 3115 (gapW cA b q p t rd tx tl rf ++ (rowW cA q ρ ++ (spU cA p u0 ++ (stW cA cB t r σ (nI (h)) ++ (rdZ rd z ++ (mdW cA m ρ P (nI (h)) α rf K V C my cm tx (nI (tl)) (nI (sp)) od no ft)))))) pc [some (.ref (bs)), some (.ref (b 0)), some (.ref (m 0)), some (.int (nI i))] []
abbrev Nx (l : Launch) (D : va_G) (cA cB : ClassId) (bs : Nat) (X : Cx) (b q p t : Nat → Nat) (rd : Nat) (m : Nat → Nat) (i : Nat) : Prop := ∀ (tx : Nat → Int32) (tl : Nat) (rf ρ : Nat → Int32) (u0 : Sp5) (r : Nat → Nat → Nat) (σ : Nat → Nat → Int32) (h : Nat) (z : RS) (P α K V C : Nat → Int32) (my cm : Int32) (sp : Nat) (od : Nat → Int32) (no ft : Int32) , Rl ρ σ h z tl P α → LG l D cA cB bs X b q p t rd m 636 i tx tl rf ρ u0 r σ h z P α K V C my cm sp od no ft
set_option maxRecDepth 100000 in
set_option maxHeartbeats 4000000 in
theorem law_132 (l : Launch) (D : va_G) (cA cB : ClassId) (bs : Nat) (X : Cx) (b q p t : Nat → Nat) (rd : Nat) (m : Nat → Nat) (L : Nat) (xs : Nat → Int32) (hL : L ≤ 2048) (hX9 : SX X bs L xs) (tx : Nat → Int32) (tl : Nat) (rf ρ : Nat → Int32) (u0 : Sp5) (r : Nat → Nat → Nat) (σ : Nat → Nat → Int32) (h : Nat) (z : RS) (P α K V C : Nat → Int32) (my cm : Int32) (sp : Nat) (od : Nat → Int32) (no ft : Int32) (hR : Rl ρ σ h z tl P α) (i : Nat) (hi : i + 4 ≤ L) (kk : Nx l D cA cB bs X b q p t rd m i) : LG l D cA cB bs X b q p t rd m 132 i tx tl rf ρ u0 r σ h z P α K V C my cm sp od no ft := by
  have hI := hR.1
  have hh := hR.2.1
  have htl := hR.2.2.1
  have hz := hR.2.2.2.1
  have hza := hR.2.2.2.2.1
  have hzr := hI.z
  refine r_aload_n 1 dL_law_132 rfl rfl ?_
  refine r_aload_n 0 dL_law_133 rfl rfl ?_
  refine r_iload_n 3 dL_law_134 rfl rfl ?_
  refine r_iconst (nI 1) dL_law_135 (by decide +kernel) ?_
  refine r_niadd dL_law_136 ?_
  refine r_sld hX9 (i + 1) dL_law_137 rfl (by omega) (by omega) ?_
  refine r_aload_n 0 dL_law_138 rfl rfl ?_
  refine r_iload_n 3 dL_law_139 rfl rfl ?_
  refine r_iconst (nI 2) dL_law_140 (by decide +kernel) ?_
  refine r_niadd dL_law_141 ?_
  refine r_sld hX9 (i + 2) dL_law_142 rfl (by omega) (by omega) ?_
  refine r_callV2 (As := [.int (xs (i + 1)), .int (xs (i + 2))]) (st := []) (fun u1 => gapW cA b q p t rd tx tl (rfU (rfP ρ (nOf ρ) (xs (i + 1)) (xs (i + 2))) rf) ++ (rowW cA q (pRow ρ (nOf ρ) (gOf ρ) (xs (i + 1)) (xs (i + 2))) ++ (spU cA p u1 ++ (stW cA cB t (if rfP ρ (nOf ρ) (xs (i + 1)) (xs (i + 2)) = 0 then kpR r h else r) (if rfP ρ (nOf ρ) (xs (i + 1)) (xs (i + 2)) = 0 then kpS σ h ρ else σ) (nI (if rfP ρ (nOf ρ) (xs (i + 1)) (xs (i + 2)) = 0 then kpH h else h)) ++ (rdZ rd z ++ (mdW cA m ρ P (nI (h)) α rf K V C my cm tx (nI (tl)) (nI (sp)) od no ft)))))) [gapW cA b q p t rd tx tl rf, rowW cA q ρ, spU cA p u0, stW cA cB t r σ (nI (h)), rdZ rd z, mdW cA m ρ P (nI (h)) α rf K V C my cm tx (nI (tl)) (nI (sp)) od no ft] [gapW cA b q p t rd tx tl rf, rowW cA q ρ, spU cA p u0, stW cA cB t r σ (nI (h))] [rdZ rd z, mdW cA m ρ P (nI (h)) α rf K V C my cm tx (nI (tl)) (nI (sp)) od no ft] (fun u1 => [gapW cA b q p t rd tx tl (rfU (rfP ρ (nOf ρ) (xs (i + 1)) (xs (i + 2))) rf), rowW cA q (pRow ρ (nOf ρ) (gOf ρ) (xs (i + 1)) (xs (i + 2))), spU cA p u1, stW cA cB t (if rfP ρ (nOf ρ) (xs (i + 1)) (xs (i + 2)) = 0 then kpR r h else r) (if rfP ρ (nOf ρ) (xs (i + 1)) (xs (i + 2)) = 0 then kpS σ h ρ else σ) (nI (if rfP ρ (nOf ρ) (xs (i + 1)) (xs (i + 2)) = 0 then kpH h else h)), rdZ rd z, mdW cA m ρ P (nI (h)) α rf K V C my cm tx (nI (tl)) (nI (sp)) od no ft]) (fun u1 => [gapW cA b q p t rd tx tl (rfU (rfP ρ (nOf ρ) (xs (i + 1)) (xs (i + 2))) rf), rowW cA q (pRow ρ (nOf ρ) (gOf ρ) (xs (i + 1)) (xs (i + 2))), spU cA p u1, stW cA cB t (if rfP ρ (nOf ρ) (xs (i + 1)) (xs (i + 2)) = 0 then kpR r h else r) (if rfP ρ (nOf ρ) (xs (i + 1)) (xs (i + 2)) = 0 then kpS σ h ρ else σ) (nI (if rfP ρ (nOf ρ) (xs (i + 1)) (xs (i + 2)) = 0 then kpH h else h))]) (c_X4_puts l D cA cB b q p t rd tx tl rf ρ (nOf ρ) hI.1 hI.2.1 (gOf ρ) hI.2.2.1 hI.2.2.2.1 u0 r σ h hh hI.2.2.2.2.1 (xs (i + 1)) (xs (i + 2))) kv_X4_puts ml_L_13 dL_law_143 rfl rfl rfl rfl (segOk [0, 1, 2, 3, 4, 5] rfl rfl rfl rfl) (fun _ => segOk [0, 1, 2, 3, 4, 5] rfl rfl rfl rfl) rfl (Nat.le_of_ble_eq_true rfl) (fun v u1 h => ?_)
  subst h
  refine r_st (st' := [.int (pAns ρ (nOf ρ) (xs (i + 1)) (xs (i + 2)))]) rfl ?_
  refine r_aload_n 2 dL_law_146 rfl rfl ?_
  refine r_aload_n 0 dL_law_147 rfl rfl ?_
  refine r_iload_n 3 dL_law_148 rfl rfl ?_
  refine r_iconst (nI 1) dL_law_149 (by decide +kernel) ?_
  refine r_niadd dL_law_150 ?_
  refine r_sld hX9 (i + 1) dL_law_151 rfl (by omega) (by omega) ?_
  refine r_aload_n 0 dL_law_152 rfl rfl ?_
  refine r_iload_n 3 dL_law_153 rfl rfl ?_
  refine r_iconst (nI 2) dL_law_154 (by decide +kernel) ?_
  refine r_niadd dL_law_155 ?_
  refine r_sld hX9 (i + 2) dL_law_156 rfl (by omega) (by omega) ?_
  refine r_callV2 (As := [.int (xs (i + 1)), .int (xs (i + 2))]) (st := [.int (pAns ρ (nOf ρ) (xs (i + 1)) (xs (i + 2)))]) (fun u2 => gapW cA b q p t rd tx tl (rfU (rfP ρ (nOf ρ) (xs (i + 1)) (xs (i + 2))) rf) ++ (rowW cA q (pRow ρ (nOf ρ) (gOf ρ) (xs (i + 1)) (xs (i + 2))) ++ (spU cA p u1 ++ (stW cA cB t (if rfP ρ (nOf ρ) (xs (i + 1)) (xs (i + 2)) = 0 then kpR r h else r) (if rfP ρ (nOf ρ) (xs (i + 1)) (xs (i + 2)) = 0 then kpS σ h ρ else σ) (nI (if rfP ρ (nOf ρ) (xs (i + 1)) (xs (i + 2)) = 0 then kpH h else h)) ++ (rdZ rd z ++ (mdW cA m (pRow ρ (nOf ρ) (gOf ρ) (xs (i + 1)) (xs (i + 2))) (if rfP ρ (nOf ρ) (xs (i + 1)) (xs (i + 2)) = 0 then lvP P h ρ else P) (nI (if rfP ρ (nOf ρ) (xs (i + 1)) (xs (i + 2)) = 0 then kpH h else h)) ρ (rfU (rfP ρ (nOf ρ) (xs (i + 1)) (xs (i + 2))) rf) u2.1 u2.2.1 u2.2.2.1 u2.2.2.2.1 u2.2.2.2.2 tx (nI (tl)) (nI (sp)) od no ft)))))) [gapW cA b q p t rd tx tl (rfU (rfP ρ (nOf ρ) (xs (i + 1)) (xs (i + 2))) rf), rowW cA q (pRow ρ (nOf ρ) (gOf ρ) (xs (i + 1)) (xs (i + 2))), spU cA p u1, stW cA cB t (if rfP ρ (nOf ρ) (xs (i + 1)) (xs (i + 2)) = 0 then kpR r h else r) (if rfP ρ (nOf ρ) (xs (i + 1)) (xs (i + 2)) = 0 then kpS σ h ρ else σ) (nI (if rfP ρ (nOf ρ) (xs (i + 1)) (xs (i + 2)) = 0 then kpH h else h)), rdZ rd z, mdW cA m ρ P (nI (h)) α rf K V C my cm tx (nI (tl)) (nI (sp)) od no ft] [mdW cA m ρ P (nI (h)) α rf K V C my cm tx (nI (tl)) (nI (sp)) od no ft] [gapW cA b q p t rd tx tl (rfU (rfP ρ (nOf ρ) (xs (i + 1)) (xs (i + 2))) rf), rowW cA q (pRow ρ (nOf ρ) (gOf ρ) (xs (i + 1)) (xs (i + 2))), spU cA p u1, stW cA cB t (if rfP ρ (nOf ρ) (xs (i + 1)) (xs (i + 2)) = 0 then kpR r h else r) (if rfP ρ (nOf ρ) (xs (i + 1)) (xs (i + 2)) = 0 then kpS σ h ρ else σ) (nI (if rfP ρ (nOf ρ) (xs (i + 1)) (xs (i + 2)) = 0 then kpH h else h)), rdZ rd z] (fun u2 => [gapW cA b q p t rd tx tl (rfU (rfP ρ (nOf ρ) (xs (i + 1)) (xs (i + 2))) rf), rowW cA q (pRow ρ (nOf ρ) (gOf ρ) (xs (i + 1)) (xs (i + 2))), spU cA p u1, stW cA cB t (if rfP ρ (nOf ρ) (xs (i + 1)) (xs (i + 2)) = 0 then kpR r h else r) (if rfP ρ (nOf ρ) (xs (i + 1)) (xs (i + 2)) = 0 then kpS σ h ρ else σ) (nI (if rfP ρ (nOf ρ) (xs (i + 1)) (xs (i + 2)) = 0 then kpH h else h)), rdZ rd z, mdW cA m (pRow ρ (nOf ρ) (gOf ρ) (xs (i + 1)) (xs (i + 2))) (if rfP ρ (nOf ρ) (xs (i + 1)) (xs (i + 2)) = 0 then lvP P h ρ else P) (nI (if rfP ρ (nOf ρ) (xs (i + 1)) (xs (i + 2)) = 0 then kpH h else h)) ρ (rfU (rfP ρ (nOf ρ) (xs (i + 1)) (xs (i + 2))) rf) u2.1 u2.2.1 u2.2.2.1 u2.2.2.2.1 u2.2.2.2.2 tx (nI (tl)) (nI (sp)) od no ft]) (fun u2 => [mdW cA m (pRow ρ (nOf ρ) (gOf ρ) (xs (i + 1)) (xs (i + 2))) (if rfP ρ (nOf ρ) (xs (i + 1)) (xs (i + 2)) = 0 then lvP P h ρ else P) (nI (if rfP ρ (nOf ρ) (xs (i + 1)) (xs (i + 2)) = 0 then kpH h else h)) ρ (rfU (rfP ρ (nOf ρ) (xs (i + 1)) (xs (i + 2))) rf) u2.1 u2.2.1 u2.2.2.1 u2.2.2.2.1 u2.2.2.2.2 tx (nI (tl)) (nI (sp)) od no ft]) (c_X5_puts l D cA cB m ρ P h α rf K V C my cm tx (nI tl)  (nI sp)  od no ft (nOf ρ) hI.1 hI.2.1 (gOf ρ) hI.2.2.1 hI.2.2.2.1 hh hzr hza hI.2.2.2.2.1 (xs (i + 1)) (xs (i + 2)) (fun e => putM_nn hI e)) kv_X5_puts ml_L_17 dL_law_157 rfl rfl rfl rfl (segOk [5, 0, 1, 2, 3, 4] rfl rfl rfl rfl) (fun _ => segOk [5, 0, 1, 2, 3, 4] rfl rfl rfl rfl) rfl (Nat.le_of_ble_eq_true rfl) (fun v u2 h => ?_)
  subst h
  refine r_st (st' := [.int (pAns ρ (nOf ρ) (xs (i + 1)) (xs (i + 2))), .int (pAns ρ (nOf ρ) (xs (i + 1)) (xs (i + 2)))]) rfl ?_
  refine r_icmp_eq 636 dL_law_160 (by decide) (fun hq3 => ?_) (fun hq3 => ?_)
  · exact kk tx tl (rfU (rfP ρ (nOf ρ) (xs (i + 1)) (xs (i + 2))) rf) (pRow ρ (nOf ρ) (gOf ρ) (xs (i + 1)) (xs (i + 2))) u1 (if rfP ρ (nOf ρ) (xs (i + 1)) (xs (i + 2)) = 0 then kpR r h else r) (if rfP ρ (nOf ρ) (xs (i + 1)) (xs (i + 2)) = 0 then kpS σ h ρ else σ) (if rfP ρ (nOf ρ) (xs (i + 1)) (xs (i + 2)) = 0 then kpH h else h) z (if rfP ρ (nOf ρ) (xs (i + 1)) (xs (i + 2)) = 0 then lvP P h ρ else P) ρ u2.1 u2.2.1 u2.2.2.1 u2.2.2.2.1 u2.2.2.2.2 sp od no ft (Rl_call hR (pRow_iv hI _ _) (fun e => if_neg e))
  · exact absurd rfl hq3

set_option maxRecDepth 100000 in
set_option maxHeartbeats 4000000 in
theorem law_165 (l : Launch) (D : va_G) (cA cB : ClassId) (bs : Nat) (X : Cx) (b q p t : Nat → Nat) (rd : Nat) (m : Nat → Nat) (L : Nat) (xs : Nat → Int32) (hL : L ≤ 2048) (hX9 : SX X bs L xs) (tx : Nat → Int32) (tl : Nat) (rf ρ : Nat → Int32) (u0 : Sp5) (r : Nat → Nat → Nat) (σ : Nat → Nat → Int32) (h : Nat) (z : RS) (P α K V C : Nat → Int32) (my cm : Int32) (sp : Nat) (od : Nat → Int32) (no ft : Int32) (hR : Rl ρ σ h z tl P α) (i : Nat) (hi : i + 4 ≤ L) (kk : Nx l D cA cB bs X b q p t rd m i) : LG l D cA cB bs X b q p t rd m 165 i tx tl rf ρ u0 r σ h z P α K V C my cm sp od no ft := by
  have hI := hR.1
  have hh := hR.2.1
  have htl := hR.2.2.1
  have hz := hR.2.2.2.1
  have hza := hR.2.2.2.2.1
  have hzr := hI.z
  refine r_aload_n 1 dL_law_165 rfl rfl ?_
  refine r_aload_n 0 dL_law_166 rfl rfl ?_
  refine r_iload_n 3 dL_law_167 rfl rfl ?_
  refine r_iconst (nI 1) dL_law_168 (by decide +kernel) ?_
  refine r_niadd dL_law_169 ?_
  refine r_sld hX9 (i + 1) dL_law_170 rfl (by omega) (by omega) ?_
  refine r_callV2 (As := [.int (xs (i + 1))]) (st := []) (fun u1 => gapW cA b q p t rd tx tl (rfU (rfT ρ (nOf ρ) (xs (i + 1))) rf) ++ (rowW cA q (tRow ρ (nOf ρ) (gOf ρ) (xs (i + 1))) ++ (spU cA p u1 ++ (stW cA cB t (if rfT ρ (nOf ρ) (xs (i + 1)) = 0 then kpR r h else r) (if rfT ρ (nOf ρ) (xs (i + 1)) = 0 then kpS σ h ρ else σ) (nI (if rfT ρ (nOf ρ) (xs (i + 1)) = 0 then kpH h else h)) ++ (rdZ rd z ++ (mdW cA m ρ P (nI (h)) α rf K V C my cm tx (nI (tl)) (nI (sp)) od no ft)))))) [gapW cA b q p t rd tx tl rf, rowW cA q ρ, spU cA p u0, stW cA cB t r σ (nI (h)), rdZ rd z, mdW cA m ρ P (nI (h)) α rf K V C my cm tx (nI (tl)) (nI (sp)) od no ft] [gapW cA b q p t rd tx tl rf, rowW cA q ρ, spU cA p u0, stW cA cB t r σ (nI (h))] [rdZ rd z, mdW cA m ρ P (nI (h)) α rf K V C my cm tx (nI (tl)) (nI (sp)) od no ft] (fun u1 => [gapW cA b q p t rd tx tl (rfU (rfT ρ (nOf ρ) (xs (i + 1))) rf), rowW cA q (tRow ρ (nOf ρ) (gOf ρ) (xs (i + 1))), spU cA p u1, stW cA cB t (if rfT ρ (nOf ρ) (xs (i + 1)) = 0 then kpR r h else r) (if rfT ρ (nOf ρ) (xs (i + 1)) = 0 then kpS σ h ρ else σ) (nI (if rfT ρ (nOf ρ) (xs (i + 1)) = 0 then kpH h else h)), rdZ rd z, mdW cA m ρ P (nI (h)) α rf K V C my cm tx (nI (tl)) (nI (sp)) od no ft]) (fun u1 => [gapW cA b q p t rd tx tl (rfU (rfT ρ (nOf ρ) (xs (i + 1))) rf), rowW cA q (tRow ρ (nOf ρ) (gOf ρ) (xs (i + 1))), spU cA p u1, stW cA cB t (if rfT ρ (nOf ρ) (xs (i + 1)) = 0 then kpR r h else r) (if rfT ρ (nOf ρ) (xs (i + 1)) = 0 then kpS σ h ρ else σ) (nI (if rfT ρ (nOf ρ) (xs (i + 1)) = 0 then kpH h else h))]) (c_X4_takes l D cA cB b q p t rd tx tl rf ρ (nOf ρ) hI.1 hI.2.1 (gOf ρ) hI.2.2.1 hI.2.2.2.1 u0 r σ h hh hI.2.2.2.2.1 (xs (i + 1))) kv_X4_takes ml_L_18 dL_law_171 rfl rfl rfl rfl (segOk [0, 1, 2, 3, 4, 5] rfl rfl rfl rfl) (fun _ => segOk [0, 1, 2, 3, 4, 5] rfl rfl rfl rfl) rfl (Nat.le_of_ble_eq_true rfl) (fun v u1 h => ?_)
  subst h
  refine r_st (st' := [.int (tAns ρ (nOf ρ) (xs (i + 1)))]) rfl ?_
  refine r_aload_n 2 dL_law_174 rfl rfl ?_
  refine r_aload_n 0 dL_law_175 rfl rfl ?_
  refine r_iload_n 3 dL_law_176 rfl rfl ?_
  refine r_iconst (nI 1) dL_law_177 (by decide +kernel) ?_
  refine r_niadd dL_law_178 ?_
  refine r_sld hX9 (i + 1) dL_law_179 rfl (by omega) (by omega) ?_
  refine r_callV2 (As := [.int (xs (i + 1))]) (st := [.int (tAns ρ (nOf ρ) (xs (i + 1)))]) (fun u2 => gapW cA b q p t rd tx tl (rfU (rfT ρ (nOf ρ) (xs (i + 1))) rf) ++ (rowW cA q (tRow ρ (nOf ρ) (gOf ρ) (xs (i + 1))) ++ (spU cA p u1 ++ (stW cA cB t (if rfT ρ (nOf ρ) (xs (i + 1)) = 0 then kpR r h else r) (if rfT ρ (nOf ρ) (xs (i + 1)) = 0 then kpS σ h ρ else σ) (nI (if rfT ρ (nOf ρ) (xs (i + 1)) = 0 then kpH h else h)) ++ (rdZ rd z ++ (mdW cA m (tRow ρ (nOf ρ) (gOf ρ) (xs (i + 1))) (if rfT ρ (nOf ρ) (xs (i + 1)) = 0 then lvP P h ρ else P) (nI (if rfT ρ (nOf ρ) (xs (i + 1)) = 0 then kpH h else h)) ρ (rfU (rfT ρ (nOf ρ) (xs (i + 1))) rf) u2.1 u2.2.1 u2.2.2.1 u2.2.2.2.1 u2.2.2.2.2 tx (nI (tl)) (nI (sp)) od no ft)))))) [gapW cA b q p t rd tx tl (rfU (rfT ρ (nOf ρ) (xs (i + 1))) rf), rowW cA q (tRow ρ (nOf ρ) (gOf ρ) (xs (i + 1))), spU cA p u1, stW cA cB t (if rfT ρ (nOf ρ) (xs (i + 1)) = 0 then kpR r h else r) (if rfT ρ (nOf ρ) (xs (i + 1)) = 0 then kpS σ h ρ else σ) (nI (if rfT ρ (nOf ρ) (xs (i + 1)) = 0 then kpH h else h)), rdZ rd z, mdW cA m ρ P (nI (h)) α rf K V C my cm tx (nI (tl)) (nI (sp)) od no ft] [mdW cA m ρ P (nI (h)) α rf K V C my cm tx (nI (tl)) (nI (sp)) od no ft] [gapW cA b q p t rd tx tl (rfU (rfT ρ (nOf ρ) (xs (i + 1))) rf), rowW cA q (tRow ρ (nOf ρ) (gOf ρ) (xs (i + 1))), spU cA p u1, stW cA cB t (if rfT ρ (nOf ρ) (xs (i + 1)) = 0 then kpR r h else r) (if rfT ρ (nOf ρ) (xs (i + 1)) = 0 then kpS σ h ρ else σ) (nI (if rfT ρ (nOf ρ) (xs (i + 1)) = 0 then kpH h else h)), rdZ rd z] (fun u2 => [gapW cA b q p t rd tx tl (rfU (rfT ρ (nOf ρ) (xs (i + 1))) rf), rowW cA q (tRow ρ (nOf ρ) (gOf ρ) (xs (i + 1))), spU cA p u1, stW cA cB t (if rfT ρ (nOf ρ) (xs (i + 1)) = 0 then kpR r h else r) (if rfT ρ (nOf ρ) (xs (i + 1)) = 0 then kpS σ h ρ else σ) (nI (if rfT ρ (nOf ρ) (xs (i + 1)) = 0 then kpH h else h)), rdZ rd z, mdW cA m (tRow ρ (nOf ρ) (gOf ρ) (xs (i + 1))) (if rfT ρ (nOf ρ) (xs (i + 1)) = 0 then lvP P h ρ else P) (nI (if rfT ρ (nOf ρ) (xs (i + 1)) = 0 then kpH h else h)) ρ (rfU (rfT ρ (nOf ρ) (xs (i + 1))) rf) u2.1 u2.2.1 u2.2.2.1 u2.2.2.2.1 u2.2.2.2.2 tx (nI (tl)) (nI (sp)) od no ft]) (fun u2 => [mdW cA m (tRow ρ (nOf ρ) (gOf ρ) (xs (i + 1))) (if rfT ρ (nOf ρ) (xs (i + 1)) = 0 then lvP P h ρ else P) (nI (if rfT ρ (nOf ρ) (xs (i + 1)) = 0 then kpH h else h)) ρ (rfU (rfT ρ (nOf ρ) (xs (i + 1))) rf) u2.1 u2.2.1 u2.2.2.1 u2.2.2.2.1 u2.2.2.2.2 tx (nI (tl)) (nI (sp)) od no ft]) (c_X5_takes l D cA cB m ρ P h α rf K V C my cm tx (nI tl)  (nI sp)  od no ft (nOf ρ) hI.1 hI.2.1 (gOf ρ) hI.2.2.1 hI.2.2.2.1 hh hzr hza (xs (i + 1)) (fun e => takV_nn hI e)) kv_X5_takes ml_L_22 dL_law_180 rfl rfl rfl rfl (segOk [5, 0, 1, 2, 3, 4] rfl rfl rfl rfl) (fun _ => segOk [5, 0, 1, 2, 3, 4] rfl rfl rfl rfl) rfl (Nat.le_of_ble_eq_true rfl) (fun v u2 h => ?_)
  subst h
  refine r_st (st' := [.int (tAns ρ (nOf ρ) (xs (i + 1))), .int (tAns ρ (nOf ρ) (xs (i + 1)))]) rfl ?_
  refine r_icmp_eq 636 dL_law_183 (by decide) (fun hq3 => ?_) (fun hq3 => ?_)
  · exact kk tx tl (rfU (rfT ρ (nOf ρ) (xs (i + 1))) rf) (tRow ρ (nOf ρ) (gOf ρ) (xs (i + 1))) u1 (if rfT ρ (nOf ρ) (xs (i + 1)) = 0 then kpR r h else r) (if rfT ρ (nOf ρ) (xs (i + 1)) = 0 then kpS σ h ρ else σ) (if rfT ρ (nOf ρ) (xs (i + 1)) = 0 then kpH h else h) z (if rfT ρ (nOf ρ) (xs (i + 1)) = 0 then lvP P h ρ else P) ρ u2.1 u2.2.1 u2.2.2.1 u2.2.2.2.1 u2.2.2.2.2 sp od no ft (Rl_call hR (tRow_iv hI _) (fun e => if_neg e))
  · exact absurd rfl hq3

set_option maxRecDepth 100000 in
set_option maxHeartbeats 4000000 in
theorem law_188 (l : Launch) (D : va_G) (cA cB : ClassId) (bs : Nat) (X : Cx) (b q p t : Nat → Nat) (rd : Nat) (m : Nat → Nat) (L : Nat) (xs : Nat → Int32) (hL : L ≤ 2048) (hX9 : SX X bs L xs) (tx : Nat → Int32) (tl : Nat) (rf ρ : Nat → Int32) (u0 : Sp5) (r : Nat → Nat → Nat) (σ : Nat → Nat → Int32) (h : Nat) (z : RS) (P α K V C : Nat → Int32) (my cm : Int32) (sp : Nat) (od : Nat → Int32) (no ft : Int32) (hR : Rl ρ σ h z tl P α) (i : Nat) (hi : i + 4 ≤ L) (kk : Nx l D cA cB bs X b q p t rd m i) : LG l D cA cB bs X b q p t rd m 188 i tx tl rf ρ u0 r σ h z P α K V C my cm sp od no ft := by
  have hI := hR.1
  have hh := hR.2.1
  have htl := hR.2.2.1
  have hz := hR.2.2.2.1
  have hza := hR.2.2.2.2.1
  have hzr := hI.z
  refine r_aload_n 1 dL_law_188 rfl rfl ?_
  refine r_aload_n 0 dL_law_189 rfl rfl ?_
  refine r_iload_n 3 dL_law_190 rfl rfl ?_
  refine r_iconst (nI 1) dL_law_191 (by decide +kernel) ?_
  refine r_niadd dL_law_192 ?_
  refine r_sld hX9 (i + 1) dL_law_193 rfl (by omega) (by omega) ?_
  refine r_aload_n 0 dL_law_194 rfl rfl ?_
  refine r_iload_n 3 dL_law_195 rfl rfl ?_
  refine r_iconst (nI 2) dL_law_196 (by decide +kernel) ?_
  refine r_niadd dL_law_197 ?_
  refine r_sld hX9 (i + 2) dL_law_198 rfl (by omega) (by omega) ?_
  refine r_callV2 (As := [.int (xs (i + 1)), .int (xs (i + 2))]) (st := []) (fun u1 => gapW cA b q p t rd tx tl (rfU (rfD (xs (i + 1)) (xs (i + 2))) rf) ++ (rowW cA q (dRow ρ (xs (i + 1)) (xs (i + 2))) ++ (spU cA p u1 ++ (stW cA cB t (if rfD (xs (i + 1)) (xs (i + 2)) = 0 then kpR r h else r) (if rfD (xs (i + 1)) (xs (i + 2)) = 0 then kpS σ h ρ else σ) (nI (if rfD (xs (i + 1)) (xs (i + 2)) = 0 then kpH h else h)) ++ (rdZ rd z ++ (mdW cA m ρ P (nI (h)) α rf K V C my cm tx (nI (tl)) (nI (sp)) od no ft)))))) [gapW cA b q p t rd tx tl rf, rowW cA q ρ, spU cA p u0, stW cA cB t r σ (nI (h)), rdZ rd z, mdW cA m ρ P (nI (h)) α rf K V C my cm tx (nI (tl)) (nI (sp)) od no ft] [gapW cA b q p t rd tx tl rf, rowW cA q ρ, spU cA p u0, stW cA cB t r σ (nI (h))] [rdZ rd z, mdW cA m ρ P (nI (h)) α rf K V C my cm tx (nI (tl)) (nI (sp)) od no ft] (fun u1 => [gapW cA b q p t rd tx tl (rfU (rfD (xs (i + 1)) (xs (i + 2))) rf), rowW cA q (dRow ρ (xs (i + 1)) (xs (i + 2))), spU cA p u1, stW cA cB t (if rfD (xs (i + 1)) (xs (i + 2)) = 0 then kpR r h else r) (if rfD (xs (i + 1)) (xs (i + 2)) = 0 then kpS σ h ρ else σ) (nI (if rfD (xs (i + 1)) (xs (i + 2)) = 0 then kpH h else h)), rdZ rd z, mdW cA m ρ P (nI (h)) α rf K V C my cm tx (nI (tl)) (nI (sp)) od no ft]) (fun u1 => [gapW cA b q p t rd tx tl (rfU (rfD (xs (i + 1)) (xs (i + 2))) rf), rowW cA q (dRow ρ (xs (i + 1)) (xs (i + 2))), spU cA p u1, stW cA cB t (if rfD (xs (i + 1)) (xs (i + 2)) = 0 then kpR r h else r) (if rfD (xs (i + 1)) (xs (i + 2)) = 0 then kpS σ h ρ else σ) (nI (if rfD (xs (i + 1)) (xs (i + 2)) = 0 then kpH h else h))]) (c_X4_drops l D cA cB b q p t rd tx tl rf ρ (nOf ρ) (gOf ρ) hI u0 r σ h hh (xs (i + 1)) (xs (i + 2))) kv_X4_drops ml_L_23 dL_law_199 rfl rfl rfl rfl (segOk [0, 1, 2, 3, 4, 5] rfl rfl rfl rfl) (fun _ => segOk [0, 1, 2, 3, 4, 5] rfl rfl rfl rfl) rfl (Nat.le_of_ble_eq_true rfl) (fun v u1 h => ?_)
  subst h
  refine r_st (st' := [.int (dAns ρ (xs (i + 1)) (xs (i + 2)))]) rfl ?_
  refine r_aload_n 2 dL_law_202 rfl rfl ?_
  refine r_aload_n 0 dL_law_203 rfl rfl ?_
  refine r_iload_n 3 dL_law_204 rfl rfl ?_
  refine r_iconst (nI 1) dL_law_205 (by decide +kernel) ?_
  refine r_niadd dL_law_206 ?_
  refine r_sld hX9 (i + 1) dL_law_207 rfl (by omega) (by omega) ?_
  refine r_aload_n 0 dL_law_208 rfl rfl ?_
  refine r_iload_n 3 dL_law_209 rfl rfl ?_
  refine r_iconst (nI 2) dL_law_210 (by decide +kernel) ?_
  refine r_niadd dL_law_211 ?_
  refine r_sld hX9 (i + 2) dL_law_212 rfl (by omega) (by omega) ?_
  refine r_callV2 (As := [.int (xs (i + 1)), .int (xs (i + 2))]) (st := [.int (dAns ρ (xs (i + 1)) (xs (i + 2)))]) (fun u2 => gapW cA b q p t rd tx tl (rfU (rfD (xs (i + 1)) (xs (i + 2))) rf) ++ (rowW cA q (dRow ρ (xs (i + 1)) (xs (i + 2))) ++ (spU cA p u1 ++ (stW cA cB t (if rfD (xs (i + 1)) (xs (i + 2)) = 0 then kpR r h else r) (if rfD (xs (i + 1)) (xs (i + 2)) = 0 then kpS σ h ρ else σ) (nI (if rfD (xs (i + 1)) (xs (i + 2)) = 0 then kpH h else h)) ++ (rdZ rd z ++ (mdW cA m (dRow ρ (xs (i + 1)) (xs (i + 2))) (if rfD (xs (i + 1)) (xs (i + 2)) = 0 then lvP P h ρ else P) (nI (if rfD (xs (i + 1)) (xs (i + 2)) = 0 then kpH h else h)) ρ (rfU (rfD (xs (i + 1)) (xs (i + 2))) rf) u2.1 u2.2.1 u2.2.2.1 u2.2.2.2.1 u2.2.2.2.2 tx (nI (tl)) (nI (sp)) od no ft)))))) [gapW cA b q p t rd tx tl (rfU (rfD (xs (i + 1)) (xs (i + 2))) rf), rowW cA q (dRow ρ (xs (i + 1)) (xs (i + 2))), spU cA p u1, stW cA cB t (if rfD (xs (i + 1)) (xs (i + 2)) = 0 then kpR r h else r) (if rfD (xs (i + 1)) (xs (i + 2)) = 0 then kpS σ h ρ else σ) (nI (if rfD (xs (i + 1)) (xs (i + 2)) = 0 then kpH h else h)), rdZ rd z, mdW cA m ρ P (nI (h)) α rf K V C my cm tx (nI (tl)) (nI (sp)) od no ft] [mdW cA m ρ P (nI (h)) α rf K V C my cm tx (nI (tl)) (nI (sp)) od no ft] [gapW cA b q p t rd tx tl (rfU (rfD (xs (i + 1)) (xs (i + 2))) rf), rowW cA q (dRow ρ (xs (i + 1)) (xs (i + 2))), spU cA p u1, stW cA cB t (if rfD (xs (i + 1)) (xs (i + 2)) = 0 then kpR r h else r) (if rfD (xs (i + 1)) (xs (i + 2)) = 0 then kpS σ h ρ else σ) (nI (if rfD (xs (i + 1)) (xs (i + 2)) = 0 then kpH h else h)), rdZ rd z] (fun u2 => [gapW cA b q p t rd tx tl (rfU (rfD (xs (i + 1)) (xs (i + 2))) rf), rowW cA q (dRow ρ (xs (i + 1)) (xs (i + 2))), spU cA p u1, stW cA cB t (if rfD (xs (i + 1)) (xs (i + 2)) = 0 then kpR r h else r) (if rfD (xs (i + 1)) (xs (i + 2)) = 0 then kpS σ h ρ else σ) (nI (if rfD (xs (i + 1)) (xs (i + 2)) = 0 then kpH h else h)), rdZ rd z, mdW cA m (dRow ρ (xs (i + 1)) (xs (i + 2))) (if rfD (xs (i + 1)) (xs (i + 2)) = 0 then lvP P h ρ else P) (nI (if rfD (xs (i + 1)) (xs (i + 2)) = 0 then kpH h else h)) ρ (rfU (rfD (xs (i + 1)) (xs (i + 2))) rf) u2.1 u2.2.1 u2.2.2.1 u2.2.2.2.1 u2.2.2.2.2 tx (nI (tl)) (nI (sp)) od no ft]) (fun u2 => [mdW cA m (dRow ρ (xs (i + 1)) (xs (i + 2))) (if rfD (xs (i + 1)) (xs (i + 2)) = 0 then lvP P h ρ else P) (nI (if rfD (xs (i + 1)) (xs (i + 2)) = 0 then kpH h else h)) ρ (rfU (rfD (xs (i + 1)) (xs (i + 2))) rf) u2.1 u2.2.1 u2.2.2.1 u2.2.2.2.1 u2.2.2.2.2 tx (nI (tl)) (nI (sp)) od no ft]) (c_X5_drops l D cA cB m ρ P h α rf K V C my cm tx (nI tl)  (nI sp)  od no ft (nOf ρ) (gOf ρ) hI hh hza (xs (i + 1)) (xs (i + 2))) kv_X5_drops ml_L_26 dL_law_213 rfl rfl rfl rfl (segOk [5, 0, 1, 2, 3, 4] rfl rfl rfl rfl) (fun _ => segOk [5, 0, 1, 2, 3, 4] rfl rfl rfl rfl) rfl (Nat.le_of_ble_eq_true rfl) (fun v u2 h => ?_)
  subst h
  refine r_st (st' := [.int (dAns ρ (xs (i + 1)) (xs (i + 2))), .int (dAns ρ (xs (i + 1)) (xs (i + 2)))]) rfl ?_
  refine r_icmp_eq 636 dL_law_216 (by decide) (fun hq3 => ?_) (fun hq3 => ?_)
  · exact kk tx tl (rfU (rfD (xs (i + 1)) (xs (i + 2))) rf) (dRow ρ (xs (i + 1)) (xs (i + 2))) u1 (if rfD (xs (i + 1)) (xs (i + 2)) = 0 then kpR r h else r) (if rfD (xs (i + 1)) (xs (i + 2)) = 0 then kpS σ h ρ else σ) (if rfD (xs (i + 1)) (xs (i + 2)) = 0 then kpH h else h) z (if rfD (xs (i + 1)) (xs (i + 2)) = 0 then lvP P h ρ else P) ρ u2.1 u2.2.1 u2.2.2.1 u2.2.2.2.1 u2.2.2.2.2 sp od no ft (Rl_call hR (dRow_iv hI _ _) (fun e => if_neg e))
  · exact absurd rfl hq3

set_option maxRecDepth 100000 in
set_option maxHeartbeats 4000000 in
theorem law_221 (l : Launch) (D : va_G) (cA cB : ClassId) (bs : Nat) (X : Cx) (b q p t : Nat → Nat) (rd : Nat) (m : Nat → Nat) (L : Nat) (xs : Nat → Int32) (hL : L ≤ 2048) (hX9 : SX X bs L xs) (tx : Nat → Int32) (tl : Nat) (rf ρ : Nat → Int32) (u0 : Sp5) (r : Nat → Nat → Nat) (σ : Nat → Nat → Int32) (h : Nat) (z : RS) (P α K V C : Nat → Int32) (my cm : Int32) (sp : Nat) (od : Nat → Int32) (no ft : Int32) (hR : Rl ρ σ h z tl P α) (i : Nat) (hi : i + 4 ≤ L) (kk : Nx l D cA cB bs X b q p t rd m i) : LG l D cA cB bs X b q p t rd m 221 i tx tl rf ρ u0 r σ h z P α K V C my cm sp od no ft := by
  have hI := hR.1
  have hh := hR.2.1
  have htl := hR.2.2.1
  have hz := hR.2.2.2.1
  have hza := hR.2.2.2.2.1
  have hzr := hI.z
  refine r_aload_n 1 dL_law_221 rfl rfl ?_
  refine r_aload_n 0 dL_law_222 rfl rfl ?_
  refine r_iload_n 3 dL_law_223 rfl rfl ?_
  refine r_iconst (nI 1) dL_law_224 (by decide +kernel) ?_
  refine r_niadd dL_law_225 ?_
  refine r_sld hX9 (i + 1) dL_law_226 rfl (by omega) (by omega) ?_
  refine r_callV2 (As := [.int (xs (i + 1))]) (st := []) (fun u1 => gapW cA b q p t rd tx tl (rfU (rfM (xs (i + 1))) rf) ++ (rowW cA q (mRow ρ (xs (i + 1))) ++ (spU cA p u1 ++ (stW cA cB t (if rfM (xs (i + 1)) = 0 then kpR r h else r) (if rfM (xs (i + 1)) = 0 then kpS σ h ρ else σ) (nI (if rfM (xs (i + 1)) = 0 then kpH h else h)) ++ (rdZ rd z ++ (mdW cA m ρ P (nI (h)) α rf K V C my cm tx (nI (tl)) (nI (sp)) od no ft)))))) [gapW cA b q p t rd tx tl rf, rowW cA q ρ, spU cA p u0, stW cA cB t r σ (nI (h)), rdZ rd z, mdW cA m ρ P (nI (h)) α rf K V C my cm tx (nI (tl)) (nI (sp)) od no ft] [gapW cA b q p t rd tx tl rf, rowW cA q ρ, spU cA p u0, stW cA cB t r σ (nI (h))] [rdZ rd z, mdW cA m ρ P (nI (h)) α rf K V C my cm tx (nI (tl)) (nI (sp)) od no ft] (fun u1 => [gapW cA b q p t rd tx tl (rfU (rfM (xs (i + 1))) rf), rowW cA q (mRow ρ (xs (i + 1))), spU cA p u1, stW cA cB t (if rfM (xs (i + 1)) = 0 then kpR r h else r) (if rfM (xs (i + 1)) = 0 then kpS σ h ρ else σ) (nI (if rfM (xs (i + 1)) = 0 then kpH h else h)), rdZ rd z, mdW cA m ρ P (nI (h)) α rf K V C my cm tx (nI (tl)) (nI (sp)) od no ft]) (fun u1 => [gapW cA b q p t rd tx tl (rfU (rfM (xs (i + 1))) rf), rowW cA q (mRow ρ (xs (i + 1))), spU cA p u1, stW cA cB t (if rfM (xs (i + 1)) = 0 then kpR r h else r) (if rfM (xs (i + 1)) = 0 then kpS σ h ρ else σ) (nI (if rfM (xs (i + 1)) = 0 then kpH h else h))]) (c_X4_mode l D cA cB b q p t rd tx tl rf ρ u0 r σ h hh (xs (i + 1))) kv_X4_mode ml_L_27 dL_law_227 rfl rfl rfl rfl (segOk [0, 1, 2, 3, 4, 5] rfl rfl rfl rfl) (fun _ => segOk [0, 1, 2, 3, 4, 5] rfl rfl rfl rfl) rfl (Nat.le_of_ble_eq_true rfl) (fun v u1 h => ?_)
  subst h
  refine r_st (st' := [.int (mAns ρ (xs (i + 1)))]) rfl ?_
  refine r_aload_n 2 dL_law_230 rfl rfl ?_
  refine r_aload_n 0 dL_law_231 rfl rfl ?_
  refine r_iload_n 3 dL_law_232 rfl rfl ?_
  refine r_iconst (nI 1) dL_law_233 (by decide +kernel) ?_
  refine r_niadd dL_law_234 ?_
  refine r_sld hX9 (i + 1) dL_law_235 rfl (by omega) (by omega) ?_
  refine r_callV2 (As := [.int (xs (i + 1))]) (st := [.int (mAns ρ (xs (i + 1)))]) (fun u2 => gapW cA b q p t rd tx tl (rfU (rfM (xs (i + 1))) rf) ++ (rowW cA q (mRow ρ (xs (i + 1))) ++ (spU cA p u1 ++ (stW cA cB t (if rfM (xs (i + 1)) = 0 then kpR r h else r) (if rfM (xs (i + 1)) = 0 then kpS σ h ρ else σ) (nI (if rfM (xs (i + 1)) = 0 then kpH h else h)) ++ (rdZ rd z ++ (mdW cA m (mRow ρ (xs (i + 1))) (if rfM (xs (i + 1)) = 0 then lvP P h ρ else P) (nI (if rfM (xs (i + 1)) = 0 then kpH h else h)) ρ (rfU (rfM (xs (i + 1))) rf) u2.1 u2.2.1 u2.2.2.1 u2.2.2.2.1 u2.2.2.2.2 tx (nI (tl)) (nI (sp)) od no ft)))))) [gapW cA b q p t rd tx tl (rfU (rfM (xs (i + 1))) rf), rowW cA q (mRow ρ (xs (i + 1))), spU cA p u1, stW cA cB t (if rfM (xs (i + 1)) = 0 then kpR r h else r) (if rfM (xs (i + 1)) = 0 then kpS σ h ρ else σ) (nI (if rfM (xs (i + 1)) = 0 then kpH h else h)), rdZ rd z, mdW cA m ρ P (nI (h)) α rf K V C my cm tx (nI (tl)) (nI (sp)) od no ft] [mdW cA m ρ P (nI (h)) α rf K V C my cm tx (nI (tl)) (nI (sp)) od no ft] [gapW cA b q p t rd tx tl (rfU (rfM (xs (i + 1))) rf), rowW cA q (mRow ρ (xs (i + 1))), spU cA p u1, stW cA cB t (if rfM (xs (i + 1)) = 0 then kpR r h else r) (if rfM (xs (i + 1)) = 0 then kpS σ h ρ else σ) (nI (if rfM (xs (i + 1)) = 0 then kpH h else h)), rdZ rd z] (fun u2 => [gapW cA b q p t rd tx tl (rfU (rfM (xs (i + 1))) rf), rowW cA q (mRow ρ (xs (i + 1))), spU cA p u1, stW cA cB t (if rfM (xs (i + 1)) = 0 then kpR r h else r) (if rfM (xs (i + 1)) = 0 then kpS σ h ρ else σ) (nI (if rfM (xs (i + 1)) = 0 then kpH h else h)), rdZ rd z, mdW cA m (mRow ρ (xs (i + 1))) (if rfM (xs (i + 1)) = 0 then lvP P h ρ else P) (nI (if rfM (xs (i + 1)) = 0 then kpH h else h)) ρ (rfU (rfM (xs (i + 1))) rf) u2.1 u2.2.1 u2.2.2.1 u2.2.2.2.1 u2.2.2.2.2 tx (nI (tl)) (nI (sp)) od no ft]) (fun u2 => [mdW cA m (mRow ρ (xs (i + 1))) (if rfM (xs (i + 1)) = 0 then lvP P h ρ else P) (nI (if rfM (xs (i + 1)) = 0 then kpH h else h)) ρ (rfU (rfM (xs (i + 1))) rf) u2.1 u2.2.1 u2.2.2.1 u2.2.2.2.1 u2.2.2.2.2 tx (nI (tl)) (nI (sp)) od no ft]) (c_X5_mode l D cA cB m ρ P h α rf K V C my cm tx (nI tl)  (nI sp)  od no ft hh hzr hza (xs (i + 1)) (mod_nn hI)) kv_X5_mode ml_L_30 dL_law_236 rfl rfl rfl rfl (segOk [5, 0, 1, 2, 3, 4] rfl rfl rfl rfl) (fun _ => segOk [5, 0, 1, 2, 3, 4] rfl rfl rfl rfl) rfl (Nat.le_of_ble_eq_true rfl) (fun v u2 h => ?_)
  subst h
  refine r_st (st' := [.int (mAns ρ (xs (i + 1))), .int (mAns ρ (xs (i + 1)))]) rfl ?_
  refine r_icmp_eq 636 dL_law_239 (by decide) (fun hq3 => ?_) (fun hq3 => ?_)
  · exact kk tx tl (rfU (rfM (xs (i + 1))) rf) (mRow ρ (xs (i + 1))) u1 (if rfM (xs (i + 1)) = 0 then kpR r h else r) (if rfM (xs (i + 1)) = 0 then kpS σ h ρ else σ) (if rfM (xs (i + 1)) = 0 then kpH h else h) z (if rfM (xs (i + 1)) = 0 then lvP P h ρ else P) ρ u2.1 u2.2.1 u2.2.2.1 u2.2.2.2.1 u2.2.2.2.2 sp od no ft (Rl_call hR (mRow_iv hI _) (fun e => if_neg e))
  · exact absurd rfl hq3

set_option maxRecDepth 100000 in
set_option maxHeartbeats 4000000 in
theorem law_244 (l : Launch) (D : va_G) (cA cB : ClassId) (bs : Nat) (X : Cx) (b q p t : Nat → Nat) (rd : Nat) (m : Nat → Nat) (L : Nat) (xs : Nat → Int32) (hL : L ≤ 2048) (hX9 : SX X bs L xs) (tx : Nat → Int32) (tl : Nat) (rf ρ : Nat → Int32) (u0 : Sp5) (r : Nat → Nat → Nat) (σ : Nat → Nat → Int32) (h : Nat) (z : RS) (P α K V C : Nat → Int32) (my cm : Int32) (sp : Nat) (od : Nat → Int32) (no ft : Int32) (hR : Rl ρ σ h z tl P α) (i : Nat) (hi : i + 4 ≤ L) (kk : Nx l D cA cB bs X b q p t rd m i) : LG l D cA cB bs X b q p t rd m 244 i tx tl rf ρ u0 r σ h z P α K V C my cm sp od no ft := by
  have hI := hR.1
  have hh := hR.2.1
  have htl := hR.2.2.1
  have hz := hR.2.2.2.1
  have hza := hR.2.2.2.2.1
  have hzr := hI.z
  refine r_aload_n 1 dL_law_244 rfl rfl ?_
  refine r_callV2 (As := []) (st := []) (fun u1 => gapW cA b q p t rd tx tl rf ++ (rowW cA q (spR ρ (gOf ρ) 0 (nOf ρ)) ++ (spU cA p u1 ++ (stW cA cB t (kpR r h) (kpS σ h ρ) (nI (kpH h)) ++ (rdZ rd z ++ (mdW cA m ρ P (nI (h)) α rf K V C my cm tx (nI (tl)) (nI (sp)) od no ft)))))) [gapW cA b q p t rd tx tl rf, rowW cA q ρ, spU cA p u0, stW cA cB t r σ (nI (h)), rdZ rd z, mdW cA m ρ P (nI (h)) α rf K V C my cm tx (nI (tl)) (nI (sp)) od no ft] [gapW cA b q p t rd tx tl rf, rowW cA q ρ, spU cA p u0, stW cA cB t r σ (nI (h))] [rdZ rd z, mdW cA m ρ P (nI (h)) α rf K V C my cm tx (nI (tl)) (nI (sp)) od no ft] (fun u1 => [gapW cA b q p t rd tx tl rf, rowW cA q (spR ρ (gOf ρ) 0 (nOf ρ)), spU cA p u1, stW cA cB t (kpR r h) (kpS σ h ρ) (nI (kpH h)), rdZ rd z, mdW cA m ρ P (nI (h)) α rf K V C my cm tx (nI (tl)) (nI (sp)) od no ft]) (fun u1 => [gapW cA b q p t rd tx tl rf, rowW cA q (spR ρ (gOf ρ) 0 (nOf ρ)), spU cA p u1, stW cA cB t (kpR r h) (kpS σ h ρ) (nI (kpH h))]) (c_X4_spaces l D cA cB b q p t rd tx tl rf ρ (nOf ρ) hI.1 hI.2.1 (gOf ρ) hI.2.2.1 hI.2.2.2.1 u0 r σ h hh) kv_X4_spaces ml_L_31 dL_law_245 rfl rfl rfl rfl (segOk [0, 1, 2, 3, 4, 5] rfl rfl rfl rfl) (fun _ => segOk [0, 1, 2, 3, 4, 5] rfl rfl rfl rfl) rfl (Nat.le_of_ble_eq_true rfl) (fun v u1 h => ?_)
  subst h
  refine r_st (st' := [.int (nI (spM ρ 0 (nOf ρ)))]) rfl ?_
  refine r_aload_n 2 dL_law_248 rfl rfl ?_
  refine r_callV2 (As := []) (st := [.int (nI (spM ρ 0 (nOf ρ)))]) (fun u2 => gapW cA b q p t rd tx tl rf ++ (rowW cA q (spR ρ (gOf ρ) 0 (nOf ρ)) ++ (spU cA p u1 ++ (stW cA cB t (kpR r h) (kpS σ h ρ) (nI (kpH h)) ++ (rdZ rd z ++ (mdW cA m (spR ρ (gOf ρ) 0 (nOf ρ)) (lvP P h ρ) (nI (kpH h)) ρ rf u2.1 u2.2.1 u2.2.2.1 u2.2.2.2.1 u2.2.2.2.2 tx (nI (tl)) (nI (sp)) od no ft)))))) [gapW cA b q p t rd tx tl rf, rowW cA q (spR ρ (gOf ρ) 0 (nOf ρ)), spU cA p u1, stW cA cB t (kpR r h) (kpS σ h ρ) (nI (kpH h)), rdZ rd z, mdW cA m ρ P (nI (h)) α rf K V C my cm tx (nI (tl)) (nI (sp)) od no ft] [mdW cA m ρ P (nI (h)) α rf K V C my cm tx (nI (tl)) (nI (sp)) od no ft] [gapW cA b q p t rd tx tl rf, rowW cA q (spR ρ (gOf ρ) 0 (nOf ρ)), spU cA p u1, stW cA cB t (kpR r h) (kpS σ h ρ) (nI (kpH h)), rdZ rd z] (fun u2 => [gapW cA b q p t rd tx tl rf, rowW cA q (spR ρ (gOf ρ) 0 (nOf ρ)), spU cA p u1, stW cA cB t (kpR r h) (kpS σ h ρ) (nI (kpH h)), rdZ rd z, mdW cA m (spR ρ (gOf ρ) 0 (nOf ρ)) (lvP P h ρ) (nI (kpH h)) ρ rf u2.1 u2.2.1 u2.2.2.1 u2.2.2.2.1 u2.2.2.2.2 tx (nI (tl)) (nI (sp)) od no ft]) (fun u2 => [mdW cA m (spR ρ (gOf ρ) 0 (nOf ρ)) (lvP P h ρ) (nI (kpH h)) ρ rf u2.1 u2.2.1 u2.2.2.1 u2.2.2.2.1 u2.2.2.2.2 tx (nI (tl)) (nI (sp)) od no ft]) (c_X5_spaces l D cA cB m ρ P h α rf K V C my cm tx (nI tl)  (nI sp)  od no ft (nOf ρ) hI.1 hI.2.1 (gOf ρ) hI.2.2.1 hI.2.2.2.1 hh hzr hza) kv_X5_spaces ml_L_35 dL_law_249 rfl rfl rfl rfl (segOk [5, 0, 1, 2, 3, 4] rfl rfl rfl rfl) (fun _ => segOk [5, 0, 1, 2, 3, 4] rfl rfl rfl rfl) rfl (Nat.le_of_ble_eq_true rfl) (fun v u2 h => ?_)
  subst h
  refine r_st (st' := [.int (nI (spM ρ 0 (nOf ρ))), .int (nI (spM ρ 0 (nOf ρ)))]) rfl ?_
  refine r_icmp_eq 636 dL_law_252 (by decide) (fun hq3 => ?_) (fun hq3 => ?_)
  · exact kk tx tl rf (spR ρ (gOf ρ) 0 (nOf ρ)) u1 (kpR r h) (kpS σ h ρ) (kpH h) z (lvP P h ρ) ρ u2.1 u2.2.1 u2.2.2.1 u2.2.2.2.1 u2.2.2.2.2 sp od no ft (Rl_keep hR (spR_iv hI))
  · exact absurd rfl hq3

set_option maxRecDepth 100000 in
set_option maxHeartbeats 4000000 in
theorem law_257 (l : Launch) (D : va_G) (cA cB : ClassId) (bs : Nat) (X : Cx) (b q p t : Nat → Nat) (rd : Nat) (m : Nat → Nat) (L : Nat) (xs : Nat → Int32) (hL : L ≤ 2048) (hX9 : SX X bs L xs) (tx : Nat → Int32) (tl : Nat) (rf ρ : Nat → Int32) (u0 : Sp5) (r : Nat → Nat → Nat) (σ : Nat → Nat → Int32) (h : Nat) (z : RS) (P α K V C : Nat → Int32) (my cm : Int32) (sp : Nat) (od : Nat → Int32) (no ft : Int32) (hR : Rl ρ σ h z tl P α) (i : Nat) (hi : i + 4 ≤ L) (kk : Nx l D cA cB bs X b q p t rd m i) : LG l D cA cB bs X b q p t rd m 257 i tx tl rf ρ u0 r σ h z P α K V C my cm sp od no ft := by
  have hI := hR.1
  have hh := hR.2.1
  have htl := hR.2.2.1
  have hz := hR.2.2.2.1
  have hza := hR.2.2.2.2.1
  have hzr := hI.z
  refine r_aload_n 1 dL_law_257 rfl rfl ?_
  refine r_aload_n 0 dL_law_258 rfl rfl ?_
  refine r_iload_n 3 dL_law_259 rfl rfl ?_
  refine r_iconst (nI 1) dL_law_260 (by decide +kernel) ?_
  refine r_niadd dL_law_261 ?_
  refine r_sld hX9 (i + 1) dL_law_262 rfl (by omega) (by omega) ?_
  refine r_callV2 (As := [.int (xs (i + 1))]) (st := []) (fun _ => gapW cA b q p t rd tx tl ((valA ρ rf (nOf ρ) (xs (i + 1))).2) ++ (rowW cA q ρ ++ (spU cA p u0 ++ (stW cA cB t r σ (nI (h)) ++ (rdZ rd z ++ (mdW cA m ρ P (nI (h)) α rf K V C my cm tx (nI (tl)) (nI (sp)) od no ft)))))) [gapW cA b q p t rd tx tl rf, rowW cA q ρ, spU cA p u0, stW cA cB t r σ (nI (h)), rdZ rd z, mdW cA m ρ P (nI (h)) α rf K V C my cm tx (nI (tl)) (nI (sp)) od no ft] [gapW cA b q p t rd tx tl rf, rowW cA q ρ] [spU cA p u0, stW cA cB t r σ (nI (h)), rdZ rd z, mdW cA m ρ P (nI (h)) α rf K V C my cm tx (nI (tl)) (nI (sp)) od no ft] (fun _ => [gapW cA b q p t rd tx tl ((valA ρ rf (nOf ρ) (xs (i + 1))).2), rowW cA q ρ, spU cA p u0, stW cA cB t r σ (nI (h)), rdZ rd z, mdW cA m ρ P (nI (h)) α rf K V C my cm tx (nI (tl)) (nI (sp)) od no ft]) (fun _ => [gapW cA b q p t rd tx tl ((valA ρ rf (nOf ρ) (xs (i + 1))).2), rowW cA q ρ]) (c_X4_value l D cA cB b q p t rd tx tl rf ρ (nOf ρ) hI.1 hI.2.1 hI.2.2.2.2.1 (xs (i + 1))) kv_X4_value ml_L_36 dL_law_263 rfl rfl rfl rfl (segOk [0, 1, 2, 3, 4, 5] rfl rfl rfl rfl) (fun _ => segOk [0, 1, 2, 3, 4, 5] rfl rfl rfl rfl) rfl (Nat.le_of_ble_eq_true rfl) (fun v u h => ?_)
  subst h
  refine r_st (st' := [.int ((valA ρ rf (nOf ρ) (xs (i + 1))).1)]) rfl ?_
  refine r_aload_n 2 dL_law_266 rfl rfl ?_
  refine r_aload_n 0 dL_law_267 rfl rfl ?_
  refine r_iload_n 3 dL_law_268 rfl rfl ?_
  refine r_iconst (nI 1) dL_law_269 (by decide +kernel) ?_
  refine r_niadd dL_law_270 ?_
  refine r_sld hX9 (i + 1) dL_law_271 rfl (by omega) (by omega) ?_
  refine r_callV2 (As := [.int (xs (i + 1))]) (st := [.int ((valA ρ rf (nOf ρ) (xs (i + 1))).1)]) (fun _ => gapW cA b q p t rd tx tl ((valA ρ rf (nOf ρ) (xs (i + 1))).2) ++ (rowW cA q ρ ++ (spU cA p u0 ++ (stW cA cB t r σ (nI (h)) ++ (rdZ rd z ++ (mdW cA m ρ P (nI (h)) α ((valA ρ rf (nOf ρ) (xs (i + 1))).2) K V C my cm tx (nI (tl)) (nI (sp)) od no ft)))))) [gapW cA b q p t rd tx tl ((valA ρ rf (nOf ρ) (xs (i + 1))).2), rowW cA q ρ, spU cA p u0, stW cA cB t r σ (nI (h)), rdZ rd z, mdW cA m ρ P (nI (h)) α rf K V C my cm tx (nI (tl)) (nI (sp)) od no ft] [mdW cA m ρ P (nI (h)) α rf K V C my cm tx (nI (tl)) (nI (sp)) od no ft] [gapW cA b q p t rd tx tl ((valA ρ rf (nOf ρ) (xs (i + 1))).2), rowW cA q ρ, spU cA p u0, stW cA cB t r σ (nI (h)), rdZ rd z] (fun _ => [gapW cA b q p t rd tx tl ((valA ρ rf (nOf ρ) (xs (i + 1))).2), rowW cA q ρ, spU cA p u0, stW cA cB t r σ (nI (h)), rdZ rd z, mdW cA m ρ P (nI (h)) α ((valA ρ rf (nOf ρ) (xs (i + 1))).2) K V C my cm tx (nI (tl)) (nI (sp)) od no ft]) (fun _ => [mdW cA m ρ P (nI (h)) α ((valA ρ rf (nOf ρ) (xs (i + 1))).2) K V C my cm tx (nI (tl)) (nI (sp)) od no ft]) (c_X5_value l D cA cB m ρ P (nI h) α rf K V C my cm tx (nI tl)  (nI sp)  od no ft (nOf ρ) hI.1 hI.2.1 (xs (i + 1))) kv_X5_value ml_L_39 dL_law_272 rfl rfl rfl rfl (segOk [5, 0, 1, 2, 3, 4] rfl rfl rfl rfl) (fun _ => segOk [5, 0, 1, 2, 3, 4] rfl rfl rfl rfl) rfl (Nat.le_of_ble_eq_true rfl) (fun v u h => ?_)
  subst h
  refine r_st (st' := [.int ((valA ρ rf (nOf ρ) (xs (i + 1))).1), .int ((valA ρ rf (nOf ρ) (xs (i + 1))).1)]) rfl ?_
  refine r_icmp_eq 636 dL_law_275 (by decide) (fun hq1 => ?_) (fun hq1 => ?_)
  · exact kk tx tl ((valA ρ rf (nOf ρ) (xs (i + 1))).2) ρ u0 r σ h z P α K V C my cm sp od no ft (hR)
  · exact absurd rfl hq1

set_option maxRecDepth 100000 in
set_option maxHeartbeats 4000000 in
theorem law_280 (l : Launch) (D : va_G) (cA cB : ClassId) (bs : Nat) (X : Cx) (b q p t : Nat → Nat) (rd : Nat) (m : Nat → Nat) (L : Nat) (xs : Nat → Int32) (hL : L ≤ 2048) (hX9 : SX X bs L xs) (tx : Nat → Int32) (tl : Nat) (rf ρ : Nat → Int32) (u0 : Sp5) (r : Nat → Nat → Nat) (σ : Nat → Nat → Int32) (h : Nat) (z : RS) (P α K V C : Nat → Int32) (my cm : Int32) (sp : Nat) (od : Nat → Int32) (no ft : Int32) (hR : Rl ρ σ h z tl P α) (i : Nat) (hi : i + 4 ≤ L) (kk : Nx l D cA cB bs X b q p t rd m i) : LG l D cA cB bs X b q p t rd m 280 i tx tl rf ρ u0 r σ h z P α K V C my cm sp od no ft := by
  have hI := hR.1
  have hh := hR.2.1
  have htl := hR.2.2.1
  have hz := hR.2.2.2.1
  have hza := hR.2.2.2.2.1
  have hzr := hI.z
  refine r_aload_n 1 dL_law_280 rfl rfl ?_
  refine r_aload_n 0 dL_law_281 rfl rfl ?_
  refine r_iload_n 3 dL_law_282 rfl rfl ?_
  refine r_iconst (nI 1) dL_law_283 (by decide +kernel) ?_
  refine r_niadd dL_law_284 ?_
  refine r_sld hX9 (i + 1) dL_law_285 rfl (by omega) (by omega) ?_
  refine r_callV2 (As := [.int (xs (i + 1))]) (st := []) (fun _ => gapW cA b q p t rd tx tl ((celA ρ rf (nOf ρ) (xs (i + 1))).2) ++ (rowW cA q ρ ++ (spU cA p u0 ++ (stW cA cB t r σ (nI (h)) ++ (rdZ rd z ++ (mdW cA m ρ P (nI (h)) α rf K V C my cm tx (nI (tl)) (nI (sp)) od no ft)))))) [gapW cA b q p t rd tx tl rf, rowW cA q ρ, spU cA p u0, stW cA cB t r σ (nI (h)), rdZ rd z, mdW cA m ρ P (nI (h)) α rf K V C my cm tx (nI (tl)) (nI (sp)) od no ft] [gapW cA b q p t rd tx tl rf, rowW cA q ρ] [spU cA p u0, stW cA cB t r σ (nI (h)), rdZ rd z, mdW cA m ρ P (nI (h)) α rf K V C my cm tx (nI (tl)) (nI (sp)) od no ft] (fun _ => [gapW cA b q p t rd tx tl ((celA ρ rf (nOf ρ) (xs (i + 1))).2), rowW cA q ρ, spU cA p u0, stW cA cB t r σ (nI (h)), rdZ rd z, mdW cA m ρ P (nI (h)) α rf K V C my cm tx (nI (tl)) (nI (sp)) od no ft]) (fun _ => [gapW cA b q p t rd tx tl ((celA ρ rf (nOf ρ) (xs (i + 1))).2), rowW cA q ρ]) (c_X4_cell l D cA cB b q p t rd tx tl rf ρ (nOf ρ) hI.1 hI.2.1 hI.2.2.2.2.1 (xs (i + 1))) kv_X4_cell ml_L_40 dL_law_286 rfl rfl rfl rfl (segOk [0, 1, 2, 3, 4, 5] rfl rfl rfl rfl) (fun _ => segOk [0, 1, 2, 3, 4, 5] rfl rfl rfl rfl) rfl (Nat.le_of_ble_eq_true rfl) (fun v u h => ?_)
  subst h
  refine r_st (st' := [.int ((celA ρ rf (nOf ρ) (xs (i + 1))).1)]) rfl ?_
  refine r_aload_n 2 dL_law_289 rfl rfl ?_
  refine r_aload_n 0 dL_law_290 rfl rfl ?_
  refine r_iload_n 3 dL_law_291 rfl rfl ?_
  refine r_iconst (nI 1) dL_law_292 (by decide +kernel) ?_
  refine r_niadd dL_law_293 ?_
  refine r_sld hX9 (i + 1) dL_law_294 rfl (by omega) (by omega) ?_
  refine r_callV2 (As := [.int (xs (i + 1))]) (st := [.int ((celA ρ rf (nOf ρ) (xs (i + 1))).1)]) (fun _ => gapW cA b q p t rd tx tl ((celA ρ rf (nOf ρ) (xs (i + 1))).2) ++ (rowW cA q ρ ++ (spU cA p u0 ++ (stW cA cB t r σ (nI (h)) ++ (rdZ rd z ++ (mdW cA m ρ P (nI (h)) α ((celA ρ rf (nOf ρ) (xs (i + 1))).2) K V C my cm tx (nI (tl)) (nI (sp)) od no ft)))))) [gapW cA b q p t rd tx tl ((celA ρ rf (nOf ρ) (xs (i + 1))).2), rowW cA q ρ, spU cA p u0, stW cA cB t r σ (nI (h)), rdZ rd z, mdW cA m ρ P (nI (h)) α rf K V C my cm tx (nI (tl)) (nI (sp)) od no ft] [mdW cA m ρ P (nI (h)) α rf K V C my cm tx (nI (tl)) (nI (sp)) od no ft] [gapW cA b q p t rd tx tl ((celA ρ rf (nOf ρ) (xs (i + 1))).2), rowW cA q ρ, spU cA p u0, stW cA cB t r σ (nI (h)), rdZ rd z] (fun _ => [gapW cA b q p t rd tx tl ((celA ρ rf (nOf ρ) (xs (i + 1))).2), rowW cA q ρ, spU cA p u0, stW cA cB t r σ (nI (h)), rdZ rd z, mdW cA m ρ P (nI (h)) α ((celA ρ rf (nOf ρ) (xs (i + 1))).2) K V C my cm tx (nI (tl)) (nI (sp)) od no ft]) (fun _ => [mdW cA m ρ P (nI (h)) α ((celA ρ rf (nOf ρ) (xs (i + 1))).2) K V C my cm tx (nI (tl)) (nI (sp)) od no ft]) (c_X5_cell l D cA cB m ρ P (nI h) α rf K V C my cm tx (nI tl)  (nI sp)  od no ft (nOf ρ) hI.1 hI.2.1 (xs (i + 1))) kv_X5_cell ml_L_43 dL_law_295 rfl rfl rfl rfl (segOk [5, 0, 1, 2, 3, 4] rfl rfl rfl rfl) (fun _ => segOk [5, 0, 1, 2, 3, 4] rfl rfl rfl rfl) rfl (Nat.le_of_ble_eq_true rfl) (fun v u h => ?_)
  subst h
  refine r_st (st' := [.int ((celA ρ rf (nOf ρ) (xs (i + 1))).1), .int ((celA ρ rf (nOf ρ) (xs (i + 1))).1)]) rfl ?_
  refine r_icmp_eq 636 dL_law_298 (by decide) (fun hq1 => ?_) (fun hq1 => ?_)
  · exact kk tx tl ((celA ρ rf (nOf ρ) (xs (i + 1))).2) ρ u0 r σ h z P α K V C my cm sp od no ft (hR)
  · exact absurd rfl hq1

set_option maxRecDepth 100000 in
set_option maxHeartbeats 4000000 in
theorem law_303 (l : Launch) (D : va_G) (cA cB : ClassId) (bs : Nat) (X : Cx) (b q p t : Nat → Nat) (rd : Nat) (m : Nat → Nat) (L : Nat) (xs : Nat → Int32) (hL : L ≤ 2048) (hX9 : SX X bs L xs) (tx : Nat → Int32) (tl : Nat) (rf ρ : Nat → Int32) (u0 : Sp5) (r : Nat → Nat → Nat) (σ : Nat → Nat → Int32) (h : Nat) (z : RS) (P α K V C : Nat → Int32) (my cm : Int32) (sp : Nat) (od : Nat → Int32) (no ft : Int32) (hR : Rl ρ σ h z tl P α) (i : Nat) (hi : i + 4 ≤ L) (kk : Nx l D cA cB bs X b q p t rd m i) : LG l D cA cB bs X b q p t rd m 303 i tx tl rf ρ u0 r σ h z P α K V C my cm sp od no ft := by
  have hI := hR.1
  have hh := hR.2.1
  have htl := hR.2.2.1
  have hz := hR.2.2.2.1
  have hza := hR.2.2.2.2.1
  have hzr := hI.z
  refine r_aload_n 1 dL_law_303 rfl rfl ?_
  refine r_aload_n 0 dL_law_304 rfl rfl ?_
  refine r_iload_n 3 dL_law_305 rfl rfl ?_
  refine r_iconst (nI 1) dL_law_306 (by decide +kernel) ?_
  refine r_niadd dL_law_307 ?_
  refine r_sld hX9 (i + 1) dL_law_308 rfl (by omega) (by omega) ?_
  refine r_callV2 (As := [.int (xs (i + 1))]) (st := []) (fun _ => gapW cA b q p t rd tx tl ((atA ρ rf (nOf ρ) (xs (i + 1))).2) ++ (rowW cA q ρ ++ (spU cA p u0 ++ (stW cA cB t r σ (nI (h)) ++ (rdZ rd z ++ (mdW cA m ρ P (nI (h)) α rf K V C my cm tx (nI (tl)) (nI (sp)) od no ft)))))) [gapW cA b q p t rd tx tl rf, rowW cA q ρ, spU cA p u0, stW cA cB t r σ (nI (h)), rdZ rd z, mdW cA m ρ P (nI (h)) α rf K V C my cm tx (nI (tl)) (nI (sp)) od no ft] [gapW cA b q p t rd tx tl rf, rowW cA q ρ] [spU cA p u0, stW cA cB t r σ (nI (h)), rdZ rd z, mdW cA m ρ P (nI (h)) α rf K V C my cm tx (nI (tl)) (nI (sp)) od no ft] (fun _ => [gapW cA b q p t rd tx tl ((atA ρ rf (nOf ρ) (xs (i + 1))).2), rowW cA q ρ, spU cA p u0, stW cA cB t r σ (nI (h)), rdZ rd z, mdW cA m ρ P (nI (h)) α rf K V C my cm tx (nI (tl)) (nI (sp)) od no ft]) (fun _ => [gapW cA b q p t rd tx tl ((atA ρ rf (nOf ρ) (xs (i + 1))).2), rowW cA q ρ]) (c_X4_at l D cA cB b q p t rd tx tl rf ρ (nOf ρ) hI.1 hI.2.1 (xs (i + 1))) kv_X4_at ml_L_44 dL_law_309 rfl rfl rfl rfl (segOk [0, 1, 2, 3, 4, 5] rfl rfl rfl rfl) (fun _ => segOk [0, 1, 2, 3, 4, 5] rfl rfl rfl rfl) rfl (Nat.le_of_ble_eq_true rfl) (fun v u h => ?_)
  subst h
  refine r_st (st' := [.int ((atA ρ rf (nOf ρ) (xs (i + 1))).1)]) rfl ?_
  refine r_aload_n 2 dL_law_312 rfl rfl ?_
  refine r_aload_n 0 dL_law_313 rfl rfl ?_
  refine r_iload_n 3 dL_law_314 rfl rfl ?_
  refine r_iconst (nI 1) dL_law_315 (by decide +kernel) ?_
  refine r_niadd dL_law_316 ?_
  refine r_sld hX9 (i + 1) dL_law_317 rfl (by omega) (by omega) ?_
  refine r_callV2 (As := [.int (xs (i + 1))]) (st := [.int ((atA ρ rf (nOf ρ) (xs (i + 1))).1)]) (fun _ => gapW cA b q p t rd tx tl ((atA ρ rf (nOf ρ) (xs (i + 1))).2) ++ (rowW cA q ρ ++ (spU cA p u0 ++ (stW cA cB t r σ (nI (h)) ++ (rdZ rd z ++ (mdW cA m ρ P (nI (h)) α ((atA ρ rf (nOf ρ) (xs (i + 1))).2) K V C my cm tx (nI (tl)) (nI (sp)) od no ft)))))) [gapW cA b q p t rd tx tl ((atA ρ rf (nOf ρ) (xs (i + 1))).2), rowW cA q ρ, spU cA p u0, stW cA cB t r σ (nI (h)), rdZ rd z, mdW cA m ρ P (nI (h)) α rf K V C my cm tx (nI (tl)) (nI (sp)) od no ft] [mdW cA m ρ P (nI (h)) α rf K V C my cm tx (nI (tl)) (nI (sp)) od no ft] [gapW cA b q p t rd tx tl ((atA ρ rf (nOf ρ) (xs (i + 1))).2), rowW cA q ρ, spU cA p u0, stW cA cB t r σ (nI (h)), rdZ rd z] (fun _ => [gapW cA b q p t rd tx tl ((atA ρ rf (nOf ρ) (xs (i + 1))).2), rowW cA q ρ, spU cA p u0, stW cA cB t r σ (nI (h)), rdZ rd z, mdW cA m ρ P (nI (h)) α ((atA ρ rf (nOf ρ) (xs (i + 1))).2) K V C my cm tx (nI (tl)) (nI (sp)) od no ft]) (fun _ => [mdW cA m ρ P (nI (h)) α ((atA ρ rf (nOf ρ) (xs (i + 1))).2) K V C my cm tx (nI (tl)) (nI (sp)) od no ft]) (c_X5_at l D cA cB m ρ P (nI h) α rf K V C my cm tx (nI tl)  (nI sp)  od no ft (nOf ρ) hI.1 hI.2.1 (xs (i + 1))) kv_X5_at ml_L_47 dL_law_318 rfl rfl rfl rfl (segOk [5, 0, 1, 2, 3, 4] rfl rfl rfl rfl) (fun _ => segOk [5, 0, 1, 2, 3, 4] rfl rfl rfl rfl) rfl (Nat.le_of_ble_eq_true rfl) (fun v u h => ?_)
  subst h
  refine r_st (st' := [.int ((atA ρ rf (nOf ρ) (xs (i + 1))).1), .int ((atA ρ rf (nOf ρ) (xs (i + 1))).1)]) rfl ?_
  refine r_icmp_eq 636 dL_law_321 (by decide) (fun hq1 => ?_) (fun hq1 => ?_)
  · exact kk tx tl ((atA ρ rf (nOf ρ) (xs (i + 1))).2) ρ u0 r σ h z P α K V C my cm sp od no ft (hR)
  · exact absurd rfl hq1

set_option maxRecDepth 100000 in
set_option maxHeartbeats 4000000 in
theorem law_326 (l : Launch) (D : va_G) (cA cB : ClassId) (bs : Nat) (X : Cx) (b q p t : Nat → Nat) (rd : Nat) (m : Nat → Nat) (L : Nat) (xs : Nat → Int32) (hL : L ≤ 2048) (hX9 : SX X bs L xs) (tx : Nat → Int32) (tl : Nat) (rf ρ : Nat → Int32) (u0 : Sp5) (r : Nat → Nat → Nat) (σ : Nat → Nat → Int32) (h : Nat) (z : RS) (P α K V C : Nat → Int32) (my cm : Int32) (sp : Nat) (od : Nat → Int32) (no ft : Int32) (hR : Rl ρ σ h z tl P α) (i : Nat) (hi : i + 4 ≤ L) (kk : Nx l D cA cB bs X b q p t rd m i) : LG l D cA cB bs X b q p t rd m 326 i tx tl rf ρ u0 r σ h z P α K V C my cm sp od no ft := by
  have hI := hR.1
  have hh := hR.2.1
  have htl := hR.2.2.1
  have hz := hR.2.2.2.1
  have hza := hR.2.2.2.2.1
  have hzr := hI.z
  refine r_aload_n 1 dL_law_326 rfl rfl ?_
  refine r_aload_n 0 dL_law_327 rfl rfl ?_
  refine r_iload_n 3 dL_law_328 rfl rfl ?_
  refine r_iconst (nI 1) dL_law_329 (by decide +kernel) ?_
  refine r_niadd dL_law_330 ?_
  refine r_sld hX9 (i + 1) dL_law_331 rfl (by omega) (by omega) ?_
  refine r_callV2 (As := [.int (xs (i + 1))]) (st := []) (fun _ => gapW cA b q p t rd tx tl ((rnkA ρ rf (nOf ρ) (xs (i + 1))).2) ++ (rowW cA q ρ ++ (spU cA p u0 ++ (stW cA cB t r σ (nI (h)) ++ (rdZ rd z ++ (mdW cA m ρ P (nI (h)) α rf K V C my cm tx (nI (tl)) (nI (sp)) od no ft)))))) [gapW cA b q p t rd tx tl rf, rowW cA q ρ, spU cA p u0, stW cA cB t r σ (nI (h)), rdZ rd z, mdW cA m ρ P (nI (h)) α rf K V C my cm tx (nI (tl)) (nI (sp)) od no ft] [gapW cA b q p t rd tx tl rf, rowW cA q ρ] [spU cA p u0, stW cA cB t r σ (nI (h)), rdZ rd z, mdW cA m ρ P (nI (h)) α rf K V C my cm tx (nI (tl)) (nI (sp)) od no ft] (fun _ => [gapW cA b q p t rd tx tl ((rnkA ρ rf (nOf ρ) (xs (i + 1))).2), rowW cA q ρ, spU cA p u0, stW cA cB t r σ (nI (h)), rdZ rd z, mdW cA m ρ P (nI (h)) α rf K V C my cm tx (nI (tl)) (nI (sp)) od no ft]) (fun _ => [gapW cA b q p t rd tx tl ((rnkA ρ rf (nOf ρ) (xs (i + 1))).2), rowW cA q ρ]) (c_X4_rank l D cA cB b q p t rd tx tl rf ρ (nOf ρ) hI.1 hI.2.1 (xs (i + 1))) kv_X4_rank ml_L_48 dL_law_332 rfl rfl rfl rfl (segOk [0, 1, 2, 3, 4, 5] rfl rfl rfl rfl) (fun _ => segOk [0, 1, 2, 3, 4, 5] rfl rfl rfl rfl) rfl (Nat.le_of_ble_eq_true rfl) (fun v u h => ?_)
  subst h
  refine r_st (st' := [.int ((rnkA ρ rf (nOf ρ) (xs (i + 1))).1)]) rfl ?_
  refine r_aload_n 2 dL_law_335 rfl rfl ?_
  refine r_aload_n 0 dL_law_336 rfl rfl ?_
  refine r_iload_n 3 dL_law_337 rfl rfl ?_
  refine r_iconst (nI 1) dL_law_338 (by decide +kernel) ?_
  refine r_niadd dL_law_339 ?_
  refine r_sld hX9 (i + 1) dL_law_340 rfl (by omega) (by omega) ?_
  refine r_callV2 (As := [.int (xs (i + 1))]) (st := [.int ((rnkA ρ rf (nOf ρ) (xs (i + 1))).1)]) (fun _ => gapW cA b q p t rd tx tl ((rnkA ρ rf (nOf ρ) (xs (i + 1))).2) ++ (rowW cA q ρ ++ (spU cA p u0 ++ (stW cA cB t r σ (nI (h)) ++ (rdZ rd z ++ (mdW cA m ρ P (nI (h)) α ((rnkA ρ rf (nOf ρ) (xs (i + 1))).2) K V C my cm tx (nI (tl)) (nI (sp)) od no ft)))))) [gapW cA b q p t rd tx tl ((rnkA ρ rf (nOf ρ) (xs (i + 1))).2), rowW cA q ρ, spU cA p u0, stW cA cB t r σ (nI (h)), rdZ rd z, mdW cA m ρ P (nI (h)) α rf K V C my cm tx (nI (tl)) (nI (sp)) od no ft] [mdW cA m ρ P (nI (h)) α rf K V C my cm tx (nI (tl)) (nI (sp)) od no ft] [gapW cA b q p t rd tx tl ((rnkA ρ rf (nOf ρ) (xs (i + 1))).2), rowW cA q ρ, spU cA p u0, stW cA cB t r σ (nI (h)), rdZ rd z] (fun _ => [gapW cA b q p t rd tx tl ((rnkA ρ rf (nOf ρ) (xs (i + 1))).2), rowW cA q ρ, spU cA p u0, stW cA cB t r σ (nI (h)), rdZ rd z, mdW cA m ρ P (nI (h)) α ((rnkA ρ rf (nOf ρ) (xs (i + 1))).2) K V C my cm tx (nI (tl)) (nI (sp)) od no ft]) (fun _ => [mdW cA m ρ P (nI (h)) α ((rnkA ρ rf (nOf ρ) (xs (i + 1))).2) K V C my cm tx (nI (tl)) (nI (sp)) od no ft]) (c_X5_rank l D cA cB m ρ P (nI h) α rf K V C my cm tx (nI tl)  (nI sp)  od no ft (nOf ρ) hI.1 hI.2.1 (xs (i + 1))) kv_X5_rank ml_L_51 dL_law_341 rfl rfl rfl rfl (segOk [5, 0, 1, 2, 3, 4] rfl rfl rfl rfl) (fun _ => segOk [5, 0, 1, 2, 3, 4] rfl rfl rfl rfl) rfl (Nat.le_of_ble_eq_true rfl) (fun v u h => ?_)
  subst h
  refine r_st (st' := [.int ((rnkA ρ rf (nOf ρ) (xs (i + 1))).1), .int ((rnkA ρ rf (nOf ρ) (xs (i + 1))).1)]) rfl ?_
  refine r_icmp_eq 636 dL_law_344 (by decide) (fun hq1 => ?_) (fun hq1 => ?_)
  · exact kk tx tl ((rnkA ρ rf (nOf ρ) (xs (i + 1))).2) ρ u0 r σ h z P α K V C my cm sp od no ft (hR)
  · exact absurd rfl hq1

set_option maxRecDepth 100000 in
set_option maxHeartbeats 4000000 in
theorem law_349 (l : Launch) (D : va_G) (cA cB : ClassId) (bs : Nat) (X : Cx) (b q p t : Nat → Nat) (rd : Nat) (m : Nat → Nat) (L : Nat) (xs : Nat → Int32) (hL : L ≤ 2048) (hX9 : SX X bs L xs) (tx : Nat → Int32) (tl : Nat) (rf ρ : Nat → Int32) (u0 : Sp5) (r : Nat → Nat → Nat) (σ : Nat → Nat → Int32) (h : Nat) (z : RS) (P α K V C : Nat → Int32) (my cm : Int32) (sp : Nat) (od : Nat → Int32) (no ft : Int32) (hR : Rl ρ σ h z tl P α) (i : Nat) (hi : i + 4 ≤ L) (kk : Nx l D cA cB bs X b q p t rd m i) : LG l D cA cB bs X b q p t rd m 349 i tx tl rf ρ u0 r σ h z P α K V C my cm sp od no ft := by
  have hI := hR.1
  have hh := hR.2.1
  have htl := hR.2.2.1
  have hz := hR.2.2.2.1
  have hza := hR.2.2.2.2.1
  have hzr := hI.z
  refine r_aload_n 1 dL_law_349 rfl rfl ?_
  refine r_aload_n 0 dL_law_350 rfl rfl ?_
  refine r_iload_n 3 dL_law_351 rfl rfl ?_
  refine r_iconst (nI 1) dL_law_352 (by decide +kernel) ?_
  refine r_niadd dL_law_353 ?_
  refine r_sld hX9 (i + 1) dL_law_354 rfl (by omega) (by omega) ?_
  refine r_callV2 (As := [.int (xs (i + 1))]) (st := []) (fun _ => gapW cA b q p t rd tx tl ((keyA ρ rf (nOf ρ) (xs (i + 1))).2) ++ (rowW cA q ρ ++ (spU cA p u0 ++ (stW cA cB t r σ (nI (h)) ++ (rdZ rd z ++ (mdW cA m ρ P (nI (h)) α rf K V C my cm tx (nI (tl)) (nI (sp)) od no ft)))))) [gapW cA b q p t rd tx tl rf, rowW cA q ρ, spU cA p u0, stW cA cB t r σ (nI (h)), rdZ rd z, mdW cA m ρ P (nI (h)) α rf K V C my cm tx (nI (tl)) (nI (sp)) od no ft] [gapW cA b q p t rd tx tl rf, rowW cA q ρ] [spU cA p u0, stW cA cB t r σ (nI (h)), rdZ rd z, mdW cA m ρ P (nI (h)) α rf K V C my cm tx (nI (tl)) (nI (sp)) od no ft] (fun _ => [gapW cA b q p t rd tx tl ((keyA ρ rf (nOf ρ) (xs (i + 1))).2), rowW cA q ρ, spU cA p u0, stW cA cB t r σ (nI (h)), rdZ rd z, mdW cA m ρ P (nI (h)) α rf K V C my cm tx (nI (tl)) (nI (sp)) od no ft]) (fun _ => [gapW cA b q p t rd tx tl ((keyA ρ rf (nOf ρ) (xs (i + 1))).2), rowW cA q ρ]) (c_X4_key l D cA cB b q p t rd tx tl rf ρ (nOf ρ) hI.1 hI.2.1 (xs (i + 1))) kv_X4_key ml_L_52 dL_law_355 rfl rfl rfl rfl (segOk [0, 1, 2, 3, 4, 5] rfl rfl rfl rfl) (fun _ => segOk [0, 1, 2, 3, 4, 5] rfl rfl rfl rfl) rfl (Nat.le_of_ble_eq_true rfl) (fun v u h => ?_)
  subst h
  refine r_st (st' := [.int ((keyA ρ rf (nOf ρ) (xs (i + 1))).1)]) rfl ?_
  refine r_aload_n 2 dL_law_358 rfl rfl ?_
  refine r_aload_n 0 dL_law_359 rfl rfl ?_
  refine r_iload_n 3 dL_law_360 rfl rfl ?_
  refine r_iconst (nI 1) dL_law_361 (by decide +kernel) ?_
  refine r_niadd dL_law_362 ?_
  refine r_sld hX9 (i + 1) dL_law_363 rfl (by omega) (by omega) ?_
  refine r_callV2 (As := [.int (xs (i + 1))]) (st := [.int ((keyA ρ rf (nOf ρ) (xs (i + 1))).1)]) (fun _ => gapW cA b q p t rd tx tl ((keyA ρ rf (nOf ρ) (xs (i + 1))).2) ++ (rowW cA q ρ ++ (spU cA p u0 ++ (stW cA cB t r σ (nI (h)) ++ (rdZ rd z ++ (mdW cA m ρ P (nI (h)) α ((keyA ρ rf (nOf ρ) (xs (i + 1))).2) K V C my cm tx (nI (tl)) (nI (sp)) od no ft)))))) [gapW cA b q p t rd tx tl ((keyA ρ rf (nOf ρ) (xs (i + 1))).2), rowW cA q ρ, spU cA p u0, stW cA cB t r σ (nI (h)), rdZ rd z, mdW cA m ρ P (nI (h)) α rf K V C my cm tx (nI (tl)) (nI (sp)) od no ft] [mdW cA m ρ P (nI (h)) α rf K V C my cm tx (nI (tl)) (nI (sp)) od no ft] [gapW cA b q p t rd tx tl ((keyA ρ rf (nOf ρ) (xs (i + 1))).2), rowW cA q ρ, spU cA p u0, stW cA cB t r σ (nI (h)), rdZ rd z] (fun _ => [gapW cA b q p t rd tx tl ((keyA ρ rf (nOf ρ) (xs (i + 1))).2), rowW cA q ρ, spU cA p u0, stW cA cB t r σ (nI (h)), rdZ rd z, mdW cA m ρ P (nI (h)) α ((keyA ρ rf (nOf ρ) (xs (i + 1))).2) K V C my cm tx (nI (tl)) (nI (sp)) od no ft]) (fun _ => [mdW cA m ρ P (nI (h)) α ((keyA ρ rf (nOf ρ) (xs (i + 1))).2) K V C my cm tx (nI (tl)) (nI (sp)) od no ft]) (c_X5_key l D cA cB m ρ P (nI h) α rf K V C my cm tx (nI tl)  (nI sp)  od no ft (nOf ρ) hI.1 hI.2.1 (xs (i + 1))) kv_X5_key ml_L_55 dL_law_364 rfl rfl rfl rfl (segOk [5, 0, 1, 2, 3, 4] rfl rfl rfl rfl) (fun _ => segOk [5, 0, 1, 2, 3, 4] rfl rfl rfl rfl) rfl (Nat.le_of_ble_eq_true rfl) (fun v u h => ?_)
  subst h
  refine r_st (st' := [.int ((keyA ρ rf (nOf ρ) (xs (i + 1))).1), .int ((keyA ρ rf (nOf ρ) (xs (i + 1))).1)]) rfl ?_
  refine r_icmp_eq 636 dL_law_367 (by decide) (fun hq1 => ?_) (fun hq1 => ?_)
  · exact kk tx tl ((keyA ρ rf (nOf ρ) (xs (i + 1))).2) ρ u0 r σ h z P α K V C my cm sp od no ft (hR)
  · exact absurd rfl hq1

set_option maxRecDepth 100000 in
set_option maxHeartbeats 4000000 in
theorem law_372 (l : Launch) (D : va_G) (cA cB : ClassId) (bs : Nat) (X : Cx) (b q p t : Nat → Nat) (rd : Nat) (m : Nat → Nat) (L : Nat) (xs : Nat → Int32) (hL : L ≤ 2048) (hX9 : SX X bs L xs) (tx : Nat → Int32) (tl : Nat) (rf ρ : Nat → Int32) (u0 : Sp5) (r : Nat → Nat → Nat) (σ : Nat → Nat → Int32) (h : Nat) (z : RS) (P α K V C : Nat → Int32) (my cm : Int32) (sp : Nat) (od : Nat → Int32) (no ft : Int32) (hR : Rl ρ σ h z tl P α) (i : Nat) (hi : i + 4 ≤ L) (kk : Nx l D cA cB bs X b q p t rd m i) : LG l D cA cB bs X b q p t rd m 372 i tx tl rf ρ u0 r σ h z P α K V C my cm sp od no ft := by
  have hI := hR.1
  have hh := hR.2.1
  have htl := hR.2.2.1
  have hz := hR.2.2.2.1
  have hza := hR.2.2.2.2.1
  have hzr := hI.z
  refine r_aload_n 1 dL_law_372 rfl rfl ?_
  refine r_aload_n 0 dL_law_373 rfl rfl ?_
  refine r_iload_n 3 dL_law_374 rfl rfl ?_
  refine r_iconst (nI 1) dL_law_375 (by decide +kernel) ?_
  refine r_niadd dL_law_376 ?_
  refine r_sld hX9 (i + 1) dL_law_377 rfl (by omega) (by omega) ?_
  refine r_aload_n 0 dL_law_378 rfl rfl ?_
  refine r_iload_n 3 dL_law_379 rfl rfl ?_
  refine r_iconst (nI 2) dL_law_380 (by decide +kernel) ?_
  refine r_niadd dL_law_381 ?_
  refine r_sld hX9 (i + 2) dL_law_382 rfl (by omega) (by omega) ?_
  refine r_aload_n 0 dL_law_383 rfl rfl ?_
  refine r_iload_n 3 dL_law_384 rfl rfl ?_
  refine r_iconst (nI 3) dL_law_385 (by decide +kernel) ?_
  refine r_niadd dL_law_386 ?_
  refine r_sld hX9 (i + 3) dL_law_387 rfl (by omega) (by omega) ?_
  refine r_callV2 (As := [.int (xs (i + 1)), .int (xs (i + 2)), .int (xs (i + 3))]) (st := []) (fun _ => gapW cA b q p t rd tx tl ((scnA ρ rf (nOf ρ) (xs (i + 1)) (xs (i + 2)) (xs (i + 3))).2) ++ (rowW cA q ρ ++ (spU cA p u0 ++ (stW cA cB t r σ (nI (h)) ++ (rdZ rd z ++ (mdW cA m ρ P (nI (h)) α rf K V C my cm tx (nI (tl)) (nI (sp)) od no ft)))))) [gapW cA b q p t rd tx tl rf, rowW cA q ρ, spU cA p u0, stW cA cB t r σ (nI (h)), rdZ rd z, mdW cA m ρ P (nI (h)) α rf K V C my cm tx (nI (tl)) (nI (sp)) od no ft] [gapW cA b q p t rd tx tl rf, rowW cA q ρ] [spU cA p u0, stW cA cB t r σ (nI (h)), rdZ rd z, mdW cA m ρ P (nI (h)) α rf K V C my cm tx (nI (tl)) (nI (sp)) od no ft] (fun _ => [gapW cA b q p t rd tx tl ((scnA ρ rf (nOf ρ) (xs (i + 1)) (xs (i + 2)) (xs (i + 3))).2), rowW cA q ρ, spU cA p u0, stW cA cB t r σ (nI (h)), rdZ rd z, mdW cA m ρ P (nI (h)) α rf K V C my cm tx (nI (tl)) (nI (sp)) od no ft]) (fun _ => [gapW cA b q p t rd tx tl ((scnA ρ rf (nOf ρ) (xs (i + 1)) (xs (i + 2)) (xs (i + 3))).2), rowW cA q ρ]) (c_X4_scan l D cA cB b q p t rd tx tl rf ρ (nOf ρ) hI.1 hI.2.1 (xs (i + 1)) (xs (i + 2)) (xs (i + 3))) kv_X4_scan ml_L_56 dL_law_388 rfl rfl rfl rfl (segOk [0, 1, 2, 3, 4, 5] rfl rfl rfl rfl) (fun _ => segOk [0, 1, 2, 3, 4, 5] rfl rfl rfl rfl) rfl (Nat.le_of_ble_eq_true rfl) (fun v u h => ?_)
  subst h
  refine r_st (st' := [.int ((scnA ρ rf (nOf ρ) (xs (i + 1)) (xs (i + 2)) (xs (i + 3))).1)]) rfl ?_
  refine r_aload_n 2 dL_law_391 rfl rfl ?_
  refine r_aload_n 0 dL_law_392 rfl rfl ?_
  refine r_iload_n 3 dL_law_393 rfl rfl ?_
  refine r_iconst (nI 1) dL_law_394 (by decide +kernel) ?_
  refine r_niadd dL_law_395 ?_
  refine r_sld hX9 (i + 1) dL_law_396 rfl (by omega) (by omega) ?_
  refine r_aload_n 0 dL_law_397 rfl rfl ?_
  refine r_iload_n 3 dL_law_398 rfl rfl ?_
  refine r_iconst (nI 2) dL_law_399 (by decide +kernel) ?_
  refine r_niadd dL_law_400 ?_
  refine r_sld hX9 (i + 2) dL_law_401 rfl (by omega) (by omega) ?_
  refine r_aload_n 0 dL_law_402 rfl rfl ?_
  refine r_iload_n 3 dL_law_403 rfl rfl ?_
  refine r_iconst (nI 3) dL_law_404 (by decide +kernel) ?_
  refine r_niadd dL_law_405 ?_
  refine r_sld hX9 (i + 3) dL_law_406 rfl (by omega) (by omega) ?_
  refine r_callV2 (As := [.int (xs (i + 1)), .int (xs (i + 2)), .int (xs (i + 3))]) (st := [.int ((scnA ρ rf (nOf ρ) (xs (i + 1)) (xs (i + 2)) (xs (i + 3))).1)]) (fun _ => gapW cA b q p t rd tx tl ((scnA ρ rf (nOf ρ) (xs (i + 1)) (xs (i + 2)) (xs (i + 3))).2) ++ (rowW cA q ρ ++ (spU cA p u0 ++ (stW cA cB t r σ (nI (h)) ++ (rdZ rd z ++ (mdW cA m ρ P (nI (h)) α ((scnA ρ rf (nOf ρ) (xs (i + 1)) (xs (i + 2)) (xs (i + 3))).2) K V C my cm tx (nI (tl)) (nI (sp)) od no ft)))))) [gapW cA b q p t rd tx tl ((scnA ρ rf (nOf ρ) (xs (i + 1)) (xs (i + 2)) (xs (i + 3))).2), rowW cA q ρ, spU cA p u0, stW cA cB t r σ (nI (h)), rdZ rd z, mdW cA m ρ P (nI (h)) α rf K V C my cm tx (nI (tl)) (nI (sp)) od no ft] [mdW cA m ρ P (nI (h)) α rf K V C my cm tx (nI (tl)) (nI (sp)) od no ft] [gapW cA b q p t rd tx tl ((scnA ρ rf (nOf ρ) (xs (i + 1)) (xs (i + 2)) (xs (i + 3))).2), rowW cA q ρ, spU cA p u0, stW cA cB t r σ (nI (h)), rdZ rd z] (fun _ => [gapW cA b q p t rd tx tl ((scnA ρ rf (nOf ρ) (xs (i + 1)) (xs (i + 2)) (xs (i + 3))).2), rowW cA q ρ, spU cA p u0, stW cA cB t r σ (nI (h)), rdZ rd z, mdW cA m ρ P (nI (h)) α ((scnA ρ rf (nOf ρ) (xs (i + 1)) (xs (i + 2)) (xs (i + 3))).2) K V C my cm tx (nI (tl)) (nI (sp)) od no ft]) (fun _ => [mdW cA m ρ P (nI (h)) α ((scnA ρ rf (nOf ρ) (xs (i + 1)) (xs (i + 2)) (xs (i + 3))).2) K V C my cm tx (nI (tl)) (nI (sp)) od no ft]) (c_X5_scan l D cA cB m ρ P (nI h) α rf K V C my cm tx (nI tl)  (nI sp)  od no ft (nOf ρ) hI.1 hI.2.1 hI.2.2.2.2.1 (xs (i + 1)) (xs (i + 2)) (xs (i + 3))) kv_X5_scan ml_L_60 dL_law_407 rfl rfl rfl rfl (segOk [5, 0, 1, 2, 3, 4] rfl rfl rfl rfl) (fun _ => segOk [5, 0, 1, 2, 3, 4] rfl rfl rfl rfl) rfl (Nat.le_of_ble_eq_true rfl) (fun v u h => ?_)
  subst h
  refine r_st (st' := [.int ((scnA ρ rf (nOf ρ) (xs (i + 1)) (xs (i + 2)) (xs (i + 3))).1), .int ((scnA ρ rf (nOf ρ) (xs (i + 1)) (xs (i + 2)) (xs (i + 3))).1)]) rfl ?_
  refine r_icmp_eq 636 dL_law_410 (by decide) (fun hq1 => ?_) (fun hq1 => ?_)
  · exact kk tx tl ((scnA ρ rf (nOf ρ) (xs (i + 1)) (xs (i + 2)) (xs (i + 3))).2) ρ u0 r σ h z P α K V C my cm sp od no ft (hR)
  · exact absurd rfl hq1

set_option maxRecDepth 100000 in
set_option maxHeartbeats 4000000 in
theorem law_415 (l : Launch) (D : va_G) (cA cB : ClassId) (bs : Nat) (X : Cx) (b q p t : Nat → Nat) (rd : Nat) (m : Nat → Nat) (L : Nat) (xs : Nat → Int32) (hL : L ≤ 2048) (hX9 : SX X bs L xs) (tx : Nat → Int32) (tl : Nat) (rf ρ : Nat → Int32) (u0 : Sp5) (r : Nat → Nat → Nat) (σ : Nat → Nat → Int32) (h : Nat) (z : RS) (P α K V C : Nat → Int32) (my cm : Int32) (sp : Nat) (od : Nat → Int32) (no ft : Int32) (hR : Rl ρ σ h z tl P α) (i : Nat) (hi : i + 4 ≤ L) (kk : Nx l D cA cB bs X b q p t rd m i) : LG l D cA cB bs X b q p t rd m 415 i tx tl rf ρ u0 r σ h z P α K V C my cm sp od no ft := by
  have hI := hR.1
  have hh := hR.2.1
  have htl := hR.2.2.1
  have hz := hR.2.2.2.1
  have hza := hR.2.2.2.2.1
  have hzr := hI.z
  refine r_aload_n 1 dL_law_415 rfl rfl ?_
  refine r_aload_n 0 dL_law_416 rfl rfl ?_
  refine r_iload_n 3 dL_law_417 rfl rfl ?_
  refine r_iconst (nI 1) dL_law_418 (by decide +kernel) ?_
  refine r_niadd dL_law_419 ?_
  refine r_sld hX9 (i + 1) dL_law_420 rfl (by omega) (by omega) ?_
  refine r_callV2 (As := [.int (xs (i + 1))]) (st := []) (fun _ => gapW cA b q p t rd tx tl ((idxA ρ rf (nOf ρ) (xs (i + 1))).2) ++ (rowW cA q ρ ++ (spU cA p u0 ++ (stW cA cB t r σ (nI (h)) ++ (rdZ rd z ++ (mdW cA m ρ P (nI (h)) α rf K V C my cm tx (nI (tl)) (nI (sp)) od no ft)))))) [gapW cA b q p t rd tx tl rf, rowW cA q ρ, spU cA p u0, stW cA cB t r σ (nI (h)), rdZ rd z, mdW cA m ρ P (nI (h)) α rf K V C my cm tx (nI (tl)) (nI (sp)) od no ft] [gapW cA b q p t rd tx tl rf, rowW cA q ρ] [spU cA p u0, stW cA cB t r σ (nI (h)), rdZ rd z, mdW cA m ρ P (nI (h)) α rf K V C my cm tx (nI (tl)) (nI (sp)) od no ft] (fun _ => [gapW cA b q p t rd tx tl ((idxA ρ rf (nOf ρ) (xs (i + 1))).2), rowW cA q ρ, spU cA p u0, stW cA cB t r σ (nI (h)), rdZ rd z, mdW cA m ρ P (nI (h)) α rf K V C my cm tx (nI (tl)) (nI (sp)) od no ft]) (fun _ => [gapW cA b q p t rd tx tl ((idxA ρ rf (nOf ρ) (xs (i + 1))).2), rowW cA q ρ]) (c_X4_index l D cA cB b q p t rd tx tl rf ρ (nOf ρ) hI.1 hI.2.1 (xs (i + 1))) kv_X4_index ml_L_61 dL_law_421 rfl rfl rfl rfl (segOk [0, 1, 2, 3, 4, 5] rfl rfl rfl rfl) (fun _ => segOk [0, 1, 2, 3, 4, 5] rfl rfl rfl rfl) rfl (Nat.le_of_ble_eq_true rfl) (fun v u h => ?_)
  subst h
  refine r_st (st' := [.int ((idxA ρ rf (nOf ρ) (xs (i + 1))).1)]) rfl ?_
  refine r_aload_n 2 dL_law_424 rfl rfl ?_
  refine r_aload_n 0 dL_law_425 rfl rfl ?_
  refine r_iload_n 3 dL_law_426 rfl rfl ?_
  refine r_iconst (nI 1) dL_law_427 (by decide +kernel) ?_
  refine r_niadd dL_law_428 ?_
  refine r_sld hX9 (i + 1) dL_law_429 rfl (by omega) (by omega) ?_
  refine r_callV2 (As := [.int (xs (i + 1))]) (st := [.int ((idxA ρ rf (nOf ρ) (xs (i + 1))).1)]) (fun _ => gapW cA b q p t rd tx tl ((idxA ρ rf (nOf ρ) (xs (i + 1))).2) ++ (rowW cA q ρ ++ (spU cA p u0 ++ (stW cA cB t r σ (nI (h)) ++ (rdZ rd z ++ (mdW cA m ρ P (nI (h)) α ((idxA ρ rf (nOf ρ) (xs (i + 1))).2) K V C my cm tx (nI (tl)) (nI (sp)) od no ft)))))) [gapW cA b q p t rd tx tl ((idxA ρ rf (nOf ρ) (xs (i + 1))).2), rowW cA q ρ, spU cA p u0, stW cA cB t r σ (nI (h)), rdZ rd z, mdW cA m ρ P (nI (h)) α rf K V C my cm tx (nI (tl)) (nI (sp)) od no ft] [mdW cA m ρ P (nI (h)) α rf K V C my cm tx (nI (tl)) (nI (sp)) od no ft] [gapW cA b q p t rd tx tl ((idxA ρ rf (nOf ρ) (xs (i + 1))).2), rowW cA q ρ, spU cA p u0, stW cA cB t r σ (nI (h)), rdZ rd z] (fun _ => [gapW cA b q p t rd tx tl ((idxA ρ rf (nOf ρ) (xs (i + 1))).2), rowW cA q ρ, spU cA p u0, stW cA cB t r σ (nI (h)), rdZ rd z, mdW cA m ρ P (nI (h)) α ((idxA ρ rf (nOf ρ) (xs (i + 1))).2) K V C my cm tx (nI (tl)) (nI (sp)) od no ft]) (fun _ => [mdW cA m ρ P (nI (h)) α ((idxA ρ rf (nOf ρ) (xs (i + 1))).2) K V C my cm tx (nI (tl)) (nI (sp)) od no ft]) (c_X5_index l D cA cB m ρ P (nI h) α rf K V C my cm tx (nI tl)  (nI sp)  od no ft (nOf ρ) hI.1 hI.2.1 (xs (i + 1))) kv_X5_index ml_L_64 dL_law_430 rfl rfl rfl rfl (segOk [5, 0, 1, 2, 3, 4] rfl rfl rfl rfl) (fun _ => segOk [5, 0, 1, 2, 3, 4] rfl rfl rfl rfl) rfl (Nat.le_of_ble_eq_true rfl) (fun v u h => ?_)
  subst h
  refine r_st (st' := [.int ((idxA ρ rf (nOf ρ) (xs (i + 1))).1), .int ((idxA ρ rf (nOf ρ) (xs (i + 1))).1)]) rfl ?_
  refine r_icmp_eq 636 dL_law_433 (by decide) (fun hq1 => ?_) (fun hq1 => ?_)
  · exact kk tx tl ((idxA ρ rf (nOf ρ) (xs (i + 1))).2) ρ u0 r σ h z P α K V C my cm sp od no ft (hR)
  · exact absurd rfl hq1

set_option maxRecDepth 100000 in
set_option maxHeartbeats 4000000 in
theorem law_438 (l : Launch) (D : va_G) (cA cB : ClassId) (bs : Nat) (X : Cx) (b q p t : Nat → Nat) (rd : Nat) (m : Nat → Nat) (L : Nat) (xs : Nat → Int32) (hL : L ≤ 2048) (hX9 : SX X bs L xs) (tx : Nat → Int32) (tl : Nat) (rf ρ : Nat → Int32) (u0 : Sp5) (r : Nat → Nat → Nat) (σ : Nat → Nat → Int32) (h : Nat) (z : RS) (P α K V C : Nat → Int32) (my cm : Int32) (sp : Nat) (od : Nat → Int32) (no ft : Int32) (hR : Rl ρ σ h z tl P α) (i : Nat) (hi : i + 4 ≤ L) (kk : Nx l D cA cB bs X b q p t rd m i) : LG l D cA cB bs X b q p t rd m 438 i tx tl rf ρ u0 r σ h z P α K V C my cm sp od no ft := by
  have hI := hR.1
  have hh := hR.2.1
  have htl := hR.2.2.1
  have hz := hR.2.2.2.1
  have hza := hR.2.2.2.2.1
  have hzr := hI.z
  refine r_aload_n 1 dL_law_438 rfl rfl ?_
  refine r_aload_n 0 dL_law_439 rfl rfl ?_
  refine r_iload_n 3 dL_law_440 rfl rfl ?_
  refine r_iconst (nI 1) dL_law_441 (by decide +kernel) ?_
  refine r_niadd dL_law_442 ?_
  refine r_sld hX9 (i + 1) dL_law_443 rfl (by omega) (by omega) ?_
  refine r_aload_n 0 dL_law_444 rfl rfl ?_
  refine r_iload_n 3 dL_law_445 rfl rfl ?_
  refine r_iconst (nI 2) dL_law_446 (by decide +kernel) ?_
  refine r_niadd dL_law_447 ?_
  refine r_sld hX9 (i + 2) dL_law_448 rfl (by omega) (by omega) ?_
  refine r_aload_n 0 dL_law_449 rfl rfl ?_
  refine r_iload_n 3 dL_law_450 rfl rfl ?_
  refine r_iconst (nI 3) dL_law_451 (by decide +kernel) ?_
  refine r_niadd dL_law_452 ?_
  refine r_sld hX9 (i + 3) dL_law_453 rfl (by omega) (by omega) ?_
  refine r_callV2 (As := [.int (xs (i + 1)), .int (xs (i + 2)), .int (xs (i + 3))]) (st := []) (fun _ => gapW cA b q p t rd tx tl ((winA ρ rf (nOf ρ) (xs (i + 1)) (xs (i + 2)) (xs (i + 3))).2) ++ (rowW cA q ρ ++ (spU cA p u0 ++ (stW cA cB t r σ (nI (h)) ++ (rdZ rd z ++ (mdW cA m ρ P (nI (h)) α rf K V C my cm tx (nI (tl)) (nI (sp)) od no ft)))))) [gapW cA b q p t rd tx tl rf, rowW cA q ρ, spU cA p u0, stW cA cB t r σ (nI (h)), rdZ rd z, mdW cA m ρ P (nI (h)) α rf K V C my cm tx (nI (tl)) (nI (sp)) od no ft] [gapW cA b q p t rd tx tl rf, rowW cA q ρ] [spU cA p u0, stW cA cB t r σ (nI (h)), rdZ rd z, mdW cA m ρ P (nI (h)) α rf K V C my cm tx (nI (tl)) (nI (sp)) od no ft] (fun _ => [gapW cA b q p t rd tx tl ((winA ρ rf (nOf ρ) (xs (i + 1)) (xs (i + 2)) (xs (i + 3))).2), rowW cA q ρ, spU cA p u0, stW cA cB t r σ (nI (h)), rdZ rd z, mdW cA m ρ P (nI (h)) α rf K V C my cm tx (nI (tl)) (nI (sp)) od no ft]) (fun _ => [gapW cA b q p t rd tx tl ((winA ρ rf (nOf ρ) (xs (i + 1)) (xs (i + 2)) (xs (i + 3))).2), rowW cA q ρ]) (c_X4_window l D cA cB b q p t rd tx tl rf ρ (nOf ρ) hI.1 hI.2.1 (xs (i + 1)) (xs (i + 2)) (xs (i + 3))) kv_X4_window ml_L_65 dL_law_454 rfl rfl rfl rfl (segOk [0, 1, 2, 3, 4, 5] rfl rfl rfl rfl) (fun _ => segOk [0, 1, 2, 3, 4, 5] rfl rfl rfl rfl) rfl (Nat.le_of_ble_eq_true rfl) (fun v u h => ?_)
  subst h
  refine r_st (st' := [.int ((winA ρ rf (nOf ρ) (xs (i + 1)) (xs (i + 2)) (xs (i + 3))).1)]) rfl ?_
  refine r_aload_n 2 dL_law_457 rfl rfl ?_
  refine r_aload_n 0 dL_law_458 rfl rfl ?_
  refine r_iload_n 3 dL_law_459 rfl rfl ?_
  refine r_iconst (nI 1) dL_law_460 (by decide +kernel) ?_
  refine r_niadd dL_law_461 ?_
  refine r_sld hX9 (i + 1) dL_law_462 rfl (by omega) (by omega) ?_
  refine r_aload_n 0 dL_law_463 rfl rfl ?_
  refine r_iload_n 3 dL_law_464 rfl rfl ?_
  refine r_iconst (nI 2) dL_law_465 (by decide +kernel) ?_
  refine r_niadd dL_law_466 ?_
  refine r_sld hX9 (i + 2) dL_law_467 rfl (by omega) (by omega) ?_
  refine r_aload_n 0 dL_law_468 rfl rfl ?_
  refine r_iload_n 3 dL_law_469 rfl rfl ?_
  refine r_iconst (nI 3) dL_law_470 (by decide +kernel) ?_
  refine r_niadd dL_law_471 ?_
  refine r_sld hX9 (i + 3) dL_law_472 rfl (by omega) (by omega) ?_
  refine r_callV2 (As := [.int (xs (i + 1)), .int (xs (i + 2)), .int (xs (i + 3))]) (st := [.int ((winA ρ rf (nOf ρ) (xs (i + 1)) (xs (i + 2)) (xs (i + 3))).1)]) (fun _ => gapW cA b q p t rd tx tl ((winA ρ rf (nOf ρ) (xs (i + 1)) (xs (i + 2)) (xs (i + 3))).2) ++ (rowW cA q ρ ++ (spU cA p u0 ++ (stW cA cB t r σ (nI (h)) ++ (rdZ rd z ++ (mdW cA m ρ P (nI (h)) α ((winA ρ rf (nOf ρ) (xs (i + 1)) (xs (i + 2)) (xs (i + 3))).2) K V C my cm tx (nI (tl)) (nI (sp)) od no ft)))))) [gapW cA b q p t rd tx tl ((winA ρ rf (nOf ρ) (xs (i + 1)) (xs (i + 2)) (xs (i + 3))).2), rowW cA q ρ, spU cA p u0, stW cA cB t r σ (nI (h)), rdZ rd z, mdW cA m ρ P (nI (h)) α rf K V C my cm tx (nI (tl)) (nI (sp)) od no ft] [mdW cA m ρ P (nI (h)) α rf K V C my cm tx (nI (tl)) (nI (sp)) od no ft] [gapW cA b q p t rd tx tl ((winA ρ rf (nOf ρ) (xs (i + 1)) (xs (i + 2)) (xs (i + 3))).2), rowW cA q ρ, spU cA p u0, stW cA cB t r σ (nI (h)), rdZ rd z] (fun _ => [gapW cA b q p t rd tx tl ((winA ρ rf (nOf ρ) (xs (i + 1)) (xs (i + 2)) (xs (i + 3))).2), rowW cA q ρ, spU cA p u0, stW cA cB t r σ (nI (h)), rdZ rd z, mdW cA m ρ P (nI (h)) α ((winA ρ rf (nOf ρ) (xs (i + 1)) (xs (i + 2)) (xs (i + 3))).2) K V C my cm tx (nI (tl)) (nI (sp)) od no ft]) (fun _ => [mdW cA m ρ P (nI (h)) α ((winA ρ rf (nOf ρ) (xs (i + 1)) (xs (i + 2)) (xs (i + 3))).2) K V C my cm tx (nI (tl)) (nI (sp)) od no ft]) (c_X5_window l D cA cB m ρ P (nI h) α rf K V C my cm tx (nI tl)  (nI sp)  od no ft (nOf ρ) hI.1 hI.2.1 (xs (i + 1)) (xs (i + 2)) (xs (i + 3))) kv_X5_window ml_L_68 dL_law_473 rfl rfl rfl rfl (segOk [5, 0, 1, 2, 3, 4] rfl rfl rfl rfl) (fun _ => segOk [5, 0, 1, 2, 3, 4] rfl rfl rfl rfl) rfl (Nat.le_of_ble_eq_true rfl) (fun v u h => ?_)
  subst h
  refine r_st (st' := [.int ((winA ρ rf (nOf ρ) (xs (i + 1)) (xs (i + 2)) (xs (i + 3))).1), .int ((winA ρ rf (nOf ρ) (xs (i + 1)) (xs (i + 2)) (xs (i + 3))).1)]) rfl ?_
  refine r_icmp_eq 636 dL_law_476 (by decide) (fun hq1 => ?_) (fun hq1 => ?_)
  · exact kk tx tl ((winA ρ rf (nOf ρ) (xs (i + 1)) (xs (i + 2)) (xs (i + 3))).2) ρ u0 r σ h z P α K V C my cm sp od no ft (hR)
  · exact absurd rfl hq1

set_option maxRecDepth 100000 in
set_option maxHeartbeats 4000000 in
theorem law_481 (l : Launch) (D : va_G) (cA cB : ClassId) (bs : Nat) (X : Cx) (b q p t : Nat → Nat) (rd : Nat) (m : Nat → Nat) (L : Nat) (xs : Nat → Int32) (hL : L ≤ 2048) (hX9 : SX X bs L xs) (tx : Nat → Int32) (tl : Nat) (rf ρ : Nat → Int32) (u0 : Sp5) (r : Nat → Nat → Nat) (σ : Nat → Nat → Int32) (h : Nat) (z : RS) (P α K V C : Nat → Int32) (my cm : Int32) (sp : Nat) (od : Nat → Int32) (no ft : Int32) (hR : Rl ρ σ h z tl P α) (i : Nat) (hi : i + 4 ≤ L) (kk : Nx l D cA cB bs X b q p t rd m i) : LG l D cA cB bs X b q p t rd m 481 i tx tl rf ρ u0 r σ h z P α K V C my cm sp od no ft := by
  have hI := hR.1
  have hh := hR.2.1
  have htl := hR.2.2.1
  have hz := hR.2.2.2.1
  have hza := hR.2.2.2.2.1
  have hzr := hI.z
  refine r_aload_n 1 dL_law_481 rfl rfl ?_
  refine r_aload_n 0 dL_law_482 rfl rfl ?_
  refine r_iload_n 3 dL_law_483 rfl rfl ?_
  refine r_iconst (nI 1) dL_law_484 (by decide +kernel) ?_
  refine r_niadd dL_law_485 ?_
  refine r_sld hX9 (i + 1) dL_law_486 rfl (by omega) (by omega) ?_
  refine r_callV2 (As := [.int (xs (i + 1))]) (st := []) (fun _ => gapW cA b q p t rd tx tl ((cntA ρ rf (nOf ρ) (xs (i + 1))).2) ++ (rowW cA q ρ ++ (spU cA p u0 ++ (stW cA cB t r σ (nI (h)) ++ (rdZ rd z ++ (mdW cA m ρ P (nI (h)) α rf K V C my cm tx (nI (tl)) (nI (sp)) od no ft)))))) [gapW cA b q p t rd tx tl rf, rowW cA q ρ, spU cA p u0, stW cA cB t r σ (nI (h)), rdZ rd z, mdW cA m ρ P (nI (h)) α rf K V C my cm tx (nI (tl)) (nI (sp)) od no ft] [gapW cA b q p t rd tx tl rf, rowW cA q ρ] [spU cA p u0, stW cA cB t r σ (nI (h)), rdZ rd z, mdW cA m ρ P (nI (h)) α rf K V C my cm tx (nI (tl)) (nI (sp)) od no ft] (fun _ => [gapW cA b q p t rd tx tl ((cntA ρ rf (nOf ρ) (xs (i + 1))).2), rowW cA q ρ, spU cA p u0, stW cA cB t r σ (nI (h)), rdZ rd z, mdW cA m ρ P (nI (h)) α rf K V C my cm tx (nI (tl)) (nI (sp)) od no ft]) (fun _ => [gapW cA b q p t rd tx tl ((cntA ρ rf (nOf ρ) (xs (i + 1))).2), rowW cA q ρ]) (c_X4_count l D cA cB b q p t rd tx tl rf ρ (nOf ρ) hI.1 hI.2.1 (xs (i + 1))) kv_X4_count ml_L_69 dL_law_487 rfl rfl rfl rfl (segOk [0, 1, 2, 3, 4, 5] rfl rfl rfl rfl) (fun _ => segOk [0, 1, 2, 3, 4, 5] rfl rfl rfl rfl) rfl (Nat.le_of_ble_eq_true rfl) (fun v u h => ?_)
  subst h
  refine r_st (st' := [.int ((cntA ρ rf (nOf ρ) (xs (i + 1))).1)]) rfl ?_
  refine r_aload_n 2 dL_law_490 rfl rfl ?_
  refine r_aload_n 0 dL_law_491 rfl rfl ?_
  refine r_iload_n 3 dL_law_492 rfl rfl ?_
  refine r_iconst (nI 1) dL_law_493 (by decide +kernel) ?_
  refine r_niadd dL_law_494 ?_
  refine r_sld hX9 (i + 1) dL_law_495 rfl (by omega) (by omega) ?_
  refine r_callV2 (As := [.int (xs (i + 1))]) (st := [.int ((cntA ρ rf (nOf ρ) (xs (i + 1))).1)]) (fun _ => gapW cA b q p t rd tx tl ((cntA ρ rf (nOf ρ) (xs (i + 1))).2) ++ (rowW cA q ρ ++ (spU cA p u0 ++ (stW cA cB t r σ (nI (h)) ++ (rdZ rd z ++ (mdW cA m ρ P (nI (h)) α ((cntA ρ rf (nOf ρ) (xs (i + 1))).2) K V C my cm tx (nI (tl)) (nI (sp)) od no ft)))))) [gapW cA b q p t rd tx tl ((cntA ρ rf (nOf ρ) (xs (i + 1))).2), rowW cA q ρ, spU cA p u0, stW cA cB t r σ (nI (h)), rdZ rd z, mdW cA m ρ P (nI (h)) α rf K V C my cm tx (nI (tl)) (nI (sp)) od no ft] [mdW cA m ρ P (nI (h)) α rf K V C my cm tx (nI (tl)) (nI (sp)) od no ft] [gapW cA b q p t rd tx tl ((cntA ρ rf (nOf ρ) (xs (i + 1))).2), rowW cA q ρ, spU cA p u0, stW cA cB t r σ (nI (h)), rdZ rd z] (fun _ => [gapW cA b q p t rd tx tl ((cntA ρ rf (nOf ρ) (xs (i + 1))).2), rowW cA q ρ, spU cA p u0, stW cA cB t r σ (nI (h)), rdZ rd z, mdW cA m ρ P (nI (h)) α ((cntA ρ rf (nOf ρ) (xs (i + 1))).2) K V C my cm tx (nI (tl)) (nI (sp)) od no ft]) (fun _ => [mdW cA m ρ P (nI (h)) α ((cntA ρ rf (nOf ρ) (xs (i + 1))).2) K V C my cm tx (nI (tl)) (nI (sp)) od no ft]) (c_X5_count l D cA cB m ρ P (nI h) α rf K V C my cm tx (nI tl)  (nI sp)  od no ft (nOf ρ) hI.1 hI.2.1 (xs (i + 1))) kv_X5_count ml_L_72 dL_law_496 rfl rfl rfl rfl (segOk [5, 0, 1, 2, 3, 4] rfl rfl rfl rfl) (fun _ => segOk [5, 0, 1, 2, 3, 4] rfl rfl rfl rfl) rfl (Nat.le_of_ble_eq_true rfl) (fun v u h => ?_)
  subst h
  refine r_st (st' := [.int ((cntA ρ rf (nOf ρ) (xs (i + 1))).1), .int ((cntA ρ rf (nOf ρ) (xs (i + 1))).1)]) rfl ?_
  refine r_icmp_eq 636 dL_law_499 (by decide) (fun hq1 => ?_) (fun hq1 => ?_)
  · exact kk tx tl ((cntA ρ rf (nOf ρ) (xs (i + 1))).2) ρ u0 r σ h z P α K V C my cm sp od no ft (hR)
  · exact absurd rfl hq1

set_option maxRecDepth 100000 in
set_option maxHeartbeats 4000000 in
theorem law_504 (l : Launch) (D : va_G) (cA cB : ClassId) (bs : Nat) (X : Cx) (b q p t : Nat → Nat) (rd : Nat) (m : Nat → Nat) (L : Nat) (xs : Nat → Int32) (hL : L ≤ 2048) (hX9 : SX X bs L xs) (tx : Nat → Int32) (tl : Nat) (rf ρ : Nat → Int32) (u0 : Sp5) (r : Nat → Nat → Nat) (σ : Nat → Nat → Int32) (h : Nat) (z : RS) (P α K V C : Nat → Int32) (my cm : Int32) (sp : Nat) (od : Nat → Int32) (no ft : Int32) (hR : Rl ρ σ h z tl P α) (i : Nat) (hi : i + 4 ≤ L) (kk : Nx l D cA cB bs X b q p t rd m i) : LG l D cA cB bs X b q p t rd m 504 i tx tl rf ρ u0 r σ h z P α K V C my cm sp od no ft := by
  have hI := hR.1
  have hh := hR.2.1
  have htl := hR.2.2.1
  have hz := hR.2.2.2.1
  have hza := hR.2.2.2.2.1
  have hzr := hI.z
  refine r_aload_n 1 dL_law_504 rfl rfl ?_
  refine r_aload_n 0 dL_law_505 rfl rfl ?_
  refine r_iload_n 3 dL_law_506 rfl rfl ?_
  refine r_iconst (nI 1) dL_law_507 (by decide +kernel) ?_
  refine r_niadd dL_law_508 ?_
  refine r_sld hX9 (i + 1) dL_law_509 rfl (by omega) (by omega) ?_
  refine r_aload_n 0 dL_law_510 rfl rfl ?_
  refine r_iload_n 3 dL_law_511 rfl rfl ?_
  refine r_iconst (nI 2) dL_law_512 (by decide +kernel) ?_
  refine r_niadd dL_law_513 ?_
  refine r_sld hX9 (i + 2) dL_law_514 rfl (by omega) (by omega) ?_
  refine r_callV2 (As := [.int (xs (i + 1)), .int (xs (i + 2))]) (st := []) (fun _ => gapW cA b q p t rd tx tl ((logA ρ rf (gOf ρ) (xs (i + 1)) (xs (i + 2))).2) ++ (rowW cA q ρ ++ (spU cA p u0 ++ (stW cA cB t r σ (nI (h)) ++ (rdZ rd z ++ (mdW cA m ρ P (nI (h)) α rf K V C my cm tx (nI (tl)) (nI (sp)) od no ft)))))) [gapW cA b q p t rd tx tl rf, rowW cA q ρ, spU cA p u0, stW cA cB t r σ (nI (h)), rdZ rd z, mdW cA m ρ P (nI (h)) α rf K V C my cm tx (nI (tl)) (nI (sp)) od no ft] [gapW cA b q p t rd tx tl rf, rowW cA q ρ] [spU cA p u0, stW cA cB t r σ (nI (h)), rdZ rd z, mdW cA m ρ P (nI (h)) α rf K V C my cm tx (nI (tl)) (nI (sp)) od no ft] (fun _ => [gapW cA b q p t rd tx tl ((logA ρ rf (gOf ρ) (xs (i + 1)) (xs (i + 2))).2), rowW cA q ρ, spU cA p u0, stW cA cB t r σ (nI (h)), rdZ rd z, mdW cA m ρ P (nI (h)) α rf K V C my cm tx (nI (tl)) (nI (sp)) od no ft]) (fun _ => [gapW cA b q p t rd tx tl ((logA ρ rf (gOf ρ) (xs (i + 1)) (xs (i + 2))).2), rowW cA q ρ]) (c_X4_log l D cA cB b q p t rd tx tl rf ρ (gOf ρ) hI.2.2.1 hI.2.2.2.1 (xs (i + 1)) (xs (i + 2))) kv_X4_log ml_L_73 dL_law_515 rfl rfl rfl rfl (segOk [0, 1, 2, 3, 4, 5] rfl rfl rfl rfl) (fun _ => segOk [0, 1, 2, 3, 4, 5] rfl rfl rfl rfl) rfl (Nat.le_of_ble_eq_true rfl) (fun v u h => ?_)
  subst h
  refine r_st (st' := [.int ((logA ρ rf (gOf ρ) (xs (i + 1)) (xs (i + 2))).1)]) rfl ?_
  refine r_aload_n 2 dL_law_518 rfl rfl ?_
  refine r_aload_n 0 dL_law_519 rfl rfl ?_
  refine r_iload_n 3 dL_law_520 rfl rfl ?_
  refine r_iconst (nI 1) dL_law_521 (by decide +kernel) ?_
  refine r_niadd dL_law_522 ?_
  refine r_sld hX9 (i + 1) dL_law_523 rfl (by omega) (by omega) ?_
  refine r_aload_n 0 dL_law_524 rfl rfl ?_
  refine r_iload_n 3 dL_law_525 rfl rfl ?_
  refine r_iconst (nI 2) dL_law_526 (by decide +kernel) ?_
  refine r_niadd dL_law_527 ?_
  refine r_sld hX9 (i + 2) dL_law_528 rfl (by omega) (by omega) ?_
  refine r_callV2 (As := [.int (xs (i + 1)), .int (xs (i + 2))]) (st := [.int ((logA ρ rf (gOf ρ) (xs (i + 1)) (xs (i + 2))).1)]) (fun _ => gapW cA b q p t rd tx tl ((logA ρ rf (gOf ρ) (xs (i + 1)) (xs (i + 2))).2) ++ (rowW cA q ρ ++ (spU cA p u0 ++ (stW cA cB t r σ (nI (h)) ++ (rdZ rd z ++ (mdW cA m ρ P (nI (h)) α ((logA ρ rf (gOf ρ) (xs (i + 1)) (xs (i + 2))).2) K V C my cm tx (nI (tl)) (nI (sp)) od no ft)))))) [gapW cA b q p t rd tx tl ((logA ρ rf (gOf ρ) (xs (i + 1)) (xs (i + 2))).2), rowW cA q ρ, spU cA p u0, stW cA cB t r σ (nI (h)), rdZ rd z, mdW cA m ρ P (nI (h)) α rf K V C my cm tx (nI (tl)) (nI (sp)) od no ft] [mdW cA m ρ P (nI (h)) α rf K V C my cm tx (nI (tl)) (nI (sp)) od no ft] [gapW cA b q p t rd tx tl ((logA ρ rf (gOf ρ) (xs (i + 1)) (xs (i + 2))).2), rowW cA q ρ, spU cA p u0, stW cA cB t r σ (nI (h)), rdZ rd z] (fun _ => [gapW cA b q p t rd tx tl ((logA ρ rf (gOf ρ) (xs (i + 1)) (xs (i + 2))).2), rowW cA q ρ, spU cA p u0, stW cA cB t r σ (nI (h)), rdZ rd z, mdW cA m ρ P (nI (h)) α ((logA ρ rf (gOf ρ) (xs (i + 1)) (xs (i + 2))).2) K V C my cm tx (nI (tl)) (nI (sp)) od no ft]) (fun _ => [mdW cA m ρ P (nI (h)) α ((logA ρ rf (gOf ρ) (xs (i + 1)) (xs (i + 2))).2) K V C my cm tx (nI (tl)) (nI (sp)) od no ft]) (c_X5_log l D cA cB m ρ P (nI h) α rf K V C my cm tx (nI tl)  (nI sp)  od no ft (gOf ρ) hI.2.2.1 hI.2.2.2.1 (xs (i + 1)) (xs (i + 2))) kv_X5_log ml_L_76 dL_law_529 rfl rfl rfl rfl (segOk [5, 0, 1, 2, 3, 4] rfl rfl rfl rfl) (fun _ => segOk [5, 0, 1, 2, 3, 4] rfl rfl rfl rfl) rfl (Nat.le_of_ble_eq_true rfl) (fun v u h => ?_)
  subst h
  refine r_st (st' := [.int ((logA ρ rf (gOf ρ) (xs (i + 1)) (xs (i + 2))).1), .int ((logA ρ rf (gOf ρ) (xs (i + 1)) (xs (i + 2))).1)]) rfl ?_
  refine r_icmp_eq 636 dL_law_532 (by decide) (fun hq1 => ?_) (fun hq1 => ?_)
  · exact kk tx tl ((logA ρ rf (gOf ρ) (xs (i + 1)) (xs (i + 2))).2) ρ u0 r σ h z P α K V C my cm sp od no ft (hR)
  · exact absurd rfl hq1

set_option maxRecDepth 100000 in
set_option maxHeartbeats 4000000 in
theorem law_537 (l : Launch) (D : va_G) (cA cB : ClassId) (bs : Nat) (X : Cx) (b q p t : Nat → Nat) (rd : Nat) (m : Nat → Nat) (L : Nat) (xs : Nat → Int32) (hL : L ≤ 2048) (hX9 : SX X bs L xs) (tx : Nat → Int32) (tl : Nat) (rf ρ : Nat → Int32) (u0 : Sp5) (r : Nat → Nat → Nat) (σ : Nat → Nat → Int32) (h : Nat) (z : RS) (P α K V C : Nat → Int32) (my cm : Int32) (sp : Nat) (od : Nat → Int32) (no ft : Int32) (hR : Rl ρ σ h z tl P α) (i : Nat) (hi : i + 4 ≤ L) (kk : Nx l D cA cB bs X b q p t rd m i) : LG l D cA cB bs X b q p t rd m 537 i tx tl rf ρ u0 r σ h z P α K V C my cm sp od no ft := by
  have hI := hR.1
  have hh := hR.2.1
  have htl := hR.2.2.1
  have hz := hR.2.2.2.1
  have hza := hR.2.2.2.2.1
  have hzr := hI.z
  refine r_aload_n 1 dL_law_537 rfl rfl ?_
  refine r_aload_n 0 dL_law_538 rfl rfl ?_
  refine r_iload_n 3 dL_law_539 rfl rfl ?_
  refine r_iconst (nI 1) dL_law_540 (by decide +kernel) ?_
  refine r_niadd dL_law_541 ?_
  refine r_sld hX9 (i + 1) dL_law_542 rfl (by omega) (by omega) ?_
  refine r_callV2 (As := [.int (xs (i + 1))]) (st := []) (fun _ => gapW cA b q p t rd ((typA tx rf tl (xs (i + 1))).2.1) ((typA tx rf tl (xs (i + 1))).2.2.1) ((typA tx rf tl (xs (i + 1))).2.2.2) ++ (rowW cA q ρ ++ (spU cA p u0 ++ (stW cA cB t r σ (nI (h)) ++ (rdZ rd z ++ (mdW cA m ρ P (nI (h)) α rf K V C my cm tx (nI (tl)) (nI (sp)) od no ft)))))) [gapW cA b q p t rd tx tl rf, rowW cA q ρ, spU cA p u0, stW cA cB t r σ (nI (h)), rdZ rd z, mdW cA m ρ P (nI (h)) α rf K V C my cm tx (nI (tl)) (nI (sp)) od no ft] [gapW cA b q p t rd tx tl rf] [rowW cA q ρ, spU cA p u0, stW cA cB t r σ (nI (h)), rdZ rd z, mdW cA m ρ P (nI (h)) α rf K V C my cm tx (nI (tl)) (nI (sp)) od no ft] (fun _ => [gapW cA b q p t rd ((typA tx rf tl (xs (i + 1))).2.1) ((typA tx rf tl (xs (i + 1))).2.2.1) ((typA tx rf tl (xs (i + 1))).2.2.2), rowW cA q ρ, spU cA p u0, stW cA cB t r σ (nI (h)), rdZ rd z, mdW cA m ρ P (nI (h)) α rf K V C my cm tx (nI (tl)) (nI (sp)) od no ft]) (fun _ => [gapW cA b q p t rd ((typA tx rf tl (xs (i + 1))).2.1) ((typA tx rf tl (xs (i + 1))).2.2.1) ((typA tx rf tl (xs (i + 1))).2.2.2)]) (c_X4_type l D cA cB b q p t rd tx tl rf htl (xs (i + 1))) kv_X4_type ml_L_77 dL_law_543 rfl rfl rfl rfl (segOk [0, 1, 2, 3, 4, 5] rfl rfl rfl rfl) (fun _ => segOk [0, 1, 2, 3, 4, 5] rfl rfl rfl rfl) rfl (Nat.le_of_ble_eq_true rfl) (fun v u h => ?_)
  subst h
  refine r_st (st' := [.int ((typA tx rf tl (xs (i + 1))).1)]) rfl ?_
  refine r_aload_n 2 dL_law_546 rfl rfl ?_
  refine r_aload_n 0 dL_law_547 rfl rfl ?_
  refine r_iload_n 3 dL_law_548 rfl rfl ?_
  refine r_iconst (nI 1) dL_law_549 (by decide +kernel) ?_
  refine r_niadd dL_law_550 ?_
  refine r_sld hX9 (i + 1) dL_law_551 rfl (by omega) (by omega) ?_
  refine r_callV2 (As := [.int (xs (i + 1))]) (st := [.int ((typA tx rf tl (xs (i + 1))).1)]) (fun _ => gapW cA b q p t rd ((typA tx rf tl (xs (i + 1))).2.1) ((typA tx rf tl (xs (i + 1))).2.2.1) ((typA tx rf tl (xs (i + 1))).2.2.2) ++ (rowW cA q ρ ++ (spU cA p u0 ++ (stW cA cB t r σ (nI (h)) ++ (rdZ rd z ++ (mdW cA m ρ P (nI (h)) α ((typA tx rf tl (xs (i + 1))).2.2.2) K V C my cm ((typA tx rf tl (xs (i + 1))).2.1) (nI ((typA tx rf tl (xs (i + 1))).2.2.1)) (nI (sp)) od no ft)))))) [gapW cA b q p t rd ((typA tx rf tl (xs (i + 1))).2.1) ((typA tx rf tl (xs (i + 1))).2.2.1) ((typA tx rf tl (xs (i + 1))).2.2.2), rowW cA q ρ, spU cA p u0, stW cA cB t r σ (nI (h)), rdZ rd z, mdW cA m ρ P (nI (h)) α rf K V C my cm tx (nI (tl)) (nI (sp)) od no ft] [mdW cA m ρ P (nI (h)) α rf K V C my cm tx (nI (tl)) (nI (sp)) od no ft] [gapW cA b q p t rd ((typA tx rf tl (xs (i + 1))).2.1) ((typA tx rf tl (xs (i + 1))).2.2.1) ((typA tx rf tl (xs (i + 1))).2.2.2), rowW cA q ρ, spU cA p u0, stW cA cB t r σ (nI (h)), rdZ rd z] (fun _ => [gapW cA b q p t rd ((typA tx rf tl (xs (i + 1))).2.1) ((typA tx rf tl (xs (i + 1))).2.2.1) ((typA tx rf tl (xs (i + 1))).2.2.2), rowW cA q ρ, spU cA p u0, stW cA cB t r σ (nI (h)), rdZ rd z, mdW cA m ρ P (nI (h)) α ((typA tx rf tl (xs (i + 1))).2.2.2) K V C my cm ((typA tx rf tl (xs (i + 1))).2.1) (nI ((typA tx rf tl (xs (i + 1))).2.2.1)) (nI (sp)) od no ft]) (fun _ => [mdW cA m ρ P (nI (h)) α ((typA tx rf tl (xs (i + 1))).2.2.2) K V C my cm ((typA tx rf tl (xs (i + 1))).2.1) (nI ((typA tx rf tl (xs (i + 1))).2.2.1)) (nI (sp)) od no ft]) (c_X5_type l D cA cB m ρ P (nI h) α rf K V C my cm tx tl htl (nI sp)  od no ft (xs (i + 1))) kv_X5_type ml_L_80 dL_law_552 rfl rfl rfl rfl (segOk [5, 0, 1, 2, 3, 4] rfl rfl rfl rfl) (fun _ => segOk [5, 0, 1, 2, 3, 4] rfl rfl rfl rfl) rfl (Nat.le_of_ble_eq_true rfl) (fun v u h => ?_)
  subst h
  refine r_st (st' := [.int ((typA tx rf tl (xs (i + 1))).1), .int ((typA tx rf tl (xs (i + 1))).1)]) rfl ?_
  refine r_icmp_eq 636 dL_law_555 (by decide) (fun hq1 => ?_) (fun hq1 => ?_)
  · exact kk ((typA tx rf tl (xs (i + 1))).2.1) ((typA tx rf tl (xs (i + 1))).2.2.1) ((typA tx rf tl (xs (i + 1))).2.2.2) ρ u0 r σ h z P α K V C my cm sp od no ft (Rl_tl hR (typ_le htl))
  · exact absurd rfl hq1

set_option maxRecDepth 100000 in
set_option maxHeartbeats 4000000 in
theorem law_560 (l : Launch) (D : va_G) (cA cB : ClassId) (bs : Nat) (X : Cx) (b q p t : Nat → Nat) (rd : Nat) (m : Nat → Nat) (L : Nat) (xs : Nat → Int32) (hL : L ≤ 2048) (hX9 : SX X bs L xs) (tx : Nat → Int32) (tl : Nat) (rf ρ : Nat → Int32) (u0 : Sp5) (r : Nat → Nat → Nat) (σ : Nat → Nat → Int32) (h : Nat) (z : RS) (P α K V C : Nat → Int32) (my cm : Int32) (sp : Nat) (od : Nat → Int32) (no ft : Int32) (hR : Rl ρ σ h z tl P α) (i : Nat) (hi : i + 4 ≤ L) (kk : Nx l D cA cB bs X b q p t rd m i) : LG l D cA cB bs X b q p t rd m 560 i tx tl rf ρ u0 r σ h z P α K V C my cm sp od no ft := by
  have hI := hR.1
  have hh := hR.2.1
  have htl := hR.2.2.1
  have hz := hR.2.2.2.1
  have hza := hR.2.2.2.2.1
  have hzr := hI.z
  refine r_aload_n 1 dL_law_560 rfl rfl ?_
  refine r_callV2 (As := []) (st := []) (fun _ => gapW cA b q p t rd tx 0 rf ++ (rowW cA q ρ ++ (spU cA p u0 ++ (stW cA cB t r σ (nI (h)) ++ (rdZ rd z ++ (mdW cA m ρ P (nI (h)) α rf K V C my cm tx (nI (tl)) (nI (sp)) od no ft)))))) [gapW cA b q p t rd tx tl rf, rowW cA q ρ, spU cA p u0, stW cA cB t r σ (nI (h)), rdZ rd z, mdW cA m ρ P (nI (h)) α rf K V C my cm tx (nI (tl)) (nI (sp)) od no ft] [gapW cA b q p t rd tx tl rf] [rowW cA q ρ, spU cA p u0, stW cA cB t r σ (nI (h)), rdZ rd z, mdW cA m ρ P (nI (h)) α rf K V C my cm tx (nI (tl)) (nI (sp)) od no ft] (fun _ => [gapW cA b q p t rd tx 0 rf, rowW cA q ρ, spU cA p u0, stW cA cB t r σ (nI (h)), rdZ rd z, mdW cA m ρ P (nI (h)) α rf K V C my cm tx (nI (tl)) (nI (sp)) od no ft]) (fun _ => [gapW cA b q p t rd tx 0 rf]) (c_X4_clear l D cA cB b q p t rd tx tl rf ) kv_X4_clear ml_L_81 dL_law_561 rfl rfl rfl rfl (segOk [0, 1, 2, 3, 4, 5] rfl rfl rfl rfl) (fun _ => segOk [0, 1, 2, 3, 4, 5] rfl rfl rfl rfl) rfl (Nat.le_of_ble_eq_true rfl) (fun v u h => ?_)
  subst h
  refine r_st (st' := [.int (nI tl)]) rfl ?_
  refine r_aload_n 2 dL_law_564 rfl rfl ?_
  refine r_callV2 (As := []) (st := [.int (nI tl)]) (fun _ => gapW cA b q p t rd tx 0 rf ++ (rowW cA q ρ ++ (spU cA p u0 ++ (stW cA cB t r σ (nI (h)) ++ (rdZ rd z ++ (mdW cA m ρ P (nI (h)) α rf K V C my cm tx (nI (0)) (nI (sp)) od no ft)))))) [gapW cA b q p t rd tx 0 rf, rowW cA q ρ, spU cA p u0, stW cA cB t r σ (nI (h)), rdZ rd z, mdW cA m ρ P (nI (h)) α rf K V C my cm tx (nI (tl)) (nI (sp)) od no ft] [mdW cA m ρ P (nI (h)) α rf K V C my cm tx (nI (tl)) (nI (sp)) od no ft] [gapW cA b q p t rd tx 0 rf, rowW cA q ρ, spU cA p u0, stW cA cB t r σ (nI (h)), rdZ rd z] (fun _ => [gapW cA b q p t rd tx 0 rf, rowW cA q ρ, spU cA p u0, stW cA cB t r σ (nI (h)), rdZ rd z, mdW cA m ρ P (nI (h)) α rf K V C my cm tx (nI (0)) (nI (sp)) od no ft]) (fun _ => [mdW cA m ρ P (nI (h)) α rf K V C my cm tx (nI (0)) (nI (sp)) od no ft]) (c_X5_clear l D cA cB m ρ P (nI h) α rf K V C my cm tx (nI tl)  (nI sp)  od no ft ) kv_X5_clear ml_L_84 dL_law_565 rfl rfl rfl rfl (segOk [5, 0, 1, 2, 3, 4] rfl rfl rfl rfl) (fun _ => segOk [5, 0, 1, 2, 3, 4] rfl rfl rfl rfl) rfl (Nat.le_of_ble_eq_true rfl) (fun v u h => ?_)
  subst h
  refine r_st (st' := [.int (nI tl), .int (nI tl)]) rfl ?_
  refine r_icmp_eq 636 dL_law_568 (by decide) (fun hq1 => ?_) (fun hq1 => ?_)
  · exact kk tx 0 rf ρ u0 r σ h z P α K V C my cm sp od no ft (Rl_tl hR (Nat.zero_le _))
  · exact absurd rfl hq1

set_option maxRecDepth 100000 in
set_option maxHeartbeats 4000000 in
theorem law_573 (l : Launch) (D : va_G) (cA cB : ClassId) (bs : Nat) (X : Cx) (b q p t : Nat → Nat) (rd : Nat) (m : Nat → Nat) (L : Nat) (xs : Nat → Int32) (hL : L ≤ 2048) (hX9 : SX X bs L xs) (tx : Nat → Int32) (tl : Nat) (rf ρ : Nat → Int32) (u0 : Sp5) (r : Nat → Nat → Nat) (σ : Nat → Nat → Int32) (h : Nat) (z : RS) (P α K V C : Nat → Int32) (my cm : Int32) (sp : Nat) (od : Nat → Int32) (no ft : Int32) (hR : Rl ρ σ h z tl P α) (i : Nat) (hi : i + 4 ≤ L) (kk : Nx l D cA cB bs X b q p t rd m i) : LG l D cA cB bs X b q p t rd m 573 i tx tl rf ρ u0 r σ h z P α K V C my cm sp od no ft := by
  have hI := hR.1
  have hh := hR.2.1
  have htl := hR.2.2.1
  have hz := hR.2.2.2.1
  have hza := hR.2.2.2.2.1
  have hzr := hI.z
  refine r_aload_n 1 dL_law_573 rfl rfl ?_
  refine r_callV2 (As := []) (st := []) (fun u1 => gapW cA b q p t rd tx tl rf ++ (rowW cA q (dsRow tx tl ρ) ++ (spU cA p u1.1 ++ (stW cA cB t (if dsB tx tl ρ = true then kpR r h else r) (if dsB tx tl ρ = true then kpS σ h ρ else if rdX tx tl = none then ups σ h ρ else σ) (nI (if dsB tx tl ρ = true then kpH h else h)) ++ (rdZ rd u1.2 ++ (mdW cA m ρ P (nI (h)) α rf K V C my cm tx (nI (tl)) (nI (sp)) od no ft)))))) [gapW cA b q p t rd tx tl rf, rowW cA q ρ, spU cA p u0, stW cA cB t r σ (nI (h)), rdZ rd z, mdW cA m ρ P (nI (h)) α rf K V C my cm tx (nI (tl)) (nI (sp)) od no ft] [gapW cA b q p t rd tx tl rf, rowW cA q ρ, spU cA p u0, stW cA cB t r σ (nI (h)), rdZ rd z] [mdW cA m ρ P (nI (h)) α rf K V C my cm tx (nI (tl)) (nI (sp)) od no ft] (fun u1 => [gapW cA b q p t rd tx tl rf, rowW cA q (dsRow tx tl ρ), spU cA p u1.1, stW cA cB t (if dsB tx tl ρ = true then kpR r h else r) (if dsB tx tl ρ = true then kpS σ h ρ else if rdX tx tl = none then ups σ h ρ else σ) (nI (if dsB tx tl ρ = true then kpH h else h)), rdZ rd u1.2, mdW cA m ρ P (nI (h)) α rf K V C my cm tx (nI (tl)) (nI (sp)) od no ft]) (fun u1 => [gapW cA b q p t rd tx tl rf, rowW cA q (dsRow tx tl ρ), spU cA p u1.1, stW cA cB t (if dsB tx tl ρ = true then kpR r h else r) (if dsB tx tl ρ = true then kpS σ h ρ else if rdX tx tl = none then ups σ h ρ else σ) (nI (if dsB tx tl ρ = true then kpH h else h)), rdZ rd u1.2]) (c_X4_does l D cA cB b q p t rd tx tl rf htl ρ hI u0 r σ h hh z hz) kv_X4_does ml_L_85 dL_law_574 rfl rfl rfl rfl (segOk [0, 1, 2, 3, 4, 5] rfl rfl rfl rfl) (fun _ => segOk [0, 1, 2, 3, 4, 5] rfl rfl rfl rfl) rfl (Nat.le_of_ble_eq_true rfl) (fun v u1 h => ?_)
  obtain ⟨rfl, hz2⟩ := h
  refine r_st (st' := [.int (dsAns tx tl ρ)]) rfl ?_
  refine r_aload_n 2 dL_law_577 rfl rfl ?_
  refine r_callV2 (As := []) (st := [.int (dsAns tx tl ρ)]) (fun u2 => gapW cA b q p t rd tx tl rf ++ (rowW cA q (dsRow tx tl ρ) ++ (spU cA p u1.1 ++ (stW cA cB t (if dsB tx tl ρ = true then kpR r h else r) (if dsB tx tl ρ = true then kpS σ h ρ else if rdX tx tl = none then ups σ h ρ else σ) (nI (if dsB tx tl ρ = true then kpH h else h)) ++ (rdZ rd u1.2 ++ (mdW cA m (dsRow tx tl ρ) (if dsB tx tl ρ = true then lvP P h ρ else P) (nI (if dsB tx tl ρ = true then kpH h else h)) (if rdX tx tl = none then ρ else α) rf u2.1.1 u2.1.2.1 u2.1.2.2.1 u2.1.2.2.2.1 u2.1.2.2.2.2 tx (nI (tl)) (nI (u2.2.2.2)) u2.2.1 (nI u2.2.2.1) (oI (rdX tx tl)))))))) [gapW cA b q p t rd tx tl rf, rowW cA q (dsRow tx tl ρ), spU cA p u1.1, stW cA cB t (if dsB tx tl ρ = true then kpR r h else r) (if dsB tx tl ρ = true then kpS σ h ρ else if rdX tx tl = none then ups σ h ρ else σ) (nI (if dsB tx tl ρ = true then kpH h else h)), rdZ rd u1.2, mdW cA m ρ P (nI (h)) α rf K V C my cm tx (nI (tl)) (nI (sp)) od no ft] [mdW cA m ρ P (nI (h)) α rf K V C my cm tx (nI (tl)) (nI (sp)) od no ft] [gapW cA b q p t rd tx tl rf, rowW cA q (dsRow tx tl ρ), spU cA p u1.1, stW cA cB t (if dsB tx tl ρ = true then kpR r h else r) (if dsB tx tl ρ = true then kpS σ h ρ else if rdX tx tl = none then ups σ h ρ else σ) (nI (if dsB tx tl ρ = true then kpH h else h)), rdZ rd u1.2] (fun u2 => [gapW cA b q p t rd tx tl rf, rowW cA q (dsRow tx tl ρ), spU cA p u1.1, stW cA cB t (if dsB tx tl ρ = true then kpR r h else r) (if dsB tx tl ρ = true then kpS σ h ρ else if rdX tx tl = none then ups σ h ρ else σ) (nI (if dsB tx tl ρ = true then kpH h else h)), rdZ rd u1.2, mdW cA m (dsRow tx tl ρ) (if dsB tx tl ρ = true then lvP P h ρ else P) (nI (if dsB tx tl ρ = true then kpH h else h)) (if rdX tx tl = none then ρ else α) rf u2.1.1 u2.1.2.1 u2.1.2.2.1 u2.1.2.2.2.1 u2.1.2.2.2.2 tx (nI (tl)) (nI (u2.2.2.2)) u2.2.1 (nI u2.2.2.1) (oI (rdX tx tl))]) (fun u2 => [mdW cA m (dsRow tx tl ρ) (if dsB tx tl ρ = true then lvP P h ρ else P) (nI (if dsB tx tl ρ = true then kpH h else h)) (if rdX tx tl = none then ρ else α) rf u2.1.1 u2.1.2.1 u2.1.2.2.1 u2.1.2.2.2.1 u2.1.2.2.2.2 tx (nI (tl)) (nI (u2.2.2.2)) u2.2.1 (nI u2.2.2.1) (oI (rdX tx tl))]) (c_X5_does l D cA cB m ρ P h α rf K V C my cm tx tl  sp htl od no ft hh hza hI) kv_X5_does ml_L_88 dL_law_578 rfl rfl rfl rfl (segOk [5, 0, 1, 2, 3, 4] rfl rfl rfl rfl) (fun _ => segOk [5, 0, 1, 2, 3, 4] rfl rfl rfl rfl) rfl (Nat.le_of_ble_eq_true rfl) (fun v u2 h => ?_)
  subst h
  refine r_st (st' := [.int (dsAns tx tl ρ), .int (dsAns tx tl ρ)]) rfl ?_
  refine r_icmp_eq 636 dL_law_581 (by decide) (fun hq3 => ?_) (fun hq3 => ?_)
  · exact kk tx tl rf (dsRow tx tl ρ) u1.1 (if dsB tx tl ρ = true then kpR r h else r) (if dsB tx tl ρ = true then kpS σ h ρ else if rdX tx tl = none then ups σ h ρ else σ) (if dsB tx tl ρ = true then kpH h else h) u1.2 (if dsB tx tl ρ = true then lvP P h ρ else P) (if rdX tx tl = none then ρ else α) u2.1.1 u2.1.2.1 u2.1.2.2.1 u2.1.2.2.2.1 u2.1.2.2.2.2 u2.2.2.2 u2.2.1 (nI u2.2.2.1) (oI (rdX tx tl)) (Rl_does tx hR hz2)
  · exact absurd rfl hq3

set_option maxRecDepth 100000 in
set_option maxHeartbeats 4000000 in
theorem law_586 (l : Launch) (D : va_G) (cA cB : ClassId) (bs : Nat) (X : Cx) (b q p t : Nat → Nat) (rd : Nat) (m : Nat → Nat) (L : Nat) (xs : Nat → Int32) (hL : L ≤ 2048) (hX9 : SX X bs L xs) (tx : Nat → Int32) (tl : Nat) (rf ρ : Nat → Int32) (u0 : Sp5) (r : Nat → Nat → Nat) (σ : Nat → Nat → Int32) (h : Nat) (z : RS) (P α K V C : Nat → Int32) (my cm : Int32) (sp : Nat) (od : Nat → Int32) (no ft : Int32) (hR : Rl ρ σ h z tl P α) (i : Nat) (hi : i + 4 ≤ L) (kk : Nx l D cA cB bs X b q p t rd m i) : LG l D cA cB bs X b q p t rd m 586 i tx tl rf ρ u0 r σ h z P α K V C my cm sp od no ft := by
  have hI := hR.1
  have hh := hR.2.1
  have htl := hR.2.2.1
  have hz := hR.2.2.2.1
  have hza := hR.2.2.2.2.1
  have hzr := hI.z
  refine r_aload_n 1 dL_law_586 rfl rfl ?_
  refine r_callV2 (As := []) (st := []) (fun _ => gapW cA b q p t rd tx tl (if 0 < h then rf else noR rf) ++ (rowW cA q (if 0 < h then σ (h - 1) else ρ) ++ (spU cA p u0 ++ (stW cA cB t r σ (nI (h - 1)) ++ (rdZ rd z ++ (mdW cA m ρ P (nI (h)) α rf K V C my cm tx (nI (tl)) (nI (sp)) od no ft)))))) [gapW cA b q p t rd tx tl rf, rowW cA q ρ, spU cA p u0, stW cA cB t r σ (nI (h)), rdZ rd z, mdW cA m ρ P (nI (h)) α rf K V C my cm tx (nI (tl)) (nI (sp)) od no ft] [gapW cA b q p t rd tx tl rf, rowW cA q ρ, stW cA cB t r σ (nI (h))] [spU cA p u0, rdZ rd z, mdW cA m ρ P (nI (h)) α rf K V C my cm tx (nI (tl)) (nI (sp)) od no ft] (fun _ => [gapW cA b q p t rd tx tl (if 0 < h then rf else noR rf), rowW cA q (if 0 < h then σ (h - 1) else ρ), spU cA p u0, stW cA cB t r σ (nI (h - 1)), rdZ rd z, mdW cA m ρ P (nI (h)) α rf K V C my cm tx (nI (tl)) (nI (sp)) od no ft]) (fun _ => [gapW cA b q p t rd tx tl (if 0 < h then rf else noR rf), rowW cA q (if 0 < h then σ (h - 1) else ρ), stW cA cB t r σ (nI (h - 1))]) (c_X4_back l D cA cB b q p t rd tx tl rf ρ r σ h hh) kv_X4_back ml_L_89 dL_law_587 rfl rfl rfl rfl (segOk [0, 1, 3, 2, 4, 5] rfl rfl rfl rfl) (fun _ => segOk [0, 1, 3, 2, 4, 5] rfl rfl rfl rfl) rfl (Nat.le_of_ble_eq_true rfl) (fun v u h => ?_)
  subst h
  refine r_st (st' := [.int (if 0 < h then nI (h - 1) else -3)]) rfl ?_
  refine r_aload_n 2 dL_law_590 rfl rfl ?_
  refine r_callV2 (As := []) (st := [.int (if 0 < h then nI (h - 1) else -3)]) (fun _ => gapW cA b q p t rd tx tl (if 0 < h then rf else noR rf) ++ (rowW cA q (if 0 < h then σ (h - 1) else ρ) ++ (spU cA p u0 ++ (stW cA cB t r σ (nI (h - 1)) ++ (rdZ rd z ++ (mdW cA m (if 0 < h then bkR P ρ (h - 1) 159 else ρ) P (nI (h - 1)) α (if 0 < h then rf else noR rf) K V C my cm tx (nI (tl)) (nI (sp)) od no ft)))))) [gapW cA b q p t rd tx tl (if 0 < h then rf else noR rf), rowW cA q (if 0 < h then σ (h - 1) else ρ), spU cA p u0, stW cA cB t r σ (nI (h - 1)), rdZ rd z, mdW cA m ρ P (nI (h)) α rf K V C my cm tx (nI (tl)) (nI (sp)) od no ft] [mdW cA m ρ P (nI (h)) α rf K V C my cm tx (nI (tl)) (nI (sp)) od no ft] [gapW cA b q p t rd tx tl (if 0 < h then rf else noR rf), rowW cA q (if 0 < h then σ (h - 1) else ρ), spU cA p u0, stW cA cB t r σ (nI (h - 1)), rdZ rd z] (fun _ => [gapW cA b q p t rd tx tl (if 0 < h then rf else noR rf), rowW cA q (if 0 < h then σ (h - 1) else ρ), spU cA p u0, stW cA cB t r σ (nI (h - 1)), rdZ rd z, mdW cA m (if 0 < h then bkR P ρ (h - 1) 159 else ρ) P (nI (h - 1)) α (if 0 < h then rf else noR rf) K V C my cm tx (nI (tl)) (nI (sp)) od no ft]) (fun _ => [mdW cA m (if 0 < h then bkR P ρ (h - 1) 159 else ρ) P (nI (h - 1)) α (if 0 < h then rf else noR rf) K V C my cm tx (nI (tl)) (nI (sp)) od no ft]) (c_X5_back l D cA cB m ρ P h α rf K V C my cm tx (nI tl)  (nI sp)  od no ft hh) kv_X5_back ml_L_92 dL_law_591 rfl rfl rfl rfl (segOk [5, 0, 1, 2, 3, 4] rfl rfl rfl rfl) (fun _ => segOk [5, 0, 1, 2, 3, 4] rfl rfl rfl rfl) rfl (Nat.le_of_ble_eq_true rfl) (fun v u h => ?_)
  subst h
  refine r_st (st' := [.int (if 0 < h then nI (h - 1) else -3), .int (if 0 < h then nI (h - 1) else -3)]) rfl ?_
  refine r_ws (ws' := gapW cA b q p t rd tx tl (if 0 < h then rf else noR rf) ++ (rowW cA q (if 0 < h then σ (h - 1) else ρ) ++ (spU cA p u0 ++ (stW cA cB t r σ (nI (h - 1)) ++ (rdZ rd z ++ (mdW cA m (if 0 < h then σ (h - 1) else ρ) P (nI (h - 1)) α (if 0 < h then rf else noR rf) K V C my cm tx (nI (tl)) (nI (sp)) od no ft)))))) (by rw [bk_eq hR]) ?_
  refine r_icmp_eq 636 dL_law_594 (by decide) (fun hq1 => ?_) (fun hq1 => ?_)
  · exact kk tx tl (if 0 < h then rf else noR rf) (if 0 < h then σ (h - 1) else ρ) u0 r σ (h - 1) z P α K V C my cm sp od no ft (Rl_back hR)
  · exact absurd rfl hq1

set_option maxRecDepth 100000 in
set_option maxHeartbeats 4000000 in
theorem law_599 (l : Launch) (D : va_G) (cA cB : ClassId) (bs : Nat) (X : Cx) (b q p t : Nat → Nat) (rd : Nat) (m : Nat → Nat) (L : Nat) (xs : Nat → Int32) (hL : L ≤ 2048) (hX9 : SX X bs L xs) (tx : Nat → Int32) (tl : Nat) (rf ρ : Nat → Int32) (u0 : Sp5) (r : Nat → Nat → Nat) (σ : Nat → Nat → Int32) (h : Nat) (z : RS) (P α K V C : Nat → Int32) (my cm : Int32) (sp : Nat) (od : Nat → Int32) (no ft : Int32) (hR : Rl ρ σ h z tl P α) (i : Nat) (hi : i + 4 ≤ L) (kk : Nx l D cA cB bs X b q p t rd m i) : LG l D cA cB bs X b q p t rd m 599 i tx tl rf ρ u0 r σ h z P α K V C my cm sp od no ft := by
  have hI := hR.1
  have hh := hR.2.1
  have htl := hR.2.2.1
  have hz := hR.2.2.2.1
  have hza := hR.2.2.2.2.1
  have hzr := hI.z
  refine r_aload_n 1 dL_law_599 rfl rfl ?_
  refine r_aload_n 0 dL_law_600 rfl rfl ?_
  refine r_iload_n 3 dL_law_601 rfl rfl ?_
  refine r_iconst (nI 1) dL_law_602 (by decide +kernel) ?_
  refine r_niadd dL_law_603 ?_
  refine r_sld hX9 (i + 1) dL_law_604 rfl (by omega) (by omega) ?_
  refine r_callV2 (As := [.int (xs (i + 1))]) (st := []) (fun _ => gapW cA b q p t rd tx tl ((tldA rf tl h (xs (i + 1))).2) ++ (rowW cA q ρ ++ (spU cA p u0 ++ (stW cA cB t r σ (nI (h)) ++ (rdZ rd z ++ (mdW cA m ρ P (nI (h)) α rf K V C my cm tx (nI (tl)) (nI (sp)) od no ft)))))) [gapW cA b q p t rd tx tl rf, rowW cA q ρ, spU cA p u0, stW cA cB t r σ (nI (h)), rdZ rd z, mdW cA m ρ P (nI (h)) α rf K V C my cm tx (nI (tl)) (nI (sp)) od no ft] [gapW cA b q p t rd tx tl rf, stW cA cB t r σ (nI (h))] [rowW cA q ρ, spU cA p u0, rdZ rd z, mdW cA m ρ P (nI (h)) α rf K V C my cm tx (nI (tl)) (nI (sp)) od no ft] (fun _ => [gapW cA b q p t rd tx tl ((tldA rf tl h (xs (i + 1))).2), rowW cA q ρ, spU cA p u0, stW cA cB t r σ (nI (h)), rdZ rd z, mdW cA m ρ P (nI (h)) α rf K V C my cm tx (nI (tl)) (nI (sp)) od no ft]) (fun _ => [gapW cA b q p t rd tx tl ((tldA rf tl h (xs (i + 1))).2), stW cA cB t r σ (nI (h))]) (c_X4_told l D cA cB b q p t rd tx tl rf r σ h (xs (i + 1))) kv_X4_told ml_L_93 dL_law_605 rfl rfl rfl rfl (segOk [0, 3, 1, 2, 4, 5] rfl rfl rfl rfl) (fun _ => segOk [0, 3, 1, 2, 4, 5] rfl rfl rfl rfl) rfl (Nat.le_of_ble_eq_true rfl) (fun v u h => ?_)
  subst h
  refine r_st (st' := [.int ((tldA rf tl h (xs (i + 1))).1)]) rfl ?_
  refine r_aload_n 2 dL_law_608 rfl rfl ?_
  refine r_aload_n 0 dL_law_609 rfl rfl ?_
  refine r_iload_n 3 dL_law_610 rfl rfl ?_
  refine r_iconst (nI 1) dL_law_611 (by decide +kernel) ?_
  refine r_niadd dL_law_612 ?_
  refine r_sld hX9 (i + 1) dL_law_613 rfl (by omega) (by omega) ?_
  refine r_callV2 (As := [.int (xs (i + 1))]) (st := [.int ((tldA rf tl h (xs (i + 1))).1)]) (fun _ => gapW cA b q p t rd tx tl ((tldA rf tl h (xs (i + 1))).2) ++ (rowW cA q ρ ++ (spU cA p u0 ++ (stW cA cB t r σ (nI (h)) ++ (rdZ rd z ++ (mdW cA m ρ P (nI (h)) α ((tldA rf tl h (xs (i + 1))).2) K V C my cm tx (nI (tl)) (nI (sp)) od no ft)))))) [gapW cA b q p t rd tx tl ((tldA rf tl h (xs (i + 1))).2), rowW cA q ρ, spU cA p u0, stW cA cB t r σ (nI (h)), rdZ rd z, mdW cA m ρ P (nI (h)) α rf K V C my cm tx (nI (tl)) (nI (sp)) od no ft] [mdW cA m ρ P (nI (h)) α rf K V C my cm tx (nI (tl)) (nI (sp)) od no ft] [gapW cA b q p t rd tx tl ((tldA rf tl h (xs (i + 1))).2), rowW cA q ρ, spU cA p u0, stW cA cB t r σ (nI (h)), rdZ rd z] (fun _ => [gapW cA b q p t rd tx tl ((tldA rf tl h (xs (i + 1))).2), rowW cA q ρ, spU cA p u0, stW cA cB t r σ (nI (h)), rdZ rd z, mdW cA m ρ P (nI (h)) α ((tldA rf tl h (xs (i + 1))).2) K V C my cm tx (nI (tl)) (nI (sp)) od no ft]) (fun _ => [mdW cA m ρ P (nI (h)) α ((tldA rf tl h (xs (i + 1))).2) K V C my cm tx (nI (tl)) (nI (sp)) od no ft]) (c_X5_told l D cA cB m ρ P h α rf K V C my cm tx tl  (nI sp)  od no ft (xs (i + 1))) kv_X5_told ml_L_96 dL_law_614 rfl rfl rfl rfl (segOk [5, 0, 1, 2, 3, 4] rfl rfl rfl rfl) (fun _ => segOk [5, 0, 1, 2, 3, 4] rfl rfl rfl rfl) rfl (Nat.le_of_ble_eq_true rfl) (fun v u h => ?_)
  subst h
  refine r_st (st' := [.int ((tldA rf tl h (xs (i + 1))).1), .int ((tldA rf tl h (xs (i + 1))).1)]) rfl ?_
  refine r_icmp_eq 636 dL_law_617 (by decide) (fun hq1 => ?_) (fun hq1 => ?_)
  · exact kk tx tl ((tldA rf tl h (xs (i + 1))).2) ρ u0 r σ h z P α K V C my cm sp od no ft (hR)
  · exact absurd rfl hq1

set_option maxRecDepth 100000 in
set_option maxHeartbeats 4000000 in
theorem law_622 (l : Launch) (D : va_G) (cA cB : ClassId) (bs : Nat) (X : Cx) (b q p t : Nat → Nat) (rd : Nat) (m : Nat → Nat) (L : Nat) (xs : Nat → Int32) (hL : L ≤ 2048) (hX9 : SX X bs L xs) (tx : Nat → Int32) (tl : Nat) (rf ρ : Nat → Int32) (u0 : Sp5) (r : Nat → Nat → Nat) (σ : Nat → Nat → Int32) (h : Nat) (z : RS) (P α K V C : Nat → Int32) (my cm : Int32) (sp : Nat) (od : Nat → Int32) (no ft : Int32) (hR : Rl ρ σ h z tl P α) (i : Nat) (hi : i + 4 ≤ L) (kk : Nx l D cA cB bs X b q p t rd m i) : LG l D cA cB bs X b q p t rd m 622 i tx tl rf ρ u0 r σ h z P α K V C my cm sp od no ft := by
  have hI := hR.1
  have hh := hR.2.1
  have htl := hR.2.2.1
  have hz := hR.2.2.2.1
  have hza := hR.2.2.2.2.1
  have hzr := hI.z
  refine r_aload_n 1 dL_law_622 rfl rfl ?_
  refine r_callV2 (As := []) (st := []) (fun _ => gapW cA b q p t rd tx tl rf ++ (rowW cA q ρ ++ (spU cA p u0 ++ (stW cA cB t r σ (nI (h)) ++ (rdZ rd z ++ (mdW cA m ρ P (nI (h)) α rf K V C my cm tx (nI (tl)) (nI (sp)) od no ft)))))) [gapW cA b q p t rd tx tl rf, rowW cA q ρ, spU cA p u0, stW cA cB t r σ (nI (h)), rdZ rd z, mdW cA m ρ P (nI (h)) α rf K V C my cm tx (nI (tl)) (nI (sp)) od no ft] [gapW cA b q p t rd tx tl rf, rowW cA q ρ, stW cA cB t r σ (nI (h))] [spU cA p u0, rdZ rd z, mdW cA m ρ P (nI (h)) α rf K V C my cm tx (nI (tl)) (nI (sp)) od no ft] (fun _ => [gapW cA b q p t rd tx tl rf, rowW cA q ρ, spU cA p u0, stW cA cB t r σ (nI (h)), rdZ rd z, mdW cA m ρ P (nI (h)) α rf K V C my cm tx (nI (tl)) (nI (sp)) od no ft]) (fun _ => [gapW cA b q p t rd tx tl rf, rowW cA q ρ, stW cA cB t r σ (nI (h))]) (c_X4_digest l D cA cB b q p t rd tx tl rf ρ (nOf ρ) hI.1 hI.2.1 (gOf ρ) hI.2.2.1 hI.2.2.2.1 r σ h) kv_X4_digest ml_L_97 dL_law_623 rfl rfl rfl rfl (segOk [0, 1, 3, 2, 4, 5] rfl rfl rfl rfl) (fun _ => segOk [0, 1, 3, 2, 4, 5] rfl rfl rfl rfl) rfl (Nat.le_of_ble_eq_true rfl) (fun v u h => ?_)
  subst h
  refine r_st (st' := [.long (dgA ρ rf (nOf ρ) (gOf ρ) tl h)]) rfl ?_
  refine r_aload_n 2 dL_law_626 rfl rfl ?_
  refine r_callV2 (As := []) (st := [.long (dgA ρ rf (nOf ρ) (gOf ρ) tl h)]) (fun _ => gapW cA b q p t rd tx tl rf ++ (rowW cA q ρ ++ (spU cA p u0 ++ (stW cA cB t r σ (nI (h)) ++ (rdZ rd z ++ (mdW cA m ρ P (nI (h)) α rf K V C my cm tx (nI (tl)) (nI (sp)) od no ft)))))) [gapW cA b q p t rd tx tl rf, rowW cA q ρ, spU cA p u0, stW cA cB t r σ (nI (h)), rdZ rd z, mdW cA m ρ P (nI (h)) α rf K V C my cm tx (nI (tl)) (nI (sp)) od no ft] [mdW cA m ρ P (nI (h)) α rf K V C my cm tx (nI (tl)) (nI (sp)) od no ft] [gapW cA b q p t rd tx tl rf, rowW cA q ρ, spU cA p u0, stW cA cB t r σ (nI (h)), rdZ rd z] (fun _ => [gapW cA b q p t rd tx tl rf, rowW cA q ρ, spU cA p u0, stW cA cB t r σ (nI (h)), rdZ rd z, mdW cA m ρ P (nI (h)) α rf K V C my cm tx (nI (tl)) (nI (sp)) od no ft]) (fun _ => [mdW cA m ρ P (nI (h)) α rf K V C my cm tx (nI (tl)) (nI (sp)) od no ft]) (c_X5_digest l D cA cB m ρ P h α rf K V C my cm tx tl  (nI sp)  od no ft (nOf ρ) hI.1 hI.2.1 (gOf ρ) hI.2.2.1 hI.2.2.2.1) kv_X5_digest ml_L_101 dL_law_627 rfl rfl rfl rfl (segOk [5, 0, 1, 2, 3, 4] rfl rfl rfl rfl) (fun _ => segOk [5, 0, 1, 2, 3, 4] rfl rfl rfl rfl) rfl (Nat.le_of_ble_eq_true rfl) (fun v u h => ?_)
  subst h
  refine r_st (st' := [.long (dgA ρ rf (nOf ρ) (gOf ρ) tl h), .long (dgA ρ rf (nOf ρ) (gOf ρ) tl h)]) rfl ?_
  refine r_lcmp dL_law_630 ?_
  refine r_if_eq 636 dL_law_631 (by decide) (fun hq1 => ?_) (fun hq1 => ?_)
  · exact kk tx tl rf ρ u0 r σ h z P α K V C my cm sp od no ft (hR)
  · exact absurd (lg_same _) hq1

