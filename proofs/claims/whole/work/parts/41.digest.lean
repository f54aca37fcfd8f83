set_option maxRecDepth 100000 in
set_option maxHeartbeats 4000000 in
theorem lp_X4_digest5 (l : Launch) (D : va_G) (cA cB : ClassId) (b q p t : Nat → Nat) (rd : Nat) (tx : Nat → Int32) (tl : Nat) (rf : Nat → Int32) (ρ : Nat → Int32) (n : Nat) (hsz : ρ 0 = nI n) (h3 : n = 16 ∨ n = 32 ∨ n = 64) (g : Nat) (hg : ρ 6 = nI g) (hg8 : g ≤ 8) (r : Nat → Nat → Nat) (σ : Nat → Nat → Int32) (h : Nat) (X : Cx) (sz : Nat) : ∀ (f i : Nat) (z : Int64), z = dgL ρ (dgS ρ (dgC ρ (dgN ρ n (dgT rf tl h 5) 7) n) (n / 4)) (3 * i) → i ≤ g → g < i + f → G l X ({ frames := 3, cells := 0, slots := 0, locals := 66 } : Room) cX4_digest RX4 (some .long) D (tyS cA cB) (va_A (gapW cA b q p t rd tx tl rf ++ (rowW cA q ρ ++ (stW cA cB t r σ (nI (h))))) sz) (QX X D (tyS cA cB) (gapW cA b q p t rd tx tl rf ++ (rowW cA q ρ ++ (stW cA cB t r σ (nI (h))))) sz Unit (fun v _ => v = some (.long (dgA ρ rf n g tl h))) (fun _ => gapW cA b q p t rd tx tl rf ++ (rowW cA q ρ ++ (stW cA cB t r σ (nI h)))) 0 0) 0 0 (gapW cA b q p t rd tx tl rf ++ (rowW cA q ρ ++ (stW cA cB t r σ (nI (h))))) 159 ([some (.ref (b 0)), some (.long (z)), none, some (.int (nI i)), none]) [] := by
  intro f
  have hb := n16 h3
  induction f with
  | zero => intro i z _ h1 h2; omega
  | succ f ih =>
    intro i z hz hi hf
    refine r_iload_n 3 dX4_digest_159 rfl rfl ?_
    refine r_aload_n 0 dX4_digest_160 rfl rfl ?_
    refine r_get 0 fk_X4_10 dX4_digest_161 rfl rfl ?_
    refine r_get 3 fk_X4_181 dX4_digest_164 rfl rfl ?_
    refine r_top (y := nI (g)) (hg) ?_
    refine r_ncmp_ge 209 (by omega) (by omega) dX4_digest_167 (by decide) (fun hq1 => ?_) (fun hq1 => ?_)
    · refine r_lload_n 1 dX4_digest_209 rfl rfl ?_
      exact r_lret (()) dX4_digest_210 (by rw [hz, show i = g by omega]; rfl) (rfl)
    · refine r_iconst (nI 0) dX4_digest_170 (by decide +kernel) ?_
      refine r_istore ([some (.ref (b 0)), some (.long (z)), none, some (.int (nI i)), some (.int (nI 0))]) dX4_digest_171 (Nat.le_of_ble_eq_true rfl) rfl rfl ?_
      refine r_iload dX4_digest_173 rfl ?_
      refine r_iconst (nI 2) dX4_digest_175 (by decide +kernel) ?_
      refine r_ncmp_gt 203 (by omega) (by omega) dX4_digest_176 (by decide) (fun hq2 => ?_) (fun hq2 => ?_)
      · omega
      · refine r_ldc2 (v := 31) cq_X4_179 dX4_digest_179 ?_
        refine r_lload_n 1 dX4_digest_182 rfl rfl ?_
        refine r_lmul dX4_digest_183 ?_
        refine r_aload_n 0 dX4_digest_184 rfl rfl ?_
        refine r_get 0 fk_X4_10 dX4_digest_185 rfl rfl ?_
        refine r_iload_n 3 dX4_digest_188 rfl rfl ?_
        refine r_iload dX4_digest_189 rfl ?_
        refine r_callV2 (As := [.int (nI i), .int (nI 0)]) (st := [.long (31 * z)]) (fun _ => gapW cA b q p t rd tx tl rf ++ (rowW cA q ρ ++ (stW cA cB t r σ (nI (h))))) [gapW cA b q p t rd tx tl rf, rowW cA q ρ, stW cA cB t r σ (nI (h))] [rowW cA q ρ] [gapW cA b q p t rd tx tl rf, stW cA cB t r σ (nI (h))] (fun _ => [gapW cA b q p t rd tx tl rf, rowW cA q ρ, stW cA cB t r σ (nI (h))]) (fun _ => [rowW cA q ρ]) (c_X1_logged l D cA cB q ρ g hg hg8 (i) (0) (by omega) (by omega)) kv_X1_logged ml_X4_130 dX4_digest_191 rfl rfl rfl rfl (segOk [1, 0, 2] rfl rfl rfl rfl) (fun _ => segOk [1, 0, 2] rfl rfl rfl rfl) rfl (Nat.le_of_ble_eq_true rfl) (fun v u h => ?_)
        subst h
        refine r_st (st' := [.int (logF ρ g i 0), .long (31 * z)]) rfl ?_
        refine r_i2l dX4_digest_194 ?_
        refine r_ladd dX4_digest_195 ?_
        refine r_lstore_n 1 ([some (.ref (b 0)), some (.long ((31 * z) + ((logF ρ g i 0).toInt64))), none, some (.int (nI i)), some (.int (nI 0))]) dX4_digest_196 rfl (Nat.le_of_ble_eq_true rfl) rfl rfl ?_
        refine r_iinc (v := nI (1)) ([some (.ref (b 0)), some (.long ((31 * z) + ((logF ρ g i 0).toInt64))), none, some (.int (nI i)), some (.int (nI 1))]) dX4_digest_197 rfl (nI_add 0 1) (Nat.le_of_ble_eq_true rfl) rfl rfl ?_
        refine r_goto 173 dX4_digest_200 (by decide) ?_
        refine r_iload dX4_digest_173 rfl ?_
        refine r_iconst (nI 2) dX4_digest_175 (by decide +kernel) ?_
        refine r_ncmp_gt 203 (by omega) (by omega) dX4_digest_176 (by decide) (fun hq3 => ?_) (fun hq3 => ?_)
        · omega
        · refine r_ldc2 (v := 31) cq_X4_179 dX4_digest_179 ?_
          refine r_lload_n 1 dX4_digest_182 rfl rfl ?_
          refine r_lmul dX4_digest_183 ?_
          refine r_aload_n 0 dX4_digest_184 rfl rfl ?_
          refine r_get 0 fk_X4_10 dX4_digest_185 rfl rfl ?_
          refine r_iload_n 3 dX4_digest_188 rfl rfl ?_
          refine r_iload dX4_digest_189 rfl ?_
          refine r_callV2 (As := [.int (nI i), .int (nI 1)]) (st := [.long (31 * ((31 * z) + ((logF ρ g i 0).toInt64)))]) (fun _ => gapW cA b q p t rd tx tl rf ++ (rowW cA q ρ ++ (stW cA cB t r σ (nI (h))))) [gapW cA b q p t rd tx tl rf, rowW cA q ρ, stW cA cB t r σ (nI (h))] [rowW cA q ρ] [gapW cA b q p t rd tx tl rf, stW cA cB t r σ (nI (h))] (fun _ => [gapW cA b q p t rd tx tl rf, rowW cA q ρ, stW cA cB t r σ (nI (h))]) (fun _ => [rowW cA q ρ]) (c_X1_logged l D cA cB q ρ g hg hg8 (i) (1) (by omega) (by omega)) kv_X1_logged ml_X4_130 dX4_digest_191 rfl rfl rfl rfl (segOk [1, 0, 2] rfl rfl rfl rfl) (fun _ => segOk [1, 0, 2] rfl rfl rfl rfl) rfl (Nat.le_of_ble_eq_true rfl) (fun v u h => ?_)
          subst h
          refine r_st (st' := [.int (logF ρ g i 1), .long (31 * ((31 * z) + ((logF ρ g i 0).toInt64)))]) rfl ?_
          refine r_i2l dX4_digest_194 ?_
          refine r_ladd dX4_digest_195 ?_
          refine r_lstore_n 1 ([some (.ref (b 0)), some (.long ((31 * ((31 * z) + ((logF ρ g i 0).toInt64))) + ((logF ρ g i 1).toInt64))), none, some (.int (nI i)), some (.int (nI 1))]) dX4_digest_196 rfl (Nat.le_of_ble_eq_true rfl) rfl rfl ?_
          refine r_iinc (v := nI (2)) ([some (.ref (b 0)), some (.long ((31 * ((31 * z) + ((logF ρ g i 0).toInt64))) + ((logF ρ g i 1).toInt64))), none, some (.int (nI i)), some (.int (nI 2))]) dX4_digest_197 rfl (nI_add 1 1) (Nat.le_of_ble_eq_true rfl) rfl rfl ?_
          refine r_goto 173 dX4_digest_200 (by decide) ?_
          refine r_iload dX4_digest_173 rfl ?_
          refine r_iconst (nI 2) dX4_digest_175 (by decide +kernel) ?_
          refine r_ncmp_gt 203 (by omega) (by omega) dX4_digest_176 (by decide) (fun hq4 => ?_) (fun hq4 => ?_)
          · omega
          · refine r_ldc2 (v := 31) cq_X4_179 dX4_digest_179 ?_
            refine r_lload_n 1 dX4_digest_182 rfl rfl ?_
            refine r_lmul dX4_digest_183 ?_
            refine r_aload_n 0 dX4_digest_184 rfl rfl ?_
            refine r_get 0 fk_X4_10 dX4_digest_185 rfl rfl ?_
            refine r_iload_n 3 dX4_digest_188 rfl rfl ?_
            refine r_iload dX4_digest_189 rfl ?_
            refine r_callV2 (As := [.int (nI i), .int (nI 2)]) (st := [.long (31 * ((31 * ((31 * z) + ((logF ρ g i 0).toInt64))) + ((logF ρ g i 1).toInt64)))]) (fun _ => gapW cA b q p t rd tx tl rf ++ (rowW cA q ρ ++ (stW cA cB t r σ (nI (h))))) [gapW cA b q p t rd tx tl rf, rowW cA q ρ, stW cA cB t r σ (nI (h))] [rowW cA q ρ] [gapW cA b q p t rd tx tl rf, stW cA cB t r σ (nI (h))] (fun _ => [gapW cA b q p t rd tx tl rf, rowW cA q ρ, stW cA cB t r σ (nI (h))]) (fun _ => [rowW cA q ρ]) (c_X1_logged l D cA cB q ρ g hg hg8 (i) (2) (by omega) (by omega)) kv_X1_logged ml_X4_130 dX4_digest_191 rfl rfl rfl rfl (segOk [1, 0, 2] rfl rfl rfl rfl) (fun _ => segOk [1, 0, 2] rfl rfl rfl rfl) rfl (Nat.le_of_ble_eq_true rfl) (fun v u h => ?_)
            subst h
            refine r_st (st' := [.int (logF ρ g i 2), .long (31 * ((31 * ((31 * z) + ((logF ρ g i 0).toInt64))) + ((logF ρ g i 1).toInt64)))]) rfl ?_
            refine r_i2l dX4_digest_194 ?_
            refine r_ladd dX4_digest_195 ?_
            refine r_lstore_n 1 ([some (.ref (b 0)), some (.long ((31 * ((31 * ((31 * z) + ((logF ρ g i 0).toInt64))) + ((logF ρ g i 1).toInt64))) + ((logF ρ g i 2).toInt64))), none, some (.int (nI i)), some (.int (nI 2))]) dX4_digest_196 rfl (Nat.le_of_ble_eq_true rfl) rfl rfl ?_
            refine r_iinc (v := nI (3)) ([some (.ref (b 0)), some (.long ((31 * ((31 * ((31 * z) + ((logF ρ g i 0).toInt64))) + ((logF ρ g i 1).toInt64))) + ((logF ρ g i 2).toInt64))), none, some (.int (nI i)), some (.int (nI 3))]) dX4_digest_197 rfl (nI_add 2 1) (Nat.le_of_ble_eq_true rfl) rfl rfl ?_
            refine r_goto 173 dX4_digest_200 (by decide) ?_
            refine r_iload dX4_digest_173 rfl ?_
            refine r_iconst (nI 2) dX4_digest_175 (by decide +kernel) ?_
            refine r_ncmp_gt 203 (by omega) (by omega) dX4_digest_176 (by decide) (fun hq5 => ?_) (fun hq5 => ?_)
            · refine r_iinc (v := nI (i + 1)) ([some (.ref (b 0)), some (.long ((31 * ((31 * ((31 * z) + ((logF ρ g i 0).toInt64))) + ((logF ρ g i 1).toInt64))) + ((logF ρ g i 2).toInt64))), none, some (.int (nI (i + 1))), some (.int (nI 3))]) dX4_digest_203 rfl (nI_1 _) (Nat.le_of_ble_eq_true rfl) rfl rfl ?_
              refine r_goto 159 dX4_digest_206 (by decide) ?_
              refine r_drop (lv' := [some (.ref (b 0)), some (.long ((31 * ((31 * ((31 * z) + ((logF ρ g i 0).toInt64))) + ((logF ρ g i 1).toInt64))) + ((logF ρ g i 2).toInt64))), none, some (.int (nI (i + 1))), none]) 4 rfl ?_
              exact ih (i + 1) _ (by rw [hz, show 3 * (i + 1) = 3 * i + 1 + 1 + 1 by omega, logF_lt (by omega), logF_lt (by omega), logF_lt (by omega)]; rfl) (by omega) (by omega)
            · omega

set_option maxRecDepth 100000 in
set_option maxHeartbeats 4000000 in
theorem lp_X4_digest4 (l : Launch) (D : va_G) (cA cB : ClassId) (b q p t : Nat → Nat) (rd : Nat) (tx : Nat → Int32) (tl : Nat) (rf : Nat → Int32) (ρ : Nat → Int32) (n : Nat) (hsz : ρ 0 = nI n) (h3 : n = 16 ∨ n = 32 ∨ n = 64) (g : Nat) (hg : ρ 6 = nI g) (hg8 : g ≤ 8) (r : Nat → Nat → Nat) (σ : Nat → Nat → Int32) (h : Nat) (X : Cx) (sz : Nat) : ∀ (f i : Nat) (z : Int64), z = dgS ρ (dgC ρ (dgN ρ n (dgT rf tl h 5) 7) n) i → i ≤ n / 4 → n / 4 < i + f → G l X ({ frames := 3, cells := 0, slots := 0, locals := 66 } : Room) cX4_digest RX4 (some .long) D (tyS cA cB) (va_A (gapW cA b q p t rd tx tl rf ++ (rowW cA q ρ ++ (stW cA cB t r σ (nI (h))))) sz) (QX X D (tyS cA cB) (gapW cA b q p t rd tx tl rf ++ (rowW cA q ρ ++ (stW cA cB t r σ (nI (h))))) sz Unit (fun v _ => v = some (.long (dgA ρ rf n g tl h))) (fun _ => gapW cA b q p t rd tx tl rf ++ (rowW cA q ρ ++ (stW cA cB t r σ (nI h)))) 0 0) 0 0 (gapW cA b q p t rd tx tl rf ++ (rowW cA q ρ ++ (stW cA cB t r σ (nI (h))))) 122 ([some (.ref (b 0)), some (.long (z)), none, some (.int (nI i)), none]) [] := by
  intro f
  have hb := n16 h3
  induction f with
  | zero => intro i z _ h1 h2; omega
  | succ f ih =>
    intro i z hz hi hf
    refine r_iload_n 3 dX4_digest_122 rfl rfl ?_
    refine r_aload_n 0 dX4_digest_123 rfl rfl ?_
    refine r_get 0 fk_X4_10 dX4_digest_124 rfl rfl ?_
    refine r_get 3 fk_X4_70 dX4_digest_127 rfl rfl ?_
    refine r_top (y := nI (n)) (hsz) ?_
    refine r_iconst (nI 4) dX4_digest_130 (by decide +kernel) ?_
    refine r_nidiv (by omega) (by omega) (by omega) dX4_digest_131 ?_
    refine r_ncmp_ge 157 (by omega) (by omega) dX4_digest_132 (by decide) (fun hq1 => ?_) (fun hq1 => ?_)
    · refine r_iconst (nI 0) dX4_digest_157 (by decide +kernel) ?_
      refine r_istore_n 3 ([some (.ref (b 0)), some (.long (z)), none, some (.int (nI 0)), none]) dX4_digest_158 rfl (Nat.le_of_ble_eq_true rfl) rfl rfl ?_
      exact lp_X4_digest5 l D cA cB b q p t rd tx tl rf ρ n hsz h3 g hg hg8 r σ h X sz (g + 1) 0 _ (by rw [hz, show i = n / 4 by omega]; rfl) (by omega) (by omega)
    · refine r_ldc2 (v := 31) cq_X4_179 dX4_digest_135 ?_
      refine r_lload_n 1 dX4_digest_138 rfl rfl ?_
      refine r_lmul dX4_digest_139 ?_
      refine r_aload_n 0 dX4_digest_140 rfl rfl ?_
      refine r_get 0 fk_X4_10 dX4_digest_141 rfl rfl ?_
      refine r_iload_n 3 dX4_digest_144 rfl rfl ?_
      refine r_callV2 (As := [.int (nI i)]) (st := [.long (31 * z)]) (fun _ => gapW cA b q p t rd tx tl rf ++ (rowW cA q ρ ++ (stW cA cB t r σ (nI (h))))) [gapW cA b q p t rd tx tl rf, rowW cA q ρ, stW cA cB t r σ (nI (h))] [rowW cA q ρ] [gapW cA b q p t rd tx tl rf, stW cA cB t r σ (nI (h))] (fun _ => [gapW cA b q p t rd tx tl rf, rowW cA q ρ, stW cA cB t r σ (nI (h))]) (fun _ => [rowW cA q ρ]) (c_X1_leastKeyOf l D cA cB q ρ (i) (by omega)) kv_X1_leastKeyOf ml_X4_108 dX4_digest_145 rfl rfl rfl rfl (segOk [1, 0, 2] rfl rfl rfl rfl) (fun _ => segOk [1, 0, 2] rfl rfl rfl rfl) rfl (Nat.le_of_ble_eq_true rfl) (fun v u h => ?_)
      subst h
      refine r_st (st' := [.int (lstF ρ i), .long (31 * z)]) rfl ?_
      refine r_i2l dX4_digest_148 ?_
      refine r_ladd dX4_digest_149 ?_
      refine r_lstore_n 1 ([some (.ref (b 0)), some (.long ((31 * z) + ((lstF ρ i).toInt64))), none, some (.int (nI i)), none]) dX4_digest_150 rfl (Nat.le_of_ble_eq_true rfl) rfl rfl ?_
      refine r_iinc (v := nI (i + 1)) ([some (.ref (b 0)), some (.long ((31 * z) + ((lstF ρ i).toInt64))), none, some (.int (nI (i + 1))), none]) dX4_digest_151 rfl (nI_1 _) (Nat.le_of_ble_eq_true rfl) rfl rfl ?_
      refine r_goto 122 dX4_digest_154 (by decide) ?_
      exact ih (i + 1) _ (by rw [hz]; rfl) (by omega) (by omega)

set_option maxRecDepth 100000 in
set_option maxHeartbeats 4000000 in
theorem lp_X4_digest3 (l : Launch) (D : va_G) (cA cB : ClassId) (b q p t : Nat → Nat) (rd : Nat) (tx : Nat → Int32) (tl : Nat) (rf : Nat → Int32) (ρ : Nat → Int32) (n : Nat) (hsz : ρ 0 = nI n) (h3 : n = 16 ∨ n = 32 ∨ n = 64) (g : Nat) (hg : ρ 6 = nI g) (hg8 : g ≤ 8) (r : Nat → Nat → Nat) (σ : Nat → Nat → Int32) (h : Nat) (X : Cx) (sz : Nat) : ∀ (f i : Nat) (z : Int64), z = dgC ρ (dgN ρ n (dgT rf tl h 5) 7) i → i ≤ n → n < i + f → G l X ({ frames := 3, cells := 0, slots := 0, locals := 66 } : Room) cX4_digest RX4 (some .long) D (tyS cA cB) (va_A (gapW cA b q p t rd tx tl rf ++ (rowW cA q ρ ++ (stW cA cB t r σ (nI (h))))) sz) (QX X D (tyS cA cB) (gapW cA b q p t rd tx tl rf ++ (rowW cA q ρ ++ (stW cA cB t r σ (nI (h))))) sz Unit (fun v _ => v = some (.long (dgA ρ rf n g tl h))) (fun _ => gapW cA b q p t rd tx tl rf ++ (rowW cA q ρ ++ (stW cA cB t r σ (nI h)))) 0 0) 0 0 (gapW cA b q p t rd tx tl rf ++ (rowW cA q ρ ++ (stW cA cB t r σ (nI (h))))) 59 ([some (.ref (b 0)), some (.long (z)), none, some (.int (nI i)), none]) [] := by
  intro f
  have hb := n16 h3
  induction f with
  | zero => intro i z _ h1 h2; omega
  | succ f ih =>
    intro i z hz hi hf
    refine r_iload_n 3 dX4_digest_59 rfl rfl ?_
    refine r_aload_n 0 dX4_digest_60 rfl rfl ?_
    refine r_get 0 fk_X4_10 dX4_digest_61 rfl rfl ?_
    refine r_get 3 fk_X4_70 dX4_digest_64 rfl rfl ?_
    refine r_top (y := nI (n)) (hsz) ?_
    refine r_ncmp_ge 120 (by omega) (by omega) dX4_digest_67 (by decide) (fun hq1 => ?_) (fun hq1 => ?_)
    · refine r_iconst (nI 0) dX4_digest_120 (by decide +kernel) ?_
      refine r_istore_n 3 ([some (.ref (b 0)), some (.long (z)), none, some (.int (nI 0)), none]) dX4_digest_121 rfl (Nat.le_of_ble_eq_true rfl) rfl rfl ?_
      exact lp_X4_digest4 l D cA cB b q p t rd tx tl rf ρ n hsz h3 g hg hg8 r σ h X sz (n / 4 + 1) 0 _ (by rw [hz, show i = n by omega]; rfl) (by omega) (by omega)
    · refine r_ldc2 (v := 31) cq_X4_179 dX4_digest_70 ?_
      refine r_lload_n 1 dX4_digest_73 rfl rfl ?_
      refine r_lmul dX4_digest_74 ?_
      refine r_aload_n 0 dX4_digest_75 rfl rfl ?_
      refine r_get 0 fk_X4_10 dX4_digest_76 rfl rfl ?_
      refine r_iload_n 3 dX4_digest_79 rfl rfl ?_
      refine r_callV2 (As := [.int (nI i)]) (st := [.long (31 * z)]) (fun _ => gapW cA b q p t rd tx tl rf ++ (rowW cA q ρ ++ (stW cA cB t r σ (nI (h))))) [gapW cA b q p t rd tx tl rf, rowW cA q ρ, stW cA cB t r σ (nI (h))] [rowW cA q ρ] [gapW cA b q p t rd tx tl rf, stW cA cB t r σ (nI (h))] (fun _ => [gapW cA b q p t rd tx tl rf, rowW cA q ρ, stW cA cB t r σ (nI (h))]) (fun _ => [rowW cA q ρ]) (c_X1_keyIn l D cA cB q ρ (i) (by omega)) kv_X1_keyIn ml_X4_90 dX4_digest_80 rfl rfl rfl rfl (segOk [1, 0, 2] rfl rfl rfl rfl) (fun _ => segOk [1, 0, 2] rfl rfl rfl rfl) rfl (Nat.le_of_ble_eq_true rfl) (fun v u h => ?_)
      subst h
      refine r_st (st' := [.int (ρ (31 + i)), .long (31 * z)]) rfl ?_
      refine r_i2l dX4_digest_83 ?_
      refine r_ladd dX4_digest_84 ?_
      refine r_lstore_n 1 ([some (.ref (b 0)), some (.long ((31 * z) + ((ρ (31 + i)).toInt64))), none, some (.int (nI i)), none]) dX4_digest_85 rfl (Nat.le_of_ble_eq_true rfl) rfl rfl ?_
      refine r_aload_n 0 dX4_digest_86 rfl rfl ?_
      refine r_get 0 fk_X4_10 dX4_digest_87 rfl rfl ?_
      refine r_iload_n 3 dX4_digest_90 rfl rfl ?_
      refine r_callV2 (As := [.int (nI i)]) (st := []) (fun _ => gapW cA b q p t rd tx tl rf ++ (rowW cA q ρ ++ (stW cA cB t r σ (nI (h))))) [gapW cA b q p t rd tx tl rf, rowW cA q ρ, stW cA cB t r σ (nI (h))] [rowW cA q ρ] [gapW cA b q p t rd tx tl rf, stW cA cB t r σ (nI (h))] (fun _ => [gapW cA b q p t rd tx tl rf, rowW cA q ρ, stW cA cB t r σ (nI (h))]) (fun _ => [rowW cA q ρ]) (c_X1_keyIn l D cA cB q ρ (i) (by omega)) kv_X1_keyIn ml_X4_90 dX4_digest_91 rfl rfl rfl rfl (segOk [1, 0, 2] rfl rfl rfl rfl) (fun _ => segOk [1, 0, 2] rfl rfl rfl rfl) rfl (Nat.le_of_ble_eq_true rfl) (fun v u h => ?_)
      subst h
      refine r_st (st' := [.int (ρ (31 + i))]) rfl ?_
      refine r_iconst (-1) dX4_digest_94 (by decide +kernel) ?_
      refine r_icmp_eq 114 dX4_digest_95 (by decide) (fun hq2 => ?_) (fun hq2 => ?_)
      · refine r_iinc (v := nI (i + 1)) ([some (.ref (b 0)), some (.long ((31 * z) + ((ρ (31 + i)).toInt64))), none, some (.int (nI (i + 1))), none]) dX4_digest_114 rfl (nI_1 _) (Nat.le_of_ble_eq_true rfl) rfl rfl ?_
        refine r_goto 59 dX4_digest_117 (by decide) ?_
        exact ih (i + 1) _ (by rw [hz, dgC_0 hq2]) (by omega) (by omega)
      · refine r_ldc2 (v := 31) cq_X4_179 dX4_digest_98 ?_
        refine r_lload_n 1 dX4_digest_101 rfl rfl ?_
        refine r_lmul dX4_digest_102 ?_
        refine r_aload_n 0 dX4_digest_103 rfl rfl ?_
        refine r_get 0 fk_X4_10 dX4_digest_104 rfl rfl ?_
        refine r_iload_n 3 dX4_digest_107 rfl rfl ?_
        refine r_callV2 (As := [.int (nI i)]) (st := [.long (31 * ((31 * z) + ((ρ (31 + i)).toInt64)))]) (fun _ => gapW cA b q p t rd tx tl rf ++ (rowW cA q ρ ++ (stW cA cB t r σ (nI (h))))) [gapW cA b q p t rd tx tl rf, rowW cA q ρ, stW cA cB t r σ (nI (h))] [rowW cA q ρ] [gapW cA b q p t rd tx tl rf, stW cA cB t r σ (nI (h))] (fun _ => [gapW cA b q p t rd tx tl rf, rowW cA q ρ, stW cA cB t r σ (nI (h))]) (fun _ => [rowW cA q ρ]) (c_X1_valueIn l D cA cB q ρ (i) (by omega)) kv_X1_valueIn ml_X4_87 dX4_digest_108 rfl rfl rfl rfl (segOk [1, 0, 2] rfl rfl rfl rfl) (fun _ => segOk [1, 0, 2] rfl rfl rfl rfl) rfl (Nat.le_of_ble_eq_true rfl) (fun v u h => ?_)
        subst h
        refine r_st (st' := [.int (ρ (95 + i)), .long (31 * ((31 * z) + ((ρ (31 + i)).toInt64)))]) rfl ?_
        refine r_i2l dX4_digest_111 ?_
        refine r_ladd dX4_digest_112 ?_
        refine r_lstore_n 1 ([some (.ref (b 0)), some (.long ((31 * ((31 * z) + ((ρ (31 + i)).toInt64))) + ((ρ (95 + i)).toInt64))), none, some (.int (nI i)), none]) dX4_digest_113 rfl (Nat.le_of_ble_eq_true rfl) rfl rfl ?_
        refine r_iinc (v := nI (i + 1)) ([some (.ref (b 0)), some (.long ((31 * ((31 * z) + ((ρ (31 + i)).toInt64))) + ((ρ (95 + i)).toInt64))), none, some (.int (nI (i + 1))), none]) dX4_digest_114 rfl (nI_1 _) (Nat.le_of_ble_eq_true rfl) rfl rfl ?_
        refine r_goto 59 dX4_digest_117 (by decide) ?_
        exact ih (i + 1) _ (by rw [hz, dgC_1 hq2]) (by omega) (by omega)

set_option maxRecDepth 100000 in
set_option maxHeartbeats 4000000 in
theorem c_X4_digest (l : Launch) (D : va_G) (cA cB : ClassId) (b q p t : Nat → Nat) (rd : Nat) (tx : Nat → Int32) (tl : Nat) (rf : Nat → Int32) (ρ : Nat → Int32) (n : Nat) (hsz : ρ 0 = nI n) (h3 : n = 16 ∨ n = 32 ∨ n = 64) (g : Nat) (hg : ρ 6 = nI g) (hg8 : g ≤ 8) (r : Nat → Nat → Nat) (σ : Nat → Nat → Int32) (h : Nat) : Mt l D (tyS cA cB) yX4_digest cX4_digest 5 (some .long) ({ frames := 3, cells := 0, slots := 0, locals := 66 } : Room) [.ref (b 0)] (gapW cA b q p t rd tx tl rf ++ (rowW cA q ρ ++ (stW cA cB t r σ (nI (h))))) Unit (fun v _ => v = some (.long (dgA ρ rf n g tl h))) (fun _ => gapW cA b q p t rd tx tl rf ++ (rowW cA q ρ ++ (stW cA cB t r σ (nI h)))) 0 0 := by
  refine mt_in RX4 ([some (.ref (b 0)), none, none, none, none]) rfl (by decide +kernel) rfl (Nat.le_of_ble_eq_true rfl) rfl rfl (fun X sz => ?_)
  have hb := n16 h3
  refine r_ldc2 (v := 1837) cq_X4_177 dX4_digest_0 ?_
  refine r_lstore_n 1 ([some (.ref (b 0)), some (.long (1837)), none, none, none]) dX4_digest_3 rfl (Nat.le_of_ble_eq_true rfl) rfl rfl ?_
  refine r_iconst (nI 0) dX4_digest_4 (by decide +kernel) ?_
  refine r_istore_n 3 ([some (.ref (b 0)), some (.long (1837)), none, some (.int (nI 0)), none]) dX4_digest_5 rfl (Nat.le_of_ble_eq_true rfl) rfl rfl ?_
  refine r_iload_n 3 dX4_digest_6 rfl rfl ?_
  refine r_iconst (nI 4) dX4_digest_7 (by decide +kernel) ?_
  refine r_ncmp_gt 30 (by omega) (by omega) dX4_digest_8 (by decide) (fun hq1 => ?_) (fun hq1 => ?_)
  · omega
  · refine r_ldc2 (v := 31) cq_X4_179 dX4_digest_11 ?_
    refine r_lload_n 1 dX4_digest_14 rfl rfl ?_
    refine r_lmul dX4_digest_15 ?_
    refine r_aload_n 0 dX4_digest_16 rfl rfl ?_
    refine r_iload_n 3 dX4_digest_17 rfl rfl ?_
    refine r_callV2 (As := [.int (nI 0)]) (st := [.long (31 * 1837)]) (fun _ => gapW cA b q p t rd tx tl rf ++ (rowW cA q ρ ++ (stW cA cB t r σ (nI (h))))) [gapW cA b q p t rd tx tl rf, rowW cA q ρ, stW cA cB t r σ (nI (h))] [gapW cA b q p t rd tx tl rf, stW cA cB t r σ (nI (h))] [rowW cA q ρ] (fun _ => [gapW cA b q p t rd tx tl rf, rowW cA q ρ, stW cA cB t r σ (nI (h))]) (fun _ => [gapW cA b q p t rd tx tl rf, stW cA cB t r σ (nI (h))]) (c_X4_toldOf l D cA cB b q p t rd tx tl rf r σ h (0) (by omega)) kv_X4_toldOf ml_X4_174 dX4_digest_18 rfl rfl rfl rfl (segOk [0, 2, 1] rfl rfl rfl rfl) (fun _ => segOk [0, 2, 1] rfl rfl rfl rfl) rfl (Nat.le_of_ble_eq_true rfl) (fun v u h => ?_)
    subst h
    refine r_st (st' := [.int (toldF rf tl h 0), .long (31 * 1837)]) rfl ?_
    refine r_i2l dX4_digest_21 ?_
    refine r_ladd dX4_digest_22 ?_
    refine r_lstore_n 1 ([some (.ref (b 0)), some (.long ((31 * 1837) + ((toldF rf tl h 0).toInt64))), none, some (.int (nI 0)), none]) dX4_digest_23 rfl (Nat.le_of_ble_eq_true rfl) rfl rfl ?_
    refine r_iinc (v := nI (1)) ([some (.ref (b 0)), some (.long ((31 * 1837) + ((toldF rf tl h 0).toInt64))), none, some (.int (nI 1)), none]) dX4_digest_24 rfl (nI_add 0 1) (Nat.le_of_ble_eq_true rfl) rfl rfl ?_
    refine r_goto 6 dX4_digest_27 (by decide) ?_
    refine r_iload_n 3 dX4_digest_6 rfl rfl ?_
    refine r_iconst (nI 4) dX4_digest_7 (by decide +kernel) ?_
    refine r_ncmp_gt 30 (by omega) (by omega) dX4_digest_8 (by decide) (fun hq2 => ?_) (fun hq2 => ?_)
    · omega
    · refine r_ldc2 (v := 31) cq_X4_179 dX4_digest_11 ?_
      refine r_lload_n 1 dX4_digest_14 rfl rfl ?_
      refine r_lmul dX4_digest_15 ?_
      refine r_aload_n 0 dX4_digest_16 rfl rfl ?_
      refine r_iload_n 3 dX4_digest_17 rfl rfl ?_
      refine r_callV2 (As := [.int (nI 1)]) (st := [.long (31 * ((31 * 1837) + ((toldF rf tl h 0).toInt64)))]) (fun _ => gapW cA b q p t rd tx tl rf ++ (rowW cA q ρ ++ (stW cA cB t r σ (nI (h))))) [gapW cA b q p t rd tx tl rf, rowW cA q ρ, stW cA cB t r σ (nI (h))] [gapW cA b q p t rd tx tl rf, stW cA cB t r σ (nI (h))] [rowW cA q ρ] (fun _ => [gapW cA b q p t rd tx tl rf, rowW cA q ρ, stW cA cB t r σ (nI (h))]) (fun _ => [gapW cA b q p t rd tx tl rf, stW cA cB t r σ (nI (h))]) (c_X4_toldOf l D cA cB b q p t rd tx tl rf r σ h (1) (by omega)) kv_X4_toldOf ml_X4_174 dX4_digest_18 rfl rfl rfl rfl (segOk [0, 2, 1] rfl rfl rfl rfl) (fun _ => segOk [0, 2, 1] rfl rfl rfl rfl) rfl (Nat.le_of_ble_eq_true rfl) (fun v u h => ?_)
      subst h
      refine r_st (st' := [.int (toldF rf tl h 1), .long (31 * ((31 * 1837) + ((toldF rf tl h 0).toInt64)))]) rfl ?_
      refine r_i2l dX4_digest_21 ?_
      refine r_ladd dX4_digest_22 ?_
      refine r_lstore_n 1 ([some (.ref (b 0)), some (.long ((31 * ((31 * 1837) + ((toldF rf tl h 0).toInt64))) + ((toldF rf tl h 1).toInt64))), none, some (.int (nI 1)), none]) dX4_digest_23 rfl (Nat.le_of_ble_eq_true rfl) rfl rfl ?_
      refine r_iinc (v := nI (2)) ([some (.ref (b 0)), some (.long ((31 * ((31 * 1837) + ((toldF rf tl h 0).toInt64))) + ((toldF rf tl h 1).toInt64))), none, some (.int (nI 2)), none]) dX4_digest_24 rfl (nI_add 1 1) (Nat.le_of_ble_eq_true rfl) rfl rfl ?_
      refine r_goto 6 dX4_digest_27 (by decide) ?_
      refine r_iload_n 3 dX4_digest_6 rfl rfl ?_
      refine r_iconst (nI 4) dX4_digest_7 (by decide +kernel) ?_
      refine r_ncmp_gt 30 (by omega) (by omega) dX4_digest_8 (by decide) (fun hq3 => ?_) (fun hq3 => ?_)
      · omega
      · refine r_ldc2 (v := 31) cq_X4_179 dX4_digest_11 ?_
        refine r_lload_n 1 dX4_digest_14 rfl rfl ?_
        refine r_lmul dX4_digest_15 ?_
        refine r_aload_n 0 dX4_digest_16 rfl rfl ?_
        refine r_iload_n 3 dX4_digest_17 rfl rfl ?_
        refine r_callV2 (As := [.int (nI 2)]) (st := [.long (31 * ((31 * ((31 * 1837) + ((toldF rf tl h 0).toInt64))) + ((toldF rf tl h 1).toInt64)))]) (fun _ => gapW cA b q p t rd tx tl rf ++ (rowW cA q ρ ++ (stW cA cB t r σ (nI (h))))) [gapW cA b q p t rd tx tl rf, rowW cA q ρ, stW cA cB t r σ (nI (h))] [gapW cA b q p t rd tx tl rf, stW cA cB t r σ (nI (h))] [rowW cA q ρ] (fun _ => [gapW cA b q p t rd tx tl rf, rowW cA q ρ, stW cA cB t r σ (nI (h))]) (fun _ => [gapW cA b q p t rd tx tl rf, stW cA cB t r σ (nI (h))]) (c_X4_toldOf l D cA cB b q p t rd tx tl rf r σ h (2) (by omega)) kv_X4_toldOf ml_X4_174 dX4_digest_18 rfl rfl rfl rfl (segOk [0, 2, 1] rfl rfl rfl rfl) (fun _ => segOk [0, 2, 1] rfl rfl rfl rfl) rfl (Nat.le_of_ble_eq_true rfl) (fun v u h => ?_)
        subst h
        refine r_st (st' := [.int (toldF rf tl h 2), .long (31 * ((31 * ((31 * 1837) + ((toldF rf tl h 0).toInt64))) + ((toldF rf tl h 1).toInt64)))]) rfl ?_
        refine r_i2l dX4_digest_21 ?_
        refine r_ladd dX4_digest_22 ?_
        refine r_lstore_n 1 ([some (.ref (b 0)), some (.long ((31 * ((31 * ((31 * 1837) + ((toldF rf tl h 0).toInt64))) + ((toldF rf tl h 1).toInt64))) + ((toldF rf tl h 2).toInt64))), none, some (.int (nI 2)), none]) dX4_digest_23 rfl (Nat.le_of_ble_eq_true rfl) rfl rfl ?_
        refine r_iinc (v := nI (3)) ([some (.ref (b 0)), some (.long ((31 * ((31 * ((31 * 1837) + ((toldF rf tl h 0).toInt64))) + ((toldF rf tl h 1).toInt64))) + ((toldF rf tl h 2).toInt64))), none, some (.int (nI 3)), none]) dX4_digest_24 rfl (nI_add 2 1) (Nat.le_of_ble_eq_true rfl) rfl rfl ?_
        refine r_goto 6 dX4_digest_27 (by decide) ?_
        refine r_iload_n 3 dX4_digest_6 rfl rfl ?_
        refine r_iconst (nI 4) dX4_digest_7 (by decide +kernel) ?_
        refine r_ncmp_gt 30 (by omega) (by omega) dX4_digest_8 (by decide) (fun hq4 => ?_) (fun hq4 => ?_)
        · omega
        · refine r_ldc2 (v := 31) cq_X4_179 dX4_digest_11 ?_
          refine r_lload_n 1 dX4_digest_14 rfl rfl ?_
          refine r_lmul dX4_digest_15 ?_
          refine r_aload_n 0 dX4_digest_16 rfl rfl ?_
          refine r_iload_n 3 dX4_digest_17 rfl rfl ?_
          refine r_callV2 (As := [.int (nI 3)]) (st := [.long (31 * ((31 * ((31 * ((31 * 1837) + ((toldF rf tl h 0).toInt64))) + ((toldF rf tl h 1).toInt64))) + ((toldF rf tl h 2).toInt64)))]) (fun _ => gapW cA b q p t rd tx tl rf ++ (rowW cA q ρ ++ (stW cA cB t r σ (nI (h))))) [gapW cA b q p t rd tx tl rf, rowW cA q ρ, stW cA cB t r σ (nI (h))] [gapW cA b q p t rd tx tl rf, stW cA cB t r σ (nI (h))] [rowW cA q ρ] (fun _ => [gapW cA b q p t rd tx tl rf, rowW cA q ρ, stW cA cB t r σ (nI (h))]) (fun _ => [gapW cA b q p t rd tx tl rf, stW cA cB t r σ (nI (h))]) (c_X4_toldOf l D cA cB b q p t rd tx tl rf r σ h (3) (by omega)) kv_X4_toldOf ml_X4_174 dX4_digest_18 rfl rfl rfl rfl (segOk [0, 2, 1] rfl rfl rfl rfl) (fun _ => segOk [0, 2, 1] rfl rfl rfl rfl) rfl (Nat.le_of_ble_eq_true rfl) (fun v u h => ?_)
          subst h
          refine r_st (st' := [.int (toldF rf tl h 3), .long (31 * ((31 * ((31 * ((31 * 1837) + ((toldF rf tl h 0).toInt64))) + ((toldF rf tl h 1).toInt64))) + ((toldF rf tl h 2).toInt64)))]) rfl ?_
          refine r_i2l dX4_digest_21 ?_
          refine r_ladd dX4_digest_22 ?_
          refine r_lstore_n 1 ([some (.ref (b 0)), some (.long ((31 * ((31 * ((31 * ((31 * 1837) + ((toldF rf tl h 0).toInt64))) + ((toldF rf tl h 1).toInt64))) + ((toldF rf tl h 2).toInt64))) + ((toldF rf tl h 3).toInt64))), none, some (.int (nI 3)), none]) dX4_digest_23 rfl (Nat.le_of_ble_eq_true rfl) rfl rfl ?_
          refine r_iinc (v := nI (4)) ([some (.ref (b 0)), some (.long ((31 * ((31 * ((31 * ((31 * 1837) + ((toldF rf tl h 0).toInt64))) + ((toldF rf tl h 1).toInt64))) + ((toldF rf tl h 2).toInt64))) + ((toldF rf tl h 3).toInt64))), none, some (.int (nI 4)), none]) dX4_digest_24 rfl (nI_add 3 1) (Nat.le_of_ble_eq_true rfl) rfl rfl ?_
          refine r_goto 6 dX4_digest_27 (by decide) ?_
          refine r_iload_n 3 dX4_digest_6 rfl rfl ?_
          refine r_iconst (nI 4) dX4_digest_7 (by decide +kernel) ?_
          refine r_ncmp_gt 30 (by omega) (by omega) dX4_digest_8 (by decide) (fun hq5 => ?_) (fun hq5 => ?_)
          · omega
          · refine r_ldc2 (v := 31) cq_X4_179 dX4_digest_11 ?_
            refine r_lload_n 1 dX4_digest_14 rfl rfl ?_
            refine r_lmul dX4_digest_15 ?_
            refine r_aload_n 0 dX4_digest_16 rfl rfl ?_
            refine r_iload_n 3 dX4_digest_17 rfl rfl ?_
            refine r_callV2 (As := [.int (nI 4)]) (st := [.long (31 * ((31 * ((31 * ((31 * ((31 * 1837) + ((toldF rf tl h 0).toInt64))) + ((toldF rf tl h 1).toInt64))) + ((toldF rf tl h 2).toInt64))) + ((toldF rf tl h 3).toInt64)))]) (fun _ => gapW cA b q p t rd tx tl rf ++ (rowW cA q ρ ++ (stW cA cB t r σ (nI (h))))) [gapW cA b q p t rd tx tl rf, rowW cA q ρ, stW cA cB t r σ (nI (h))] [gapW cA b q p t rd tx tl rf, stW cA cB t r σ (nI (h))] [rowW cA q ρ] (fun _ => [gapW cA b q p t rd tx tl rf, rowW cA q ρ, stW cA cB t r σ (nI (h))]) (fun _ => [gapW cA b q p t rd tx tl rf, stW cA cB t r σ (nI (h))]) (c_X4_toldOf l D cA cB b q p t rd tx tl rf r σ h (4) (by omega)) kv_X4_toldOf ml_X4_174 dX4_digest_18 rfl rfl rfl rfl (segOk [0, 2, 1] rfl rfl rfl rfl) (fun _ => segOk [0, 2, 1] rfl rfl rfl rfl) rfl (Nat.le_of_ble_eq_true rfl) (fun v u h => ?_)
            subst h
            refine r_st (st' := [.int (toldF rf tl h 4), .long (31 * ((31 * ((31 * ((31 * ((31 * 1837) + ((toldF rf tl h 0).toInt64))) + ((toldF rf tl h 1).toInt64))) + ((toldF rf tl h 2).toInt64))) + ((toldF rf tl h 3).toInt64)))]) rfl ?_
            refine r_i2l dX4_digest_21 ?_
            refine r_ladd dX4_digest_22 ?_
            refine r_lstore_n 1 ([some (.ref (b 0)), some (.long ((31 * ((31 * ((31 * ((31 * ((31 * 1837) + ((toldF rf tl h 0).toInt64))) + ((toldF rf tl h 1).toInt64))) + ((toldF rf tl h 2).toInt64))) + ((toldF rf tl h 3).toInt64))) + ((toldF rf tl h 4).toInt64))), none, some (.int (nI 4)), none]) dX4_digest_23 rfl (Nat.le_of_ble_eq_true rfl) rfl rfl ?_
            refine r_iinc (v := nI (5)) ([some (.ref (b 0)), some (.long ((31 * ((31 * ((31 * ((31 * ((31 * 1837) + ((toldF rf tl h 0).toInt64))) + ((toldF rf tl h 1).toInt64))) + ((toldF rf tl h 2).toInt64))) + ((toldF rf tl h 3).toInt64))) + ((toldF rf tl h 4).toInt64))), none, some (.int (nI 5)), none]) dX4_digest_24 rfl (nI_add 4 1) (Nat.le_of_ble_eq_true rfl) rfl rfl ?_
            refine r_goto 6 dX4_digest_27 (by decide) ?_
            refine r_iload_n 3 dX4_digest_6 rfl rfl ?_
            refine r_iconst (nI 4) dX4_digest_7 (by decide +kernel) ?_
            refine r_ncmp_gt 30 (by omega) (by omega) dX4_digest_8 (by decide) (fun hq6 => ?_) (fun hq6 => ?_)
            · refine r_iconst (nI 0) dX4_digest_30 (by decide +kernel) ?_
              refine r_istore_n 3 ([some (.ref (b 0)), some (.long ((31 * ((31 * ((31 * ((31 * ((31 * 1837) + ((toldF rf tl h 0).toInt64))) + ((toldF rf tl h 1).toInt64))) + ((toldF rf tl h 2).toInt64))) + ((toldF rf tl h 3).toInt64))) + ((toldF rf tl h 4).toInt64))), none, some (.int (nI 0)), none]) dX4_digest_31 rfl (Nat.le_of_ble_eq_true rfl) rfl rfl ?_
              refine r_iload_n 3 dX4_digest_32 rfl rfl ?_
              refine r_bipush (nI 6) dX4_digest_33 (by decide +kernel) ?_
              refine r_ncmp_gt 57 (by omega) (by omega) dX4_digest_35 (by decide) (fun hq7 => ?_) (fun hq7 => ?_)
              · omega
              · refine r_ldc2 (v := 31) cq_X4_179 dX4_digest_38 ?_
                refine r_lload_n 1 dX4_digest_41 rfl rfl ?_
                refine r_lmul dX4_digest_42 ?_
                refine r_aload_n 0 dX4_digest_43 rfl rfl ?_
                refine r_iload_n 3 dX4_digest_44 rfl rfl ?_
                refine r_callV2 (As := [.int (nI 0)]) (st := [.long (31 * ((31 * ((31 * ((31 * ((31 * ((31 * 1837) + ((toldF rf tl h 0).toInt64))) + ((toldF rf tl h 1).toInt64))) + ((toldF rf tl h 2).toInt64))) + ((toldF rf tl h 3).toInt64))) + ((toldF rf tl h 4).toInt64)))]) (fun _ => gapW cA b q p t rd tx tl rf ++ (rowW cA q ρ ++ (stW cA cB t r σ (nI (h))))) [gapW cA b q p t rd tx tl rf, rowW cA q ρ, stW cA cB t r σ (nI (h))] [gapW cA b q p t rd tx tl rf, rowW cA q ρ] [stW cA cB t r σ (nI (h))] (fun _ => [gapW cA b q p t rd tx tl rf, rowW cA q ρ, stW cA cB t r σ (nI (h))]) (fun _ => [gapW cA b q p t rd tx tl rf, rowW cA q ρ]) (c_X4_counted l D cA cB b q p t rd tx tl rf ρ n (hsz) h3 (0) (by omega)) kv_X4_counted ml_X4_127 dX4_digest_45 rfl rfl rfl rfl (segOk [0, 1, 2] rfl rfl rfl rfl) (fun _ => segOk [0, 1, 2] rfl rfl rfl rfl) rfl (Nat.le_of_ble_eq_true rfl) (fun v u h => ?_)
                subst h
                refine r_st (st' := [.int (countF ρ n 0), .long (31 * ((31 * ((31 * ((31 * ((31 * ((31 * 1837) + ((toldF rf tl h 0).toInt64))) + ((toldF rf tl h 1).toInt64))) + ((toldF rf tl h 2).toInt64))) + ((toldF rf tl h 3).toInt64))) + ((toldF rf tl h 4).toInt64)))]) rfl ?_
                refine r_i2l dX4_digest_48 ?_
                refine r_ladd dX4_digest_49 ?_
                refine r_lstore_n 1 ([some (.ref (b 0)), some (.long ((31 * ((31 * ((31 * ((31 * ((31 * ((31 * 1837) + ((toldF rf tl h 0).toInt64))) + ((toldF rf tl h 1).toInt64))) + ((toldF rf tl h 2).toInt64))) + ((toldF rf tl h 3).toInt64))) + ((toldF rf tl h 4).toInt64))) + ((countF ρ n 0).toInt64))), none, some (.int (nI 0)), none]) dX4_digest_50 rfl (Nat.le_of_ble_eq_true rfl) rfl rfl ?_
                refine r_iinc (v := nI (1)) ([some (.ref (b 0)), some (.long ((31 * ((31 * ((31 * ((31 * ((31 * ((31 * 1837) + ((toldF rf tl h 0).toInt64))) + ((toldF rf tl h 1).toInt64))) + ((toldF rf tl h 2).toInt64))) + ((toldF rf tl h 3).toInt64))) + ((toldF rf tl h 4).toInt64))) + ((countF ρ n 0).toInt64))), none, some (.int (nI 1)), none]) dX4_digest_51 rfl (nI_add 0 1) (Nat.le_of_ble_eq_true rfl) rfl rfl ?_
                refine r_goto 32 dX4_digest_54 (by decide) ?_
                refine r_iload_n 3 dX4_digest_32 rfl rfl ?_
                refine r_bipush (nI 6) dX4_digest_33 (by decide +kernel) ?_
                refine r_ncmp_gt 57 (by omega) (by omega) dX4_digest_35 (by decide) (fun hq8 => ?_) (fun hq8 => ?_)
                · omega
                · refine r_ldc2 (v := 31) cq_X4_179 dX4_digest_38 ?_
                  refine r_lload_n 1 dX4_digest_41 rfl rfl ?_
                  refine r_lmul dX4_digest_42 ?_
                  refine r_aload_n 0 dX4_digest_43 rfl rfl ?_
                  refine r_iload_n 3 dX4_digest_44 rfl rfl ?_
                  refine r_callV2 (As := [.int (nI 1)]) (st := [.long (31 * ((31 * ((31 * ((31 * ((31 * ((31 * ((31 * 1837) + ((toldF rf tl h 0).toInt64))) + ((toldF rf tl h 1).toInt64))) + ((toldF rf tl h 2).toInt64))) + ((toldF rf tl h 3).toInt64))) + ((toldF rf tl h 4).toInt64))) + ((countF ρ n 0).toInt64)))]) (fun _ => gapW cA b q p t rd tx tl rf ++ (rowW cA q ρ ++ (stW cA cB t r σ (nI (h))))) [gapW cA b q p t rd tx tl rf, rowW cA q ρ, stW cA cB t r σ (nI (h))] [gapW cA b q p t rd tx tl rf, rowW cA q ρ] [stW cA cB t r σ (nI (h))] (fun _ => [gapW cA b q p t rd tx tl rf, rowW cA q ρ, stW cA cB t r σ (nI (h))]) (fun _ => [gapW cA b q p t rd tx tl rf, rowW cA q ρ]) (c_X4_counted l D cA cB b q p t rd tx tl rf ρ n (hsz) h3 (1) (by omega)) kv_X4_counted ml_X4_127 dX4_digest_45 rfl rfl rfl rfl (segOk [0, 1, 2] rfl rfl rfl rfl) (fun _ => segOk [0, 1, 2] rfl rfl rfl rfl) rfl (Nat.le_of_ble_eq_true rfl) (fun v u h => ?_)
                  subst h
                  refine r_st (st' := [.int (countF ρ n 1), .long (31 * ((31 * ((31 * ((31 * ((31 * ((31 * ((31 * 1837) + ((toldF rf tl h 0).toInt64))) + ((toldF rf tl h 1).toInt64))) + ((toldF rf tl h 2).toInt64))) + ((toldF rf tl h 3).toInt64))) + ((toldF rf tl h 4).toInt64))) + ((countF ρ n 0).toInt64)))]) rfl ?_
                  refine r_i2l dX4_digest_48 ?_
                  refine r_ladd dX4_digest_49 ?_
                  refine r_lstore_n 1 ([some (.ref (b 0)), some (.long ((31 * ((31 * ((31 * ((31 * ((31 * ((31 * ((31 * 1837) + ((toldF rf tl h 0).toInt64))) + ((toldF rf tl h 1).toInt64))) + ((toldF rf tl h 2).toInt64))) + ((toldF rf tl h 3).toInt64))) + ((toldF rf tl h 4).toInt64))) + ((countF ρ n 0).toInt64))) + ((countF ρ n 1).toInt64))), none, some (.int (nI 1)), none]) dX4_digest_50 rfl (Nat.le_of_ble_eq_true rfl) rfl rfl ?_
                  refine r_iinc (v := nI (2)) ([some (.ref (b 0)), some (.long ((31 * ((31 * ((31 * ((31 * ((31 * ((31 * ((31 * 1837) + ((toldF rf tl h 0).toInt64))) + ((toldF rf tl h 1).toInt64))) + ((toldF rf tl h 2).toInt64))) + ((toldF rf tl h 3).toInt64))) + ((toldF rf tl h 4).toInt64))) + ((countF ρ n 0).toInt64))) + ((countF ρ n 1).toInt64))), none, some (.int (nI 2)), none]) dX4_digest_51 rfl (nI_add 1 1) (Nat.le_of_ble_eq_true rfl) rfl rfl ?_
                  refine r_goto 32 dX4_digest_54 (by decide) ?_
                  refine r_iload_n 3 dX4_digest_32 rfl rfl ?_
                  refine r_bipush (nI 6) dX4_digest_33 (by decide +kernel) ?_
                  refine r_ncmp_gt 57 (by omega) (by omega) dX4_digest_35 (by decide) (fun hq9 => ?_) (fun hq9 => ?_)
                  · omega
                  · refine r_ldc2 (v := 31) cq_X4_179 dX4_digest_38 ?_
                    refine r_lload_n 1 dX4_digest_41 rfl rfl ?_
                    refine r_lmul dX4_digest_42 ?_
                    refine r_aload_n 0 dX4_digest_43 rfl rfl ?_
                    refine r_iload_n 3 dX4_digest_44 rfl rfl ?_
                    refine r_callV2 (As := [.int (nI 2)]) (st := [.long (31 * ((31 * ((31 * ((31 * ((31 * ((31 * ((31 * ((31 * 1837) + ((toldF rf tl h 0).toInt64))) + ((toldF rf tl h 1).toInt64))) + ((toldF rf tl h 2).toInt64))) + ((toldF rf tl h 3).toInt64))) + ((toldF rf tl h 4).toInt64))) + ((countF ρ n 0).toInt64))) + ((countF ρ n 1).toInt64)))]) (fun _ => gapW cA b q p t rd tx tl rf ++ (rowW cA q ρ ++ (stW cA cB t r σ (nI (h))))) [gapW cA b q p t rd tx tl rf, rowW cA q ρ, stW cA cB t r σ (nI (h))] [gapW cA b q p t rd tx tl rf, rowW cA q ρ] [stW cA cB t r σ (nI (h))] (fun _ => [gapW cA b q p t rd tx tl rf, rowW cA q ρ, stW cA cB t r σ (nI (h))]) (fun _ => [gapW cA b q p t rd tx tl rf, rowW cA q ρ]) (c_X4_counted l D cA cB b q p t rd tx tl rf ρ n (hsz) h3 (2) (by omega)) kv_X4_counted ml_X4_127 dX4_digest_45 rfl rfl rfl rfl (segOk [0, 1, 2] rfl rfl rfl rfl) (fun _ => segOk [0, 1, 2] rfl rfl rfl rfl) rfl (Nat.le_of_ble_eq_true rfl) (fun v u h => ?_)
                    subst h
                    refine r_st (st' := [.int (countF ρ n 2), .long (31 * ((31 * ((31 * ((31 * ((31 * ((31 * ((31 * ((31 * 1837) + ((toldF rf tl h 0).toInt64))) + ((toldF rf tl h 1).toInt64))) + ((toldF rf tl h 2).toInt64))) + ((toldF rf tl h 3).toInt64))) + ((toldF rf tl h 4).toInt64))) + ((countF ρ n 0).toInt64))) + ((countF ρ n 1).toInt64)))]) rfl ?_
                    refine r_i2l dX4_digest_48 ?_
                    refine r_ladd dX4_digest_49 ?_
                    refine r_lstore_n 1 ([some (.ref (b 0)), some (.long ((31 * ((31 * ((31 * ((31 * ((31 * ((31 * ((31 * ((31 * 1837) + ((toldF rf tl h 0).toInt64))) + ((toldF rf tl h 1).toInt64))) + ((toldF rf tl h 2).toInt64))) + ((toldF rf tl h 3).toInt64))) + ((toldF rf tl h 4).toInt64))) + ((countF ρ n 0).toInt64))) + ((countF ρ n 1).toInt64))) + ((countF ρ n 2).toInt64))), none, some (.int (nI 2)), none]) dX4_digest_50 rfl (Nat.le_of_ble_eq_true rfl) rfl rfl ?_
                    refine r_iinc (v := nI (3)) ([some (.ref (b 0)), some (.long ((31 * ((31 * ((31 * ((31 * ((31 * ((31 * ((31 * ((31 * 1837) + ((toldF rf tl h 0).toInt64))) + ((toldF rf tl h 1).toInt64))) + ((toldF rf tl h 2).toInt64))) + ((toldF rf tl h 3).toInt64))) + ((toldF rf tl h 4).toInt64))) + ((countF ρ n 0).toInt64))) + ((countF ρ n 1).toInt64))) + ((countF ρ n 2).toInt64))), none, some (.int (nI 3)), none]) dX4_digest_51 rfl (nI_add 2 1) (Nat.le_of_ble_eq_true rfl) rfl rfl ?_
                    refine r_goto 32 dX4_digest_54 (by decide) ?_
                    refine r_iload_n 3 dX4_digest_32 rfl rfl ?_
                    refine r_bipush (nI 6) dX4_digest_33 (by decide +kernel) ?_
                    refine r_ncmp_gt 57 (by omega) (by omega) dX4_digest_35 (by decide) (fun hq10 => ?_) (fun hq10 => ?_)
                    · omega
                    · refine r_ldc2 (v := 31) cq_X4_179 dX4_digest_38 ?_
                      refine r_lload_n 1 dX4_digest_41 rfl rfl ?_
                      refine r_lmul dX4_digest_42 ?_
                      refine r_aload_n 0 dX4_digest_43 rfl rfl ?_
                      refine r_iload_n 3 dX4_digest_44 rfl rfl ?_
                      refine r_callV2 (As := [.int (nI 3)]) (st := [.long (31 * ((31 * ((31 * ((31 * ((31 * ((31 * ((31 * ((31 * ((31 * 1837) + ((toldF rf tl h 0).toInt64))) + ((toldF rf tl h 1).toInt64))) + ((toldF rf tl h 2).toInt64))) + ((toldF rf tl h 3).toInt64))) + ((toldF rf tl h 4).toInt64))) + ((countF ρ n 0).toInt64))) + ((countF ρ n 1).toInt64))) + ((countF ρ n 2).toInt64)))]) (fun _ => gapW cA b q p t rd tx tl rf ++ (rowW cA q ρ ++ (stW cA cB t r σ (nI (h))))) [gapW cA b q p t rd tx tl rf, rowW cA q ρ, stW cA cB t r σ (nI (h))] [gapW cA b q p t rd tx tl rf, rowW cA q ρ] [stW cA cB t r σ (nI (h))] (fun _ => [gapW cA b q p t rd tx tl rf, rowW cA q ρ, stW cA cB t r σ (nI (h))]) (fun _ => [gapW cA b q p t rd tx tl rf, rowW cA q ρ]) (c_X4_counted l D cA cB b q p t rd tx tl rf ρ n (hsz) h3 (3) (by omega)) kv_X4_counted ml_X4_127 dX4_digest_45 rfl rfl rfl rfl (segOk [0, 1, 2] rfl rfl rfl rfl) (fun _ => segOk [0, 1, 2] rfl rfl rfl rfl) rfl (Nat.le_of_ble_eq_true rfl) (fun v u h => ?_)
                      subst h
                      refine r_st (st' := [.int (countF ρ n 3), .long (31 * ((31 * ((31 * ((31 * ((31 * ((31 * ((31 * ((31 * ((31 * 1837) + ((toldF rf tl h 0).toInt64))) + ((toldF rf tl h 1).toInt64))) + ((toldF rf tl h 2).toInt64))) + ((toldF rf tl h 3).toInt64))) + ((toldF rf tl h 4).toInt64))) + ((countF ρ n 0).toInt64))) + ((countF ρ n 1).toInt64))) + ((countF ρ n 2).toInt64)))]) rfl ?_
                      refine r_i2l dX4_digest_48 ?_
                      refine r_ladd dX4_digest_49 ?_
                      refine r_lstore_n 1 ([some (.ref (b 0)), some (.long ((31 * ((31 * ((31 * ((31 * ((31 * ((31 * ((31 * ((31 * ((31 * 1837) + ((toldF rf tl h 0).toInt64))) + ((toldF rf tl h 1).toInt64))) + ((toldF rf tl h 2).toInt64))) + ((toldF rf tl h 3).toInt64))) + ((toldF rf tl h 4).toInt64))) + ((countF ρ n 0).toInt64))) + ((countF ρ n 1).toInt64))) + ((countF ρ n 2).toInt64))) + ((countF ρ n 3).toInt64))), none, some (.int (nI 3)), none]) dX4_digest_50 rfl (Nat.le_of_ble_eq_true rfl) rfl rfl ?_
                      refine r_iinc (v := nI (4)) ([some (.ref (b 0)), some (.long ((31 * ((31 * ((31 * ((31 * ((31 * ((31 * ((31 * ((31 * ((31 * 1837) + ((toldF rf tl h 0).toInt64))) + ((toldF rf tl h 1).toInt64))) + ((toldF rf tl h 2).toInt64))) + ((toldF rf tl h 3).toInt64))) + ((toldF rf tl h 4).toInt64))) + ((countF ρ n 0).toInt64))) + ((countF ρ n 1).toInt64))) + ((countF ρ n 2).toInt64))) + ((countF ρ n 3).toInt64))), none, some (.int (nI 4)), none]) dX4_digest_51 rfl (nI_add 3 1) (Nat.le_of_ble_eq_true rfl) rfl rfl ?_
                      refine r_goto 32 dX4_digest_54 (by decide) ?_
                      refine r_iload_n 3 dX4_digest_32 rfl rfl ?_
                      refine r_bipush (nI 6) dX4_digest_33 (by decide +kernel) ?_
                      refine r_ncmp_gt 57 (by omega) (by omega) dX4_digest_35 (by decide) (fun hq11 => ?_) (fun hq11 => ?_)
                      · omega
                      · refine r_ldc2 (v := 31) cq_X4_179 dX4_digest_38 ?_
                        refine r_lload_n 1 dX4_digest_41 rfl rfl ?_
                        refine r_lmul dX4_digest_42 ?_
                        refine r_aload_n 0 dX4_digest_43 rfl rfl ?_
                        refine r_iload_n 3 dX4_digest_44 rfl rfl ?_
                        refine r_callV2 (As := [.int (nI 4)]) (st := [.long (31 * ((31 * ((31 * ((31 * ((31 * ((31 * ((31 * ((31 * ((31 * ((31 * 1837) + ((toldF rf tl h 0).toInt64))) + ((toldF rf tl h 1).toInt64))) + ((toldF rf tl h 2).toInt64))) + ((toldF rf tl h 3).toInt64))) + ((toldF rf tl h 4).toInt64))) + ((countF ρ n 0).toInt64))) + ((countF ρ n 1).toInt64))) + ((countF ρ n 2).toInt64))) + ((countF ρ n 3).toInt64)))]) (fun _ => gapW cA b q p t rd tx tl rf ++ (rowW cA q ρ ++ (stW cA cB t r σ (nI (h))))) [gapW cA b q p t rd tx tl rf, rowW cA q ρ, stW cA cB t r σ (nI (h))] [gapW cA b q p t rd tx tl rf, rowW cA q ρ] [stW cA cB t r σ (nI (h))] (fun _ => [gapW cA b q p t rd tx tl rf, rowW cA q ρ, stW cA cB t r σ (nI (h))]) (fun _ => [gapW cA b q p t rd tx tl rf, rowW cA q ρ]) (c_X4_counted l D cA cB b q p t rd tx tl rf ρ n (hsz) h3 (4) (by omega)) kv_X4_counted ml_X4_127 dX4_digest_45 rfl rfl rfl rfl (segOk [0, 1, 2] rfl rfl rfl rfl) (fun _ => segOk [0, 1, 2] rfl rfl rfl rfl) rfl (Nat.le_of_ble_eq_true rfl) (fun v u h => ?_)
                        subst h
                        refine r_st (st' := [.int (countF ρ n 4), .long (31 * ((31 * ((31 * ((31 * ((31 * ((31 * ((31 * ((31 * ((31 * ((31 * 1837) + ((toldF rf tl h 0).toInt64))) + ((toldF rf tl h 1).toInt64))) + ((toldF rf tl h 2).toInt64))) + ((toldF rf tl h 3).toInt64))) + ((toldF rf tl h 4).toInt64))) + ((countF ρ n 0).toInt64))) + ((countF ρ n 1).toInt64))) + ((countF ρ n 2).toInt64))) + ((countF ρ n 3).toInt64)))]) rfl ?_
                        refine r_i2l dX4_digest_48 ?_
                        refine r_ladd dX4_digest_49 ?_
                        refine r_lstore_n 1 ([some (.ref (b 0)), some (.long ((31 * ((31 * ((31 * ((31 * ((31 * ((31 * ((31 * ((31 * ((31 * ((31 * 1837) + ((toldF rf tl h 0).toInt64))) + ((toldF rf tl h 1).toInt64))) + ((toldF rf tl h 2).toInt64))) + ((toldF rf tl h 3).toInt64))) + ((toldF rf tl h 4).toInt64))) + ((countF ρ n 0).toInt64))) + ((countF ρ n 1).toInt64))) + ((countF ρ n 2).toInt64))) + ((countF ρ n 3).toInt64))) + ((countF ρ n 4).toInt64))), none, some (.int (nI 4)), none]) dX4_digest_50 rfl (Nat.le_of_ble_eq_true rfl) rfl rfl ?_
                        refine r_iinc (v := nI (5)) ([some (.ref (b 0)), some (.long ((31 * ((31 * ((31 * ((31 * ((31 * ((31 * ((31 * ((31 * ((31 * ((31 * 1837) + ((toldF rf tl h 0).toInt64))) + ((toldF rf tl h 1).toInt64))) + ((toldF rf tl h 2).toInt64))) + ((toldF rf tl h 3).toInt64))) + ((toldF rf tl h 4).toInt64))) + ((countF ρ n 0).toInt64))) + ((countF ρ n 1).toInt64))) + ((countF ρ n 2).toInt64))) + ((countF ρ n 3).toInt64))) + ((countF ρ n 4).toInt64))), none, some (.int (nI 5)), none]) dX4_digest_51 rfl (nI_add 4 1) (Nat.le_of_ble_eq_true rfl) rfl rfl ?_
                        refine r_goto 32 dX4_digest_54 (by decide) ?_
                        refine r_iload_n 3 dX4_digest_32 rfl rfl ?_
                        refine r_bipush (nI 6) dX4_digest_33 (by decide +kernel) ?_
                        refine r_ncmp_gt 57 (by omega) (by omega) dX4_digest_35 (by decide) (fun hq12 => ?_) (fun hq12 => ?_)
                        · omega
                        · refine r_ldc2 (v := 31) cq_X4_179 dX4_digest_38 ?_
                          refine r_lload_n 1 dX4_digest_41 rfl rfl ?_
                          refine r_lmul dX4_digest_42 ?_
                          refine r_aload_n 0 dX4_digest_43 rfl rfl ?_
                          refine r_iload_n 3 dX4_digest_44 rfl rfl ?_
                          refine r_callV2 (As := [.int (nI 5)]) (st := [.long (31 * ((31 * ((31 * ((31 * ((31 * ((31 * ((31 * ((31 * ((31 * ((31 * ((31 * 1837) + ((toldF rf tl h 0).toInt64))) + ((toldF rf tl h 1).toInt64))) + ((toldF rf tl h 2).toInt64))) + ((toldF rf tl h 3).toInt64))) + ((toldF rf tl h 4).toInt64))) + ((countF ρ n 0).toInt64))) + ((countF ρ n 1).toInt64))) + ((countF ρ n 2).toInt64))) + ((countF ρ n 3).toInt64))) + ((countF ρ n 4).toInt64)))]) (fun _ => gapW cA b q p t rd tx tl rf ++ (rowW cA q ρ ++ (stW cA cB t r σ (nI (h))))) [gapW cA b q p t rd tx tl rf, rowW cA q ρ, stW cA cB t r σ (nI (h))] [gapW cA b q p t rd tx tl rf, rowW cA q ρ] [stW cA cB t r σ (nI (h))] (fun _ => [gapW cA b q p t rd tx tl rf, rowW cA q ρ, stW cA cB t r σ (nI (h))]) (fun _ => [gapW cA b q p t rd tx tl rf, rowW cA q ρ]) (c_X4_counted l D cA cB b q p t rd tx tl rf ρ n (hsz) h3 (5) (by omega)) kv_X4_counted ml_X4_127 dX4_digest_45 rfl rfl rfl rfl (segOk [0, 1, 2] rfl rfl rfl rfl) (fun _ => segOk [0, 1, 2] rfl rfl rfl rfl) rfl (Nat.le_of_ble_eq_true rfl) (fun v u h => ?_)
                          subst h
                          refine r_st (st' := [.int (countF ρ n 5), .long (31 * ((31 * ((31 * ((31 * ((31 * ((31 * ((31 * ((31 * ((31 * ((31 * ((31 * 1837) + ((toldF rf tl h 0).toInt64))) + ((toldF rf tl h 1).toInt64))) + ((toldF rf tl h 2).toInt64))) + ((toldF rf tl h 3).toInt64))) + ((toldF rf tl h 4).toInt64))) + ((countF ρ n 0).toInt64))) + ((countF ρ n 1).toInt64))) + ((countF ρ n 2).toInt64))) + ((countF ρ n 3).toInt64))) + ((countF ρ n 4).toInt64)))]) rfl ?_
                          refine r_i2l dX4_digest_48 ?_
                          refine r_ladd dX4_digest_49 ?_
                          refine r_lstore_n 1 ([some (.ref (b 0)), some (.long ((31 * ((31 * ((31 * ((31 * ((31 * ((31 * ((31 * ((31 * ((31 * ((31 * ((31 * 1837) + ((toldF rf tl h 0).toInt64))) + ((toldF rf tl h 1).toInt64))) + ((toldF rf tl h 2).toInt64))) + ((toldF rf tl h 3).toInt64))) + ((toldF rf tl h 4).toInt64))) + ((countF ρ n 0).toInt64))) + ((countF ρ n 1).toInt64))) + ((countF ρ n 2).toInt64))) + ((countF ρ n 3).toInt64))) + ((countF ρ n 4).toInt64))) + ((countF ρ n 5).toInt64))), none, some (.int (nI 5)), none]) dX4_digest_50 rfl (Nat.le_of_ble_eq_true rfl) rfl rfl ?_
                          refine r_iinc (v := nI (6)) ([some (.ref (b 0)), some (.long ((31 * ((31 * ((31 * ((31 * ((31 * ((31 * ((31 * ((31 * ((31 * ((31 * ((31 * 1837) + ((toldF rf tl h 0).toInt64))) + ((toldF rf tl h 1).toInt64))) + ((toldF rf tl h 2).toInt64))) + ((toldF rf tl h 3).toInt64))) + ((toldF rf tl h 4).toInt64))) + ((countF ρ n 0).toInt64))) + ((countF ρ n 1).toInt64))) + ((countF ρ n 2).toInt64))) + ((countF ρ n 3).toInt64))) + ((countF ρ n 4).toInt64))) + ((countF ρ n 5).toInt64))), none, some (.int (nI 6)), none]) dX4_digest_51 rfl (nI_add 5 1) (Nat.le_of_ble_eq_true rfl) rfl rfl ?_
                          refine r_goto 32 dX4_digest_54 (by decide) ?_
                          refine r_iload_n 3 dX4_digest_32 rfl rfl ?_
                          refine r_bipush (nI 6) dX4_digest_33 (by decide +kernel) ?_
                          refine r_ncmp_gt 57 (by omega) (by omega) dX4_digest_35 (by decide) (fun hq13 => ?_) (fun hq13 => ?_)
                          · omega
                          · refine r_ldc2 (v := 31) cq_X4_179 dX4_digest_38 ?_
                            refine r_lload_n 1 dX4_digest_41 rfl rfl ?_
                            refine r_lmul dX4_digest_42 ?_
                            refine r_aload_n 0 dX4_digest_43 rfl rfl ?_
                            refine r_iload_n 3 dX4_digest_44 rfl rfl ?_
                            refine r_callV2 (As := [.int (nI 6)]) (st := [.long (31 * ((31 * ((31 * ((31 * ((31 * ((31 * ((31 * ((31 * ((31 * ((31 * ((31 * ((31 * 1837) + ((toldF rf tl h 0).toInt64))) + ((toldF rf tl h 1).toInt64))) + ((toldF rf tl h 2).toInt64))) + ((toldF rf tl h 3).toInt64))) + ((toldF rf tl h 4).toInt64))) + ((countF ρ n 0).toInt64))) + ((countF ρ n 1).toInt64))) + ((countF ρ n 2).toInt64))) + ((countF ρ n 3).toInt64))) + ((countF ρ n 4).toInt64))) + ((countF ρ n 5).toInt64)))]) (fun _ => gapW cA b q p t rd tx tl rf ++ (rowW cA q ρ ++ (stW cA cB t r σ (nI (h))))) [gapW cA b q p t rd tx tl rf, rowW cA q ρ, stW cA cB t r σ (nI (h))] [gapW cA b q p t rd tx tl rf, rowW cA q ρ] [stW cA cB t r σ (nI (h))] (fun _ => [gapW cA b q p t rd tx tl rf, rowW cA q ρ, stW cA cB t r σ (nI (h))]) (fun _ => [gapW cA b q p t rd tx tl rf, rowW cA q ρ]) (c_X4_counted l D cA cB b q p t rd tx tl rf ρ n (hsz) h3 (6) (by omega)) kv_X4_counted ml_X4_127 dX4_digest_45 rfl rfl rfl rfl (segOk [0, 1, 2] rfl rfl rfl rfl) (fun _ => segOk [0, 1, 2] rfl rfl rfl rfl) rfl (Nat.le_of_ble_eq_true rfl) (fun v u h => ?_)
                            subst h
                            refine r_st (st' := [.int (countF ρ n 6), .long (31 * ((31 * ((31 * ((31 * ((31 * ((31 * ((31 * ((31 * ((31 * ((31 * ((31 * ((31 * 1837) + ((toldF rf tl h 0).toInt64))) + ((toldF rf tl h 1).toInt64))) + ((toldF rf tl h 2).toInt64))) + ((toldF rf tl h 3).toInt64))) + ((toldF rf tl h 4).toInt64))) + ((countF ρ n 0).toInt64))) + ((countF ρ n 1).toInt64))) + ((countF ρ n 2).toInt64))) + ((countF ρ n 3).toInt64))) + ((countF ρ n 4).toInt64))) + ((countF ρ n 5).toInt64)))]) rfl ?_
                            refine r_i2l dX4_digest_48 ?_
                            refine r_ladd dX4_digest_49 ?_
                            refine r_lstore_n 1 ([some (.ref (b 0)), some (.long ((31 * ((31 * ((31 * ((31 * ((31 * ((31 * ((31 * ((31 * ((31 * ((31 * ((31 * ((31 * 1837) + ((toldF rf tl h 0).toInt64))) + ((toldF rf tl h 1).toInt64))) + ((toldF rf tl h 2).toInt64))) + ((toldF rf tl h 3).toInt64))) + ((toldF rf tl h 4).toInt64))) + ((countF ρ n 0).toInt64))) + ((countF ρ n 1).toInt64))) + ((countF ρ n 2).toInt64))) + ((countF ρ n 3).toInt64))) + ((countF ρ n 4).toInt64))) + ((countF ρ n 5).toInt64))) + ((countF ρ n 6).toInt64))), none, some (.int (nI 6)), none]) dX4_digest_50 rfl (Nat.le_of_ble_eq_true rfl) rfl rfl ?_
                            refine r_iinc (v := nI (7)) ([some (.ref (b 0)), some (.long ((31 * ((31 * ((31 * ((31 * ((31 * ((31 * ((31 * ((31 * ((31 * ((31 * ((31 * ((31 * 1837) + ((toldF rf tl h 0).toInt64))) + ((toldF rf tl h 1).toInt64))) + ((toldF rf tl h 2).toInt64))) + ((toldF rf tl h 3).toInt64))) + ((toldF rf tl h 4).toInt64))) + ((countF ρ n 0).toInt64))) + ((countF ρ n 1).toInt64))) + ((countF ρ n 2).toInt64))) + ((countF ρ n 3).toInt64))) + ((countF ρ n 4).toInt64))) + ((countF ρ n 5).toInt64))) + ((countF ρ n 6).toInt64))), none, some (.int (nI 7)), none]) dX4_digest_51 rfl (nI_add 6 1) (Nat.le_of_ble_eq_true rfl) rfl rfl ?_
                            refine r_goto 32 dX4_digest_54 (by decide) ?_
                            refine r_iload_n 3 dX4_digest_32 rfl rfl ?_
                            refine r_bipush (nI 6) dX4_digest_33 (by decide +kernel) ?_
                            refine r_ncmp_gt 57 (by omega) (by omega) dX4_digest_35 (by decide) (fun hq14 => ?_) (fun hq14 => ?_)
                            · refine r_iconst (nI 0) dX4_digest_57 (by decide +kernel) ?_
                              refine r_istore_n 3 ([some (.ref (b 0)), some (.long ((31 * ((31 * ((31 * ((31 * ((31 * ((31 * ((31 * ((31 * ((31 * ((31 * ((31 * ((31 * 1837) + ((toldF rf tl h 0).toInt64))) + ((toldF rf tl h 1).toInt64))) + ((toldF rf tl h 2).toInt64))) + ((toldF rf tl h 3).toInt64))) + ((toldF rf tl h 4).toInt64))) + ((countF ρ n 0).toInt64))) + ((countF ρ n 1).toInt64))) + ((countF ρ n 2).toInt64))) + ((countF ρ n 3).toInt64))) + ((countF ρ n 4).toInt64))) + ((countF ρ n 5).toInt64))) + ((countF ρ n 6).toInt64))), none, some (.int (nI 0)), none]) dX4_digest_58 rfl (Nat.le_of_ble_eq_true rfl) rfl rfl ?_
                              exact lp_X4_digest3 l D cA cB b q p t rd tx tl rf ρ n hsz h3 g hg hg8 r σ h X sz (n + 1) 0 _ rfl (by omega) (by omega)
                            · omega
            · omega

set_option maxRecDepth 100000 in
set_option maxHeartbeats 4000000 in
theorem lp_X5_digest5 (l : Launch) (D : va_G) (cA cB : ClassId) (m : Nat → Nat) (ρ P : Nat → Int32) (h : Nat) (α rf K V C : Nat → Int32) (my cm : Int32) (tx : Nat → Int32) (tl : Nat) (sp : Int32) (od : Nat → Int32) (no ft : Int32) (n : Nat) (hsz : ρ 0 = nI n) (h3 : n = 16 ∨ n = 32 ∨ n = 64) (g : Nat) (hg : ρ 6 = nI g) (hg8 : g ≤ 8) (X : Cx) (sz : Nat) : ∀ (f i : Nat) (z : Int64), z = dgL ρ (dgS ρ (dgC ρ (dgN ρ n (dgT rf tl h 5) 7) n) (n / 4)) i → i ≤ 3 * g → 3 * g < i + f → G l X ({ frames := 2, cells := 0, slots := 0, locals := 45 } : Room) cX5_digest RX5 (some .long) D (tyS cA cB) (va_A (mdW cA m ρ P (nI (h)) α rf K V C my cm tx (nI (tl)) sp od no ft) sz) (QX X D (tyS cA cB) (mdW cA m ρ P (nI (h)) α rf K V C my cm tx (nI (tl)) sp od no ft) sz Unit (fun v _ => v = some (.long (dgA ρ rf n g tl h))) (fun _ => mdW cA m ρ P (nI (h)) α rf K V C my cm tx (nI (tl)) sp od no ft) 0 0) 0 0 (mdW cA m ρ P (nI (h)) α rf K V C my cm tx (nI (tl)) sp od no ft) 162 ([some (.ref (m 0)), some (.long (z)), none, some (.int (nI i))]) [] := by
  intro f
  have hb := n16 h3
  induction f with
  | zero => intro i z _ h1 h2; omega
  | succ f ih =>
    intro i z hz hi hf
    refine r_iload_n 3 dX5_digest_162 rfl rfl ?_
    refine r_iconst (nI 3) dX5_digest_163 (by decide +kernel) ?_
    refine r_aload_n 0 dX5_digest_164 rfl rfl ?_
    refine r_get 0 fk_X5_7 dX5_digest_165 rfl rfl ?_
    refine r_bipush (nI 6) dX5_digest_168 (by decide +kernel) ?_
    refine r_iald 1 (6) dX5_digest_170 rfl rfl rfl (by omega) (Nat.le_of_ble_eq_true rfl) ?_
    refine r_top (y := nI (g)) (hg) ?_
    refine r_nimul dX5_digest_171 ?_
    refine r_ncmp_ge 198 (by omega) (by omega) dX5_digest_172 (by decide) (fun hq1 => ?_) (fun hq1 => ?_)
    · refine r_lload_n 1 dX5_digest_198 rfl rfl ?_
      exact r_lret (()) dX5_digest_199 (by rw [hz, show i = 3 * g by omega]; rfl) (rfl)
    · refine r_ldc2 (v := 31) cq_X5_179 dX5_digest_175 ?_
      refine r_lload_n 1 dX5_digest_178 rfl rfl ?_
      refine r_lmul dX5_digest_179 ?_
      refine r_aload_n 0 dX5_digest_180 rfl rfl ?_
      refine r_get 0 fk_X5_7 dX5_digest_181 rfl rfl ?_
      refine r_bipush (nI 7) dX5_digest_184 (by decide +kernel) ?_
      refine r_iload_n 3 dX5_digest_186 rfl rfl ?_
      refine r_niadd dX5_digest_187 ?_
      refine r_iald 1 (7 + i) dX5_digest_188 rfl rfl rfl (by omega) (Nat.le_of_ble_eq_true rfl) ?_
      refine r_i2l dX5_digest_189 ?_
      refine r_ladd dX5_digest_190 ?_
      refine r_lstore_n 1 ([some (.ref (m 0)), some (.long ((31 * z) + ((ρ (7 + i)).toInt64))), none, some (.int (nI i))]) dX5_digest_191 rfl (Nat.le_of_ble_eq_true rfl) rfl rfl ?_
      refine r_iinc (v := nI (i + 1)) ([some (.ref (m 0)), some (.long ((31 * z) + ((ρ (7 + i)).toInt64))), none, some (.int (nI (i + 1)))]) dX5_digest_192 rfl (nI_1 _) (Nat.le_of_ble_eq_true rfl) rfl rfl ?_
      refine r_goto 162 dX5_digest_195 (by decide) ?_
      exact ih (i + 1) _ (by rw [hz]; rfl) (by omega) (by omega)

set_option maxRecDepth 100000 in
set_option maxHeartbeats 4000000 in
theorem lp_X5_digest4 (l : Launch) (D : va_G) (cA cB : ClassId) (m : Nat → Nat) (ρ P : Nat → Int32) (h : Nat) (α rf K V C : Nat → Int32) (my cm : Int32) (tx : Nat → Int32) (tl : Nat) (sp : Int32) (od : Nat → Int32) (no ft : Int32) (n : Nat) (hsz : ρ 0 = nI n) (h3 : n = 16 ∨ n = 32 ∨ n = 64) (g : Nat) (hg : ρ 6 = nI g) (hg8 : g ≤ 8) (X : Cx) (sz : Nat) : ∀ (f i : Nat) (z : Int64), z = dgS ρ (dgC ρ (dgN ρ n (dgT rf tl h 5) 7) n) i → i ≤ n / 4 → n / 4 < i + f → G l X ({ frames := 2, cells := 0, slots := 0, locals := 45 } : Room) cX5_digest RX5 (some .long) D (tyS cA cB) (va_A (mdW cA m ρ P (nI (h)) α rf K V C my cm tx (nI (tl)) sp od no ft) sz) (QX X D (tyS cA cB) (mdW cA m ρ P (nI (h)) α rf K V C my cm tx (nI (tl)) sp od no ft) sz Unit (fun v _ => v = some (.long (dgA ρ rf n g tl h))) (fun _ => mdW cA m ρ P (nI (h)) α rf K V C my cm tx (nI (tl)) sp od no ft) 0 0) 0 0 (mdW cA m ρ P (nI (h)) α rf K V C my cm tx (nI (tl)) sp od no ft) 129 ([some (.ref (m 0)), some (.long (z)), none, some (.int (nI i))]) [] := by
  intro f
  have hb := n16 h3
  induction f with
  | zero => intro i z _ h1 h2; omega
  | succ f ih =>
    intro i z hz hi hf
    refine r_iload_n 3 dX5_digest_129 rfl rfl ?_
    refine r_aload_n 0 dX5_digest_130 rfl rfl ?_
    refine r_get 0 fk_X5_7 dX5_digest_131 rfl rfl ?_
    refine r_iconst (nI 0) dX5_digest_134 (by decide +kernel) ?_
    refine r_iald 1 (0) dX5_digest_135 rfl rfl rfl (by omega) (Nat.le_of_ble_eq_true rfl) ?_
    refine r_top (y := nI (n)) (hsz) ?_
    refine r_iconst (nI 4) dX5_digest_136 (by decide +kernel) ?_
    refine r_nidiv (by omega) (by omega) (by omega) dX5_digest_137 ?_
    refine r_ncmp_ge 160 (by omega) (by omega) dX5_digest_138 (by decide) (fun hq1 => ?_) (fun hq1 => ?_)
    · refine r_iconst (nI 0) dX5_digest_160 (by decide +kernel) ?_
      refine r_istore_n 3 ([some (.ref (m 0)), some (.long (z)), none, some (.int (nI 0))]) dX5_digest_161 rfl (Nat.le_of_ble_eq_true rfl) rfl rfl ?_
      exact lp_X5_digest5 l D cA cB m ρ P h α rf K V C my cm tx tl sp od no ft n hsz h3 g hg hg8 X sz (3 * g + 1) 0 _ (by rw [hz, show i = n / 4 by omega]; rfl) (by omega) (by omega)
    · refine r_ldc2 (v := 31) cq_X5_179 dX5_digest_141 ?_
      refine r_lload_n 1 dX5_digest_144 rfl rfl ?_
      refine r_lmul dX5_digest_145 ?_
      refine r_aload_n 0 dX5_digest_146 rfl rfl ?_
      refine r_iload_n 3 dX5_digest_147 rfl rfl ?_
      refine r_callV2 (As := [.int (nI i)]) (st := [.long (31 * z)]) (fun _ => mdW cA m ρ P (nI (h)) α rf K V C my cm tx (nI (tl)) sp od no ft) [mdW cA m ρ P (nI (h)) α rf K V C my cm tx (nI (tl)) sp od no ft] [mdW cA m ρ P (nI (h)) α rf K V C my cm tx (nI (tl)) sp od no ft] [] (fun _ => [mdW cA m ρ P (nI (h)) α rf K V C my cm tx (nI (tl)) sp od no ft]) (fun _ => [mdW cA m ρ P (nI (h)) α rf K V C my cm tx (nI (tl)) sp od no ft]) (c_X5_leastOf l D cA cB m ρ P (nI (h)) α rf K V C my cm tx (nI (tl)) sp od no ft (i) (by omega)) kv_X5_leastOf ml_X5_131 dX5_digest_148 rfl rfl rfl rfl (segOk [0] rfl rfl rfl rfl) (fun _ => segOk [0] rfl rfl rfl rfl) rfl (Nat.le_of_ble_eq_true rfl) (fun v u h => ?_)
      subst h
      refine r_st (st' := [.int (lstF ρ i), .long (31 * z)]) rfl ?_
      refine r_i2l dX5_digest_151 ?_
      refine r_ladd dX5_digest_152 ?_
      refine r_lstore_n 1 ([some (.ref (m 0)), some (.long ((31 * z) + ((lstF ρ i).toInt64))), none, some (.int (nI i))]) dX5_digest_153 rfl (Nat.le_of_ble_eq_true rfl) rfl rfl ?_
      refine r_iinc (v := nI (i + 1)) ([some (.ref (m 0)), some (.long ((31 * z) + ((lstF ρ i).toInt64))), none, some (.int (nI (i + 1)))]) dX5_digest_154 rfl (nI_1 _) (Nat.le_of_ble_eq_true rfl) rfl rfl ?_
      refine r_goto 129 dX5_digest_157 (by decide) ?_
      exact ih (i + 1) _ (by rw [hz]; rfl) (by omega) (by omega)

set_option maxRecDepth 100000 in
set_option maxHeartbeats 4000000 in
theorem lp_X5_digest3 (l : Launch) (D : va_G) (cA cB : ClassId) (m : Nat → Nat) (ρ P : Nat → Int32) (h : Nat) (α rf K V C : Nat → Int32) (my cm : Int32) (tx : Nat → Int32) (tl : Nat) (sp : Int32) (od : Nat → Int32) (no ft : Int32) (n : Nat) (hsz : ρ 0 = nI n) (h3 : n = 16 ∨ n = 32 ∨ n = 64) (g : Nat) (hg : ρ 6 = nI g) (hg8 : g ≤ 8) (X : Cx) (sz : Nat) : ∀ (f i : Nat) (z : Int64), z = dgC ρ (dgN ρ n (dgT rf tl h 5) 7) i → i ≤ n → n < i + f → G l X ({ frames := 2, cells := 0, slots := 0, locals := 45 } : Room) cX5_digest RX5 (some .long) D (tyS cA cB) (va_A (mdW cA m ρ P (nI (h)) α rf K V C my cm tx (nI (tl)) sp od no ft) sz) (QX X D (tyS cA cB) (mdW cA m ρ P (nI (h)) α rf K V C my cm tx (nI (tl)) sp od no ft) sz Unit (fun v _ => v = some (.long (dgA ρ rf n g tl h))) (fun _ => mdW cA m ρ P (nI (h)) α rf K V C my cm tx (nI (tl)) sp od no ft) 0 0) 0 0 (mdW cA m ρ P (nI (h)) α rf K V C my cm tx (nI (tl)) sp od no ft) 64 ([some (.ref (m 0)), some (.long (z)), none, some (.int (nI i))]) [] := by
  intro f
  have hb := n16 h3
  induction f with
  | zero => intro i z _ h1 h2; omega
  | succ f ih =>
    intro i z hz hi hf
    refine r_iload_n 3 dX5_digest_64 rfl rfl ?_
    refine r_aload_n 0 dX5_digest_65 rfl rfl ?_
    refine r_get 0 fk_X5_7 dX5_digest_66 rfl rfl ?_
    refine r_iconst (nI 0) dX5_digest_69 (by decide +kernel) ?_
    refine r_iald 1 (0) dX5_digest_70 rfl rfl rfl (by omega) (Nat.le_of_ble_eq_true rfl) ?_
    refine r_top (y := nI (n)) (hsz) ?_
    refine r_ncmp_ge 127 (by omega) (by omega) dX5_digest_71 (by decide) (fun hq1 => ?_) (fun hq1 => ?_)
    · refine r_iconst (nI 0) dX5_digest_127 (by decide +kernel) ?_
      refine r_istore_n 3 ([some (.ref (m 0)), some (.long (z)), none, some (.int (nI 0))]) dX5_digest_128 rfl (Nat.le_of_ble_eq_true rfl) rfl rfl ?_
      exact lp_X5_digest4 l D cA cB m ρ P h α rf K V C my cm tx tl sp od no ft n hsz h3 g hg hg8 X sz (n / 4 + 1) 0 _ (by rw [hz, show i = n by omega]; rfl) (by omega) (by omega)
    · refine r_ldc2 (v := 31) cq_X5_179 dX5_digest_74 ?_
      refine r_lload_n 1 dX5_digest_77 rfl rfl ?_
      refine r_lmul dX5_digest_78 ?_
      refine r_aload_n 0 dX5_digest_79 rfl rfl ?_
      refine r_get 0 fk_X5_7 dX5_digest_80 rfl rfl ?_
      refine r_bipush (nI 31) dX5_digest_83 (by decide +kernel) ?_
      refine r_iload_n 3 dX5_digest_85 rfl rfl ?_
      refine r_niadd dX5_digest_86 ?_
      refine r_iald 1 (31 + i) dX5_digest_87 rfl rfl rfl (by omega) (Nat.le_of_ble_eq_true rfl) ?_
      refine r_i2l dX5_digest_88 ?_
      refine r_ladd dX5_digest_89 ?_
      refine r_lstore_n 1 ([some (.ref (m 0)), some (.long ((31 * z) + ((ρ (31 + i)).toInt64))), none, some (.int (nI i))]) dX5_digest_90 rfl (Nat.le_of_ble_eq_true rfl) rfl rfl ?_
      refine r_aload_n 0 dX5_digest_91 rfl rfl ?_
      refine r_get 0 fk_X5_7 dX5_digest_92 rfl rfl ?_
      refine r_bipush (nI 31) dX5_digest_95 (by decide +kernel) ?_
      refine r_iload_n 3 dX5_digest_97 rfl rfl ?_
      refine r_niadd dX5_digest_98 ?_
      refine r_iald 1 (31 + i) dX5_digest_99 rfl rfl rfl (by omega) (Nat.le_of_ble_eq_true rfl) ?_
      refine r_iconst (-1) dX5_digest_100 (by decide +kernel) ?_
      refine r_icmp_eq 121 dX5_digest_101 (by decide) (fun hq2 => ?_) (fun hq2 => ?_)
      · refine r_iinc (v := nI (i + 1)) ([some (.ref (m 0)), some (.long ((31 * z) + ((ρ (31 + i)).toInt64))), none, some (.int (nI (i + 1)))]) dX5_digest_121 rfl (nI_1 _) (Nat.le_of_ble_eq_true rfl) rfl rfl ?_
        refine r_goto 64 dX5_digest_124 (by decide) ?_
        exact ih (i + 1) _ (by rw [hz, dgC_0 hq2]) (by omega) (by omega)
      · refine r_ldc2 (v := 31) cq_X5_179 dX5_digest_104 ?_
        refine r_lload_n 1 dX5_digest_107 rfl rfl ?_
        refine r_lmul dX5_digest_108 ?_
        refine r_aload_n 0 dX5_digest_109 rfl rfl ?_
        refine r_get 0 fk_X5_7 dX5_digest_110 rfl rfl ?_
        refine r_bipush (nI 95) dX5_digest_113 (by decide +kernel) ?_
        refine r_iload_n 3 dX5_digest_115 rfl rfl ?_
        refine r_niadd dX5_digest_116 ?_
        refine r_iald 1 (95 + i) dX5_digest_117 rfl rfl rfl (by omega) (Nat.le_of_ble_eq_true rfl) ?_
        refine r_i2l dX5_digest_118 ?_
        refine r_ladd dX5_digest_119 ?_
        refine r_lstore_n 1 ([some (.ref (m 0)), some (.long ((31 * ((31 * z) + ((ρ (31 + i)).toInt64))) + ((ρ (95 + i)).toInt64))), none, some (.int (nI i))]) dX5_digest_120 rfl (Nat.le_of_ble_eq_true rfl) rfl rfl ?_
        refine r_iinc (v := nI (i + 1)) ([some (.ref (m 0)), some (.long ((31 * ((31 * z) + ((ρ (31 + i)).toInt64))) + ((ρ (95 + i)).toInt64))), none, some (.int (nI (i + 1)))]) dX5_digest_121 rfl (nI_1 _) (Nat.le_of_ble_eq_true rfl) rfl rfl ?_
        refine r_goto 64 dX5_digest_124 (by decide) ?_
        exact ih (i + 1) _ (by rw [hz, dgC_1 hq2]) (by omega) (by omega)

set_option maxRecDepth 100000 in
set_option maxHeartbeats 4000000 in
theorem c_X5_digest (l : Launch) (D : va_G) (cA cB : ClassId) (m : Nat → Nat) (ρ P : Nat → Int32) (h : Nat) (α rf K V C : Nat → Int32) (my cm : Int32) (tx : Nat → Int32) (tl : Nat) (sp : Int32) (od : Nat → Int32) (no ft : Int32) (n : Nat) (hsz : ρ 0 = nI n) (h3 : n = 16 ∨ n = 32 ∨ n = 64) (g : Nat) (hg : ρ 6 = nI g) (hg8 : g ≤ 8) : Mt l D (tyS cA cB) yX5_digest cX5_digest 4 (some .long) ({ frames := 2, cells := 0, slots := 0, locals := 45 } : Room) [.ref (m 0)] (mdW cA m ρ P (nI (h)) α rf K V C my cm tx (nI (tl)) sp od no ft) Unit (fun v _ => v = some (.long (dgA ρ rf n g tl h))) (fun _ => mdW cA m ρ P (nI (h)) α rf K V C my cm tx (nI (tl)) sp od no ft) 0 0 := by
  refine mt_in RX5 ([some (.ref (m 0)), none, none, none]) rfl (by decide +kernel) rfl (Nat.le_of_ble_eq_true rfl) rfl rfl (fun X sz => ?_)
  have hb := n16 h3
  refine r_aload_n 0 dX5_digest_0 rfl rfl ?_
  refine r_iconst (nI 0) dX5_digest_1 (by decide +kernel) ?_
  refine r_put 0 (mdW cA m ρ P (nI (h)) α rf K V C my cm tx (nI (tl)) sp od no ft) fk_X5_37 dX5_digest_2 rfl rfl rfl rfl (Nat.le_of_ble_eq_true rfl) rfl ?_
  refine r_ldc2 (v := 1837) cq_X5_177 dX5_digest_5 ?_
  refine r_lstore_n 1 ([some (.ref (m 0)), some (.long (1837)), none, none]) dX5_digest_8 rfl (Nat.le_of_ble_eq_true rfl) rfl rfl ?_
  refine r_iconst (nI 0) dX5_digest_9 (by decide +kernel) ?_
  refine r_istore_n 3 ([some (.ref (m 0)), some (.long (1837)), none, some (.int (nI 0))]) dX5_digest_10 rfl (Nat.le_of_ble_eq_true rfl) rfl rfl ?_
  refine r_iload_n 3 dX5_digest_11 rfl rfl ?_
  refine r_iconst (nI 5) dX5_digest_12 (by decide +kernel) ?_
  refine r_ncmp_ge 35 (by omega) (by omega) dX5_digest_13 (by decide) (fun hq1 => ?_) (fun hq1 => ?_)
  · omega
  · refine r_ldc2 (v := 31) cq_X5_179 dX5_digest_16 ?_
    refine r_lload_n 1 dX5_digest_19 rfl rfl ?_
    refine r_lmul dX5_digest_20 ?_
    refine r_aload_n 0 dX5_digest_21 rfl rfl ?_
    refine r_iload_n 3 dX5_digest_22 rfl rfl ?_
    refine r_callV2 (As := [.int (nI 0)]) (st := [.long (31 * 1837)]) (fun _ => mdW cA m ρ P (nI (h)) α rf K V C my cm tx (nI (tl)) sp od no ft) [mdW cA m ρ P (nI (h)) α rf K V C my cm tx (nI (tl)) sp od no ft] [mdW cA m ρ P (nI (h)) α rf K V C my cm tx (nI (tl)) sp od no ft] [] (fun _ => [mdW cA m ρ P (nI (h)) α rf K V C my cm tx (nI (tl)) sp od no ft]) (fun _ => [mdW cA m ρ P (nI (h)) α rf K V C my cm tx (nI (tl)) sp od no ft]) (c_X5_toldOf l D cA cB m ρ P h α rf K V C my cm tx tl sp od no ft (0) (by omega)) kv_X5_toldOf ml_X5_174 dX5_digest_23 rfl rfl rfl rfl (segOk [0] rfl rfl rfl rfl) (fun _ => segOk [0] rfl rfl rfl rfl) rfl (Nat.le_of_ble_eq_true rfl) (fun v u h => ?_)
    subst h
    refine r_st (st' := [.int (toldF rf tl h 0), .long (31 * 1837)]) rfl ?_
    refine r_i2l dX5_digest_26 ?_
    refine r_ladd dX5_digest_27 ?_
    refine r_lstore_n 1 ([some (.ref (m 0)), some (.long ((31 * 1837) + ((toldF rf tl h 0).toInt64))), none, some (.int (nI 0))]) dX5_digest_28 rfl (Nat.le_of_ble_eq_true rfl) rfl rfl ?_
    refine r_iinc (v := nI (1)) ([some (.ref (m 0)), some (.long ((31 * 1837) + ((toldF rf tl h 0).toInt64))), none, some (.int (nI 1))]) dX5_digest_29 rfl (nI_add 0 1) (Nat.le_of_ble_eq_true rfl) rfl rfl ?_
    refine r_goto 11 dX5_digest_32 (by decide) ?_
    refine r_iload_n 3 dX5_digest_11 rfl rfl ?_
    refine r_iconst (nI 5) dX5_digest_12 (by decide +kernel) ?_
    refine r_ncmp_ge 35 (by omega) (by omega) dX5_digest_13 (by decide) (fun hq2 => ?_) (fun hq2 => ?_)
    · omega
    · refine r_ldc2 (v := 31) cq_X5_179 dX5_digest_16 ?_
      refine r_lload_n 1 dX5_digest_19 rfl rfl ?_
      refine r_lmul dX5_digest_20 ?_
      refine r_aload_n 0 dX5_digest_21 rfl rfl ?_
      refine r_iload_n 3 dX5_digest_22 rfl rfl ?_
      refine r_callV2 (As := [.int (nI 1)]) (st := [.long (31 * ((31 * 1837) + ((toldF rf tl h 0).toInt64)))]) (fun _ => mdW cA m ρ P (nI (h)) α rf K V C my cm tx (nI (tl)) sp od no ft) [mdW cA m ρ P (nI (h)) α rf K V C my cm tx (nI (tl)) sp od no ft] [mdW cA m ρ P (nI (h)) α rf K V C my cm tx (nI (tl)) sp od no ft] [] (fun _ => [mdW cA m ρ P (nI (h)) α rf K V C my cm tx (nI (tl)) sp od no ft]) (fun _ => [mdW cA m ρ P (nI (h)) α rf K V C my cm tx (nI (tl)) sp od no ft]) (c_X5_toldOf l D cA cB m ρ P h α rf K V C my cm tx tl sp od no ft (1) (by omega)) kv_X5_toldOf ml_X5_174 dX5_digest_23 rfl rfl rfl rfl (segOk [0] rfl rfl rfl rfl) (fun _ => segOk [0] rfl rfl rfl rfl) rfl (Nat.le_of_ble_eq_true rfl) (fun v u h => ?_)
      subst h
      refine r_st (st' := [.int (toldF rf tl h 1), .long (31 * ((31 * 1837) + ((toldF rf tl h 0).toInt64)))]) rfl ?_
      refine r_i2l dX5_digest_26 ?_
      refine r_ladd dX5_digest_27 ?_
      refine r_lstore_n 1 ([some (.ref (m 0)), some (.long ((31 * ((31 * 1837) + ((toldF rf tl h 0).toInt64))) + ((toldF rf tl h 1).toInt64))), none, some (.int (nI 1))]) dX5_digest_28 rfl (Nat.le_of_ble_eq_true rfl) rfl rfl ?_
      refine r_iinc (v := nI (2)) ([some (.ref (m 0)), some (.long ((31 * ((31 * 1837) + ((toldF rf tl h 0).toInt64))) + ((toldF rf tl h 1).toInt64))), none, some (.int (nI 2))]) dX5_digest_29 rfl (nI_add 1 1) (Nat.le_of_ble_eq_true rfl) rfl rfl ?_
      refine r_goto 11 dX5_digest_32 (by decide) ?_
      refine r_iload_n 3 dX5_digest_11 rfl rfl ?_
      refine r_iconst (nI 5) dX5_digest_12 (by decide +kernel) ?_
      refine r_ncmp_ge 35 (by omega) (by omega) dX5_digest_13 (by decide) (fun hq3 => ?_) (fun hq3 => ?_)
      · omega
      · refine r_ldc2 (v := 31) cq_X5_179 dX5_digest_16 ?_
        refine r_lload_n 1 dX5_digest_19 rfl rfl ?_
        refine r_lmul dX5_digest_20 ?_
        refine r_aload_n 0 dX5_digest_21 rfl rfl ?_
        refine r_iload_n 3 dX5_digest_22 rfl rfl ?_
        refine r_callV2 (As := [.int (nI 2)]) (st := [.long (31 * ((31 * ((31 * 1837) + ((toldF rf tl h 0).toInt64))) + ((toldF rf tl h 1).toInt64)))]) (fun _ => mdW cA m ρ P (nI (h)) α rf K V C my cm tx (nI (tl)) sp od no ft) [mdW cA m ρ P (nI (h)) α rf K V C my cm tx (nI (tl)) sp od no ft] [mdW cA m ρ P (nI (h)) α rf K V C my cm tx (nI (tl)) sp od no ft] [] (fun _ => [mdW cA m ρ P (nI (h)) α rf K V C my cm tx (nI (tl)) sp od no ft]) (fun _ => [mdW cA m ρ P (nI (h)) α rf K V C my cm tx (nI (tl)) sp od no ft]) (c_X5_toldOf l D cA cB m ρ P h α rf K V C my cm tx tl sp od no ft (2) (by omega)) kv_X5_toldOf ml_X5_174 dX5_digest_23 rfl rfl rfl rfl (segOk [0] rfl rfl rfl rfl) (fun _ => segOk [0] rfl rfl rfl rfl) rfl (Nat.le_of_ble_eq_true rfl) (fun v u h => ?_)
        subst h
        refine r_st (st' := [.int (toldF rf tl h 2), .long (31 * ((31 * ((31 * 1837) + ((toldF rf tl h 0).toInt64))) + ((toldF rf tl h 1).toInt64)))]) rfl ?_
        refine r_i2l dX5_digest_26 ?_
        refine r_ladd dX5_digest_27 ?_
        refine r_lstore_n 1 ([some (.ref (m 0)), some (.long ((31 * ((31 * ((31 * 1837) + ((toldF rf tl h 0).toInt64))) + ((toldF rf tl h 1).toInt64))) + ((toldF rf tl h 2).toInt64))), none, some (.int (nI 2))]) dX5_digest_28 rfl (Nat.le_of_ble_eq_true rfl) rfl rfl ?_
        refine r_iinc (v := nI (3)) ([some (.ref (m 0)), some (.long ((31 * ((31 * ((31 * 1837) + ((toldF rf tl h 0).toInt64))) + ((toldF rf tl h 1).toInt64))) + ((toldF rf tl h 2).toInt64))), none, some (.int (nI 3))]) dX5_digest_29 rfl (nI_add 2 1) (Nat.le_of_ble_eq_true rfl) rfl rfl ?_
        refine r_goto 11 dX5_digest_32 (by decide) ?_
        refine r_iload_n 3 dX5_digest_11 rfl rfl ?_
        refine r_iconst (nI 5) dX5_digest_12 (by decide +kernel) ?_
        refine r_ncmp_ge 35 (by omega) (by omega) dX5_digest_13 (by decide) (fun hq4 => ?_) (fun hq4 => ?_)
        · omega
        · refine r_ldc2 (v := 31) cq_X5_179 dX5_digest_16 ?_
          refine r_lload_n 1 dX5_digest_19 rfl rfl ?_
          refine r_lmul dX5_digest_20 ?_
          refine r_aload_n 0 dX5_digest_21 rfl rfl ?_
          refine r_iload_n 3 dX5_digest_22 rfl rfl ?_
          refine r_callV2 (As := [.int (nI 3)]) (st := [.long (31 * ((31 * ((31 * ((31 * 1837) + ((toldF rf tl h 0).toInt64))) + ((toldF rf tl h 1).toInt64))) + ((toldF rf tl h 2).toInt64)))]) (fun _ => mdW cA m ρ P (nI (h)) α rf K V C my cm tx (nI (tl)) sp od no ft) [mdW cA m ρ P (nI (h)) α rf K V C my cm tx (nI (tl)) sp od no ft] [mdW cA m ρ P (nI (h)) α rf K V C my cm tx (nI (tl)) sp od no ft] [] (fun _ => [mdW cA m ρ P (nI (h)) α rf K V C my cm tx (nI (tl)) sp od no ft]) (fun _ => [mdW cA m ρ P (nI (h)) α rf K V C my cm tx (nI (tl)) sp od no ft]) (c_X5_toldOf l D cA cB m ρ P h α rf K V C my cm tx tl sp od no ft (3) (by omega)) kv_X5_toldOf ml_X5_174 dX5_digest_23 rfl rfl rfl rfl (segOk [0] rfl rfl rfl rfl) (fun _ => segOk [0] rfl rfl rfl rfl) rfl (Nat.le_of_ble_eq_true rfl) (fun v u h => ?_)
          subst h
          refine r_st (st' := [.int (toldF rf tl h 3), .long (31 * ((31 * ((31 * ((31 * 1837) + ((toldF rf tl h 0).toInt64))) + ((toldF rf tl h 1).toInt64))) + ((toldF rf tl h 2).toInt64)))]) rfl ?_
          refine r_i2l dX5_digest_26 ?_
          refine r_ladd dX5_digest_27 ?_
          refine r_lstore_n 1 ([some (.ref (m 0)), some (.long ((31 * ((31 * ((31 * ((31 * 1837) + ((toldF rf tl h 0).toInt64))) + ((toldF rf tl h 1).toInt64))) + ((toldF rf tl h 2).toInt64))) + ((toldF rf tl h 3).toInt64))), none, some (.int (nI 3))]) dX5_digest_28 rfl (Nat.le_of_ble_eq_true rfl) rfl rfl ?_
          refine r_iinc (v := nI (4)) ([some (.ref (m 0)), some (.long ((31 * ((31 * ((31 * ((31 * 1837) + ((toldF rf tl h 0).toInt64))) + ((toldF rf tl h 1).toInt64))) + ((toldF rf tl h 2).toInt64))) + ((toldF rf tl h 3).toInt64))), none, some (.int (nI 4))]) dX5_digest_29 rfl (nI_add 3 1) (Nat.le_of_ble_eq_true rfl) rfl rfl ?_
          refine r_goto 11 dX5_digest_32 (by decide) ?_
          refine r_iload_n 3 dX5_digest_11 rfl rfl ?_
          refine r_iconst (nI 5) dX5_digest_12 (by decide +kernel) ?_
          refine r_ncmp_ge 35 (by omega) (by omega) dX5_digest_13 (by decide) (fun hq5 => ?_) (fun hq5 => ?_)
          · omega
          · refine r_ldc2 (v := 31) cq_X5_179 dX5_digest_16 ?_
            refine r_lload_n 1 dX5_digest_19 rfl rfl ?_
            refine r_lmul dX5_digest_20 ?_
            refine r_aload_n 0 dX5_digest_21 rfl rfl ?_
            refine r_iload_n 3 dX5_digest_22 rfl rfl ?_
            refine r_callV2 (As := [.int (nI 4)]) (st := [.long (31 * ((31 * ((31 * ((31 * ((31 * 1837) + ((toldF rf tl h 0).toInt64))) + ((toldF rf tl h 1).toInt64))) + ((toldF rf tl h 2).toInt64))) + ((toldF rf tl h 3).toInt64)))]) (fun _ => mdW cA m ρ P (nI (h)) α rf K V C my cm tx (nI (tl)) sp od no ft) [mdW cA m ρ P (nI (h)) α rf K V C my cm tx (nI (tl)) sp od no ft] [mdW cA m ρ P (nI (h)) α rf K V C my cm tx (nI (tl)) sp od no ft] [] (fun _ => [mdW cA m ρ P (nI (h)) α rf K V C my cm tx (nI (tl)) sp od no ft]) (fun _ => [mdW cA m ρ P (nI (h)) α rf K V C my cm tx (nI (tl)) sp od no ft]) (c_X5_toldOf l D cA cB m ρ P h α rf K V C my cm tx tl sp od no ft (4) (by omega)) kv_X5_toldOf ml_X5_174 dX5_digest_23 rfl rfl rfl rfl (segOk [0] rfl rfl rfl rfl) (fun _ => segOk [0] rfl rfl rfl rfl) rfl (Nat.le_of_ble_eq_true rfl) (fun v u h => ?_)
            subst h
            refine r_st (st' := [.int (toldF rf tl h 4), .long (31 * ((31 * ((31 * ((31 * ((31 * 1837) + ((toldF rf tl h 0).toInt64))) + ((toldF rf tl h 1).toInt64))) + ((toldF rf tl h 2).toInt64))) + ((toldF rf tl h 3).toInt64)))]) rfl ?_
            refine r_i2l dX5_digest_26 ?_
            refine r_ladd dX5_digest_27 ?_
            refine r_lstore_n 1 ([some (.ref (m 0)), some (.long ((31 * ((31 * ((31 * ((31 * ((31 * 1837) + ((toldF rf tl h 0).toInt64))) + ((toldF rf tl h 1).toInt64))) + ((toldF rf tl h 2).toInt64))) + ((toldF rf tl h 3).toInt64))) + ((toldF rf tl h 4).toInt64))), none, some (.int (nI 4))]) dX5_digest_28 rfl (Nat.le_of_ble_eq_true rfl) rfl rfl ?_
            refine r_iinc (v := nI (5)) ([some (.ref (m 0)), some (.long ((31 * ((31 * ((31 * ((31 * ((31 * 1837) + ((toldF rf tl h 0).toInt64))) + ((toldF rf tl h 1).toInt64))) + ((toldF rf tl h 2).toInt64))) + ((toldF rf tl h 3).toInt64))) + ((toldF rf tl h 4).toInt64))), none, some (.int (nI 5))]) dX5_digest_29 rfl (nI_add 4 1) (Nat.le_of_ble_eq_true rfl) rfl rfl ?_
            refine r_goto 11 dX5_digest_32 (by decide) ?_
            refine r_iload_n 3 dX5_digest_11 rfl rfl ?_
            refine r_iconst (nI 5) dX5_digest_12 (by decide +kernel) ?_
            refine r_ncmp_ge 35 (by omega) (by omega) dX5_digest_13 (by decide) (fun hq6 => ?_) (fun hq6 => ?_)
            · refine r_iconst (nI 0) dX5_digest_35 (by decide +kernel) ?_
              refine r_istore_n 3 ([some (.ref (m 0)), some (.long ((31 * ((31 * ((31 * ((31 * ((31 * 1837) + ((toldF rf tl h 0).toInt64))) + ((toldF rf tl h 1).toInt64))) + ((toldF rf tl h 2).toInt64))) + ((toldF rf tl h 3).toInt64))) + ((toldF rf tl h 4).toInt64))), none, some (.int (nI 0))]) dX5_digest_36 rfl (Nat.le_of_ble_eq_true rfl) rfl rfl ?_
              refine r_iload_n 3 dX5_digest_37 rfl rfl ?_
              refine r_bipush (nI 7) dX5_digest_38 (by decide +kernel) ?_
              refine r_ncmp_ge 62 (by omega) (by omega) dX5_digest_40 (by decide) (fun hq7 => ?_) (fun hq7 => ?_)
              · omega
              · refine r_ldc2 (v := 31) cq_X5_179 dX5_digest_43 ?_
                refine r_lload_n 1 dX5_digest_46 rfl rfl ?_
                refine r_lmul dX5_digest_47 ?_
                refine r_aload_n 0 dX5_digest_48 rfl rfl ?_
                refine r_iload_n 3 dX5_digest_49 rfl rfl ?_
                refine r_callV2 (As := [.int (nI 0)]) (st := [.long (31 * ((31 * ((31 * ((31 * ((31 * ((31 * 1837) + ((toldF rf tl h 0).toInt64))) + ((toldF rf tl h 1).toInt64))) + ((toldF rf tl h 2).toInt64))) + ((toldF rf tl h 3).toInt64))) + ((toldF rf tl h 4).toInt64)))]) (fun _ => mdW cA m ρ P (nI (h)) α rf K V C my cm tx (nI (tl)) sp od no ft) [mdW cA m ρ P (nI (h)) α rf K V C my cm tx (nI (tl)) sp od no ft] [mdW cA m ρ P (nI (h)) α rf K V C my cm tx (nI (tl)) sp od no ft] [] (fun _ => [mdW cA m ρ P (nI (h)) α rf K V C my cm tx (nI (tl)) sp od no ft]) (fun _ => [mdW cA m ρ P (nI (h)) α rf K V C my cm tx (nI (tl)) sp od no ft]) (c_X5_countOf l D cA cB m ρ P (nI (h)) α rf K V C my cm tx (nI (tl)) sp od no ft n (hsz) h3 (0) (by omega)) kv_X5_countOf ml_X5_134 dX5_digest_50 rfl rfl rfl rfl (segOk [0] rfl rfl rfl rfl) (fun _ => segOk [0] rfl rfl rfl rfl) rfl (Nat.le_of_ble_eq_true rfl) (fun v u h => ?_)
                subst h
                refine r_st (st' := [.int (countF ρ n 0), .long (31 * ((31 * ((31 * ((31 * ((31 * ((31 * 1837) + ((toldF rf tl h 0).toInt64))) + ((toldF rf tl h 1).toInt64))) + ((toldF rf tl h 2).toInt64))) + ((toldF rf tl h 3).toInt64))) + ((toldF rf tl h 4).toInt64)))]) rfl ?_
                refine r_i2l dX5_digest_53 ?_
                refine r_ladd dX5_digest_54 ?_
                refine r_lstore_n 1 ([some (.ref (m 0)), some (.long ((31 * ((31 * ((31 * ((31 * ((31 * ((31 * 1837) + ((toldF rf tl h 0).toInt64))) + ((toldF rf tl h 1).toInt64))) + ((toldF rf tl h 2).toInt64))) + ((toldF rf tl h 3).toInt64))) + ((toldF rf tl h 4).toInt64))) + ((countF ρ n 0).toInt64))), none, some (.int (nI 0))]) dX5_digest_55 rfl (Nat.le_of_ble_eq_true rfl) rfl rfl ?_
                refine r_iinc (v := nI (1)) ([some (.ref (m 0)), some (.long ((31 * ((31 * ((31 * ((31 * ((31 * ((31 * 1837) + ((toldF rf tl h 0).toInt64))) + ((toldF rf tl h 1).toInt64))) + ((toldF rf tl h 2).toInt64))) + ((toldF rf tl h 3).toInt64))) + ((toldF rf tl h 4).toInt64))) + ((countF ρ n 0).toInt64))), none, some (.int (nI 1))]) dX5_digest_56 rfl (nI_add 0 1) (Nat.le_of_ble_eq_true rfl) rfl rfl ?_
                refine r_goto 37 dX5_digest_59 (by decide) ?_
                refine r_iload_n 3 dX5_digest_37 rfl rfl ?_
                refine r_bipush (nI 7) dX5_digest_38 (by decide +kernel) ?_
                refine r_ncmp_ge 62 (by omega) (by omega) dX5_digest_40 (by decide) (fun hq8 => ?_) (fun hq8 => ?_)
                · omega
                · refine r_ldc2 (v := 31) cq_X5_179 dX5_digest_43 ?_
                  refine r_lload_n 1 dX5_digest_46 rfl rfl ?_
                  refine r_lmul dX5_digest_47 ?_
                  refine r_aload_n 0 dX5_digest_48 rfl rfl ?_
                  refine r_iload_n 3 dX5_digest_49 rfl rfl ?_
                  refine r_callV2 (As := [.int (nI 1)]) (st := [.long (31 * ((31 * ((31 * ((31 * ((31 * ((31 * ((31 * 1837) + ((toldF rf tl h 0).toInt64))) + ((toldF rf tl h 1).toInt64))) + ((toldF rf tl h 2).toInt64))) + ((toldF rf tl h 3).toInt64))) + ((toldF rf tl h 4).toInt64))) + ((countF ρ n 0).toInt64)))]) (fun _ => mdW cA m ρ P (nI (h)) α rf K V C my cm tx (nI (tl)) sp od no ft) [mdW cA m ρ P (nI (h)) α rf K V C my cm tx (nI (tl)) sp od no ft] [mdW cA m ρ P (nI (h)) α rf K V C my cm tx (nI (tl)) sp od no ft] [] (fun _ => [mdW cA m ρ P (nI (h)) α rf K V C my cm tx (nI (tl)) sp od no ft]) (fun _ => [mdW cA m ρ P (nI (h)) α rf K V C my cm tx (nI (tl)) sp od no ft]) (c_X5_countOf l D cA cB m ρ P (nI (h)) α rf K V C my cm tx (nI (tl)) sp od no ft n (hsz) h3 (1) (by omega)) kv_X5_countOf ml_X5_134 dX5_digest_50 rfl rfl rfl rfl (segOk [0] rfl rfl rfl rfl) (fun _ => segOk [0] rfl rfl rfl rfl) rfl (Nat.le_of_ble_eq_true rfl) (fun v u h => ?_)
                  subst h
                  refine r_st (st' := [.int (countF ρ n 1), .long (31 * ((31 * ((31 * ((31 * ((31 * ((31 * ((31 * 1837) + ((toldF rf tl h 0).toInt64))) + ((toldF rf tl h 1).toInt64))) + ((toldF rf tl h 2).toInt64))) + ((toldF rf tl h 3).toInt64))) + ((toldF rf tl h 4).toInt64))) + ((countF ρ n 0).toInt64)))]) rfl ?_
                  refine r_i2l dX5_digest_53 ?_
                  refine r_ladd dX5_digest_54 ?_
                  refine r_lstore_n 1 ([some (.ref (m 0)), some (.long ((31 * ((31 * ((31 * ((31 * ((31 * ((31 * ((31 * 1837) + ((toldF rf tl h 0).toInt64))) + ((toldF rf tl h 1).toInt64))) + ((toldF rf tl h 2).toInt64))) + ((toldF rf tl h 3).toInt64))) + ((toldF rf tl h 4).toInt64))) + ((countF ρ n 0).toInt64))) + ((countF ρ n 1).toInt64))), none, some (.int (nI 1))]) dX5_digest_55 rfl (Nat.le_of_ble_eq_true rfl) rfl rfl ?_
                  refine r_iinc (v := nI (2)) ([some (.ref (m 0)), some (.long ((31 * ((31 * ((31 * ((31 * ((31 * ((31 * ((31 * 1837) + ((toldF rf tl h 0).toInt64))) + ((toldF rf tl h 1).toInt64))) + ((toldF rf tl h 2).toInt64))) + ((toldF rf tl h 3).toInt64))) + ((toldF rf tl h 4).toInt64))) + ((countF ρ n 0).toInt64))) + ((countF ρ n 1).toInt64))), none, some (.int (nI 2))]) dX5_digest_56 rfl (nI_add 1 1) (Nat.le_of_ble_eq_true rfl) rfl rfl ?_
                  refine r_goto 37 dX5_digest_59 (by decide) ?_
                  refine r_iload_n 3 dX5_digest_37 rfl rfl ?_
                  refine r_bipush (nI 7) dX5_digest_38 (by decide +kernel) ?_
                  refine r_ncmp_ge 62 (by omega) (by omega) dX5_digest_40 (by decide) (fun hq9 => ?_) (fun hq9 => ?_)
                  · omega
                  · refine r_ldc2 (v := 31) cq_X5_179 dX5_digest_43 ?_
                    refine r_lload_n 1 dX5_digest_46 rfl rfl ?_
                    refine r_lmul dX5_digest_47 ?_
                    refine r_aload_n 0 dX5_digest_48 rfl rfl ?_
                    refine r_iload_n 3 dX5_digest_49 rfl rfl ?_
                    refine r_callV2 (As := [.int (nI 2)]) (st := [.long (31 * ((31 * ((31 * ((31 * ((31 * ((31 * ((31 * ((31 * 1837) + ((toldF rf tl h 0).toInt64))) + ((toldF rf tl h 1).toInt64))) + ((toldF rf tl h 2).toInt64))) + ((toldF rf tl h 3).toInt64))) + ((toldF rf tl h 4).toInt64))) + ((countF ρ n 0).toInt64))) + ((countF ρ n 1).toInt64)))]) (fun _ => mdW cA m ρ P (nI (h)) α rf K V C my cm tx (nI (tl)) sp od no ft) [mdW cA m ρ P (nI (h)) α rf K V C my cm tx (nI (tl)) sp od no ft] [mdW cA m ρ P (nI (h)) α rf K V C my cm tx (nI (tl)) sp od no ft] [] (fun _ => [mdW cA m ρ P (nI (h)) α rf K V C my cm tx (nI (tl)) sp od no ft]) (fun _ => [mdW cA m ρ P (nI (h)) α rf K V C my cm tx (nI (tl)) sp od no ft]) (c_X5_countOf l D cA cB m ρ P (nI (h)) α rf K V C my cm tx (nI (tl)) sp od no ft n (hsz) h3 (2) (by omega)) kv_X5_countOf ml_X5_134 dX5_digest_50 rfl rfl rfl rfl (segOk [0] rfl rfl rfl rfl) (fun _ => segOk [0] rfl rfl rfl rfl) rfl (Nat.le_of_ble_eq_true rfl) (fun v u h => ?_)
                    subst h
                    refine r_st (st' := [.int (countF ρ n 2), .long (31 * ((31 * ((31 * ((31 * ((31 * ((31 * ((31 * ((31 * 1837) + ((toldF rf tl h 0).toInt64))) + ((toldF rf tl h 1).toInt64))) + ((toldF rf tl h 2).toInt64))) + ((toldF rf tl h 3).toInt64))) + ((toldF rf tl h 4).toInt64))) + ((countF ρ n 0).toInt64))) + ((countF ρ n 1).toInt64)))]) rfl ?_
                    refine r_i2l dX5_digest_53 ?_
                    refine r_ladd dX5_digest_54 ?_
                    refine r_lstore_n 1 ([some (.ref (m 0)), some (.long ((31 * ((31 * ((31 * ((31 * ((31 * ((31 * ((31 * ((31 * 1837) + ((toldF rf tl h 0).toInt64))) + ((toldF rf tl h 1).toInt64))) + ((toldF rf tl h 2).toInt64))) + ((toldF rf tl h 3).toInt64))) + ((toldF rf tl h 4).toInt64))) + ((countF ρ n 0).toInt64))) + ((countF ρ n 1).toInt64))) + ((countF ρ n 2).toInt64))), none, some (.int (nI 2))]) dX5_digest_55 rfl (Nat.le_of_ble_eq_true rfl) rfl rfl ?_
                    refine r_iinc (v := nI (3)) ([some (.ref (m 0)), some (.long ((31 * ((31 * ((31 * ((31 * ((31 * ((31 * ((31 * ((31 * 1837) + ((toldF rf tl h 0).toInt64))) + ((toldF rf tl h 1).toInt64))) + ((toldF rf tl h 2).toInt64))) + ((toldF rf tl h 3).toInt64))) + ((toldF rf tl h 4).toInt64))) + ((countF ρ n 0).toInt64))) + ((countF ρ n 1).toInt64))) + ((countF ρ n 2).toInt64))), none, some (.int (nI 3))]) dX5_digest_56 rfl (nI_add 2 1) (Nat.le_of_ble_eq_true rfl) rfl rfl ?_
                    refine r_goto 37 dX5_digest_59 (by decide) ?_
                    refine r_iload_n 3 dX5_digest_37 rfl rfl ?_
                    refine r_bipush (nI 7) dX5_digest_38 (by decide +kernel) ?_
                    refine r_ncmp_ge 62 (by omega) (by omega) dX5_digest_40 (by decide) (fun hq10 => ?_) (fun hq10 => ?_)
                    · omega
                    · refine r_ldc2 (v := 31) cq_X5_179 dX5_digest_43 ?_
                      refine r_lload_n 1 dX5_digest_46 rfl rfl ?_
                      refine r_lmul dX5_digest_47 ?_
                      refine r_aload_n 0 dX5_digest_48 rfl rfl ?_
                      refine r_iload_n 3 dX5_digest_49 rfl rfl ?_
                      refine r_callV2 (As := [.int (nI 3)]) (st := [.long (31 * ((31 * ((31 * ((31 * ((31 * ((31 * ((31 * ((31 * ((31 * 1837) + ((toldF rf tl h 0).toInt64))) + ((toldF rf tl h 1).toInt64))) + ((toldF rf tl h 2).toInt64))) + ((toldF rf tl h 3).toInt64))) + ((toldF rf tl h 4).toInt64))) + ((countF ρ n 0).toInt64))) + ((countF ρ n 1).toInt64))) + ((countF ρ n 2).toInt64)))]) (fun _ => mdW cA m ρ P (nI (h)) α rf K V C my cm tx (nI (tl)) sp od no ft) [mdW cA m ρ P (nI (h)) α rf K V C my cm tx (nI (tl)) sp od no ft] [mdW cA m ρ P (nI (h)) α rf K V C my cm tx (nI (tl)) sp od no ft] [] (fun _ => [mdW cA m ρ P (nI (h)) α rf K V C my cm tx (nI (tl)) sp od no ft]) (fun _ => [mdW cA m ρ P (nI (h)) α rf K V C my cm tx (nI (tl)) sp od no ft]) (c_X5_countOf l D cA cB m ρ P (nI (h)) α rf K V C my cm tx (nI (tl)) sp od no ft n (hsz) h3 (3) (by omega)) kv_X5_countOf ml_X5_134 dX5_digest_50 rfl rfl rfl rfl (segOk [0] rfl rfl rfl rfl) (fun _ => segOk [0] rfl rfl rfl rfl) rfl (Nat.le_of_ble_eq_true rfl) (fun v u h => ?_)
                      subst h
                      refine r_st (st' := [.int (countF ρ n 3), .long (31 * ((31 * ((31 * ((31 * ((31 * ((31 * ((31 * ((31 * ((31 * 1837) + ((toldF rf tl h 0).toInt64))) + ((toldF rf tl h 1).toInt64))) + ((toldF rf tl h 2).toInt64))) + ((toldF rf tl h 3).toInt64))) + ((toldF rf tl h 4).toInt64))) + ((countF ρ n 0).toInt64))) + ((countF ρ n 1).toInt64))) + ((countF ρ n 2).toInt64)))]) rfl ?_
                      refine r_i2l dX5_digest_53 ?_
                      refine r_ladd dX5_digest_54 ?_
                      refine r_lstore_n 1 ([some (.ref (m 0)), some (.long ((31 * ((31 * ((31 * ((31 * ((31 * ((31 * ((31 * ((31 * ((31 * 1837) + ((toldF rf tl h 0).toInt64))) + ((toldF rf tl h 1).toInt64))) + ((toldF rf tl h 2).toInt64))) + ((toldF rf tl h 3).toInt64))) + ((toldF rf tl h 4).toInt64))) + ((countF ρ n 0).toInt64))) + ((countF ρ n 1).toInt64))) + ((countF ρ n 2).toInt64))) + ((countF ρ n 3).toInt64))), none, some (.int (nI 3))]) dX5_digest_55 rfl (Nat.le_of_ble_eq_true rfl) rfl rfl ?_
                      refine r_iinc (v := nI (4)) ([some (.ref (m 0)), some (.long ((31 * ((31 * ((31 * ((31 * ((31 * ((31 * ((31 * ((31 * ((31 * 1837) + ((toldF rf tl h 0).toInt64))) + ((toldF rf tl h 1).toInt64))) + ((toldF rf tl h 2).toInt64))) + ((toldF rf tl h 3).toInt64))) + ((toldF rf tl h 4).toInt64))) + ((countF ρ n 0).toInt64))) + ((countF ρ n 1).toInt64))) + ((countF ρ n 2).toInt64))) + ((countF ρ n 3).toInt64))), none, some (.int (nI 4))]) dX5_digest_56 rfl (nI_add 3 1) (Nat.le_of_ble_eq_true rfl) rfl rfl ?_
                      refine r_goto 37 dX5_digest_59 (by decide) ?_
                      refine r_iload_n 3 dX5_digest_37 rfl rfl ?_
                      refine r_bipush (nI 7) dX5_digest_38 (by decide +kernel) ?_
                      refine r_ncmp_ge 62 (by omega) (by omega) dX5_digest_40 (by decide) (fun hq11 => ?_) (fun hq11 => ?_)
                      · omega
                      · refine r_ldc2 (v := 31) cq_X5_179 dX5_digest_43 ?_
                        refine r_lload_n 1 dX5_digest_46 rfl rfl ?_
                        refine r_lmul dX5_digest_47 ?_
                        refine r_aload_n 0 dX5_digest_48 rfl rfl ?_
                        refine r_iload_n 3 dX5_digest_49 rfl rfl ?_
                        refine r_callV2 (As := [.int (nI 4)]) (st := [.long (31 * ((31 * ((31 * ((31 * ((31 * ((31 * ((31 * ((31 * ((31 * ((31 * 1837) + ((toldF rf tl h 0).toInt64))) + ((toldF rf tl h 1).toInt64))) + ((toldF rf tl h 2).toInt64))) + ((toldF rf tl h 3).toInt64))) + ((toldF rf tl h 4).toInt64))) + ((countF ρ n 0).toInt64))) + ((countF ρ n 1).toInt64))) + ((countF ρ n 2).toInt64))) + ((countF ρ n 3).toInt64)))]) (fun _ => mdW cA m ρ P (nI (h)) α rf K V C my cm tx (nI (tl)) sp od no ft) [mdW cA m ρ P (nI (h)) α rf K V C my cm tx (nI (tl)) sp od no ft] [mdW cA m ρ P (nI (h)) α rf K V C my cm tx (nI (tl)) sp od no ft] [] (fun _ => [mdW cA m ρ P (nI (h)) α rf K V C my cm tx (nI (tl)) sp od no ft]) (fun _ => [mdW cA m ρ P (nI (h)) α rf K V C my cm tx (nI (tl)) sp od no ft]) (c_X5_countOf l D cA cB m ρ P (nI (h)) α rf K V C my cm tx (nI (tl)) sp od no ft n (hsz) h3 (4) (by omega)) kv_X5_countOf ml_X5_134 dX5_digest_50 rfl rfl rfl rfl (segOk [0] rfl rfl rfl rfl) (fun _ => segOk [0] rfl rfl rfl rfl) rfl (Nat.le_of_ble_eq_true rfl) (fun v u h => ?_)
                        subst h
                        refine r_st (st' := [.int (countF ρ n 4), .long (31 * ((31 * ((31 * ((31 * ((31 * ((31 * ((31 * ((31 * ((31 * ((31 * 1837) + ((toldF rf tl h 0).toInt64))) + ((toldF rf tl h 1).toInt64))) + ((toldF rf tl h 2).toInt64))) + ((toldF rf tl h 3).toInt64))) + ((toldF rf tl h 4).toInt64))) + ((countF ρ n 0).toInt64))) + ((countF ρ n 1).toInt64))) + ((countF ρ n 2).toInt64))) + ((countF ρ n 3).toInt64)))]) rfl ?_
                        refine r_i2l dX5_digest_53 ?_
                        refine r_ladd dX5_digest_54 ?_
                        refine r_lstore_n 1 ([some (.ref (m 0)), some (.long ((31 * ((31 * ((31 * ((31 * ((31 * ((31 * ((31 * ((31 * ((31 * ((31 * 1837) + ((toldF rf tl h 0).toInt64))) + ((toldF rf tl h 1).toInt64))) + ((toldF rf tl h 2).toInt64))) + ((toldF rf tl h 3).toInt64))) + ((toldF rf tl h 4).toInt64))) + ((countF ρ n 0).toInt64))) + ((countF ρ n 1).toInt64))) + ((countF ρ n 2).toInt64))) + ((countF ρ n 3).toInt64))) + ((countF ρ n 4).toInt64))), none, some (.int (nI 4))]) dX5_digest_55 rfl (Nat.le_of_ble_eq_true rfl) rfl rfl ?_
                        refine r_iinc (v := nI (5)) ([some (.ref (m 0)), some (.long ((31 * ((31 * ((31 * ((31 * ((31 * ((31 * ((31 * ((31 * ((31 * ((31 * 1837) + ((toldF rf tl h 0).toInt64))) + ((toldF rf tl h 1).toInt64))) + ((toldF rf tl h 2).toInt64))) + ((toldF rf tl h 3).toInt64))) + ((toldF rf tl h 4).toInt64))) + ((countF ρ n 0).toInt64))) + ((countF ρ n 1).toInt64))) + ((countF ρ n 2).toInt64))) + ((countF ρ n 3).toInt64))) + ((countF ρ n 4).toInt64))), none, some (.int (nI 5))]) dX5_digest_56 rfl (nI_add 4 1) (Nat.le_of_ble_eq_true rfl) rfl rfl ?_
                        refine r_goto 37 dX5_digest_59 (by decide) ?_
                        refine r_iload_n 3 dX5_digest_37 rfl rfl ?_
                        refine r_bipush (nI 7) dX5_digest_38 (by decide +kernel) ?_
                        refine r_ncmp_ge 62 (by omega) (by omega) dX5_digest_40 (by decide) (fun hq12 => ?_) (fun hq12 => ?_)
                        · omega
                        · refine r_ldc2 (v := 31) cq_X5_179 dX5_digest_43 ?_
                          refine r_lload_n 1 dX5_digest_46 rfl rfl ?_
                          refine r_lmul dX5_digest_47 ?_
                          refine r_aload_n 0 dX5_digest_48 rfl rfl ?_
                          refine r_iload_n 3 dX5_digest_49 rfl rfl ?_
                          refine r_callV2 (As := [.int (nI 5)]) (st := [.long (31 * ((31 * ((31 * ((31 * ((31 * ((31 * ((31 * ((31 * ((31 * ((31 * ((31 * 1837) + ((toldF rf tl h 0).toInt64))) + ((toldF rf tl h 1).toInt64))) + ((toldF rf tl h 2).toInt64))) + ((toldF rf tl h 3).toInt64))) + ((toldF rf tl h 4).toInt64))) + ((countF ρ n 0).toInt64))) + ((countF ρ n 1).toInt64))) + ((countF ρ n 2).toInt64))) + ((countF ρ n 3).toInt64))) + ((countF ρ n 4).toInt64)))]) (fun _ => mdW cA m ρ P (nI (h)) α rf K V C my cm tx (nI (tl)) sp od no ft) [mdW cA m ρ P (nI (h)) α rf K V C my cm tx (nI (tl)) sp od no ft] [mdW cA m ρ P (nI (h)) α rf K V C my cm tx (nI (tl)) sp od no ft] [] (fun _ => [mdW cA m ρ P (nI (h)) α rf K V C my cm tx (nI (tl)) sp od no ft]) (fun _ => [mdW cA m ρ P (nI (h)) α rf K V C my cm tx (nI (tl)) sp od no ft]) (c_X5_countOf l D cA cB m ρ P (nI (h)) α rf K V C my cm tx (nI (tl)) sp od no ft n (hsz) h3 (5) (by omega)) kv_X5_countOf ml_X5_134 dX5_digest_50 rfl rfl rfl rfl (segOk [0] rfl rfl rfl rfl) (fun _ => segOk [0] rfl rfl rfl rfl) rfl (Nat.le_of_ble_eq_true rfl) (fun v u h => ?_)
                          subst h
                          refine r_st (st' := [.int (countF ρ n 5), .long (31 * ((31 * ((31 * ((31 * ((31 * ((31 * ((31 * ((31 * ((31 * ((31 * ((31 * 1837) + ((toldF rf tl h 0).toInt64))) + ((toldF rf tl h 1).toInt64))) + ((toldF rf tl h 2).toInt64))) + ((toldF rf tl h 3).toInt64))) + ((toldF rf tl h 4).toInt64))) + ((countF ρ n 0).toInt64))) + ((countF ρ n 1).toInt64))) + ((countF ρ n 2).toInt64))) + ((countF ρ n 3).toInt64))) + ((countF ρ n 4).toInt64)))]) rfl ?_
                          refine r_i2l dX5_digest_53 ?_
                          refine r_ladd dX5_digest_54 ?_
                          refine r_lstore_n 1 ([some (.ref (m 0)), some (.long ((31 * ((31 * ((31 * ((31 * ((31 * ((31 * ((31 * ((31 * ((31 * ((31 * ((31 * 1837) + ((toldF rf tl h 0).toInt64))) + ((toldF rf tl h 1).toInt64))) + ((toldF rf tl h 2).toInt64))) + ((toldF rf tl h 3).toInt64))) + ((toldF rf tl h 4).toInt64))) + ((countF ρ n 0).toInt64))) + ((countF ρ n 1).toInt64))) + ((countF ρ n 2).toInt64))) + ((countF ρ n 3).toInt64))) + ((countF ρ n 4).toInt64))) + ((countF ρ n 5).toInt64))), none, some (.int (nI 5))]) dX5_digest_55 rfl (Nat.le_of_ble_eq_true rfl) rfl rfl ?_
                          refine r_iinc (v := nI (6)) ([some (.ref (m 0)), some (.long ((31 * ((31 * ((31 * ((31 * ((31 * ((31 * ((31 * ((31 * ((31 * ((31 * ((31 * 1837) + ((toldF rf tl h 0).toInt64))) + ((toldF rf tl h 1).toInt64))) + ((toldF rf tl h 2).toInt64))) + ((toldF rf tl h 3).toInt64))) + ((toldF rf tl h 4).toInt64))) + ((countF ρ n 0).toInt64))) + ((countF ρ n 1).toInt64))) + ((countF ρ n 2).toInt64))) + ((countF ρ n 3).toInt64))) + ((countF ρ n 4).toInt64))) + ((countF ρ n 5).toInt64))), none, some (.int (nI 6))]) dX5_digest_56 rfl (nI_add 5 1) (Nat.le_of_ble_eq_true rfl) rfl rfl ?_
                          refine r_goto 37 dX5_digest_59 (by decide) ?_
                          refine r_iload_n 3 dX5_digest_37 rfl rfl ?_
                          refine r_bipush (nI 7) dX5_digest_38 (by decide +kernel) ?_
                          refine r_ncmp_ge 62 (by omega) (by omega) dX5_digest_40 (by decide) (fun hq13 => ?_) (fun hq13 => ?_)
                          · omega
                          · refine r_ldc2 (v := 31) cq_X5_179 dX5_digest_43 ?_
                            refine r_lload_n 1 dX5_digest_46 rfl rfl ?_
                            refine r_lmul dX5_digest_47 ?_
                            refine r_aload_n 0 dX5_digest_48 rfl rfl ?_
                            refine r_iload_n 3 dX5_digest_49 rfl rfl ?_
                            refine r_callV2 (As := [.int (nI 6)]) (st := [.long (31 * ((31 * ((31 * ((31 * ((31 * ((31 * ((31 * ((31 * ((31 * ((31 * ((31 * ((31 * 1837) + ((toldF rf tl h 0).toInt64))) + ((toldF rf tl h 1).toInt64))) + ((toldF rf tl h 2).toInt64))) + ((toldF rf tl h 3).toInt64))) + ((toldF rf tl h 4).toInt64))) + ((countF ρ n 0).toInt64))) + ((countF ρ n 1).toInt64))) + ((countF ρ n 2).toInt64))) + ((countF ρ n 3).toInt64))) + ((countF ρ n 4).toInt64))) + ((countF ρ n 5).toInt64)))]) (fun _ => mdW cA m ρ P (nI (h)) α rf K V C my cm tx (nI (tl)) sp od no ft) [mdW cA m ρ P (nI (h)) α rf K V C my cm tx (nI (tl)) sp od no ft] [mdW cA m ρ P (nI (h)) α rf K V C my cm tx (nI (tl)) sp od no ft] [] (fun _ => [mdW cA m ρ P (nI (h)) α rf K V C my cm tx (nI (tl)) sp od no ft]) (fun _ => [mdW cA m ρ P (nI (h)) α rf K V C my cm tx (nI (tl)) sp od no ft]) (c_X5_countOf l D cA cB m ρ P (nI (h)) α rf K V C my cm tx (nI (tl)) sp od no ft n (hsz) h3 (6) (by omega)) kv_X5_countOf ml_X5_134 dX5_digest_50 rfl rfl rfl rfl (segOk [0] rfl rfl rfl rfl) (fun _ => segOk [0] rfl rfl rfl rfl) rfl (Nat.le_of_ble_eq_true rfl) (fun v u h => ?_)
                            subst h
                            refine r_st (st' := [.int (countF ρ n 6), .long (31 * ((31 * ((31 * ((31 * ((31 * ((31 * ((31 * ((31 * ((31 * ((31 * ((31 * ((31 * 1837) + ((toldF rf tl h 0).toInt64))) + ((toldF rf tl h 1).toInt64))) + ((toldF rf tl h 2).toInt64))) + ((toldF rf tl h 3).toInt64))) + ((toldF rf tl h 4).toInt64))) + ((countF ρ n 0).toInt64))) + ((countF ρ n 1).toInt64))) + ((countF ρ n 2).toInt64))) + ((countF ρ n 3).toInt64))) + ((countF ρ n 4).toInt64))) + ((countF ρ n 5).toInt64)))]) rfl ?_
                            refine r_i2l dX5_digest_53 ?_
                            refine r_ladd dX5_digest_54 ?_
                            refine r_lstore_n 1 ([some (.ref (m 0)), some (.long ((31 * ((31 * ((31 * ((31 * ((31 * ((31 * ((31 * ((31 * ((31 * ((31 * ((31 * ((31 * 1837) + ((toldF rf tl h 0).toInt64))) + ((toldF rf tl h 1).toInt64))) + ((toldF rf tl h 2).toInt64))) + ((toldF rf tl h 3).toInt64))) + ((toldF rf tl h 4).toInt64))) + ((countF ρ n 0).toInt64))) + ((countF ρ n 1).toInt64))) + ((countF ρ n 2).toInt64))) + ((countF ρ n 3).toInt64))) + ((countF ρ n 4).toInt64))) + ((countF ρ n 5).toInt64))) + ((countF ρ n 6).toInt64))), none, some (.int (nI 6))]) dX5_digest_55 rfl (Nat.le_of_ble_eq_true rfl) rfl rfl ?_
                            refine r_iinc (v := nI (7)) ([some (.ref (m 0)), some (.long ((31 * ((31 * ((31 * ((31 * ((31 * ((31 * ((31 * ((31 * ((31 * ((31 * ((31 * ((31 * 1837) + ((toldF rf tl h 0).toInt64))) + ((toldF rf tl h 1).toInt64))) + ((toldF rf tl h 2).toInt64))) + ((toldF rf tl h 3).toInt64))) + ((toldF rf tl h 4).toInt64))) + ((countF ρ n 0).toInt64))) + ((countF ρ n 1).toInt64))) + ((countF ρ n 2).toInt64))) + ((countF ρ n 3).toInt64))) + ((countF ρ n 4).toInt64))) + ((countF ρ n 5).toInt64))) + ((countF ρ n 6).toInt64))), none, some (.int (nI 7))]) dX5_digest_56 rfl (nI_add 6 1) (Nat.le_of_ble_eq_true rfl) rfl rfl ?_
                            refine r_goto 37 dX5_digest_59 (by decide) ?_
                            refine r_iload_n 3 dX5_digest_37 rfl rfl ?_
                            refine r_bipush (nI 7) dX5_digest_38 (by decide +kernel) ?_
                            refine r_ncmp_ge 62 (by omega) (by omega) dX5_digest_40 (by decide) (fun hq14 => ?_) (fun hq14 => ?_)
                            · refine r_iconst (nI 0) dX5_digest_62 (by decide +kernel) ?_
                              refine r_istore_n 3 ([some (.ref (m 0)), some (.long ((31 * ((31 * ((31 * ((31 * ((31 * ((31 * ((31 * ((31 * ((31 * ((31 * ((31 * ((31 * 1837) + ((toldF rf tl h 0).toInt64))) + ((toldF rf tl h 1).toInt64))) + ((toldF rf tl h 2).toInt64))) + ((toldF rf tl h 3).toInt64))) + ((toldF rf tl h 4).toInt64))) + ((countF ρ n 0).toInt64))) + ((countF ρ n 1).toInt64))) + ((countF ρ n 2).toInt64))) + ((countF ρ n 3).toInt64))) + ((countF ρ n 4).toInt64))) + ((countF ρ n 5).toInt64))) + ((countF ρ n 6).toInt64))), none, some (.int (nI 0))]) dX5_digest_63 rfl (Nat.le_of_ble_eq_true rfl) rfl rfl ?_
                              exact lp_X5_digest3 l D cA cB m ρ P h α rf K V C my cm tx tl sp od no ft n hsz h3 g hg hg8 X sz (n + 1) 0 _ rfl (by omega) (by omega)
                            · omega
            · omega

