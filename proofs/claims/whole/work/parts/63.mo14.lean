/-! the reference's findParts, second half: which parts are bad -/
def fq_c (p : Nat → Nat) (j : Nat) : Nat → Bool := fun k => p k == j
def fq_o (so p : Nat → Nat) (j : Nat) : Nat → Bool
  | 0 => false
  | k + 1 => fq_o so p j k || (p k == j && decide ((lo_f so k + hi_f so k) % 2 = 0))
def fq_h (so : Nat → Nat) (j : Nat) : Bool := decide (hi_f so j = lo_f so j + 1 ∧ lo_f so j % 2 = 0)
def fq_b (so p : Nat → Nat) (n j : Nat) : Bool := decide (0 < ct (fq_c p j) (n + 1)) && !fq_o so p j (n + 1) && !(ct (fq_c p j) (n + 1) == 1 && fq_h so j)
def fq_n (p : Nat → Nat) (n : Nat) : Nat → Bool := fun j => decide (0 < ct (fq_c p j) (n + 1))
theorem lp_fq1 {G : mm_G} {d bc bs : Nat} {cs : mm_Sh} {I : Nat → Nat → Int32} {J : Nat → Nat → Int64} {F : Nat → Nat → Option Nat} {V : Nat → Nat → Value} {X : mm_X} {n j : Nat} {c : Int} {so p : Nat → Nat} (hM : mo_V V) (hg : V 39 1 = .int (iI n)) (hs : mo_s I n so) (hp : mo_p I n p) (hn : n ≤ 6) (hj : j ≤ n) (hx : mW G mt_Mo_findParts (d + 2) bc bs 236 [(4, .int (bo (fq_o so p j (n + 1) = true))), (3, .int (iI (ct (fq_c p j) (n + 1) : Nat))), (2, .int (iI j)), (1, .int (iI c)), (0, .ref 39)] [] (wd_S ++ cs, I, J, F, V) X) :
    ∀ (m k : Nat), n + 1 - k < m → k ≤ n + 1 → mW G mt_Mo_findParts (d + 2) bc bs 170 [(5, .int (iI k)), (4, .int (bo (fq_o so p j k = true))), (3, .int (iI (ct (fq_c p j) k : Nat))), (2, .int (iI j)), (1, .int (iI c)), (0, .ref 39)] [] (wd_S ++ cs, I, J, F, V) X := by
  intro m
  induction m with
  | zero => intro k h1 _; exact absurd h1 (Nat.not_lt_zero _)
  | succ m ih =>
    intro k h1 h2
    have hb := ct_le (fq_c p j) k
    refine mw_iload dc_Mo_findParts_170 0 rfl ?_
    refine mw_aload_n dc_Mo_findParts_172 rfl 5 rfl ?_
    refine mi_get (ci := 5) (k := 1) dc_Mo_findParts_173 rfl wi_Mo rfl rfl (by decide) fl_Mo_7 hg ?_
    refine mi_icmp_gt (tgt := 236) dc_Mo_findParts_176 (by decide) (iB_mk (by omega) (by omega)) (iB_mk (by omega) (by omega)) (fun hh => ?_) (fun hh => ?_)
    · have e : k = n + 1 := by omega
      subst e
      refine mw_pick [1, 2, 3, 4, 5] rfl ?_
      exact hx
    · have hk : k ≤ n := by omega
      obtain ⟨p1, p2⟩ := hp k hk
      refine mw_aload_n dc_Mo_findParts_179 rfl 5 rfl ?_
      refine mi_get (ci := 5) (k := 21) dc_Mo_findParts_180 rfl wi_Mo rfl rfl (by decide) fl_Mo_60 hM.2.2.2.2.2.2.2.2.2.2.2.2.2.2.1 ?_
      refine mw_iload dc_Mo_findParts_183 0 rfl ?_
      refine mi_iald dc_Mo_findParts_185 rfl ⟨by omega, by omega, by decide⟩ (v := iI (p k)) (by rw [Int.toNat_natCast]; exact p1) ?_
      refine mw_iload_n dc_Mo_findParts_186 rfl 3 rfl ?_
      refine mi_icmp_ne (tgt := 196) dc_Mo_findParts_187 (by decide) (iB_mk (by omega) (by omega)) (iB_mk (by omega) (by omega)) (fun h0187 => ?_) (fun h0187 => ?_)
      · refine mw_iload_n dc_Mo_findParts_196 rfl 2 rfl ?_
        refine mw_istore_n dc_Mo_findParts_197 rfl (by decide) rfl ?_
        refine mw_iload dc_Mo_findParts_198 2 rfl ?_
        refine mw_if_ne (tgt := 223) dc_Mo_findParts_200 (by decide) (fun h1200 => ?_) (fun h1200 => ?_)
        · refine mi_const dc_Mo_findParts_223 ?_
          refine mw_goto (tgt := 228) dc_Mo_findParts_224 (by decide) ?_
          refine mw_istore dc_Mo_findParts_228 (by decide) rfl ?_
          refine mi_iinc dc_Mo_findParts_230 2 rfl (by decide) rfl ?_
          refine mw_goto (tgt := 170) dc_Mo_findParts_233 (by decide) ?_
          refine mw_pick [0, 1, 2, 3, 4, 5] rfl ?_
          have k2 := ih (k + 1) (by omega) (by omega)
          rw [ct_f (P := fq_c p j) (show ¬ (p k == j) = true by rw [beq_iff_eq]; omega), bo_t (P := fq_o so p j (k + 1) = true) (show (fq_o so p j k || _) = true by rw [Decidable.not_not.mp (fun q => h1200 (bo_0.mpr q))]; rfl)] at k2
          exact k2
        · refine mw_aload_n dc_Mo_findParts_203 rfl 5 rfl ?_
          refine mi_get (ci := 5) (k := 21) dc_Mo_findParts_204 rfl wi_Mo rfl rfl (by decide) fl_Mo_60 hM.2.2.2.2.2.2.2.2.2.2.2.2.2.2.1 ?_
          refine mw_iload dc_Mo_findParts_207 1 rfl ?_
          refine mi_iald dc_Mo_findParts_209 rfl ⟨by omega, by omega, by decide⟩ (v := iI (p k)) (by rw [Int.toNat_natCast]; exact p1) ?_
          refine mw_iload_n dc_Mo_findParts_210 rfl 3 rfl ?_
          refine mi_icmp_ne (tgt := 227) dc_Mo_findParts_211 (by decide) (iB_mk (by omega) (by omega)) (iB_mk (by omega) (by omega)) (fun h2211 => ?_) (fun h2211 => ?_)
          · refine mi_const dc_Mo_findParts_227 ?_
            refine mw_istore dc_Mo_findParts_228 (by decide) rfl ?_
            refine mi_iinc dc_Mo_findParts_230 2 rfl (by decide) rfl ?_
            refine mw_goto (tgt := 170) dc_Mo_findParts_233 (by decide) ?_
            refine mw_pick [0, 1, 2, 3, 4, 5] rfl ?_
            have k2 := ih (k + 1) (by omega) (by omega)
            rw [ct_f (P := fq_c p j) (show ¬ (p k == j) = true by rw [beq_iff_eq]; omega), bo_f (P := fq_o so p j (k + 1) = true) (show ¬ (fq_o so p j k || (p k == j && _)) = true by rw [Bool.eq_false_iff.mpr (bo_0.mp h1200), beq_false_of_ne (show p k ≠ j by omega)]; exact Bool.false_ne_true)] at k2
            exact k2
          · exfalso; omega
      · refine mw_iload_n dc_Mo_findParts_190 rfl 2 rfl ?_
        refine mi_const dc_Mo_findParts_191 ?_
        refine mi_iadd dc_Mo_findParts_192 ?_
        refine mw_goto (tgt := 197) dc_Mo_findParts_193 (by decide) ?_
        refine mw_istore_n dc_Mo_findParts_197 rfl (by decide) rfl ?_
        refine mw_iload dc_Mo_findParts_198 2 rfl ?_
        refine mw_if_ne (tgt := 223) dc_Mo_findParts_200 (by decide) (fun h1200 => ?_) (fun h1200 => ?_)
        · refine mi_const dc_Mo_findParts_223 ?_
          refine mw_goto (tgt := 228) dc_Mo_findParts_224 (by decide) ?_
          refine mw_istore dc_Mo_findParts_228 (by decide) rfl ?_
          refine mi_iinc dc_Mo_findParts_230 2 rfl (by decide) rfl ?_
          refine mw_goto (tgt := 170) dc_Mo_findParts_233 (by decide) ?_
          refine mw_pick [0, 1, 2, 3, 4, 5] rfl ?_
          have k2 := ih (k + 1) (by omega) (by omega)
          rw [ct_t (P := fq_c p j) (show (p k == j) = true by rw [beq_iff_eq]; omega), bo_t (P := fq_o so p j (k + 1) = true) (show (fq_o so p j k || _) = true by rw [Decidable.not_not.mp (fun q => h1200 (bo_0.mpr q))]; rfl)] at k2
          exact k2
        · refine mw_aload_n dc_Mo_findParts_203 rfl 5 rfl ?_
          refine mi_get (ci := 5) (k := 21) dc_Mo_findParts_204 rfl wi_Mo rfl rfl (by decide) fl_Mo_60 hM.2.2.2.2.2.2.2.2.2.2.2.2.2.2.1 ?_
          refine mw_iload dc_Mo_findParts_207 1 rfl ?_
          refine mi_iald dc_Mo_findParts_209 rfl ⟨by omega, by omega, by decide⟩ (v := iI (p k)) (by rw [Int.toNat_natCast]; exact p1) ?_
          refine mw_iload_n dc_Mo_findParts_210 rfl 3 rfl ?_
          refine mi_icmp_ne (tgt := 227) dc_Mo_findParts_211 (by decide) (iB_mk (by omega) (by omega)) (iB_mk (by omega) (by omega)) (fun h2211 => ?_) (fun h2211 => ?_)
          · exfalso; omega
          · refine mw_aload_n dc_Mo_findParts_214 rfl 5 rfl ?_
            refine mw_iload dc_Mo_findParts_215 1 rfl ?_
            refine mz_V1 (M2 := mt_Mo_isOriented) dc_Mo_findParts_217 ml_Mo_139 rfl rfl ny_Mo_isOriented (by decide) (Nat.le_of_ble_eq_true rfl) (ev_moOriented hM hs hk hn) (fun v h1 hY => ?_)
            obtain ⟨hv, rfl⟩ := hY
            cases hv
            refine mw_if_eq (tgt := 227) dc_Mo_findParts_220 (by decide) (fun h3220 => ?_) (fun h3220 => ?_)
            · refine mi_const dc_Mo_findParts_227 ?_
              refine mw_istore dc_Mo_findParts_228 (by decide) rfl ?_
              refine mi_iinc dc_Mo_findParts_230 2 rfl (by decide) rfl ?_
              refine mw_goto (tgt := 170) dc_Mo_findParts_233 (by decide) ?_
              refine mw_pick [0, 1, 2, 3, 4, 5] rfl ?_
              have k2 := ih (k + 1) (by omega) (by omega)
              rw [ct_t (P := fq_c p j) (show (p k == j) = true by rw [beq_iff_eq]; omega), bo_f (P := fq_o so p j (k + 1) = true) (show ¬ (fq_o so p j k || (p k == j && decide _)) = true by rw [Bool.eq_false_iff.mpr (bo_0.mp h1200), decide_eq_false (bo_0.mp h3220)]; rw [Bool.and_false]; exact Bool.false_ne_true)] at k2
              exact k2
            · refine mi_const dc_Mo_findParts_223 ?_
              refine mw_goto (tgt := 228) dc_Mo_findParts_224 (by decide) ?_
              refine mw_istore dc_Mo_findParts_228 (by decide) rfl ?_
              refine mi_iinc dc_Mo_findParts_230 2 rfl (by decide) rfl ?_
              refine mw_goto (tgt := 170) dc_Mo_findParts_233 (by decide) ?_
              refine mw_pick [0, 1, 2, 3, 4, 5] rfl ?_
              have k2 := ih (k + 1) (by omega) (by omega)
              rw [ct_t (P := fq_c p j) (show (p k == j) = true by rw [beq_iff_eq]; omega), bo_t (P := fq_o so p j (k + 1) = true) (show (fq_o so p j k || (p k == j && decide _)) = true by rw [(beq_iff_eq).mpr (show p k = j by omega), decide_eq_true (Decidable.not_not.mp (fun q => h3220 (bo_0.mpr q)))]; rw [Bool.and_self, Bool.or_true])] at k2
              exact k2
theorem lp_fq2 {G : mm_G} {d bc bs : Nat} {cs : mm_Sh} {I : Nat → Nat → Int32} {J : Nat → Nat → Int64} {F : Nat → Nat → Option Nat} {V : Nat → Nat → Value} {X : mm_X} {n : Nat} {g : Nat → Int32} {so p : Nat → Nat} (hM : mo_V V) (hg : V 39 1 = .int (iI n)) (hs : mo_s I n so) (hp : mo_p I n p) (hn : n ≤ 6) (hx : X (.inl (some (.int (iI (ct (fq_n p n) (n + 1) : Nat))))) (wd_S ++ cs, va_up I 55 (nb g (n + 1) (fq_b so p n)), J, F, V)) :
    ∀ (m j : Nat), n + 1 - j < m → j ≤ n + 1 → mW G mt_Mo_findParts (d + 2) bc bs 154 [(2, .int (iI j)), (1, .int (iI (ct (fq_n p n) j : Nat))), (0, .ref 39)] [] (wd_S ++ cs, va_up I 55 (nb g j (fq_b so p n)), J, F, V) X := by
  intro m
  induction m with
  | zero => intro j h1 _; exact absurd h1 (Nat.not_lt_zero _)
  | succ m ih =>
    intro j h1 h2
    have hb := ct_le (fq_n p n) j
    have hb2 := ct_le (fq_c p j) (n + 1)
    refine mw_iload_n dc_Mo_findParts_154 rfl 0 rfl ?_
    refine mw_aload_n dc_Mo_findParts_155 rfl 2 rfl ?_
    refine mi_get (ci := 5) (k := 1) dc_Mo_findParts_156 rfl wi_Mo rfl rfl (by decide) fl_Mo_7 hg ?_
    refine mi_icmp_gt (tgt := 316) dc_Mo_findParts_159 (by decide) (iB_mk (by omega) (by omega)) (iB_mk (by omega) (by omega)) (fun hh => ?_) (fun hh => ?_)
    · have e : j = n + 1 := by omega
      subst e
      refine mw_iload_n dc_Mo_findParts_316 rfl 1 rfl ?_
      exact mw_iret dc_Mo_findParts_317 rfl rfl hx
    · have hj : j ≤ n := by omega
      have hs9 : mo_s (va_up I 55 (nb g j (fq_b so p n))) n so := fun e he => by rw [va_up_ne _ _ (by decide)]; exact hs e he
      have hp9 : mo_p (va_up I 55 (nb g j (fq_b so p n))) n p := fun e he => by rw [va_up_ne _ _ (by decide)]; exact hp e he
      have l1 : lo_f so j < 14 := by unfold lo_f; have := hs (2 * j) (by omega); omega
      have l2 : hi_f so j < 14 := by unfold hi_f; have := hs (2 * j) (by omega); have := hs (2 * j + 1) (by omega); omega
      refine mi_const dc_Mo_findParts_162 ?_
      refine mw_istore_n dc_Mo_findParts_163 rfl (by decide) rfl ?_
      refine mi_const dc_Mo_findParts_164 ?_
      refine mw_istore dc_Mo_findParts_165 (by decide) rfl ?_
      refine mi_const dc_Mo_findParts_167 ?_
      refine mw_istore dc_Mo_findParts_168 (by decide) rfl ?_
      refine mw_pick [0, 1, 2, 3, 4, 5] rfl ?_
      refine lp_fq1 hM hg hs9 hp9 hn hj ?_ (n + 2) 0 (by omega) (by omega)
      refine mw_aload_n dc_Mo_findParts_236 rfl 4 rfl ?_
      refine mw_iload_n dc_Mo_findParts_237 rfl 2 rfl ?_
      refine mz_V1 (M2 := mt_Mo_high) dc_Mo_findParts_238 ml_Mo_132 rfl rfl ny_Mo_high (by decide) (Nat.le_of_ble_eq_true rfl) (ev_high hM hs9 hj hn) (fun v h1 hY => ?_)
      obtain ⟨hv, rfl⟩ := hY
      cases hv
      refine mw_aload_n dc_Mo_findParts_241 rfl 4 rfl ?_
      refine mw_iload_n dc_Mo_findParts_242 rfl 2 rfl ?_
      refine mz_V1 (M2 := mt_Mo_low) dc_Mo_findParts_243 ml_Mo_128 rfl rfl ny_Mo_low (by decide) (Nat.le_of_ble_eq_true rfl) (ev_low hM hs9 hj hn) (fun v h1 hY => ?_)
      obtain ⟨hv, rfl⟩ := hY
      cases hv
      refine mi_const dc_Mo_findParts_246 ?_
      refine mi_iadd dc_Mo_findParts_247 ?_
      refine mi_icmp_ne (tgt := 265) dc_Mo_findParts_248 (by decide) (iB_mk (by omega) (by omega)) (iB_mk (by omega) (by omega)) (fun h0248 => ?_) (fun h0248 => ?_)
      · refine mi_const dc_Mo_findParts_265 ?_
        refine mw_istore dc_Mo_findParts_266 (by decide) rfl ?_
        have hq : fq_h so j = false := decide_eq_false (by omega)
        refine mw_aload_n dc_Mo_findParts_268 rfl 5 rfl ?_
        refine mi_get (ci := 5) (k := 22) dc_Mo_findParts_269 rfl wi_Mo rfl rfl (by decide) fl_Mo_63 hM.2.2.2.2.2.2.2.2.2.2.2.2.2.2.2.1 ?_
        refine mw_iload_n dc_Mo_findParts_272 rfl 3 rfl ?_
        refine mw_iload_n dc_Mo_findParts_273 rfl 2 rfl ?_
        refine mi_if_le (tgt := 296) dc_Mo_findParts_274 (by decide) (iB_mk (by omega) (by omega)) (fun h20274 => ?_) (fun h20274 => ?_)
        · refine mi_const dc_Mo_findParts_296 ?_
          have hbad : fq_b so p n j = false := show (decide (0 < ct (fq_c p j) (n + 1)) && _ && _) = false by rw [decide_eq_false (show ¬ 0 < ct (fq_c p j) (n + 1) by omega)]; rfl
          refine mi_zast dc_Mo_findParts_297 rfl ⟨by omega, by omega, by decide⟩ (by decide) (I' := va_up I 55 (nb g (j + 1) (fq_b so p n))) (by rw [va_up_self, up_up, Int.toNat_natCast]; exact congrArg (va_up I 55) (nb_sf hbad)) ?_
          refine mw_iload_n dc_Mo_findParts_298 rfl 2 rfl ?_
          refine mi_if_le (tgt := 308) dc_Mo_findParts_299 (by decide) (iB_mk (by omega) (by omega)) (fun h9299 => ?_) (fun h9299 => ?_)
          · refine mw_iload_n dc_Mo_findParts_308 rfl 4 rfl ?_
            refine mw_istore_n dc_Mo_findParts_309 rfl (by decide) rfl ?_
            refine mi_iinc dc_Mo_findParts_310 4 rfl (by decide) rfl ?_
            refine mw_goto (tgt := 154) dc_Mo_findParts_313 (by decide) ?_
            refine mw_pick [0, 1, 5] rfl ?_
            have k2 := ih (j + 1) (by omega) (by omega)
            rw [ct_f (P := fq_n p n) (fun q => absurd (of_decide_eq_true q) (by omega))] at k2
            exact k2
          · refine mw_iload_n dc_Mo_findParts_302 rfl 4 rfl ?_
            refine mi_const dc_Mo_findParts_303 ?_
            refine mi_iadd dc_Mo_findParts_304 ?_
            refine mw_goto (tgt := 309) dc_Mo_findParts_305 (by decide) ?_
            refine mw_istore_n dc_Mo_findParts_309 rfl (by decide) rfl ?_
            refine mi_iinc dc_Mo_findParts_310 4 rfl (by decide) rfl ?_
            refine mw_goto (tgt := 154) dc_Mo_findParts_313 (by decide) ?_
            refine mw_pick [0, 1, 5] rfl ?_
            have k2 := ih (j + 1) (by omega) (by omega)
            rw [ct_t (P := fq_n p n) (decide_eq_true (by omega))] at k2
            exact k2
        · refine mw_iload dc_Mo_findParts_277 1 rfl ?_
          refine mw_if_ne (tgt := 296) dc_Mo_findParts_279 (by decide) (fun h21279 => ?_) (fun h21279 => ?_)
          · refine mi_const dc_Mo_findParts_296 ?_
            have hbad : fq_b so p n j = false := show (decide (0 < ct (fq_c p j) (n + 1)) && !fq_o so p j (n + 1) && _) = false by rw [Decidable.not_not.mp (fun q => h21279 (bo_0.mpr q)), Bool.not_true, Bool.and_false]; rfl
            refine mi_zast dc_Mo_findParts_297 rfl ⟨by omega, by omega, by decide⟩ (by decide) (I' := va_up I 55 (nb g (j + 1) (fq_b so p n))) (by rw [va_up_self, up_up, Int.toNat_natCast]; exact congrArg (va_up I 55) (nb_sf hbad)) ?_
            refine mw_iload_n dc_Mo_findParts_298 rfl 2 rfl ?_
            refine mi_if_le (tgt := 308) dc_Mo_findParts_299 (by decide) (iB_mk (by omega) (by omega)) (fun h9299 => ?_) (fun h9299 => ?_)
            · refine mw_iload_n dc_Mo_findParts_308 rfl 4 rfl ?_
              refine mw_istore_n dc_Mo_findParts_309 rfl (by decide) rfl ?_
              refine mi_iinc dc_Mo_findParts_310 4 rfl (by decide) rfl ?_
              refine mw_goto (tgt := 154) dc_Mo_findParts_313 (by decide) ?_
              refine mw_pick [0, 1, 5] rfl ?_
              have k2 := ih (j + 1) (by omega) (by omega)
              rw [ct_f (P := fq_n p n) (fun q => absurd (of_decide_eq_true q) (by omega))] at k2
              exact k2
            · refine mw_iload_n dc_Mo_findParts_302 rfl 4 rfl ?_
              refine mi_const dc_Mo_findParts_303 ?_
              refine mi_iadd dc_Mo_findParts_304 ?_
              refine mw_goto (tgt := 309) dc_Mo_findParts_305 (by decide) ?_
              refine mw_istore_n dc_Mo_findParts_309 rfl (by decide) rfl ?_
              refine mi_iinc dc_Mo_findParts_310 4 rfl (by decide) rfl ?_
              refine mw_goto (tgt := 154) dc_Mo_findParts_313 (by decide) ?_
              refine mw_pick [0, 1, 5] rfl ?_
              have k2 := ih (j + 1) (by omega) (by omega)
              rw [ct_t (P := fq_n p n) (decide_eq_true (by omega))] at k2
              exact k2
          · refine mw_iload_n dc_Mo_findParts_282 rfl 2 rfl ?_
            refine mi_const dc_Mo_findParts_283 ?_
            refine mi_icmp_ne (tgt := 292) dc_Mo_findParts_284 (by decide) (iB_mk (by omega) (by omega)) (iB_mk (by omega) (by omega)) (fun h22284 => ?_) (fun h22284 => ?_)
            · refine mi_const dc_Mo_findParts_292 ?_
              refine mw_goto (tgt := 297) dc_Mo_findParts_293 (by decide) ?_
              have hbad : fq_b so p n j = true := show (decide (0 < ct (fq_c p j) (n + 1)) && !fq_o so p j (n + 1) && !(ct (fq_c p j) (n + 1) == 1 && fq_h so j)) = true by rw [decide_eq_true (show 0 < ct (fq_c p j) (n + 1) by omega), Bool.eq_false_iff.mpr (bo_0.mp h21279), beq_false_of_ne (show ct (fq_c p j) (n + 1) ≠ 1 by omega)]; rfl
              refine mi_zast dc_Mo_findParts_297 rfl ⟨by omega, by omega, by decide⟩ (by decide) (I' := va_up I 55 (nb g (j + 1) (fq_b so p n))) (by rw [va_up_self, up_up, Int.toNat_natCast]; exact congrArg (va_up I 55) (nb_st hbad)) ?_
              refine mw_iload_n dc_Mo_findParts_298 rfl 2 rfl ?_
              refine mi_if_le (tgt := 308) dc_Mo_findParts_299 (by decide) (iB_mk (by omega) (by omega)) (fun h9299 => ?_) (fun h9299 => ?_)
              · refine mw_iload_n dc_Mo_findParts_308 rfl 4 rfl ?_
                refine mw_istore_n dc_Mo_findParts_309 rfl (by decide) rfl ?_
                refine mi_iinc dc_Mo_findParts_310 4 rfl (by decide) rfl ?_
                refine mw_goto (tgt := 154) dc_Mo_findParts_313 (by decide) ?_
                refine mw_pick [0, 1, 5] rfl ?_
                have k2 := ih (j + 1) (by omega) (by omega)
                rw [ct_f (P := fq_n p n) (fun q => absurd (of_decide_eq_true q) (by omega))] at k2
                exact k2
              · refine mw_iload_n dc_Mo_findParts_302 rfl 4 rfl ?_
                refine mi_const dc_Mo_findParts_303 ?_
                refine mi_iadd dc_Mo_findParts_304 ?_
                refine mw_goto (tgt := 309) dc_Mo_findParts_305 (by decide) ?_
                refine mw_istore_n dc_Mo_findParts_309 rfl (by decide) rfl ?_
                refine mi_iinc dc_Mo_findParts_310 4 rfl (by decide) rfl ?_
                refine mw_goto (tgt := 154) dc_Mo_findParts_313 (by decide) ?_
                refine mw_pick [0, 1, 5] rfl ?_
                have k2 := ih (j + 1) (by omega) (by omega)
                rw [ct_t (P := fq_n p n) (decide_eq_true (by omega))] at k2
                exact k2
            · refine mw_iload dc_Mo_findParts_287 0 rfl ?_
              refine mi_if_ne (tgt := 296) dc_Mo_findParts_289 (by decide) (iB_mk (by omega) (by omega)) (fun h9289 => ?_) (fun h9289 => ?_)
              · exact absurd rfl h9289
              · refine mi_const dc_Mo_findParts_292 ?_
                refine mw_goto (tgt := 297) dc_Mo_findParts_293 (by decide) ?_
                have hbad : fq_b so p n j = true := show (decide (0 < ct (fq_c p j) (n + 1)) && !fq_o so p j (n + 1) && !(ct (fq_c p j) (n + 1) == 1 && fq_h so j)) = true by rw [decide_eq_true (show 0 < ct (fq_c p j) (n + 1) by omega), Bool.eq_false_iff.mpr (bo_0.mp h21279), hq, Bool.and_false]; rfl
                refine mi_zast dc_Mo_findParts_297 rfl ⟨by omega, by omega, by decide⟩ (by decide) (I' := va_up I 55 (nb g (j + 1) (fq_b so p n))) (by rw [va_up_self, up_up, Int.toNat_natCast]; exact congrArg (va_up I 55) (nb_st hbad)) ?_
                refine mw_iload_n dc_Mo_findParts_298 rfl 2 rfl ?_
                refine mi_if_le (tgt := 308) dc_Mo_findParts_299 (by decide) (iB_mk (by omega) (by omega)) (fun h9299 => ?_) (fun h9299 => ?_)
                · refine mw_iload_n dc_Mo_findParts_308 rfl 4 rfl ?_
                  refine mw_istore_n dc_Mo_findParts_309 rfl (by decide) rfl ?_
                  refine mi_iinc dc_Mo_findParts_310 4 rfl (by decide) rfl ?_
                  refine mw_goto (tgt := 154) dc_Mo_findParts_313 (by decide) ?_
                  refine mw_pick [0, 1, 5] rfl ?_
                  have k2 := ih (j + 1) (by omega) (by omega)
                  rw [ct_f (P := fq_n p n) (fun q => absurd (of_decide_eq_true q) (by omega))] at k2
                  exact k2
                · refine mw_iload_n dc_Mo_findParts_302 rfl 4 rfl ?_
                  refine mi_const dc_Mo_findParts_303 ?_
                  refine mi_iadd dc_Mo_findParts_304 ?_
                  refine mw_goto (tgt := 309) dc_Mo_findParts_305 (by decide) ?_
                  refine mw_istore_n dc_Mo_findParts_309 rfl (by decide) rfl ?_
                  refine mi_iinc dc_Mo_findParts_310 4 rfl (by decide) rfl ?_
                  refine mw_goto (tgt := 154) dc_Mo_findParts_313 (by decide) ?_
                  refine mw_pick [0, 1, 5] rfl ?_
                  have k2 := ih (j + 1) (by omega) (by omega)
                  rw [ct_t (P := fq_n p n) (decide_eq_true (by omega))] at k2
                  exact k2
      · refine mw_aload_n dc_Mo_findParts_251 rfl 4 rfl ?_
        refine mw_iload_n dc_Mo_findParts_252 rfl 2 rfl ?_
        refine mz_V1 (M2 := mt_Mo_low) dc_Mo_findParts_253 ml_Mo_128 rfl rfl ny_Mo_low (by decide) (Nat.le_of_ble_eq_true rfl) (ev_low hM hs9 hj hn) (fun v h1 hY => ?_)
        obtain ⟨hv, rfl⟩ := hY
        cases hv
        refine mi_const dc_Mo_findParts_256 ?_
        refine mi_irem dc_Mo_findParts_257 ⟨by omega, by omega, by omega, by omega⟩ ?_
        refine mi_if_ne (tgt := 265) dc_Mo_findParts_258 (by decide) (iB_mk (by omega) (by omega)) (fun h1258 => ?_) (fun h1258 => ?_)
        · refine mi_const dc_Mo_findParts_265 ?_
          refine mw_istore dc_Mo_findParts_266 (by decide) rfl ?_
          have hq : fq_h so j = false := decide_eq_false (by omega)
          refine mw_aload_n dc_Mo_findParts_268 rfl 5 rfl ?_
          refine mi_get (ci := 5) (k := 22) dc_Mo_findParts_269 rfl wi_Mo rfl rfl (by decide) fl_Mo_63 hM.2.2.2.2.2.2.2.2.2.2.2.2.2.2.2.1 ?_
          refine mw_iload_n dc_Mo_findParts_272 rfl 3 rfl ?_
          refine mw_iload_n dc_Mo_findParts_273 rfl 2 rfl ?_
          refine mi_if_le (tgt := 296) dc_Mo_findParts_274 (by decide) (iB_mk (by omega) (by omega)) (fun h20274 => ?_) (fun h20274 => ?_)
          · refine mi_const dc_Mo_findParts_296 ?_
            have hbad : fq_b so p n j = false := show (decide (0 < ct (fq_c p j) (n + 1)) && _ && _) = false by rw [decide_eq_false (show ¬ 0 < ct (fq_c p j) (n + 1) by omega)]; rfl
            refine mi_zast dc_Mo_findParts_297 rfl ⟨by omega, by omega, by decide⟩ (by decide) (I' := va_up I 55 (nb g (j + 1) (fq_b so p n))) (by rw [va_up_self, up_up, Int.toNat_natCast]; exact congrArg (va_up I 55) (nb_sf hbad)) ?_
            refine mw_iload_n dc_Mo_findParts_298 rfl 2 rfl ?_
            refine mi_if_le (tgt := 308) dc_Mo_findParts_299 (by decide) (iB_mk (by omega) (by omega)) (fun h9299 => ?_) (fun h9299 => ?_)
            · refine mw_iload_n dc_Mo_findParts_308 rfl 4 rfl ?_
              refine mw_istore_n dc_Mo_findParts_309 rfl (by decide) rfl ?_
              refine mi_iinc dc_Mo_findParts_310 4 rfl (by decide) rfl ?_
              refine mw_goto (tgt := 154) dc_Mo_findParts_313 (by decide) ?_
              refine mw_pick [0, 1, 5] rfl ?_
              have k2 := ih (j + 1) (by omega) (by omega)
              rw [ct_f (P := fq_n p n) (fun q => absurd (of_decide_eq_true q) (by omega))] at k2
              exact k2
            · refine mw_iload_n dc_Mo_findParts_302 rfl 4 rfl ?_
              refine mi_const dc_Mo_findParts_303 ?_
              refine mi_iadd dc_Mo_findParts_304 ?_
              refine mw_goto (tgt := 309) dc_Mo_findParts_305 (by decide) ?_
              refine mw_istore_n dc_Mo_findParts_309 rfl (by decide) rfl ?_
              refine mi_iinc dc_Mo_findParts_310 4 rfl (by decide) rfl ?_
              refine mw_goto (tgt := 154) dc_Mo_findParts_313 (by decide) ?_
              refine mw_pick [0, 1, 5] rfl ?_
              have k2 := ih (j + 1) (by omega) (by omega)
              rw [ct_t (P := fq_n p n) (decide_eq_true (by omega))] at k2
              exact k2
          · refine mw_iload dc_Mo_findParts_277 1 rfl ?_
            refine mw_if_ne (tgt := 296) dc_Mo_findParts_279 (by decide) (fun h21279 => ?_) (fun h21279 => ?_)
            · refine mi_const dc_Mo_findParts_296 ?_
              have hbad : fq_b so p n j = false := show (decide (0 < ct (fq_c p j) (n + 1)) && !fq_o so p j (n + 1) && _) = false by rw [Decidable.not_not.mp (fun q => h21279 (bo_0.mpr q)), Bool.not_true, Bool.and_false]; rfl
              refine mi_zast dc_Mo_findParts_297 rfl ⟨by omega, by omega, by decide⟩ (by decide) (I' := va_up I 55 (nb g (j + 1) (fq_b so p n))) (by rw [va_up_self, up_up, Int.toNat_natCast]; exact congrArg (va_up I 55) (nb_sf hbad)) ?_
              refine mw_iload_n dc_Mo_findParts_298 rfl 2 rfl ?_
              refine mi_if_le (tgt := 308) dc_Mo_findParts_299 (by decide) (iB_mk (by omega) (by omega)) (fun h9299 => ?_) (fun h9299 => ?_)
              · refine mw_iload_n dc_Mo_findParts_308 rfl 4 rfl ?_
                refine mw_istore_n dc_Mo_findParts_309 rfl (by decide) rfl ?_
                refine mi_iinc dc_Mo_findParts_310 4 rfl (by decide) rfl ?_
                refine mw_goto (tgt := 154) dc_Mo_findParts_313 (by decide) ?_
                refine mw_pick [0, 1, 5] rfl ?_
                have k2 := ih (j + 1) (by omega) (by omega)
                rw [ct_f (P := fq_n p n) (fun q => absurd (of_decide_eq_true q) (by omega))] at k2
                exact k2
              · refine mw_iload_n dc_Mo_findParts_302 rfl 4 rfl ?_
                refine mi_const dc_Mo_findParts_303 ?_
                refine mi_iadd dc_Mo_findParts_304 ?_
                refine mw_goto (tgt := 309) dc_Mo_findParts_305 (by decide) ?_
                refine mw_istore_n dc_Mo_findParts_309 rfl (by decide) rfl ?_
                refine mi_iinc dc_Mo_findParts_310 4 rfl (by decide) rfl ?_
                refine mw_goto (tgt := 154) dc_Mo_findParts_313 (by decide) ?_
                refine mw_pick [0, 1, 5] rfl ?_
                have k2 := ih (j + 1) (by omega) (by omega)
                rw [ct_t (P := fq_n p n) (decide_eq_true (by omega))] at k2
                exact k2
            · refine mw_iload_n dc_Mo_findParts_282 rfl 2 rfl ?_
              refine mi_const dc_Mo_findParts_283 ?_
              refine mi_icmp_ne (tgt := 292) dc_Mo_findParts_284 (by decide) (iB_mk (by omega) (by omega)) (iB_mk (by omega) (by omega)) (fun h22284 => ?_) (fun h22284 => ?_)
              · refine mi_const dc_Mo_findParts_292 ?_
                refine mw_goto (tgt := 297) dc_Mo_findParts_293 (by decide) ?_
                have hbad : fq_b so p n j = true := show (decide (0 < ct (fq_c p j) (n + 1)) && !fq_o so p j (n + 1) && !(ct (fq_c p j) (n + 1) == 1 && fq_h so j)) = true by rw [decide_eq_true (show 0 < ct (fq_c p j) (n + 1) by omega), Bool.eq_false_iff.mpr (bo_0.mp h21279), beq_false_of_ne (show ct (fq_c p j) (n + 1) ≠ 1 by omega)]; rfl
                refine mi_zast dc_Mo_findParts_297 rfl ⟨by omega, by omega, by decide⟩ (by decide) (I' := va_up I 55 (nb g (j + 1) (fq_b so p n))) (by rw [va_up_self, up_up, Int.toNat_natCast]; exact congrArg (va_up I 55) (nb_st hbad)) ?_
                refine mw_iload_n dc_Mo_findParts_298 rfl 2 rfl ?_
                refine mi_if_le (tgt := 308) dc_Mo_findParts_299 (by decide) (iB_mk (by omega) (by omega)) (fun h9299 => ?_) (fun h9299 => ?_)
                · refine mw_iload_n dc_Mo_findParts_308 rfl 4 rfl ?_
                  refine mw_istore_n dc_Mo_findParts_309 rfl (by decide) rfl ?_
                  refine mi_iinc dc_Mo_findParts_310 4 rfl (by decide) rfl ?_
                  refine mw_goto (tgt := 154) dc_Mo_findParts_313 (by decide) ?_
                  refine mw_pick [0, 1, 5] rfl ?_
                  have k2 := ih (j + 1) (by omega) (by omega)
                  rw [ct_f (P := fq_n p n) (fun q => absurd (of_decide_eq_true q) (by omega))] at k2
                  exact k2
                · refine mw_iload_n dc_Mo_findParts_302 rfl 4 rfl ?_
                  refine mi_const dc_Mo_findParts_303 ?_
                  refine mi_iadd dc_Mo_findParts_304 ?_
                  refine mw_goto (tgt := 309) dc_Mo_findParts_305 (by decide) ?_
                  refine mw_istore_n dc_Mo_findParts_309 rfl (by decide) rfl ?_
                  refine mi_iinc dc_Mo_findParts_310 4 rfl (by decide) rfl ?_
                  refine mw_goto (tgt := 154) dc_Mo_findParts_313 (by decide) ?_
                  refine mw_pick [0, 1, 5] rfl ?_
                  have k2 := ih (j + 1) (by omega) (by omega)
                  rw [ct_t (P := fq_n p n) (decide_eq_true (by omega))] at k2
                  exact k2
              · refine mw_iload dc_Mo_findParts_287 0 rfl ?_
                refine mi_if_ne (tgt := 296) dc_Mo_findParts_289 (by decide) (iB_mk (by omega) (by omega)) (fun h9289 => ?_) (fun h9289 => ?_)
                · exact absurd rfl h9289
                · refine mi_const dc_Mo_findParts_292 ?_
                  refine mw_goto (tgt := 297) dc_Mo_findParts_293 (by decide) ?_
                  have hbad : fq_b so p n j = true := show (decide (0 < ct (fq_c p j) (n + 1)) && !fq_o so p j (n + 1) && !(ct (fq_c p j) (n + 1) == 1 && fq_h so j)) = true by rw [decide_eq_true (show 0 < ct (fq_c p j) (n + 1) by omega), Bool.eq_false_iff.mpr (bo_0.mp h21279), hq, Bool.and_false]; rfl
                  refine mi_zast dc_Mo_findParts_297 rfl ⟨by omega, by omega, by decide⟩ (by decide) (I' := va_up I 55 (nb g (j + 1) (fq_b so p n))) (by rw [va_up_self, up_up, Int.toNat_natCast]; exact congrArg (va_up I 55) (nb_st hbad)) ?_
                  refine mw_iload_n dc_Mo_findParts_298 rfl 2 rfl ?_
                  refine mi_if_le (tgt := 308) dc_Mo_findParts_299 (by decide) (iB_mk (by omega) (by omega)) (fun h9299 => ?_) (fun h9299 => ?_)
                  · refine mw_iload_n dc_Mo_findParts_308 rfl 4 rfl ?_
                    refine mw_istore_n dc_Mo_findParts_309 rfl (by decide) rfl ?_
                    refine mi_iinc dc_Mo_findParts_310 4 rfl (by decide) rfl ?_
                    refine mw_goto (tgt := 154) dc_Mo_findParts_313 (by decide) ?_
                    refine mw_pick [0, 1, 5] rfl ?_
                    have k2 := ih (j + 1) (by omega) (by omega)
                    rw [ct_f (P := fq_n p n) (fun q => absurd (of_decide_eq_true q) (by omega))] at k2
                    exact k2
                  · refine mw_iload_n dc_Mo_findParts_302 rfl 4 rfl ?_
                    refine mi_const dc_Mo_findParts_303 ?_
                    refine mi_iadd dc_Mo_findParts_304 ?_
                    refine mw_goto (tgt := 309) dc_Mo_findParts_305 (by decide) ?_
                    refine mw_istore_n dc_Mo_findParts_309 rfl (by decide) rfl ?_
                    refine mi_iinc dc_Mo_findParts_310 4 rfl (by decide) rfl ?_
                    refine mw_goto (tgt := 154) dc_Mo_findParts_313 (by decide) ?_
                    refine mw_pick [0, 1, 5] rfl ?_
                    have k2 := ih (j + 1) (by omega) (by omega)
                    rw [ct_t (P := fq_n p n) (decide_eq_true (by omega))] at k2
                    exact k2
        · refine mi_const dc_Mo_findParts_261 ?_
          refine mw_goto (tgt := 266) dc_Mo_findParts_262 (by decide) ?_
          refine mw_istore dc_Mo_findParts_266 (by decide) rfl ?_
          have hq : fq_h so j = true := decide_eq_true (by omega)
          refine mw_aload_n dc_Mo_findParts_268 rfl 5 rfl ?_
          refine mi_get (ci := 5) (k := 22) dc_Mo_findParts_269 rfl wi_Mo rfl rfl (by decide) fl_Mo_63 hM.2.2.2.2.2.2.2.2.2.2.2.2.2.2.2.1 ?_
          refine mw_iload_n dc_Mo_findParts_272 rfl 3 rfl ?_
          refine mw_iload_n dc_Mo_findParts_273 rfl 2 rfl ?_
          refine mi_if_le (tgt := 296) dc_Mo_findParts_274 (by decide) (iB_mk (by omega) (by omega)) (fun h20274 => ?_) (fun h20274 => ?_)
          · refine mi_const dc_Mo_findParts_296 ?_
            have hbad : fq_b so p n j = false := show (decide (0 < ct (fq_c p j) (n + 1)) && _ && _) = false by rw [decide_eq_false (show ¬ 0 < ct (fq_c p j) (n + 1) by omega)]; rfl
            refine mi_zast dc_Mo_findParts_297 rfl ⟨by omega, by omega, by decide⟩ (by decide) (I' := va_up I 55 (nb g (j + 1) (fq_b so p n))) (by rw [va_up_self, up_up, Int.toNat_natCast]; exact congrArg (va_up I 55) (nb_sf hbad)) ?_
            refine mw_iload_n dc_Mo_findParts_298 rfl 2 rfl ?_
            refine mi_if_le (tgt := 308) dc_Mo_findParts_299 (by decide) (iB_mk (by omega) (by omega)) (fun h9299 => ?_) (fun h9299 => ?_)
            · refine mw_iload_n dc_Mo_findParts_308 rfl 4 rfl ?_
              refine mw_istore_n dc_Mo_findParts_309 rfl (by decide) rfl ?_
              refine mi_iinc dc_Mo_findParts_310 4 rfl (by decide) rfl ?_
              refine mw_goto (tgt := 154) dc_Mo_findParts_313 (by decide) ?_
              refine mw_pick [0, 1, 5] rfl ?_
              have k2 := ih (j + 1) (by omega) (by omega)
              rw [ct_f (P := fq_n p n) (fun q => absurd (of_decide_eq_true q) (by omega))] at k2
              exact k2
            · refine mw_iload_n dc_Mo_findParts_302 rfl 4 rfl ?_
              refine mi_const dc_Mo_findParts_303 ?_
              refine mi_iadd dc_Mo_findParts_304 ?_
              refine mw_goto (tgt := 309) dc_Mo_findParts_305 (by decide) ?_
              refine mw_istore_n dc_Mo_findParts_309 rfl (by decide) rfl ?_
              refine mi_iinc dc_Mo_findParts_310 4 rfl (by decide) rfl ?_
              refine mw_goto (tgt := 154) dc_Mo_findParts_313 (by decide) ?_
              refine mw_pick [0, 1, 5] rfl ?_
              have k2 := ih (j + 1) (by omega) (by omega)
              rw [ct_t (P := fq_n p n) (decide_eq_true (by omega))] at k2
              exact k2
          · refine mw_iload dc_Mo_findParts_277 1 rfl ?_
            refine mw_if_ne (tgt := 296) dc_Mo_findParts_279 (by decide) (fun h21279 => ?_) (fun h21279 => ?_)
            · refine mi_const dc_Mo_findParts_296 ?_
              have hbad : fq_b so p n j = false := show (decide (0 < ct (fq_c p j) (n + 1)) && !fq_o so p j (n + 1) && _) = false by rw [Decidable.not_not.mp (fun q => h21279 (bo_0.mpr q)), Bool.not_true, Bool.and_false]; rfl
              refine mi_zast dc_Mo_findParts_297 rfl ⟨by omega, by omega, by decide⟩ (by decide) (I' := va_up I 55 (nb g (j + 1) (fq_b so p n))) (by rw [va_up_self, up_up, Int.toNat_natCast]; exact congrArg (va_up I 55) (nb_sf hbad)) ?_
              refine mw_iload_n dc_Mo_findParts_298 rfl 2 rfl ?_
              refine mi_if_le (tgt := 308) dc_Mo_findParts_299 (by decide) (iB_mk (by omega) (by omega)) (fun h9299 => ?_) (fun h9299 => ?_)
              · refine mw_iload_n dc_Mo_findParts_308 rfl 4 rfl ?_
                refine mw_istore_n dc_Mo_findParts_309 rfl (by decide) rfl ?_
                refine mi_iinc dc_Mo_findParts_310 4 rfl (by decide) rfl ?_
                refine mw_goto (tgt := 154) dc_Mo_findParts_313 (by decide) ?_
                refine mw_pick [0, 1, 5] rfl ?_
                have k2 := ih (j + 1) (by omega) (by omega)
                rw [ct_f (P := fq_n p n) (fun q => absurd (of_decide_eq_true q) (by omega))] at k2
                exact k2
              · refine mw_iload_n dc_Mo_findParts_302 rfl 4 rfl ?_
                refine mi_const dc_Mo_findParts_303 ?_
                refine mi_iadd dc_Mo_findParts_304 ?_
                refine mw_goto (tgt := 309) dc_Mo_findParts_305 (by decide) ?_
                refine mw_istore_n dc_Mo_findParts_309 rfl (by decide) rfl ?_
                refine mi_iinc dc_Mo_findParts_310 4 rfl (by decide) rfl ?_
                refine mw_goto (tgt := 154) dc_Mo_findParts_313 (by decide) ?_
                refine mw_pick [0, 1, 5] rfl ?_
                have k2 := ih (j + 1) (by omega) (by omega)
                rw [ct_t (P := fq_n p n) (decide_eq_true (by omega))] at k2
                exact k2
            · refine mw_iload_n dc_Mo_findParts_282 rfl 2 rfl ?_
              refine mi_const dc_Mo_findParts_283 ?_
              refine mi_icmp_ne (tgt := 292) dc_Mo_findParts_284 (by decide) (iB_mk (by omega) (by omega)) (iB_mk (by omega) (by omega)) (fun h22284 => ?_) (fun h22284 => ?_)
              · refine mi_const dc_Mo_findParts_292 ?_
                refine mw_goto (tgt := 297) dc_Mo_findParts_293 (by decide) ?_
                have hbad : fq_b so p n j = true := show (decide (0 < ct (fq_c p j) (n + 1)) && !fq_o so p j (n + 1) && !(ct (fq_c p j) (n + 1) == 1 && fq_h so j)) = true by rw [decide_eq_true (show 0 < ct (fq_c p j) (n + 1) by omega), Bool.eq_false_iff.mpr (bo_0.mp h21279), beq_false_of_ne (show ct (fq_c p j) (n + 1) ≠ 1 by omega)]; rfl
                refine mi_zast dc_Mo_findParts_297 rfl ⟨by omega, by omega, by decide⟩ (by decide) (I' := va_up I 55 (nb g (j + 1) (fq_b so p n))) (by rw [va_up_self, up_up, Int.toNat_natCast]; exact congrArg (va_up I 55) (nb_st hbad)) ?_
                refine mw_iload_n dc_Mo_findParts_298 rfl 2 rfl ?_
                refine mi_if_le (tgt := 308) dc_Mo_findParts_299 (by decide) (iB_mk (by omega) (by omega)) (fun h9299 => ?_) (fun h9299 => ?_)
                · refine mw_iload_n dc_Mo_findParts_308 rfl 4 rfl ?_
                  refine mw_istore_n dc_Mo_findParts_309 rfl (by decide) rfl ?_
                  refine mi_iinc dc_Mo_findParts_310 4 rfl (by decide) rfl ?_
                  refine mw_goto (tgt := 154) dc_Mo_findParts_313 (by decide) ?_
                  refine mw_pick [0, 1, 5] rfl ?_
                  have k2 := ih (j + 1) (by omega) (by omega)
                  rw [ct_f (P := fq_n p n) (fun q => absurd (of_decide_eq_true q) (by omega))] at k2
                  exact k2
                · refine mw_iload_n dc_Mo_findParts_302 rfl 4 rfl ?_
                  refine mi_const dc_Mo_findParts_303 ?_
                  refine mi_iadd dc_Mo_findParts_304 ?_
                  refine mw_goto (tgt := 309) dc_Mo_findParts_305 (by decide) ?_
                  refine mw_istore_n dc_Mo_findParts_309 rfl (by decide) rfl ?_
                  refine mi_iinc dc_Mo_findParts_310 4 rfl (by decide) rfl ?_
                  refine mw_goto (tgt := 154) dc_Mo_findParts_313 (by decide) ?_
                  refine mw_pick [0, 1, 5] rfl ?_
                  have k2 := ih (j + 1) (by omega) (by omega)
                  rw [ct_t (P := fq_n p n) (decide_eq_true (by omega))] at k2
                  exact k2
              · refine mw_iload dc_Mo_findParts_287 0 rfl ?_
                refine mi_if_ne (tgt := 296) dc_Mo_findParts_289 (by decide) (iB_mk (by omega) (by omega)) (fun h9289 => ?_) (fun h9289 => ?_)
                · refine mi_const dc_Mo_findParts_296 ?_
                  have hbad : fq_b so p n j = false := show (decide (0 < ct (fq_c p j) (n + 1)) && !fq_o so p j (n + 1) && !(ct (fq_c p j) (n + 1) == 1 && fq_h so j)) = false by rw [(beq_iff_eq).mpr (show ct (fq_c p j) (n + 1) = 1 by omega), hq, Bool.and_self, Bool.not_true, Bool.and_false]
                  refine mi_zast dc_Mo_findParts_297 rfl ⟨by omega, by omega, by decide⟩ (by decide) (I' := va_up I 55 (nb g (j + 1) (fq_b so p n))) (by rw [va_up_self, up_up, Int.toNat_natCast]; exact congrArg (va_up I 55) (nb_sf hbad)) ?_
                  refine mw_iload_n dc_Mo_findParts_298 rfl 2 rfl ?_
                  refine mi_if_le (tgt := 308) dc_Mo_findParts_299 (by decide) (iB_mk (by omega) (by omega)) (fun h9299 => ?_) (fun h9299 => ?_)
                  · refine mw_iload_n dc_Mo_findParts_308 rfl 4 rfl ?_
                    refine mw_istore_n dc_Mo_findParts_309 rfl (by decide) rfl ?_
                    refine mi_iinc dc_Mo_findParts_310 4 rfl (by decide) rfl ?_
                    refine mw_goto (tgt := 154) dc_Mo_findParts_313 (by decide) ?_
                    refine mw_pick [0, 1, 5] rfl ?_
                    have k2 := ih (j + 1) (by omega) (by omega)
                    rw [ct_f (P := fq_n p n) (fun q => absurd (of_decide_eq_true q) (by omega))] at k2
                    exact k2
                  · refine mw_iload_n dc_Mo_findParts_302 rfl 4 rfl ?_
                    refine mi_const dc_Mo_findParts_303 ?_
                    refine mi_iadd dc_Mo_findParts_304 ?_
                    refine mw_goto (tgt := 309) dc_Mo_findParts_305 (by decide) ?_
                    refine mw_istore_n dc_Mo_findParts_309 rfl (by decide) rfl ?_
                    refine mi_iinc dc_Mo_findParts_310 4 rfl (by decide) rfl ?_
                    refine mw_goto (tgt := 154) dc_Mo_findParts_313 (by decide) ?_
                    refine mw_pick [0, 1, 5] rfl ?_
                    have k2 := ih (j + 1) (by omega) (by omega)
                    rw [ct_t (P := fq_n p n) (decide_eq_true (by omega))] at k2
                    exact k2
                · exact absurd h9289 (by decide)
theorem ev_findParts {G : mm_G} {d : Nat} {cs : mm_Sh} {I : Nat → Nat → Int32} {J : Nat → Nat → Int64} {F : Nat → Nat → Option Nat} {V : Nat → Nat → Value} {n : Nat} {so : Nat → Nat} (hM : mo_V V) (hg : V 39 1 = .int (iI n)) (hs : mo_s I n so) (hn : n ≤ 6) : mE G mt_Mo_findParts (d + 2) 0 0 [.ref 39] (wd_S ++ cs, I, J, F, V) (fun o h1 => o = .inl (some (.int (iI (ct (fq_n (fp_r so n (n + 1)) n) (n + 1) : Nat)))) ∧ h1 = (wd_S ++ cs, va_up (va_up I 54 (nn (I 54) (n + 1) (fp_r so n (n + 1)))) 55 (nb (I 55) (n + 1) (fq_b so (fp_r so n (n + 1)) n)), J, F, V)) := by
  refine mE_intro (by decide) (fun k h q => nomatch q.1) (Nat.le_of_ble_eq_true rfl) ?_
  show mW G mt_Mo_findParts (d + 2) 0 0 0 [(0, .ref 39)] [] (wd_S ++ cs, I, J, F, V) _
  refine mi_const dc_Mo_findParts_0 ?_
  refine mw_istore_n dc_Mo_findParts_1 rfl (by decide) rfl ?_
  refine mw_h (h' := (wd_S ++ cs, va_up I 54 (nn (I 54) 0 (fun k => k)), J, F, V)) (by rw [nn_0, up_id]) ?_
  refine lp_fp0 (I := I) hM hg hs hn ?_ (n + 2) 0 (by omega) (by omega)
  refine mi_const dc_Mo_findParts_150 ?_
  refine mw_istore_n dc_Mo_findParts_151 rfl (by decide) rfl ?_
  refine mi_const dc_Mo_findParts_152 ?_
  refine mw_istore_n dc_Mo_findParts_153 rfl (by decide) rfl ?_
  refine mw_h (h' := (wd_S ++ cs, va_up (va_up I 54 (nn (I 54) (n + 1) (fp_r so n (n + 1)))) 55 (nb (I 55) 0 (fq_b so (fp_r so n (n + 1)) n)), J, F, V)) (by rw [nb_0, show I 55 = va_up I 54 (nn (I 54) (n + 1) (fp_r so n (n + 1))) 55 from (va_up_ne _ _ (by decide)).symm, up_id]) ?_
  exact lp_fq2 (I := va_up I 54 (nn (I 54) (n + 1) (fp_r so n (n + 1)))) hM hg (fun e he => by rw [va_up_ne _ _ (by decide)]; exact hs e he) (fun k hk => ⟨by rw [va_up_self, nn_a (by omega)], fp_r_le _ k hk⟩) hn ⟨rfl, rfl⟩ (n + 2) 0 (by omega) (by omega)
