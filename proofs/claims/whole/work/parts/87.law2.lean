/-! the law: the other cases -/
theorem mcl_lt {S : Nat → Int} : ∀ {N : Nat}, 0 < N → (mcl S N).2 < N := fun {N} => by
  induction N with
  | zero => intro h; exact absurd h (Nat.lt_irrefl _)
  | succ N ih =>
    intro _
    have e0 : mcl S (N + 1) = if S N < (mcl S N).1 then (S N, N) else mcl S N := rfl
    by_cases c : S N < (mcl S N).1
    · rw [e0, if_pos c]; exact Nat.lt_succ_self N
    · rw [e0, if_neg c]
      rcases Nat.eq_zero_or_pos N with q | q
      · subst q; exact Nat.zero_lt_one
      · exact Nat.lt_succ_of_lt (ih q)
theorem lw_read {G : mm_G} {d bc bs : Nat} {X : mm_X} {n : Nat} {u : Nat → Nat → Int} {k : Nat → Nat} {a b : Nat → Nat → Nat} {l : Nat} {cc : Nat → Int} {c : Int} {st : Nat → Int} {cs : mm_Sh} {I : Nat → Nat → Int32} {J : Nat → Nat → Int64} {F : Nat → Nat → Option Nat} {V : Nat → Nat → Value} {i : Nat} {x1 x2 x3 : Int} (hst : G.1.stackTraces = false) (mf : MF) (hL : i + 4 ≤ G.2.2.2.2.1 ∧ G.2.2.2.2.1 ≤ 2048) (e1 : G.2.2.2.2.2 (i + 1) = iI x1) (e2 : G.2.2.2.2.2 (i + 2) = iI x2) (e3 : G.2.2.2.2.2 (i + 3) = iI x3) (b1 : iB x1) (b2 : iB x2) (b3 : iB x3) (hP : wrP n u k a b l cc c) (hC : wrC n u k a b l cc c st cs I J F V) (hM : wrM n u k a b l cc c st I J V)
    (hx : ∀ n u k a b l cc c st cs I J F V, wrP n u k a b l cc c → wrC n u k a b l cc c st cs I J F V → wrM n u k a b l cc c st I J V → mW G mt_law (d + 40) bc bs 1168 [(4, .int (iI (i : Nat))), (3, .ref 58), (2, .ref 39), (1, .ref 0), (0, .retAddr G.2.2.2.1)] [] (wd_S ++ cs, I, J, F, V) X) : mW G mt_law (d + 40) (bc + 8) (bs + 820) 226 [(4, .int (iI (i : Nat))), (3, .ref 58), (2, .ref 39), (1, .ref 0), (0, .retAddr G.2.2.2.1)] [] (wd_S ++ cs, I, J, F, V) X := by
  by_cases hc : okS x1
  · obtain ⟨y, rfl⟩ := Int.eq_ofNat_of_zero_le hc.1
    have hy5 : y < 5 := by have := hc.2; omega
    refine mw_aload_n dc_La_law_226 rfl 3 rfl ?_
    refine mw_aload_nS dc_La_law_227 rfl 4 rfl ?_
    refine mw_iload dc_La_law_228 0 rfl ?_
    refine mi_const dc_La_law_230 ?_
    refine mi_iadd dc_La_law_231 ?_
    refine mi_sld dc_La_law_232 rfl ⟨by omega, by omega, by omega⟩ (v := iI (y : Int)) (by rw [show ((i : Int) + 1).toNat = i + 1 by omega]; exact e1) ?_
    refine mw_aload_n dc_La_law_233 rfl 1 rfl ?_
    refine mw_le (bc := bc + 1) (bs := bs + 6) (by omega) (by omega) ?_
    refine mw_callSW (M2 := mt_La_read) (mc := 1) (ms := 6) (as := [.ref 0, .int (iI (y : Int)), .ref 58]) (st := []) dc_La_law_234 ml_La_95 ny_La_read (by decide) rfl (Nat.le_of_ble_eq_true rfl) (ev_La_read (ev_read hst hC.1 hC.2.1 hP.1.2 b1 hC.2.2.2.1 hP.2.2.1 (fun m hm => ⟨hC.2.2.2.2.1 m hm, hP.2.2.2.1 m hm⟩)) (fun v h9 q => by
      obtain ⟨t, q, -, -, ⟨-, -, o9, rfl⟩ | ⟨-, -, o9, rfl⟩ | ⟨-, -, o9, rfl⟩⟩ := q.1 hc
      · exact ⟨_, cs, _, J, F, _, Sum.inl.inj o9, rfl⟩
      · exact ⟨_, cs, _, J, F, _, Sum.inl.inj o9, rfl⟩
      · exact ⟨_, cs, _, J, F, _, Sum.inl.inj o9, rfl⟩) (fun j h9 q => absurd ((by
      obtain ⟨t, q, -, -, ⟨-, -, o9, -⟩ | ⟨-, -, o9, -⟩ | ⟨-, -, o9, -⟩⟩ := q.1 hc
      · exact nomatch o9
      · exact nomatch o9
      · exact nomatch o9) : False) id)) (fun k9 h9 q9 => by rcases q9 with ⟨_, _, _, q9, _⟩ | ⟨_, _, q9, _⟩ <;> cases q9) (fun v h1 hY => ?_)
    rcases hY with ⟨x9, h9, q0, hv9, rfl⟩ | ⟨h9, q0, hv9, rfl⟩
    rotate_left
    · obtain ⟨t, q, -, -, ⟨-, -, o9, -⟩ | ⟨-, -, o9, -⟩ | ⟨-, -, o9, -⟩⟩ := q0.1 hc
      · exact nomatch o9
      · exact nomatch o9
      · exact nomatch o9
    cases hv9
    obtain ⟨t, q, ht, hr, hq⟩ := q0.1 hc
    clear q0
    have huq := fun {t2 : Nat} {q2 : ps_S} (h2 : ps_r n cc t2 = some q2) (e2 : (t2 < l ∧ ps_1 n (cc t2) q2 = none) ∨ t2 = l) (e1 : (t < l ∧ ps_1 n (cc t) q = none) ∨ t = l) => ps_u (l := l) hr h2 e1 e2
    rcases hq with ⟨t1, t2, e9, rfl⟩ | ⟨rfl, t2, e9, rfl⟩ | ⟨rfl, t2, e9, rfl⟩
    · have ex9 := Value.int.inj (Option.some.inj (Sum.inl.inj e9))
      subst ex9
      obtain ⟨C1, f1⟩ := C_38 hC (nr (I 38) 0 q.1 q.2.2.2)
      have M1 := wrM_f hM (frM_t f1 (frM_J (v := (iI (t : Nat)).toInt64)))
      refine mw_istore dc_La_law_237 (by decide) rfl ?_
      refine mw_aload_n dc_La_law_239 rfl 3 rfl ?_
      refine mw_aload_nS dc_La_law_240 rfl 5 rfl ?_
      refine mw_iload dc_La_law_241 1 rfl ?_
      refine mi_const dc_La_law_243 ?_
      refine mi_iadd dc_La_law_244 ?_
      refine mi_sld dc_La_law_245 rfl ⟨by omega, by omega, by omega⟩ (v := iI (y : Int)) (by rw [show ((i : Int) + 1).toNat = i + 1 by omega]; exact e1) ?_
      refine mz_V1 (M2 := mt_Mo_read) dc_La_law_246 ml_La_98 rfl rfl ny_Mo_read (by decide) (Nat.le_of_ble_eq_true rfl) (ev_moread M1.1 M1.2.1 M1.2.2.2.1 hP.1.2 b1 hP.2.2.1 (fun m9 hm9 => ⟨M1.2.2.2.2.1 m9 hm9, hP.2.2.2.1 m9 hm9⟩)) (fun v h1 hY => ?_)
      obtain ⟨t3, q3, ht3, hr3, hq3⟩ := hY.2 hc
      rcases hq3 with ⟨s1, s2, o9, rfl⟩ | ⟨s1, s2, o9, rfl⟩ | ⟨s1, s2, o9, rfl⟩
      · obtain ⟨e8, e7⟩ := huq hr3 (Or.inl ⟨s1, s2⟩) (Or.inl ⟨t1, t2⟩)
        subst e8
        subst e7
        cases o9
        obtain ⟨M2, f2⟩ := wrM_d M1 (K := va_up _ 49 (nr _ 0 q.1 q.2.2.2)) (ms_u _ (by omega)) (.int (iI 0))
        refine mw_istore dc_La_law_249 (by decide) rfl ?_
        refine mw_aload_n dc_La_law_251 rfl 4 rfl ?_
        refine mz_V0 (M2 := mt_Mo_thrown) dc_La_law_252 ml_La_80 rfl rfl ny_Mo_thrown (by decide) (Nat.le_of_ble_eq_true rfl) (ev_thrown (t := 0) (fu_at _ 39 0 _)) (fun v h1 hY => ?_)
        obtain ⟨hv9, rfl⟩ := hY
        cases hv9
        refine mw_iload dc_La_law_255 1 rfl ?_
        refine mi_icmp_eq (tgt := 262) dc_La_law_257 (by decide) (iB_mk (by omega) (by omega)) (iB_mk (by omega) (by omega)) (fun ht9 => ?_) (fun ht9 => ?_)
        · refine mw_iload dc_La_law_262 1 rfl ?_
          refine mi_if_ne (tgt := 279) dc_La_law_264 (by decide) (iB_mk (by omega) (by omega)) (fun hk9 => ?_) (fun hk9 => ?_)
          · exact absurd rfl hk9
          · refine mw_aload_n dc_La_law_267 rfl 3 rfl ?_
            refine mi_const dc_La_law_268 ?_
            refine mi_lald dc_La_law_269 rfl ⟨by decide, by decide, by decide⟩ (v := (iI (t : Nat)).toInt64) (by rw [show (0 : Int).toNat = 0 from rfl]; exact up58_0 _ _) ?_
            refine mw_iload dc_La_law_270 0 rfl ?_
            refine mw_i2l dc_La_law_272 ?_
            refine mw_lcmp dc_La_law_273 ?_

            refine mw_if_eq (tgt := 279) dc_La_law_274 (by decide) (fun hq9 => ?_) (fun hq9 => ?_)
            · refine mw_goto (tgt := 1168) dc_La_law_279 (by decide) ?_
              refine mw_pick [2, 3, 4, 5, 6] rfl ?_
              exact hx _ _ _ _ _ _ _ _ _ _ _ _ _ _ hP (wrC_f (wrC_J C1) f2) M2
            · exact absurd (lg_eq (rfl)) hq9
        · exact absurd rfl ht9
      · obtain ⟨e8, e7⟩ := huq hr3 (Or.inr s1) (Or.inl ⟨t1, t2⟩)
        subst e8
        subst e7
        exact absurd s1 (by omega)
      · obtain ⟨e8, e7⟩ := huq hr3 (Or.inr s1) (Or.inl ⟨t1, t2⟩)
        subst e8
        subst e7
        exact absurd s1 (by omega)
    · have ex9 := Value.int.inj (Option.some.inj (Sum.inl.inj e9))
      subst ex9
      obtain ⟨C1, f1⟩ := C_38 hC (nr (I 38) 0 q.1 q.2.2.2)
      have M1 := wrM_f hM (frM_t f1 (frM_J (v := (iI (t : Nat)).toInt64)))
      refine mw_istore dc_La_law_237 (by decide) rfl ?_
      refine mw_aload_n dc_La_law_239 rfl 3 rfl ?_
      refine mw_aload_nS dc_La_law_240 rfl 5 rfl ?_
      refine mw_iload dc_La_law_241 1 rfl ?_
      refine mi_const dc_La_law_243 ?_
      refine mi_iadd dc_La_law_244 ?_
      refine mi_sld dc_La_law_245 rfl ⟨by omega, by omega, by omega⟩ (v := iI (y : Int)) (by rw [show ((i : Int) + 1).toNat = i + 1 by omega]; exact e1) ?_
      refine mz_V1 (M2 := mt_Mo_read) dc_La_law_246 ml_La_98 rfl rfl ny_Mo_read (by decide) (Nat.le_of_ble_eq_true rfl) (ev_moread M1.1 M1.2.1 M1.2.2.2.1 hP.1.2 b1 hP.2.2.1 (fun m9 hm9 => ⟨M1.2.2.2.2.1 m9 hm9, hP.2.2.2.1 m9 hm9⟩)) (fun v h1 hY => ?_)
      obtain ⟨t3, q3, ht3, hr3, hq3⟩ := hY.2 hc
      rcases hq3 with ⟨s1, s2, o9, rfl⟩ | ⟨s1, s2, o9, rfl⟩ | ⟨s1, s2, o9, rfl⟩
      · obtain ⟨e8, e7⟩ := huq hr3 (Or.inl ⟨s1, s2⟩) (Or.inr rfl)
        subst e8
        subst e7
        exact absurd s1 (by omega)
      · obtain ⟨e8, e7⟩ := huq hr3 (Or.inr s1) (Or.inr rfl)
        subst e8
        subst e7
        cases o9
        obtain ⟨M2, f2⟩ := wrM_d M1 (K := va_up _ 49 (nr _ 0 q.1 q.2.2.2)) (ms_u _ (by omega)) (.int (iI 0))
        refine mw_istore dc_La_law_249 (by decide) rfl ?_
        refine mw_aload_n dc_La_law_251 rfl 4 rfl ?_
        refine mz_V0 (M2 := mt_Mo_thrown) dc_La_law_252 ml_La_80 rfl rfl ny_Mo_thrown (by decide) (Nat.le_of_ble_eq_true rfl) (ev_thrown (t := 0) (fu_at _ 39 0 _)) (fun v h1 hY => ?_)
        obtain ⟨hv9, rfl⟩ := hY
        cases hv9
        refine mw_iload dc_La_law_255 1 rfl ?_
        refine mi_icmp_eq (tgt := 262) dc_La_law_257 (by decide) (iB_mk (by omega) (by omega)) (iB_mk (by omega) (by omega)) (fun ht9 => ?_) (fun ht9 => ?_)
        · refine mw_iload dc_La_law_262 1 rfl ?_
          refine mi_if_ne (tgt := 279) dc_La_law_264 (by decide) (iB_mk (by omega) (by omega)) (fun hk9 => ?_) (fun hk9 => ?_)
          · exact absurd rfl hk9
          · refine mw_aload_n dc_La_law_267 rfl 3 rfl ?_
            refine mi_const dc_La_law_268 ?_
            refine mi_lald dc_La_law_269 rfl ⟨by decide, by decide, by decide⟩ (v := (iI (t : Nat)).toInt64) (by rw [show (0 : Int).toNat = 0 from rfl]; exact up58_0 _ _) ?_
            refine mw_iload dc_La_law_270 0 rfl ?_
            refine mw_i2l dc_La_law_272 ?_
            refine mw_lcmp dc_La_law_273 ?_

            refine mw_if_eq (tgt := 279) dc_La_law_274 (by decide) (fun hq9 => ?_) (fun hq9 => ?_)
            · refine mw_goto (tgt := 1168) dc_La_law_279 (by decide) ?_
              refine mw_pick [2, 3, 4, 5, 6] rfl ?_
              exact hx _ _ _ _ _ _ _ _ _ _ _ _ _ _ hP (wrC_f (wrC_J C1) f2) M2
            · exact absurd (lg_eq (rfl)) hq9
        · exact absurd rfl ht9
      · obtain ⟨e8, e7⟩ := huq hr3 (Or.inr s1) (Or.inr rfl)
        subst e8
        subst e7
        exact absurd s2 t2
    · have ex9 := Value.int.inj (Option.some.inj (Sum.inl.inj e9))
      subst ex9
      rw [t2]
      obtain ⟨C1, f1⟩ := C_read hC hP.1.2 hy5 q.2.2.2
      have M1 := wrM_f hM (frM_t f1 (frM_J (v := (iI (-1)).toInt64)))
      refine mw_istore dc_La_law_237 (by decide) rfl ?_
      refine mw_aload_n dc_La_law_239 rfl 3 rfl ?_
      refine mw_aload_nS dc_La_law_240 rfl 5 rfl ?_
      refine mw_iload dc_La_law_241 1 rfl ?_
      refine mi_const dc_La_law_243 ?_
      refine mi_iadd dc_La_law_244 ?_
      refine mi_sld dc_La_law_245 rfl ⟨by omega, by omega, by omega⟩ (v := iI (y : Int)) (by rw [show ((i : Int) + 1).toNat = i + 1 by omega]; exact e1) ?_
      refine mz_V1 (M2 := mt_Mo_read) dc_La_law_246 ml_La_98 rfl rfl ny_Mo_read (by decide) (Nat.le_of_ble_eq_true rfl) (ev_moread M1.1 M1.2.1 M1.2.2.2.1 hP.1.2 b1 hP.2.2.1 (fun m9 hm9 => ⟨M1.2.2.2.2.1 m9 hm9, hP.2.2.2.1 m9 hm9⟩)) (fun v h1 hY => ?_)
      obtain ⟨t3, q3, ht3, hr3, hq3⟩ := hY.2 hc
      rcases hq3 with ⟨s1, s2, o9, rfl⟩ | ⟨s1, s2, o9, rfl⟩ | ⟨s1, s2, o9, rfl⟩
      · obtain ⟨e8, e7⟩ := huq hr3 (Or.inl ⟨s1, s2⟩) (Or.inr rfl)
        subst e8
        subst e7
        exact absurd s1 (by omega)
      · obtain ⟨e8, e7⟩ := huq hr3 (Or.inr s1) (Or.inr rfl)
        subst e8
        subst e7
        exact absurd t2 s2
      · obtain ⟨e8, e7⟩ := huq hr3 (Or.inr s1) (Or.inr rfl)
        subst e8
        subst e7
        cases o9
        have pz : sP n q.2.2.2 := gI_f hP.1.2 (by have := ps_P hP.1.2 _ _ hr; rw [t2] at this; exact this)
        obtain ⟨M2, f2⟩ := M_slot M1 hP hy5 q.2.2.2 (.int (iI 0)) (K := va_up _ 49 (nr _ 0 q.1 q.2.2.2)) (fun y9 hy9 => va_up_ne _ _ (by omega))
        obtain ⟨M3, f3⟩ := M_len (l' := 0) (cc' := cc) M2 (fun _ _ => rfl) (fun m hm => absurd hm (Nat.not_lt_zero _))
        refine mw_istore dc_La_law_249 (by decide) rfl ?_
        refine mw_aload_n dc_La_law_251 rfl 4 rfl ?_
        refine mz_V0 (M2 := mt_Mo_thrown) dc_La_law_252 ml_La_80 rfl rfl ny_Mo_thrown (by decide) (Nat.le_of_ble_eq_true rfl) (ev_thrown (t := 0) (by rw [fu_n2 _ _ (by decide), fu_at])) (fun v h1 hY => ?_)
        obtain ⟨hv9, rfl⟩ := hY
        cases hv9
        refine mw_iload dc_La_law_255 1 rfl ?_
        refine mi_icmp_eq (tgt := 262) dc_La_law_257 (by decide) (iB_mk (by omega) (by omega)) (iB_mk (by omega) (by omega)) (fun ht9 => ?_) (fun ht9 => ?_)
        · refine mw_iload dc_La_law_262 1 rfl ?_
          refine mi_if_ne (tgt := 279) dc_La_law_264 (by decide) (iB_mk (by omega) (by omega)) (fun hk9 => ?_) (fun hk9 => ?_)
          · exact absurd rfl hk9
          · refine mw_aload_n dc_La_law_267 rfl 3 rfl ?_
            refine mi_const dc_La_law_268 ?_
            refine mi_lald dc_La_law_269 rfl ⟨by decide, by decide, by decide⟩ (v := (iI (-1)).toInt64) (by rw [show (0 : Int).toNat = 0 from rfl]; exact up58_0 _ _) ?_
            refine mw_iload dc_La_law_270 0 rfl ?_
            refine mw_i2l dc_La_law_272 ?_
            refine mw_lcmp dc_La_law_273 ?_

            refine mw_if_eq (tgt := 279) dc_La_law_274 (by decide) (fun hq9 => ?_) (fun hq9 => ?_)
            · refine mw_goto (tgt := 1168) dc_La_law_279 (by decide) ?_
              refine mw_pick [2, 3, 4, 5, 6] rfl ?_
              exact hx _ _ _ _ _ _ _ _ _ _ _ _ _ _ (P_len (P_slot hP pz)) (wrC_f (wrC_f (wrC_J C1) f2) f3) M3
            · exact absurd (lg_eq (rfl)) hq9
        · exact absurd rfl ht9
  · refine mw_aload_n dc_La_law_226 rfl 3 rfl ?_
    refine mw_aload_nS dc_La_law_227 rfl 4 rfl ?_
    refine mw_iload dc_La_law_228 0 rfl ?_
    refine mi_const dc_La_law_230 ?_
    refine mi_iadd dc_La_law_231 ?_
    refine mi_sld dc_La_law_232 rfl ⟨by omega, by omega, by omega⟩ (v := iI x1) (by rw [show ((i : Int) + 1).toNat = i + 1 by omega]; exact e1) ?_
    refine mw_aload_n dc_La_law_233 rfl 1 rfl ?_
    refine mw_le (bc := bc + 1) (bs := bs + 6) (by omega) (by omega) ?_
    refine mw_callSW (M2 := mt_La_read) (mc := 1) (ms := 6) (as := [.ref 0, .int (iI x1), .ref 58]) (st := []) dc_La_law_234 ml_La_95 ny_La_read (by decide) rfl (Nat.le_of_ble_eq_true rfl) (ev_La_read (ev_read hst hC.1 hC.2.1 hP.1.2 b1 hC.2.2.2.1 hP.2.2.1 (fun m hm => ⟨hC.2.2.2.2.1 m hm, hP.2.2.2.1 m hm⟩)) (fun v h9 q => nomatch ((q.2 hc).1)) (fun j h9 q => Sum.inr.inj ((q.2 hc).1))) (fun k9 h9 q9 => by rcases q9 with ⟨_, _, _, q9, _⟩ | ⟨_, _, q9, _⟩ <;> cases q9) (fun v h1 hY => ?_)
    rcases hY with ⟨x9, h9, q, hv9, rfl⟩ | ⟨h9, q, hv9, rfl⟩
    · exact (nomatch ((q.2 hc).1))
    cases hv9
    obtain ⟨-, rfl⟩ := q.2 hc
    refine mw_istore dc_La_law_237 (by decide) rfl ?_
    refine mw_aload_n dc_La_law_239 rfl 3 rfl ?_
    refine mw_aload_nS dc_La_law_240 rfl 5 rfl ?_
    refine mw_iload dc_La_law_241 1 rfl ?_
    refine mi_const dc_La_law_243 ?_
    refine mi_iadd dc_La_law_244 ?_
    refine mi_sld dc_La_law_245 rfl ⟨by omega, by omega, by omega⟩ (v := iI x1) (by rw [show ((i : Int) + 1).toNat = i + 1 by omega]; exact e1) ?_
    refine mz_V1 (M2 := mt_Mo_read) dc_La_law_246 ml_La_98 rfl rfl ny_Mo_read (by decide) (Nat.le_of_ble_eq_true rfl) (ev_moread hM.1 hM.2.1 hM.2.2.2.1 hP.1.2 b1 hP.2.2.1 (fun m9 hm9 => ⟨hM.2.2.2.2.1 m9 hm9, hP.2.2.2.1 m9 hm9⟩)) (fun v h1 hY => ?_)
    obtain ⟨hv9, rfl⟩ := hY.1 hc
    cases hv9
    obtain ⟨M2, f2⟩ := wrM_x hM (.int (iI 1))
    refine mw_istore dc_La_law_249 (by decide) rfl ?_
    refine mw_aload_n dc_La_law_251 rfl 4 rfl ?_
    refine mz_V0 (M2 := mt_Mo_thrown) dc_La_law_252 ml_La_80 rfl rfl ny_Mo_thrown (by decide) (Nat.le_of_ble_eq_true rfl) (ev_thrown (t := 1) (fu_at _ 39 0 _)) (fun v h1 hY => ?_)
    obtain ⟨hv9, rfl⟩ := hY
    cases hv9
    refine mw_iload dc_La_law_255 1 rfl ?_
    refine mi_icmp_eq (tgt := 262) dc_La_law_257 (by decide) (iB_mk (by omega) (by omega)) (iB_mk (by omega) (by omega)) (fun ht9 => ?_) (fun ht9 => ?_)
    · refine mw_iload dc_La_law_262 1 rfl ?_
      refine mi_if_ne (tgt := 279) dc_La_law_264 (by decide) (iB_mk (by omega) (by omega)) (fun hk9 => ?_) (fun hk9 => ?_)
      · refine mw_goto (tgt := 1168) dc_La_law_279 (by decide) ?_
        refine mw_pick [2, 3, 4, 5, 6] rfl ?_
        exact hx _ _ _ _ _ _ _ _ _ _ _ _ _ _ hP (wrC_f hC f2) M2
      · exact absurd hk9 (by decide)
    · exact absurd rfl ht9
theorem lw_distance {G : mm_G} {d bc bs : Nat} {X : mm_X} {n : Nat} {u : Nat → Nat → Int} {k : Nat → Nat} {a b : Nat → Nat → Nat} {l : Nat} {cc : Nat → Int} {c : Int} {st : Nat → Int} {cs : mm_Sh} {I : Nat → Nat → Int32} {J : Nat → Nat → Int64} {F : Nat → Nat → Option Nat} {V : Nat → Nat → Value} {i : Nat} {x1 x2 x3 : Int} (hst : G.1.stackTraces = false) (mf : MF) (hL : i + 4 ≤ G.2.2.2.2.1 ∧ G.2.2.2.2.1 ≤ 2048) (e1 : G.2.2.2.2.2 (i + 1) = iI x1) (e2 : G.2.2.2.2.2 (i + 2) = iI x2) (e3 : G.2.2.2.2.2 (i + 3) = iI x3) (b1 : iB x1) (b2 : iB x2) (b3 : iB x3) (hP : wrP n u k a b l cc c) (hC : wrC n u k a b l cc c st cs I J F V) (hM : wrM n u k a b l cc c st I J V)
    (hx : ∀ n u k a b l cc c st cs I J F V, wrP n u k a b l cc c → wrC n u k a b l cc c st cs I J F V → wrM n u k a b l cc c st I J V → mW G mt_law (d + 40) bc bs 1168 [(4, .int (iI (i : Nat))), (3, .ref 58), (2, .ref 39), (1, .ref 0), (0, .retAddr G.2.2.2.1)] [] (wd_S ++ cs, I, J, F, V) X) : mW G mt_law (d + 40) (bc + 8) (bs + 820) 521 [(4, .int (iI (i : Nat))), (3, .ref 58), (2, .ref 39), (1, .ref 0), (0, .retAddr G.2.2.2.1)] [] (wd_S ++ cs, I, J, F, V) X := by
  have hO := wr_O hC hP
  have hQ := wr_Q hM hP mf
  have mm := mf n hP.1.1 hP.1.2
  by_cases hc : okS x1 ∧ okS x2
  · refine mw_aload_n dc_La_law_521 rfl 3 rfl ?_
    refine mw_aload_nS dc_La_law_522 rfl 4 rfl ?_
    refine mw_iload dc_La_law_523 0 rfl ?_
    refine mi_const dc_La_law_525 ?_
    refine mi_iadd dc_La_law_526 ?_
    refine mi_sld dc_La_law_527 rfl ⟨by omega, by omega, by omega⟩ (v := iI x1) (by rw [show ((i : Int) + 1).toNat = i + 1 by omega]; exact e1) ?_
    refine mw_aload_nS dc_La_law_528 rfl 4 rfl ?_
    refine mw_iload dc_La_law_529 0 rfl ?_
    refine mi_const dc_La_law_531 ?_
    refine mi_iadd dc_La_law_532 ?_
    refine mi_sld dc_La_law_533 rfl ⟨by omega, by omega, by omega⟩ (v := iI x2) (by rw [show ((i : Int) + 2).toNat = i + 2 by omega]; exact e2) ?_
    refine mw_aload_n dc_La_law_534 rfl 1 rfl ?_
    refine mw_le (bc := bc + 2) (bs := bs + 12) (by omega) (by omega) ?_
    refine mw_callSW (M2 := mt_La_distance) (mc := 2) (ms := 12) (as := [.ref 0, .int (iI x1), .int (iI x2), .ref 58]) (st := []) dc_La_law_535 ml_La_114 ny_La_distance (by decide) rfl (Nat.le_of_ble_eq_true rfl) (ev_La_distance (ev_distance hC.1 hC.2.1 hP.1.2 hO.2 hst b1 b2) (fun v h9 q => by obtain ⟨⟨K, -, rfl⟩, e9⟩ := q.1 hc; exact ⟨_, cs, K, J, F, _, Sum.inl.inj e9, rfl⟩) (fun j h9 q => nomatch (q.1 hc).2)) (fun k9 h9 q9 => by rcases q9 with ⟨_, _, _, q9, _⟩ | ⟨_, _, q9, _⟩ <;> cases q9) (fun v h1 hY => ?_)
    rcases hY with ⟨x9, h9, q, hv9, rfl⟩ | ⟨h9, q, hv9, rfl⟩
    rotate_left
    · exact (nomatch ((q.1 hc).2))
    cases hv9
    obtain ⟨⟨K, hk9, rfl⟩, e9⟩ := q.1 hc
    have ex9 := Value.int.inj (Option.some.inj (Sum.inl.inj e9))
    subst ex9
    have py : sP n (yR n (u x1.toNat) (u x2.toNat)) := sP_y (hP.2.1 _ (by omega)).1 (hP.2.1 _ (by omega)).1
    obtain ⟨C1, f1⟩ := wrC_d hC hk9 (vd_dr V n)
    have M1 := wrM_f hM (frM_t f1 (frM_J (v := (iI (dP n (yR n (u x1.toNat) (u x2.toNat)))).toInt64)))
    have hQ1 := wr_Q M1 hP mf
    refine mw_istore dc_La_law_538 (by decide) rfl ?_
    refine mw_aload_n dc_La_law_540 rfl 3 rfl ?_
    refine mw_aload_nS dc_La_law_541 rfl 5 rfl ?_
    refine mw_iload dc_La_law_542 1 rfl ?_
    refine mi_const dc_La_law_544 ?_
    refine mi_iadd dc_La_law_545 ?_
    refine mi_sld dc_La_law_546 rfl ⟨by omega, by omega, by omega⟩ (v := iI x1) (by rw [show ((i : Int) + 1).toNat = i + 1 by omega]; exact e1) ?_
    refine mw_aload_nS dc_La_law_547 rfl 5 rfl ?_
    refine mw_iload dc_La_law_548 1 rfl ?_
    refine mi_const dc_La_law_550 ?_
    refine mi_iadd dc_La_law_551 ?_
    refine mi_sld dc_La_law_552 rfl ⟨by omega, by omega, by omega⟩ (v := iI x2) (by rw [show ((i : Int) + 2).toNat = i + 2 by omega]; exact e2) ?_
    refine mz_V2 (M2 := mt_Mo_distance) dc_La_law_553 ml_La_116 rfl rfl ny_Mo_distance (by decide) (Nat.le_of_ble_eq_true rfl) (ev_modistance M1.1 M1.2.1 hP.1 M1.2.2.2.2.2.2.2.2 mm.2.1 (fun k9 hk9 => by have := (mm.2.2.1 k9 hk9).1; omega) hQ1.1 b1 b2) (fun v h1 hY => ?_)
    obtain ⟨hv9, I2, J2, V2, rfl, mP9⟩ := hY.2 hc
    cases hv9
    obtain ⟨M2, f2, t9⟩ := wrM_t M1 mP9
    have ev9 : dP n (yR n (u x1.toNat) (u x2.toNat)) = ((Dn n (rkn n (yR n (u x1.toNat) (u x2.toNat))) : Nat) : Int) := by rw [((mm.1 _ py).2.2.2)]; exact (mm.1 _ py).1
    refine mw_istore dc_La_law_556 (by decide) rfl ?_
    refine mw_aload_n dc_La_law_558 rfl 4 rfl ?_
    refine mz_V0 (M2 := mt_Mo_thrown) dc_La_law_559 ml_La_80 rfl rfl ny_Mo_thrown (by decide) (Nat.le_of_ble_eq_true rfl) (ev_thrown (t := 0) t9) (fun v h1 hY => ?_)
    obtain ⟨hv9, rfl⟩ := hY
    cases hv9
    refine mw_iload dc_La_law_562 1 rfl ?_
    refine mi_icmp_eq (tgt := 569) dc_La_law_564 (by decide) (iB_mk (by omega) (by omega)) (iB_mk (by omega) (by omega)) (fun ht9 => ?_) (fun ht9 => ?_)
    · refine mw_iload dc_La_law_569 1 rfl ?_
      refine mi_if_ne (tgt := 586) dc_La_law_571 (by decide) (iB_mk (by omega) (by omega)) (fun hk9 => ?_) (fun hk9 => ?_)
      · exact absurd rfl hk9
      · refine mw_aload_n dc_La_law_574 rfl 3 rfl ?_
        refine mi_const dc_La_law_575 ?_
        refine mi_lald dc_La_law_576 rfl ⟨by decide, by decide, by decide⟩ (v := (iI (dP n (yR n (u x1.toNat) (u x2.toNat)))).toInt64) (by rw [mP9.2.1 58 (by decide)]; exact up58_0 _ _) ?_
        refine mw_iload dc_La_law_577 0 rfl ?_
        refine mw_i2l dc_La_law_579 ?_
        refine mw_lcmp dc_La_law_580 ?_

        refine mw_if_eq (tgt := 586) dc_La_law_581 (by decide) (fun hq9 => ?_) (fun hq9 => ?_)
        · refine mw_goto (tgt := 1168) dc_La_law_586 (by decide) ?_
          refine mw_pick [2, 3, 4, 5, 6] rfl ?_
          exact hx _ _ _ _ _ _ _ _ _ _ _ _ _ _ hP (wrC_f (wrC_J C1) f2) M2
        · exact absurd (lg_eq (by rw [ev9])) hq9
    · exact absurd rfl ht9
  · refine mw_aload_n dc_La_law_521 rfl 3 rfl ?_
    refine mw_aload_nS dc_La_law_522 rfl 4 rfl ?_
    refine mw_iload dc_La_law_523 0 rfl ?_
    refine mi_const dc_La_law_525 ?_
    refine mi_iadd dc_La_law_526 ?_
    refine mi_sld dc_La_law_527 rfl ⟨by omega, by omega, by omega⟩ (v := iI x1) (by rw [show ((i : Int) + 1).toNat = i + 1 by omega]; exact e1) ?_
    refine mw_aload_nS dc_La_law_528 rfl 4 rfl ?_
    refine mw_iload dc_La_law_529 0 rfl ?_
    refine mi_const dc_La_law_531 ?_
    refine mi_iadd dc_La_law_532 ?_
    refine mi_sld dc_La_law_533 rfl ⟨by omega, by omega, by omega⟩ (v := iI x2) (by rw [show ((i : Int) + 2).toNat = i + 2 by omega]; exact e2) ?_
    refine mw_aload_n dc_La_law_534 rfl 1 rfl ?_
    refine mw_le (bc := bc + 2) (bs := bs + 12) (by omega) (by omega) ?_
    refine mw_callSW (M2 := mt_La_distance) (mc := 2) (ms := 12) (as := [.ref 0, .int (iI x1), .int (iI x2), .ref 58]) (st := []) dc_La_law_535 ml_La_114 ny_La_distance (by decide) rfl (Nat.le_of_ble_eq_true rfl) (ev_La_distance (ev_distance hC.1 hC.2.1 hP.1.2 hO.2 hst b1 b2) (fun v h9 q => nomatch ((q.2 hc).1)) (fun j h9 q => Sum.inr.inj ((q.2 hc).1))) (fun k9 h9 q9 => by rcases q9 with ⟨_, _, _, q9, _⟩ | ⟨_, _, q9, _⟩ <;> cases q9) (fun v h1 hY => ?_)
    rcases hY with ⟨x9, h9, q, hv9, rfl⟩ | ⟨h9, q, hv9, rfl⟩
    · exact (nomatch ((q.2 hc).1))
    cases hv9
    obtain ⟨-, rfl⟩ := q.2 hc
    refine mw_istore dc_La_law_538 (by decide) rfl ?_
    refine mw_aload_n dc_La_law_540 rfl 3 rfl ?_
    refine mw_aload_nS dc_La_law_541 rfl 5 rfl ?_
    refine mw_iload dc_La_law_542 1 rfl ?_
    refine mi_const dc_La_law_544 ?_
    refine mi_iadd dc_La_law_545 ?_
    refine mi_sld dc_La_law_546 rfl ⟨by omega, by omega, by omega⟩ (v := iI x1) (by rw [show ((i : Int) + 1).toNat = i + 1 by omega]; exact e1) ?_
    refine mw_aload_nS dc_La_law_547 rfl 5 rfl ?_
    refine mw_iload dc_La_law_548 1 rfl ?_
    refine mi_const dc_La_law_550 ?_
    refine mi_iadd dc_La_law_551 ?_
    refine mi_sld dc_La_law_552 rfl ⟨by omega, by omega, by omega⟩ (v := iI x2) (by rw [show ((i : Int) + 2).toNat = i + 2 by omega]; exact e2) ?_
    refine mz_V2 (M2 := mt_Mo_distance) dc_La_law_553 ml_La_116 rfl rfl ny_Mo_distance (by decide) (Nat.le_of_ble_eq_true rfl) (ev_modistance hM.1 hM.2.1 hP.1 hM.2.2.2.2.2.2.2.2 mm.2.1 (fun k9 hk9 => by have := (mm.2.2.1 k9 hk9).1; omega) hQ.1 b1 b2) (fun v h1 hY => ?_)
    obtain ⟨hv9, rfl⟩ := hY.1 hc
    cases hv9
    obtain ⟨M2, f2⟩ := wrM_x hM (.int (iI 1))
    refine mw_istore dc_La_law_556 (by decide) rfl ?_
    refine mw_aload_n dc_La_law_558 rfl 4 rfl ?_
    refine mz_V0 (M2 := mt_Mo_thrown) dc_La_law_559 ml_La_80 rfl rfl ny_Mo_thrown (by decide) (Nat.le_of_ble_eq_true rfl) (ev_thrown (t := 1) (fu_at _ 39 0 _)) (fun v h1 hY => ?_)
    obtain ⟨hv9, rfl⟩ := hY
    cases hv9
    refine mw_iload dc_La_law_562 1 rfl ?_
    refine mi_icmp_eq (tgt := 569) dc_La_law_564 (by decide) (iB_mk (by omega) (by omega)) (iB_mk (by omega) (by omega)) (fun ht9 => ?_) (fun ht9 => ?_)
    · refine mw_iload dc_La_law_569 1 rfl ?_
      refine mi_if_ne (tgt := 586) dc_La_law_571 (by decide) (iB_mk (by omega) (by omega)) (fun hk9 => ?_) (fun hk9 => ?_)
      · refine mw_goto (tgt := 1168) dc_La_law_586 (by decide) ?_
        refine mw_pick [2, 3, 4, 5, 6] rfl ?_
        exact hx _ _ _ _ _ _ _ _ _ _ _ _ _ _ hP (wrC_f hC f2) M2
      · exact absurd hk9 (by decide)
    · exact absurd rfl ht9
theorem lw_drawing {G : mm_G} {d bc bs : Nat} {X : mm_X} {n : Nat} {u : Nat → Nat → Int} {k : Nat → Nat} {a b : Nat → Nat → Nat} {l : Nat} {cc : Nat → Int} {c : Int} {st : Nat → Int} {cs : mm_Sh} {I : Nat → Nat → Int32} {J : Nat → Nat → Int64} {F : Nat → Nat → Option Nat} {V : Nat → Nat → Value} {i : Nat} {x1 x2 x3 : Int} (hst : G.1.stackTraces = false) (mf : MF) (hL : i + 4 ≤ G.2.2.2.2.1 ∧ G.2.2.2.2.1 ≤ 2048) (e1 : G.2.2.2.2.2 (i + 1) = iI x1) (e2 : G.2.2.2.2.2 (i + 2) = iI x2) (e3 : G.2.2.2.2.2 (i + 3) = iI x3) (b1 : iB x1) (b2 : iB x2) (b3 : iB x3) (hP : wrP n u k a b l cc c) (hC : wrC n u k a b l cc c st cs I J F V) (hM : wrM n u k a b l cc c st I J V)
    (hx : ∀ n u k a b l cc c st cs I J F V, wrP n u k a b l cc c → wrC n u k a b l cc c st cs I J F V → wrM n u k a b l cc c st I J V → mW G mt_law (d + 40) bc bs 1168 [(4, .int (iI (i : Nat))), (3, .ref 58), (2, .ref 39), (1, .ref 0), (0, .retAddr G.2.2.2.1)] [] (wd_S ++ cs, I, J, F, V) X) : mW G mt_law (d + 40) (bc + 8) (bs + 820) 589 [(4, .int (iI (i : Nat))), (3, .ref 58), (2, .ref 39), (1, .ref 0), (0, .retAddr G.2.2.2.1)] [] (wd_S ++ cs, I, J, F, V) X := by
  have hO := wr_O hC hP
  have hQ := wr_Q hM hP mf
  have mm := mf n hP.1.1 hP.1.2
  by_cases hc : okS x1 ∧ okS x2
  · by_cases hd : 0 ≤ x3 ∧ x3 ≤ 5
    · refine mw_aload_n dc_La_law_589 rfl 3 rfl ?_
      refine mw_aload_nS dc_La_law_590 rfl 4 rfl ?_
      refine mw_iload dc_La_law_591 0 rfl ?_
      refine mi_const dc_La_law_593 ?_
      refine mi_iadd dc_La_law_594 ?_
      refine mi_sld dc_La_law_595 rfl ⟨by omega, by omega, by omega⟩ (v := iI x1) (by rw [show ((i : Int) + 1).toNat = i + 1 by omega]; exact e1) ?_
      refine mw_aload_nS dc_La_law_596 rfl 4 rfl ?_
      refine mw_iload dc_La_law_597 0 rfl ?_
      refine mi_const dc_La_law_599 ?_
      refine mi_iadd dc_La_law_600 ?_
      refine mi_sld dc_La_law_601 rfl ⟨by omega, by omega, by omega⟩ (v := iI x2) (by rw [show ((i : Int) + 2).toNat = i + 2 by omega]; exact e2) ?_
      refine mw_aload_nS dc_La_law_602 rfl 4 rfl ?_
      refine mw_iload dc_La_law_603 0 rfl ?_
      refine mi_const dc_La_law_605 ?_
      refine mi_iadd dc_La_law_606 ?_
      refine mi_sld dc_La_law_607 rfl ⟨by omega, by omega, by omega⟩ (v := iI x3) (by rw [show ((i : Int) + 3).toNat = i + 3 by omega]; exact e3) ?_
      refine mw_aload_n dc_La_law_608 rfl 1 rfl ?_
      refine mw_le (bc := bc + 3) (bs := bs + 18) (by omega) (by omega) ?_
      refine mw_callSW (M2 := mt_La_drawing) (mc := 3) (ms := 18) (as := [.ref 0, .int (iI x1), .int (iI x2), .int (iI x3), .ref 58]) (st := []) dc_La_law_609 ml_La_117 ny_La_drawing (by decide) rfl (Nat.le_of_ble_eq_true rfl) (ev_La_drawing (ev_drawing hC.1 hC.2.1 hP.1.2 hO.2 hst b1 b2 b3) (fun v h9 q => by obtain ⟨⟨K, -, rfl⟩, e9⟩ := q.1 ⟨hc.1, hc.2, hd⟩; exact ⟨_, cs, K, J, F, _, Sum.inl.inj e9, rfl⟩) (fun j h9 q => nomatch (q.1 ⟨hc.1, hc.2, hd⟩).2)) (fun k9 h9 q9 => by rcases q9 with ⟨_, _, _, q9, _⟩ | ⟨_, _, q9, _⟩ | ⟨_, _, q9, _⟩ <;> cases q9) (fun v h1 hY => ?_)
      rcases hY with ⟨x9, h9, q, hv9, rfl⟩ | ⟨h9, q, hv9, rfl⟩ | ⟨h9, q, hv9, rfl⟩
      rotate_left
      · exact (nomatch ((q.1 ⟨hc.1, hc.2, hd⟩).2))
      · exact (nomatch ((q.1 ⟨hc.1, hc.2, hd⟩).2))
      cases hv9
      obtain ⟨⟨K, hk9, rfl⟩, e9⟩ := q.1 ⟨hc.1, hc.2, hd⟩
      have ex9 := Value.int.inj (Option.some.inj (Sum.inl.inj e9))
      subst ex9
      have py : sP n (yR n (u x1.toNat) (u x2.toNat)) := sP_y (hP.2.1 _ (by omega)).1 (hP.2.1 _ (by omega)).1
      obtain ⟨C1, f1⟩ := wrC_d hC hk9 (vd_dr V n)
      have M1 := wrM_f hM (frM_t f1 (frM_J (v := (iI ((dg_f (eaR n (yR n (u x1.toNat) (u x2.toNat))) (soR n (yR n (u x1.toNat) (u x2.toNat))) n (yR n (u x1.toNat) (u x2.toNat)) x3 : Nat) : Int)).toInt64)))
      have hQ1 := wr_Q M1 hP mf
      refine mw_istore dc_La_law_612 (by decide) rfl ?_
      refine mw_aload_n dc_La_law_614 rfl 3 rfl ?_
      refine mw_aload_nS dc_La_law_615 rfl 5 rfl ?_
      refine mw_iload dc_La_law_616 1 rfl ?_
      refine mi_const dc_La_law_618 ?_
      refine mi_iadd dc_La_law_619 ?_
      refine mi_sld dc_La_law_620 rfl ⟨by omega, by omega, by omega⟩ (v := iI x1) (by rw [show ((i : Int) + 1).toNat = i + 1 by omega]; exact e1) ?_
      refine mw_aload_nS dc_La_law_621 rfl 5 rfl ?_
      refine mw_iload dc_La_law_622 1 rfl ?_
      refine mi_const dc_La_law_624 ?_
      refine mi_iadd dc_La_law_625 ?_
      refine mi_sld dc_La_law_626 rfl ⟨by omega, by omega, by omega⟩ (v := iI x2) (by rw [show ((i : Int) + 2).toNat = i + 2 by omega]; exact e2) ?_
      refine mw_aload_nS dc_La_law_627 rfl 5 rfl ?_
      refine mw_iload dc_La_law_628 1 rfl ?_
      refine mi_const dc_La_law_630 ?_
      refine mi_iadd dc_La_law_631 ?_
      refine mi_sld dc_La_law_632 rfl ⟨by omega, by omega, by omega⟩ (v := iI x3) (by rw [show ((i : Int) + 3).toNat = i + 3 by omega]; exact e3) ?_
      refine mz_V3 (M2 := mt_Mo_drawing) dc_La_law_633 ml_La_120 rfl rfl ny_Mo_drawing (by decide) (Nat.le_of_ble_eq_true rfl) (ev_modrawing M1.1 M1.2.1 hP.1.2 hQ1.2 b1 b2 b3) (fun v h1 hY => ?_)
      obtain ⟨hv9, K2, hk2, rfl⟩ := hY.2.2 ⟨hc, hd⟩
      cases hv9
      obtain ⟨M2, f2⟩ := wrM_d M1 hk2 (.int (iI 0))
      refine mw_istore dc_La_law_636 (by decide) rfl ?_
      refine mw_aload_n dc_La_law_638 rfl 4 rfl ?_
      refine mz_V0 (M2 := mt_Mo_thrown) dc_La_law_639 ml_La_80 rfl rfl ny_Mo_thrown (by decide) (Nat.le_of_ble_eq_true rfl) (ev_thrown (t := 0) (fu_at _ 39 0 _)) (fun v h1 hY => ?_)
      obtain ⟨hv9, rfl⟩ := hY
      cases hv9
      refine mw_iload dc_La_law_642 1 rfl ?_
      refine mi_icmp_eq (tgt := 649) dc_La_law_644 (by decide) (iB_mk (by omega) (by omega)) (iB_mk (by omega) (by omega)) (fun ht9 => ?_) (fun ht9 => ?_)
      · refine mw_iload dc_La_law_649 1 rfl ?_
        refine mi_if_ne (tgt := 666) dc_La_law_651 (by decide) (iB_mk (by omega) (by omega)) (fun hk9 => ?_) (fun hk9 => ?_)
        · exact absurd rfl hk9
        · refine mw_aload_n dc_La_law_654 rfl 3 rfl ?_
          refine mi_const dc_La_law_655 ?_
          refine mi_lald dc_La_law_656 rfl ⟨by decide, by decide, by decide⟩ (v := (iI ((dg_f (eaR n (yR n (u x1.toNat) (u x2.toNat))) (soR n (yR n (u x1.toNat) (u x2.toNat))) n (yR n (u x1.toNat) (u x2.toNat)) x3 : Nat) : Int)).toInt64) (by rw [show (0 : Int).toNat = 0 from rfl]; exact up58_0 _ _) ?_
          refine mw_iload dc_La_law_657 0 rfl ?_
          refine mw_i2l dc_La_law_659 ?_
          refine mw_lcmp dc_La_law_660 ?_

          refine mw_if_eq (tgt := 666) dc_La_law_661 (by decide) (fun hq9 => ?_) (fun hq9 => ?_)
          · refine mw_goto (tgt := 1168) dc_La_law_666 (by decide) ?_
            refine mw_pick [2, 3, 4, 5, 6] rfl ?_
            exact hx _ _ _ _ _ _ _ _ _ _ _ _ _ _ hP (wrC_f (wrC_J C1) f2) M2
          · exact absurd (lg_eq (by rw [mm.2.2.2.2.1 _ _ py])) hq9
      · exact absurd rfl ht9
    · refine mw_aload_n dc_La_law_589 rfl 3 rfl ?_
      refine mw_aload_nS dc_La_law_590 rfl 4 rfl ?_
      refine mw_iload dc_La_law_591 0 rfl ?_
      refine mi_const dc_La_law_593 ?_
      refine mi_iadd dc_La_law_594 ?_
      refine mi_sld dc_La_law_595 rfl ⟨by omega, by omega, by omega⟩ (v := iI x1) (by rw [show ((i : Int) + 1).toNat = i + 1 by omega]; exact e1) ?_
      refine mw_aload_nS dc_La_law_596 rfl 4 rfl ?_
      refine mw_iload dc_La_law_597 0 rfl ?_
      refine mi_const dc_La_law_599 ?_
      refine mi_iadd dc_La_law_600 ?_
      refine mi_sld dc_La_law_601 rfl ⟨by omega, by omega, by omega⟩ (v := iI x2) (by rw [show ((i : Int) + 2).toNat = i + 2 by omega]; exact e2) ?_
      refine mw_aload_nS dc_La_law_602 rfl 4 rfl ?_
      refine mw_iload dc_La_law_603 0 rfl ?_
      refine mi_const dc_La_law_605 ?_
      refine mi_iadd dc_La_law_606 ?_
      refine mi_sld dc_La_law_607 rfl ⟨by omega, by omega, by omega⟩ (v := iI x3) (by rw [show ((i : Int) + 3).toNat = i + 3 by omega]; exact e3) ?_
      refine mw_aload_n dc_La_law_608 rfl 1 rfl ?_
      refine mw_le (bc := bc + 3) (bs := bs + 18) (by omega) (by omega) ?_
      refine mw_callSW (M2 := mt_La_drawing) (mc := 3) (ms := 18) (as := [.ref 0, .int (iI x1), .int (iI x2), .int (iI x3), .ref 58]) (st := []) dc_La_law_609 ml_La_117 ny_La_drawing (by decide) rfl (Nat.le_of_ble_eq_true rfl) (ev_La_drawing (ev_drawing hC.1 hC.2.1 hP.1.2 hO.2 hst b1 b2 b3) (fun v h9 q => nomatch ((q.2.2 ⟨hc.1, hc.2, hd⟩).1)) (fun j h9 q => Or.inr (Sum.inr.inj ((q.2.2 ⟨hc.1, hc.2, hd⟩).1)))) (fun k9 h9 q9 => by rcases q9 with ⟨_, _, _, q9, _⟩ | ⟨_, _, q9, _⟩ | ⟨_, _, q9, _⟩ <;> cases q9) (fun v h1 hY => ?_)
      rcases hY with ⟨x9, h9, q, hv9, rfl⟩ | ⟨h9, q, hv9, rfl⟩ | ⟨h9, q, hv9, rfl⟩
      · exact (nomatch ((q.2.2 ⟨hc.1, hc.2, hd⟩).1))
      · exact (nomatch ((q.2.2 ⟨hc.1, hc.2, hd⟩).1))
      cases hv9
      obtain ⟨-, rfl⟩ := q.2.2 ⟨hc.1, hc.2, hd⟩
      refine mw_istore dc_La_law_612 (by decide) rfl ?_
      refine mw_aload_n dc_La_law_614 rfl 3 rfl ?_
      refine mw_aload_nS dc_La_law_615 rfl 5 rfl ?_
      refine mw_iload dc_La_law_616 1 rfl ?_
      refine mi_const dc_La_law_618 ?_
      refine mi_iadd dc_La_law_619 ?_
      refine mi_sld dc_La_law_620 rfl ⟨by omega, by omega, by omega⟩ (v := iI x1) (by rw [show ((i : Int) + 1).toNat = i + 1 by omega]; exact e1) ?_
      refine mw_aload_nS dc_La_law_621 rfl 5 rfl ?_
      refine mw_iload dc_La_law_622 1 rfl ?_
      refine mi_const dc_La_law_624 ?_
      refine mi_iadd dc_La_law_625 ?_
      refine mi_sld dc_La_law_626 rfl ⟨by omega, by omega, by omega⟩ (v := iI x2) (by rw [show ((i : Int) + 2).toNat = i + 2 by omega]; exact e2) ?_
      refine mw_aload_nS dc_La_law_627 rfl 5 rfl ?_
      refine mw_iload dc_La_law_628 1 rfl ?_
      refine mi_const dc_La_law_630 ?_
      refine mi_iadd dc_La_law_631 ?_
      refine mi_sld dc_La_law_632 rfl ⟨by omega, by omega, by omega⟩ (v := iI x3) (by rw [show ((i : Int) + 3).toNat = i + 3 by omega]; exact e3) ?_
      refine mz_V3 (M2 := mt_Mo_drawing) dc_La_law_633 ml_La_120 rfl rfl ny_Mo_drawing (by decide) (Nat.le_of_ble_eq_true rfl) (ev_modrawing hM.1 hM.2.1 hP.1.2 hQ.2 b1 b2 b3) (fun v h1 hY => ?_)
      obtain ⟨hv9, rfl⟩ := hY.2.1 ⟨hc, hd⟩
      cases hv9
      obtain ⟨M2, f2⟩ := wrM_x hM (.int (iI 2))
      refine mw_istore dc_La_law_636 (by decide) rfl ?_
      refine mw_aload_n dc_La_law_638 rfl 4 rfl ?_
      refine mz_V0 (M2 := mt_Mo_thrown) dc_La_law_639 ml_La_80 rfl rfl ny_Mo_thrown (by decide) (Nat.le_of_ble_eq_true rfl) (ev_thrown (t := 2) (fu_at _ 39 0 _)) (fun v h1 hY => ?_)
      obtain ⟨hv9, rfl⟩ := hY
      cases hv9
      refine mw_iload dc_La_law_642 1 rfl ?_
      refine mi_icmp_eq (tgt := 649) dc_La_law_644 (by decide) (iB_mk (by omega) (by omega)) (iB_mk (by omega) (by omega)) (fun ht9 => ?_) (fun ht9 => ?_)
      · refine mw_iload dc_La_law_649 1 rfl ?_
        refine mi_if_ne (tgt := 666) dc_La_law_651 (by decide) (iB_mk (by omega) (by omega)) (fun hk9 => ?_) (fun hk9 => ?_)
        · refine mw_goto (tgt := 1168) dc_La_law_666 (by decide) ?_
          refine mw_pick [2, 3, 4, 5, 6] rfl ?_
          exact hx _ _ _ _ _ _ _ _ _ _ _ _ _ _ hP (wrC_f hC f2) M2
        · exact absurd hk9 (by decide)
      · exact absurd rfl ht9
  · refine mw_aload_n dc_La_law_589 rfl 3 rfl ?_
    refine mw_aload_nS dc_La_law_590 rfl 4 rfl ?_
    refine mw_iload dc_La_law_591 0 rfl ?_
    refine mi_const dc_La_law_593 ?_
    refine mi_iadd dc_La_law_594 ?_
    refine mi_sld dc_La_law_595 rfl ⟨by omega, by omega, by omega⟩ (v := iI x1) (by rw [show ((i : Int) + 1).toNat = i + 1 by omega]; exact e1) ?_
    refine mw_aload_nS dc_La_law_596 rfl 4 rfl ?_
    refine mw_iload dc_La_law_597 0 rfl ?_
    refine mi_const dc_La_law_599 ?_
    refine mi_iadd dc_La_law_600 ?_
    refine mi_sld dc_La_law_601 rfl ⟨by omega, by omega, by omega⟩ (v := iI x2) (by rw [show ((i : Int) + 2).toNat = i + 2 by omega]; exact e2) ?_
    refine mw_aload_nS dc_La_law_602 rfl 4 rfl ?_
    refine mw_iload dc_La_law_603 0 rfl ?_
    refine mi_const dc_La_law_605 ?_
    refine mi_iadd dc_La_law_606 ?_
    refine mi_sld dc_La_law_607 rfl ⟨by omega, by omega, by omega⟩ (v := iI x3) (by rw [show ((i : Int) + 3).toNat = i + 3 by omega]; exact e3) ?_
    refine mw_aload_n dc_La_law_608 rfl 1 rfl ?_
    refine mw_le (bc := bc + 3) (bs := bs + 18) (by omega) (by omega) ?_
    refine mw_callSW (M2 := mt_La_drawing) (mc := 3) (ms := 18) (as := [.ref 0, .int (iI x1), .int (iI x2), .int (iI x3), .ref 58]) (st := []) dc_La_law_609 ml_La_117 ny_La_drawing (by decide) rfl (Nat.le_of_ble_eq_true rfl) (ev_La_drawing (ev_drawing hC.1 hC.2.1 hP.1.2 hO.2 hst b1 b2 b3) (fun v h9 q => nomatch ((q.2.1 hc).1)) (fun j h9 q => Or.inl (Sum.inr.inj ((q.2.1 hc).1)))) (fun k9 h9 q9 => by rcases q9 with ⟨_, _, _, q9, _⟩ | ⟨_, _, q9, _⟩ | ⟨_, _, q9, _⟩ <;> cases q9) (fun v h1 hY => ?_)
    rcases hY with ⟨x9, h9, q, hv9, rfl⟩ | ⟨h9, q, hv9, rfl⟩ | ⟨h9, q, hv9, rfl⟩
    · exact (nomatch ((q.2.1 hc).1))
    rotate_left
    · exact (nomatch ((q.2.1 hc).1))
    cases hv9
    obtain ⟨-, rfl⟩ := q.2.1 hc
    refine mw_istore dc_La_law_612 (by decide) rfl ?_
    refine mw_aload_n dc_La_law_614 rfl 3 rfl ?_
    refine mw_aload_nS dc_La_law_615 rfl 5 rfl ?_
    refine mw_iload dc_La_law_616 1 rfl ?_
    refine mi_const dc_La_law_618 ?_
    refine mi_iadd dc_La_law_619 ?_
    refine mi_sld dc_La_law_620 rfl ⟨by omega, by omega, by omega⟩ (v := iI x1) (by rw [show ((i : Int) + 1).toNat = i + 1 by omega]; exact e1) ?_
    refine mw_aload_nS dc_La_law_621 rfl 5 rfl ?_
    refine mw_iload dc_La_law_622 1 rfl ?_
    refine mi_const dc_La_law_624 ?_
    refine mi_iadd dc_La_law_625 ?_
    refine mi_sld dc_La_law_626 rfl ⟨by omega, by omega, by omega⟩ (v := iI x2) (by rw [show ((i : Int) + 2).toNat = i + 2 by omega]; exact e2) ?_
    refine mw_aload_nS dc_La_law_627 rfl 5 rfl ?_
    refine mw_iload dc_La_law_628 1 rfl ?_
    refine mi_const dc_La_law_630 ?_
    refine mi_iadd dc_La_law_631 ?_
    refine mi_sld dc_La_law_632 rfl ⟨by omega, by omega, by omega⟩ (v := iI x3) (by rw [show ((i : Int) + 3).toNat = i + 3 by omega]; exact e3) ?_
    refine mz_V3 (M2 := mt_Mo_drawing) dc_La_law_633 ml_La_120 rfl rfl ny_Mo_drawing (by decide) (Nat.le_of_ble_eq_true rfl) (ev_modrawing hM.1 hM.2.1 hP.1.2 hQ.2 b1 b2 b3) (fun v h1 hY => ?_)
    obtain ⟨hv9, rfl⟩ := hY.1 hc
    cases hv9
    obtain ⟨M2, f2⟩ := wrM_x hM (.int (iI 1))
    refine mw_istore dc_La_law_636 (by decide) rfl ?_
    refine mw_aload_n dc_La_law_638 rfl 4 rfl ?_
    refine mz_V0 (M2 := mt_Mo_thrown) dc_La_law_639 ml_La_80 rfl rfl ny_Mo_thrown (by decide) (Nat.le_of_ble_eq_true rfl) (ev_thrown (t := 1) (fu_at _ 39 0 _)) (fun v h1 hY => ?_)
    obtain ⟨hv9, rfl⟩ := hY
    cases hv9
    refine mw_iload dc_La_law_642 1 rfl ?_
    refine mi_icmp_eq (tgt := 649) dc_La_law_644 (by decide) (iB_mk (by omega) (by omega)) (iB_mk (by omega) (by omega)) (fun ht9 => ?_) (fun ht9 => ?_)
    · refine mw_iload dc_La_law_649 1 rfl ?_
      refine mi_if_ne (tgt := 666) dc_La_law_651 (by decide) (iB_mk (by omega) (by omega)) (fun hk9 => ?_) (fun hk9 => ?_)
      · refine mw_goto (tgt := 1168) dc_La_law_666 (by decide) ?_
        refine mw_pick [2, 3, 4, 5, 6] rfl ?_
        exact hx _ _ _ _ _ _ _ _ _ _ _ _ _ _ hP (wrC_f hC f2) M2
      · exact absurd hk9 (by decide)
    · exact absurd rfl ht9
theorem lw_line {G : mm_G} {d bc bs : Nat} {X : mm_X} {n : Nat} {u : Nat → Nat → Int} {k : Nat → Nat} {a b : Nat → Nat → Nat} {l : Nat} {cc : Nat → Int} {c : Int} {st : Nat → Int} {cs : mm_Sh} {I : Nat → Nat → Int32} {J : Nat → Nat → Int64} {F : Nat → Nat → Option Nat} {V : Nat → Nat → Value} {i : Nat} {x1 x2 x3 : Int} (hst : G.1.stackTraces = false) (mf : MF) (hL : i + 4 ≤ G.2.2.2.2.1 ∧ G.2.2.2.2.1 ≤ 2048) (e1 : G.2.2.2.2.2 (i + 1) = iI x1) (e2 : G.2.2.2.2.2 (i + 2) = iI x2) (e3 : G.2.2.2.2.2 (i + 3) = iI x3) (b1 : iB x1) (b2 : iB x2) (b3 : iB x3) (hP : wrP n u k a b l cc c) (hC : wrC n u k a b l cc c st cs I J F V) (hM : wrM n u k a b l cc c st I J V)
    (hx : ∀ n u k a b l cc c st cs I J F V, wrP n u k a b l cc c → wrC n u k a b l cc c st cs I J F V → wrM n u k a b l cc c st I J V → mW G mt_law (d + 40) bc bs 1168 [(4, .int (iI (i : Nat))), (3, .ref 58), (2, .ref 39), (1, .ref 0), (0, .retAddr G.2.2.2.1)] [] (wd_S ++ cs, I, J, F, V) X) : mW G mt_law (d + 40) (bc + 8) (bs + 820) 669 [(4, .int (iI (i : Nat))), (3, .ref 58), (2, .ref 39), (1, .ref 0), (0, .retAddr G.2.2.2.1)] [] (wd_S ++ cs, I, J, F, V) X := by
  have hO := wr_O hC hP
  have hQ := wr_Q hM hP mf
  have mm := mf n hP.1.1 hP.1.2
  by_cases hc : okS x1 ∧ okS x2
  · by_cases hd : 0 ≤ x3 ∧ x3 ≤ n
    · refine mw_aload_n dc_La_law_669 rfl 3 rfl ?_
      refine mw_aload_nS dc_La_law_670 rfl 4 rfl ?_
      refine mw_iload dc_La_law_671 0 rfl ?_
      refine mi_const dc_La_law_673 ?_
      refine mi_iadd dc_La_law_674 ?_
      refine mi_sld dc_La_law_675 rfl ⟨by omega, by omega, by omega⟩ (v := iI x1) (by rw [show ((i : Int) + 1).toNat = i + 1 by omega]; exact e1) ?_
      refine mw_aload_nS dc_La_law_676 rfl 4 rfl ?_
      refine mw_iload dc_La_law_677 0 rfl ?_
      refine mi_const dc_La_law_679 ?_
      refine mi_iadd dc_La_law_680 ?_
      refine mi_sld dc_La_law_681 rfl ⟨by omega, by omega, by omega⟩ (v := iI x2) (by rw [show ((i : Int) + 2).toNat = i + 2 by omega]; exact e2) ?_
      refine mw_aload_nS dc_La_law_682 rfl 4 rfl ?_
      refine mw_iload dc_La_law_683 0 rfl ?_
      refine mi_const dc_La_law_685 ?_
      refine mi_iadd dc_La_law_686 ?_
      refine mi_sld dc_La_law_687 rfl ⟨by omega, by omega, by omega⟩ (v := iI x3) (by rw [show ((i : Int) + 3).toNat = i + 3 by omega]; exact e3) ?_
      refine mw_aload_n dc_La_law_688 rfl 1 rfl ?_
      refine mw_le (bc := bc + 3) (bs := bs + 18) (by omega) (by omega) ?_
      refine mw_callSW (M2 := mt_La_line) (mc := 3) (ms := 18) (as := [.ref 0, .int (iI x1), .int (iI x2), .int (iI x3), .ref 58]) (st := []) dc_La_law_689 ml_La_121 ny_La_line (by decide) rfl (Nat.le_of_ble_eq_true rfl) (ev_La_line (ev_line hC.1 hC.2.1 hP.1.2 hO.2 hst b1 b2 b3) (fun v h9 q => by obtain ⟨⟨K, -, rfl⟩, e9⟩ := q.1 ⟨hc.1, hc.2, hd⟩; exact ⟨_, cs, K, J, F, _, Sum.inl.inj e9, rfl⟩) (fun j h9 q => nomatch (q.1 ⟨hc.1, hc.2, hd⟩).2)) (fun k9 h9 q9 => by rcases q9 with ⟨_, _, _, q9, _⟩ | ⟨_, _, q9, _⟩ | ⟨_, _, q9, _⟩ <;> cases q9) (fun v h1 hY => ?_)
      rcases hY with ⟨x9, h9, q, hv9, rfl⟩ | ⟨h9, q, hv9, rfl⟩ | ⟨h9, q, hv9, rfl⟩
      rotate_left
      · exact (nomatch ((q.1 ⟨hc.1, hc.2, hd⟩).2))
      · exact (nomatch ((q.1 ⟨hc.1, hc.2, hd⟩).2))
      cases hv9
      obtain ⟨⟨K, hk9, rfl⟩, e9⟩ := q.1 ⟨hc.1, hc.2, hd⟩
      have ex9 := Value.int.inj (Option.some.inj (Sum.inl.inj e9))
      subst ex9
      have py : sP n (yR n (u x1.toNat) (u x2.toNat)) := sP_y (hP.2.1 _ (by omega)).1 (hP.2.1 _ (by omega)).1
      obtain ⟨C1, f1⟩ := wrC_d hC hk9 (vd_dr V n)
      have M1 := wrM_f hM (frM_t f1 (frM_J (v := (iI (100 * (lo_f (soR n (yR n (u x1.toNat) (u x2.toNat))) x3.toNat : Nat) + (hi_f (soR n (yR n (u x1.toNat) (u x2.toNat))) x3.toNat : Nat) : Int)).toInt64)))
      have hQ1 := wr_Q M1 hP mf
      refine mw_istore dc_La_law_692 (by decide) rfl ?_
      refine mw_aload_n dc_La_law_694 rfl 3 rfl ?_
      refine mw_aload_nS dc_La_law_695 rfl 5 rfl ?_
      refine mw_iload dc_La_law_696 1 rfl ?_
      refine mi_const dc_La_law_698 ?_
      refine mi_iadd dc_La_law_699 ?_
      refine mi_sld dc_La_law_700 rfl ⟨by omega, by omega, by omega⟩ (v := iI x1) (by rw [show ((i : Int) + 1).toNat = i + 1 by omega]; exact e1) ?_
      refine mw_aload_nS dc_La_law_701 rfl 5 rfl ?_
      refine mw_iload dc_La_law_702 1 rfl ?_
      refine mi_const dc_La_law_704 ?_
      refine mi_iadd dc_La_law_705 ?_
      refine mi_sld dc_La_law_706 rfl ⟨by omega, by omega, by omega⟩ (v := iI x2) (by rw [show ((i : Int) + 2).toNat = i + 2 by omega]; exact e2) ?_
      refine mw_aload_nS dc_La_law_707 rfl 5 rfl ?_
      refine mw_iload dc_La_law_708 1 rfl ?_
      refine mi_const dc_La_law_710 ?_
      refine mi_iadd dc_La_law_711 ?_
      refine mi_sld dc_La_law_712 rfl ⟨by omega, by omega, by omega⟩ (v := iI x3) (by rw [show ((i : Int) + 3).toNat = i + 3 by omega]; exact e3) ?_
      refine mz_V3 (M2 := mt_Mo_line) dc_La_law_713 ml_La_123 rfl rfl ny_Mo_line (by decide) (Nat.le_of_ble_eq_true rfl) (ev_moline M1.1 M1.2.1 hP.1.2 hQ1.2 b1 b2 b3) (fun v h1 hY => ?_)
      obtain ⟨hv9, rfl⟩ := hY.2.2 ⟨hc, hd⟩
      cases hv9
      have hk2 := ms_md K n (u x1.toNat) (u x2.toNat) (yR n (u x1.toNat) (u x2.toNat)) (eaR n (yR n (u x1.toNat) (u x2.toNat)))
      obtain ⟨M2, f2⟩ := wrM_d M1 hk2 (.int (iI 0))
      refine mw_istore dc_La_law_716 (by decide) rfl ?_
      refine mw_aload_n dc_La_law_718 rfl 4 rfl ?_
      refine mz_V0 (M2 := mt_Mo_thrown) dc_La_law_719 ml_La_80 rfl rfl ny_Mo_thrown (by decide) (Nat.le_of_ble_eq_true rfl) (ev_thrown (t := 0) (fu_at _ 39 0 _)) (fun v h1 hY => ?_)
      obtain ⟨hv9, rfl⟩ := hY
      cases hv9
      refine mw_iload dc_La_law_722 1 rfl ?_
      refine mi_icmp_eq (tgt := 729) dc_La_law_724 (by decide) (iB_mk (by omega) (by omega)) (iB_mk (by omega) (by omega)) (fun ht9 => ?_) (fun ht9 => ?_)
      · refine mw_iload dc_La_law_729 1 rfl ?_
        refine mi_if_ne (tgt := 746) dc_La_law_731 (by decide) (iB_mk (by omega) (by omega)) (fun hk9 => ?_) (fun hk9 => ?_)
        · exact absurd rfl hk9
        · refine mw_aload_n dc_La_law_734 rfl 3 rfl ?_
          refine mi_const dc_La_law_735 ?_
          refine mi_lald dc_La_law_736 rfl ⟨by decide, by decide, by decide⟩ (v := (iI (100 * (lo_f (soR n (yR n (u x1.toNat) (u x2.toNat))) x3.toNat : Nat) + (hi_f (soR n (yR n (u x1.toNat) (u x2.toNat))) x3.toNat : Nat) : Int)).toInt64) (by rw [show (0 : Int).toNat = 0 from rfl]; exact up58_0 _ _) ?_
          refine mw_iload dc_La_law_737 0 rfl ?_
          refine mw_i2l dc_La_law_739 ?_
          refine mw_lcmp dc_La_law_740 ?_

          refine mw_if_eq (tgt := 746) dc_La_law_741 (by decide) (fun hq9 => ?_) (fun hq9 => ?_)
          · refine mw_goto (tgt := 1168) dc_La_law_746 (by decide) ?_
            refine mw_pick [2, 3, 4, 5, 6] rfl ?_
            exact hx _ _ _ _ _ _ _ _ _ _ _ _ _ _ hP (wrC_f (wrC_J C1) f2) M2
          · exact absurd (lg_eq (rfl)) hq9
      · exact absurd rfl ht9
    · refine mw_aload_n dc_La_law_669 rfl 3 rfl ?_
      refine mw_aload_nS dc_La_law_670 rfl 4 rfl ?_
      refine mw_iload dc_La_law_671 0 rfl ?_
      refine mi_const dc_La_law_673 ?_
      refine mi_iadd dc_La_law_674 ?_
      refine mi_sld dc_La_law_675 rfl ⟨by omega, by omega, by omega⟩ (v := iI x1) (by rw [show ((i : Int) + 1).toNat = i + 1 by omega]; exact e1) ?_
      refine mw_aload_nS dc_La_law_676 rfl 4 rfl ?_
      refine mw_iload dc_La_law_677 0 rfl ?_
      refine mi_const dc_La_law_679 ?_
      refine mi_iadd dc_La_law_680 ?_
      refine mi_sld dc_La_law_681 rfl ⟨by omega, by omega, by omega⟩ (v := iI x2) (by rw [show ((i : Int) + 2).toNat = i + 2 by omega]; exact e2) ?_
      refine mw_aload_nS dc_La_law_682 rfl 4 rfl ?_
      refine mw_iload dc_La_law_683 0 rfl ?_
      refine mi_const dc_La_law_685 ?_
      refine mi_iadd dc_La_law_686 ?_
      refine mi_sld dc_La_law_687 rfl ⟨by omega, by omega, by omega⟩ (v := iI x3) (by rw [show ((i : Int) + 3).toNat = i + 3 by omega]; exact e3) ?_
      refine mw_aload_n dc_La_law_688 rfl 1 rfl ?_
      refine mw_le (bc := bc + 3) (bs := bs + 18) (by omega) (by omega) ?_
      refine mw_callSW (M2 := mt_La_line) (mc := 3) (ms := 18) (as := [.ref 0, .int (iI x1), .int (iI x2), .int (iI x3), .ref 58]) (st := []) dc_La_law_689 ml_La_121 ny_La_line (by decide) rfl (Nat.le_of_ble_eq_true rfl) (ev_La_line (ev_line hC.1 hC.2.1 hP.1.2 hO.2 hst b1 b2 b3) (fun v h9 q => nomatch ((q.2.2 ⟨hc.1, hc.2, hd⟩).1)) (fun j h9 q => Or.inr (Sum.inr.inj ((q.2.2 ⟨hc.1, hc.2, hd⟩).1)))) (fun k9 h9 q9 => by rcases q9 with ⟨_, _, _, q9, _⟩ | ⟨_, _, q9, _⟩ | ⟨_, _, q9, _⟩ <;> cases q9) (fun v h1 hY => ?_)
      rcases hY with ⟨x9, h9, q, hv9, rfl⟩ | ⟨h9, q, hv9, rfl⟩ | ⟨h9, q, hv9, rfl⟩
      · exact (nomatch ((q.2.2 ⟨hc.1, hc.2, hd⟩).1))
      · exact (nomatch ((q.2.2 ⟨hc.1, hc.2, hd⟩).1))
      cases hv9
      obtain ⟨-, rfl⟩ := q.2.2 ⟨hc.1, hc.2, hd⟩
      refine mw_istore dc_La_law_692 (by decide) rfl ?_
      refine mw_aload_n dc_La_law_694 rfl 3 rfl ?_
      refine mw_aload_nS dc_La_law_695 rfl 5 rfl ?_
      refine mw_iload dc_La_law_696 1 rfl ?_
      refine mi_const dc_La_law_698 ?_
      refine mi_iadd dc_La_law_699 ?_
      refine mi_sld dc_La_law_700 rfl ⟨by omega, by omega, by omega⟩ (v := iI x1) (by rw [show ((i : Int) + 1).toNat = i + 1 by omega]; exact e1) ?_
      refine mw_aload_nS dc_La_law_701 rfl 5 rfl ?_
      refine mw_iload dc_La_law_702 1 rfl ?_
      refine mi_const dc_La_law_704 ?_
      refine mi_iadd dc_La_law_705 ?_
      refine mi_sld dc_La_law_706 rfl ⟨by omega, by omega, by omega⟩ (v := iI x2) (by rw [show ((i : Int) + 2).toNat = i + 2 by omega]; exact e2) ?_
      refine mw_aload_nS dc_La_law_707 rfl 5 rfl ?_
      refine mw_iload dc_La_law_708 1 rfl ?_
      refine mi_const dc_La_law_710 ?_
      refine mi_iadd dc_La_law_711 ?_
      refine mi_sld dc_La_law_712 rfl ⟨by omega, by omega, by omega⟩ (v := iI x3) (by rw [show ((i : Int) + 3).toNat = i + 3 by omega]; exact e3) ?_
      refine mz_V3 (M2 := mt_Mo_line) dc_La_law_713 ml_La_123 rfl rfl ny_Mo_line (by decide) (Nat.le_of_ble_eq_true rfl) (ev_moline hM.1 hM.2.1 hP.1.2 hQ.2 b1 b2 b3) (fun v h1 hY => ?_)
      obtain ⟨hv9, rfl⟩ := hY.2.1 ⟨hc, hd⟩
      cases hv9
      obtain ⟨M2, f2⟩ := wrM_x hM (.int (iI 2))
      refine mw_istore dc_La_law_716 (by decide) rfl ?_
      refine mw_aload_n dc_La_law_718 rfl 4 rfl ?_
      refine mz_V0 (M2 := mt_Mo_thrown) dc_La_law_719 ml_La_80 rfl rfl ny_Mo_thrown (by decide) (Nat.le_of_ble_eq_true rfl) (ev_thrown (t := 2) (fu_at _ 39 0 _)) (fun v h1 hY => ?_)
      obtain ⟨hv9, rfl⟩ := hY
      cases hv9
      refine mw_iload dc_La_law_722 1 rfl ?_
      refine mi_icmp_eq (tgt := 729) dc_La_law_724 (by decide) (iB_mk (by omega) (by omega)) (iB_mk (by omega) (by omega)) (fun ht9 => ?_) (fun ht9 => ?_)
      · refine mw_iload dc_La_law_729 1 rfl ?_
        refine mi_if_ne (tgt := 746) dc_La_law_731 (by decide) (iB_mk (by omega) (by omega)) (fun hk9 => ?_) (fun hk9 => ?_)
        · refine mw_goto (tgt := 1168) dc_La_law_746 (by decide) ?_
          refine mw_pick [2, 3, 4, 5, 6] rfl ?_
          exact hx _ _ _ _ _ _ _ _ _ _ _ _ _ _ hP (wrC_f hC f2) M2
        · exact absurd hk9 (by decide)
      · exact absurd rfl ht9
  · refine mw_aload_n dc_La_law_669 rfl 3 rfl ?_
    refine mw_aload_nS dc_La_law_670 rfl 4 rfl ?_
    refine mw_iload dc_La_law_671 0 rfl ?_
    refine mi_const dc_La_law_673 ?_
    refine mi_iadd dc_La_law_674 ?_
    refine mi_sld dc_La_law_675 rfl ⟨by omega, by omega, by omega⟩ (v := iI x1) (by rw [show ((i : Int) + 1).toNat = i + 1 by omega]; exact e1) ?_
    refine mw_aload_nS dc_La_law_676 rfl 4 rfl ?_
    refine mw_iload dc_La_law_677 0 rfl ?_
    refine mi_const dc_La_law_679 ?_
    refine mi_iadd dc_La_law_680 ?_
    refine mi_sld dc_La_law_681 rfl ⟨by omega, by omega, by omega⟩ (v := iI x2) (by rw [show ((i : Int) + 2).toNat = i + 2 by omega]; exact e2) ?_
    refine mw_aload_nS dc_La_law_682 rfl 4 rfl ?_
    refine mw_iload dc_La_law_683 0 rfl ?_
    refine mi_const dc_La_law_685 ?_
    refine mi_iadd dc_La_law_686 ?_
    refine mi_sld dc_La_law_687 rfl ⟨by omega, by omega, by omega⟩ (v := iI x3) (by rw [show ((i : Int) + 3).toNat = i + 3 by omega]; exact e3) ?_
    refine mw_aload_n dc_La_law_688 rfl 1 rfl ?_
    refine mw_le (bc := bc + 3) (bs := bs + 18) (by omega) (by omega) ?_
    refine mw_callSW (M2 := mt_La_line) (mc := 3) (ms := 18) (as := [.ref 0, .int (iI x1), .int (iI x2), .int (iI x3), .ref 58]) (st := []) dc_La_law_689 ml_La_121 ny_La_line (by decide) rfl (Nat.le_of_ble_eq_true rfl) (ev_La_line (ev_line hC.1 hC.2.1 hP.1.2 hO.2 hst b1 b2 b3) (fun v h9 q => nomatch ((q.2.1 hc).1)) (fun j h9 q => Or.inl (Sum.inr.inj ((q.2.1 hc).1)))) (fun k9 h9 q9 => by rcases q9 with ⟨_, _, _, q9, _⟩ | ⟨_, _, q9, _⟩ | ⟨_, _, q9, _⟩ <;> cases q9) (fun v h1 hY => ?_)
    rcases hY with ⟨x9, h9, q, hv9, rfl⟩ | ⟨h9, q, hv9, rfl⟩ | ⟨h9, q, hv9, rfl⟩
    · exact (nomatch ((q.2.1 hc).1))
    rotate_left
    · exact (nomatch ((q.2.1 hc).1))
    cases hv9
    obtain ⟨-, rfl⟩ := q.2.1 hc
    refine mw_istore dc_La_law_692 (by decide) rfl ?_
    refine mw_aload_n dc_La_law_694 rfl 3 rfl ?_
    refine mw_aload_nS dc_La_law_695 rfl 5 rfl ?_
    refine mw_iload dc_La_law_696 1 rfl ?_
    refine mi_const dc_La_law_698 ?_
    refine mi_iadd dc_La_law_699 ?_
    refine mi_sld dc_La_law_700 rfl ⟨by omega, by omega, by omega⟩ (v := iI x1) (by rw [show ((i : Int) + 1).toNat = i + 1 by omega]; exact e1) ?_
    refine mw_aload_nS dc_La_law_701 rfl 5 rfl ?_
    refine mw_iload dc_La_law_702 1 rfl ?_
    refine mi_const dc_La_law_704 ?_
    refine mi_iadd dc_La_law_705 ?_
    refine mi_sld dc_La_law_706 rfl ⟨by omega, by omega, by omega⟩ (v := iI x2) (by rw [show ((i : Int) + 2).toNat = i + 2 by omega]; exact e2) ?_
    refine mw_aload_nS dc_La_law_707 rfl 5 rfl ?_
    refine mw_iload dc_La_law_708 1 rfl ?_
    refine mi_const dc_La_law_710 ?_
    refine mi_iadd dc_La_law_711 ?_
    refine mi_sld dc_La_law_712 rfl ⟨by omega, by omega, by omega⟩ (v := iI x3) (by rw [show ((i : Int) + 3).toNat = i + 3 by omega]; exact e3) ?_
    refine mz_V3 (M2 := mt_Mo_line) dc_La_law_713 ml_La_123 rfl rfl ny_Mo_line (by decide) (Nat.le_of_ble_eq_true rfl) (ev_moline hM.1 hM.2.1 hP.1.2 hQ.2 b1 b2 b3) (fun v h1 hY => ?_)
    obtain ⟨hv9, rfl⟩ := hY.1 hc
    cases hv9
    obtain ⟨M2, f2⟩ := wrM_x hM (.int (iI 1))
    refine mw_istore dc_La_law_716 (by decide) rfl ?_
    refine mw_aload_n dc_La_law_718 rfl 4 rfl ?_
    refine mz_V0 (M2 := mt_Mo_thrown) dc_La_law_719 ml_La_80 rfl rfl ny_Mo_thrown (by decide) (Nat.le_of_ble_eq_true rfl) (ev_thrown (t := 1) (fu_at _ 39 0 _)) (fun v h1 hY => ?_)
    obtain ⟨hv9, rfl⟩ := hY
    cases hv9
    refine mw_iload dc_La_law_722 1 rfl ?_
    refine mi_icmp_eq (tgt := 729) dc_La_law_724 (by decide) (iB_mk (by omega) (by omega)) (iB_mk (by omega) (by omega)) (fun ht9 => ?_) (fun ht9 => ?_)
    · refine mw_iload dc_La_law_729 1 rfl ?_
      refine mi_if_ne (tgt := 746) dc_La_law_731 (by decide) (iB_mk (by omega) (by omega)) (fun hk9 => ?_) (fun hk9 => ?_)
      · refine mw_goto (tgt := 1168) dc_La_law_746 (by decide) ?_
        refine mw_pick [2, 3, 4, 5, 6] rfl ?_
        exact hx _ _ _ _ _ _ _ _ _ _ _ _ _ _ hP (wrC_f hC f2) M2
      · exact absurd hk9 (by decide)
    · exact absurd rfl ht9
theorem lw_interval {G : mm_G} {d bc bs : Nat} {X : mm_X} {n : Nat} {u : Nat → Nat → Int} {k : Nat → Nat} {a b : Nat → Nat → Nat} {l : Nat} {cc : Nat → Int} {c : Int} {st : Nat → Int} {cs : mm_Sh} {I : Nat → Nat → Int32} {J : Nat → Nat → Int64} {F : Nat → Nat → Option Nat} {V : Nat → Nat → Value} {i : Nat} {x1 x2 x3 : Int} (hst : G.1.stackTraces = false) (mf : MF) (hL : i + 4 ≤ G.2.2.2.2.1 ∧ G.2.2.2.2.1 ≤ 2048) (e1 : G.2.2.2.2.2 (i + 1) = iI x1) (e2 : G.2.2.2.2.2 (i + 2) = iI x2) (e3 : G.2.2.2.2.2 (i + 3) = iI x3) (b1 : iB x1) (b2 : iB x2) (b3 : iB x3) (hP : wrP n u k a b l cc c) (hC : wrC n u k a b l cc c st cs I J F V) (hM : wrM n u k a b l cc c st I J V)
    (hx : ∀ n u k a b l cc c st cs I J F V, wrP n u k a b l cc c → wrC n u k a b l cc c st cs I J F V → wrM n u k a b l cc c st I J V → mW G mt_law (d + 40) bc bs 1168 [(4, .int (iI (i : Nat))), (3, .ref 58), (2, .ref 39), (1, .ref 0), (0, .retAddr G.2.2.2.1)] [] (wd_S ++ cs, I, J, F, V) X) : mW G mt_law (d + 40) (bc + 8) (bs + 820) 749 [(4, .int (iI (i : Nat))), (3, .ref 58), (2, .ref 39), (1, .ref 0), (0, .retAddr G.2.2.2.1)] [] (wd_S ++ cs, I, J, F, V) X := by
  have hO := wr_O hC hP
  have hQ := wr_Q hM hP mf
  by_cases hc : okS x1 ∧ okS x2
  · refine mw_aload_n dc_La_law_749 rfl 3 rfl ?_
    refine mw_aload_nS dc_La_law_750 rfl 4 rfl ?_
    refine mw_iload dc_La_law_751 0 rfl ?_
    refine mi_const dc_La_law_753 ?_
    refine mi_iadd dc_La_law_754 ?_
    refine mi_sld dc_La_law_755 rfl ⟨by omega, by omega, by omega⟩ (v := iI x1) (by rw [show ((i : Int) + 1).toNat = i + 1 by omega]; exact e1) ?_
    refine mw_aload_nS dc_La_law_756 rfl 4 rfl ?_
    refine mw_iload dc_La_law_757 0 rfl ?_
    refine mi_const dc_La_law_759 ?_
    refine mi_iadd dc_La_law_760 ?_
    refine mi_sld dc_La_law_761 rfl ⟨by omega, by omega, by omega⟩ (v := iI x2) (by rw [show ((i : Int) + 2).toNat = i + 2 by omega]; exact e2) ?_
    refine mw_aload_nS dc_La_law_762 rfl 4 rfl ?_
    refine mw_iload dc_La_law_763 0 rfl ?_
    refine mi_const dc_La_law_765 ?_
    refine mi_iadd dc_La_law_766 ?_
    refine mi_sld dc_La_law_767 rfl ⟨by omega, by omega, by omega⟩ (v := iI x3) (by rw [show ((i : Int) + 3).toNat = i + 3 by omega]; exact e3) ?_
    refine mw_aload_n dc_La_law_768 rfl 1 rfl ?_
    refine mw_le (bc := bc + 2) (bs := bs + 12) (by omega) (by omega) ?_
    refine mw_callSW (M2 := mt_La_interval) (mc := 2) (ms := 12) (as := [.ref 0, .int (iI x1), .int (iI x2), .int (iI x3), .ref 58]) (st := []) dc_La_law_769 ml_La_124 ny_La_interval (by decide) rfl (Nat.le_of_ble_eq_true rfl) (ev_La_interval (ev_interval hC.1 hC.2.1 hP.1.2 hO.2 hst b1 b2 b3) (fun v h9 q => by obtain ⟨⟨K, -, rfl⟩, e9⟩ := q.1 hc; exact ⟨_, cs, K, J, F, _, Sum.inl.inj e9, rfl⟩) (fun j h9 q => nomatch (q.1 hc).2)) (fun k9 h9 q9 => by rcases q9 with ⟨_, _, _, q9, _⟩ | ⟨_, _, q9, _⟩ <;> cases q9) (fun v h1 hY => ?_)
    rcases hY with ⟨x9, h9, q, hv9, rfl⟩ | ⟨h9, q, hv9, rfl⟩
    rotate_left
    · exact (nomatch ((q.1 hc).2))
    cases hv9
    obtain ⟨⟨K, hk9, rfl⟩, e9⟩ := q.1 hc
    have ex9 := Value.int.inj (Option.some.inj (Sum.inl.inj e9))
    subst ex9
    obtain ⟨C1, f1⟩ := wrC_d hC hk9 (vd_r V)
    have M1 := wrM_f hM (frM_t f1 (frM_J (v := (iI (iv_o (yR n (u x1.toNat) (u x2.toNat)) n x3 n 0 0)).toInt64)))
    have hQ1 := wr_Q M1 hP mf
    refine mw_istore dc_La_law_772 (by decide) rfl ?_
    refine mw_aload_n dc_La_law_774 rfl 3 rfl ?_
    refine mw_aload_nS dc_La_law_775 rfl 5 rfl ?_
    refine mw_iload dc_La_law_776 1 rfl ?_
    refine mi_const dc_La_law_778 ?_
    refine mi_iadd dc_La_law_779 ?_
    refine mi_sld dc_La_law_780 rfl ⟨by omega, by omega, by omega⟩ (v := iI x1) (by rw [show ((i : Int) + 1).toNat = i + 1 by omega]; exact e1) ?_
    refine mw_aload_nS dc_La_law_781 rfl 5 rfl ?_
    refine mw_iload dc_La_law_782 1 rfl ?_
    refine mi_const dc_La_law_784 ?_
    refine mi_iadd dc_La_law_785 ?_
    refine mi_sld dc_La_law_786 rfl ⟨by omega, by omega, by omega⟩ (v := iI x2) (by rw [show ((i : Int) + 2).toNat = i + 2 by omega]; exact e2) ?_
    refine mw_aload_nS dc_La_law_787 rfl 5 rfl ?_
    refine mw_iload dc_La_law_788 1 rfl ?_
    refine mi_const dc_La_law_790 ?_
    refine mi_iadd dc_La_law_791 ?_
    refine mi_sld dc_La_law_792 rfl ⟨by omega, by omega, by omega⟩ (v := iI x3) (by rw [show ((i : Int) + 3).toNat = i + 3 by omega]; exact e3) ?_
    refine mz_V3 (M2 := mt_Mo_interval) dc_La_law_793 ml_La_126 rfl rfl ny_Mo_interval (by decide) (Nat.le_of_ble_eq_true rfl) (ev_mointerval M1.1 M1.2.1 hP.1.2 hQ1.2 b1 b2 b3) (fun v h1 hY => ?_)
    obtain ⟨hv9, K2, hk2, rfl⟩ := hY.2 hc
    cases hv9
    obtain ⟨M2, f2⟩ := wrM_d M1 hk2 (.int (iI 0))
    refine mw_istore dc_La_law_796 (by decide) rfl ?_
    refine mw_aload_n dc_La_law_798 rfl 4 rfl ?_
    refine mz_V0 (M2 := mt_Mo_thrown) dc_La_law_799 ml_La_80 rfl rfl ny_Mo_thrown (by decide) (Nat.le_of_ble_eq_true rfl) (ev_thrown (t := 0) (fu_at _ 39 0 _)) (fun v h1 hY => ?_)
    obtain ⟨hv9, rfl⟩ := hY
    cases hv9
    refine mw_iload dc_La_law_802 1 rfl ?_
    refine mi_icmp_eq (tgt := 809) dc_La_law_804 (by decide) (iB_mk (by omega) (by omega)) (iB_mk (by omega) (by omega)) (fun ht9 => ?_) (fun ht9 => ?_)
    · refine mw_iload dc_La_law_809 1 rfl ?_
      refine mi_if_ne (tgt := 826) dc_La_law_811 (by decide) (iB_mk (by omega) (by omega)) (fun hk9 => ?_) (fun hk9 => ?_)
      · exact absurd rfl hk9
      · refine mw_aload_n dc_La_law_814 rfl 3 rfl ?_
        refine mi_const dc_La_law_815 ?_
        refine mi_lald dc_La_law_816 rfl ⟨by decide, by decide, by decide⟩ (v := (iI (iv_o (yR n (u x1.toNat) (u x2.toNat)) n x3 n 0 0)).toInt64) (by rw [show (0 : Int).toNat = 0 from rfl]; exact up58_0 _ _) ?_
        refine mw_iload dc_La_law_817 0 rfl ?_
        refine mw_i2l dc_La_law_819 ?_
        refine mw_lcmp dc_La_law_820 ?_

        refine mw_if_eq (tgt := 826) dc_La_law_821 (by decide) (fun hq9 => ?_) (fun hq9 => ?_)
        · refine mw_goto (tgt := 1168) dc_La_law_826 (by decide) ?_
          refine mw_pick [2, 3, 4, 5, 6] rfl ?_
          exact hx _ _ _ _ _ _ _ _ _ _ _ _ _ _ hP (wrC_f (wrC_J C1) f2) M2
        · exact absurd (lg_eq (rfl)) hq9
    · exact absurd rfl ht9
  · refine mw_aload_n dc_La_law_749 rfl 3 rfl ?_
    refine mw_aload_nS dc_La_law_750 rfl 4 rfl ?_
    refine mw_iload dc_La_law_751 0 rfl ?_
    refine mi_const dc_La_law_753 ?_
    refine mi_iadd dc_La_law_754 ?_
    refine mi_sld dc_La_law_755 rfl ⟨by omega, by omega, by omega⟩ (v := iI x1) (by rw [show ((i : Int) + 1).toNat = i + 1 by omega]; exact e1) ?_
    refine mw_aload_nS dc_La_law_756 rfl 4 rfl ?_
    refine mw_iload dc_La_law_757 0 rfl ?_
    refine mi_const dc_La_law_759 ?_
    refine mi_iadd dc_La_law_760 ?_
    refine mi_sld dc_La_law_761 rfl ⟨by omega, by omega, by omega⟩ (v := iI x2) (by rw [show ((i : Int) + 2).toNat = i + 2 by omega]; exact e2) ?_
    refine mw_aload_nS dc_La_law_762 rfl 4 rfl ?_
    refine mw_iload dc_La_law_763 0 rfl ?_
    refine mi_const dc_La_law_765 ?_
    refine mi_iadd dc_La_law_766 ?_
    refine mi_sld dc_La_law_767 rfl ⟨by omega, by omega, by omega⟩ (v := iI x3) (by rw [show ((i : Int) + 3).toNat = i + 3 by omega]; exact e3) ?_
    refine mw_aload_n dc_La_law_768 rfl 1 rfl ?_
    refine mw_le (bc := bc + 2) (bs := bs + 12) (by omega) (by omega) ?_
    refine mw_callSW (M2 := mt_La_interval) (mc := 2) (ms := 12) (as := [.ref 0, .int (iI x1), .int (iI x2), .int (iI x3), .ref 58]) (st := []) dc_La_law_769 ml_La_124 ny_La_interval (by decide) rfl (Nat.le_of_ble_eq_true rfl) (ev_La_interval (ev_interval hC.1 hC.2.1 hP.1.2 hO.2 hst b1 b2 b3) (fun v h9 q => nomatch ((q.2 hc).1)) (fun j h9 q => Sum.inr.inj ((q.2 hc).1))) (fun k9 h9 q9 => by rcases q9 with ⟨_, _, _, q9, _⟩ | ⟨_, _, q9, _⟩ <;> cases q9) (fun v h1 hY => ?_)
    rcases hY with ⟨x9, h9, q, hv9, rfl⟩ | ⟨h9, q, hv9, rfl⟩
    · exact (nomatch ((q.2 hc).1))
    cases hv9
    obtain ⟨-, rfl⟩ := q.2 hc
    refine mw_istore dc_La_law_772 (by decide) rfl ?_
    refine mw_aload_n dc_La_law_774 rfl 3 rfl ?_
    refine mw_aload_nS dc_La_law_775 rfl 5 rfl ?_
    refine mw_iload dc_La_law_776 1 rfl ?_
    refine mi_const dc_La_law_778 ?_
    refine mi_iadd dc_La_law_779 ?_
    refine mi_sld dc_La_law_780 rfl ⟨by omega, by omega, by omega⟩ (v := iI x1) (by rw [show ((i : Int) + 1).toNat = i + 1 by omega]; exact e1) ?_
    refine mw_aload_nS dc_La_law_781 rfl 5 rfl ?_
    refine mw_iload dc_La_law_782 1 rfl ?_
    refine mi_const dc_La_law_784 ?_
    refine mi_iadd dc_La_law_785 ?_
    refine mi_sld dc_La_law_786 rfl ⟨by omega, by omega, by omega⟩ (v := iI x2) (by rw [show ((i : Int) + 2).toNat = i + 2 by omega]; exact e2) ?_
    refine mw_aload_nS dc_La_law_787 rfl 5 rfl ?_
    refine mw_iload dc_La_law_788 1 rfl ?_
    refine mi_const dc_La_law_790 ?_
    refine mi_iadd dc_La_law_791 ?_
    refine mi_sld dc_La_law_792 rfl ⟨by omega, by omega, by omega⟩ (v := iI x3) (by rw [show ((i : Int) + 3).toNat = i + 3 by omega]; exact e3) ?_
    refine mz_V3 (M2 := mt_Mo_interval) dc_La_law_793 ml_La_126 rfl rfl ny_Mo_interval (by decide) (Nat.le_of_ble_eq_true rfl) (ev_mointerval hM.1 hM.2.1 hP.1.2 hQ.2 b1 b2 b3) (fun v h1 hY => ?_)
    obtain ⟨hv9, rfl⟩ := hY.1 hc
    cases hv9
    obtain ⟨M2, f2⟩ := wrM_x hM (.int (iI 1))
    refine mw_istore dc_La_law_796 (by decide) rfl ?_
    refine mw_aload_n dc_La_law_798 rfl 4 rfl ?_
    refine mz_V0 (M2 := mt_Mo_thrown) dc_La_law_799 ml_La_80 rfl rfl ny_Mo_thrown (by decide) (Nat.le_of_ble_eq_true rfl) (ev_thrown (t := 1) (fu_at _ 39 0 _)) (fun v h1 hY => ?_)
    obtain ⟨hv9, rfl⟩ := hY
    cases hv9
    refine mw_iload dc_La_law_802 1 rfl ?_
    refine mi_icmp_eq (tgt := 809) dc_La_law_804 (by decide) (iB_mk (by omega) (by omega)) (iB_mk (by omega) (by omega)) (fun ht9 => ?_) (fun ht9 => ?_)
    · refine mw_iload dc_La_law_809 1 rfl ?_
      refine mi_if_ne (tgt := 826) dc_La_law_811 (by decide) (iB_mk (by omega) (by omega)) (fun hk9 => ?_) (fun hk9 => ?_)
      · refine mw_goto (tgt := 1168) dc_La_law_826 (by decide) ?_
        refine mw_pick [2, 3, 4, 5, 6] rfl ?_
        exact hx _ _ _ _ _ _ _ _ _ _ _ _ _ _ hP (wrC_f hC f2) M2
      · exact absurd hk9 (by decide)
    · exact absurd rfl ht9
theorem lw_scenario {G : mm_G} {d bc bs : Nat} {X : mm_X} {n : Nat} {u : Nat → Nat → Int} {k : Nat → Nat} {a b : Nat → Nat → Nat} {l : Nat} {cc : Nat → Int} {c : Int} {st : Nat → Int} {cs : mm_Sh} {I : Nat → Nat → Int32} {J : Nat → Nat → Int64} {F : Nat → Nat → Option Nat} {V : Nat → Nat → Value} {i : Nat} {x1 x2 x3 : Int} (hst : G.1.stackTraces = false) (mf : MF) (hL : i + 4 ≤ G.2.2.2.2.1 ∧ G.2.2.2.2.1 ≤ 2048) (e1 : G.2.2.2.2.2 (i + 1) = iI x1) (e2 : G.2.2.2.2.2 (i + 2) = iI x2) (e3 : G.2.2.2.2.2 (i + 3) = iI x3) (b1 : iB x1) (b2 : iB x2) (b3 : iB x3) (hP : wrP n u k a b l cc c) (hC : wrC n u k a b l cc c st cs I J F V) (hM : wrM n u k a b l cc c st I J V)
    (hx : ∀ n u k a b l cc c st cs I J F V, wrP n u k a b l cc c → wrC n u k a b l cc c st cs I J F V → wrM n u k a b l cc c st I J V → mW G mt_law (d + 40) bc bs 1168 [(4, .int (iI (i : Nat))), (3, .ref 58), (2, .ref 39), (1, .ref 0), (0, .retAddr G.2.2.2.1)] [] (wd_S ++ cs, I, J, F, V) X) : mW G mt_law (d + 40) (bc + 8) (bs + 820) 829 [(4, .int (iI (i : Nat))), (3, .ref 58), (2, .ref 39), (1, .ref 0), (0, .retAddr G.2.2.2.1)] [] (wd_S ++ cs, I, J, F, V) X := by
  have hO := wr_O hC hP
  have hQ := wr_Q hM hP mf
  have mm := mf n hP.1.1 hP.1.2
  have hE : ∀ z, sP n z → dP n z = (((fun z => Dn n (rkn n z)) z : Nat) : Int) := fun z hz => by show dP n z = ((Dn n (rkn n z) : Nat) : Int); rw [((mm.1 _ hz).2.2.2)]; exact (mm.1 _ hz).1
  by_cases hc : okS x1 ∧ okS x2
  · refine mw_aload_n dc_La_law_829 rfl 3 rfl ?_
    refine mw_aload_nS dc_La_law_830 rfl 4 rfl ?_
    refine mw_iload dc_La_law_831 0 rfl ?_
    refine mi_const dc_La_law_833 ?_
    refine mi_iadd dc_La_law_834 ?_
    refine mi_sld dc_La_law_835 rfl ⟨by omega, by omega, by omega⟩ (v := iI x1) (by rw [show ((i : Int) + 1).toNat = i + 1 by omega]; exact e1) ?_
    refine mw_aload_nS dc_La_law_836 rfl 4 rfl ?_
    refine mw_iload dc_La_law_837 0 rfl ?_
    refine mi_const dc_La_law_839 ?_
    refine mi_iadd dc_La_law_840 ?_
    refine mi_sld dc_La_law_841 rfl ⟨by omega, by omega, by omega⟩ (v := iI x2) (by rw [show ((i : Int) + 2).toNat = i + 2 by omega]; exact e2) ?_
    refine mw_aload_n dc_La_law_842 rfl 1 rfl ?_
    refine mw_le (bc := bc + 2) (bs := bs + 12) (by omega) (by omega) ?_
    refine mw_callSW (M2 := mt_La_scenario) (mc := 2) (ms := 12) (as := [.ref 0, .int (iI x1), .int (iI x2), .ref 58]) (st := []) dc_La_law_843 ml_La_127 ny_La_scenario (by decide) rfl (Nat.le_of_ble_eq_true rfl) (ev_La_scenario (ev_scenario (E := (fun z => Dn n (rkn n z))) hC.1 hC.2.1 hP.1.2 hE mm.2.2.2.1 hO.1 hst b1 b2) (fun v h9 q => by obtain ⟨e9, I1, V1, rfl, -⟩ := q.1 hc; exact ⟨_, cs, I1, J, F, V1, Sum.inl.inj e9, rfl⟩) (fun j h9 q => nomatch (q.1 hc).1)) (fun k9 h9 q9 => by rcases q9 with ⟨_, _, _, q9, _⟩ | ⟨_, _, q9, _⟩ <;> cases q9) (fun v h1 hY => ?_)
    rcases hY with ⟨x9, h9, q, hv9, rfl⟩ | ⟨h9, q, hv9, rfl⟩
    rotate_left
    · exact (nomatch ((q.1 hc).1))
    cases hv9
    obtain ⟨e9, I1, V1, rfl, g1, g2, g3, g4⟩ := q.1 hc
    have ex9 := Value.int.inj (Option.some.inj (Sum.inl.inj e9))
    subst ex9
    obtain ⟨C1, f1⟩ := C_scen hC g1 g2 g3 g4
    have M1 := wrM_f hM (frM_t f1 (frM_J (v := (iI ((Dn n (rkn n (yR n (u x1.toNat) (u x2.toNat))) : Nat) : Int)).toInt64)))
    have hQ1 := wr_Q M1 hP mf
    have he7 : Dn n (rkn n (yR n (u x1.toNat) (u x2.toNat))) ≤ 7 := (mm.2.2.1 _ (mm.1 _ (sP_y (hP.2.1 _ (by omega)).1 (hP.2.1 _ (by omega)).1)).2.2.1).1
    refine mw_istore dc_La_law_846 (by decide) rfl ?_
    refine mw_aload_n dc_La_law_848 rfl 3 rfl ?_
    refine mw_aload_nS dc_La_law_849 rfl 5 rfl ?_
    refine mw_iload dc_La_law_850 1 rfl ?_
    refine mi_const dc_La_law_852 ?_
    refine mi_iadd dc_La_law_853 ?_
    refine mi_sld dc_La_law_854 rfl ⟨by omega, by omega, by omega⟩ (v := iI x1) (by rw [show ((i : Int) + 1).toNat = i + 1 by omega]; exact e1) ?_
    refine mw_aload_nS dc_La_law_855 rfl 5 rfl ?_
    refine mw_iload dc_La_law_856 1 rfl ?_
    refine mi_const dc_La_law_858 ?_
    refine mi_iadd dc_La_law_859 ?_
    refine mi_sld dc_La_law_860 rfl ⟨by omega, by omega, by omega⟩ (v := iI x2) (by rw [show ((i : Int) + 2).toNat = i + 2 by omega]; exact e2) ?_
    refine mz_V2 (M2 := mt_Mo_scenario) dc_La_law_861 ml_La_129 rfl rfl ny_Mo_scenario (by decide) (Nat.le_of_ble_eq_true rfl) (ev_moscenario M1.1 M1.2.1 hP.1 M1.2.2.2.2.2.2.2.2 mm.2.1 (fun k9 hk9 => by have := (mm.2.2.1 k9 hk9).1; omega) hQ1.1 b1 b2 mm.2.2.2.1 (fun a9 b9 ha9 hb9 => sP_y (hP.2.1 a9 ha9).1 (hP.2.1 b9 hb9).1)) (fun v h1 hY => ?_)
    obtain ⟨hv9, I2, J2, V2, rfl, g5, g6, g7, g8, g9, g10, g11, g12⟩ := hY.2 hc
    cases hv9
    obtain ⟨M2, f2⟩ := M_scen M1 (by omega) g5 g6 g7 g8 g9 g11 g12
    refine mw_istore dc_La_law_864 (by decide) rfl ?_
    refine mw_aload_n dc_La_law_866 rfl 4 rfl ?_
    refine mz_V0 (M2 := mt_Mo_thrown) dc_La_law_867 ml_La_80 rfl rfl ny_Mo_thrown (by decide) (Nat.le_of_ble_eq_true rfl) (ev_thrown (t := 0) g10) (fun v h1 hY => ?_)
    obtain ⟨hv9, rfl⟩ := hY
    cases hv9
    refine mw_iload dc_La_law_870 1 rfl ?_
    refine mi_icmp_eq (tgt := 877) dc_La_law_872 (by decide) (iB_mk (by omega) (by omega)) (iB_mk (by omega) (by omega)) (fun ht9 => ?_) (fun ht9 => ?_)
    · refine mw_iload dc_La_law_877 1 rfl ?_
      refine mi_if_ne (tgt := 894) dc_La_law_879 (by decide) (iB_mk (by omega) (by omega)) (fun hk9 => ?_) (fun hk9 => ?_)
      · exact absurd rfl hk9
      · refine mw_aload_n dc_La_law_882 rfl 3 rfl ?_
        refine mi_const dc_La_law_883 ?_
        refine mi_lald dc_La_law_884 rfl ⟨by decide, by decide, by decide⟩ (v := (iI ((Dn n (rkn n (yR n (u x1.toNat) (u x2.toNat))) : Nat) : Int)).toInt64) (by rw [g7 58 (by decide)]; exact up58_0 _ _) ?_
        refine mw_iload dc_La_law_885 0 rfl ?_
        refine mw_i2l dc_La_law_887 ?_
        refine mw_lcmp dc_La_law_888 ?_

        refine mw_if_eq (tgt := 894) dc_La_law_889 (by decide) (fun hq9 => ?_) (fun hq9 => ?_)
        · refine mw_goto (tgt := 1168) dc_La_law_894 (by decide) ?_
          refine mw_pick [2, 3, 4, 5, 6] rfl ?_
          exact hx _ _ _ _ _ _ _ _ _ _ _ _ _ _ ⟨hP.1, hP.2.1, hP.2.2.1, hP.2.2.2.1, by omega, by omega⟩ (wrC_f (wrC_J C1) f2) M2
        · exact absurd (lg_eq (rfl)) hq9
    · exact absurd rfl ht9
  · refine mw_aload_n dc_La_law_829 rfl 3 rfl ?_
    refine mw_aload_nS dc_La_law_830 rfl 4 rfl ?_
    refine mw_iload dc_La_law_831 0 rfl ?_
    refine mi_const dc_La_law_833 ?_
    refine mi_iadd dc_La_law_834 ?_
    refine mi_sld dc_La_law_835 rfl ⟨by omega, by omega, by omega⟩ (v := iI x1) (by rw [show ((i : Int) + 1).toNat = i + 1 by omega]; exact e1) ?_
    refine mw_aload_nS dc_La_law_836 rfl 4 rfl ?_
    refine mw_iload dc_La_law_837 0 rfl ?_
    refine mi_const dc_La_law_839 ?_
    refine mi_iadd dc_La_law_840 ?_
    refine mi_sld dc_La_law_841 rfl ⟨by omega, by omega, by omega⟩ (v := iI x2) (by rw [show ((i : Int) + 2).toNat = i + 2 by omega]; exact e2) ?_
    refine mw_aload_n dc_La_law_842 rfl 1 rfl ?_
    refine mw_le (bc := bc + 2) (bs := bs + 12) (by omega) (by omega) ?_
    refine mw_callSW (M2 := mt_La_scenario) (mc := 2) (ms := 12) (as := [.ref 0, .int (iI x1), .int (iI x2), .ref 58]) (st := []) dc_La_law_843 ml_La_127 ny_La_scenario (by decide) rfl (Nat.le_of_ble_eq_true rfl) (ev_La_scenario (ev_scenario (E := (fun z => Dn n (rkn n z))) hC.1 hC.2.1 hP.1.2 hE mm.2.2.2.1 hO.1 hst b1 b2) (fun v h9 q => nomatch ((q.2 hc).1)) (fun j h9 q => Sum.inr.inj ((q.2 hc).1))) (fun k9 h9 q9 => by rcases q9 with ⟨_, _, _, q9, _⟩ | ⟨_, _, q9, _⟩ <;> cases q9) (fun v h1 hY => ?_)
    rcases hY with ⟨x9, h9, q, hv9, rfl⟩ | ⟨h9, q, hv9, rfl⟩
    · exact (nomatch ((q.2 hc).1))
    cases hv9
    obtain ⟨-, rfl⟩ := q.2 hc
    refine mw_istore dc_La_law_846 (by decide) rfl ?_
    refine mw_aload_n dc_La_law_848 rfl 3 rfl ?_
    refine mw_aload_nS dc_La_law_849 rfl 5 rfl ?_
    refine mw_iload dc_La_law_850 1 rfl ?_
    refine mi_const dc_La_law_852 ?_
    refine mi_iadd dc_La_law_853 ?_
    refine mi_sld dc_La_law_854 rfl ⟨by omega, by omega, by omega⟩ (v := iI x1) (by rw [show ((i : Int) + 1).toNat = i + 1 by omega]; exact e1) ?_
    refine mw_aload_nS dc_La_law_855 rfl 5 rfl ?_
    refine mw_iload dc_La_law_856 1 rfl ?_
    refine mi_const dc_La_law_858 ?_
    refine mi_iadd dc_La_law_859 ?_
    refine mi_sld dc_La_law_860 rfl ⟨by omega, by omega, by omega⟩ (v := iI x2) (by rw [show ((i : Int) + 2).toNat = i + 2 by omega]; exact e2) ?_
    refine mz_V2 (M2 := mt_Mo_scenario) dc_La_law_861 ml_La_129 rfl rfl ny_Mo_scenario (by decide) (Nat.le_of_ble_eq_true rfl) (ev_moscenario hM.1 hM.2.1 hP.1 hM.2.2.2.2.2.2.2.2 mm.2.1 (fun k9 hk9 => by have := (mm.2.2.1 k9 hk9).1; omega) hQ.1 b1 b2 mm.2.2.2.1 (fun a9 b9 ha9 hb9 => sP_y (hP.2.1 a9 ha9).1 (hP.2.1 b9 hb9).1)) (fun v h1 hY => ?_)
    obtain ⟨hv9, rfl⟩ := hY.1 hc
    cases hv9
    obtain ⟨M2, f2⟩ := wrM_x hM (.int (iI 1))
    refine mw_istore dc_La_law_864 (by decide) rfl ?_
    refine mw_aload_n dc_La_law_866 rfl 4 rfl ?_
    refine mz_V0 (M2 := mt_Mo_thrown) dc_La_law_867 ml_La_80 rfl rfl ny_Mo_thrown (by decide) (Nat.le_of_ble_eq_true rfl) (ev_thrown (t := 1) (fu_at _ 39 0 _)) (fun v h1 hY => ?_)
    obtain ⟨hv9, rfl⟩ := hY
    cases hv9
    refine mw_iload dc_La_law_870 1 rfl ?_
    refine mi_icmp_eq (tgt := 877) dc_La_law_872 (by decide) (iB_mk (by omega) (by omega)) (iB_mk (by omega) (by omega)) (fun ht9 => ?_) (fun ht9 => ?_)
    · refine mw_iload dc_La_law_877 1 rfl ?_
      refine mi_if_ne (tgt := 894) dc_La_law_879 (by decide) (iB_mk (by omega) (by omega)) (fun hk9 => ?_) (fun hk9 => ?_)
      · refine mw_goto (tgt := 1168) dc_La_law_894 (by decide) ?_
        refine mw_pick [2, 3, 4, 5, 6] rfl ?_
        exact hx _ _ _ _ _ _ _ _ _ _ _ _ _ _ hP (wrC_f hC f2) M2
      · exact absurd hk9 (by decide)
    · exact absurd rfl ht9
theorem lw_step {G : mm_G} {d bc bs : Nat} {X : mm_X} {n : Nat} {u : Nat → Nat → Int} {k : Nat → Nat} {a b : Nat → Nat → Nat} {l : Nat} {cc : Nat → Int} {c : Int} {st : Nat → Int} {cs : mm_Sh} {I : Nat → Nat → Int32} {J : Nat → Nat → Int64} {F : Nat → Nat → Option Nat} {V : Nat → Nat → Value} {i : Nat} {x1 x2 x3 : Int} (hst : G.1.stackTraces = false) (mf : MF) (hL : i + 4 ≤ G.2.2.2.2.1 ∧ G.2.2.2.2.1 ≤ 2048) (e1 : G.2.2.2.2.2 (i + 1) = iI x1) (e2 : G.2.2.2.2.2 (i + 2) = iI x2) (e3 : G.2.2.2.2.2 (i + 3) = iI x3) (b1 : iB x1) (b2 : iB x2) (b3 : iB x3) (hP : wrP n u k a b l cc c) (hC : wrC n u k a b l cc c st cs I J F V) (hM : wrM n u k a b l cc c st I J V)
    (hx : ∀ n u k a b l cc c st cs I J F V, wrP n u k a b l cc c → wrC n u k a b l cc c st cs I J F V → wrM n u k a b l cc c st I J V → mW G mt_law (d + 40) bc bs 1168 [(4, .int (iI (i : Nat))), (3, .ref 58), (2, .ref 39), (1, .ref 0), (0, .retAddr G.2.2.2.1)] [] (wd_S ++ cs, I, J, F, V) X) : mW G mt_law (d + 40) (bc + 8) (bs + 820) 897 [(4, .int (iI (i : Nat))), (3, .ref 58), (2, .ref 39), (1, .ref 0), (0, .retAddr G.2.2.2.1)] [] (wd_S ++ cs, I, J, F, V) X := by
  obtain ⟨c8, d1, d2, d3, d4⟩ := hM.2.2.2.2.2.2.1
  by_cases hc : c = -1
  · refine mw_aload_n dc_La_law_897 rfl 3 rfl ?_
    refine mw_aload_nS dc_La_law_898 rfl 4 rfl ?_
    refine mw_iload dc_La_law_899 0 rfl ?_
    refine mi_const dc_La_law_901 ?_
    refine mi_iadd dc_La_law_902 ?_
    refine mi_sld dc_La_law_903 rfl ⟨by omega, by omega, by omega⟩ (v := iI x1) (by rw [show ((i : Int) + 1).toNat = i + 1 by omega]; exact e1) ?_
    refine mw_aload_n dc_La_law_904 rfl 1 rfl ?_
    refine mw_le (bc := bc + 1) (bs := bs + 6) (by omega) (by omega) ?_
    refine mw_callSW (M2 := mt_La_step) (mc := 1) (ms := 6) (as := [.ref 0, .int (iI x1), .ref 58]) (st := []) dc_La_law_905 ml_La_130 ny_La_step (by decide) rfl (Nat.le_of_ble_eq_true rfl) (ev_La_step (ev_step hst hC.1 hC.2.2.2.2.2.1 ⟨hP.2.2.2.2.1, hP.2.2.2.2.2⟩ b1) (fun v h9 q => nomatch (q.2.1 hc)) (fun j h9 q => Or.inl (Sum.inr.inj (q.2.1 hc)))) (fun k9 h9 q9 => by rcases q9 with ⟨_, _, _, q9, _⟩ | ⟨_, _, q9, _⟩ | ⟨_, _, q9, _⟩ <;> cases q9) (fun v h1 hY => ?_)
    rcases hY with ⟨x9, h9, q, hv9, rfl⟩ | ⟨h9, q, hv9, rfl⟩ | ⟨h9, q, hv9, rfl⟩
    · exact (nomatch (q.2.1 hc))
    rotate_left
    · exact (nomatch (q.2.1 hc))
    cases hv9
    obtain ⟨rfl, -⟩ := q
    refine mw_istore dc_La_law_908 (by decide) rfl ?_
    refine mw_aload_n dc_La_law_910 rfl 3 rfl ?_
    refine mw_aload_nS dc_La_law_911 rfl 5 rfl ?_
    refine mw_iload dc_La_law_912 1 rfl ?_
    refine mi_const dc_La_law_914 ?_
    refine mi_iadd dc_La_law_915 ?_
    refine mi_sld dc_La_law_916 rfl ⟨by omega, by omega, by omega⟩ (v := iI x1) (by rw [show ((i : Int) + 1).toNat = i + 1 by omega]; exact e1) ?_
    refine mz_V1 (M2 := mt_Mo_step) dc_La_law_917 ml_La_132 rfl rfl ny_Mo_step (by decide) (Nat.le_of_ble_eq_true rfl) (ev_mostep (pl := decide (c ≠ -1)) (c := c8) hM.1 hM.2.2.2.2.2.1 d1 ⟨d2, d3⟩ b1) (fun v h1 hY => ?_)
    obtain ⟨hv9, rfl⟩ := hY.1 (decide_eq_false (fun q9 => q9 hc))
    cases hv9
    obtain ⟨M2, f2⟩ := wrM_x hM (.int (iI 1))
    refine mw_istore dc_La_law_920 (by decide) rfl ?_
    refine mw_aload_n dc_La_law_922 rfl 4 rfl ?_
    refine mz_V0 (M2 := mt_Mo_thrown) dc_La_law_923 ml_La_80 rfl rfl ny_Mo_thrown (by decide) (Nat.le_of_ble_eq_true rfl) (ev_thrown (t := 1) (fu_at _ 39 0 _)) (fun v h1 hY => ?_)
    obtain ⟨hv9, rfl⟩ := hY
    cases hv9
    refine mw_iload dc_La_law_926 1 rfl ?_
    refine mi_icmp_eq (tgt := 933) dc_La_law_928 (by decide) (iB_mk (by omega) (by omega)) (iB_mk (by omega) (by omega)) (fun ht9 => ?_) (fun ht9 => ?_)
    · refine mw_iload dc_La_law_933 1 rfl ?_
      refine mi_if_ne (tgt := 950) dc_La_law_935 (by decide) (iB_mk (by omega) (by omega)) (fun hk9 => ?_) (fun hk9 => ?_)
      · refine mw_goto (tgt := 1168) dc_La_law_950 (by decide) ?_
        refine mw_pick [2, 3, 4, 5, 6] rfl ?_
        exact hx _ _ _ _ _ _ _ _ _ _ _ _ _ _ hP (wrC_f hC f2) M2
      · exact absurd hk9 (by decide)
    · exact absurd rfl ht9
  · have hc8 := d4 hc
    by_cases hd : 0 ≤ x1 ∧ x1 < c
    · refine mw_aload_n dc_La_law_897 rfl 3 rfl ?_
      refine mw_aload_nS dc_La_law_898 rfl 4 rfl ?_
      refine mw_iload dc_La_law_899 0 rfl ?_
      refine mi_const dc_La_law_901 ?_
      refine mi_iadd dc_La_law_902 ?_
      refine mi_sld dc_La_law_903 rfl ⟨by omega, by omega, by omega⟩ (v := iI x1) (by rw [show ((i : Int) + 1).toNat = i + 1 by omega]; exact e1) ?_
      refine mw_aload_n dc_La_law_904 rfl 1 rfl ?_
      refine mw_le (bc := bc + 1) (bs := bs + 6) (by omega) (by omega) ?_
      refine mw_callSW (M2 := mt_La_step) (mc := 1) (ms := 6) (as := [.ref 0, .int (iI x1), .ref 58]) (st := []) dc_La_law_905 ml_La_130 ny_La_step (by decide) rfl (Nat.le_of_ble_eq_true rfl) (ev_La_step (ev_step hst hC.1 hC.2.2.2.2.2.1 ⟨hP.2.2.2.2.1, hP.2.2.2.2.2⟩ b1) (fun v h9 q => ⟨_, cs, I, J, F, V, Sum.inl.inj (q.2.2.1 hc hd), q.1⟩) (fun j h9 q => nomatch (q.2.2.1 hc hd))) (fun k9 h9 q9 => by rcases q9 with ⟨_, _, _, q9, _⟩ | ⟨_, _, q9, _⟩ | ⟨_, _, q9, _⟩ <;> cases q9) (fun v h1 hY => ?_)
      rcases hY with ⟨x9, h9, q, hv9, rfl⟩ | ⟨h9, q, hv9, rfl⟩ | ⟨h9, q, hv9, rfl⟩
      rotate_left
      · exact (nomatch (q.2.2.1 hc hd))
      · exact (nomatch (q.2.2.1 hc hd))
      cases hv9
      obtain ⟨rfl, -, q2, -⟩ := q
      have e9 := q2 hc hd
      have ex9 := Value.int.inj (Option.some.inj (Sum.inl.inj e9))
      subst ex9
      have M1 := wrM_f hM (frM_J (v := (I 35 x1.toNat).toInt64))
      refine mw_istore dc_La_law_908 (by decide) rfl ?_
      refine mw_aload_n dc_La_law_910 rfl 3 rfl ?_
      refine mw_aload_nS dc_La_law_911 rfl 5 rfl ?_
      refine mw_iload dc_La_law_912 1 rfl ?_
      refine mi_const dc_La_law_914 ?_
      refine mi_iadd dc_La_law_915 ?_
      refine mi_sld dc_La_law_916 rfl ⟨by omega, by omega, by omega⟩ (v := iI x1) (by rw [show ((i : Int) + 1).toNat = i + 1 by omega]; exact e1) ?_
      refine mz_V1 (M2 := mt_Mo_step) dc_La_law_917 ml_La_132 rfl rfl ny_Mo_step (by decide) (Nat.le_of_ble_eq_true rfl) (ev_mostep (pl := decide (c ≠ -1)) (c := c8) M1.1 M1.2.2.2.2.2.1 d1 ⟨d2, d3⟩ b1) (fun v h1 hY => ?_)
      obtain ⟨hv9, rfl⟩ := hY.2.2 ⟨decide_eq_true hc, by omega, by omega⟩
      cases hv9
      obtain ⟨M2, f2⟩ := wrM_x M1 (.int (iI 0))
      have ev9 : I 35 x1.toNat = I 44 x1.toNat := by rw [hC.2.2.2.2.2.2.1 x1.toNat (by omega), hM.2.2.2.2.2.2.2.1 x1.toNat (by omega)]
      refine mw_istore dc_La_law_920 (by decide) rfl ?_
      refine mw_aload_n dc_La_law_922 rfl 4 rfl ?_
      refine mz_V0 (M2 := mt_Mo_thrown) dc_La_law_923 ml_La_80 rfl rfl ny_Mo_thrown (by decide) (Nat.le_of_ble_eq_true rfl) (ev_thrown (t := 0) (fu_at _ 39 0 _)) (fun v h1 hY => ?_)
      obtain ⟨hv9, rfl⟩ := hY
      cases hv9
      refine mw_iload dc_La_law_926 1 rfl ?_
      refine mi_icmp_eq (tgt := 933) dc_La_law_928 (by decide) (iB_mk (by omega) (by omega)) (iB_mk (by omega) (by omega)) (fun ht9 => ?_) (fun ht9 => ?_)
      · refine mw_iload dc_La_law_933 1 rfl ?_
        refine mi_if_ne (tgt := 950) dc_La_law_935 (by decide) (iB_mk (by omega) (by omega)) (fun hk9 => ?_) (fun hk9 => ?_)
        · exact absurd rfl hk9
        · refine mw_aload_n dc_La_law_938 rfl 3 rfl ?_
          refine mi_const dc_La_law_939 ?_
          refine mi_lald dc_La_law_940 rfl ⟨by decide, by decide, by decide⟩ (v := (I 35 x1.toNat).toInt64) (by rw [show (0 : Int).toNat = 0 from rfl]; exact up58_0 _ _) ?_
          refine mw_iload dc_La_law_941 0 rfl ?_
          refine mw_i2l dc_La_law_943 ?_
          refine mw_lcmp dc_La_law_944 ?_

          refine mw_if_eq (tgt := 950) dc_La_law_945 (by decide) (fun hq9 => ?_) (fun hq9 => ?_)
          · refine mw_goto (tgt := 1168) dc_La_law_950 (by decide) ?_
            refine mw_pick [2, 3, 4, 5, 6] rfl ?_
            exact hx _ _ _ _ _ _ _ _ _ _ _ _ _ _ hP (wrC_f (wrC_J hC) f2) M2
          · exact absurd (lg_eq (by rw [ev9])) hq9
      · exact absurd rfl ht9
    · refine mw_aload_n dc_La_law_897 rfl 3 rfl ?_
      refine mw_aload_nS dc_La_law_898 rfl 4 rfl ?_
      refine mw_iload dc_La_law_899 0 rfl ?_
      refine mi_const dc_La_law_901 ?_
      refine mi_iadd dc_La_law_902 ?_
      refine mi_sld dc_La_law_903 rfl ⟨by omega, by omega, by omega⟩ (v := iI x1) (by rw [show ((i : Int) + 1).toNat = i + 1 by omega]; exact e1) ?_
      refine mw_aload_n dc_La_law_904 rfl 1 rfl ?_
      refine mw_le (bc := bc + 1) (bs := bs + 6) (by omega) (by omega) ?_
      refine mw_callSW (M2 := mt_La_step) (mc := 1) (ms := 6) (as := [.ref 0, .int (iI x1), .ref 58]) (st := []) dc_La_law_905 ml_La_130 ny_La_step (by decide) rfl (Nat.le_of_ble_eq_true rfl) (ev_La_step (ev_step hst hC.1 hC.2.2.2.2.2.1 ⟨hP.2.2.2.2.1, hP.2.2.2.2.2⟩ b1) (fun v h9 q => nomatch (q.2.2.2 hc hd)) (fun j h9 q => Or.inr (Sum.inr.inj (q.2.2.2 hc hd)))) (fun k9 h9 q9 => by rcases q9 with ⟨_, _, _, q9, _⟩ | ⟨_, _, q9, _⟩ | ⟨_, _, q9, _⟩ <;> cases q9) (fun v h1 hY => ?_)
      rcases hY with ⟨x9, h9, q, hv9, rfl⟩ | ⟨h9, q, hv9, rfl⟩ | ⟨h9, q, hv9, rfl⟩
      · exact (nomatch (q.2.2.2 hc hd))
      · exact (nomatch (q.2.2.2 hc hd))
      cases hv9
      obtain ⟨rfl, -⟩ := q
      refine mw_istore dc_La_law_908 (by decide) rfl ?_
      refine mw_aload_n dc_La_law_910 rfl 3 rfl ?_
      refine mw_aload_nS dc_La_law_911 rfl 5 rfl ?_
      refine mw_iload dc_La_law_912 1 rfl ?_
      refine mi_const dc_La_law_914 ?_
      refine mi_iadd dc_La_law_915 ?_
      refine mi_sld dc_La_law_916 rfl ⟨by omega, by omega, by omega⟩ (v := iI x1) (by rw [show ((i : Int) + 1).toNat = i + 1 by omega]; exact e1) ?_
      refine mz_V1 (M2 := mt_Mo_step) dc_La_law_917 ml_La_132 rfl rfl ny_Mo_step (by decide) (Nat.le_of_ble_eq_true rfl) (ev_mostep (pl := decide (c ≠ -1)) (c := c8) hM.1 hM.2.2.2.2.2.1 d1 ⟨d2, d3⟩ b1) (fun v h1 hY => ?_)
      obtain ⟨hv9, rfl⟩ := hY.2.1 ⟨decide_eq_true hc, by omega⟩
      cases hv9
      obtain ⟨M2, f2⟩ := wrM_x hM (.int (iI 2))
      refine mw_istore dc_La_law_920 (by decide) rfl ?_
      refine mw_aload_n dc_La_law_922 rfl 4 rfl ?_
      refine mz_V0 (M2 := mt_Mo_thrown) dc_La_law_923 ml_La_80 rfl rfl ny_Mo_thrown (by decide) (Nat.le_of_ble_eq_true rfl) (ev_thrown (t := 2) (fu_at _ 39 0 _)) (fun v h1 hY => ?_)
      obtain ⟨hv9, rfl⟩ := hY
      cases hv9
      refine mw_iload dc_La_law_926 1 rfl ?_
      refine mi_icmp_eq (tgt := 933) dc_La_law_928 (by decide) (iB_mk (by omega) (by omega)) (iB_mk (by omega) (by omega)) (fun ht9 => ?_) (fun ht9 => ?_)
      · refine mw_iload dc_La_law_933 1 rfl ?_
        refine mi_if_ne (tgt := 950) dc_La_law_935 (by decide) (iB_mk (by omega) (by omega)) (fun hk9 => ?_) (fun hk9 => ?_)
        · refine mw_goto (tgt := 1168) dc_La_law_950 (by decide) ?_
          refine mw_pick [2, 3, 4, 5, 6] rfl ?_
          exact hx _ _ _ _ _ _ _ _ _ _ _ _ _ _ hP (wrC_f hC f2) M2
        · exact absurd hk9 (by decide)
      · exact absurd rfl ht9
theorem lw_ways {G : mm_G} {d bc bs : Nat} {X : mm_X} {n : Nat} {u : Nat → Nat → Int} {k : Nat → Nat} {a b : Nat → Nat → Nat} {l : Nat} {cc : Nat → Int} {c : Int} {st : Nat → Int} {cs : mm_Sh} {I : Nat → Nat → Int32} {J : Nat → Nat → Int64} {F : Nat → Nat → Option Nat} {V : Nat → Nat → Value} {i : Nat} {x1 x2 x3 : Int} (hst : G.1.stackTraces = false) (mf : MF) (hL : i + 4 ≤ G.2.2.2.2.1 ∧ G.2.2.2.2.1 ≤ 2048) (e1 : G.2.2.2.2.2 (i + 1) = iI x1) (e2 : G.2.2.2.2.2 (i + 2) = iI x2) (e3 : G.2.2.2.2.2 (i + 3) = iI x3) (b1 : iB x1) (b2 : iB x2) (b3 : iB x3) (hP : wrP n u k a b l cc c) (hC : wrC n u k a b l cc c st cs I J F V) (hM : wrM n u k a b l cc c st I J V)
    (hx : ∀ n u k a b l cc c st cs I J F V, wrP n u k a b l cc c → wrC n u k a b l cc c st cs I J F V → wrM n u k a b l cc c st I J V → mW G mt_law (d + 40) bc bs 1168 [(4, .int (iI (i : Nat))), (3, .ref 58), (2, .ref 39), (1, .ref 0), (0, .retAddr G.2.2.2.1)] [] (wd_S ++ cs, I, J, F, V) X) : mW G mt_law (d + 40) (bc + 8) (bs + 820) 953 [(4, .int (iI (i : Nat))), (3, .ref 58), (2, .ref 39), (1, .ref 0), (0, .retAddr G.2.2.2.1)] [] (wd_S ++ cs, I, J, F, V) X := by
  have hO := wr_O hC hP
  have hQ := wr_Q hM hP mf
  have mm := mf n hP.1.1 hP.1.2
  by_cases hc : okS x1 ∧ okS x2
  · by_cases h4 : n ≤ 4
    · refine mw_aload_n dc_La_law_953 rfl 3 rfl ?_
      refine mw_aload_nS dc_La_law_954 rfl 4 rfl ?_
      refine mw_iload dc_La_law_955 0 rfl ?_
      refine mi_const dc_La_law_957 ?_
      refine mi_iadd dc_La_law_958 ?_
      refine mi_sld dc_La_law_959 rfl ⟨by omega, by omega, by omega⟩ (v := iI x1) (by rw [show ((i : Int) + 1).toNat = i + 1 by omega]; exact e1) ?_
      refine mw_aload_nS dc_La_law_960 rfl 4 rfl ?_
      refine mw_iload dc_La_law_961 0 rfl ?_
      refine mi_const dc_La_law_963 ?_
      refine mi_iadd dc_La_law_964 ?_
      refine mi_sld dc_La_law_965 rfl ⟨by omega, by omega, by omega⟩ (v := iI x2) (by rw [show ((i : Int) + 2).toNat = i + 2 by omega]; exact e2) ?_
      refine mw_aload_n dc_La_law_966 rfl 1 rfl ?_
      refine mw_le (bc := bc + 6) (bs := bs + 812) (by omega) (by omega) ?_
      refine mw_callSW (M2 := mt_La_ways) (mc := 6) (ms := 812) (as := [.ref 0, .int (iI x1), .int (iI x2), .ref 58]) (st := []) dc_La_law_967 ml_La_133 ny_La_ways (by decide) rfl (Nat.le_of_ble_eq_true rfl) (ev_La_ways (ev_ways hst hC.1 hC.2.1 hP.1 hC.2.2.2.2.2.2.2 (fun h4 x9 hx9 => ⟨((mm.2.2.2.2.2 h4).1 x9 hx9).1, ((mm.2.2.2.2.2 h4).1 x9 hx9).2.1⟩) (fun h4 x9 hx9 => ((mm.2.2.2.2.2 h4).1 x9 hx9).2.2) (fun h4 => (mm.2.2.2.2.2 h4).2.1) hO.1 (fun h4 y9 hy9 => ((mm.2.2.2.2.2 h4).2.2.1 y9 hy9).1) b1 b2) (fun v h9 q => by obtain ⟨e9, cs1, I1, J1, F1, V1, rfl, hA1, hf1⟩ := q.2.2 ⟨hc, h4⟩; exact ⟨_, cs1, I1, J1, F1, V1, Sum.inl.inj e9, rfl⟩) (fun j h9 q => nomatch (q.2.2 ⟨hc, h4⟩).1)) (fun k9 h9 q9 => by rcases q9 with ⟨_, _, _, q9, _⟩ | ⟨_, _, q9, _⟩ | ⟨_, _, q9, _⟩ <;> cases q9) (fun v h1 hY => ?_)
      rcases hY with ⟨x9, h9, q, hv9, rfl⟩ | ⟨h9, q, hv9, rfl⟩ | ⟨h9, q, hv9, rfl⟩
      rotate_left
      · exact (nomatch ((q.2.2 ⟨hc, h4⟩).1))
      · exact (nomatch ((q.2.2 ⟨hc, h4⟩).1))
      cases hv9
      obtain ⟨e9, cs1, I1, J1, F1, V1, rfl, hA1, hf1⟩ := q.2.2 ⟨hc, h4⟩
      have ex9 := Value.long.inj (Option.some.inj (Sum.inl.inj e9))
      subst ex9
      obtain ⟨C1, f1⟩ := wrC_c hC hA1 hf1
      have M1 := wrM_f hM (frM_t f1 (frM_J (v := lI (Wc n (ixN n (yR n (u x1.toNat) (u x2.toNat)))))))
      have hQ1 := wr_Q M1 hP mf
      refine mw_istore dc_La_law_970 (by decide) rfl ?_
      refine mw_aload_n dc_La_law_972 rfl 3 rfl ?_
      refine mw_aload_nS dc_La_law_973 rfl 5 rfl ?_
      refine mw_iload dc_La_law_974 1 rfl ?_
      refine mi_const dc_La_law_976 ?_
      refine mi_iadd dc_La_law_977 ?_
      refine mi_sld dc_La_law_978 rfl ⟨by omega, by omega, by omega⟩ (v := iI x1) (by rw [show ((i : Int) + 1).toNat = i + 1 by omega]; exact e1) ?_
      refine mw_aload_nS dc_La_law_979 rfl 5 rfl ?_
      refine mw_iload dc_La_law_980 1 rfl ?_
      refine mi_const dc_La_law_982 ?_
      refine mi_iadd dc_La_law_983 ?_
      refine mi_sld dc_La_law_984 rfl ⟨by omega, by omega, by omega⟩ (v := iI x2) (by rw [show ((i : Int) + 2).toNat = i + 2 by omega]; exact e2) ?_
      refine mz_V2 (M2 := mt_Mo_ways) dc_La_law_985 ml_La_135 rfl rfl ny_Mo_ways (by decide) (Nat.le_of_ble_eq_true rfl) (ev_moways M1.1 M1.2.1 hP.1 M1.2.2.2.2.2.2.2.2 mm.2.1 (fun k9 hk9 => by have := (mm.2.2.1 k9 hk9).1; omega) hQ1.1 b1 b2) (fun v h1 hY => ?_)
      obtain ⟨hv9, I2, J2, V2, rfl, mP9⟩ := hY.2.2 ⟨hc, h4⟩
      cases hv9
      obtain ⟨M2, f2, t9⟩ := wrM_t M1 mP9
      refine mw_lstore dc_La_law_988 (by decide) rfl ?_
      refine mw_aload_n dc_La_law_990 rfl 4 rfl ?_
      refine mz_V0 (M2 := mt_Mo_thrown) dc_La_law_991 ml_La_80 rfl rfl ny_Mo_thrown (by decide) (Nat.le_of_ble_eq_true rfl) (ev_thrown (t := 0) t9) (fun v h1 hY => ?_)
      obtain ⟨hv9, rfl⟩ := hY
      cases hv9
      refine mw_iload dc_La_law_994 1 rfl ?_
      refine mi_icmp_eq (tgt := 1001) dc_La_law_996 (by decide) (iB_mk (by omega) (by omega)) (iB_mk (by omega) (by omega)) (fun ht9 => ?_) (fun ht9 => ?_)
      · refine mw_iload dc_La_law_1001 1 rfl ?_
        refine mi_if_ne (tgt := 1017) dc_La_law_1003 (by decide) (iB_mk (by omega) (by omega)) (fun hk9 => ?_) (fun hk9 => ?_)
        · exact absurd rfl hk9
        · refine mw_aload_n dc_La_law_1006 rfl 3 rfl ?_
          refine mi_const dc_La_law_1007 ?_
          refine mi_lald dc_La_law_1008 rfl ⟨by decide, by decide, by decide⟩ (v := lI (Wc n (ixN n (yR n (u x1.toNat) (u x2.toNat))))) (by rw [mP9.2.1 58 (by decide)]; exact up58_0 _ _) ?_
          refine mw_lload dc_La_law_1009 0 rfl ?_
          refine mw_lcmp dc_La_law_1011 ?_

          refine mw_if_eq (tgt := 1017) dc_La_law_1012 (by decide) (fun hq9 => ?_) (fun hq9 => ?_)
          · refine mw_goto (tgt := 1168) dc_La_law_1017 (by decide) ?_
            refine mw_pick [2, 3, 4, 5, 6] rfl ?_
            exact hx _ _ _ _ _ _ _ _ _ _ _ _ _ _ hP (wrC_f (wrC_J C1) f2) M2
          · exact absurd (lg_eq (by rw [((mm.2.2.2.2.2 h4).2.2.1 _ (sP_y (hP.2.1 _ (by omega)).1 (hP.2.1 _ (by omega)).1)).2])) hq9
      · exact absurd rfl ht9
    · refine mw_aload_n dc_La_law_953 rfl 3 rfl ?_
      refine mw_aload_nS dc_La_law_954 rfl 4 rfl ?_
      refine mw_iload dc_La_law_955 0 rfl ?_
      refine mi_const dc_La_law_957 ?_
      refine mi_iadd dc_La_law_958 ?_
      refine mi_sld dc_La_law_959 rfl ⟨by omega, by omega, by omega⟩ (v := iI x1) (by rw [show ((i : Int) + 1).toNat = i + 1 by omega]; exact e1) ?_
      refine mw_aload_nS dc_La_law_960 rfl 4 rfl ?_
      refine mw_iload dc_La_law_961 0 rfl ?_
      refine mi_const dc_La_law_963 ?_
      refine mi_iadd dc_La_law_964 ?_
      refine mi_sld dc_La_law_965 rfl ⟨by omega, by omega, by omega⟩ (v := iI x2) (by rw [show ((i : Int) + 2).toNat = i + 2 by omega]; exact e2) ?_
      refine mw_aload_n dc_La_law_966 rfl 1 rfl ?_
      refine mw_le (bc := bc + 6) (bs := bs + 812) (by omega) (by omega) ?_
      refine mw_callSW (M2 := mt_La_ways) (mc := 6) (ms := 812) (as := [.ref 0, .int (iI x1), .int (iI x2), .ref 58]) (st := []) dc_La_law_967 ml_La_133 ny_La_ways (by decide) rfl (Nat.le_of_ble_eq_true rfl) (ev_La_ways (ev_ways hst hC.1 hC.2.1 hP.1 hC.2.2.2.2.2.2.2 (fun h4 x9 hx9 => ⟨((mm.2.2.2.2.2 h4).1 x9 hx9).1, ((mm.2.2.2.2.2 h4).1 x9 hx9).2.1⟩) (fun h4 x9 hx9 => ((mm.2.2.2.2.2 h4).1 x9 hx9).2.2) (fun h4 => (mm.2.2.2.2.2 h4).2.1) hO.1 (fun h4 y9 hy9 => ((mm.2.2.2.2.2 h4).2.2.1 y9 hy9).1) b1 b2) (fun v h9 q => nomatch ((q.2.1 ⟨hc, by omega⟩).1)) (fun j h9 q => Or.inr (Sum.inr.inj ((q.2.1 ⟨hc, by omega⟩).1)))) (fun k9 h9 q9 => by rcases q9 with ⟨_, _, _, q9, _⟩ | ⟨_, _, q9, _⟩ | ⟨_, _, q9, _⟩ <;> cases q9) (fun v h1 hY => ?_)
      rcases hY with ⟨x9, h9, q, hv9, rfl⟩ | ⟨h9, q, hv9, rfl⟩ | ⟨h9, q, hv9, rfl⟩
      · exact (nomatch ((q.2.1 ⟨hc, by omega⟩).1))
      · exact (nomatch ((q.2.1 ⟨hc, by omega⟩).1))
      cases hv9
      obtain ⟨-, rfl⟩ := q.2.1 ⟨hc, by omega⟩
      refine mw_istore dc_La_law_970 (by decide) rfl ?_
      refine mw_aload_n dc_La_law_972 rfl 3 rfl ?_
      refine mw_aload_nS dc_La_law_973 rfl 5 rfl ?_
      refine mw_iload dc_La_law_974 1 rfl ?_
      refine mi_const dc_La_law_976 ?_
      refine mi_iadd dc_La_law_977 ?_
      refine mi_sld dc_La_law_978 rfl ⟨by omega, by omega, by omega⟩ (v := iI x1) (by rw [show ((i : Int) + 1).toNat = i + 1 by omega]; exact e1) ?_
      refine mw_aload_nS dc_La_law_979 rfl 5 rfl ?_
      refine mw_iload dc_La_law_980 1 rfl ?_
      refine mi_const dc_La_law_982 ?_
      refine mi_iadd dc_La_law_983 ?_
      refine mi_sld dc_La_law_984 rfl ⟨by omega, by omega, by omega⟩ (v := iI x2) (by rw [show ((i : Int) + 2).toNat = i + 2 by omega]; exact e2) ?_
      refine mz_V2 (M2 := mt_Mo_ways) dc_La_law_985 ml_La_135 rfl rfl ny_Mo_ways (by decide) (Nat.le_of_ble_eq_true rfl) (ev_moways hM.1 hM.2.1 hP.1 hM.2.2.2.2.2.2.2.2 mm.2.1 (fun k9 hk9 => by have := (mm.2.2.1 k9 hk9).1; omega) hQ.1 b1 b2) (fun v h1 hY => ?_)
      obtain ⟨hv9, rfl⟩ := hY.2.1 ⟨hc, by omega⟩
      cases hv9
      obtain ⟨M2, f2⟩ := wrM_x hM (.int (iI 2))
      refine mw_lstore dc_La_law_988 (by decide) rfl ?_
      refine mw_aload_n dc_La_law_990 rfl 4 rfl ?_
      refine mz_V0 (M2 := mt_Mo_thrown) dc_La_law_991 ml_La_80 rfl rfl ny_Mo_thrown (by decide) (Nat.le_of_ble_eq_true rfl) (ev_thrown (t := 2) (fu_at _ 39 0 _)) (fun v h1 hY => ?_)
      obtain ⟨hv9, rfl⟩ := hY
      cases hv9
      refine mw_iload dc_La_law_994 1 rfl ?_
      refine mi_icmp_eq (tgt := 1001) dc_La_law_996 (by decide) (iB_mk (by omega) (by omega)) (iB_mk (by omega) (by omega)) (fun ht9 => ?_) (fun ht9 => ?_)
      · refine mw_iload dc_La_law_1001 1 rfl ?_
        refine mi_if_ne (tgt := 1017) dc_La_law_1003 (by decide) (iB_mk (by omega) (by omega)) (fun hk9 => ?_) (fun hk9 => ?_)
        · refine mw_goto (tgt := 1168) dc_La_law_1017 (by decide) ?_
          refine mw_pick [2, 3, 4, 5, 6] rfl ?_
          exact hx _ _ _ _ _ _ _ _ _ _ _ _ _ _ hP (wrC_f hC f2) M2
        · exact absurd hk9 (by decide)
      · exact absurd rfl ht9
  · refine mw_aload_n dc_La_law_953 rfl 3 rfl ?_
    refine mw_aload_nS dc_La_law_954 rfl 4 rfl ?_
    refine mw_iload dc_La_law_955 0 rfl ?_
    refine mi_const dc_La_law_957 ?_
    refine mi_iadd dc_La_law_958 ?_
    refine mi_sld dc_La_law_959 rfl ⟨by omega, by omega, by omega⟩ (v := iI x1) (by rw [show ((i : Int) + 1).toNat = i + 1 by omega]; exact e1) ?_
    refine mw_aload_nS dc_La_law_960 rfl 4 rfl ?_
    refine mw_iload dc_La_law_961 0 rfl ?_
    refine mi_const dc_La_law_963 ?_
    refine mi_iadd dc_La_law_964 ?_
    refine mi_sld dc_La_law_965 rfl ⟨by omega, by omega, by omega⟩ (v := iI x2) (by rw [show ((i : Int) + 2).toNat = i + 2 by omega]; exact e2) ?_
    refine mw_aload_n dc_La_law_966 rfl 1 rfl ?_
    refine mw_le (bc := bc + 6) (bs := bs + 812) (by omega) (by omega) ?_
    refine mw_callSW (M2 := mt_La_ways) (mc := 6) (ms := 812) (as := [.ref 0, .int (iI x1), .int (iI x2), .ref 58]) (st := []) dc_La_law_967 ml_La_133 ny_La_ways (by decide) rfl (Nat.le_of_ble_eq_true rfl) (ev_La_ways (ev_ways hst hC.1 hC.2.1 hP.1 hC.2.2.2.2.2.2.2 (fun h4 x9 hx9 => ⟨((mm.2.2.2.2.2 h4).1 x9 hx9).1, ((mm.2.2.2.2.2 h4).1 x9 hx9).2.1⟩) (fun h4 x9 hx9 => ((mm.2.2.2.2.2 h4).1 x9 hx9).2.2) (fun h4 => (mm.2.2.2.2.2 h4).2.1) hO.1 (fun h4 y9 hy9 => ((mm.2.2.2.2.2 h4).2.2.1 y9 hy9).1) b1 b2) (fun v h9 q => nomatch ((q.1 hc).1)) (fun j h9 q => Or.inl (Sum.inr.inj ((q.1 hc).1)))) (fun k9 h9 q9 => by rcases q9 with ⟨_, _, _, q9, _⟩ | ⟨_, _, q9, _⟩ | ⟨_, _, q9, _⟩ <;> cases q9) (fun v h1 hY => ?_)
    rcases hY with ⟨x9, h9, q, hv9, rfl⟩ | ⟨h9, q, hv9, rfl⟩ | ⟨h9, q, hv9, rfl⟩
    · exact (nomatch ((q.1 hc).1))
    rotate_left
    · exact (nomatch ((q.1 hc).1))
    cases hv9
    obtain ⟨-, rfl⟩ := q.1 hc
    refine mw_istore dc_La_law_970 (by decide) rfl ?_
    refine mw_aload_n dc_La_law_972 rfl 3 rfl ?_
    refine mw_aload_nS dc_La_law_973 rfl 5 rfl ?_
    refine mw_iload dc_La_law_974 1 rfl ?_
    refine mi_const dc_La_law_976 ?_
    refine mi_iadd dc_La_law_977 ?_
    refine mi_sld dc_La_law_978 rfl ⟨by omega, by omega, by omega⟩ (v := iI x1) (by rw [show ((i : Int) + 1).toNat = i + 1 by omega]; exact e1) ?_
    refine mw_aload_nS dc_La_law_979 rfl 5 rfl ?_
    refine mw_iload dc_La_law_980 1 rfl ?_
    refine mi_const dc_La_law_982 ?_
    refine mi_iadd dc_La_law_983 ?_
    refine mi_sld dc_La_law_984 rfl ⟨by omega, by omega, by omega⟩ (v := iI x2) (by rw [show ((i : Int) + 2).toNat = i + 2 by omega]; exact e2) ?_
    refine mz_V2 (M2 := mt_Mo_ways) dc_La_law_985 ml_La_135 rfl rfl ny_Mo_ways (by decide) (Nat.le_of_ble_eq_true rfl) (ev_moways hM.1 hM.2.1 hP.1 hM.2.2.2.2.2.2.2.2 mm.2.1 (fun k9 hk9 => by have := (mm.2.2.1 k9 hk9).1; omega) hQ.1 b1 b2) (fun v h1 hY => ?_)
    obtain ⟨hv9, rfl⟩ := hY.1 hc
    cases hv9
    obtain ⟨M2, f2⟩ := wrM_x hM (.int (iI 1))
    refine mw_lstore dc_La_law_988 (by decide) rfl ?_
    refine mw_aload_n dc_La_law_990 rfl 4 rfl ?_
    refine mz_V0 (M2 := mt_Mo_thrown) dc_La_law_991 ml_La_80 rfl rfl ny_Mo_thrown (by decide) (Nat.le_of_ble_eq_true rfl) (ev_thrown (t := 1) (fu_at _ 39 0 _)) (fun v h1 hY => ?_)
    obtain ⟨hv9, rfl⟩ := hY
    cases hv9
    refine mw_iload dc_La_law_994 1 rfl ?_
    refine mi_icmp_eq (tgt := 1001) dc_La_law_996 (by decide) (iB_mk (by omega) (by omega)) (iB_mk (by omega) (by omega)) (fun ht9 => ?_) (fun ht9 => ?_)
    · refine mw_iload dc_La_law_1001 1 rfl ?_
      refine mi_if_ne (tgt := 1017) dc_La_law_1003 (by decide) (iB_mk (by omega) (by omega)) (fun hk9 => ?_) (fun hk9 => ?_)
      · refine mw_goto (tgt := 1168) dc_La_law_1017 (by decide) ?_
        refine mw_pick [2, 3, 4, 5, 6] rfl ?_
        exact hx _ _ _ _ _ _ _ _ _ _ _ _ _ _ hP (wrC_f hC f2) M2
      · exact absurd hk9 (by decide)
    · exact absurd rfl ht9
theorem lw_circle {G : mm_G} {d bc bs : Nat} {X : mm_X} {n : Nat} {u : Nat → Nat → Int} {k : Nat → Nat} {a b : Nat → Nat → Nat} {l : Nat} {cc : Nat → Int} {c : Int} {st : Nat → Int} {cs : mm_Sh} {I : Nat → Nat → Int32} {J : Nat → Nat → Int64} {F : Nat → Nat → Option Nat} {V : Nat → Nat → Value} {i : Nat} {x1 x2 x3 : Int} (hst : G.1.stackTraces = false) (mf : MF) (hL : i + 4 ≤ G.2.2.2.2.1 ∧ G.2.2.2.2.1 ≤ 2048) (e1 : G.2.2.2.2.2 (i + 1) = iI x1) (e2 : G.2.2.2.2.2 (i + 2) = iI x2) (e3 : G.2.2.2.2.2 (i + 3) = iI x3) (b1 : iB x1) (b2 : iB x2) (b3 : iB x3) (hP : wrP n u k a b l cc c) (hC : wrC n u k a b l cc c st cs I J F V) (hM : wrM n u k a b l cc c st I J V)
    (hx : ∀ n u k a b l cc c st cs I J F V, wrP n u k a b l cc c → wrC n u k a b l cc c st cs I J F V → wrM n u k a b l cc c st I J V → mW G mt_law (d + 40) bc bs 1168 [(4, .int (iI (i : Nat))), (3, .ref 58), (2, .ref 39), (1, .ref 0), (0, .retAddr G.2.2.2.1)] [] (wd_S ++ cs, I, J, F, V) X) : mW G mt_law (d + 40) (bc + 8) (bs + 820) 1020 [(4, .int (iI (i : Nat))), (3, .ref 58), (2, .ref 39), (1, .ref 0), (0, .retAddr G.2.2.2.1)] [] (wd_S ++ cs, I, J, F, V) X := by
  have hO := wr_O hC hP
  have hQ := wr_Q hM hP mf
  have mm := mf n hP.1.1 hP.1.2
  by_cases hc : okS x1
  · by_cases h4 : n ≤ 4
    · refine mw_aload_n dc_La_law_1020 rfl 3 rfl ?_
      refine mw_aload_nS dc_La_law_1021 rfl 4 rfl ?_
      refine mw_iload dc_La_law_1022 0 rfl ?_
      refine mi_const dc_La_law_1024 ?_
      refine mi_iadd dc_La_law_1025 ?_
      refine mi_sld dc_La_law_1026 rfl ⟨by omega, by omega, by omega⟩ (v := iI x1) (by rw [show ((i : Int) + 1).toNat = i + 1 by omega]; exact e1) ?_
      refine mw_aload_nS dc_La_law_1027 rfl 4 rfl ?_
      refine mw_iload dc_La_law_1028 0 rfl ?_
      refine mi_const dc_La_law_1030 ?_
      refine mi_iadd dc_La_law_1031 ?_
      refine mi_sld dc_La_law_1032 rfl ⟨by omega, by omega, by omega⟩ (v := iI x2) (by rw [show ((i : Int) + 2).toNat = i + 2 by omega]; exact e2) ?_
      refine mw_aload_n dc_La_law_1033 rfl 1 rfl ?_
      refine mw_le (bc := bc + 5) (bs := bs + 806) (by omega) (by omega) ?_
      refine mw_callSW (M2 := mt_La_circle) (mc := 5) (ms := 806) (as := [.ref 0, .int (iI x1), .int (iI x2), .ref 58]) (st := []) dc_La_law_1034 ml_La_136 ny_La_circle (by decide) rfl (Nat.le_of_ble_eq_true rfl) (ev_La_circle (ev_circle hst hC.1 hC.2.1 hP.1 hC.2.2.2.2.2.2.2 (fun h4 x9 hx9 => ⟨((mm.2.2.2.2.2 h4).1 x9 hx9).1, ((mm.2.2.2.2.2 h4).1 x9 hx9).2.1⟩) (fun h4 x9 hx9 => ((mm.2.2.2.2.2 h4).1 x9 hx9).2.2) b1 b2) (fun v h9 q => by obtain ⟨e9, cs1, I1, J1, F1, V1, rfl, hA1, hf1⟩ := q.2.2 ⟨hc, h4⟩; exact ⟨_, cs1, I1, J1, F1, V1, Sum.inl.inj e9, rfl⟩) (fun j h9 q => nomatch (q.2.2 ⟨hc, h4⟩).1)) (fun k9 h9 q9 => by rcases q9 with ⟨_, _, _, q9, _⟩ | ⟨_, _, q9, _⟩ | ⟨_, _, q9, _⟩ <;> cases q9) (fun v h1 hY => ?_)
      rcases hY with ⟨x9, h9, q, hv9, rfl⟩ | ⟨h9, q, hv9, rfl⟩ | ⟨h9, q, hv9, rfl⟩
      rotate_left
      · exact (nomatch ((q.2.2 ⟨hc, h4⟩).1))
      · exact (nomatch ((q.2.2 ⟨hc, h4⟩).1))
      cases hv9
      obtain ⟨e9, cs1, I1, J1, F1, V1, rfl, hA1, hf1⟩ := q.2.2 ⟨hc, h4⟩
      have ex9 := Value.int.inj (Option.some.inj (Sum.inl.inj e9))
      subst ex9
      obtain ⟨C1, f1⟩ := wrC_c hC hA1 hf1
      have M1 := wrM_f hM (frM_t f1 (frM_J (v := (iI (ct (fun j => ((Dc n j : Nat) : Int) == x2) (oc_f n) : Nat)).toInt64)))
      have hQ1 := wr_Q M1 hP mf
      refine mw_istore dc_La_law_1037 (by decide) rfl ?_
      refine mw_aload_n dc_La_law_1039 rfl 3 rfl ?_
      refine mw_aload_nS dc_La_law_1040 rfl 5 rfl ?_
      refine mw_iload dc_La_law_1041 1 rfl ?_
      refine mi_const dc_La_law_1043 ?_
      refine mi_iadd dc_La_law_1044 ?_
      refine mi_sld dc_La_law_1045 rfl ⟨by omega, by omega, by omega⟩ (v := iI x1) (by rw [show ((i : Int) + 1).toNat = i + 1 by omega]; exact e1) ?_
      refine mw_aload_nS dc_La_law_1046 rfl 5 rfl ?_
      refine mw_iload dc_La_law_1047 1 rfl ?_
      refine mi_const dc_La_law_1049 ?_
      refine mi_iadd dc_La_law_1050 ?_
      refine mi_sld dc_La_law_1051 rfl ⟨by omega, by omega, by omega⟩ (v := iI x2) (by rw [show ((i : Int) + 2).toNat = i + 2 by omega]; exact e2) ?_
      refine mz_V2 (M2 := mt_Mo_circle) dc_La_law_1052 ml_La_138 rfl rfl ny_Mo_circle (by decide) (Nat.le_of_ble_eq_true rfl) (ev_mocircle M1.1 M1.2.1 hP.1 M1.2.2.2.2.2.2.2.2 mm.2.1 (fun k9 hk9 => by have := (mm.2.2.1 k9 hk9).1; omega) b1 b2) (fun v h1 hY => ?_)
      obtain ⟨hv9, I2, J2, V2, rfl, mP9⟩ := hY.2.2 ⟨hc, h4⟩
      cases hv9
      obtain ⟨M2, f2, t9⟩ := wrM_t M1 mP9
      refine mw_istore dc_La_law_1055 (by decide) rfl ?_
      refine mw_aload_n dc_La_law_1057 rfl 4 rfl ?_
      refine mz_V0 (M2 := mt_Mo_thrown) dc_La_law_1058 ml_La_80 rfl rfl ny_Mo_thrown (by decide) (Nat.le_of_ble_eq_true rfl) (ev_thrown (t := 0) t9) (fun v h1 hY => ?_)
      obtain ⟨hv9, rfl⟩ := hY
      cases hv9
      refine mw_iload dc_La_law_1061 1 rfl ?_
      refine mi_icmp_eq (tgt := 1068) dc_La_law_1063 (by decide) (iB_mk (by omega) (by omega)) (iB_mk (by omega) (by omega)) (fun ht9 => ?_) (fun ht9 => ?_)
      · refine mw_iload dc_La_law_1068 1 rfl ?_
        refine mi_if_ne (tgt := 1085) dc_La_law_1070 (by decide) (iB_mk (by omega) (by omega)) (fun hk9 => ?_) (fun hk9 => ?_)
        · exact absurd rfl hk9
        · refine mw_aload_n dc_La_law_1073 rfl 3 rfl ?_
          refine mi_const dc_La_law_1074 ?_
          refine mi_lald dc_La_law_1075 rfl ⟨by decide, by decide, by decide⟩ (v := (iI (ct (fun j => ((Dc n j : Nat) : Int) == x2) (oc_f n) : Nat)).toInt64) (by rw [mP9.2.1 58 (by decide)]; exact up58_0 _ _) ?_
          refine mw_iload dc_La_law_1076 0 rfl ?_
          refine mw_i2l dc_La_law_1078 ?_
          refine mw_lcmp dc_La_law_1079 ?_

          refine mw_if_eq (tgt := 1085) dc_La_law_1080 (by decide) (fun hq9 => ?_) (fun hq9 => ?_)
          · refine mw_goto (tgt := 1168) dc_La_law_1085 (by decide) ?_
            refine mw_pick [2, 3, 4, 5, 6] rfl ?_
            exact hx _ _ _ _ _ _ _ _ _ _ _ _ _ _ hP (wrC_f (wrC_J C1) f2) M2
          · exact absurd (lg_eq (by rw [(mm.2.2.2.2.2 h4).2.2.2.1 x2])) hq9
      · exact absurd rfl ht9
    · refine mw_aload_n dc_La_law_1020 rfl 3 rfl ?_
      refine mw_aload_nS dc_La_law_1021 rfl 4 rfl ?_
      refine mw_iload dc_La_law_1022 0 rfl ?_
      refine mi_const dc_La_law_1024 ?_
      refine mi_iadd dc_La_law_1025 ?_
      refine mi_sld dc_La_law_1026 rfl ⟨by omega, by omega, by omega⟩ (v := iI x1) (by rw [show ((i : Int) + 1).toNat = i + 1 by omega]; exact e1) ?_
      refine mw_aload_nS dc_La_law_1027 rfl 4 rfl ?_
      refine mw_iload dc_La_law_1028 0 rfl ?_
      refine mi_const dc_La_law_1030 ?_
      refine mi_iadd dc_La_law_1031 ?_
      refine mi_sld dc_La_law_1032 rfl ⟨by omega, by omega, by omega⟩ (v := iI x2) (by rw [show ((i : Int) + 2).toNat = i + 2 by omega]; exact e2) ?_
      refine mw_aload_n dc_La_law_1033 rfl 1 rfl ?_
      refine mw_le (bc := bc + 5) (bs := bs + 806) (by omega) (by omega) ?_
      refine mw_callSW (M2 := mt_La_circle) (mc := 5) (ms := 806) (as := [.ref 0, .int (iI x1), .int (iI x2), .ref 58]) (st := []) dc_La_law_1034 ml_La_136 ny_La_circle (by decide) rfl (Nat.le_of_ble_eq_true rfl) (ev_La_circle (ev_circle hst hC.1 hC.2.1 hP.1 hC.2.2.2.2.2.2.2 (fun h4 x9 hx9 => ⟨((mm.2.2.2.2.2 h4).1 x9 hx9).1, ((mm.2.2.2.2.2 h4).1 x9 hx9).2.1⟩) (fun h4 x9 hx9 => ((mm.2.2.2.2.2 h4).1 x9 hx9).2.2) b1 b2) (fun v h9 q => nomatch ((q.2.1 ⟨hc, by omega⟩).1)) (fun j h9 q => Or.inr (Sum.inr.inj ((q.2.1 ⟨hc, by omega⟩).1)))) (fun k9 h9 q9 => by rcases q9 with ⟨_, _, _, q9, _⟩ | ⟨_, _, q9, _⟩ | ⟨_, _, q9, _⟩ <;> cases q9) (fun v h1 hY => ?_)
      rcases hY with ⟨x9, h9, q, hv9, rfl⟩ | ⟨h9, q, hv9, rfl⟩ | ⟨h9, q, hv9, rfl⟩
      · exact (nomatch ((q.2.1 ⟨hc, by omega⟩).1))
      · exact (nomatch ((q.2.1 ⟨hc, by omega⟩).1))
      cases hv9
      obtain ⟨-, rfl⟩ := q.2.1 ⟨hc, by omega⟩
      refine mw_istore dc_La_law_1037 (by decide) rfl ?_
      refine mw_aload_n dc_La_law_1039 rfl 3 rfl ?_
      refine mw_aload_nS dc_La_law_1040 rfl 5 rfl ?_
      refine mw_iload dc_La_law_1041 1 rfl ?_
      refine mi_const dc_La_law_1043 ?_
      refine mi_iadd dc_La_law_1044 ?_
      refine mi_sld dc_La_law_1045 rfl ⟨by omega, by omega, by omega⟩ (v := iI x1) (by rw [show ((i : Int) + 1).toNat = i + 1 by omega]; exact e1) ?_
      refine mw_aload_nS dc_La_law_1046 rfl 5 rfl ?_
      refine mw_iload dc_La_law_1047 1 rfl ?_
      refine mi_const dc_La_law_1049 ?_
      refine mi_iadd dc_La_law_1050 ?_
      refine mi_sld dc_La_law_1051 rfl ⟨by omega, by omega, by omega⟩ (v := iI x2) (by rw [show ((i : Int) + 2).toNat = i + 2 by omega]; exact e2) ?_
      refine mz_V2 (M2 := mt_Mo_circle) dc_La_law_1052 ml_La_138 rfl rfl ny_Mo_circle (by decide) (Nat.le_of_ble_eq_true rfl) (ev_mocircle hM.1 hM.2.1 hP.1 hM.2.2.2.2.2.2.2.2 mm.2.1 (fun k9 hk9 => by have := (mm.2.2.1 k9 hk9).1; omega) b1 b2) (fun v h1 hY => ?_)
      obtain ⟨hv9, rfl⟩ := hY.2.1 ⟨hc, by omega⟩
      cases hv9
      obtain ⟨M2, f2⟩ := wrM_x hM (.int (iI 2))
      refine mw_istore dc_La_law_1055 (by decide) rfl ?_
      refine mw_aload_n dc_La_law_1057 rfl 4 rfl ?_
      refine mz_V0 (M2 := mt_Mo_thrown) dc_La_law_1058 ml_La_80 rfl rfl ny_Mo_thrown (by decide) (Nat.le_of_ble_eq_true rfl) (ev_thrown (t := 2) (fu_at _ 39 0 _)) (fun v h1 hY => ?_)
      obtain ⟨hv9, rfl⟩ := hY
      cases hv9
      refine mw_iload dc_La_law_1061 1 rfl ?_
      refine mi_icmp_eq (tgt := 1068) dc_La_law_1063 (by decide) (iB_mk (by omega) (by omega)) (iB_mk (by omega) (by omega)) (fun ht9 => ?_) (fun ht9 => ?_)
      · refine mw_iload dc_La_law_1068 1 rfl ?_
        refine mi_if_ne (tgt := 1085) dc_La_law_1070 (by decide) (iB_mk (by omega) (by omega)) (fun hk9 => ?_) (fun hk9 => ?_)
        · refine mw_goto (tgt := 1168) dc_La_law_1085 (by decide) ?_
          refine mw_pick [2, 3, 4, 5, 6] rfl ?_
          exact hx _ _ _ _ _ _ _ _ _ _ _ _ _ _ hP (wrC_f hC f2) M2
        · exact absurd hk9 (by decide)
      · exact absurd rfl ht9
  · refine mw_aload_n dc_La_law_1020 rfl 3 rfl ?_
    refine mw_aload_nS dc_La_law_1021 rfl 4 rfl ?_
    refine mw_iload dc_La_law_1022 0 rfl ?_
    refine mi_const dc_La_law_1024 ?_
    refine mi_iadd dc_La_law_1025 ?_
    refine mi_sld dc_La_law_1026 rfl ⟨by omega, by omega, by omega⟩ (v := iI x1) (by rw [show ((i : Int) + 1).toNat = i + 1 by omega]; exact e1) ?_
    refine mw_aload_nS dc_La_law_1027 rfl 4 rfl ?_
    refine mw_iload dc_La_law_1028 0 rfl ?_
    refine mi_const dc_La_law_1030 ?_
    refine mi_iadd dc_La_law_1031 ?_
    refine mi_sld dc_La_law_1032 rfl ⟨by omega, by omega, by omega⟩ (v := iI x2) (by rw [show ((i : Int) + 2).toNat = i + 2 by omega]; exact e2) ?_
    refine mw_aload_n dc_La_law_1033 rfl 1 rfl ?_
    refine mw_le (bc := bc + 5) (bs := bs + 806) (by omega) (by omega) ?_
    refine mw_callSW (M2 := mt_La_circle) (mc := 5) (ms := 806) (as := [.ref 0, .int (iI x1), .int (iI x2), .ref 58]) (st := []) dc_La_law_1034 ml_La_136 ny_La_circle (by decide) rfl (Nat.le_of_ble_eq_true rfl) (ev_La_circle (ev_circle hst hC.1 hC.2.1 hP.1 hC.2.2.2.2.2.2.2 (fun h4 x9 hx9 => ⟨((mm.2.2.2.2.2 h4).1 x9 hx9).1, ((mm.2.2.2.2.2 h4).1 x9 hx9).2.1⟩) (fun h4 x9 hx9 => ((mm.2.2.2.2.2 h4).1 x9 hx9).2.2) b1 b2) (fun v h9 q => nomatch ((q.1 hc).1)) (fun j h9 q => Or.inl (Sum.inr.inj ((q.1 hc).1)))) (fun k9 h9 q9 => by rcases q9 with ⟨_, _, _, q9, _⟩ | ⟨_, _, q9, _⟩ | ⟨_, _, q9, _⟩ <;> cases q9) (fun v h1 hY => ?_)
    rcases hY with ⟨x9, h9, q, hv9, rfl⟩ | ⟨h9, q, hv9, rfl⟩ | ⟨h9, q, hv9, rfl⟩
    · exact (nomatch ((q.1 hc).1))
    rotate_left
    · exact (nomatch ((q.1 hc).1))
    cases hv9
    obtain ⟨-, rfl⟩ := q.1 hc
    refine mw_istore dc_La_law_1037 (by decide) rfl ?_
    refine mw_aload_n dc_La_law_1039 rfl 3 rfl ?_
    refine mw_aload_nS dc_La_law_1040 rfl 5 rfl ?_
    refine mw_iload dc_La_law_1041 1 rfl ?_
    refine mi_const dc_La_law_1043 ?_
    refine mi_iadd dc_La_law_1044 ?_
    refine mi_sld dc_La_law_1045 rfl ⟨by omega, by omega, by omega⟩ (v := iI x1) (by rw [show ((i : Int) + 1).toNat = i + 1 by omega]; exact e1) ?_
    refine mw_aload_nS dc_La_law_1046 rfl 5 rfl ?_
    refine mw_iload dc_La_law_1047 1 rfl ?_
    refine mi_const dc_La_law_1049 ?_
    refine mi_iadd dc_La_law_1050 ?_
    refine mi_sld dc_La_law_1051 rfl ⟨by omega, by omega, by omega⟩ (v := iI x2) (by rw [show ((i : Int) + 2).toNat = i + 2 by omega]; exact e2) ?_
    refine mz_V2 (M2 := mt_Mo_circle) dc_La_law_1052 ml_La_138 rfl rfl ny_Mo_circle (by decide) (Nat.le_of_ble_eq_true rfl) (ev_mocircle hM.1 hM.2.1 hP.1 hM.2.2.2.2.2.2.2.2 mm.2.1 (fun k9 hk9 => by have := (mm.2.2.1 k9 hk9).1; omega) b1 b2) (fun v h1 hY => ?_)
    obtain ⟨hv9, rfl⟩ := hY.1 hc
    cases hv9
    obtain ⟨M2, f2⟩ := wrM_x hM (.int (iI 1))
    refine mw_istore dc_La_law_1055 (by decide) rfl ?_
    refine mw_aload_n dc_La_law_1057 rfl 4 rfl ?_
    refine mz_V0 (M2 := mt_Mo_thrown) dc_La_law_1058 ml_La_80 rfl rfl ny_Mo_thrown (by decide) (Nat.le_of_ble_eq_true rfl) (ev_thrown (t := 1) (fu_at _ 39 0 _)) (fun v h1 hY => ?_)
    obtain ⟨hv9, rfl⟩ := hY
    cases hv9
    refine mw_iload dc_La_law_1061 1 rfl ?_
    refine mi_icmp_eq (tgt := 1068) dc_La_law_1063 (by decide) (iB_mk (by omega) (by omega)) (iB_mk (by omega) (by omega)) (fun ht9 => ?_) (fun ht9 => ?_)
    · refine mw_iload dc_La_law_1068 1 rfl ?_
      refine mi_if_ne (tgt := 1085) dc_La_law_1070 (by decide) (iB_mk (by omega) (by omega)) (fun hk9 => ?_) (fun hk9 => ?_)
      · refine mw_goto (tgt := 1168) dc_La_law_1085 (by decide) ?_
        refine mw_pick [2, 3, 4, 5, 6] rfl ?_
        exact hx _ _ _ _ _ _ _ _ _ _ _ _ _ _ hP (wrC_f hC f2) M2
      · exact absurd hk9 (by decide)
    · exact absurd rfl ht9
theorem lw_median {G : mm_G} {d bc bs : Nat} {X : mm_X} {n : Nat} {u : Nat → Nat → Int} {k : Nat → Nat} {a b : Nat → Nat → Nat} {l : Nat} {cc : Nat → Int} {c : Int} {st : Nat → Int} {cs : mm_Sh} {I : Nat → Nat → Int32} {J : Nat → Nat → Int64} {F : Nat → Nat → Option Nat} {V : Nat → Nat → Value} {i : Nat} {x1 x2 x3 : Int} (hst : G.1.stackTraces = false) (mf : MF) (hL : i + 4 ≤ G.2.2.2.2.1 ∧ G.2.2.2.2.1 ≤ 2048) (e1 : G.2.2.2.2.2 (i + 1) = iI x1) (e2 : G.2.2.2.2.2 (i + 2) = iI x2) (e3 : G.2.2.2.2.2 (i + 3) = iI x3) (b1 : iB x1) (b2 : iB x2) (b3 : iB x3) (hP : wrP n u k a b l cc c) (hC : wrC n u k a b l cc c st cs I J F V) (hM : wrM n u k a b l cc c st I J V)
    (hx : ∀ n u k a b l cc c st cs I J F V, wrP n u k a b l cc c → wrC n u k a b l cc c st cs I J F V → wrM n u k a b l cc c st I J V → mW G mt_law (d + 40) bc bs 1168 [(4, .int (iI (i : Nat))), (3, .ref 58), (2, .ref 39), (1, .ref 0), (0, .retAddr G.2.2.2.1)] [] (wd_S ++ cs, I, J, F, V) X) : mW G mt_law (d + 40) (bc + 8) (bs + 820) 1088 [(4, .int (iI (i : Nat))), (3, .ref 58), (2, .ref 39), (1, .ref 0), (0, .retAddr G.2.2.2.1)] [] (wd_S ++ cs, I, J, F, V) X := by
  have hO := wr_O hC hP
  have hQ := wr_Q hM hP mf
  have mm := mf n hP.1.1 hP.1.2
  by_cases hc : okS x1 ∧ okS x2 ∧ okS x3
  · by_cases h4 : n ≤ 4
    · refine mw_aload_n dc_La_law_1088 rfl 3 rfl ?_
      refine mw_aload_nS dc_La_law_1089 rfl 4 rfl ?_
      refine mw_iload dc_La_law_1090 0 rfl ?_
      refine mi_const dc_La_law_1092 ?_
      refine mi_iadd dc_La_law_1093 ?_
      refine mi_sld dc_La_law_1094 rfl ⟨by omega, by omega, by omega⟩ (v := iI x1) (by rw [show ((i : Int) + 1).toNat = i + 1 by omega]; exact e1) ?_
      refine mw_aload_nS dc_La_law_1095 rfl 4 rfl ?_
      refine mw_iload dc_La_law_1096 0 rfl ?_
      refine mi_const dc_La_law_1098 ?_
      refine mi_iadd dc_La_law_1099 ?_
      refine mi_sld dc_La_law_1100 rfl ⟨by omega, by omega, by omega⟩ (v := iI x2) (by rw [show ((i : Int) + 2).toNat = i + 2 by omega]; exact e2) ?_
      refine mw_aload_nS dc_La_law_1101 rfl 4 rfl ?_
      refine mw_iload dc_La_law_1102 0 rfl ?_
      refine mi_const dc_La_law_1104 ?_
      refine mi_iadd dc_La_law_1105 ?_
      refine mi_sld dc_La_law_1106 rfl ⟨by omega, by omega, by omega⟩ (v := iI x3) (by rw [show ((i : Int) + 3).toNat = i + 3 by omega]; exact e3) ?_
      refine mw_aload_n dc_La_law_1107 rfl 1 rfl ?_
      refine mw_le (bc := bc + 7) (bs := bs + 818) (by omega) (by omega) ?_
      refine mw_callSW (M2 := mt_La_median) (mc := 7) (ms := 818) (as := [.ref 0, .int (iI x1), .int (iI x2), .int (iI x3), .ref 58]) (st := []) dc_La_law_1108 ml_La_139 ny_La_median (by decide) rfl (Nat.le_of_ble_eq_true rfl) (ev_La_median (ev_median hst hC.1 hC.2.1 hP.1 hC.2.2.2.2.2.2.2 (fun h4 x9 hx9 => ⟨((mm.2.2.2.2.2 h4).1 x9 hx9).1, ((mm.2.2.2.2.2 h4).1 x9 hx9).2.1⟩) (fun h4 x9 hx9 => ((mm.2.2.2.2.2 h4).1 x9 hx9).2.2) hO.1 (fun h4 y9 hy9 => ((mm.2.2.2.2.2 h4).2.2.1 y9 hy9).1) b1 b2 b3) (fun v h9 q => by obtain ⟨e9, cs1, I1, J1, F1, V1, rfl, hA1, g1, g2, g3, g4, g5, g6⟩ := q.2.2 ⟨hc, h4⟩; exact ⟨_, cs1, I1, J1, F1, V1, Sum.inl.inj e9, rfl⟩) (fun j h9 q => nomatch (q.2.2 ⟨hc, h4⟩).1)) (fun k9 h9 q9 => by rcases q9 with ⟨_, _, _, q9, _⟩ | ⟨_, _, q9, _⟩ | ⟨_, _, q9, _⟩ <;> cases q9) (fun v h1 hY => ?_)
      rcases hY with ⟨x9, h9, q, hv9, rfl⟩ | ⟨h9, q, hv9, rfl⟩ | ⟨h9, q, hv9, rfl⟩
      rotate_left
      · exact (nomatch ((q.2.2 ⟨hc, h4⟩).1))
      · exact (nomatch ((q.2.2 ⟨hc, h4⟩).1))
      cases hv9
      obtain ⟨e9, cs1, I1, J1, F1, V1, rfl, hA1, g1, g2, g3, g4, g5, g6⟩ := q.2.2 ⟨hc, h4⟩
      have ex9 := Value.int.inj (Option.some.inj (Sum.inl.inj e9))
      subst ex9
      obtain ⟨C1, f1⟩ := C_med hC hA1 g1 g2 g3 g4 g5 g6
      obtain ⟨ev8, ev7⟩ := (mm.2.2.2.2.2 h4).2.2.2.2 u x1.toNat x2.toNat x3.toNat (fun s9 hs9 => (hP.2.1 s9 hs9).1) (by omega) (by omega) (by omega)
      have M1 := wrM_f hM (frM_t f1 (frM_J (v := (iI (mcl (smc n Dc u x1.toNat x2.toNat x3.toNat) (oc_f n)).1).toInt64)))
      have hQ1 := wr_Q M1 hP mf
      refine mw_istore dc_La_law_1111 (by decide) rfl ?_
      refine mw_aload_n dc_La_law_1113 rfl 3 rfl ?_
      refine mw_aload_nS dc_La_law_1114 rfl 5 rfl ?_
      refine mw_iload dc_La_law_1115 1 rfl ?_
      refine mi_const dc_La_law_1117 ?_
      refine mi_iadd dc_La_law_1118 ?_
      refine mi_sld dc_La_law_1119 rfl ⟨by omega, by omega, by omega⟩ (v := iI x1) (by rw [show ((i : Int) + 1).toNat = i + 1 by omega]; exact e1) ?_
      refine mw_aload_nS dc_La_law_1120 rfl 5 rfl ?_
      refine mw_iload dc_La_law_1121 1 rfl ?_
      refine mi_const dc_La_law_1123 ?_
      refine mi_iadd dc_La_law_1124 ?_
      refine mi_sld dc_La_law_1125 rfl ⟨by omega, by omega, by omega⟩ (v := iI x2) (by rw [show ((i : Int) + 2).toNat = i + 2 by omega]; exact e2) ?_
      refine mw_aload_nS dc_La_law_1126 rfl 5 rfl ?_
      refine mw_iload dc_La_law_1127 1 rfl ?_
      refine mi_const dc_La_law_1129 ?_
      refine mi_iadd dc_La_law_1130 ?_
      refine mi_sld dc_La_law_1131 rfl ⟨by omega, by omega, by omega⟩ (v := iI x3) (by rw [show ((i : Int) + 3).toNat = i + 3 by omega]; exact e3) ?_
      refine mz_V3 (M2 := mt_Mo_median) dc_La_law_1132 ml_La_141 rfl rfl ny_Mo_median (by decide) (Nat.le_of_ble_eq_true rfl) (ev_momedian (yy := fun k9 s9 => yR n (ur n k9) (u s9)) M1.1 M1.2.1 hP.1 M1.2.2.2.2.2.2.2.2 mm.2.1 (fun k9 hk9 => by have := (mm.2.2.1 k9 hk9).1; omega) hQ1.1.1 (fun k9 s9 hk9 hs9 => ⟨fun g p hp9 => ⟨mr_k (mm.2.2.1 k9 hk9).2 (hP.2.1 s9 hs9).1 g n (Nat.le_refl _) p hp9, by have := sP_n (sP_y (mm.2.2.1 k9 hk9).2 (hP.2.1 s9 hs9).1) p hp9; have := hP.1.2; omega, by have := sP_n (sP_y (mm.2.2.1 k9 hk9).2 (hP.2.1 s9 hs9).1) p hp9; have := hP.1.2; omega⟩, (mm.1 _ (sP_y (mm.2.2.1 k9 hk9).2 (hP.2.1 s9 hs9).1)).2.2.1⟩) b1 b2 b3) (fun v h1 hY => ?_)
      obtain ⟨hv9, I2, J2, V2, rfl, r1, r2, r3, r4, r5, r6, r7⟩ := hY.2.2 ⟨hc, h4⟩
      cases hv9
      obtain ⟨M2, f2⟩ := M_med M1 hP r1 r2 r3 r4 r5 r6
      have C2 := C_same (wrC_f (wrC_J (v := (iI (mcl (smc n Dc u x1.toNat x2.toNat x3.toNat) (oc_f n)).1).toInt64) C1) f2) (u2 := va_up u 4 (mb n (sm n Dn (fun k9 s9 => yR n (ur n k9) (u s9)) x1.toNat x2.toNat x3.toNat) (oc_f n)).2) (fun s9 p9 hs9 hp9 => by
        by_cases q9 : s9 = 4
        · rw [q9, va_up_self, va_up_self]; exact ev7 p9 hp9
        · rw [va_up_ne _ _ q9, va_up_ne _ _ q9])
      have pz : sP n (mb n (sm n Dn (fun k9 s9 => yR n (ur n k9) (u s9)) x1.toNat x2.toNat x3.toNat) (oc_f n)).2 := sP_c ((mm.2.2.2.2.2 h4).1 _ (mcl_lt (by have := (oc_fa n (by omega)).2; omega))).1 ev7
      refine mw_istore dc_La_law_1135 (by decide) rfl ?_
      refine mw_aload_n dc_La_law_1137 rfl 4 rfl ?_
      refine mz_V0 (M2 := mt_Mo_thrown) dc_La_law_1138 ml_La_80 rfl rfl ny_Mo_thrown (by decide) (Nat.le_of_ble_eq_true rfl) (ev_thrown (t := 0) r7) (fun v h1 hY => ?_)
      obtain ⟨hv9, rfl⟩ := hY
      cases hv9
      refine mw_iload dc_La_law_1141 1 rfl ?_
      refine mi_icmp_eq (tgt := 1148) dc_La_law_1143 (by decide) (iB_mk (by omega) (by omega)) (iB_mk (by omega) (by omega)) (fun ht9 => ?_) (fun ht9 => ?_)
      · refine mw_iload dc_La_law_1148 1 rfl ?_
        refine mi_if_ne (tgt := 1165) dc_La_law_1150 (by decide) (iB_mk (by omega) (by omega)) (fun hk9 => ?_) (fun hk9 => ?_)
        · exact absurd rfl hk9
        · refine mw_aload_n dc_La_law_1153 rfl 3 rfl ?_
          refine mi_const dc_La_law_1154 ?_
          refine mi_lald dc_La_law_1155 rfl ⟨by decide, by decide, by decide⟩ (v := (iI (mcl (smc n Dc u x1.toNat x2.toNat x3.toNat) (oc_f n)).1).toInt64) (by rw [r4 58 (by decide)]; exact up58_0 _ _) ?_
          refine mw_iload dc_La_law_1156 0 rfl ?_
          refine mw_i2l dc_La_law_1158 ?_
          refine mw_lcmp dc_La_law_1159 ?_

          refine mw_if_eq (tgt := 1165) dc_La_law_1160 (by decide) (fun hq9 => ?_) (fun hq9 => ?_)
          · refine mw_goto (tgt := 1168) dc_La_law_1165 (by decide) ?_
            refine mw_pick [2, 3, 4, 5, 6] rfl ?_
            exact hx _ _ _ _ _ _ _ _ _ _ _ _ _ _ (P_slot hP pz) C2 M2
          · exact absurd (lg_eq (by rw [← ev8])) hq9
      · exact absurd rfl ht9
    · refine mw_aload_n dc_La_law_1088 rfl 3 rfl ?_
      refine mw_aload_nS dc_La_law_1089 rfl 4 rfl ?_
      refine mw_iload dc_La_law_1090 0 rfl ?_
      refine mi_const dc_La_law_1092 ?_
      refine mi_iadd dc_La_law_1093 ?_
      refine mi_sld dc_La_law_1094 rfl ⟨by omega, by omega, by omega⟩ (v := iI x1) (by rw [show ((i : Int) + 1).toNat = i + 1 by omega]; exact e1) ?_
      refine mw_aload_nS dc_La_law_1095 rfl 4 rfl ?_
      refine mw_iload dc_La_law_1096 0 rfl ?_
      refine mi_const dc_La_law_1098 ?_
      refine mi_iadd dc_La_law_1099 ?_
      refine mi_sld dc_La_law_1100 rfl ⟨by omega, by omega, by omega⟩ (v := iI x2) (by rw [show ((i : Int) + 2).toNat = i + 2 by omega]; exact e2) ?_
      refine mw_aload_nS dc_La_law_1101 rfl 4 rfl ?_
      refine mw_iload dc_La_law_1102 0 rfl ?_
      refine mi_const dc_La_law_1104 ?_
      refine mi_iadd dc_La_law_1105 ?_
      refine mi_sld dc_La_law_1106 rfl ⟨by omega, by omega, by omega⟩ (v := iI x3) (by rw [show ((i : Int) + 3).toNat = i + 3 by omega]; exact e3) ?_
      refine mw_aload_n dc_La_law_1107 rfl 1 rfl ?_
      refine mw_le (bc := bc + 7) (bs := bs + 818) (by omega) (by omega) ?_
      refine mw_callSW (M2 := mt_La_median) (mc := 7) (ms := 818) (as := [.ref 0, .int (iI x1), .int (iI x2), .int (iI x3), .ref 58]) (st := []) dc_La_law_1108 ml_La_139 ny_La_median (by decide) rfl (Nat.le_of_ble_eq_true rfl) (ev_La_median (ev_median hst hC.1 hC.2.1 hP.1 hC.2.2.2.2.2.2.2 (fun h4 x9 hx9 => ⟨((mm.2.2.2.2.2 h4).1 x9 hx9).1, ((mm.2.2.2.2.2 h4).1 x9 hx9).2.1⟩) (fun h4 x9 hx9 => ((mm.2.2.2.2.2 h4).1 x9 hx9).2.2) hO.1 (fun h4 y9 hy9 => ((mm.2.2.2.2.2 h4).2.2.1 y9 hy9).1) b1 b2 b3) (fun v h9 q => nomatch ((q.2.1 ⟨hc, by omega⟩).1)) (fun j h9 q => Or.inr (Sum.inr.inj ((q.2.1 ⟨hc, by omega⟩).1)))) (fun k9 h9 q9 => by rcases q9 with ⟨_, _, _, q9, _⟩ | ⟨_, _, q9, _⟩ | ⟨_, _, q9, _⟩ <;> cases q9) (fun v h1 hY => ?_)
      rcases hY with ⟨x9, h9, q, hv9, rfl⟩ | ⟨h9, q, hv9, rfl⟩ | ⟨h9, q, hv9, rfl⟩
      · exact (nomatch ((q.2.1 ⟨hc, by omega⟩).1))
      · exact (nomatch ((q.2.1 ⟨hc, by omega⟩).1))
      cases hv9
      obtain ⟨-, rfl⟩ := q.2.1 ⟨hc, by omega⟩
      refine mw_istore dc_La_law_1111 (by decide) rfl ?_
      refine mw_aload_n dc_La_law_1113 rfl 3 rfl ?_
      refine mw_aload_nS dc_La_law_1114 rfl 5 rfl ?_
      refine mw_iload dc_La_law_1115 1 rfl ?_
      refine mi_const dc_La_law_1117 ?_
      refine mi_iadd dc_La_law_1118 ?_
      refine mi_sld dc_La_law_1119 rfl ⟨by omega, by omega, by omega⟩ (v := iI x1) (by rw [show ((i : Int) + 1).toNat = i + 1 by omega]; exact e1) ?_
      refine mw_aload_nS dc_La_law_1120 rfl 5 rfl ?_
      refine mw_iload dc_La_law_1121 1 rfl ?_
      refine mi_const dc_La_law_1123 ?_
      refine mi_iadd dc_La_law_1124 ?_
      refine mi_sld dc_La_law_1125 rfl ⟨by omega, by omega, by omega⟩ (v := iI x2) (by rw [show ((i : Int) + 2).toNat = i + 2 by omega]; exact e2) ?_
      refine mw_aload_nS dc_La_law_1126 rfl 5 rfl ?_
      refine mw_iload dc_La_law_1127 1 rfl ?_
      refine mi_const dc_La_law_1129 ?_
      refine mi_iadd dc_La_law_1130 ?_
      refine mi_sld dc_La_law_1131 rfl ⟨by omega, by omega, by omega⟩ (v := iI x3) (by rw [show ((i : Int) + 3).toNat = i + 3 by omega]; exact e3) ?_
      refine mz_V3 (M2 := mt_Mo_median) dc_La_law_1132 ml_La_141 rfl rfl ny_Mo_median (by decide) (Nat.le_of_ble_eq_true rfl) (ev_momedian (yy := fun k9 s9 => yR n (ur n k9) (u s9)) hM.1 hM.2.1 hP.1 hM.2.2.2.2.2.2.2.2 mm.2.1 (fun k9 hk9 => by have := (mm.2.2.1 k9 hk9).1; omega) hQ.1.1 (fun k9 s9 hk9 hs9 => ⟨fun g p hp9 => ⟨mr_k (mm.2.2.1 k9 hk9).2 (hP.2.1 s9 hs9).1 g n (Nat.le_refl _) p hp9, by have := sP_n (sP_y (mm.2.2.1 k9 hk9).2 (hP.2.1 s9 hs9).1) p hp9; have := hP.1.2; omega, by have := sP_n (sP_y (mm.2.2.1 k9 hk9).2 (hP.2.1 s9 hs9).1) p hp9; have := hP.1.2; omega⟩, (mm.1 _ (sP_y (mm.2.2.1 k9 hk9).2 (hP.2.1 s9 hs9).1)).2.2.1⟩) b1 b2 b3) (fun v h1 hY => ?_)
      obtain ⟨hv9, rfl⟩ := hY.2.1 ⟨hc, by omega⟩
      cases hv9
      obtain ⟨M2, f2⟩ := wrM_x hM (.int (iI 2))
      refine mw_istore dc_La_law_1135 (by decide) rfl ?_
      refine mw_aload_n dc_La_law_1137 rfl 4 rfl ?_
      refine mz_V0 (M2 := mt_Mo_thrown) dc_La_law_1138 ml_La_80 rfl rfl ny_Mo_thrown (by decide) (Nat.le_of_ble_eq_true rfl) (ev_thrown (t := 2) (fu_at _ 39 0 _)) (fun v h1 hY => ?_)
      obtain ⟨hv9, rfl⟩ := hY
      cases hv9
      refine mw_iload dc_La_law_1141 1 rfl ?_
      refine mi_icmp_eq (tgt := 1148) dc_La_law_1143 (by decide) (iB_mk (by omega) (by omega)) (iB_mk (by omega) (by omega)) (fun ht9 => ?_) (fun ht9 => ?_)
      · refine mw_iload dc_La_law_1148 1 rfl ?_
        refine mi_if_ne (tgt := 1165) dc_La_law_1150 (by decide) (iB_mk (by omega) (by omega)) (fun hk9 => ?_) (fun hk9 => ?_)
        · refine mw_goto (tgt := 1168) dc_La_law_1165 (by decide) ?_
          refine mw_pick [2, 3, 4, 5, 6] rfl ?_
          exact hx _ _ _ _ _ _ _ _ _ _ _ _ _ _ hP (wrC_f hC f2) M2
        · exact absurd hk9 (by decide)
      · exact absurd rfl ht9
  · refine mw_aload_n dc_La_law_1088 rfl 3 rfl ?_
    refine mw_aload_nS dc_La_law_1089 rfl 4 rfl ?_
    refine mw_iload dc_La_law_1090 0 rfl ?_
    refine mi_const dc_La_law_1092 ?_
    refine mi_iadd dc_La_law_1093 ?_
    refine mi_sld dc_La_law_1094 rfl ⟨by omega, by omega, by omega⟩ (v := iI x1) (by rw [show ((i : Int) + 1).toNat = i + 1 by omega]; exact e1) ?_
    refine mw_aload_nS dc_La_law_1095 rfl 4 rfl ?_
    refine mw_iload dc_La_law_1096 0 rfl ?_
    refine mi_const dc_La_law_1098 ?_
    refine mi_iadd dc_La_law_1099 ?_
    refine mi_sld dc_La_law_1100 rfl ⟨by omega, by omega, by omega⟩ (v := iI x2) (by rw [show ((i : Int) + 2).toNat = i + 2 by omega]; exact e2) ?_
    refine mw_aload_nS dc_La_law_1101 rfl 4 rfl ?_
    refine mw_iload dc_La_law_1102 0 rfl ?_
    refine mi_const dc_La_law_1104 ?_
    refine mi_iadd dc_La_law_1105 ?_
    refine mi_sld dc_La_law_1106 rfl ⟨by omega, by omega, by omega⟩ (v := iI x3) (by rw [show ((i : Int) + 3).toNat = i + 3 by omega]; exact e3) ?_
    refine mw_aload_n dc_La_law_1107 rfl 1 rfl ?_
    refine mw_le (bc := bc + 7) (bs := bs + 818) (by omega) (by omega) ?_
    refine mw_callSW (M2 := mt_La_median) (mc := 7) (ms := 818) (as := [.ref 0, .int (iI x1), .int (iI x2), .int (iI x3), .ref 58]) (st := []) dc_La_law_1108 ml_La_139 ny_La_median (by decide) rfl (Nat.le_of_ble_eq_true rfl) (ev_La_median (ev_median hst hC.1 hC.2.1 hP.1 hC.2.2.2.2.2.2.2 (fun h4 x9 hx9 => ⟨((mm.2.2.2.2.2 h4).1 x9 hx9).1, ((mm.2.2.2.2.2 h4).1 x9 hx9).2.1⟩) (fun h4 x9 hx9 => ((mm.2.2.2.2.2 h4).1 x9 hx9).2.2) hO.1 (fun h4 y9 hy9 => ((mm.2.2.2.2.2 h4).2.2.1 y9 hy9).1) b1 b2 b3) (fun v h9 q => nomatch ((q.1 hc).1)) (fun j h9 q => Or.inl (Sum.inr.inj ((q.1 hc).1)))) (fun k9 h9 q9 => by rcases q9 with ⟨_, _, _, q9, _⟩ | ⟨_, _, q9, _⟩ | ⟨_, _, q9, _⟩ <;> cases q9) (fun v h1 hY => ?_)
    rcases hY with ⟨x9, h9, q, hv9, rfl⟩ | ⟨h9, q, hv9, rfl⟩ | ⟨h9, q, hv9, rfl⟩
    · exact (nomatch ((q.1 hc).1))
    rotate_left
    · exact (nomatch ((q.1 hc).1))
    cases hv9
    obtain ⟨-, rfl⟩ := q.1 hc
    refine mw_istore dc_La_law_1111 (by decide) rfl ?_
    refine mw_aload_n dc_La_law_1113 rfl 3 rfl ?_
    refine mw_aload_nS dc_La_law_1114 rfl 5 rfl ?_
    refine mw_iload dc_La_law_1115 1 rfl ?_
    refine mi_const dc_La_law_1117 ?_
    refine mi_iadd dc_La_law_1118 ?_
    refine mi_sld dc_La_law_1119 rfl ⟨by omega, by omega, by omega⟩ (v := iI x1) (by rw [show ((i : Int) + 1).toNat = i + 1 by omega]; exact e1) ?_
    refine mw_aload_nS dc_La_law_1120 rfl 5 rfl ?_
    refine mw_iload dc_La_law_1121 1 rfl ?_
    refine mi_const dc_La_law_1123 ?_
    refine mi_iadd dc_La_law_1124 ?_
    refine mi_sld dc_La_law_1125 rfl ⟨by omega, by omega, by omega⟩ (v := iI x2) (by rw [show ((i : Int) + 2).toNat = i + 2 by omega]; exact e2) ?_
    refine mw_aload_nS dc_La_law_1126 rfl 5 rfl ?_
    refine mw_iload dc_La_law_1127 1 rfl ?_
    refine mi_const dc_La_law_1129 ?_
    refine mi_iadd dc_La_law_1130 ?_
    refine mi_sld dc_La_law_1131 rfl ⟨by omega, by omega, by omega⟩ (v := iI x3) (by rw [show ((i : Int) + 3).toNat = i + 3 by omega]; exact e3) ?_
    refine mz_V3 (M2 := mt_Mo_median) dc_La_law_1132 ml_La_141 rfl rfl ny_Mo_median (by decide) (Nat.le_of_ble_eq_true rfl) (ev_momedian (yy := fun k9 s9 => yR n (ur n k9) (u s9)) hM.1 hM.2.1 hP.1 hM.2.2.2.2.2.2.2.2 mm.2.1 (fun k9 hk9 => by have := (mm.2.2.1 k9 hk9).1; omega) hQ.1.1 (fun k9 s9 hk9 hs9 => ⟨fun g p hp9 => ⟨mr_k (mm.2.2.1 k9 hk9).2 (hP.2.1 s9 hs9).1 g n (Nat.le_refl _) p hp9, by have := sP_n (sP_y (mm.2.2.1 k9 hk9).2 (hP.2.1 s9 hs9).1) p hp9; have := hP.1.2; omega, by have := sP_n (sP_y (mm.2.2.1 k9 hk9).2 (hP.2.1 s9 hs9).1) p hp9; have := hP.1.2; omega⟩, (mm.1 _ (sP_y (mm.2.2.1 k9 hk9).2 (hP.2.1 s9 hs9).1)).2.2.1⟩) b1 b2 b3) (fun v h1 hY => ?_)
    obtain ⟨hv9, rfl⟩ := hY.1 hc
    cases hv9
    obtain ⟨M2, f2⟩ := wrM_x hM (.int (iI 1))
    refine mw_istore dc_La_law_1135 (by decide) rfl ?_
    refine mw_aload_n dc_La_law_1137 rfl 4 rfl ?_
    refine mz_V0 (M2 := mt_Mo_thrown) dc_La_law_1138 ml_La_80 rfl rfl ny_Mo_thrown (by decide) (Nat.le_of_ble_eq_true rfl) (ev_thrown (t := 1) (fu_at _ 39 0 _)) (fun v h1 hY => ?_)
    obtain ⟨hv9, rfl⟩ := hY
    cases hv9
    refine mw_iload dc_La_law_1141 1 rfl ?_
    refine mi_icmp_eq (tgt := 1148) dc_La_law_1143 (by decide) (iB_mk (by omega) (by omega)) (iB_mk (by omega) (by omega)) (fun ht9 => ?_) (fun ht9 => ?_)
    · refine mw_iload dc_La_law_1148 1 rfl ?_
      refine mi_if_ne (tgt := 1165) dc_La_law_1150 (by decide) (iB_mk (by omega) (by omega)) (fun hk9 => ?_) (fun hk9 => ?_)
      · refine mw_goto (tgt := 1168) dc_La_law_1165 (by decide) ?_
        refine mw_pick [2, 3, 4, 5, 6] rfl ?_
        exact hx _ _ _ _ _ _ _ _ _ _ _ _ _ _ hP (wrC_f hC f2) M2
      · exact absurd hk9 (by decide)
    · exact absurd rfl ht9
