/-! THE LAW: one call of both, case by case -/
abbrev mt_law : mm_M := (x, code, 8, ret, [])
theorem mi_sld {G : mm_G} {M : mm_M} {d bc bs pc : Nat} {ls : List (Nat × Value)} {st : List Value} {h : mm_H} {X : mm_X} {z : Int} {v : Int32} (hd : decode M.2.1 pc = .ok (.iaload, 1)) (hl : M.1.name = "law") (h0 : 0 ≤ z ∧ z < G.2.2.2.2.1 ∧ G.2.2.2.2.1 < 2147483648) (hv : G.2.2.2.2.2 z.toNat = v) (k : mW G M d bc bs (pc + 1) ls (.int v :: st) h X) : mW G M d bc bs pc ls (.int (iI z) :: .retAddr G.2.2.2.1 :: st) h X := by
  refine mw_sld hd hl (iI_in h0.1 h0.2.1 h0.2.2) ?_
  rw [iI_cl (iB_mk (by omega) (by omega)), hv]
  exact k
theorem lg_eq {a b : Int64} (e : a = b) : lg_cmp a b = 0 := (lg_cmp_eq a b).mpr e
theorem lc_La_84 : Jvm.Cond.constantLong rn_La 84 4294967295 ∈ mm_aw := mm_in (List.mem_of_getElem? (i := 858) (by decide +kernel)) (by decide +kernel)
theorem lw_genes {G : mm_G} {d bc bs : Nat} {X : mm_X} {n : Nat} {u : Nat → Nat → Int} {k : Nat → Nat} {a b : Nat → Nat → Nat} {l : Nat} {cc : Nat → Int} {c : Int} {st : Nat → Int} {cs : mm_Sh} {I : Nat → Nat → Int32} {J : Nat → Nat → Int64} {F : Nat → Nat → Option Nat} {V : Nat → Nat → Value} {i : Nat} {x1 x2 x3 : Int} (hst : G.1.stackTraces = false) (mf : MF) (hL : i + 4 ≤ G.2.2.2.2.1 ∧ G.2.2.2.2.1 ≤ 2048) (e1 : G.2.2.2.2.2 (i + 1) = iI x1) (e2 : G.2.2.2.2.2 (i + 2) = iI x2) (e3 : G.2.2.2.2.2 (i + 3) = iI x3) (b1 : iB x1) (b2 : iB x2) (b3 : iB x3) (hP : wrP n u k a b l cc c) (hC : wrC n u k a b l cc c st cs I J F V) (hM : wrM n u k a b l cc c st I J V)
    (hx : ∀ n u k a b l cc c st cs I J F V, wrP n u k a b l cc c → wrC n u k a b l cc c st cs I J F V → wrM n u k a b l cc c st I J V → mW G mt_law (d + 40) bc bs 1168 [(4, .int (iI (i : Nat))), (3, .ref 58), (2, .ref 39), (1, .ref 0), (0, .retAddr G.2.2.2.1)] [] (wd_S ++ cs, I, J, F, V) X) : mW G mt_law (d + 40) (bc + 8) (bs + 820) 120 [(4, .int (iI (i : Nat))), (3, .ref 58), (2, .ref 39), (1, .ref 0), (0, .retAddr G.2.2.2.1)] [] (wd_S ++ cs, I, J, F, V) X := by
  by_cases hc : 1 ≤ x1 ∧ x1 ≤ 6
  · obtain ⟨y, rfl⟩ := Int.eq_ofNat_of_zero_le (show 0 ≤ x1 by omega)
    refine mw_aload_n dc_La_law_120 rfl 3 rfl ?_
    refine mw_aload_nS dc_La_law_121 rfl 4 rfl ?_
    refine mw_iload dc_La_law_122 0 rfl ?_
    refine mi_const dc_La_law_124 ?_
    refine mi_iadd dc_La_law_125 ?_
    refine mi_sld dc_La_law_126 rfl ⟨by omega, by omega, by omega⟩ (v := iI (y : Int)) (by rw [show ((i : Int) + 1).toNat = i + 1 by omega]; exact e1) ?_
    refine mw_le (bc := bc + 1) (bs := bs + 6) (by omega) (by omega) ?_
    refine mw_callSW (M2 := mt_La_genes) (mc := 1) (ms := 6) (as := [.ref 0, .int (iI (y : Int))]) (st := []) dc_La_law_127 ml_La_74 ny_La_genes (by decide) rfl (Nat.le_of_ble_eq_true rfl) (ev_La_genes (ev_genes hst hC.1 b1) (fun v h9 q => Sum.inl.inj (q.1 hc).1) (fun j h9 q => nomatch (q.1 hc).1)) (fun k9 h9 q9 => by rcases q9 with ⟨_, _, q9, _⟩ | ⟨_, _, q9, _⟩ <;> cases q9) (fun v h1 hY => ?_)
    rcases hY with ⟨h9, q, hv9, rfl⟩ | ⟨h9, q, hv9, rfl⟩
    rotate_left
    · exact (nomatch ((q.1 hc).1))
    cases hv9
    obtain ⟨-, rfl⟩ := q.1 hc
    have hy : 1 ≤ y ∧ y ≤ 6 := by omega
    obtain ⟨C1, f1⟩ := C_genes hC hy
    have M1 := wrM_f hM f1
    refine mw_istore dc_La_law_130 (by decide) rfl ?_
    refine mw_aload_n dc_La_law_132 rfl 3 rfl ?_
    refine mw_aload_nS dc_La_law_133 rfl 5 rfl ?_
    refine mw_iload dc_La_law_134 1 rfl ?_
    refine mi_const dc_La_law_136 ?_
    refine mi_iadd dc_La_law_137 ?_
    refine mi_sld dc_La_law_138 rfl ⟨by omega, by omega, by omega⟩ (v := iI (y : Int)) (by rw [show ((i : Int) + 1).toNat = i + 1 by omega]; exact e1) ?_
    refine mz_V1 (M2 := mt_Mo_genes) dc_La_law_139 ml_La_79 rfl rfl ny_Mo_genes (by decide) (Nat.le_of_ble_eq_true rfl) (ev_mogenes M1.1 b1) (fun v h1 hY => ?_)
    obtain ⟨hv9, hg9, -⟩ := hY
    cases hv9
    cases hg9 hc
    obtain ⟨M2, f2⟩ := M_genes M1 hy
    refine mw_aload_n dc_La_law_142 rfl 3 rfl ?_
    refine mz_V0 (M2 := mt_Mo_thrown) dc_La_law_143 ml_La_80 rfl rfl ny_Mo_thrown (by decide) (Nat.le_of_ble_eq_true rfl) (ev_thrown (t := 0) (by rw [fu_n2 _ _ (by decide), fu_n2 _ _ (by decide), fu_at])) (fun v h1 hY => ?_)
    obtain ⟨hv9, rfl⟩ := hY
    cases hv9
    refine mw_iload dc_La_law_146 0 rfl ?_
    refine mi_icmp_eq (tgt := 153) dc_La_law_148 (by decide) (iB_mk (by omega) (by omega)) (iB_mk (by omega) (by omega)) (fun ht9 => ?_) (fun ht9 => ?_)
    · refine mw_goto (tgt := 1168) dc_La_law_153 (by decide) ?_
      refine mw_pick [1, 2, 3, 4, 5] rfl ?_
      exact hx _ _ _ _ _ _ _ _ _ _ _ _ _ _ (P_genes hP hy) (wrC_f C1 f2) M2
    · exact absurd rfl ht9
  · refine mw_aload_n dc_La_law_120 rfl 3 rfl ?_
    refine mw_aload_nS dc_La_law_121 rfl 4 rfl ?_
    refine mw_iload dc_La_law_122 0 rfl ?_
    refine mi_const dc_La_law_124 ?_
    refine mi_iadd dc_La_law_125 ?_
    refine mi_sld dc_La_law_126 rfl ⟨by omega, by omega, by omega⟩ (v := iI x1) (by rw [show ((i : Int) + 1).toNat = i + 1 by omega]; exact e1) ?_
    refine mw_le (bc := bc + 1) (bs := bs + 6) (by omega) (by omega) ?_
    refine mw_callSW (M2 := mt_La_genes) (mc := 1) (ms := 6) (as := [.ref 0, .int (iI x1)]) (st := []) dc_La_law_127 ml_La_74 ny_La_genes (by decide) rfl (Nat.le_of_ble_eq_true rfl) (ev_La_genes (ev_genes hst hC.1 b1) (fun v h9 q => nomatch (q.2 hc).1) (fun j h9 q => Sum.inr.inj (q.2 hc).1)) (fun k9 h9 q9 => by rcases q9 with ⟨_, _, q9, _⟩ | ⟨_, _, q9, _⟩ <;> cases q9) (fun v h1 hY => ?_)
    rcases hY with ⟨h9, q, hv9, rfl⟩ | ⟨h9, q, hv9, rfl⟩
    · exact (nomatch ((q.2 hc).1))
    cases hv9
    obtain ⟨-, rfl⟩ := q.2 hc
    refine mw_istore dc_La_law_130 (by decide) rfl ?_
    refine mw_aload_n dc_La_law_132 rfl 3 rfl ?_
    refine mw_aload_nS dc_La_law_133 rfl 5 rfl ?_
    refine mw_iload dc_La_law_134 1 rfl ?_
    refine mi_const dc_La_law_136 ?_
    refine mi_iadd dc_La_law_137 ?_
    refine mi_sld dc_La_law_138 rfl ⟨by omega, by omega, by omega⟩ (v := iI x1) (by rw [show ((i : Int) + 1).toNat = i + 1 by omega]; exact e1) ?_
    refine mz_V1 (M2 := mt_Mo_genes) dc_La_law_139 ml_La_79 rfl rfl ny_Mo_genes (by decide) (Nat.le_of_ble_eq_true rfl) (ev_mogenes hM.1 b1) (fun v h1 hY => ?_)
    obtain ⟨hv9, -, hg9⟩ := hY
    cases hv9
    cases hg9 hc
    obtain ⟨M2, f2⟩ := wrM_x hM (.int (iI 1))
    refine mw_aload_n dc_La_law_142 rfl 3 rfl ?_
    refine mz_V0 (M2 := mt_Mo_thrown) dc_La_law_143 ml_La_80 rfl rfl ny_Mo_thrown (by decide) (Nat.le_of_ble_eq_true rfl) (ev_thrown (t := 1) (fu_at _ 39 0 _)) (fun v h1 hY => ?_)
    obtain ⟨hv9, rfl⟩ := hY
    cases hv9
    refine mw_iload dc_La_law_146 0 rfl ?_
    refine mi_icmp_eq (tgt := 153) dc_La_law_148 (by decide) (iB_mk (by omega) (by omega)) (iB_mk (by omega) (by omega)) (fun ht9 => ?_) (fun ht9 => ?_)
    · refine mw_goto (tgt := 1168) dc_La_law_153 (by decide) ?_
      refine mw_pick [1, 2, 3, 4, 5] rfl ?_
      exact hx _ _ _ _ _ _ _ _ _ _ _ _ _ _ hP (wrC_f hC f2) M2
    · exact absurd rfl ht9
theorem lw_wipe {G : mm_G} {d bc bs : Nat} {X : mm_X} {n : Nat} {u : Nat → Nat → Int} {k : Nat → Nat} {a b : Nat → Nat → Nat} {l : Nat} {cc : Nat → Int} {c : Int} {st : Nat → Int} {cs : mm_Sh} {I : Nat → Nat → Int32} {J : Nat → Nat → Int64} {F : Nat → Nat → Option Nat} {V : Nat → Nat → Value} {i : Nat} {x1 x2 x3 : Int} (hst : G.1.stackTraces = false) (mf : MF) (hL : i + 4 ≤ G.2.2.2.2.1 ∧ G.2.2.2.2.1 ≤ 2048) (e1 : G.2.2.2.2.2 (i + 1) = iI x1) (e2 : G.2.2.2.2.2 (i + 2) = iI x2) (e3 : G.2.2.2.2.2 (i + 3) = iI x3) (b1 : iB x1) (b2 : iB x2) (b3 : iB x3) (hP : wrP n u k a b l cc c) (hC : wrC n u k a b l cc c st cs I J F V) (hM : wrM n u k a b l cc c st I J V)
    (hx : ∀ n u k a b l cc c st cs I J F V, wrP n u k a b l cc c → wrC n u k a b l cc c st cs I J F V → wrM n u k a b l cc c st I J V → mW G mt_law (d + 40) bc bs 1168 [(4, .int (iI (i : Nat))), (3, .ref 58), (2, .ref 39), (1, .ref 0), (0, .retAddr G.2.2.2.1)] [] (wd_S ++ cs, I, J, F, V) X) : mW G mt_law (d + 40) (bc + 8) (bs + 820) 213 [(4, .int (iI (i : Nat))), (3, .ref 58), (2, .ref 39), (1, .ref 0), (0, .retAddr G.2.2.2.1)] [] (wd_S ++ cs, I, J, F, V) X := by
  refine mw_aload_n dc_La_law_213 rfl 3 rfl ?_
  refine mz_V0 (M2 := mt_De_wipe) dc_La_law_214 ml_La_91 rfl rfl ny_De_wipe (by decide) (Nat.le_of_ble_eq_true rfl) (ev_wipe hC.1 hC.2.2.2.1) (fun v h1 hY => ?_)
  obtain ⟨hv9, rfl⟩ := hY
  cases hv9
  obtain ⟨C1, f1⟩ := C_len hC
  have M1 := wrM_f hM f1
  refine mw_aload_n dc_La_law_217 rfl 2 rfl ?_
  refine mz_V0 (M2 := mt_Mo_wipe) dc_La_law_218 ml_La_94 rfl rfl ny_Mo_wipe (by decide) (Nat.le_of_ble_eq_true rfl) (ev_mowipe M1.2.2.2.1) (fun v h1 hY => ?_)
  obtain ⟨hv9, rfl⟩ := hY
  cases hv9
  have hl24 := hP.2.2.1
  obtain ⟨M2, f2⟩ := wrM_x M1 (.int (iI 0))
  obtain ⟨M3, f3⟩ := M_len (l' := 0) (cc' := cc) M2 (fun _ _ => rfl) (fun m hm => absurd hm (Nat.not_lt_zero _))
  refine mi_icmp_eq (tgt := 1168) dc_La_law_221 (by decide) (iB_mk (by omega) (by omega)) (iB_mk (by omega) (by omega)) (fun h9 => ?_) (fun h9 => ?_)
  · refine mw_le (bc := bc) (bs := bs) (by omega) (by omega) ?_
    exact hx _ _ _ _ _ _ _ _ _ _ _ _ _ _ (P_len hP) (wrC_f (wrC_f C1 f2) f3) M3
  · exact absurd rfl h9
theorem lw_write {G : mm_G} {d bc bs : Nat} {X : mm_X} {n : Nat} {u : Nat → Nat → Int} {k : Nat → Nat} {a b : Nat → Nat → Nat} {l : Nat} {cc : Nat → Int} {c : Int} {st : Nat → Int} {cs : mm_Sh} {I : Nat → Nat → Int32} {J : Nat → Nat → Int64} {F : Nat → Nat → Option Nat} {V : Nat → Nat → Value} {i : Nat} {x1 x2 x3 : Int} (hst : G.1.stackTraces = false) (mf : MF) (hL : i + 4 ≤ G.2.2.2.2.1 ∧ G.2.2.2.2.1 ≤ 2048) (e1 : G.2.2.2.2.2 (i + 1) = iI x1) (e2 : G.2.2.2.2.2 (i + 2) = iI x2) (e3 : G.2.2.2.2.2 (i + 3) = iI x3) (b1 : iB x1) (b2 : iB x2) (b3 : iB x3) (hP : wrP n u k a b l cc c) (hC : wrC n u k a b l cc c st cs I J F V) (hM : wrM n u k a b l cc c st I J V)
    (hx : ∀ n u k a b l cc c st cs I J F V, wrP n u k a b l cc c → wrC n u k a b l cc c st cs I J F V → wrM n u k a b l cc c st I J V → mW G mt_law (d + 40) bc bs 1168 [(4, .int (iI (i : Nat))), (3, .ref 58), (2, .ref 39), (1, .ref 0), (0, .retAddr G.2.2.2.1)] [] (wd_S ++ cs, I, J, F, V) X) : mW G mt_law (d + 40) (bc + 8) (bs + 820) 156 [(4, .int (iI (i : Nat))), (3, .ref 58), (2, .ref 39), (1, .ref 0), (0, .retAddr G.2.2.2.1)] [] (wd_S ++ cs, I, J, F, V) X := by
  have hl24 := hP.2.2.1
  by_cases hc : l + ad_n (((iI x1).toInt64 <<< ((iI 32).toInt64 &&& 63)) ||| ((iI x2).toInt64 &&& 4294967295)) 8 ≤ 24
  · have hz : True := trivial
    refine mw_aload_n dc_La_law_156 rfl 3 rfl ?_
    refine mw_aload_nS dc_La_law_157 rfl 4 rfl ?_
    refine mw_iload dc_La_law_158 0 rfl ?_
    refine mi_const dc_La_law_160 ?_
    refine mi_iadd dc_La_law_161 ?_
    refine mi_sld dc_La_law_162 rfl ⟨by omega, by omega, by omega⟩ (v := iI x1) (by rw [show ((i : Int) + 1).toNat = i + 1 by omega]; exact e1) ?_
    refine mw_i2l dc_La_law_163 ?_
    refine mi_bipush dc_La_law_164 (by decide) ?_
    refine mw_lshl dc_La_law_166 ?_
    refine mw_aload_nS dc_La_law_167 rfl 4 rfl ?_
    refine mw_iload dc_La_law_168 0 rfl ?_
    refine mi_const dc_La_law_170 ?_
    refine mi_iadd dc_La_law_171 ?_
    refine mi_sld dc_La_law_172 rfl ⟨by omega, by omega, by omega⟩ (v := iI x2) (by rw [show ((i : Int) + 2).toNat = i + 2 by omega]; exact e2) ?_
    refine mw_i2l dc_La_law_173 ?_
    refine mw_ldc2 (v := 4294967295) dc_La_law_174 lc_La_84 ?_
    refine mw_land dc_La_law_177 ?_
    refine mw_lor dc_La_law_178 ?_
    refine mz_V1 (M2 := mt_De_write) dc_La_law_179 ml_La_86 rfl rfl ny_De_write (by decide) (Nat.le_of_ble_eq_true rfl) (ev_write (((iI x1).toInt64 <<< ((iI 32).toInt64 &&& 63)) ||| ((iI x2).toInt64 &&& 4294967295)) hC.1 hC.2.2.2.1 hl24) (fun v h1 hY => ?_)
    obtain ⟨hv9, rfl⟩ := hY.2 hc
    cases hv9
    obtain ⟨C1, f1⟩ := C_write (x := (((iI x1).toInt64 <<< ((iI 32).toInt64 &&& 63)) ||| ((iI x2).toInt64 &&& 4294967295))) hC
    have M1 := wrM_f hM f1
    refine mw_aload_n dc_La_law_182 rfl 2 rfl ?_
    refine mw_aload_nS dc_La_law_183 rfl 4 rfl ?_
    refine mw_iload dc_La_law_184 0 rfl ?_
    refine mi_const dc_La_law_186 ?_
    refine mi_iadd dc_La_law_187 ?_
    refine mi_sld dc_La_law_188 rfl ⟨by omega, by omega, by omega⟩ (v := iI x1) (by rw [show ((i : Int) + 1).toNat = i + 1 by omega]; exact e1) ?_
    refine mw_i2l dc_La_law_189 ?_
    refine mi_bipush dc_La_law_190 (by decide) ?_
    refine mw_lshl dc_La_law_192 ?_
    refine mw_aload_nS dc_La_law_193 rfl 4 rfl ?_
    refine mw_iload dc_La_law_194 0 rfl ?_
    refine mi_const dc_La_law_196 ?_
    refine mi_iadd dc_La_law_197 ?_
    refine mi_sld dc_La_law_198 rfl ⟨by omega, by omega, by omega⟩ (v := iI x2) (by rw [show ((i : Int) + 2).toNat = i + 2 by omega]; exact e2) ?_
    refine mw_i2l dc_La_law_199 ?_
    refine mw_ldc2 (v := 4294967295) dc_La_law_200 lc_La_84 ?_
    refine mw_land dc_La_law_203 ?_
    refine mw_lor dc_La_law_204 ?_
    refine mz_V1 (M2 := mt_Mo_write) dc_La_law_205 ml_La_90 rfl rfl ny_Mo_write (by decide) (Nat.le_of_ble_eq_true rfl) (ev_mowrite (((iI x1).toInt64 <<< ((iI 32).toInt64 &&& 63)) ||| ((iI x2).toInt64 &&& 4294967295)) M1.1 M1.2.2.2.1 hl24) (fun v h1 hY => ?_)
    obtain ⟨hv9, rfl⟩ := hY.2 hc
    cases hv9
    obtain ⟨M2, f2⟩ := wrM_x M1 (.int (iI 0))
    obtain ⟨M3, f3⟩ := M_len (l' := l + ad_n (((iI x1).toInt64 <<< ((iI 32).toInt64 &&& 63)) ||| ((iI x2).toInt64 &&& 4294967295)) 8) (cc' := cw (((iI x1).toInt64 <<< ((iI 32).toInt64 &&& 63)) ||| ((iI x2).toInt64 &&& 4294967295)) l cc) (I1 := va_up (va_up I 23 (ad_s (((iI x1).toInt64 <<< ((iI 32).toInt64 &&& 63)) ||| ((iI x2).toInt64 &&& 4294967295)) (I 23) l 8)) 43 (ad_s (((iI x1).toInt64 <<< ((iI 32).toInt64 &&& 63)) ||| ((iI x2).toInt64 &&& 4294967295)) (va_up I 23 (ad_s (((iI x1).toInt64 <<< ((iI 32).toInt64 &&& 63)) ||| ((iI x2).toInt64 &&& 4294967295)) (I 23) l 8) 43) l 8)) M2 (fun y hy => va_up_ne _ _ hy) (fun m hm => by rw [va_up_self]; exact cw_i M1.2.2.2.2.1 m hm)
    refine mi_icmp_eq (tgt := 1168) dc_La_law_208 (by decide) (iB_mk (by omega) (by omega)) (iB_mk (by omega) (by omega)) (fun h9 => ?_) (fun h9 => ?_)
    · refine mw_le (bc := bc) (bs := bs) (by omega) (by omega) ?_
      exact hx _ _ _ _ _ _ _ _ _ _ _ _ _ _ (P_write hP hc) (wrC_f (wrC_f C1 f2) f3) M3
    · exact absurd rfl h9
  · have hz : True := trivial
    refine mw_aload_n dc_La_law_156 rfl 3 rfl ?_
    refine mw_aload_nS dc_La_law_157 rfl 4 rfl ?_
    refine mw_iload dc_La_law_158 0 rfl ?_
    refine mi_const dc_La_law_160 ?_
    refine mi_iadd dc_La_law_161 ?_
    refine mi_sld dc_La_law_162 rfl ⟨by omega, by omega, by omega⟩ (v := iI x1) (by rw [show ((i : Int) + 1).toNat = i + 1 by omega]; exact e1) ?_
    refine mw_i2l dc_La_law_163 ?_
    refine mi_bipush dc_La_law_164 (by decide) ?_
    refine mw_lshl dc_La_law_166 ?_
    refine mw_aload_nS dc_La_law_167 rfl 4 rfl ?_
    refine mw_iload dc_La_law_168 0 rfl ?_
    refine mi_const dc_La_law_170 ?_
    refine mi_iadd dc_La_law_171 ?_
    refine mi_sld dc_La_law_172 rfl ⟨by omega, by omega, by omega⟩ (v := iI x2) (by rw [show ((i : Int) + 2).toNat = i + 2 by omega]; exact e2) ?_
    refine mw_i2l dc_La_law_173 ?_
    refine mw_ldc2 (v := 4294967295) dc_La_law_174 lc_La_84 ?_
    refine mw_land dc_La_law_177 ?_
    refine mw_lor dc_La_law_178 ?_
    refine mz_V1 (M2 := mt_De_write) dc_La_law_179 ml_La_86 rfl rfl ny_De_write (by decide) (Nat.le_of_ble_eq_true rfl) (ev_write (((iI x1).toInt64 <<< ((iI 32).toInt64 &&& 63)) ||| ((iI x2).toInt64 &&& 4294967295)) hC.1 hC.2.2.2.1 hl24) (fun v h1 hY => ?_)
    obtain ⟨hv9, rfl⟩ := hY.1 (by omega)
    cases hv9
    refine mw_aload_n dc_La_law_182 rfl 2 rfl ?_
    refine mw_aload_nS dc_La_law_183 rfl 4 rfl ?_
    refine mw_iload dc_La_law_184 0 rfl ?_
    refine mi_const dc_La_law_186 ?_
    refine mi_iadd dc_La_law_187 ?_
    refine mi_sld dc_La_law_188 rfl ⟨by omega, by omega, by omega⟩ (v := iI x1) (by rw [show ((i : Int) + 1).toNat = i + 1 by omega]; exact e1) ?_
    refine mw_i2l dc_La_law_189 ?_
    refine mi_bipush dc_La_law_190 (by decide) ?_
    refine mw_lshl dc_La_law_192 ?_
    refine mw_aload_nS dc_La_law_193 rfl 4 rfl ?_
    refine mw_iload dc_La_law_194 0 rfl ?_
    refine mi_const dc_La_law_196 ?_
    refine mi_iadd dc_La_law_197 ?_
    refine mi_sld dc_La_law_198 rfl ⟨by omega, by omega, by omega⟩ (v := iI x2) (by rw [show ((i : Int) + 2).toNat = i + 2 by omega]; exact e2) ?_
    refine mw_i2l dc_La_law_199 ?_
    refine mw_ldc2 (v := 4294967295) dc_La_law_200 lc_La_84 ?_
    refine mw_land dc_La_law_203 ?_
    refine mw_lor dc_La_law_204 ?_
    refine mz_V1 (M2 := mt_Mo_write) dc_La_law_205 ml_La_90 rfl rfl ny_Mo_write (by decide) (Nat.le_of_ble_eq_true rfl) (ev_mowrite (((iI x1).toInt64 <<< ((iI 32).toInt64 &&& 63)) ||| ((iI x2).toInt64 &&& 4294967295)) hM.1 hM.2.2.2.1 hl24) (fun v h1 hY => ?_)
    obtain ⟨hv9, rfl⟩ := hY.1 (by omega)
    cases hv9
    obtain ⟨M2, f2⟩ := wrM_x hM (.int (iI 0))
    refine mi_icmp_eq (tgt := 1168) dc_La_law_208 (by decide) (iB_mk (by omega) (by omega)) (iB_mk (by omega) (by omega)) (fun h9 => ?_) (fun h9 => ?_)
    · refine mw_le (bc := bc) (bs := bs) (by omega) (by omega) ?_
      exact hx _ _ _ _ _ _ _ _ _ _ _ _ _ _ hP (wrC_f hC f2) M2
    · exact absurd rfl h9
theorem lw_gene {G : mm_G} {d bc bs : Nat} {X : mm_X} {n : Nat} {u : Nat → Nat → Int} {k : Nat → Nat} {a b : Nat → Nat → Nat} {l : Nat} {cc : Nat → Int} {c : Int} {st : Nat → Int} {cs : mm_Sh} {I : Nat → Nat → Int32} {J : Nat → Nat → Int64} {F : Nat → Nat → Option Nat} {V : Nat → Nat → Value} {i : Nat} {x1 x2 x3 : Int} (hst : G.1.stackTraces = false) (mf : MF) (hL : i + 4 ≤ G.2.2.2.2.1 ∧ G.2.2.2.2.1 ≤ 2048) (e1 : G.2.2.2.2.2 (i + 1) = iI x1) (e2 : G.2.2.2.2.2 (i + 2) = iI x2) (e3 : G.2.2.2.2.2 (i + 3) = iI x3) (b1 : iB x1) (b2 : iB x2) (b3 : iB x3) (hP : wrP n u k a b l cc c) (hC : wrC n u k a b l cc c st cs I J F V) (hM : wrM n u k a b l cc c st I J V)
    (hx : ∀ n u k a b l cc c st cs I J F V, wrP n u k a b l cc c → wrC n u k a b l cc c st cs I J F V → wrM n u k a b l cc c st I J V → mW G mt_law (d + 40) bc bs 1168 [(4, .int (iI (i : Nat))), (3, .ref 58), (2, .ref 39), (1, .ref 0), (0, .retAddr G.2.2.2.1)] [] (wd_S ++ cs, I, J, F, V) X) : mW G mt_law (d + 40) (bc + 8) (bs + 820) 282 [(4, .int (iI (i : Nat))), (3, .ref 58), (2, .ref 39), (1, .ref 0), (0, .retAddr G.2.2.2.1)] [] (wd_S ++ cs, I, J, F, V) X := by
  by_cases hc : okS x1 ∧ 0 ≤ x2 ∧ x2 < n
  · obtain ⟨y, rfl⟩ := Int.eq_ofNat_of_zero_le hc.1.1
    obtain ⟨z, rfl⟩ := Int.eq_ofNat_of_zero_le hc.2.1
    have hy5 : y < 5 := by have := hc.1.2; omega
    have hzn : z < n := by have := hc.2.2; omega
    refine mw_aload_n dc_La_law_282 rfl 3 rfl ?_
    refine mw_aload_nS dc_La_law_283 rfl 4 rfl ?_
    refine mw_iload dc_La_law_284 0 rfl ?_
    refine mi_const dc_La_law_286 ?_
    refine mi_iadd dc_La_law_287 ?_
    refine mi_sld dc_La_law_288 rfl ⟨by omega, by omega, by omega⟩ (v := iI (y : Int)) (by rw [show ((i : Int) + 1).toNat = i + 1 by omega]; exact e1) ?_
    refine mw_aload_nS dc_La_law_289 rfl 4 rfl ?_
    refine mw_iload dc_La_law_290 0 rfl ?_
    refine mi_const dc_La_law_292 ?_
    refine mi_iadd dc_La_law_293 ?_
    refine mi_sld dc_La_law_294 rfl ⟨by omega, by omega, by omega⟩ (v := iI (z : Int)) (by rw [show ((i : Int) + 2).toNat = i + 2 by omega]; exact e2) ?_
    refine mw_aload_n dc_La_law_295 rfl 1 rfl ?_
    refine mw_le (bc := bc + 2) (bs := bs + 12) (by omega) (by omega) ?_
    refine mw_callSW (M2 := mt_La_gene) (mc := 2) (ms := 12) (as := [.ref 0, .int (iI (y : Int)), .int (iI (z : Int)), .ref 58]) (st := []) dc_La_law_296 ml_La_99 ny_La_gene (by decide) rfl (Nat.le_of_ble_eq_true rfl) (ev_La_gene (ev_gene hst hC.1 hC.2.1 hP.1.2 b1 b2) (fun v h9 q => ⟨_, cs, I, J, F, V, Sum.inl.inj (q.2.1 hc), q.1⟩) (fun j h9 q => nomatch (q.2.1 hc))) (fun k9 h9 q9 => by rcases q9 with ⟨_, _, _, q9, _⟩ | ⟨_, _, q9, _⟩ <;> cases q9) (fun v h1 hY => ?_)
    rcases hY with ⟨x9, h9, q, hv9, rfl⟩ | ⟨h9, q, hv9, rfl⟩
    rotate_left
    · exact (nomatch (q.2.1 hc))
    cases hv9
    obtain ⟨rfl, q2, -⟩ := q
    have e9 := q2 hc
    have ex9 := Value.int.inj (Option.some.inj (Sum.inl.inj e9))
    subst ex9
    have M1 := wrM_f hM (frM_J (v := (I (sp (y : Int).toNat + 1) (z : Int).toNat).toInt64))
    refine mw_istore dc_La_law_299 (by decide) rfl ?_
    refine mw_aload_n dc_La_law_301 rfl 3 rfl ?_
    refine mw_aload_nS dc_La_law_302 rfl 5 rfl ?_
    refine mw_iload dc_La_law_303 1 rfl ?_
    refine mi_const dc_La_law_305 ?_
    refine mi_iadd dc_La_law_306 ?_
    refine mi_sld dc_La_law_307 rfl ⟨by omega, by omega, by omega⟩ (v := iI (y : Int)) (by rw [show ((i : Int) + 1).toNat = i + 1 by omega]; exact e1) ?_
    refine mw_aload_nS dc_La_law_308 rfl 5 rfl ?_
    refine mw_iload dc_La_law_309 1 rfl ?_
    refine mi_const dc_La_law_311 ?_
    refine mi_iadd dc_La_law_312 ?_
    refine mi_sld dc_La_law_313 rfl ⟨by omega, by omega, by omega⟩ (v := iI (z : Int)) (by rw [show ((i : Int) + 2).toNat = i + 2 by omega]; exact e2) ?_
    refine mz_V2 (M2 := mt_Mo_gene) dc_La_law_314 ml_La_102 rfl rfl ny_Mo_gene (by decide) (Nat.le_of_ble_eq_true rfl) (ev_mogene M1.1 M1.2.1 hP.1.2 b1 b2) (fun v h1 hY => ?_)
    obtain ⟨hv9, rfl⟩ := hY.1 hc
    cases hv9
    obtain ⟨M2, f2⟩ := wrM_x M1 (.int (iI 0))
    have ev9 : I (sp (y : Int).toNat + 1) (z : Int).toNat = I 40 (6 * (y : Int).toNat + (z : Int).toNat) := by rw [Int.toNat_natCast, Int.toNat_natCast, (hC.2.2.1 y hy5).1 z hzn, (hM.2.2.1 y hy5).1 z hzn]
    refine mw_istore dc_La_law_317 (by decide) rfl ?_
    refine mw_aload_n dc_La_law_319 rfl 4 rfl ?_
    refine mz_V0 (M2 := mt_Mo_thrown) dc_La_law_320 ml_La_80 rfl rfl ny_Mo_thrown (by decide) (Nat.le_of_ble_eq_true rfl) (ev_thrown (t := 0) (fu_at _ 39 0 _)) (fun v h1 hY => ?_)
    obtain ⟨hv9, rfl⟩ := hY
    cases hv9
    refine mw_iload dc_La_law_323 1 rfl ?_
    refine mi_icmp_eq (tgt := 330) dc_La_law_325 (by decide) (iB_mk (by omega) (by omega)) (iB_mk (by omega) (by omega)) (fun ht9 => ?_) (fun ht9 => ?_)
    · refine mw_iload dc_La_law_330 1 rfl ?_
      refine mi_if_ne (tgt := 347) dc_La_law_332 (by decide) (iB_mk (by omega) (by omega)) (fun hk9 => ?_) (fun hk9 => ?_)
      · exact absurd rfl hk9
      · refine mw_aload_n dc_La_law_335 rfl 3 rfl ?_
        refine mi_const dc_La_law_336 ?_
        refine mi_lald dc_La_law_337 rfl ⟨by decide, by decide, by decide⟩ (v := (I (sp (y : Int).toNat + 1) (z : Int).toNat).toInt64) (by rw [show (0 : Int).toNat = 0 from rfl]; exact up58_0 _ _) ?_
        refine mw_iload dc_La_law_338 0 rfl ?_
        refine mw_i2l dc_La_law_340 ?_
        refine mw_lcmp dc_La_law_341 ?_

        refine mw_if_eq (tgt := 347) dc_La_law_342 (by decide) (fun hq9 => ?_) (fun hq9 => ?_)
        · refine mw_goto (tgt := 1168) dc_La_law_347 (by decide) ?_
          refine mw_pick [2, 3, 4, 5, 6] rfl ?_
          exact hx _ _ _ _ _ _ _ _ _ _ _ _ _ _ hP (wrC_f (wrC_J hC) f2) M2
        · exact absurd (lg_eq (by rw [ev9])) hq9
    · exact absurd rfl ht9
  · refine mw_aload_n dc_La_law_282 rfl 3 rfl ?_
    refine mw_aload_nS dc_La_law_283 rfl 4 rfl ?_
    refine mw_iload dc_La_law_284 0 rfl ?_
    refine mi_const dc_La_law_286 ?_
    refine mi_iadd dc_La_law_287 ?_
    refine mi_sld dc_La_law_288 rfl ⟨by omega, by omega, by omega⟩ (v := iI x1) (by rw [show ((i : Int) + 1).toNat = i + 1 by omega]; exact e1) ?_
    refine mw_aload_nS dc_La_law_289 rfl 4 rfl ?_
    refine mw_iload dc_La_law_290 0 rfl ?_
    refine mi_const dc_La_law_292 ?_
    refine mi_iadd dc_La_law_293 ?_
    refine mi_sld dc_La_law_294 rfl ⟨by omega, by omega, by omega⟩ (v := iI x2) (by rw [show ((i : Int) + 2).toNat = i + 2 by omega]; exact e2) ?_
    refine mw_aload_n dc_La_law_295 rfl 1 rfl ?_
    refine mw_le (bc := bc + 2) (bs := bs + 12) (by omega) (by omega) ?_
    refine mw_callSW (M2 := mt_La_gene) (mc := 2) (ms := 12) (as := [.ref 0, .int (iI x1), .int (iI x2), .ref 58]) (st := []) dc_La_law_296 ml_La_99 ny_La_gene (by decide) rfl (Nat.le_of_ble_eq_true rfl) (ev_La_gene (ev_gene hst hC.1 hC.2.1 hP.1.2 b1 b2) (fun v h9 q => nomatch (q.2.2 hc)) (fun j h9 q => Sum.inr.inj (q.2.2 hc))) (fun k9 h9 q9 => by rcases q9 with ⟨_, _, _, q9, _⟩ | ⟨_, _, q9, _⟩ <;> cases q9) (fun v h1 hY => ?_)
    rcases hY with ⟨x9, h9, q, hv9, rfl⟩ | ⟨h9, q, hv9, rfl⟩
    · exact (nomatch (q.2.2 hc))
    cases hv9
    obtain ⟨rfl, -⟩ := q
    refine mw_istore dc_La_law_299 (by decide) rfl ?_
    refine mw_aload_n dc_La_law_301 rfl 3 rfl ?_
    refine mw_aload_nS dc_La_law_302 rfl 5 rfl ?_
    refine mw_iload dc_La_law_303 1 rfl ?_
    refine mi_const dc_La_law_305 ?_
    refine mi_iadd dc_La_law_306 ?_
    refine mi_sld dc_La_law_307 rfl ⟨by omega, by omega, by omega⟩ (v := iI x1) (by rw [show ((i : Int) + 1).toNat = i + 1 by omega]; exact e1) ?_
    refine mw_aload_nS dc_La_law_308 rfl 5 rfl ?_
    refine mw_iload dc_La_law_309 1 rfl ?_
    refine mi_const dc_La_law_311 ?_
    refine mi_iadd dc_La_law_312 ?_
    refine mi_sld dc_La_law_313 rfl ⟨by omega, by omega, by omega⟩ (v := iI x2) (by rw [show ((i : Int) + 2).toNat = i + 2 by omega]; exact e2) ?_
    refine mz_V2 (M2 := mt_Mo_gene) dc_La_law_314 ml_La_102 rfl rfl ny_Mo_gene (by decide) (Nat.le_of_ble_eq_true rfl) (ev_mogene hM.1 hM.2.1 hP.1.2 b1 b2) (fun v h1 hY => ?_)
    obtain ⟨hv9, rfl⟩ := hY.2 hc
    cases hv9
    obtain ⟨M2, f2⟩ := wrM_x hM (.int (iI 1))
    refine mw_istore dc_La_law_317 (by decide) rfl ?_
    refine mw_aload_n dc_La_law_319 rfl 4 rfl ?_
    refine mz_V0 (M2 := mt_Mo_thrown) dc_La_law_320 ml_La_80 rfl rfl ny_Mo_thrown (by decide) (Nat.le_of_ble_eq_true rfl) (ev_thrown (t := 1) (fu_at _ 39 0 _)) (fun v h1 hY => ?_)
    obtain ⟨hv9, rfl⟩ := hY
    cases hv9
    refine mw_iload dc_La_law_323 1 rfl ?_
    refine mi_icmp_eq (tgt := 330) dc_La_law_325 (by decide) (iB_mk (by omega) (by omega)) (iB_mk (by omega) (by omega)) (fun ht9 => ?_) (fun ht9 => ?_)
    · refine mw_iload dc_La_law_330 1 rfl ?_
      refine mi_if_ne (tgt := 347) dc_La_law_332 (by decide) (iB_mk (by omega) (by omega)) (fun hk9 => ?_) (fun hk9 => ?_)
      · refine mw_goto (tgt := 1168) dc_La_law_347 (by decide) ?_
        refine mw_pick [2, 3, 4, 5, 6] rfl ?_
        exact hx _ _ _ _ _ _ _ _ _ _ _ _ _ _ hP (wrC_f hC f2) M2
      · exact absurd hk9 (by decide)
    · exact absurd rfl ht9
theorem lw_copy {G : mm_G} {d bc bs : Nat} {X : mm_X} {n : Nat} {u : Nat → Nat → Int} {k : Nat → Nat} {a b : Nat → Nat → Nat} {l : Nat} {cc : Nat → Int} {c : Int} {st : Nat → Int} {cs : mm_Sh} {I : Nat → Nat → Int32} {J : Nat → Nat → Int64} {F : Nat → Nat → Option Nat} {V : Nat → Nat → Value} {i : Nat} {x1 x2 x3 : Int} (hst : G.1.stackTraces = false) (mf : MF) (hL : i + 4 ≤ G.2.2.2.2.1 ∧ G.2.2.2.2.1 ≤ 2048) (e1 : G.2.2.2.2.2 (i + 1) = iI x1) (e2 : G.2.2.2.2.2 (i + 2) = iI x2) (e3 : G.2.2.2.2.2 (i + 3) = iI x3) (b1 : iB x1) (b2 : iB x2) (b3 : iB x3) (hP : wrP n u k a b l cc c) (hC : wrC n u k a b l cc c st cs I J F V) (hM : wrM n u k a b l cc c st I J V)
    (hx : ∀ n u k a b l cc c st cs I J F V, wrP n u k a b l cc c → wrC n u k a b l cc c st cs I J F V → wrM n u k a b l cc c st I J V → mW G mt_law (d + 40) bc bs 1168 [(4, .int (iI (i : Nat))), (3, .ref 58), (2, .ref 39), (1, .ref 0), (0, .retAddr G.2.2.2.1)] [] (wd_S ++ cs, I, J, F, V) X) : mW G mt_law (d + 40) (bc + 8) (bs + 820) 350 [(4, .int (iI (i : Nat))), (3, .ref 58), (2, .ref 39), (1, .ref 0), (0, .retAddr G.2.2.2.1)] [] (wd_S ++ cs, I, J, F, V) X := by
  by_cases hc : okS x1 ∧ okS x2
  · obtain ⟨y, rfl⟩ := Int.eq_ofNat_of_zero_le hc.1.1
    obtain ⟨z, rfl⟩ := Int.eq_ofNat_of_zero_le hc.2.1
    have hy5 : y < 5 := by have := hc.1.2; omega
    have hz5 : z < 5 := by have := hc.2.2; omega
    refine mw_aload_n dc_La_law_350 rfl 3 rfl ?_
    refine mw_aload_nS dc_La_law_351 rfl 4 rfl ?_
    refine mw_iload dc_La_law_352 0 rfl ?_
    refine mi_const dc_La_law_354 ?_
    refine mi_iadd dc_La_law_355 ?_
    refine mi_sld dc_La_law_356 rfl ⟨by omega, by omega, by omega⟩ (v := iI (y : Int)) (by rw [show ((i : Int) + 1).toNat = i + 1 by omega]; exact e1) ?_
    refine mw_aload_nS dc_La_law_357 rfl 4 rfl ?_
    refine mw_iload dc_La_law_358 0 rfl ?_
    refine mi_const dc_La_law_360 ?_
    refine mi_iadd dc_La_law_361 ?_
    refine mi_sld dc_La_law_362 rfl ⟨by omega, by omega, by omega⟩ (v := iI (z : Int)) (by rw [show ((i : Int) + 2).toNat = i + 2 by omega]; exact e2) ?_
    refine mw_le (bc := bc + 2) (bs := bs + 12) (by omega) (by omega) ?_
    refine mw_callSW (M2 := mt_La_copy) (mc := 2) (ms := 12) (as := [.ref 0, .int (iI (y : Int)), .int (iI (z : Int))]) (st := []) dc_La_law_363 ml_La_103 ny_La_copy (by decide) rfl (Nat.le_of_ble_eq_true rfl) (ev_La_copy (ev_copy hst hC.1 b1 b2) (fun v h9 q => Sum.inl.inj (q.1 hc).1) (fun j h9 q => nomatch (q.1 hc).1)) (fun k9 h9 q9 => by rcases q9 with ⟨_, _, q9, _⟩ | ⟨_, _, q9, _⟩ <;> cases q9) (fun v h1 hY => ?_)
    rcases hY with ⟨h9, q, hv9, rfl⟩ | ⟨h9, q, hv9, rfl⟩
    rotate_left
    · exact (nomatch ((q.1 hc).1))
    cases hv9
    obtain ⟨-, rfl⟩ := q.1 hc
    obtain ⟨C1, f1⟩ := C_copy hC hP.1.2 hy5 hz5
    have M1 := wrM_f hM f1
    refine mw_istore dc_La_law_366 (by decide) rfl ?_
    refine mw_aload_n dc_La_law_368 rfl 3 rfl ?_
    refine mw_aload_nS dc_La_law_369 rfl 5 rfl ?_
    refine mw_iload dc_La_law_370 1 rfl ?_
    refine mi_const dc_La_law_372 ?_
    refine mi_iadd dc_La_law_373 ?_
    refine mi_sld dc_La_law_374 rfl ⟨by omega, by omega, by omega⟩ (v := iI (y : Int)) (by rw [show ((i : Int) + 1).toNat = i + 1 by omega]; exact e1) ?_
    refine mw_aload_nS dc_La_law_375 rfl 5 rfl ?_
    refine mw_iload dc_La_law_376 1 rfl ?_
    refine mi_const dc_La_law_378 ?_
    refine mi_iadd dc_La_law_379 ?_
    refine mi_sld dc_La_law_380 rfl ⟨by omega, by omega, by omega⟩ (v := iI (z : Int)) (by rw [show ((i : Int) + 2).toNat = i + 2 by omega]; exact e2) ?_
    refine mz_V2 (M2 := mt_Mo_copy) dc_La_law_381 ml_La_106 rfl rfl ny_Mo_copy (by decide) (Nat.le_of_ble_eq_true rfl) (ev_mocopy M1.1 M1.2.1 hP.1.2 b1 b2) (fun v h1 hY => ?_)
    obtain ⟨hv9, hg9, -⟩ := hY
    cases hv9
    cases hg9 hc
    obtain ⟨M2, f2⟩ := M_copy M1 hP hy5 hz5 (.int (iI 0))
    refine mw_aload_n dc_La_law_384 rfl 3 rfl ?_
    refine mz_V0 (M2 := mt_Mo_thrown) dc_La_law_385 ml_La_80 rfl rfl ny_Mo_thrown (by decide) (Nat.le_of_ble_eq_true rfl) (ev_thrown (t := 0) (fu_at _ 39 0 _)) (fun v h1 hY => ?_)
    obtain ⟨hv9, rfl⟩ := hY
    cases hv9
    refine mw_iload dc_La_law_388 0 rfl ?_
    refine mi_icmp_eq (tgt := 395) dc_La_law_390 (by decide) (iB_mk (by omega) (by omega)) (iB_mk (by omega) (by omega)) (fun ht9 => ?_) (fun ht9 => ?_)
    · refine mw_goto (tgt := 1168) dc_La_law_395 (by decide) ?_
      refine mw_pick [1, 2, 3, 4, 5] rfl ?_
      exact hx _ _ _ _ _ _ _ _ _ _ _ _ _ _ (wrP_u hP (hP.2.1 y hy5).1 (by omega) (fun m hm => absurd hm (Nat.not_lt_zero _))) (wrC_f C1 f2) M2
    · exact absurd rfl ht9
  · refine mw_aload_n dc_La_law_350 rfl 3 rfl ?_
    refine mw_aload_nS dc_La_law_351 rfl 4 rfl ?_
    refine mw_iload dc_La_law_352 0 rfl ?_
    refine mi_const dc_La_law_354 ?_
    refine mi_iadd dc_La_law_355 ?_
    refine mi_sld dc_La_law_356 rfl ⟨by omega, by omega, by omega⟩ (v := iI x1) (by rw [show ((i : Int) + 1).toNat = i + 1 by omega]; exact e1) ?_
    refine mw_aload_nS dc_La_law_357 rfl 4 rfl ?_
    refine mw_iload dc_La_law_358 0 rfl ?_
    refine mi_const dc_La_law_360 ?_
    refine mi_iadd dc_La_law_361 ?_
    refine mi_sld dc_La_law_362 rfl ⟨by omega, by omega, by omega⟩ (v := iI x2) (by rw [show ((i : Int) + 2).toNat = i + 2 by omega]; exact e2) ?_
    refine mw_le (bc := bc + 2) (bs := bs + 12) (by omega) (by omega) ?_
    refine mw_callSW (M2 := mt_La_copy) (mc := 2) (ms := 12) (as := [.ref 0, .int (iI x1), .int (iI x2)]) (st := []) dc_La_law_363 ml_La_103 ny_La_copy (by decide) rfl (Nat.le_of_ble_eq_true rfl) (ev_La_copy (ev_copy hst hC.1 b1 b2) (fun v h9 q => nomatch (q.2 hc).1) (fun j h9 q => Sum.inr.inj (q.2 hc).1)) (fun k9 h9 q9 => by rcases q9 with ⟨_, _, q9, _⟩ | ⟨_, _, q9, _⟩ <;> cases q9) (fun v h1 hY => ?_)
    rcases hY with ⟨h9, q, hv9, rfl⟩ | ⟨h9, q, hv9, rfl⟩
    · exact (nomatch ((q.2 hc).1))
    cases hv9
    obtain ⟨-, rfl⟩ := q.2 hc
    refine mw_istore dc_La_law_366 (by decide) rfl ?_
    refine mw_aload_n dc_La_law_368 rfl 3 rfl ?_
    refine mw_aload_nS dc_La_law_369 rfl 5 rfl ?_
    refine mw_iload dc_La_law_370 1 rfl ?_
    refine mi_const dc_La_law_372 ?_
    refine mi_iadd dc_La_law_373 ?_
    refine mi_sld dc_La_law_374 rfl ⟨by omega, by omega, by omega⟩ (v := iI x1) (by rw [show ((i : Int) + 1).toNat = i + 1 by omega]; exact e1) ?_
    refine mw_aload_nS dc_La_law_375 rfl 5 rfl ?_
    refine mw_iload dc_La_law_376 1 rfl ?_
    refine mi_const dc_La_law_378 ?_
    refine mi_iadd dc_La_law_379 ?_
    refine mi_sld dc_La_law_380 rfl ⟨by omega, by omega, by omega⟩ (v := iI x2) (by rw [show ((i : Int) + 2).toNat = i + 2 by omega]; exact e2) ?_
    refine mz_V2 (M2 := mt_Mo_copy) dc_La_law_381 ml_La_106 rfl rfl ny_Mo_copy (by decide) (Nat.le_of_ble_eq_true rfl) (ev_mocopy hM.1 hM.2.1 hP.1.2 b1 b2) (fun v h1 hY => ?_)
    obtain ⟨hv9, -, hg9⟩ := hY
    cases hv9
    cases hg9 hc
    obtain ⟨M2, f2⟩ := wrM_x hM (.int (iI 1))
    refine mw_aload_n dc_La_law_384 rfl 3 rfl ?_
    refine mz_V0 (M2 := mt_Mo_thrown) dc_La_law_385 ml_La_80 rfl rfl ny_Mo_thrown (by decide) (Nat.le_of_ble_eq_true rfl) (ev_thrown (t := 1) (fu_at _ 39 0 _)) (fun v h1 hY => ?_)
    obtain ⟨hv9, rfl⟩ := hY
    cases hv9
    refine mw_iload dc_La_law_388 0 rfl ?_
    refine mi_icmp_eq (tgt := 395) dc_La_law_390 (by decide) (iB_mk (by omega) (by omega)) (iB_mk (by omega) (by omega)) (fun ht9 => ?_) (fun ht9 => ?_)
    · refine mw_goto (tgt := 1168) dc_La_law_395 (by decide) ?_
      refine mw_pick [1, 2, 3, 4, 5] rfl ?_
      exact hx _ _ _ _ _ _ _ _ _ _ _ _ _ _ hP (wrC_f hC f2) M2
    · exact absurd rfl ht9
theorem lw_reverse {G : mm_G} {d bc bs : Nat} {X : mm_X} {n : Nat} {u : Nat → Nat → Int} {k : Nat → Nat} {a b : Nat → Nat → Nat} {l : Nat} {cc : Nat → Int} {c : Int} {st : Nat → Int} {cs : mm_Sh} {I : Nat → Nat → Int32} {J : Nat → Nat → Int64} {F : Nat → Nat → Option Nat} {V : Nat → Nat → Value} {i : Nat} {x1 x2 x3 : Int} (hst : G.1.stackTraces = false) (mf : MF) (hL : i + 4 ≤ G.2.2.2.2.1 ∧ G.2.2.2.2.1 ≤ 2048) (e1 : G.2.2.2.2.2 (i + 1) = iI x1) (e2 : G.2.2.2.2.2 (i + 2) = iI x2) (e3 : G.2.2.2.2.2 (i + 3) = iI x3) (b1 : iB x1) (b2 : iB x2) (b3 : iB x3) (hP : wrP n u k a b l cc c) (hC : wrC n u k a b l cc c st cs I J F V) (hM : wrM n u k a b l cc c st I J V)
    (hx : ∀ n u k a b l cc c st cs I J F V, wrP n u k a b l cc c → wrC n u k a b l cc c st cs I J F V → wrM n u k a b l cc c st I J V → mW G mt_law (d + 40) bc bs 1168 [(4, .int (iI (i : Nat))), (3, .ref 58), (2, .ref 39), (1, .ref 0), (0, .retAddr G.2.2.2.1)] [] (wd_S ++ cs, I, J, F, V) X) : mW G mt_law (d + 40) (bc + 8) (bs + 820) 398 [(4, .int (iI (i : Nat))), (3, .ref 58), (2, .ref 39), (1, .ref 0), (0, .retAddr G.2.2.2.1)] [] (wd_S ++ cs, I, J, F, V) X := by
  have hk1 : okS x1 → V (sp x1.toNat) 3 = .int (iI (k x1.toNat : Nat)) ∧ k x1.toNat ≤ 8 := fun q => ⟨(hC.2.2.1 x1.toNat (by omega)).2.1, (hP.2.1 x1.toNat (by omega)).2.1⟩
  by_cases hc : okS x1 ∧ 0 ≤ x2 ∧ x3 < n ∧ x2 ≤ x3
  · obtain ⟨y, rfl⟩ := Int.eq_ofNat_of_zero_le hc.1.1
    obtain ⟨z, rfl⟩ := Int.eq_ofNat_of_zero_le hc.2.1
    obtain ⟨t, rfl⟩ := Int.eq_ofNat_of_zero_le (show 0 ≤ x3 by omega)
    have hy5 : y < 5 := by have := hc.1.2; omega
    have htn : t < n := by omega
    have hzt : z ≤ t := by omega
    refine mw_aload_n dc_La_law_398 rfl 3 rfl ?_
    refine mw_aload_nS dc_La_law_399 rfl 4 rfl ?_
    refine mw_iload dc_La_law_400 0 rfl ?_
    refine mi_const dc_La_law_402 ?_
    refine mi_iadd dc_La_law_403 ?_
    refine mi_sld dc_La_law_404 rfl ⟨by omega, by omega, by omega⟩ (v := iI (y : Int)) (by rw [show ((i : Int) + 1).toNat = i + 1 by omega]; exact e1) ?_
    refine mw_aload_nS dc_La_law_405 rfl 4 rfl ?_
    refine mw_iload dc_La_law_406 0 rfl ?_
    refine mi_const dc_La_law_408 ?_
    refine mi_iadd dc_La_law_409 ?_
    refine mi_sld dc_La_law_410 rfl ⟨by omega, by omega, by omega⟩ (v := iI (z : Int)) (by rw [show ((i : Int) + 2).toNat = i + 2 by omega]; exact e2) ?_
    refine mw_aload_nS dc_La_law_411 rfl 4 rfl ?_
    refine mw_iload dc_La_law_412 0 rfl ?_
    refine mi_const dc_La_law_414 ?_
    refine mi_iadd dc_La_law_415 ?_
    refine mi_sld dc_La_law_416 rfl ⟨by omega, by omega, by omega⟩ (v := iI (t : Int)) (by rw [show ((i : Int) + 3).toNat = i + 3 by omega]; exact e3) ?_
    refine mw_le (bc := bc + 2) (bs := bs + 12) (by omega) (by omega) ?_
    refine mw_callSW (M2 := mt_La_reverse) (mc := 2) (ms := 12) (as := [.ref 0, .int (iI (y : Int)), .int (iI (z : Int)), .int (iI (t : Int))]) (st := []) dc_La_law_417 ml_La_107 ny_La_reverse (by decide) rfl (Nat.le_of_ble_eq_true rfl) (ev_La_reverse (ev_reverse hst hC.1 hC.2.1 hP.1.2 b1 b2 b3 hk1) (fun v h9 q => Sum.inl.inj (q.1 hc).1) (fun j h9 q => nomatch (q.1 hc).1)) (fun k9 h9 q9 => by rcases q9 with ⟨_, _, q9, _⟩ | ⟨_, _, q9, _⟩ <;> cases q9) (fun v h1 hY => ?_)
    rcases hY with ⟨h9, q, hv9, rfl⟩ | ⟨h9, q, hv9, rfl⟩
    rotate_left
    · exact (nomatch ((q.1 hc).1))
    cases hv9
    obtain ⟨-, rfl⟩ := q.1 hc
    obtain ⟨C1, f1⟩ := C_rev (i := z) (j := t) hC hP hy5 htn
    have M1 := wrM_f hM f1
    refine mw_istore dc_La_law_420 (by decide) rfl ?_
    refine mw_aload_n dc_La_law_422 rfl 3 rfl ?_
    refine mw_aload_nS dc_La_law_423 rfl 5 rfl ?_
    refine mw_iload dc_La_law_424 1 rfl ?_
    refine mi_const dc_La_law_426 ?_
    refine mi_iadd dc_La_law_427 ?_
    refine mi_sld dc_La_law_428 rfl ⟨by omega, by omega, by omega⟩ (v := iI (y : Int)) (by rw [show ((i : Int) + 1).toNat = i + 1 by omega]; exact e1) ?_
    refine mw_aload_nS dc_La_law_429 rfl 5 rfl ?_
    refine mw_iload dc_La_law_430 1 rfl ?_
    refine mi_const dc_La_law_432 ?_
    refine mi_iadd dc_La_law_433 ?_
    refine mi_sld dc_La_law_434 rfl ⟨by omega, by omega, by omega⟩ (v := iI (z : Int)) (by rw [show ((i : Int) + 2).toNat = i + 2 by omega]; exact e2) ?_
    refine mw_aload_nS dc_La_law_435 rfl 5 rfl ?_
    refine mw_iload dc_La_law_436 1 rfl ?_
    refine mi_const dc_La_law_438 ?_
    refine mi_iadd dc_La_law_439 ?_
    refine mi_sld dc_La_law_440 rfl ⟨by omega, by omega, by omega⟩ (v := iI (t : Int)) (by rw [show ((i : Int) + 3).toNat = i + 3 by omega]; exact e3) ?_
    refine mz_V3 (M2 := mt_Mo_reverse) dc_La_law_441 ml_La_110 rfl rfl ny_Mo_reverse (by decide) (Nat.le_of_ble_eq_true rfl) (ev_moreverse M1.1 M1.2.1 hP.1.2 b1 b2 b3 (fun q => ⟨(M1.2.2.1 y hy5).2.1, (hP.2.1 y hy5).2.1⟩)) (fun v h1 hY => ?_)
    obtain ⟨hv9, hg9, -⟩ := hY
    cases hv9
    cases hg9 ⟨hc.1, hc.2.1, hc.2.2.2, hc.2.2.1⟩
    obtain ⟨M2, f2⟩ := M_rev (i := z) (j := t) M1 hP hy5 htn (.int (iI 0))
    refine mw_aload_n dc_La_law_444 rfl 3 rfl ?_
    refine mz_V0 (M2 := mt_Mo_thrown) dc_La_law_445 ml_La_80 rfl rfl ny_Mo_thrown (by decide) (Nat.le_of_ble_eq_true rfl) (ev_thrown (t := 0) (fu_at _ 39 0 _)) (fun v h1 hY => ?_)
    obtain ⟨hv9, rfl⟩ := hY
    cases hv9
    refine mw_iload dc_La_law_448 0 rfl ?_
    refine mi_icmp_eq (tgt := 455) dc_La_law_450 (by decide) (iB_mk (by omega) (by omega)) (iB_mk (by omega) (by omega)) (fun ht9 => ?_) (fun ht9 => ?_)
    · refine mw_goto (tgt := 1168) dc_La_law_455 (by decide) ?_
      refine mw_pick [1, 2, 3, 4, 5] rfl ?_
      exact hx _ _ _ _ _ _ _ _ _ _ _ _ _ _ (P_rev hP hy5 hzt htn) (wrC_f C1 f2) M2
    · exact absurd rfl ht9
  · refine mw_aload_n dc_La_law_398 rfl 3 rfl ?_
    refine mw_aload_nS dc_La_law_399 rfl 4 rfl ?_
    refine mw_iload dc_La_law_400 0 rfl ?_
    refine mi_const dc_La_law_402 ?_
    refine mi_iadd dc_La_law_403 ?_
    refine mi_sld dc_La_law_404 rfl ⟨by omega, by omega, by omega⟩ (v := iI x1) (by rw [show ((i : Int) + 1).toNat = i + 1 by omega]; exact e1) ?_
    refine mw_aload_nS dc_La_law_405 rfl 4 rfl ?_
    refine mw_iload dc_La_law_406 0 rfl ?_
    refine mi_const dc_La_law_408 ?_
    refine mi_iadd dc_La_law_409 ?_
    refine mi_sld dc_La_law_410 rfl ⟨by omega, by omega, by omega⟩ (v := iI x2) (by rw [show ((i : Int) + 2).toNat = i + 2 by omega]; exact e2) ?_
    refine mw_aload_nS dc_La_law_411 rfl 4 rfl ?_
    refine mw_iload dc_La_law_412 0 rfl ?_
    refine mi_const dc_La_law_414 ?_
    refine mi_iadd dc_La_law_415 ?_
    refine mi_sld dc_La_law_416 rfl ⟨by omega, by omega, by omega⟩ (v := iI x3) (by rw [show ((i : Int) + 3).toNat = i + 3 by omega]; exact e3) ?_
    refine mw_le (bc := bc + 2) (bs := bs + 12) (by omega) (by omega) ?_
    refine mw_callSW (M2 := mt_La_reverse) (mc := 2) (ms := 12) (as := [.ref 0, .int (iI x1), .int (iI x2), .int (iI x3)]) (st := []) dc_La_law_417 ml_La_107 ny_La_reverse (by decide) rfl (Nat.le_of_ble_eq_true rfl) (ev_La_reverse (ev_reverse hst hC.1 hC.2.1 hP.1.2 b1 b2 b3 hk1) (fun v h9 q => nomatch (q.2 hc).1) (fun j h9 q => Sum.inr.inj (q.2 hc).1)) (fun k9 h9 q9 => by rcases q9 with ⟨_, _, q9, _⟩ | ⟨_, _, q9, _⟩ <;> cases q9) (fun v h1 hY => ?_)
    rcases hY with ⟨h9, q, hv9, rfl⟩ | ⟨h9, q, hv9, rfl⟩
    · exact (nomatch ((q.2 hc).1))
    cases hv9
    obtain ⟨-, rfl⟩ := q.2 hc
    refine mw_istore dc_La_law_420 (by decide) rfl ?_
    refine mw_aload_n dc_La_law_422 rfl 3 rfl ?_
    refine mw_aload_nS dc_La_law_423 rfl 5 rfl ?_
    refine mw_iload dc_La_law_424 1 rfl ?_
    refine mi_const dc_La_law_426 ?_
    refine mi_iadd dc_La_law_427 ?_
    refine mi_sld dc_La_law_428 rfl ⟨by omega, by omega, by omega⟩ (v := iI x1) (by rw [show ((i : Int) + 1).toNat = i + 1 by omega]; exact e1) ?_
    refine mw_aload_nS dc_La_law_429 rfl 5 rfl ?_
    refine mw_iload dc_La_law_430 1 rfl ?_
    refine mi_const dc_La_law_432 ?_
    refine mi_iadd dc_La_law_433 ?_
    refine mi_sld dc_La_law_434 rfl ⟨by omega, by omega, by omega⟩ (v := iI x2) (by rw [show ((i : Int) + 2).toNat = i + 2 by omega]; exact e2) ?_
    refine mw_aload_nS dc_La_law_435 rfl 5 rfl ?_
    refine mw_iload dc_La_law_436 1 rfl ?_
    refine mi_const dc_La_law_438 ?_
    refine mi_iadd dc_La_law_439 ?_
    refine mi_sld dc_La_law_440 rfl ⟨by omega, by omega, by omega⟩ (v := iI x3) (by rw [show ((i : Int) + 3).toNat = i + 3 by omega]; exact e3) ?_
    refine mz_V3 (M2 := mt_Mo_reverse) dc_La_law_441 ml_La_110 rfl rfl ny_Mo_reverse (by decide) (Nat.le_of_ble_eq_true rfl) (ev_moreverse (k := k x1.toNat) hM.1 hM.2.1 hP.1.2 b1 b2 b3 (fun q => ⟨(hM.2.2.1 x1.toNat (by omega)).2.1, (hP.2.1 x1.toNat (by omega)).2.1⟩)) (fun v h1 hY => ?_)
    obtain ⟨hv9, -, hg9⟩ := hY
    cases hv9
    cases hg9 (fun q => hc ⟨q.1, q.2.1, q.2.2.2, q.2.2.1⟩)
    obtain ⟨M2, f2⟩ := wrM_x hM (.int (iI 1))
    refine mw_aload_n dc_La_law_444 rfl 3 rfl ?_
    refine mz_V0 (M2 := mt_Mo_thrown) dc_La_law_445 ml_La_80 rfl rfl ny_Mo_thrown (by decide) (Nat.le_of_ble_eq_true rfl) (ev_thrown (t := 1) (fu_at _ 39 0 _)) (fun v h1 hY => ?_)
    obtain ⟨hv9, rfl⟩ := hY
    cases hv9
    refine mw_iload dc_La_law_448 0 rfl ?_
    refine mi_icmp_eq (tgt := 455) dc_La_law_450 (by decide) (iB_mk (by omega) (by omega)) (iB_mk (by omega) (by omega)) (fun ht9 => ?_) (fun ht9 => ?_)
    · refine mw_goto (tgt := 1168) dc_La_law_455 (by decide) ?_
      refine mw_pick [1, 2, 3, 4, 5] rfl ?_
      exact hx _ _ _ _ _ _ _ _ _ _ _ _ _ _ hP (wrC_f hC f2) M2
    · exact absurd rfl ht9
theorem lw_undo {G : mm_G} {d bc bs : Nat} {X : mm_X} {n : Nat} {u : Nat → Nat → Int} {k : Nat → Nat} {a b : Nat → Nat → Nat} {l : Nat} {cc : Nat → Int} {c : Int} {st : Nat → Int} {cs : mm_Sh} {I : Nat → Nat → Int32} {J : Nat → Nat → Int64} {F : Nat → Nat → Option Nat} {V : Nat → Nat → Value} {i : Nat} {x1 x2 x3 : Int} (hst : G.1.stackTraces = false) (mf : MF) (hL : i + 4 ≤ G.2.2.2.2.1 ∧ G.2.2.2.2.1 ≤ 2048) (e1 : G.2.2.2.2.2 (i + 1) = iI x1) (e2 : G.2.2.2.2.2 (i + 2) = iI x2) (e3 : G.2.2.2.2.2 (i + 3) = iI x3) (b1 : iB x1) (b2 : iB x2) (b3 : iB x3) (hP : wrP n u k a b l cc c) (hC : wrC n u k a b l cc c st cs I J F V) (hM : wrM n u k a b l cc c st I J V)
    (hx : ∀ n u k a b l cc c st cs I J F V, wrP n u k a b l cc c → wrC n u k a b l cc c st cs I J F V → wrM n u k a b l cc c st I J V → mW G mt_law (d + 40) bc bs 1168 [(4, .int (iI (i : Nat))), (3, .ref 58), (2, .ref 39), (1, .ref 0), (0, .retAddr G.2.2.2.1)] [] (wd_S ++ cs, I, J, F, V) X) : mW G mt_law (d + 40) (bc + 8) (bs + 820) 458 [(4, .int (iI (i : Nat))), (3, .ref 58), (2, .ref 39), (1, .ref 0), (0, .retAddr G.2.2.2.1)] [] (wd_S ++ cs, I, J, F, V) X := by
  have hk1 : okS x1 → V (sp x1.toNat) 3 = .int (iI (k x1.toNat : Nat)) ∧ k x1.toNat ≤ 8 ∧ (0 < k x1.toNat → I (sp x1.toNat + 2) (k x1.toNat - 1) = iI (a x1.toNat (k x1.toNat - 1) : Nat) ∧ I (sp x1.toNat + 3) (k x1.toNat - 1) = iI (b x1.toNat (k x1.toNat - 1) : Nat) ∧ a x1.toNat (k x1.toNat - 1) ≤ b x1.toNat (k x1.toNat - 1) ∧ b x1.toNat (k x1.toNat - 1) < 6) := fun q => ⟨(hC.2.2.1 x1.toNat (by omega)).2.1, (hP.2.1 x1.toNat (by omega)).2.1, fun q2 => ⟨((hC.2.2.1 x1.toNat (by omega)).2.2 _ (by omega)).1, ((hC.2.2.1 x1.toNat (by omega)).2.2 _ (by omega)).2, ((hP.2.1 x1.toNat (by omega)).2.2 _ (by omega)).1, by have := ((hP.2.1 x1.toNat (by omega)).2.2 _ (show k x1.toNat - 1 < k x1.toNat by omega)).2; have := hP.1.2; omega⟩⟩
  by_cases hc : okS x1
  · by_cases hk : k x1.toNat = 0
    · refine mw_aload_n dc_La_law_458 rfl 3 rfl ?_
      refine mw_aload_nS dc_La_law_459 rfl 4 rfl ?_
      refine mw_iload dc_La_law_460 0 rfl ?_
      refine mi_const dc_La_law_462 ?_
      refine mi_iadd dc_La_law_463 ?_
      refine mi_sld dc_La_law_464 rfl ⟨by omega, by omega, by omega⟩ (v := iI x1) (by rw [show ((i : Int) + 1).toNat = i + 1 by omega]; exact e1) ?_
      refine mw_aload_n dc_La_law_465 rfl 1 rfl ?_
      refine mw_le (bc := bc + 1) (bs := bs + 6) (by omega) (by omega) ?_
      refine mw_callSW (M2 := mt_La_undo) (mc := 1) (ms := 6) (as := [.ref 0, .int (iI x1), .ref 58]) (st := []) dc_La_law_466 ml_La_111 ny_La_undo (by decide) rfl (Nat.le_of_ble_eq_true rfl) (ev_La_undo (ev_undo hst hC.1 b1 hk1) (fun v h9 q => ⟨_, cs, I, J, F, V, Sum.inl.inj (q.1 ⟨hc, hk⟩).1, (q.1 ⟨hc, hk⟩).2⟩) (fun j h9 q => nomatch (q.1 ⟨hc, hk⟩).1)) (fun k9 h9 q9 => by rcases q9 with ⟨_, _, _, q9, _⟩ | ⟨_, _, q9, _⟩ <;> cases q9) (fun v h1 hY => ?_)
      rcases hY with ⟨x9, h9, q, hv9, rfl⟩ | ⟨h9, q, hv9, rfl⟩
      rotate_left
      · exact (nomatch ((q.1 ⟨hc, hk⟩).1))
      cases hv9
      obtain ⟨e9, rfl⟩ := q.1 ⟨hc, hk⟩
      have ex9 := Value.int.inj (Option.some.inj (Sum.inl.inj e9))
      subst ex9
      have M1 := wrM_f hM (frM_J (v := 0))
      refine mw_h (h' := (wd_S ++ cs, I, up58 J 0, F, V)) rfl ?_
      refine mw_istore dc_La_law_469 (by decide) rfl ?_
      refine mw_aload_n dc_La_law_471 rfl 3 rfl ?_
      refine mw_aload_nS dc_La_law_472 rfl 5 rfl ?_
      refine mw_iload dc_La_law_473 1 rfl ?_
      refine mi_const dc_La_law_475 ?_
      refine mi_iadd dc_La_law_476 ?_
      refine mi_sld dc_La_law_477 rfl ⟨by omega, by omega, by omega⟩ (v := iI x1) (by rw [show ((i : Int) + 1).toNat = i + 1 by omega]; exact e1) ?_
      refine mz_V1 (M2 := mt_Mo_undo) dc_La_law_478 ml_La_113 rfl rfl ny_Mo_undo (by decide) (Nat.le_of_ble_eq_true rfl) (ev_moundo M1.1 b1 (fun q => ⟨(M1.2.2.1 x1.toNat (by omega)).2.1, (hP.2.1 x1.toNat (by omega)).2.1, fun q2 => ⟨(M1.2.2.1 x1.toNat (by omega)).2.2 _ (by omega), ((hP.2.1 x1.toNat (by omega)).2.2 _ (by omega)).1, (hk1 q).2.2 q2 |>.2.2.2⟩⟩)) (fun v h1 hY => ?_)
      obtain ⟨hv9, rfl⟩ := hY.2.1 ⟨hc, hk⟩
      cases hv9
      obtain ⟨M2, f2⟩ := wrM_x M1 (.int (iI 0))
      refine mw_istore dc_La_law_481 (by decide) rfl ?_
      refine mw_aload_n dc_La_law_483 rfl 4 rfl ?_
      refine mz_V0 (M2 := mt_Mo_thrown) dc_La_law_484 ml_La_80 rfl rfl ny_Mo_thrown (by decide) (Nat.le_of_ble_eq_true rfl) (ev_thrown (t := 0) (fu_at _ 39 0 _)) (fun v h1 hY => ?_)
      obtain ⟨hv9, rfl⟩ := hY
      cases hv9
      refine mw_iload dc_La_law_487 1 rfl ?_
      refine mi_icmp_eq (tgt := 494) dc_La_law_489 (by decide) (iB_mk (by omega) (by omega)) (iB_mk (by omega) (by omega)) (fun ht9 => ?_) (fun ht9 => ?_)
      · refine mw_iload dc_La_law_494 1 rfl ?_
        refine mi_if_ne (tgt := 518) dc_La_law_496 (by decide) (iB_mk (by omega) (by omega)) (fun hk9 => ?_) (fun hk9 => ?_)
        · exact absurd rfl hk9
        · refine mw_aload_n dc_La_law_499 rfl 3 rfl ?_
          refine mi_const dc_La_law_500 ?_
          refine mi_lald dc_La_law_501 rfl ⟨by decide, by decide, by decide⟩ (v := 0) (by rw [show (0 : Int).toNat = 0 from rfl]; exact up58_0 _ _) ?_
          refine mw_iload dc_La_law_502 0 rfl ?_
          refine mi_if_eq (tgt := 511) dc_La_law_504 (by decide) (iB_mk (by omega) (by omega)) (fun hz9 => ?_) (fun hz9 => ?_)
          · refine mw_lconst (v := 0) dc_La_law_511 (by decide) ?_
            refine mw_lcmp dc_La_law_512 ?_
            refine mw_if_eq (tgt := 518) dc_La_law_513 (by decide) (fun hq9 => ?_) (fun hq9 => ?_)
            · refine mw_goto (tgt := 1168) dc_La_law_518 (by decide) ?_
              refine mw_pick [2, 3, 4, 5, 6] rfl ?_
              exact hx _ _ _ _ _ _ _ _ _ _ _ _ _ _ hP (wrC_f (wrC_J hC) f2) M2
            · exact absurd (lg_eq (rfl)) hq9
          · exact absurd rfl hz9
      · exact absurd rfl ht9
    · refine mw_aload_n dc_La_law_458 rfl 3 rfl ?_
      refine mw_aload_nS dc_La_law_459 rfl 4 rfl ?_
      refine mw_iload dc_La_law_460 0 rfl ?_
      refine mi_const dc_La_law_462 ?_
      refine mi_iadd dc_La_law_463 ?_
      refine mi_sld dc_La_law_464 rfl ⟨by omega, by omega, by omega⟩ (v := iI x1) (by rw [show ((i : Int) + 1).toNat = i + 1 by omega]; exact e1) ?_
      refine mw_aload_n dc_La_law_465 rfl 1 rfl ?_
      have hk0 : 0 < k x1.toNat := by omega
      refine mw_le (bc := bc + 1) (bs := bs + 6) (by omega) (by omega) ?_
      refine mw_callSW (M2 := mt_La_undo) (mc := 1) (ms := 6) (as := [.ref 0, .int (iI x1), .ref 58]) (st := []) dc_La_law_466 ml_La_111 ny_La_undo (by decide) rfl (Nat.le_of_ble_eq_true rfl) (ev_La_undo (ev_undo hst hC.1 b1 hk1) (fun v h9 q => ⟨_, cs, _, J, F, _, Sum.inl.inj (q.2.1 ⟨hc, hk0⟩).1, (q.2.1 ⟨hc, hk0⟩).2⟩) (fun j h9 q => nomatch (q.2.1 ⟨hc, hk0⟩).1)) (fun k9 h9 q9 => by rcases q9 with ⟨_, _, _, q9, _⟩ | ⟨_, _, q9, _⟩ <;> cases q9) (fun v h1 hY => ?_)
      rcases hY with ⟨x9, h9, q, hv9, rfl⟩ | ⟨h9, q, hv9, rfl⟩
      rotate_left
      · exact (nomatch ((q.2.1 ⟨hc, hk0⟩).1))
      cases hv9
      obtain ⟨e9, rfl⟩ := q.2.1 ⟨hc, hk0⟩
      have ex9 := Value.int.inj (Option.some.inj (Sum.inl.inj e9))
      subst ex9
      have hjn := ((hP.2.1 x1.toNat (by omega)).2.2 _ (show k x1.toNat - 1 < k x1.toNat by omega)).2
      have hx5 : x1.toNat < 5 := by omega
      obtain ⟨C1, f1⟩ := C_undo (i := a x1.toNat (k x1.toNat - 1)) hC hx5 hjn
      have M1 := wrM_f hM (frM_t f1 (frM_J (v := 1)))
      refine mw_h (h' := (wd_S ++ cs, va_up I (sp x1.toNat + 1) (tu_f (I (sp x1.toNat + 1)) (a x1.toNat (k x1.toNat - 1)) (b x1.toNat (k x1.toNat - 1))), up58 J 1, F, fu V (sp x1.toNat) 3 (.int (iI ((k x1.toNat - 1 : Nat) : Int))))) rfl ?_
      refine mw_istore dc_La_law_469 (by decide) rfl ?_
      refine mw_aload_n dc_La_law_471 rfl 3 rfl ?_
      refine mw_aload_nS dc_La_law_472 rfl 5 rfl ?_
      refine mw_iload dc_La_law_473 1 rfl ?_
      refine mi_const dc_La_law_475 ?_
      refine mi_iadd dc_La_law_476 ?_
      refine mi_sld dc_La_law_477 rfl ⟨by omega, by omega, by omega⟩ (v := iI x1) (by rw [show ((i : Int) + 1).toNat = i + 1 by omega]; exact e1) ?_
      refine mz_V1 (M2 := mt_Mo_undo) dc_La_law_478 ml_La_113 rfl rfl ny_Mo_undo (by decide) (Nat.le_of_ble_eq_true rfl) (ev_moundo M1.1 b1 (fun q => ⟨(M1.2.2.1 x1.toNat (by omega)).2.1, (hP.2.1 x1.toNat (by omega)).2.1, fun q2 => ⟨(M1.2.2.1 x1.toNat (by omega)).2.2 _ (by omega), ((hP.2.1 x1.toNat (by omega)).2.2 _ (by omega)).1, (hk1 q).2.2 q2 |>.2.2.2⟩⟩)) (fun v h1 hY => ?_)
      obtain ⟨hv9, rfl⟩ := hY.1 ⟨hc, hk0⟩
      cases hv9
      obtain ⟨M2, f2⟩ := M_undo (i := a x1.toNat (k x1.toNat - 1)) M1 hP hx5 hjn (.int (iI 0))
      refine mw_istore dc_La_law_481 (by decide) rfl ?_
      refine mw_aload_n dc_La_law_483 rfl 4 rfl ?_
      refine mz_V0 (M2 := mt_Mo_thrown) dc_La_law_484 ml_La_80 rfl rfl ny_Mo_thrown (by decide) (Nat.le_of_ble_eq_true rfl) (ev_thrown (t := 0) (fu_at _ 39 0 _)) (fun v h1 hY => ?_)
      obtain ⟨hv9, rfl⟩ := hY
      cases hv9
      refine mw_iload dc_La_law_487 1 rfl ?_
      refine mi_icmp_eq (tgt := 494) dc_La_law_489 (by decide) (iB_mk (by omega) (by omega)) (iB_mk (by omega) (by omega)) (fun ht9 => ?_) (fun ht9 => ?_)
      · refine mw_iload dc_La_law_494 1 rfl ?_
        refine mi_if_ne (tgt := 518) dc_La_law_496 (by decide) (iB_mk (by omega) (by omega)) (fun hk9 => ?_) (fun hk9 => ?_)
        · exact absurd rfl hk9
        · refine mw_aload_n dc_La_law_499 rfl 3 rfl ?_
          refine mi_const dc_La_law_500 ?_
          refine mi_lald dc_La_law_501 rfl ⟨by decide, by decide, by decide⟩ (v := 1) (by rw [show (0 : Int).toNat = 0 from rfl]; exact up58_0 _ _) ?_
          refine mw_iload dc_La_law_502 0 rfl ?_
          refine mi_if_eq (tgt := 511) dc_La_law_504 (by decide) (iB_mk (by omega) (by omega)) (fun hz9 => ?_) (fun hz9 => ?_)
          · exact absurd hz9 (by decide)
          · refine mw_lconst (v := 1) dc_La_law_507 (by decide) ?_
            refine mw_goto (tgt := 512) dc_La_law_508 (by decide) ?_
            refine mw_lcmp dc_La_law_512 ?_
            refine mw_if_eq (tgt := 518) dc_La_law_513 (by decide) (fun hq9 => ?_) (fun hq9 => ?_)
            · refine mw_goto (tgt := 1168) dc_La_law_518 (by decide) ?_
              refine mw_pick [2, 3, 4, 5, 6] rfl ?_
              exact hx _ _ _ _ _ _ _ _ _ _ _ _ _ _ (P_undo hP hx5 hjn) (wrC_f (wrC_J C1) f2) M2
            · exact absurd (lg_eq (rfl)) hq9
      · exact absurd rfl ht9
  · refine mw_aload_n dc_La_law_458 rfl 3 rfl ?_
    refine mw_aload_nS dc_La_law_459 rfl 4 rfl ?_
    refine mw_iload dc_La_law_460 0 rfl ?_
    refine mi_const dc_La_law_462 ?_
    refine mi_iadd dc_La_law_463 ?_
    refine mi_sld dc_La_law_464 rfl ⟨by omega, by omega, by omega⟩ (v := iI x1) (by rw [show ((i : Int) + 1).toNat = i + 1 by omega]; exact e1) ?_
    refine mw_aload_n dc_La_law_465 rfl 1 rfl ?_
    refine mw_le (bc := bc + 1) (bs := bs + 6) (by omega) (by omega) ?_
    refine mw_callSW (M2 := mt_La_undo) (mc := 1) (ms := 6) (as := [.ref 0, .int (iI x1), .ref 58]) (st := []) dc_La_law_466 ml_La_111 ny_La_undo (by decide) rfl (Nat.le_of_ble_eq_true rfl) (ev_La_undo (ev_undo hst hC.1 b1 hk1) (fun v h9 q => nomatch (q.2.2 hc).1) (fun j h9 q => Sum.inr.inj (q.2.2 hc).1)) (fun k9 h9 q9 => by rcases q9 with ⟨_, _, _, q9, _⟩ | ⟨_, _, q9, _⟩ <;> cases q9) (fun v h1 hY => ?_)
    rcases hY with ⟨x9, h9, q, hv9, rfl⟩ | ⟨h9, q, hv9, rfl⟩
    · exact (nomatch ((q.2.2 hc).1))
    cases hv9
    obtain ⟨-, rfl⟩ := q.2.2 hc
    refine mw_istore dc_La_law_469 (by decide) rfl ?_
    refine mw_aload_n dc_La_law_471 rfl 3 rfl ?_
    refine mw_aload_nS dc_La_law_472 rfl 5 rfl ?_
    refine mw_iload dc_La_law_473 1 rfl ?_
    refine mi_const dc_La_law_475 ?_
    refine mi_iadd dc_La_law_476 ?_
    refine mi_sld dc_La_law_477 rfl ⟨by omega, by omega, by omega⟩ (v := iI x1) (by rw [show ((i : Int) + 1).toNat = i + 1 by omega]; exact e1) ?_
    refine mz_V1 (M2 := mt_Mo_undo) dc_La_law_478 ml_La_113 rfl rfl ny_Mo_undo (by decide) (Nat.le_of_ble_eq_true rfl) (ev_moundo hM.1 b1 (fun q => ⟨(hM.2.2.1 x1.toNat (by omega)).2.1, (hP.2.1 x1.toNat (by omega)).2.1, fun q2 => ⟨(hM.2.2.1 x1.toNat (by omega)).2.2 _ (by omega), ((hP.2.1 x1.toNat (by omega)).2.2 _ (by omega)).1, (hk1 q).2.2 q2 |>.2.2.2⟩⟩)) (fun v h1 hY => ?_)
    obtain ⟨hv9, rfl⟩ := hY.2.2 hc
    cases hv9
    obtain ⟨M2, f2⟩ := wrM_x hM (.int (iI 1))
    refine mw_istore dc_La_law_481 (by decide) rfl ?_
    refine mw_aload_n dc_La_law_483 rfl 4 rfl ?_
    refine mz_V0 (M2 := mt_Mo_thrown) dc_La_law_484 ml_La_80 rfl rfl ny_Mo_thrown (by decide) (Nat.le_of_ble_eq_true rfl) (ev_thrown (t := 1) (fu_at _ 39 0 _)) (fun v h1 hY => ?_)
    obtain ⟨hv9, rfl⟩ := hY
    cases hv9
    refine mw_iload dc_La_law_487 1 rfl ?_
    refine mi_icmp_eq (tgt := 494) dc_La_law_489 (by decide) (iB_mk (by omega) (by omega)) (iB_mk (by omega) (by omega)) (fun ht9 => ?_) (fun ht9 => ?_)
    · refine mw_iload dc_La_law_494 1 rfl ?_
      refine mi_if_ne (tgt := 518) dc_La_law_496 (by decide) (iB_mk (by omega) (by omega)) (fun hk9 => ?_) (fun hk9 => ?_)
      · refine mw_goto (tgt := 1168) dc_La_law_518 (by decide) ?_
        refine mw_pick [2, 3, 4, 5, 6] rfl ?_
        exact hx _ _ _ _ _ _ _ _ _ _ _ _ _ _ hP (wrC_f hC f2) M2
      · exact absurd hk9 (by decide)
    · exact absurd rfl ht9
