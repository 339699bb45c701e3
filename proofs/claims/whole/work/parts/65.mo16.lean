/-! the reference's drawing -/
def ms_k (I K : Nat → Nat → Int32) : Prop := ∀ a, (a < 49 ∨ 57 < a) → K a = I a
theorem ms_t {I K L : Nat → Nat → Int32} (h1 : ms_k I K) (h2 : ms_k K L) : ms_k I L := fun a h => (h2 a h).trans (h1 a h)
theorem ms_r (I : Nat → Nat → Int32) : ms_k I I := fun _ _ => rfl
theorem ms_u {I : Nat → Nat → Int32} {t : Nat} (f : Nat → Int32) (h : 49 ≤ t ∧ t ≤ 57) : ms_k I (va_up I t f) := fun a h1 => va_up_ne _ _ (by omega)
theorem ms_md (I : Nat → Nat → Int32) (n : Nat) (u v y : Nat → Int) (ea : Nat → Nat) : ms_k I (md_I I n u v y ea) := ms_t (ms_u _ (by omega)) (ms_t (ms_u _ (by omega)) (ms_u _ (by omega)))
def mh_n (ea so : Nat → Nat) (n : Nat) : Nat := ct (hu_p (fq_b so (fp_r so n (n + 1)) n) (wb_f ea (fp_r so n (n + 1)) (fq_b so (fp_r so n (n + 1)) n) (2 * n + 2)).1 (wb_f ea (fp_r so n (n + 1)) (fq_b so (fp_r so n (n + 1)) n) (2 * n + 2)).2) (n + 1)
def mg_f (ea so : Nat → Nat) (n : Nat) (y : Nat → Int) (k : Int) : Nat :=
  if k = 0 then cy_n ea so n else if k = 1 then ct (fq_n (fp_r so n (n + 1)) n) (n + 1) else if k = 2 then ct (fq_b so (fp_r so n (n + 1)) n) (n + 1) else if k = 3 then mh_n ea so n else if k = 4 then ct (fun j => (lo_f so j + hi_f so j) % 2 == 0) (n + 1) else ct (fun j => !(fr_f n y (j + 1) == fr_f n y j + 1)) (n + 1)
theorem lp_mdb {G : mm_G} {d bc bs : Nat} {cs : mm_Sh} {I : Nat → Nat → Int32} {J : Nat → Nat → Int64} {F : Nat → Nat → Option Nat} {V : Nat → Nat → Value} {X : mm_X} {n : Nat} {c1 c2 c3 c4 : Int32} {bd : Nat → Bool} (hM : mo_V V) (hg : V 39 1 = .int (iI n)) (hb : mo_b I n bd) (hn : n ≤ 6) (hx : X (.inl (some (.int (iI (ct bd (n + 1) : Nat))))) (wd_S ++ cs, I, J, F, V)) :
    ∀ (m k : Nat), n + 1 - k < m → k ≤ n + 1 → mW G mt_Mo_drawing (d + 2) bc bs 107 [(6, .int (iI k)), (5, .int (iI (ct bd k : Nat))), (4, .int c4), (3, .int c3), (2, .int c2), (1, .int c1), (0, .ref 39)] [] (wd_S ++ cs, I, J, F, V) X := by
  intro m
  induction m with
  | zero => intro k h1 _; exact absurd h1 (Nat.not_lt_zero _)
  | succ m ih =>
    intro k h1 h2
    have hc := ct_le bd k
    refine mw_iload dc_Mo_drawing_107 0 rfl ?_
    refine mw_aload_n dc_Mo_drawing_109 rfl 6 rfl ?_
    refine mi_get (ci := 5) (k := 1) dc_Mo_drawing_110 rfl wi_Mo rfl rfl (by decide) fl_Mo_7 hg ?_
    refine mi_icmp_gt (tgt := 143) dc_Mo_drawing_113 (by decide) (iB_mk (by omega) (by omega)) (iB_mk (by omega) (by omega)) (fun hh => ?_) (fun hh => ?_)
    · have e : k = n + 1 := by omega
      subst e
      refine mw_iload dc_Mo_drawing_143 1 rfl ?_
      exact mw_iret dc_Mo_drawing_145 rfl rfl hx
    · have hk : k ≤ n := by omega
      refine mw_aload_n dc_Mo_drawing_116 rfl 6 rfl ?_
      refine mi_get (ci := 5) (k := 22) dc_Mo_drawing_117 rfl wi_Mo rfl rfl (by decide) fl_Mo_63 hM.2.2.2.2.2.2.2.2.2.2.2.2.2.2.2.1 ?_
      refine mw_iload dc_Mo_drawing_120 0 rfl ?_
      refine mi_zald dc_Mo_drawing_122 rfl ⟨by omega, by omega, by decide⟩ (v := bo (bd k = true)) (by rw [Int.toNat_natCast]; exact hb k (by omega)) ?_
      refine mw_if_eq (tgt := 133) dc_Mo_drawing_123 (by decide) (fun h0123 => ?_) (fun h0123 => ?_)
      · refine mw_iload dc_Mo_drawing_133 1 rfl ?_
        refine mw_istore dc_Mo_drawing_135 (by decide) rfl ?_
        refine mi_iinc dc_Mo_drawing_137 1 rfl (by decide) rfl ?_
        refine mw_goto (tgt := 107) dc_Mo_drawing_140 (by decide) ?_
        refine mw_pick [0, 1, 2, 3, 4, 5, 6] rfl ?_
        have k2 := ih (k + 1) (by omega) (by omega)
        rw [ct_f (P := bd) (bo_0.mp h0123)] at k2
        exact k2
      · refine mw_iload dc_Mo_drawing_126 1 rfl ?_
        refine mi_const dc_Mo_drawing_128 ?_
        refine mi_iadd dc_Mo_drawing_129 ?_
        refine mw_goto (tgt := 135) dc_Mo_drawing_130 (by decide) ?_
        refine mw_istore dc_Mo_drawing_135 (by decide) rfl ?_
        refine mi_iinc dc_Mo_drawing_137 1 rfl (by decide) rfl ?_
        refine mw_goto (tgt := 107) dc_Mo_drawing_140 (by decide) ?_
        refine mw_pick [0, 1, 2, 3, 4, 5, 6] rfl ?_
        have k2 := ih (k + 1) (by omega) (by omega)
        rw [ct_t (P := bd) (Decidable.not_not.mp (fun q => h0123 (bo_0.mpr q)))] at k2
        exact k2
theorem lp_mdo {G : mm_G} {d bc bs : Nat} {cs : mm_Sh} {I : Nat → Nat → Int32} {J : Nat → Nat → Int64} {F : Nat → Nat → Option Nat} {V : Nat → Nat → Value} {X : mm_X} {n : Nat} {c1 c2 c3 c4 : Int32} {so : Nat → Nat} (hM : mo_V V) (hg : V 39 1 = .int (iI n)) (hs : mo_s I n so) (hn : n ≤ 6) (hx : X (.inl (some (.int (iI (ct (fun j => (lo_f so j + hi_f so j) % 2 == 0) (n + 1) : Nat))))) (wd_S ++ cs, I, J, F, V)) :
    ∀ (m k : Nat), n + 1 - k < m → k ≤ n + 1 → mW G mt_Mo_drawing (d + 2) bc bs 154 [(6, .int (iI k)), (5, .int (iI (ct (fun j => (lo_f so j + hi_f so j) % 2 == 0) k : Nat))), (4, .int c4), (3, .int c3), (2, .int c2), (1, .int c1), (0, .ref 39)] [] (wd_S ++ cs, I, J, F, V) X := by
  intro m
  induction m with
  | zero => intro k h1 _; exact absurd h1 (Nat.not_lt_zero _)
  | succ m ih =>
    intro k h1 h2
    have hc := ct_le (fun j => (lo_f so j + hi_f so j) % 2 == 0) k
    refine mw_iload dc_Mo_drawing_154 0 rfl ?_
    refine mw_aload_n dc_Mo_drawing_156 rfl 6 rfl ?_
    refine mi_get (ci := 5) (k := 1) dc_Mo_drawing_157 rfl wi_Mo rfl rfl (by decide) fl_Mo_7 hg ?_
    refine mi_icmp_gt (tgt := 189) dc_Mo_drawing_160 (by decide) (iB_mk (by omega) (by omega)) (iB_mk (by omega) (by omega)) (fun hh => ?_) (fun hh => ?_)
    · have e : k = n + 1 := by omega
      subst e
      refine mw_iload dc_Mo_drawing_189 1 rfl ?_
      exact mw_iret dc_Mo_drawing_191 rfl rfl hx
    · have hk : k ≤ n := by omega
      refine mw_aload_n dc_Mo_drawing_163 rfl 6 rfl ?_
      refine mw_iload dc_Mo_drawing_164 0 rfl ?_
      refine mz_V1 (M2 := mt_Mo_isOriented) dc_Mo_drawing_166 ml_Mo_139 rfl rfl ny_Mo_isOriented (by decide) (Nat.le_of_ble_eq_true rfl) (ev_moOriented hM hs hk hn) (fun v h1 hY => ?_)
      obtain ⟨hv9, rfl⟩ := hY
      cases hv9
      refine mw_if_eq (tgt := 179) dc_Mo_drawing_169 (by decide) (fun h0169 => ?_) (fun h0169 => ?_)
      · refine mw_iload dc_Mo_drawing_179 1 rfl ?_
        refine mw_istore dc_Mo_drawing_181 (by decide) rfl ?_
        refine mi_iinc dc_Mo_drawing_183 1 rfl (by decide) rfl ?_
        refine mw_goto (tgt := 154) dc_Mo_drawing_186 (by decide) ?_
        refine mw_pick [0, 1, 2, 3, 4, 5, 6] rfl ?_
        have k2 := ih (k + 1) (by omega) (by omega)
        rw [ct_f (P := (fun j => (lo_f so j + hi_f so j) % 2 == 0)) (fun q => bo_0.mp h0169 (beq_iff_eq.mp q))] at k2
        exact k2
      · refine mw_iload dc_Mo_drawing_172 1 rfl ?_
        refine mi_const dc_Mo_drawing_174 ?_
        refine mi_iadd dc_Mo_drawing_175 ?_
        refine mw_goto (tgt := 181) dc_Mo_drawing_176 (by decide) ?_
        refine mw_istore dc_Mo_drawing_181 (by decide) rfl ?_
        refine mi_iinc dc_Mo_drawing_183 1 rfl (by decide) rfl ?_
        refine mw_goto (tgt := 154) dc_Mo_drawing_186 (by decide) ?_
        refine mw_pick [0, 1, 2, 3, 4, 5, 6] rfl ?_
        have k2 := ih (k + 1) (by omega) (by omega)
        rw [ct_t (P := (fun j => (lo_f so j + hi_f so j) % 2 == 0)) (beq_iff_eq.mpr (Decidable.not_not.mp (fun q => h0169 (bo_0.mpr q))))] at k2
        exact k2
theorem ev_modrawing {G : mm_G} {d : Nat} {cs : mm_Sh} {I : Nat → Nat → Int32} {J : Nat → Nat → Int64} {F : Nat → Nat → Option Nat} {V : Nat → Nat → Value} {n : Nat} {x y k : Int} {u : Nat → Nat → Int} {r : Nat → Nat → Nat → Int} {ea so : Nat → Nat → Nat → Nat} (hM : mo_V V) (hg : V 39 1 = .int (iI n)) (hn : n ≤ 6) (hO : mo_O I n u r ea so) (hx : iB x) (hy : iB y) (hk : iB k) : mE G mt_Mo_drawing (d + 3) 0 0 [.ref 39, .int (iI x), .int (iI y), .int (iI k)] (wd_S ++ cs, I, J, F, V) (fun o h1 => (¬ (okS x ∧ okS y) → o = .inl (some (.int (iI 0))) ∧ h1 = (wd_S ++ cs, I, J, F, fu V 39 0 (.int (iI 1)))) ∧ (((okS x ∧ okS y) ∧ ¬ (0 ≤ k ∧ k ≤ 5)) → o = .inl (some (.int (iI 0))) ∧ h1 = (wd_S ++ cs, I, J, F, fu V 39 0 (.int (iI 2)))) ∧ (((okS x ∧ okS y) ∧ 0 ≤ k ∧ k ≤ 5) → o = .inl (some (.int (iI (mg_f (ea x.toNat y.toNat) (so x.toNat y.toNat) n (r x.toNat y.toNat) k : Nat)))) ∧ ∃ K, ms_k I K ∧ h1 = (wd_S ++ cs, K, J, F, fu V 39 0 (.int (iI 0))))) := by
  refine mE_intro (by decide) (fun k9 h q => ?_) (Nat.le_of_ble_eq_true rfl) ?_
  · by_cases r1 : okS x ∧ okS y
    · by_cases r2 : 0 ≤ k ∧ k ≤ 5
      · exact nomatch (q.2.2 ⟨r1, r2⟩).1
      · exact nomatch (q.2.1 ⟨r1, r2⟩).1
    · exact nomatch (q.1 r1).1
  show mW G mt_Mo_drawing (d + 3) 0 0 0 [(0, .ref 39), (1, .int (iI x)), (2, .int (iI y)), (3, .int (iI k))] [] (wd_S ++ cs, I, J, F, V) _
  refine mw_aload_n dc_Mo_drawing_0 rfl 0 rfl ?_
  refine mw_iload_n dc_Mo_drawing_1 rfl 1 rfl ?_
  refine mz_S1 (M2 := mt_Mo_noSlot) dc_Mo_drawing_2 ml_Mo_87 rfl ny_Mo_noSlot (by decide) (Nat.le_of_ble_eq_true rfl) (ev_noSlot hx) (fun v h1 hY => ?_)
  obtain ⟨hv9, rfl⟩ := hY
  cases hv9
  refine mw_if_ne (tgt := 15) dc_Mo_drawing_5 (by decide) (fun h05 => ?_) (fun h05 => ?_)
  · refine mi_const dc_Mo_drawing_15 ?_
    refine mw_goto (tgt := 33) dc_Mo_drawing_16 (by decide) ?_
    refine mi_puti (ci := 5) (k := 0) dc_Mo_drawing_33 rfl wi_Mo tk_Mo nm_Mo rfl rfl (by decide) fl_Mo_75 rfl (by decide +kernel) (show va_up V 39 (va_up (V 39) 0 (.int (iI 1))) = fu V 39 0 (.int (iI 1)) from rfl) ?_
    refine mw_aload_n dc_Mo_drawing_36 rfl 0 rfl ?_
    refine mi_get (ci := 5) (k := 0) dc_Mo_drawing_37 rfl wi_Mo rfl rfl (by decide) fl_Mo_75 (fu_at V 39 0 _) ?_
    have hs : ¬ (okS x ∧ okS y) := fun q => Decidable.not_not.mp (fun q => h05 (bo_0.mpr q)) q.1
    refine mi_if_le (tgt := 45) dc_Mo_drawing_40 (by decide) (iB_mk (by omega) (by omega)) (fun hw => ?_) (fun hw => ?_)
    · exact absurd hw (by decide)
    · refine mi_const dc_Mo_drawing_43 ?_
      exact mw_iret dc_Mo_drawing_44 rfl rfl ⟨fun _ => ⟨rfl, rfl⟩, fun q => absurd q.1 hs, fun q => absurd q.1 hs⟩
  · refine mw_iload_n dc_Mo_drawing_8 rfl 2 rfl ?_
    refine mz_S1 (M2 := mt_Mo_noSlot) dc_Mo_drawing_9 ml_Mo_87 rfl ny_Mo_noSlot (by decide) (Nat.le_of_ble_eq_true rfl) (ev_noSlot hy) (fun v h1 hY => ?_)
    obtain ⟨hv9, rfl⟩ := hY
    cases hv9
    refine mw_if_eq (tgt := 19) dc_Mo_drawing_12 (by decide) (fun h112 => ?_) (fun h112 => ?_)
    · refine mw_iload_n dc_Mo_drawing_19 rfl 3 rfl ?_
      refine mi_if_lt (tgt := 28) dc_Mo_drawing_20 (by decide) hk (fun h220 => ?_) (fun h220 => ?_)
      · refine mi_const dc_Mo_drawing_28 ?_
        refine mw_goto (tgt := 33) dc_Mo_drawing_29 (by decide) ?_
        refine mi_puti (ci := 5) (k := 0) dc_Mo_drawing_33 rfl wi_Mo tk_Mo nm_Mo rfl rfl (by decide) fl_Mo_75 rfl (by decide +kernel) (show va_up V 39 (va_up (V 39) 0 (.int (iI 2))) = fu V 39 0 (.int (iI 2)) from rfl) ?_
        refine mw_aload_n dc_Mo_drawing_36 rfl 0 rfl ?_
        refine mi_get (ci := 5) (k := 0) dc_Mo_drawing_37 rfl wi_Mo rfl rfl (by decide) fl_Mo_75 (fu_at V 39 0 _) ?_
        have hs1 : okS x := Decidable.not_not.mp (bo_0.mp h05)
        have hs2 : okS y := Decidable.not_not.mp (bo_0.mp h112)
        have hs : okS x ∧ okS y := ⟨hs1, hs2⟩
        refine mi_if_le (tgt := 45) dc_Mo_drawing_40 (by decide) (iB_mk (by omega) (by omega)) (fun hw => ?_) (fun hw => ?_)
        · exact absurd hw (by decide)
        · refine mi_const dc_Mo_drawing_43 ?_
          exact mw_iret dc_Mo_drawing_44 rfl rfl ⟨fun q => absurd hs q, fun _ => ⟨rfl, rfl⟩, fun q => absurd q.2 (by omega)⟩
      · refine mw_iload_n dc_Mo_drawing_23 rfl 3 rfl ?_
        refine mi_const dc_Mo_drawing_24 ?_
        refine mi_icmp_le (tgt := 32) dc_Mo_drawing_25 (by decide) hk (iB_mk (by omega) (by omega)) (fun h325 => ?_) (fun h325 => ?_)
        · refine mi_const dc_Mo_drawing_32 ?_
          refine mi_puti (ci := 5) (k := 0) dc_Mo_drawing_33 rfl wi_Mo tk_Mo nm_Mo rfl rfl (by decide) fl_Mo_75 rfl (by decide +kernel) (show va_up V 39 (va_up (V 39) 0 (.int (iI 0))) = fu V 39 0 (.int (iI 0)) from rfl) ?_
          refine mw_aload_n dc_Mo_drawing_36 rfl 0 rfl ?_
          refine mi_get (ci := 5) (k := 0) dc_Mo_drawing_37 rfl wi_Mo rfl rfl (by decide) fl_Mo_75 (fu_at V 39 0 _) ?_
          have hs1 : okS x := Decidable.not_not.mp (bo_0.mp h05)
          have hs2 : okS y := Decidable.not_not.mp (bo_0.mp h112)
          have hs : okS x ∧ okS y := ⟨hs1, hs2⟩
          obtain ⟨a, rfl⟩ := Int.eq_ofNat_of_zero_le hs1.1
          obtain ⟨b, rfl⟩ := Int.eq_ofNat_of_zero_le hs2.1
          have ha : a < 5 := by have := hs1.2; omega
          have hb : b < 5 := by have := hs2.2; omega
          refine mi_if_le (tgt := 45) dc_Mo_drawing_40 (by decide) (iB_mk (by omega) (by omega)) (fun hw => ?_) (fun hw => ?_)
          · refine mw_aload_n dc_Mo_drawing_45 rfl 0 rfl ?_
            refine mw_iload_n dc_Mo_drawing_46 rfl 1 rfl ?_
            refine mw_iload_n dc_Mo_drawing_47 rfl 2 rfl ?_
            refine mz_V2 (M2 := mt_Mo_draw) dc_Mo_drawing_48 ml_Mo_142 rfl rfl ny_Mo_draw (by decide) (Nat.le_of_ble_eq_true rfl) (ev_modraw (mo_fu _ hM (Or.inl rfl)) ((fu_n2 V _ (by decide)).trans hg) hn ha hb (hO.1 a ha) (hO.1 b hb) (hO.2 a b ha hb).1) (fun v h1 hY => ?_)
            obtain ⟨hv9, rfl⟩ := hY
            cases hv9
            refine mw_aload_n dc_Mo_drawing_51 rfl 0 rfl ?_
            refine mz_V0 (M2 := mt_Mo_findParts) dc_Mo_drawing_52 ml_Mo_146 rfl rfl ny_Mo_findParts (by decide) (Nat.le_of_ble_eq_true rfl) (ev_findParts (mo_fu _ hM (Or.inl rfl)) ((fu_n2 V _ (by decide)).trans hg) (md_s hO ha hb) hn) (fun v h1 hY => ?_)
            obtain ⟨hv9, rfl⟩ := hY
            cases hv9
            refine mw_istore dc_Mo_drawing_55 (by decide) rfl ?_
            refine mi_const dc_Mo_drawing_57 ?_
            refine mw_istore dc_Mo_drawing_58 (by decide) rfl ?_
            refine mw_iload_n dc_Mo_drawing_60 rfl 5 rfl ?_
            have hE := md_e hO ha hb
            have hS := md_s hO ha hb
            have hY := md_y hO hn ha hb
            have hR := ms_md I n (u a) (u b) (r a b) (ea a b)
            revert hE hS hY hR
            generalize md_I I n (u a) (u b) (r a b) (ea a b) = K
            intro hE hS hY hR
            have hR2 : ms_k I (va_up (va_up K 54 (nn (K 54) (n + 1) (fp_r (so a b) n (n + 1)))) 55 (nb (K 55) (n + 1) (fq_b (so a b) (fp_r (so a b) n (n + 1)) n))) := ms_t hR (ms_t (ms_u _ (by omega)) (ms_u _ (by omega)))
            have hS2 : mo_s (va_up (va_up K 54 (nn (K 54) (n + 1) (fp_r (so a b) n (n + 1)))) 55 (nb (K 55) (n + 1) (fq_b (so a b) (fp_r (so a b) n (n + 1)) n))) n (so a b) := fun e he => by rw [va_up_ne _ _ (by decide), va_up_ne _ _ (by decide)]; exact hS e he
            have hE2 : mo_e (va_up (va_up K 54 (nn (K 54) (n + 1) (fp_r (so a b) n (n + 1)))) 55 (nb (K 55) (n + 1) (fq_b (so a b) (fp_r (so a b) n (n + 1)) n))) n (ea a b) (so a b) := fun e he => by rw [va_up_ne _ _ (by decide), va_up_ne _ _ (by decide), va_up_ne _ _ (by decide), va_up_ne _ _ (by decide)]; exact hE e he
            have hY2 : ∀ p, p < n → va_up (va_up K 54 (nn (K 54) (n + 1) (fp_r (so a b) n (n + 1)))) 55 (nb (K 55) (n + 1) (fq_b (so a b) (fp_r (so a b) n (n + 1)) n)) 49 p = iI (r a b p) ∧ -100 ≤ r a b p ∧ r a b p ≤ 100 := fun e he => by rw [va_up_ne _ _ (by decide), va_up_ne _ _ (by decide)]; exact hY e he
            have hP2 : mo_p (va_up (va_up K 54 (nn (K 54) (n + 1) (fp_r (so a b) n (n + 1)))) 55 (nb (K 55) (n + 1) (fq_b (so a b) (fp_r (so a b) n (n + 1)) n))) n (fp_r (so a b) n (n + 1)) := fun e he => ⟨by rw [va_up_ne _ _ (by decide), va_up_self, nn_a (by omega)], fp_r_le _ e he⟩
            have hB2 : mo_b (va_up (va_up K 54 (nn (K 54) (n + 1) (fp_r (so a b) n (n + 1)))) 55 (nb (K 55) (n + 1) (fq_b (so a b) (fp_r (so a b) n (n + 1)) n))) n (fq_b (so a b) (fp_r (so a b) n (n + 1)) n) := fun e he => by rw [va_up_self, nb_a (by omega)]
            revert hR2 hS2 hE2 hY2 hP2 hB2
            generalize va_up (va_up K 54 (nn (K 54) (n + 1) (fp_r (so a b) n (n + 1)))) 55 (nb (K 55) (n + 1) (fq_b (so a b) (fp_r (so a b) n (n + 1)) n)) = L
            intro hR2 hS2 hE2 hY2 hP2 hB2
            by_cases c0 : k = 0
            · subst c0
              refine mi_tabI (tgt := 96) dc_Mo_drawing_61 hk (by decide) (by decide) rfl (by decide) ?_
              refine mw_aload_n dc_Mo_drawing_96 rfl 2 rfl ?_
              refine mz_V0 (M2 := mt_Mo_cycles) dc_Mo_drawing_97 ml_Mo_149 rfl rfl ny_Mo_cycles (by decide) (Nat.le_of_ble_eq_true rfl) (ev_mocycles (mo_fu _ hM (Or.inl rfl)) ((fu_n2 V _ (by decide)).trans hg) hE2 hn) (fun v h1 hY => ?_)
              obtain ⟨hv9, rfl⟩ := hY
              cases hv9
              exact mw_iret dc_Mo_drawing_100 rfl rfl ⟨fun q => absurd hs q, fun q => (q.2 (by omega)).elim, fun _ => ⟨rfl, _, ms_t hR2 (ms_u _ (by omega)), rfl⟩⟩
            by_cases c1 : k = 1
            · subst c1
              refine mi_tabI (tgt := 101) dc_Mo_drawing_61 hk (by decide) (by decide) rfl (by decide) ?_
              refine mw_iload dc_Mo_drawing_101 1 rfl ?_
              exact mw_iret dc_Mo_drawing_103 rfl rfl ⟨fun q => absurd hs q, fun q => (q.2 (by omega)).elim, fun _ => ⟨rfl, _, hR2, rfl⟩⟩
            by_cases c2 : k = 2
            · subst c2
              refine mi_tabI (tgt := 104) dc_Mo_drawing_61 hk (by decide) (by decide) rfl (by decide) ?_
              refine mi_const dc_Mo_drawing_104 ?_
              refine mw_istore dc_Mo_drawing_105 (by decide) rfl ?_
              refine mw_pick [0, 1, 2, 6, 5, 4, 3] rfl ?_
              exact lp_mdb (mo_fu _ hM (Or.inl rfl)) ((fu_n2 V _ (by decide)).trans hg) hB2 hn ⟨fun q => absurd hs q, fun q => (q.2 (by omega)).elim, fun _ => ⟨rfl, _, hR2, rfl⟩⟩ (n + 2) 0 (by omega) (by omega)
            by_cases c3 : k = 3
            · subst c3
              refine mi_tabI (tgt := 146) dc_Mo_drawing_61 hk (by decide) (by decide) rfl (by decide) ?_
              refine mw_aload_n dc_Mo_drawing_146 rfl 2 rfl ?_
              refine mz_V0 (M2 := mt_Mo_hurdles) dc_Mo_drawing_147 ml_Mo_152 rfl rfl ny_Mo_hurdles (by decide) (Nat.le_of_ble_eq_true rfl) (ev_mohurdles (mo_fu _ hM (Or.inl rfl)) ((fu_n2 V _ (by decide)).trans hg) hE2 hP2 hB2 hn) (fun v h1 hY => ?_)
              obtain ⟨hv9, rfl⟩ := hY
              cases hv9
              exact mw_iret dc_Mo_drawing_150 rfl rfl ⟨fun q => absurd hs q, fun q => (q.2 (by omega)).elim, fun _ => ⟨rfl, _, ms_t hR2 (ms_u _ (by omega)), rfl⟩⟩
            by_cases c4 : k = 4
            · subst c4
              refine mi_tabI (tgt := 151) dc_Mo_drawing_61 hk (by decide) (by decide) rfl (by decide) ?_
              refine mi_const dc_Mo_drawing_151 ?_
              refine mw_istore dc_Mo_drawing_152 (by decide) rfl ?_
              refine mw_pick [0, 1, 2, 6, 5, 4, 3] rfl ?_
              exact lp_mdo (mo_fu _ hM (Or.inl rfl)) ((fu_n2 V _ (by decide)).trans hg) hS2 hn ⟨fun q => absurd hs q, fun q => (q.2 (by omega)).elim, fun _ => ⟨rfl, _, hR2, rfl⟩⟩ (n + 2) 0 (by omega) (by omega)
            refine mi_tabO (tgt := 192) dc_Mo_drawing_61 hk (Or.inr (by omega)) (by decide) ?_
            refine mw_aload_n dc_Mo_drawing_192 rfl 2 rfl ?_
            refine mz_V0 (M2 := mt_Mo_breakpoints) dc_Mo_drawing_193 ml_Mo_155 rfl rfl ny_Mo_breakpoints (by decide) (Nat.le_of_ble_eq_true rfl) (ev_mobreak (mo_fu _ hM (Or.inl rfl)) ((fu_n2 V _ (by decide)).trans hg) hn hY2) (fun v h1 hY => ?_)
            obtain ⟨hv9, rfl⟩ := hY
            cases hv9
            exact mw_iret dc_Mo_drawing_196 rfl rfl ⟨fun q => absurd hs q, fun q => (q.2 (by omega)).elim, fun _ => ⟨by unfold mg_f; rw [if_neg c0, if_neg c1, if_neg c2, if_neg c3, if_neg c4]; rfl, _, hR2, rfl⟩⟩
          · exact absurd hw (by decide)
        · refine mi_const dc_Mo_drawing_28 ?_
          refine mw_goto (tgt := 33) dc_Mo_drawing_29 (by decide) ?_
          refine mi_puti (ci := 5) (k := 0) dc_Mo_drawing_33 rfl wi_Mo tk_Mo nm_Mo rfl rfl (by decide) fl_Mo_75 rfl (by decide +kernel) (show va_up V 39 (va_up (V 39) 0 (.int (iI 2))) = fu V 39 0 (.int (iI 2)) from rfl) ?_
          refine mw_aload_n dc_Mo_drawing_36 rfl 0 rfl ?_
          refine mi_get (ci := 5) (k := 0) dc_Mo_drawing_37 rfl wi_Mo rfl rfl (by decide) fl_Mo_75 (fu_at V 39 0 _) ?_
          have hs1 : okS x := Decidable.not_not.mp (bo_0.mp h05)
          have hs2 : okS y := Decidable.not_not.mp (bo_0.mp h112)
          have hs : okS x ∧ okS y := ⟨hs1, hs2⟩
          refine mi_if_le (tgt := 45) dc_Mo_drawing_40 (by decide) (iB_mk (by omega) (by omega)) (fun hw => ?_) (fun hw => ?_)
          · exact absurd hw (by decide)
          · refine mi_const dc_Mo_drawing_43 ?_
            exact mw_iret dc_Mo_drawing_44 rfl rfl ⟨fun q => absurd hs q, fun _ => ⟨rfl, rfl⟩, fun q => absurd q.2 (by omega)⟩
    · refine mi_const dc_Mo_drawing_15 ?_
      refine mw_goto (tgt := 33) dc_Mo_drawing_16 (by decide) ?_
      refine mi_puti (ci := 5) (k := 0) dc_Mo_drawing_33 rfl wi_Mo tk_Mo nm_Mo rfl rfl (by decide) fl_Mo_75 rfl (by decide +kernel) (show va_up V 39 (va_up (V 39) 0 (.int (iI 1))) = fu V 39 0 (.int (iI 1)) from rfl) ?_
      refine mw_aload_n dc_Mo_drawing_36 rfl 0 rfl ?_
      refine mi_get (ci := 5) (k := 0) dc_Mo_drawing_37 rfl wi_Mo rfl rfl (by decide) fl_Mo_75 (fu_at V 39 0 _) ?_
      have hs1 : okS x := Decidable.not_not.mp (bo_0.mp h05)
      have hs : ¬ (okS x ∧ okS y) := fun q => Decidable.not_not.mp (fun q => h112 (bo_0.mpr q)) q.2
      refine mi_if_le (tgt := 45) dc_Mo_drawing_40 (by decide) (iB_mk (by omega) (by omega)) (fun hw => ?_) (fun hw => ?_)
      · exact absurd hw (by decide)
      · refine mi_const dc_Mo_drawing_43 ?_
        exact mw_iret dc_Mo_drawing_44 rfl rfl ⟨fun _ => ⟨rfl, rfl⟩, fun q => absurd q.1 hs, fun q => absurd q.1 hs⟩
