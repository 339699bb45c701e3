/-! the reference's distanceOf, distance, ways, circle -/
def mk_P (Dn Wn : Nat → Nat → Nat) (n : Nat) (I : Nat → Nat → Int32) (J : Nat → Nat → Int64) (V : Nat → Nat → Value) (I1 : Nat → Nat → Int32) (J1 : Nat → Nat → Int64) (V1 : Nat → Nat → Value) : Prop :=
  mt_k I I1 ∧ (∀ a, a ≠ 48 → J1 a = J a) ∧ mk_T Dn Wn I1 J1 ∧ I1 45 n = iI 1 ∧ mv_k V V1 ∧ V1 39 0 = V 39 0 ∧ (I 45 n = iI 1 → (∀ a, a ≠ 49 → I1 a = I a) ∧ J1 = J)
theorem mk_T49 {Dn Wn : Nat → Nat → Nat} {I : Nat → Nat → Int32} {J : Nat → Nat → Int64} {t : Nat} (f : Nat → Int32) (ht : t ≠ 45 ∧ t ≠ 46) (h : mk_T Dn Wn I J) : mk_T Dn Wn (va_up I t f) J := fun n h1 h6 => by
  rw [va_up_ne I f (fun q => ht.1 q.symm), va_up_ne I f (fun q => ht.2 q.symm)]
  exact h n h1 h6
/-- a relative row, whatever stood in the row before -/
def rl_k (n : Nat) (u v y : Nat → Int) : Prop := (∀ g p, p < n → mr_o g u v n n p = iI (y p) ∧ -100 ≤ y p ∧ y p ≤ 100) ∧ rkn n y < oc_f n
def mo_Q (I : Nat → Nat → Int32) (n : Nat) (u : Nat → Nat → Int) (y : Nat → Nat → Nat → Int) : Prop := (∀ s, s < 5 → mo_or I n s (u s)) ∧ ∀ a b, a < 5 → b < 5 → rl_k n (u a) (u b) (y a b)
theorem ev_distanceOf {G : mm_G} {d : Nat} {cs : mm_Sh} {I : Nat → Nat → Int32} {J : Nat → Nat → Int64} {F : Nat → Nat → Option Nat} {V : Nat → Nat → Value} {n : Nat} {Dn Wn : Nat → Nat → Nat} (hM : mo_V V) (hg : V 39 1 = .int (iI n)) (hn : 1 ≤ n ∧ n ≤ 6) (hT : mk_T Dn Wn I J) (hH : bf_H n (oc_f n) (nbr n) (Dn n) (Wn n)) (hD : ∀ k, k < oc_f n → Dn n k ≤ 100) {a b s1 s2 na nb : Nat} {u v y : Nat → Int} (ha : (wd_S ++ cs)[a]? = some (.inl (0, na)) ∧ (a = 40 ∨ (a = 50 ∧ I 45 n = iI 1))) (hb : b = 40 ∧ nb = 30) (hna : s1 + n ≤ na ∧ na < 1000000) (hnb : s2 + n ≤ nb) (hu : ∀ p, p < n → I a (s1 + p) = iI (u p) ∧ -100 ≤ u p ∧ u p ≤ 100) (hv : ∀ p, p < n → I b (s2 + p) = iI (v p) ∧ -100 ≤ v p ∧ v p ≤ 100) (hy : rl_k n u v y) : mE G mt_Mo_distanceOf (d + 3) 0 0 [.ref 39, .ref a, .int (iI (s1 : Nat)), .ref b, .int (iI (s2 : Nat))] (wd_S ++ cs, I, J, F, V) (fun o h1 => o = .inl (some (.int (iI (Dn n (rkn n y) : Nat)))) ∧ ∃ (I1 : Nat → Nat → Int32) (J1 : Nat → Nat → Int64) (V1 : Nat → Nat → Value), h1 = (wd_S ++ cs, I1, J1, F, V1) ∧ mk_P Dn Wn n I J V I1 J1 V1) := by
  refine mE_intro (by decide) (fun k h q => nomatch q.1) (Nat.le_of_ble_eq_true rfl) ?_
  obtain ⟨rfl, rfl⟩ := hb
  show mW G mt_Mo_distanceOf (d + 3) 0 0 0 [(0, .ref 39), (1, .ref a), (2, .int (iI (s1 : Nat))), (3, .ref 40), (4, .int (iI (s2 : Nat)))] [] (wd_S ++ cs, I, J, F, V) _
  refine mw_aload_n dc_Mo_distanceOf_0 rfl 0 rfl ?_
  refine mz_V0 (M2 := mt_Mo_makeTable) dc_Mo_distanceOf_1 ml_Mo_117 rfl rfl ny_Mo_makeTable (by decide) (Nat.le_of_ble_eq_true rfl) (ev_makeTable hM hg hn hT hH hD) (fun v h1 hY => ?_)
  obtain ⟨hv9, I1, J1, V1, rfl, m1, m2, m3, m4, m5, m6, m7, m8, m9, m10⟩ := hY
  cases hv9
  have hM1 := mv_M m7 hM
  have hg1 := (m7 39 1 (by omega)).trans hg
  have hN2 := bq_b n (by omega)
  have ka : I1 a = I a := by
    rcases ha.2 with q | q
    · rw [q]; exact m1 40 (by decide) (by decide) (by decide) (by decide)
    · rw [(m10 q.2).1]
  refine mw_aload_n dc_Mo_distanceOf_4 rfl 0 rfl ?_
  refine mw_aload_n dc_Mo_distanceOf_5 rfl 1 rfl ?_
  refine mw_iload_n dc_Mo_distanceOf_6 rfl 2 rfl ?_
  refine mw_aload_n dc_Mo_distanceOf_7 rfl 3 rfl ?_
  refine mw_iload dc_Mo_distanceOf_8 4 rfl ?_
  refine mz_V4 (M2 := mt_Mo_relate) dc_Mo_distanceOf_10 ml_Mo_120 rfl rfl ny_Mo_relate (by decide) (Nat.le_of_ble_eq_true rfl) (ev_morelate hM1 hg1 hn.2 ⟨ha.1, by omega⟩ ⟨rfl, by decide⟩ hna ⟨hnb, by decide⟩ (fun p hp => by rw [ka]; exact hu p hp) (fun p hp => by rw [m1 40 (by decide) (by decide) (by decide) (by decide)]; exact hv p hp)) (fun v h1 hY => ?_)
  obtain ⟨hv9, rfl⟩ := hY
  cases hv9
  refine mw_aload_n dc_Mo_distanceOf_13 rfl 0 rfl ?_
  refine mi_get (ci := 5) (k := 13) dc_Mo_distanceOf_14 rfl wi_Mo rfl rfl (by decide) fl_Mo_34 hM1.2.2.2.2.2.2.1 ?_
  refine mw_aload_n dc_Mo_distanceOf_17 rfl 0 rfl ?_
  refine mi_get (ci := 5) (k := 11) dc_Mo_distanceOf_18 rfl wi_Mo rfl rfl (by decide) fl_Mo_95 m8 ?_
  refine mw_aload_n dc_Mo_distanceOf_21 rfl 0 rfl ?_
  refine mw_aload_n dc_Mo_distanceOf_22 rfl 0 rfl ?_
  refine mi_get (ci := 5) (k := 16) dc_Mo_distanceOf_23 rfl wi_Mo rfl rfl (by decide) fl_Mo_45 hM1.2.2.2.2.2.2.2.2.2.1 ?_
  refine mz_V1 (M2 := mt_Mo_rankOf) dc_Mo_distanceOf_26 ml_Mo_113 rfl rfl ny_Mo_rankOf (by decide) (Nat.le_of_ble_eq_true rfl) (ev_rankOf (u := y) (a := 49) (na := 6) hg1 hn.2 rfl ⟨by omega, by decide⟩ (fun p hp => by rw [va_up_self]; exact hy.1 _ p hp)) (fun v h1 hY => ?_)
  obtain ⟨hv9, rfl⟩ := hY
  cases hv9
  rw [show iI ((rk y n n * 2 ^ n + sn y n : Nat) : Int) = iI ((rkn n y : Nat) : Int) from rfl]
  have hy2 := hy.2
  refine mi_iadd dc_Mo_distanceOf_29 ?_
  refine mi_iald dc_Mo_distanceOf_30 rfl ⟨by omega, by omega, by decide⟩ (v := iI (Dn n (rkn n y) : Nat)) (by rw [show ((bs_f n : Int) + (rkn n y : Nat)).toNat = bs_f n + rkn n y by omega, va_up_ne _ _ (by decide)]; exact m5 _ hy.2) ?_
  exact mw_iret dc_Mo_distanceOf_31 rfl rfl ⟨rfl, _, J1, V1, rfl, mt_t m1 (mt_s (ms_u _ (by omega))), m2, mk_T49 _ (by decide) m3, by rw [va_up_ne _ _ (by decide)]; exact m4, m7, m9, fun q => ⟨fun a ha => by rw [va_up_ne _ _ ha, (m10 q).1], (m10 q).2⟩⟩
theorem ev_modistance {G : mm_G} {d : Nat} {cs : mm_Sh} {I : Nat → Nat → Int32} {J : Nat → Nat → Int64} {F : Nat → Nat → Option Nat} {V : Nat → Nat → Value} {n : Nat} {Dn Wn : Nat → Nat → Nat} (hM : mo_V V) (hg : V 39 1 = .int (iI n)) (hn : 1 ≤ n ∧ n ≤ 6) (hT : mk_T Dn Wn I J) (hH : bf_H n (oc_f n) (nbr n) (Dn n) (Wn n)) (hD : ∀ k, k < oc_f n → Dn n k ≤ 100) {x z : Int} {u : Nat → Nat → Int} {y : Nat → Nat → Nat → Int} (hO : mo_Q I n u y) (hx : iB x) (hz : iB z) : mE G mt_Mo_distance (d + 4) 0 0 [.ref 39, .int (iI x), .int (iI z)] (wd_S ++ cs, I, J, F, V) (fun o h1 => (¬ (okS x ∧ okS z) → o = .inl (some (.int (iI 0))) ∧ h1 = (wd_S ++ cs, I, J, F, fu V 39 0 (.int (iI 1)))) ∧ ((okS x ∧ okS z) → o = .inl (some (.int (iI (Dn n (rkn n (y x.toNat z.toNat)) : Nat)))) ∧ ∃ (I1 : Nat → Nat → Int32) (J1 : Nat → Nat → Int64) (V1 : Nat → Nat → Value), h1 = (wd_S ++ cs, I1, J1, F, V1) ∧ mk_P Dn Wn n I J (fu V 39 0 (.int (iI 0))) I1 J1 V1)) := by
  refine mE_intro (by decide) (fun k9 h q => ?_) (Nat.le_of_ble_eq_true rfl) ?_
  · by_cases r1 : okS x ∧ okS z
    · exact nomatch (q.2 r1).1
    · exact nomatch (q.1 r1).1
  show mW G mt_Mo_distance (d + 4) 0 0 0 [(0, .ref 39), (1, .int (iI x)), (2, .int (iI z))] [] (wd_S ++ cs, I, J, F, V) _
  refine mw_aload_n dc_Mo_distance_0 rfl 0 rfl ?_
  refine mw_iload_n dc_Mo_distance_1 rfl 1 rfl ?_
  refine mz_S1 (M2 := mt_Mo_noSlot) dc_Mo_distance_2 ml_Mo_87 rfl ny_Mo_noSlot (by decide) (Nat.le_of_ble_eq_true rfl) (ev_noSlot hx) (fun v h1 hY => ?_)
  obtain ⟨hv9, rfl⟩ := hY
  cases hv9
  refine mw_if_ne (tgt := 15) dc_Mo_distance_5 (by decide) (fun h05 => ?_) (fun h05 => ?_)
  · refine mi_const dc_Mo_distance_15 ?_
    refine mw_goto (tgt := 20) dc_Mo_distance_16 (by decide) ?_
    refine mi_puti (ci := 5) (k := 0) dc_Mo_distance_20 rfl wi_Mo tk_Mo nm_Mo rfl rfl (by decide) fl_Mo_75 rfl (by decide +kernel) (show va_up V 39 (va_up (V 39) 0 (.int (iI 1))) = fu V 39 0 (.int (iI 1)) from rfl) ?_
    refine mw_aload_n dc_Mo_distance_23 rfl 0 rfl ?_
    refine mi_get (ci := 5) (k := 0) dc_Mo_distance_24 rfl wi_Mo rfl rfl (by decide) fl_Mo_75 (fu_at V 39 0 _) ?_
    have hs : ¬ (okS x ∧ okS z) := fun q => Decidable.not_not.mp (fun q => h05 (bo_0.mpr q)) q.1
    refine mi_if_le (tgt := 34) dc_Mo_distance_27 (by decide) (iB_mk (by omega) (by omega)) (fun hw => ?_) (fun hw => ?_)
    · exact absurd hw (by decide)
    · refine mi_const dc_Mo_distance_30 ?_
      refine mw_goto (tgt := 54) dc_Mo_distance_31 (by decide) ?_
      exact mw_iret dc_Mo_distance_54 rfl rfl ⟨fun _ => ⟨rfl, rfl⟩, fun q => absurd q hs⟩
  · refine mw_iload_n dc_Mo_distance_8 rfl 2 rfl ?_
    refine mz_S1 (M2 := mt_Mo_noSlot) dc_Mo_distance_9 ml_Mo_87 rfl ny_Mo_noSlot (by decide) (Nat.le_of_ble_eq_true rfl) (ev_noSlot hz) (fun v h1 hY => ?_)
    obtain ⟨hv9, rfl⟩ := hY
    cases hv9
    refine mw_if_eq (tgt := 19) dc_Mo_distance_12 (by decide) (fun h112 => ?_) (fun h112 => ?_)
    · refine mi_const dc_Mo_distance_19 ?_
      refine mi_puti (ci := 5) (k := 0) dc_Mo_distance_20 rfl wi_Mo tk_Mo nm_Mo rfl rfl (by decide) fl_Mo_75 rfl (by decide +kernel) (show va_up V 39 (va_up (V 39) 0 (.int (iI 0))) = fu V 39 0 (.int (iI 0)) from rfl) ?_
      refine mw_aload_n dc_Mo_distance_23 rfl 0 rfl ?_
      refine mi_get (ci := 5) (k := 0) dc_Mo_distance_24 rfl wi_Mo rfl rfl (by decide) fl_Mo_75 (fu_at V 39 0 _) ?_
      have hs1 : okS x := Decidable.not_not.mp (bo_0.mp h05)
      have hs2 : okS z := Decidable.not_not.mp (bo_0.mp h112)
      have hs : okS x ∧ okS z := ⟨hs1, hs2⟩
      obtain ⟨a, rfl⟩ := Int.eq_ofNat_of_zero_le hs1.1
      obtain ⟨b, rfl⟩ := Int.eq_ofNat_of_zero_le hs2.1
      have ha : a < 5 := by have := hs1.2; omega
      have hb : b < 5 := by have := hs2.2; omega
      refine mi_if_le (tgt := 34) dc_Mo_distance_27 (by decide) (iB_mk (by omega) (by omega)) (fun hw => ?_) (fun hw => ?_)
      · refine mw_aload_n dc_Mo_distance_34 rfl 0 rfl ?_
        refine mw_aload_n dc_Mo_distance_35 rfl 0 rfl ?_
        refine mi_get (ci := 5) (k := 2) dc_Mo_distance_36 rfl wi_Mo rfl rfl (by decide) fl_Mo_13 ((fu_n2 V _ (by decide)).trans hM.1) ?_
        refine mi_bipush dc_Mo_distance_39 (by decide) ?_
        refine mw_iload_n dc_Mo_distance_41 rfl 1 rfl ?_
        refine mi_imul dc_Mo_distance_42 ?_
        refine mw_aload_n dc_Mo_distance_43 rfl 0 rfl ?_
        refine mi_get (ci := 5) (k := 2) dc_Mo_distance_44 rfl wi_Mo rfl rfl (by decide) fl_Mo_13 ((fu_n2 V _ (by decide)).trans hM.1) ?_
        refine mi_bipush dc_Mo_distance_47 (by decide) ?_
        refine mw_iload_n dc_Mo_distance_49 rfl 2 rfl ?_
        refine mi_imul dc_Mo_distance_50 ?_
        rw [show (6 * (a : Int)) = ((6 * a : Nat) : Int) by omega, show (6 * (b : Int)) = ((6 * b : Nat) : Int) by omega]
        refine mz_V4 (M2 := mt_Mo_distanceOf) dc_Mo_distance_51 ml_Mo_124 rfl rfl ny_Mo_distanceOf (by decide) (Nat.le_of_ble_eq_true rfl) (ev_distanceOf (mo_fu _ hM (Or.inl rfl)) ((fu_n2 V _ (by decide)).trans hg) hn hT hH hD ⟨rfl, Or.inl rfl⟩ ⟨rfl, rfl⟩ ⟨by omega, by decide⟩ (by omega) (hO.1 a ha) (hO.1 b hb) (hO.2 a b ha hb)) (fun v h1 hY => ?_)
        obtain ⟨hv9, I1, J1, V1, rfl, mP⟩ := hY
        cases hv9
        exact mw_iret dc_Mo_distance_54 rfl rfl ⟨fun q => absurd hs q, fun _ => ⟨rfl, I1, J1, V1, rfl, mP⟩⟩
      · exact absurd hw (by decide)
    · refine mi_const dc_Mo_distance_15 ?_
      refine mw_goto (tgt := 20) dc_Mo_distance_16 (by decide) ?_
      refine mi_puti (ci := 5) (k := 0) dc_Mo_distance_20 rfl wi_Mo tk_Mo nm_Mo rfl rfl (by decide) fl_Mo_75 rfl (by decide +kernel) (show va_up V 39 (va_up (V 39) 0 (.int (iI 1))) = fu V 39 0 (.int (iI 1)) from rfl) ?_
      refine mw_aload_n dc_Mo_distance_23 rfl 0 rfl ?_
      refine mi_get (ci := 5) (k := 0) dc_Mo_distance_24 rfl wi_Mo rfl rfl (by decide) fl_Mo_75 (fu_at V 39 0 _) ?_
      have hs1 : okS x := Decidable.not_not.mp (bo_0.mp h05)
      have hs : ¬ (okS x ∧ okS z) := fun q => Decidable.not_not.mp (fun q => h112 (bo_0.mpr q)) q.2
      refine mi_if_le (tgt := 34) dc_Mo_distance_27 (by decide) (iB_mk (by omega) (by omega)) (fun hw => ?_) (fun hw => ?_)
      · exact absurd hw (by decide)
      · refine mi_const dc_Mo_distance_30 ?_
        refine mw_goto (tgt := 54) dc_Mo_distance_31 (by decide) ?_
        exact mw_iret dc_Mo_distance_54 rfl rfl ⟨fun _ => ⟨rfl, rfl⟩, fun q => absurd q hs⟩
theorem ev_moways {G : mm_G} {d : Nat} {cs : mm_Sh} {I : Nat → Nat → Int32} {J : Nat → Nat → Int64} {F : Nat → Nat → Option Nat} {V : Nat → Nat → Value} {n : Nat} {Dn Wn : Nat → Nat → Nat} (hM : mo_V V) (hg : V 39 1 = .int (iI n)) (hn : 1 ≤ n ∧ n ≤ 6) (hT : mk_T Dn Wn I J) (hH : bf_H n (oc_f n) (nbr n) (Dn n) (Wn n)) (hD : ∀ k, k < oc_f n → Dn n k ≤ 100) {x z : Int} {u : Nat → Nat → Int} {y : Nat → Nat → Nat → Int} (hO : mo_Q I n u y) (hx : iB x) (hz : iB z) : mE G mt_Mo_ways (d + 3) 0 0 [.ref 39, .int (iI x), .int (iI z)] (wd_S ++ cs, I, J, F, V) (fun o h1 => (¬ (okS x ∧ okS z) → o = .inl (some (.long 0)) ∧ h1 = (wd_S ++ cs, I, J, F, fu V 39 0 (.int (iI 1)))) ∧ (((okS x ∧ okS z) ∧ 4 < n) → o = .inl (some (.long 0)) ∧ h1 = (wd_S ++ cs, I, J, F, fu V 39 0 (.int (iI 2)))) ∧ (((okS x ∧ okS z) ∧ n ≤ 4) → o = .inl (some (.long (lI (Wn n (rkn n (y x.toNat z.toNat)))))) ∧ ∃ (I1 : Nat → Nat → Int32) (J1 : Nat → Nat → Int64) (V1 : Nat → Nat → Value), h1 = (wd_S ++ cs, I1, J1, F, V1) ∧ mk_P Dn Wn n I J (fu V 39 0 (.int (iI 0))) I1 J1 V1)) := by
  refine mE_intro (by decide) (fun k9 h q => ?_) (Nat.le_of_ble_eq_true rfl) ?_
  · by_cases r1 : okS x ∧ okS z
    · by_cases r2 : n ≤ 4
      · exact nomatch (q.2.2 ⟨r1, r2⟩).1
      · exact nomatch (q.2.1 ⟨r1, by omega⟩).1
    · exact nomatch (q.1 r1).1
  show mW G mt_Mo_ways (d + 3) 0 0 0 [(0, .ref 39), (1, .int (iI x)), (2, .int (iI z))] [] (wd_S ++ cs, I, J, F, V) _
  refine mw_aload_n dc_Mo_ways_0 rfl 0 rfl ?_
  refine mw_iload_n dc_Mo_ways_1 rfl 1 rfl ?_
  refine mz_S1 (M2 := mt_Mo_noSlot) dc_Mo_ways_2 ml_Mo_87 rfl ny_Mo_noSlot (by decide) (Nat.le_of_ble_eq_true rfl) (ev_noSlot hx) (fun v h1 hY => ?_)
  obtain ⟨hv9, rfl⟩ := hY
  cases hv9
  refine mw_if_ne (tgt := 15) dc_Mo_ways_5 (by decide) (fun h05 => ?_) (fun h05 => ?_)
  · refine mi_const dc_Mo_ways_15 ?_
    refine mw_goto (tgt := 32) dc_Mo_ways_16 (by decide) ?_
    refine mi_puti (ci := 5) (k := 0) dc_Mo_ways_32 rfl wi_Mo tk_Mo nm_Mo rfl rfl (by decide) fl_Mo_75 rfl (by decide +kernel) (show va_up V 39 (va_up (V 39) 0 (.int (iI 1))) = fu V 39 0 (.int (iI 1)) from rfl) ?_
    refine mw_aload_n dc_Mo_ways_35 rfl 0 rfl ?_
    refine mi_get (ci := 5) (k := 0) dc_Mo_ways_36 rfl wi_Mo rfl rfl (by decide) fl_Mo_75 (fu_at V 39 0 _) ?_
    have hs : ¬ (okS x ∧ okS z) := fun q => Decidable.not_not.mp (fun q => h05 (bo_0.mpr q)) q.1
    refine mi_if_le (tgt := 44) dc_Mo_ways_39 (by decide) (iB_mk (by omega) (by omega)) (fun hw => ?_) (fun hw => ?_)
    · exact absurd hw (by decide)
    · refine mw_lconst (v := 0) dc_Mo_ways_42 (by decide) ?_
      exact mw_lret dc_Mo_ways_43 rfl ⟨fun _ => ⟨rfl, rfl⟩, fun q => absurd q.1 hs, fun q => absurd q.1 hs⟩
  · refine mw_iload_n dc_Mo_ways_8 rfl 2 rfl ?_
    refine mz_S1 (M2 := mt_Mo_noSlot) dc_Mo_ways_9 ml_Mo_87 rfl ny_Mo_noSlot (by decide) (Nat.le_of_ble_eq_true rfl) (ev_noSlot hz) (fun v h1 hY => ?_)
    obtain ⟨hv9, rfl⟩ := hY
    cases hv9
    refine mw_if_eq (tgt := 19) dc_Mo_ways_12 (by decide) (fun h112 => ?_) (fun h112 => ?_)
    · refine mw_aload_n dc_Mo_ways_19 rfl 0 rfl ?_
      refine mi_get (ci := 5) (k := 1) dc_Mo_ways_20 rfl wi_Mo rfl rfl (by decide) fl_Mo_7 hg ?_
      refine mi_const dc_Mo_ways_23 ?_
      refine mi_icmp_le (tgt := 31) dc_Mo_ways_24 (by decide) (iB_mk (by omega) (by omega)) (iB_mk (by omega) (by omega)) (fun h224 => ?_) (fun h224 => ?_)
      · refine mi_const dc_Mo_ways_31 ?_
        refine mi_puti (ci := 5) (k := 0) dc_Mo_ways_32 rfl wi_Mo tk_Mo nm_Mo rfl rfl (by decide) fl_Mo_75 rfl (by decide +kernel) (show va_up V 39 (va_up (V 39) 0 (.int (iI 0))) = fu V 39 0 (.int (iI 0)) from rfl) ?_
        refine mw_aload_n dc_Mo_ways_35 rfl 0 rfl ?_
        refine mi_get (ci := 5) (k := 0) dc_Mo_ways_36 rfl wi_Mo rfl rfl (by decide) fl_Mo_75 (fu_at V 39 0 _) ?_
        have hs1 : okS x := Decidable.not_not.mp (bo_0.mp h05)
        have hs2 : okS z := Decidable.not_not.mp (bo_0.mp h112)
        have hs : okS x ∧ okS z := ⟨hs1, hs2⟩
        obtain ⟨a, rfl⟩ := Int.eq_ofNat_of_zero_le hs1.1
        obtain ⟨b, rfl⟩ := Int.eq_ofNat_of_zero_le hs2.1
        have ha : a < 5 := by have := hs1.2; omega
        have hb : b < 5 := by have := hs2.2; omega
        refine mi_if_le (tgt := 44) dc_Mo_ways_39 (by decide) (iB_mk (by omega) (by omega)) (fun hw => ?_) (fun hw => ?_)
        · refine mw_aload_n dc_Mo_ways_44 rfl 0 rfl ?_
          refine mz_V0 (M2 := mt_Mo_makeTable) dc_Mo_ways_45 ml_Mo_117 rfl rfl ny_Mo_makeTable (by decide) (Nat.le_of_ble_eq_true rfl) (ev_makeTable (mo_fu _ hM (Or.inl rfl)) ((fu_n2 V _ (by decide)).trans hg) hn hT hH hD) (fun v h1 hY => ?_)
          obtain ⟨hv9, I1, J1, V1, rfl, m1, m2, m3, m4, m5, m6, m7, m8, m9, m10⟩ := hY
          cases hv9
          have hM1 := mv_M m7 (mo_fu _ hM (Or.inl rfl))
          have hg1 := (m7 39 1 (by omega)).trans ((fu_n2 V _ (by decide)).trans hg)
          have hN2 := (bq_b n (by omega)).2 (by omega)
          have hy := hO.2 a b ha hb
          have hy2 := hy.2
          refine mw_aload_n dc_Mo_ways_48 rfl 0 rfl ?_
          refine mw_aload_n dc_Mo_ways_49 rfl 0 rfl ?_
          refine mi_get (ci := 5) (k := 2) dc_Mo_ways_50 rfl wi_Mo rfl rfl (by decide) fl_Mo_13 hM1.1 ?_
          refine mi_bipush dc_Mo_ways_53 (by decide) ?_
          refine mw_iload_n dc_Mo_ways_55 rfl 1 rfl ?_
          refine mi_imul dc_Mo_ways_56 ?_
          refine mw_aload_n dc_Mo_ways_57 rfl 0 rfl ?_
          refine mi_get (ci := 5) (k := 2) dc_Mo_ways_58 rfl wi_Mo rfl rfl (by decide) fl_Mo_13 hM1.1 ?_
          refine mi_bipush dc_Mo_ways_61 (by decide) ?_
          refine mw_iload_n dc_Mo_ways_63 rfl 2 rfl ?_
          refine mi_imul dc_Mo_ways_64 ?_
          rw [show (6 * (a : Int)) = ((6 * a : Nat) : Int) by omega, show (6 * (b : Int)) = ((6 * b : Nat) : Int) by omega]
          refine mz_V4 (M2 := mt_Mo_relate) dc_Mo_ways_65 ml_Mo_120 rfl rfl ny_Mo_relate (by decide) (Nat.le_of_ble_eq_true rfl) (ev_morelate hM1 hg1 hn.2 ⟨rfl, by decide⟩ ⟨rfl, by decide⟩ ⟨by omega, by decide⟩ ⟨by omega, by decide⟩ (fun p hp => by rw [m1 40 (by decide) (by decide) (by decide) (by decide)]; exact hO.1 a ha p hp) (fun p hp => by rw [m1 40 (by decide) (by decide) (by decide) (by decide)]; exact hO.1 b hb p hp)) (fun v h1 hY => ?_)
          obtain ⟨hv9, rfl⟩ := hY
          cases hv9
          refine mw_aload_n dc_Mo_ways_68 rfl 0 rfl ?_
          refine mi_get (ci := 5) (k := 15) dc_Mo_ways_69 rfl wi_Mo rfl rfl (by decide) fl_Mo_41 hM1.2.2.2.2.2.2.2.2.1 ?_
          refine mw_aload_n dc_Mo_ways_72 rfl 0 rfl ?_
          refine mi_get (ci := 5) (k := 11) dc_Mo_ways_73 rfl wi_Mo rfl rfl (by decide) fl_Mo_95 m8 ?_
          refine mw_aload_n dc_Mo_ways_76 rfl 0 rfl ?_
          refine mw_aload_n dc_Mo_ways_77 rfl 0 rfl ?_
          refine mi_get (ci := 5) (k := 16) dc_Mo_ways_78 rfl wi_Mo rfl rfl (by decide) fl_Mo_45 hM1.2.2.2.2.2.2.2.2.2.1 ?_
          refine mz_V1 (M2 := mt_Mo_rankOf) dc_Mo_ways_81 ml_Mo_113 rfl rfl ny_Mo_rankOf (by decide) (Nat.le_of_ble_eq_true rfl) (ev_rankOf (u := y a b) (a := 49) (na := 6) hg1 hn.2 rfl ⟨by omega, by decide⟩ (fun p hp => by rw [va_up_self]; exact hy.1 _ p hp)) (fun v h1 hY => ?_)
          obtain ⟨hv9, rfl⟩ := hY
          cases hv9
          rw [show iI ((rk (y a b) n n * 2 ^ n + sn (y a b) n : Nat) : Int) = iI ((rkn n (y a b) : Nat) : Int) from rfl]
          refine mi_iadd dc_Mo_ways_84 ?_
          refine mi_lald dc_Mo_ways_85 rfl ⟨by omega, by omega, by decide⟩ (v := lI (Wn n (rkn n (y a b)))) (by rw [show ((bs_f n : Int) + (rkn n (y a b) : Nat)).toNat = bs_f n + rkn n (y a b) by omega]; exact m6 (by omega) _ hy.2) ?_
          exact mw_lret dc_Mo_ways_86 rfl ⟨fun q => absurd hs q, fun q => absurd q.2 (by omega), fun _ => ⟨rfl, _, J1, V1, rfl, mt_t m1 (mt_s (ms_u _ (by omega))), m2, mk_T49 _ (by decide) m3, by rw [va_up_ne _ _ (by decide)]; exact m4, m7, m9, fun q => ⟨fun a ha => by rw [va_up_ne _ _ ha, (m10 q).1], (m10 q).2⟩⟩⟩
        · exact absurd hw (by decide)
      · refine mi_const dc_Mo_ways_27 ?_
        refine mw_goto (tgt := 32) dc_Mo_ways_28 (by decide) ?_
        refine mi_puti (ci := 5) (k := 0) dc_Mo_ways_32 rfl wi_Mo tk_Mo nm_Mo rfl rfl (by decide) fl_Mo_75 rfl (by decide +kernel) (show va_up V 39 (va_up (V 39) 0 (.int (iI 2))) = fu V 39 0 (.int (iI 2)) from rfl) ?_
        refine mw_aload_n dc_Mo_ways_35 rfl 0 rfl ?_
        refine mi_get (ci := 5) (k := 0) dc_Mo_ways_36 rfl wi_Mo rfl rfl (by decide) fl_Mo_75 (fu_at V 39 0 _) ?_
        have hs1 : okS x := Decidable.not_not.mp (bo_0.mp h05)
        have hs2 : okS z := Decidable.not_not.mp (bo_0.mp h112)
        have hs : okS x ∧ okS z := ⟨hs1, hs2⟩
        refine mi_if_le (tgt := 44) dc_Mo_ways_39 (by decide) (iB_mk (by omega) (by omega)) (fun hw => ?_) (fun hw => ?_)
        · exact absurd hw (by decide)
        · refine mw_lconst (v := 0) dc_Mo_ways_42 (by decide) ?_
          exact mw_lret dc_Mo_ways_43 rfl ⟨fun q => absurd hs q, fun _ => ⟨rfl, rfl⟩, fun q => absurd q.2 (by omega)⟩
    · refine mi_const dc_Mo_ways_15 ?_
      refine mw_goto (tgt := 32) dc_Mo_ways_16 (by decide) ?_
      refine mi_puti (ci := 5) (k := 0) dc_Mo_ways_32 rfl wi_Mo tk_Mo nm_Mo rfl rfl (by decide) fl_Mo_75 rfl (by decide +kernel) (show va_up V 39 (va_up (V 39) 0 (.int (iI 1))) = fu V 39 0 (.int (iI 1)) from rfl) ?_
      refine mw_aload_n dc_Mo_ways_35 rfl 0 rfl ?_
      refine mi_get (ci := 5) (k := 0) dc_Mo_ways_36 rfl wi_Mo rfl rfl (by decide) fl_Mo_75 (fu_at V 39 0 _) ?_
      have hs1 : okS x := Decidable.not_not.mp (bo_0.mp h05)
      have hs : ¬ (okS x ∧ okS z) := fun q => Decidable.not_not.mp (fun q => h112 (bo_0.mpr q)) q.2
      refine mi_if_le (tgt := 44) dc_Mo_ways_39 (by decide) (iB_mk (by omega) (by omega)) (fun hw => ?_) (fun hw => ?_)
      · exact absurd hw (by decide)
      · refine mw_lconst (v := 0) dc_Mo_ways_42 (by decide) ?_
        exact mw_lret dc_Mo_ways_43 rfl ⟨fun _ => ⟨rfl, rfl⟩, fun q => absurd q.1 hs, fun q => absurd q.1 hs⟩
theorem lp_mci {G : mm_G} {d bc bs : Nat} {cs : mm_Sh} {I : Nat → Nat → Int32} {J : Nat → Nat → Int64} {F : Nat → Nat → Option Nat} {V : Nat → Nat → Value} {X : mm_X} {n : Nat} {Dn : Nat → Nat → Nat} {z : Int} {c1 : Int32} (hM : mo_V V) (hg : V 39 1 = .int (iI n)) (hb : V 39 11 = .int (iI (bs_f n : Nat))) (hn : 1 ≤ n ∧ n ≤ 6) (hf : ∀ k, k < oc_f n → I 46 (bs_f n + k) = iI (Dn n k : Nat)) (hD : ∀ k, k < oc_f n → Dn n k ≤ 100) (hz : iB z) (hx : X (.inl (some (.int (iI (ct (fun k => decide ((Dn n k : Int) = z)) (oc_f n) : Nat))))) (wd_S ++ cs, I, J, F, V)) :
    ∀ (m k : Nat), oc_f n - k < m → k ≤ oc_f n → mW G mt_Mo_circle (d + 1) bc bs 46 [(4, .int (iI (k : Nat))), (3, .int (iI (ct (fun k => decide ((Dn n k : Int) = z)) k : Nat))), (2, .int (iI z)), (1, .int c1), (0, .ref 39)] [] (wd_S ++ cs, I, J, F, V) X := by
  intro m
  induction m with
  | zero => intro k h1 _; exact absurd h1 (Nat.not_lt_zero _)
  | succ m ih =>
    intro k h1 h2
    have hN2 := (oc_fa n (by omega)).2
    have hbN := (bq_b n (by omega)).1
    have hc := ct_le (fun k => decide ((Dn n k : Int) = z)) k
    refine mw_iload dc_Mo_circle_46 0 rfl ?_
    refine mw_aload_n dc_Mo_circle_48 rfl 4 rfl ?_
    refine mz_V0 (M2 := mt_Mo_orderCount) dc_Mo_circle_49 ml_Mo_98 rfl rfl ny_Mo_orderCount (by decide) (Nat.le_of_ble_eq_true rfl) (ev_orderCount rfl hg hn.2) (fun v h1 hY => ?_)
    obtain ⟨hv9, rfl⟩ := hY
    cases hv9
    refine mi_icmp_ge (tgt := 85) dc_Mo_circle_52 (by decide) (iB_mk (by omega) (by omega)) (iB_mk (by omega) (by omega)) (fun hh => ?_) (fun hh => ?_)
    · have e : k = oc_f n := by omega
      subst e
      refine mw_iload_n dc_Mo_circle_85 rfl 1 rfl ?_
      exact mw_iret dc_Mo_circle_86 rfl rfl hx
    · have hk := hD k (by omega)
      refine mw_aload_n dc_Mo_circle_55 rfl 4 rfl ?_
      refine mi_get (ci := 5) (k := 13) dc_Mo_circle_56 rfl wi_Mo rfl rfl (by decide) fl_Mo_34 hM.2.2.2.2.2.2.1 ?_
      refine mw_aload_n dc_Mo_circle_59 rfl 4 rfl ?_
      refine mi_get (ci := 5) (k := 11) dc_Mo_circle_60 rfl wi_Mo rfl rfl (by decide) fl_Mo_95 hb ?_
      refine mw_iload dc_Mo_circle_63 0 rfl ?_
      refine mi_iadd dc_Mo_circle_65 ?_
      refine mi_iald dc_Mo_circle_66 rfl ⟨by omega, by omega, by decide⟩ (v := iI (Dn n k : Nat)) (by rw [show ((bs_f n : Int) + (k : Int)).toNat = bs_f n + k by omega]; exact hf k (by omega)) ?_
      refine mw_iload_n dc_Mo_circle_67 rfl 2 rfl ?_
      refine mi_icmp_ne (tgt := 77) dc_Mo_circle_68 (by decide) (iB_mk (by omega) (by omega)) hz (fun h068 => ?_) (fun h068 => ?_)
      · refine mw_iload_n dc_Mo_circle_77 rfl 1 rfl ?_
        refine mw_istore_n dc_Mo_circle_78 rfl (by decide) rfl ?_
        refine mi_iinc dc_Mo_circle_79 1 rfl (by decide) rfl ?_
        refine mw_goto (tgt := 46) dc_Mo_circle_82 (by decide) ?_
        refine mw_pick [0, 1, 2, 3, 4] rfl ?_
        have k2 := ih (k + 1) (by omega) (by omega)
        rw [ct_f (P := (fun k => decide ((Dn n k : Int) = z))) (fun q => absurd (of_decide_eq_true q) (by omega))] at k2
        exact k2
      · refine mw_iload_n dc_Mo_circle_71 rfl 1 rfl ?_
        refine mi_const dc_Mo_circle_72 ?_
        refine mi_iadd dc_Mo_circle_73 ?_
        refine mw_goto (tgt := 78) dc_Mo_circle_74 (by decide) ?_
        refine mw_istore_n dc_Mo_circle_78 rfl (by decide) rfl ?_
        refine mi_iinc dc_Mo_circle_79 1 rfl (by decide) rfl ?_
        refine mw_goto (tgt := 46) dc_Mo_circle_82 (by decide) ?_
        refine mw_pick [0, 1, 2, 3, 4] rfl ?_
        have k2 := ih (k + 1) (by omega) (by omega)
        rw [ct_t (P := (fun k => decide ((Dn n k : Int) = z))) (decide_eq_true (by omega))] at k2
        exact k2
theorem ev_mocircle {G : mm_G} {d : Nat} {cs : mm_Sh} {I : Nat → Nat → Int32} {J : Nat → Nat → Int64} {F : Nat → Nat → Option Nat} {V : Nat → Nat → Value} {n : Nat} {Dn Wn : Nat → Nat → Nat} (hM : mo_V V) (hg : V 39 1 = .int (iI n)) (hn : 1 ≤ n ∧ n ≤ 6) (hT : mk_T Dn Wn I J) (hH : bf_H n (oc_f n) (nbr n) (Dn n) (Wn n)) (hD : ∀ k, k < oc_f n → Dn n k ≤ 100) {x z : Int} (hx : iB x) (hz : iB z) : mE G mt_Mo_circle (d + 3) 0 0 [.ref 39, .int (iI x), .int (iI z)] (wd_S ++ cs, I, J, F, V) (fun o h1 => (¬ okS x → o = .inl (some (.int (iI 0))) ∧ h1 = (wd_S ++ cs, I, J, F, fu V 39 0 (.int (iI 1)))) ∧ ((okS x ∧ 4 < n) → o = .inl (some (.int (iI 0))) ∧ h1 = (wd_S ++ cs, I, J, F, fu V 39 0 (.int (iI 2)))) ∧ ((okS x ∧ n ≤ 4) → o = .inl (some (.int (iI (ct (fun k => decide ((Dn n k : Int) = z)) (oc_f n) : Nat)))) ∧ ∃ (I1 : Nat → Nat → Int32) (J1 : Nat → Nat → Int64) (V1 : Nat → Nat → Value), h1 = (wd_S ++ cs, I1, J1, F, V1) ∧ mk_P Dn Wn n I J (fu V 39 0 (.int (iI 0))) I1 J1 V1)) := by
  refine mE_intro (by decide) (fun k9 h q => ?_) (Nat.le_of_ble_eq_true rfl) ?_
  · by_cases r1 : okS x
    · by_cases r2 : n ≤ 4
      · exact nomatch (q.2.2 ⟨r1, r2⟩).1
      · exact nomatch (q.2.1 ⟨r1, by omega⟩).1
    · exact nomatch (q.1 r1).1
  show mW G mt_Mo_circle (d + 3) 0 0 0 [(0, .ref 39), (1, .int (iI x)), (2, .int (iI z))] [] (wd_S ++ cs, I, J, F, V) _
  refine mw_aload_n dc_Mo_circle_0 rfl 0 rfl ?_
  refine mw_iload_n dc_Mo_circle_1 rfl 1 rfl ?_
  refine mz_S1 (M2 := mt_Mo_noSlot) dc_Mo_circle_2 ml_Mo_87 rfl ny_Mo_noSlot (by decide) (Nat.le_of_ble_eq_true rfl) (ev_noSlot hx) (fun v h1 hY => ?_)
  obtain ⟨hv9, rfl⟩ := hY
  cases hv9
  refine mw_if_eq (tgt := 12) dc_Mo_circle_5 (by decide) (fun h05 => ?_) (fun h05 => ?_)
  · refine mw_aload_n dc_Mo_circle_12 rfl 0 rfl ?_
    refine mi_get (ci := 5) (k := 1) dc_Mo_circle_13 rfl wi_Mo rfl rfl (by decide) fl_Mo_7 hg ?_
    refine mi_const dc_Mo_circle_16 ?_
    refine mi_icmp_le (tgt := 24) dc_Mo_circle_17 (by decide) (iB_mk (by omega) (by omega)) (iB_mk (by omega) (by omega)) (fun h117 => ?_) (fun h117 => ?_)
    · refine mi_const dc_Mo_circle_24 ?_
      refine mi_puti (ci := 5) (k := 0) dc_Mo_circle_25 rfl wi_Mo tk_Mo nm_Mo rfl rfl (by decide) fl_Mo_75 rfl (by decide +kernel) (show va_up V 39 (va_up (V 39) 0 (.int (iI 0))) = fu V 39 0 (.int (iI 0)) from rfl) ?_
      refine mw_aload_n dc_Mo_circle_28 rfl 0 rfl ?_
      refine mi_get (ci := 5) (k := 0) dc_Mo_circle_29 rfl wi_Mo rfl rfl (by decide) fl_Mo_75 (fu_at V 39 0 _) ?_
      have hs : okS x := Decidable.not_not.mp (bo_0.mp h05)
      refine mi_if_le (tgt := 37) dc_Mo_circle_32 (by decide) (iB_mk (by omega) (by omega)) (fun hw => ?_) (fun hw => ?_)
      · refine mw_aload_n dc_Mo_circle_37 rfl 0 rfl ?_
        refine mz_V0 (M2 := mt_Mo_makeTable) dc_Mo_circle_38 ml_Mo_117 rfl rfl ny_Mo_makeTable (by decide) (Nat.le_of_ble_eq_true rfl) (ev_makeTable (mo_fu _ hM (Or.inl rfl)) ((fu_n2 V _ (by decide)).trans hg) hn hT hH hD) (fun v h1 hY => ?_)
        obtain ⟨hv9, I1, J1, V1, rfl, m1, m2, m3, m4, m5, m6, m7, m8, m9, m10⟩ := hY
        cases hv9
        have hM1 := mv_M m7 (mo_fu _ hM (Or.inl rfl))
        have hg1 := (m7 39 1 (by omega)).trans ((fu_n2 V _ (by decide)).trans hg)
        refine mi_const dc_Mo_circle_41 ?_
        refine mw_istore_n dc_Mo_circle_42 rfl (by decide) rfl ?_
        refine mi_const dc_Mo_circle_43 ?_
        refine mw_istore dc_Mo_circle_44 (by decide) rfl ?_
        refine mw_pick [0, 1, 4, 3, 2] rfl ?_
        exact lp_mci hM1 hg1 m8 hn m5 hD hz ⟨fun q => absurd hs q, fun q => absurd q.2 (by omega), fun _ => ⟨rfl, I1, J1, V1, rfl, m1, m2, m3, m4, m7, m9, fun q => ⟨fun a ha => by rw [(m10 q).1], (m10 q).2⟩⟩⟩ (oc_f n + 1) 0 (by omega) (by omega)
      · exact absurd hw (by decide)
    · refine mi_const dc_Mo_circle_20 ?_
      refine mw_goto (tgt := 25) dc_Mo_circle_21 (by decide) ?_
      refine mi_puti (ci := 5) (k := 0) dc_Mo_circle_25 rfl wi_Mo tk_Mo nm_Mo rfl rfl (by decide) fl_Mo_75 rfl (by decide +kernel) (show va_up V 39 (va_up (V 39) 0 (.int (iI 2))) = fu V 39 0 (.int (iI 2)) from rfl) ?_
      refine mw_aload_n dc_Mo_circle_28 rfl 0 rfl ?_
      refine mi_get (ci := 5) (k := 0) dc_Mo_circle_29 rfl wi_Mo rfl rfl (by decide) fl_Mo_75 (fu_at V 39 0 _) ?_
      have hs : okS x := Decidable.not_not.mp (bo_0.mp h05)
      refine mi_if_le (tgt := 37) dc_Mo_circle_32 (by decide) (iB_mk (by omega) (by omega)) (fun hw => ?_) (fun hw => ?_)
      · exact absurd hw (by decide)
      · refine mi_const dc_Mo_circle_35 ?_
        exact mw_iret dc_Mo_circle_36 rfl rfl ⟨fun q => absurd hs q, fun _ => ⟨rfl, rfl⟩, fun q => absurd q.2 (by omega)⟩
  · refine mi_const dc_Mo_circle_8 ?_
    refine mw_goto (tgt := 25) dc_Mo_circle_9 (by decide) ?_
    refine mi_puti (ci := 5) (k := 0) dc_Mo_circle_25 rfl wi_Mo tk_Mo nm_Mo rfl rfl (by decide) fl_Mo_75 rfl (by decide +kernel) (show va_up V 39 (va_up (V 39) 0 (.int (iI 1))) = fu V 39 0 (.int (iI 1)) from rfl) ?_
    refine mw_aload_n dc_Mo_circle_28 rfl 0 rfl ?_
    refine mi_get (ci := 5) (k := 0) dc_Mo_circle_29 rfl wi_Mo rfl rfl (by decide) fl_Mo_75 (fu_at V 39 0 _) ?_
    have hs : ¬ okS x := Decidable.not_not.mp (fun q => h05 (bo_0.mpr q))
    refine mi_if_le (tgt := 37) dc_Mo_circle_32 (by decide) (iB_mk (by omega) (by omega)) (fun hw => ?_) (fun hw => ?_)
    · exact absurd hw (by decide)
    · refine mi_const dc_Mo_circle_35 ?_
      exact mw_iret dc_Mo_circle_36 rfl rfl ⟨fun _ => ⟨rfl, rfl⟩, fun q => absurd q.1 hs, fun q => absurd q.1 hs⟩
