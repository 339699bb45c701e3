/-! the reference's line; what is known of its orders -/
def mo_O (I : Nat → Nat → Int32) (n : Nat) (u : Nat → Nat → Int) (y : Nat → Nat → Nat → Int) (ea so : Nat → Nat → Nat → Nat) : Prop := (∀ s, s < 5 → mo_or I n s (u s)) ∧ ∀ a b, a < 5 → b < 5 → md_k I n (u a) (u b) (y a b) (ea a b) ∧ ∀ e, e < 2 * n + 2 → ms_o (I 53) (ea a b) (2 * n + 2) e = iI (so a b e) ∧ so a b e < 2 * n + 2
theorem md_s {I : Nat → Nat → Int32} {n : Nat} {u : Nat → Nat → Int} {y : Nat → Nat → Nat → Int} {ea so : Nat → Nat → Nat → Nat} (h : mo_O I n u y ea so) {a b : Nat} (ha : a < 5) (hb : b < 5) : mo_s (md_I I n (u a) (u b) (y a b) (ea a b)) n (so a b) := fun e he => by
  unfold md_I
  rw [va_up_self]
  exact (h.2 a b ha hb).2 e he
theorem md_e {I : Nat → Nat → Int32} {n : Nat} {u : Nat → Nat → Int} {y : Nat → Nat → Nat → Int} {ea so : Nat → Nat → Nat → Nat} (h : mo_O I n u y ea so) {a b : Nat} (ha : a < 5) (hb : b < 5) : mo_e (md_I I n (u a) (u b) (y a b) (ea a b)) n (ea a b) (so a b) := fun e he => by
  have e1 := (h.2 a b ha hb).1.2 e he
  have e2 := (h.2 a b ha hb).2 e he
  refine ⟨?_, ?_, e1.2, e2.2⟩
  · unfold md_I
    rw [va_up_ne _ _ (by decide), va_up_self]
    exact e1.1
  · unfold md_I
    rw [va_up_self]
    exact e2.1
theorem md_y {I : Nat → Nat → Int32} {n : Nat} {u : Nat → Nat → Int} {y : Nat → Nat → Nat → Int} {ea so : Nat → Nat → Nat → Nat} (h : mo_O I n u y ea so) (hn : n ≤ 6) {a b : Nat} (ha : a < 5) (hb : b < 5) : ∀ p, p < n → md_I I n (u a) (u b) (y a b) (ea a b) 49 p = iI (y a b p) ∧ -100 ≤ y a b p ∧ y a b p ≤ 100 := fun p hp => by
  obtain ⟨e1, e2, e3, e4⟩ := (h.2 a b ha hb).1.1 p hp
  refine ⟨?_, by omega, by omega⟩
  unfold md_I
  rw [va_up_ne _ _ (by decide), va_up_ne _ _ (by decide), va_up_self]
  exact e1
theorem ev_moline {G : mm_G} {d : Nat} {cs : mm_Sh} {I : Nat → Nat → Int32} {J : Nat → Nat → Int64} {F : Nat → Nat → Option Nat} {V : Nat → Nat → Value} {n : Nat} {x y k : Int} {u : Nat → Nat → Int} {r : Nat → Nat → Nat → Int} {ea so : Nat → Nat → Nat → Nat} (hM : mo_V V) (hg : V 39 1 = .int (iI n)) (hn : n ≤ 6) (hO : mo_O I n u r ea so) (hx : iB x) (hy : iB y) (hk : iB k) : mE G mt_Mo_line (d + 3) 0 0 [.ref 39, .int (iI x), .int (iI y), .int (iI k)] (wd_S ++ cs, I, J, F, V) (fun o h1 => (¬ (okS x ∧ okS y) → o = .inl (some (.int (iI 0))) ∧ h1 = (wd_S ++ cs, I, J, F, fu V 39 0 (.int (iI 1)))) ∧ (((okS x ∧ okS y) ∧ ¬ (0 ≤ k ∧ k ≤ n)) → o = .inl (some (.int (iI 0))) ∧ h1 = (wd_S ++ cs, I, J, F, fu V 39 0 (.int (iI 2)))) ∧ (((okS x ∧ okS y) ∧ 0 ≤ k ∧ k ≤ n) → o = .inl (some (.int (iI (100 * (lo_f (so x.toNat y.toNat) k.toNat : Nat) + (hi_f (so x.toNat y.toNat) k.toNat : Nat))))) ∧ h1 = (wd_S ++ cs, md_I I n (u x.toNat) (u y.toNat) (r x.toNat y.toNat) (ea x.toNat y.toNat), J, F, fu V 39 0 (.int (iI 0))))) := by
  refine mE_intro (by decide) (fun k9 h q => ?_) (Nat.le_of_ble_eq_true rfl) ?_
  · by_cases r1 : okS x ∧ okS y
    · by_cases r2 : 0 ≤ k ∧ k ≤ n
      · exact nomatch (q.2.2 ⟨r1, r2⟩).1
      · exact nomatch (q.2.1 ⟨r1, r2⟩).1
    · exact nomatch (q.1 r1).1
  show mW G mt_Mo_line (d + 3) 0 0 0 [(0, .ref 39), (1, .int (iI x)), (2, .int (iI y)), (3, .int (iI k))] [] (wd_S ++ cs, I, J, F, V) _
  refine mw_aload_n dc_Mo_line_0 rfl 0 rfl ?_
  refine mw_iload_n dc_Mo_line_1 rfl 1 rfl ?_
  refine mz_S1 (M2 := mt_Mo_noSlot) dc_Mo_line_2 ml_Mo_87 rfl ny_Mo_noSlot (by decide) (Nat.le_of_ble_eq_true rfl) (ev_noSlot hx) (fun v h1 hY => ?_)
  obtain ⟨hv9, rfl⟩ := hY
  cases hv9
  refine mw_if_ne (tgt := 15) dc_Mo_line_5 (by decide) (fun h05 => ?_) (fun h05 => ?_)
  · refine mi_const dc_Mo_line_15 ?_
    refine mw_goto (tgt := 36) dc_Mo_line_16 (by decide) ?_
    refine mi_puti (ci := 5) (k := 0) dc_Mo_line_36 rfl wi_Mo tk_Mo nm_Mo rfl rfl (by decide) fl_Mo_75 rfl (by decide +kernel) (show va_up V 39 (va_up (V 39) 0 (.int (iI 1))) = fu V 39 0 (.int (iI 1)) from rfl) ?_
    refine mw_aload_n dc_Mo_line_39 rfl 0 rfl ?_
    refine mi_get (ci := 5) (k := 0) dc_Mo_line_40 rfl wi_Mo rfl rfl (by decide) fl_Mo_75 (fu_at V 39 0 _) ?_
    have hs : ¬ (okS x ∧ okS y) := fun q => Decidable.not_not.mp (fun q => h05 (bo_0.mpr q)) q.1
    refine mi_if_le (tgt := 48) dc_Mo_line_43 (by decide) (iB_mk (by omega) (by omega)) (fun hw => ?_) (fun hw => ?_)
    · exact absurd hw (by decide)
    · refine mi_const dc_Mo_line_46 ?_
      exact mw_iret dc_Mo_line_47 rfl rfl ⟨fun _ => ⟨rfl, rfl⟩, fun q => absurd q.1 hs, fun q => absurd q.1 hs⟩
  · refine mw_iload_n dc_Mo_line_8 rfl 2 rfl ?_
    refine mz_S1 (M2 := mt_Mo_noSlot) dc_Mo_line_9 ml_Mo_87 rfl ny_Mo_noSlot (by decide) (Nat.le_of_ble_eq_true rfl) (ev_noSlot hy) (fun v h1 hY => ?_)
    obtain ⟨hv9, rfl⟩ := hY
    cases hv9
    refine mw_if_eq (tgt := 19) dc_Mo_line_12 (by decide) (fun h112 => ?_) (fun h112 => ?_)
    · refine mw_iload_n dc_Mo_line_19 rfl 3 rfl ?_
      refine mi_if_lt (tgt := 31) dc_Mo_line_20 (by decide) hk (fun h220 => ?_) (fun h220 => ?_)
      · refine mi_const dc_Mo_line_31 ?_
        refine mw_goto (tgt := 36) dc_Mo_line_32 (by decide) ?_
        refine mi_puti (ci := 5) (k := 0) dc_Mo_line_36 rfl wi_Mo tk_Mo nm_Mo rfl rfl (by decide) fl_Mo_75 rfl (by decide +kernel) (show va_up V 39 (va_up (V 39) 0 (.int (iI 2))) = fu V 39 0 (.int (iI 2)) from rfl) ?_
        refine mw_aload_n dc_Mo_line_39 rfl 0 rfl ?_
        refine mi_get (ci := 5) (k := 0) dc_Mo_line_40 rfl wi_Mo rfl rfl (by decide) fl_Mo_75 (fu_at V 39 0 _) ?_
        have hs1 : okS x := Decidable.not_not.mp (bo_0.mp h05)
        have hs2 : okS y := Decidable.not_not.mp (bo_0.mp h112)
        have hs : okS x ∧ okS y := ⟨hs1, hs2⟩
        refine mi_if_le (tgt := 48) dc_Mo_line_43 (by decide) (iB_mk (by omega) (by omega)) (fun hw => ?_) (fun hw => ?_)
        · exact absurd hw (by decide)
        · refine mi_const dc_Mo_line_46 ?_
          exact mw_iret dc_Mo_line_47 rfl rfl ⟨fun q => absurd hs q, fun _ => ⟨rfl, rfl⟩, fun q => absurd q.2 (by omega)⟩
      · refine mw_iload_n dc_Mo_line_23 rfl 3 rfl ?_
        refine mw_aload_n dc_Mo_line_24 rfl 0 rfl ?_
        refine mi_get (ci := 5) (k := 1) dc_Mo_line_25 rfl wi_Mo rfl rfl (by decide) fl_Mo_7 hg ?_
        refine mi_icmp_le (tgt := 35) dc_Mo_line_28 (by decide) hk (iB_mk (by omega) (by omega)) (fun h328 => ?_) (fun h328 => ?_)
        · refine mi_const dc_Mo_line_35 ?_
          refine mi_puti (ci := 5) (k := 0) dc_Mo_line_36 rfl wi_Mo tk_Mo nm_Mo rfl rfl (by decide) fl_Mo_75 rfl (by decide +kernel) (show va_up V 39 (va_up (V 39) 0 (.int (iI 0))) = fu V 39 0 (.int (iI 0)) from rfl) ?_
          refine mw_aload_n dc_Mo_line_39 rfl 0 rfl ?_
          refine mi_get (ci := 5) (k := 0) dc_Mo_line_40 rfl wi_Mo rfl rfl (by decide) fl_Mo_75 (fu_at V 39 0 _) ?_
          have hs1 : okS x := Decidable.not_not.mp (bo_0.mp h05)
          have hs2 : okS y := Decidable.not_not.mp (bo_0.mp h112)
          have hs : okS x ∧ okS y := ⟨hs1, hs2⟩
          obtain ⟨a, rfl⟩ := Int.eq_ofNat_of_zero_le hs1.1
          obtain ⟨b, rfl⟩ := Int.eq_ofNat_of_zero_le hs2.1
          have ha : a < 5 := by have := hs1.2; omega
          have hb : b < 5 := by have := hs2.2; omega
          obtain ⟨e, rfl⟩ := Int.eq_ofNat_of_zero_le (show 0 ≤ k by omega)
          refine mi_if_le (tgt := 48) dc_Mo_line_43 (by decide) (iB_mk (by omega) (by omega)) (fun hw => ?_) (fun hw => ?_)
          · refine mw_aload_n dc_Mo_line_48 rfl 0 rfl ?_
            refine mw_iload_n dc_Mo_line_49 rfl 1 rfl ?_
            refine mw_iload_n dc_Mo_line_50 rfl 2 rfl ?_
            refine mz_V2 (M2 := mt_Mo_draw) dc_Mo_line_51 ml_Mo_142 rfl rfl ny_Mo_draw (by decide) (Nat.le_of_ble_eq_true rfl) (ev_modraw (mo_fu _ hM (Or.inl rfl)) ((fu_n2 V _ (by decide)).trans hg) hn ha hb (hO.1 a ha) (hO.1 b hb) (hO.2 a b ha hb).1) (fun v h1 hY => ?_)
            obtain ⟨hv9, rfl⟩ := hY
            cases hv9
            refine mi_bipush dc_Mo_line_54 (by decide) ?_
            refine mw_aload_n dc_Mo_line_56 rfl 0 rfl ?_
            refine mw_iload_n dc_Mo_line_57 rfl 3 rfl ?_
            refine mz_V1 (M2 := mt_Mo_low) dc_Mo_line_58 ml_Mo_128 rfl rfl ny_Mo_low (by decide) (Nat.le_of_ble_eq_true rfl) (ev_low (mo_fu _ hM (Or.inl rfl)) (md_s hO ha hb) (show e ≤ n by omega) hn) (fun v h1 hY => ?_)
            obtain ⟨hv9, rfl⟩ := hY
            cases hv9
            refine mi_imul dc_Mo_line_61 ?_
            refine mw_aload_n dc_Mo_line_62 rfl 0 rfl ?_
            refine mw_iload_n dc_Mo_line_63 rfl 3 rfl ?_
            refine mz_V1 (M2 := mt_Mo_high) dc_Mo_line_64 ml_Mo_132 rfl rfl ny_Mo_high (by decide) (Nat.le_of_ble_eq_true rfl) (ev_high (mo_fu _ hM (Or.inl rfl)) (md_s hO ha hb) (show e ≤ n by omega) hn) (fun v h1 hY => ?_)
            obtain ⟨hv9, rfl⟩ := hY
            cases hv9
            refine mi_iadd dc_Mo_line_67 ?_
            exact mw_iret dc_Mo_line_68 rfl rfl ⟨fun q => absurd hs q, fun q => absurd (show 0 ≤ (e : Int) ∧ (e : Int) ≤ n by omega) q.2, fun _ => ⟨rfl, rfl⟩⟩
          · exact absurd hw (by decide)
        · refine mi_const dc_Mo_line_31 ?_
          refine mw_goto (tgt := 36) dc_Mo_line_32 (by decide) ?_
          refine mi_puti (ci := 5) (k := 0) dc_Mo_line_36 rfl wi_Mo tk_Mo nm_Mo rfl rfl (by decide) fl_Mo_75 rfl (by decide +kernel) (show va_up V 39 (va_up (V 39) 0 (.int (iI 2))) = fu V 39 0 (.int (iI 2)) from rfl) ?_
          refine mw_aload_n dc_Mo_line_39 rfl 0 rfl ?_
          refine mi_get (ci := 5) (k := 0) dc_Mo_line_40 rfl wi_Mo rfl rfl (by decide) fl_Mo_75 (fu_at V 39 0 _) ?_
          have hs1 : okS x := Decidable.not_not.mp (bo_0.mp h05)
          have hs2 : okS y := Decidable.not_not.mp (bo_0.mp h112)
          have hs : okS x ∧ okS y := ⟨hs1, hs2⟩
          refine mi_if_le (tgt := 48) dc_Mo_line_43 (by decide) (iB_mk (by omega) (by omega)) (fun hw => ?_) (fun hw => ?_)
          · exact absurd hw (by decide)
          · refine mi_const dc_Mo_line_46 ?_
            exact mw_iret dc_Mo_line_47 rfl rfl ⟨fun q => absurd hs q, fun _ => ⟨rfl, rfl⟩, fun q => absurd q.2 (by omega)⟩
    · refine mi_const dc_Mo_line_15 ?_
      refine mw_goto (tgt := 36) dc_Mo_line_16 (by decide) ?_
      refine mi_puti (ci := 5) (k := 0) dc_Mo_line_36 rfl wi_Mo tk_Mo nm_Mo rfl rfl (by decide) fl_Mo_75 rfl (by decide +kernel) (show va_up V 39 (va_up (V 39) 0 (.int (iI 1))) = fu V 39 0 (.int (iI 1)) from rfl) ?_
      refine mw_aload_n dc_Mo_line_39 rfl 0 rfl ?_
      refine mi_get (ci := 5) (k := 0) dc_Mo_line_40 rfl wi_Mo rfl rfl (by decide) fl_Mo_75 (fu_at V 39 0 _) ?_
      have hs1 : okS x := Decidable.not_not.mp (bo_0.mp h05)
      have hs : ¬ (okS x ∧ okS y) := fun q => Decidable.not_not.mp (fun q => h112 (bo_0.mpr q)) q.2
      refine mi_if_le (tgt := 48) dc_Mo_line_43 (by decide) (iB_mk (by omega) (by omega)) (fun hw => ?_) (fun hw => ?_)
      · exact absurd hw (by decide)
      · refine mi_const dc_Mo_line_46 ?_
        exact mw_iret dc_Mo_line_47 rfl rfl ⟨fun _ => ⟨rfl, rfl⟩, fun q => absurd q.1 hs, fun q => absurd q.1 hs⟩
