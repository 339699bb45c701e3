/-! THE WORLD: the desk at 0, its slots from 2 on, the text at 22, the drawing at 24; the reference at 39; the law's out at 58; charts behind -/
def wd_S : mm_Sh := [.inr 0, .inl (3, 5), .inr 1, .inl (0, 6), .inl (0, 8), .inl (0, 8), .inr 1, .inl (0, 6), .inl (0, 8), .inl (0, 8), .inr 1, .inl (0, 6), .inl (0, 8), .inl (0, 8), .inr 1, .inl (0, 6), .inl (0, 8), .inl (0, 8), .inr 1, .inl (0, 6), .inl (0, 8), .inl (0, 8), .inr 2, .inl (0, 24), .inr 3, .inl (0, 7), .inl (0, 7), .inl (0, 8), .inl (0, 14), .inl (0, 14), .inl (1, 14), .inl (0, 7), .inl (1, 7), .inl (0, 14), .inl (4, 5), .inl (0, 7), .inl (0, 7), .inl (0, 6), .inl (0, 6), .inr 5, .inl (0, 30), .inl (0, 5), .inl (0, 40), .inl (0, 24), .inl (0, 8), .inl (1, 7), .inl (0, 50362), .inl (0, 46080), .inl (2, 442), .inl (0, 6), .inl (0, 6), .inl (0, 6), .inl (0, 14), .inl (0, 14), .inl (0, 7), .inl (1, 7), .inl (1, 14), .inl (0, 14), .inl (2, 1)]
/-- the drawing's arrays -/
def dr_V (V : Nat → Nat → Value) : Prop := V 24 0 = .ref 25 ∧ V 24 1 = .ref 26 ∧ V 24 4 = .ref 27 ∧ V 24 5 = .ref 28 ∧ V 24 6 = .ref 29 ∧ V 24 7 = .ref 30 ∧ V 24 8 = .ref 31 ∧ V 24 9 = .ref 32 ∧ V 24 10 = .ref 33
/-- the gray lines' spots, as far as there are lines -/
def dr_lh (I : Nat → Nat → Int32) (n : Nat) (lo hi : Nat → Nat) : Prop := ∀ k, k ≤ n → I 25 k = iI (lo k) ∧ I 26 k = iI (hi k) ∧ lo k < 14 ∧ hi k < 14
theorem ev_isWithin {G : mm_G} {d : Nat} {cs : mm_Sh} {I : Nat → Nat → Int32} {J : Nat → Nat → Int64} {F : Nat → Nat → Option Nat} {V : Nat → Nat → Value} {n k s : Nat} {lo hi : Nat → Nat} (hV : dr_V V) (hq : dr_lh I n lo hi) (hk : k ≤ n) (hn : n ≤ 6) (hs : s < 14) : mE G mt_Dr_isWithin d 0 0 [.ref 24, .int (iI s), .int (iI k)] (wd_S ++ cs, I, J, F, V) (fun o h1 => o = .inl (some (.int (bo (lo k < s ∧ s < hi k)))) ∧ h1 = (wd_S ++ cs, I, J, F, V)) := by
  refine mE_intro (by decide) (fun k h q => nomatch q.1) (Nat.le_of_ble_eq_true rfl) ?_
  obtain ⟨q1, q2, q3, q4⟩ := hq k hk
  show mW G mt_Dr_isWithin d 0 0 0 [(0, .ref 24), (1, .int (iI s)), (2, .int (iI k))] [] (wd_S ++ cs, I, J, F, V) _
  refine mw_aload_n dc_Dr_isWithin_0 rfl 0 rfl ?_
  refine mi_get (ci := 3) (k := 0) dc_Dr_isWithin_1 rfl wi_Dr rfl rfl (by decide) fl_Dr_11 hV.1 ?_
  refine mw_iload_n dc_Dr_isWithin_4 rfl 2 rfl ?_
  refine mi_iald dc_Dr_isWithin_5 rfl ⟨by omega, by omega, by decide⟩ (v := iI (lo k)) (by rw [Int.toNat_natCast]; exact q1) ?_
  refine mw_iload_n dc_Dr_isWithin_6 rfl 1 rfl ?_
  refine mi_icmp_ge (tgt := 24) dc_Dr_isWithin_7 (by decide) (iB_mk (by omega) (by omega)) (iB_mk (by omega) (by omega)) (fun h07 => ?_) (fun h07 => ?_)
  · refine mi_const dc_Dr_isWithin_24 ?_
    exact mw_iret dc_Dr_isWithin_25 rfl (by decide) ⟨by rw [bo_f (by omega)], rfl⟩
  · refine mw_iload_n dc_Dr_isWithin_10 rfl 1 rfl ?_
    refine mw_aload_n dc_Dr_isWithin_11 rfl 0 rfl ?_
    refine mi_get (ci := 3) (k := 1) dc_Dr_isWithin_12 rfl wi_Dr rfl rfl (by decide) fl_Dr_15 hV.2.1 ?_
    refine mw_iload_n dc_Dr_isWithin_15 rfl 2 rfl ?_
    refine mi_iald dc_Dr_isWithin_16 rfl ⟨by omega, by omega, by decide⟩ (v := iI (hi k)) (by rw [Int.toNat_natCast]; exact q2) ?_
    refine mi_icmp_ge (tgt := 24) dc_Dr_isWithin_17 (by decide) (iB_mk (by omega) (by omega)) (iB_mk (by omega) (by omega)) (fun h117 => ?_) (fun h117 => ?_)
    · refine mi_const dc_Dr_isWithin_24 ?_
      exact mw_iret dc_Dr_isWithin_25 rfl (by decide) ⟨by rw [bo_f (by omega)], rfl⟩
    · refine mi_const dc_Dr_isWithin_20 ?_
      refine mw_goto (tgt := 25) dc_Dr_isWithin_21 (by decide) ?_
      exact mw_iret dc_Dr_isWithin_25 rfl (by decide) ⟨by rw [bo_t (by omega)], rfl⟩
theorem ev_isOriented {G : mm_G} {d : Nat} {cs : mm_Sh} {I : Nat → Nat → Int32} {J : Nat → Nat → Int64} {F : Nat → Nat → Option Nat} {V : Nat → Nat → Value} {n k : Nat} {lo hi : Nat → Nat} (hV : dr_V V) (hq : dr_lh I n lo hi) (hk : k ≤ n) (hn : n ≤ 6) : mE G mt_Dr_isOriented d 0 0 [.ref 24, .int (iI k)] (wd_S ++ cs, I, J, F, V) (fun o h1 => o = .inl (some (.int (bo ((lo k + hi k) % 2 = 0)))) ∧ h1 = (wd_S ++ cs, I, J, F, V)) := by
  refine mE_intro (by decide) (fun k h q => nomatch q.1) (Nat.le_of_ble_eq_true rfl) ?_
  obtain ⟨q1, q2, q3, q4⟩ := hq k hk
  show mW G mt_Dr_isOriented d 0 0 0 [(0, .ref 24), (1, .int (iI k))] [] (wd_S ++ cs, I, J, F, V) _
  refine mw_aload_n dc_Dr_isOriented_0 rfl 0 rfl ?_
  refine mi_get (ci := 3) (k := 0) dc_Dr_isOriented_1 rfl wi_Dr rfl rfl (by decide) fl_Dr_11 hV.1 ?_
  refine mw_iload_n dc_Dr_isOriented_4 rfl 1 rfl ?_
  refine mi_iald dc_Dr_isOriented_5 rfl ⟨by omega, by omega, by decide⟩ (v := iI (lo k)) (by rw [Int.toNat_natCast]; exact q1) ?_
  refine mw_aload_n dc_Dr_isOriented_6 rfl 0 rfl ?_
  refine mi_get (ci := 3) (k := 1) dc_Dr_isOriented_7 rfl wi_Dr rfl rfl (by decide) fl_Dr_15 hV.2.1 ?_
  refine mw_iload_n dc_Dr_isOriented_10 rfl 1 rfl ?_
  refine mi_iald dc_Dr_isOriented_11 rfl ⟨by omega, by omega, by decide⟩ (v := iI (hi k)) (by rw [Int.toNat_natCast]; exact q2) ?_
  refine mi_iadd dc_Dr_isOriented_12 ?_
  refine mi_const dc_Dr_isOriented_13 ?_
  refine mi_irem dc_Dr_isOriented_14 ⟨by omega, by omega, by omega, by omega⟩ ?_
  refine mi_if_ne (tgt := 22) dc_Dr_isOriented_15 (by decide) (iB_mk (by omega) (by omega)) (fun h015 => ?_) (fun h015 => ?_)
  · refine mi_const dc_Dr_isOriented_22 ?_
    exact mw_iret dc_Dr_isOriented_23 rfl (by decide) ⟨by rw [bo_f (by omega)], rfl⟩
  · refine mi_const dc_Dr_isOriented_18 ?_
    refine mw_goto (tgt := 23) dc_Dr_isOriented_19 (by decide) ?_
    exact mw_iret dc_Dr_isOriented_23 rfl (by decide) ⟨by rw [bo_t (by omega)], rfl⟩
theorem ev_isShort {G : mm_G} {d : Nat} {cs : mm_Sh} {I : Nat → Nat → Int32} {J : Nat → Nat → Int64} {F : Nat → Nat → Option Nat} {V : Nat → Nat → Value} {n k : Nat} {lo hi : Nat → Nat} (hV : dr_V V) (hq : dr_lh I n lo hi) (hk : k ≤ n) (hn : n ≤ 6) : mE G mt_Dr_isShort d 0 0 [.ref 24, .int (iI k)] (wd_S ++ cs, I, J, F, V) (fun o h1 => o = .inl (some (.int (bo (hi k = lo k + 1 ∧ lo k % 2 = 0)))) ∧ h1 = (wd_S ++ cs, I, J, F, V)) := by
  refine mE_intro (by decide) (fun k h q => nomatch q.1) (Nat.le_of_ble_eq_true rfl) ?_
  obtain ⟨q1, q2, q3, q4⟩ := hq k hk
  show mW G mt_Dr_isShort d 0 0 0 [(0, .ref 24), (1, .int (iI k))] [] (wd_S ++ cs, I, J, F, V) _
  refine mw_aload_n dc_Dr_isShort_0 rfl 0 rfl ?_
  refine mi_get (ci := 3) (k := 1) dc_Dr_isShort_1 rfl wi_Dr rfl rfl (by decide) fl_Dr_15 hV.2.1 ?_
  refine mw_iload_n dc_Dr_isShort_4 rfl 1 rfl ?_
  refine mi_iald dc_Dr_isShort_5 rfl ⟨by omega, by omega, by decide⟩ (v := iI (hi k)) (by rw [Int.toNat_natCast]; exact q2) ?_
  refine mw_aload_n dc_Dr_isShort_6 rfl 0 rfl ?_
  refine mi_get (ci := 3) (k := 0) dc_Dr_isShort_7 rfl wi_Dr rfl rfl (by decide) fl_Dr_11 hV.1 ?_
  refine mw_iload_n dc_Dr_isShort_10 rfl 1 rfl ?_
  refine mi_iald dc_Dr_isShort_11 rfl ⟨by omega, by omega, by decide⟩ (v := iI (lo k)) (by rw [Int.toNat_natCast]; exact q1) ?_
  refine mi_const dc_Dr_isShort_12 ?_
  refine mi_iadd dc_Dr_isShort_13 ?_
  refine mi_icmp_ne (tgt := 32) dc_Dr_isShort_14 (by decide) (iB_mk (by omega) (by omega)) (iB_mk (by omega) (by omega)) (fun h014 => ?_) (fun h014 => ?_)
  · refine mi_const dc_Dr_isShort_32 ?_
    exact mw_iret dc_Dr_isShort_33 rfl (by decide) ⟨by rw [bo_f (by omega)], rfl⟩
  · refine mw_aload_n dc_Dr_isShort_17 rfl 0 rfl ?_
    refine mi_get (ci := 3) (k := 0) dc_Dr_isShort_18 rfl wi_Dr rfl rfl (by decide) fl_Dr_11 hV.1 ?_
    refine mw_iload_n dc_Dr_isShort_21 rfl 1 rfl ?_
    refine mi_iald dc_Dr_isShort_22 rfl ⟨by omega, by omega, by decide⟩ (v := iI (lo k)) (by rw [Int.toNat_natCast]; exact q1) ?_
    refine mi_const dc_Dr_isShort_23 ?_
    refine mi_irem dc_Dr_isShort_24 ⟨by omega, by omega, by omega, by omega⟩ ?_
    refine mi_if_ne (tgt := 32) dc_Dr_isShort_25 (by decide) (iB_mk (by omega) (by omega)) (fun h125 => ?_) (fun h125 => ?_)
    · refine mi_const dc_Dr_isShort_32 ?_
      exact mw_iret dc_Dr_isShort_33 rfl (by decide) ⟨by rw [bo_f (by omega)], rfl⟩
    · refine mi_const dc_Dr_isShort_28 ?_
      refine mw_goto (tgt := 33) dc_Dr_isShort_29 (by decide) ?_
      exact mw_iret dc_Dr_isShort_33 rfl (by decide) ⟨by rw [bo_t (by omega)], rfl⟩
theorem bo_iff {P Q : Prop} [Decidable P] [Decidable Q] (h : bo P = bo Q) : P ↔ Q := by
  by_cases p : P
  · by_cases q : Q
    · exact ⟨fun _ => q, fun _ => p⟩
    · rw [bo_t p, bo_f q] at h
      exact absurd h (by decide)
  · by_cases q : Q
    · rw [bo_f p, bo_t q] at h
      exact absurd h (by decide)
    · exact ⟨fun a => absurd a p, fun a => absurd a q⟩
theorem ev_isCrossing {G : mm_G} {d : Nat} {cs : mm_Sh} {I : Nat → Nat → Int32} {J : Nat → Nat → Int64} {F : Nat → Nat → Option Nat} {V : Nat → Nat → Value} {n k m : Nat} {lo hi : Nat → Nat} (hV : dr_V V) (hq : dr_lh I n lo hi) (hk : k ≤ n) (hm : m ≤ n) (hn : n ≤ 6) : mE G mt_Dr_isCrossing (d + 1) 0 0 [.ref 24, .int (iI k), .int (iI m)] (wd_S ++ cs, I, J, F, V) (fun o h1 => o = .inl (some (.int (bo (¬ ((lo k < lo m ∧ lo m < hi k) ↔ (lo k < hi m ∧ hi m < hi k)))))) ∧ h1 = (wd_S ++ cs, I, J, F, V)) := by
  refine mE_intro (by decide) (fun k h q => nomatch q.1) (Nat.le_of_ble_eq_true rfl) ?_
  obtain ⟨q1, q2, q3, q4⟩ := hq m hm
  show mW G mt_Dr_isCrossing (d + 1) 0 0 0 [(0, .ref 24), (1, .int (iI k)), (2, .int (iI m))] [] (wd_S ++ cs, I, J, F, V) _
  refine mw_aload_n dc_Dr_isCrossing_0 rfl 0 rfl ?_
  refine mw_aload_n dc_Dr_isCrossing_1 rfl 0 rfl ?_
  refine mi_get (ci := 3) (k := 0) dc_Dr_isCrossing_2 rfl wi_Dr rfl rfl (by decide) fl_Dr_11 hV.1 ?_
  refine mw_iload_n dc_Dr_isCrossing_5 rfl 2 rfl ?_
  refine mi_iald dc_Dr_isCrossing_6 rfl ⟨by omega, by omega, by decide⟩ (v := iI (lo m)) (by rw [Int.toNat_natCast]; exact q1) ?_
  refine mw_iload_n dc_Dr_isCrossing_7 rfl 1 rfl ?_
  refine mz_V2 (M2 := mt_Dr_isWithin) dc_Dr_isCrossing_8 ml_Dr_73 rfl rfl ny_Dr_isWithin (by decide) (Nat.le_of_ble_eq_true rfl) (ev_isWithin hV hq hk hn q3) (fun v h1 hY => ?_)
  obtain ⟨hv, rfl⟩ := hY
  cases hv
  refine mw_aload_n dc_Dr_isCrossing_11 rfl 0 rfl ?_
  refine mw_aload_n dc_Dr_isCrossing_12 rfl 0 rfl ?_
  refine mi_get (ci := 3) (k := 1) dc_Dr_isCrossing_13 rfl wi_Dr rfl rfl (by decide) fl_Dr_15 hV.2.1 ?_
  refine mw_iload_n dc_Dr_isCrossing_16 rfl 2 rfl ?_
  refine mi_iald dc_Dr_isCrossing_17 rfl ⟨by omega, by omega, by decide⟩ (v := iI (hi m)) (by rw [Int.toNat_natCast]; exact q2) ?_
  refine mw_iload_n dc_Dr_isCrossing_18 rfl 1 rfl ?_
  refine mz_V2 (M2 := mt_Dr_isWithin) dc_Dr_isCrossing_19 ml_Dr_73 rfl rfl ny_Dr_isWithin (by decide) (Nat.le_of_ble_eq_true rfl) (ev_isWithin hV hq hk hn q4) (fun v h1 hY => ?_)
  obtain ⟨hv, rfl⟩ := hY
  cases hv
  refine mw_icmp_eq (tgt := 29) dc_Dr_isCrossing_22 (by decide) (fun h022 => ?_) (fun h022 => ?_)
  · refine mi_const dc_Dr_isCrossing_29 ?_
    exact mw_iret dc_Dr_isCrossing_30 rfl (by decide) ⟨by rw [(bo_f (not_not_intro (bo_iff h022)))], rfl⟩
  · refine mi_const dc_Dr_isCrossing_25 ?_
    refine mw_goto (tgt := 30) dc_Dr_isCrossing_26 (by decide) ?_
    exact mw_iret dc_Dr_isCrossing_30 rfl (by decide) ⟨by rw [(bo_t (P := ¬ (_ ↔ _)) (fun r => h022 (bo_c r)))], rfl⟩
