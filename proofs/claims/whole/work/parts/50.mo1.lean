/-! THE REFERENCE at 39: its arrays from 40 on -/
def mo_V (V : Nat → Nat → Value) : Prop := V 39 2 = .ref 40 ∧ V 39 3 = .ref 41 ∧ V 39 4 = .ref 42 ∧ V 39 5 = .ref 43 ∧ V 39 9 = .ref 44 ∧ V 39 10 = .ref 45 ∧ V 39 13 = .ref 46 ∧ V 39 14 = .ref 47 ∧ V 39 15 = .ref 48 ∧ V 39 16 = .ref 49 ∧ V 39 17 = .ref 50 ∧ V 39 18 = .ref 51 ∧ V 39 19 = .ref 52 ∧ V 39 20 = .ref 53 ∧ V 39 21 = .ref 54 ∧ V 39 22 = .ref 55 ∧ V 39 23 = .ref 56 ∧ V 39 24 = .ref 57
theorem mo_fu {V : Nat → Nat → Value} {k : Nat} (v : Value) (hM : mo_V V) (h : k = 0 ∨ k = 1 ∨ k = 6 ∨ k = 7 ∨ k = 8 ∨ k = 11 ∨ k = 12) : mo_V (fu V 39 k v) := by
  have e : ∀ j, j ≠ k → fu V 39 k v 39 j = V 39 j := fun j hj => fu_n2 V v hj
  obtain ⟨h2, h3, h4, h5, h9, h10, h13, h14, h15, h16, h17, h18, h19, h20, h21, h22, h23, h24⟩ := hM
  exact ⟨(e 2 (by omega)).trans h2, (e 3 (by omega)).trans h3, (e 4 (by omega)).trans h4, (e 5 (by omega)).trans h5, (e 9 (by omega)).trans h9, (e 10 (by omega)).trans h10, (e 13 (by omega)).trans h13, (e 14 (by omega)).trans h14, (e 15 (by omega)).trans h15, (e 16 (by omega)).trans h16, (e 17 (by omega)).trans h17, (e 18 (by omega)).trans h18, (e 19 (by omega)).trans h19, (e 20 (by omega)).trans h20, (e 21 (by omega)).trans h21, (e 22 (by omega)).trans h22, (e 23 (by omega)).trans h23, (e 24 (by omega)).trans h24⟩
theorem ev_noSlot {G : mm_G} {d : Nat} {h : mm_H} {x : Int} (hx : iB x) : mE G mt_Mo_noSlot d 0 0 [.int (iI x)] h (fun o h1 => o = .inl (some (.int (bo (¬ okS x)))) ∧ h1 = h) := by
  refine mE_intro (by decide) (fun k h q => nomatch q.1) (Nat.le_of_ble_eq_true rfl) ?_
  show mW G mt_Mo_noSlot d 0 0 0 [(0, .int (iI x))] [] h _
  refine mw_iload_n dc_Mo_noSlot_0 rfl 0 rfl ?_
  refine mi_if_lt (tgt := 9) dc_Mo_noSlot_1 (by decide) hx (fun h01 => ?_) (fun h01 => ?_)
  · refine mi_const dc_Mo_noSlot_9 ?_
    refine mw_goto (tgt := 14) dc_Mo_noSlot_10 (by decide) ?_
    exact mw_iret dc_Mo_noSlot_14 rfl (by decide) ⟨by rw [bo_t (by omega)], rfl⟩
  · refine mw_iload_n dc_Mo_noSlot_4 rfl 0 rfl ?_
    refine mi_const dc_Mo_noSlot_5 ?_
    refine mi_icmp_lt (tgt := 13) dc_Mo_noSlot_6 (by decide) hx (iB_mk (by omega) (by omega)) (fun h16 => ?_) (fun h16 => ?_)
    · refine mi_const dc_Mo_noSlot_13 ?_
      exact mw_iret dc_Mo_noSlot_14 rfl (by decide) ⟨by rw [bo_f (by omega)], rfl⟩
    · refine mi_const dc_Mo_noSlot_9 ?_
      refine mw_goto (tgt := 14) dc_Mo_noSlot_10 (by decide) ?_
      exact mw_iret dc_Mo_noSlot_14 rfl (by decide) ⟨by rw [bo_t (by omega)], rfl⟩
theorem ev_thrown {G : mm_G} {d : Nat} {cs : mm_Sh} {I : Nat → Nat → Int32} {J : Nat → Nat → Int64} {F : Nat → Nat → Option Nat} {V : Nat → Nat → Value} {t : Int} (ht : V 39 0 = .int (iI t)) : mE G mt_Mo_thrown d 0 0 [.ref 39] (wd_S ++ cs, I, J, F, V) (fun o h1 => o = .inl (some (.int (iI t))) ∧ h1 = (wd_S ++ cs, I, J, F, V)) := by
  refine mE_intro (by decide) (fun k h q => nomatch q.1) (Nat.le_of_ble_eq_true rfl) ?_
  show mW G mt_Mo_thrown d 0 0 0 [(0, .ref 39)] [] (wd_S ++ cs, I, J, F, V) _
  refine mw_aload_n dc_Mo_thrown_0 rfl 0 rfl ?_
  refine mi_get (ci := 5) (k := 0) dc_Mo_thrown_1 rfl wi_Mo rfl rfl (by decide) fl_Mo_75 ht ?_
  exact mw_iret dc_Mo_thrown_4 rfl rfl ⟨rfl, rfl⟩
theorem ev_mowipe {G : mm_G} {d : Nat} {cs : mm_Sh} {I : Nat → Nat → Int32} {J : Nat → Nat → Int64} {F : Nat → Nat → Option Nat} {V : Nat → Nat → Value} {l : Int} (hl : V 39 6 = .int (iI l)) : mE G mt_Mo_wipe d 0 0 [.ref 39] (wd_S ++ cs, I, J, F, V) (fun o h1 => o = .inl (some (.int (iI l))) ∧ h1 = (wd_S ++ cs, I, J, F, fu (fu V 39 0 (.int (iI 0))) 39 6 (.int (iI 0)))) := by
  refine mE_intro (by decide) (fun k h q => nomatch q.1) (Nat.le_of_ble_eq_true rfl) ?_
  show mW G mt_Mo_wipe d 0 0 0 [(0, .ref 39)] [] (wd_S ++ cs, I, J, F, V) _
  refine mw_aload_n dc_Mo_wipe_0 rfl 0 rfl ?_
  refine mi_const dc_Mo_wipe_1 ?_
  refine mi_puti (ci := 5) (k := 0) dc_Mo_wipe_2 rfl wi_Mo tk_Mo nm_Mo rfl rfl (by decide) fl_Mo_75 rfl (by decide +kernel) (show va_up V 39 (va_up (V 39) 0 (.int (iI 0))) = fu V 39 0 (.int (iI 0)) from rfl) ?_
  refine mw_aload_n dc_Mo_wipe_5 rfl 0 rfl ?_
  refine mi_get (ci := 5) (k := 6) dc_Mo_wipe_6 rfl wi_Mo rfl rfl (by decide) fl_Mo_84 ((fu_n2 V _ (by decide)).trans hl) ?_
  refine mw_istore_n dc_Mo_wipe_9 rfl (by decide) rfl ?_
  refine mw_aload_n dc_Mo_wipe_10 rfl 1 rfl ?_
  refine mi_const dc_Mo_wipe_11 ?_
  refine mi_puti (ci := 5) (k := 6) dc_Mo_wipe_12 rfl wi_Mo tk_Mo nm_Mo rfl rfl (by decide) fl_Mo_84 rfl (by decide +kernel) (show va_up (fu V 39 0 (.int (iI 0))) 39 (va_up (fu V 39 0 (.int (iI 0)) 39) 6 (.int (iI 0))) = fu (fu V 39 0 (.int (iI 0))) 39 6 (.int (iI 0)) from rfl) ?_
  refine mw_iload_n dc_Mo_wipe_15 rfl 0 rfl ?_
  exact mw_iret dc_Mo_wipe_16 rfl rfl ⟨rfl, rfl⟩
theorem ev_mogene {G : mm_G} {d : Nat} {cs : mm_Sh} {I : Nat → Nat → Int32} {J : Nat → Nat → Int64} {F : Nat → Nat → Option Nat} {V : Nat → Nat → Value} {n : Nat} {x y : Int} (hM : mo_V V) (hg : V 39 1 = .int (iI n)) (hn : n ≤ 6) (hx : iB x) (hy : iB y) : mE G mt_Mo_gene (d + 1) 0 0 [.ref 39, .int (iI x), .int (iI y)] (wd_S ++ cs, I, J, F, V) (fun o h1 => ((okS x ∧ 0 ≤ y ∧ y < n) → o = .inl (some (.int (I 40 (6 * x.toNat + y.toNat)))) ∧ h1 = (wd_S ++ cs, I, J, F, fu V 39 0 (.int (iI 0)))) ∧ (¬ (okS x ∧ 0 ≤ y ∧ y < n) → o = .inl (some (.int (iI 0))) ∧ h1 = (wd_S ++ cs, I, J, F, fu V 39 0 (.int (iI 1))))) := by
  refine mE_intro (by decide) (fun k h q => ?_) (Nat.le_of_ble_eq_true rfl) ?_
  · by_cases r : okS x ∧ 0 ≤ y ∧ y < n
    · exact nomatch (q.1 r).1
    · exact nomatch (q.2 r).1
  show mW G mt_Mo_gene (d + 1) 0 0 0 [(0, .ref 39), (1, .int (iI x)), (2, .int (iI y))] [] (wd_S ++ cs, I, J, F, V) _
  refine mw_aload_n dc_Mo_gene_0 rfl 0 rfl ?_
  refine mw_iload_n dc_Mo_gene_1 rfl 1 rfl ?_
  refine mz_S1 (M2 := mt_Mo_noSlot) dc_Mo_gene_2 ml_Mo_87 rfl ny_Mo_noSlot (by decide) (Nat.le_of_ble_eq_true rfl) (ev_noSlot hx) (fun v h1 hY => ?_)
  obtain ⟨hv, rfl⟩ := hY
  cases hv
  refine mw_if_ne (tgt := 20) dc_Mo_gene_5 (by decide) (fun h05 => ?_) (fun h05 => ?_)
  · refine mi_const dc_Mo_gene_20 ?_
    refine mw_goto (tgt := 25) dc_Mo_gene_21 (by decide) ?_
    refine mi_puti (ci := 5) (k := 0) dc_Mo_gene_25 rfl wi_Mo tk_Mo nm_Mo rfl rfl (by decide) fl_Mo_75 rfl (by decide +kernel) (show va_up V 39 (va_up (V 39) 0 (.int (iI 1))) = fu V 39 0 (.int (iI 1)) from rfl) ?_
    refine mw_aload_n dc_Mo_gene_28 rfl 0 rfl ?_
    refine mi_get (ci := 5) (k := 0) dc_Mo_gene_29 rfl wi_Mo rfl rfl (by decide) fl_Mo_75 (fu_at V 39 0 _) ?_
    refine mi_if_le (tgt := 39) dc_Mo_gene_32 (by decide) (iB_mk (by omega) (by omega)) (fun hz => ?_) (fun hz => ?_)
    · exact absurd hz (by decide)
    · refine mi_const dc_Mo_gene_35 ?_
      refine mw_goto (tgt := 50) dc_Mo_gene_36 (by decide) ?_
      have hs : ¬ okS x := Decidable.not_not.mp (fun q => h05 (bo_0.mpr q))
      exact mw_iret dc_Mo_gene_50 rfl rfl ⟨fun q => absurd q (fun r => by have := r.1; omega), fun _ => ⟨rfl, rfl⟩⟩
  · refine mw_iload_n dc_Mo_gene_8 rfl 2 rfl ?_
    refine mi_if_lt (tgt := 20) dc_Mo_gene_9 (by decide) hy (fun h19 => ?_) (fun h19 => ?_)
    · refine mi_const dc_Mo_gene_20 ?_
      refine mw_goto (tgt := 25) dc_Mo_gene_21 (by decide) ?_
      refine mi_puti (ci := 5) (k := 0) dc_Mo_gene_25 rfl wi_Mo tk_Mo nm_Mo rfl rfl (by decide) fl_Mo_75 rfl (by decide +kernel) (show va_up V 39 (va_up (V 39) 0 (.int (iI 1))) = fu V 39 0 (.int (iI 1)) from rfl) ?_
      refine mw_aload_n dc_Mo_gene_28 rfl 0 rfl ?_
      refine mi_get (ci := 5) (k := 0) dc_Mo_gene_29 rfl wi_Mo rfl rfl (by decide) fl_Mo_75 (fu_at V 39 0 _) ?_
      refine mi_if_le (tgt := 39) dc_Mo_gene_32 (by decide) (iB_mk (by omega) (by omega)) (fun hz => ?_) (fun hz => ?_)
      · exact absurd hz (by decide)
      · refine mi_const dc_Mo_gene_35 ?_
        refine mw_goto (tgt := 50) dc_Mo_gene_36 (by decide) ?_
        have hs : okS x := Decidable.not_not.mp (bo_0.mp h05)
        exact mw_iret dc_Mo_gene_50 rfl rfl ⟨fun q => absurd q (fun r => by have := r.1; omega), fun _ => ⟨rfl, rfl⟩⟩
    · refine mw_iload_n dc_Mo_gene_12 rfl 2 rfl ?_
      refine mw_aload_n dc_Mo_gene_13 rfl 0 rfl ?_
      refine mi_get (ci := 5) (k := 1) dc_Mo_gene_14 rfl wi_Mo rfl rfl (by decide) fl_Mo_7 hg ?_
      refine mi_icmp_lt (tgt := 24) dc_Mo_gene_17 (by decide) hy (iB_mk (by omega) (by omega)) (fun h217 => ?_) (fun h217 => ?_)
      · refine mi_const dc_Mo_gene_24 ?_
        refine mi_puti (ci := 5) (k := 0) dc_Mo_gene_25 rfl wi_Mo tk_Mo nm_Mo rfl rfl (by decide) fl_Mo_75 rfl (by decide +kernel) (show va_up V 39 (va_up (V 39) 0 (.int (iI 0))) = fu V 39 0 (.int (iI 0)) from rfl) ?_
        refine mw_aload_n dc_Mo_gene_28 rfl 0 rfl ?_
        refine mi_get (ci := 5) (k := 0) dc_Mo_gene_29 rfl wi_Mo rfl rfl (by decide) fl_Mo_75 (fu_at V 39 0 _) ?_
        refine mi_if_le (tgt := 39) dc_Mo_gene_32 (by decide) (iB_mk (by omega) (by omega)) (fun hz => ?_) (fun hz => ?_)
        · refine mw_aload_n dc_Mo_gene_39 rfl 0 rfl ?_
          refine mi_get (ci := 5) (k := 2) dc_Mo_gene_40 rfl wi_Mo rfl rfl (by decide) fl_Mo_13 ((fu_n2 V _ (by decide)).trans hM.1) ?_
          refine mi_bipush dc_Mo_gene_43 (by decide) ?_
          refine mw_iload_n dc_Mo_gene_45 rfl 1 rfl ?_
          refine mi_imul dc_Mo_gene_46 ?_
          refine mw_iload_n dc_Mo_gene_47 rfl 2 rfl ?_
          refine mi_iadd dc_Mo_gene_48 ?_
          have hs9 : okS x := Decidable.not_not.mp (bo_0.mp h05)
          refine mi_iald dc_Mo_gene_49 rfl ⟨by omega, by omega, by decide⟩ (v := I 40 (6 * x.toNat + y.toNat)) (congrArg (I 40) (by omega)) ?_
          have hs : okS x := Decidable.not_not.mp (bo_0.mp h05)
          exact mw_iret dc_Mo_gene_50 rfl rfl ⟨fun _ => ⟨rfl, rfl⟩, fun q => absurd (show okS x ∧ 0 ≤ y ∧ y < n from ⟨hs, by omega, by omega⟩) q⟩
        · exact absurd hz (by decide)
      · refine mi_const dc_Mo_gene_20 ?_
        refine mw_goto (tgt := 25) dc_Mo_gene_21 (by decide) ?_
        refine mi_puti (ci := 5) (k := 0) dc_Mo_gene_25 rfl wi_Mo tk_Mo nm_Mo rfl rfl (by decide) fl_Mo_75 rfl (by decide +kernel) (show va_up V 39 (va_up (V 39) 0 (.int (iI 1))) = fu V 39 0 (.int (iI 1)) from rfl) ?_
        refine mw_aload_n dc_Mo_gene_28 rfl 0 rfl ?_
        refine mi_get (ci := 5) (k := 0) dc_Mo_gene_29 rfl wi_Mo rfl rfl (by decide) fl_Mo_75 (fu_at V 39 0 _) ?_
        refine mi_if_le (tgt := 39) dc_Mo_gene_32 (by decide) (iB_mk (by omega) (by omega)) (fun hz => ?_) (fun hz => ?_)
        · exact absurd hz (by decide)
        · refine mi_const dc_Mo_gene_35 ?_
          refine mw_goto (tgt := 50) dc_Mo_gene_36 (by decide) ?_
          have hs : okS x := Decidable.not_not.mp (bo_0.mp h05)
          exact mw_iret dc_Mo_gene_50 rfl rfl ⟨fun q => absurd q (fun r => by have := r.1; omega), fun _ => ⟨rfl, rfl⟩⟩
theorem ev_mostep {G : mm_G} {d : Nat} {cs : mm_Sh} {I : Nat → Nat → Int32} {J : Nat → Nat → Int64} {F : Nat → Nat → Option Nat} {V : Nat → Nat → Value} {pl : Bool} {c y : Int} (hM : mo_V V) (hp : V 39 7 = .int (bo (pl = true))) (hc : V 39 8 = .int (iI c)) (hcb : 0 ≤ c ∧ c ≤ 8) (hy : iB y) : mE G mt_Mo_step d 0 0 [.ref 39, .int (iI y)] (wd_S ++ cs, I, J, F, V) (fun o h1 => (pl = false → o = .inl (some (.int (iI 0))) ∧ h1 = (wd_S ++ cs, I, J, F, fu V 39 0 (.int (iI 1)))) ∧ ((pl = true ∧ ¬ (0 ≤ y ∧ y < c)) → o = .inl (some (.int (iI 0))) ∧ h1 = (wd_S ++ cs, I, J, F, fu V 39 0 (.int (iI 2)))) ∧ ((pl = true ∧ 0 ≤ y ∧ y < c) → o = .inl (some (.int (I 44 y.toNat))) ∧ h1 = (wd_S ++ cs, I, J, F, fu V 39 0 (.int (iI 0))))) := by
  refine mE_intro (by decide) (fun k h q => ?_) (Nat.le_of_ble_eq_true rfl) ?_
  · cases hpl : pl with
    | false => exact nomatch (q.1 hpl).1
    | true =>
      by_cases r : 0 ≤ y ∧ y < c
      · exact nomatch (q.2.2 ⟨hpl, r⟩).1
      · exact nomatch (q.2.1 ⟨hpl, r⟩).1
  show mW G mt_Mo_step d 0 0 0 [(0, .ref 39), (1, .int (iI y))] [] (wd_S ++ cs, I, J, F, V) _
  refine mw_aload_n dc_Mo_step_0 rfl 0 rfl ?_
  refine mw_aload_n dc_Mo_step_1 rfl 0 rfl ?_
  refine mi_get (ci := 5) (k := 7) dc_Mo_step_2 rfl wi_Mo rfl rfl (by decide) fl_Mo_78 hp ?_
  refine mw_if_ne (tgt := 12) dc_Mo_step_5 (by decide) (fun h05 => ?_) (fun h05 => ?_)
  · refine mw_iload_n dc_Mo_step_12 rfl 1 rfl ?_
    refine mi_if_lt (tgt := 24) dc_Mo_step_13 (by decide) hy (fun h113 => ?_) (fun h113 => ?_)
    · refine mi_const dc_Mo_step_24 ?_
      refine mw_goto (tgt := 29) dc_Mo_step_25 (by decide) ?_
      refine mi_puti (ci := 5) (k := 0) dc_Mo_step_29 rfl wi_Mo tk_Mo nm_Mo rfl rfl (by decide) fl_Mo_75 rfl (by decide +kernel) (show va_up V 39 (va_up (V 39) 0 (.int (iI 2))) = fu V 39 0 (.int (iI 2)) from rfl) ?_
      refine mw_aload_n dc_Mo_step_32 rfl 0 rfl ?_
      refine mi_get (ci := 5) (k := 0) dc_Mo_step_33 rfl wi_Mo rfl rfl (by decide) fl_Mo_75 (fu_at V 39 0 _) ?_
      refine mi_if_le (tgt := 43) dc_Mo_step_36 (by decide) (iB_mk (by omega) (by omega)) (fun hz => ?_) (fun hz => ?_)
      · exact absurd hz (by decide)
      · refine mi_const dc_Mo_step_39 ?_
        refine mw_goto (tgt := 49) dc_Mo_step_40 (by decide) ?_
        have hs : pl = true := Decidable.not_not.mp (fun q => h05 (bo_0.mpr q))
        exact mw_iret dc_Mo_step_49 rfl rfl ⟨fun q => (nomatch hs.symm.trans q), fun _ => ⟨rfl, rfl⟩, fun q => absurd q.2 (by omega)⟩
    · refine mw_iload_n dc_Mo_step_16 rfl 1 rfl ?_
      refine mw_aload_n dc_Mo_step_17 rfl 0 rfl ?_
      refine mi_get (ci := 5) (k := 8) dc_Mo_step_18 rfl wi_Mo rfl rfl (by decide) fl_Mo_158 hc ?_
      refine mi_icmp_lt (tgt := 28) dc_Mo_step_21 (by decide) hy (iB_mk (by omega) (by omega)) (fun h221 => ?_) (fun h221 => ?_)
      · refine mi_const dc_Mo_step_28 ?_
        refine mi_puti (ci := 5) (k := 0) dc_Mo_step_29 rfl wi_Mo tk_Mo nm_Mo rfl rfl (by decide) fl_Mo_75 rfl (by decide +kernel) (show va_up V 39 (va_up (V 39) 0 (.int (iI 0))) = fu V 39 0 (.int (iI 0)) from rfl) ?_
        refine mw_aload_n dc_Mo_step_32 rfl 0 rfl ?_
        refine mi_get (ci := 5) (k := 0) dc_Mo_step_33 rfl wi_Mo rfl rfl (by decide) fl_Mo_75 (fu_at V 39 0 _) ?_
        refine mi_if_le (tgt := 43) dc_Mo_step_36 (by decide) (iB_mk (by omega) (by omega)) (fun hz => ?_) (fun hz => ?_)
        · refine mw_aload_n dc_Mo_step_43 rfl 0 rfl ?_
          refine mi_get (ci := 5) (k := 9) dc_Mo_step_44 rfl wi_Mo rfl rfl (by decide) fl_Mo_26 ((fu_n2 V _ (by decide)).trans hM.2.2.2.2.1) ?_
          refine mw_iload_n dc_Mo_step_47 rfl 1 rfl ?_
          refine mi_iald dc_Mo_step_48 rfl ⟨by omega, by omega, by decide⟩ rfl ?_
          have hs : pl = true := Decidable.not_not.mp (fun q => h05 (bo_0.mpr q))
          exact mw_iret dc_Mo_step_49 rfl rfl ⟨fun q => (nomatch hs.symm.trans q), fun q => absurd (show 0 ≤ y ∧ y < c by omega) q.2, fun _ => ⟨rfl, rfl⟩⟩
        · exact absurd hz (by decide)
      · refine mi_const dc_Mo_step_24 ?_
        refine mw_goto (tgt := 29) dc_Mo_step_25 (by decide) ?_
        refine mi_puti (ci := 5) (k := 0) dc_Mo_step_29 rfl wi_Mo tk_Mo nm_Mo rfl rfl (by decide) fl_Mo_75 rfl (by decide +kernel) (show va_up V 39 (va_up (V 39) 0 (.int (iI 2))) = fu V 39 0 (.int (iI 2)) from rfl) ?_
        refine mw_aload_n dc_Mo_step_32 rfl 0 rfl ?_
        refine mi_get (ci := 5) (k := 0) dc_Mo_step_33 rfl wi_Mo rfl rfl (by decide) fl_Mo_75 (fu_at V 39 0 _) ?_
        refine mi_if_le (tgt := 43) dc_Mo_step_36 (by decide) (iB_mk (by omega) (by omega)) (fun hz => ?_) (fun hz => ?_)
        · exact absurd hz (by decide)
        · refine mi_const dc_Mo_step_39 ?_
          refine mw_goto (tgt := 49) dc_Mo_step_40 (by decide) ?_
          have hs : pl = true := Decidable.not_not.mp (fun q => h05 (bo_0.mpr q))
          exact mw_iret dc_Mo_step_49 rfl rfl ⟨fun q => (nomatch hs.symm.trans q), fun _ => ⟨rfl, rfl⟩, fun q => absurd q.2 (by omega)⟩
  · refine mi_const dc_Mo_step_8 ?_
    refine mw_goto (tgt := 29) dc_Mo_step_9 (by decide) ?_
    refine mi_puti (ci := 5) (k := 0) dc_Mo_step_29 rfl wi_Mo tk_Mo nm_Mo rfl rfl (by decide) fl_Mo_75 rfl (by decide +kernel) (show va_up V 39 (va_up (V 39) 0 (.int (iI 1))) = fu V 39 0 (.int (iI 1)) from rfl) ?_
    refine mw_aload_n dc_Mo_step_32 rfl 0 rfl ?_
    refine mi_get (ci := 5) (k := 0) dc_Mo_step_33 rfl wi_Mo rfl rfl (by decide) fl_Mo_75 (fu_at V 39 0 _) ?_
    refine mi_if_le (tgt := 43) dc_Mo_step_36 (by decide) (iB_mk (by omega) (by omega)) (fun hz => ?_) (fun hz => ?_)
    · exact absurd hz (by decide)
    · refine mi_const dc_Mo_step_39 ?_
      refine mw_goto (tgt := 49) dc_Mo_step_40 (by decide) ?_
      have hs : pl = false := Bool.eq_false_iff.mpr (bo_0.mp h05)
      exact mw_iret dc_Mo_step_49 rfl rfl ⟨fun _ => ⟨rfl, rfl⟩, fun q => (nomatch hs.symm.trans q.1), fun q => (nomatch hs.symm.trans q.1)⟩
def mo_s (I : Nat → Nat → Int32) (n : Nat) (so : Nat → Nat) : Prop := ∀ e, e < 2 * n + 2 → I 53 e = iI (so e) ∧ so e < 2 * n + 2
theorem ev_low {G : mm_G} {d : Nat} {cs : mm_Sh} {I : Nat → Nat → Int32} {J : Nat → Nat → Int64} {F : Nat → Nat → Option Nat} {V : Nat → Nat → Value} {n k : Nat} {so : Nat → Nat} (hM : mo_V V) (hs : mo_s I n so) (hk : k ≤ n) (hn : n ≤ 6) : mE G mt_Mo_low d 0 0 [.ref 39, .int (iI k)] (wd_S ++ cs, I, J, F, V) (fun o h1 => o = .inl (some (.int (iI (lo_f so k : Nat)))) ∧ h1 = (wd_S ++ cs, I, J, F, V)) := by
  refine mE_intro (by decide) (fun k h q => nomatch q.1) (Nat.le_of_ble_eq_true rfl) ?_
  obtain ⟨q1, q2⟩ := hs (2 * k) (by omega)
  obtain ⟨p1, p2⟩ := hs (2 * k + 1) (by omega)
  show mW G mt_Mo_low d 0 0 0 [(0, .ref 39), (1, .int (iI k))] [] (wd_S ++ cs, I, J, F, V) _
  refine mw_aload_n dc_Mo_low_0 rfl 0 rfl ?_
  refine mi_get (ci := 5) (k := 20) dc_Mo_low_1 rfl wi_Mo rfl rfl (by decide) fl_Mo_57 hM.2.2.2.2.2.2.2.2.2.2.2.2.2.1 ?_
  refine mi_const dc_Mo_low_4 ?_
  refine mw_iload_n dc_Mo_low_5 rfl 1 rfl ?_
  refine mi_imul dc_Mo_low_6 ?_
  refine mi_iald dc_Mo_low_7 rfl ⟨by omega, by omega, by decide⟩ (v := iI (so (2 * k))) (by rw [show (2 * (k : Int)).toNat = 2 * k by omega]; exact q1) ?_
  refine mw_aload_n dc_Mo_low_8 rfl 0 rfl ?_
  refine mi_get (ci := 5) (k := 20) dc_Mo_low_9 rfl wi_Mo rfl rfl (by decide) fl_Mo_57 hM.2.2.2.2.2.2.2.2.2.2.2.2.2.1 ?_
  refine mi_const dc_Mo_low_12 ?_
  refine mw_iload_n dc_Mo_low_13 rfl 1 rfl ?_
  refine mi_imul dc_Mo_low_14 ?_
  refine mi_const dc_Mo_low_15 ?_
  refine mi_iadd dc_Mo_low_16 ?_
  refine mi_iald dc_Mo_low_17 rfl ⟨by omega, by omega, by decide⟩ (v := iI (so (2 * k + 1))) (by rw [show (2 * (k : Int) + 1).toNat = 2 * k + 1 by omega]; exact p1) ?_
  refine mi_icmp_ge (tgt := 32) dc_Mo_low_18 (by decide) (iB_mk (by omega) (by omega)) (iB_mk (by omega) (by omega)) (fun h018 => ?_) (fun h018 => ?_)
  · refine mw_aload_n dc_Mo_low_32 rfl 0 rfl ?_
    refine mi_get (ci := 5) (k := 20) dc_Mo_low_33 rfl wi_Mo rfl rfl (by decide) fl_Mo_57 hM.2.2.2.2.2.2.2.2.2.2.2.2.2.1 ?_
    refine mi_const dc_Mo_low_36 ?_
    refine mw_iload_n dc_Mo_low_37 rfl 1 rfl ?_
    refine mi_imul dc_Mo_low_38 ?_
    refine mi_const dc_Mo_low_39 ?_
    refine mi_iadd dc_Mo_low_40 ?_
    refine mi_iald dc_Mo_low_41 rfl ⟨by omega, by omega, by decide⟩ (v := iI (so (2 * k + 1))) (by rw [show (2 * (k : Int) + 1).toNat = 2 * k + 1 by omega]; exact p1) ?_
    exact mw_iret dc_Mo_low_42 rfl rfl ⟨by rw [show lo_f so k = so (2 * k + 1) by unfold lo_f; omega], rfl⟩
  · refine mw_aload_n dc_Mo_low_21 rfl 0 rfl ?_
    refine mi_get (ci := 5) (k := 20) dc_Mo_low_22 rfl wi_Mo rfl rfl (by decide) fl_Mo_57 hM.2.2.2.2.2.2.2.2.2.2.2.2.2.1 ?_
    refine mi_const dc_Mo_low_25 ?_
    refine mw_iload_n dc_Mo_low_26 rfl 1 rfl ?_
    refine mi_imul dc_Mo_low_27 ?_
    refine mi_iald dc_Mo_low_28 rfl ⟨by omega, by omega, by decide⟩ (v := iI (so (2 * k))) (by rw [show (2 * (k : Int)).toNat = 2 * k by omega]; exact q1) ?_
    refine mw_goto (tgt := 42) dc_Mo_low_29 (by decide) ?_
    exact mw_iret dc_Mo_low_42 rfl rfl ⟨by rw [show lo_f so k = so (2 * k) by unfold lo_f; omega], rfl⟩
theorem ev_high {G : mm_G} {d : Nat} {cs : mm_Sh} {I : Nat → Nat → Int32} {J : Nat → Nat → Int64} {F : Nat → Nat → Option Nat} {V : Nat → Nat → Value} {n k : Nat} {so : Nat → Nat} (hM : mo_V V) (hs : mo_s I n so) (hk : k ≤ n) (hn : n ≤ 6) : mE G mt_Mo_high d 0 0 [.ref 39, .int (iI k)] (wd_S ++ cs, I, J, F, V) (fun o h1 => o = .inl (some (.int (iI (hi_f so k : Nat)))) ∧ h1 = (wd_S ++ cs, I, J, F, V)) := by
  refine mE_intro (by decide) (fun k h q => nomatch q.1) (Nat.le_of_ble_eq_true rfl) ?_
  obtain ⟨q1, q2⟩ := hs (2 * k) (by omega)
  obtain ⟨p1, p2⟩ := hs (2 * k + 1) (by omega)
  show mW G mt_Mo_high d 0 0 0 [(0, .ref 39), (1, .int (iI k))] [] (wd_S ++ cs, I, J, F, V) _
  refine mw_aload_n dc_Mo_high_0 rfl 0 rfl ?_
  refine mi_get (ci := 5) (k := 20) dc_Mo_high_1 rfl wi_Mo rfl rfl (by decide) fl_Mo_57 hM.2.2.2.2.2.2.2.2.2.2.2.2.2.1 ?_
  refine mi_const dc_Mo_high_4 ?_
  refine mw_iload_n dc_Mo_high_5 rfl 1 rfl ?_
  refine mi_imul dc_Mo_high_6 ?_
  refine mi_iald dc_Mo_high_7 rfl ⟨by omega, by omega, by decide⟩ (v := iI (so (2 * k))) (by rw [show (2 * (k : Int)).toNat = 2 * k by omega]; exact q1) ?_
  refine mw_aload_n dc_Mo_high_8 rfl 0 rfl ?_
  refine mi_get (ci := 5) (k := 20) dc_Mo_high_9 rfl wi_Mo rfl rfl (by decide) fl_Mo_57 hM.2.2.2.2.2.2.2.2.2.2.2.2.2.1 ?_
  refine mi_const dc_Mo_high_12 ?_
  refine mw_iload_n dc_Mo_high_13 rfl 1 rfl ?_
  refine mi_imul dc_Mo_high_14 ?_
  refine mi_const dc_Mo_high_15 ?_
  refine mi_iadd dc_Mo_high_16 ?_
  refine mi_iald dc_Mo_high_17 rfl ⟨by omega, by omega, by decide⟩ (v := iI (so (2 * k + 1))) (by rw [show (2 * (k : Int) + 1).toNat = 2 * k + 1 by omega]; exact p1) ?_
  refine mi_icmp_ge (tgt := 34) dc_Mo_high_18 (by decide) (iB_mk (by omega) (by omega)) (iB_mk (by omega) (by omega)) (fun h018 => ?_) (fun h018 => ?_)
  · refine mw_aload_n dc_Mo_high_34 rfl 0 rfl ?_
    refine mi_get (ci := 5) (k := 20) dc_Mo_high_35 rfl wi_Mo rfl rfl (by decide) fl_Mo_57 hM.2.2.2.2.2.2.2.2.2.2.2.2.2.1 ?_
    refine mi_const dc_Mo_high_38 ?_
    refine mw_iload_n dc_Mo_high_39 rfl 1 rfl ?_
    refine mi_imul dc_Mo_high_40 ?_
    refine mi_iald dc_Mo_high_41 rfl ⟨by omega, by omega, by decide⟩ (v := iI (so (2 * k))) (by rw [show (2 * (k : Int)).toNat = 2 * k by omega]; exact q1) ?_
    exact mw_iret dc_Mo_high_42 rfl rfl ⟨by rw [show hi_f so k = so (2 * k) by unfold hi_f; omega], rfl⟩
  · refine mw_aload_n dc_Mo_high_21 rfl 0 rfl ?_
    refine mi_get (ci := 5) (k := 20) dc_Mo_high_22 rfl wi_Mo rfl rfl (by decide) fl_Mo_57 hM.2.2.2.2.2.2.2.2.2.2.2.2.2.1 ?_
    refine mi_const dc_Mo_high_25 ?_
    refine mw_iload_n dc_Mo_high_26 rfl 1 rfl ?_
    refine mi_imul dc_Mo_high_27 ?_
    refine mi_const dc_Mo_high_28 ?_
    refine mi_iadd dc_Mo_high_29 ?_
    refine mi_iald dc_Mo_high_30 rfl ⟨by omega, by omega, by decide⟩ (v := iI (so (2 * k + 1))) (by rw [show (2 * (k : Int) + 1).toNat = 2 * k + 1 by omega]; exact p1) ?_
    refine mw_goto (tgt := 42) dc_Mo_high_31 (by decide) ?_
    exact mw_iret dc_Mo_high_42 rfl rfl ⟨by rw [show hi_f so k = so (2 * k + 1) by unfold hi_f; omega], rfl⟩
theorem ev_moOriented {G : mm_G} {d : Nat} {cs : mm_Sh} {I : Nat → Nat → Int32} {J : Nat → Nat → Int64} {F : Nat → Nat → Option Nat} {V : Nat → Nat → Value} {n k : Nat} {so : Nat → Nat} (hM : mo_V V) (hs : mo_s I n so) (hk : k ≤ n) (hn : n ≤ 6) : mE G mt_Mo_isOriented (d + 1) 0 0 [.ref 39, .int (iI k)] (wd_S ++ cs, I, J, F, V) (fun o h1 => o = .inl (some (.int (bo ((lo_f so k + hi_f so k) % 2 = 0)))) ∧ h1 = (wd_S ++ cs, I, J, F, V)) := by
  refine mE_intro (by decide) (fun k h q => nomatch q.1) (Nat.le_of_ble_eq_true rfl) ?_
  have l1 : lo_f so k < 14 := by unfold lo_f; have := hs (2 * k) (by omega); omega
  have l2 : hi_f so k < 14 := by unfold hi_f; have := hs (2 * k) (by omega); have := hs (2 * k + 1) (by omega); omega
  show mW G mt_Mo_isOriented (d + 1) 0 0 0 [(0, .ref 39), (1, .int (iI k))] [] (wd_S ++ cs, I, J, F, V) _
  refine mw_aload_n dc_Mo_isOriented_0 rfl 0 rfl ?_
  refine mw_iload_n dc_Mo_isOriented_1 rfl 1 rfl ?_
  refine mz_V1 (M2 := mt_Mo_low) dc_Mo_isOriented_2 ml_Mo_128 rfl rfl ny_Mo_low (by decide) (Nat.le_of_ble_eq_true rfl) (ev_low hM hs hk hn) (fun v h1 hY => ?_)
  obtain ⟨hv, rfl⟩ := hY
  cases hv
  refine mw_aload_n dc_Mo_isOriented_5 rfl 0 rfl ?_
  refine mw_iload_n dc_Mo_isOriented_6 rfl 1 rfl ?_
  refine mz_V1 (M2 := mt_Mo_high) dc_Mo_isOriented_7 ml_Mo_132 rfl rfl ny_Mo_high (by decide) (Nat.le_of_ble_eq_true rfl) (ev_high hM hs hk hn) (fun v h1 hY => ?_)
  obtain ⟨hv, rfl⟩ := hY
  cases hv
  refine mi_iadd dc_Mo_isOriented_10 ?_
  refine mi_const dc_Mo_isOriented_11 ?_
  refine mi_irem dc_Mo_isOriented_12 ⟨by omega, by omega, by omega, by omega⟩ ?_
  refine mi_if_ne (tgt := 20) dc_Mo_isOriented_13 (by decide) (iB_mk (by omega) (by omega)) (fun h013 => ?_) (fun h013 => ?_)
  · refine mi_const dc_Mo_isOriented_20 ?_
    exact mw_iret dc_Mo_isOriented_21 rfl (by decide) ⟨by rw [bo_f (by omega)], rfl⟩
  · refine mi_const dc_Mo_isOriented_16 ?_
    refine mw_goto (tgt := 21) dc_Mo_isOriented_17 (by decide) ?_
    exact mw_iret dc_Mo_isOriented_21 rfl (by decide) ⟨by rw [bo_t (by omega)], rfl⟩
theorem ev_isBetween {G : mm_G} {d : Nat} {cs : mm_Sh} {I : Nat → Nat → Int32} {J : Nat → Nat → Int64} {F : Nat → Nat → Option Nat} {V : Nat → Nat → Value} {n k : Nat} {so : Nat → Nat} (hM : mo_V V) (hs : mo_s I n so) (hk : k ≤ n) (hn : n ≤ 6) {s : Nat} (hs2 : s < 14) : mE G mt_Mo_isBetween (d + 1) 0 0 [.ref 39, .int (iI s), .int (iI k)] (wd_S ++ cs, I, J, F, V) (fun o h1 => o = .inl (some (.int (bo (lo_f so k < s ∧ s < hi_f so k)))) ∧ h1 = (wd_S ++ cs, I, J, F, V)) := by
  refine mE_intro (by decide) (fun k h q => nomatch q.1) (Nat.le_of_ble_eq_true rfl) ?_
  have l1 : lo_f so k < 14 := by unfold lo_f; have := hs (2 * k) (by omega); omega
  have l2 : hi_f so k < 14 := by unfold hi_f; have := hs (2 * k) (by omega); have := hs (2 * k + 1) (by omega); omega
  show mW G mt_Mo_isBetween (d + 1) 0 0 0 [(0, .ref 39), (1, .int (iI s)), (2, .int (iI k))] [] (wd_S ++ cs, I, J, F, V) _
  refine mw_iload_n dc_Mo_isBetween_0 rfl 1 rfl ?_
  refine mw_aload_n dc_Mo_isBetween_1 rfl 0 rfl ?_
  refine mw_iload_n dc_Mo_isBetween_2 rfl 2 rfl ?_
  refine mz_V1 (M2 := mt_Mo_low) dc_Mo_isBetween_3 ml_Mo_128 rfl rfl ny_Mo_low (by decide) (Nat.le_of_ble_eq_true rfl) (ev_low hM hs hk hn) (fun v h1 hY => ?_)
  obtain ⟨hv, rfl⟩ := hY
  cases hv
  refine mi_icmp_le (tgt := 22) dc_Mo_isBetween_6 (by decide) (iB_mk (by omega) (by omega)) (iB_mk (by omega) (by omega)) (fun h06 => ?_) (fun h06 => ?_)
  · refine mi_const dc_Mo_isBetween_22 ?_
    exact mw_iret dc_Mo_isBetween_23 rfl (by decide) ⟨by rw [bo_f (by omega)], rfl⟩
  · refine mw_iload_n dc_Mo_isBetween_9 rfl 1 rfl ?_
    refine mw_aload_n dc_Mo_isBetween_10 rfl 0 rfl ?_
    refine mw_iload_n dc_Mo_isBetween_11 rfl 2 rfl ?_
    refine mz_V1 (M2 := mt_Mo_high) dc_Mo_isBetween_12 ml_Mo_132 rfl rfl ny_Mo_high (by decide) (Nat.le_of_ble_eq_true rfl) (ev_high hM hs hk hn) (fun v h1 hY => ?_)
    obtain ⟨hv, rfl⟩ := hY
    cases hv
    refine mi_icmp_ge (tgt := 22) dc_Mo_isBetween_15 (by decide) (iB_mk (by omega) (by omega)) (iB_mk (by omega) (by omega)) (fun h115 => ?_) (fun h115 => ?_)
    · refine mi_const dc_Mo_isBetween_22 ?_
      exact mw_iret dc_Mo_isBetween_23 rfl (by decide) ⟨by rw [bo_f (by omega)], rfl⟩
    · refine mi_const dc_Mo_isBetween_18 ?_
      refine mw_goto (tgt := 23) dc_Mo_isBetween_19 (by decide) ?_
      exact mw_iret dc_Mo_isBetween_23 rfl (by decide) ⟨by rw [bo_t (by omega)], rfl⟩
