/-! read -/
theorem ev_read {G : mm_G} {d : Nat} {cs : mm_Sh} {I : Nat → Nat → Int32} {J : Nat → Nat → Int64} {F : Nat → Nat → Option Nat} {V : Nat → Nat → Value} {n l : Nat} {x : Int} {cc : Nat → Int} (hst : G.1.stackTraces = false) (hW : dk_W F V) (hg : V 0 0 = .int (iI n)) (hn : n ≤ 6) (hx : iB x) (hl : V 22 1 = .int (iI l)) (hl24 : l ≤ 24) (hcc : ∀ k, k < l → I 23 k = iI (cc k) ∧ 0 ≤ cc k ∧ cc k < 256) :
    mT G mt_De_read (d + 1) 1 6 [.ref 0, .int (iI x)] (wd_S ++ cs, I, J, F, V) (fun o h1 => (okS x → ∃ (t : Nat) (q : ps_S), t ≤ l ∧ ps_r n cc t = some q ∧
      ((t < l ∧ ps_1 n (cc t) q = none ∧ o = .inl (some (.int (iI t))) ∧ h1 = (wd_S ++ cs, va_up I 38 (nr (I 38) 0 q.1 q.2.2.2), J, F, V)) ∨ (t = l ∧ q.1 ≠ n ∧ o = .inl (some (.int (iI l))) ∧ h1 = (wd_S ++ cs, va_up I 38 (nr (I 38) 0 q.1 q.2.2.2), J, F, V)) ∨
       (t = l ∧ q.1 = n ∧ o = .inl (some (.int (iI (-1)))) ∧ h1 = (wd_S ++ cs, va_up (va_up I 38 (nr (I 38) 0 q.1 q.2.2.2)) (sp x.toNat + 1) (va_cpy (nr (I 38) 0 q.1 q.2.2.2) (I (sp x.toNat + 1)) 0 0 6), J, F, fu (fu V (sp x.toNat) 3 (.int (iI 0))) 22 1 (.int (iI 0)))))) ∧ (¬ okS x → o = .inr 1 ∧ h1 = (wd_S ++ cs, I, J, F, V))) := by
  refine mT_intro hst (by decide) (Nat.le_of_ble_eq_true rfl) ?_
  show mW G mt_De_read (d + 1) 1 6 0 [(0, .ref 0), (1, .int (iI x))] [] (wd_S ++ cs, I, J, F, V) _
  refine mw_iload_n dc_De_read_0 rfl 1 rfl ?_
  refine mc_SP1 (mc := 1) (ms := 6) (bc := 0) (bs := 0) (M2 := mt_De_checkSlot) dc_De_read_1 ml_De_74 ny_De_checkSlot (by decide) (Nat.le_of_ble_eq_true rfl) (ev_checkSlot hst hx) (fun v h1 hY => ?_) rfl (fun j h1 hY => by obtain ⟨hp, rfl, rfl⟩ := ck_x hY; exact ⟨fun q => absurd q hp, fun _ => ⟨rfl, rfl⟩⟩)
  obtain ⟨hp, rfl, rfl⟩ := ck_r hY
  refine mw_aload_n dc_De_read_4 rfl 0 rfl ?_
  refine mi_get (ci := 0) (k := 2) dc_De_read_5 rfl wi_De rfl rfl (by decide) fl_De_23 hW.1.2.1 ?_
  refine mw_aload_n dc_De_read_8 rfl 0 rfl ?_
  refine mi_get (ci := 0) (k := 9) dc_De_read_9 rfl wi_De rfl rfl (by decide) fl_De_53 hW.1.2.2.2.2.2.2.2 ?_
  refine mw_aload_n dc_De_read_12 rfl 0 rfl ?_
  refine mi_get (ci := 0) (k := 0) dc_De_read_13 rfl wi_De rfl rfl (by decide) fl_De_9 hg ?_
  refine mz_V2 (M2 := mt_Te_parse) dc_De_read_16 ml_De_78 rfl rfl ny_Te_parse (by decide) (Nat.le_of_ble_eq_true rfl) (ev_parse (t := 22) (c := 23) (a := 38) (na := 6) rfl rfl rfl (by decide) hW.2.2.1 hl hl24 hn ⟨hn, by decide⟩ hcc) (fun v h1 hY => ?_)
  obtain ⟨t, q, ht, hr, rfl, ⟨h3, h4, h5⟩ | ⟨rfl, h5⟩⟩ := hY
  · cases h5
    refine mw_istore_n dc_De_read_19 rfl (by decide) rfl ?_
    refine mw_iload_n dc_De_read_20 rfl 0 rfl ?_
    refine mi_const dc_De_read_21 ?_
    refine mi_icmp_ne (tgt := 46) dc_De_read_22 (by decide) (iB_mk (by omega) (by omega)) (iB_mk (by omega) (by omega)) (fun hh => ?_) (fun hh => ?_)
    · refine mw_iload_n dc_De_read_46 rfl 0 rfl ?_
      exact mw_iret dc_De_read_47 rfl rfl ⟨fun _ => ⟨t, q, ht, hr, Or.inl ⟨h3, h4, rfl, rfl⟩⟩, fun r => absurd hp r⟩
    · exact absurd hh (by omega)
  · by_cases hqn : q.1 = n
    · rw [if_pos hqn] at h5
      cases h5
      refine mw_istore_n dc_De_read_19 rfl (by decide) rfl ?_
      refine mw_iload_n dc_De_read_20 rfl 0 rfl ?_
      refine mi_const dc_De_read_21 ?_
      refine mi_icmp_ne (tgt := 46) dc_De_read_22 (by decide) (iB_mk (by omega) (by omega)) (iB_mk (by omega) (by omega)) (fun hh => ?_) (fun hh => ?_)
      · exact absurd rfl hh
      · refine mw_aload_n dc_De_read_25 rfl 1 rfl ?_
        refine mi_get (ci := 0) (k := 1) dc_De_read_26 rfl wi_De rfl rfl (by decide) fl_De_15 hW.1.1 ?_
        refine mw_iload_n dc_De_read_29 rfl 2 rfl ?_
        refine mi_aald dc_De_read_30 rfl rfl ⟨by omega, by omega, by decide⟩ (hW.2.1 x.toNat (by omega)).1 ?_
        refine mw_aload_n dc_De_read_31 rfl 1 rfl ?_
        refine mi_get (ci := 0) (k := 9) dc_De_read_32 rfl wi_De rfl rfl (by decide) fl_De_53 hW.1.2.2.2.2.2.2.2 ?_
        refine mz_V1 (M2 := mt_Sl_become) dc_De_read_35 ml_De_82 (sl_W x.toNat (by omega)).1 rfl ny_Sl_become (by decide) (Nat.le_of_ble_eq_true rfl) (ev_become (I := va_up I 38 (nr (I 38) 0 q.1 q.2.2.2)) (a := 38) (n := 6) (sl_W x.toNat (by omega)) (hW.2.1 x.toNat (by omega)).2 rfl ⟨by decide, by decide⟩) (fun v h1 hY => ?_)
        obtain ⟨hv, rfl⟩ := hY
        cases hv
        have hW3 := dk_fu (.int (iI 0)) hW (wi_k (show x.toNat < 5 by omega))
        have hl3 : fu V (sp x.toNat) 3 (.int (iI 0)) 22 1 = .int (iI t) := (fu_n1 V _ (by unfold sp; omega)).trans hl
        refine mw_aload_n dc_De_read_38 rfl 1 rfl ?_
        refine mi_get (ci := 0) (k := 2) dc_De_read_39 rfl wi_De rfl rfl (by decide) fl_De_23 hW3.1.2.1 ?_
        refine mz_V0 (M2 := mt_Te_empty) dc_De_read_42 ml_De_70 rfl rfl ny_Te_empty (by decide) (Nat.le_of_ble_eq_true rfl) (ev_empty rfl hl3) (fun v h1 hY => ?_)
        obtain ⟨hv, rfl⟩ := hY
        cases hv
        refine mw_pop dc_De_read_45 rfl ?_
        refine mw_iload_n dc_De_read_46 rfl 0 rfl ?_
        refine mw_iret dc_De_read_47 rfl rfl ⟨fun _ => ⟨t, q, ht, hr, Or.inr (Or.inr ⟨rfl, hqn, rfl, ?_⟩)⟩, fun r => absurd hp r⟩
        rw [va_up_self, va_up_ne _ _ (show sp x.toNat + 1 ≠ 38 by unfold sp; omega)]
    · rw [if_neg hqn] at h5
      cases h5
      refine mw_istore_n dc_De_read_19 rfl (by decide) rfl ?_
      refine mw_iload_n dc_De_read_20 rfl 0 rfl ?_
      refine mi_const dc_De_read_21 ?_
      refine mi_icmp_ne (tgt := 46) dc_De_read_22 (by decide) (iB_mk (by omega) (by omega)) (iB_mk (by omega) (by omega)) (fun hh => ?_) (fun hh => ?_)
      · refine mw_iload_n dc_De_read_46 rfl 0 rfl ?_
        exact mw_iret dc_De_read_47 rfl rfl ⟨fun _ => ⟨t, q, ht, hr, Or.inr (Or.inl ⟨rfl, hqn, rfl, rfl⟩)⟩, fun r => absurd hp r⟩
      · exact absurd hh (by omega)
