/-! the reference's breakpoints -/
theorem lp_mbp {G : mm_G} {d bc bs : Nat} {cs : mm_Sh} {I : Nat → Nat → Int32} {J : Nat → Nat → Int64} {F : Nat → Nat → Option Nat} {V : Nat → Nat → Value} {X : mm_X} {n : Nat} {y : Nat → Int} (hM : mo_V V) (hg : V 39 1 = .int (iI n)) (hn : n ≤ 6) (hy : ∀ p, p < n → I 49 p = iI (y p) ∧ -100 ≤ y p ∧ y p ≤ 100) (hx : X (.inl (some (.int (iI (ct (fun j => !(fr_f n y (j + 1) == fr_f n y j + 1)) (n + 1) : Nat))))) (wd_S ++ cs, I, J, F, V)) :
    ∀ (m k : Nat), n + 1 - k < m → k ≤ n + 1 → mW G mt_Mo_breakpoints d bc bs 4 [(2, .int (iI k)), (1, .int (iI (ct (fun j => !(fr_f n y (j + 1) == fr_f n y j + 1)) k : Nat))), (0, .ref 39)] [] (wd_S ++ cs, I, J, F, V) X := by
  intro m
  induction m with
  | zero => intro k h1 _; exact absurd h1 (Nat.not_lt_zero _)
  | succ m ih =>
    intro k h1 h2
    have hb := ct_le (fun j => !(fr_f n y (j + 1) == fr_f n y j + 1)) k
    refine mw_iload_n dc_Mo_breakpoints_4 rfl 0 rfl ?_
    refine mw_aload_n dc_Mo_breakpoints_5 rfl 2 rfl ?_
    refine mi_get (ci := 5) (k := 1) dc_Mo_breakpoints_6 rfl wi_Mo rfl rfl (by decide) fl_Mo_7 hg ?_
    refine mi_icmp_gt (tgt := 76) dc_Mo_breakpoints_9 (by decide) (iB_mk (by omega) (by omega)) (iB_mk (by omega) (by omega)) (fun hh => ?_) (fun hh => ?_)
    · have e : k = n + 1 := by omega
      subst e
      refine mw_iload_n dc_Mo_breakpoints_76 rfl 1 rfl ?_
      exact mw_iret dc_Mo_breakpoints_77 rfl rfl hx
    · have hk : k ≤ n := by omega
      refine mw_iload_n dc_Mo_breakpoints_12 rfl 0 rfl ?_
      refine mi_if_ne (tgt := 20) dc_Mo_breakpoints_13 (by decide) (iB_mk (by omega) (by omega)) (fun h013 => ?_) (fun h013 => ?_)
      · refine mw_aload_n dc_Mo_breakpoints_20 rfl 2 rfl ?_
        refine mi_get (ci := 5) (k := 16) dc_Mo_breakpoints_21 rfl wi_Mo rfl rfl (by decide) fl_Mo_45 hM.2.2.2.2.2.2.2.2.2.1 ?_
        refine mw_iload_n dc_Mo_breakpoints_24 rfl 0 rfl ?_
        refine mi_const dc_Mo_breakpoints_25 ?_
        refine mi_isub dc_Mo_breakpoints_26 ?_
        refine mi_iald dc_Mo_breakpoints_27 rfl ⟨by omega, by omega, by decide⟩ (v := iI (y (k - 1))) (by rw [show ((k : Int) - 1).toNat = k - 1 by omega]; exact (hy (k - 1) (by omega)).1) ?_
        refine mw_istore_n dc_Mo_breakpoints_28 rfl (by decide) rfl ?_
        refine mw_iload_n dc_Mo_breakpoints_29 rfl 1 rfl ?_
        refine mw_aload_n dc_Mo_breakpoints_30 rfl 3 rfl ?_
        refine mi_get (ci := 5) (k := 1) dc_Mo_breakpoints_31 rfl wi_Mo rfl rfl (by decide) fl_Mo_7 hg ?_
        refine mi_icmp_ne (tgt := 46) dc_Mo_breakpoints_34 (by decide) (iB_mk (by omega) (by omega)) (iB_mk (by omega) (by omega)) (fun h134 => ?_) (fun h134 => ?_)
        · refine mw_aload_n dc_Mo_breakpoints_46 rfl 3 rfl ?_
          refine mi_get (ci := 5) (k := 16) dc_Mo_breakpoints_47 rfl wi_Mo rfl rfl (by decide) fl_Mo_45 hM.2.2.2.2.2.2.2.2.2.1 ?_
          refine mw_iload_n dc_Mo_breakpoints_50 rfl 1 rfl ?_
          refine mi_iald dc_Mo_breakpoints_51 rfl ⟨by omega, by omega, by decide⟩ (v := iI (y k)) (by rw [Int.toNat_natCast]; exact (hy k (by omega)).1) ?_
          refine mw_istore dc_Mo_breakpoints_52 (by decide) rfl ?_
          refine mw_iload dc_Mo_breakpoints_54 0 rfl ?_
          refine mw_iload_n dc_Mo_breakpoints_56 rfl 1 rfl ?_
          refine mi_const dc_Mo_breakpoints_57 ?_
          refine mi_iadd dc_Mo_breakpoints_58 ?_
          have y1 := hy (k - 1) (by omega)
          have f1 : fr_f n y k = y (k - 1) := (if_neg (by omega)).trans (if_neg (by omega))
          have y2 := hy k (by omega)
          have f2 : fr_f n y (k + 1) = y k := (if_neg (by omega)).trans (if_neg (by omega))
          refine mi_icmp_ne (tgt := 66) dc_Mo_breakpoints_59 (by decide) (iB_mk (by omega) (by omega)) (iB_mk (by omega) (by omega)) (fun hw => ?_) (fun hw => ?_)
          · refine mw_iload_n dc_Mo_breakpoints_66 rfl 3 rfl ?_
            refine mi_const dc_Mo_breakpoints_67 ?_
            refine mi_iadd dc_Mo_breakpoints_68 ?_
            refine mw_istore_n dc_Mo_breakpoints_69 rfl (by decide) rfl ?_
            refine mi_iinc dc_Mo_breakpoints_70 3 rfl (by decide) rfl ?_
            refine mw_goto (tgt := 4) dc_Mo_breakpoints_73 (by decide) ?_
            refine mw_pick [0, 1, 4] rfl ?_
            have k2 := ih (k + 1) (by omega) (by omega)
            rw [ct_t (by simp only [Bool.not_eq_true', beq_eq_false_iff_ne]; rw [f1, f2]; exact hw)] at k2
            exact k2
          · refine mw_iload_n dc_Mo_breakpoints_62 rfl 3 rfl ?_
            refine mw_goto (tgt := 69) dc_Mo_breakpoints_63 (by decide) ?_
            refine mw_istore_n dc_Mo_breakpoints_69 rfl (by decide) rfl ?_
            refine mi_iinc dc_Mo_breakpoints_70 3 rfl (by decide) rfl ?_
            refine mw_goto (tgt := 4) dc_Mo_breakpoints_73 (by decide) ?_
            refine mw_pick [0, 1, 4] rfl ?_
            have k2 := ih (k + 1) (by omega) (by omega)
            rw [ct_f (by simp only [Bool.not_eq_true', beq_eq_false_iff_ne]; rw [f1, f2]; exact not_not_intro hw)] at k2
            exact k2
        · refine mw_aload_n dc_Mo_breakpoints_37 rfl 3 rfl ?_
          refine mi_get (ci := 5) (k := 1) dc_Mo_breakpoints_38 rfl wi_Mo rfl rfl (by decide) fl_Mo_7 hg ?_
          refine mi_const dc_Mo_breakpoints_41 ?_
          refine mi_iadd dc_Mo_breakpoints_42 ?_
          refine mw_goto (tgt := 52) dc_Mo_breakpoints_43 (by decide) ?_
          refine mw_istore dc_Mo_breakpoints_52 (by decide) rfl ?_
          refine mw_iload dc_Mo_breakpoints_54 0 rfl ?_
          refine mw_iload_n dc_Mo_breakpoints_56 rfl 1 rfl ?_
          refine mi_const dc_Mo_breakpoints_57 ?_
          refine mi_iadd dc_Mo_breakpoints_58 ?_
          have y1 := hy (k - 1) (by omega)
          have f1 : fr_f n y k = y (k - 1) := (if_neg (by omega)).trans (if_neg (by omega))
          have f2 : fr_f n y (k + 1) = (n : Int) + 1 := (if_neg (by omega)).trans (if_pos (by omega))
          refine mi_icmp_ne (tgt := 66) dc_Mo_breakpoints_59 (by decide) (iB_mk (by omega) (by omega)) (iB_mk (by omega) (by omega)) (fun hw => ?_) (fun hw => ?_)
          · refine mw_iload_n dc_Mo_breakpoints_66 rfl 3 rfl ?_
            refine mi_const dc_Mo_breakpoints_67 ?_
            refine mi_iadd dc_Mo_breakpoints_68 ?_
            refine mw_istore_n dc_Mo_breakpoints_69 rfl (by decide) rfl ?_
            refine mi_iinc dc_Mo_breakpoints_70 3 rfl (by decide) rfl ?_
            refine mw_goto (tgt := 4) dc_Mo_breakpoints_73 (by decide) ?_
            refine mw_pick [0, 1, 4] rfl ?_
            have k2 := ih (k + 1) (by omega) (by omega)
            rw [ct_t (by simp only [Bool.not_eq_true', beq_eq_false_iff_ne]; rw [f1, f2]; exact hw)] at k2
            exact k2
          · refine mw_iload_n dc_Mo_breakpoints_62 rfl 3 rfl ?_
            refine mw_goto (tgt := 69) dc_Mo_breakpoints_63 (by decide) ?_
            refine mw_istore_n dc_Mo_breakpoints_69 rfl (by decide) rfl ?_
            refine mi_iinc dc_Mo_breakpoints_70 3 rfl (by decide) rfl ?_
            refine mw_goto (tgt := 4) dc_Mo_breakpoints_73 (by decide) ?_
            refine mw_pick [0, 1, 4] rfl ?_
            have k2 := ih (k + 1) (by omega) (by omega)
            rw [ct_f (by simp only [Bool.not_eq_true', beq_eq_false_iff_ne]; rw [f1, f2]; exact not_not_intro hw)] at k2
            exact k2
      · refine mi_const dc_Mo_breakpoints_16 ?_
        refine mw_goto (tgt := 28) dc_Mo_breakpoints_17 (by decide) ?_
        refine mw_istore_n dc_Mo_breakpoints_28 rfl (by decide) rfl ?_
        refine mw_iload_n dc_Mo_breakpoints_29 rfl 1 rfl ?_
        refine mw_aload_n dc_Mo_breakpoints_30 rfl 3 rfl ?_
        refine mi_get (ci := 5) (k := 1) dc_Mo_breakpoints_31 rfl wi_Mo rfl rfl (by decide) fl_Mo_7 hg ?_
        refine mi_icmp_ne (tgt := 46) dc_Mo_breakpoints_34 (by decide) (iB_mk (by omega) (by omega)) (iB_mk (by omega) (by omega)) (fun h134 => ?_) (fun h134 => ?_)
        · refine mw_aload_n dc_Mo_breakpoints_46 rfl 3 rfl ?_
          refine mi_get (ci := 5) (k := 16) dc_Mo_breakpoints_47 rfl wi_Mo rfl rfl (by decide) fl_Mo_45 hM.2.2.2.2.2.2.2.2.2.1 ?_
          refine mw_iload_n dc_Mo_breakpoints_50 rfl 1 rfl ?_
          refine mi_iald dc_Mo_breakpoints_51 rfl ⟨by omega, by omega, by decide⟩ (v := iI (y k)) (by rw [Int.toNat_natCast]; exact (hy k (by omega)).1) ?_
          refine mw_istore dc_Mo_breakpoints_52 (by decide) rfl ?_
          refine mw_iload dc_Mo_breakpoints_54 0 rfl ?_
          refine mw_iload_n dc_Mo_breakpoints_56 rfl 1 rfl ?_
          refine mi_const dc_Mo_breakpoints_57 ?_
          refine mi_iadd dc_Mo_breakpoints_58 ?_
          have f1 : fr_f n y k = 0 := if_pos (by omega)
          have y2 := hy k (by omega)
          have f2 : fr_f n y (k + 1) = y k := (if_neg (by omega)).trans (if_neg (by omega))
          refine mi_icmp_ne (tgt := 66) dc_Mo_breakpoints_59 (by decide) (iB_mk (by omega) (by omega)) (iB_mk (by omega) (by omega)) (fun hw => ?_) (fun hw => ?_)
          · refine mw_iload_n dc_Mo_breakpoints_66 rfl 3 rfl ?_
            refine mi_const dc_Mo_breakpoints_67 ?_
            refine mi_iadd dc_Mo_breakpoints_68 ?_
            refine mw_istore_n dc_Mo_breakpoints_69 rfl (by decide) rfl ?_
            refine mi_iinc dc_Mo_breakpoints_70 3 rfl (by decide) rfl ?_
            refine mw_goto (tgt := 4) dc_Mo_breakpoints_73 (by decide) ?_
            refine mw_pick [0, 1, 4] rfl ?_
            have k2 := ih (k + 1) (by omega) (by omega)
            rw [ct_t (by simp only [Bool.not_eq_true', beq_eq_false_iff_ne]; rw [f1, f2]; exact hw)] at k2
            exact k2
          · refine mw_iload_n dc_Mo_breakpoints_62 rfl 3 rfl ?_
            refine mw_goto (tgt := 69) dc_Mo_breakpoints_63 (by decide) ?_
            refine mw_istore_n dc_Mo_breakpoints_69 rfl (by decide) rfl ?_
            refine mi_iinc dc_Mo_breakpoints_70 3 rfl (by decide) rfl ?_
            refine mw_goto (tgt := 4) dc_Mo_breakpoints_73 (by decide) ?_
            refine mw_pick [0, 1, 4] rfl ?_
            have k2 := ih (k + 1) (by omega) (by omega)
            rw [ct_f (by simp only [Bool.not_eq_true', beq_eq_false_iff_ne]; rw [f1, f2]; exact not_not_intro hw)] at k2
            exact k2
        · refine mw_aload_n dc_Mo_breakpoints_37 rfl 3 rfl ?_
          refine mi_get (ci := 5) (k := 1) dc_Mo_breakpoints_38 rfl wi_Mo rfl rfl (by decide) fl_Mo_7 hg ?_
          refine mi_const dc_Mo_breakpoints_41 ?_
          refine mi_iadd dc_Mo_breakpoints_42 ?_
          refine mw_goto (tgt := 52) dc_Mo_breakpoints_43 (by decide) ?_
          refine mw_istore dc_Mo_breakpoints_52 (by decide) rfl ?_
          refine mw_iload dc_Mo_breakpoints_54 0 rfl ?_
          refine mw_iload_n dc_Mo_breakpoints_56 rfl 1 rfl ?_
          refine mi_const dc_Mo_breakpoints_57 ?_
          refine mi_iadd dc_Mo_breakpoints_58 ?_
          have f1 : fr_f n y k = 0 := if_pos (by omega)
          have f2 : fr_f n y (k + 1) = (n : Int) + 1 := (if_neg (by omega)).trans (if_pos (by omega))
          refine mi_icmp_ne (tgt := 66) dc_Mo_breakpoints_59 (by decide) (iB_mk (by omega) (by omega)) (iB_mk (by omega) (by omega)) (fun hw => ?_) (fun hw => ?_)
          · refine mw_iload_n dc_Mo_breakpoints_66 rfl 3 rfl ?_
            refine mi_const dc_Mo_breakpoints_67 ?_
            refine mi_iadd dc_Mo_breakpoints_68 ?_
            refine mw_istore_n dc_Mo_breakpoints_69 rfl (by decide) rfl ?_
            refine mi_iinc dc_Mo_breakpoints_70 3 rfl (by decide) rfl ?_
            refine mw_goto (tgt := 4) dc_Mo_breakpoints_73 (by decide) ?_
            refine mw_pick [0, 1, 4] rfl ?_
            have k2 := ih (k + 1) (by omega) (by omega)
            rw [ct_t (by simp only [Bool.not_eq_true', beq_eq_false_iff_ne]; rw [f1, f2]; exact hw)] at k2
            exact k2
          · refine mw_iload_n dc_Mo_breakpoints_62 rfl 3 rfl ?_
            refine mw_goto (tgt := 69) dc_Mo_breakpoints_63 (by decide) ?_
            refine mw_istore_n dc_Mo_breakpoints_69 rfl (by decide) rfl ?_
            refine mi_iinc dc_Mo_breakpoints_70 3 rfl (by decide) rfl ?_
            refine mw_goto (tgt := 4) dc_Mo_breakpoints_73 (by decide) ?_
            refine mw_pick [0, 1, 4] rfl ?_
            have k2 := ih (k + 1) (by omega) (by omega)
            rw [ct_f (by simp only [Bool.not_eq_true', beq_eq_false_iff_ne]; rw [f1, f2]; exact not_not_intro hw)] at k2
            exact k2
theorem ev_mobreak {G : mm_G} {d : Nat} {cs : mm_Sh} {I : Nat → Nat → Int32} {J : Nat → Nat → Int64} {F : Nat → Nat → Option Nat} {V : Nat → Nat → Value} {n : Nat} {y : Nat → Int} (hM : mo_V V) (hg : V 39 1 = .int (iI n)) (hn : n ≤ 6) (hy : ∀ p, p < n → I 49 p = iI (y p) ∧ -100 ≤ y p ∧ y p ≤ 100) : mE G mt_Mo_breakpoints d 0 0 [.ref 39] (wd_S ++ cs, I, J, F, V) (fun o h1 => o = .inl (some (.int (iI (ct (fun j => !(fr_f n y (j + 1) == fr_f n y j + 1)) (n + 1) : Nat)))) ∧ h1 = (wd_S ++ cs, I, J, F, V)) := by
  refine mE_intro (by decide) (fun k h q => nomatch q.1) (Nat.le_of_ble_eq_true rfl) ?_
  show mW G mt_Mo_breakpoints d 0 0 0 [(0, .ref 39)] [] (wd_S ++ cs, I, J, F, V) _
  refine mi_const dc_Mo_breakpoints_0 ?_
  refine mw_istore_n dc_Mo_breakpoints_1 rfl (by decide) rfl ?_
  refine mi_const dc_Mo_breakpoints_2 ?_
  refine mw_istore_n dc_Mo_breakpoints_3 rfl (by decide) rfl ?_
  exact lp_mbp hM hg hn hy ⟨rfl, rfl⟩ (n + 2) 0 (by omega) (by omega)
