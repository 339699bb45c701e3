/-! counts over the lines -/
def ct (P : Nat → Bool) : Nat → Nat
  | 0 => 0
  | k + 1 => if P k = true then ct P k + 1 else ct P k
theorem ct_le (P : Nat → Bool) (k : Nat) : ct P k ≤ k := by
  induction k with
  | zero => exact Nat.le_refl _
  | succ k ih =>
    show (if P k = true then ct P k + 1 else ct P k) ≤ k + 1
    split <;> omega
theorem ct_t {P : Nat → Bool} {k : Nat} (h : P k = true) : ct P (k + 1) = ct P k + 1 := if_pos h
theorem ct_f {P : Nat → Bool} {k : Nat} (h : ¬ P k = true) : ct P (k + 1) = ct P k := if_neg h
def dr_p (I : Nat → Nat → Int32) (n : Nat) (pa : Nat → Nat) : Prop := ∀ k, k ≤ n → I 31 k = iI (pa k) ∧ pa k ≤ n
def dr_b (I : Nat → Nat → Int32) (n : Nat) (bd : Nat → Bool) : Prop := ∀ k, k ≤ n → I 32 k = bo (bd k = true)
def dr_f (I : Nat → Nat → Int32) (n : Nat) (fr : Nat → Int) : Prop := ∀ k, k ≤ n + 1 → I 27 k = iI (fr k) ∧ -100 ≤ fr k ∧ fr k ≤ 100
theorem lp_countParts {G : mm_G} {d bc bs : Nat} {cs : mm_Sh} {I : Nat → Nat → Int32} {J : Nat → Nat → Int64} {F : Nat → Nat → Option Nat} {V : Nat → Nat → Value} {X : mm_X} {n : Nat} {pa : Nat → Nat} (hp : dr_p I n pa) (hV : dr_V V) (hn : n ≤ 6) (hL : V 24 2 = .int (iI ((n + 1 : Nat) : Int))) (hx : X (.inl (some (.int (iI (ct (fun j => pa j == j) (n + 1) : Nat))))) (wd_S ++ cs, I, J, F, V)) :
    ∀ (m k : Nat), n + 1 - k < m → k ≤ n + 1 → mW G mt_Dr_countParts (d) bc bs 4 [(2, .int (iI k)), (1, .int (iI (ct (fun j => pa j == j) k : Nat))), (0, .ref 24)] [] (wd_S ++ cs, I, J, F, V) X := by
  intro m
  induction m with
  | zero => intro k h1 _; exact absurd h1 (Nat.not_lt_zero _)
  | succ m ih =>
    intro k h1 h2
    have hb := ct_le (fun j => pa j == j) k
    refine mw_iload_n dc_Dr_countParts_4 rfl 0 rfl ?_
    refine mw_aload_n dc_Dr_countParts_5 rfl 2 rfl ?_
    refine mi_get (ci := 3) (k := 2) dc_Dr_countParts_6 rfl wi_Dr rfl rfl (by decide) fl_Dr_40 hL ?_
    refine mi_icmp_ge (tgt := 31) dc_Dr_countParts_9 (by decide) (iB_mk (by omega) (by omega)) (iB_mk (by omega) (by omega)) (fun hh => ?_) (fun hh => ?_)
    · have e : k = n + 1 := by omega
      subst e
      refine mw_iload_n dc_Dr_countParts_31 rfl 1 rfl ?_
      exact mw_iret dc_Dr_countParts_32 rfl rfl hx
    · have hk : k ≤ n := by omega
      obtain ⟨q1, q2⟩ := hp k hk
      refine mw_aload_n dc_Dr_countParts_12 rfl 2 rfl ?_
      refine mi_get (ci := 3) (k := 8) dc_Dr_countParts_13 rfl wi_Dr rfl rfl (by decide) fl_Dr_31 hV.2.2.2.2.2.2.1 ?_
      refine mw_iload_n dc_Dr_countParts_16 rfl 0 rfl ?_
      refine mi_iald dc_Dr_countParts_17 rfl ⟨by omega, by omega, by decide⟩ (v := iI (pa k)) (by rw [Int.toNat_natCast]; exact q1) ?_
      refine mw_iload_n dc_Dr_countParts_18 rfl 0 rfl ?_
      refine mi_icmp_ne (tgt := 25) dc_Dr_countParts_19 (by decide) (iB_mk (by omega) (by omega)) (iB_mk (by omega) (by omega)) (fun h019 => ?_) (fun h019 => ?_)
      · refine mi_iinc dc_Dr_countParts_25 0 rfl (by decide) rfl ?_
        refine mw_goto (tgt := 4) dc_Dr_countParts_28 (by decide) ?_
        refine mw_pick [0, 1, 2] rfl ?_
        have k2 := ih (k + 1) (by omega) (by omega)
        rw [ct_f (by simp only [beq_iff_eq]; omega)] at k2
        exact k2
      · refine mi_iinc dc_Dr_countParts_22 1 rfl (by decide) rfl ?_
        refine mi_iinc dc_Dr_countParts_25 1 rfl (by decide) rfl ?_
        refine mw_goto (tgt := 4) dc_Dr_countParts_28 (by decide) ?_
        refine mw_pick [0, 1, 2] rfl ?_
        have k2 := ih (k + 1) (by omega) (by omega)
        rw [ct_t (by simp only [beq_iff_eq]; omega)] at k2
        exact k2
theorem ev_countParts {G : mm_G} {d : Nat} {cs : mm_Sh} {I : Nat → Nat → Int32} {J : Nat → Nat → Int64} {F : Nat → Nat → Option Nat} {V : Nat → Nat → Value} {n : Nat} {pa : Nat → Nat} (hp : dr_p I n pa) (hV : dr_V V) (hn : n ≤ 6) (hL : V 24 2 = .int (iI ((n + 1 : Nat) : Int))) : mE G mt_Dr_countParts (d) 0 0 [.ref 24] (wd_S ++ cs, I, J, F, V) (fun o h1 => o = .inl (some (.int (iI (ct (fun j => pa j == j) (n + 1) : Nat)))) ∧ h1 = (wd_S ++ cs, I, J, F, V)) := by
  refine mE_intro (by decide) (fun k h q => nomatch q.1) (Nat.le_of_ble_eq_true rfl) ?_
  show mW G mt_Dr_countParts (d) 0 0 0 [(0, .ref 24)] [] (wd_S ++ cs, I, J, F, V) _
  refine mi_const dc_Dr_countParts_0 ?_
  refine mw_istore_n dc_Dr_countParts_1 rfl (by decide) rfl ?_
  refine mi_const dc_Dr_countParts_2 ?_
  refine mw_istore_n dc_Dr_countParts_3 rfl (by decide) rfl ?_
  exact lp_countParts hp hV hn hL ⟨rfl, rfl⟩ (n + 2) 0 (by omega) (by omega)
theorem lp_countBadParts {G : mm_G} {d bc bs : Nat} {cs : mm_Sh} {I : Nat → Nat → Int32} {J : Nat → Nat → Int64} {F : Nat → Nat → Option Nat} {V : Nat → Nat → Value} {X : mm_X} {n : Nat} {bd : Nat → Bool} (hp : dr_b I n bd) (hV : dr_V V) (hn : n ≤ 6) (hL : V 24 2 = .int (iI ((n + 1 : Nat) : Int))) (hx : X (.inl (some (.int (iI (ct bd (n + 1) : Nat))))) (wd_S ++ cs, I, J, F, V)) :
    ∀ (m k : Nat), n + 1 - k < m → k ≤ n + 1 → mW G mt_Dr_countBadParts (d) bc bs 4 [(2, .int (iI k)), (1, .int (iI (ct bd k : Nat))), (0, .ref 24)] [] (wd_S ++ cs, I, J, F, V) X := by
  intro m
  induction m with
  | zero => intro k h1 _; exact absurd h1 (Nat.not_lt_zero _)
  | succ m ih =>
    intro k h1 h2
    have hb := ct_le bd k
    refine mw_iload_n dc_Dr_countBadParts_4 rfl 0 rfl ?_
    refine mw_aload_n dc_Dr_countBadParts_5 rfl 2 rfl ?_
    refine mi_get (ci := 3) (k := 2) dc_Dr_countBadParts_6 rfl wi_Dr rfl rfl (by decide) fl_Dr_40 hL ?_
    refine mi_icmp_ge (tgt := 30) dc_Dr_countBadParts_9 (by decide) (iB_mk (by omega) (by omega)) (iB_mk (by omega) (by omega)) (fun hh => ?_) (fun hh => ?_)
    · have e : k = n + 1 := by omega
      subst e
      refine mw_iload_n dc_Dr_countBadParts_30 rfl 1 rfl ?_
      exact mw_iret dc_Dr_countBadParts_31 rfl rfl hx
    · have hk : k ≤ n := by omega
      have q1 := hp k hk
      refine mw_aload_n dc_Dr_countBadParts_12 rfl 2 rfl ?_
      refine mi_get (ci := 3) (k := 9) dc_Dr_countBadParts_13 rfl wi_Dr rfl rfl (by decide) fl_Dr_34 hV.2.2.2.2.2.2.2.1 ?_
      refine mw_iload_n dc_Dr_countBadParts_16 rfl 0 rfl ?_
      refine mi_zald dc_Dr_countBadParts_17 rfl ⟨by omega, by omega, by decide⟩ (v := bo (bd k = true)) (by rw [Int.toNat_natCast]; exact q1) ?_
      refine mw_if_eq (tgt := 24) dc_Dr_countBadParts_18 (by decide) (fun h018 => ?_) (fun h018 => ?_)
      · refine mi_iinc dc_Dr_countBadParts_24 0 rfl (by decide) rfl ?_
        refine mw_goto (tgt := 4) dc_Dr_countBadParts_27 (by decide) ?_
        refine mw_pick [0, 1, 2] rfl ?_
        have k2 := ih (k + 1) (by omega) (by omega)
        rw [ct_f (bo_0.mp h018)] at k2
        exact k2
      · refine mi_iinc dc_Dr_countBadParts_21 1 rfl (by decide) rfl ?_
        refine mi_iinc dc_Dr_countBadParts_24 1 rfl (by decide) rfl ?_
        refine mw_goto (tgt := 4) dc_Dr_countBadParts_27 (by decide) ?_
        refine mw_pick [0, 1, 2] rfl ?_
        have k2 := ih (k + 1) (by omega) (by omega)
        rw [ct_t (Decidable.not_not.mp (fun q => h018 (bo_0.mpr q)))] at k2
        exact k2
theorem ev_countBadParts {G : mm_G} {d : Nat} {cs : mm_Sh} {I : Nat → Nat → Int32} {J : Nat → Nat → Int64} {F : Nat → Nat → Option Nat} {V : Nat → Nat → Value} {n : Nat} {bd : Nat → Bool} (hp : dr_b I n bd) (hV : dr_V V) (hn : n ≤ 6) (hL : V 24 2 = .int (iI ((n + 1 : Nat) : Int))) : mE G mt_Dr_countBadParts (d) 0 0 [.ref 24] (wd_S ++ cs, I, J, F, V) (fun o h1 => o = .inl (some (.int (iI (ct bd (n + 1) : Nat)))) ∧ h1 = (wd_S ++ cs, I, J, F, V)) := by
  refine mE_intro (by decide) (fun k h q => nomatch q.1) (Nat.le_of_ble_eq_true rfl) ?_
  show mW G mt_Dr_countBadParts (d) 0 0 0 [(0, .ref 24)] [] (wd_S ++ cs, I, J, F, V) _
  refine mi_const dc_Dr_countBadParts_0 ?_
  refine mw_istore_n dc_Dr_countBadParts_1 rfl (by decide) rfl ?_
  refine mi_const dc_Dr_countBadParts_2 ?_
  refine mw_istore_n dc_Dr_countBadParts_3 rfl (by decide) rfl ?_
  exact lp_countBadParts hp hV hn hL ⟨rfl, rfl⟩ (n + 2) 0 (by omega) (by omega)
theorem lp_countOriented {G : mm_G} {d bc bs : Nat} {cs : mm_Sh} {I : Nat → Nat → Int32} {J : Nat → Nat → Int64} {F : Nat → Nat → Option Nat} {V : Nat → Nat → Value} {X : mm_X} {n : Nat} {lo hi : Nat → Nat} (hp : dr_lh I n lo hi) (hV : dr_V V) (hn : n ≤ 6) (hL : V 24 2 = .int (iI ((n + 1 : Nat) : Int))) (hx : X (.inl (some (.int (iI (ct (fun j => (lo j + hi j) % 2 == 0) (n + 1) : Nat))))) (wd_S ++ cs, I, J, F, V)) :
    ∀ (m k : Nat), n + 1 - k < m → k ≤ n + 1 → mW G mt_Dr_countOriented (d + 1) bc bs 4 [(2, .int (iI k)), (1, .int (iI (ct (fun j => (lo j + hi j) % 2 == 0) k : Nat))), (0, .ref 24)] [] (wd_S ++ cs, I, J, F, V) X := by
  intro m
  induction m with
  | zero => intro k h1 _; exact absurd h1 (Nat.not_lt_zero _)
  | succ m ih =>
    intro k h1 h2
    have hb := ct_le (fun j => (lo j + hi j) % 2 == 0) k
    refine mw_iload_n dc_Dr_countOriented_4 rfl 0 rfl ?_
    refine mw_aload_n dc_Dr_countOriented_5 rfl 2 rfl ?_
    refine mi_get (ci := 3) (k := 2) dc_Dr_countOriented_6 rfl wi_Dr rfl rfl (by decide) fl_Dr_40 hL ?_
    refine mi_icmp_ge (tgt := 29) dc_Dr_countOriented_9 (by decide) (iB_mk (by omega) (by omega)) (iB_mk (by omega) (by omega)) (fun hh => ?_) (fun hh => ?_)
    · have e : k = n + 1 := by omega
      subst e
      refine mw_iload_n dc_Dr_countOriented_29 rfl 1 rfl ?_
      exact mw_iret dc_Dr_countOriented_30 rfl rfl hx
    · have hk : k ≤ n := by omega
      refine mw_aload_n dc_Dr_countOriented_12 rfl 2 rfl ?_
      refine mw_iload_n dc_Dr_countOriented_13 rfl 0 rfl ?_
      refine mz_V1 (M2 := mt_Dr_isOriented) dc_Dr_countOriented_14 ml_Dr_80 rfl rfl ny_Dr_isOriented (by decide) (Nat.le_of_ble_eq_true rfl) (ev_isOriented hV hp hk hn) (fun v h1 hY => ?_)
      obtain ⟨hv, rfl⟩ := hY
      cases hv
      refine mw_if_eq (tgt := 23) dc_Dr_countOriented_17 (by decide) (fun h017 => ?_) (fun h017 => ?_)
      · refine mi_iinc dc_Dr_countOriented_23 0 rfl (by decide) rfl ?_
        refine mw_goto (tgt := 4) dc_Dr_countOriented_26 (by decide) ?_
        refine mw_pick [0, 1, 2] rfl ?_
        have k2 := ih (k + 1) (by omega) (by omega)
        rw [ct_f (by simp only [beq_iff_eq]; exact bo_0.mp h017)] at k2
        exact k2
      · refine mi_iinc dc_Dr_countOriented_20 1 rfl (by decide) rfl ?_
        refine mi_iinc dc_Dr_countOriented_23 1 rfl (by decide) rfl ?_
        refine mw_goto (tgt := 4) dc_Dr_countOriented_26 (by decide) ?_
        refine mw_pick [0, 1, 2] rfl ?_
        have k2 := ih (k + 1) (by omega) (by omega)
        rw [ct_t (by simp only [beq_iff_eq]; exact Decidable.not_not.mp (fun q => h017 (bo_0.mpr q)))] at k2
        exact k2
theorem ev_countOriented {G : mm_G} {d : Nat} {cs : mm_Sh} {I : Nat → Nat → Int32} {J : Nat → Nat → Int64} {F : Nat → Nat → Option Nat} {V : Nat → Nat → Value} {n : Nat} {lo hi : Nat → Nat} (hp : dr_lh I n lo hi) (hV : dr_V V) (hn : n ≤ 6) (hL : V 24 2 = .int (iI ((n + 1 : Nat) : Int))) : mE G mt_Dr_countOriented (d + 1) 0 0 [.ref 24] (wd_S ++ cs, I, J, F, V) (fun o h1 => o = .inl (some (.int (iI (ct (fun j => (lo j + hi j) % 2 == 0) (n + 1) : Nat)))) ∧ h1 = (wd_S ++ cs, I, J, F, V)) := by
  refine mE_intro (by decide) (fun k h q => nomatch q.1) (Nat.le_of_ble_eq_true rfl) ?_
  show mW G mt_Dr_countOriented (d + 1) 0 0 0 [(0, .ref 24)] [] (wd_S ++ cs, I, J, F, V) _
  refine mi_const dc_Dr_countOriented_0 ?_
  refine mw_istore_n dc_Dr_countOriented_1 rfl (by decide) rfl ?_
  refine mi_const dc_Dr_countOriented_2 ?_
  refine mw_istore_n dc_Dr_countOriented_3 rfl (by decide) rfl ?_
  exact lp_countOriented hp hV hn hL ⟨rfl, rfl⟩ (n + 2) 0 (by omega) (by omega)
theorem lp_countBreakpoints {G : mm_G} {d bc bs : Nat} {cs : mm_Sh} {I : Nat → Nat → Int32} {J : Nat → Nat → Int64} {F : Nat → Nat → Option Nat} {V : Nat → Nat → Value} {X : mm_X} {n : Nat} {fr : Nat → Int} (hp : dr_f I n fr) (hV : dr_V V) (hn : n ≤ 6) (hL : V 24 2 = .int (iI ((n + 1 : Nat) : Int))) (hx : X (.inl (some (.int (iI (ct (fun j => !(fr (j + 1) == fr j + 1)) (n + 1) : Nat))))) (wd_S ++ cs, I, J, F, V)) :
    ∀ (m k : Nat), n + 1 - k < m → k ≤ n + 1 → mW G mt_Dr_countBreakpoints (d) bc bs 4 [(2, .int (iI k)), (1, .int (iI (ct (fun j => !(fr (j + 1) == fr j + 1)) k : Nat))), (0, .ref 24)] [] (wd_S ++ cs, I, J, F, V) X := by
  intro m
  induction m with
  | zero => intro k h1 _; exact absurd h1 (Nat.not_lt_zero _)
  | succ m ih =>
    intro k h1 h2
    have hb := ct_le (fun j => !(fr (j + 1) == fr j + 1)) k
    refine mw_iload_n dc_Dr_countBreakpoints_4 rfl 0 rfl ?_
    refine mw_aload_n dc_Dr_countBreakpoints_5 rfl 2 rfl ?_
    refine mi_get (ci := 3) (k := 2) dc_Dr_countBreakpoints_6 rfl wi_Dr rfl rfl (by decide) fl_Dr_40 hL ?_
    refine mi_icmp_ge (tgt := 40) dc_Dr_countBreakpoints_9 (by decide) (iB_mk (by omega) (by omega)) (iB_mk (by omega) (by omega)) (fun hh => ?_) (fun hh => ?_)
    · have e : k = n + 1 := by omega
      subst e
      refine mw_iload_n dc_Dr_countBreakpoints_40 rfl 1 rfl ?_
      exact mw_iret dc_Dr_countBreakpoints_41 rfl rfl hx
    · have hk : k ≤ n := by omega
      obtain ⟨q1, q2, q3⟩ := hp k (by omega)
      obtain ⟨q4, q5, q6⟩ := hp (k + 1) (by omega)
      refine mw_aload_n dc_Dr_countBreakpoints_12 rfl 2 rfl ?_
      refine mi_get (ci := 3) (k := 4) dc_Dr_countBreakpoints_13 rfl wi_Dr rfl rfl (by decide) fl_Dr_18 hV.2.2.1 ?_
      refine mw_iload_n dc_Dr_countBreakpoints_16 rfl 0 rfl ?_
      refine mi_const dc_Dr_countBreakpoints_17 ?_
      refine mi_iadd dc_Dr_countBreakpoints_18 ?_
      refine mi_iald dc_Dr_countBreakpoints_19 rfl ⟨by omega, by omega, by decide⟩ (v := iI (fr (k + 1))) (by rw [show ((k : Int) + 1).toNat = k + 1 by omega]; exact q4) ?_
      refine mw_aload_n dc_Dr_countBreakpoints_20 rfl 2 rfl ?_
      refine mi_get (ci := 3) (k := 4) dc_Dr_countBreakpoints_21 rfl wi_Dr rfl rfl (by decide) fl_Dr_18 hV.2.2.1 ?_
      refine mw_iload_n dc_Dr_countBreakpoints_24 rfl 0 rfl ?_
      refine mi_iald dc_Dr_countBreakpoints_25 rfl ⟨by omega, by omega, by decide⟩ (v := iI (fr k)) (by rw [Int.toNat_natCast]; exact q1) ?_
      refine mi_const dc_Dr_countBreakpoints_26 ?_
      refine mi_iadd dc_Dr_countBreakpoints_27 ?_
      refine mi_icmp_eq (tgt := 34) dc_Dr_countBreakpoints_28 (by decide) (iB_mk (by omega) (by omega)) (iB_mk (by omega) (by omega)) (fun h028 => ?_) (fun h028 => ?_)
      · refine mi_iinc dc_Dr_countBreakpoints_34 0 rfl (by decide) rfl ?_
        refine mw_goto (tgt := 4) dc_Dr_countBreakpoints_37 (by decide) ?_
        refine mw_pick [0, 1, 2] rfl ?_
        have k2 := ih (k + 1) (by omega) (by omega)
        rw [ct_f (by simp only [Bool.not_eq_true', beq_eq_false_iff_ne]; exact not_not_intro h028)] at k2
        exact k2
      · refine mi_iinc dc_Dr_countBreakpoints_31 1 rfl (by decide) rfl ?_
        refine mi_iinc dc_Dr_countBreakpoints_34 1 rfl (by decide) rfl ?_
        refine mw_goto (tgt := 4) dc_Dr_countBreakpoints_37 (by decide) ?_
        refine mw_pick [0, 1, 2] rfl ?_
        have k2 := ih (k + 1) (by omega) (by omega)
        rw [ct_t (by simp only [Bool.not_eq_true', beq_eq_false_iff_ne]; exact h028)] at k2
        exact k2
theorem ev_countBreakpoints {G : mm_G} {d : Nat} {cs : mm_Sh} {I : Nat → Nat → Int32} {J : Nat → Nat → Int64} {F : Nat → Nat → Option Nat} {V : Nat → Nat → Value} {n : Nat} {fr : Nat → Int} (hp : dr_f I n fr) (hV : dr_V V) (hn : n ≤ 6) (hL : V 24 2 = .int (iI ((n + 1 : Nat) : Int))) : mE G mt_Dr_countBreakpoints (d) 0 0 [.ref 24] (wd_S ++ cs, I, J, F, V) (fun o h1 => o = .inl (some (.int (iI (ct (fun j => !(fr (j + 1) == fr j + 1)) (n + 1) : Nat)))) ∧ h1 = (wd_S ++ cs, I, J, F, V)) := by
  refine mE_intro (by decide) (fun k h q => nomatch q.1) (Nat.le_of_ble_eq_true rfl) ?_
  show mW G mt_Dr_countBreakpoints (d) 0 0 0 [(0, .ref 24)] [] (wd_S ++ cs, I, J, F, V) _
  refine mi_const dc_Dr_countBreakpoints_0 ?_
  refine mw_istore_n dc_Dr_countBreakpoints_1 rfl (by decide) rfl ?_
  refine mi_const dc_Dr_countBreakpoints_2 ?_
  refine mw_istore_n dc_Dr_countBreakpoints_3 rfl (by decide) rfl ?_
  exact lp_countBreakpoints hp hV hn hL ⟨rfl, rfl⟩ (n + 2) 0 (by omega) (by omega)
