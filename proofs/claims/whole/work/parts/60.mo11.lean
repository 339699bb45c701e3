/-! the reference's cycles: a walk ends, for marks come in pairs -/
def xp (n : Nat) (b : Nat → Bool) : Prop := ∀ s, s < 2 * n + 2 → b (xo s) = b s
theorem xo_xo (s : Nat) : xo (xo s) = s := by unfold xo; split <;> split <;> omega
theorem xp_up {n s : Nat} {b : Nat → Bool} (h : xp n b) : xp n (va_up (va_up b s true) (xo s) true) := by
  intro t ht
  by_cases e1 : t = xo s
  · subst e1
    rw [xo_xo, va_up_self]
    by_cases e2 : s = xo s
    · rw [← e2, va_up_self]
    · rw [va_up_ne _ _ e2, va_up_self]
  · by_cases e2 : t = s
    · subst e2
      rw [va_up_self, va_up_ne _ _ e1, va_up_self]
    · have e3 : xo t ≠ s := fun q => e1 (by rw [← q, xo_xo])
      have e4 : xo t ≠ xo s := fun q => e2 (by rw [← xo_xo t, q, xo_xo])
      rw [va_up_ne _ _ e4, va_up_ne _ _ e3, va_up_ne _ _ e1, va_up_ne _ _ e2]
      exact h t ht
def fe (b : Nat → Bool) : Nat → Bool := fun k => !b (2 * k)
theorem ct_eq {P Q : Nat → Bool} (k : Nat) (h : ∀ j, j < k → P j = Q j) : ct P k = ct Q k := by
  induction k with
  | zero => rfl
  | succ k ih =>
    have e := ih (fun j hj => h j (by omega))
    show (if P k = true then ct P k + 1 else ct P k) = (if Q k = true then ct Q k + 1 else ct Q k)
    rw [h k (by omega), e]
theorem ct_dr {P Q : Nat → Bool} {i : Nat} (hi : P i = true) (hq : Q i = false) (h : ∀ j, j ≠ i → P j = Q j) (k : Nat) (hk : i < k) : ct P k = ct Q k + 1 := by
  induction k with
  | zero => exact absurd hk (Nat.not_lt_zero _)
  | succ k ih =>
    show (if P k = true then ct P k + 1 else ct P k) = (if Q k = true then ct Q k + 1 else ct Q k) + 1
    by_cases e : i = k
    · subst e
      rw [if_pos hi, if_neg (by rw [hq]; exact Bool.false_ne_true), ct_eq i (fun j hj => h j (by omega))]
    · have e2 := ih (by omega)
      rw [h k (fun q => e q.symm), e2]
      split <;> rfl
theorem fe_dr {n s : Nat} {b : Nat → Bool} (h : xp n b) (hs : s < 2 * n + 2) (hb : ¬ b s = true) : ct (fe b) (n + 1) = ct (fe (va_up (va_up b s true) (xo s) true)) (n + 1) + 1 := by
  have hb2 : b s = false := Bool.eq_false_iff.mpr hb
  have hx := h s hs
  refine ct_dr (i := s / 2) ?_ ?_ (fun j hj => ?_) (n + 1) (by omega)
  · show (!b (2 * (s / 2))) = true
    by_cases e : s % 2 = 0
    · rw [show 2 * (s / 2) = s by omega, hb2]; rfl
    · rw [show 2 * (s / 2) = xo s by unfold xo; rw [if_neg e]; omega, hx, hb2]; rfl
  · show (!(va_up (va_up b s true) (xo s) true) (2 * (s / 2))) = false
    by_cases e : s % 2 = 0
    · have : s ≠ xo s := by unfold xo; rw [if_pos e]; omega
      rw [show 2 * (s / 2) = s by omega, va_up_ne _ _ this, va_up_self]; rfl
    · rw [show 2 * (s / 2) = xo s by unfold xo; rw [if_neg e]; omega, va_up_self]; rfl
  · show (!b (2 * j)) = !(va_up (va_up b s true) (xo s) true) (2 * j)
    have n1 : 2 * j ≠ s := by omega
    have n2 : 2 * j ≠ xo s := by unfold xo; split <;> omega
    rw [va_up_ne _ _ n2, va_up_ne _ _ n1]
theorem wc_xp {n : Nat} {ea so : Nat → Nat} (t : Nat) : ∀ (s : Nat) (b : Nat → Bool), xp n b → xp n (wc_f ea so t s b) := by
  induction t with
  | zero => intro s b h; exact h
  | succ t ih =>
    intro s b h
    show xp n (if b s = true then b else wc_f ea so t (so (xo (ea (xo s)))) (va_up (va_up b s true) (xo s) true))
    split
    · exact h
    · exact ih _ _ (xp_up h)
theorem cc_xp {n : Nat} {ea so : Nat → Nat} (k : Nat) : xp n (cc_f ea so n k).1 := by
  induction k with
  | zero => exact fun s _ => rfl
  | succ k ih =>
    show xp n (if (cc_f ea so n k).1 k = true then cc_f ea so n k else (wc_f ea so (n + 1) k (cc_f ea so n k).1, (cc_f ea so n k).2 + 1)).1
    split
    · exact ih
    · exact wc_xp (n + 1) _ _ ih
def mo_e (I : Nat → Nat → Int32) (n : Nat) (ea so : Nat → Nat) : Prop := ∀ s, s < 2 * n + 2 → I 52 s = iI (ea s) ∧ I 53 s = iI (so s) ∧ ea s < 2 * n + 2 ∧ so s < 2 * n + 2
theorem ct_0 {P : Nat → Bool} {k : Nat} (h : ct P k = 0) : ∀ j, j < k → P j = false := by
  induction k with
  | zero => intro j hj; exact absurd hj (Nat.not_lt_zero _)
  | succ k ih =>
    have h' : (if P k = true then ct P k + 1 else ct P k) = 0 := h
    by_cases e : P k = true
    · rw [if_pos e] at h'; exact absurd h' (Nat.succ_ne_zero _)
    · rw [if_neg e] at h'
      intro j hj
      by_cases e2 : j = k
      · subst e2; exact Bool.eq_false_iff.mpr e
      · exact ih h' j (by omega)
theorem xp_all {n s : Nat} {b : Nat → Bool} (h : xp n b) (hs : s < 2 * n + 2) (h0 : ct (fe b) (n + 1) = 0) : b s = true := by
  have e := ct_0 h0 (s / 2) (by omega)
  have e' : (!b (2 * (s / 2))) = false := e
  have e2 : b (2 * (s / 2)) = true := by
    cases hb : b (2 * (s / 2)) with
    | true => rfl
    | false => rw [hb] at e'; exact nomatch e'
  by_cases e3 : s % 2 = 0
  · rw [show 2 * (s / 2) = s by omega] at e2; exact e2
  · rw [show 2 * (s / 2) = xo s by unfold xo; rw [if_neg e3]; omega, h s hs] at e2; exact e2
theorem lp_mcy1 {G : mm_G} {d bc bs : Nat} {cs : mm_Sh} {I : Nat → Nat → Int32} {J : Nat → Nat → Int64} {F : Nat → Nat → Option Nat} {V : Nat → Nat → Value} {X : mm_X} {n k : Nat} {c : Int} {g : Nat → Int32} {ea so : Nat → Nat} (hM : mo_V V) (he : mo_e I n ea so) (hn : n ≤ 6) :
    ∀ (t s : Nat) (b : Nat → Bool), xp n b → ct (fe b) (n + 1) ≤ t → s < 2 * n + 2 → mW G mt_Mo_cycles d bc bs 103 [(2, .int (iI k)), (1, .int (iI c)), (0, .ref 39)] [] (wd_S ++ cs, va_up I 56 (nb g 14 (wc_f ea so t s b)), J, F, V) X → mW G mt_Mo_cycles d bc bs 56 [(3, .int (iI s)), (2, .int (iI k)), (1, .int (iI c)), (0, .ref 39)] [] (wd_S ++ cs, va_up I 56 (nb g 14 b), J, F, V) X := by
  intro t
  induction t with
  | zero =>
    intro s b hp h0 h2 hx
    have hbs := xp_all hp h2 (Nat.le_zero.mp h0)
    refine mw_aload_n dc_Mo_cycles_56 rfl 3 rfl ?_
    refine mi_get (ci := 5) (k := 23) dc_Mo_cycles_57 rfl wi_Mo rfl rfl (by decide) fl_Mo_66 hM.2.2.2.2.2.2.2.2.2.2.2.2.2.2.2.2.1 ?_
    refine mw_iload_n dc_Mo_cycles_60 rfl 0 rfl ?_
    refine mi_zald dc_Mo_cycles_61 rfl ⟨by omega, by omega, by decide⟩ (v := bo (b s = true)) (by rw [Int.toNat_natCast, va_up_self, nb_a (show s < 14 by omega)]) ?_
    refine mw_if_ne (tgt := 103) dc_Mo_cycles_62 (by decide) (fun hh => ?_) (fun hh => ?_)
    · refine mw_pick [1, 2, 3] rfl ?_
      exact hx
    · exact absurd hbs (bo_0.mp hh)
  | succ t ih =>
    intro s b hp h0 h2 hx
    have hx1 := xo_lt h2
    obtain ⟨q1, q2, q3, q4⟩ := he (xo s) hx1
    have hx2 := xo_lt q3
    obtain ⟨p1, q5, p3, q6⟩ := he (xo (ea (xo s))) hx2
    refine mw_aload_n dc_Mo_cycles_56 rfl 3 rfl ?_
    refine mi_get (ci := 5) (k := 23) dc_Mo_cycles_57 rfl wi_Mo rfl rfl (by decide) fl_Mo_66 hM.2.2.2.2.2.2.2.2.2.2.2.2.2.2.2.2.1 ?_
    refine mw_iload_n dc_Mo_cycles_60 rfl 0 rfl ?_
    refine mi_zald dc_Mo_cycles_61 rfl ⟨by omega, by omega, by decide⟩ (v := bo (b s = true)) (by rw [Int.toNat_natCast, va_up_self, nb_a (show s < 14 by omega)]) ?_
    refine mw_if_ne (tgt := 103) dc_Mo_cycles_62 (by decide) (fun hh => ?_) (fun hh => ?_)
    · have e : wc_f ea so (t + 1) s b = b := if_pos (Decidable.not_not.mp (fun q => hh (bo_0.mpr q)))
      rw [e] at hx
      refine mw_pick [1, 2, 3] rfl ?_
      exact hx
    · have hbs := bo_0.mp hh
      have e : wc_f ea so (t + 1) s b = wc_f ea so t (so (xo (ea (xo s)))) (va_up (va_up b s true) (xo s) true) := if_neg hbs
      rw [e] at hx
      have hc := fe_dr hp h2 hbs
      refine mw_aload_n dc_Mo_cycles_65 rfl 3 rfl ?_
      refine mi_get (ci := 5) (k := 23) dc_Mo_cycles_66 rfl wi_Mo rfl rfl (by decide) fl_Mo_66 hM.2.2.2.2.2.2.2.2.2.2.2.2.2.2.2.2.1 ?_
      refine mw_iload_n dc_Mo_cycles_69 rfl 0 rfl ?_
      refine mi_const dc_Mo_cycles_70 ?_
      refine mi_zast dc_Mo_cycles_71 rfl ⟨by omega, by omega, by decide⟩ (by decide) (I' := va_up I 56 (nb g 14 (va_up b s true))) (by rw [va_up_self, up_up, Int.toNat_natCast, nb_ut (show s < 14 by omega)]) ?_
      refine mw_iload_n dc_Mo_cycles_72 rfl 0 rfl ?_
      refine mi_const dc_Mo_cycles_73 ?_
      refine mw_ixor dc_Mo_cycles_74 ?_
      rw [xo_i _ (by omega)]
      refine mw_istore dc_Mo_cycles_75 (by decide) rfl ?_
      refine mw_aload_n dc_Mo_cycles_77 rfl 4 rfl ?_
      refine mi_get (ci := 5) (k := 23) dc_Mo_cycles_78 rfl wi_Mo rfl rfl (by decide) fl_Mo_66 hM.2.2.2.2.2.2.2.2.2.2.2.2.2.2.2.2.1 ?_
      refine mw_iload dc_Mo_cycles_81 0 rfl ?_
      refine mi_const dc_Mo_cycles_83 ?_
      refine mi_zast dc_Mo_cycles_84 rfl ⟨by omega, by omega, by decide⟩ (by decide) (I' := va_up I 56 (nb g 14 (va_up (va_up b s true) (xo s) true))) (by rw [va_up_self, up_up, Int.toNat_natCast, nb_ut (show xo s < 14 by omega)]) ?_
      refine mw_aload_n dc_Mo_cycles_85 rfl 4 rfl ?_
      refine mi_get (ci := 5) (k := 20) dc_Mo_cycles_86 rfl wi_Mo rfl rfl (by decide) fl_Mo_57 hM.2.2.2.2.2.2.2.2.2.2.2.2.2.1 ?_
      refine mw_aload_n dc_Mo_cycles_89 rfl 4 rfl ?_
      refine mi_get (ci := 5) (k := 19) dc_Mo_cycles_90 rfl wi_Mo rfl rfl (by decide) fl_Mo_54 hM.2.2.2.2.2.2.2.2.2.2.2.2.1 ?_
      refine mw_iload dc_Mo_cycles_93 0 rfl ?_
      refine mi_iald dc_Mo_cycles_95 rfl ⟨by omega, by omega, by decide⟩ (v := iI (ea (xo s))) (by rw [Int.toNat_natCast, va_up_ne _ _ (by decide)]; exact q1) ?_
      refine mi_const dc_Mo_cycles_96 ?_
      refine mw_ixor dc_Mo_cycles_97 ?_
      rw [xo_i _ (by omega)]
      refine mi_iald dc_Mo_cycles_98 rfl ⟨by omega, by omega, by decide⟩ (v := iI (so (xo (ea (xo s))))) (by rw [Int.toNat_natCast, va_up_ne _ _ (by decide)]; exact q5) ?_
      refine mw_istore_n dc_Mo_cycles_99 rfl (by decide) rfl ?_
      refine mw_goto (tgt := 56) dc_Mo_cycles_100 (by decide) ?_
      refine mw_pick [0, 2, 3, 4] rfl ?_
      exact ih _ _ (xp_up hp) (by omega) q6 hx
theorem lp_mcy2 {G : mm_G} {d bc bs : Nat} {cs : mm_Sh} {I : Nat → Nat → Int32} {J : Nat → Nat → Int64} {F : Nat → Nat → Option Nat} {V : Nat → Nat → Value} {X : mm_X} {n : Nat} {g : Nat → Int32} {ea so : Nat → Nat} (hM : mo_V V) (hg : V 39 1 = .int (iI n)) (he : mo_e I n ea so) (hn : n ≤ 6) (hx : X (.inl (some (.int (iI ((cc_f ea so n (2 * n + 2)).2 : Nat))))) (wd_S ++ cs, va_up I 56 (nb g 14 (cc_f ea so n (2 * n + 2)).1), J, F, V)) :
    ∀ (m k : Nat), 2 * n + 2 - k < m → k ≤ 2 * n + 2 → mW G mt_Mo_cycles d bc bs 25 [(2, .int (iI k)), (1, .int (iI ((cc_f ea so n k).2 : Nat))), (0, .ref 39)] [] (wd_S ++ cs, va_up I 56 (nb g 14 (cc_f ea so n k).1), J, F, V) X := by
  intro m
  induction m with
  | zero => intro k h1 _; exact absurd h1 (Nat.not_lt_zero _)
  | succ m ih =>
    intro k h1 h2
    have hb := cc_le ea so n k
    have hp := cc_xp (n := n) (ea := ea) (so := so) k
    refine mw_iload_n dc_Mo_cycles_25 rfl 0 rfl ?_
    refine mi_const dc_Mo_cycles_26 ?_
    refine mw_aload_n dc_Mo_cycles_27 rfl 2 rfl ?_
    refine mi_get (ci := 5) (k := 1) dc_Mo_cycles_28 rfl wi_Mo rfl rfl (by decide) fl_Mo_7 hg ?_
    refine mi_imul dc_Mo_cycles_31 ?_
    refine mi_const dc_Mo_cycles_32 ?_
    refine mi_iadd dc_Mo_cycles_33 ?_
    refine mi_icmp_gt (tgt := 109) dc_Mo_cycles_34 (by decide) (iB_mk (by omega) (by omega)) (iB_mk (by omega) (by omega)) (fun hh => ?_) (fun hh => ?_)
    · have e : k = 2 * n + 2 := by omega
      subst e
      refine mw_iload_n dc_Mo_cycles_109 rfl 1 rfl ?_
      exact mw_iret dc_Mo_cycles_110 rfl rfl hx
    · have hk : k < 2 * n + 2 := by omega
      refine mw_iload_n dc_Mo_cycles_37 rfl 0 rfl ?_
      refine mw_istore_n dc_Mo_cycles_38 rfl (by decide) rfl ?_
      refine mw_aload_n dc_Mo_cycles_39 rfl 3 rfl ?_
      refine mi_get (ci := 5) (k := 23) dc_Mo_cycles_40 rfl wi_Mo rfl rfl (by decide) fl_Mo_66 hM.2.2.2.2.2.2.2.2.2.2.2.2.2.2.2.2.1 ?_
      refine mw_iload_n dc_Mo_cycles_43 rfl 1 rfl ?_
      refine mi_zald dc_Mo_cycles_44 rfl ⟨by omega, by omega, by decide⟩ (v := bo ((cc_f ea so n k).1 k = true)) (by rw [Int.toNat_natCast, va_up_self, nb_a (show k < 14 by omega)]) ?_
      refine mw_if_eq (tgt := 52) dc_Mo_cycles_45 (by decide) (fun hz => ?_) (fun hz => ?_)
      · have hz2 := bo_0.mp hz
        have e : cc_f ea so n (k + 1) = (wc_f ea so (n + 1) k (cc_f ea so n k).1, (cc_f ea so n k).2 + 1) := if_neg hz2
        have k2 := ih (k + 1) (by omega) (by omega)
        rw [e] at k2
        refine mw_iload_n dc_Mo_cycles_52 rfl 2 rfl ?_
        refine mi_const dc_Mo_cycles_53 ?_
        refine mi_iadd dc_Mo_cycles_54 ?_
        refine mw_istore_n dc_Mo_cycles_55 rfl (by decide) rfl ?_
        refine mw_pick [1, 2, 0, 3] rfl ?_
        refine lp_mcy1 (I := I) hM he hn (n + 1) k _ hp (ct_le _ _) hk ?_
        refine mi_iinc dc_Mo_cycles_103 0 rfl (by decide) rfl ?_
        refine mw_goto (tgt := 25) dc_Mo_cycles_106 (by decide) ?_
        refine mw_pick [0, 1, 2] rfl ?_
        exact k2
      · have hz2 : (cc_f ea so n k).1 k = true := Decidable.not_not.mp (fun q => hz (bo_0.mpr q))
        have e : cc_f ea so n (k + 1) = cc_f ea so n k := if_pos hz2
        have k2 := ih (k + 1) (by omega) (by omega)
        rw [e] at k2
        refine mw_iload_n dc_Mo_cycles_48 rfl 2 rfl ?_
        refine mw_goto (tgt := 55) dc_Mo_cycles_49 (by decide) ?_
        refine mw_istore_n dc_Mo_cycles_55 rfl (by decide) rfl ?_
        refine mw_pick [1, 2, 0, 3] rfl ?_
        refine lp_mcy1 (I := I) hM he hn (n + 1) k _ hp (ct_le _ _) hk ?_
        rw [show wc_f ea so (n + 1) k (cc_f ea so n k).1 = (cc_f ea so n k).1 from if_pos hz2]
        refine mi_iinc dc_Mo_cycles_103 0 rfl (by decide) rfl ?_
        refine mw_goto (tgt := 25) dc_Mo_cycles_106 (by decide) ?_
        refine mw_pick [0, 1, 2] rfl ?_
        exact k2
theorem lp_mcy0 {G : mm_G} {d bc bs : Nat} {cs : mm_Sh} {I : Nat → Nat → Int32} {J : Nat → Nat → Int64} {F : Nat → Nat → Option Nat} {V : Nat → Nat → Value} {X : mm_X} (hM : mo_V V) (hx : mW G mt_Mo_cycles d bc bs 21 [(0, .ref 39)] [] (wd_S ++ cs, va_up I 56 (nb (I 56) 14 (fun _ => false)), J, F, V) X) :
    ∀ (m k : Nat), 14 - k < m → k ≤ 14 → mW G mt_Mo_cycles d bc bs 2 [(1, .int (iI k)), (0, .ref 39)] [] (wd_S ++ cs, va_up I 56 (nb (I 56) k (fun _ => false)), J, F, V) X := by
  intro m
  induction m with
  | zero => intro k h1 _; exact absurd h1 (Nat.not_lt_zero _)
  | succ m ih =>
    intro k h1 h2
    refine mw_iload_n dc_Mo_cycles_2 rfl 0 rfl ?_
    refine mi_bipush dc_Mo_cycles_3 (by decide) ?_
    refine mi_icmp_ge (tgt := 21) dc_Mo_cycles_5 (by decide) (iB_mk (by omega) (by omega)) (iB_mk (by omega) (by omega)) (fun hh => ?_) (fun hh => ?_)
    · have e : k = 14 := by omega
      subst e
      refine mw_pick [1] rfl ?_
      exact hx
    · refine mw_aload_n dc_Mo_cycles_8 rfl 1 rfl ?_
      refine mi_get (ci := 5) (k := 23) dc_Mo_cycles_9 rfl wi_Mo rfl rfl (by decide) fl_Mo_66 hM.2.2.2.2.2.2.2.2.2.2.2.2.2.2.2.2.1 ?_
      refine mw_iload_n dc_Mo_cycles_12 rfl 0 rfl ?_
      refine mi_const dc_Mo_cycles_13 ?_
      refine mi_zast dc_Mo_cycles_14 rfl ⟨by omega, by omega, by decide⟩ (by decide) (I' := va_up I 56 (nb (I 56) (k + 1) (fun _ => false))) (by rw [va_up_self, up_up, Int.toNat_natCast]; exact congrArg (va_up I 56) (nb_sf rfl)) ?_
      refine mi_iinc dc_Mo_cycles_15 0 rfl (by decide) rfl ?_
      refine mw_goto (tgt := 2) dc_Mo_cycles_18 (by decide) ?_
      refine mw_pick [0, 1] rfl ?_
      exact ih (k + 1) (by omega) (by omega)
theorem ev_mocycles {G : mm_G} {d : Nat} {cs : mm_Sh} {I : Nat → Nat → Int32} {J : Nat → Nat → Int64} {F : Nat → Nat → Option Nat} {V : Nat → Nat → Value} {n : Nat} {ea so : Nat → Nat} (hM : mo_V V) (hg : V 39 1 = .int (iI n)) (he : mo_e I n ea so) (hn : n ≤ 6) : mE G mt_Mo_cycles d 0 0 [.ref 39] (wd_S ++ cs, I, J, F, V) (fun o h1 => o = .inl (some (.int (iI ((cc_f ea so n (2 * n + 2)).2 : Nat)))) ∧ h1 = (wd_S ++ cs, va_up I 56 (nb (I 56) 14 (cc_f ea so n (2 * n + 2)).1), J, F, V)) := by
  refine mE_intro (by decide) (fun k h q => nomatch q.1) (Nat.le_of_ble_eq_true rfl) ?_
  show mW G mt_Mo_cycles d 0 0 0 [(0, .ref 39)] [] (wd_S ++ cs, I, J, F, V) _
  refine mi_const dc_Mo_cycles_0 ?_
  refine mw_istore_n dc_Mo_cycles_1 rfl (by decide) rfl ?_
  refine mw_h (h' := (wd_S ++ cs, va_up I 56 (nb (I 56) 0 (fun _ => false)), J, F, V)) (by rw [nb_0, up_id]) ?_
  refine lp_mcy0 (I := I) hM ?_ 15 0 (by omega) (by omega)
  refine mi_const dc_Mo_cycles_21 ?_
  refine mw_istore_n dc_Mo_cycles_22 rfl (by decide) rfl ?_
  refine mi_const dc_Mo_cycles_23 ?_
  refine mw_istore_n dc_Mo_cycles_24 rfl (by decide) rfl ?_
  exact lp_mcy2 (I := I) hM hg he hn ⟨rfl, rfl⟩ (2 * n + 3) 0 (by omega) (by omega)
