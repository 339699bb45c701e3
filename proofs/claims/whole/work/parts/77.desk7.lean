/-! the desk's turnNearer and scenario -/
theorem dr_x (I : Nat → Nat → Int32) (n : Nat) (y : Nat → Int) (so : Nat → Nat) {a : Nat} (h : 33 < a) : dr_I I n y so a = I a := by
  unfold dr_I dw_l
  rw [va_up_ne _ _ (by omega), va_up_ne _ _ (by omega), va_up_ne _ _ (by omega), va_up_ne _ _ (by omega), dw_k (by omega)]
def tn_R (n : Nat) (z : Nat → Int) (I0 I : Nat → Nat → Int32) : Prop := (∀ a, (a < 25 ∨ 33 < a) → a ≠ 37 → I a = I0 a) ∧ ∀ p, p < n → I 37 p = iI (z p)
theorem tI_tI (z : Nat → Int) (i j : Nat) : tI (tI z i j) i j = z := by
  funext k
  unfold tI
  by_cases h : i ≤ k ∧ k ≤ j
  · rw [if_pos h, if_pos (by omega), Int.neg_neg, show i + j - (i + j - k) = k by omega]
  · rw [if_neg h, if_neg h]
theorem lp_tn {G : mm_G} {d bc bs : Nat} {cs : mm_Sh} {J : Nat → Nat → Int64} {F : Nat → Nat → Option Nat} {I0 : Nat → Nat → Int32} {V0 : Nat → Nat → Value} {X : mm_X} {n : Nat} {E : (Nat → Int) → Nat} {z : Nat → Int} (hW : dk_W F V0) (hg : V0 0 0 = .int (iI n)) (hn : n ≤ 6) (hE : ∀ z, sP n z → dP n z = (E z : Nat)) (hH : rw_H n E (sP n)) (hz : sP n z) (h0 : 0 < E z) (hx : ∀ I V, tn_R n (tI z (sz n E z).1 (sz n E z).2) I0 I → vd_k V0 V → X (.inl (some (.int (iI (10 * ((sz n E z).1 : Nat) + ((sz n E z).2 : Nat)))))) (wd_S ++ cs, I, J, F, V)) :
    ∀ (f i j : Nat) I V, i ≤ j → j < n → sq n (qz E z) f i j = sz n E z → tn_R n z I0 I → vd_k V0 V → mW G mt_De_turnNearer (d + 4) bc bs 12 [(3, .int (iI (j : Nat))), (2, .int (iI (i : Nat))), (1, .int (iI (((E z - 1 : Nat)) : Int))), (0, .ref 0)] [] (wd_S ++ cs, I, J, F, V) X := by
  obtain ⟨s1, s2, s3⟩ := sz_ok hH hn hz h0
  have hE7 : E z ≤ 7 := (hH z hz).2.1
  intro f
  induction f with
  | zero =>
    intro i j I V h1 h2 h3 hR hv
    have hW1 := vd_W hv hW
    have hg1 := (hv 0 0 (by omega)).trans hg
    have ht := sP_t hz (i := i) h2
    have hEt : E (tI z i j) ≤ 7 := (hH _ ht).2.1
    have hEt2 := ((hH z hz).2.2.2.1 i j h1 h2).2
    refine mw_iload_n dc_De_turnNearer_12 rfl 0 rfl ?_
    refine mw_aload_n dc_De_turnNearer_13 rfl 3 rfl ?_
    refine mi_get (ci := 0) (k := 0) dc_De_turnNearer_14 rfl wi_De rfl rfl (by decide) fl_De_9 hg1 ?_
    refine mi_icmp_ge (tgt := 77) dc_De_turnNearer_17 (by decide) (iB_mk (by omega) (by omega)) (iB_mk (by omega) (by omega)) (fun hh => ?_) (fun hh => ?_)
    · exact absurd hh (by omega)
    · refine mw_aload_n dc_De_turnNearer_20 rfl 3 rfl ?_
      refine mi_get (ci := 0) (k := 8) dc_De_turnNearer_21 rfl wi_De rfl rfl (by decide) fl_De_50 hW1.1.2.2.2.2.2.2.1 ?_
      refine mw_iload_n dc_De_turnNearer_24 rfl 1 rfl ?_
      refine mw_iload_n dc_De_turnNearer_25 rfl 0 rfl ?_
      refine mz_S3 (M2 := mt_De_turn) dc_De_turnNearer_26 ml_De_199 rfl ny_De_turn (by decide) (Nat.le_of_ble_eq_true rfl) (ev_turn (a := 37) (n := 6) rfl (by omega) (by decide) h1) (fun v h1 hY => ?_)
      obtain ⟨hv, rfl⟩ := hY
      cases hv
      refine mw_aload_n dc_De_turnNearer_29 rfl 3 rfl ?_
      refine mi_get (ci := 0) (k := 3) dc_De_turnNearer_30 rfl wi_De rfl rfl (by decide) fl_De_30 hW1.1.2.2.1 ?_
      refine mw_aload_n dc_De_turnNearer_33 rfl 3 rfl ?_
      refine mi_get (ci := 0) (k := 8) dc_De_turnNearer_34 rfl wi_De rfl rfl (by decide) fl_De_50 hW1.1.2.2.2.2.2.2.1 ?_
      refine mw_aload_n dc_De_turnNearer_37 rfl 3 rfl ?_
      refine mi_get (ci := 0) (k := 0) dc_De_turnNearer_38 rfl wi_De rfl rfl (by decide) fl_De_9 hg1 ?_
      refine mz_V2 (M2 := mt_Dr_draw) dc_De_turnNearer_41 ml_De_195 rfl rfl ny_Dr_draw (by decide) (Nat.le_of_ble_eq_true rfl) (ev_draw (a := 37) (na := 6) (y := tI z i j) (ea := eaR n (tI z i j)) (so := soR n (tI z i j)) hW1.2.2.2 hn (by decide) rfl ⟨hn, by decide⟩ (fun p hp => ⟨by rw [va_up_self]; exact tI_i h2 hR.2 p hp, sP_n ht p hp⟩) (dr_ok _ ht)) (fun v h1 hY => ?_)
      obtain ⟨hv, rfl⟩ := hY
      cases hv
      have hW2 := vd_W (vd_dr V n) hW1
      have hg2 := ((vd_dr V n) 0 0 (by omega)).trans hg1
      refine mw_aload_n dc_De_turnNearer_44 rfl 3 rfl ?_
      refine mi_get (ci := 0) (k := 3) dc_De_turnNearer_45 rfl wi_De rfl rfl (by decide) fl_De_30 hW2.1.2.2.1 ?_
      refine mz_V0 (M2 := mt_Dr_fewestReversals) dc_De_turnNearer_48 ml_De_110 rfl rfl ny_Dr_fewestReversals (by decide) (Nat.le_of_ble_eq_true rfl) (ev_fewest (I := (dr_I (va_up I 37 (tu_f (I 37) i j)) n (tI z i j) (soR n (tI z i j)))) hW2.2.2.2 (kn_e (dr_ok _ ht)) kn_p kn_b hn (dr_WL V n) (dr_WP V n)) (fun v h1 hY => ?_)
      obtain ⟨hv, rfl⟩ := hY
      cases hv
      have hk : tn_R n (tI z i j) I0 (va_up (va_up (dr_I (va_up I 37 (tu_f (I 37) i j)) n (tI z i j) (soR n (tI z i j))) 30 (nb ((dr_I (va_up I 37 (tu_f (I 37) i j)) n (tI z i j) (soR n (tI z i j))) 30) (2 * n + 2) (cc_f (eaR n (tI z i j)) (soR n (tI z i j)) n (2 * n + 2)).1)) 33 (nn ((dr_I (va_up I 37 (tu_f (I 37) i j)) n (tI z i j) (soR n (tI z i j))) 33) (wb_f (eaR n (tI z i j)) (pa_f (soR n (tI z i j)) n) (bd_f (soR n (tI z i j)) n) (2 * n + 2)).2 (wb_f (eaR n (tI z i j)) (pa_f (soR n (tI z i j)) n) (bd_f (soR n (tI z i j)) n) (2 * n + 2)).1)) := by
        refine ⟨fun x x1 x2 => ?_, fun p hp => ?_⟩
        · rw [va_up_ne _ _ (by omega), va_up_ne _ _ (by omega)]
          by_cases e : x < 25
          · rw [(sc_dr _ n _ _) x x1 (by omega) x2, va_up_ne _ _ x2]; exact hR.1 x x1 x2
          · rw [dr_x _ _ _ _ (by omega), va_up_ne _ _ x2]; exact hR.1 x x1 x2
        · rw [va_up_ne _ _ (by decide), va_up_ne _ _ (by decide), dr_x _ _ _ _ (by decide), va_up_self]; exact tI_i h2 hR.2 p hp
      revert hk
      generalize va_up (va_up (dr_I (va_up I 37 (tu_f (I 37) i j)) n (tI z i j) (soR n (tI z i j))) 30 (nb ((dr_I (va_up I 37 (tu_f (I 37) i j)) n (tI z i j) (soR n (tI z i j))) 30) (2 * n + 2) (cc_f (eaR n (tI z i j)) (soR n (tI z i j)) n (2 * n + 2)).1)) 33 (nn ((dr_I (va_up I 37 (tu_f (I 37) i j)) n (tI z i j) (soR n (tI z i j))) 33) (wb_f (eaR n (tI z i j)) (pa_f (soR n (tI z i j)) n) (bd_f (soR n (tI z i j)) n) (2 * n + 2)).2 (wb_f (eaR n (tI z i j)) (pa_f (soR n (tI z i j)) n) (bd_f (soR n (tI z i j)) n) (2 * n + 2)).1) = K
      intro hk
      refine mw_iv (y := iI (E (tI z i j) : Nat)) (congrArg iI (hE _ ht)) ?_
      refine mw_iload_n dc_De_turnNearer_51 rfl 2 rfl ?_
      refine mi_icmp_ne (tgt := 62) dc_De_turnNearer_52 (by decide) (iB_mk (by omega) (by omega)) (iB_mk (by omega) (by omega)) (fun hc => ?_) (fun hc => ?_)
      · have hq : ¬ qz E z i j = true := fun q => by
          have q : E (tI z i j) + 1 = E z := of_decide_eq_true q
          omega
        have e3 : (i, j) = sz n E z := h3
        rw [← e3] at s3
        exact absurd (decide_eq_true s3) hq
      · have hq : qz E z i j = true := decide_eq_true (by show E (tI z i j) + 1 = E z; omega)
        rw [sq_t hq] at h3
        refine mi_bipush dc_De_turnNearer_55 (by decide) ?_
        refine mw_iload_n dc_De_turnNearer_57 rfl 1 rfl ?_
        refine mi_imul dc_De_turnNearer_58 ?_
        refine mw_iload_n dc_De_turnNearer_59 rfl 0 rfl ?_
        refine mi_iadd dc_De_turnNearer_60 ?_
        have hx9 := hx K _ (by rw [← h3]; exact hk) (vd_t hv (vd_dr V n))
        rw [← h3] at hx9
        exact mw_iret dc_De_turnNearer_61 rfl rfl hx9
  | succ f ih =>
    intro i j I V h1 h2 h3 hR hv
    have hW1 := vd_W hv hW
    have hg1 := (hv 0 0 (by omega)).trans hg
    have ht := sP_t hz (i := i) h2
    have hEt : E (tI z i j) ≤ 7 := (hH _ ht).2.1
    have hEt2 := ((hH z hz).2.2.2.1 i j h1 h2).2
    refine mw_iload_n dc_De_turnNearer_12 rfl 0 rfl ?_
    refine mw_aload_n dc_De_turnNearer_13 rfl 3 rfl ?_
    refine mi_get (ci := 0) (k := 0) dc_De_turnNearer_14 rfl wi_De rfl rfl (by decide) fl_De_9 hg1 ?_
    refine mi_icmp_ge (tgt := 77) dc_De_turnNearer_17 (by decide) (iB_mk (by omega) (by omega)) (iB_mk (by omega) (by omega)) (fun hh => ?_) (fun hh => ?_)
    · exact absurd hh (by omega)
    · refine mw_aload_n dc_De_turnNearer_20 rfl 3 rfl ?_
      refine mi_get (ci := 0) (k := 8) dc_De_turnNearer_21 rfl wi_De rfl rfl (by decide) fl_De_50 hW1.1.2.2.2.2.2.2.1 ?_
      refine mw_iload_n dc_De_turnNearer_24 rfl 1 rfl ?_
      refine mw_iload_n dc_De_turnNearer_25 rfl 0 rfl ?_
      refine mz_S3 (M2 := mt_De_turn) dc_De_turnNearer_26 ml_De_199 rfl ny_De_turn (by decide) (Nat.le_of_ble_eq_true rfl) (ev_turn (a := 37) (n := 6) rfl (by omega) (by decide) h1) (fun v h1 hY => ?_)
      obtain ⟨hv, rfl⟩ := hY
      cases hv
      refine mw_aload_n dc_De_turnNearer_29 rfl 3 rfl ?_
      refine mi_get (ci := 0) (k := 3) dc_De_turnNearer_30 rfl wi_De rfl rfl (by decide) fl_De_30 hW1.1.2.2.1 ?_
      refine mw_aload_n dc_De_turnNearer_33 rfl 3 rfl ?_
      refine mi_get (ci := 0) (k := 8) dc_De_turnNearer_34 rfl wi_De rfl rfl (by decide) fl_De_50 hW1.1.2.2.2.2.2.2.1 ?_
      refine mw_aload_n dc_De_turnNearer_37 rfl 3 rfl ?_
      refine mi_get (ci := 0) (k := 0) dc_De_turnNearer_38 rfl wi_De rfl rfl (by decide) fl_De_9 hg1 ?_
      refine mz_V2 (M2 := mt_Dr_draw) dc_De_turnNearer_41 ml_De_195 rfl rfl ny_Dr_draw (by decide) (Nat.le_of_ble_eq_true rfl) (ev_draw (a := 37) (na := 6) (y := tI z i j) (ea := eaR n (tI z i j)) (so := soR n (tI z i j)) hW1.2.2.2 hn (by decide) rfl ⟨hn, by decide⟩ (fun p hp => ⟨by rw [va_up_self]; exact tI_i h2 hR.2 p hp, sP_n ht p hp⟩) (dr_ok _ ht)) (fun v h1 hY => ?_)
      obtain ⟨hv, rfl⟩ := hY
      cases hv
      have hW2 := vd_W (vd_dr V n) hW1
      have hg2 := ((vd_dr V n) 0 0 (by omega)).trans hg1
      refine mw_aload_n dc_De_turnNearer_44 rfl 3 rfl ?_
      refine mi_get (ci := 0) (k := 3) dc_De_turnNearer_45 rfl wi_De rfl rfl (by decide) fl_De_30 hW2.1.2.2.1 ?_
      refine mz_V0 (M2 := mt_Dr_fewestReversals) dc_De_turnNearer_48 ml_De_110 rfl rfl ny_Dr_fewestReversals (by decide) (Nat.le_of_ble_eq_true rfl) (ev_fewest (I := (dr_I (va_up I 37 (tu_f (I 37) i j)) n (tI z i j) (soR n (tI z i j)))) hW2.2.2.2 (kn_e (dr_ok _ ht)) kn_p kn_b hn (dr_WL V n) (dr_WP V n)) (fun v h1 hY => ?_)
      obtain ⟨hv, rfl⟩ := hY
      cases hv
      have hk : tn_R n (tI z i j) I0 (va_up (va_up (dr_I (va_up I 37 (tu_f (I 37) i j)) n (tI z i j) (soR n (tI z i j))) 30 (nb ((dr_I (va_up I 37 (tu_f (I 37) i j)) n (tI z i j) (soR n (tI z i j))) 30) (2 * n + 2) (cc_f (eaR n (tI z i j)) (soR n (tI z i j)) n (2 * n + 2)).1)) 33 (nn ((dr_I (va_up I 37 (tu_f (I 37) i j)) n (tI z i j) (soR n (tI z i j))) 33) (wb_f (eaR n (tI z i j)) (pa_f (soR n (tI z i j)) n) (bd_f (soR n (tI z i j)) n) (2 * n + 2)).2 (wb_f (eaR n (tI z i j)) (pa_f (soR n (tI z i j)) n) (bd_f (soR n (tI z i j)) n) (2 * n + 2)).1)) := by
        refine ⟨fun x x1 x2 => ?_, fun p hp => ?_⟩
        · rw [va_up_ne _ _ (by omega), va_up_ne _ _ (by omega)]
          by_cases e : x < 25
          · rw [(sc_dr _ n _ _) x x1 (by omega) x2, va_up_ne _ _ x2]; exact hR.1 x x1 x2
          · rw [dr_x _ _ _ _ (by omega), va_up_ne _ _ x2]; exact hR.1 x x1 x2
        · rw [va_up_ne _ _ (by decide), va_up_ne _ _ (by decide), dr_x _ _ _ _ (by decide), va_up_self]; exact tI_i h2 hR.2 p hp
      revert hk
      generalize va_up (va_up (dr_I (va_up I 37 (tu_f (I 37) i j)) n (tI z i j) (soR n (tI z i j))) 30 (nb ((dr_I (va_up I 37 (tu_f (I 37) i j)) n (tI z i j) (soR n (tI z i j))) 30) (2 * n + 2) (cc_f (eaR n (tI z i j)) (soR n (tI z i j)) n (2 * n + 2)).1)) 33 (nn ((dr_I (va_up I 37 (tu_f (I 37) i j)) n (tI z i j) (soR n (tI z i j))) 33) (wb_f (eaR n (tI z i j)) (pa_f (soR n (tI z i j)) n) (bd_f (soR n (tI z i j)) n) (2 * n + 2)).2 (wb_f (eaR n (tI z i j)) (pa_f (soR n (tI z i j)) n) (bd_f (soR n (tI z i j)) n) (2 * n + 2)).1) = K
      intro hk
      refine mw_iv (y := iI (E (tI z i j) : Nat)) (congrArg iI (hE _ ht)) ?_
      refine mw_iload_n dc_De_turnNearer_51 rfl 2 rfl ?_
      refine mi_icmp_ne (tgt := 62) dc_De_turnNearer_52 (by decide) (iB_mk (by omega) (by omega)) (iB_mk (by omega) (by omega)) (fun hc => ?_) (fun hc => ?_)
      · have hq : ¬ qz E z i j = true := fun q => by
          have q : E (tI z i j) + 1 = E z := of_decide_eq_true q
          omega
        rw [sq_f hq] at h3
        refine mw_aload_n dc_De_turnNearer_62 rfl 3 rfl ?_
        refine mi_get (ci := 0) (k := 8) dc_De_turnNearer_63 rfl wi_De rfl rfl (by decide) fl_De_50 hW2.1.2.2.2.2.2.2.1 ?_
        refine mw_iload_n dc_De_turnNearer_66 rfl 1 rfl ?_
        refine mw_iload_n dc_De_turnNearer_67 rfl 0 rfl ?_
        refine mz_S3 (M2 := mt_De_turn) dc_De_turnNearer_68 ml_De_199 rfl ny_De_turn (by decide) (Nat.le_of_ble_eq_true rfl) (ev_turn (a := 37) (n := 6) rfl (by omega) (by decide) h1) (fun v h1 hY => ?_)
        obtain ⟨hv, rfl⟩ := hY
        cases hv
        have hk2 : tn_R n z I0 (va_up K 37 (tu_f (K 37) i j)) := ⟨fun x x1 x2 => by rw [va_up_ne _ _ x2]; exact hk.1 x x1 x2, fun p hp => by rw [va_up_self, tI_i h2 hk.2 p hp, tI_tI]⟩
        refine mi_iinc dc_De_turnNearer_71 0 rfl (by decide) rfl ?_
        refine mw_goto (tgt := 12) dc_De_turnNearer_74 (by decide) ?_
        by_cases el : j + 1 = n
        · have e9 : nx n i j = (i + 1, i + 1) := if_pos el
          rw [e9] at h3
          have g9 := sq_ge (n := n) (Q := qz E z) f (i + 1) (i + 1)
          have h3' : sq n (qz E z) f (i + 1) (i + 1) = sz n E z := h3
          rw [h3'] at g9
          refine mw_iload_n dc_De_turnNearer_12 rfl 0 rfl ?_
          refine mw_aload_n dc_De_turnNearer_13 rfl 3 rfl ?_
          refine mi_get (ci := 0) (k := 0) dc_De_turnNearer_14 rfl wi_De rfl rfl (by decide) fl_De_9 hg2 ?_
          refine mi_icmp_ge (tgt := 77) dc_De_turnNearer_17 (by decide) (iB_mk (by omega) (by omega)) (iB_mk (by omega) (by omega)) (fun ha => ?_) (fun ha => ?_)
          · refine mi_iinc dc_De_turnNearer_77 1 rfl (by decide) rfl ?_
            refine mw_goto (tgt := 2) dc_De_turnNearer_80 (by decide) ?_
            refine mw_iload_n dc_De_turnNearer_2 rfl 0 rfl ?_
            refine mw_aload_n dc_De_turnNearer_3 rfl 3 rfl ?_
            refine mi_get (ci := 0) (k := 0) dc_De_turnNearer_4 rfl wi_De rfl rfl (by decide) fl_De_9 hg2 ?_
            refine mi_icmp_ge (tgt := 83) dc_De_turnNearer_7 (by decide) (iB_mk (by omega) (by omega)) (iB_mk (by omega) (by omega)) (fun hb => ?_) (fun hb => ?_)
            · exact absurd hb (by omega)
            · refine mw_iload_n dc_De_turnNearer_10 rfl 0 rfl ?_
              refine mw_istore_n dc_De_turnNearer_11 rfl (by decide) rfl ?_
              refine mw_pick [0, 1, 2, 3] rfl ?_
              exact ih (i + 1) (i + 1) _ _ (by omega) (by omega) h3' hk2 (vd_t hv (vd_dr V n))
          · exact absurd ha (by omega)
        · have e9 : nx n i j = (i, j + 1) := if_neg el
          rw [e9] at h3
          refine mw_pick [0, 1, 2, 3] rfl ?_
          exact ih i (j + 1) _ _ (by omega) (by omega) h3 hk2 (vd_t hv (vd_dr V n))
      · have hq : qz E z i j = true := decide_eq_true (by show E (tI z i j) + 1 = E z; omega)
        rw [sq_t hq] at h3
        refine mi_bipush dc_De_turnNearer_55 (by decide) ?_
        refine mw_iload_n dc_De_turnNearer_57 rfl 1 rfl ?_
        refine mi_imul dc_De_turnNearer_58 ?_
        refine mw_iload_n dc_De_turnNearer_59 rfl 0 rfl ?_
        refine mi_iadd dc_De_turnNearer_60 ?_
        have hx9 := hx K _ (by rw [← h3]; exact hk) (vd_t hv (vd_dr V n))
        rw [← h3] at hx9
        exact mw_iret dc_De_turnNearer_61 rfl rfl hx9
theorem ev_turnNearer {G : mm_G} {d : Nat} {cs : mm_Sh} {J : Nat → Nat → Int64} {F : Nat → Nat → Option Nat} {I0 : Nat → Nat → Int32} {V0 : Nat → Nat → Value} {n : Nat} {E : (Nat → Int) → Nat} {z : Nat → Int} (hW : dk_W F V0) (hg : V0 0 0 = .int (iI n)) (hn : n ≤ 6) (hE : ∀ z, sP n z → dP n z = (E z : Nat)) (hH : rw_H n E (sP n)) (hz : sP n z) (h0 : 0 < E z) (hR : ∀ p, p < n → I0 37 p = iI (z p)) : mE G mt_De_turnNearer (d + 4) 0 0 [.ref 0, .int (iI (((E z - 1 : Nat)) : Int))] (wd_S ++ cs, I0, J, F, V0) (fun o h1 => o = .inl (some (.int (iI (10 * ((sz n E z).1 : Nat) + ((sz n E z).2 : Nat))))) ∧ ∃ (I1 : Nat → Nat → Int32) (V1 : Nat → Nat → Value), h1 = (wd_S ++ cs, I1, J, F, V1) ∧ tn_R n (tI z (sz n E z).1 (sz n E z).2) I0 I1 ∧ vd_k V0 V1) := by
  refine mE_intro (by decide) (fun k h q => nomatch q.1) (Nat.le_of_ble_eq_true rfl) ?_
  obtain ⟨s1, s2, s3⟩ := sz_ok hH hn hz h0
  show mW G mt_De_turnNearer (d + 4) 0 0 0 [(0, .ref 0), (1, .int (iI (((E z - 1 : Nat)) : Int)))] [] (wd_S ++ cs, I0, J, F, V0) _
  refine mi_const dc_De_turnNearer_0 ?_
  refine mw_istore_n dc_De_turnNearer_1 rfl (by decide) rfl ?_
  refine mw_iload_n dc_De_turnNearer_2 rfl 0 rfl ?_
  refine mw_aload_n dc_De_turnNearer_3 rfl 1 rfl ?_
  refine mi_get (ci := 0) (k := 0) dc_De_turnNearer_4 rfl wi_De rfl rfl (by decide) fl_De_9 hg ?_
  refine mi_icmp_ge (tgt := 83) dc_De_turnNearer_7 (by decide) (iB_mk (by omega) (by omega)) (iB_mk (by omega) (by omega)) (fun hh => ?_) (fun hh => ?_)
  · exact absurd hh (by omega)
  · refine mw_iload_n dc_De_turnNearer_10 rfl 0 rfl ?_
    refine mw_istore_n dc_De_turnNearer_11 rfl (by decide) rfl ?_
    refine mw_pick [0, 1, 3, 2] rfl ?_
    exact lp_tn hW hg hn hE hH hz h0 (fun I V hR hv => ⟨rfl, I, V, rfl, hR, hv⟩) 60 0 0 I0 V0 (by omega) (by omega) rfl ⟨fun _ _ _ => rfl, hR⟩ (vd_r _)
def ss_R (n : Nat) (E : (Nat → Int) → Nat) (y : Nat → Int) (I0 I : Nat → Nat → Int32) (k : Nat) : Prop := (∀ a, (a < 25 ∨ 33 < a) → a ≠ 35 → a ≠ 37 → I a = I0 a) ∧ (∀ p, p < n → I 37 p = iI (zs n E y k p)) ∧ ∀ m, m < k → I 35 m = iI (zc n E y m)
theorem lp_ss {G : mm_G} {d bc bs : Nat} {cs : mm_Sh} {J : Nat → Nat → Int64} {F : Nat → Nat → Option Nat} {I0 : Nat → Nat → Int32} {V0 : Nat → Nat → Value} {X : mm_X} {c1 c2 : Int32} {n : Nat} {E : (Nat → Int) → Nat} {y : Nat → Int} (hW : dk_W F V0) (hg : V0 0 0 = .int (iI n)) (hn : n ≤ 6) (hE : ∀ z, sP n z → dP n z = (E z : Nat)) (hH : rw_H n E (sP n)) (hy : sP n y) (hx : ∀ I V, ss_R n E y I0 I (E y) → vd_k V0 V → X (.inl (some (.int (iI (E y : Nat))))) (wd_S ++ cs, I, J, F, fu V 0 6 (.int (iI (E y : Nat))))) :
    ∀ (m k : Nat) I V, E y - k < m → k ≤ E y → ss_R n E y I0 I k → vd_k V0 V → mW G mt_De_scenario (d + 5) bc bs 22 [(4, .int (iI (k : Nat))), (3, .int (iI (E y : Nat))), (2, .int c2), (1, .int c1), (0, .ref 0)] [] (wd_S ++ cs, I, J, F, V) X := by
  have hE7 : E y ≤ 7 := (hH y hy).2.1
  intro m
  induction m with
  | zero => intro k I V h1; exact absurd h1 (Nat.not_lt_zero _)
  | succ m ih =>
    intro k I V h1 h2 hR hv
    have hW1 := vd_W hv hW
    have hg1 := (hv 0 0 (by omega)).trans hg
    refine mw_iload dc_De_scenario_22 0 rfl ?_
    refine mw_iload_n dc_De_scenario_24 rfl 1 rfl ?_
    refine mi_icmp_ge (tgt := 58) dc_De_scenario_25 (by decide) (iB_mk (by omega) (by omega)) (iB_mk (by omega) (by omega)) (fun hh => ?_) (fun hh => ?_)
    · have e : k = E y := by omega
      subst e
      refine mw_aload_n dc_De_scenario_58 rfl 4 rfl ?_
      refine mw_iload_n dc_De_scenario_59 rfl 1 rfl ?_
      refine mi_puti (ci := 0) (k := 6) dc_De_scenario_60 rfl wi_De tk_De nm_De rfl rfl (by decide) fl_De_44 rfl (by decide +kernel) (show va_up V 0 (va_up (V 0) 6 (.int (iI (E y : Nat)))) = fu V 0 6 (.int (iI (E y : Nat))) from rfl) ?_
      refine mw_iload_n dc_De_scenario_63 rfl 1 rfl ?_
      exact mw_iret dc_De_scenario_64 rfl rfl (hx I V hR hv)
    · refine mw_iload dc_De_scenario_28 0 rfl ?_
      refine mi_bipush dc_De_scenario_30 (by decide) ?_
      refine mi_icmp_ge (tgt := 58) dc_De_scenario_32 (by decide) (iB_mk (by omega) (by omega)) (iB_mk (by omega) (by omega)) (fun h7 => ?_) (fun h7 => ?_)
      · exact absurd h7 (by omega)
      · obtain ⟨z1, z2⟩ := zs_i hH hn hy k h2
        refine mw_aload_n dc_De_scenario_35 rfl 4 rfl ?_
        refine mi_get (ci := 0) (k := 5) dc_De_scenario_36 rfl wi_De rfl rfl (by decide) fl_De_40 hW1.1.2.2.2.2.1 ?_
        refine mw_iload dc_De_scenario_39 0 rfl ?_
        refine mw_aload_n dc_De_scenario_41 rfl 4 rfl ?_
        refine mw_iload_n dc_De_scenario_42 rfl 1 rfl ?_
        refine mw_iload dc_De_scenario_43 0 rfl ?_
        refine mi_isub dc_De_scenario_45 ?_
        refine mi_const dc_De_scenario_46 ?_
        refine mi_isub dc_De_scenario_47 ?_
        rw [show ((E y : Nat) : Int) - (k : Int) - 1 = ((E (zs n E y k) - 1 : Nat) : Int) by omega]
        refine mz_V1 (M2 := mt_De_turnNearer) dc_De_scenario_48 ml_De_158 rfl rfl ny_De_turnNearer (by decide) (Nat.le_of_ble_eq_true rfl) (ev_turnNearer hW1 hg1 hn hE hH z1 (by omega) hR.2.1) (fun v h1 hY => ?_)
        obtain ⟨hv9, I1, V1, rfl, hR1, hv1⟩ := hY
        cases hv9
        refine mi_iast dc_De_scenario_51 rfl ⟨by omega, by omega, by decide⟩ (I' := va_up I1 35 (upd (I1 35) k (iI (zc n E y k)))) (by rw [Int.toNat_natCast]; rfl) ?_
        refine mi_iinc dc_De_scenario_52 0 rfl (by decide) rfl ?_
        refine mw_goto (tgt := 22) dc_De_scenario_55 (by decide) ?_
        refine mw_pick [0, 1, 2, 3, 4] rfl ?_
        refine ih (k + 1) _ V1 (by omega) (by omega) ⟨fun a a1 a2 a3 => ?_, fun p hp => ?_, fun m hm => ?_⟩ (vd_t hv hv1)
        · rw [va_up_ne _ _ a2, hR1.1 a a1 a3]; exact hR.1 a a1 a2 a3
        · rw [va_up_ne _ _ (by decide)]; exact hR1.2 p hp
        · rw [va_up_self]
          by_cases e : m = k
          · rw [e, pk_us]
          · rw [pk_un e, hR1.1 35 (by decide) (by decide)]; exact hR.2.2 m (by omega)
theorem ev_scenario {G : mm_G} {d : Nat} {cs : mm_Sh} {I : Nat → Nat → Int32} {J : Nat → Nat → Int64} {F : Nat → Nat → Option Nat} {V : Nat → Nat → Value} {n : Nat} {E : (Nat → Int) → Nat} {u : Nat → Nat → Int} (hW : dk_W F V) (hg : V 0 0 = .int (iI n)) (hn : n ≤ 6) (hE : ∀ z, sP n z → dP n z = (E z : Nat)) (hH : rw_H n E (sP n)) (hO : ∀ s, s < 5 → or_ok I n s (u s) ∧ sP n (u s)) {a b : Int} (hst : G.1.stackTraces = false) (ha : iB a) (hb : iB b) : mT G mt_De_scenario (d + 5) 2 12 [.ref 0, .int (iI a), .int (iI b)] (wd_S ++ cs, I, J, F, V) (fun o h1 => ((okS a ∧ okS b) → o = .inl (some (.int (iI (E (yR n (u a.toNat) (u b.toNat)) : Nat)))) ∧ ∃ (I1 : Nat → Nat → Int32) (V1 : Nat → Nat → Value), h1 = (wd_S ++ cs, I1, J, F, V1) ∧ (∀ x, (x < 25 ∨ 33 < x) → x ≠ 35 → x ≠ 36 → x ≠ 37 → I1 x = I x) ∧ (∀ m, m < E (yR n (u a.toNat) (u b.toNat)) → I1 35 m = iI (zc n E (yR n (u a.toNat) (u b.toNat)) m)) ∧ (∀ x j, ¬ (x = 24 ∧ (j = 2 ∨ j = 3)) → ¬ (x = 0 ∧ j = 6) → V1 x j = V x j) ∧ V1 0 6 = .int (iI (E (yR n (u a.toNat) (u b.toNat)) : Nat))) ∧ (¬ (okS a ∧ okS b) → o = .inr 1 ∧ h1 = (wd_S ++ cs, I, J, F, V))) := by
  refine mT_intro hst (by decide) (Nat.le_of_ble_eq_true rfl) ?_
  show mW G mt_De_scenario (d + 5) 2 12 0 [(0, .ref 0), (1, .int (iI a)), (2, .int (iI b))] [] (wd_S ++ cs, I, J, F, V) _
  refine mw_iload_n dc_De_scenario_0 rfl 1 rfl ?_
  refine mw_iload_n dc_De_scenario_1 rfl 2 rfl ?_
  refine mc_SP2 (mc := 2) (ms := 12) (bc := 0) (bs := 0) (M2 := mt_De_checkSlots) dc_De_scenario_2 ml_De_94 ny_De_checkSlots (by decide) (Nat.le_of_ble_eq_true rfl) (ev_checkSlots hst ha hb) (fun v h1 hY => ?_) rfl (fun j h1 hY => by obtain ⟨hp, rfl, rfl⟩ := ck_x hY; exact ⟨fun q => absurd q hp, fun _ => ⟨rfl, rfl⟩⟩)
  obtain ⟨hp, rfl, rfl⟩ := ck_r hY
  have pa := (hO a.toNat (by omega)).2
  have pb := (hO b.toNat (by omega)).2
  have py := sP_y pa pb
  have hr : rw_ok I n (u a.toNat) (u b.toNat) (yR n (u a.toNat) (u b.toNat)) (eaR n (yR n (u a.toNat) (u b.toNat))) (soR n (yR n (u a.toNat) (u b.toNat))) := ⟨fun p hp => ⟨re_k pa pb I p hp, sP_n py p hp⟩, dr_ok _ py⟩
  have hW2 := dk_dr n hW
  refine mw_aload_n dc_De_scenario_5 rfl 0 rfl ?_
  refine mw_iload_n dc_De_scenario_6 rfl 1 rfl ?_
  refine mw_iload_n dc_De_scenario_7 rfl 2 rfl ?_
  rw [show iI a = iI ((a.toNat : Nat) : Int) by rw [show ((a.toNat : Nat) : Int) = a by omega], show iI b = iI ((b.toNat : Nat) : Int) by rw [show ((b.toNat : Nat) : Int) = b by omega]]
  refine mz_V2 (M2 := mt_De_drawSlots) dc_De_scenario_8 ml_De_107 rfl rfl ny_De_drawSlots (by decide) (Nat.le_of_ble_eq_true rfl) (ev_drawSlots hW hg hn (a := a.toNat) (b := b.toNat) (by omega) (by omega) (hO _ (by omega)).1 (hO _ (by omega)).1 hr) (fun v h1 hY => ?_)
  obtain ⟨hv, rfl⟩ := hY
  cases hv
  refine mw_aload_n dc_De_scenario_11 rfl 0 rfl ?_
  refine mi_get (ci := 0) (k := 3) dc_De_scenario_12 rfl wi_De rfl rfl (by decide) fl_De_30 hW2.1.2.2.1 ?_
  refine mz_V0 (M2 := mt_Dr_fewestReversals) dc_De_scenario_15 ml_De_110 rfl rfl ny_Dr_fewestReversals (by decide) (Nat.le_of_ble_eq_true rfl) (ev_fewest (I := (dr_I (re_I I n (u a.toNat) (u b.toNat)) n (yR n (u a.toNat) (u b.toNat)) (soR n (yR n (u a.toNat) (u b.toNat))))) hW2.2.2.2 (kn_e (dr_ok _ py)) kn_p kn_b hn (dr_WL V n) (dr_WP V n)) (fun v h1 hY => ?_)
  obtain ⟨hv, rfl⟩ := hY
  cases hv
  refine mw_iv (y := iI (E (yR n (u a.toNat) (u b.toNat)) : Nat)) (congrArg iI (hE _ py)) ?_
  refine mw_istore_n dc_De_scenario_18 rfl (by decide) rfl ?_
  refine mi_const dc_De_scenario_19 ?_
  refine mw_istore dc_De_scenario_20 (by decide) rfl ?_
  refine mw_pick [0, 1, 4, 3, 2] rfl ?_
  refine lp_ss (y := yR n (u a.toNat) (u b.toNat)) hW2 ((vd_dr V n 0 0 (by omega)).trans hg) hn hE hH py (fun I1 V1 hR hv => ?_) 20 0 _ _ (by have := (hH _ py).2.1; omega) (by omega) ⟨fun _ _ _ _ => rfl, fun p hp => ?_, fun m hm => absurd hm (Nat.not_lt_zero _)⟩ (vd_r _)
  · refine ⟨fun _ => ⟨rfl, I1, _, rfl, fun x x1 x2 x3 x4 => ?_, hR.2.2, fun x j q1 q2 => ?_, fu_at _ 0 6 _⟩, fun q => absurd hp q⟩
    · rw [hR.1 x x1 x2 x4, va_up_ne _ _ (by omega), va_up_ne _ _ (by omega)]
      exact sc_t (sc_re I n _ _) (sc_dr _ n _ _) x x1 x3 x4
    · rw [fu_ne q2, hv x j q1]; exact vd_dr V n x j q1
  · rw [va_up_ne _ _ (by decide), va_up_ne _ _ (by decide), dr_x _ _ _ _ (by decide)]
    exact re_k pa pb I p hp
