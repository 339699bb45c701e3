/-! cycles -/
def xo (a : Nat) : Nat := if a % 2 = 0 then a + 1 else a - 1
theorem xo_i : ∀ a, a < 16 → iI (a : Nat) ^^^ iI 1 = iI (xo a : Nat) := by decide +kernel
theorem xo_lt {a n : Nat} (h : a < 2 * n + 2) : xo a < 2 * n + 2 := by
  unfold xo
  split <;> omega
def dr_e (I : Nat → Nat → Int32) (n : Nat) (ea so : Nat → Nat) : Prop := ∀ s, s < 2 * n + 2 → I 28 s = iI (ea s) ∧ I 29 s = iI (so s) ∧ ea s < 2 * n + 2 ∧ so s < 2 * n + 2
def wc_f (ea so : Nat → Nat) : Nat → Nat → (Nat → Bool) → Nat → Bool
  | 0, _, b => b
  | t + 1, s, b => if b s = true then b else wc_f ea so t (so (xo (ea (xo s)))) (va_up (va_up b s true) (xo s) true)
def cc_f (ea so : Nat → Nat) (n : Nat) : Nat → (Nat → Bool) × Nat
  | 0 => (fun _ => false, 0)
  | s + 1 => if (cc_f ea so n s).1 s = true then cc_f ea so n s else (wc_f ea so (n + 1) s (cc_f ea so n s).1, (cc_f ea so n s).2 + 1)
theorem cc_le (ea so : Nat → Nat) (n s : Nat) : (cc_f ea so n s).2 ≤ s := by
  induction s with
  | zero => exact Nat.le_refl _
  | succ s ih =>
    unfold cc_f
    split
    · omega
    · show (cc_f ea so n s).2 + 1 ≤ s + 1
      omega
theorem lp_walk {G : mm_G} {d bc bs : Nat} {cs : mm_Sh} {I : Nat → Nat → Int32} {J : Nat → Nat → Int64} {F : Nat → Nat → Option Nat} {V : Nat → Nat → Value} {X : mm_X} {n : Nat} {g : Nat → Int32} {ea so : Nat → Nat} (hV : dr_V V) (he : dr_e I n ea so) (hn : n ≤ 6) (hL : V 24 2 = .int (iI ((n + 1 : Nat) : Int))) :
    ∀ (t k s : Nat) (b : Nat → Bool), k + t = n + 1 → s < 2 * n + 2 → X (.inl none) (wd_S ++ cs, va_up I 30 (nb g (2 * n + 2) (wc_f ea so t s b)), J, F, V) → mW G mt_Dr_walkCycle d bc bs 4 [(3, .int (iI k)), (2, .int (iI s)), (0, .ref 24)] [] (wd_S ++ cs, va_up I 30 (nb g (2 * n + 2) b), J, F, V) X := by
  intro t
  induction t with
  | zero =>
    intro k s b h1 h2 hx
    refine mw_iload_n dc_Dr_walkCycle_4 rfl 0 rfl ?_
    refine mw_aload_n dc_Dr_walkCycle_5 rfl 2 rfl ?_
    refine mi_get (ci := 3) (k := 2) dc_Dr_walkCycle_6 rfl wi_Dr rfl rfl (by decide) fl_Dr_40 hL ?_
    refine mi_icmp_ge (tgt := 62) dc_Dr_walkCycle_9 (by decide) (iB_mk (by omega) (by omega)) (iB_mk (by omega) (by omega)) (fun hh => ?_) (fun hh => ?_)
    · exact mw_vret dc_Dr_walkCycle_62 rfl hx
    · exact absurd hh (by omega)
  | succ t ih =>
    intro k s b h1 h2 hx
    have hx1 := xo_lt h2
    obtain ⟨q1, q2, q3, q4⟩ := he (xo s) hx1
    have hx2 := xo_lt q3
    obtain ⟨p1, q5, p3, q6⟩ := he (xo (ea (xo s))) hx2
    refine mw_iload_n dc_Dr_walkCycle_4 rfl 0 rfl ?_
    refine mw_aload_n dc_Dr_walkCycle_5 rfl 2 rfl ?_
    refine mi_get (ci := 3) (k := 2) dc_Dr_walkCycle_6 rfl wi_Dr rfl rfl (by decide) fl_Dr_40 hL ?_
    refine mi_icmp_ge (tgt := 62) dc_Dr_walkCycle_9 (by decide) (iB_mk (by omega) (by omega)) (iB_mk (by omega) (by omega)) (fun hh => ?_) (fun hh => ?_)
    · exact absurd hh (by omega)
    · refine mw_aload_n dc_Dr_walkCycle_12 rfl 2 rfl ?_
      refine mi_get (ci := 3) (k := 7) dc_Dr_walkCycle_13 rfl wi_Dr rfl rfl (by decide) fl_Dr_27 hV.2.2.2.2.2.1 ?_
      refine mw_iload_n dc_Dr_walkCycle_16 rfl 1 rfl ?_
      refine mi_zald dc_Dr_walkCycle_17 rfl ⟨by omega, by omega, by decide⟩ (v := bo (b s = true)) (by rw [Int.toNat_natCast, va_up_self, nb_a h2]) ?_
      refine mw_if_ne (tgt := 62) dc_Dr_walkCycle_18 (by decide) (fun hh => ?_) (fun hh => ?_)
      · have e : wc_f ea so (t + 1) s b = b := if_pos (Decidable.not_not.mp (fun q => hh (bo_0.mpr q)))
        rw [e] at hx
        exact mw_vret dc_Dr_walkCycle_62 rfl hx
      · have e : wc_f ea so (t + 1) s b = wc_f ea so t (so (xo (ea (xo s)))) (va_up (va_up b s true) (xo s) true) := if_neg (bo_0.mp hh)
        rw [e] at hx
        refine mw_iload_n dc_Dr_walkCycle_21 rfl 1 rfl ?_
        refine mi_const dc_Dr_walkCycle_22 ?_
        refine mw_ixor dc_Dr_walkCycle_23 ?_
        rw [xo_i _ (by omega)]
        refine mw_istore dc_Dr_walkCycle_24 (by decide) rfl ?_
        refine mw_aload_n dc_Dr_walkCycle_26 rfl 3 rfl ?_
        refine mi_get (ci := 3) (k := 7) dc_Dr_walkCycle_27 rfl wi_Dr rfl rfl (by decide) fl_Dr_27 hV.2.2.2.2.2.1 ?_
        refine mw_iload_n dc_Dr_walkCycle_30 rfl 2 rfl ?_
        refine mi_const dc_Dr_walkCycle_31 ?_
        refine mi_zast dc_Dr_walkCycle_32 rfl ⟨by omega, by omega, by decide⟩ (by decide) (I' := va_up I 30 (nb g (2 * n + 2) (va_up b s true))) (by rw [va_up_self, up_up, Int.toNat_natCast, nb_ut h2]) ?_
        refine mw_aload_n dc_Dr_walkCycle_33 rfl 3 rfl ?_
        refine mi_get (ci := 3) (k := 7) dc_Dr_walkCycle_34 rfl wi_Dr rfl rfl (by decide) fl_Dr_27 hV.2.2.2.2.2.1 ?_
        refine mw_iload dc_Dr_walkCycle_37 0 rfl ?_
        refine mi_const dc_Dr_walkCycle_39 ?_
        refine mi_zast dc_Dr_walkCycle_40 rfl ⟨by omega, by omega, by decide⟩ (by decide) (I' := va_up I 30 (nb g (2 * n + 2) (va_up (va_up b s true) (xo s) true))) (by rw [va_up_self, up_up, Int.toNat_natCast, nb_ut hx1]) ?_
        refine mw_aload_n dc_Dr_walkCycle_41 rfl 3 rfl ?_
        refine mi_get (ci := 3) (k := 6) dc_Dr_walkCycle_42 rfl wi_Dr rfl rfl (by decide) fl_Dr_24 hV.2.2.2.2.1 ?_
        refine mw_aload_n dc_Dr_walkCycle_45 rfl 3 rfl ?_
        refine mi_get (ci := 3) (k := 5) dc_Dr_walkCycle_46 rfl wi_Dr rfl rfl (by decide) fl_Dr_21 hV.2.2.2.1 ?_
        refine mw_iload dc_Dr_walkCycle_49 0 rfl ?_
        refine mi_iald dc_Dr_walkCycle_51 rfl ⟨by omega, by omega, by decide⟩ (v := iI (ea (xo s))) (by rw [Int.toNat_natCast]; exact q1) ?_
        refine mi_const dc_Dr_walkCycle_52 ?_
        refine mw_ixor dc_Dr_walkCycle_53 ?_
        rw [xo_i _ (by omega)]
        refine mi_iald dc_Dr_walkCycle_54 rfl ⟨by omega, by omega, by decide⟩ (v := iI (so (xo (ea (xo s))))) (by rw [Int.toNat_natCast]; exact q5) ?_
        refine mw_istore_n dc_Dr_walkCycle_55 rfl (by decide) rfl ?_
        refine mi_iinc dc_Dr_walkCycle_56 2 rfl (by decide) rfl ?_
        refine mw_goto (tgt := 4) dc_Dr_walkCycle_59 (by decide) ?_
        refine mw_pick [0, 1, 3] rfl ?_
        exact ih (k + 1) _ _ (by omega) q6 hx
theorem ev_walkCycle {G : mm_G} {d : Nat} {cs : mm_Sh} {I : Nat → Nat → Int32} {J : Nat → Nat → Int64} {F : Nat → Nat → Option Nat} {V : Nat → Nat → Value} {n s : Nat} {g : Nat → Int32} {b : Nat → Bool} {ea so : Nat → Nat} (hV : dr_V V) (he : dr_e I n ea so) (hn : n ≤ 6) (hs : s < 2 * n + 2) (hL : V 24 2 = .int (iI ((n + 1 : Nat) : Int))) : mE G mt_Dr_walkCycle d 0 0 [.ref 24, .int (iI s)] (wd_S ++ cs, va_up I 30 (nb g (2 * n + 2) b), J, F, V) (fun o h1 => o = .inl none ∧ h1 = (wd_S ++ cs, va_up I 30 (nb g (2 * n + 2) (wc_f ea so (n + 1) s b)), J, F, V)) := by
  refine mE_intro (by decide) (fun k h q => nomatch q.1) (Nat.le_of_ble_eq_true rfl) ?_
  show mW G mt_Dr_walkCycle d 0 0 0 [(0, .ref 24), (1, .int (iI s))] [] (wd_S ++ cs, va_up I 30 (nb g (2 * n + 2) b), J, F, V) _
  refine mw_iload_n dc_Dr_walkCycle_0 rfl 1 rfl ?_
  refine mw_istore_n dc_Dr_walkCycle_1 rfl (by decide) rfl ?_
  refine mi_const dc_Dr_walkCycle_2 ?_
  refine mw_istore_n dc_Dr_walkCycle_3 rfl (by decide) rfl ?_
  refine mw_pick [0, 1, 2] rfl ?_
  exact lp_walk hV he hn hL (n + 1) 0 s b (by omega) hs ⟨rfl, rfl⟩
theorem lp_cyc1 {G : mm_G} {d bc bs : Nat} {cs : mm_Sh} {I : Nat → Nat → Int32} {J : Nat → Nat → Int64} {F : Nat → Nat → Option Nat} {V : Nat → Nat → Value} {X : mm_X} {n : Nat} (hV : dr_V V) (hn : n ≤ 6) (hP : V 24 3 = .int (iI ((2 * n + 2 : Nat) : Int))) (hx : mW G mt_Dr_countCycles d bc bs 23 [(0, .ref 24)] [] (wd_S ++ cs, va_up I 30 (nb (I 30) (2 * n + 2) (fun _ => false)), J, F, V) X) :
    ∀ (m k : Nat), 2 * n + 2 - k < m → k ≤ 2 * n + 2 → mW G mt_Dr_countCycles d bc bs 2 [(1, .int (iI k)), (0, .ref 24)] [] (wd_S ++ cs, va_up I 30 (nb (I 30) k (fun _ => false)), J, F, V) X := by
  intro m
  induction m with
  | zero => intro k h1 _; exact absurd h1 (Nat.not_lt_zero _)
  | succ m ih =>
    intro k h1 h2
    refine mw_iload_n dc_Dr_countCycles_2 rfl 0 rfl ?_
    refine mw_aload_n dc_Dr_countCycles_3 rfl 1 rfl ?_
    refine mi_get (ci := 3) (k := 3) dc_Dr_countCycles_4 rfl wi_Dr rfl rfl (by decide) fl_Dr_44 hP ?_
    refine mi_icmp_ge (tgt := 23) dc_Dr_countCycles_7 (by decide) (iB_mk (by omega) (by omega)) (iB_mk (by omega) (by omega)) (fun hh => ?_) (fun hh => ?_)
    · have e : k = 2 * n + 2 := by omega
      subst e
      refine mw_pick [1] rfl ?_
      exact hx
    · have hk : k < 2 * n + 2 := by omega
      refine mw_aload_n dc_Dr_countCycles_10 rfl 1 rfl ?_
      refine mi_get (ci := 3) (k := 7) dc_Dr_countCycles_11 rfl wi_Dr rfl rfl (by decide) fl_Dr_27 hV.2.2.2.2.2.1 ?_
      refine mw_iload_n dc_Dr_countCycles_14 rfl 0 rfl ?_
      refine mi_const dc_Dr_countCycles_15 ?_
      refine mi_zast dc_Dr_countCycles_16 rfl ⟨by omega, by omega, by decide⟩ (by decide) (I' := va_up I 30 (nb (I 30) (k + 1) (fun _ => false))) (by rw [va_up_self, up_up, Int.toNat_natCast]; exact congrArg (va_up I 30) (nb_sf rfl)) ?_
      refine mi_iinc dc_Dr_countCycles_17 0 rfl (by decide) rfl ?_
      refine mw_goto (tgt := 2) dc_Dr_countCycles_20 (by decide) ?_
      refine mw_pick [0, 1] rfl ?_
      exact ih (k + 1) (by omega) (by omega)
theorem lp_cyc2 {G : mm_G} {d bc bs : Nat} {cs : mm_Sh} {I : Nat → Nat → Int32} {J : Nat → Nat → Int64} {F : Nat → Nat → Option Nat} {V : Nat → Nat → Value} {X : mm_X} {n : Nat} {g : Nat → Int32} {ea so : Nat → Nat} (hV : dr_V V) (he : dr_e I n ea so) (hn : n ≤ 6) (hL : V 24 2 = .int (iI ((n + 1 : Nat) : Int))) (hP : V 24 3 = .int (iI ((2 * n + 2 : Nat) : Int))) (hx : X (.inl (some (.int (iI ((cc_f ea so n (2 * n + 2)).2 : Nat))))) (wd_S ++ cs, va_up I 30 (nb g (2 * n + 2) (cc_f ea so n (2 * n + 2)).1), J, F, V)) :
    ∀ (m k : Nat), 2 * n + 2 - k < m → k ≤ 2 * n + 2 → mW G mt_Dr_countCycles (d + 1) bc bs 27 [(2, .int (iI k)), (1, .int (iI ((cc_f ea so n k).2 : Nat))), (0, .ref 24)] [] (wd_S ++ cs, va_up I 30 (nb g (2 * n + 2) (cc_f ea so n k).1), J, F, V) X := by
  intro m
  induction m with
  | zero => intro k h1 _; exact absurd h1 (Nat.not_lt_zero _)
  | succ m ih =>
    intro k h1 h2
    have hb := cc_le ea so n k
    refine mw_iload_n dc_Dr_countCycles_27 rfl 0 rfl ?_
    refine mw_aload_n dc_Dr_countCycles_28 rfl 2 rfl ?_
    refine mi_get (ci := 3) (k := 3) dc_Dr_countCycles_29 rfl wi_Dr rfl rfl (by decide) fl_Dr_44 hP ?_
    refine mi_icmp_ge (tgt := 58) dc_Dr_countCycles_32 (by decide) (iB_mk (by omega) (by omega)) (iB_mk (by omega) (by omega)) (fun hh => ?_) (fun hh => ?_)
    · have e : k = 2 * n + 2 := by omega
      subst e
      refine mw_iload_n dc_Dr_countCycles_58 rfl 1 rfl ?_
      exact mw_iret dc_Dr_countCycles_59 rfl rfl hx
    · have hk : k < 2 * n + 2 := by omega
      refine mw_aload_n dc_Dr_countCycles_35 rfl 2 rfl ?_
      refine mi_get (ci := 3) (k := 7) dc_Dr_countCycles_36 rfl wi_Dr rfl rfl (by decide) fl_Dr_27 hV.2.2.2.2.2.1 ?_
      refine mw_iload_n dc_Dr_countCycles_39 rfl 0 rfl ?_
      refine mi_zald dc_Dr_countCycles_40 rfl ⟨by omega, by omega, by decide⟩ (v := bo ((cc_f ea so n k).1 k = true)) (by rw [Int.toNat_natCast, va_up_self, nb_a (by omega)]) ?_
      refine mw_if_ne (tgt := 52) dc_Dr_countCycles_41 (by decide) (fun h041 => ?_) (fun h041 => ?_)
      · refine mi_iinc dc_Dr_countCycles_52 0 rfl (by decide) rfl ?_
        refine mw_goto (tgt := 27) dc_Dr_countCycles_55 (by decide) ?_
        refine mw_pick [0, 1, 2] rfl ?_
        have e : cc_f ea so n (k + 1) = cc_f ea so n k := if_pos (Decidable.not_not.mp (fun q => h041 (bo_0.mpr q)))
        have k2 := ih (k + 1) (by omega) (by omega)
        rw [e] at k2
        exact k2
      · refine mw_aload_n dc_Dr_countCycles_44 rfl 2 rfl ?_
        refine mw_iload_n dc_Dr_countCycles_45 rfl 0 rfl ?_
        refine mz_V1 (M2 := mt_Dr_walkCycle) dc_Dr_countCycles_46 ml_Dr_83 rfl rfl ny_Dr_walkCycle (by decide) (Nat.le_of_ble_eq_true rfl) (ev_walkCycle (I := I) hV he hn hk hL) (fun v h1 hY => ?_)
        obtain ⟨hv, rfl⟩ := hY
        cases hv
        refine mi_iinc dc_Dr_countCycles_49 1 rfl (by decide) rfl ?_
        refine mi_iinc dc_Dr_countCycles_52 1 rfl (by decide) rfl ?_
        refine mw_goto (tgt := 27) dc_Dr_countCycles_55 (by decide) ?_
        refine mw_pick [0, 1, 2] rfl ?_
        have e : cc_f ea so n (k + 1) = (wc_f ea so (n + 1) k (cc_f ea so n k).1, (cc_f ea so n k).2 + 1) := if_neg (bo_0.mp h041)
        have k2 := ih (k + 1) (by omega) (by omega)
        rw [e] at k2
        exact k2
theorem ev_countCycles {G : mm_G} {d : Nat} {cs : mm_Sh} {I : Nat → Nat → Int32} {J : Nat → Nat → Int64} {F : Nat → Nat → Option Nat} {V : Nat → Nat → Value} {n : Nat} {ea so : Nat → Nat} (hV : dr_V V) (he : dr_e I n ea so) (hn : n ≤ 6) (hL : V 24 2 = .int (iI ((n + 1 : Nat) : Int))) (hP : V 24 3 = .int (iI ((2 * n + 2 : Nat) : Int))) : mE G mt_Dr_countCycles (d + 1) 0 0 [.ref 24] (wd_S ++ cs, I, J, F, V) (fun o h1 => o = .inl (some (.int (iI ((cc_f ea so n (2 * n + 2)).2 : Nat)))) ∧ h1 = (wd_S ++ cs, va_up I 30 (nb (I 30) (2 * n + 2) (cc_f ea so n (2 * n + 2)).1), J, F, V)) := by
  refine mE_intro (by decide) (fun k h q => nomatch q.1) (Nat.le_of_ble_eq_true rfl) ?_
  show mW G mt_Dr_countCycles (d + 1) 0 0 0 [(0, .ref 24)] [] (wd_S ++ cs, I, J, F, V) _
  refine mi_const dc_Dr_countCycles_0 ?_
  refine mw_istore_n dc_Dr_countCycles_1 rfl (by decide) rfl ?_
  have k := lp_cyc1 (G := G) (d := d + 1) (bc := 0) (bs := 0) (cs := cs) (I := I) (J := J) (F := F) (X := fun o h1 => o = .inl (some (.int (iI ((cc_f ea so n (2 * n + 2)).2 : Nat)))) ∧ h1 = (wd_S ++ cs, va_up I 30 (nb (I 30) (2 * n + 2) (cc_f ea so n (2 * n + 2)).1), J, F, V)) hV hn hP ?_ (2 * n + 3) 0 (by omega) (by omega)
  · rw [nb_0, up_id] at k
    exact k
  · refine mi_const dc_Dr_countCycles_23 ?_
    refine mw_istore_n dc_Dr_countCycles_24 rfl (by decide) rfl ?_
    refine mi_const dc_Dr_countCycles_25 ?_
    refine mw_istore_n dc_Dr_countCycles_26 rfl (by decide) rfl ?_
    exact lp_cyc2 (I := I) hV he hn hL hP ⟨rfl, rfl⟩ (2 * n + 3) 0 (by omega) (by omega)
