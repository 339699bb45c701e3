/-! the way round, over the spots of bad parts; hurdles -/
def wb_f (ea pa : Nat → Nat) (bd : Nat → Bool) : Nat → (Nat → Nat) × Nat
  | 0 => (fun _ => 0, 0)
  | s + 1 => if bd (pa (ea s / 2)) = true then (va_up (wb_f ea pa bd s).1 (wb_f ea pa bd s).2 (pa (ea s / 2)), (wb_f ea pa bd s).2 + 1) else wb_f ea pa bd s
theorem wb_le (ea pa : Nat → Nat) (bd : Nat → Bool) (s : Nat) : (wb_f ea pa bd s).2 ≤ s := by
  induction s with
  | zero => exact Nat.le_refl _
  | succ s ih =>
    unfold wb_f
    split
    · show (wb_f ea pa bd s).2 + 1 ≤ s + 1
      omega
    · omega
theorem wb_v {ea pa : Nat → Nat} {bd : Nat → Bool} {n : Nat} (hp : ∀ k, k ≤ n → pa k ≤ n) (he : ∀ s, s < 2 * n + 2 → ea s < 2 * n + 2) : ∀ s, s ≤ 2 * n + 2 → ∀ j, (wb_f ea pa bd s).1 j ≤ n := by
  intro s
  induction s with
  | zero => intro _ j; exact Nat.zero_le _
  | succ s ih =>
    intro hs j
    unfold wb_f
    split
    · show va_up (wb_f ea pa bd s).1 (wb_f ea pa bd s).2 (pa (ea s / 2)) j ≤ n
      by_cases e : j = (wb_f ea pa bd s).2
      · subst e
        rw [va_up_self]
        have := he s (by omega)
        exact hp _ (by omega)
      · rw [va_up_ne _ _ e]
        exact ih (by omega) j
    · exact ih (by omega) j
theorem nn_g {g : Nat → Int32} {c : Nat} {f : Nat → Nat} (v : Nat) : upd (nn g c f) c (iI v) = nn g (c + 1) (va_up f c v) := by
  have e : nn g c f = nn g c (va_up f c v) := nn_c (fun k hk => (va_up_ne _ _ (Nat.ne_of_lt hk)).symm)
  have e2 : iI (v : Int) = iI ((va_up f c v c : Nat) : Int) := by rw [va_up_self]
  rw [e, e2, nn_s]
def re_p (f : Nat → Nat) (c k : Nat) : Nat → Bool := fun a => f a == k && !(f (if a + 1 < c then a + 1 else 0) == k)
def hu_p (bd : Nat → Bool) (f : Nat → Nat) (c : Nat) : Nat → Bool := fun k => bd k && decide (ct (re_p f c k) c ≤ 1)
theorem lp_wba {G : mm_G} {d bc bs : Nat} {cs : mm_Sh} {I : Nat → Nat → Int32} {J : Nat → Nat → Int64} {F : Nat → Nat → Option Nat} {V : Nat → Nat → Value} {X : mm_X} {n : Nat} {g : Nat → Int32} {ea so pa : Nat → Nat} {bd : Nat → Bool} (hV : dr_V V) (he : dr_e I n ea so) (hp : dr_p I n pa) (hb : dr_b I n bd) (hn : n ≤ 6) (hP : V 24 3 = .int (iI ((2 * n + 2 : Nat) : Int))) (hx : X (.inl (some (.int (iI ((wb_f ea pa bd (2 * n + 2)).2 : Nat))))) (wd_S ++ cs, va_up I 33 (nn g (wb_f ea pa bd (2 * n + 2)).2 (wb_f ea pa bd (2 * n + 2)).1), J, F, V)) :
    ∀ (m s : Nat), 2 * n + 2 - s < m → s ≤ 2 * n + 2 → mW G mt_Dr_writeBadAround d bc bs 4 [(2, .int (iI s)), (1, .int (iI ((wb_f ea pa bd s).2 : Nat))), (0, .ref 24)] [] (wd_S ++ cs, va_up I 33 (nn g (wb_f ea pa bd s).2 (wb_f ea pa bd s).1), J, F, V) X := by
  intro m
  induction m with
  | zero => intro s h1 _; exact absurd h1 (Nat.not_lt_zero _)
  | succ m ih =>
    intro s h1 h2
    have hc := wb_le ea pa bd s
    refine mw_iload_n dc_Dr_writeBadAround_4 rfl 0 rfl ?_
    refine mw_aload_n dc_Dr_writeBadAround_5 rfl 2 rfl ?_
    refine mi_get (ci := 3) (k := 3) dc_Dr_writeBadAround_6 rfl wi_Dr rfl rfl (by decide) fl_Dr_44 hP ?_
    refine mi_icmp_ge (tgt := 51) dc_Dr_writeBadAround_9 (by decide) (iB_mk (by omega) (by omega)) (iB_mk (by omega) (by omega)) (fun hh => ?_) (fun hh => ?_)
    · have e : s = 2 * n + 2 := by omega
      subst e
      refine mw_iload_n dc_Dr_writeBadAround_51 rfl 1 rfl ?_
      exact mw_iret dc_Dr_writeBadAround_52 rfl rfl hx
    · have hs : s < 2 * n + 2 := by omega
      obtain ⟨q1, q2, q3, q4⟩ := he s hs
      obtain ⟨q5, q6⟩ := hp (ea s / 2) (by omega)
      have q7 := hb (pa (ea s / 2)) q6
      refine mw_aload_n dc_Dr_writeBadAround_12 rfl 2 rfl ?_
      refine mi_get (ci := 3) (k := 8) dc_Dr_writeBadAround_13 rfl wi_Dr rfl rfl (by decide) fl_Dr_31 hV.2.2.2.2.2.2.1 ?_
      refine mw_aload_n dc_Dr_writeBadAround_16 rfl 2 rfl ?_
      refine mi_get (ci := 3) (k := 5) dc_Dr_writeBadAround_17 rfl wi_Dr rfl rfl (by decide) fl_Dr_21 hV.2.2.2.1 ?_
      refine mw_iload_n dc_Dr_writeBadAround_20 rfl 0 rfl ?_
      refine mi_iald dc_Dr_writeBadAround_21 rfl ⟨by omega, by omega, by decide⟩ (v := iI (ea s)) (by rw [Int.toNat_natCast]; exact q1) ?_
      refine mi_const dc_Dr_writeBadAround_22 ?_
      refine mi_idiv dc_Dr_writeBadAround_23 ⟨by omega, by omega, by omega, by omega⟩ ?_
      refine mi_iald dc_Dr_writeBadAround_24 rfl ⟨by omega, by omega, by decide⟩ (v := iI (pa (ea s / 2))) (by rw [show ((ea s : Int) / 2).toNat = ea s / 2 by omega]; exact q5) ?_
      refine mw_istore_n dc_Dr_writeBadAround_25 rfl (by decide) rfl ?_
      refine mw_aload_n dc_Dr_writeBadAround_26 rfl 3 rfl ?_
      refine mi_get (ci := 3) (k := 9) dc_Dr_writeBadAround_27 rfl wi_Dr rfl rfl (by decide) fl_Dr_34 hV.2.2.2.2.2.2.2.1 ?_
      refine mw_iload_n dc_Dr_writeBadAround_30 rfl 0 rfl ?_
      refine mi_zald dc_Dr_writeBadAround_31 rfl ⟨by omega, by omega, by decide⟩ (v := bo (bd (pa (ea s / 2)) = true)) (by rw [Int.toNat_natCast]; exact q7) ?_
      refine mw_if_eq (tgt := 45) dc_Dr_writeBadAround_32 (by decide) (fun h032 => ?_) (fun h032 => ?_)
      · refine mi_iinc dc_Dr_writeBadAround_45 1 rfl (by decide) rfl ?_
        refine mw_goto (tgt := 4) dc_Dr_writeBadAround_48 (by decide) ?_
        refine mw_pick [0, 2, 3] rfl ?_
        have e : wb_f ea pa bd (s + 1) = wb_f ea pa bd s := if_neg (bo_0.mp h032)
        have k2 := ih (s + 1) (by omega) (by omega)
        rw [e] at k2
        exact k2
      · refine mw_aload_n dc_Dr_writeBadAround_35 rfl 3 rfl ?_
        refine mi_get (ci := 3) (k := 10) dc_Dr_writeBadAround_36 rfl wi_Dr rfl rfl (by decide) fl_Dr_37 hV.2.2.2.2.2.2.2.2 ?_
        refine mw_iload_n dc_Dr_writeBadAround_39 rfl 2 rfl ?_
        refine mw_iload_n dc_Dr_writeBadAround_40 rfl 0 rfl ?_
        refine mi_iast dc_Dr_writeBadAround_41 rfl ⟨by omega, by omega, by decide⟩ (I' := va_up I 33 (nn g ((wb_f ea pa bd s).2 + 1) (va_up (wb_f ea pa bd s).1 (wb_f ea pa bd s).2 (pa (ea s / 2))))) (by rw [va_up_self, up_up, Int.toNat_natCast, nn_g]) ?_
        refine mi_iinc dc_Dr_writeBadAround_42 2 rfl (by decide) rfl ?_
        refine mi_iinc dc_Dr_writeBadAround_45 2 rfl (by decide) rfl ?_
        refine mw_goto (tgt := 4) dc_Dr_writeBadAround_48 (by decide) ?_
        refine mw_pick [0, 1, 3] rfl ?_
        have e : wb_f ea pa bd (s + 1) = (va_up (wb_f ea pa bd s).1 (wb_f ea pa bd s).2 (pa (ea s / 2)), (wb_f ea pa bd s).2 + 1) := if_pos (Decidable.not_not.mp (fun q => h032 (bo_0.mpr q)))
        have k2 := ih (s + 1) (by omega) (by omega)
        rw [e] at k2
        exact k2
theorem ev_writeBadAround {G : mm_G} {d : Nat} {cs : mm_Sh} {I : Nat → Nat → Int32} {J : Nat → Nat → Int64} {F : Nat → Nat → Option Nat} {V : Nat → Nat → Value} {n : Nat} {ea so pa : Nat → Nat} {bd : Nat → Bool} (hV : dr_V V) (he : dr_e I n ea so) (hp : dr_p I n pa) (hb : dr_b I n bd) (hn : n ≤ 6) (hP : V 24 3 = .int (iI ((2 * n + 2 : Nat) : Int))) : mE G mt_Dr_writeBadAround d 0 0 [.ref 24] (wd_S ++ cs, I, J, F, V) (fun o h1 => o = .inl (some (.int (iI ((wb_f ea pa bd (2 * n + 2)).2 : Nat)))) ∧ h1 = (wd_S ++ cs, va_up I 33 (nn (I 33) (wb_f ea pa bd (2 * n + 2)).2 (wb_f ea pa bd (2 * n + 2)).1), J, F, V)) := by
  refine mE_intro (by decide) (fun k h q => nomatch q.1) (Nat.le_of_ble_eq_true rfl) ?_
  show mW G mt_Dr_writeBadAround d 0 0 0 [(0, .ref 24)] [] (wd_S ++ cs, I, J, F, V) _
  refine mi_const dc_Dr_writeBadAround_0 ?_
  refine mw_istore_n dc_Dr_writeBadAround_1 rfl (by decide) rfl ?_
  refine mi_const dc_Dr_writeBadAround_2 ?_
  refine mw_istore_n dc_Dr_writeBadAround_3 rfl (by decide) rfl ?_
  have k := lp_wba (G := G) (d := d) (bc := 0) (bs := 0) (cs := cs) (I := I) (J := J) (F := F) (g := I 33) (X := fun o h1 => o = .inl (some (.int (iI ((wb_f ea pa bd (2 * n + 2)).2 : Nat)))) ∧ h1 = (wd_S ++ cs, va_up I 33 (nn (I 33) (wb_f ea pa bd (2 * n + 2)).2 (wb_f ea pa bd (2 * n + 2)).1), J, F, V)) hV he hp hb hn hP ⟨rfl, rfl⟩ (2 * n + 3) 0 (by omega) (by omega)
  rw [show (wb_f ea pa bd 0).2 = 0 from rfl, nn_0, up_id] at k
  exact k
theorem lp_run {G : mm_G} {d bc bs : Nat} {cs : mm_Sh} {I : Nat → Nat → Int32} {J : Nat → Nat → Int64} {F : Nat → Nat → Option Nat} {V : Nat → Nat → Value} {X : mm_X} {k c : Nat} {f : Nat → Nat} (hV : dr_V V) (hf : ∀ j, j < c → I 33 j = iI (f j) ∧ f j < 14) (hc : c ≤ 14) (hk : k < 14) (hx : X (.inl (some (.int (iI (ct (re_p f c k) c : Nat))))) (wd_S ++ cs, I, J, F, V)) :
    ∀ (m a : Nat), c - a < m → a ≤ c → mW G mt_Dr_countRunEnds d bc bs 5 [(4, .int (iI a)), (3, .int (iI (ct (re_p f c k) a : Nat))), (0, .ref 24), (1, .int (iI k)), (2, .int (iI c))] [] (wd_S ++ cs, I, J, F, V) X := by
  intro m
  induction m with
  | zero => intro a h1 _; exact absurd h1 (Nat.not_lt_zero _)
  | succ m ih =>
    intro a h1 h2
    have hb := ct_le (re_p f c k) a
    refine mw_iload dc_Dr_countRunEnds_5 0 rfl ?_
    refine mw_iload_n dc_Dr_countRunEnds_7 rfl 4 rfl ?_
    refine mi_icmp_ge (tgt := 60) dc_Dr_countRunEnds_8 (by decide) (iB_mk (by omega) (by omega)) (iB_mk (by omega) (by omega)) (fun hh => ?_) (fun hh => ?_)
    · have e : a = c := by omega
      subst e
      refine mw_iload_n dc_Dr_countRunEnds_60 rfl 1 rfl ?_
      exact mw_iret dc_Dr_countRunEnds_61 rfl rfl hx
    · have ha : a < c := by omega
      obtain ⟨q1, q2⟩ := hf a ha
      obtain ⟨p1, p2⟩ := hf 0 (by omega)
      refine mw_iload dc_Dr_countRunEnds_11 0 rfl ?_
      refine mi_const dc_Dr_countRunEnds_13 ?_
      refine mi_iadd dc_Dr_countRunEnds_14 ?_
      refine mw_iload_n dc_Dr_countRunEnds_15 rfl 4 rfl ?_
      refine mi_icmp_ge (tgt := 26) dc_Dr_countRunEnds_16 (by decide) (iB_mk (by omega) (by omega)) (iB_mk (by omega) (by omega)) (fun h016 => ?_) (fun h016 => ?_)
      · refine mi_const dc_Dr_countRunEnds_26 ?_
        refine mw_istore dc_Dr_countRunEnds_27 (by decide) rfl ?_
        refine mw_aload_n dc_Dr_countRunEnds_29 rfl 3 rfl ?_
        refine mi_get (ci := 3) (k := 10) dc_Dr_countRunEnds_30 rfl wi_Dr rfl rfl (by decide) fl_Dr_37 hV.2.2.2.2.2.2.2.2 ?_
        refine mw_iload dc_Dr_countRunEnds_33 1 rfl ?_
        refine mi_iald dc_Dr_countRunEnds_35 rfl ⟨by omega, by omega, by decide⟩ (v := iI (f a)) (by rw [Int.toNat_natCast]; exact q1) ?_
        refine mw_iload_n dc_Dr_countRunEnds_36 rfl 4 rfl ?_
        refine mi_icmp_ne (tgt := 54) dc_Dr_countRunEnds_37 (by decide) (iB_mk (by omega) (by omega)) (iB_mk (by omega) (by omega)) (fun h137 => ?_) (fun h137 => ?_)
        · refine mi_iinc dc_Dr_countRunEnds_54 1 rfl (by decide) rfl ?_
          refine mw_goto (tgt := 5) dc_Dr_countRunEnds_57 (by decide) ?_
          refine mw_pick [0, 2, 3, 4, 5] rfl ?_
          have n1 : re_p f c k a = (f a == k && !(f 0 == k)) := by unfold re_p; rw [if_neg (show ¬ a + 1 < c by omega)]
          have k2 := ih (a + 1) (by omega) (by omega)
          rw [ct_f (by rw [n1, beq_false_of_ne (show f a ≠ k by omega), Bool.false_and]; exact Bool.false_ne_true)] at k2
          exact k2
        · refine mw_aload_n dc_Dr_countRunEnds_40 rfl 3 rfl ?_
          refine mi_get (ci := 3) (k := 10) dc_Dr_countRunEnds_41 rfl wi_Dr rfl rfl (by decide) fl_Dr_37 hV.2.2.2.2.2.2.2.2 ?_
          refine mw_iload dc_Dr_countRunEnds_44 0 rfl ?_
          refine mi_iald dc_Dr_countRunEnds_46 rfl ⟨by omega, by omega, by decide⟩ (v := iI (f 0)) (by exact p1) ?_
          refine mw_iload_n dc_Dr_countRunEnds_47 rfl 4 rfl ?_
          refine mi_icmp_eq (tgt := 54) dc_Dr_countRunEnds_48 (by decide) (iB_mk (by omega) (by omega)) (iB_mk (by omega) (by omega)) (fun h248 => ?_) (fun h248 => ?_)
          · refine mi_iinc dc_Dr_countRunEnds_54 1 rfl (by decide) rfl ?_
            refine mw_goto (tgt := 5) dc_Dr_countRunEnds_57 (by decide) ?_
            refine mw_pick [0, 2, 3, 4, 5] rfl ?_
            have n1 : re_p f c k a = (f a == k && !(f 0 == k)) := by unfold re_p; rw [if_neg (show ¬ a + 1 < c by omega)]
            have k2 := ih (a + 1) (by omega) (by omega)
            rw [ct_f (by rw [n1, (beq_iff_eq).mpr (show f 0 = k by omega)]; simp)] at k2
            exact k2
          · refine mi_iinc dc_Dr_countRunEnds_51 2 rfl (by decide) rfl ?_
            refine mi_iinc dc_Dr_countRunEnds_54 2 rfl (by decide) rfl ?_
            refine mw_goto (tgt := 5) dc_Dr_countRunEnds_57 (by decide) ?_
            refine mw_pick [0, 1, 3, 4, 5] rfl ?_
            have n1 : re_p f c k a = (f a == k && !(f 0 == k)) := by unfold re_p; rw [if_neg (show ¬ a + 1 < c by omega)]
            have k2 := ih (a + 1) (by omega) (by omega)
            rw [ct_t (by rw [n1, (beq_iff_eq).mpr (show f a = k by omega), beq_false_of_ne (show f 0 ≠ k by omega)]; rfl)] at k2
            exact k2
      · refine mw_iload dc_Dr_countRunEnds_19 0 rfl ?_
        refine mi_const dc_Dr_countRunEnds_21 ?_
        refine mi_iadd dc_Dr_countRunEnds_22 ?_
        refine mw_goto (tgt := 27) dc_Dr_countRunEnds_23 (by decide) ?_
        refine mw_istore dc_Dr_countRunEnds_27 (by decide) rfl ?_
        refine mw_aload_n dc_Dr_countRunEnds_29 rfl 3 rfl ?_
        refine mi_get (ci := 3) (k := 10) dc_Dr_countRunEnds_30 rfl wi_Dr rfl rfl (by decide) fl_Dr_37 hV.2.2.2.2.2.2.2.2 ?_
        refine mw_iload dc_Dr_countRunEnds_33 1 rfl ?_
        refine mi_iald dc_Dr_countRunEnds_35 rfl ⟨by omega, by omega, by decide⟩ (v := iI (f a)) (by rw [Int.toNat_natCast]; exact q1) ?_
        refine mw_iload_n dc_Dr_countRunEnds_36 rfl 4 rfl ?_
        refine mi_icmp_ne (tgt := 54) dc_Dr_countRunEnds_37 (by decide) (iB_mk (by omega) (by omega)) (iB_mk (by omega) (by omega)) (fun h137 => ?_) (fun h137 => ?_)
        · refine mi_iinc dc_Dr_countRunEnds_54 1 rfl (by decide) rfl ?_
          refine mw_goto (tgt := 5) dc_Dr_countRunEnds_57 (by decide) ?_
          refine mw_pick [0, 2, 3, 4, 5] rfl ?_
          have n2 := (hf (a + 1) (by omega)).2
          have n1 : re_p f c k a = (f a == k && !(f (a + 1) == k)) := by unfold re_p; rw [if_pos (show a + 1 < c by omega)]
          have k2 := ih (a + 1) (by omega) (by omega)
          rw [ct_f (by rw [n1, beq_false_of_ne (show f a ≠ k by omega), Bool.false_and]; exact Bool.false_ne_true)] at k2
          exact k2
        · refine mw_aload_n dc_Dr_countRunEnds_40 rfl 3 rfl ?_
          refine mi_get (ci := 3) (k := 10) dc_Dr_countRunEnds_41 rfl wi_Dr rfl rfl (by decide) fl_Dr_37 hV.2.2.2.2.2.2.2.2 ?_
          refine mw_iload dc_Dr_countRunEnds_44 0 rfl ?_
          refine mi_iald dc_Dr_countRunEnds_46 rfl ⟨by omega, by omega, by decide⟩ (v := iI (f (a + 1))) (by rw [show ((a : Int) + 1).toNat = a + 1 by omega]; exact (hf (a + 1) (by omega)).1) ?_
          refine mw_iload_n dc_Dr_countRunEnds_47 rfl 4 rfl ?_
          have n3 := (hf (a + 1) (by omega)).2
          refine mi_icmp_eq (tgt := 54) dc_Dr_countRunEnds_48 (by decide) (iB_mk (by omega) (by omega)) (iB_mk (by omega) (by omega)) (fun h248 => ?_) (fun h248 => ?_)
          · refine mi_iinc dc_Dr_countRunEnds_54 1 rfl (by decide) rfl ?_
            refine mw_goto (tgt := 5) dc_Dr_countRunEnds_57 (by decide) ?_
            refine mw_pick [0, 2, 3, 4, 5] rfl ?_
            have n2 := (hf (a + 1) (by omega)).2
            have n1 : re_p f c k a = (f a == k && !(f (a + 1) == k)) := by unfold re_p; rw [if_pos (show a + 1 < c by omega)]
            have k2 := ih (a + 1) (by omega) (by omega)
            rw [ct_f (by rw [n1, (beq_iff_eq).mpr (show f (a + 1) = k by omega)]; simp)] at k2
            exact k2
          · refine mi_iinc dc_Dr_countRunEnds_51 2 rfl (by decide) rfl ?_
            refine mi_iinc dc_Dr_countRunEnds_54 2 rfl (by decide) rfl ?_
            refine mw_goto (tgt := 5) dc_Dr_countRunEnds_57 (by decide) ?_
            refine mw_pick [0, 1, 3, 4, 5] rfl ?_
            have n2 := (hf (a + 1) (by omega)).2
            have n1 : re_p f c k a = (f a == k && !(f (a + 1) == k)) := by unfold re_p; rw [if_pos (show a + 1 < c by omega)]
            have k2 := ih (a + 1) (by omega) (by omega)
            rw [ct_t (by rw [n1, (beq_iff_eq).mpr (show f a = k by omega), beq_false_of_ne (show f (a + 1) ≠ k by omega)]; rfl)] at k2
            exact k2
theorem ev_countRunEnds {G : mm_G} {d : Nat} {cs : mm_Sh} {I : Nat → Nat → Int32} {J : Nat → Nat → Int64} {F : Nat → Nat → Option Nat} {V : Nat → Nat → Value} {k c : Nat} {f : Nat → Nat} (hV : dr_V V) (hf : ∀ j, j < c → I 33 j = iI (f j) ∧ f j < 14) (hc : c ≤ 14) (hk : k < 14) : mE G mt_Dr_countRunEnds d 0 0 [.ref 24, .int (iI k), .int (iI c)] (wd_S ++ cs, I, J, F, V) (fun o h1 => o = .inl (some (.int (iI (ct (re_p f c k) c : Nat)))) ∧ h1 = (wd_S ++ cs, I, J, F, V)) := by
  refine mE_intro (by decide) (fun k h q => nomatch q.1) (Nat.le_of_ble_eq_true rfl) ?_
  show mW G mt_Dr_countRunEnds d 0 0 0 [(0, .ref 24), (1, .int (iI k)), (2, .int (iI c))] [] (wd_S ++ cs, I, J, F, V) _
  refine mi_const dc_Dr_countRunEnds_0 ?_
  refine mw_istore_n dc_Dr_countRunEnds_1 rfl (by decide) rfl ?_
  refine mi_const dc_Dr_countRunEnds_2 ?_
  refine mw_istore dc_Dr_countRunEnds_3 (by decide) rfl ?_
  refine mw_pick [0, 1, 2, 3, 4] rfl ?_
  exact lp_run hV hf hc hk ⟨rfl, rfl⟩ (c + 1) 0 (by omega) (by omega)
theorem lp_hur {G : mm_G} {d bc bs : Nat} {cs : mm_Sh} {I : Nat → Nat → Int32} {J : Nat → Nat → Int64} {F : Nat → Nat → Option Nat} {V : Nat → Nat → Value} {X : mm_X} {n c : Nat} {f : Nat → Nat} {bd : Nat → Bool} (hV : dr_V V) (hb : dr_b I n bd) (hf : ∀ j, j < c → I 33 j = iI (f j) ∧ f j < 14) (hc : c ≤ 14) (hn : n ≤ 6) (hL : V 24 2 = .int (iI ((n + 1 : Nat) : Int))) (hx : X (.inl (some (.int (iI (ct (hu_p bd f c) (n + 1) : Nat))))) (wd_S ++ cs, I, J, F, V)) :
    ∀ (m k : Nat), n + 1 - k < m → k ≤ n + 1 → mW G mt_Dr_countHurdles (d + 1) bc bs 9 [(3, .int (iI k)), (2, .int (iI (ct (hu_p bd f c) k : Nat))), (1, .int (iI c)), (0, .ref 24)] [] (wd_S ++ cs, I, J, F, V) X := by
  intro m
  induction m with
  | zero => intro k h1 _; exact absurd h1 (Nat.not_lt_zero _)
  | succ m ih =>
    intro k h1 h2
    have hb2 := ct_le (hu_p bd f c) k
    have hb3 := ct_le (re_p f c k) c
    refine mw_iload_n dc_Dr_countHurdles_9 rfl 0 rfl ?_
    refine mw_aload_n dc_Dr_countHurdles_10 rfl 3 rfl ?_
    refine mi_get (ci := 3) (k := 2) dc_Dr_countHurdles_11 rfl wi_Dr rfl rfl (by decide) fl_Dr_40 hL ?_
    refine mi_icmp_ge (tgt := 45) dc_Dr_countHurdles_14 (by decide) (iB_mk (by omega) (by omega)) (iB_mk (by omega) (by omega)) (fun hh => ?_) (fun hh => ?_)
    · have e : k = n + 1 := by omega
      subst e
      refine mw_iload_n dc_Dr_countHurdles_45 rfl 1 rfl ?_
      exact mw_iret dc_Dr_countHurdles_46 rfl rfl hx
    · have hk : k ≤ n := by omega
      have q1 := hb k hk
      refine mw_aload_n dc_Dr_countHurdles_17 rfl 3 rfl ?_
      refine mi_get (ci := 3) (k := 9) dc_Dr_countHurdles_18 rfl wi_Dr rfl rfl (by decide) fl_Dr_34 hV.2.2.2.2.2.2.2.1 ?_
      refine mw_iload_n dc_Dr_countHurdles_21 rfl 0 rfl ?_
      refine mi_zald dc_Dr_countHurdles_22 rfl ⟨by omega, by omega, by decide⟩ (v := bo (bd k = true)) (by rw [Int.toNat_natCast]; exact q1) ?_
      refine mw_if_eq (tgt := 39) dc_Dr_countHurdles_23 (by decide) (fun h023 => ?_) (fun h023 => ?_)
      · refine mi_iinc dc_Dr_countHurdles_39 0 rfl (by decide) rfl ?_
        refine mw_goto (tgt := 9) dc_Dr_countHurdles_42 (by decide) ?_
        refine mw_pick [0, 1, 2, 3] rfl ?_
        have k2 := ih (k + 1) (by omega) (by omega)
        rw [ct_f (P := hu_p bd f c) (fun q => bo_0.mp h023 (Bool.and_eq_true_iff.mp q).1)] at k2
        exact k2
      · refine mw_aload_n dc_Dr_countHurdles_26 rfl 3 rfl ?_
        refine mw_iload_n dc_Dr_countHurdles_27 rfl 0 rfl ?_
        refine mw_iload_n dc_Dr_countHurdles_28 rfl 2 rfl ?_
        refine mz_V2 (M2 := mt_Dr_countRunEnds) dc_Dr_countHurdles_29 ml_Dr_91 rfl rfl ny_Dr_countRunEnds (by decide) (Nat.le_of_ble_eq_true rfl) (ev_countRunEnds hV hf hc (by omega)) (fun v h1 hY => ?_)
        obtain ⟨hv, rfl⟩ := hY
        cases hv
        refine mi_const dc_Dr_countHurdles_32 ?_
        refine mi_icmp_gt (tgt := 39) dc_Dr_countHurdles_33 (by decide) (iB_mk (by omega) (by omega)) (iB_mk (by omega) (by omega)) (fun h133 => ?_) (fun h133 => ?_)
        · refine mi_iinc dc_Dr_countHurdles_39 0 rfl (by decide) rfl ?_
          refine mw_goto (tgt := 9) dc_Dr_countHurdles_42 (by decide) ?_
          refine mw_pick [0, 1, 2, 3] rfl ?_
          have k2 := ih (k + 1) (by omega) (by omega)
          rw [ct_f (P := hu_p bd f c) (fun q => absurd (of_decide_eq_true (Bool.and_eq_true_iff.mp q).2) (by omega))] at k2
          exact k2
        · refine mi_iinc dc_Dr_countHurdles_36 1 rfl (by decide) rfl ?_
          refine mi_iinc dc_Dr_countHurdles_39 1 rfl (by decide) rfl ?_
          refine mw_goto (tgt := 9) dc_Dr_countHurdles_42 (by decide) ?_
          refine mw_pick [0, 1, 2, 3] rfl ?_
          have k2 := ih (k + 1) (by omega) (by omega)
          rw [ct_t (P := hu_p bd f c) (Bool.and_eq_true_iff.mpr ⟨Decidable.not_not.mp (fun q => h023 (bo_0.mpr q)), decide_eq_true (by omega)⟩)] at k2
          exact k2
theorem ev_countHurdles {G : mm_G} {d : Nat} {cs : mm_Sh} {I : Nat → Nat → Int32} {J : Nat → Nat → Int64} {F : Nat → Nat → Option Nat} {V : Nat → Nat → Value} {n : Nat} {ea so pa : Nat → Nat} {bd : Nat → Bool} (hV : dr_V V) (he : dr_e I n ea so) (hp : dr_p I n pa) (hb : dr_b I n bd) (hn : n ≤ 6) (hL : V 24 2 = .int (iI ((n + 1 : Nat) : Int))) (hP : V 24 3 = .int (iI ((2 * n + 2 : Nat) : Int))) : mE G mt_Dr_countHurdles (d + 1) 0 0 [.ref 24] (wd_S ++ cs, I, J, F, V) (fun o h1 => o = .inl (some (.int (iI (ct (hu_p bd (wb_f ea pa bd (2 * n + 2)).1 (wb_f ea pa bd (2 * n + 2)).2) (n + 1) : Nat)))) ∧ h1 = (wd_S ++ cs, va_up I 33 (nn (I 33) (wb_f ea pa bd (2 * n + 2)).2 (wb_f ea pa bd (2 * n + 2)).1), J, F, V)) := by
  refine mE_intro (by decide) (fun k h q => nomatch q.1) (Nat.le_of_ble_eq_true rfl) ?_
  show mW G mt_Dr_countHurdles (d + 1) 0 0 0 [(0, .ref 24)] [] (wd_S ++ cs, I, J, F, V) _
  have hc := wb_le ea pa bd (2 * n + 2)
  have hv9 := wb_v (bd := bd) (n := n) (fun k hk => (hp k hk).2) (fun s hs => (he s hs).2.2.1) (2 * n + 2) (Nat.le_refl _)
  refine mw_aload_n dc_Dr_countHurdles_0 rfl 0 rfl ?_
  refine mz_V0 (M2 := mt_Dr_writeBadAround) dc_Dr_countHurdles_1 ml_Dr_87 rfl rfl ny_Dr_writeBadAround (by decide) (Nat.le_of_ble_eq_true rfl) (ev_writeBadAround hV he hp hb hn hP) (fun v h1 hY => ?_)
  obtain ⟨hv, rfl⟩ := hY
  cases hv
  refine mw_istore_n dc_Dr_countHurdles_4 rfl (by decide) rfl ?_
  refine mi_const dc_Dr_countHurdles_5 ?_
  refine mw_istore_n dc_Dr_countHurdles_6 rfl (by decide) rfl ?_
  refine mi_const dc_Dr_countHurdles_7 ?_
  refine mw_istore_n dc_Dr_countHurdles_8 rfl (by decide) rfl ?_
  refine mw_pick [0, 1, 2, 3] rfl ?_
  refine lp_hur (I := va_up I 33 (nn (I 33) (wb_f ea pa bd (2 * n + 2)).2 (wb_f ea pa bd (2 * n + 2)).1)) hV hb (fun j hj => ⟨?_, ?_⟩) (by omega) hn hL ⟨rfl, rfl⟩ (n + 2) 0 (by omega) (by omega)
  · rw [va_up_self, nn_a hj]
  · have := hv9 j
    omega
/-- the fewest reversals: lines less cycles, and hurdles -/
theorem ev_fewest {G : mm_G} {d : Nat} {cs : mm_Sh} {I : Nat → Nat → Int32} {J : Nat → Nat → Int64} {F : Nat → Nat → Option Nat} {V : Nat → Nat → Value} {n : Nat} {ea so pa : Nat → Nat} {bd : Nat → Bool} (hV : dr_V V) (he : dr_e I n ea so) (hp : dr_p I n pa) (hb : dr_b I n bd) (hn : n ≤ 6) (hL : V 24 2 = .int (iI ((n + 1 : Nat) : Int))) (hP : V 24 3 = .int (iI ((2 * n + 2 : Nat) : Int))) : mE G mt_Dr_fewestReversals (d + 2) 0 0 [.ref 24] (wd_S ++ cs, I, J, F, V) (fun o h1 => o = .inl (some (.int (iI (((n + 1 : Nat) : Int) - ((cc_f ea so n (2 * n + 2)).2 : Nat) + (ct (hu_p bd (wb_f ea pa bd (2 * n + 2)).1 (wb_f ea pa bd (2 * n + 2)).2) (n + 1) : Nat))))) ∧ h1 = (wd_S ++ cs, va_up (va_up I 30 (nb (I 30) (2 * n + 2) (cc_f ea so n (2 * n + 2)).1)) 33 (nn (I 33) (wb_f ea pa bd (2 * n + 2)).2 (wb_f ea pa bd (2 * n + 2)).1), J, F, V)) := by
  refine mE_intro (by decide) (fun k h q => nomatch q.1) (Nat.le_of_ble_eq_true rfl) ?_
  show mW G mt_Dr_fewestReversals (d + 2) 0 0 0 [(0, .ref 24)] [] (wd_S ++ cs, I, J, F, V) _
  refine mw_aload_n dc_Dr_fewestReversals_0 rfl 0 rfl ?_
  refine mi_get (ci := 3) (k := 2) dc_Dr_fewestReversals_1 rfl wi_Dr rfl rfl (by decide) fl_Dr_40 hL ?_
  refine mw_aload_n dc_Dr_fewestReversals_4 rfl 0 rfl ?_
  refine mz_V0 (M2 := mt_Dr_countCycles) dc_Dr_fewestReversals_5 ml_Dr_94 rfl rfl ny_Dr_countCycles (by decide) (Nat.le_of_ble_eq_true rfl) (ev_countCycles hV he hn hL hP) (fun v h1 hY => ?_)
  obtain ⟨hv, rfl⟩ := hY
  cases hv
  refine mi_isub dc_Dr_fewestReversals_8 ?_
  refine mw_aload_n dc_Dr_fewestReversals_9 rfl 0 rfl ?_
  refine mz_V0 (M2 := mt_Dr_countHurdles) dc_Dr_fewestReversals_10 ml_Dr_97 rfl rfl ny_Dr_countHurdles (by decide) (Nat.le_of_ble_eq_true rfl) (ev_countHurdles (I := va_up I 30 (nb (I 30) (2 * n + 2) (cc_f ea so n (2 * n + 2)).1)) hV he hp hb hn hL hP) (fun v h1 hY => ?_)
  obtain ⟨hv, rfl⟩ := hY
  cases hv
  refine mi_iadd dc_Dr_fewestReversals_13 ?_
  exact mw_iret dc_Dr_fewestReversals_14 rfl rfl ⟨rfl, rfl⟩
