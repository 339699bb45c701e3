/-! the reference's hurdles -/
def mo_p (I : Nat → Nat → Int32) (n : Nat) (pa : Nat → Nat) : Prop := ∀ k, k ≤ n → I 54 k = iI (pa k) ∧ pa k ≤ n
def mo_b (I : Nat → Nat → Int32) (n : Nat) (bd : Nat → Bool) : Prop := ∀ k, k ≤ n → I 55 k = bo (bd k = true)
theorem md_nx {a c : Nat} (h : a < c) : (((a : Int) + 1) % (c : Int)).toNat = if a + 1 < c then a + 1 else 0 := by
  by_cases e : a + 1 < c
  · rw [if_pos e, Int.emod_eq_of_lt (by omega) (by omega)]; omega
  · rw [if_neg e, show (a : Int) + 1 = c by omega, Int.emod_self]; rfl
theorem lp_mh1 {G : mm_G} {d bc bs : Nat} {cs : mm_Sh} {I : Nat → Nat → Int32} {J : Nat → Nat → Int64} {F : Nat → Nat → Option Nat} {V : Nat → Nat → Value} {X : mm_X} {n : Nat} {g : Nat → Int32} {ea so pa : Nat → Nat} {bd : Nat → Bool} (hM : mo_V V) (hg : V 39 1 = .int (iI n)) (he : mo_e I n ea so) (hp : mo_p I n pa) (hb : mo_b I n bd) (hn : n ≤ 6) (hx : mW G mt_Mo_hurdles d bc bs 55 [(1, .int (iI ((wb_f ea pa bd (2 * n + 2)).2 : Nat))), (0, .ref 39)] [] (wd_S ++ cs, va_up I 57 (nn g (wb_f ea pa bd (2 * n + 2)).2 (wb_f ea pa bd (2 * n + 2)).1), J, F, V) X) :
    ∀ (m s : Nat), 2 * n + 2 - s < m → s ≤ 2 * n + 2 → mW G mt_Mo_hurdles d bc bs 4 [(2, .int (iI s)), (1, .int (iI ((wb_f ea pa bd s).2 : Nat))), (0, .ref 39)] [] (wd_S ++ cs, va_up I 57 (nn g (wb_f ea pa bd s).2 (wb_f ea pa bd s).1), J, F, V) X := by
  intro m
  induction m with
  | zero => intro s h1 _; exact absurd h1 (Nat.not_lt_zero _)
  | succ m ih =>
    intro s h1 h2
    have hc := wb_le ea pa bd s
    refine mw_iload_n dc_Mo_hurdles_4 rfl 0 rfl ?_
    refine mi_const dc_Mo_hurdles_5 ?_
    refine mw_aload_n dc_Mo_hurdles_6 rfl 2 rfl ?_
    refine mi_get (ci := 5) (k := 1) dc_Mo_hurdles_7 rfl wi_Mo rfl rfl (by decide) fl_Mo_7 hg ?_
    refine mi_imul dc_Mo_hurdles_10 ?_
    refine mi_const dc_Mo_hurdles_11 ?_
    refine mi_iadd dc_Mo_hurdles_12 ?_
    refine mi_icmp_gt (tgt := 55) dc_Mo_hurdles_13 (by decide) (iB_mk (by omega) (by omega)) (iB_mk (by omega) (by omega)) (fun hh => ?_) (fun hh => ?_)
    · have e : s = 2 * n + 2 := by omega
      subst e
      refine mw_pick [1, 2] rfl ?_
      exact hx
    · have hs : s < 2 * n + 2 := by omega
      obtain ⟨q1, q2, q3, q4⟩ := he s hs
      obtain ⟨q5, q6⟩ := hp (ea s / 2) (by omega)
      have q7 := hb (pa (ea s / 2)) q6
      refine mw_aload_n dc_Mo_hurdles_16 rfl 2 rfl ?_
      refine mi_get (ci := 5) (k := 21) dc_Mo_hurdles_17 rfl wi_Mo rfl rfl (by decide) fl_Mo_60 hM.2.2.2.2.2.2.2.2.2.2.2.2.2.2.1 ?_
      refine mw_aload_n dc_Mo_hurdles_20 rfl 2 rfl ?_
      refine mi_get (ci := 5) (k := 19) dc_Mo_hurdles_21 rfl wi_Mo rfl rfl (by decide) fl_Mo_54 hM.2.2.2.2.2.2.2.2.2.2.2.2.1 ?_
      refine mw_iload_n dc_Mo_hurdles_24 rfl 0 rfl ?_
      refine mi_iald dc_Mo_hurdles_25 rfl ⟨by omega, by omega, by decide⟩ (v := iI (ea s)) (by rw [Int.toNat_natCast, va_up_ne _ _ (by decide)]; exact q1) ?_
      refine mi_const dc_Mo_hurdles_26 ?_
      refine mi_idiv dc_Mo_hurdles_27 ⟨by omega, by omega, by omega, by omega⟩ ?_
      refine mi_iald dc_Mo_hurdles_28 rfl ⟨by omega, by omega, by decide⟩ (v := iI (pa (ea s / 2))) (by rw [show ((ea s : Int) / 2).toNat = ea s / 2 by omega, va_up_ne _ _ (by decide)]; exact q5) ?_
      refine mw_istore_n dc_Mo_hurdles_29 rfl (by decide) rfl ?_
      refine mw_aload_n dc_Mo_hurdles_30 rfl 3 rfl ?_
      refine mi_get (ci := 5) (k := 22) dc_Mo_hurdles_31 rfl wi_Mo rfl rfl (by decide) fl_Mo_63 hM.2.2.2.2.2.2.2.2.2.2.2.2.2.2.2.1 ?_
      refine mw_iload_n dc_Mo_hurdles_34 rfl 0 rfl ?_
      refine mi_zald dc_Mo_hurdles_35 rfl ⟨by omega, by omega, by decide⟩ (v := bo (bd (pa (ea s / 2)) = true)) (by rw [Int.toNat_natCast, va_up_ne _ _ (by decide)]; exact q7) ?_
      refine mw_if_eq (tgt := 49) dc_Mo_hurdles_36 (by decide) (fun h036 => ?_) (fun h036 => ?_)
      · refine mi_iinc dc_Mo_hurdles_49 1 rfl (by decide) rfl ?_
        refine mw_goto (tgt := 4) dc_Mo_hurdles_52 (by decide) ?_
        refine mw_pick [0, 2, 3] rfl ?_
        have e : wb_f ea pa bd (s + 1) = wb_f ea pa bd s := if_neg (bo_0.mp h036)
        have k2 := ih (s + 1) (by omega) (by omega)
        rw [e] at k2
        exact k2
      · refine mw_aload_n dc_Mo_hurdles_39 rfl 3 rfl ?_
        refine mi_get (ci := 5) (k := 24) dc_Mo_hurdles_40 rfl wi_Mo rfl rfl (by decide) fl_Mo_69 hM.2.2.2.2.2.2.2.2.2.2.2.2.2.2.2.2.2 ?_
        refine mw_iload_n dc_Mo_hurdles_43 rfl 2 rfl ?_
        refine mw_iload_n dc_Mo_hurdles_44 rfl 0 rfl ?_
        refine mi_iast dc_Mo_hurdles_45 rfl ⟨by omega, by omega, by decide⟩ (I' := va_up I 57 (nn g ((wb_f ea pa bd s).2 + 1) (va_up (wb_f ea pa bd s).1 (wb_f ea pa bd s).2 (pa (ea s / 2))))) (by rw [va_up_self, up_up, Int.toNat_natCast, nn_g]) ?_
        refine mi_iinc dc_Mo_hurdles_46 2 rfl (by decide) rfl ?_
        refine mi_iinc dc_Mo_hurdles_49 2 rfl (by decide) rfl ?_
        refine mw_goto (tgt := 4) dc_Mo_hurdles_52 (by decide) ?_
        refine mw_pick [0, 1, 3] rfl ?_
        have e : wb_f ea pa bd (s + 1) = (va_up (wb_f ea pa bd s).1 (wb_f ea pa bd s).2 (pa (ea s / 2)), (wb_f ea pa bd s).2 + 1) := if_pos (Decidable.not_not.mp (fun q => h036 (bo_0.mpr q)))
        have k2 := ih (s + 1) (by omega) (by omega)
        rw [e] at k2
        exact k2
theorem lp_mh2 {G : mm_G} {d bc bs : Nat} {cs : mm_Sh} {I : Nat → Nat → Int32} {J : Nat → Nat → Int64} {F : Nat → Nat → Option Nat} {V : Nat → Nat → Value} {X : mm_X} {k c : Nat} {h : Int} {f : Nat → Nat} (hM : mo_V V) (hf : ∀ j, j < c → I 57 j = iI (f j) ∧ f j < 14) (hc : c ≤ 14) (hk : k < 14) (hx : mW G mt_Mo_hurdles d bc bs 122 [(4, .int (iI (ct (re_p f c k) c : Nat))), (3, .int (iI k)), (2, .int (iI h)), (1, .int (iI c)), (0, .ref 39)] [] (wd_S ++ cs, I, J, F, V) X) :
    ∀ (m a : Nat), c - a < m → a ≤ c → mW G mt_Mo_hurdles d bc bs 73 [(5, .int (iI a)), (4, .int (iI (ct (re_p f c k) a : Nat))), (3, .int (iI k)), (2, .int (iI h)), (1, .int (iI c)), (0, .ref 39)] [] (wd_S ++ cs, I, J, F, V) X := by
  intro m
  induction m with
  | zero => intro a h1 _; exact absurd h1 (Nat.not_lt_zero _)
  | succ m ih =>
    intro a h1 h2
    have hb := ct_le (re_p f c k) a
    refine mw_iload dc_Mo_hurdles_73 0 rfl ?_
    refine mw_iload_n dc_Mo_hurdles_75 rfl 4 rfl ?_
    refine mi_icmp_ge (tgt := 122) dc_Mo_hurdles_76 (by decide) (iB_mk (by omega) (by omega)) (iB_mk (by omega) (by omega)) (fun hh => ?_) (fun hh => ?_)
    · have e : a = c := by omega
      subst e
      refine mw_pick [1, 2, 3, 4, 5] rfl ?_
      exact hx
    · have ha : a < c := by omega
      obtain ⟨q1, q2⟩ := hf a ha
      obtain ⟨p1, p2⟩ := hf (if a + 1 < c then a + 1 else 0) (by split <;> omega)
      have n1 : re_p f c k a = (f a == k && !(f (if a + 1 < c then a + 1 else 0) == k)) := rfl
      refine mw_aload_n dc_Mo_hurdles_79 rfl 5 rfl ?_
      refine mi_get (ci := 5) (k := 24) dc_Mo_hurdles_80 rfl wi_Mo rfl rfl (by decide) fl_Mo_69 hM.2.2.2.2.2.2.2.2.2.2.2.2.2.2.2.2.2 ?_
      refine mw_iload dc_Mo_hurdles_83 0 rfl ?_
      refine mi_iald dc_Mo_hurdles_85 rfl ⟨by omega, by omega, by decide⟩ (v := iI (f a)) (by rw [Int.toNat_natCast]; exact q1) ?_
      refine mw_iload_n dc_Mo_hurdles_86 rfl 2 rfl ?_
      refine mi_icmp_ne (tgt := 112) dc_Mo_hurdles_87 (by decide) (iB_mk (by omega) (by omega)) (iB_mk (by omega) (by omega)) (fun h087 => ?_) (fun h087 => ?_)
      · refine mw_iload dc_Mo_hurdles_112 1 rfl ?_
        refine mw_istore dc_Mo_hurdles_114 (by decide) rfl ?_
        refine mi_iinc dc_Mo_hurdles_116 1 rfl (by decide) rfl ?_
        refine mw_goto (tgt := 73) dc_Mo_hurdles_119 (by decide) ?_
        refine mw_pick [0, 1, 2, 3, 4, 5] rfl ?_
        have k2 := ih (a + 1) (by omega) (by omega)
        rw [ct_f (by rw [n1, beq_false_of_ne (show f a ≠ k by omega), Bool.false_and]; exact Bool.false_ne_true)] at k2
        exact k2
      · refine mw_aload_n dc_Mo_hurdles_90 rfl 5 rfl ?_
        refine mi_get (ci := 5) (k := 24) dc_Mo_hurdles_91 rfl wi_Mo rfl rfl (by decide) fl_Mo_69 hM.2.2.2.2.2.2.2.2.2.2.2.2.2.2.2.2.2 ?_
        refine mw_iload dc_Mo_hurdles_94 0 rfl ?_
        refine mi_const dc_Mo_hurdles_96 ?_
        refine mi_iadd dc_Mo_hurdles_97 ?_
        refine mw_iload_n dc_Mo_hurdles_98 rfl 4 rfl ?_
        refine mi_irem dc_Mo_hurdles_99 ⟨by omega, by omega, by omega, by omega⟩ ?_
        refine mi_iald dc_Mo_hurdles_100 rfl ⟨Int.emod_nonneg _ (by omega), by have := Int.emod_lt_of_pos ((a : Int) + 1) (show (0 : Int) < c by omega); omega, by decide⟩ (v := iI (f (if a + 1 < c then a + 1 else 0))) (by rw [md_nx ha]; exact p1) ?_
        refine mw_iload_n dc_Mo_hurdles_101 rfl 2 rfl ?_
        refine mi_icmp_eq (tgt := 112) dc_Mo_hurdles_102 (by decide) (iB_mk (by omega) (by omega)) (iB_mk (by omega) (by omega)) (fun h1102 => ?_) (fun h1102 => ?_)
        · refine mw_iload dc_Mo_hurdles_112 1 rfl ?_
          refine mw_istore dc_Mo_hurdles_114 (by decide) rfl ?_
          refine mi_iinc dc_Mo_hurdles_116 1 rfl (by decide) rfl ?_
          refine mw_goto (tgt := 73) dc_Mo_hurdles_119 (by decide) ?_
          refine mw_pick [0, 1, 2, 3, 4, 5] rfl ?_
          have k2 := ih (a + 1) (by omega) (by omega)
          rw [ct_f (by rw [n1, (beq_iff_eq).mpr (show f (if a + 1 < c then a + 1 else 0) = k from Int.ofNat.inj h1102)]; simp)] at k2
          exact k2
        · refine mw_iload dc_Mo_hurdles_105 1 rfl ?_
          refine mi_const dc_Mo_hurdles_107 ?_
          refine mi_iadd dc_Mo_hurdles_108 ?_
          refine mw_goto (tgt := 114) dc_Mo_hurdles_109 (by decide) ?_
          refine mw_istore dc_Mo_hurdles_114 (by decide) rfl ?_
          refine mi_iinc dc_Mo_hurdles_116 1 rfl (by decide) rfl ?_
          refine mw_goto (tgt := 73) dc_Mo_hurdles_119 (by decide) ?_
          refine mw_pick [0, 1, 2, 3, 4, 5] rfl ?_
          have k2 := ih (a + 1) (by omega) (by omega)
          rw [ct_t (by rw [n1, (beq_iff_eq).mpr (show f a = k by omega), beq_false_of_ne (show f (if a + 1 < c then a + 1 else 0) ≠ k from fun q => h1102 (congrArg Int.ofNat q))]; rfl)] at k2
          exact k2
theorem lp_mh3 {G : mm_G} {d bc bs : Nat} {cs : mm_Sh} {I : Nat → Nat → Int32} {J : Nat → Nat → Int64} {F : Nat → Nat → Option Nat} {V : Nat → Nat → Value} {X : mm_X} {n c : Nat} {bd : Nat → Bool} {f : Nat → Nat} (hM : mo_V V) (hf : ∀ j, j < c → I 57 j = iI (f j) ∧ f j < 14) (hc : c ≤ 14) (hg : V 39 1 = .int (iI n)) (hb : mo_b I n bd) (hn : n ≤ 6) (hx : X (.inl (some (.int (iI (ct (hu_p bd f c) (n + 1) : Nat))))) (wd_S ++ cs, I, J, F, V)) :
    ∀ (m k : Nat), n + 1 - k < m → k ≤ n + 1 → mW G mt_Mo_hurdles d bc bs 59 [(3, .int (iI k)), (2, .int (iI (ct (hu_p bd f c) k : Nat))), (1, .int (iI c)), (0, .ref 39)] [] (wd_S ++ cs, I, J, F, V) X := by
  intro m
  induction m with
  | zero => intro k h1 _; exact absurd h1 (Nat.not_lt_zero _)
  | succ m ih =>
    intro k h1 h2
    have hb2 := ct_le (hu_p bd f c) k
    have hb3 := ct_le (re_p f c k) c
    refine mw_iload_n dc_Mo_hurdles_59 rfl 0 rfl ?_
    refine mw_aload_n dc_Mo_hurdles_60 rfl 3 rfl ?_
    refine mi_get (ci := 5) (k := 1) dc_Mo_hurdles_61 rfl wi_Mo rfl rfl (by decide) fl_Mo_7 hg ?_
    refine mi_icmp_gt (tgt := 151) dc_Mo_hurdles_64 (by decide) (iB_mk (by omega) (by omega)) (iB_mk (by omega) (by omega)) (fun hh => ?_) (fun hh => ?_)
    · have e : k = n + 1 := by omega
      subst e
      refine mw_iload_n dc_Mo_hurdles_151 rfl 1 rfl ?_
      exact mw_iret dc_Mo_hurdles_152 rfl rfl hx
    · have hk : k ≤ n := by omega
      have q1 := hb k hk
      refine mi_const dc_Mo_hurdles_67 ?_
      refine mw_istore dc_Mo_hurdles_68 (by decide) rfl ?_
      refine mi_const dc_Mo_hurdles_70 ?_
      refine mw_istore dc_Mo_hurdles_71 (by decide) rfl ?_
      refine mw_pick [0, 1, 2, 3, 4, 5] rfl ?_
      refine lp_mh2 hM hf hc (by omega) ?_ (c + 1) 0 (by omega) (by omega)
      refine mw_aload_n dc_Mo_hurdles_122 rfl 4 rfl ?_
      refine mi_get (ci := 5) (k := 22) dc_Mo_hurdles_123 rfl wi_Mo rfl rfl (by decide) fl_Mo_63 hM.2.2.2.2.2.2.2.2.2.2.2.2.2.2.2.1 ?_
      refine mw_iload_n dc_Mo_hurdles_126 rfl 1 rfl ?_
      refine mi_zald dc_Mo_hurdles_127 rfl ⟨by omega, by omega, by decide⟩ (v := bo (bd k = true)) (by rw [Int.toNat_natCast]; exact q1) ?_
      refine mw_if_eq (tgt := 143) dc_Mo_hurdles_128 (by decide) (fun h0128 => ?_) (fun h0128 => ?_)
      · refine mw_iload_n dc_Mo_hurdles_143 rfl 2 rfl ?_
        refine mw_istore_n dc_Mo_hurdles_144 rfl (by decide) rfl ?_
        refine mi_iinc dc_Mo_hurdles_145 2 rfl (by decide) rfl ?_
        refine mw_goto (tgt := 59) dc_Mo_hurdles_148 (by decide) ?_
        refine mw_pick [0, 1, 3, 4] rfl ?_
        have k2 := ih (k + 1) (by omega) (by omega)
        rw [ct_f (P := hu_p bd f c) (fun q => bo_0.mp h0128 (Bool.and_eq_true_iff.mp q).1)] at k2
        exact k2
      · refine mw_iload dc_Mo_hurdles_131 0 rfl ?_
        refine mi_const dc_Mo_hurdles_133 ?_
        refine mi_icmp_ge (tgt := 143) dc_Mo_hurdles_134 (by decide) (iB_mk (by omega) (by omega)) (iB_mk (by omega) (by omega)) (fun h1134 => ?_) (fun h1134 => ?_)
        · refine mw_iload_n dc_Mo_hurdles_143 rfl 2 rfl ?_
          refine mw_istore_n dc_Mo_hurdles_144 rfl (by decide) rfl ?_
          refine mi_iinc dc_Mo_hurdles_145 2 rfl (by decide) rfl ?_
          refine mw_goto (tgt := 59) dc_Mo_hurdles_148 (by decide) ?_
          refine mw_pick [0, 1, 3, 4] rfl ?_
          have k2 := ih (k + 1) (by omega) (by omega)
          rw [ct_f (P := hu_p bd f c) (fun q => absurd (of_decide_eq_true (Bool.and_eq_true_iff.mp q).2) (by omega))] at k2
          exact k2
        · refine mw_iload_n dc_Mo_hurdles_137 rfl 2 rfl ?_
          refine mi_const dc_Mo_hurdles_138 ?_
          refine mi_iadd dc_Mo_hurdles_139 ?_
          refine mw_goto (tgt := 144) dc_Mo_hurdles_140 (by decide) ?_
          refine mw_istore_n dc_Mo_hurdles_144 rfl (by decide) rfl ?_
          refine mi_iinc dc_Mo_hurdles_145 2 rfl (by decide) rfl ?_
          refine mw_goto (tgt := 59) dc_Mo_hurdles_148 (by decide) ?_
          refine mw_pick [0, 1, 3, 4] rfl ?_
          have k2 := ih (k + 1) (by omega) (by omega)
          rw [ct_t (P := hu_p bd f c) (Bool.and_eq_true_iff.mpr ⟨Decidable.not_not.mp (fun q => h0128 (bo_0.mpr q)), decide_eq_true (by omega)⟩)] at k2
          exact k2
theorem ev_mohurdles {G : mm_G} {d : Nat} {cs : mm_Sh} {I : Nat → Nat → Int32} {J : Nat → Nat → Int64} {F : Nat → Nat → Option Nat} {V : Nat → Nat → Value} {n : Nat} {ea so pa : Nat → Nat} {bd : Nat → Bool} (hM : mo_V V) (hg : V 39 1 = .int (iI n)) (he : mo_e I n ea so) (hp : mo_p I n pa) (hb : mo_b I n bd) (hn : n ≤ 6) : mE G mt_Mo_hurdles d 0 0 [.ref 39] (wd_S ++ cs, I, J, F, V) (fun o h1 => o = .inl (some (.int (iI (ct (hu_p bd (wb_f ea pa bd (2 * n + 2)).1 (wb_f ea pa bd (2 * n + 2)).2) (n + 1) : Nat)))) ∧ h1 = (wd_S ++ cs, va_up I 57 (nn (I 57) (wb_f ea pa bd (2 * n + 2)).2 (wb_f ea pa bd (2 * n + 2)).1), J, F, V)) := by
  refine mE_intro (by decide) (fun k h q => nomatch q.1) (Nat.le_of_ble_eq_true rfl) ?_
  show mW G mt_Mo_hurdles d 0 0 0 [(0, .ref 39)] [] (wd_S ++ cs, I, J, F, V) _
  have hc := wb_le ea pa bd (2 * n + 2)
  have hv9 := wb_v (bd := bd) (n := n) (fun k hk => (hp k hk).2) (fun s hs => (he s hs).2.2.1) (2 * n + 2) (Nat.le_refl _)
  refine mi_const dc_Mo_hurdles_0 ?_
  refine mw_istore_n dc_Mo_hurdles_1 rfl (by decide) rfl ?_
  refine mi_const dc_Mo_hurdles_2 ?_
  refine mw_istore_n dc_Mo_hurdles_3 rfl (by decide) rfl ?_
  refine mw_h (h' := (wd_S ++ cs, va_up I 57 (nn (I 57) (wb_f ea pa bd 0).2 (wb_f ea pa bd 0).1), J, F, V)) (by rw [show (wb_f ea pa bd 0).2 = 0 from rfl, nn_0, up_id]) ?_
  refine lp_mh1 (I := I) hM hg he hp hb hn ?_ (2 * n + 3) 0 (by omega) (by omega)
  refine mi_const dc_Mo_hurdles_55 ?_
  refine mw_istore_n dc_Mo_hurdles_56 rfl (by decide) rfl ?_
  refine mi_const dc_Mo_hurdles_57 ?_
  refine mw_istore_n dc_Mo_hurdles_58 rfl (by decide) rfl ?_
  refine mw_pick [0, 1, 2, 3] rfl ?_
  refine lp_mh3 (I := va_up I 57 (nn (I 57) (wb_f ea pa bd (2 * n + 2)).2 (wb_f ea pa bd (2 * n + 2)).1)) hM (fun j hj => ⟨?_, ?_⟩) (by omega) hg hb hn ⟨rfl, rfl⟩ (n + 2) 0 (by omega) (by omega)
  · rw [va_up_self, nn_a hj]
  · have := hv9 j
    omega
