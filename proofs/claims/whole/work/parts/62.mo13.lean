/-! the reference's findParts, first half: the least names spread -/
def fp_x (so : Nat → Nat) (j k : Nat) : Prop := ((lo_f so j < so (2 * k) ∧ so (2 * k) < hi_f so j) ↔ (lo_f so j < so (2 * k + 1) ∧ so (2 * k + 1) < hi_f so j))
def fp_d (so : Nat → Nat) (j k : Nat) : Decidable (fp_x so j k) := by unfold fp_x; exact inferInstance
def fp_m (p : Nat → Nat) (j k : Nat) : Nat → Nat := va_up (va_up p j (min (p k) (p j))) k (min (p k) (p j))
def fp_s (so : Nat → Nat) (j k : Nat) (p : Nat → Nat) : Nat → Nat := @ite _ (fp_x so j k) (fp_d so j k) p (fp_m p j k)
def fp_i (so : Nat → Nat) (j : Nat) (p : Nat → Nat) : Nat → Nat → Nat
  | 0 => p
  | k + 1 => fp_s so j k (fp_i so j p k)
def fp_j (so : Nat → Nat) (n : Nat) (p : Nat → Nat) : Nat → Nat → Nat
  | 0 => p
  | j + 1 => fp_i so j (fp_j so n p j) (n + 1)
def fp_r (so : Nat → Nat) (n : Nat) : Nat → Nat → Nat
  | 0 => fun k => k
  | r + 1 => fp_j so n (fp_r so n r) (n + 1)
theorem fp_m_le {n j k : Nat} {p : Nat → Nat} (hp : ∀ k, k ≤ n → p k ≤ n) (hj : j ≤ n) (hk : k ≤ n) : ∀ i, i ≤ n → fp_m p j k i ≤ n := by
  intro i hi
  have e1 := hp j hj
  have e2 := hp k hk
  unfold fp_m
  by_cases e : i = k
  · subst e; rw [va_up_self]; omega
  · rw [va_up_ne _ _ e]
    by_cases e' : i = j
    · subst e'; rw [va_up_self]; omega
    · rw [va_up_ne _ _ e']; exact hp i hi
theorem fp_s_le {so : Nat → Nat} {n j k : Nat} {p : Nat → Nat} (hp : ∀ k, k ≤ n → p k ≤ n) (hj : j ≤ n) (hk : k ≤ n) : ∀ i, i ≤ n → fp_s so j k p i ≤ n := by
  unfold fp_s
  split
  · exact hp
  · exact fp_m_le hp hj hk
theorem fp_i_le {so : Nat → Nat} {n j : Nat} {p : Nat → Nat} (hp : ∀ k, k ≤ n → p k ≤ n) (hj : j ≤ n) : ∀ k, k ≤ n + 1 → ∀ i, i ≤ n → fp_i so j p k i ≤ n := by
  intro k
  induction k with
  | zero => intro _; exact hp
  | succ k ih => intro hk; exact fp_s_le (ih (by omega)) hj (by omega)
theorem fp_j_le {so : Nat → Nat} {n : Nat} {p : Nat → Nat} (hp : ∀ k, k ≤ n → p k ≤ n) : ∀ j, j ≤ n + 1 → ∀ i, i ≤ n → fp_j so n p j i ≤ n := by
  intro j
  induction j with
  | zero => intro _; exact hp
  | succ j ih => intro hj; exact fp_i_le (ih (by omega)) (by omega) _ (Nat.le_refl _)
theorem fp_r_le {so : Nat → Nat} {n : Nat} : ∀ r, ∀ i, i ≤ n → fp_r so n r i ≤ n := by
  intro r
  induction r with
  | zero => intro i hi; exact hi
  | succ r ih => exact fp_j_le ih _ (Nat.le_refl _)
theorem lp_fp1 {G : mm_G} {d bc bs : Nat} {cs : mm_Sh} {I : Nat → Nat → Int32} {J : Nat → Nat → Int64} {F : Nat → Nat → Option Nat} {V : Nat → Nat → Value} {X : mm_X} {n j r : Nat} {g : Nat → Int32} {p : Nat → Nat} {so : Nat → Nat} (hM : mo_V V) (hg : V 39 1 = .int (iI n)) (hs : mo_s I n so) (hn : n ≤ 6) (hp : ∀ k, k ≤ n → p k ≤ n) (hj : j ≤ n) (hx : mW G mt_Mo_findParts (d + 2) bc bs 138 [(2, .int (iI j)), (1, .int (iI r)), (0, .ref 39)] [] (wd_S ++ cs, va_up I 54 (nn g (n + 1) (fp_i so j p (n + 1))), J, F, V) X) :
    ∀ (m k : Nat), n + 1 - k < m → k ≤ n + 1 → mW G mt_Mo_findParts (d + 2) bc bs 45 [(3, .int (iI k)), (2, .int (iI j)), (1, .int (iI r)), (0, .ref 39)] [] (wd_S ++ cs, va_up I 54 (nn g (n + 1) (fp_i so j p k)), J, F, V) X := by
  intro m
  induction m with
  | zero => intro k h1 _; exact absurd h1 (Nat.not_lt_zero _)
  | succ m ih =>
    intro k h1 h2
    refine mw_iload_n dc_Mo_findParts_45 rfl 0 rfl ?_
    refine mw_aload_n dc_Mo_findParts_46 rfl 3 rfl ?_
    refine mi_get (ci := 5) (k := 1) dc_Mo_findParts_47 rfl wi_Mo rfl rfl (by decide) fl_Mo_7 hg ?_
    refine mi_icmp_gt (tgt := 138) dc_Mo_findParts_50 (by decide) (iB_mk (by omega) (by omega)) (iB_mk (by omega) (by omega)) (fun hh => ?_) (fun hh => ?_)
    · have e : k = n + 1 := by omega
      subst e
      refine mw_pick [1, 2, 3] rfl ?_
      exact hx
    · have hk : k ≤ n := by omega
      have hs9 : mo_s (va_up I 54 (nn g (n + 1) (fp_i so j p k))) n so := fun e he => by rw [va_up_ne _ _ (by decide)]; exact hs e he
      obtain ⟨s1, s2⟩ := hs (2 * k) (by omega)
      obtain ⟨s3, s4⟩ := hs (2 * k + 1) (by omega)
      have b1 := fp_i_le (so := so) hp hj k (by omega) k hk
      have b2 := fp_i_le (so := so) hp hj k (by omega) j hj
      refine mw_aload_n dc_Mo_findParts_53 rfl 3 rfl ?_
      refine mw_aload_n dc_Mo_findParts_54 rfl 3 rfl ?_
      refine mi_get (ci := 5) (k := 20) dc_Mo_findParts_55 rfl wi_Mo rfl rfl (by decide) fl_Mo_57 hM.2.2.2.2.2.2.2.2.2.2.2.2.2.1 ?_
      refine mi_const dc_Mo_findParts_58 ?_
      refine mw_iload_n dc_Mo_findParts_59 rfl 0 rfl ?_
      refine mi_imul dc_Mo_findParts_60 ?_
      refine mi_iald dc_Mo_findParts_61 rfl ⟨by omega, by omega, by decide⟩ (v := iI (so (2 * k))) (by rw [show (2 * (k : Int)).toNat = 2 * k by omega, va_up_ne _ _ (by decide)]; exact s1) ?_
      refine mw_iload_n dc_Mo_findParts_62 rfl 1 rfl ?_
      refine mz_V2 (M2 := mt_Mo_isBetween) dc_Mo_findParts_63 ml_Mo_135 rfl rfl ny_Mo_isBetween (by decide) (Nat.le_of_ble_eq_true rfl) (ev_isBetween hM hs9 hj hn (by omega)) (fun v h1 hY => ?_)
      obtain ⟨hv, rfl⟩ := hY
      cases hv
      refine mw_aload_n dc_Mo_findParts_66 rfl 3 rfl ?_
      refine mw_aload_n dc_Mo_findParts_67 rfl 3 rfl ?_
      refine mi_get (ci := 5) (k := 20) dc_Mo_findParts_68 rfl wi_Mo rfl rfl (by decide) fl_Mo_57 hM.2.2.2.2.2.2.2.2.2.2.2.2.2.1 ?_
      refine mi_const dc_Mo_findParts_71 ?_
      refine mw_iload_n dc_Mo_findParts_72 rfl 0 rfl ?_
      refine mi_imul dc_Mo_findParts_73 ?_
      refine mi_const dc_Mo_findParts_74 ?_
      refine mi_iadd dc_Mo_findParts_75 ?_
      refine mi_iald dc_Mo_findParts_76 rfl ⟨by omega, by omega, by decide⟩ (v := iI (so (2 * k + 1))) (by rw [show (2 * (k : Int) + 1).toNat = 2 * k + 1 by omega, va_up_ne _ _ (by decide)]; exact s3) ?_
      refine mw_iload_n dc_Mo_findParts_77 rfl 1 rfl ?_
      refine mz_V2 (M2 := mt_Mo_isBetween) dc_Mo_findParts_78 ml_Mo_135 rfl rfl ny_Mo_isBetween (by decide) (Nat.le_of_ble_eq_true rfl) (ev_isBetween hM hs9 hj hn (by omega)) (fun v h1 hY => ?_)
      obtain ⟨hv, rfl⟩ := hY
      cases hv
      refine mw_icmp_eq (tgt := 132) dc_Mo_findParts_81 (by decide) (fun h081 => ?_) (fun h081 => ?_)
      · refine mi_iinc dc_Mo_findParts_132 0 rfl (by decide) rfl ?_
        refine mw_goto (tgt := 45) dc_Mo_findParts_135 (by decide) ?_
        refine mw_pick [0, 1, 2, 3] rfl ?_
        have e : fp_i so j p (k + 1) = fp_i so j p k := if_pos (show fp_x so j k from bo_iff h081)
        have k2 := ih (k + 1) (by omega) (by omega)
        rw [e] at k2
        exact k2
      · refine mw_aload_n dc_Mo_findParts_84 rfl 3 rfl ?_
        refine mi_get (ci := 5) (k := 21) dc_Mo_findParts_85 rfl wi_Mo rfl rfl (by decide) fl_Mo_60 hM.2.2.2.2.2.2.2.2.2.2.2.2.2.2.1 ?_
        refine mw_iload_n dc_Mo_findParts_88 rfl 1 rfl ?_
        refine mw_aload_n dc_Mo_findParts_89 rfl 3 rfl ?_
        refine mi_get (ci := 5) (k := 21) dc_Mo_findParts_90 rfl wi_Mo rfl rfl (by decide) fl_Mo_60 hM.2.2.2.2.2.2.2.2.2.2.2.2.2.2.1 ?_
        refine mw_iload_n dc_Mo_findParts_93 rfl 0 rfl ?_
        refine mi_iald dc_Mo_findParts_94 rfl ⟨by omega, by omega, by decide⟩ (v := iI ((fp_i so j p k) k : Nat)) (by rw [Int.toNat_natCast, va_up_self, nn_a (by omega)]) ?_
        refine mw_aload_n dc_Mo_findParts_95 rfl 3 rfl ?_
        refine mi_get (ci := 5) (k := 21) dc_Mo_findParts_96 rfl wi_Mo rfl rfl (by decide) fl_Mo_60 hM.2.2.2.2.2.2.2.2.2.2.2.2.2.2.1 ?_
        refine mw_iload_n dc_Mo_findParts_99 rfl 1 rfl ?_
        refine mi_iald dc_Mo_findParts_100 rfl ⟨by omega, by omega, by decide⟩ (v := iI ((fp_i so j p k) j : Nat)) (by rw [Int.toNat_natCast, va_up_self, nn_a (by omega)]) ?_
        refine mi_icmp_ge (tgt := 113) dc_Mo_findParts_101 (by decide) (iB_mk (by omega) (by omega)) (iB_mk (by omega) (by omega)) (fun h1101 => ?_) (fun h1101 => ?_)
        · refine mw_aload_n dc_Mo_findParts_113 rfl 3 rfl ?_
          refine mi_get (ci := 5) (k := 21) dc_Mo_findParts_114 rfl wi_Mo rfl rfl (by decide) fl_Mo_60 hM.2.2.2.2.2.2.2.2.2.2.2.2.2.2.1 ?_
          refine mw_iload_n dc_Mo_findParts_117 rfl 1 rfl ?_
          refine mi_iald dc_Mo_findParts_118 rfl ⟨by omega, by omega, by decide⟩ (v := iI ((fp_i so j p k) j : Nat)) (by rw [Int.toNat_natCast, va_up_self, nn_a (by omega)]) ?_
          refine mi_iast dc_Mo_findParts_119 rfl ⟨by omega, by omega, by decide⟩ (I' := va_up I 54 (nn g (n + 1) (va_up (fp_i so j p k) j (min ((fp_i so j p k) k) ((fp_i so j p k) j))))) (by rw [va_up_self, up_up, Int.toNat_natCast, show (((fp_i so j p k) j : Nat) : Int) = ((min ((fp_i so j p k) k) ((fp_i so j p k) j) : Nat) : Int) by omega, nn_u _ (by omega)]) ?_
          refine mw_aload_n dc_Mo_findParts_120 rfl 3 rfl ?_
          refine mi_get (ci := 5) (k := 21) dc_Mo_findParts_121 rfl wi_Mo rfl rfl (by decide) fl_Mo_60 hM.2.2.2.2.2.2.2.2.2.2.2.2.2.2.1 ?_
          refine mw_iload_n dc_Mo_findParts_124 rfl 0 rfl ?_
          refine mw_aload_n dc_Mo_findParts_125 rfl 3 rfl ?_
          refine mi_get (ci := 5) (k := 21) dc_Mo_findParts_126 rfl wi_Mo rfl rfl (by decide) fl_Mo_60 hM.2.2.2.2.2.2.2.2.2.2.2.2.2.2.1 ?_
          refine mw_iload_n dc_Mo_findParts_129 rfl 1 rfl ?_
          refine mi_iald dc_Mo_findParts_130 rfl ⟨by omega, by omega, by decide⟩ (v := iI ((min ((fp_i so j p k) k) ((fp_i so j p k) j) : Nat) : Int)) (by rw [Int.toNat_natCast, va_up_self, nn_a (by omega), va_up_self]) ?_
          refine mi_iast dc_Mo_findParts_131 rfl ⟨by omega, by omega, by decide⟩ (I' := va_up I 54 (nn g (n + 1) (fp_m (fp_i so j p k) j k))) (by rw [va_up_self, up_up, Int.toNat_natCast, nn_u _ (by omega)]; rfl) ?_
          refine mi_iinc dc_Mo_findParts_132 0 rfl (by decide) rfl ?_
          refine mw_goto (tgt := 45) dc_Mo_findParts_135 (by decide) ?_
          refine mw_pick [0, 1, 2, 3] rfl ?_
          have e : fp_i so j p (k + 1) = fp_m (fp_i so j p k) j k := if_neg (show ¬ fp_x so j k from fun q => h081 (bo_c q))
          have k2 := ih (k + 1) (by omega) (by omega)
          rw [e] at k2
          exact k2
        · refine mw_aload_n dc_Mo_findParts_104 rfl 3 rfl ?_
          refine mi_get (ci := 5) (k := 21) dc_Mo_findParts_105 rfl wi_Mo rfl rfl (by decide) fl_Mo_60 hM.2.2.2.2.2.2.2.2.2.2.2.2.2.2.1 ?_
          refine mw_iload_n dc_Mo_findParts_108 rfl 0 rfl ?_
          refine mi_iald dc_Mo_findParts_109 rfl ⟨by omega, by omega, by decide⟩ (v := iI ((fp_i so j p k) k : Nat)) (by rw [Int.toNat_natCast, va_up_self, nn_a (by omega)]) ?_
          refine mw_goto (tgt := 119) dc_Mo_findParts_110 (by decide) ?_
          refine mi_iast dc_Mo_findParts_119 rfl ⟨by omega, by omega, by decide⟩ (I' := va_up I 54 (nn g (n + 1) (va_up (fp_i so j p k) j (min ((fp_i so j p k) k) ((fp_i so j p k) j))))) (by rw [va_up_self, up_up, Int.toNat_natCast, show (((fp_i so j p k) k : Nat) : Int) = ((min ((fp_i so j p k) k) ((fp_i so j p k) j) : Nat) : Int) by omega, nn_u _ (by omega)]) ?_
          refine mw_aload_n dc_Mo_findParts_120 rfl 3 rfl ?_
          refine mi_get (ci := 5) (k := 21) dc_Mo_findParts_121 rfl wi_Mo rfl rfl (by decide) fl_Mo_60 hM.2.2.2.2.2.2.2.2.2.2.2.2.2.2.1 ?_
          refine mw_iload_n dc_Mo_findParts_124 rfl 0 rfl ?_
          refine mw_aload_n dc_Mo_findParts_125 rfl 3 rfl ?_
          refine mi_get (ci := 5) (k := 21) dc_Mo_findParts_126 rfl wi_Mo rfl rfl (by decide) fl_Mo_60 hM.2.2.2.2.2.2.2.2.2.2.2.2.2.2.1 ?_
          refine mw_iload_n dc_Mo_findParts_129 rfl 1 rfl ?_
          refine mi_iald dc_Mo_findParts_130 rfl ⟨by omega, by omega, by decide⟩ (v := iI ((min ((fp_i so j p k) k) ((fp_i so j p k) j) : Nat) : Int)) (by rw [Int.toNat_natCast, va_up_self, nn_a (by omega), va_up_self]) ?_
          refine mi_iast dc_Mo_findParts_131 rfl ⟨by omega, by omega, by decide⟩ (I' := va_up I 54 (nn g (n + 1) (fp_m (fp_i so j p k) j k))) (by rw [va_up_self, up_up, Int.toNat_natCast, nn_u _ (by omega)]; rfl) ?_
          refine mi_iinc dc_Mo_findParts_132 0 rfl (by decide) rfl ?_
          refine mw_goto (tgt := 45) dc_Mo_findParts_135 (by decide) ?_
          refine mw_pick [0, 1, 2, 3] rfl ?_
          have e : fp_i so j p (k + 1) = fp_m (fp_i so j p k) j k := if_neg (show ¬ fp_x so j k from fun q => h081 (bo_c q))
          have k2 := ih (k + 1) (by omega) (by omega)
          rw [e] at k2
          exact k2
theorem lp_fp2 {G : mm_G} {d bc bs : Nat} {cs : mm_Sh} {I : Nat → Nat → Int32} {J : Nat → Nat → Int64} {F : Nat → Nat → Option Nat} {V : Nat → Nat → Value} {X : mm_X} {n r : Nat} {g : Nat → Int32} {p : Nat → Nat} {so : Nat → Nat} (hM : mo_V V) (hg : V 39 1 = .int (iI n)) (hs : mo_s I n so) (hn : n ≤ 6) (hp : ∀ k, k ≤ n → p k ≤ n) (hx : mW G mt_Mo_findParts (d + 2) bc bs 144 [(1, .int (iI r)), (0, .ref 39)] [] (wd_S ++ cs, va_up I 54 (nn g (n + 1) (fp_j so n p (n + 1))), J, F, V) X) :
    ∀ (m j : Nat), n + 1 - j < m → j ≤ n + 1 → mW G mt_Mo_findParts (d + 2) bc bs 35 [(2, .int (iI j)), (1, .int (iI r)), (0, .ref 39)] [] (wd_S ++ cs, va_up I 54 (nn g (n + 1) (fp_j so n p j)), J, F, V) X := by
  intro m
  induction m with
  | zero => intro j h1 _; exact absurd h1 (Nat.not_lt_zero _)
  | succ m ih =>
    intro j h1 h2
    refine mw_iload_n dc_Mo_findParts_35 rfl 0 rfl ?_
    refine mw_aload_n dc_Mo_findParts_36 rfl 2 rfl ?_
    refine mi_get (ci := 5) (k := 1) dc_Mo_findParts_37 rfl wi_Mo rfl rfl (by decide) fl_Mo_7 hg ?_
    refine mi_icmp_gt (tgt := 144) dc_Mo_findParts_40 (by decide) (iB_mk (by omega) (by omega)) (iB_mk (by omega) (by omega)) (fun hh => ?_) (fun hh => ?_)
    · have e : j = n + 1 := by omega
      subst e
      refine mw_pick [1, 2] rfl ?_
      exact hx
    · have hj : j ≤ n := by omega
      refine mi_const dc_Mo_findParts_43 ?_
      refine mw_istore_n dc_Mo_findParts_44 rfl (by decide) rfl ?_
      refine mw_pick [0, 1, 2, 3] rfl ?_
      refine lp_fp1 (I := I) hM hg hs hn (fp_j_le hp j (by omega)) hj ?_ (n + 2) 0 (by omega) (by omega)
      refine mi_iinc dc_Mo_findParts_138 0 rfl (by decide) rfl ?_
      refine mw_goto (tgt := 35) dc_Mo_findParts_141 (by decide) ?_
      refine mw_pick [0, 1, 2] rfl ?_
      exact ih (j + 1) (by omega) (by omega)
theorem lp_fp3 {G : mm_G} {d bc bs : Nat} {cs : mm_Sh} {I : Nat → Nat → Int32} {J : Nat → Nat → Int64} {F : Nat → Nat → Option Nat} {V : Nat → Nat → Value} {X : mm_X} {n : Nat} {g : Nat → Int32} {so : Nat → Nat} (hM : mo_V V) (hg : V 39 1 = .int (iI n)) (hs : mo_s I n so) (hn : n ≤ 6) (hx : mW G mt_Mo_findParts (d + 2) bc bs 150 [(0, .ref 39)] [] (wd_S ++ cs, va_up I 54 (nn g (n + 1) (fp_r so n (n + 1))), J, F, V) X) :
    ∀ (m r : Nat), n + 1 - r < m → r ≤ n + 1 → mW G mt_Mo_findParts (d + 2) bc bs 25 [(1, .int (iI r)), (0, .ref 39)] [] (wd_S ++ cs, va_up I 54 (nn g (n + 1) (fp_r so n r)), J, F, V) X := by
  intro m
  induction m with
  | zero => intro r h1 _; exact absurd h1 (Nat.not_lt_zero _)
  | succ m ih =>
    intro r h1 h2
    refine mw_iload_n dc_Mo_findParts_25 rfl 0 rfl ?_
    refine mw_aload_n dc_Mo_findParts_26 rfl 1 rfl ?_
    refine mi_get (ci := 5) (k := 1) dc_Mo_findParts_27 rfl wi_Mo rfl rfl (by decide) fl_Mo_7 hg ?_
    refine mi_icmp_gt (tgt := 150) dc_Mo_findParts_30 (by decide) (iB_mk (by omega) (by omega)) (iB_mk (by omega) (by omega)) (fun hh => ?_) (fun hh => ?_)
    · have e : r = n + 1 := by omega
      subst e
      refine mw_pick [1] rfl ?_
      exact hx
    · refine mi_const dc_Mo_findParts_33 ?_
      refine mw_istore_n dc_Mo_findParts_34 rfl (by decide) rfl ?_
      refine mw_pick [0, 1, 2] rfl ?_
      refine lp_fp2 (I := I) hM hg hs hn (fp_r_le r) ?_ (n + 2) 0 (by omega) (by omega)
      refine mi_iinc dc_Mo_findParts_144 0 rfl (by decide) rfl ?_
      refine mw_goto (tgt := 25) dc_Mo_findParts_147 (by decide) ?_
      refine mw_pick [0, 1] rfl ?_
      exact ih (r + 1) (by omega) (by omega)
theorem lp_fp0 {G : mm_G} {d bc bs : Nat} {cs : mm_Sh} {I : Nat → Nat → Int32} {J : Nat → Nat → Int64} {F : Nat → Nat → Option Nat} {V : Nat → Nat → Value} {X : mm_X} {n : Nat} {so : Nat → Nat} (hM : mo_V V) (hg : V 39 1 = .int (iI n)) (hs : mo_s I n so) (hn : n ≤ 6) (hx : mW G mt_Mo_findParts (d + 2) bc bs 150 [(0, .ref 39)] [] (wd_S ++ cs, va_up I 54 (nn (I 54) (n + 1) (fp_r so n (n + 1))), J, F, V) X) :
    ∀ (m k : Nat), n + 1 - k < m → k ≤ n + 1 → mW G mt_Mo_findParts (d + 2) bc bs 2 [(1, .int (iI k)), (0, .ref 39)] [] (wd_S ++ cs, va_up I 54 (nn (I 54) k (fun k => k)), J, F, V) X := by
  intro m
  induction m with
  | zero => intro k h1 _; exact absurd h1 (Nat.not_lt_zero _)
  | succ m ih =>
    intro k h1 h2
    refine mw_iload_n dc_Mo_findParts_2 rfl 0 rfl ?_
    refine mw_aload_n dc_Mo_findParts_3 rfl 1 rfl ?_
    refine mi_get (ci := 5) (k := 1) dc_Mo_findParts_4 rfl wi_Mo rfl rfl (by decide) fl_Mo_7 hg ?_
    refine mi_icmp_gt (tgt := 23) dc_Mo_findParts_7 (by decide) (iB_mk (by omega) (by omega)) (iB_mk (by omega) (by omega)) (fun hh => ?_) (fun hh => ?_)
    · have e : k = n + 1 := by omega
      subst e
      refine mi_const dc_Mo_findParts_23 ?_
      refine mw_istore_n dc_Mo_findParts_24 rfl (by decide) rfl ?_
      refine mw_pick [0, 1] rfl ?_
      exact lp_fp3 (I := I) hM hg hs hn hx (n + 2) 0 (by omega) (by omega)
    · refine mw_aload_n dc_Mo_findParts_10 rfl 1 rfl ?_
      refine mi_get (ci := 5) (k := 21) dc_Mo_findParts_11 rfl wi_Mo rfl rfl (by decide) fl_Mo_60 hM.2.2.2.2.2.2.2.2.2.2.2.2.2.2.1 ?_
      refine mw_iload_n dc_Mo_findParts_14 rfl 0 rfl ?_
      refine mw_iload_n dc_Mo_findParts_15 rfl 0 rfl ?_
      refine mi_iast dc_Mo_findParts_16 rfl ⟨by omega, by omega, by decide⟩ (I' := va_up I 54 (nn (I 54) (k + 1) (fun k => k))) (by rw [va_up_self, up_up, Int.toNat_natCast]; exact congrArg (va_up I 54) (nn_s (I 54) k (fun k => k))) ?_
      refine mi_iinc dc_Mo_findParts_17 0 rfl (by decide) rfl ?_
      refine mw_goto (tgt := 2) dc_Mo_findParts_20 (by decide) ?_
      refine mw_pick [0, 1] rfl ?_
      exact ih (k + 1) (by omega) (by omega)
