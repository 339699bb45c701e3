/-! the reference's isLess and median -/
def lxl (u v : Nat → Int) : Nat → Nat → Bool
  | 0, _ => false
  | r + 1, p => if u p = v p then lxl u v r (p + 1) else decide (u p < v p)
theorem lp_less {G : mm_G} {d bc bs : Nat} {cs : mm_Sh} {I : Nat → Nat → Int32} {J : Nat → Nat → Int64} {F : Nat → Nat → Option Nat} {V : Nat → Nat → Value} {X : mm_X} {n : Nat} {u v : Nat → Int} (hn : n ≤ 6) (hu : ∀ p, p < n → I 50 p = iI (u p) ∧ -100 ≤ u p ∧ u p ≤ 100) (hv : ∀ p, p < n → I 51 p = iI (v p) ∧ -100 ≤ v p ∧ v p ≤ 100) :
    ∀ (r p : Nat), p + r = n → X (.inl (some (.int (bo (lxl u v r p = true))))) (wd_S ++ cs, I, J, F, V) → mW G mt_Mo_isLess d bc bs 3 [(4, .int (iI (p : Nat))), (3, .int (iI n)), (2, .int (iI 0)), (1, .ref 51), (0, .ref 50)] [] (wd_S ++ cs, I, J, F, V) X := by
  intro r
  induction r with
  | zero =>
    intro p h1 hx
    refine mw_iload dc_Mo_isLess_3 0 rfl ?_
    refine mw_iload_n dc_Mo_isLess_5 rfl 1 rfl ?_
    refine mi_icmp_ge (tgt := 47) dc_Mo_isLess_6 (by decide) (iB_mk (by omega) (by omega)) (iB_mk (by omega) (by omega)) (fun hh => ?_) (fun hh => ?_)
    · refine mi_const dc_Mo_isLess_47 ?_
      rw [bo_f (show ¬ lxl u v 0 p = true from Bool.false_ne_true)] at hx
      exact mw_iret dc_Mo_isLess_48 rfl (by decide) hx
    · exact absurd hh (by omega)
  | succ r ih =>
    intro p h1 hx
    obtain ⟨u1, u2, u3⟩ := hu p (by omega)
    obtain ⟨v1, v2, v3⟩ := hv p (by omega)
    have e0 : lxl u v (r + 1) p = if u p = v p then lxl u v r (p + 1) else decide (u p < v p) := rfl
    refine mw_iload dc_Mo_isLess_3 0 rfl ?_
    refine mw_iload_n dc_Mo_isLess_5 rfl 1 rfl ?_
    refine mi_icmp_ge (tgt := 47) dc_Mo_isLess_6 (by decide) (iB_mk (by omega) (by omega)) (iB_mk (by omega) (by omega)) (fun hh => ?_) (fun hh => ?_)
    · exact absurd hh (by omega)
    · refine mw_aload_n dc_Mo_isLess_9 rfl 4 rfl ?_
      refine mw_iload dc_Mo_isLess_10 0 rfl ?_
      refine mi_iald dc_Mo_isLess_12 rfl ⟨by omega, by omega, by decide⟩ (v := iI (u p)) (by rw [Int.toNat_natCast]; exact u1) ?_
      refine mw_aload_n dc_Mo_isLess_13 rfl 3 rfl ?_
      refine mw_iload_n dc_Mo_isLess_14 rfl 2 rfl ?_
      refine mw_iload dc_Mo_isLess_15 0 rfl ?_
      refine mi_iadd dc_Mo_isLess_17 ?_
      refine mi_iald dc_Mo_isLess_18 rfl ⟨by omega, by omega, by decide⟩ (v := iI (v p)) (by rw [show ((0 : Int) + (p : Int)).toNat = p by omega]; exact v1) ?_
      refine mi_icmp_eq (tgt := 41) dc_Mo_isLess_19 (by decide) (iB_mk (by omega) (by omega)) (iB_mk (by omega) (by omega)) (fun h019 => ?_) (fun h019 => ?_)
      · refine mi_iinc dc_Mo_isLess_41 0 rfl (by decide) rfl ?_
        refine mw_goto (tgt := 3) dc_Mo_isLess_44 (by decide) ?_
        refine mw_pick [0, 1, 2, 3, 4] rfl ?_
        rw [e0, if_pos (by omega)] at hx
        exact ih (p + 1) (by omega) hx
      · refine mw_aload_n dc_Mo_isLess_22 rfl 4 rfl ?_
        refine mw_iload dc_Mo_isLess_23 0 rfl ?_
        refine mi_iald dc_Mo_isLess_25 rfl ⟨by omega, by omega, by decide⟩ (v := iI (u p)) (by rw [Int.toNat_natCast]; exact u1) ?_
        refine mw_aload_n dc_Mo_isLess_26 rfl 3 rfl ?_
        refine mw_iload_n dc_Mo_isLess_27 rfl 2 rfl ?_
        refine mw_iload dc_Mo_isLess_28 0 rfl ?_
        refine mi_iadd dc_Mo_isLess_30 ?_
        refine mi_iald dc_Mo_isLess_31 rfl ⟨by omega, by omega, by decide⟩ (v := iI (v p)) (by rw [show ((0 : Int) + (p : Int)).toNat = p by omega]; exact v1) ?_
        refine mi_icmp_ge (tgt := 39) dc_Mo_isLess_32 (by decide) (iB_mk (by omega) (by omega)) (iB_mk (by omega) (by omega)) (fun h132 => ?_) (fun h132 => ?_)
        · refine mi_const dc_Mo_isLess_39 ?_
          rw [e0, if_neg (by omega), bo_f (fun q => absurd (of_decide_eq_true q) (by omega))] at hx
          exact mw_iret dc_Mo_isLess_40 rfl (by decide) hx
        · refine mi_const dc_Mo_isLess_35 ?_
          refine mw_goto (tgt := 40) dc_Mo_isLess_36 (by decide) ?_
          rw [e0, if_neg (by omega), bo_t (decide_eq_true (by omega))] at hx
          exact mw_iret dc_Mo_isLess_40 rfl (by decide) hx
theorem ev_isLess {G : mm_G} {d : Nat} {cs : mm_Sh} {I : Nat → Nat → Int32} {J : Nat → Nat → Int64} {F : Nat → Nat → Option Nat} {V : Nat → Nat → Value} {n : Nat} {u v : Nat → Int} (hn : n ≤ 6) (hu : ∀ p, p < n → I 50 p = iI (u p) ∧ -100 ≤ u p ∧ u p ≤ 100) (hv : ∀ p, p < n → I 51 p = iI (v p) ∧ -100 ≤ v p ∧ v p ≤ 100) : mE G mt_Mo_isLess d 0 0 [.ref 50, .ref 51, .int (iI 0), .int (iI n)] (wd_S ++ cs, I, J, F, V) (fun o h1 => o = .inl (some (.int (bo (lxl u v n 0 = true)))) ∧ h1 = (wd_S ++ cs, I, J, F, V)) := by
  refine mE_intro (by decide) (fun k h q => nomatch q.1) (Nat.le_of_ble_eq_true rfl) ?_
  show mW G mt_Mo_isLess d 0 0 0 [(0, .ref 50), (1, .ref 51), (2, .int (iI 0)), (3, .int (iI n))] [] (wd_S ++ cs, I, J, F, V) _
  refine mi_const dc_Mo_isLess_0 ?_
  refine mw_istore dc_Mo_isLess_1 (by decide) rfl ?_
  refine mw_pick [0, 4, 3, 2, 1] rfl ?_
  exact lp_less hn hu hv n 0 (by omega) ⟨rfl, rfl⟩
def mb (n : Nat) (S : Nat → Int) : Nat → Int × (Nat → Int)
  | 0 => (99, fun _ => 0)
  | k + 1 => if S k < (mb n S k).1 ∨ (S k = (mb n S k).1 ∧ lxl (ur n k) (mb n S k).2 n 0 = true) then (S k, ur n k) else mb n S k
theorem mb_i {n : Nat} {S : Nat → Int} {N : Nat} (hn : n ≤ 6) (hN : N ≤ oc_f n) (hS : ∀ k, k < N → 0 ≤ S k ∧ S k ≤ 90) : ∀ k, k ≤ N → (0 < k → 0 ≤ (mb n S k).1 ∧ (mb n S k).1 ≤ 90 ∧ ∀ p, p < n → -100 ≤ (mb n S k).2 p ∧ (mb n S k).2 p ≤ 100) := fun k => by
  induction k with
  | zero => intro _ h; exact absurd h (Nat.not_lt_zero _)
  | succ k ih =>
    intro hk _
    have e0 : mb n S (k + 1) = if S k < (mb n S k).1 ∨ (S k = (mb n S k).1 ∧ lxl (ur n k) (mb n S k).2 n 0 = true) then (S k, ur n k) else mb n S k := rfl
    obtain ⟨s1, s2⟩ := hS k (by omega)
    by_cases c : S k < (mb n S k).1 ∨ (S k = (mb n S k).1 ∧ lxl (ur n k) (mb n S k).2 n 0 = true)
    · rw [e0, if_pos c]
      exact ⟨s1, s2, ur_b hn (by omega)⟩
    · rw [e0, if_neg c]
      by_cases k0 : k = 0
      · subst k0
        exact absurd (Or.inl (show S 0 < 99 by omega)) c
      · exact ih (by omega) (by omega)
def sm (n : Nat) (Dn : Nat → Nat → Nat) (yy : Nat → Nat → Nat → Int) (a b c : Nat) (k : Nat) : Int := (Dn n (rkn n (yy k a)) : Nat) + (Dn n (rkn n (yy k b)) : Nat) + (Dn n (rkn n (yy k c)) : Nat)
def md_R (n k : Nat) (z : Nat → Int) (I0 I : Nat → Nat → Int32) : Prop := (∀ a, a ≠ 49 → a ≠ 50 → a ≠ 51 → I a = I0 a) ∧ (0 < k → ∀ p, p < n → I 51 p = iI (z p))
theorem lp_mm1 {G : mm_G} {d bc bs : Nat} {cs : mm_Sh} {I : Nat → Nat → Int32} {J : Nat → Nat → Int64} {F : Nat → Nat → Option Nat} {V : Nat → Nat → Value} {X : mm_X} {n : Nat} {z : Nat → Int} {c1 c2 c3 c4 c5 : Int32} (hM : mo_V V) (hg : V 39 1 = .int (iI n)) (hn : n ≤ 6) (hz : ∀ p, p < n → I 50 p = iI (z p)) (hx : mW G mt_Mo_median (d + 4) bc bs 205 [(5, .int c5), (4, .int c4), (3, .int c3), (2, .int c2), (1, .int c1), (0, .ref 39)] [] (wd_S ++ cs, va_up I 51 (nr (I 51) 0 n z), J, F, V) X) :
    ∀ (m p : Nat), n - p < m → p ≤ n → mW G mt_Mo_median (d + 4) bc bs 176 [(7, .int (iI (p : Nat))), (5, .int c5), (4, .int c4), (3, .int c3), (2, .int c2), (1, .int c1), (0, .ref 39)] [] (wd_S ++ cs, va_up I 51 (nr (I 51) 0 p z), J, F, V) X := by
  intro m
  induction m with
  | zero => intro p h1 _; exact absurd h1 (Nat.not_lt_zero _)
  | succ m ih =>
    intro p h1 h2
    refine mw_iload dc_Mo_median_176 0 rfl ?_
    refine mw_aload_n dc_Mo_median_178 rfl 6 rfl ?_
    refine mi_get (ci := 5) (k := 1) dc_Mo_median_179 rfl wi_Mo rfl rfl (by decide) fl_Mo_7 hg ?_
    refine mi_icmp_ge (tgt := 205) dc_Mo_median_182 (by decide) (iB_mk (by omega) (by omega)) (iB_mk (by omega) (by omega)) (fun hh => ?_) (fun hh => ?_)
    · have e : p = n := by omega
      subst e
      refine mw_pick [1, 2, 3, 4, 5, 6] rfl ?_
      exact hx
    · refine mw_aload_n dc_Mo_median_185 rfl 6 rfl ?_
      refine mi_get (ci := 5) (k := 18) dc_Mo_median_186 rfl wi_Mo rfl rfl (by decide) fl_Mo_51 hM.2.2.2.2.2.2.2.2.2.2.2.1 ?_
      refine mw_iload dc_Mo_median_189 0 rfl ?_
      refine mw_aload_n dc_Mo_median_191 rfl 6 rfl ?_
      refine mi_get (ci := 5) (k := 17) dc_Mo_median_192 rfl wi_Mo rfl rfl (by decide) fl_Mo_48 hM.2.2.2.2.2.2.2.2.2.2.1 ?_
      refine mw_iload dc_Mo_median_195 0 rfl ?_
      refine mi_iald dc_Mo_median_197 rfl ⟨by omega, by omega, by decide⟩ (v := iI (z p)) (by rw [Int.toNat_natCast, va_up_ne _ _ (by decide)]; exact hz p (by omega)) ?_
      refine mi_iast dc_Mo_median_198 rfl ⟨by omega, by omega, by decide⟩ (I' := va_up I 51 (nr (I 51) 0 (p + 1) z)) (by rw [va_up_self, up_up, Int.toNat_natCast, nr_x rfl]) ?_
      refine mi_iinc dc_Mo_median_199 0 rfl (by decide) rfl ?_
      refine mw_goto (tgt := 176) dc_Mo_median_202 (by decide) ?_
      refine mw_pick [0, 1, 2, 3, 4, 5, 6] rfl ?_
      exact ih (p + 1) (by omega) (by omega)
theorem lp_mm2 {G : mm_G} {d bc bs : Nat} {cs : mm_Sh} {I : Nat → Nat → Int32} {J : Nat → Nat → Int64} {F : Nat → Nat → Option Nat} {V : Nat → Nat → Value} {X : mm_X} {n : Nat} {z : Nat → Int} {c4 : Int32} (hM : mo_V V) (hg : V 39 1 = .int (iI n)) (hn : n ≤ 6) (hz : ∀ p, p < n → I 51 p = iI (z p)) (hx : X (.inl (some (.int c4))) (wd_S ++ cs, va_up (va_up I 40 (no_f (I 40) 4 n z)) 41 (upd (I 41) 4 (iI 0)), J, F, V)) :
    ∀ (m p : Nat), n - p < m → p ≤ n → mW G mt_Mo_median (d + 4) bc bs 214 [(5, .int (iI (p : Nat))), (4, .int c4), (0, .ref 39)] [] (wd_S ++ cs, va_up I 40 (no_f (I 40) 4 p z), J, F, V) X := by
  intro m
  induction m with
  | zero => intro p h1 _; exact absurd h1 (Nat.not_lt_zero _)
  | succ m ih =>
    intro p h1 h2
    refine mw_iload dc_Mo_median_214 0 rfl ?_
    refine mw_aload_n dc_Mo_median_216 rfl 2 rfl ?_
    refine mi_get (ci := 5) (k := 1) dc_Mo_median_217 rfl wi_Mo rfl rfl (by decide) fl_Mo_7 hg ?_
    refine mi_icmp_ge (tgt := 246) dc_Mo_median_220 (by decide) (iB_mk (by omega) (by omega)) (iB_mk (by omega) (by omega)) (fun hh => ?_) (fun hh => ?_)
    · have e : p = n := by omega
      subst e
      refine mw_aload_n dc_Mo_median_246 rfl 2 rfl ?_
      refine mi_get (ci := 5) (k := 3) dc_Mo_median_247 rfl wi_Mo rfl rfl (by decide) fl_Mo_17 hM.2.1 ?_
      refine mi_const dc_Mo_median_250 ?_
      refine mi_const dc_Mo_median_251 ?_
      refine mi_iast dc_Mo_median_252 rfl ⟨by omega, by omega, by decide⟩ (I' := va_up (va_up I 40 (no_f (I 40) 4 p z)) 41 (upd (I 41) 4 (iI 0))) rfl ?_
      refine mw_iload dc_Mo_median_253 1 rfl ?_
      exact mw_iret dc_Mo_median_255 rfl rfl hx
    · refine mw_aload_n dc_Mo_median_223 rfl 2 rfl ?_
      refine mi_get (ci := 5) (k := 2) dc_Mo_median_224 rfl wi_Mo rfl rfl (by decide) fl_Mo_13 hM.1 ?_
      refine mi_bipush dc_Mo_median_227 (by decide) ?_
      refine mw_iload dc_Mo_median_229 0 rfl ?_
      refine mi_iadd dc_Mo_median_231 ?_
      refine mw_aload_n dc_Mo_median_232 rfl 2 rfl ?_
      refine mi_get (ci := 5) (k := 18) dc_Mo_median_233 rfl wi_Mo rfl rfl (by decide) fl_Mo_51 hM.2.2.2.2.2.2.2.2.2.2.2.1 ?_
      refine mw_iload dc_Mo_median_236 0 rfl ?_
      refine mi_iald dc_Mo_median_238 rfl ⟨by omega, by omega, by decide⟩ (v := iI (z p)) (by rw [Int.toNat_natCast, va_up_ne _ _ (by decide)]; exact hz p (by omega)) ?_
      refine mi_iast dc_Mo_median_239 rfl ⟨by omega, by omega, by decide⟩ (I' := va_up I 40 (no_f (I 40) 4 (p + 1) z)) (by rw [va_up_self, up_up, show ((24 : Int) + (p : Int)).toNat = 6 * 4 + p by omega, no_u]) ?_
      refine mi_iinc dc_Mo_median_240 0 rfl (by decide) rfl ?_
      refine mw_goto (tgt := 214) dc_Mo_median_243 (by decide) ?_
      refine mw_pick [0, 1, 2] rfl ?_
      exact ih (p + 1) (by omega) (by omega)
theorem lp_mm0 {G : mm_G} {d bc bs : Nat} {cs : mm_Sh} {F : Nat → Nat → Option Nat} {I0 : Nat → Nat → Int32} {J0 : Nat → Nat → Int64} {V0 : Nat → Nat → Value} {n : Nat} {Dn Wn : Nat → Nat → Nat} {u : Nat → Nat → Int} {yy : Nat → Nat → Nat → Int} {a b c : Nat} {X : mm_X} (hM : mo_V V0) (hg : V0 39 1 = .int (iI n)) (hn : 1 ≤ n ∧ n ≤ 6) (hT : mk_T Dn Wn I0 J0) (h45 : I0 45 n = iI 1) (hH : bf_H n (oc_f n) (nbr n) (Dn n) (Wn n)) (hD : ∀ k, k < oc_f n → Dn n k ≤ 30) (ha : a < 5) (hb : b < 5) (hc : c < 5) (hO : ∀ s, s < 5 → mo_or I0 n s (u s)) (hY : ∀ k s, k < oc_f n → s < 5 → rl_k n (ur n k) (u s) (yy k s)) (hx : ∀ I V, md_R n (oc_f n) (mb n (sm n Dn yy a b c) (oc_f n)).2 I0 I → mv_k V0 V → V 39 0 = V0 39 0 → X (.inl (some (.int (iI (mb n (sm n Dn yy a b c) (oc_f n)).1)))) (wd_S ++ cs, va_up (va_up I 40 (no_f (I 40) 4 n (mb n (sm n Dn yy a b c) (oc_f n)).2)) 41 (upd (I 41) 4 (iI 0)), J0, F, V)) :
    ∀ (m k : Nat) I V, oc_f n - k < m → k ≤ oc_f n → md_R n k (mb n (sm n Dn yy a b c) k).2 I0 I → mv_k V0 V → V 39 0 = V0 39 0 → mW G mt_Mo_median (d + 4) bc bs 62 [(5, .int (iI (k : Nat))), (4, .int (iI (mb n (sm n Dn yy a b c) k).1)), (3, .int (iI (c : Nat))), (2, .int (iI (b : Nat))), (1, .int (iI (a : Nat))), (0, .ref 39)] [] (wd_S ++ cs, I, J0, F, V) X := by
  have hS : ∀ k, k < oc_f n → 0 ≤ sm n Dn yy a b c k ∧ sm n Dn yy a b c k ≤ 90 := fun k hk => by
    have := hD _ (hY k a hk ha).2
    have := hD _ (hY k b hk hb).2
    have := hD _ (hY k c hk hc).2
    unfold sm
    omega
  intro m
  induction m with
  | zero => intro k I V h1; exact absurd h1 (Nat.not_lt_zero _)
  | succ m ih =>
    intro k I V h1 h2 hR hv h0
    have hN2 := (oc_fa n (by omega)).2
    have hM1 := mv_M hv hM
    have hg1 := (hv 39 1 (by omega)).trans hg
    have hmb := mb_i hn.2 (Nat.le_refl _) hS k h2
    have hmb9 : 0 ≤ (mb n (sm n Dn yy a b c) k).1 ∧ (mb n (sm n Dn yy a b c) k).1 ≤ 99 := by
      by_cases k0 : k = 0
      · subst k0; exact ⟨(show (0 : Int) ≤ 99 by decide), (show (99 : Int) ≤ 99 by decide)⟩
      · have := hmb (by omega); omega
    refine mw_iload dc_Mo_median_62 0 rfl ?_
    refine mw_aload_n dc_Mo_median_64 rfl 5 rfl ?_
    refine mz_V0 (M2 := mt_Mo_orderCount) dc_Mo_median_65 ml_Mo_98 rfl rfl ny_Mo_orderCount (by decide) (Nat.le_of_ble_eq_true rfl) (ev_orderCount rfl hg1 hn.2) (fun v h1 hY => ?_)
    obtain ⟨hv9, rfl⟩ := hY
    cases hv9
    refine mi_icmp_ge (tgt := 211) dc_Mo_median_68 (by decide) (iB_mk (by omega) (by omega)) (iB_mk (by omega) (by omega)) (fun hh => ?_) (fun hh => ?_)
    · have e : k = oc_f n := by omega
      subst e
      refine mi_const dc_Mo_median_211 ?_
      refine mw_istore dc_Mo_median_212 (by decide) rfl ?_
      refine mw_pick [0, 1, 5] rfl ?_
      refine mw_h (h' := (wd_S ++ cs, va_up I 40 (no_f (I 40) 4 0 (mb n (sm n Dn yy a b c) (oc_f n)).2), J0, F, V)) (by rw [no_0, up_id]) ?_
      exact lp_mm2 (z := (mb n (sm n Dn yy a b c) (oc_f n)).2) hM1 hg1 hn.2 (hR.2 (by omega)) (hx I V hR hv h0) (n + 1) 0 (by omega) (by omega)
    · have hk : k < oc_f n := by omega
      obtain ⟨sk1, sk2⟩ := hS k hk
      have hTI : ∀ {K : Nat → Nat → Int32}, (∀ a, a ≠ 49 → a ≠ 50 → a ≠ 51 → K a = I0 a) → mk_T Dn Wn K J0 ∧ K 45 n = iI 1 ∧ ∀ s, s < 5 → mo_or K n s (u s) := fun {K} q => ⟨fun m k1 k6 => by rw [q 45 (by decide) (by decide) (by decide), q 46 (by decide) (by decide) (by decide)]; exact hT m k1 k6, by rw [q 45 (by decide) (by decide) (by decide)]; exact h45, fun s hs p hp => by rw [q 40 (by decide) (by decide) (by decide)]; exact hO s hs p hp⟩
      refine mw_aload_n dc_Mo_median_71 rfl 5 rfl ?_
      refine mw_iload dc_Mo_median_72 0 rfl ?_
      refine mw_aload_n dc_Mo_median_74 rfl 5 rfl ?_
      refine mi_get (ci := 5) (k := 17) dc_Mo_median_75 rfl wi_Mo rfl rfl (by decide) fl_Mo_48 hM1.2.2.2.2.2.2.2.2.2.2.1 ?_
      refine mz_V2 (M2 := mt_Mo_unrank) dc_Mo_median_78 ml_Mo_109 rfl rfl ny_Mo_unrank (by decide) (Nat.le_of_ble_eq_true rfl) (ev_unrank hM1 hg1 hn (oc_lt hn.2 hk) (by omega)) (fun v h1 hY => ?_)
      obtain ⟨hv9, rfl⟩ := hY
      cases hv9
      have r1 : ∀ a, a ≠ 49 → a ≠ 50 → a ≠ 51 → va_up I 50 (nr (I 50) 0 n (ur n k)) a = I0 a := fun a a1 a2 a3 => by rw [va_up_ne _ _ a2]; exact hR.1 a a1 a2 a3
      have r2 : ∀ p, p < n → va_up I 50 (nr (I 50) 0 n (ur n k)) 50 p = iI (ur n k p) := fun p hp => by rw [va_up_self, nr_a (by omega)]
      have r3 : va_up I 50 (nr (I 50) 0 n (ur n k)) 51 = I 51 := va_up_ne _ _ (by decide)
      revert r1 r2 r3
      generalize va_up I 50 (nr (I 50) 0 n (ur n k)) = K0
      intro r1 r2 r3
      have hD1 : ∀ k, k < oc_f n → Dn n k ≤ 100 := fun k hk => by have := hD k hk; omega
      refine mw_aload_n dc_Mo_median_81 rfl 5 rfl ?_
      refine mw_aload_n dc_Mo_median_82 rfl 5 rfl ?_
      refine mi_get (ci := 5) (k := 17) dc_Mo_median_83 rfl wi_Mo rfl rfl (by decide) fl_Mo_48 hM1.2.2.2.2.2.2.2.2.2.2.1 ?_
      refine mi_const dc_Mo_median_86 ?_
      refine mw_aload_n dc_Mo_median_87 rfl 5 rfl ?_
      refine mi_get (ci := 5) (k := 2) dc_Mo_median_88 rfl wi_Mo rfl rfl (by decide) fl_Mo_13 hM1.1 ?_
      refine mi_bipush dc_Mo_median_91 (by decide) ?_
      refine mw_iload_n dc_Mo_median_93 rfl 4 rfl ?_
      refine mi_imul dc_Mo_median_94 ?_
      rw [show (6 * (a : Int)) = ((6 * a : Nat) : Int) by omega]
      refine mz_V4 (M2 := mt_Mo_distanceOf) dc_Mo_median_95 ml_Mo_124 rfl rfl ny_Mo_distanceOf (by decide) (Nat.le_of_ble_eq_true rfl) (ev_distanceOf (a := 50) (s1 := 0) (s2 := 6 * a) (na := 6) (u := ur n k) (v := u a) (y := yy k a) hM1 hg1 hn (hTI r1).1 hH hD1 ⟨rfl, Or.inr ⟨rfl, (hTI r1).2.1⟩⟩ ⟨rfl, rfl⟩ ⟨by omega, by decide⟩ (by omega) (fun p hp => ⟨by rw [Nat.zero_add]; exact r2 p hp, ur_b hn.2 hk p hp⟩) ((hTI r1).2.2 a ha) (hY k a hk ha)) (fun v h1 hY9 => ?_)
      obtain ⟨hv9, K1, J1, V1, rfl, p1, p2, p3, p4, p5, p6, p7⟩ := hY9
      cases hv9
      obtain ⟨p8, rfl⟩ := p7 (hTI r1).2.1
      have r11 : ∀ a, a ≠ 49 → a ≠ 50 → a ≠ 51 → K1 a = I0 a := fun a a1 a2 a3 => (p8 a a1).trans (r1 a a1 a2 a3)
      have r12 : ∀ p, p < n → K1 50 p = iI (ur n k p) := fun p hp => by rw [p8 50 (by decide)]; exact r2 p hp
      have r13 : K1 51 = I 51 := (p8 51 (by decide)).trans r3
      have hM11 := mv_M p5 hM1
      have hg11 := (p5 39 1 (by omega)).trans hg1
      have hv1 := mv_t hv p5
      have h01 := p6.trans h0
      clear p1 p2 p3 p4 p5 p6 p7 p8
      refine mw_aload_n dc_Mo_median_98 rfl 5 rfl ?_
      refine mw_aload_n dc_Mo_median_99 rfl 5 rfl ?_
      refine mi_get (ci := 5) (k := 17) dc_Mo_median_100 rfl wi_Mo rfl rfl (by decide) fl_Mo_48 hM11.2.2.2.2.2.2.2.2.2.2.1 ?_
      refine mi_const dc_Mo_median_103 ?_
      refine mw_aload_n dc_Mo_median_104 rfl 5 rfl ?_
      refine mi_get (ci := 5) (k := 2) dc_Mo_median_105 rfl wi_Mo rfl rfl (by decide) fl_Mo_13 hM11.1 ?_
      refine mi_bipush dc_Mo_median_108 (by decide) ?_
      refine mw_iload_n dc_Mo_median_110 rfl 3 rfl ?_
      refine mi_imul dc_Mo_median_111 ?_
      rw [show (6 * (b : Int)) = ((6 * b : Nat) : Int) by omega]
      refine mz_V4 (M2 := mt_Mo_distanceOf) dc_Mo_median_112 ml_Mo_124 rfl rfl ny_Mo_distanceOf (by decide) (Nat.le_of_ble_eq_true rfl) (ev_distanceOf (a := 50) (s1 := 0) (s2 := 6 * b) (na := 6) (u := ur n k) (v := u b) (y := yy k b) hM11 hg11 hn (hTI r11).1 hH hD1 ⟨rfl, Or.inr ⟨rfl, (hTI r11).2.1⟩⟩ ⟨rfl, rfl⟩ ⟨by omega, by decide⟩ (by omega) (fun p hp => ⟨by rw [Nat.zero_add]; exact r12 p hp, ur_b hn.2 hk p hp⟩) ((hTI r11).2.2 b hb) (hY k b hk hb)) (fun v h1 hY9 => ?_)
      obtain ⟨hv9, K2, J2, V2, rfl, p1, p2, p3, p4, p5, p6, p7⟩ := hY9
      cases hv9
      obtain ⟨p8, rfl⟩ := p7 (hTI r11).2.1
      have r21 : ∀ a, a ≠ 49 → a ≠ 50 → a ≠ 51 → K2 a = I0 a := fun a a1 a2 a3 => (p8 a a1).trans (r11 a a1 a2 a3)
      have r22 : ∀ p, p < n → K2 50 p = iI (ur n k p) := fun p hp => by rw [p8 50 (by decide)]; exact r12 p hp
      have r23 : K2 51 = I 51 := (p8 51 (by decide)).trans r13
      have hM12 := mv_M p5 hM11
      have hg12 := (p5 39 1 (by omega)).trans hg11
      have hv2 := mv_t hv1 p5
      have h02 := p6.trans h01
      clear p1 p2 p3 p4 p5 p6 p7 p8
      refine mi_iadd dc_Mo_median_115 ?_
      refine mw_aload_n dc_Mo_median_116 rfl 5 rfl ?_
      refine mw_aload_n dc_Mo_median_117 rfl 5 rfl ?_
      refine mi_get (ci := 5) (k := 17) dc_Mo_median_118 rfl wi_Mo rfl rfl (by decide) fl_Mo_48 hM12.2.2.2.2.2.2.2.2.2.2.1 ?_
      refine mi_const dc_Mo_median_121 ?_
      refine mw_aload_n dc_Mo_median_122 rfl 5 rfl ?_
      refine mi_get (ci := 5) (k := 2) dc_Mo_median_123 rfl wi_Mo rfl rfl (by decide) fl_Mo_13 hM12.1 ?_
      refine mi_bipush dc_Mo_median_126 (by decide) ?_
      refine mw_iload_n dc_Mo_median_128 rfl 2 rfl ?_
      refine mi_imul dc_Mo_median_129 ?_
      rw [show (6 * (c : Int)) = ((6 * c : Nat) : Int) by omega]
      refine mz_V4 (M2 := mt_Mo_distanceOf) dc_Mo_median_130 ml_Mo_124 rfl rfl ny_Mo_distanceOf (by decide) (Nat.le_of_ble_eq_true rfl) (ev_distanceOf (a := 50) (s1 := 0) (s2 := 6 * c) (na := 6) (u := ur n k) (v := u c) (y := yy k c) hM12 hg12 hn (hTI r21).1 hH hD1 ⟨rfl, Or.inr ⟨rfl, (hTI r21).2.1⟩⟩ ⟨rfl, rfl⟩ ⟨by omega, by decide⟩ (by omega) (fun p hp => ⟨by rw [Nat.zero_add]; exact r22 p hp, ur_b hn.2 hk p hp⟩) ((hTI r21).2.2 c hc) (hY k c hk hc)) (fun v h1 hY9 => ?_)
      obtain ⟨hv9, K3, J3, V3, rfl, p1, p2, p3, p4, p5, p6, p7⟩ := hY9
      cases hv9
      obtain ⟨p8, rfl⟩ := p7 (hTI r21).2.1
      have r31 : ∀ a, a ≠ 49 → a ≠ 50 → a ≠ 51 → K3 a = I0 a := fun a a1 a2 a3 => (p8 a a1).trans (r21 a a1 a2 a3)
      have r32 : ∀ p, p < n → K3 50 p = iI (ur n k p) := fun p hp => by rw [p8 50 (by decide)]; exact r22 p hp
      have r33 : K3 51 = I 51 := (p8 51 (by decide)).trans r23
      have hM13 := mv_M p5 hM12
      have hg13 := (p5 39 1 (by omega)).trans hg12
      have hv3 := mv_t hv2 p5
      have h03 := p6.trans h02
      clear p1 p2 p3 p4 p5 p6 p7 p8
      refine mi_iadd dc_Mo_median_133 ?_
      refine mw_istore dc_Mo_median_134 (by decide) rfl ?_
      rw [show iI (((Dn n (rkn n (yy k a)) : Nat) : Int) + ((Dn n (rkn n (yy k b)) : Nat) : Int) + ((Dn n (rkn n (yy k c)) : Nat) : Int)) = iI (sm n Dn yy a b c k) from rfl]
      have e0 : mb n (sm n Dn yy a b c) (k + 1) = if sm n Dn yy a b c k < (mb n (sm n Dn yy a b c) k).1 ∨ (sm n Dn yy a b c k = (mb n (sm n Dn yy a b c) k).1 ∧ lxl (ur n k) (mb n (sm n Dn yy a b c) k).2 n 0 = true) then (sm n Dn yy a b c k, ur n k) else mb n (sm n Dn yy a b c) k := rfl
      refine mw_iload dc_Mo_median_136 0 rfl ?_
      refine mw_iload dc_Mo_median_138 2 rfl ?_
      refine mi_icmp_lt (tgt := 169) dc_Mo_median_140 (by decide) (iB_mk (by omega) (by omega)) (iB_mk (by omega) (by omega)) (fun h0140 => ?_) (fun h0140 => ?_)
      · rw [if_pos (Or.inl (by omega))] at e0
        refine mw_iload dc_Mo_median_169 0 rfl ?_
        refine mw_istore dc_Mo_median_171 (by decide) rfl ?_
        refine mi_const dc_Mo_median_173 ?_
        refine mw_istore dc_Mo_median_174 (by decide) rfl ?_
        refine mw_pick [0, 3, 1, 4, 5, 6, 7] rfl ?_
        refine mw_h (h' := (wd_S ++ cs, va_up K3 51 (nr (K3 51) 0 0 (ur n k)), J3, F, V3)) (by rw [nr_n, up_id]) ?_
        refine lp_mm1 (z := ur n k) hM13 hg13 hn.2 r32 ?_ (n + 1) 0 (by omega) (by omega)
        refine mi_iinc dc_Mo_median_205 0 rfl (by decide) rfl ?_
        refine mw_goto (tgt := 62) dc_Mo_median_208 (by decide) ?_
        refine mw_pick [0, 1, 2, 3, 4, 5] rfl ?_
        have k2 := ih (k + 1) (va_up K3 51 (nr (K3 51) 0 n (ur n k))) V3 (by omega) (by omega)
        rw [e0] at k2
        refine k2 ⟨fun a a1 a2 a3 => ?_, fun _ p hp => ?_⟩ hv3 h03
        · rw [va_up_ne _ _ a3]; exact r31 a a1 a2 a3
        · rw [va_up_self, nr_a (by omega)]
      · refine mw_iload dc_Mo_median_143 0 rfl ?_
        refine mw_iload dc_Mo_median_145 2 rfl ?_
        refine mi_icmp_ne (tgt := 205) dc_Mo_median_147 (by decide) (iB_mk (by omega) (by omega)) (iB_mk (by omega) (by omega)) (fun h1147 => ?_) (fun h1147 => ?_)
        · rw [if_neg (fun q => by rcases q with q | q <;> omega)] at e0
          refine mi_iinc dc_Mo_median_205 1 rfl (by decide) rfl ?_
          refine mw_goto (tgt := 62) dc_Mo_median_208 (by decide) ?_
          refine mw_pick [0, 2, 3, 4, 5, 6] rfl ?_
          have k0 : 0 < k := by
            rcases Nat.eq_zero_or_pos k with q | q
            · subst q
              have : (mb n (sm n Dn yy a b c) 0).1 = 99 := rfl
              omega
            · exact q
          have k2 := ih (k + 1) K3 V3 (by omega) (by omega)
          rw [e0] at k2
          exact k2 ⟨r31, fun _ p hp => by rw [r33]; exact hR.2 k0 p hp⟩ hv3 h03
        · refine mw_aload_n dc_Mo_median_150 rfl 6 rfl ?_
          refine mi_get (ci := 5) (k := 17) dc_Mo_median_151 rfl wi_Mo rfl rfl (by decide) fl_Mo_48 hM13.2.2.2.2.2.2.2.2.2.2.1 ?_
          refine mw_aload_n dc_Mo_median_154 rfl 6 rfl ?_
          refine mi_get (ci := 5) (k := 18) dc_Mo_median_155 rfl wi_Mo rfl rfl (by decide) fl_Mo_51 hM13.2.2.2.2.2.2.2.2.2.2.2.1 ?_
          refine mi_const dc_Mo_median_158 ?_
          refine mw_aload_n dc_Mo_median_159 rfl 6 rfl ?_
          refine mi_get (ci := 5) (k := 1) dc_Mo_median_160 rfl wi_Mo rfl rfl (by decide) fl_Mo_7 hg13 ?_
          have k0 : 0 < k := by
            rcases Nat.eq_zero_or_pos k with q | q
            · subst q
              have : (mb n (sm n Dn yy a b c) 0).1 = 99 := rfl
              omega
            · exact q
          refine mz_S4 (M2 := mt_Mo_isLess) dc_Mo_median_163 ml_Mo_161 rfl ny_Mo_isLess (by decide) (Nat.le_of_ble_eq_true rfl) (ev_isLess (u := ur n k) (v := (mb n (sm n Dn yy a b c) k).2) hn.2 (fun p hp => ⟨r32 p hp, ur_b hn.2 hk p hp⟩) (fun p hp => ⟨by rw [r33]; exact hR.2 k0 p hp, (hmb k0).2.2 p hp⟩)) (fun v h1 hY => ?_)
          obtain ⟨hv9, rfl⟩ := hY
          cases hv9
          refine mw_if_eq (tgt := 205) dc_Mo_median_166 (by decide) (fun h2166 => ?_) (fun h2166 => ?_)
          · rw [if_neg (fun q => by
              rcases q with q | q
              · omega
              · exact bo_0.mp h2166 q.2)] at e0
            refine mi_iinc dc_Mo_median_205 1 rfl (by decide) rfl ?_
            refine mw_goto (tgt := 62) dc_Mo_median_208 (by decide) ?_
            refine mw_pick [0, 2, 3, 4, 5, 6] rfl ?_
            have k0 : 0 < k := by
              rcases Nat.eq_zero_or_pos k with q | q
              · subst q
                have : (mb n (sm n Dn yy a b c) 0).1 = 99 := rfl
                omega
              · exact q
            have k2 := ih (k + 1) K3 V3 (by omega) (by omega)
            rw [e0] at k2
            exact k2 ⟨r31, fun _ p hp => by rw [r33]; exact hR.2 k0 p hp⟩ hv3 h03
          · rw [if_pos (Or.inr ⟨by omega, Decidable.not_not.mp (fun q => h2166 (bo_0.mpr q))⟩)] at e0
            refine mw_iload dc_Mo_median_169 0 rfl ?_
            refine mw_istore dc_Mo_median_171 (by decide) rfl ?_
            refine mi_const dc_Mo_median_173 ?_
            refine mw_istore dc_Mo_median_174 (by decide) rfl ?_
            refine mw_pick [0, 3, 1, 4, 5, 6, 7] rfl ?_
            refine mw_h (h' := (wd_S ++ cs, va_up K3 51 (nr (K3 51) 0 0 (ur n k)), J3, F, V3)) (by rw [nr_n, up_id]) ?_
            refine lp_mm1 (z := ur n k) hM13 hg13 hn.2 r32 ?_ (n + 1) 0 (by omega) (by omega)
            refine mi_iinc dc_Mo_median_205 0 rfl (by decide) rfl ?_
            refine mw_goto (tgt := 62) dc_Mo_median_208 (by decide) ?_
            refine mw_pick [0, 1, 2, 3, 4, 5] rfl ?_
            have k2 := ih (k + 1) (va_up K3 51 (nr (K3 51) 0 n (ur n k))) V3 (by omega) (by omega)
            rw [e0] at k2
            refine k2 ⟨fun a a1 a2 a3 => ?_, fun _ p hp => ?_⟩ hv3 h03
            · rw [va_up_ne _ _ a3]; exact r31 a a1 a2 a3
            · rw [va_up_self, nr_a (by omega)]
theorem ev_momedian {G : mm_G} {d : Nat} {cs : mm_Sh} {I : Nat → Nat → Int32} {J : Nat → Nat → Int64} {F : Nat → Nat → Option Nat} {V : Nat → Nat → Value} {n : Nat} {Dn Wn : Nat → Nat → Nat} (hM : mo_V V) (hg : V 39 1 = .int (iI n)) (hn : 1 ≤ n ∧ n ≤ 6) (hT : mk_T Dn Wn I J) (hH : bf_H n (oc_f n) (nbr n) (Dn n) (Wn n)) (hD : ∀ k, k < oc_f n → Dn n k ≤ 30) {x y z : Int} {u : Nat → Nat → Int} {yy : Nat → Nat → Nat → Int} (hO : ∀ s, s < 5 → mo_or I n s (u s)) (hY : ∀ k s, k < oc_f n → s < 5 → rl_k n (ur n k) (u s) (yy k s)) (hx : iB x) (hy : iB y) (hz : iB z) : mE G mt_Mo_median (d + 5) 0 0 [.ref 39, .int (iI x), .int (iI y), .int (iI z)] (wd_S ++ cs, I, J, F, V) (fun o h1 => (¬ (okS x ∧ okS y ∧ okS z) → o = .inl (some (.int (iI 0))) ∧ h1 = (wd_S ++ cs, I, J, F, fu V 39 0 (.int (iI 1)))) ∧ (((okS x ∧ okS y ∧ okS z) ∧ 4 < n) → o = .inl (some (.int (iI 0))) ∧ h1 = (wd_S ++ cs, I, J, F, fu V 39 0 (.int (iI 2)))) ∧ (((okS x ∧ okS y ∧ okS z) ∧ n ≤ 4) → o = .inl (some (.int (iI (mb n (sm n Dn yy x.toNat y.toNat z.toNat) (oc_f n)).1))) ∧ ∃ (I1 : Nat → Nat → Int32) (J1 : Nat → Nat → Int64) (V1 : Nat → Nat → Value), h1 = (wd_S ++ cs, I1, J1, F, V1) ∧ (∀ a, a ≠ 40 → a ≠ 41 → a ≠ 45 → a ≠ 46 → a ≠ 47 → (a < 49 ∨ 57 < a) → I1 a = I a) ∧ I1 40 = no_f (I 40) 4 n (mb n (sm n Dn yy x.toNat y.toNat z.toNat) (oc_f n)).2 ∧ I1 41 = upd (I 41) 4 (iI 0) ∧ (∀ a, a ≠ 48 → J1 a = J a) ∧ mk_T Dn Wn I1 J1 ∧ mv_k V V1 ∧ V1 39 0 = .int (iI 0))) := by
  refine mE_intro (by decide) (fun k9 h q => ?_) (Nat.le_of_ble_eq_true rfl) ?_
  · by_cases r1 : okS x ∧ okS y ∧ okS z
    · by_cases r2 : n ≤ 4
      · exact nomatch (q.2.2 ⟨r1, r2⟩).1
      · exact nomatch (q.2.1 ⟨r1, by omega⟩).1
    · exact nomatch (q.1 r1).1
  show mW G mt_Mo_median (d + 5) 0 0 0 [(0, .ref 39), (1, .int (iI x)), (2, .int (iI y)), (3, .int (iI z))] [] (wd_S ++ cs, I, J, F, V) _
  refine mw_aload_n dc_Mo_median_0 rfl 0 rfl ?_
  refine mw_iload_n dc_Mo_median_1 rfl 1 rfl ?_
  refine mz_S1 (M2 := mt_Mo_noSlot) dc_Mo_median_2 ml_Mo_87 rfl ny_Mo_noSlot (by decide) (Nat.le_of_ble_eq_true rfl) (ev_noSlot hx) (fun v h1 hY => ?_)
  obtain ⟨hv9, rfl⟩ := hY
  cases hv9
  refine mw_if_ne (tgt := 22) dc_Mo_median_5 (by decide) (fun h05 => ?_) (fun h05 => ?_)
  · refine mi_const dc_Mo_median_22 ?_
    refine mw_goto (tgt := 39) dc_Mo_median_23 (by decide) ?_
    refine mi_puti (ci := 5) (k := 0) dc_Mo_median_39 rfl wi_Mo tk_Mo nm_Mo rfl rfl (by decide) fl_Mo_75 rfl (by decide +kernel) (show va_up V 39 (va_up (V 39) 0 (.int (iI 1))) = fu V 39 0 (.int (iI 1)) from rfl) ?_
    refine mw_aload_n dc_Mo_median_42 rfl 0 rfl ?_
    refine mi_get (ci := 5) (k := 0) dc_Mo_median_43 rfl wi_Mo rfl rfl (by decide) fl_Mo_75 (fu_at V 39 0 _) ?_
    have hs : ¬ (okS x ∧ okS y ∧ okS z) := fun r => Decidable.not_not.mp (fun q => h05 (bo_0.mpr q)) r.1
    refine mi_if_le (tgt := 51) dc_Mo_median_46 (by decide) (iB_mk (by omega) (by omega)) (fun hw => ?_) (fun hw => ?_)
    · exact absurd hw (by decide)
    · refine mi_const dc_Mo_median_49 ?_
      exact mw_iret dc_Mo_median_50 rfl rfl ⟨fun _ => ⟨rfl, rfl⟩, fun q => absurd q.1 hs, fun q => absurd q.1 hs⟩
  · refine mw_iload_n dc_Mo_median_8 rfl 2 rfl ?_
    refine mz_S1 (M2 := mt_Mo_noSlot) dc_Mo_median_9 ml_Mo_87 rfl ny_Mo_noSlot (by decide) (Nat.le_of_ble_eq_true rfl) (ev_noSlot hy) (fun v h1 hY => ?_)
    obtain ⟨hv9, rfl⟩ := hY
    cases hv9
    refine mw_if_ne (tgt := 22) dc_Mo_median_12 (by decide) (fun h112 => ?_) (fun h112 => ?_)
    · refine mi_const dc_Mo_median_22 ?_
      refine mw_goto (tgt := 39) dc_Mo_median_23 (by decide) ?_
      refine mi_puti (ci := 5) (k := 0) dc_Mo_median_39 rfl wi_Mo tk_Mo nm_Mo rfl rfl (by decide) fl_Mo_75 rfl (by decide +kernel) (show va_up V 39 (va_up (V 39) 0 (.int (iI 1))) = fu V 39 0 (.int (iI 1)) from rfl) ?_
      refine mw_aload_n dc_Mo_median_42 rfl 0 rfl ?_
      refine mi_get (ci := 5) (k := 0) dc_Mo_median_43 rfl wi_Mo rfl rfl (by decide) fl_Mo_75 (fu_at V 39 0 _) ?_
      have hs1 : okS x := Decidable.not_not.mp (bo_0.mp h05)
      have hs : ¬ (okS x ∧ okS y ∧ okS z) := fun r => Decidable.not_not.mp (fun q => h112 (bo_0.mpr q)) r.2.1
      refine mi_if_le (tgt := 51) dc_Mo_median_46 (by decide) (iB_mk (by omega) (by omega)) (fun hw => ?_) (fun hw => ?_)
      · exact absurd hw (by decide)
      · refine mi_const dc_Mo_median_49 ?_
        exact mw_iret dc_Mo_median_50 rfl rfl ⟨fun _ => ⟨rfl, rfl⟩, fun q => absurd q.1 hs, fun q => absurd q.1 hs⟩
    · refine mw_iload_n dc_Mo_median_15 rfl 3 rfl ?_
      refine mz_S1 (M2 := mt_Mo_noSlot) dc_Mo_median_16 ml_Mo_87 rfl ny_Mo_noSlot (by decide) (Nat.le_of_ble_eq_true rfl) (ev_noSlot hz) (fun v h1 hY => ?_)
      obtain ⟨hv9, rfl⟩ := hY
      cases hv9
      refine mw_if_eq (tgt := 26) dc_Mo_median_19 (by decide) (fun h219 => ?_) (fun h219 => ?_)
      · refine mw_aload_n dc_Mo_median_26 rfl 0 rfl ?_
        refine mi_get (ci := 5) (k := 1) dc_Mo_median_27 rfl wi_Mo rfl rfl (by decide) fl_Mo_7 hg ?_
        refine mi_const dc_Mo_median_30 ?_
        refine mi_icmp_le (tgt := 38) dc_Mo_median_31 (by decide) (iB_mk (by omega) (by omega)) (iB_mk (by omega) (by omega)) (fun h331 => ?_) (fun h331 => ?_)
        · refine mi_const dc_Mo_median_38 ?_
          refine mi_puti (ci := 5) (k := 0) dc_Mo_median_39 rfl wi_Mo tk_Mo nm_Mo rfl rfl (by decide) fl_Mo_75 rfl (by decide +kernel) (show va_up V 39 (va_up (V 39) 0 (.int (iI 0))) = fu V 39 0 (.int (iI 0)) from rfl) ?_
          refine mw_aload_n dc_Mo_median_42 rfl 0 rfl ?_
          refine mi_get (ci := 5) (k := 0) dc_Mo_median_43 rfl wi_Mo rfl rfl (by decide) fl_Mo_75 (fu_at V 39 0 _) ?_
          have hs1 : okS x := Decidable.not_not.mp (bo_0.mp h05)
          have hs2 : okS y := Decidable.not_not.mp (bo_0.mp h112)
          have hs3 : okS z := Decidable.not_not.mp (bo_0.mp h219)
          have hs : okS x ∧ okS y ∧ okS z := ⟨hs1, hs2, hs3⟩
          obtain ⟨a, rfl⟩ := Int.eq_ofNat_of_zero_le hs1.1
          obtain ⟨b, rfl⟩ := Int.eq_ofNat_of_zero_le hs2.1
          have ha : a < 5 := by have := hs1.2; omega
          have hb : b < 5 := by have := hs2.2; omega
          obtain ⟨c, rfl⟩ := Int.eq_ofNat_of_zero_le hs3.1
          have hc : c < 5 := by have := hs3.2; omega
          refine mi_if_le (tgt := 51) dc_Mo_median_46 (by decide) (iB_mk (by omega) (by omega)) (fun hw => ?_) (fun hw => ?_)
          · refine mw_aload_n dc_Mo_median_51 rfl 0 rfl ?_
            refine mz_V0 (M2 := mt_Mo_makeTable) dc_Mo_median_52 ml_Mo_117 rfl rfl ny_Mo_makeTable (by decide) (Nat.le_of_ble_eq_true rfl) (ev_makeTable (mo_fu _ hM (Or.inl rfl)) ((fu_n2 V _ (by decide)).trans hg) hn hT hH (fun k hk => by have := hD k hk; omega)) (fun v h1 hY => ?_)
            obtain ⟨hv9, I1, J1, V1, rfl, m1, m2, m3, m4, m5, m6, m7, m8, m9, m10⟩ := hY
            cases hv9
            have hM1 := mv_M m7 (mo_fu _ hM (Or.inl rfl))
            have hg1 := (m7 39 1 (by omega)).trans ((fu_n2 V _ (by decide)).trans hg)
            refine mi_bipush dc_Mo_median_55 (by decide) ?_
            refine mw_istore dc_Mo_median_57 (by decide) rfl ?_
            refine mi_const dc_Mo_median_59 ?_
            refine mw_istore dc_Mo_median_60 (by decide) rfl ?_
            refine mw_pick [0, 1, 5, 4, 3, 2] rfl ?_
            refine lp_mm0 (I0 := I1) (J0 := J1) (V0 := V1) (u := u) (yy := yy) hM1 hg1 hn m3 m4 hH hD ha hb hc (fun s hs9 p hp => by rw [m1 40 (by decide) (by decide) (by decide) (by decide)]; exact hO s hs9 p hp) hY (fun K V2 hR2 hv2 h02 => ?_) (oc_f n + 1) 0 I1 V1 (by omega) (by omega) ⟨fun _ _ _ _ => rfl, fun q => absurd q (Nat.not_lt_zero _)⟩ (mv_r _) rfl
            refine ⟨fun q => absurd hs q, fun q => absurd q.2 (by omega), fun _ => ⟨rfl, _, J1, V2, rfl, fun a a1 a2 a3 a4 a5 a6 => ?_, ?_, ?_, m2, ?_, ?_, ?_⟩⟩
            · rw [va_up_ne _ _ a2, va_up_ne _ _ a1, hR2.1 a (by omega) (by omega) (by omega)]; exact m1 a a3 a4 a5 a6
            · rw [va_up_ne _ _ (by decide), va_up_self, hR2.1 40 (by decide) (by decide) (by decide), m1 40 (by decide) (by decide) (by decide) (by decide)]
              rfl
            · rw [va_up_self, hR2.1 41 (by decide) (by decide) (by decide), m1 41 (by decide) (by decide) (by decide) (by decide)]
            · refine mk_T49 _ (by decide) (mk_T49 _ (by decide) ?_)
              intro m k1 k6
              rw [hR2.1 45 (by decide) (by decide) (by decide), hR2.1 46 (by decide) (by decide) (by decide)]
              exact m3 m k1 k6
            · exact mv_t (mv_fu V _ (by omega)) (mv_t m7 hv2)
            · rw [h02, m9, fu_at]
          · exact absurd hw (by decide)
        · refine mi_const dc_Mo_median_34 ?_
          refine mw_goto (tgt := 39) dc_Mo_median_35 (by decide) ?_
          refine mi_puti (ci := 5) (k := 0) dc_Mo_median_39 rfl wi_Mo tk_Mo nm_Mo rfl rfl (by decide) fl_Mo_75 rfl (by decide +kernel) (show va_up V 39 (va_up (V 39) 0 (.int (iI 2))) = fu V 39 0 (.int (iI 2)) from rfl) ?_
          refine mw_aload_n dc_Mo_median_42 rfl 0 rfl ?_
          refine mi_get (ci := 5) (k := 0) dc_Mo_median_43 rfl wi_Mo rfl rfl (by decide) fl_Mo_75 (fu_at V 39 0 _) ?_
          have hs1 : okS x := Decidable.not_not.mp (bo_0.mp h05)
          have hs2 : okS y := Decidable.not_not.mp (bo_0.mp h112)
          have hs3 : okS z := Decidable.not_not.mp (bo_0.mp h219)
          have hs : okS x ∧ okS y ∧ okS z := ⟨hs1, hs2, hs3⟩
          refine mi_if_le (tgt := 51) dc_Mo_median_46 (by decide) (iB_mk (by omega) (by omega)) (fun hw => ?_) (fun hw => ?_)
          · exact absurd hw (by decide)
          · refine mi_const dc_Mo_median_49 ?_
            exact mw_iret dc_Mo_median_50 rfl rfl ⟨fun q => absurd hs q, fun _ => ⟨rfl, rfl⟩, fun q => absurd q.2 (by omega)⟩
      · refine mi_const dc_Mo_median_22 ?_
        refine mw_goto (tgt := 39) dc_Mo_median_23 (by decide) ?_
        refine mi_puti (ci := 5) (k := 0) dc_Mo_median_39 rfl wi_Mo tk_Mo nm_Mo rfl rfl (by decide) fl_Mo_75 rfl (by decide +kernel) (show va_up V 39 (va_up (V 39) 0 (.int (iI 1))) = fu V 39 0 (.int (iI 1)) from rfl) ?_
        refine mw_aload_n dc_Mo_median_42 rfl 0 rfl ?_
        refine mi_get (ci := 5) (k := 0) dc_Mo_median_43 rfl wi_Mo rfl rfl (by decide) fl_Mo_75 (fu_at V 39 0 _) ?_
        have hs1 : okS x := Decidable.not_not.mp (bo_0.mp h05)
        have hs2 : okS y := Decidable.not_not.mp (bo_0.mp h112)
        have hs : ¬ (okS x ∧ okS y ∧ okS z) := fun r => Decidable.not_not.mp (fun q => h219 (bo_0.mpr q)) r.2.2
        refine mi_if_le (tgt := 51) dc_Mo_median_46 (by decide) (iB_mk (by omega) (by omega)) (fun hw => ?_) (fun hw => ?_)
        · exact absurd hw (by decide)
        · refine mi_const dc_Mo_median_49 ?_
          exact mw_iret dc_Mo_median_50 rfl rfl ⟨fun _ => ⟨rfl, rfl⟩, fun q => absurd q.1 hs, fun q => absurd q.1 hs⟩
