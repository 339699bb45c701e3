/-! the reference's makeTable -/
def bq : Nat → Nat
  | 0 => 0
  | k + 1 => bq k + oc_f (k + 1)
def bs_f (n : Nat) : Nat := bq (n - 1)
theorem bq_b : ∀ n, n < 7 → bs_f n + oc_f n ≤ 50362 ∧ (n ≤ 4 → bs_f n + oc_f n ≤ 442) := by decide +kernel
theorem bq_d : ∀ n, n < 7 → ∀ m, m < 7 → (1 ≤ n → n < m → bs_f n + oc_f n ≤ bs_f m) := by decide +kernel
def mt_k (I K : Nat → Nat → Int32) : Prop := ∀ a, a ≠ 45 → a ≠ 46 → a ≠ 47 → (a < 49 ∨ 57 < a) → K a = I a
theorem mt_s {I K : Nat → Nat → Int32} (h : ms_k I K) : mt_k I K := fun a _ _ _ q => h a q
theorem mt_t {I K L : Nat → Nat → Int32} (h1 : mt_k I K) (h2 : mt_k K L) : mt_k I L := fun a p q r s => (h2 a p q r s).trans (h1 a p q r s)
def mv_k (V V1 : Nat → Nat → Value) : Prop := ∀ a j, ¬ (a = 39 ∧ (j = 0 ∨ j = 11 ∨ j = 12)) → V1 a j = V a j
theorem mv_r (V : Nat → Nat → Value) : mv_k V V := fun _ _ _ => rfl
theorem mv_t {V V1 V2 : Nat → Nat → Value} (h1 : mv_k V V1) (h2 : mv_k V1 V2) : mv_k V V2 := fun a j q => (h2 a j q).trans (h1 a j q)
theorem mv_fu (V : Nat → Nat → Value) {k : Nat} (v : Value) (h : k = 0 ∨ k = 11 ∨ k = 12) : mv_k V (fu V 39 k v) := fun a j q => fu_ne (fun r => q ⟨r.1, by omega⟩)
theorem mv_M {V V1 : Nat → Nat → Value} (h : mv_k V V1) (hM : mo_V V) : mo_V V1 := by
  obtain ⟨h2, h3, h4, h5, h9, h10, h13, h14, h15, h16, h17, h18, h19, h20, h21, h22, h23, h24⟩ := hM
  exact ⟨(h 39 2 (by omega)).trans h2, (h 39 3 (by omega)).trans h3, (h 39 4 (by omega)).trans h4, (h 39 5 (by omega)).trans h5, (h 39 9 (by omega)).trans h9, (h 39 10 (by omega)).trans h10, (h 39 13 (by omega)).trans h13, (h 39 14 (by omega)).trans h14, (h 39 15 (by omega)).trans h15, (h 39 16 (by omega)).trans h16, (h 39 17 (by omega)).trans h17, (h 39 18 (by omega)).trans h18, (h 39 19 (by omega)).trans h19, (h 39 20 (by omega)).trans h20, (h 39 21 (by omega)).trans h21, (h 39 22 (by omega)).trans h22, (h 39 23 (by omega)).trans h23, (h 39 24 (by omega)).trans h24⟩
def mk_T (Dn Wn : Nat → Nat → Nat) (I : Nat → Nat → Int32) (J : Nat → Nat → Int64) : Prop := ∀ n, 1 ≤ n → n ≤ 6 →
  (I 45 n = iI 1 ∧ (∀ k, k < oc_f n → I 46 (bs_f n + k) = iI (Dn n k : Nat)) ∧ (n ≤ 4 → ∀ k, k < oc_f n → J 48 (bs_f n + k) = lI (Wn n k))) ∨
  (I 45 n = iI 0 ∧ (n ≤ 4 → ∀ k, k < oc_f n → J 48 (bs_f n + k) = lI 0))
def fm_f (g : Nat → Int32) (b k : Nat) : Nat → Int32 := fun x => if b ≤ x ∧ x < b + k then iI (-1) else g x
theorem fm_0 (g : Nat → Int32) (b : Nat) : fm_f g b 0 = g := by funext x; unfold fm_f; rw [if_neg (by omega)]
theorem fm_u {g : Nat → Int32} {b k : Nat} : upd (fm_f g b k) (b + k) (iI (-1)) = fm_f g b (k + 1) := by
  funext x
  by_cases e : x = b + k
  · subst e; rw [pk_us]; unfold fm_f; rw [if_pos (by omega)]
  · rw [pk_un e]
    unfold fm_f
    exact if_i (by omega) _ _
def mk_R (Dn Wn : Nat → Nat → Nat) (n : Nat) (I : Nat → Nat → Int32) (J : Nat → Nat → Int64) (V : Nat → Nat → Value) (I1 : Nat → Nat → Int32) (J1 : Nat → Nat → Int64) (V1 : Nat → Nat → Value) : Prop :=
  mt_k I I1 ∧ (∀ a, a ≠ 48 → J1 a = J a) ∧ mk_T Dn Wn I1 J1 ∧ I1 45 n = iI 1 ∧ (∀ k, k < oc_f n → I1 46 (bs_f n + k) = iI (Dn n k : Nat)) ∧ (n ≤ 4 → ∀ k, k < oc_f n → J1 48 (bs_f n + k) = lI (Wn n k)) ∧ mv_k V V1 ∧ V1 39 11 = .int (iI (bs_f n : Nat)) ∧ V1 39 0 = V 39 0 ∧ (I 45 n = iI 1 → I1 = I ∧ J1 = J)
theorem lp_mk0 {G : mm_G} {d bc bs : Nat} {cs : mm_Sh} {I : Nat → Nat → Int32} {J : Nat → Nat → Int64} {F : Nat → Nat → Option Nat} {V : Nat → Nat → Value} {X : mm_X} {n : Nat} (hM : mo_V V) (hg : V 39 1 = .int (iI n)) (hn : 1 ≤ n ∧ n ≤ 6) (hx : mW G mt_Mo_makeTable (d + 2) bc bs 39 [(0, .ref 39)] [] (wd_S ++ cs, I, J, F, fu V 39 11 (.int (iI (bs_f n : Nat)))) X) :
    ∀ (m k : Nat), n - k < m → k < n → mW G mt_Mo_makeTable (d + 2) bc bs 9 [(2, .int (iI ((k + 1 : Nat) : Int))), (1, .int (iI (oc_f k : Nat))), (0, .ref 39)] [] (wd_S ++ cs, I, J, F, fu V 39 11 (.int (iI (bq k : Nat)))) X := by
  intro m
  induction m with
  | zero => intro k h1 _; exact absurd h1 (Nat.not_lt_zero _)
  | succ m ih =>
    intro k h1 h2
    refine mw_iload_n dc_Mo_makeTable_9 rfl 0 rfl ?_
    refine mw_aload_n dc_Mo_makeTable_10 rfl 2 rfl ?_
    refine mi_get (ci := 5) (k := 1) dc_Mo_makeTable_11 rfl wi_Mo rfl rfl (by decide) fl_Mo_7 ((fu_n2 V _ (by decide)).trans hg) ?_
    refine mi_icmp_ge (tgt := 39) dc_Mo_makeTable_14 (by decide) (iB_mk (by omega) (by omega)) (iB_mk (by omega) (by omega)) (fun hh => ?_) (fun hh => ?_)
    · have e : k = n - 1 := by omega
      refine mw_pick [2] rfl ?_
      rw [e]
      exact hx
    · refine mw_iload_n dc_Mo_makeTable_17 rfl 1 rfl ?_
      refine mi_const dc_Mo_makeTable_18 ?_
      refine mi_imul dc_Mo_makeTable_19 ?_
      refine mw_iload_n dc_Mo_makeTable_20 rfl 0 rfl ?_
      refine mi_imul dc_Mo_makeTable_21 ?_
      refine mw_istore_n dc_Mo_makeTable_22 rfl (by decide) rfl ?_
      refine mw_aload_n dc_Mo_makeTable_23 rfl 2 rfl ?_
      refine mw_aload_n dc_Mo_makeTable_24 rfl 2 rfl ?_
      refine mi_get (ci := 5) (k := 11) dc_Mo_makeTable_25 rfl wi_Mo rfl rfl (by decide) fl_Mo_95 (fu_at V 39 11 _) ?_
      refine mw_iload_n dc_Mo_makeTable_28 rfl 0 rfl ?_
      refine mi_iadd dc_Mo_makeTable_29 ?_
      refine mi_puti (ci := 5) (k := 11) dc_Mo_makeTable_30 rfl wi_Mo tk_Mo nm_Mo rfl rfl (by decide) fl_Mo_95 rfl (by decide +kernel) (fu_fu V 39 11 _ _) ?_
      refine mi_iinc dc_Mo_makeTable_33 1 rfl (by decide) rfl ?_
      refine mw_goto (tgt := 9) dc_Mo_makeTable_36 (by decide) ?_
      refine mw_pick [0, 1, 2] rfl ?_
      have k2 := ih (k + 1) (by omega) (by omega)
      rw [show bq (k + 1) = bq k + oc_f (k + 1) from rfl, show oc_f (k + 1) = oc_f k * 2 * (k + 1) from rfl, Int.natCast_add, Int.natCast_mul, Int.natCast_mul] at k2
      exact k2
theorem lp_mk1 {G : mm_G} {d bc bs : Nat} {cs : mm_Sh} {I : Nat → Nat → Int32} {J : Nat → Nat → Int64} {F : Nat → Nat → Option Nat} {V : Nat → Nat → Value} {X : mm_X} {n b N : Nat} (hM : mo_V V) (hb : V 39 11 = .int (iI (b : Nat))) (hbN : b + N ≤ 50362) (hx : mW G mt_Mo_makeTable (d + 2) bc bs 92 [(0, .ref 39)] [] (wd_S ++ cs, va_up I 46 (fm_f (I 46) b N), J, F, V) X) :
    ∀ (m k : Nat), N - k < m → k ≤ N → mW G mt_Mo_makeTable (d + 2) bc bs 69 [(2, .int (iI (k : Nat))), (1, .int (iI (N : Nat))), (0, .ref 39)] [] (wd_S ++ cs, va_up I 46 (fm_f (I 46) b k), J, F, V) X := by
  intro m
  induction m with
  | zero => intro k h1 _; exact absurd h1 (Nat.not_lt_zero _)
  | succ m ih =>
    intro k h1 h2
    refine mw_iload_n dc_Mo_makeTable_69 rfl 0 rfl ?_
    refine mw_iload_n dc_Mo_makeTable_70 rfl 1 rfl ?_
    refine mi_icmp_ge (tgt := 92) dc_Mo_makeTable_71 (by decide) (iB_mk (by omega) (by omega)) (iB_mk (by omega) (by omega)) (fun hh => ?_) (fun hh => ?_)
    · have e : k = N := by omega
      subst e
      refine mw_pick [2] rfl ?_
      exact hx
    · refine mw_aload_n dc_Mo_makeTable_74 rfl 2 rfl ?_
      refine mi_get (ci := 5) (k := 13) dc_Mo_makeTable_75 rfl wi_Mo rfl rfl (by decide) fl_Mo_34 hM.2.2.2.2.2.2.1 ?_
      refine mw_aload_n dc_Mo_makeTable_78 rfl 2 rfl ?_
      refine mi_get (ci := 5) (k := 11) dc_Mo_makeTable_79 rfl wi_Mo rfl rfl (by decide) fl_Mo_95 hb ?_
      refine mw_iload_n dc_Mo_makeTable_82 rfl 0 rfl ?_
      refine mi_iadd dc_Mo_makeTable_83 ?_
      refine mi_const dc_Mo_makeTable_84 ?_
      refine mi_iast dc_Mo_makeTable_85 rfl ⟨by omega, by omega, by decide⟩ (I' := va_up I 46 (fm_f (I 46) b (k + 1))) (by rw [va_up_self, up_up, show ((b : Int) + (k : Int)).toNat = b + k by omega, fm_u]) ?_
      refine mi_iinc dc_Mo_makeTable_86 0 rfl (by decide) rfl ?_
      refine mw_goto (tgt := 69) dc_Mo_makeTable_89 (by decide) ?_
      refine mw_pick [0, 1, 2] rfl ?_
      exact ih (k + 1) (by omega) (by omega)
theorem lp_mk2 {G : mm_G} {d bc bs : Nat} {cs : mm_Sh} {F : Nat → Nat → Option Nat} {I0 : Nat → Nat → Int32} {J0 : Nat → Nat → Int64} {V0 : Nat → Nat → Value} {n N b : Nat} {D W : Nat → Nat} {X : mm_X} (hM : mo_V V0) (hg : V0 39 1 = .int (iI n)) (hb : V0 39 11 = .int (iI b)) (hn : 1 ≤ n ∧ n ≤ 6) (hN : N = oc_f n) (hbN : b + N ≤ 50362 ∧ (n ≤ 4 → b + N ≤ 442)) (hH : bf_H n N (nbr n) D W) (hD : ∀ k, k < N → D k ≤ 100) (hx : ∀ I J V (fr : Nat → Int) (qu : Nat → Nat) (fd : Nat) (mn : Nat → Nat), bf_R n N b I0 J0 V0 fr qu fd mn I J V → (∀ k, k < N → fr k = (D k : Nat) ∧ (n ≤ 4 → mn k = W k)) → X (.inl none) (wd_S ++ cs, I, J, F, V)) :
    ∀ (m fs : Nat) I J V (fr : Nat → Int) (qu : Nat → Nat) (fd : Nat) (mn : Nat → Nat) (pc : Nat → Bool), N - fs < m → bf_R n N b I0 J0 V0 fr qu fd mn I J V → bf_I n N (nbr n) D W fr qu fd mn pc fs 0 0 → mW G mt_Mo_makeTable (d + 2) bc bs 134 [(2, .int (iI (fs : Nat))), (0, .ref 39)] [] (wd_S ++ cs, I, J, F, V) X := by
  intro m
  induction m with
  | zero => intro fs I J V fr qu fd mn pc h1; exact absurd h1 (Nat.not_lt_zero _)
  | succ m ih =>
    intro fs I J V fr qu fd mn pc h1 hR hI
    obtain ⟨R1, R2, R3, R4, R5, R6, R7, rfl⟩ := id hR
    obtain ⟨c1, c2, c3, c4, c5, c6, c7, c8, c9, c10, c11, c12, c13⟩ := id hI
    have hN2 := (oc_fa n (by omega)).2
    have hfd : fd ≤ N := by rw [← c1]; exact ct_le _ _
    refine mw_iload_n dc_Mo_makeTable_134 rfl 0 rfl ?_
    refine mw_aload_n dc_Mo_makeTable_135 rfl 1 rfl ?_
    refine mi_get (ci := 5) (k := 12) dc_Mo_makeTable_136 rfl wi_Mo rfl rfl (by decide) fl_Mo_102 (fu_at V0 39 12 _) ?_
    refine mi_icmp_ge (tgt := 153) dc_Mo_makeTable_139 (by decide) (iB_mk (by omega) (by omega)) (iB_mk (by omega) (by omega)) (fun hh => ?_) (fun hh => ?_)
    · exact mw_vret dc_Mo_makeTable_153 rfl (hx _ _ _ fr qu fd mn hR (bf_z hH hI (by omega)))
    · refine mw_aload_n dc_Mo_makeTable_142 rfl 1 rfl ?_
      refine mw_iload_n dc_Mo_makeTable_143 rfl 0 rfl ?_
      refine mz_V1 (M2 := mt_Mo_spread) dc_Mo_makeTable_144 ml_Mo_105 rfl rfl ny_Mo_spread (by decide) (Nat.le_of_ble_eq_true rfl) (ev_spread hM hg hb hn hN hbN hH hD hR hI (by omega)) (fun v h1 hY => ?_)
      obtain ⟨hv, I1, J1, V1, fr1, qu1, fd1, mn1, pc1, rfl, hR1, hI1⟩ := hY
      cases hv
      refine mi_iinc dc_Mo_makeTable_147 0 rfl (by decide) rfl ?_
      refine mw_goto (tgt := 134) dc_Mo_makeTable_150 (by decide) ?_
      refine mw_pick [0, 1] rfl ?_
      exact ih (fs + 1) I1 J1 V1 fr1 qu1 fd1 mn1 pc1 (by omega) hR1 hI1
theorem mk_fin {n : Nat} {Dn Wn : Nat → Nat → Nat} {I : Nat → Nat → Int32} {J : Nat → Nat → Int64} {V V0 : Nat → Nat → Value} {K : Nat → Nat → Int32} {J1 : Nat → Nat → Int64} {V1 : Nat → Nat → Value} {fr : Nat → Int} {qu : Nat → Nat} {fd : Nat} {mn : Nat → Nat} (hT : mk_T Dn Wn I J) (h1 : 1 ≤ n) (h6 : n ≤ 6) (hne : I 45 n ≠ iI 1) (hv0 : mv_k V V0) (hb0 : V0 39 11 = .int (iI (bs_f n : Nat))) (ht0 : V0 39 0 = V 39 0)
    (hR : bf_R n (oc_f n) (bs_f n) (va_up I 45 (upd (I 45) n (iI 1))) J V0 fr qu fd mn K J1 V1) (hz : ∀ k, k < oc_f n → fr k = (Dn n k : Nat) ∧ (n ≤ 4 → mn k = Wn n k)) : mk_R Dn Wn n I J V K J1 V1 := by
  obtain ⟨R1, R2, R3, R4, R5, R6, R7, rfl⟩ := hR
  have e45 : K 45 = upd (I 45) n (iI 1) := (R1 45 (by decide) (by decide) (by decide)).trans (va_up_self _ _ _)
  have f1 : ∀ k, k < oc_f n → K 46 (bs_f n + k) = iI (Dn n k : Nat) := fun k hk => by rw [R3 k hk, (hz k hk).1]
  have f2 : n ≤ 4 → ∀ k, k < oc_f n → J1 48 (bs_f n + k) = lI (Wn n k) := fun h4 k hk => by rw [R6 h4 k hk, (hz k hk).2 h4]
  have f3 : K 45 n = iI 1 := by rw [e45, pk_us]
  refine ⟨fun a a1 a2 a3 a4 => ?_, R2, fun m m1 m6 => ?_, f3, f1, f2, mv_t hv0 (mv_fu V0 _ (by omega)), (fu_n2 V0 _ (by decide)).trans hb0, (fu_n2 V0 _ (by decide)).trans ht0, fun q => absurd q hne⟩
  · rw [R1 a a2 a3 (by omega), va_up_ne _ _ a1]
  · by_cases e : m = n
    · subst e
      exact Or.inl ⟨f3, f1, f2⟩
    · have d1 := bq_d n (by omega) m (by omega) h1
      have d2 := bq_d m (by omega) n (by omega) m1
      rcases hT m m1 m6 with ⟨T1, T2, T3⟩ | ⟨T1, T2⟩
      · refine Or.inl ⟨by rw [e45, pk_un e]; exact T1, fun k hk => ?_, fun h4 k hk => ?_⟩
        · rw [R4 _ (by omega), va_up_ne _ _ (by decide)]; exact T2 k hk
        · rw [R7 _ (by omega)]; exact T3 h4 k hk
      · refine Or.inr ⟨by rw [e45, pk_un e]; exact T1, fun h4 k hk => ?_⟩
        rw [R7 _ (by omega)]; exact T2 h4 k hk
theorem ev_makeTable {G : mm_G} {d : Nat} {cs : mm_Sh} {I : Nat → Nat → Int32} {J : Nat → Nat → Int64} {F : Nat → Nat → Option Nat} {V : Nat → Nat → Value} {n : Nat} {Dn Wn : Nat → Nat → Nat} (hM : mo_V V) (hg : V 39 1 = .int (iI n)) (hn : 1 ≤ n ∧ n ≤ 6) (hT : mk_T Dn Wn I J) (hH : bf_H n (oc_f n) (nbr n) (Dn n) (Wn n)) (hD : ∀ k, k < oc_f n → Dn n k ≤ 100) : mE G mt_Mo_makeTable (d + 2) 0 0 [.ref 39] (wd_S ++ cs, I, J, F, V) (fun o h1 => o = .inl none ∧ ∃ (I1 : Nat → Nat → Int32) (J1 : Nat → Nat → Int64) (V1 : Nat → Nat → Value), h1 = (wd_S ++ cs, I1, J1, F, V1) ∧ mk_R Dn Wn n I J V I1 J1 V1) := by
  refine mE_intro (by decide) (fun k h q => nomatch q.1) (Nat.le_of_ble_eq_true rfl) ?_
  obtain ⟨b1, b2⟩ := bq_b n (by omega)
  have hN2 := (oc_fa n (by omega)).2
  show mW G mt_Mo_makeTable (d + 2) 0 0 0 [(0, .ref 39)] [] (wd_S ++ cs, I, J, F, V) _
  refine mw_aload_n dc_Mo_makeTable_0 rfl 0 rfl ?_
  refine mi_const dc_Mo_makeTable_1 ?_
  refine mi_puti (ci := 5) (k := 11) dc_Mo_makeTable_2 rfl wi_Mo tk_Mo nm_Mo rfl rfl (by decide) fl_Mo_95 rfl (by decide +kernel) (show va_up V 39 (va_up (V 39) 11 (.int (iI 0))) = fu V 39 11 (.int (iI (bq 0 : Nat))) from rfl) ?_
  refine mi_const dc_Mo_makeTable_5 ?_
  refine mw_istore_n dc_Mo_makeTable_6 rfl (by decide) rfl ?_
  refine mi_const dc_Mo_makeTable_7 ?_
  refine mw_istore_n dc_Mo_makeTable_8 rfl (by decide) rfl ?_
  refine mw_pick [0, 1, 2] rfl ?_
  refine lp_mk0 hM hg hn ?_ (n + 1) 0 (by omega) (by omega)
  have hM0 : mo_V (fu V 39 11 (.int (iI (bs_f n : Nat)))) := mo_fu _ hM (by omega)
  have hg0 : fu V 39 11 (.int (iI (bs_f n : Nat))) 39 1 = .int (iI n) := (fu_n2 V _ (by decide)).trans hg
  have hb0 : fu V 39 11 (.int (iI (bs_f n : Nat))) 39 11 = .int (iI (bs_f n : Nat)) := fu_at V 39 11 _
  have hv0 : mv_k V (fu V 39 11 (.int (iI (bs_f n : Nat)))) := mv_fu V _ (by omega)
  have ht0 : fu V 39 11 (.int (iI (bs_f n : Nat))) 39 0 = V 39 0 := fu_n2 V _ (by decide)
  revert hM0 hg0 hb0 hv0 ht0
  generalize fu V 39 11 (.int (iI (bs_f n : Nat))) = V0
  intro hM0 hg0 hb0 hv0 ht0
  rcases hT n hn.1 hn.2 with ⟨T1, T2, T3⟩ | ⟨T1, T2⟩
  · refine mw_aload_n dc_Mo_makeTable_39 rfl 0 rfl ?_
    refine mi_get (ci := 5) (k := 10) dc_Mo_makeTable_40 rfl wi_Mo rfl rfl (by decide) fl_Mo_29 hM0.2.2.2.2.2.1 ?_
    refine mw_aload_n dc_Mo_makeTable_43 rfl 0 rfl ?_
    refine mi_get (ci := 5) (k := 1) dc_Mo_makeTable_44 rfl wi_Mo rfl rfl (by decide) fl_Mo_7 hg0 ?_
    refine mi_zald dc_Mo_makeTable_47 rfl ⟨by omega, by omega, by decide⟩ (v := iI 1) (by rw [Int.toNat_natCast]; exact T1) ?_
    refine mi_if_eq (tgt := 52) dc_Mo_makeTable_48 (by decide) (iB_mk (by omega) (by omega)) (fun hh => ?_) (fun hh => ?_)
    · exact absurd hh (by decide)
    · exact mw_vret dc_Mo_makeTable_51 rfl ⟨rfl, I, J, V0, rfl, fun _ _ _ _ _ => rfl, fun _ _ => rfl, hT, T1, T2, T3, hv0, hb0, ht0, fun _ => ⟨rfl, rfl⟩⟩
  · refine mw_aload_n dc_Mo_makeTable_39 rfl 0 rfl ?_
    refine mi_get (ci := 5) (k := 10) dc_Mo_makeTable_40 rfl wi_Mo rfl rfl (by decide) fl_Mo_29 hM0.2.2.2.2.2.1 ?_
    refine mw_aload_n dc_Mo_makeTable_43 rfl 0 rfl ?_
    refine mi_get (ci := 5) (k := 1) dc_Mo_makeTable_44 rfl wi_Mo rfl rfl (by decide) fl_Mo_7 hg0 ?_
    refine mi_zald dc_Mo_makeTable_47 rfl ⟨by omega, by omega, by decide⟩ (v := iI 0) (by rw [Int.toNat_natCast]; exact T1) ?_
    refine mi_if_eq (tgt := 52) dc_Mo_makeTable_48 (by decide) (iB_mk (by omega) (by omega)) (fun hh => ?_) (fun hh => ?_)
    · refine mw_aload_n dc_Mo_makeTable_52 rfl 0 rfl ?_
      refine mi_get (ci := 5) (k := 10) dc_Mo_makeTable_53 rfl wi_Mo rfl rfl (by decide) fl_Mo_29 hM0.2.2.2.2.2.1 ?_
      refine mw_aload_n dc_Mo_makeTable_56 rfl 0 rfl ?_
      refine mi_get (ci := 5) (k := 1) dc_Mo_makeTable_57 rfl wi_Mo rfl rfl (by decide) fl_Mo_7 hg0 ?_
      refine mi_const dc_Mo_makeTable_60 ?_
      refine mi_zast dc_Mo_makeTable_61 rfl ⟨by omega, by omega, by decide⟩ (by decide) (I' := va_up I 45 (upd (I 45) n (iI 1))) (by rw [Int.toNat_natCast]) ?_
      refine mw_aload_n dc_Mo_makeTable_62 rfl 0 rfl ?_
      refine mz_V0 (M2 := mt_Mo_orderCount) dc_Mo_makeTable_63 ml_Mo_98 rfl rfl ny_Mo_orderCount (by decide) (Nat.le_of_ble_eq_true rfl) (ev_orderCount rfl hg0 hn.2) (fun v h1 hY => ?_)
      obtain ⟨hv9, rfl⟩ := hY
      cases hv9
      refine mw_istore_n dc_Mo_makeTable_66 rfl (by decide) rfl ?_
      refine mi_const dc_Mo_makeTable_67 ?_
      refine mw_istore_n dc_Mo_makeTable_68 rfl (by decide) rfl ?_
      refine mw_pick [0, 1, 2] rfl ?_
      refine mw_h (h' := (wd_S ++ cs, va_up (va_up I 45 (upd (I 45) n (iI 1))) 46 (fm_f ((va_up I 45 (upd (I 45) n (iI 1))) 46) (bs_f n) 0), J, F, V0)) (by rw [fm_0, up_id]) ?_
      refine lp_mk1 (I := va_up I 45 (upd (I 45) n (iI 1))) (n := n) hM0 hb0 b1 ?_ (oc_f n + 1) 0 (by omega) (by omega)
      refine mw_aload_n dc_Mo_makeTable_92 rfl 0 rfl ?_
      refine mi_get (ci := 5) (k := 13) dc_Mo_makeTable_93 rfl wi_Mo rfl rfl (by decide) fl_Mo_34 hM0.2.2.2.2.2.2.1 ?_
      refine mw_aload_n dc_Mo_makeTable_96 rfl 0 rfl ?_
      refine mi_get (ci := 5) (k := 11) dc_Mo_makeTable_97 rfl wi_Mo rfl rfl (by decide) fl_Mo_95 hb0 ?_
      refine mi_const dc_Mo_makeTable_100 ?_
      refine mi_iast dc_Mo_makeTable_101 rfl ⟨by omega, by omega, by decide⟩ (I' := va_up (va_up I 45 (upd (I 45) n (iI 1))) 46 (upd (fm_f (I 46) (bs_f n) (oc_f n)) (bs_f n) (iI 0))) (by rw [va_up_self, up_up, Int.toNat_natCast]; rfl) ?_
      refine mw_aload_n dc_Mo_makeTable_102 rfl 0 rfl ?_
      refine mi_get (ci := 5) (k := 1) dc_Mo_makeTable_103 rfl wi_Mo rfl rfl (by decide) fl_Mo_7 hg0 ?_
      refine mi_const dc_Mo_makeTable_106 ?_
      refine mi_icmp_gt (tgt := 120) dc_Mo_makeTable_107 (by decide) (iB_mk (by omega) (by omega)) (iB_mk (by omega) (by omega)) (fun h0107 => ?_) (fun h0107 => ?_)
      · refine mw_aload_n dc_Mo_makeTable_120 rfl 0 rfl ?_
        refine mi_get (ci := 5) (k := 14) dc_Mo_makeTable_121 rfl wi_Mo rfl rfl (by decide) fl_Mo_38 hM0.2.2.2.2.2.2.2.1 ?_
        refine mi_const dc_Mo_makeTable_124 ?_
        refine mi_const dc_Mo_makeTable_125 ?_
        refine mi_iast dc_Mo_makeTable_126 rfl ⟨by omega, by omega, by decide⟩ (I' := va_up (va_up (va_up I 45 (upd (I 45) n (iI 1))) 46 (upd (fm_f (I 46) (bs_f n) (oc_f n)) (bs_f n) (iI 0))) 47 (upd (I 47) 0 (iI 0))) rfl ?_
        refine mw_aload_n dc_Mo_makeTable_127 rfl 0 rfl ?_
        refine mi_const dc_Mo_makeTable_128 ?_
        refine mi_puti (ci := 5) (k := 12) dc_Mo_makeTable_129 rfl wi_Mo tk_Mo nm_Mo rfl rfl (by decide) fl_Mo_102 rfl (by decide +kernel) (show va_up V0 39 (va_up (V0 39) 12 (.int (iI 1))) = fu V0 39 12 (.int (iI (1 : Nat))) from rfl) ?_
        refine mi_const dc_Mo_makeTable_132 ?_
        refine mw_istore_n dc_Mo_makeTable_133 rfl (by decide) rfl ?_
        refine mw_pick [0, 1] rfl ?_
        refine lp_mk2 (I0 := va_up I 45 (upd (I 45) n (iI 1))) (J0 := J) (V0 := V0) (D := Dn n) (W := Wn n) hM0 hg0 hb0 hn rfl ⟨b1, b2⟩ hH hD ?_ (oc_f n + 1) 0 _ _ _ _ _ 1 _ _ (by omega) ?_ (bf_0 hH)
        · intro K J1 V1 fr qu fd mn hR hz
          exact ⟨rfl, K, J1, V1, rfl, mk_fin hT hn.1 hn.2 (by rw [T1]; decide) hv0 hb0 ht0 hR hz⟩
        · refine ⟨fun a a1 a2 a3 => ?_, fun a ha => ?_, fun e he => ?_, fun x hx9 => ?_, fun e he => ?_, fun q e he => ?_, fun x hx9 => ?_, rfl⟩
          · rw [va_up_ne _ _ a2, va_up_ne _ _ a1]
          · rfl
          · rw [va_up_ne _ _ (by decide), va_up_self]
            show _ = iI (if e = 0 then 0 else -1)
            by_cases e9 : e = 0
            · rw [e9, if_pos rfl, Nat.add_zero, pk_us]
            · rw [if_neg e9, pk_un (by omega)]; unfold fm_f; rw [if_pos (by omega)]
          · rw [va_up_ne _ _ (by decide), va_up_self, pk_un (by omega), va_up_ne _ _ (by decide)]; unfold fm_f; rw [if_neg (by omega)]
          · rw [va_up_self, show e = 0 by omega, pk_us]; rfl
          · exact absurd q (by omega)
          · rfl
      · refine mw_aload_n dc_Mo_makeTable_110 rfl 0 rfl ?_
        refine mi_get (ci := 5) (k := 15) dc_Mo_makeTable_111 rfl wi_Mo rfl rfl (by decide) fl_Mo_41 hM0.2.2.2.2.2.2.2.2.1 ?_
        refine mw_aload_n dc_Mo_makeTable_114 rfl 0 rfl ?_
        refine mi_get (ci := 5) (k := 11) dc_Mo_makeTable_115 rfl wi_Mo rfl rfl (by decide) fl_Mo_95 hb0 ?_
        refine mw_lconst (v := 1) dc_Mo_makeTable_118 (by decide) ?_
        refine mi_last dc_Mo_makeTable_119 rfl ⟨by omega, by have := b2 (by omega); omega, by decide⟩ (J' := va_up J 48 (vp_updL (J 48) (bs_f n) (lI 1))) (by rw [Int.toNat_natCast]; rfl) ?_
        refine mw_aload_n dc_Mo_makeTable_120 rfl 0 rfl ?_
        refine mi_get (ci := 5) (k := 14) dc_Mo_makeTable_121 rfl wi_Mo rfl rfl (by decide) fl_Mo_38 hM0.2.2.2.2.2.2.2.1 ?_
        refine mi_const dc_Mo_makeTable_124 ?_
        refine mi_const dc_Mo_makeTable_125 ?_
        refine mi_iast dc_Mo_makeTable_126 rfl ⟨by omega, by omega, by decide⟩ (I' := va_up (va_up (va_up I 45 (upd (I 45) n (iI 1))) 46 (upd (fm_f (I 46) (bs_f n) (oc_f n)) (bs_f n) (iI 0))) 47 (upd (I 47) 0 (iI 0))) rfl ?_
        refine mw_aload_n dc_Mo_makeTable_127 rfl 0 rfl ?_
        refine mi_const dc_Mo_makeTable_128 ?_
        refine mi_puti (ci := 5) (k := 12) dc_Mo_makeTable_129 rfl wi_Mo tk_Mo nm_Mo rfl rfl (by decide) fl_Mo_102 rfl (by decide +kernel) (show va_up V0 39 (va_up (V0 39) 12 (.int (iI 1))) = fu V0 39 12 (.int (iI (1 : Nat))) from rfl) ?_
        refine mi_const dc_Mo_makeTable_132 ?_
        refine mw_istore_n dc_Mo_makeTable_133 rfl (by decide) rfl ?_
        refine mw_pick [0, 1] rfl ?_
        refine lp_mk2 (I0 := va_up I 45 (upd (I 45) n (iI 1))) (J0 := J) (V0 := V0) (D := Dn n) (W := Wn n) hM0 hg0 hb0 hn rfl ⟨b1, b2⟩ hH hD ?_ (oc_f n + 1) 0 _ _ _ _ _ 1 _ _ (by omega) ?_ (bf_0 hH)
        · intro K J1 V1 fr qu fd mn hR hz
          exact ⟨rfl, K, J1, V1, rfl, mk_fin hT hn.1 hn.2 (by rw [T1]; decide) hv0 hb0 ht0 hR hz⟩
        · refine ⟨fun a a1 a2 a3 => ?_, fun a ha => ?_, fun e he => ?_, fun x hx9 => ?_, fun e he => ?_, fun q e he => ?_, fun x hx9 => ?_, rfl⟩
          · rw [va_up_ne _ _ a2, va_up_ne _ _ a1]
          · rw [va_up_ne _ _ ha]
          · rw [va_up_ne _ _ (by decide), va_up_self]
            show _ = iI (if e = 0 then 0 else -1)
            by_cases e9 : e = 0
            · rw [e9, if_pos rfl, Nat.add_zero, pk_us]
            · rw [if_neg e9, pk_un (by omega)]; unfold fm_f; rw [if_pos (by omega)]
          · rw [va_up_ne _ _ (by decide), va_up_self, pk_un (by omega), va_up_ne _ _ (by decide)]; unfold fm_f; rw [if_neg (by omega)]
          · rw [va_up_self, show e = 0 by omega, pk_us]; rfl
          · rw [va_up_self]
            show _ = lI (if e = 0 then 1 else 0)
            by_cases e9 : e = 0
            · rw [e9, if_pos rfl, Nat.add_zero, pk_uLs]
            · rw [if_neg e9, pk_uLn (by omega)]; exact T2 q e he
          · rw [va_up_self, pk_uLn (by omega)]
    · exact absurd rfl hh
