/-! the reference's scenario: the first pair of places, step by step -/
def nx (n i j : Nat) : Nat × Nat := if j + 1 = n then (i + 1, i + 1) else (i, j + 1)
def sq (n : Nat) (Q : Nat → Nat → Bool) : Nat → Nat → Nat → Nat × Nat
  | 0, i, j => (i, j)
  | f + 1, i, j => if Q i j = true then (i, j) else sq n Q f (nx n i j).1 (nx n i j).2
theorem sq_ge {n : Nat} {Q : Nat → Nat → Bool} : ∀ f i j, i ≤ (sq n Q f i j).1 := fun f => by
  induction f with
  | zero => intro i j; exact Nat.le_refl _
  | succ f ih =>
    intro i j
    show i ≤ (if Q i j = true then (i, j) else sq n Q f (nx n i j).1 (nx n i j).2).1
    by_cases h : Q i j = true
    · rw [if_pos h]; exact Nat.le_refl _
    · rw [if_neg h]
      refine Nat.le_trans ?_ (ih _ _)
      unfold nx
      split <;> simp only [] <;> omega
theorem sq_t {n : Nat} {Q : Nat → Nat → Bool} {f i j : Nat} (h : Q i j = true) : sq n Q f i j = (i, j) := by
  cases f with
  | zero => rfl
  | succ f => exact if_pos h
theorem sq_f {n : Nat} {Q : Nat → Nat → Bool} {f i j : Nat} (h : ¬ Q i j = true) : sq n Q (f + 1) i j = sq n Q f (nx n i j).1 (nx n i j).2 := if_neg h
theorem sq_ok {n a b : Nat} {Q : Nat → Nat → Bool} (ha : a ≤ b) (hb : b < n) (hQ : Q a b = true) : ∀ f i j, i ≤ j → j < n → (i < a ∨ i = a ∧ j ≤ b) → 7 * (n - i) + (n - j) ≤ f → n ≤ 6 → (sq n Q f i j).1 ≤ (sq n Q f i j).2 ∧ (sq n Q f i j).2 < n ∧ Q (sq n Q f i j).1 (sq n Q f i j).2 = true := fun f => by
  induction f with
  | zero => intro i j h1 h2 h3 h4; exact absurd h4 (by omega)
  | succ f ih =>
    intro i j h1 h2 h3 h4 h5
    by_cases h : Q i j = true
    · rw [sq_t h]; exact ⟨h1, h2, h⟩
    · rw [sq_f h]
      have hne : ¬ (i = a ∧ j = b) := fun q => h (by rw [q.1, q.2]; exact hQ)
      unfold nx
      by_cases e : j + 1 = n
      · rw [if_pos e]
        exact ih (i + 1) (i + 1) (Nat.le_refl _) (by omega) (by omega) (by omega) h5
      · rw [if_neg e]
        exact ih i (j + 1) (by omega) (by omega) (by omega) (by omega) h5
def qz (E : (Nat → Int) → Nat) (z : Nat → Int) : Nat → Nat → Bool := fun i j => decide (E (tI z i j) + 1 = E z)
def sz (n : Nat) (E : (Nat → Int) → Nat) (z : Nat → Int) : Nat × Nat := sq n (qz E z) 60 0 0
def zs (n : Nat) (E : (Nat → Int) → Nat) (y : Nat → Int) : Nat → Nat → Int
  | 0 => y
  | k + 1 => tI (zs n E y k) (sz n E (zs n E y k)).1 (sz n E (zs n E y k)).2
def zc (n : Nat) (E : (Nat → Int) → Nat) (y : Nat → Int) (k : Nat) : Int := 10 * ((sz n E (zs n E y k)).1 : Nat) + ((sz n E (zs n E y k)).2 : Nat)
def rw_H (n : Nat) (E : (Nat → Int) → Nat) (R : (Nat → Int) → Prop) : Prop := ∀ z, R z → (∀ p, p < n → -100 ≤ z p ∧ z p ≤ 100) ∧ E z ≤ 7 ∧ rkn n z < oc_f n ∧ (∀ i j, i ≤ j → j < n → R (tI z i j) ∧ E z ≤ E (tI z i j) + 1) ∧ (0 < E z → ∃ i j, i ≤ j ∧ j < n ∧ E (tI z i j) + 1 = E z)
theorem sz_ok {n : Nat} {E : (Nat → Int) → Nat} {R : (Nat → Int) → Prop} {z : Nat → Int} (hH : rw_H n E R) (hn : n ≤ 6) (hR : R z) (h0 : 0 < E z) : (sz n E z).1 ≤ (sz n E z).2 ∧ (sz n E z).2 < n ∧ E (tI z (sz n E z).1 (sz n E z).2) + 1 = E z := by
  obtain ⟨-, -, -, -, h5⟩ := hH z hR
  obtain ⟨a, b, h1, h2, h3⟩ := h5 h0
  have h := sq_ok (Q := qz E z) h1 h2 (decide_eq_true h3) 60 0 0 (by omega) (by omega) (by omega) (by omega) hn
  exact ⟨h.1, h.2.1, of_decide_eq_true h.2.2⟩
theorem zs_i {n : Nat} {E : (Nat → Int) → Nat} {R : (Nat → Int) → Prop} {y : Nat → Int} (hH : rw_H n E R) (hn : n ≤ 6) (hR : R y) : ∀ k, k ≤ E y → R (zs n E y k) ∧ E (zs n E y k) + k = E y := fun k => by
  induction k with
  | zero => exact fun _ => ⟨hR, rfl⟩
  | succ k ih =>
    intro hk
    obtain ⟨h1, h2⟩ := ih (by omega)
    obtain ⟨s1, s2, s3⟩ := sz_ok hH hn h1 (by omega)
    exact ⟨((hH _ h1).2.2.2.1 _ _ s1 s2).1, by show E (tI (zs n E y k) _ _) + (k + 1) = E y; omega⟩
def sc_R (n : Nat) (E : (Nat → Int) → Nat) (y : Nat → Int) (I0 : Nat → Nat → Int32) (I : Nat → Nat → Int32) (k : Nat) : Prop := (∀ a, a ≠ 44 → a ≠ 49 → I a = I0 a) ∧ (∀ p, p < n → I 49 p = iI (zs n E y k p)) ∧ ∀ m, m < k → I 44 m = iI (zc n E y m)
theorem lp_sc1 {G : mm_G} {d bc bs : Nat} {cs : mm_Sh} {J : Nat → Nat → Int64} {F : Nat → Nat → Option Nat} {I0 : Nat → Nat → Int32} {V0 : Nat → Nat → Value} {n : Nat} {Dn : Nat → Nat → Nat} {R : (Nat → Int) → Prop} {y : Nat → Int} {X : mm_X} (hM : mo_V V0) (hg : V0 39 1 = .int (iI n)) (hb : V0 39 11 = .int (iI (bs_f n : Nat))) (hn : 1 ≤ n ∧ n ≤ 6) (hf : ∀ k, k < oc_f n → I0 46 (bs_f n + k) = iI (Dn n k : Nat)) (hW : rw_H n (fun z => Dn n (rkn n z)) R) (hR : R y) {k : Nat} (hk : k < Dn n (rkn n y)) (hx : ∀ I, sc_R n (fun z => Dn n (rkn n z)) y I0 I (k + 1) → mW G mt_Mo_scenario (d + 1) bc bs 91 [(5, .int (iI (0 : Nat))), (4, .int (iI (0 : Nat))), (3, .int (iI (((Dn n (rkn n y)) - (k + 1) : Nat) : Int))), (0, .ref 39)] [] (wd_S ++ cs, I, J, F, fu V0 39 8 (.int (iI (k + 1 : Nat)))) X) :
    ∀ (f i j : Nat) I, i ≤ j → j < n → sq n (qz (fun z => Dn n (rkn n z)) (zs n (fun z => Dn n (rkn n z)) y k)) f i j = sz n (fun z => Dn n (rkn n z)) (zs n (fun z => Dn n (rkn n z)) y k) → sc_R n (fun z => Dn n (rkn n z)) y I0 I k → mW G mt_Mo_scenario (d + 1) bc bs 91 [(5, .int (iI (j : Nat))), (4, .int (iI (i : Nat))), (3, .int (iI (((Dn n (rkn n y)) - k : Nat) : Int))), (0, .ref 39)] [] (wd_S ++ cs, I, J, F, fu V0 39 8 (.int (iI (k : Nat)))) X := by
  obtain ⟨z1, z2⟩ := zs_i hW hn.2 hR k (by omega)
  obtain ⟨w1, w2, w3, w4, w5⟩ := hW _ z1
  obtain ⟨s1, s2, s3⟩ := sz_ok hW hn.2 z1 (by show 0 < Dn n (rkn n (zs n (fun z => Dn n (rkn n z)) y k)); have : Dn n (rkn n (zs n (fun z => Dn n (rkn n z)) y k)) + k = Dn n (rkn n y) := z2; omega)
  have z2 : Dn n (rkn n (zs n (fun z => Dn n (rkn n z)) y k)) + k = Dn n (rkn n y) := z2
  have w2 : Dn n (rkn n (zs n (fun z => Dn n (rkn n z)) y k)) ≤ 7 := w2
  have hy7 : Dn n (rkn n y) ≤ 7 := (hW y hR).2.1
  have hbN := (bq_b n (by omega)).1
  intro f
  induction f with
  | zero =>
    intro i j I h1 h2 h3 hS
    obtain ⟨S1, S2, S3⟩ := id hS
    obtain ⟨t1, t2⟩ := w4 i j h1 h2
    obtain ⟨v1, v2, v3, v4, v5⟩ := hW _ t1
    have t2 : Dn n (rkn n (zs n (fun z => Dn n (rkn n z)) y k)) ≤ Dn n (rkn n (tI (zs n (fun z => Dn n (rkn n z)) y k) i j)) + 1 := t2
    have v2 : Dn n (rkn n (tI (zs n (fun z => Dn n (rkn n z)) y k) i j)) ≤ 7 := v2
    refine mw_iload_n dc_Mo_scenario_91 rfl 2 rfl ?_
    refine mi_if_le (tgt := 227) dc_Mo_scenario_92 (by decide) (iB_mk (by omega) (by omega)) (fun hh => ?_) (fun hh => ?_)
    · exact absurd hh (by omega)
    · refine mw_aload_n dc_Mo_scenario_95 rfl 3 rfl ?_
      refine mi_get (ci := 5) (k := 16) dc_Mo_scenario_96 rfl wi_Mo rfl rfl (by decide) fl_Mo_45 ((fu_n2 V0 _ (by decide)).trans hM.2.2.2.2.2.2.2.2.2.1) ?_
      refine mi_const dc_Mo_scenario_99 ?_
      refine mw_iload dc_Mo_scenario_100 1 rfl ?_
      refine mw_iload dc_Mo_scenario_102 0 rfl ?_
      refine mz_S4 (M2 := mt_Mo_turn) dc_Mo_scenario_104 ml_Mo_91 rfl ny_Mo_turn (by decide) (Nat.le_of_ble_eq_true rfl) (ev_moturn (sh := wd_S ++ cs) (a := 49) (n := 6) (s := 0) (i := i) (j := j) rfl (by omega) (by decide) h1) (fun v h1 hY => ?_)
      obtain ⟨hv9, rfl⟩ := hY
      cases hv9
      rw [show tu_f (I 49) (0 + i) (0 + j) = tu_f (I 49) i j by rw [Nat.zero_add, Nat.zero_add]]
      refine mw_aload_n dc_Mo_scenario_107 rfl 3 rfl ?_
      refine mi_get (ci := 5) (k := 13) dc_Mo_scenario_108 rfl wi_Mo rfl rfl (by decide) fl_Mo_34 ((fu_n2 V0 _ (by decide)).trans hM.2.2.2.2.2.2.1) ?_
      refine mw_aload_n dc_Mo_scenario_111 rfl 3 rfl ?_
      refine mi_get (ci := 5) (k := 11) dc_Mo_scenario_112 rfl wi_Mo rfl rfl (by decide) fl_Mo_95 ((fu_n2 V0 _ (by decide)).trans hb) ?_
      refine mw_aload_n dc_Mo_scenario_115 rfl 3 rfl ?_
      refine mw_aload_n dc_Mo_scenario_116 rfl 3 rfl ?_
      refine mi_get (ci := 5) (k := 16) dc_Mo_scenario_117 rfl wi_Mo rfl rfl (by decide) fl_Mo_45 ((fu_n2 V0 _ (by decide)).trans hM.2.2.2.2.2.2.2.2.2.1) ?_
      refine mz_V1 (M2 := mt_Mo_rankOf) dc_Mo_scenario_120 ml_Mo_113 rfl rfl ny_Mo_rankOf (by decide) (Nat.le_of_ble_eq_true rfl) (ev_rankOf (u := tI (zs n (fun z => Dn n (rkn n z)) y k) i j) (a := 49) (na := 6) ((fu_n2 V0 _ (by decide)).trans hg) hn.2 rfl ⟨by omega, by decide⟩ (fun p hp => ⟨by rw [va_up_self]; exact tI_i h2 S2 p hp, v1 p hp⟩)) (fun v h1 hY => ?_)
      obtain ⟨hv9, rfl⟩ := hY
      cases hv9
      rw [show iI ((rk (tI (zs n (fun z => Dn n (rkn n z)) y k) i j) n n * 2 ^ n + sn (tI (zs n (fun z => Dn n (rkn n z)) y k) i j) n : Nat) : Int) = iI ((rkn n (tI (zs n (fun z => Dn n (rkn n z)) y k) i j) : Nat) : Int) from rfl]
      refine mi_iadd dc_Mo_scenario_123 ?_
      refine mi_iald dc_Mo_scenario_124 rfl ⟨by omega, by omega, by decide⟩ (v := iI (Dn n (rkn n (tI (zs n (fun z => Dn n (rkn n z)) y k) i j)) : Nat)) (by rw [show ((bs_f n : Int) + (rkn n (tI (zs n (fun z => Dn n (rkn n z)) y k) i j) : Nat)).toNat = bs_f n + rkn n (tI (zs n (fun z => Dn n (rkn n z)) y k) i j) by omega, va_up_ne _ _ (by decide), S1 46 (by decide) (by decide)]; exact hf _ v3) ?_
      refine mw_iload_n dc_Mo_scenario_125 rfl 2 rfl ?_
      refine mi_icmp_ge (tgt := 168) dc_Mo_scenario_126 (by decide) (iB_mk (by omega) (by omega)) (iB_mk (by omega) (by omega)) (fun hc => ?_) (fun hc => ?_)
      · have hq : ¬ qz (fun z => Dn n (rkn n z)) (zs n (fun z => Dn n (rkn n z)) y k) i j = true := fun q => by
          have q : Dn n (rkn n (tI (zs n (fun z => Dn n (rkn n z)) y k) i j)) + 1 = Dn n (rkn n (zs n (fun z => Dn n (rkn n z)) y k)) := of_decide_eq_true q
          omega
        have e3 : (i, j) = sz n (fun z => Dn n (rkn n z)) (zs n (fun z => Dn n (rkn n z)) y k) := h3
        rw [← e3] at s3
        exact absurd (decide_eq_true s3) hq
      · have hq : qz (fun z => Dn n (rkn n z)) (zs n (fun z => Dn n (rkn n z)) y k) i j = true := decide_eq_true (by show Dn n (rkn n (tI (zs n (fun z => Dn n (rkn n z)) y k) i j)) + 1 = Dn n (rkn n (zs n (fun z => Dn n (rkn n z)) y k)); omega)
        rw [sq_t hq] at h3
        refine mi_iinc dc_Mo_scenario_129 2 rfl (by decide) rfl ?_
        refine mw_aload_n dc_Mo_scenario_132 rfl 3 rfl ?_
        refine mi_get (ci := 5) (k := 9) dc_Mo_scenario_133 rfl wi_Mo rfl rfl (by decide) fl_Mo_26 ((fu_n2 V0 _ (by decide)).trans hM.2.2.2.2.1) ?_
        refine mw_aload_n dc_Mo_scenario_136 rfl 3 rfl ?_
        refine mi_get (ci := 5) (k := 8) dc_Mo_scenario_137 rfl wi_Mo rfl rfl (by decide) fl_Mo_158 (fu_at V0 39 8 _) ?_
        refine mi_bipush dc_Mo_scenario_140 (by decide) ?_
        refine mw_iload dc_Mo_scenario_142 2 rfl ?_
        refine mi_imul dc_Mo_scenario_144 ?_
        refine mw_iload dc_Mo_scenario_145 1 rfl ?_
        refine mi_iadd dc_Mo_scenario_147 ?_
        refine mi_iast dc_Mo_scenario_148 rfl ⟨by omega, by omega, by decide⟩ (I' := va_up (va_up I 49 (tu_f (I 49) i j)) 44 (upd (I 44) k (iI (10 * (i : Int) + (j : Int))))) (by rw [Int.toNat_natCast, va_up_ne _ _ (by decide)]) ?_
        refine mw_aload_n dc_Mo_scenario_149 rfl 3 rfl ?_
        refine mw_dup dc_Mo_scenario_150 rfl ?_
        refine mi_get (ci := 5) (k := 8) dc_Mo_scenario_151 rfl wi_Mo rfl rfl (by decide) fl_Mo_158 (fu_at V0 39 8 _) ?_
        refine mi_const dc_Mo_scenario_154 ?_
        refine mi_iadd dc_Mo_scenario_155 ?_
        refine mi_puti (ci := 5) (k := 8) dc_Mo_scenario_156 rfl wi_Mo tk_Mo nm_Mo rfl rfl (by decide) fl_Mo_158 rfl (by decide +kernel) (fu_fu V0 39 8 _ _) ?_
        refine mi_const dc_Mo_scenario_159 ?_
        refine mw_istore dc_Mo_scenario_160 (by decide) rfl ?_
        refine mi_const dc_Mo_scenario_162 ?_
        refine mw_istore dc_Mo_scenario_163 (by decide) rfl ?_
        refine mw_goto (tgt := 91) dc_Mo_scenario_165 (by decide) ?_
        refine mw_pick [0, 1, 2, 3] rfl ?_
        rw [show (((Dn n (rkn n y)) - k : Nat) : Int) + -1 = (((Dn n (rkn n y)) - (k + 1) : Nat) : Int) by omega]
        refine hx _ ⟨fun a a1 a2 => ?_, fun p hp => ?_, fun m hm => ?_⟩
        · rw [va_up_ne _ _ a1, va_up_ne _ _ a2]; exact S1 a a1 a2
        · rw [va_up_ne _ _ (by decide), va_up_self]
          show _ = iI (tI (zs n (fun z => Dn n (rkn n z)) y k) (sz n (fun z => Dn n (rkn n z)) (zs n (fun z => Dn n (rkn n z)) y k)).1 (sz n (fun z => Dn n (rkn n z)) (zs n (fun z => Dn n (rkn n z)) y k)).2 p)
          rw [← h3]
          exact tI_i h2 S2 p hp
        · rw [va_up_self]
          by_cases e : m = k
          · rw [e, pk_us]; unfold zc; rw [← h3]
          · rw [pk_un e]; exact S3 m (by omega)
  | succ f ih =>
    intro i j I h1 h2 h3 hS
    obtain ⟨S1, S2, S3⟩ := id hS
    obtain ⟨t1, t2⟩ := w4 i j h1 h2
    obtain ⟨v1, v2, v3, v4, v5⟩ := hW _ t1
    have t2 : Dn n (rkn n (zs n (fun z => Dn n (rkn n z)) y k)) ≤ Dn n (rkn n (tI (zs n (fun z => Dn n (rkn n z)) y k) i j)) + 1 := t2
    have v2 : Dn n (rkn n (tI (zs n (fun z => Dn n (rkn n z)) y k) i j)) ≤ 7 := v2
    refine mw_iload_n dc_Mo_scenario_91 rfl 2 rfl ?_
    refine mi_if_le (tgt := 227) dc_Mo_scenario_92 (by decide) (iB_mk (by omega) (by omega)) (fun hh => ?_) (fun hh => ?_)
    · exact absurd hh (by omega)
    · refine mw_aload_n dc_Mo_scenario_95 rfl 3 rfl ?_
      refine mi_get (ci := 5) (k := 16) dc_Mo_scenario_96 rfl wi_Mo rfl rfl (by decide) fl_Mo_45 ((fu_n2 V0 _ (by decide)).trans hM.2.2.2.2.2.2.2.2.2.1) ?_
      refine mi_const dc_Mo_scenario_99 ?_
      refine mw_iload dc_Mo_scenario_100 1 rfl ?_
      refine mw_iload dc_Mo_scenario_102 0 rfl ?_
      refine mz_S4 (M2 := mt_Mo_turn) dc_Mo_scenario_104 ml_Mo_91 rfl ny_Mo_turn (by decide) (Nat.le_of_ble_eq_true rfl) (ev_moturn (sh := wd_S ++ cs) (a := 49) (n := 6) (s := 0) (i := i) (j := j) rfl (by omega) (by decide) h1) (fun v h1 hY => ?_)
      obtain ⟨hv9, rfl⟩ := hY
      cases hv9
      rw [show tu_f (I 49) (0 + i) (0 + j) = tu_f (I 49) i j by rw [Nat.zero_add, Nat.zero_add]]
      refine mw_aload_n dc_Mo_scenario_107 rfl 3 rfl ?_
      refine mi_get (ci := 5) (k := 13) dc_Mo_scenario_108 rfl wi_Mo rfl rfl (by decide) fl_Mo_34 ((fu_n2 V0 _ (by decide)).trans hM.2.2.2.2.2.2.1) ?_
      refine mw_aload_n dc_Mo_scenario_111 rfl 3 rfl ?_
      refine mi_get (ci := 5) (k := 11) dc_Mo_scenario_112 rfl wi_Mo rfl rfl (by decide) fl_Mo_95 ((fu_n2 V0 _ (by decide)).trans hb) ?_
      refine mw_aload_n dc_Mo_scenario_115 rfl 3 rfl ?_
      refine mw_aload_n dc_Mo_scenario_116 rfl 3 rfl ?_
      refine mi_get (ci := 5) (k := 16) dc_Mo_scenario_117 rfl wi_Mo rfl rfl (by decide) fl_Mo_45 ((fu_n2 V0 _ (by decide)).trans hM.2.2.2.2.2.2.2.2.2.1) ?_
      refine mz_V1 (M2 := mt_Mo_rankOf) dc_Mo_scenario_120 ml_Mo_113 rfl rfl ny_Mo_rankOf (by decide) (Nat.le_of_ble_eq_true rfl) (ev_rankOf (u := tI (zs n (fun z => Dn n (rkn n z)) y k) i j) (a := 49) (na := 6) ((fu_n2 V0 _ (by decide)).trans hg) hn.2 rfl ⟨by omega, by decide⟩ (fun p hp => ⟨by rw [va_up_self]; exact tI_i h2 S2 p hp, v1 p hp⟩)) (fun v h1 hY => ?_)
      obtain ⟨hv9, rfl⟩ := hY
      cases hv9
      rw [show iI ((rk (tI (zs n (fun z => Dn n (rkn n z)) y k) i j) n n * 2 ^ n + sn (tI (zs n (fun z => Dn n (rkn n z)) y k) i j) n : Nat) : Int) = iI ((rkn n (tI (zs n (fun z => Dn n (rkn n z)) y k) i j) : Nat) : Int) from rfl]
      refine mi_iadd dc_Mo_scenario_123 ?_
      refine mi_iald dc_Mo_scenario_124 rfl ⟨by omega, by omega, by decide⟩ (v := iI (Dn n (rkn n (tI (zs n (fun z => Dn n (rkn n z)) y k) i j)) : Nat)) (by rw [show ((bs_f n : Int) + (rkn n (tI (zs n (fun z => Dn n (rkn n z)) y k) i j) : Nat)).toNat = bs_f n + rkn n (tI (zs n (fun z => Dn n (rkn n z)) y k) i j) by omega, va_up_ne _ _ (by decide), S1 46 (by decide) (by decide)]; exact hf _ v3) ?_
      refine mw_iload_n dc_Mo_scenario_125 rfl 2 rfl ?_
      refine mi_icmp_ge (tgt := 168) dc_Mo_scenario_126 (by decide) (iB_mk (by omega) (by omega)) (iB_mk (by omega) (by omega)) (fun hc => ?_) (fun hc => ?_)
      · have hq : ¬ qz (fun z => Dn n (rkn n z)) (zs n (fun z => Dn n (rkn n z)) y k) i j = true := fun q => by
          have q : Dn n (rkn n (tI (zs n (fun z => Dn n (rkn n z)) y k) i j)) + 1 = Dn n (rkn n (zs n (fun z => Dn n (rkn n z)) y k)) := of_decide_eq_true q
          omega
        refine mw_aload_n dc_Mo_scenario_168 rfl 3 rfl ?_
        refine mi_get (ci := 5) (k := 16) dc_Mo_scenario_169 rfl wi_Mo rfl rfl (by decide) fl_Mo_45 ((fu_n2 V0 _ (by decide)).trans hM.2.2.2.2.2.2.2.2.2.1) ?_
        refine mi_const dc_Mo_scenario_172 ?_
        refine mw_iload dc_Mo_scenario_173 1 rfl ?_
        refine mw_iload dc_Mo_scenario_175 0 rfl ?_
        refine mz_S4 (M2 := mt_Mo_turn) dc_Mo_scenario_177 ml_Mo_91 rfl ny_Mo_turn (by decide) (Nat.le_of_ble_eq_true rfl) (ev_moturn (sh := wd_S ++ cs) (a := 49) (n := 6) (s := 0) (i := i) (j := j) rfl (by omega) (by decide) h1) (fun v h1 hY => ?_)
        obtain ⟨hv9, rfl⟩ := hY
        cases hv9
        refine mw_h (h' := (wd_S ++ cs, I, J, F, _)) (by rw [va_up_self, up_up, Nat.zero_add, Nat.zero_add, tu_tu, up_id]) ?_
        rw [sq_f hq] at h3
        refine mw_iload dc_Mo_scenario_180 0 rfl ?_
        refine mi_const dc_Mo_scenario_182 ?_
        refine mi_iadd dc_Mo_scenario_183 ?_
        refine mw_aload_n dc_Mo_scenario_184 rfl 3 rfl ?_
        refine mi_get (ci := 5) (k := 1) dc_Mo_scenario_185 rfl wi_Mo rfl rfl (by decide) fl_Mo_7 ((fu_n2 V0 _ (by decide)).trans hg) ?_
        refine mi_icmp_ne (tgt := 198) dc_Mo_scenario_188 (by decide) (iB_mk (by omega) (by omega)) (iB_mk (by omega) (by omega)) (fun h0188 => ?_) (fun h0188 => ?_)
        · refine mw_iload dc_Mo_scenario_198 1 rfl ?_
          refine mw_istore dc_Mo_scenario_200 (by decide) rfl ?_
          refine mw_iload dc_Mo_scenario_202 1 rfl ?_
          refine mi_const dc_Mo_scenario_204 ?_
          refine mi_iadd dc_Mo_scenario_205 ?_
          refine mw_aload_n dc_Mo_scenario_206 rfl 3 rfl ?_
          refine mi_get (ci := 5) (k := 1) dc_Mo_scenario_207 rfl wi_Mo rfl rfl (by decide) fl_Mo_7 ((fu_n2 V0 _ (by decide)).trans hg) ?_
          refine mi_icmp_ne (tgt := 218) dc_Mo_scenario_210 (by decide) (iB_mk (by omega) (by omega)) (iB_mk (by omega) (by omega)) (fun h9210 => ?_) (fun h9210 => ?_)
          · refine mw_iload dc_Mo_scenario_218 1 rfl ?_
            refine mi_const dc_Mo_scenario_220 ?_
            refine mi_iadd dc_Mo_scenario_221 ?_
            refine mw_istore dc_Mo_scenario_222 (by decide) rfl ?_
            refine mw_goto (tgt := 91) dc_Mo_scenario_224 (by decide) ?_
            refine mw_pick [0, 1, 2, 3] rfl ?_
            have e9 : nx n i j = (i, j + 1) := if_neg (by omega)
            rw [e9] at h3
            exact ih i (j + 1) I (by omega) (by omega) h3 hS
          · exfalso; omega
        · refine mw_iload dc_Mo_scenario_191 1 rfl ?_
          refine mi_const dc_Mo_scenario_193 ?_
          refine mi_iadd dc_Mo_scenario_194 ?_
          refine mw_goto (tgt := 200) dc_Mo_scenario_195 (by decide) ?_
          refine mw_istore dc_Mo_scenario_200 (by decide) rfl ?_
          refine mw_iload dc_Mo_scenario_202 1 rfl ?_
          refine mi_const dc_Mo_scenario_204 ?_
          refine mi_iadd dc_Mo_scenario_205 ?_
          refine mw_aload_n dc_Mo_scenario_206 rfl 3 rfl ?_
          refine mi_get (ci := 5) (k := 1) dc_Mo_scenario_207 rfl wi_Mo rfl rfl (by decide) fl_Mo_7 ((fu_n2 V0 _ (by decide)).trans hg) ?_
          refine mi_icmp_ne (tgt := 218) dc_Mo_scenario_210 (by decide) (iB_mk (by omega) (by omega)) (iB_mk (by omega) (by omega)) (fun h9210 => ?_) (fun h9210 => ?_)
          · exfalso; omega
          · refine mw_iload dc_Mo_scenario_213 0 rfl ?_
            refine mw_goto (tgt := 222) dc_Mo_scenario_215 (by decide) ?_
            refine mw_istore dc_Mo_scenario_222 (by decide) rfl ?_
            refine mw_goto (tgt := 91) dc_Mo_scenario_224 (by decide) ?_
            refine mw_pick [0, 1, 2, 3] rfl ?_
            have e9 : nx n i j = (i + 1, i + 1) := if_pos (by omega)
            rw [e9] at h3
            have g9 := sq_ge (n := n) (Q := qz (fun z => Dn n (rkn n z)) (zs n (fun z => Dn n (rkn n z)) y k)) f (i + 1) (i + 1)
            have h3' : sq n (qz (fun z => Dn n (rkn n z)) (zs n (fun z => Dn n (rkn n z)) y k)) f (i + 1) (i + 1) = sz n (fun z => Dn n (rkn n z)) (zs n (fun z => Dn n (rkn n z)) y k) := h3
            rw [h3'] at g9
            exact ih (i + 1) (i + 1) I (by omega) (by omega) h3' hS
      · have hq : qz (fun z => Dn n (rkn n z)) (zs n (fun z => Dn n (rkn n z)) y k) i j = true := decide_eq_true (by show Dn n (rkn n (tI (zs n (fun z => Dn n (rkn n z)) y k) i j)) + 1 = Dn n (rkn n (zs n (fun z => Dn n (rkn n z)) y k)); omega)
        rw [sq_t hq] at h3
        refine mi_iinc dc_Mo_scenario_129 2 rfl (by decide) rfl ?_
        refine mw_aload_n dc_Mo_scenario_132 rfl 3 rfl ?_
        refine mi_get (ci := 5) (k := 9) dc_Mo_scenario_133 rfl wi_Mo rfl rfl (by decide) fl_Mo_26 ((fu_n2 V0 _ (by decide)).trans hM.2.2.2.2.1) ?_
        refine mw_aload_n dc_Mo_scenario_136 rfl 3 rfl ?_
        refine mi_get (ci := 5) (k := 8) dc_Mo_scenario_137 rfl wi_Mo rfl rfl (by decide) fl_Mo_158 (fu_at V0 39 8 _) ?_
        refine mi_bipush dc_Mo_scenario_140 (by decide) ?_
        refine mw_iload dc_Mo_scenario_142 2 rfl ?_
        refine mi_imul dc_Mo_scenario_144 ?_
        refine mw_iload dc_Mo_scenario_145 1 rfl ?_
        refine mi_iadd dc_Mo_scenario_147 ?_
        refine mi_iast dc_Mo_scenario_148 rfl ⟨by omega, by omega, by decide⟩ (I' := va_up (va_up I 49 (tu_f (I 49) i j)) 44 (upd (I 44) k (iI (10 * (i : Int) + (j : Int))))) (by rw [Int.toNat_natCast, va_up_ne _ _ (by decide)]) ?_
        refine mw_aload_n dc_Mo_scenario_149 rfl 3 rfl ?_
        refine mw_dup dc_Mo_scenario_150 rfl ?_
        refine mi_get (ci := 5) (k := 8) dc_Mo_scenario_151 rfl wi_Mo rfl rfl (by decide) fl_Mo_158 (fu_at V0 39 8 _) ?_
        refine mi_const dc_Mo_scenario_154 ?_
        refine mi_iadd dc_Mo_scenario_155 ?_
        refine mi_puti (ci := 5) (k := 8) dc_Mo_scenario_156 rfl wi_Mo tk_Mo nm_Mo rfl rfl (by decide) fl_Mo_158 rfl (by decide +kernel) (fu_fu V0 39 8 _ _) ?_
        refine mi_const dc_Mo_scenario_159 ?_
        refine mw_istore dc_Mo_scenario_160 (by decide) rfl ?_
        refine mi_const dc_Mo_scenario_162 ?_
        refine mw_istore dc_Mo_scenario_163 (by decide) rfl ?_
        refine mw_goto (tgt := 91) dc_Mo_scenario_165 (by decide) ?_
        refine mw_pick [0, 1, 2, 3] rfl ?_
        rw [show (((Dn n (rkn n y)) - k : Nat) : Int) + -1 = (((Dn n (rkn n y)) - (k + 1) : Nat) : Int) by omega]
        refine hx _ ⟨fun a a1 a2 => ?_, fun p hp => ?_, fun m hm => ?_⟩
        · rw [va_up_ne _ _ a1, va_up_ne _ _ a2]; exact S1 a a1 a2
        · rw [va_up_ne _ _ (by decide), va_up_self]
          show _ = iI (tI (zs n (fun z => Dn n (rkn n z)) y k) (sz n (fun z => Dn n (rkn n z)) (zs n (fun z => Dn n (rkn n z)) y k)).1 (sz n (fun z => Dn n (rkn n z)) (zs n (fun z => Dn n (rkn n z)) y k)).2 p)
          rw [← h3]
          exact tI_i h2 S2 p hp
        · rw [va_up_self]
          by_cases e : m = k
          · rw [e, pk_us]; unfold zc; rw [← h3]
          · rw [pk_un e]; exact S3 m (by omega)
theorem lp_sc0 {G : mm_G} {d bc bs : Nat} {cs : mm_Sh} {J : Nat → Nat → Int64} {F : Nat → Nat → Option Nat} {I0 : Nat → Nat → Int32} {V0 : Nat → Nat → Value} {n : Nat} {Dn : Nat → Nat → Nat} {R : (Nat → Int) → Prop} {y : Nat → Int} {X : mm_X} (hM : mo_V V0) (hg : V0 39 1 = .int (iI n)) (hb : V0 39 11 = .int (iI (bs_f n : Nat))) (hn : 1 ≤ n ∧ n ≤ 6) (hf : ∀ k, k < oc_f n → I0 46 (bs_f n + k) = iI (Dn n k : Nat)) (hW : rw_H n (fun z => Dn n (rkn n z)) R) (hR : R y) (hx : ∀ I, sc_R n (fun z => Dn n (rkn n z)) y I0 I (Dn n (rkn n y)) → X (.inl (some (.int (iI (Dn n (rkn n y) : Nat))))) (wd_S ++ cs, I, J, F, fu V0 39 8 (.int (iI (Dn n (rkn n y) : Nat))))) :
    ∀ (m k : Nat) I, Dn n (rkn n y) - k < m → k ≤ Dn n (rkn n y) → sc_R n (fun z => Dn n (rkn n z)) y I0 I k → mW G mt_Mo_scenario (d + 1) bc bs 91 [(5, .int (iI (0 : Nat))), (4, .int (iI (0 : Nat))), (3, .int (iI (((Dn n (rkn n y)) - k : Nat) : Int))), (0, .ref 39)] [] (wd_S ++ cs, I, J, F, fu V0 39 8 (.int (iI (k : Nat)))) X := by
  have hy7 : Dn n (rkn n y) ≤ 7 := (hW y hR).2.1
  intro m
  induction m with
  | zero => intro k I h1; exact absurd h1 (Nat.not_lt_zero _)
  | succ m ih =>
    intro k I h1 h2 hS
    by_cases e : k = Dn n (rkn n y)
    · subst e
      refine mw_iload_n dc_Mo_scenario_91 rfl 2 rfl ?_
      refine mi_if_le (tgt := 227) dc_Mo_scenario_92 (by decide) (iB_mk (by omega) (by omega)) (fun hh => ?_) (fun hh => ?_)
      · refine mw_aload_n dc_Mo_scenario_227 rfl 3 rfl ?_
        refine mi_get (ci := 5) (k := 8) dc_Mo_scenario_228 rfl wi_Mo rfl rfl (by decide) fl_Mo_158 (fu_at V0 39 8 _) ?_
        exact mw_iret dc_Mo_scenario_231 rfl rfl (hx I hS)
      · exact absurd hh (by omega)
    · exact lp_sc1 hM hg hb hn hf hW hR (by omega) (fun I hS2 => ih (k + 1) I (by omega) (by omega) hS2) 60 0 0 I (by omega) (by omega) rfl hS
def mp_k (I K : Nat → Nat → Int32) : Prop := ∀ a, a ≠ 44 → a ≠ 45 → a ≠ 46 → a ≠ 47 → (a < 49 ∨ 57 < a) → K a = I a
def mu_k (V V1 : Nat → Nat → Value) : Prop := ∀ a j, ¬ (a = 39 ∧ (j = 0 ∨ j = 7 ∨ j = 8 ∨ j = 11 ∨ j = 12)) → V1 a j = V a j
theorem ev_moscenario {G : mm_G} {d : Nat} {cs : mm_Sh} {I : Nat → Nat → Int32} {J : Nat → Nat → Int64} {F : Nat → Nat → Option Nat} {V : Nat → Nat → Value} {n : Nat} {Dn Wn : Nat → Nat → Nat} (hM : mo_V V) (hg : V 39 1 = .int (iI n)) (hn : 1 ≤ n ∧ n ≤ 6) (hT : mk_T Dn Wn I J) (hH : bf_H n (oc_f n) (nbr n) (Dn n) (Wn n)) (hD : ∀ k, k < oc_f n → Dn n k ≤ 100) {x z : Int} {u : Nat → Nat → Int} {y : Nat → Nat → Nat → Int} (hO : mo_Q I n u y) (hx : iB x) (hz : iB z) {R : (Nat → Int) → Prop} (hW : rw_H n (fun z => Dn n (rkn n z)) R) (hR : ∀ a b, a < 5 → b < 5 → R (y a b)) : mE G mt_Mo_scenario (d + 3) 0 0 [.ref 39, .int (iI x), .int (iI z)] (wd_S ++ cs, I, J, F, V) (fun o h1 => (¬ (okS x ∧ okS z) → o = .inl (some (.int (iI 0))) ∧ h1 = (wd_S ++ cs, I, J, F, fu V 39 0 (.int (iI 1)))) ∧ ((okS x ∧ okS z) → o = .inl (some (.int (iI (Dn n (rkn n (y x.toNat z.toNat)) : Nat)))) ∧ ∃ (I1 : Nat → Nat → Int32) (J1 : Nat → Nat → Int64) (V1 : Nat → Nat → Value), h1 = (wd_S ++ cs, I1, J1, F, V1) ∧ mp_k I I1 ∧ (∀ m, m < Dn n (rkn n (y x.toNat z.toNat)) → I1 44 m = iI (zc n (fun z => Dn n (rkn n z)) (y x.toNat z.toNat) m)) ∧ (∀ a, a ≠ 48 → J1 a = J a) ∧ mk_T Dn Wn I1 J1 ∧ mu_k V V1 ∧ V1 39 0 = .int (iI 0) ∧ V1 39 7 = .int (iI 1) ∧ V1 39 8 = .int (iI (Dn n (rkn n (y x.toNat z.toNat)) : Nat)))) := by
  refine mE_intro (by decide) (fun k9 h q => ?_) (Nat.le_of_ble_eq_true rfl) ?_
  · by_cases r1 : okS x ∧ okS z
    · exact nomatch (q.2 r1).1
    · exact nomatch (q.1 r1).1
  show mW G mt_Mo_scenario (d + 3) 0 0 0 [(0, .ref 39), (1, .int (iI x)), (2, .int (iI z))] [] (wd_S ++ cs, I, J, F, V) _
  refine mw_aload_n dc_Mo_scenario_0 rfl 0 rfl ?_
  refine mw_iload_n dc_Mo_scenario_1 rfl 1 rfl ?_
  refine mz_S1 (M2 := mt_Mo_noSlot) dc_Mo_scenario_2 ml_Mo_87 rfl ny_Mo_noSlot (by decide) (Nat.le_of_ble_eq_true rfl) (ev_noSlot hx) (fun v h1 hY => ?_)
  obtain ⟨hv9, rfl⟩ := hY
  cases hv9
  refine mw_if_ne (tgt := 15) dc_Mo_scenario_5 (by decide) (fun h05 => ?_) (fun h05 => ?_)
  · refine mi_const dc_Mo_scenario_15 ?_
    refine mw_goto (tgt := 20) dc_Mo_scenario_16 (by decide) ?_
    refine mi_puti (ci := 5) (k := 0) dc_Mo_scenario_20 rfl wi_Mo tk_Mo nm_Mo rfl rfl (by decide) fl_Mo_75 rfl (by decide +kernel) (show va_up V 39 (va_up (V 39) 0 (.int (iI 1))) = fu V 39 0 (.int (iI 1)) from rfl) ?_
    refine mw_aload_n dc_Mo_scenario_23 rfl 0 rfl ?_
    refine mi_get (ci := 5) (k := 0) dc_Mo_scenario_24 rfl wi_Mo rfl rfl (by decide) fl_Mo_75 (fu_at V 39 0 _) ?_
    have hs : ¬ (okS x ∧ okS z) := fun q => Decidable.not_not.mp (fun q => h05 (bo_0.mpr q)) q.1
    refine mi_if_le (tgt := 32) dc_Mo_scenario_27 (by decide) (iB_mk (by omega) (by omega)) (fun hw => ?_) (fun hw => ?_)
    · exact absurd hw (by decide)
    · refine mi_const dc_Mo_scenario_30 ?_
      exact mw_iret dc_Mo_scenario_31 rfl rfl ⟨fun _ => ⟨rfl, rfl⟩, fun q => absurd q hs⟩
  · refine mw_iload_n dc_Mo_scenario_8 rfl 2 rfl ?_
    refine mz_S1 (M2 := mt_Mo_noSlot) dc_Mo_scenario_9 ml_Mo_87 rfl ny_Mo_noSlot (by decide) (Nat.le_of_ble_eq_true rfl) (ev_noSlot hz) (fun v h1 hY => ?_)
    obtain ⟨hv9, rfl⟩ := hY
    cases hv9
    refine mw_if_eq (tgt := 19) dc_Mo_scenario_12 (by decide) (fun h112 => ?_) (fun h112 => ?_)
    · refine mi_const dc_Mo_scenario_19 ?_
      refine mi_puti (ci := 5) (k := 0) dc_Mo_scenario_20 rfl wi_Mo tk_Mo nm_Mo rfl rfl (by decide) fl_Mo_75 rfl (by decide +kernel) (show va_up V 39 (va_up (V 39) 0 (.int (iI 0))) = fu V 39 0 (.int (iI 0)) from rfl) ?_
      refine mw_aload_n dc_Mo_scenario_23 rfl 0 rfl ?_
      refine mi_get (ci := 5) (k := 0) dc_Mo_scenario_24 rfl wi_Mo rfl rfl (by decide) fl_Mo_75 (fu_at V 39 0 _) ?_
      have hs1 : okS x := Decidable.not_not.mp (bo_0.mp h05)
      have hs2 : okS z := Decidable.not_not.mp (bo_0.mp h112)
      have hs : okS x ∧ okS z := ⟨hs1, hs2⟩
      obtain ⟨a, rfl⟩ := Int.eq_ofNat_of_zero_le hs1.1
      obtain ⟨b, rfl⟩ := Int.eq_ofNat_of_zero_le hs2.1
      have ha : a < 5 := by have := hs1.2; omega
      have hb : b < 5 := by have := hs2.2; omega
      refine mi_if_le (tgt := 32) dc_Mo_scenario_27 (by decide) (iB_mk (by omega) (by omega)) (fun hw => ?_) (fun hw => ?_)
      · refine mw_aload_n dc_Mo_scenario_32 rfl 0 rfl ?_
        refine mz_V0 (M2 := mt_Mo_makeTable) dc_Mo_scenario_33 ml_Mo_117 rfl rfl ny_Mo_makeTable (by decide) (Nat.le_of_ble_eq_true rfl) (ev_makeTable (mo_fu _ hM (Or.inl rfl)) ((fu_n2 V _ (by decide)).trans hg) hn hT hH hD) (fun v h1 hY => ?_)
        obtain ⟨hv9, I1, J1, V1, rfl, m1, m2, m3, m4, m5, m6, m7, m8, m9, m10⟩ := hY
        cases hv9
        have hM1 := mv_M m7 (mo_fu _ hM (Or.inl rfl))
        have hg1 := (m7 39 1 (by omega)).trans ((fu_n2 V _ (by decide)).trans hg)
        have hN2 := bq_b n (by omega)
        have hy := hO.2 a b ha hb
        have hy2 := hy.2
        refine mw_aload_n dc_Mo_scenario_36 rfl 0 rfl ?_
        refine mw_aload_n dc_Mo_scenario_37 rfl 0 rfl ?_
        refine mi_get (ci := 5) (k := 2) dc_Mo_scenario_38 rfl wi_Mo rfl rfl (by decide) fl_Mo_13 hM1.1 ?_
        refine mi_bipush dc_Mo_scenario_41 (by decide) ?_
        refine mw_iload_n dc_Mo_scenario_43 rfl 1 rfl ?_
        refine mi_imul dc_Mo_scenario_44 ?_
        refine mw_aload_n dc_Mo_scenario_45 rfl 0 rfl ?_
        refine mi_get (ci := 5) (k := 2) dc_Mo_scenario_46 rfl wi_Mo rfl rfl (by decide) fl_Mo_13 hM1.1 ?_
        refine mi_bipush dc_Mo_scenario_49 (by decide) ?_
        refine mw_iload_n dc_Mo_scenario_51 rfl 2 rfl ?_
        refine mi_imul dc_Mo_scenario_52 ?_
        rw [show (6 * (a : Int)) = ((6 * a : Nat) : Int) by omega, show (6 * (b : Int)) = ((6 * b : Nat) : Int) by omega]
        refine mz_V4 (M2 := mt_Mo_relate) dc_Mo_scenario_53 ml_Mo_120 rfl rfl ny_Mo_relate (by decide) (Nat.le_of_ble_eq_true rfl) (ev_morelate hM1 hg1 hn.2 ⟨rfl, by decide⟩ ⟨rfl, by decide⟩ ⟨by omega, by decide⟩ ⟨by omega, by decide⟩ (fun p hp => by rw [m1 40 (by decide) (by decide) (by decide) (by decide)]; exact hO.1 a ha p hp) (fun p hp => by rw [m1 40 (by decide) (by decide) (by decide) (by decide)]; exact hO.1 b hb p hp)) (fun v h1 hY => ?_)
        obtain ⟨hv9, rfl⟩ := hY
        cases hv9
        refine mw_aload_n dc_Mo_scenario_56 rfl 0 rfl ?_
        refine mi_const dc_Mo_scenario_57 ?_
        refine mi_putz (ci := 5) (k := 7) dc_Mo_scenario_58 rfl wi_Mo tk_Mo nm_Mo rfl rfl (by decide) fl_Mo_78 rfl (by decide +kernel) (by decide) (show va_up V1 39 (va_up (V1 39) 7 (.int (iI 1))) = fu V1 39 7 (.int (iI 1)) from rfl) ?_
        have hM2 : mo_V (fu V1 39 7 (.int (iI 1))) := mo_fu _ hM1 (by omega)
        have hg2 : fu V1 39 7 (.int (iI 1)) 39 1 = .int (iI n) := (fu_n2 V1 _ (by decide)).trans hg1
        have hb2 : fu V1 39 7 (.int (iI 1)) 39 11 = .int (iI (bs_f n : Nat)) := (fu_n2 V1 _ (by decide)).trans m8
        refine mw_aload_n dc_Mo_scenario_61 rfl 0 rfl ?_
        refine mi_const dc_Mo_scenario_62 ?_
        refine mi_puti (ci := 5) (k := 8) dc_Mo_scenario_63 rfl wi_Mo tk_Mo nm_Mo rfl rfl (by decide) fl_Mo_158 rfl (by decide +kernel) (show va_up (fu V1 39 7 (.int (iI 1))) 39 (va_up ((fu V1 39 7 (.int (iI 1))) 39) 8 (.int (iI 0))) = fu (fu V1 39 7 (.int (iI 1))) 39 8 (.int (iI ((0 : Nat) : Int))) from rfl) ?_
        refine mw_aload_n dc_Mo_scenario_66 rfl 0 rfl ?_
        refine mi_get (ci := 5) (k := 13) dc_Mo_scenario_67 rfl wi_Mo rfl rfl (by decide) fl_Mo_34 ((fu_n2 _ _ (by decide)).trans hM2.2.2.2.2.2.2.1) ?_
        refine mw_aload_n dc_Mo_scenario_70 rfl 0 rfl ?_
        refine mi_get (ci := 5) (k := 11) dc_Mo_scenario_71 rfl wi_Mo rfl rfl (by decide) fl_Mo_95 ((fu_n2 _ _ (by decide)).trans hb2) ?_
        refine mw_aload_n dc_Mo_scenario_74 rfl 0 rfl ?_
        refine mw_aload_n dc_Mo_scenario_75 rfl 0 rfl ?_
        refine mi_get (ci := 5) (k := 16) dc_Mo_scenario_76 rfl wi_Mo rfl rfl (by decide) fl_Mo_45 ((fu_n2 _ _ (by decide)).trans hM2.2.2.2.2.2.2.2.2.2.1) ?_
        refine mz_V1 (M2 := mt_Mo_rankOf) dc_Mo_scenario_79 ml_Mo_113 rfl rfl ny_Mo_rankOf (by decide) (Nat.le_of_ble_eq_true rfl) (ev_rankOf (u := y a b) (a := 49) (na := 6) ((fu_n2 _ _ (by decide)).trans hg2) hn.2 rfl ⟨by omega, by decide⟩ (fun p hp => by rw [va_up_self]; exact hy.1 _ p hp)) (fun v h1 hY => ?_)
        obtain ⟨hv9, rfl⟩ := hY
        cases hv9
        rw [show iI ((rk (y a b) n n * 2 ^ n + sn (y a b) n : Nat) : Int) = iI ((rkn n (y a b) : Nat) : Int) from rfl]
        refine mi_iadd dc_Mo_scenario_82 ?_
        refine mi_iald dc_Mo_scenario_83 rfl ⟨by omega, by omega, by decide⟩ (v := iI (Dn n (rkn n (y a b)) : Nat)) (by rw [show ((bs_f n : Int) + (rkn n (y a b) : Nat)).toNat = bs_f n + rkn n (y a b) by omega, va_up_ne _ _ (by decide)]; exact m5 _ hy.2) ?_
        refine mw_istore_n dc_Mo_scenario_84 rfl (by decide) rfl ?_
        refine mi_const dc_Mo_scenario_85 ?_
        refine mw_istore dc_Mo_scenario_86 (by decide) rfl ?_
        refine mi_const dc_Mo_scenario_88 ?_
        refine mw_istore dc_Mo_scenario_89 (by decide) rfl ?_
        refine mw_pick [0, 1, 2, 3] rfl ?_
        refine lp_sc0 (I0 := va_up I1 49 (mr_o (I1 49) (u a) (u b) n n)) (y := y a b) hM2 hg2 hb2 hn (fun k hk => by rw [va_up_ne _ _ (by decide)]; exact m5 k hk) hW (hR a b ha hb) (fun I2 hS => ?_) 20 0 _ (by have : Dn n (rkn n (y a b)) ≤ 7 := (hW _ (hR a b ha hb)).2.1; omega) (by omega) ⟨fun _ _ _ => rfl, fun p hp => by rw [va_up_self]; exact (hy.1 _ p hp).1, fun m hm => absurd hm (by omega)⟩
        obtain ⟨S1, S2, S3⟩ := hS
        refine ⟨fun q => absurd hs q, fun _ => ⟨rfl, I2, J1, _, rfl, fun a a1 a2 a3 a4 a5 => ?_, S3, m2, ?_, fun a j q => ?_, ?_, ?_, fu_at _ 39 8 _⟩⟩
        · rw [S1 a a1 (by omega), va_up_ne _ _ (by omega)]; exact m1 a a2 a3 a4 a5
        · intro m k1 k6
          rw [S1 45 (by decide) (by decide), S1 46 (by decide) (by decide)]
          exact mk_T49 _ (by decide) m3 m k1 k6
        · rw [fu_ne (fun r => q ⟨r.1, by omega⟩), fu_ne (fun r => q ⟨r.1, by omega⟩), m7 a j (fun r => q ⟨r.1, by omega⟩), fu_ne (fun r => q ⟨r.1, by omega⟩)]
        · rw [fu_n2 _ _ (by decide), fu_n2 _ _ (by decide), m9, fu_at]
        · rw [fu_n2 _ _ (by decide), fu_at]
      · exact absurd hw (by decide)
    · refine mi_const dc_Mo_scenario_15 ?_
      refine mw_goto (tgt := 20) dc_Mo_scenario_16 (by decide) ?_
      refine mi_puti (ci := 5) (k := 0) dc_Mo_scenario_20 rfl wi_Mo tk_Mo nm_Mo rfl rfl (by decide) fl_Mo_75 rfl (by decide +kernel) (show va_up V 39 (va_up (V 39) 0 (.int (iI 1))) = fu V 39 0 (.int (iI 1)) from rfl) ?_
      refine mw_aload_n dc_Mo_scenario_23 rfl 0 rfl ?_
      refine mi_get (ci := 5) (k := 0) dc_Mo_scenario_24 rfl wi_Mo rfl rfl (by decide) fl_Mo_75 (fu_at V 39 0 _) ?_
      have hs1 : okS x := Decidable.not_not.mp (bo_0.mp h05)
      have hs : ¬ (okS x ∧ okS z) := fun q => Decidable.not_not.mp (fun q => h112 (bo_0.mpr q)) q.2
      refine mi_if_le (tgt := 32) dc_Mo_scenario_27 (by decide) (iB_mk (by omega) (by omega)) (fun hw => ?_) (fun hw => ?_)
      · exact absurd hw (by decide)
      · refine mi_const dc_Mo_scenario_30 ?_
        exact mw_iret dc_Mo_scenario_31 rfl rfl ⟨fun _ => ⟨rfl, rfl⟩, fun q => absurd q hs⟩
