/-! the reference's spread: one step of the search -/
def lI (k : Nat) : Int64 := Int64.ofNat k
theorem lI_a (a b : Nat) : lI a + lI b = lI (a + b) := (Int64.ofNat_add a b).symm
def rkn (n : Nat) (u : Nat → Int) : Nat := rk u n n * 2 ^ n + sn u n
def tI (u : Nat → Int) (i j : Nat) : Nat → Int := fun p => if i ≤ p ∧ p ≤ j then -(u (i + j - p)) else u p
def nbr (n k i j : Nat) : Nat := rkn n (tI (ur n k) i j)
theorem tu_tu (f : Nat → Int32) (i j : Nat) : tu_f (tu_f f i j) i j = f := by
  funext k
  unfold tu_f
  by_cases h : i ≤ k ∧ k ≤ j
  · rw [if_pos h, if_pos (by omega), Int32.neg_neg, show i + j - (i + j - k) = k by omega]
  · rw [if_neg h, if_neg h]
theorem tI_i {f : Nat → Int32} {u : Nat → Int} {n i j : Nat} (hj : j < n) (h : ∀ p, p < n → f p = iI (u p)) : ∀ p, p < n → tu_f f i j p = iI (tI u i j p) := fun p hp => by
  unfold tu_f tI
  by_cases q : i ≤ p ∧ p ≤ j
  · rw [if_pos q, if_pos q, h _ (by omega), iI_neg]
  · rw [if_neg q, if_neg q, h p hp]
theorem tI_b {u : Nat → Int} {n i j : Nat} {b : Int} (hj : j < n) (h : ∀ p, p < n → -b ≤ u p ∧ u p ≤ b) : ∀ p, p < n → -b ≤ tI u i j p ∧ tI u i j p ≤ b := fun p hp => by
  unfold tI
  by_cases q : i ≤ p ∧ p ≤ j
  · rw [if_pos q]
    have := h (i + j - p) (by omega)
    omega
  · rw [if_neg q]
    exact h p hp
theorem oc_fa : ∀ n, n < 7 → oc_f n = 2 ^ n * fa n ∧ oc_f n ≤ 46080 ∧ 1 ≤ oc_f n := by decide +kernel
theorem oc_lt {n k : Nat} (hn : n ≤ 6) (hk : k < oc_f n) : k / 2 ^ n < fa n := by
  rw [(oc_fa n (by omega)).1] at hk
  exact Nat.div_lt_of_lt_mul hk
theorem ur_b {n k : Nat} (hn : n ≤ 6) (hk : k < oc_f n) : ∀ p, p < n → -100 ≤ ur n k p ∧ ur n k p ≤ 100 := fun p hp => by
  obtain ⟨-, g1, g2, -⟩ := ug_i hn (oc_lt hn hk) hp
  unfold ur
  split <;> omega
def bf_R (n N b : Nat) (I0 : Nat → Nat → Int32) (J0 : Nat → Nat → Int64) (V0 : Nat → Nat → Value) (fr : Nat → Int) (qu : Nat → Nat) (fd : Nat) (mn : Nat → Nat) (I : Nat → Nat → Int32) (J : Nat → Nat → Int64) (V : Nat → Nat → Value) : Prop :=
  (∀ a, a ≠ 46 → a ≠ 47 → a ≠ 50 → I a = I0 a) ∧ (∀ a, a ≠ 48 → J a = J0 a) ∧ (∀ k, k < N → I 46 (b + k) = iI (fr k)) ∧ (∀ x, (x < b ∨ b + N ≤ x) → I 46 x = I0 46 x) ∧ (∀ m, m < fd → I 47 m = iI (qu m : Nat)) ∧ (n ≤ 4 → ∀ k, k < N → J 48 (b + k) = lI (mn k)) ∧ (∀ x, (4 < n ∨ x < b ∨ b + N ≤ x) → J 48 x = J0 48 x) ∧ V = fu V0 39 12 (.int (iI (fd : Nat)))
def sp_S (n N b : Nat) (D W : Nat → Nat) (I0 : Nat → Nat → Int32) (J0 : Nat → Nat → Int64) (V0 : Nat → Nat → Value) (pc : Nat → Bool) (fs k x y : Nat) (I : Nat → Nat → Int32) (J : Nat → Nat → Int64) (V : Nat → Nat → Value) : Prop :=
  ∃ (fr : Nat → Int) (qu : Nat → Nat) (fd : Nat) (mn : Nat → Nat), bf_R n N b I0 J0 V0 fr qu fd mn I J V ∧ bf_I n N (nbr n) D W fr qu fd mn pc fs x y ∧ fs < fd ∧ qu fs = k ∧ ∀ p, p < n → I 50 p = iI (ur n k p)
theorem lp_sp2 {G : mm_G} {d bc bs : Nat} {cs : mm_Sh} {F : Nat → Nat → Option Nat} {I0 : Nat → Nat → Int32} {J0 : Nat → Nat → Int64} {V0 : Nat → Nat → Value} {n N b fs k i : Nat} {D W : Nat → Nat} {pc : Nat → Bool} {X : mm_X} (hM : mo_V V0) (hg : V0 39 1 = .int (iI n)) (hb : V0 39 11 = .int (iI b)) (hn : 1 ≤ n ∧ n ≤ 6) (hN : N = oc_f n) (hbN : b + N ≤ 50362 ∧ (n ≤ 4 → b + N ≤ 442)) (hH : bf_H n N (nbr n) D W) (hD : ∀ k, k < N → D k ≤ 100) (hk : k < N) {j : Nat} (hij : i ≤ j) (hj : j < n) (hx : ∀ I J V, sp_S n N b D W I0 J0 V0 pc fs k i (j + 1) I J V → mW G mt_Mo_spread (d + 1) bc bs 29 [(4, .int (iI ((j + 1 : Nat) : Int))), (3, .int (iI i)), (2, .int (iI k)), (1, .int (iI fs)), (0, .ref 39)] [] (wd_S ++ cs, I, J, F, V) X) :
    ∀ I J V (fr : Nat → Int) (qu : Nat → Nat) (fd : Nat) (mn : Nat → Nat), bf_R n N b I0 J0 V0 fr qu fd mn I J V → bf_I n N (nbr n) D W fr qu fd mn pc fs i j → fs < fd → qu fs = k → (∀ p, p < n → I 50 p = iI (ur n k p)) → 0 ≤ fr (nbr n k i j) → mW G mt_Mo_spread (d + 1) bc bs 131 [(5, .int (iI (nbr n k i j : Nat))), (4, .int (iI j)), (3, .int (iI i)), (2, .int (iI k)), (1, .int (iI fs)), (0, .ref 39)] [] (wd_S ++ cs, I, J, F, V) X := by
  intro I J V fr qu fd mn hR hI hf hq h50 hpos
  obtain ⟨R1, R2, R3, R4, R5, R6, R7, rfl⟩ := hR
  obtain ⟨c1, c2, c3, c4, c5, c6, c7, c8, c9, c10, c11, c12, c13⟩ := id hI
  have hN2 := (oc_fa n (by omega)).2
  obtain ⟨t1, t2, t3⟩ := hH.2.2.2.1 k hk i j hij hj
  have bt := c2 _ t1
  have bk := c2 _ hk
  have dk := hD _ hk
  have dt := hD _ t1
  have c3f := c3 fs hf
  rw [hq] at c3f
  have e1 : fr k = (D k : Nat) := by omega
  have e2 : fr (nbr n k i j) = (D (nbr n k i j) : Nat) := by omega
  have hm := bf_m hH hI hf hij hj (by rw [hq]; exact hpos)
  rw [hq] at hm
  refine mw_aload_n dc_Mo_spread_131 rfl 5 rfl ?_
  refine mi_get (ci := 5) (k := 1) dc_Mo_spread_132 rfl wi_Mo rfl rfl (by decide) fl_Mo_7 ((fu_n2 V0 _ (by decide)).trans hg) ?_
  refine mi_const dc_Mo_spread_135 ?_
  refine mi_icmp_gt (tgt := 203) dc_Mo_spread_136 (by decide) (iB_mk (by omega) (by omega)) (iB_mk (by omega) (by omega)) (fun h0136 => ?_) (fun h0136 => ?_)
  · refine mi_iinc dc_Mo_spread_203 1 rfl (by decide) rfl ?_
    refine mw_goto (tgt := 29) dc_Mo_spread_206 (by decide) ?_
    refine mw_pick [0, 2, 3, 4, 5] rfl ?_
    exact hx _ _ _ ⟨fr, qu, fd, _, ⟨R1, R2, R3, R4, R5, fun q => absurd q (by omega), R7, rfl⟩, hm, hf, hq, h50⟩
  · refine mw_aload_n dc_Mo_spread_139 rfl 5 rfl ?_
    refine mi_get (ci := 5) (k := 13) dc_Mo_spread_140 rfl wi_Mo rfl rfl (by decide) fl_Mo_34 ((fu_n2 V0 _ (by decide)).trans hM.2.2.2.2.2.2.1) ?_
    refine mw_aload_n dc_Mo_spread_143 rfl 5 rfl ?_
    refine mi_get (ci := 5) (k := 11) dc_Mo_spread_144 rfl wi_Mo rfl rfl (by decide) fl_Mo_95 ((fu_n2 V0 _ (by decide)).trans hb) ?_
    refine mw_iload dc_Mo_spread_147 0 rfl ?_
    refine mi_iadd dc_Mo_spread_149 ?_
    refine mi_iald dc_Mo_spread_150 rfl ⟨by omega, by omega, by decide⟩ (v := iI (fr (nbr n k i j))) (by rw [show ((b : Int) + ((nbr n k i j) : Nat)).toNat = b + (nbr n k i j) by omega]; exact R3 _ t1) ?_
    refine mw_aload_n dc_Mo_spread_151 rfl 5 rfl ?_
    refine mi_get (ci := 5) (k := 13) dc_Mo_spread_152 rfl wi_Mo rfl rfl (by decide) fl_Mo_34 ((fu_n2 V0 _ (by decide)).trans hM.2.2.2.2.2.2.1) ?_
    refine mw_aload_n dc_Mo_spread_155 rfl 5 rfl ?_
    refine mi_get (ci := 5) (k := 11) dc_Mo_spread_156 rfl wi_Mo rfl rfl (by decide) fl_Mo_95 ((fu_n2 V0 _ (by decide)).trans hb) ?_
    refine mw_iload_n dc_Mo_spread_159 rfl 3 rfl ?_
    refine mi_iadd dc_Mo_spread_160 ?_
    refine mi_iald dc_Mo_spread_161 rfl ⟨by omega, by omega, by decide⟩ (v := iI (fr k)) (by rw [show ((b : Int) + (k : Nat)).toNat = b + k by omega]; exact R3 _ hk) ?_
    refine mi_const dc_Mo_spread_162 ?_
    refine mi_iadd dc_Mo_spread_163 ?_
    refine mi_icmp_ne (tgt := 203) dc_Mo_spread_164 (by decide) (iB_mk (by omega) (by omega)) (iB_mk (by omega) (by omega)) (fun h1164 => ?_) (fun h1164 => ?_)
    · refine mi_iinc dc_Mo_spread_203 1 rfl (by decide) rfl ?_
      refine mw_goto (tgt := 29) dc_Mo_spread_206 (by decide) ?_
      refine mw_pick [0, 2, 3, 4, 5] rfl ?_
      rw [if_neg (by omega)] at hm
      exact hx _ _ _ ⟨fr, qu, fd, _, ⟨R1, R2, R3, R4, R5, R6, R7, rfl⟩, hm, hf, hq, h50⟩
    · refine mw_aload_n dc_Mo_spread_167 rfl 5 rfl ?_
      refine mi_get (ci := 5) (k := 15) dc_Mo_spread_168 rfl wi_Mo rfl rfl (by decide) fl_Mo_41 ((fu_n2 V0 _ (by decide)).trans hM.2.2.2.2.2.2.2.2.1) ?_
      refine mw_aload_n dc_Mo_spread_171 rfl 5 rfl ?_
      refine mi_get (ci := 5) (k := 11) dc_Mo_spread_172 rfl wi_Mo rfl rfl (by decide) fl_Mo_95 ((fu_n2 V0 _ (by decide)).trans hb) ?_
      refine mw_iload dc_Mo_spread_175 0 rfl ?_
      refine mi_iadd dc_Mo_spread_177 ?_
      refine mw_aload_n dc_Mo_spread_178 rfl 5 rfl ?_
      refine mi_get (ci := 5) (k := 15) dc_Mo_spread_179 rfl wi_Mo rfl rfl (by decide) fl_Mo_41 ((fu_n2 V0 _ (by decide)).trans hM.2.2.2.2.2.2.2.2.1) ?_
      refine mw_aload_n dc_Mo_spread_182 rfl 5 rfl ?_
      refine mi_get (ci := 5) (k := 11) dc_Mo_spread_183 rfl wi_Mo rfl rfl (by decide) fl_Mo_95 ((fu_n2 V0 _ (by decide)).trans hb) ?_
      refine mw_iload dc_Mo_spread_186 0 rfl ?_
      refine mi_iadd dc_Mo_spread_188 ?_
      refine mi_lald dc_Mo_spread_189 rfl ⟨by omega, by omega, by decide⟩ (v := lI (mn (nbr n k i j))) (by rw [show ((b : Int) + ((nbr n k i j) : Nat)).toNat = b + (nbr n k i j) by omega]; exact R6 (by omega) _ t1) ?_
      refine mw_aload_n dc_Mo_spread_190 rfl 5 rfl ?_
      refine mi_get (ci := 5) (k := 15) dc_Mo_spread_191 rfl wi_Mo rfl rfl (by decide) fl_Mo_41 ((fu_n2 V0 _ (by decide)).trans hM.2.2.2.2.2.2.2.2.1) ?_
      refine mw_aload_n dc_Mo_spread_194 rfl 5 rfl ?_
      refine mi_get (ci := 5) (k := 11) dc_Mo_spread_195 rfl wi_Mo rfl rfl (by decide) fl_Mo_95 ((fu_n2 V0 _ (by decide)).trans hb) ?_
      refine mw_iload_n dc_Mo_spread_198 rfl 3 rfl ?_
      refine mi_iadd dc_Mo_spread_199 ?_
      refine mi_lald dc_Mo_spread_200 rfl ⟨by omega, by omega, by decide⟩ (v := lI (mn k)) (by rw [show ((b : Int) + (k : Nat)).toNat = b + k by omega]; exact R6 (by omega) _ hk) ?_
      refine mw_ladd dc_Mo_spread_201 ?_
      refine mi_last dc_Mo_spread_202 rfl ⟨by omega, by omega, by decide⟩ (J' := va_up J 48 (vp_updL (J 48) (b + nbr n k i j) (lI (mn (nbr n k i j) + mn k)))) (by rw [show ((b : Int) + (nbr n k i j : Nat)).toNat = b + nbr n k i j by omega, lI_a]) ?_
      refine mi_iinc dc_Mo_spread_203 1 rfl (by decide) rfl ?_
      refine mw_goto (tgt := 29) dc_Mo_spread_206 (by decide) ?_
      refine mw_pick [0, 2, 3, 4, 5] rfl ?_
      rw [if_pos (by omega)] at hm
      refine hx _ _ _ ⟨fr, qu, fd, _, ⟨R1, fun a ha => ?_, R3, R4, R5, fun q e he => ?_, fun x hx9 => ?_, rfl⟩, hm, hf, hq, h50⟩
      · rw [va_up_ne _ _ ha]; exact R2 a ha
      · rw [va_up_self]
        by_cases e9 : e = nbr n k i j
        · rw [e9, pk_uLs, va_up_self]
        · rw [pk_uLn (by omega), va_up_ne _ _ e9]; exact R6 q e he
      · rw [va_up_self, pk_uLn (by omega)]
        exact R7 x hx9
theorem lp_sp1 {G : mm_G} {d bc bs : Nat} {cs : mm_Sh} {F : Nat → Nat → Option Nat} {I0 : Nat → Nat → Int32} {J0 : Nat → Nat → Int64} {V0 : Nat → Nat → Value} {n N b fs k i : Nat} {D W : Nat → Nat} {pc : Nat → Bool} {X : mm_X} (hM : mo_V V0) (hg : V0 39 1 = .int (iI n)) (hb : V0 39 11 = .int (iI b)) (hn : 1 ≤ n ∧ n ≤ 6) (hN : N = oc_f n) (hbN : b + N ≤ 50362 ∧ (n ≤ 4 → b + N ≤ 442)) (hH : bf_H n N (nbr n) D W) (hD : ∀ k, k < N → D k ≤ 100) (hk : k < N) (hi : i < n) (hx : ∀ I J V, sp_S n N b D W I0 J0 V0 pc fs k i n I J V → mW G mt_Mo_spread (d + 1) bc bs 209 [(3, .int (iI i)), (2, .int (iI k)), (1, .int (iI fs)), (0, .ref 39)] [] (wd_S ++ cs, I, J, F, V) X) :
    ∀ (m j : Nat) I J V, n - j < m → j ≤ n → i ≤ j → sp_S n N b D W I0 J0 V0 pc fs k i j I J V → mW G mt_Mo_spread (d + 1) bc bs 29 [(4, .int (iI j)), (3, .int (iI i)), (2, .int (iI k)), (1, .int (iI fs)), (0, .ref 39)] [] (wd_S ++ cs, I, J, F, V) X := by
  intro m
  induction m with
  | zero => intro j I J V h1; exact absurd h1 (Nat.not_lt_zero _)
  | succ m ih =>
    intro j I J V h1 h2 hij hS
    obtain ⟨fr, qu, fd, mn, ⟨R1, R2, R3, R4, R5, R6, R7, rfl⟩, hI, hf, hq, h50⟩ := id hS
    refine mw_iload dc_Mo_spread_29 0 rfl ?_
    refine mw_aload_n dc_Mo_spread_31 rfl 4 rfl ?_
    refine mi_get (ci := 5) (k := 1) dc_Mo_spread_32 rfl wi_Mo rfl rfl (by decide) fl_Mo_7 ((fu_n2 V0 _ (by decide)).trans hg) ?_
    refine mi_icmp_ge (tgt := 209) dc_Mo_spread_35 (by decide) (iB_mk (by omega) (by omega)) (iB_mk (by omega) (by omega)) (fun hh => ?_) (fun hh => ?_)
    · have e : j = n := by omega
      subst e
      refine mw_pick [1, 2, 3, 4] rfl ?_
      exact hx _ _ _ hS
    · have hj : j < n := by omega
      obtain ⟨c1, c2, c3, c4, c5, c6, c7, c8, c9, c10, c11, c12, c13⟩ := id hI
      have hN2 := (oc_fa n (by omega)).2
      obtain ⟨t1, t2, t3⟩ := hH.2.2.2.1 k hk i j hij hj
      have bt := c2 _ t1
      have bk := c2 _ hk
      have dk := hD _ hk
      have dt := hD _ t1
      have c3f := c3 fs hf
      rw [hq] at c3f
      have e1 : fr k = (D k : Nat) := by omega
      refine mw_aload_n dc_Mo_spread_38 rfl 4 rfl ?_
      refine mi_get (ci := 5) (k := 17) dc_Mo_spread_39 rfl wi_Mo rfl rfl (by decide) fl_Mo_48 ((fu_n2 V0 _ (by decide)).trans hM.2.2.2.2.2.2.2.2.2.2.1) ?_
      refine mi_const dc_Mo_spread_42 ?_
      refine mw_iload_n dc_Mo_spread_43 rfl 1 rfl ?_
      refine mw_iload dc_Mo_spread_44 0 rfl ?_
      refine mz_S4 (M2 := mt_Mo_turn) dc_Mo_spread_46 ml_Mo_91 rfl ny_Mo_turn (by decide) (Nat.le_of_ble_eq_true rfl) (ev_moturn (sh := wd_S ++ cs) (a := 50) (n := 6) (s := 0) (i := i) (j := j) rfl (by omega) (by decide) hij) (fun v h1 hY => ?_)
      obtain ⟨hv9, rfl⟩ := hY
      cases hv9
      refine mw_aload_n dc_Mo_spread_49 rfl 4 rfl ?_
      refine mw_aload_n dc_Mo_spread_50 rfl 4 rfl ?_
      refine mi_get (ci := 5) (k := 17) dc_Mo_spread_51 rfl wi_Mo rfl rfl (by decide) fl_Mo_48 ((fu_n2 V0 _ (by decide)).trans hM.2.2.2.2.2.2.2.2.2.2.1) ?_
      refine mz_V1 (M2 := mt_Mo_rankOf) dc_Mo_spread_54 ml_Mo_113 rfl rfl ny_Mo_rankOf (by decide) (Nat.le_of_ble_eq_true rfl) (ev_rankOf (u := tI (ur n k) i j) (a := 50) (na := 6) ((fu_n2 V0 _ (by decide)).trans hg) hn.2 rfl ⟨by omega, by decide⟩ (fun p hp => ⟨by rw [va_up_self, Nat.zero_add, Nat.zero_add]; exact tI_i hj h50 p hp, tI_b (b := 100) hj (ur_b hn.2 (by omega)) p hp⟩)) (fun v h1 hY => ?_)
      obtain ⟨hv9, rfl⟩ := hY
      cases hv9
      refine mw_istore dc_Mo_spread_57 (by decide) rfl ?_
      refine mw_aload_n dc_Mo_spread_59 rfl 5 rfl ?_
      refine mi_get (ci := 5) (k := 17) dc_Mo_spread_60 rfl wi_Mo rfl rfl (by decide) fl_Mo_48 ((fu_n2 V0 _ (by decide)).trans hM.2.2.2.2.2.2.2.2.2.2.1) ?_
      refine mi_const dc_Mo_spread_63 ?_
      refine mw_iload_n dc_Mo_spread_64 rfl 2 rfl ?_
      refine mw_iload dc_Mo_spread_65 1 rfl ?_
      refine mz_S4 (M2 := mt_Mo_turn) dc_Mo_spread_67 ml_Mo_91 rfl ny_Mo_turn (by decide) (Nat.le_of_ble_eq_true rfl) (ev_moturn (sh := wd_S ++ cs) (a := 50) (n := 6) (s := 0) (i := i) (j := j) rfl (by omega) (by decide) hij) (fun v h1 hY => ?_)
      obtain ⟨hv9, rfl⟩ := hY
      cases hv9
      refine mw_h (h' := (wd_S ++ cs, I, J, F, _)) (by rw [va_up_self, up_up, tu_tu, up_id]) ?_
      rw [show iI ((rk (tI (ur n k) i j) n n * 2 ^ n + sn (tI (ur n k) i j) n : Nat) : Int) = iI (nbr n k i j : Nat) from rfl]
      refine mw_aload_n dc_Mo_spread_70 rfl 5 rfl ?_
      refine mi_get (ci := 5) (k := 13) dc_Mo_spread_71 rfl wi_Mo rfl rfl (by decide) fl_Mo_34 ((fu_n2 V0 _ (by decide)).trans hM.2.2.2.2.2.2.1) ?_
      refine mw_aload_n dc_Mo_spread_74 rfl 5 rfl ?_
      refine mi_get (ci := 5) (k := 11) dc_Mo_spread_75 rfl wi_Mo rfl rfl (by decide) fl_Mo_95 ((fu_n2 V0 _ (by decide)).trans hb) ?_
      refine mw_iload dc_Mo_spread_78 0 rfl ?_
      refine mi_iadd dc_Mo_spread_80 ?_
      refine mi_iald dc_Mo_spread_81 rfl ⟨by omega, by omega, by decide⟩ (v := iI (fr (nbr n k i j))) (by rw [show ((b : Int) + ((nbr n k i j) : Nat)).toNat = b + (nbr n k i j) by omega]; exact R3 _ t1) ?_
      refine mi_if_ge (tgt := 131) dc_Mo_spread_82 (by decide) (iB_mk (by omega) (by omega)) (fun h082 => ?_) (fun h082 => ?_)
      · refine mw_pick [0, 1, 2, 3, 4, 5] rfl ?_
        exact lp_sp2 hM hg hb hn hN hbN hH hD hk hij hj (fun I J V hS => ih (j + 1) I J V (by omega) (by omega) (by omega) hS) _ _ _ fr qu fd mn ⟨R1, R2, R3, R4, R5, R6, R7, rfl⟩ hI hf hq h50 (by omega)
      · obtain ⟨d1, d2, d3⟩ := bf_d hH hI hf hij hj (by rw [hq]; omega)
        rw [hq] at d3
        refine mw_aload_n dc_Mo_spread_85 rfl 5 rfl ?_
        refine mi_get (ci := 5) (k := 13) dc_Mo_spread_86 rfl wi_Mo rfl rfl (by decide) fl_Mo_34 ((fu_n2 V0 _ (by decide)).trans hM.2.2.2.2.2.2.1) ?_
        refine mw_aload_n dc_Mo_spread_89 rfl 5 rfl ?_
        refine mi_get (ci := 5) (k := 11) dc_Mo_spread_90 rfl wi_Mo rfl rfl (by decide) fl_Mo_95 ((fu_n2 V0 _ (by decide)).trans hb) ?_
        refine mw_iload dc_Mo_spread_93 0 rfl ?_
        refine mi_iadd dc_Mo_spread_95 ?_
        refine mw_aload_n dc_Mo_spread_96 rfl 5 rfl ?_
        refine mi_get (ci := 5) (k := 13) dc_Mo_spread_97 rfl wi_Mo rfl rfl (by decide) fl_Mo_34 ((fu_n2 V0 _ (by decide)).trans hM.2.2.2.2.2.2.1) ?_
        refine mw_aload_n dc_Mo_spread_100 rfl 5 rfl ?_
        refine mi_get (ci := 5) (k := 11) dc_Mo_spread_101 rfl wi_Mo rfl rfl (by decide) fl_Mo_95 ((fu_n2 V0 _ (by decide)).trans hb) ?_
        refine mw_iload_n dc_Mo_spread_104 rfl 3 rfl ?_
        refine mi_iadd dc_Mo_spread_105 ?_
        refine mi_iald dc_Mo_spread_106 rfl ⟨by omega, by omega, by decide⟩ (v := iI (fr k)) (by rw [show ((b : Int) + (k : Nat)).toNat = b + k by omega]; exact R3 _ hk) ?_
        refine mi_const dc_Mo_spread_107 ?_
        refine mi_iadd dc_Mo_spread_108 ?_
        refine mi_iast dc_Mo_spread_109 rfl ⟨by omega, by omega, by decide⟩ (I' := va_up I 46 (upd (I 46) (b + nbr n k i j) (iI (fr k + 1)))) (by rw [show ((b : Int) + (nbr n k i j : Nat)).toNat = b + nbr n k i j by omega]) ?_
        refine mw_aload_n dc_Mo_spread_110 rfl 5 rfl ?_
        refine mi_get (ci := 5) (k := 14) dc_Mo_spread_111 rfl wi_Mo rfl rfl (by decide) fl_Mo_38 ((fu_n2 V0 _ (by decide)).trans hM.2.2.2.2.2.2.2.1) ?_
        refine mw_aload_n dc_Mo_spread_114 rfl 5 rfl ?_
        refine mi_get (ci := 5) (k := 12) dc_Mo_spread_115 rfl wi_Mo rfl rfl (by decide) fl_Mo_102 (fu_at V0 39 12 _) ?_
        refine mw_iload dc_Mo_spread_118 0 rfl ?_
        refine mi_iast dc_Mo_spread_120 rfl ⟨by omega, by omega, by decide⟩ (I' := va_up (va_up I 46 (upd (I 46) (b + nbr n k i j) (iI (fr k + 1)))) 47 (upd (I 47) fd (iI (nbr n k i j : Nat)))) (by rw [Int.toNat_natCast]; rfl) ?_
        refine mw_aload_n dc_Mo_spread_121 rfl 5 rfl ?_
        refine mw_dup dc_Mo_spread_122 rfl ?_
        refine mi_get (ci := 5) (k := 12) dc_Mo_spread_123 rfl wi_Mo rfl rfl (by decide) fl_Mo_102 (fu_at V0 39 12 _) ?_
        refine mi_const dc_Mo_spread_126 ?_
        refine mi_iadd dc_Mo_spread_127 ?_
        refine mi_puti (ci := 5) (k := 12) dc_Mo_spread_128 rfl wi_Mo tk_Mo nm_Mo rfl rfl (by decide) fl_Mo_102 rfl (by decide +kernel) (fu_fu V0 39 12 _ _) ?_
        refine mw_pick [0, 1, 2, 3, 4, 5] rfl ?_
        refine lp_sp2 hM hg hb hn hN hbN hH hD hk hij hj (fun I J V hS => ih (j + 1) I J V (by omega) (by omega) (by omega) hS) _ _ _ (va_up fr (nbr n k i j) (fr k + 1)) (va_up qu fd (nbr n k i j)) (fd + 1) mn ⟨fun a a1 a2 a3 => ?_, R2, fun e he => ?_, fun x hx9 => ?_, fun e he => ?_, R6, R7, rfl⟩ d3 (by omega) ?_ (fun p hp => ?_) ?_
        · rw [va_up_ne _ _ a2, va_up_ne _ _ a1]; exact R1 a a1 a2 a3
        · rw [va_up_ne _ _ (by decide), va_up_self]
          by_cases e9 : e = nbr n k i j
          · rw [e9, pk_us, va_up_self]
          · rw [pk_un (by omega), va_up_ne _ _ e9]; exact R3 e he
        · rw [va_up_ne _ _ (by decide), va_up_self, pk_un (by omega)]
          exact R4 x hx9
        · rw [va_up_self]
          by_cases e9 : e = fd
          · rw [e9, pk_us, va_up_self]
          · rw [pk_un e9, va_up_ne _ _ e9]; exact R5 e (by omega)
        · rw [va_up_ne _ _ (by omega)]; exact hq
        · rw [va_up_ne _ _ (by decide), va_up_ne _ _ (by decide)]; exact h50 p hp
        · rw [va_up_self]; omega
theorem lp_sp0 {G : mm_G} {d bc bs : Nat} {cs : mm_Sh} {F : Nat → Nat → Option Nat} {I0 : Nat → Nat → Int32} {J0 : Nat → Nat → Int64} {V0 : Nat → Nat → Value} {n N b fs k : Nat} {D W : Nat → Nat} {pc : Nat → Bool} {X : mm_X} (hM : mo_V V0) (hg : V0 39 1 = .int (iI n)) (hb : V0 39 11 = .int (iI b)) (hn : 1 ≤ n ∧ n ≤ 6) (hN : N = oc_f n) (hbN : b + N ≤ 50362 ∧ (n ≤ 4 → b + N ≤ 442)) (hH : bf_H n N (nbr n) D W) (hD : ∀ k, k < N → D k ≤ 100) (hk : k < N) (hx : ∀ I J V, sp_S n N b D W I0 J0 V0 pc fs k n n I J V → X (.inl none) (wd_S ++ cs, I, J, F, V)) :
    ∀ (m i : Nat) I J V, n - i < m → i ≤ n → sp_S n N b D W I0 J0 V0 pc fs k i i I J V → mW G mt_Mo_spread (d + 1) bc bs 18 [(3, .int (iI i)), (2, .int (iI k)), (1, .int (iI fs)), (0, .ref 39)] [] (wd_S ++ cs, I, J, F, V) X := by
  intro m
  induction m with
  | zero => intro i I J V h1; exact absurd h1 (Nat.not_lt_zero _)
  | succ m ih =>
    intro i I J V h1 h2 hS
    obtain ⟨fr, qu, fd, mn, ⟨R1, R2, R3, R4, R5, R6, R7, rfl⟩, hI, hf, hq, h50⟩ := id hS
    refine mw_iload_n dc_Mo_spread_18 rfl 0 rfl ?_
    refine mw_aload_n dc_Mo_spread_19 rfl 3 rfl ?_
    refine mi_get (ci := 5) (k := 1) dc_Mo_spread_20 rfl wi_Mo rfl rfl (by decide) fl_Mo_7 ((fu_n2 V0 _ (by decide)).trans hg) ?_
    refine mi_icmp_ge (tgt := 215) dc_Mo_spread_23 (by decide) (iB_mk (by omega) (by omega)) (iB_mk (by omega) (by omega)) (fun hh => ?_) (fun hh => ?_)
    · have e : i = n := by omega
      subst e
      exact mw_vret dc_Mo_spread_215 rfl (hx _ _ _ hS)
    · refine mw_iload_n dc_Mo_spread_26 rfl 0 rfl ?_
      refine mw_istore dc_Mo_spread_27 (by decide) rfl ?_
      refine mw_pick [0, 1, 2, 3, 4] rfl ?_
      refine lp_sp1 hM hg hb hn hN hbN hH hD hk (by omega) (fun I J V hS2 => ?_) (n + 1) i I J _ (by omega) (by omega) (by omega) hS
      refine mi_iinc dc_Mo_spread_209 0 rfl (by decide) rfl ?_
      refine mw_goto (tgt := 18) dc_Mo_spread_212 (by decide) ?_
      refine mw_pick [0, 1, 2, 3] rfl ?_
      obtain ⟨fr, qu, fd, mn, hR2, hI2, hf2, hq2, h502⟩ := hS2
      exact ih (i + 1) I J V (by omega) (by omega) ⟨fr, qu, fd, mn, hR2, bf_n hI2, hf2, hq2, h502⟩
theorem ev_spread {G : mm_G} {d : Nat} {cs : mm_Sh} {F : Nat → Nat → Option Nat} {I0 : Nat → Nat → Int32} {J0 : Nat → Nat → Int64} {V0 : Nat → Nat → Value} {I : Nat → Nat → Int32} {J : Nat → Nat → Int64} {V : Nat → Nat → Value} {fr : Nat → Int} {qu : Nat → Nat} {fd : Nat} {mn : Nat → Nat} {n N b fs : Nat} {D W : Nat → Nat} {pc : Nat → Bool} (hM : mo_V V0) (hg : V0 39 1 = .int (iI n)) (hb : V0 39 11 = .int (iI b)) (hn : 1 ≤ n ∧ n ≤ 6) (hN : N = oc_f n) (hbN : b + N ≤ 50362 ∧ (n ≤ 4 → b + N ≤ 442)) (hH : bf_H n N (nbr n) D W) (hD : ∀ k, k < N → D k ≤ 100) (hR : bf_R n N b I0 J0 V0 fr qu fd mn I J V) (hI : bf_I n N (nbr n) D W fr qu fd mn pc fs 0 0) (hf : fs < fd) : mE G mt_Mo_spread (d + 1) 0 0 [.ref 39, .int (iI (fs : Nat))] (wd_S ++ cs, I, J, F, V) (fun o h1 => o = .inl none ∧ ∃ (I1 : Nat → Nat → Int32) (J1 : Nat → Nat → Int64) (V1 : Nat → Nat → Value) (fr : Nat → Int) (qu : Nat → Nat) (fd : Nat) (mn : Nat → Nat) (pc : Nat → Bool), h1 = (wd_S ++ cs, I1, J1, F, V1) ∧ bf_R n N b I0 J0 V0 fr qu fd mn I1 J1 V1 ∧ bf_I n N (nbr n) D W fr qu fd mn pc (fs + 1) 0 0) := by
  refine mE_intro (by decide) (fun k h q => nomatch q.1) (Nat.le_of_ble_eq_true rfl) ?_
  obtain ⟨R1, R2, R3, R4, R5, R6, R7, rfl⟩ := id hR
  obtain ⟨c1, c2, c3, c4, c5, c6, c7, c8, c9, c10, c11, c12, c13⟩ := id hI
  have hN2 := (oc_fa n (by omega)).2
  have hfd : fd ≤ N := by rw [← c1]; exact ct_le _ _
  have c3f := (c3 fs hf).1
  show mW G mt_Mo_spread (d + 1) 0 0 0 [(0, .ref 39), (1, .int (iI (fs : Nat)))] [] _ _
  refine mw_aload_n dc_Mo_spread_0 rfl 0 rfl ?_
  refine mi_get (ci := 5) (k := 14) dc_Mo_spread_1 rfl wi_Mo rfl rfl (by decide) fl_Mo_38 ((fu_n2 V0 _ (by decide)).trans hM.2.2.2.2.2.2.2.1) ?_
  refine mw_iload_n dc_Mo_spread_4 rfl 1 rfl ?_
  refine mi_iald dc_Mo_spread_5 rfl ⟨by omega, by omega, by decide⟩ (v := iI (qu fs : Nat)) (by rw [Int.toNat_natCast]; exact R5 fs hf) ?_
  refine mw_istore_n dc_Mo_spread_6 rfl (by decide) rfl ?_
  refine mw_aload_n dc_Mo_spread_7 rfl 1 rfl ?_
  refine mw_iload_n dc_Mo_spread_8 rfl 0 rfl ?_
  refine mw_aload_n dc_Mo_spread_9 rfl 1 rfl ?_
  refine mi_get (ci := 5) (k := 17) dc_Mo_spread_10 rfl wi_Mo rfl rfl (by decide) fl_Mo_48 ((fu_n2 V0 _ (by decide)).trans hM.2.2.2.2.2.2.2.2.2.2.1) ?_
  refine mz_V2 (M2 := mt_Mo_unrank) dc_Mo_spread_13 ml_Mo_109 rfl rfl ny_Mo_unrank (by decide) (Nat.le_of_ble_eq_true rfl) (ev_unrank (mo_fu _ hM (by omega)) ((fu_n2 V0 _ (by decide)).trans hg) hn (oc_lt hn.2 (show qu fs < oc_f n by omega)) (by omega)) (fun v h1 hY => ?_)
  obtain ⟨hv9, rfl⟩ := hY
  cases hv9
  refine mi_const dc_Mo_spread_16 ?_
  refine mw_istore_n dc_Mo_spread_17 rfl (by decide) rfl ?_
  refine mw_pick [0, 1, 3, 2] rfl ?_
  refine lp_sp0 hM hg hb hn hN hbN hH hD c3f (fun I J V hS => ?_) (n + 1) 0 _ _ _ (by omega) (by omega) ⟨fr, qu, fd, mn, ⟨fun a a1 a2 a3 => ?_, R2, R3, R4, R5, R6, R7, rfl⟩, hI, hf, rfl, fun p hp => ?_⟩
  · obtain ⟨fr2, qu2, fd2, mn2, hR2, hI2, hf2, hq2, h502⟩ := hS
    exact ⟨rfl, I, J, V, fr2, qu2, fd2, mn2, _, rfl, hR2, bf_e hH hI2 hf2⟩
  · rw [va_up_ne _ _ a3]; exact R1 a a1 a2 a3
  · rw [va_up_self, nr_a (by omega)]
