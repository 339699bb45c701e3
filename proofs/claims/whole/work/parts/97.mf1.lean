/-! ranks and rows; what the tables say of distances -/
theorem lc_c {u v : Nat → Int} {n p : Nat} (h : ∀ q, q < n → ab (u q) = ab (v q)) : ∀ t, p + t < n → lc u p t = lc v p t := fun t => by
  induction t with
  | zero => exact fun _ => rfl
  | succ t ih =>
    intro ht
    show (if ab (u (p + 1 + t)) < ab (u p) then lc u p t + 1 else lc u p t) = if ab (v (p + 1 + t)) < ab (v p) then lc v p t + 1 else lc v p t
    rw [h (p + 1 + t) (by omega), h p (by omega), ih (by omega)]
theorem rk_c {u v : Nat → Int} {n : Nat} (h : ∀ q, q < n → ab (u q) = ab (v q)) : ∀ m, m ≤ n → rk u n m = rk v n m := fun m => by
  induction m with
  | zero => exact fun _ => rfl
  | succ m ih =>
    intro hm
    show rk u n m * (n - m) + lc u m (n - 1 - m) = rk v n m * (n - m) + lc v m (n - 1 - m)
    rw [ih (by omega), lc_c h _ (by omega)]
theorem sn_c {u v : Nat → Int} : ∀ m, (∀ q, q < m → u q = v q) → sn u m = sn v m := fun m => by
  induction m with
  | zero => exact fun _ => rfl
  | succ m ih =>
    intro h
    show sn u m * 2 + (if u m < 0 then 1 else 0) = sn v m * 2 + if v m < 0 then 1 else 0
    rw [ih (fun q hq => h q (by omega)), h m (by omega)]
theorem rkn_c {u v : Nat → Int} {n : Nat} (h : ∀ q, q < n → u q = v q) : rkn n u = rkn n v := by
  unfold rkn
  rw [rk_c (fun q hq => by rw [h q hq]) n (Nat.le_refl _), sn_c n h]
theorem dP_c {u v : Nat → Int} {n : Nat} (h1 : 1 ≤ n) (h : ∀ q, q < n → u q = v q) : dP n u = dP n v := by
  unfold dP
  rw [eaR_c h, soR_c h1 h]
theorem sn_v (u : Nat → Int) : ∀ m, sn u m < 2 ^ m ∧ ∀ p, p < m → sn u m / 2 ^ (m - 1 - p) % 2 = if u p < 0 then 1 else 0 := fun m => by
  induction m with
  | zero => exact ⟨Nat.zero_lt_succ _, fun p hp => absurd hp (Nat.not_lt_zero _)⟩
  | succ m ih =>
    obtain ⟨h1, h2⟩ := ih
    have e : sn u (m + 1) = sn u m * 2 + (if u m < 0 then 1 else 0) := rfl
    have hb : (if u m < 0 then 1 else 0) < 2 := by split <;> omega
    refine ⟨by rw [e, Nat.pow_succ]; omega, fun p hp => ?_⟩
    by_cases c : p = m
    · subst c
      rw [show p + 1 - 1 - p = 0 by omega, Nat.pow_zero, Nat.div_one, e]
      omega
    · rw [show m + 1 - 1 - p = (m - 1 - p) + 1 by omega, Nat.pow_succ, Nat.mul_comm, ← Nat.div_div_eq_div_mul, e, show (sn u m * 2 + (if u m < 0 then 1 else 0)) / 2 = sn u m by omega]
      exact h2 p (by omega)
theorem sn_b {u : Nat → Int} {k n : Nat} (h : ∀ p, p < n → (u p < 0 ↔ k / 2 ^ (n - 1 - p) % 2 = 1)) : ∀ m, m ≤ n → sn u m = k / 2 ^ (n - m) % 2 ^ m := fun m => by
  induction m with
  | zero => intro _; rw [Nat.pow_zero, Nat.mod_one]; rfl
  | succ m ih =>
    intro hm
    show sn u m * 2 + (if u m < 0 then 1 else 0) = _
    have e1 : (if u m < 0 then 1 else 0) = k / 2 ^ (n - (m + 1)) % 2 := by
      have := h m (by omega)
      rw [show n - 1 - m = n - (m + 1) by omega] at this
      by_cases c : u m < 0
      · rw [if_pos c]; exact (this.mp c).symm
      · rw [if_neg c]; have := fun q => c (this.mpr q); omega
    rw [ih (by omega), e1, Nat.pow_succ, Nat.mul_comm (2 ^ m) 2, Nat.mod_mul, show n - m = (n - (m + 1)) + 1 by omega, Nat.pow_succ, ← Nat.div_div_eq_div_mul]
    omega
theorem bm_q {k n q : Nat} (hq : q < n) : k % 2 ^ n / 2 ^ q % 2 = k / 2 ^ q % 2 := by
  have h := Nat.testBit_mod_two_pow k n q
  rw [Nat.testBit_eq_decide_div_mod_eq, Nat.testBit_eq_decide_div_mod_eq, decide_eq_true hq, Bool.true_and, decide_eq_decide] at h
  omega
theorem or_8 : ∀ g, g < 8 → ∀ b, b < 2 → g ||| 8 * b = g + 8 * b := by decide +kernel
theorem sP_a {n : Nat} {u v : Nat → Int} (h : sP n u) (e : ∀ p, p < n → (v p).natAbs = (u p).natAbs) : sP n v := by
  obtain ⟨h1, w, h2, h3⟩ := h
  exact ⟨fun p hp => by rw [e p hp]; exact h1 p hp, w, fun x a b => ⟨(h2 x a b).1, (e _ (h2 x a b).1).trans (h2 x a b).2⟩, fun p hp => by rw [e p hp]; exact h3 p hp⟩
theorem ab_n (z : Int) : ab z = ((z.natAbs : Nat) : Int) := by unfold ab; split <;> omega
theorem tI_c {u v : Nat → Int} {n i j : Nat} (hj : j < n) (h : ∀ q, q < n → u q = v q) : ∀ q, q < n → tI u i j q = tI v i j q := fun q hq => by
  unfold tI
  split
  · rw [h _ (by omega)]
  · exact h q hq
noncomputable def Tk (n tl k : Nat) : Nat := dg (tX n tl (k / 2 ^ n)) (k % 2 ^ n)
section TKS
variable {n L tl nb mL fL : Nat}
theorem tkq_g (K : TK n L tl nb mL fL) {R : Nat} (hR : R < fa n) : ∀ p, p < n → ug n R p = dg (pL n L R) p := fun p hp => ((okL_k (K.1 R hR)).2.1 p hp).symm
theorem tkq_a (K : TK n L tl nb mL fL) {k : Nat} (hn : n ≤ 6) (hk : k < oc_f n) {p : Nat} (hp : p < n) : (ur n k p).natAbs = dg (pL n L (k / 2 ^ n)) p ∧ 1 ≤ dg (pL n L (k / 2 ^ n)) p ∧ dg (pL n L (k / 2 ^ n)) p ≤ n ∧ (ur n k p < 0 ↔ k / 2 ^ (n - 1 - p) % 2 = 1) := by
  have hR := oc_lt hn hk
  have e := tkq_g K hR p hp
  have hb := (okL_k (K.1 _ hR)).2.2.1 p hp
  have hb2 : 1 ≤ dg (pL n L (k / 2 ^ n)) p ∧ dg (pL n L (k / 2 ^ n)) p ≤ n := hb
  unfold ur
  rw [e]
  by_cases c : k / 2 ^ (n - 1 - p) % 2 = 1
  · rw [if_pos c]
    exact ⟨by omega, hb2.1, hb2.2, fun _ => c, fun _ => by omega⟩
  · rw [if_neg c]
    exact ⟨by omega, hb2.1, hb2.2, fun q => by omega, fun q => absurd q c⟩
theorem tkq_s (K : TK n L tl nb mL fL) {k : Nat} (hn : n ≤ 6) (hk : k < oc_f n) : sP n (ur n k) :=
  sP_a (okL_k (K.1 _ (oc_lt hn hk))).2.2 (fun p hp => (tkq_a K hn hk hp).1)
theorem tkq_p (K : TK n L tl nb mL fL) {k : Nat} (hn : n ≤ 6) (hk : k < oc_f n) : pks n (ur n k) (Nat.lor (pL n L (k / 2 ^ n)) (spq n (k % 2 ^ n))) := fun p hp => by
  obtain ⟨a, b, c, d⟩ := tkq_a K hn hk hp
  rw [dg_or, spq_d n (by omega) _ (Nat.mod_lt _ (Nat.two_pow_pos n)) p hp, bm_q (show n - 1 - p < n by omega), or_8 _ (by omega) _ (Nat.mod_lt _ (by decide))]
  unfold cd
  rw [a]
  by_cases q : ur n k p < 0
  · rw [if_pos q, d.mp q]
  · rw [if_neg q]
    have := fun w => q (d.mpr w)
    omega
theorem tkq_D (K : TK n L tl nb mL fL) {k : Nat} (hn : n ≤ 6) (hk : k < oc_f n) : dP n (ur n k) = (Tk n tl k : Nat) ∧ Tk n tl k ≤ 7 ∧ Dn n k = Tk n tl k := by
  obtain ⟨a, b⟩ := okA_k (K.2.2.2.1 _ (oc_lt hn hk)) (Nat.mod_lt k (Nat.two_pow_pos n))
  have h := dst_k hn (tkq_s K hn hk) (tkq_p K hn hk) b
  refine ⟨h, a, ?_⟩
  unfold Dn eR
  rw [h]
  rfl
theorem tkq_r (K : TK n L tl nb mL fL) {k : Nat} (hn : n ≤ 6) (hk : k < oc_f n) : rkn n (ur n k) = k := by
  have h1 := (okL_k (K.1 _ (oc_lt hn hk))).1
  have h2 : rk (ur n k) n n = k / 2 ^ n := by
    refine Eq.trans ?_ h1
    refine (rk_c (fun p hp => ?_) n (Nat.le_refl _)).trans rfl
    rw [ab_n, ab_n, (tkq_a K hn hk hp).1]
    rfl
  unfold rkn
  rw [h2, sn_b (fun p hp => (tkq_a K hn hk hp).2.2.2) n (Nat.le_refl _), Nat.sub_self, Nat.pow_zero, Nat.div_one, Nat.mul_comm]
  exact Nat.div_add_mod _ _
theorem tkq_z (K : TK n L tl nb mL fL) {z : Nat → Int} (hn : n ≤ 6) (hz : sP n z) : rkn n z < oc_f n ∧ ∀ p, p < n → ur n (rkn n z) p = z p := by
  obtain ⟨r, h1, h2⟩ := enq_k hn hz n 0 0 (Nat.le_refl _) (fun g hg => by rw [Nat.zero_testBit] at hg; cases hg) (fun p => by
    rw [if_neg (by omega)]
    show (0 >>> (4 * p)) % 16 = 0
    rw [Nat.zero_shiftRight]) K.2.1
  unfold okF at h1
  rw [fo_eq] at h1
  obtain ⟨a, b⟩ := cd_t h1
  have hR : rk (gz r) n n < fa n := Nat.le_of_ble_eq_true a
  have hr : pL n L (rk (gz r) n n) = r := Nat.eq_of_beq_eq_true b
  have e1 : rk z n n = rk (gz r) n n := rk_c (fun p hp => by rw [ab_n, ab_n, ← h2 p hp]; rfl) n (Nat.le_refl _)
  obtain ⟨s1, s2⟩ := sn_v z n
  have hpos := Nat.two_pow_pos n
  have e2 : rkn n z / 2 ^ n = rk z n n := by
    unfold rkn
    rw [Nat.mul_comm, Nat.mul_add_div hpos, Nat.div_eq_of_lt s1, Nat.add_zero]
  have e3 : rkn n z % 2 ^ n = sn z n := by
    unfold rkn
    rw [Nat.mul_comm, Nat.mul_add_mod, Nat.mod_eq_of_lt s1]
  have hlt : rkn n z < oc_f n := by
    rw [(oc_fa n (by omega)).1]
    unfold rkn
    rw [e1]
    have := Nat.mul_le_mul_left (2 ^ n) (show rk (gz r) n n + 1 ≤ fa n from hR)
    rw [Nat.mul_succ, Nat.mul_comm (2 ^ n) (rk (gz r) n n)] at this
    omega
  refine ⟨hlt, fun p hp => ?_⟩
  obtain ⟨a1, a2, a3, a4⟩ := tkq_a K hn hlt hp
  rw [e2, e1, hr, h2 p hp] at a1
  have hb := hz.1 p hp
  have e4 := s2 p hp
  rw [← bm_q (show n - 1 - p < n by omega), e3, e4] at a4
  by_cases c : z p < 0
  · rw [if_pos c] at a4
    have := a4.mpr rfl
    omega
  · rw [if_neg c] at a4
    have : ¬ ur n (rkn n z) p < 0 := fun q => absurd (a4.mp q) (by decide)
    omega
/-- a neighbour, by the tables -/
theorem tkq_n (K : TK n L tl nb mL fL) {k i j R2 : Nat} (hn : n ≤ 6) (hk : k < oc_f n) (hij : i ≤ j) (hj : j < n) (h : nbk n L tl mL (pL n L (k / 2 ^ n)) (tX n tl (k / 2 ^ n)) i j R2) : nbr n k i j < oc_f n ∧ Tk n tl (nbr n k i j) = dg (tX n tl R2) (tq n mL n i j (k % 2 ^ n)) ∧ ∀ p, p < n → ur n (nbr n k i j) p = tI (ur n k) i j p := by
  obtain ⟨h1, h2, h3⟩ := h
  have hpos := Nat.two_pow_pos n
  have g1 := (pm_k K.2.2.1.1 n i j 0 (k % 2 ^ n) hj (Nat.mod_lt k hpos)).1
  have g2 := okT_k K.2.2.1.2 hij hj (Nat.mod_lt k hpos)
  generalize hs : tq n mL n i j (k % 2 ^ n) = s at g1 g2 ⊢
  have k1 : (2 ^ n * R2 + s) / 2 ^ n = R2 := by rw [Nat.mul_add_div hpos, Nat.div_eq_of_lt g1, Nat.add_zero]
  have k2 : (2 ^ n * R2 + s) % 2 ^ n = s := by rw [Nat.mul_add_mod, Nat.mod_eq_of_lt g1]
  have hk2 : 2 ^ n * R2 + s < oc_f n := by
    rw [(oc_fa n (by omega)).1]
    have := Nat.mul_le_mul_left (2 ^ n) (show R2 + 1 ≤ fa n from h1)
    rw [Nat.mul_succ] at this
    omega
  have hrow : ∀ p, p < n → ur n (2 ^ n * R2 + s) p = tI (ur n k) i j p := fun p hp => by
    obtain ⟨a1, a2, a3, a4⟩ := tkq_a K hn hk2 hp
    rw [k1, h2 p hp] at a1
    rw [← bm_q (show n - 1 - p < n by omega), k2, g2 p hp] at a4
    unfold tI
    unfold ti at a1
    by_cases c : i ≤ p ∧ p ≤ j
    · rw [if_pos c] at a1 a4 ⊢
      obtain ⟨b1, b2, b3, b4⟩ := tkq_a K hn hk (show i + j - p < n by omega)
      rw [bm_q (show n - 1 - (i + j - p) < n by omega)] at a4
      by_cases w : k / 2 ^ (n - 1 - (i + j - p)) % 2 = 1
      · have := b4.mpr w
        rw [w] at a4
        have : ¬ ur n (2 ^ n * R2 + s) p < 0 := fun q => absurd (a4.mp q) (by decide)
        omega
      · have hw : ¬ ur n k (i + j - p) < 0 := fun q => w (b4.mp q)
        have := a4.mpr (by omega)
        omega
    · rw [if_neg c] at a1 a4 ⊢
      obtain ⟨b1, b2, b3, b4⟩ := tkq_a K hn hk hp
      rw [bm_q (show n - 1 - p < n by omega)] at a4
      by_cases w : ur n k p < 0
      · have := a4.mpr (b4.mp w); omega
      · have : ¬ ur n (2 ^ n * R2 + s) p < 0 := fun q => w (b4.mpr (a4.mp q))
        omega
  have en : nbr n k i j = 2 ^ n * R2 + s := by
    unfold nbr
    rw [← rkn_c hrow, tkq_r K hn hk2]
  rw [en]
  refine ⟨hk2, ?_, hrow⟩
  unfold Tk
  rw [k1, k2]
theorem tkq_7 (K : TK n L tl nb mL fL) : ∀ R, R < fa n → ∀ σ, σ < 2 ^ n → dg (tX n tl R) σ ≤ 7 := fun R hR σ hs => (okA_k (K.2.2.2.1 R hR) hs).1
theorem tkq_m (K : TK n L tl nb mL fL) {k i j : Nat} (hn : n ≤ 6) (hk : k < oc_f n) (hij : i ≤ j) (hj : j < n) : nbr n k i j < oc_f n ∧ nbr n (nbr n k i j) i j = k ∧ Dn n (nbr n k i j) ≤ Dn n k + 1 := by
  obtain ⟨R2, h⟩ := (okB_k hn K.2.2.1.1 (tkq_7 K) (oc_lt hn hk) (K.2.2.2.2 _ (oc_lt hn hk))).1 i j hij hj
  obtain ⟨a, b, c⟩ := tkq_n K hn hk hij hj h
  refine ⟨a, ?_, ?_⟩
  · show rkn n (tI (ur n (nbr n k i j)) i j) = k
    rw [rkn_c (tI_c (i := i) hj c), tI_tI, tkq_r K hn hk]
  · rw [(tkq_D K hn a).2.2, (tkq_D K hn hk).2.2, b]
    exact h.2.2 _ (Nat.mod_lt _ (Nat.two_pow_pos n))
theorem tkq_l (K : TK n L tl nb mL fL) {k : Nat} (hn : n ≤ 6) (hk : k < oc_f n) (h0 : k ≠ 0) : ∃ i j, i ≤ j ∧ j < n ∧ Dn n (nbr n k i j) + 1 = Dn n k := by
  rcases (okB_k hn K.2.2.1.1 (tkq_7 K) (oc_lt hn hk) (K.2.2.2.2 _ (oc_lt hn hk))).2 (k % 2 ^ n) (Nat.mod_lt _ (Nat.two_pow_pos n)) with ⟨q1, q2⟩ | ⟨i, j, R2, h1, h2, h3, h4⟩
  · exact absurd (by have := Nat.div_add_mod k (2 ^ n); rw [q1, q2] at this; omega) h0
  · obtain ⟨a, b, c⟩ := tkq_n K hn hk h1 h2 h3
    refine ⟨i, j, h1, h2, ?_⟩
    rw [(tkq_D K hn a).2.2, (tkq_D K hn hk).2.2, b]
    exact h4
theorem tkq_w (K : TK n L tl nb mL fL) {k : Nat} (hn : n ≤ 6) (hk : k < oc_f n) (h0 : 0 < Dn n k) : Wn n k = s2 (fun i j => if Dn n k = Dn n (nbr n k i j) + 1 then Wn n (nbr n k i j) else 0) n n := by
  unfold Wn
  obtain ⟨d, hd⟩ : ∃ d, Dn n k = d + 1 := ⟨Dn n k - 1, by omega⟩
  rw [hd]
  show s2 (fun i j => if Dn n k = Dn n (nbr n k i j) + 1 then wnf n d (nbr n k i j) else 0) n n = _
  refine s2_c n (fun i j h1 h2 h3 => ?_)
  rw [hd]
  by_cases c : d + 1 = Dn n (nbr n k i j) + 1
  · rw [if_pos c, if_pos c, show d = Dn n (nbr n k i j) by omega]
  · rw [if_neg c, if_neg c]
theorem mf_2 (K : TK n L tl nb mL fL) (hn : 1 ≤ n ∧ n ≤ 6) (h0 : dg (tX n tl 0) 0 = 0) : bf_H n (oc_f n) (nbr n) (Dn n) (Wn n) := by
  have hp : 0 < oc_f n := (oc_fa n (by omega)).2.2
  have d0 : Dn n 0 = 0 := by
    rw [(tkq_D K hn.2 hp).2.2]
    unfold Tk
    rw [Nat.zero_div, Nat.zero_mod, h0]
  refine ⟨hp, d0, ?_, fun k hk i j hij hj => tkq_m K hn.2 hk hij hj, fun k hk hk0 => tkq_l K hn.2 hk hk0, fun _ k hk hk0 => tkq_w K hn.2 hk ?_⟩
  · unfold Wn
    rw [d0]
    rfl
  · obtain ⟨i, j, _, _, e⟩ := tkq_l K hn.2 hk hk0
    omega
theorem mf_1 (K : TK n L tl nb mL fL) (hn : 1 ≤ n ∧ n ≤ 6) : ∀ z, sP n z → dP n z = (eR n z : Nat) ∧ eR n z ≤ 7 ∧ rkn n z < oc_f n ∧ Dn n (rkn n z) = eR n z := fun z hz => by
  obtain ⟨a, b⟩ := tkq_z K hn.2 hz
  obtain ⟨c, d, e⟩ := tkq_D K hn.2 a
  rw [dP_c hn.1 b] at c
  have f : eR n z = Tk n tl (rkn n z) := by unfold eR; rw [c]; rfl
  exact ⟨by rw [f]; exact c, by rw [f]; exact d, a, by rw [f]; exact e⟩
theorem mf_3 (K : TK n L tl nb mL fL) (hn : 1 ≤ n ∧ n ≤ 6) : ∀ k, k < oc_f n → Dn n k ≤ 7 ∧ sP n (ur n k) := fun k hk => ⟨by rw [(tkq_D K hn.2 hk).2.2]; exact (tkq_D K hn.2 hk).2.1, tkq_s K hn.2 hk⟩
theorem mf_4 (K : TK n L tl nb mL fL) (hn : 1 ≤ n ∧ n ≤ 6) (h0 : dg (tX n tl 0) 0 = 0) : rw_H n (fun z => Dn n (rkn n z)) (sP n) := fun z hz => by
  obtain ⟨a, b⟩ := tkq_z K hn.2 hz
  have hb : ∀ i j, j < n → rkn n (tI z i j) = nbr n (rkn n z) i j := fun i j hj => (rkn_c (tI_c (i := i) hj b)).symm
  refine ⟨fun p hp => by have := sP_n hz p hp; omega, (mf_3 K hn _ a).1, a, fun i j hij hj => ⟨sP_t hz hj, ?_⟩, fun hd => ?_⟩
  · show Dn n (rkn n z) ≤ Dn n (rkn n (tI z i j)) + 1
    rw [hb i j hj]
    obtain ⟨c1, c2, c3⟩ := tkq_m K hn.2 a hij hj
    have := (tkq_m K hn.2 c1 hij hj).2.2
    rw [c2] at this
    exact this
  · have hd2 : 0 < Dn n (rkn n z) := hd
    obtain ⟨i, j, h1, h2, h3⟩ := tkq_l K hn.2 a (fun q => by
      rw [q, (mf_2 K hn h0).2.1] at hd2
      exact absurd hd2 (Nat.lt_irrefl 0))
    exact ⟨i, j, h1, h2, by show Dn n (rkn n (tI z i j)) + 1 = Dn n (rkn n z); rw [hb i j h2]; exact h3⟩
end TKS
