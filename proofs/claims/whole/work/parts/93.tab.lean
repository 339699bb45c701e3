/-! TABLES: permutations by rank, distances by rank, neighbours; what is checked of them, and what the checks say -/
noncomputable def alb (F : Nat → Bool) (N : Nat) : Bool := Nat.rec true (fun k ih => cond (F k) ih false) N
theorem alb_k {F : Nat → Bool} : ∀ N, alb F N = true → ∀ k, k < N → F k = true := fun N => by
  induction N with
  | zero => exact fun _ k hk => absurd hk (Nat.not_lt_zero _)
  | succ N ih =>
    intro h k hk
    have e : alb F (N + 1) = cond (F N) (alb F N) false := rfl
    rw [e] at h
    cases c : F N with
    | false => rw [c] at h; exact (nomatch h)
    | true =>
      rw [c] at h
      by_cases q : k = N
      · rw [q]; exact c
      · exact ih h k (by omega)
theorem cd_t {a b : Bool} (h : cond a b false = true) : a = true ∧ b = true := by
  cases a with
  | false => exact (nomatch h)
  | true => exact ⟨rfl, h⟩
noncomputable def spq (n σ : Nat) : Nat := Nat.rec 0 (fun p ih => Nat.lor ih (Nat.shiftLeft (Nat.mod (Nat.shiftRight σ (Nat.sub (Nat.pred n) p)) 2) (Nat.add (Nat.mul 4 p) 3))) n
theorem spq_d : ∀ n, n < 7 → ∀ σ, σ < 2 ^ n → ∀ p, p < n → dg (spq n σ) p = 8 * (σ / 2 ^ (n - 1 - p) % 2) := by decide +kernel
noncomputable def pL (n L R : Nat) : Nat := Nat.mod (Nat.shiftRight L (Nat.mul (Nat.mul 4 n) R)) (Nat.pow 2 (Nat.mul 4 n))
noncomputable def tX (n tl R : Nat) : Nat := Nat.mod (Nat.shiftRight tl (Nat.mul (Nat.mul 4 (Nat.pow 2 n)) R)) (Nat.pow 2 (Nat.mul 4 (Nat.pow 2 n)))
/-- the distances of a permutation's rows -/
noncomputable def okA (n L tl R : Nat) : Bool := fo (pL n L R) fun r => fo (tX n tl R) fun X => alb (fun σ => fo (Nat.lor r (spq n σ)) fun q => fo (dg X σ) fun d => cond (Nat.ble d 7) (dst n q d) false) (Nat.pow 2 n)
theorem okA_k {n L tl R : Nat} (h : okA n L tl R = true) {σ : Nat} (hs : σ < 2 ^ n) : dg (tX n tl R) σ ≤ 7 ∧ dst n (Nat.lor (pL n L R) (spq n σ)) (dg (tX n tl R) σ) = true := by
  unfold okA at h
  rw [fo_eq, fo_eq] at h
  have h1 := alb_k _ h σ hs
  rw [fo_eq, fo_eq] at h1
  obtain ⟨a, b⟩ := cd_t h1
  exact ⟨Nat.le_of_ble_eq_true a, b⟩
/-! permutations -/
noncomputable def gz (r : Nat) : Nat → Int := fun p => ((dg r p : Nat) : Int)
noncomputable def okL (n L R : Nat) : Bool := fo (pL n L R) fun r => cond (Nat.beq (rk (gz r) n n) R) (cond (alb (fun p => fo (dg r p) fun g => cond (Nat.beq g (ug n R p)) (cond (Nat.ble 1 g) (cond (Nat.ble g n) (Nat.beq (pq (gz r) g n) p) false) false) false) n) (alb (fun x => fo (pq (gz r) (Nat.succ x) n) fun p => cond (Nat.ble (Nat.succ p) n) (Nat.beq (dg r p) (Nat.succ x)) false) n) false) false
theorem okL_k {n L R : Nat} (h : okL n L R = true) : rk (gz (pL n L R)) n n = R ∧ (∀ p, p < n → dg (pL n L R) p = ug n R p) ∧ sP n (gz (pL n L R)) := by
  unfold okL at h
  rw [fo_eq] at h
  obtain ⟨a, h⟩ := cd_t h
  obtain ⟨b, c⟩ := cd_t h
  have b1 : ∀ p, p < n → dg (pL n L R) p = ug n R p ∧ 1 ≤ dg (pL n L R) p ∧ dg (pL n L R) p ≤ n ∧ pq (gz (pL n L R)) (dg (pL n L R) p) n = p := fun p hp => by
    have q := alb_k _ b p hp
    rw [fo_eq] at q
    obtain ⟨q1, q⟩ := cd_t q
    obtain ⟨q2, q⟩ := cd_t q
    obtain ⟨q3, q⟩ := cd_t q
    exact ⟨Nat.eq_of_beq_eq_true q1, Nat.le_of_ble_eq_true q2, Nat.le_of_ble_eq_true q3, Nat.eq_of_beq_eq_true q⟩
  have c1 : ∀ x, x < n → pq (gz (pL n L R)) (x + 1) n < n ∧ dg (pL n L R) (pq (gz (pL n L R)) (x + 1) n) = x + 1 := fun x hx => by
    have q := alb_k _ c x hx
    rw [fo_eq] at q
    obtain ⟨q1, q⟩ := cd_t q
    exact ⟨Nat.le_of_ble_eq_true q1, Nat.eq_of_beq_eq_true q⟩
  refine ⟨Nat.eq_of_beq_eq_true a, fun p hp => (b1 p hp).1, ⟨fun p hp => ⟨(b1 p hp).2.1, (b1 p hp).2.2.1⟩, fun x => pq (gz (pL n L R)) x n, fun x h1 h2 => ?_, fun p hp => (b1 p hp).2.2.2⟩⟩
  have := c1 (x - 1) (by omega)
  rw [show x - 1 + 1 = x by omega] at this
  exact this
/-! every permutation is there -/
noncomputable def enq (n : Nat) (F : Nat → Bool) (f : Nat) : Nat → Nat → Bool := Nat.rec (fun _ r => F r) (fun f ih m r => alb (fun g => cond (bt m (Nat.succ g)) true (fo (Nat.lor m (Nat.shiftLeft 1 (Nat.succ g))) fun m2 => fo (Nat.lor r (Nat.shiftLeft (Nat.succ g) (Nat.mul 4 f))) fun r2 => ih m2 r2)) n) f
theorem enq_k {n : Nat} {F : Nat → Bool} {z : Nat → Int} (hn : n ≤ 6) (hz : sP n z) : ∀ f m r, f ≤ n → (∀ g, m.testBit g = true → ∃ p, f ≤ p ∧ p < n ∧ (z p).natAbs = g) → (∀ p, dg r p = if f ≤ p ∧ p < n then (z p).natAbs else 0) → enq n F f m r = true → ∃ r2, F r2 = true ∧ ∀ p, p < n → dg r2 p = (z p).natAbs := fun f => by
  induction f with
  | zero => exact fun m r _ _ h2 h3 => ⟨r, h3, fun p hp => (h2 p).trans (if_pos ⟨Nat.zero_le _, hp⟩)⟩
  | succ f ih =>
    intro m r hf h1 h2 h3
    have hb := hz.1 f (by omega)
    have q := alb_k (F := fun g => cond (bt m (Nat.succ g)) true (fo (Nat.lor m (Nat.shiftLeft 1 (Nat.succ g))) fun m2 => fo (Nat.lor r (Nat.shiftLeft (Nat.succ g) (Nat.mul 4 f))) fun r2 => enq n F f m2 r2)) n h3 ((z f).natAbs - 1) (by omega)
    rw [show Nat.succ ((z f).natAbs - 1) = (z f).natAbs by omega, fo_eq, fo_eq, bt_t] at q
    cases c : m.testBit (z f).natAbs with
    | true =>
      obtain ⟨p, p1, p2, p3⟩ := h1 _ c
      exact absurd (sP_j hz p2 (by omega) p3) (by omega)
    | false =>
      rw [c] at q
      refine ih _ _ (by omega) (fun g hg => ?_) (fun p => ?_) q
      · have hg2 : (m ||| 1 <<< (z f).natAbs).testBit g = true := hg
        rw [Nat.testBit_or, Nat.one_shiftLeft, Nat.testBit_two_pow, Bool.or_eq_true, decide_eq_true_iff] at hg2
        rcases hg2 with w | w
        · obtain ⟨p, p1, p2, p3⟩ := h1 g w
          exact ⟨p, by omega, p2, p3⟩
        · exact ⟨f, Nat.le_refl _, by omega, w⟩
      · rw [dg_or, h2]
        show _ ||| dg (Nat.shiftLeft (z f).natAbs (4 * f)) p = _
        rw [dg_sh (by omega)]
        by_cases e : p = f
        · rw [if_neg (by omega), if_pos e, if_pos (by omega), e, Nat.zero_or]
        · rw [if_neg e, Nat.or_zero]
          exact if_i (by omega) _ _
noncomputable def okF (n L : Nat) : Nat → Bool := fun r => fo (rk (gz r) n n) fun R => cond (Nat.ble (Nat.succ R) (fa n)) (Nat.beq (pL n L R) r) false
/-! turned rows -/
def ti (i j p : Nat) : Nat := if i ≤ p ∧ p ≤ j then i + j - p else p
noncomputable def dq (n r r2 i j : Nat) : Bool := alb (fun p => Nat.beq (dg r2 p) (dg r (cond (cond (Nat.ble i p) (Nat.ble p j) false) (Nat.sub (Nat.add i j) p) p))) n
theorem dq_k {n r r2 i j : Nat} (h : dq n r r2 i j = true) {p : Nat} (hp : p < n) : dg r2 p = dg r (ti i j p) := by
  have q := Nat.eq_of_beq_eq_true (alb_k _ h p hp)
  rw [q]
  unfold ti
  rw [ble_t, ble_t]
  by_cases c : i ≤ p
  · by_cases c2 : p ≤ j
    · rw [decide_eq_true c, decide_eq_true c2, if_pos ⟨c, c2⟩]; rfl
    · rw [decide_eq_true c, decide_eq_false c2, if_neg (fun w => c2 w.2)]; rfl
  · rw [decide_eq_false c, if_neg (fun w => c w.1)]; rfl
/-! digits of sums, masks and shifts -/
theorem dg_an (X Y t : Nat) : dg (Nat.land X Y) t = dg X t &&& dg Y t := by
  show ((X &&& Y) >>> (4 * t)) % 2 ^ 4 = (X >>> (4 * t)) % 2 ^ 4 &&& (Y >>> (4 * t)) % 2 ^ 4
  rw [Nat.shiftRight_and_distrib, Nat.and_mod_two_pow]
theorem dg_xo (X Y t : Nat) : dg (Nat.xor X Y) t = dg X t ^^^ dg Y t := by
  show ((X ^^^ Y) >>> (4 * t)) % 2 ^ 4 = (X >>> (4 * t)) % 2 ^ 4 ^^^ (Y >>> (4 * t)) % 2 ^ 4
  rw [Nat.shiftRight_xor_distrib, Nat.xor_mod_two_pow]
theorem dg_sr (X a t : Nat) : dg (Nat.shiftRight X (Nat.mul 4 a)) t = dg X (t + a) := by
  show ((X >>> (4 * a)) >>> (4 * t)) % 16 = (X >>> (4 * (t + a))) % 16
  rw [← Nat.shiftRight_add, show 4 * a + 4 * t = 4 * (t + a) by omega]
theorem dg_sl (X a t : Nat) : dg (Nat.shiftLeft X (Nat.mul 4 a)) t = if a ≤ t then dg X (t - a) else 0 := by
  show ((X <<< (4 * a)) >>> (4 * t)) % 16 = if a ≤ t then (X >>> (4 * (t - a))) % 16 else 0
  rw [Nat.shiftLeft_eq, Nat.shiftRight_eq_div_pow, Nat.shiftRight_eq_div_pow]
  by_cases c : a ≤ t
  · rw [if_pos c, show 4 * t = 4 * a + 4 * (t - a) by omega, Nat.pow_add, ← Nat.div_div_eq_div_mul, Nat.mul_div_cancel _ (Nat.two_pow_pos _)]
  · rw [if_neg c, show 4 * a = 4 * t + (4 + 4 * (a - t - 1)) by omega, Nat.pow_add, Nat.pow_add, ← Nat.mul_assoc, Nat.mul_comm X, Nat.mul_assoc, Nat.mul_div_cancel_left _ (Nat.two_pow_pos _), show (2 : Nat) ^ 4 = 16 from rfl, ← Nat.mul_assoc, Nat.mul_comm X 16, Nat.mul_assoc, Nat.mul_mod_right]
theorem dg_ss (y a : Nat) : dg y (a + 1) = dg (y / 16) a := by
  show (y >>> (4 * (a + 1))) % 16 = ((y / 16) >>> (4 * a)) % 16
  rw [show 4 * (a + 1) = 4 + 4 * a by omega, Nat.shiftRight_add, Nat.shiftRight_eq_div_pow y 4]
theorem dg_ad : ∀ t X Y, (∀ u, u ≤ t → dg X u + dg Y u < 16) → dg (Nat.add X Y) t = dg X t + dg Y t := fun t => by
  induction t with
  | zero =>
    intro X Y h
    have h0 := h 0 (Nat.le_refl _)
    have e : ∀ y, dg y 0 = y % 16 := fun _ => rfl
    rw [e, e] at h0
    rw [e, e, e]
    show (X + Y) % 16 = _
    omega
  | succ t ih =>
    intro X Y h
    have h0 := h 0 (Nat.zero_le _)
    have e : ∀ y, dg y 0 = y % 16 := fun _ => rfl
    rw [e, e] at h0
    rw [dg_ss, dg_ss, dg_ss]
    have e2 : Nat.add X Y / 16 = Nat.add (X / 16) (Y / 16) := by show (X + Y) / 16 = X / 16 + Y / 16; omega
    rw [e2]
    exact ih _ _ (fun u hu => by rw [← dg_ss, ← dg_ss]; exact h (u + 1) (by omega))
/-! digits moved: two places of a row's signs change, and change places -/
noncomputable def dl (a M F Y : Nat) : Nat := Nat.lor (Nat.land Y F) (Nat.lor (Nat.land (Nat.shiftRight Y (Nat.mul 4 a)) M) (Nat.shiftLeft (Nat.land Y M) (Nat.mul 4 a)))
noncomputable def t1 (a M σ : Nat) : Nat := cond (Nat.beq (dg M σ) 15) (Nat.add σ a) (cond (Nat.ble a σ) (cond (Nat.beq (dg M (Nat.sub σ a)) 15) (Nat.sub σ a) σ) σ)
noncomputable def okd (a M F N σ : Nat) : Bool := cond (Nat.ble (Nat.succ (t1 a M σ)) N) (cond (Nat.beq (dg M σ) 15) (cond (Nat.beq (dg F σ) 0) (cond (Nat.ble a σ) (Nat.beq (dg M (Nat.sub σ a)) 0) true) false) (cond (Nat.beq (dg M σ) 0) (cond (Nat.ble a σ) (cond (Nat.beq (dg M (Nat.sub σ a)) 15) (Nat.beq (dg F σ) 0) (cond (Nat.beq (dg M (Nat.sub σ a)) 0) (Nat.beq (dg F σ) 15) false)) (Nat.beq (dg F σ) 15)) false)) false
theorem an_f : ∀ x, x < 16 → x &&& 15 = x := by decide +kernel
theorem okd_k {a M F N σ : Nat} (h : okd a M F N σ = true) (Y : Nat) : t1 a M σ < N ∧ dg (dl a M F Y) σ = dg Y (t1 a M σ) := by
  unfold okd at h
  obtain ⟨h0, h⟩ := cd_t h
  refine ⟨Nat.le_of_ble_eq_true h0, ?_⟩
  unfold dl t1
  rw [dg_or, dg_or, dg_an, dg_an, dg_sr, dg_sl, dg_an]
  cases c1 : Nat.beq (dg M σ) 15 with
  | true =>
    rw [c1] at h
    obtain ⟨h1, h⟩ := cd_t h
    have m1 : dg M σ = 15 := Nat.eq_of_beq_eq_true c1
    have f1 : dg F σ = 0 := Nat.eq_of_beq_eq_true h1
    rw [m1, f1, Nat.and_zero, an_f _ (dg_lt _ _), Nat.zero_or]
    show _ = dg Y (σ + a)
    by_cases c2 : a ≤ σ
    · rw [ble_t, decide_eq_true c2] at h
      have m2 : dg M (σ - a) = 0 := Nat.eq_of_beq_eq_true h
      rw [if_pos c2, m2, Nat.and_zero, Nat.or_zero]
    · rw [if_neg c2, Nat.or_zero]
  | false =>
    rw [c1] at h
    obtain ⟨h1, h⟩ := cd_t h
    have m1 : dg M σ = 0 := Nat.eq_of_beq_eq_true h1
    rw [m1, Nat.and_zero, Nat.zero_or]
    show _ = dg Y (cond (Nat.ble a σ) (cond (Nat.beq (dg M (Nat.sub σ a)) 15) (Nat.sub σ a) σ) σ)
    by_cases c2 : a ≤ σ
    · rw [ble_t, decide_eq_true c2] at h ⊢
      rw [if_pos c2]
      show _ = dg Y (cond (Nat.beq (dg M (Nat.sub σ a)) 15) (Nat.sub σ a) σ)
      have h2 : cond (Nat.beq (dg M (Nat.sub σ a)) 15) (Nat.beq (dg F σ) 0) (cond (Nat.beq (dg M (Nat.sub σ a)) 0) (Nat.beq (dg F σ) 15) false) = true := h
      cases c3 : Nat.beq (dg M (Nat.sub σ a)) 15 with
      | true =>
        rw [c3] at h2
        have m2 : dg M (σ - a) = 15 := Nat.eq_of_beq_eq_true c3
        have f1 : dg F σ = 0 := Nat.eq_of_beq_eq_true h2
        rw [m2, f1, Nat.and_zero, an_f _ (dg_lt _ _), Nat.zero_or]
        rfl
      | false =>
        rw [c3] at h2
        obtain ⟨h3, h4⟩ := cd_t h2
        have m2 : dg M (σ - a) = 0 := Nat.eq_of_beq_eq_true h3
        have f1 : dg F σ = 15 := Nat.eq_of_beq_eq_true h4
        rw [m2, f1, Nat.and_zero, an_f _ (dg_lt _ _), Nat.or_zero]
        rfl
    · rw [ble_t, decide_eq_false c2] at h ⊢
      have f1 : dg F σ = 15 := Nat.eq_of_beq_eq_true h
      rw [if_neg c2, f1, an_f _ (dg_lt _ _), Nat.or_zero]
      rfl
noncomputable def ap (n p q : Nat) : Nat := cond (Nat.beq p q) (Nat.pow 2 (Nat.sub (Nat.sub n 1) p)) (Nat.add (Nat.pow 2 (Nat.sub (Nat.sub n 1) p)) (Nat.pow 2 (Nat.sub (Nat.sub n 1) q)))
noncomputable def okD (n mL fL : Nat) : Bool := alb (fun t => cond (Nat.ble (Nat.div t n) (Nat.mod t n)) (fo (ap n (Nat.div t n) (Nat.mod t n)) fun a => fo (tX n mL t) fun M => fo (tX n fL t) fun F => alb (okd a M F (Nat.pow 2 n)) (Nat.pow 2 n)) true) (Nat.mul n n)
theorem nij {n i j : Nat} (hij : i ≤ j) (hj : j < n) : n * i + j < n * n ∧ (n * i + j) / n = i ∧ (n * i + j) % n = j := by
  refine ⟨?_, by rw [Nat.mul_add_div (by omega), Nat.div_eq_of_lt hj, Nat.add_zero], by rw [Nat.mul_add_mod, Nat.mod_eq_of_lt hj]⟩
  have := Nat.mul_le_mul_left n (show i + 1 ≤ n by omega)
  rw [Nat.mul_succ] at this
  omega
theorem okD_k {n mL fL : Nat} (h : okD n mL fL = true) {i j : Nat} (hij : i ≤ j) (hj : j < n) {σ : Nat} (hs : σ < 2 ^ n) : okd (ap n i j) (tX n mL (n * i + j)) (tX n fL (n * i + j)) (2 ^ n) σ = true := by
  obtain ⟨a, b, c⟩ := nij hij hj
  have q := alb_k _ h (n * i + j) a
  have e : Nat.ble (Nat.div (n * i + j) n) (Nat.mod (n * i + j) n) = true := Nat.ble_eq_true_of_le (by show (n * i + j) / n ≤ (n * i + j) % n; omega)
  rw [e] at q
  have q1 : (fo (ap n (Nat.div (n * i + j) n) (Nat.mod (n * i + j) n)) fun a => fo (tX n mL (n * i + j)) fun M => fo (tX n fL (n * i + j)) fun F => alb (okd a M F (Nat.pow 2 n)) (Nat.pow 2 n)) = true := q
  rw [fo_eq, fo_eq, fo_eq, show Nat.div (n * i + j) n = i from b, show Nat.mod (n * i + j) n = j from c] at q1
  exact alb_k _ q1 σ hs
/-- where a turned row's signs stand -/
noncomputable def tq (n mL f : Nat) : Nat → Nat → Nat → Nat := Nat.rec (fun _ _ σ => σ) (fun _ ih i j σ => cond (Nat.ble i j) (t1 (ap n i j) (tX n mL (Nat.add (Nat.mul n i) j)) (ih (Nat.succ i) (Nat.pred j) σ)) σ) f
noncomputable def pm (n mL fL f : Nat) : Nat → Nat → Nat → Nat := Nat.rec (fun _ _ Y => Y) (fun _ ih i j Y => cond (Nat.ble i j) (fo (dl (ap n i j) (tX n mL (Nat.add (Nat.mul n i) j)) (tX n fL (Nat.add (Nat.mul n i) j)) Y) fun Y2 => ih (Nat.succ i) (Nat.pred j) Y2) Y) f
theorem pm_k {n mL fL : Nat} (h : okD n mL fL = true) : ∀ f i j Y σ, j < n → σ < 2 ^ n → tq n mL f i j σ < 2 ^ n ∧ dg (pm n mL fL f i j Y) σ = dg Y (tq n mL f i j σ) := fun f => by
  induction f with
  | zero => exact fun i j Y σ _ hs => ⟨hs, rfl⟩
  | succ f ih =>
    intro i j Y σ hj hs
    have e1 : tq n mL (f + 1) i j σ = cond (Nat.ble i j) (t1 (ap n i j) (tX n mL (n * i + j)) (tq n mL f (i + 1) (j - 1) σ)) σ := rfl
    have e2 : pm n mL fL (f + 1) i j Y = cond (Nat.ble i j) (pm n mL fL f (i + 1) (j - 1) (dl (ap n i j) (tX n mL (n * i + j)) (tX n fL (n * i + j)) Y)) Y := by
      show cond (Nat.ble i j) (fo _ _) Y = _
      rw [fo_eq]
      rfl
    rw [e1, e2]
    by_cases c : i ≤ j
    · rw [ble_t, decide_eq_true c]
      show t1 (ap n i j) (tX n mL (n * i + j)) (tq n mL f (i + 1) (j - 1) σ) < 2 ^ n ∧ dg (pm n mL fL f (i + 1) (j - 1) (dl (ap n i j) (tX n mL (n * i + j)) (tX n fL (n * i + j)) Y)) σ = _
      obtain ⟨g1, g2⟩ := ih (i + 1) (j - 1) (dl (ap n i j) (tX n mL (n * i + j)) (tX n fL (n * i + j)) Y) σ (by omega) hs
      obtain ⟨k1, k2⟩ := okd_k (okD_k h c hj g1) Y
      exact ⟨k1, g2.trans k2⟩
    · rw [ble_t, decide_eq_false c]
      exact ⟨hs, rfl⟩
noncomputable def okT (n mL : Nat) : Bool := alb (fun t => cond (Nat.ble (Nat.div t n) (Nat.mod t n)) (alb (fun σ => fo (tq n mL n (Nat.div t n) (Nat.mod t n) σ) fun u => alb (fun p => Nat.beq (Nat.mod (Nat.shiftRight u (Nat.sub (Nat.sub n 1) p)) 2) (cond (cond (Nat.ble (Nat.div t n) p) (Nat.ble p (Nat.mod t n)) false) (Nat.sub 1 (Nat.mod (Nat.shiftRight σ (Nat.sub (Nat.sub n 1) (Nat.sub (Nat.add (Nat.div t n) (Nat.mod t n)) p))) 2)) (Nat.mod (Nat.shiftRight σ (Nat.sub (Nat.sub n 1) p)) 2))) n) (Nat.pow 2 n)) true) (Nat.mul n n)
theorem okT_k {n mL : Nat} (h : okT n mL = true) {i j : Nat} (hij : i ≤ j) (hj : j < n) {σ : Nat} (hs : σ < 2 ^ n) : ∀ p, p < n → tq n mL n i j σ / 2 ^ (n - 1 - p) % 2 = if i ≤ p ∧ p ≤ j then 1 - σ / 2 ^ (n - 1 - (i + j - p)) % 2 else σ / 2 ^ (n - 1 - p) % 2 := fun p hp => by
  obtain ⟨a, b, c⟩ := nij hij hj
  have q := alb_k _ h (n * i + j) a
  have e : Nat.ble (Nat.div (n * i + j) n) (Nat.mod (n * i + j) n) = true := Nat.ble_eq_true_of_le (by show (n * i + j) / n ≤ (n * i + j) % n; omega)
  have b2 : Nat.div (n * i + j) n = i := b
  have c2 : Nat.mod (n * i + j) n = j := c
  rw [e, b2, c2] at q
  have q2 := alb_k _ q σ hs
  rw [fo_eq] at q2
  have q3 := Nat.eq_of_beq_eq_true (alb_k _ q2 p hp)
  have q4 : (tq n mL n i j σ >>> (n - 1 - p)) % 2 = cond (cond (Nat.ble i p) (Nat.ble p j) false) (1 - (σ >>> (n - 1 - (i + j - p))) % 2) ((σ >>> (n - 1 - p)) % 2) := q3
  rw [Nat.shiftRight_eq_div_pow, Nat.shiftRight_eq_div_pow, Nat.shiftRight_eq_div_pow, ble_t, ble_t] at q4
  rw [q4]
  by_cases c : i ≤ p
  · by_cases c2 : p ≤ j
    · rw [decide_eq_true c, decide_eq_true c2, if_pos ⟨c, c2⟩]; rfl
    · rw [decide_eq_true c, decide_eq_false c2, if_neg (fun w => c2 w.2)]; rfl
  · rw [decide_eq_false c, if_neg (fun w => c w.1)]; rfl
/-! neighbours: no distance falls by more than one; all but the plain one's fall somewhere -/
noncomputable def ons (n : Nat) : Nat := Nat.div (Nat.pow 2 (Nat.mul 4 (Nat.pow 2 n))) 15
theorem ons_d : ∀ n, n < 7 → ∀ σ, σ < 2 ^ n → dg (ons n) σ = 1 := by decide +kernel
/-- two tables of distances side by side: is each digit of Y at most one off X's? V has the digits where it is one below -/
noncomputable def cm (O X Y : Nat) (k : Nat → Bool) : Bool := fo (Nat.xor X Y) fun E => fo (Nat.land E O) fun D => fo (Nat.xor X (Nat.shiftRight E 1)) fun w => fo (Nat.land D w) fun V => cond (Nat.beq (Nat.add Y V) (Nat.add X (Nat.land D (Nat.xor w O)))) (k V) false
theorem vw_k : ∀ e, e < 16 → ∀ w, w < 16 → (e &&& 1 &&& w ≤ 1 ∧ (e &&& 1 &&& (w ^^^ 1)) ≤ 1 ∧ (e &&& 1 &&& w = 1 → (e &&& 1 &&& (w ^^^ 1)) = 0)) := by decide +kernel
theorem cm_k {n X Y : Nat} {k : Nat → Bool} (hn : n ≤ 6) (hX : ∀ σ, σ < 2 ^ n → dg X σ ≤ 7) (hY : ∀ σ, σ < 2 ^ n → dg Y σ ≤ 7) (h : cm (ons n) X Y k = true) : ∃ V, k V = true ∧ ∀ σ, σ < 2 ^ n → dg Y σ ≤ dg X σ + 1 ∧ dg V σ ≤ 1 ∧ (dg V σ = 1 → dg Y σ + 1 = dg X σ) := by
  unfold cm at h
  rw [fo_eq, fo_eq, fo_eq, fo_eq] at h
  generalize hE : Nat.xor X Y = E at h
  generalize hw : Nat.xor X (Nat.shiftRight E 1) = w at h
  obtain ⟨h1, h2⟩ := cd_t h
  have e := Nat.eq_of_beq_eq_true h1
  refine ⟨_, h2, fun σ hs => ?_⟩
  have hV : ∀ t, t < 2 ^ n → dg (Nat.land (Nat.land E (ons n)) w) t = dg E t &&& 1 &&& dg w t := fun t ht => by
    rw [dg_an, dg_an, ons_d n (by omega) t ht]
  have hU : ∀ t, t < 2 ^ n → dg (Nat.land (Nat.land E (ons n)) (Nat.xor w (ons n))) t = dg E t &&& 1 &&& (dg w t ^^^ 1) := fun t ht => by
    rw [dg_an, dg_an, dg_xo, ons_d n (by omega) t ht]
  have hvw : ∀ t, dg E t &&& 1 &&& dg w t ≤ 1 ∧ (dg E t &&& 1 &&& (dg w t ^^^ 1)) ≤ 1 ∧ (dg E t &&& 1 &&& dg w t = 1 → (dg E t &&& 1 &&& (dg w t ^^^ 1)) = 0) := fun t => vw_k _ (dg_lt _ _) _ (dg_lt _ _)
  have e1 := dg_ad σ Y (Nat.land (Nat.land E (ons n)) w) (fun u hu => by
    have a := hY u (by omega)
    have b := (hvw u).1
    rw [hV u (by omega)]
    omega)
  have e2 := dg_ad σ X (Nat.land (Nat.land E (ons n)) (Nat.xor w (ons n))) (fun u hu => by
    have a := hX u (by omega)
    have b := (hvw u).2.1
    rw [hU u (by omega)]
    omega)
  rw [e, e2, hV σ hs, hU σ hs] at e1
  rw [hV σ hs]
  obtain ⟨v1, v2, v3⟩ := hvw σ
  refine ⟨by omega, v1, fun q => ?_⟩
  have := v3 q
  omega
noncomputable def pl (n L tl nbR mL fL r X : Nat) (k : Nat → Bool) (N : Nat) : Nat → Bool := Nat.rec (fun m => k m) (fun t ih m => cond (Nat.ble (Nat.div t n) (Nat.mod t n)) (fo (Nat.mod (Nat.shiftRight nbR (Nat.mul 10 t)) 1024) fun R2 => cond (Nat.ble (Nat.succ R2) (fa n)) (cond (fo (pL n L R2) fun r2 => dq n r r2 (Nat.div t n) (Nat.mod t n)) (fo (pm n mL fL n (Nat.div t n) (Nat.mod t n) (tX n tl R2)) fun Y => cm (ons n) X Y fun V => fo (Nat.lor m V) ih) false) false) (ih m)) N
/-- what is known of a pair of places: a permutation, whose rows are the turned ones; their distances -/
def nbk (n L tl mL r X i j R2 : Nat) : Prop := R2 < fa n ∧ (∀ p, p < n → dg (pL n L R2) p = dg r (ti i j p)) ∧ ∀ σ, σ < 2 ^ n → dg (tX n tl R2) (tq n mL n i j σ) ≤ dg X σ + 1
theorem or_n : ∀ a, a < 16 → ∀ b, b < 2 → (a ||| b ≠ 0 → a ≠ 0 ∨ b = 1) := by decide +kernel
theorem pl_k {n L tl nbR mL fL r X : Nat} {k : Nat → Bool} (hn : n ≤ 6) (hD : okD n mL fL = true) (h7 : ∀ R, R < fa n → ∀ σ, σ < 2 ^ n → dg (tX n tl R) σ ≤ 7) (hX : ∀ σ, σ < 2 ^ n → dg X σ ≤ 7) : ∀ N m, N ≤ n * n → pl n L tl nbR mL fL r X k N m = true → (∀ t, t < N → t / n ≤ t % n → ∃ R2, nbk n L tl mL r X (t / n) (t % n) R2) ∧ ∃ m2, k m2 = true ∧ ∀ σ, σ < 2 ^ n → dg m2 σ ≠ 0 → dg m σ ≠ 0 ∨ ∃ t R2, t < N ∧ t / n ≤ t % n ∧ nbk n L tl mL r X (t / n) (t % n) R2 ∧ dg (tX n tl R2) (tq n mL n (t / n) (t % n) σ) + 1 = dg X σ := fun N => by
  induction N with
  | zero => exact fun m _ h => ⟨fun t ht => absurd ht (Nat.not_lt_zero _), m, h, fun σ _ hs => Or.inl hs⟩
  | succ N ih =>
    intro m hN h
    have n0 : 0 < n := by
      rcases Nat.eq_zero_or_pos n with z | z
      · subst z; omega
      · exact z
    have hmod := Nat.mod_lt N n0
    have e : pl n L tl nbR mL fL r X k (N + 1) m = cond (Nat.ble (Nat.div N n) (Nat.mod N n)) (cond (Nat.ble (Nat.succ (Nat.mod (Nat.shiftRight nbR (Nat.mul 10 N)) 1024)) (fa n)) (cond (dq n r (pL n L (Nat.mod (Nat.shiftRight nbR (Nat.mul 10 N)) 1024)) (Nat.div N n) (Nat.mod N n)) (cm (ons n) X (pm n mL fL n (Nat.div N n) (Nat.mod N n) (tX n tl (Nat.mod (Nat.shiftRight nbR (Nat.mul 10 N)) 1024))) fun V => pl n L tl nbR mL fL r X k N (Nat.lor m V)) false) false) (pl n L tl nbR mL fL r X k N m) := by
      show cond (Nat.ble (Nat.div N n) (Nat.mod N n)) (fo (Nat.mod (Nat.shiftRight nbR (Nat.mul 10 N)) 1024) fun R2 => cond (Nat.ble (Nat.succ R2) (fa n)) (cond (fo (pL n L R2) fun r2 => dq n r r2 (Nat.div N n) (Nat.mod N n)) (fo (pm n mL fL n (Nat.div N n) (Nat.mod N n) (tX n tl R2)) fun Y => cm (ons n) X Y fun V => fo (Nat.lor m V) fun m2 => pl n L tl nbR mL fL r X k N m2) false) false) (pl n L tl nbR mL fL r X k N m) = _
      simp only [fo_eq]
    rw [e] at h
    generalize hR : Nat.mod (Nat.shiftRight nbR (Nat.mul 10 N)) 1024 = R2 at h
    cases c : Nat.ble (Nat.div N n) (Nat.mod N n) with
    | false =>
      rw [c] at h
      have c1 : ¬ N / n ≤ N % n := fun w => by rw [show Nat.ble (Nat.div N n) (Nat.mod N n) = true from Nat.ble_eq_true_of_le w] at c; cases c
      obtain ⟨g1, m2, g2, g3⟩ := ih m (by omega) h
      refine ⟨fun t ht h1 => ?_, m2, g2, fun σ hs hd => ?_⟩
      · by_cases w : t = N
        · subst w; exact absurd h1 c1
        · exact g1 t (by omega) h1
      · rcases g3 σ hs hd with w | ⟨t, R3, w2, w3⟩
        · exact Or.inl w
        · exact Or.inr ⟨t, R3, by omega, w3⟩
    | true =>
      rw [c] at h
      obtain ⟨h1, h⟩ := cd_t h
      obtain ⟨h2, h⟩ := cd_t h
      have c1 : N / n ≤ N % n := Nat.le_of_ble_eq_true c
      have hR2 : R2 < fa n := Nat.le_of_ble_eq_true h1
      have hp := fun σ hs => pm_k hD n (N / n) (N % n) (tX n tl R2) σ hmod hs
      obtain ⟨V, q1, q2⟩ := cm_k hn hX (fun σ hs => by
        have w := hp σ hs
        show dg (pm n mL fL n (N / n) (N % n) (tX n tl R2)) σ ≤ 7
        rw [w.2]
        exact h7 R2 hR2 _ w.1) h
      have q3 : ∀ σ, σ < 2 ^ n → dg (tX n tl R2) (tq n mL n (N / n) (N % n) σ) ≤ dg X σ + 1 ∧ dg V σ ≤ 1 ∧ (dg V σ = 1 → dg (tX n tl R2) (tq n mL n (N / n) (N % n) σ) + 1 = dg X σ) := fun σ hs => by
        rw [← (hp σ hs).2]
        exact q2 σ hs
      obtain ⟨g1, m2, g2, g3⟩ := ih (Nat.lor m V) (by omega) q1
      have hk : nbk n L tl mL r X (N / n) (N % n) R2 := ⟨hR2, fun p hp => dq_k h2 hp, fun σ hs => (q3 σ hs).1⟩
      refine ⟨fun t ht h3 => ?_, m2, g2, fun σ hs hd => ?_⟩
      · by_cases w : t = N
        · subst w; exact ⟨R2, hk⟩
        · exact g1 t (by omega) h3
      · rcases g3 σ hs hd with w | ⟨t, R3, w2, w3⟩
        · rw [dg_or] at w
          rcases or_n _ (dg_lt _ _) _ (show dg V σ < 2 by have := (q3 σ hs).2.1; omega) w with w4 | w4
          · exact Or.inl w4
          · exact Or.inr ⟨N, R2, Nat.lt_succ_self N, c1, hk, (q3 σ hs).2.2 w4⟩
        · exact Or.inr ⟨t, R3, by omega, w3⟩
noncomputable def okB (n L tl nb mL fL R : Nat) : Bool := fo (pL n L R) fun r => fo (tX n tl R) fun X => fo (Nat.mod (Nat.shiftRight nb (Nat.mul (Nat.mul 10 (Nat.mul n n)) R)) (Nat.pow 2 (Nat.mul 10 (Nat.mul n n)))) fun nbR => pl n L tl nbR mL fL r X (fun m => Nat.beq m (ons n)) (Nat.mul n n) (cond (Nat.beq R 0) 1 0)
theorem okB_k {n L tl nb mL fL R : Nat} (hn : n ≤ 6) (hD : okD n mL fL = true) (h7 : ∀ R, R < fa n → ∀ σ, σ < 2 ^ n → dg (tX n tl R) σ ≤ 7) (hR : R < fa n) (h : okB n L tl nb mL fL R = true) : (∀ i j, i ≤ j → j < n → ∃ R2, nbk n L tl mL (pL n L R) (tX n tl R) i j R2) ∧ ∀ σ, σ < 2 ^ n → (R = 0 ∧ σ = 0) ∨ ∃ i j R2, i ≤ j ∧ j < n ∧ nbk n L tl mL (pL n L R) (tX n tl R) i j R2 ∧ dg (tX n tl R2) (tq n mL n i j σ) + 1 = dg (tX n tl R) σ := by
  unfold okB at h
  rw [fo_eq, fo_eq, fo_eq] at h
  obtain ⟨h1, m2, h2, h3⟩ := pl_k hn hD h7 (h7 R hR) _ _ (Nat.le_refl (n * n)) h
  have e2 : m2 = ons n := Nat.eq_of_beq_eq_true h2
  refine ⟨fun i j hi hj => ?_, fun σ hs => ?_⟩
  · obtain ⟨a, b, c⟩ := nij hi hj
    have q := h1 (n * i + j) a (by omega)
    rw [b, c] at q
    exact q
  · have hb : dg m2 σ ≠ 0 := by rw [e2, ons_d n (by omega) σ hs]; decide
    rcases h3 σ hs hb with w | ⟨t, R2, w2, w3, w4, w5⟩
    · left
      cases c : Nat.beq R 0 with
      | true =>
        rw [c] at w
        refine ⟨Nat.eq_of_beq_eq_true c, ?_⟩
        refine Classical.byContradiction fun q => w ?_
        show (1 >>> (4 * σ)) % 16 = 0
        rw [Nat.shiftRight_eq_div_pow, Nat.div_eq_of_lt (Nat.one_lt_two_pow (by omega))]
      | false =>
        rw [c] at w
        refine absurd ?_ w
        show (0 >>> (4 * σ)) % 16 = 0
        rw [Nat.zero_shiftRight]
    · right
      have n0 : 0 < n := by
        rcases Nat.eq_zero_or_pos n with z | z
        · subst z; exact absurd w2 (by show ¬ t < 0 * 0; omega)
        · exact z
      exact ⟨t / n, t % n, R2, w3, Nat.mod_lt _ n0, w4, w5⟩
/-- all that is checked -/
def TK (n L tl nb mL fL : Nat) : Prop := (∀ R, R < fa n → okL n L R = true) ∧ enq n (okF n L) n 0 0 = true ∧ (okD n mL fL = true ∧ okT n mL = true) ∧ (∀ R, R < fa n → okA n L tl R = true) ∧ ∀ R, R < fa n → okB n L tl nb mL fL R = true
