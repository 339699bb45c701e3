/-! TABLES: permutations by rank, distances by rank, neighbours; what is checked of them, and what the checks say -/
noncomputable def alb (F : Nat → Bool) (N : Nat) : Bool := Nat.rec true (fun k ih => cond (F k) ih false) N
theorem alb_k {F : Nat → Bool} : ∀ N, alb F N = true → ∀ k, k < N → F k = true := fun N => by
  induction N with
  | zero => exact fun _ k hk => absurd hk (Nat.not_lt_zero _)
  | succ N ih =>
    intro h k hk
    have e : alb F (N + 1) = cond (F N) (alb F N) false := rfl
    rw [e] at h
    cases c : F N with
    | false => rw [c] at h; exact (nomatch h)
    | true =>
      rw [c] at h
      by_cases q : k = N
      · rw [q]; exact c
      · exact ih h k (by omega)
theorem cd_t {a b : Bool} (h : cond a b false = true) : a = true ∧ b = true := by
  cases a with
  | false => exact (nomatch h)
  | true => exact ⟨rfl, h⟩
noncomputable def spq (n σ : Nat) : Nat := Nat.rec 0 (fun p ih => Nat.lor ih (Nat.shiftLeft (Nat.mod (Nat.shiftRight σ (Nat.sub (Nat.pred n) p)) 2) (Nat.add (Nat.mul 4 p) 3))) n
theorem spq_d : ∀ n, n < 7 → ∀ σ, σ < 2 ^ n → ∀ p, p < n → dg (spq n σ) p = 8 * (σ / 2 ^ (n - 1 - p) % 2) := by decide +kernel
noncomputable def pL (n L R : Nat) : Nat := Nat.mod (Nat.shiftRight L (Nat.mul (Nat.mul 4 n) R)) (Nat.pow 2 (Nat.mul 4 n))
noncomputable def tX (n tl R : Nat) : Nat := Nat.mod (Nat.shiftRight tl (Nat.mul (Nat.mul 4 (Nat.pow 2 n)) R)) (Nat.pow 2 (Nat.mul 4 (Nat.pow 2 n)))
/-- the distances of a permutation's rows -/
noncomputable def okA (n L tl R : Nat) : Bool := fo (pL n L R) fun r => fo (tX n tl R) fun X => alb (fun σ => fo (Nat.lor r (spq n σ)) fun q => fo (dg X σ) fun d => cond (Nat.ble d 7) (dst n q d) false) (Nat.pow 2 n)
theorem okA_k {n L tl R : Nat} (h : okA n L tl R = true) {σ : Nat} (hs : σ < 2 ^ n) : dg (tX n tl R) σ ≤ 7 ∧ dst n (Nat.lor (pL n L R) (spq n σ)) (dg (tX n tl R) σ) = true := by
  unfold okA at h
  rw [fo_eq, fo_eq] at h
  have h1 := alb_k _ h σ hs
  rw [fo_eq, fo_eq] at h1
  obtain ⟨a, b⟩ := cd_t h1
  exact ⟨Nat.le_of_ble_eq_true a, b⟩
/-! permutations -/
noncomputable def gz (r : Nat) : Nat → Int := fun p => ((dg r p : Nat) : Int)
noncomputable def okL (n L R : Nat) : Bool := fo (pL n L R) fun r => cond (Nat.beq (rk (gz r) n n) R) (cond (alb (fun p => fo (dg r p) fun g => cond (Nat.beq g (ug n R p)) (cond (Nat.ble 1 g) (cond (Nat.ble g n) (Nat.beq (pq (gz r) g n) p) false) false) false) n) (alb (fun x => fo (pq (gz r) (Nat.succ x) n) fun p => cond (Nat.ble (Nat.succ p) n) (Nat.beq (dg r p) (Nat.succ x)) false) n) false) false
theorem okL_k {n L R : Nat} (h : okL n L R = true) : rk (gz (pL n L R)) n n = R ∧ (∀ p, p < n → dg (pL n L R) p = ug n R p) ∧ sP n (gz (pL n L R)) := by
  unfold okL at h
  rw [fo_eq] at h
  obtain ⟨a, h⟩ := cd_t h
  obtain ⟨b, c⟩ := cd_t h
  have b1 : ∀ p, p < n → dg (pL n L R) p = ug n R p ∧ 1 ≤ dg (pL n L R) p ∧ dg (pL n L R) p ≤ n ∧ pq (gz (pL n L R)) (dg (pL n L R) p) n = p := fun p hp => by
    have q := alb_k _ b p hp
    rw [fo_eq] at q
    obtain ⟨q1, q⟩ := cd_t q
    obtain ⟨q2, q⟩ := cd_t q
    obtain ⟨q3, q⟩ := cd_t q
    exact ⟨Nat.eq_of_beq_eq_true q1, Nat.le_of_ble_eq_true q2, Nat.le_of_ble_eq_true q3, Nat.eq_of_beq_eq_true q⟩
  have c1 : ∀ x, x < n → pq (gz (pL n L R)) (x + 1) n < n ∧ dg (pL n L R) (pq (gz (pL n L R)) (x + 1) n) = x + 1 := fun x hx => by
    have q := alb_k _ c x hx
    rw [fo_eq] at q
    obtain ⟨q1, q⟩ := cd_t q
    exact ⟨Nat.le_of_ble_eq_true q1, Nat.eq_of_beq_eq_true q⟩
  refine ⟨Nat.eq_of_beq_eq_true a, fun p hp => (b1 p hp).1, ⟨fun p hp => ⟨(b1 p hp).2.1, (b1 p hp).2.2.1⟩, fun x => pq (gz (pL n L R)) x n, fun x h1 h2 => ?_, fun p hp => (b1 p hp).2.2.2⟩⟩
  have := c1 (x - 1) (by omega)
  rw [show x - 1 + 1 = x by omega] at this
  exact this
/-! every permutation is there -/
noncomputable def enq (n : Nat) (F : Nat → Bool) (f : Nat) : Nat → Nat → Bool := Nat.rec (fun _ r => F r) (fun f ih m r => alb (fun g => cond (bt m (Nat.succ g)) true (fo (Nat.lor m (Nat.shiftLeft 1 (Nat.succ g))) fun m2 => fo (Nat.lor r (Nat.shiftLeft (Nat.succ g) (Nat.mul 4 f))) fun r2 => ih m2 r2)) n) f
theorem enq_k {n : Nat} {F : Nat → Bool} {z : Nat → Int} (hn : n ≤ 6) (hz : sP n z) : ∀ f m r, f ≤ n → (∀ g, m.testBit g = true → ∃ p, f ≤ p ∧ p < n ∧ (z p).natAbs = g) → (∀ p, dg r p = if f ≤ p ∧ p < n then (z p).natAbs else 0) → enq n F f m r = true → ∃ r2, F r2 = true ∧ ∀ p, p < n → dg r2 p = (z p).natAbs := fun f => by
  induction f with
  | zero => exact fun m r _ _ h2 h3 => ⟨r, h3, fun p hp => (h2 p).trans (if_pos ⟨Nat.zero_le _, hp⟩)⟩
  | succ f ih =>
    intro m r hf h1 h2 h3
    have hb := hz.1 f (by omega)
    have q := alb_k (F := fun g => cond (bt m (Nat.succ g)) true (fo (Nat.lor m (Nat.shiftLeft 1 (Nat.succ g))) fun m2 => fo (Nat.lor r (Nat.shiftLeft (Nat.succ g) (Nat.mul 4 f))) fun r2 => enq n F f m2 r2)) n h3 ((z f).natAbs - 1) (by omega)
    rw [show Nat.succ ((z f).natAbs - 1) = (z f).natAbs by omega, fo_eq, fo_eq, bt_t] at q
    cases c : m.testBit (z f).natAbs with
    | true =>
      obtain ⟨p, p1, p2, p3⟩ := h1 _ c
      exact absurd (sP_j hz p2 (by omega) p3) (by omega)
    | false =>
      rw [c] at q
      refine ih _ _ (by omega) (fun g hg => ?_) (fun p => ?_) q
      · have hg2 : (m ||| 1 <<< (z f).natAbs).testBit g = true := hg
        rw [Nat.testBit_or, Nat.one_shiftLeft, Nat.testBit_two_pow, Bool.or_eq_true, decide_eq_true_iff] at hg2
        rcases hg2 with w | w
        · obtain ⟨p, p1, p2, p3⟩ := h1 g w
          exact ⟨p, by omega, p2, p3⟩
        · exact ⟨f, Nat.le_refl _, by omega, w⟩
      · rw [dg_or, h2]
        show _ ||| dg (Nat.shiftLeft (z f).natAbs (4 * f)) p = _
        rw [dg_sh (by omega)]
        by_cases e : p = f
        · rw [if_neg (by omega), if_pos e, if_pos (by omega), e, Nat.zero_or]
        · rw [if_neg e, Nat.or_zero]
          exact if_i (by omega) _ _
noncomputable def okF (n L : Nat) : Nat → Bool := fun r => fo (rk (gz r) n n) fun R => cond (Nat.ble (Nat.succ R) (fa n)) (Nat.beq (pL n L R) r) false
/-! turned rows -/
def ti (i j p : Nat) : Nat := if i ≤ p ∧ p ≤ j then i + j - p else p
noncomputable def dq (n r r2 i j : Nat) : Bool := alb (fun p => Nat.beq (dg r2 p) (dg r (cond (cond (Nat.ble i p) (Nat.ble p j) false) (Nat.sub (Nat.add i j) p) p))) n
theorem dq_k {n r r2 i j : Nat} (h : dq n r r2 i j = true) {p : Nat} (hp : p < n) : dg r2 p = dg r (ti i j p) := by
  have q := Nat.eq_of_beq_eq_true (alb_k _ h p hp)
  rw [q]
  unfold ti
  rw [ble_t, ble_t]
  by_cases c : i ≤ p
  · by_cases c2 : p ≤ j
    · rw [decide_eq_true c, decide_eq_true c2, if_pos ⟨c, c2⟩]; rfl
    · rw [decide_eq_true c, decide_eq_false c2, if_neg (fun w => c2 w.2)]; rfl
  · rw [decide_eq_false c, if_neg (fun w => c w.1)]; rfl
noncomputable def sx (s σ : Nat) : Nat := Nat.mod (Nat.shiftRight s (Nat.mul 6 σ)) 64
noncomputable def stx (st t : Nat) : Nat := Nat.mod (Nat.shiftRight st (Nat.mul 384 t)) (Nat.pow 2 384)
noncomputable def okT (n st : Nat) : Bool := alb (fun t => cond (Nat.ble (Nat.div t n) (Nat.mod t n)) (fo (stx st t) fun s => alb (fun σ => fo (sx s σ) fun u => cond (Nat.ble (Nat.succ u) (Nat.pow 2 n)) (alb (fun p => Nat.beq (Nat.mod (Nat.shiftRight u (Nat.sub (Nat.sub n 1) p)) 2) (cond (cond (Nat.ble (Nat.div t n) p) (Nat.ble p (Nat.mod t n)) false) (Nat.sub 1 (Nat.mod (Nat.shiftRight σ (Nat.sub (Nat.sub n 1) (Nat.sub (Nat.add (Nat.div t n) (Nat.mod t n)) p))) 2)) (Nat.mod (Nat.shiftRight σ (Nat.sub (Nat.sub n 1) p)) 2))) n) false) (Nat.pow 2 n)) true) (Nat.mul n n)
theorem okT_k {n st : Nat} (h : okT n st = true) {t : Nat} (ht : t < n * n) (hij : t / n ≤ t % n) {σ : Nat} (hs : σ < 2 ^ n) : sx (stx st t) σ < 2 ^ n ∧ ∀ p, p < n → sx (stx st t) σ / 2 ^ (n - 1 - p) % 2 = if t / n ≤ p ∧ p ≤ t % n then 1 - σ / 2 ^ (n - 1 - (t / n + t % n - p)) % 2 else σ / 2 ^ (n - 1 - p) % 2 := by
  have q := alb_k _ h t ht
  have e : Nat.ble (Nat.div t n) (Nat.mod t n) = true := Nat.ble_eq_true_of_le hij
  rw [e] at q
  have q1 : (fo (stx st t) fun s => alb (fun σ => fo (sx s σ) fun u => cond (Nat.ble (Nat.succ u) (Nat.pow 2 n)) (alb (fun p => Nat.beq (Nat.mod (Nat.shiftRight u (Nat.sub (Nat.sub n 1) p)) 2) (cond (cond (Nat.ble (Nat.div t n) p) (Nat.ble p (Nat.mod t n)) false) (Nat.sub 1 (Nat.mod (Nat.shiftRight σ (Nat.sub (Nat.sub n 1) (Nat.sub (Nat.add (Nat.div t n) (Nat.mod t n)) p))) 2)) (Nat.mod (Nat.shiftRight σ (Nat.sub (Nat.sub n 1) p)) 2))) n) false) (Nat.pow 2 n)) = true := q
  rw [fo_eq] at q1
  have q2 := alb_k _ q1 σ hs
  rw [fo_eq] at q2
  obtain ⟨a, b⟩ := cd_t q2
  refine ⟨Nat.le_of_ble_eq_true a, fun p hp => ?_⟩
  have q3 := Nat.eq_of_beq_eq_true (alb_k _ b p hp)
  have q4 : (sx (stx st t) σ >>> (n - 1 - p)) % 2 = cond (cond (Nat.ble (t / n) p) (Nat.ble p (t % n)) false) (1 - (σ >>> (n - 1 - (t / n + t % n - p))) % 2) ((σ >>> (n - 1 - p)) % 2) := q3
  rw [Nat.shiftRight_eq_div_pow, Nat.shiftRight_eq_div_pow, Nat.shiftRight_eq_div_pow, ble_t, ble_t] at q4
  rw [q4]
  by_cases c : t / n ≤ p
  · by_cases c2 : p ≤ t % n
    · rw [decide_eq_true c, decide_eq_true c2, if_pos ⟨c, c2⟩]; rfl
    · rw [decide_eq_true c, decide_eq_false c2, if_neg (fun w => c2 w.2)]; rfl
  · rw [decide_eq_false c, if_neg (fun w => c w.1)]; rfl
/-! neighbours: no distance falls by more than one; all but the plain one's fall somewhere -/
noncomputable def sl (X Y s : Nat) (k : Nat → Bool) (N : Nat) : Nat → Bool := Nat.rec (fun m => k m) (fun σ ih m => fo (dg X σ) fun a => fo (dg Y (sx s σ)) fun b => cond (Nat.ble b (Nat.succ a)) (cond (Nat.beq (Nat.succ b) a) (fo (Nat.lor m (Nat.shiftLeft 1 σ)) ih) (ih m)) false) N
theorem sl_k {X Y s : Nat} {k : Nat → Bool} : ∀ N m, sl X Y s k N m = true → (∀ σ, σ < N → dg Y (sx s σ) ≤ dg X σ + 1) ∧ ∃ m2, k m2 = true ∧ ∀ σ, m2.testBit σ = true → m.testBit σ = true ∨ (σ < N ∧ dg Y (sx s σ) + 1 = dg X σ) := fun N => by
  induction N with
  | zero => exact fun m h => ⟨fun σ hs => absurd hs (Nat.not_lt_zero _), m, h, fun σ hs => Or.inl hs⟩
  | succ N ih =>
    intro m h
    have e : sl X Y s k (N + 1) m = cond (Nat.ble (dg Y (sx s N)) (Nat.succ (dg X N))) (cond (Nat.beq (Nat.succ (dg Y (sx s N))) (dg X N)) (sl X Y s k N (Nat.lor m (Nat.shiftLeft 1 N))) (sl X Y s k N m)) false := by
      show (fo (dg X N) fun a => fo (dg Y (sx s N)) fun b => cond (Nat.ble b (Nat.succ a)) (cond (Nat.beq (Nat.succ b) a) (fo (Nat.lor m (Nat.shiftLeft 1 N)) fun m2 => sl X Y s k N m2) (sl X Y s k N m)) false) = _
      rw [fo_eq, fo_eq, fo_eq]
    rw [e] at h
    obtain ⟨a, b⟩ := cd_t h
    have a1 : dg Y (sx s N) ≤ dg X N + 1 := Nat.le_of_ble_eq_true a
    cases c : Nat.beq (Nat.succ (dg Y (sx s N))) (dg X N) with
    | true =>
      rw [c] at b
      obtain ⟨g1, m2, g2, g3⟩ := ih _ b
      refine ⟨fun σ hs => ?_, m2, g2, fun σ hs => ?_⟩
      · by_cases w : σ = N
        · rw [w]; exact a1
        · exact g1 σ (by omega)
      · rcases g3 σ hs with w | w
        · have w2 : (m ||| 1 <<< N).testBit σ = true := w
          rw [Nat.testBit_or, Nat.one_shiftLeft, Nat.testBit_two_pow, Bool.or_eq_true, decide_eq_true_iff] at w2
          rcases w2 with w3 | w3
          · exact Or.inl w3
          · rw [← w3]; exact Or.inr ⟨Nat.lt_succ_self N, Nat.eq_of_beq_eq_true c⟩
        · exact Or.inr ⟨by omega, w.2⟩
    | false =>
      rw [c] at b
      obtain ⟨g1, m2, g2, g3⟩ := ih _ b
      refine ⟨fun σ hs => ?_, m2, g2, fun σ hs => ?_⟩
      · by_cases w : σ = N
        · rw [w]; exact a1
        · exact g1 σ (by omega)
      · exact (g3 σ hs).imp id (fun w => ⟨by omega, w.2⟩)
noncomputable def pl (n L tl nbR st r X : Nat) (k : Nat → Bool) (N : Nat) : Nat → Bool := Nat.rec (fun m => k m) (fun t ih m => cond (Nat.ble (Nat.div t n) (Nat.mod t n)) (fo (Nat.mod (Nat.shiftRight nbR (Nat.mul 10 t)) 1024) fun R2 => cond (Nat.ble (Nat.succ R2) (fa n)) (cond (fo (pL n L R2) fun r2 => dq n r r2 (Nat.div t n) (Nat.mod t n)) (fo (tX n tl R2) fun Y => fo (stx st t) fun s => sl X Y s ih (Nat.pow 2 n) m) false) false) (ih m)) N
/-- what is known of a pair of places: a permutation, whose rows are the turned ones; their distances -/
def nbk (n L tl st r X i j R2 : Nat) : Prop := R2 < fa n ∧ (∀ p, p < n → dg (pL n L R2) p = dg r (ti i j p)) ∧ ∀ σ, σ < 2 ^ n → dg (tX n tl R2) (sx (stx st (n * i + j)) σ) ≤ dg X σ + 1
theorem pl_k {n L tl nbR st r X : Nat} {k : Nat → Bool} : ∀ N m, pl n L tl nbR st r X k N m = true → (∀ t, t < N → t / n ≤ t % n → ∃ R2, nbk n L tl st r X (t / n) (t % n) R2) ∧ ∃ m2, k m2 = true ∧ ∀ σ, m2.testBit σ = true → m.testBit σ = true ∨ (σ < 2 ^ n ∧ ∃ t R2, t < N ∧ t / n ≤ t % n ∧ nbk n L tl st r X (t / n) (t % n) R2 ∧ dg (tX n tl R2) (sx (stx st t) σ) + 1 = dg X σ) := fun N => by
  induction N with
  | zero => exact fun m h => ⟨fun t ht => absurd ht (Nat.not_lt_zero _), m, h, fun σ hs => Or.inl hs⟩
  | succ N ih =>
    intro m h
    have e : pl n L tl nbR st r X k (N + 1) m = cond (Nat.ble (Nat.div N n) (Nat.mod N n)) (cond (Nat.ble (Nat.succ (Nat.mod (Nat.shiftRight nbR (Nat.mul 10 N)) 1024)) (fa n)) (cond (dq n r (pL n L (Nat.mod (Nat.shiftRight nbR (Nat.mul 10 N)) 1024)) (Nat.div N n) (Nat.mod N n)) (sl X (tX n tl (Nat.mod (Nat.shiftRight nbR (Nat.mul 10 N)) 1024)) (stx st N) (fun m2 => pl n L tl nbR st r X k N m2) (Nat.pow 2 n) m) false) false) (pl n L tl nbR st r X k N m) := by
      show cond (Nat.ble (Nat.div N n) (Nat.mod N n)) (fo (Nat.mod (Nat.shiftRight nbR (Nat.mul 10 N)) 1024) fun R2 => cond (Nat.ble (Nat.succ R2) (fa n)) (cond (fo (pL n L R2) fun r2 => dq n r r2 (Nat.div N n) (Nat.mod N n)) (fo (tX n tl R2) fun Y => fo (stx st N) fun s => sl X Y s (fun m2 => pl n L tl nbR st r X k N m2) (Nat.pow 2 n) m) false) false) (pl n L tl nbR st r X k N m) = _
      rw [fo_eq, fo_eq, fo_eq, fo_eq]
    rw [e] at h
    generalize hR : Nat.mod (Nat.shiftRight nbR (Nat.mul 10 N)) 1024 = R2 at h
    cases c : Nat.ble (Nat.div N n) (Nat.mod N n) with
    | false =>
      rw [c] at h
      have c1 : ¬ N / n ≤ N % n := fun w => by rw [show Nat.ble (Nat.div N n) (Nat.mod N n) = true from Nat.ble_eq_true_of_le w] at c; cases c
      obtain ⟨g1, m2, g2, g3⟩ := ih m h
      refine ⟨fun t ht h1 => ?_, m2, g2, fun σ hs => ?_⟩
      · by_cases w : t = N
        · subst w; exact absurd h1 c1
        · exact g1 t (by omega) h1
      · rcases g3 σ hs with w | ⟨w1, t, R3, w2, w3⟩
        · exact Or.inl w
        · exact Or.inr ⟨w1, t, R3, by omega, w3⟩
    | true =>
      rw [c] at h
      obtain ⟨h1, h⟩ := cd_t h
      obtain ⟨h2, h⟩ := cd_t h
      have c1 : N / n ≤ N % n := Nat.le_of_ble_eq_true c
      obtain ⟨q1, m3, q2, q3⟩ := sl_k _ _ h
      obtain ⟨g1, m2, g2, g3⟩ := ih m3 q2
      have hk : nbk n L tl st r X (N / n) (N % n) R2 := ⟨Nat.le_of_ble_eq_true h1, fun p hp => dq_k h2 hp, fun σ hs => by rw [Nat.div_add_mod]; exact q1 σ hs⟩
      refine ⟨fun t ht h3 => ?_, m2, g2, fun σ hs => ?_⟩
      · by_cases w : t = N
        · subst w; exact ⟨R2, hk⟩
        · exact g1 t (by omega) h3
      · rcases g3 σ hs with w | ⟨w1, t, R3, w2, w3⟩
        · rcases q3 σ w with w4 | ⟨w4, w5⟩
          · exact Or.inl w4
          · exact Or.inr ⟨w4, N, R2, Nat.lt_succ_self N, c1, hk, w5⟩
        · exact Or.inr ⟨w1, t, R3, by omega, w3⟩
noncomputable def okB (n L tl nb st R : Nat) : Bool := fo (pL n L R) fun r => fo (tX n tl R) fun X => fo (Nat.mod (Nat.shiftRight nb (Nat.mul (Nat.mul 10 (Nat.mul n n)) R)) (Nat.pow 2 (Nat.mul 10 (Nat.mul n n)))) fun nbR => pl n L tl nbR st r X (fun m => Nat.beq m (Nat.pred (Nat.pow 2 (Nat.pow 2 n)))) (Nat.mul n n) (cond (Nat.beq R 0) 1 0)
theorem okB_k {n L tl nb st R : Nat} (h : okB n L tl nb st R = true) : (∀ i j, i ≤ j → j < n → ∃ R2, nbk n L tl st (pL n L R) (tX n tl R) i j R2) ∧ ∀ σ, σ < 2 ^ n → (R = 0 ∧ σ = 0) ∨ ∃ i j R2, i ≤ j ∧ j < n ∧ nbk n L tl st (pL n L R) (tX n tl R) i j R2 ∧ dg (tX n tl R2) (sx (stx st (n * i + j)) σ) + 1 = dg (tX n tl R) σ := by
  unfold okB at h
  rw [fo_eq, fo_eq, fo_eq] at h
  obtain ⟨h1, m2, h2, h3⟩ := pl_k _ _ h
  have e2 : m2 = 2 ^ (2 ^ n) - 1 := Nat.eq_of_beq_eq_true h2
  have ij : ∀ i j, j < n → (n * i + j) / n = i ∧ (n * i + j) % n = j := fun i j hj => ⟨by rw [Nat.mul_add_div (by omega), Nat.div_eq_of_lt hj, Nat.add_zero], by rw [Nat.mul_add_mod, Nat.mod_eq_of_lt hj]⟩
  refine ⟨fun i j hi hj => ?_, fun σ hs => ?_⟩
  · obtain ⟨a, b⟩ := ij i j hj
    have q := h1 (n * i + j) (by
      show n * i + j < n * n
      have := Nat.mul_le_mul_left n (show i + 1 ≤ n by omega)
      rw [Nat.mul_succ] at this
      omega) (by omega)
    rw [a, b] at q
    exact q
  · have hb : m2.testBit σ = true := by
      rw [e2, Nat.testBit_two_pow_sub_one, decide_eq_true_iff]
      exact hs
    rcases h3 σ hb with w | ⟨w1, t, R2, w2, w3, w4, w5⟩
    · left
      cases c : Nat.beq R 0 with
      | true =>
        rw [c] at w
        refine ⟨Nat.eq_of_beq_eq_true c, ?_⟩
        have w2 : (1 : Nat).testBit σ = true := w
        rw [show (1 : Nat) = 2 ^ 0 from rfl, Nat.testBit_two_pow, decide_eq_true_iff] at w2
        exact w2.symm
      | false =>
        rw [c] at w
        have w2 : (0 : Nat).testBit σ = true := w
        rw [Nat.zero_testBit] at w2
        cases w2
    · right
      have n0 : 0 < n := by
        rcases Nat.eq_zero_or_pos n with z | z
        · subst z; exact absurd w2 (by show ¬ t < 0 * 0; omega)
        · exact z
      exact ⟨t / n, t % n, R2, w3, Nat.mod_lt _ n0, w4, by rw [Nat.div_add_mod]; exact w5⟩
/-- all that is checked -/
def TK (n L tl nb st : Nat) : Prop := (∀ R, R < fa n → okL n L R = true) ∧ enq n (okF n L) n 0 0 = true ∧ okT n st = true ∧ (∀ R, R < fa n → okA n L tl R = true) ∧ ∀ R, R < fa n → okB n L tl nb st R = true
