/-! BREADTH-FIRST SEARCH: a function that each step changes by at most one, and that some step lowers, is what the search finds -/
theorem if_i {α : Type} {p q : Prop} [Decidable p] [Decidable q] (h : p ↔ q) (a b : α) : (if p then a else b) = if q then a else b := by
  by_cases hp : p
  · rw [if_pos hp, if_pos (h.mp hp)]
  · rw [if_neg hp, if_neg (fun r => hp (h.mpr r))]
def s1 (f : Nat → Nat → Nat) (i : Nat) : Nat → Nat
  | 0 => 0
  | t + 1 => s1 f i t + f i (i + t)
def s2 (f : Nat → Nat → Nat) (n : Nat) : Nat → Nat
  | 0 => 0
  | i + 1 => s2 f n i + s1 f i (n - i)
theorem s1_c {f g : Nat → Nat → Nat} {i : Nat} : ∀ t, (∀ j, i ≤ j → j < i + t → f i j = g i j) → s1 f i t = s1 g i t := fun t => by
  induction t with
  | zero => exact fun _ => rfl
  | succ t ih =>
    intro h
    show s1 f i t + f i (i + t) = s1 g i t + g i (i + t)
    rw [ih (fun j h1 h2 => h j h1 (by omega)), h (i + t) (by omega) (by omega)]
theorem s2_c {f g : Nat → Nat → Nat} {n : Nat} : ∀ m, (∀ i j, i < m → i ≤ j → j < n → f i j = g i j) → s2 f n m = s2 g n m := fun m => by
  induction m with
  | zero => exact fun _ => rfl
  | succ m ih =>
    intro h
    show s2 f n m + s1 f m (n - m) = s2 g n m + s1 g m (n - m)
    rw [ih (fun i j h1 h2 h3 => h i j (by omega) h2 h3), s1_c (n - m) (fun j h1 h2 => h m j (by omega) h1 (by omega))]
theorem s1_p {f g : Nat → Nat → Nat} {i j0 c : Nat} : ∀ t, i ≤ j0 → j0 < i + t → (∀ j, i ≤ j → j < i + t → j ≠ j0 → g i j = f i j) → g i j0 = f i j0 + c → s1 g i t = s1 f i t + c := fun t => by
  induction t with
  | zero => intro h1 h2; exact absurd h2 (by omega)
  | succ t ih =>
    intro h1 h2 h3 h4
    show s1 g i t + g i (i + t) = s1 f i t + f i (i + t) + c
    by_cases e : j0 = i + t
    · subst e
      rw [h4, s1_c (f := g) (g := f) t (fun j q1 q2 => h3 j q1 (by omega) (by omega))]
      omega
    · rw [ih h1 (by omega) (fun j q1 q2 q3 => h3 j q1 (by omega) q3) h4, h3 (i + t) (by omega) (by omega) (fun q => e q.symm)]
      omega
theorem s2_p {f g : Nat → Nat → Nat} {n i0 j0 c : Nat} : ∀ m, i0 < m → i0 ≤ j0 → j0 < n → (∀ i j, i < m → i ≤ j → j < n → ¬ (i = i0 ∧ j = j0) → g i j = f i j) → g i0 j0 = f i0 j0 + c → s2 g n m = s2 f n m + c := fun m => by
  induction m with
  | zero => intro h1; exact absurd h1 (Nat.not_lt_zero _)
  | succ m ih =>
    intro h1 h2 h3 h4 h5
    show s2 g n m + s1 g m (n - m) = s2 f n m + s1 f m (n - m) + c
    by_cases e : i0 = m
    · subst e
      rw [s2_c (f := g) (g := f) i0 (fun i j q1 q2 q3 => h4 i j (by omega) q2 q3 (by omega)), s1_p (f := f) (g := g) (j0 := j0) (c := c) (n - i0) h2 (by omega) (fun j q1 q2 q3 => h4 i0 j (by omega) q1 (by omega) (fun r => q3 r.2)) h5]
      omega
    · rw [ih (by omega) h2 h3 (fun i j q1 q2 q3 q4 => h4 i j (by omega) q2 q3 q4) h5, s1_c (f := g) (g := f) (n - m) (fun j q1 q2 => h4 m j (by omega) q1 (by omega) (fun r => e r.1.symm))]
      omega
theorem s2_0 {f : Nat → Nat → Nat} {n : Nat} : ∀ m, (∀ i j, i < m → i ≤ j → j < n → f i j = 0) → s2 f n m = 0 := fun m h => by
  rw [s2_c (g := fun _ _ => 0) m h]
  clear h
  induction m with
  | zero => rfl
  | succ m ih =>
    show s2 (fun _ _ => 0) n m + s1 (fun _ _ => 0) m (n - m) = 0
    have e : ∀ t, s1 (fun _ _ => 0) m t = 0 := fun t => by
      induction t with
      | zero => rfl
      | succ t ih => show s1 (fun _ _ => 0) m t + 0 = 0; rw [ih]
    rw [ih, e]
theorem ct_p {P Q : Nat → Bool} {x : Nat} : ∀ n, x < n → (∀ k, k < n → k ≠ x → Q k = P k) → P x = false → Q x = true → ct Q n = ct P n + 1 := fun n => by
  induction n with
  | zero => intro h; exact absurd h (Nat.not_lt_zero _)
  | succ n ih =>
    intro h1 h2 h3 h4
    by_cases e : x = n
    · subst e
      rw [ct_t h4, ct_f (by rw [h3]; exact Bool.false_ne_true)]
      have hc : ∀ m, m ≤ x → ct Q m = ct P m := fun m => by
        induction m with
        | zero => exact fun _ => rfl
        | succ m ihm =>
          intro hm
          have e1 := h2 m (by omega) (by omega)
          by_cases c : P m = true
          · rw [ct_t (P := Q) (e1.trans c), ct_t (P := P) c, ihm (by omega)]
          · rw [ct_f (P := Q) (by rw [e1]; exact c), ct_f (P := P) c, ihm (by omega)]
      rw [hc x (Nat.le_refl _)]
    · have e1 := h2 n (by omega) (fun q => e q.symm)
      have e2 := ih (by omega) (fun k q1 q2 => h2 k (by omega) q2) h3 h4
      by_cases c : P n = true
      · rw [ct_t (P := Q) (e1.trans c), ct_t (P := P) c, e2]
      · rw [ct_f (P := Q) (by rw [e1]; exact c), ct_f (P := P) c, e2]
theorem ct_lt {P : Nat → Bool} {x n : Nat} (h : x < n) (hx : P x = false) : ct P n < n := by
  have h1 := ct_p (P := P) (Q := va_up P x true) (x := x) n h (fun k _ hk => va_up_ne _ _ hk) hx (va_up_self _ _ _)
  have h2 := ct_le (va_up P x true) n
  omega
def bf_H (n N : Nat) (nb : Nat → Nat → Nat → Nat) (D W : Nat → Nat) : Prop :=
  0 < N ∧ D 0 = 0 ∧ W 0 = 1 ∧ (∀ k, k < N → ∀ i j, i ≤ j → j < n → nb k i j < N ∧ nb (nb k i j) i j = k ∧ D (nb k i j) ≤ D k + 1) ∧
  (∀ k, k < N → k ≠ 0 → ∃ i j, i ≤ j ∧ j < n ∧ D (nb k i j) + 1 = D k) ∧
  (n ≤ 4 → ∀ k, k < N → k ≠ 0 → W k = s2 (fun i j => if D k = D (nb k i j) + 1 then W (nb k i j) else 0) n n)
def bf_I (n N : Nat) (nb : Nat → Nat → Nat → Nat) (D W : Nat → Nat) (fr : Nat → Int) (qu : Nat → Nat) (fd : Nat) (mn : Nat → Nat) (pc : Nat → Bool) (fs x y : Nat) : Prop :=
  (ct (fun k => decide (0 ≤ fr k)) N = fd) ∧
  (∀ k, k < N → fr k = -1 ∨ fr k = (D k : Nat)) ∧
  (∀ m, m < fd → qu m < N ∧ 0 ≤ fr (qu m)) ∧
  (∀ k, k < N → 0 ≤ fr k → ∃ m, m < fd ∧ qu m = k) ∧
  (∀ m l, m < l → l < fd → qu m ≠ qu l ∧ D (qu m) ≤ D (qu l)) ∧
  (∀ m, m < fd → fs < fd → D (qu m) ≤ D (qu fs) + 1) ∧
  (∀ k, k < N → fs < fd → D k < D (qu fs) → pc k = true) ∧
  (∀ k, pc k = true ↔ ∃ m, m < fs ∧ qu m = k) ∧
  (∀ k, k < N → pc k = true → ∀ i j, i ≤ j → j < n → 0 ≤ fr (nb k i j)) ∧
  (∀ i j, i ≤ j → j < n → fs < fd → (i < x ∨ i = x ∧ j < y) → 0 ≤ fr (nb (qu fs) i j)) ∧
  0 ≤ fr 0 ∧ fs ≤ fd ∧
  (n ≤ 4 → ∀ k, k < N → mn k = (if k = 0 then 1 else 0) + s2 (fun i j => if D k = D (nb k i j) + 1 ∧ (pc (nb k i j) = true ∨ nb k i j = qu fs ∧ (i < x ∨ i = x ∧ j < y)) then W (nb k i j) else 0) n n)
section BFS
variable {n N : Nat} {nb : Nat → Nat → Nat → Nat} {D W : Nat → Nat} {fr : Nat → Int} {qu : Nat → Nat} {fd : Nat} {mn : Nat → Nat} {pc : Nat → Bool} {fs x y : Nat}
theorem bf_d (hH : bf_H n N nb D W) (hI : bf_I n N nb D W fr qu fd mn pc fs x y) (hf : fs < fd) (hx : x ≤ y) (hy : y < n) (hn : fr (nb (qu fs) x y) < 0) :
    fd < N ∧ fr (qu fs) = (D (qu fs) : Nat) ∧ bf_I n N nb D W (va_up fr (nb (qu fs) x y) (fr (qu fs) + 1)) (va_up qu fd (nb (qu fs) x y)) (fd + 1) mn pc fs x y := by
  obtain ⟨H0, H1, H2, H3, H4, H5⟩ := hH
  obtain ⟨c1, c2, c3, c4, c5, c6, c7, c8, c9, c10, c11, c12, c13⟩ := hI
  obtain ⟨f1, f2⟩ := c3 fs hf
  obtain ⟨t1, t2, t3⟩ := H3 _ f1 x y hx hy
  have e1 : fr (qu fs) = (D (qu fs) : Nat) := by rcases c2 _ f1 with q | q <;> omega
  have e2 : D (nb (qu fs) x y) = D (qu fs) + 1 := by
    by_cases q : D (nb (qu fs) x y) ≤ D (qu fs)
    · have n0 : nb (qu fs) x y ≠ 0 := fun r => by rw [r] at hn; omega
      obtain ⟨i, j, q1, q2, q3⟩ := H4 _ t1 n0
      obtain ⟨r1, r2, r3⟩ := H3 _ t1 i j q1 q2
      have p1 := c7 _ r1 hf (by omega)
      have p2 := c9 _ r1 p1 i j q1 q2
      rw [r2] at p2
      omega
    · omega
  have hup : ∀ k, 0 ≤ fr k → 0 ≤ va_up fr (nb (qu fs) x y) (fr (qu fs) + 1) k := fun k hk => by
    by_cases e : k = nb (qu fs) x y
    · subst e; rw [va_up_self]; omega
    · rw [va_up_ne _ _ e]; exact hk
  have hqf : va_up qu fd (nb (qu fs) x y) fs = qu fs := va_up_ne _ _ (by omega)
  have hq : ∀ m, m < fd → va_up qu fd (nb (qu fs) x y) m = qu m := fun m hm => va_up_ne _ _ (by omega)
  have hlt : fd < N := by
    rw [← c1]
    exact ct_lt t1 (decide_eq_false (by omega))
  refine ⟨hlt, e1, ?_, ?_, ?_, ?_, ?_, ?_, ?_, ?_, ?_, ?_, hup 0 c11, by omega, ?_⟩
  · rw [← c1]
    refine ct_p N t1 (fun k _ hk => ?_) (decide_eq_false (by omega)) (decide_eq_true ?_)
    · show decide (0 ≤ va_up fr _ _ k) = decide (0 ≤ fr k)
      rw [va_up_ne _ _ hk]
    · rw [va_up_self]; omega
  · intro k hk
    by_cases e : k = nb (qu fs) x y
    · subst e
      rw [va_up_self]
      omega
    · rw [va_up_ne _ _ e]
      exact c2 k hk
  · intro m hm
    by_cases e : m = fd
    · subst e
      rw [va_up_self]
      exact ⟨t1, by rw [va_up_self]; omega⟩
    · rw [hq m (by omega)]
      exact ⟨(c3 m (by omega)).1, hup _ (c3 m (by omega)).2⟩
  · intro k hk h0
    by_cases e : k = nb (qu fs) x y
    · exact ⟨fd, by omega, by rw [va_up_self]; exact e.symm⟩
    · rw [va_up_ne _ _ e] at h0
      obtain ⟨m, m1, m2⟩ := c4 k hk h0
      exact ⟨m, by omega, (hq m m1).trans m2⟩
  · intro m l h1 h2
    rw [hq m (by omega)]
    by_cases e : l = fd
    · subst e
      rw [va_up_self]
      refine ⟨fun r => ?_, ?_⟩
      · have := (c3 m h1).2
        rw [r] at this
        omega
      · have := c6 m h1 hf
        omega
    · rw [hq l (by omega)]
      exact c5 m l h1 (by omega)
  · intro m hm _
    rw [hqf]
    by_cases e : m = fd
    · subst e
      rw [va_up_self]
      omega
    · rw [hq m (by omega)]
      exact c6 m (by omega) hf
  · intro k hk _
    rw [hqf]
    exact c7 k hk hf
  · intro k
    refine (c8 k).trans ⟨fun ⟨m, m1, m2⟩ => ⟨m, m1, (hq m (by omega)).trans m2⟩, fun ⟨m, m1, m2⟩ => ⟨m, m1, (hq m (by omega)).symm.trans m2⟩⟩
  · intro k hk hp i j q1 q2
    exact hup _ (c9 k hk hp i j q1 q2)
  · intro i j q1 q2 _ q3
    rw [hqf]
    exact hup _ (c10 i j q1 q2 hf q3)
  · intro h4 k hk
    rw [hqf]
    exact c13 h4 k hk
theorem bf_w (hH : bf_H n N nb D W) (hI : bf_I n N nb D W fr qu fd mn pc fs x y) (hf : fs < fd) (h4 : n ≤ 4) : mn (qu fs) = W (qu fs) := by
  obtain ⟨H0, H1, H2, H3, H4, H5⟩ := hH
  obtain ⟨c1, c2, c3, c4, c5, c6, c7, c8, c9, c10, c11, c12, c13⟩ := hI
  obtain ⟨f1, f2⟩ := c3 fs hf
  rw [c13 h4 _ f1]
  by_cases e : qu fs = 0
  · rw [e, if_pos rfl, H1, s2_0 n (fun i j _ _ _ => if_neg (by omega)), H2]
  · rw [if_neg e, H5 h4 _ f1 e, Nat.zero_add]
    refine s2_c n (fun i j q1 q2 q3 => if_i ⟨fun q => q.1, fun q => ⟨q, Or.inl (c7 _ (H3 _ f1 i j q2 q3).1 hf (by omega))⟩⟩ _ _)
theorem bf_m (hH : bf_H n N nb D W) (hI : bf_I n N nb D W fr qu fd mn pc fs x y) (hf : fs < fd) (hx : x ≤ y) (hy : y < n) (hn : 0 ≤ fr (nb (qu fs) x y)) :
    bf_I n N nb D W fr qu fd (if D (nb (qu fs) x y) = D (qu fs) + 1 then va_up mn (nb (qu fs) x y) (mn (nb (qu fs) x y) + mn (qu fs)) else mn) pc fs x (y + 1) := by
  have hw := bf_w hH hI hf
  obtain ⟨H0, H1, H2, H3, H4, H5⟩ := hH
  obtain ⟨c1, c2, c3, c4, c5, c6, c7, c8, c9, c10, c11, c12, c13⟩ := hI
  obtain ⟨f1, f2⟩ := c3 fs hf
  obtain ⟨t1, t2, t3⟩ := H3 _ f1 x y hx hy
  have hpc : pc (qu fs) = false := by
    rw [← Bool.not_eq_true]
    intro q
    obtain ⟨m, m1, m2⟩ := (c8 _).mp q
    exact (c5 m fs m1 hf).1 m2
  refine ⟨c1, c2, c3, c4, c5, c6, c7, c8, c9, ?_, c11, c12, ?_⟩
  · intro i j q1 q2 _ q3
    by_cases e : i = x ∧ j = y
    · rw [e.1, e.2]; exact hn
    · exact c10 i j q1 q2 hf (by omega)
  · intro h4 k hk
    have hsame : ∀ i j, i < n → i ≤ j → j < n → ¬ (i = x ∧ j = y) → (if D k = D (nb k i j) + 1 ∧ (pc (nb k i j) = true ∨ nb k i j = qu fs ∧ (i < x ∨ i = x ∧ j < y + 1)) then W (nb k i j) else 0) = (if D k = D (nb k i j) + 1 ∧ (pc (nb k i j) = true ∨ nb k i j = qu fs ∧ (i < x ∨ i = x ∧ j < y)) then W (nb k i j) else 0) := fun i j _ _ _ hne => if_i ⟨fun q => ⟨q.1, q.2.imp id (fun r => ⟨r.1, by have := r.2; omega⟩)⟩, fun q => ⟨q.1, q.2.imp id (fun r => ⟨r.1, by have := r.2; omega⟩)⟩⟩ _ _
    by_cases hk2 : k = nb (qu fs) x y ∧ D (nb (qu fs) x y) = D (qu fs) + 1
    · obtain ⟨rfl, hd⟩ := hk2
      rw [if_pos hd, va_up_self, c13 h4 _ hk, hw h4, Nat.add_assoc]
      congr 1
      refine (s2_p n (show x < n by omega) hx hy hsame ?_).symm
      rw [t2, hpc, if_pos ⟨hd, Or.inr ⟨rfl, by omega⟩⟩, if_neg (fun q => by rcases q.2 with r | r; exact Bool.false_ne_true r; omega)]
      omega
    · have e : (if D (nb (qu fs) x y) = D (qu fs) + 1 then va_up mn (nb (qu fs) x y) (mn (nb (qu fs) x y) + mn (qu fs)) else mn) k = mn k := by
        by_cases hd : D (nb (qu fs) x y) = D (qu fs) + 1
        · rw [if_pos hd, va_up_ne _ _ (fun q => hk2 ⟨q, hd⟩)]
        · rw [if_neg hd]
      rw [e, c13 h4 k hk]
      congr 1
      refine s2_c n (fun i j q1 q2 q3 => ?_)
      by_cases hne : i = x ∧ j = y
      · obtain ⟨rfl, rfl⟩ := hne
        refine if_i ⟨fun q => ⟨q.1, q.2.imp id (fun r => ⟨r.1, by have := r.2; omega⟩)⟩, fun q => ⟨q.1, q.2.imp id (fun r => ?_)⟩⟩ _ _
        exact absurd ⟨(H3 k hk i j q2 q3).2.1.symm.trans (by rw [r.1]), by rw [← r.1, (H3 k hk i j q2 q3).2.1]; exact q.1⟩ hk2
      · exact (hsame i j q1 q2 q3 hne).symm
theorem bf_n (hI : bf_I n N nb D W fr qu fd mn pc fs x n) : bf_I n N nb D W fr qu fd mn pc fs (x + 1) (x + 1) := by
  obtain ⟨c1, c2, c3, c4, c5, c6, c7, c8, c9, c10, c11, c12, c13⟩ := hI
  refine ⟨c1, c2, c3, c4, c5, c6, c7, c8, c9, fun i j q1 q2 q3 q4 => c10 i j q1 q2 q3 (by omega), c11, c12, fun h4 k hk => ?_⟩
  rw [c13 h4 k hk]
  congr 1
  refine s2_c n (fun i j q1 q2 q3 => if_i ⟨fun q => ⟨q.1, q.2.imp id (fun r => ⟨r.1, by have := r.2; omega⟩)⟩, fun q => ⟨q.1, q.2.imp id (fun r => ⟨r.1, by have := r.2; omega⟩)⟩⟩ _ _)
theorem bf_e (hH : bf_H n N nb D W) (hI : bf_I n N nb D W fr qu fd mn pc fs n y) (hf : fs < fd) : bf_I n N nb D W fr qu fd mn (va_up pc (qu fs) true) (fs + 1) 0 0 := by
  obtain ⟨H0, H1, H2, H3, H4, H5⟩ := hH
  obtain ⟨c1, c2, c3, c4, c5, c6, c7, c8, c9, c10, c11, c12, c13⟩ := hI
  obtain ⟨f1, f2⟩ := c3 fs hf
  have hup : ∀ k, va_up pc (qu fs) true k = true ↔ (k = qu fs ∨ pc k = true) := fun k => by
    by_cases e : k = qu fs
    · subst e; rw [va_up_self]; exact ⟨fun _ => Or.inl rfl, fun _ => rfl⟩
    · rw [va_up_ne _ _ e]; exact ⟨Or.inr, fun q => q.resolve_left e⟩
  refine ⟨c1, c2, c3, c4, c5, ?_, ?_, ?_, ?_, fun i j _ _ _ q => absurd q (by omega), c11, by omega, ?_⟩
  · intro m hm h1
    have := c6 m hm hf
    have := (c5 fs (fs + 1) (by omega) h1).2
    omega
  · intro k hk h1 hd
    rw [hup]
    by_cases q : D k < D (qu fs)
    · exact Or.inr (c7 k hk hf q)
    · have b1 := c6 (fs + 1) h1 hf
      have hfr : 0 ≤ fr k := by
        by_cases k0 : k = 0
        · rw [k0]; exact c11
        · obtain ⟨i, j, q1, q2, q3⟩ := H4 k hk k0
          obtain ⟨r1, r2, r3⟩ := H3 k hk i j q1 q2
          have p2 := c9 _ r1 (c7 _ r1 hf (by omega)) i j q1 q2
          rw [r2] at p2
          exact p2
      obtain ⟨m, m1, m2⟩ := c4 k hk hfr
      by_cases e : m = fs
      · rw [e] at m2; exact Or.inl m2.symm
      · by_cases e2 : m < fs
        · exact Or.inr ((c8 k).mpr ⟨m, e2, m2⟩)
        · exfalso
          rw [← m2] at hd
          by_cases e3 : m = fs + 1
          · rw [e3] at hd; omega
          · have := (c5 (fs + 1) m (by omega) m1).2
            omega
  · intro k
    rw [hup, c8]
    refine ⟨fun q => ?_, fun ⟨m, m1, m2⟩ => ?_⟩
    · rcases q with q | ⟨m, m1, m2⟩
      · exact ⟨fs, by omega, q.symm⟩
      · exact ⟨m, by omega, m2⟩
    · by_cases e : m = fs
      · rw [e] at m2; exact Or.inl m2.symm
      · exact Or.inr ⟨m, by omega, m2⟩
  · intro k hk hp i j q1 q2
    rcases (hup k).mp hp with q | q
    · rw [q]; exact c10 i j q1 q2 hf (Or.inl (by omega))
    · exact c9 k hk q i j q1 q2
  · intro h4 k hk
    rw [c13 h4 k hk]
    congr 1
    refine s2_c n (fun i j q1 q2 q3 => if_i ⟨fun q => ⟨q.1, Or.inl ((hup _).mpr ?_)⟩, fun q => ⟨q.1, ?_⟩⟩ _ _)
    · rcases q.2 with r | r
      · exact Or.inr r
      · exact Or.inl r.1
    · rcases q.2 with r | r
      · rcases (hup _).mp r with s | s
        · exact Or.inr ⟨s, Or.inl q1⟩
        · exact Or.inl s
      · exact absurd r.2 (by omega)
theorem bf_z (hH : bf_H n N nb D W) (hI : bf_I n N nb D W fr qu fd mn pc fs 0 0) (hf : fs = fd) : ∀ k, k < N → fr k = (D k : Nat) ∧ (n ≤ 4 → mn k = W k) := by
  obtain ⟨H0, H1, H2, H3, H4, H5⟩ := hH
  obtain ⟨c1, c2, c3, c4, c5, c6, c7, c8, c9, c10, c11, c12, c13⟩ := hI
  have hall : ∀ d k, k < N → D k ≤ d → 0 ≤ fr k := fun d => by
    induction d with
    | zero =>
      intro k hk hd
      by_cases k0 : k = 0
      · rw [k0]; exact c11
      · obtain ⟨i, j, q1, q2, q3⟩ := H4 k hk k0
        omega
    | succ d ih =>
      intro k hk hd
      by_cases k0 : k = 0
      · rw [k0]; exact c11
      · obtain ⟨i, j, q1, q2, q3⟩ := H4 k hk k0
        obtain ⟨r1, r2, r3⟩ := H3 k hk i j q1 q2
        obtain ⟨m, m1, m2⟩ := c4 _ r1 (ih _ r1 (by omega))
        have p2 := c9 _ r1 ((c8 _).mpr ⟨m, by omega, m2⟩) i j q1 q2
        rw [r2] at p2
        exact p2
  have hpc : ∀ k, k < N → pc k = true := fun k hk => by
    obtain ⟨m, m1, m2⟩ := c4 k hk (hall _ k hk (Nat.le_refl _))
    exact (c8 k).mpr ⟨m, by omega, m2⟩
  intro k hk
  refine ⟨?_, fun h4 => ?_⟩
  · have := hall _ k hk (Nat.le_refl _)
    rcases c2 k hk with q | q
    · omega
    · exact q
  · rw [c13 h4 k hk]
    by_cases e : k = 0
    · rw [e, if_pos rfl, H1, s2_0 n (fun i j _ _ _ => if_neg (by omega)), H2]
    · rw [if_neg e, H5 h4 k hk e, Nat.zero_add]
      exact s2_c n (fun i j q1 q2 q3 => if_i ⟨fun q => q.1, fun q => ⟨q, Or.inl (hpc _ (H3 k hk i j q2 q3).1)⟩⟩ _ _)
theorem bf_0 (hH : bf_H n N nb D W) : bf_I n N nb D W (fun k => if k = 0 then 0 else -1) (fun _ => 0) 1 (fun k => if k = 0 then 1 else 0) (fun _ => false) 0 0 0 := by
  obtain ⟨H0, H1, H2, H3, H4, H5⟩ := hH
  refine ⟨?_, ?_, ?_, ?_, ?_, ?_, ?_, ?_, ?_, ?_, ?_, by omega, ?_⟩
  · have h := ct_p (P := fun _ => false) (Q := fun k => decide ((0 : Int) ≤ if k = 0 then 0 else -1)) (x := 0) N H0 (fun k _ hk => by rw [if_neg hk]; rfl) rfl rfl
    have h2 : ∀ m, ct (fun _ => false) m = 0 := fun m => by
      induction m with
      | zero => rfl
      | succ m ih => rw [ct_f Bool.false_ne_true, ih]
    rw [h, h2]
  · intro k hk
    show (if k = 0 then (0 : Int) else -1) = -1 ∨ (if k = 0 then (0 : Int) else -1) = ((D k : Nat) : Int)
    by_cases e : k = 0
    · rw [if_pos e, e, H1]; exact Or.inr rfl
    · rw [if_neg e]; exact Or.inl rfl
  · exact fun m _ => ⟨H0, Int.le_refl _⟩
  · intro k _ h0
    have h0 : 0 ≤ (if k = 0 then (0 : Int) else -1) := h0
    by_cases e : k = 0
    · exact ⟨0, by omega, e.symm⟩
    · rw [if_neg e] at h0; omega
  · intro m l h1 h2; omega
  · intro m _ _; show D 0 ≤ D 0 + 1; omega
  · intro k _ _ h; rw [H1] at h; omega
  · intro k
    exact ⟨fun q => absurd q Bool.false_ne_true, fun ⟨m, m1, _⟩ => by omega⟩
  · intro k _ h; exact absurd h Bool.false_ne_true
  · intro i j _ _ _ h; omega
  · exact Int.le_refl _
  · intro _ k hk
    rw [s2_0 n (fun i j _ _ _ => if_neg (fun q => by rcases q.2 with r | r; exact Bool.false_ne_true r; omega)), Nat.add_zero]
end BFS
