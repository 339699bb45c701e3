/-! PARTS: the desk's parts and the reference's are the same; each bears its least line's number -/
def xg (so : Nat → Nat) (a b : Nat) : Prop := ¬ ((lo_f so a < lo_f so b ∧ lo_f so b < hi_f so a) ↔ (lo_f so a < hi_f so b ∧ hi_f so b < hi_f so a))
def xs (so : Nat → Nat) (a b : Nat) : Prop := xg so a b ∨ xg so b a
def cn (so : Nat → Nat) (n x y : Nat) : Prop := ∀ f : Nat → Prop, (∀ a b, a ≤ n → b ≤ n → xs so a b → f a → f b) → f x → f y
theorem cn_r (so : Nat → Nat) (n x : Nat) : cn so n x x := fun _ _ h => h
theorem cn_t {so : Nat → Nat} {n x y z : Nat} (h1 : cn so n x y) (h2 : cn so n y z) : cn so n x z := fun f hf h => h2 f hf (h1 f hf h)
theorem cn_s {so : Nat → Nat} {n x y : Nat} (h : cn so n x y) : cn so n y x := fun f hf hy => by
  by_cases hx : f x
  · exact hx
  · exact absurd hy (h (fun t => ¬ f t) (fun a b ha hb hab na nb => na (hf b a hb ha hab.symm nb)) hx)
theorem cn_x {so : Nat → Nat} {n x y : Nat} (hx : x ≤ n) (hy : y ≤ n) (h : xs so x y) : cn so n x y := fun _ hf q => hf x y hx hy h q
/-- what holds while parts are joined -/
def jI (so : Nat → Nat) (n : Nat) (p : Nat → Nat) : Prop := (∀ j, j ≤ n → p j ≤ j) ∧ (∀ j, j ≤ n → p (p j) = p j) ∧ ∀ j, j ≤ n → cn so n (p j) j
theorem jI_u {so : Nat → Nat} {n : Nat} {p : Nat → Nat} (h : jI so n p) {k m : Nat} (hk : k ≤ n) (hm : m ≤ n) (hne : ¬ p k = p m) (hx : xs so k m) : jI so n (un p (p k) (p m)) := by
  obtain ⟨h1, h2, h3⟩ := h
  have hu : ∀ j, un p (p k) (p m) j = if p j = max (p k) (p m) then min (p k) (p m) else p j := fun _ => rfl
  have hc : cn so n (p k) (p m) := cn_t (h3 k hk) (cn_t (cn_x hk hm hx) (cn_s (h3 m hm)))
  have hmm : p (min (p k) (p m)) = min (p k) (p m) := by
    by_cases c : p k ≤ p m
    · rw [Nat.min_eq_left c]; exact h2 k hk
    · rw [Nat.min_eq_right (by omega)]; exact h2 m hm
  refine ⟨fun j hj => ?_, fun j hj => ?_, fun j hj => ?_⟩
  · rw [hu]
    have := h1 j hj
    split <;> omega
  · rw [hu j]
    by_cases c : p j = max (p k) (p m)
    · rw [if_pos c, hu, hmm, if_neg (by omega)]
    · rw [if_neg c, hu, h2 j hj, if_neg c]
  · rw [hu j]
    by_cases c : p j = max (p k) (p m)
    · rw [if_pos c]
      refine cn_t ?_ (h3 j hj)
      rw [c]
      by_cases c2 : p k ≤ p m
      · rw [Nat.min_eq_left c2, Nat.max_eq_right c2]; exact hc
      · rw [Nat.min_eq_right (by omega), Nat.max_eq_left (by omega)]; exact cn_s hc
    · rw [if_neg c]; exact h3 j hj
theorem jI_s {so : Nat → Nat} {n : Nat} {p : Nat → Nat} (h : jI so n p) {k m : Nat} (hk : k ≤ n) (hm : m ≤ n) : jI so n (jp_s (lo_f so) (hi_f so) k m p) := by
  unfold jp_s
  split
  · rename_i c
    exact jI_u h hk hm c.1 (Or.inl c.2)
  · exact h
theorem js_e {lo hi : Nat → Nat} {k m a b : Nat} {p : Nat → Nat} (h : p a = p b) : jp_s lo hi k m p a = jp_s lo hi k m p b := by
  unfold jp_s
  split
  · unfold un
    rw [h]
  · exact h
theorem js_x {so : Nat → Nat} {k m : Nat} {p : Nat → Nat} (h : xg so k m) : jp_s (lo_f so) (hi_f so) k m p k = jp_s (lo_f so) (hi_f so) k m p m := by
  by_cases c : p k = p m
  · exact js_e c
  · unfold jp_s
    rw [if_pos ⟨c, h⟩]
    unfold un
    by_cases c2 : p k ≤ p m
    · rw [if_neg (by omega), if_pos (by omega)]; omega
    · rw [if_pos (by omega), if_neg (by omega)]; omega
theorem ji_i {so : Nat → Nat} {n k : Nat} {p : Nat → Nat} (h : jI so n p) (hk : k ≤ n) : ∀ t, k + t ≤ n → jI so n (jp_i (lo_f so) (hi_f so) k t p) := fun t => by
  induction t with
  | zero => exact fun _ => h
  | succ t ih => exact fun ht => jI_s (ih (by omega)) hk (by omega)
theorem ji_e {lo hi : Nat → Nat} {k a b : Nat} {p : Nat → Nat} (h : p a = p b) : ∀ t, jp_i lo hi k t p a = jp_i lo hi k t p b := fun t => by
  induction t with
  | zero => exact h
  | succ t ih => exact js_e ih
theorem ji_x {so : Nat → Nat} {k m : Nat} {p : Nat → Nat} (h : xg so k m) (hkm : k < m) : ∀ t, m < k + 1 + t → jp_i (lo_f so) (hi_f so) k t p k = jp_i (lo_f so) (hi_f so) k t p m := fun t => by
  induction t with
  | zero => intro q; omega
  | succ t ih =>
    intro q
    by_cases c : m = k + 1 + t
    · subst c; exact js_x h
    · exact js_e (ih (by omega))
theorem jo_i {so : Nat → Nat} {n : Nat} : ∀ k, k ≤ n + 1 → jI so n (jp_o (lo_f so) (hi_f so) n k) := fun k => by
  induction k with
  | zero => exact fun _ => ⟨fun j _ => Nat.le_refl j, fun _ _ => rfl, fun j _ => cn_r so n j⟩
  | succ k ih => exact fun hk => ji_i (ih (by omega)) (by omega) _ (by omega)
theorem jo_x {so : Nat → Nat} {n a b : Nat} (h : xg so a b) (hab : a < b) (hb : b ≤ n) : ∀ k, a < k → jp_o (lo_f so) (hi_f so) n k a = jp_o (lo_f so) (hi_f so) n k b := fun k => by
  induction k with
  | zero => intro q; omega
  | succ k ih =>
    intro q
    by_cases c : a = k
    · subst c; exact ji_x h hab _ (by omega)
    · exact ji_e (ih (by omega)) _
theorem pa_le {so : Nat → Nat} {n j : Nat} (hj : j ≤ n) : pa_f so n j ≤ j := (jo_i (n + 1) (Nat.le_refl _)).1 j hj
theorem pa_i {so : Nat → Nat} {n j : Nat} (hj : j ≤ n) : pa_f so n (pa_f so n j) = pa_f so n j := (jo_i (n + 1) (Nat.le_refl _)).2.1 j hj
theorem pa_c {so : Nat → Nat} {n j : Nat} (hj : j ≤ n) : cn so n (pa_f so n j) j := (jo_i (n + 1) (Nat.le_refl _)).2.2 j hj
theorem pa_x {so : Nat → Nat} {n a b : Nat} (h : xg so a b) (hab : a < b) (hb : b ≤ n) : pa_f so n a = pa_f so n b := jo_x h hab hb (n + 1) (by omega)
/-- spots that are all different -/
def sj (so : Nat → Nat) (n : Nat) : Prop := ∀ a b, a < 2 * n + 2 → b < 2 * n + 2 → so a = so b → a = b
theorem lh_d {so : Nat → Nat} {n a b : Nat} (h : sj so n) (ha : a ≤ n) (hb : b ≤ n) (hab : a ≠ b) : lo_f so a < hi_f so a ∧ lo_f so b < hi_f so b ∧ lo_f so a ≠ lo_f so b ∧ lo_f so a ≠ hi_f so b ∧ hi_f so a ≠ lo_f so b ∧ hi_f so a ≠ hi_f so b := by
  have q1 : so (2 * a) ≠ so (2 * a + 1) := fun q => absurd (h _ _ (by omega) (by omega) q) (by omega)
  have q2 : so (2 * b) ≠ so (2 * b + 1) := fun q => absurd (h _ _ (by omega) (by omega) q) (by omega)
  have q3 : so (2 * a) ≠ so (2 * b) := fun q => absurd (h _ _ (by omega) (by omega) q) (by omega)
  have q4 : so (2 * a) ≠ so (2 * b + 1) := fun q => absurd (h _ _ (by omega) (by omega) q) (by omega)
  have q5 : so (2 * a + 1) ≠ so (2 * b) := fun q => absurd (h _ _ (by omega) (by omega) q) (by omega)
  have q6 : so (2 * a + 1) ≠ so (2 * b + 1) := fun q => absurd (h _ _ (by omega) (by omega) q) (by omega)
  unfold lo_f hi_f
  omega
theorem xg_s {so : Nat → Nat} {n a b : Nat} (h : sj so n) (ha : a ≤ n) (hb : b ≤ n) (hab : a ≠ b) (hx : xg so a b) : xg so b a := by
  have := lh_d h ha hb hab
  unfold xg at hx ⊢
  omega
theorem xg_n {so : Nat → Nat} {a : Nat} : ¬ xg so a a := fun h => h ⟨fun q => absurd q.1 (Nat.lt_irrefl _), fun q => absurd q.2 (Nat.lt_irrefl _)⟩
theorem pa_s {so : Nat → Nat} {n a b : Nat} (h : sj so n) (ha : a ≤ n) (hb : b ≤ n) (hx : xs so a b) : pa_f so n a = pa_f so n b := by
  by_cases c : a = b
  · rw [c]
  · have h1 : xg so a b := hx.elim id (fun q => xg_s h hb ha (Ne.symm c) q)
    by_cases c2 : a < b
    · exact pa_x h1 c2 hb
    · exact (pa_x (xg_s h ha hb c h1) (by omega) ha).symm
/-! bad parts -/
theorem mb_d {pa lo hi : Nat → Nat} : ∀ K j, (mb_s pa lo hi K j = true ↔ (mb_0 pa lo hi j = true ∧ ∀ k, k < K → (lo k + hi k) % 2 = 0 → pa k ≠ j)) := fun K => by
  induction K with
  | zero => exact fun j => ⟨fun h => ⟨h, fun k hk => absurd hk (Nat.not_lt_zero _)⟩, fun h => h.1⟩
  | succ K ih =>
    intro j
    show (if (lo K + hi K) % 2 = 0 then va_up (mb_s pa lo hi K) (pa K) false else mb_s pa lo hi K) j = true ↔ _
    by_cases c : (lo K + hi K) % 2 = 0
    · rw [if_pos c]
      by_cases c2 : j = pa K
      · rw [c2, va_up_self]
        exact ⟨fun q => (nomatch q), fun q => absurd rfl (q.2 K (Nat.lt_succ_self K) c)⟩
      · rw [va_up_ne _ _ c2, ih]
        refine ⟨fun q => ⟨q.1, fun k hk hc => ?_⟩, fun q => ⟨q.1, fun k hk hc => q.2 k (by omega) hc⟩⟩
        by_cases c3 : k = K
        · subst c3; exact fun r => c2 r.symm
        · exact q.2 k (by omega) hc
    · rw [if_neg c, ih]
      refine ⟨fun q => ⟨q.1, fun k hk hc => ?_⟩, fun q => ⟨q.1, fun k hk hc => q.2 k (by omega) hc⟩⟩
      by_cases c3 : k = K
      · subst c3; exact absurd hc c
      · exact q.2 k (by omega) hc
def shr (so : Nat → Nat) (k : Nat) : Prop := hi_f so k = lo_f so k + 1 ∧ lo_f so k % 2 = 0
def ort (so : Nat → Nat) (k : Nat) : Prop := (lo_f so k + hi_f so k) % 2 = 0
theorem bd_d {so : Nat → Nat} {n j : Nat} : bd_f so n j = true ↔ (pa_f so n j = j ∧ ¬ shr so j) ∧ ∀ k, k ≤ n → ort so k → pa_f so n k ≠ j := by
  unfold bd_f
  rw [mb_d]
  unfold mb_0
  rw [decide_eq_true_iff]
  exact ⟨fun h => ⟨h.1, fun k hk => h.2 k (by omega)⟩, fun h => ⟨h.1, fun k hk => h.2 k (by omega)⟩⟩
/-- a short line is crossed by none -/
theorem shr_n {so : Nat → Nat} {n j k : Nat} (h : sj so n) (hj : j ≤ n) (hk : k ≤ n) (hs : shr so j) (hx : xs so j k) : k = j := by
  by_cases c : k = j
  · exact c
  · have h1 : xg so j k := hx.elim id (fun q => xg_s h hk hj c q)
    have := lh_d h hj hk (Ne.symm c)
    unfold xg at h1
    unfold shr at hs
    exact absurd h1 (by omega)
theorem shr_1 {so : Nat → Nat} {n j k : Nat} (h : sj so n) (hj : j ≤ n) (hk : k ≤ n) (hs : shr so j) (hp : pa_f so n k = j) : k = j := by
  have h1 := pa_c (so := so) hk
  rw [hp] at h1
  exact h1 (fun t => t = j) (fun a b ha hb hab e => by subst e; exact shr_n h ha hb hs hab) rfl
/-! the reference's parts -/
/-- names that spread: not below the least, of the same part -/
def fI (so : Nat → Nat) (n : Nat) (q : Nat → Nat) : Prop := ∀ j, j ≤ n → q j ≤ n ∧ pa_f so n (q j) = pa_f so n j
theorem fI_g {so : Nat → Nat} {n : Nat} {q : Nat → Nat} (h : fI so n q) {j : Nat} (hj : j ≤ n) : pa_f so n j ≤ q j := by
  obtain ⟨h1, h2⟩ := h j hj
  rw [← h2]
  exact pa_le h1
theorem fx_x {so : Nat → Nat} {j k : Nat} : ¬ fp_x so j k ↔ xg so j k := by
  unfold fp_x xg
  have : lo_f so k = min (so (2 * k)) (so (2 * k + 1)) := rfl
  have : hi_f so k = max (so (2 * k)) (so (2 * k + 1)) := rfl
  by_cases c : so (2 * k) ≤ so (2 * k + 1)
  · rw [show lo_f so k = so (2 * k) by omega, show hi_f so k = so (2 * k + 1) by omega]
  · rw [show lo_f so k = so (2 * k + 1) by omega, show hi_f so k = so (2 * k) by omega]
    exact ⟨fun h q => h q.symm, fun h q => h q.symm⟩
theorem fm_v (q : Nat → Nat) (j k i : Nat) : fp_m q j k i = if i = k ∨ i = j then min (q k) (q j) else q i := by
  unfold fp_m
  by_cases c : i = k
  · rw [if_pos (Or.inl c), c, va_up_self]
  · rw [va_up_ne _ _ c]
    by_cases c2 : i = j
    · rw [if_pos (Or.inr c2), c2, va_up_self]
    · rw [va_up_ne _ _ c2, if_neg (fun r => r.elim c c2)]
/-- a step: names fall, keep their part, and the two of a crossing get the lesser -/
theorem fs_k {so : Nat → Nat} {n : Nat} {q : Nat → Nat} (hs : sj so n) (h : fI so n q) {j k : Nat} (hj : j ≤ n) (hk : k ≤ n) : fI so n (fp_s so j k q) ∧ (∀ i, i ≤ n → fp_s so j k q i ≤ q i) ∧ (xg so j k → fp_s so j k q k ≤ q j) := by
  unfold fp_s
  split
  · rename_i c
    exact ⟨h, fun _ _ => Nat.le_refl _, fun x => absurd c (fx_x.mpr x)⟩
  · rename_i c
    have hx := fx_x.mp c
    have e := pa_s hs hj hk (Or.inl hx)
    refine ⟨fun i hi => ?_, fun i hi => ?_, fun _ => ?_⟩
    · rw [fm_v]
      split
      · rename_i r
        have e2 : pa_f so n i = pa_f so n j := by
          rcases r with r | r
          · rw [r, e]
          · rw [r]
        rw [e2]
        by_cases c2 : q k ≤ q j
        · rw [Nat.min_eq_left c2, e]; exact h k hk
        · rw [Nat.min_eq_right (by omega)]; exact h j hj
      · exact h i hi
    · rw [fm_v]
      split
      · rename_i r
        rcases r with r | r <;> subst r <;> omega
      · exact Nat.le_refl _
    · rw [fm_v, if_pos (Or.inl rfl)]
      exact Nat.min_le_right _ _
theorem fi_k2 {so : Nat → Nat} {n : Nat} {q : Nat → Nat} (hs : sj so n) (h : fI so n q) {j : Nat} (hj : j ≤ n) : ∀ K, K ≤ n + 1 → fI so n (fp_i so j q K) ∧ (∀ i, i ≤ n → fp_i so j q K i ≤ q i) ∧ (∀ k, k < K → xg so j k → fp_i so j q K k ≤ q j) := fun K => by
  induction K with
  | zero => exact fun _ => ⟨h, fun _ _ => Nat.le_refl _, fun k hk => absurd hk (Nat.not_lt_zero _)⟩
  | succ K ih =>
    intro hK
    obtain ⟨a, b, c⟩ := ih (by omega)
    obtain ⟨d, e, f⟩ := fs_k hs a hj (show K ≤ n by omega)
    refine ⟨d, fun i hi => Nat.le_trans (e i hi) (b i hi), fun k hk hx => ?_⟩
    by_cases q9 : k = K
    · subst q9
      exact Nat.le_trans (f hx) (b j hj)
    · exact Nat.le_trans (e k (by omega)) (c k (by omega) hx)
theorem fj_k {so : Nat → Nat} {n : Nat} {q : Nat → Nat} (hs : sj so n) (h : fI so n q) : ∀ J, J ≤ n + 1 → fI so n (fp_j so n q J) ∧ (∀ i, i ≤ n → fp_j so n q J i ≤ q i) ∧ (∀ j k, j < J → k ≤ n → xg so j k → fp_j so n q J k ≤ q j) := fun J => by
  induction J with
  | zero => exact fun _ => ⟨h, fun _ _ => Nat.le_refl _, fun j k hj => absurd hj (Nat.not_lt_zero _)⟩
  | succ J ih =>
    intro hJ
    obtain ⟨a, b, c⟩ := ih (by omega)
    obtain ⟨d, e, f⟩ := fi_k2 hs a (show J ≤ n by omega) (n + 1) (Nat.le_refl _)
    refine ⟨d, fun i hi => Nat.le_trans (e i hi) (b i hi), fun j k hj hk hx => ?_⟩
    by_cases q9 : j = J
    · subst q9
      exact Nat.le_trans (f k (by omega) hx) (b j (by omega))
    · exact Nat.le_trans (e k hk) (c j k (by omega) hk hx)
def rt (so : Nat → Nat) (n : Nat) (q : Nat → Nat) : Nat → Bool := fun j => decide (q j = pa_f so n j)
theorem ct_m {P Q : Nat → Bool} : ∀ N, (∀ k, k < N → P k = true → Q k = true) → ct P N ≤ ct Q N := fun N => by
  induction N with
  | zero => exact fun _ => Nat.le_refl _
  | succ N ih =>
    intro h
    have := ih (fun k hk => h k (by omega))
    by_cases c : P N = true
    · rw [ct_t c, ct_t (h N (Nat.lt_succ_self N) c)]; omega
    · rw [ct_f c]
      by_cases d : Q N = true
      · rw [ct_t d]; omega
      · rw [ct_f d]; exact this
theorem ct_a {P : Nat → Bool} {N : Nat} (h : ct P N = N) : ∀ k, k < N → P k = true := fun k hk => by
  cases c : P k with
  | true => rfl
  | false => exact absurd (ct_lt hk c) (by omega)
theorem ct_m1 {P Q : Nat → Bool} {N x : Nat} (h : ∀ k, k < N → P k = true → Q k = true) (hx : x < N) (h1 : P x = false) (h2 : Q x = true) : ct P N + 1 ≤ ct Q N := by
  have e := ct_p (P := P) (Q := va_up P x true) (x := x) N hx (fun k _ hk => va_up_ne _ _ hk) h1 (va_up_self _ _ _)
  have := ct_m (P := va_up P x true) (Q := Q) N (fun k hk hp => by
    by_cases c : k = x
    · subst c; exact h2
    · rw [va_up_ne _ _ c] at hp; exact h k hk hp)
  omega
theorem fr_k {so : Nat → Nat} {n : Nat} (hs : sj so n) : ∀ r, fI so n (fp_r so n r) ∧ (r + 1 ≤ ct (rt so n (fp_r so n r)) (n + 1) ∨ ct (rt so n (fp_r so n r)) (n + 1) = n + 1) := fun r => by
  induction r with
  | zero =>
    refine ⟨fun j hj => ⟨hj, rfl⟩, Or.inl ?_⟩
    have h0 : rt so n (fp_r so n 0) 0 = true := decide_eq_true (by have := pa_le (so := so) (Nat.zero_le n); show 0 = _; omega)
    have := ct_m1 (P := fun _ => false) (Q := rt so n (fp_r so n 0)) (N := n + 1) (x := 0) (fun k _ q => (nomatch q)) (by omega) rfl h0
    omega
  | succ r ih =>
    obtain ⟨h1, h2⟩ := ih
    obtain ⟨a, b, c⟩ := fj_k hs h1 (n + 1) (Nat.le_refl _)
    refine ⟨a, ?_⟩
    have hm : ∀ k, k < n + 1 → rt so n (fp_r so n r) k = true → rt so n (fp_r so n (r + 1)) k = true := fun k hk hp => by
      have e := of_decide_eq_true hp
      have q1 := b k (by omega)
      have q2 := fI_g a (show k ≤ n by omega)
      refine decide_eq_true ?_
      show fp_j so n (fp_r so n r) (n + 1) k = _
      omega
    have hc := ct_m (P := rt so n (fp_r so n r)) (Q := rt so n (fp_r so n (r + 1))) (n + 1) hm
    have hl := ct_le (rt so n (fp_r so n (r + 1))) (n + 1)
    by_cases d : ct (rt so n (fp_r so n r)) (n + 1) = n + 1
    · exact Or.inr (by omega)
    · -- some line is not yet right; a crossing leads to one that becomes right
      have hex : ∃ x, x < n + 1 ∧ rt so n (fp_r so n r) x = false ∧ rt so n (fp_r so n (r + 1)) x = true := by
        refine Classical.byContradiction fun hno => d ?_
        have hcl : ∀ f0, f0 ≤ n → fp_r so n r f0 = pa_f so n f0 := fun f0 hf0 => by
          have h9 := pa_c (so := so) hf0
          refine (h9 (fun t => t ≤ n ∧ fp_r so n r t = pa_f so n t) (fun x y hx hy hxy hxr => ⟨hy, ?_⟩) ⟨by have := pa_le (so := so) hf0; omega, ?_⟩).2
          · have hxy1 : x = y ∨ xg so x y := by
              by_cases q : x = y
              · exact Or.inl q
              · exact Or.inr (hxy.elim id (fun w => xg_s hs hy hx (Ne.symm q) w))
            rcases hxy1 with q | q
            · rw [← q]; exact hxr.2
            · have g1 := c x y (by omega) hy q
              have g2 := pa_s hs hx hy hxy
              have g3 := fI_g a hy
              cases w : rt so n (fp_r so n r) y with
              | true => exact of_decide_eq_true w
              | false =>
                refine absurd ⟨y, by omega, w, decide_eq_true ?_⟩ hno
                show fp_j so n (fp_r so n r) (n + 1) y = _
                have g4 := hxr.2
                have g5 : fp_r so n (r + 1) y = fp_j so n (fp_r so n r) (n + 1) y := rfl
                omega
          · have g0 : pa_f so n f0 ≤ n := by have := pa_le (so := so) hf0; omega
            have g1 := fI_g h1 g0
            rw [pa_i hf0] at g1 ⊢
            have g2 : ∀ r i, i ≤ n → fp_r so n r i ≤ i := fun r => by
              induction r with
              | zero => exact fun i _ => Nat.le_refl i
              | succ r ih2 =>
                intro i hi
                have hI : fI so n (fp_r so n r) := by
                  clear ih2
                  induction r with
                  | zero => exact fun j hj => ⟨hj, rfl⟩
                  | succ r ih3 => exact (fj_k hs ih3 (n + 1) (Nat.le_refl _)).1
                exact Nat.le_trans ((fj_k hs hI (n + 1) (Nat.le_refl _)).2.1 i hi) (ih2 i hi)
            have := g2 r _ g0
            omega
        have : ∀ N, N ≤ n + 1 → ct (rt so n (fp_r so n r)) N = N := fun N => by
          induction N with
          | zero => exact fun _ => rfl
          | succ N ih4 => exact fun hN => by rw [ct_t (decide_eq_true (hcl N (by omega))), ih4 (by omega)]
        exact this (n + 1) (Nat.le_refl _)
      obtain ⟨x, hx, x1, x2⟩ := hex
      have := ct_m1 hm hx x1 x2
      omega
theorem fp_pa {so : Nat → Nat} {n : Nat} (hs : sj so n) : ∀ k, k ≤ n → fp_r so n (n + 1) k = pa_f so n k := fun k hk => by
  obtain ⟨h1, h2⟩ := fr_k hs (n + 1)
  have hl := ct_le (rt so n (fp_r so n (n + 1))) (n + 1)
  exact of_decide_eq_true (ct_a (P := rt so n (fp_r so n (n + 1))) (N := n + 1) (by omega) k (by omega))
/-! bad parts, hurdles: the same -/
theorem ct_e {P Q : Nat → Bool} : ∀ N, (∀ k, k < N → P k = Q k) → ct P N = ct Q N := fun N => by
  induction N with
  | zero => exact fun _ => rfl
  | succ N ih =>
    intro h
    show (if P N = true then ct P N + 1 else ct P N) = if Q N = true then ct Q N + 1 else ct Q N
    rw [h N (Nat.lt_succ_self N), ih (fun k hk => h k (by omega))]
theorem ct_n0 {P : Nat → Bool} : ∀ N, 0 < ct P N → ∃ k, k < N ∧ P k = true := fun N => by
  induction N with
  | zero => exact fun h => absurd h (Nat.lt_irrefl 0)
  | succ N ih =>
    intro h
    by_cases c : P N = true
    · exact ⟨N, Nat.lt_succ_self N, c⟩
    · rw [ct_f c] at h
      obtain ⟨k, h1, h2⟩ := ih h
      exact ⟨k, by omega, h2⟩
theorem ct_1 {P : Nat → Bool} {N k : Nat} (hk : k < N) (h : P k = true) : 0 < ct P N := by
  have := ct_m1 (P := fun _ => false) (Q := P) (N := N) (x := k) (fun _ _ q => (nomatch q)) hk rfl h
  omega
theorem ct_u {P : Nat → Bool} {j : Nat} : ∀ N, (∀ k, k < N → P k = true → k = j) → ct P N ≤ 1 := fun N => by
  induction N with
  | zero => exact fun _ => Nat.zero_le _
  | succ N ih =>
    intro h
    by_cases c : P N = true
    · rw [ct_t c]
      have : ct P N = 0 := by
        refine Classical.byContradiction fun q => ?_
        obtain ⟨k, h1, h2⟩ := ct_n0 (P := P) N (by omega)
        have e1 := h k (by omega) h2
        have e2 := h N (by omega) c
        omega
      omega
    · rw [ct_f c]; exact ih (fun k hk => h k (by omega))
theorem fo_d {so p : Nat → Nat} {j : Nat} : ∀ K, (fq_o so p j K = true ↔ ∃ k, k < K ∧ p k = j ∧ ort so k) := fun K => by
  induction K with
  | zero => exact ⟨fun h => (nomatch h), fun ⟨k, hk, _⟩ => absurd hk (Nat.not_lt_zero _)⟩
  | succ K ih =>
    show (fq_o so p j K || (p K == j && decide ((lo_f so K + hi_f so K) % 2 = 0))) = true ↔ _
    rw [Bool.or_eq_true, ih, Bool.and_eq_true, beq_iff_eq, decide_eq_true_iff]
    constructor
    · rintro (⟨k, a, b⟩ | b)
      · exact ⟨k, by omega, b⟩
      · exact ⟨K, Nat.lt_succ_self K, b⟩
    · rintro ⟨k, a, b⟩
      by_cases c : k = K
      · subst c; exact Or.inr b
      · exact Or.inl ⟨k, by omega, b⟩
theorem bd_q {so : Nat → Nat} {n j : Nat} (hs : sj so n) (hj : j ≤ n) : fq_b so (fp_r so n (n + 1)) n j = bd_f so n j := by
  have hp := fp_pa hs
  have hc : 0 < ct (fq_c (fp_r so n (n + 1)) j) (n + 1) ↔ pa_f so n j = j := by
    constructor
    · intro h
      obtain ⟨k, h1, h2⟩ := ct_n0 _ h
      have h3 : fp_r so n (n + 1) k = j := of_decide_eq_true h2
      rw [hp k (by omega)] at h3
      rw [← h3]
      exact pa_i (by omega)
    · intro h
      exact ct_1 (k := j) (by omega) (show decide (fp_r so n (n + 1) j = j) = true from decide_eq_true ((hp j hj).trans h))
  have ho : fq_o so (fp_r so n (n + 1)) j (n + 1) = true ↔ ∃ k, k ≤ n ∧ ort so k ∧ pa_f so n k = j := by
    rw [fo_d]
    exact ⟨fun ⟨k, a, b, c⟩ => ⟨k, by omega, c, by rw [← hp k (by omega)]; exact b⟩, fun ⟨k, a, b, c⟩ => ⟨k, by omega, by rw [hp k a]; exact c, b⟩⟩
  have hh : fq_h so j = true ↔ shr so j := decide_eq_true_iff
  have h1 : shr so j → ct (fq_c (fp_r so n (n + 1)) j) (n + 1) ≤ 1 := fun q => ct_u (j := j) _ (fun k hk w => by
    have w2 : fp_r so n (n + 1) k = j := of_decide_eq_true w
    rw [hp k (by omega)] at w2
    exact shr_1 hs hj (by omega) q w2)
  rw [Bool.eq_iff_iff, bd_d]
  unfold fq_b
  rw [Bool.and_eq_true, Bool.and_eq_true, decide_eq_true_iff, hc, Bool.not_eq_true', Bool.not_eq_true', Bool.and_eq_false_iff]
  constructor
  · rintro ⟨⟨a, b⟩, c⟩
    refine ⟨⟨a, fun q => ?_⟩, fun k hk hk2 hk3 => ?_⟩
    · have := hc.mpr a
      have e1 := h1 q
      rcases c with c | c
      · have : ct (fq_c (fp_r so n (n + 1)) j) (n + 1) = 1 := by omega
        rw [this] at c
        exact absurd c (by decide)
      · rw [hh.mpr q] at c
        exact absurd c (by decide)
    · have := ho.mpr ⟨k, hk, hk2, hk3⟩
      rw [this] at b
      exact absurd b (by decide)
  · rintro ⟨⟨a, b⟩, c⟩
    refine ⟨⟨a, ?_⟩, Or.inr ?_⟩
    · cases w : fq_o so (fp_r so n (n + 1)) j (n + 1) with
      | false => rfl
      | true =>
        obtain ⟨k, k1, k2, k3⟩ := ho.mp w
        exact absurd k3 (c k k1 k2)
    · cases w : fq_h so j with
      | false => rfl
      | true => exact absurd (hh.mp w) b
theorem wb_c {ea p1 p2 : Nat → Nat} {b1 b2 : Nat → Bool} {n : Nat} (he : ∀ s, s < 2 * n + 2 → ea s < 2 * n + 2) (hp : ∀ k, k ≤ n → p1 k = p2 k ∧ p2 k ≤ n) (hb : ∀ k, k ≤ n → b1 k = b2 k) : ∀ s, s ≤ 2 * n + 2 → wb_f ea p1 b1 s = wb_f ea p2 b2 s := fun s => by
  induction s with
  | zero => exact fun _ => rfl
  | succ s ih =>
    intro h
    have h1 := he s (by omega)
    obtain ⟨e1, e2⟩ := hp (ea s / 2) (by omega)
    show (if b1 (p1 (ea s / 2)) = true then (va_up (wb_f ea p1 b1 s).1 (wb_f ea p1 b1 s).2 (p1 (ea s / 2)), (wb_f ea p1 b1 s).2 + 1) else wb_f ea p1 b1 s) = if b2 (p2 (ea s / 2)) = true then (va_up (wb_f ea p2 b2 s).1 (wb_f ea p2 b2 s).2 (p2 (ea s / 2)), (wb_f ea p2 b2 s).2 + 1) else wb_f ea p2 b2 s
    rw [ih (by omega), e1, hb _ e2]
theorem hu_q {ea so : Nat → Nat} {n : Nat} (he : ∀ s, s < 2 * n + 2 → ea s < 2 * n + 2) (hs : sj so n) : mh_n ea so n = hu_n ea so n := by
  have hp := fp_pa hs
  have hw := wb_c (ea := ea) (p1 := fp_r so n (n + 1)) (p2 := pa_f so n) (b1 := fq_b so (fp_r so n (n + 1)) n) (b2 := bd_f so n) (n := n) he (fun k hk => ⟨hp k hk, by have := pa_le (so := so) hk; omega⟩) (fun k hk => bd_q hs hk) _ (Nat.le_refl _)
  unfold mh_n hu_n
  rw [hw]
  refine ct_e _ (fun k hk => ?_)
  unfold hu_p
  rw [bd_q hs (by omega)]
theorem so_j {n : Nat} {z : Nat → Int} (h : sP n z) : sj (soR n z) n := fun a b ha hb e => by rw [← (ea_so h ha).2, ← (ea_so h hb).2, e]
theorem mf_5 {n : Nat} {z : Nat → Int} (h : sP n z) (k : Int) : dg_f (eaR n z) (soR n z) n z k = mg_f (eaR n z) (soR n z) n z k := by
  have hs := so_j h
  have hp := fp_pa hs
  unfold dg_f mg_f
  rw [hu_q (fun s hs => ea_b h hs) hs]
  rw [show ct (fun j => pa_f (soR n z) n j == j) (n + 1) = ct (fq_n (fp_r (soR n z) n (n + 1)) n) (n + 1) from ct_e _ (fun j hj => ?_), show ct (bd_f (soR n z) n) (n + 1) = ct (fq_b (soR n z) (fp_r (soR n z) n (n + 1)) n) (n + 1) from ct_e _ (fun j hj => (bd_q hs (by omega)).symm)]
  rw [Bool.eq_iff_iff, beq_iff_eq]
  unfold fq_n
  rw [decide_eq_true_iff]
  constructor
  · intro q
    exact ct_1 (k := j) hj (show decide (fp_r (soR n z) n (n + 1) j = j) = true from decide_eq_true ((hp j (by omega)).trans q))
  · intro q
    obtain ⟨k, h1, h2⟩ := ct_n0 _ q
    have h3 : fp_r (soR n z) n (n + 1) k = j := of_decide_eq_true h2
    rw [hp k (by omega)] at h3
    rw [← h3]
    exact pa_i (by omega)
