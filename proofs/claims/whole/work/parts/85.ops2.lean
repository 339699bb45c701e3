/-! read, scenario, median on the cells of both -/
def borK (m g x : Nat) : Bool := decide ((m ||| 2 ^ g) / 2 ^ x % 2 = if x = g then 1 else m / 2 ^ x % 2)
theorem bor0 : ∀ m, m < 128 → ∀ g, g < 7 → ∀ x, x < 7 → borK m g x = true := by decide +kernel
theorem bor {m g x : Nat} (hm : m < 128) (hg : g < 7) (hx : x < 7) : (m ||| 2 ^ g) / 2 ^ x % 2 = if x = g then 1 else m / 2 ^ x % 2 := of_decide_eq_true (bor0 m hm g hg x hx)
def fullK (n m x : Nat) : Bool := decide ((pbt n m = true ∧ pop m = n ∧ 1 ≤ x ∧ x ≤ n) → m / 2 ^ x % 2 = 1)
theorem full0 : ∀ n, n < 7 → ∀ m, m < 128 → ∀ x, x < 7 → fullK n m x = true := by decide +kernel
theorem full {n m x : Nat} (hn : n < 7) (hm : m < 128) (h : pbt n m = true ∧ pop m = n ∧ 1 ≤ x ∧ x ≤ n) : m / 2 ^ x % 2 = 1 := of_decide_eq_true (full0 n hn m hm x (by omega)) h
/-- genes that were read: each once -/
def gI (n f m : Nat) (z : Nat → Int) : Prop := m < 128 ∧ pbt n m = true ∧ pop m = f ∧ (∀ p, p < f → 1 ≤ (z p).natAbs ∧ (z p).natAbs ≤ n ∧ m / 2 ^ (z p).natAbs % 2 = 1) ∧ (∀ p q, p < f → q < f → (z p).natAbs = (z q).natAbs → p = q) ∧ ∀ x, 1 ≤ x → x ≤ n → m / 2 ^ x % 2 = 1 → ∃ p, p < f ∧ (z p).natAbs = x
theorem gI_0 {n : Nat} (hn : n ≤ 6) (z : Nat → Int) : gI n 0 0 z := ⟨by decide, pb_0 n (by omega), (show pop 0 = 0 by decide), fun p hp => absurd hp (Nat.not_lt_zero _), fun p q hp => absurd hp (Nat.not_lt_zero _), fun x _ _ h => absurd h (by rw [Nat.zero_div]; decide)⟩
theorem gI_s {n f m : Nat} {z : Nat → Int} (hn : n ≤ 6) (h : gI n f m z) {g : Nat} {v : Int} (hg : 1 ≤ g ∧ g ≤ n) (hv : v.natAbs = g) (hb : m / 2 ^ g % 2 = 0) : gI n (f + 1) (m ||| 2 ^ g) (va_up z f v) := by
  obtain ⟨h1, h2, h3, h4, h5, h6⟩ := h
  obtain ⟨b1, b2, b3⟩ := (pb_1 n (by omega) m h1 h2).2 g (by omega) hg.1 hg.2 hb
  have hlt := (bi_o m h1 g (by omega)).2
  have e1 : ∀ p, p < f → va_up z f v p = z p := fun p hp => va_up_ne _ _ (by omega)
  refine ⟨hlt, b2, by rw [b3, h3], fun p hp => ?_, fun p q hp hq e => ?_, fun x x1 x2 hx => ?_⟩
  · by_cases e : p = f
    · subst e
      rw [va_up_self, hv, bor h1 (by omega) (by omega), if_pos rfl]
      exact ⟨hg.1, hg.2, rfl⟩
    · rw [e1 p (by omega)]
      obtain ⟨a, b, c⟩ := h4 p (by omega)
      refine ⟨a, b, ?_⟩
      rw [bor h1 (by omega) (by omega)]
      split
      · rfl
      · exact c
  · by_cases ep : p = f
    · by_cases eq : q = f
      · omega
      · exfalso
        rw [ep, va_up_self, hv, e1 q (by omega)] at e
        have := (h4 q (by omega)).2.2
        rw [← e] at this
        omega
    · by_cases eq : q = f
      · exfalso
        rw [eq, va_up_self, hv, e1 p (by omega)] at e
        have := (h4 p (by omega)).2.2
        rw [e] at this
        omega
      · rw [e1 p (by omega), e1 q (by omega)] at e
        exact h5 p q (by omega) (by omega) e
  · rw [bor h1 (by omega) (by omega)] at hx
    by_cases e : x = g
    · exact ⟨f, by omega, by rw [va_up_self, hv, e]⟩
    · rw [if_neg e] at hx
      obtain ⟨p, p1, p2⟩ := h6 x x1 x2 hx
      exact ⟨p, by omega, by rw [e1 p p1]; exact p2⟩
theorem gI_f {n m : Nat} {z : Nat → Int} (hn : n ≤ 6) (h : gI n n m z) : sP n z := by
  obtain ⟨h1, h2, h3, h4, h5, h6⟩ := h
  have ex : ∀ x, 1 ≤ x → x ≤ n → pq z x n < n ∧ (z (pq z x n)).natAbs = x := fun x x1 x2 => by
    obtain ⟨p, p1, p2⟩ := h6 x x1 x2 (full (by omega) h1 ⟨h2, h3, x1, x2⟩)
    exact pq_i n p p1 p2
  exact sP_mk (fun x => pq z x n) (fun p hp => ⟨(h4 p hp).1, (h4 p hp).2.1⟩) ex h5
theorem ps_P {n : Nat} {cc : Nat → Int} (hn : n ≤ 6) : ∀ t q, ps_r n cc t = some q → gI n q.1 q.2.1 q.2.2.2 := fun t => by
  induction t with
  | zero => intro q h; cases h; exact gI_0 hn _
  | succ t ih =>
    intro q h
    have h : (ps_r n cc t).bind (ps_1 n (cc t)) = some q := h
    cases e : ps_r n cc t with
    | none => rw [e] at h; cases h
    | some q0 =>
      rw [e] at h
      have h : ps_1 n (cc t) q0 = some q := h
      have i0 := ih q0 e
      unfold ps_1 at h
      by_cases c1 : cc t = 32 ∧ q0.2.2.1 = 0
      · rw [if_pos c1] at h; cases h; exact i0
      · rw [if_neg c1] at h
        by_cases c2 : q0.1 = n
        · rw [if_pos c2] at h; cases h
        · rw [if_neg c2] at h
          by_cases c3 : q0.2.2.1 = 0 ∧ (cc t = 43 ∨ cc t = 45)
          · rw [if_pos c3] at h; cases h; exact i0
          · rw [if_neg c3] at h
            by_cases c4 : cc t - 48 < 1 ∨ (n : Int) < cc t - 48 ∨ q0.2.1 / 2 ^ (cc t - 48).toNat % 2 = 1
            · rw [if_pos c4] at h; cases h
            · rw [if_neg c4] at h
              cases h
              refine gI_s hn i0 (g := (cc t - 48).toNat) (by omega) ?_ (by omega)
              split <;> omega
theorem ps_no {n : Nat} {cc : Nat → Int} {t : Nat} (h : ps_r n cc t = none) : ∀ m, ps_r n cc (t + m) = none := fun m => by
  induction m with
  | zero => exact h
  | succ m ih =>
    show (ps_r n cc (t + m)).bind _ = none
    rw [ih]
    rfl
theorem ps_u {n l t t' : Nat} {cc : Nat → Int} {q q' : ps_S} (h : ps_r n cc t = some q) (h' : ps_r n cc t' = some q') (e : (t < l ∧ ps_1 n (cc t) q = none) ∨ t = l) (e' : (t' < l ∧ ps_1 n (cc t') q' = none) ∨ t' = l) : t = t' ∧ q = q' := by
  have key : ∀ {t t' : Nat} {q q' : ps_S}, ps_r n cc t = some q → ps_r n cc t' = some q' → ((t < l ∧ ps_1 n (cc t) q = none) ∨ t = l) → ((t' < l ∧ ps_1 n (cc t') q' = none) ∨ t' = l) → ¬ t < t' := fun {t t' q q'} h h' e e' hlt => by
    have hn : ps_1 n (cc t) q = none := by
      rcases e with e | e
      · exact e.2
      · exfalso
        rcases e' with e' | e' <;> omega
    have h1 : ps_r n cc (t + 1) = none := by
      show (ps_r n cc t).bind _ = none
      rw [h]
      exact hn
    have h2 := ps_no h1 (t' - (t + 1))
    rw [show t + 1 + (t' - (t + 1)) = t' by omega, h'] at h2
    cases h2
  have a := key h h' e e'
  have b := key h' h e' e
  have e3 : t = t' := by omega
  subst e3
  exact ⟨rfl, Option.some.inj (h.symm.trans h')⟩
section OPS
variable {n : Nat} {u : Nat → Nat → Int} {k : Nat → Nat} {a b : Nat → Nat → Nat} {l : Nat} {cc : Nat → Int} {c : Int} {st : Nat → Int} {cs : mm_Sh} {I I1 : Nat → Nat → Int32} {J J1 : Nat → Nat → Int64} {F F1 : Nat → Nat → Option Nat} {V V1 : Nat → Nat → Value}
theorem C_38 (h : wrC n u k a b l cc c st cs I J F V) (f : Nat → Int32) : wrC n u k a b l cc c st cs (va_up I 38 f) J F V ∧ frM I J V (va_up I 38 f) J V :=
  ⟨wrC_s h (ck_s h.2.2.2.2.2.2.2 rfl (fun x hx => va_up_ne _ _ (by omega)) (fun _ _ => rfl) (fun _ _ _ => rfl)) (fun x _ _ _ _ q => va_up_ne _ _ q) (fun _ _ => rfl) (fun _ _ _ _ => rfl), fun x x1 _ => va_up_ne _ _ (by omega), rfl, fun _ => rfl⟩
theorem C_read (h : wrC n u k a b l cc c st cs I J F V) (hn : n ≤ 6) {x : Nat} (hx : x < 5) (z : Nat → Int) : wrC n (va_up u x z) (va_up k x 0) (va_up a x (a x)) (va_up b x (b x)) 0 cc c st cs (va_up (va_up I 38 (nr (I 38) 0 n z)) (sp x + 1) (va_cpy (nr (I 38) 0 n z) (I (sp x + 1)) 0 0 6)) J F (fu (fu V (sp x) 3 (.int (iI 0))) 22 1 (.int (iI 0))) ∧ frM I J V (va_up (va_up I 38 (nr (I 38) 0 n z)) (sp x + 1) (va_cpy (nr (I 38) 0 n z) (I (sp x + 1)) 0 0 6)) J (fu (fu V (sp x) 3 (.int (iI 0))) 22 1 (.int (iI 0))) := by
  have h1 := wrC_o (I1 := va_up (va_up I 38 (nr (I 38) 0 n z)) (sp x + 1) (va_cpy (nr (I 38) 0 n z) (I (sp x + 1)) 0 0 6)) (V1 := fu V (sp x) 3 (.int (iI 0))) (u' := z) (k' := 0) (a' := a x) (b' := b x) h hx (fun y q q2 => by rw [va_up_ne _ _ (by omega), va_up_ne _ _ q2]) (fun y j q => fu_ne q) ⟨fun p hp => by
    rw [va_up_self]
    unfold va_cpy
    rw [if_pos (by omega), show 0 + (p - 0) = p by omega, nr_a (by omega)], fu_at _ _ _ _, fun m hm => absurd hm (Nat.not_lt_zero _)⟩
  have h2 := C_len h1.1
  exact ⟨h2.1, frM_t h1.2 h2.2⟩
theorem no_k {g : Nat → Int32} {s : Nat} {z : Nat → Int} : (∀ j, ¬ (6 * s ≤ j ∧ j < 6 * s + n) → no_f g s n z j = g j) ∧ ∀ p, p < n → no_f g s n z (6 * s + p) = iI (z p) := ⟨fun j hj => if_neg hj, fun p hp => by unfold no_f; rw [if_pos (by omega), show 6 * s + p - 6 * s = p by omega]⟩
theorem M_slot (h : wrM n u k a b l cc c st I J V) (hp : wrP n u k a b l cc c) {x : Nat} (hx : x < 5) (z : Nat → Int) (v : Value) {K : Nat → Nat → Int32} (hK : ∀ y, (y < 49 ∨ 57 < y) → K y = I y) : wrM n (va_up u x z) (va_up k x 0) (va_up a x (a x)) (va_up b x (b x)) l cc c st (va_up (va_up K 40 (no_f (I 40) x n z)) 41 (upd (I 41) x (iI 0))) J (fu V 39 0 v) ∧ frC I J V (va_up (va_up K 40 (no_f (I 40) x n z)) 41 (upd (I 41) x (iI 0))) J (fu V 39 0 v) := by
  have hn := hp.1.2
  obtain ⟨m1, m2⟩ := no_k (n := n) (g := I 40) (s := x) (z := z)
  refine wrM_u h hx (fun y z0 z1 _ q => by rw [va_up_ne _ _ z1, va_up_ne _ _ z0]; exact hK y q) (fun t p q t5 p6 => ?_) (fun t q => ?_) (fun t m _ _ _ => by rw [va_up_ne _ _ (by decide), va_up_ne _ _ (by decide), hK 42 (by decide)]) hn (fun t ht => (hp.2.1 t ht).2.1) ⟨fun p hpn => ?_, ?_, fun m hm => absurd hm (Nat.not_lt_zero _)⟩ v
  · rw [va_up_ne _ _ (by decide), va_up_self, m1 _ (by omega)]
  · rw [va_up_self, pk_un q]
  · rw [va_up_ne _ _ (by decide), va_up_self, m2 p hpn]
  · rw [va_up_self, pk_us]; rfl
theorem P_slot (h : wrP n u k a b l cc c) {x : Nat} {z : Nat → Int} (hz : sP n z) : wrP n (va_up u x z) (va_up k x 0) (va_up a x (a x)) (va_up b x (b x)) l cc c := wrP_u h hz (by omega) (fun m hm => absurd hm (Nat.not_lt_zero _))
/-! scenario -/
theorem C_scen (h : wrC n u k a b l cc c st cs I J F V) {e : Nat} {s : Nat → Int} (f1 : ∀ x, (x < 25 ∨ 33 < x) → x ≠ 35 → x ≠ 36 → x ≠ 37 → I1 x = I x) (f2 : ∀ m, m < e → I1 35 m = iI (s m)) (f3 : ∀ x j, ¬ (x = 24 ∧ (j = 2 ∨ j = 3)) → ¬ (x = 0 ∧ j = 6) → V1 x j = V x j) (f4 : V1 0 6 = .int (iI (e : Nat))) : wrC n u k a b l cc (e : Nat) s cs I1 J F V1 ∧ frM I J V I1 J V1 := by
  have h0 := wrC_s (I1 := va_up I1 35 (I 35)) (V1 := fu V1 0 6 (.int (iI c))) (J1 := J) (F1 := F) h (ck_s h.2.2.2.2.2.2.2 rfl (fun x hx => by rw [va_up_ne _ _ (by omega)]; exact f1 x (by omega) (by omega) (by omega) (by omega)) (fun _ _ => rfl) (fun x j hx => by rw [fu_n1 _ _ (by omega)]; exact f3 x j (by omega) (by omega))) (fun x x0 x1 x2 x3 _ => by
    by_cases q : x = 35
    · subst q; rw [va_up_self]
    · rw [va_up_ne _ _ q]; exact f1 x x1 q x2 x3) (fun _ _ => rfl) (fun x j x0 q => by
    by_cases r : x = 0 ∧ j = 6
    · rw [r.1, r.2, fu_at]; exact h.2.2.2.2.2.1.symm
    · rw [fu_ne r]; exact f3 x j q r)
  obtain ⟨h1, h2, h3, h4, h5, h6, h7, h8⟩ := h0
  have g1 : ∀ x, x ≠ 35 → va_up I1 35 (I 35) x = I1 x := fun x hx => va_up_ne _ _ hx
  have g3 : ∀ x j, ¬ (x = 0 ∧ j = 6) → fu V1 0 6 (.int (iI c)) x j = V1 x j := fun x j q => fu_ne q
  refine ⟨⟨?_, (g3 0 0 (by omega)).symm.trans h2, fun t ht => ?_, (g3 22 1 (by omega)).symm.trans h4, fun m hm => by rw [← g1 23 (by decide)]; exact h5 m hm, f4, fun m hm => f2 m (by omega), ck_s h8 rfl (fun x hx => (g1 x (by omega)).symm) (fun _ _ => rfl) (fun x j hx => (g3 x j (by omega)).symm)⟩, fun x x1 x2 => f1 x (by omega) (by omega) (by omega) (by omega), rfl, fun j => f3 39 j (by omega) (by omega)⟩
  · have := dk_fu (.int (iI c)) (V := V1) (F := F) (t := 0) (k := 6) |> fun _ => h1
    have e9 : fu (fu V1 0 6 (.int (iI c))) 0 6 (V1 0 6) = V1 := by rw [fu_fu]; exact fu_id rfl
    have w := dk_fu (V1 0 6) h1 wi_06
    rw [e9] at w
    exact w
  · obtain ⟨q1, q2, q3⟩ := h3 t ht
    exact ⟨fun p hp => by rw [← g1 _ (by unfold sp; omega)]; exact q1 p hp, (g3 _ _ (by unfold sp; omega)).symm.trans q2, fun m hm => by rw [← g1 (sp t + 2) (by unfold sp; omega), ← g1 (sp t + 3) (by unfold sp; omega)]; exact q3 m hm⟩
theorem M_scen (h : wrM n u k a b l cc c st I J V) {e : Nat} {s : Nat → Int} (he : e ≤ 8) (f1 : mp_k I I1) (f2 : ∀ m, m < e → I1 44 m = iI (s m)) (f3 : ∀ x, x ≠ 48 → J1 x = J x) (f4 : mk_T Dn Wn I1 J1) (f5 : mu_k V V1) (f7 : V1 39 7 = .int (iI 1)) (f8 : V1 39 8 = .int (iI (e : Nat))) : wrM n u k a b l cc (e : Nat) s I1 J1 V1 ∧ frC I J V I1 J1 V1 := by
  obtain ⟨h1, h2, h3, h4, h5, h6, -, h8, h9⟩ := h
  refine ⟨⟨?_, (f5 39 1 (by omega)).trans h2, fun t ht => ?_, (f5 39 6 (by omega)).trans h4, fun m hm => by rw [f1 43 (by decide) (by decide) (by decide) (by decide) (by decide)]; exact h5 m hm, by rw [f7, bo_t (decide_eq_true (by omega))], ⟨_, f8, by omega, by omega, fun _ => rfl⟩, fun m hm => f2 m (by omega), f4⟩, fun x hx => f1 x (by omega) (by omega) (by omega) (by omega) (by omega), fun x hx => f3 x (by omega), fun x j hx => f5 x j (by omega)⟩
  · obtain ⟨a2, a3, a4, a5, a9, a10, a13, a14, a15, a16, a17, a18, a19, a20, a21, a22, a23, a24⟩ := h1
    have e : ∀ j, ¬ (j = 0 ∨ j = 7 ∨ j = 8 ∨ j = 11 ∨ j = 12) → V1 39 j = V 39 j := fun j q => f5 39 j (fun r => q r.2)
    exact ⟨(e _ (by omega)).trans a2, (e _ (by omega)).trans a3, (e _ (by omega)).trans a4, (e _ (by omega)).trans a5, (e _ (by omega)).trans a9, (e _ (by omega)).trans a10, (e _ (by omega)).trans a13, (e _ (by omega)).trans a14, (e _ (by omega)).trans a15, (e _ (by omega)).trans a16, (e _ (by omega)).trans a17, (e _ (by omega)).trans a18, (e _ (by omega)).trans a19, (e _ (by omega)).trans a20, (e _ (by omega)).trans a21, (e _ (by omega)).trans a22, (e _ (by omega)).trans a23, (e _ (by omega)).trans a24⟩
  · obtain ⟨g1, g2, g3⟩ := h3 t ht
    exact ⟨fun p hp => by rw [f1 40 (by decide) (by decide) (by decide) (by decide) (by decide)]; exact g1 p hp, by rw [f1 41 (by decide) (by decide) (by decide) (by decide) (by decide)]; exact g2, fun m hm => by rw [f1 42 (by decide) (by decide) (by decide) (by decide) (by decide)]; exact g3 m hm⟩
/-! median -/
theorem C_med (h : wrC n u k a b l cc c st cs I J F V) {cs1 : mm_Sh} {z : Nat → Int} (hA : ck_A Dc Wc cs1 I1 J1 F1 V1) (f1 : ∀ x, x < 59 → (x < 25 ∨ 33 < x) → x ≠ 36 → x ≠ 37 → x ≠ 38 → x ≠ 19 → I1 x = I x) (f2 : ∀ p, p < n → I1 19 p = iI (z p)) (f3 : ∀ x, x < 59 → J1 x = J x) (f4 : ∀ x, x ≠ 34 → F1 x = F x) (f5 : ∀ x j, x < 59 → ¬ (x = 24 ∧ (j = 2 ∨ j = 3)) → ¬ (x = 18 ∧ j = 3) → V1 x j = V x j) (f6 : V1 18 3 = .int (iI 0)) : wrC n (va_up u 4 z) (va_up k 4 0) (va_up a 4 (a 4)) (va_up b 4 (b 4)) l cc c st cs1 I1 J1 F1 V1 ∧ frM I J V I1 J1 V1 := by
  have e4 : sp 4 = 18 := rfl
  exact ⟨wrC_u h (by decide) hA (fun x x0 x1 x2 x3 x4 q => f1 x (by omega) x1 x2 x3 x4 (by omega)) f4 (fun x j x0 q1 q2 => f5 x j (by omega) q1 (by omega)) ⟨f2, f6, fun m hm => absurd hm (Nat.not_lt_zero _)⟩, fun x x1 x2 => f1 x (by omega) (by omega) (by omega) (by omega) (by omega) (by omega), f3 48 (by decide), fun j => f5 39 j (by decide) (by omega) (by omega)⟩
theorem M_med (h : wrM n u k a b l cc c st I J V) (hp : wrP n u k a b l cc c) {z : Nat → Int} (f1 : ∀ x, x ≠ 40 → x ≠ 41 → x ≠ 45 → x ≠ 46 → x ≠ 47 → (x < 49 ∨ 57 < x) → I1 x = I x) (f2 : I1 40 = no_f (I 40) 4 n z) (f3 : I1 41 = upd (I 41) 4 (iI 0)) (f4 : ∀ x, x ≠ 48 → J1 x = J x) (f5 : mk_T Dn Wn I1 J1) (f6 : mv_k V V1) : wrM n (va_up u 4 z) (va_up k 4 0) (va_up a 4 (a 4)) (va_up b 4 (b 4)) l cc c st I1 J1 V1 ∧ frC I J V I1 J1 V1 := by
  obtain ⟨h1, h2, h3, h4, h5, h6, ⟨c8, e1, e2, e3, e4⟩, h8, h9⟩ := h
  have hn := hp.1.2
  obtain ⟨m1, m2⟩ := no_k (n := n) (g := I 40) (s := 4) (z := z)
  refine ⟨⟨mv_M f6 h1, (f6 39 1 (by omega)).trans h2, fun t ht => ?_, (f6 39 6 (by omega)).trans h4, fun m hm => by rw [f1 43 (by decide) (by decide) (by decide) (by decide) (by decide) (by decide)]; exact h5 m hm, (f6 39 7 (by omega)).trans h6, ⟨c8, (f6 39 8 (by omega)).trans e1, e2, e3, e4⟩, fun m hm => by rw [f1 44 (by decide) (by decide) (by decide) (by decide) (by decide) (by decide)]; exact h8 m hm, f5⟩, fun x hx => f1 x (by omega) (by omega) (by omega) (by omega) (by omega) (by omega), fun x hx => f4 x (by omega), fun x j hx => f6 x j (by omega)⟩
  by_cases e : t = 4
  · subst e
    rw [va_up_self, va_up_self, va_up_self, va_up_self]
    exact ⟨fun p hpn => by rw [f2]; exact m2 p hpn, by rw [f3, pk_us]; rfl, fun m hm => absurd hm (Nat.not_lt_zero _)⟩
  · rw [va_up_ne _ _ e, va_up_ne _ _ e, va_up_ne _ _ e, va_up_ne _ _ e]
    obtain ⟨g1, g2, g3⟩ := h3 t ht
    exact ⟨fun p hpn => by rw [f2, m1 _ (by omega)]; exact g1 p hpn, by rw [f3, pk_un e]; exact g2, fun m hm => by rw [f1 42 (by decide) (by decide) (by decide) (by decide) (by decide) (by decide)]; exact g3 m hm⟩
/-- a slot's order may be named otherwise, if it is the same on its places -/
theorem C_same (h : wrC n u k a b l cc c st cs I J F V) {u2 : Nat → Nat → Int} (e : ∀ s p, s < 5 → p < n → u2 s p = u s p) : wrC n u2 k a b l cc c st cs I J F V := by
  obtain ⟨h1, h2, h3, h4⟩ := h
  exact ⟨h1, h2, fun s hs => ⟨fun p hp => by rw [e s p hs hp]; exact (h3 s hs).1 p hp, (h3 s hs).2⟩, h4⟩
end OPS
