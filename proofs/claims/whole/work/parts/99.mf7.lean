/-! one to four genes: the chart against the ranks -/
theorem ix_c {u v : Nat → Int} {n : Nat} (h : ∀ q, q < n → u q = v q) : ∀ m, m ≤ n → ix_f u n m = ix_f v n m := fun m => by
  induction m with
  | zero => exact fun _ => rfl
  | succ m ih =>
    intro hm
    show ix_f u n m * 2 * ((n : Int) - m) + ix_d u n m = ix_f v n m * 2 * ((n : Int) - m) + ix_d v n m
    unfold ix_d
    rw [ih (by omega), h m (by omega), lc_c (n := n) (fun q hq => by rw [h q hq]) _ (by omega)]
theorem eR_c {u v : Nat → Int} {n : Nat} (h1 : 1 ≤ n) (h : ∀ q, q < n → u q = v q) : eR n u = eR n v := by
  unfold eR
  rw [dP_c h1 h]
theorem yR_c {u v w : Nat → Int} {n : Nat} (h : ∀ q, q < n → u q = v q) : ∀ q, q < n → yR n u w q = yR n v w q := fun q hq => by
  unfold yR
  rw [h q hq]
theorem ct_y {P Q : Nat → Bool} {N : Nat} {π : Nat → Nat} : ∀ M (Q : Nat → Bool), (∀ j, j < M → π j < N) → (∀ i j, i < j → j < M → π i ≠ π j) → (∀ j, j < M → P j = true → Q (π j) = true) → ct P M ≤ ct Q N := fun M => by
  induction M with
  | zero => exact fun Q _ _ _ => Nat.zero_le _
  | succ M ih =>
    intro Q h1 h2 h3
    by_cases c : P M = true
    · rw [ct_t c]
      have hq := h3 M (Nat.lt_succ_self M) c
      have e := ct_p (P := va_up Q (π M) false) (Q := Q) (x := π M) N (h1 M (Nat.lt_succ_self M)) (fun k _ hk => (va_up_ne _ _ hk).symm) (va_up_self _ _ _) hq
      have := ih (va_up Q (π M) false) (fun j hj => h1 j (by omega)) (fun i j a b => h2 i j a (by omega)) (fun j hj hp => by
        rw [va_up_ne _ _ (h2 j M hj (Nat.lt_succ_self M))]
        exact h3 j (by omega) hp)
      omega
    · rw [ct_f c]
      exact ih Q (fun j hj => h1 j (by omega)) (fun i j a b => h2 i j a (by omega)) (fun j hj => h3 j (by omega))
/-! rows in the order of their genes -/
theorem lxl_c {u v u2 v2 : Nat → Int} {n : Nat} (hu : ∀ q, q < n → u q = u2 q) (hv : ∀ q, q < n → v q = v2 q) : ∀ r p, p + r ≤ n → lxl u v r p = lxl u2 v2 r p := fun r => by
  induction r with
  | zero => exact fun p _ => rfl
  | succ r ih =>
    intro p hp
    show (if u p = v p then lxl u v r (p + 1) else decide (u p < v p)) = if u2 p = v2 p then lxl u2 v2 r (p + 1) else decide (u2 p < v2 p)
    rw [hu p (by omega), hv p (by omega), ih (p + 1) (by omega)]
theorem lxl_i (u : Nat → Int) : ∀ r p, lxl u u r p = false := fun r => by
  induction r with
  | zero => exact fun p => rfl
  | succ r ih =>
    intro p
    show (if u p = u p then lxl u u r (p + 1) else decide (u p < u p)) = false
    rw [if_pos rfl]
    exact ih (p + 1)
theorem lxl_t {u v w : Nat → Int} : ∀ r p, lxl u v r p = true → lxl v w r p = true → lxl u w r p = true := fun r => by
  induction r with
  | zero => exact fun p h _ => (nomatch h)
  | succ r ih =>
    intro p h1 h2
    have a1 : (if u p = v p then lxl u v r (p + 1) else decide (u p < v p)) = true := h1
    have a2 : (if v p = w p then lxl v w r (p + 1) else decide (v p < w p)) = true := h2
    show (if u p = w p then lxl u w r (p + 1) else decide (u p < w p)) = true
    by_cases c1 : u p = v p
    · rw [if_pos c1] at a1
      by_cases c2 : v p = w p
      · rw [if_pos c2] at a2
        rw [if_pos (c1.trans c2)]
        exact ih _ a1 a2
      · rw [if_neg c2] at a2
        have := of_decide_eq_true a2
        rw [if_neg (by omega)]
        exact decide_eq_true (by omega)
    · rw [if_neg c1] at a1
      have b1 := of_decide_eq_true a1
      by_cases c2 : v p = w p
      · rw [if_neg (by omega)]
        exact decide_eq_true (by omega)
      · rw [if_neg c2] at a2
        have := of_decide_eq_true a2
        rw [if_neg (by omega)]
        exact decide_eq_true (by omega)
theorem mb_I {n : Nat} {S : Nat → Int} {N : Nat} (hS : ∀ k, k < N → S k < 99) : ∀ k, k ≤ N → 0 < k → ∃ k0, k0 < k ∧ mb n S k = (S k0, ur n k0) ∧ ∀ j, j < k → S k0 < S j ∨ (S k0 = S j ∧ lxl (ur n j) (ur n k0) n 0 = false) := fun k => by
  induction k with
  | zero => exact fun _ h => absurd h (Nat.lt_irrefl 0)
  | succ k ih =>
    intro hk _
    have e0 : mb n S (k + 1) = if S k < (mb n S k).1 ∨ (S k = (mb n S k).1 ∧ lxl (ur n k) (mb n S k).2 n 0 = true) then (S k, ur n k) else mb n S k := rfl
    by_cases k0 : k = 0
    · subst k0
      refine ⟨0, Nat.zero_lt_succ _, ?_, fun j hj => ?_⟩
      · rw [e0]
        exact if_pos (Or.inl (hS 0 (by omega)))
      · have : j = 0 := by omega
        subst this
        exact Or.inr ⟨rfl, lxl_i _ _ _⟩
    · obtain ⟨x, h1, h2, h3⟩ := ih (by omega) (by omega)
      rw [h2] at e0
      by_cases c : S k < S x ∨ (S k = S x ∧ lxl (ur n k) (ur n x) n 0 = true)
      · refine ⟨k, Nat.lt_succ_self k, by rw [e0]; exact if_pos c, fun j hj => ?_⟩
        by_cases e : j = k
        · subst e; exact Or.inr ⟨rfl, lxl_i _ _ _⟩
        · rcases h3 j (by omega) with q | ⟨q1, q2⟩
          · left
            rcases c with c | c <;> omega
          · rcases c with c | c
            · left; omega
            · right
              refine ⟨by omega, ?_⟩
              cases w : lxl (ur n j) (ur n k) n 0 with
              | false => rfl
              | true => rw [lxl_t _ _ w c.2] at q2; cases q2
      · refine ⟨x, by omega, by rw [e0]; exact if_neg c, fun j hj => ?_⟩
        by_cases e : j = k
        · subst e
          by_cases q : S x < S j
          · exact Or.inl q
          · have e1 : S x = S j := by
              have : ¬ S j < S x := fun w => c (Or.inl w)
              omega
            refine Or.inr ⟨e1, ?_⟩
            cases w : lxl (ur n j) (ur n x) n 0 with
            | false => rfl
            | true => exact absurd (Or.inr ⟨e1.symm, w⟩) c
        · exact h3 j (by omega)
theorem mcl_I {S : Nat → Int} {N : Nat} (hS : ∀ k, k < N → S k < 99) : ∀ k, k ≤ N → 0 < k → ∃ x, x < k ∧ mcl S k = (S x, x) ∧ (∀ j, j < k → S x ≤ S j) ∧ ∀ j, j < x → S x < S j := fun k => by
  induction k with
  | zero => exact fun _ h => absurd h (Nat.lt_irrefl 0)
  | succ k ih =>
    intro hk _
    have e0 : mcl S (k + 1) = if S k < (mcl S k).1 then (S k, k) else mcl S k := rfl
    by_cases k0 : k = 0
    · subst k0
      have h9 := hS 0 (by omega)
      refine ⟨0, Nat.zero_lt_succ _, ?_, fun j hj => ?_, fun j hj => absurd hj (Nat.not_lt_zero _)⟩
      · rw [e0]
        exact if_pos (show S 0 < 2147483647 by omega)
      · have : j = 0 := by omega
        subst this
        exact Int.le_refl _
    · obtain ⟨x, h1, h2, h3, h4⟩ := ih (by omega) (by omega)
      rw [h2] at e0
      by_cases c : S k < S x
      · refine ⟨k, Nat.lt_succ_self k, by rw [e0]; exact if_pos c, fun j hj => ?_, fun j hj => ?_⟩
        · by_cases e : j = k
          · subst e; exact Int.le_refl _
          · have := h3 j (by omega); omega
        · have := h3 j (by omega); omega
      · refine ⟨x, by omega, by rw [e0]; exact if_neg c, fun j hj => ?_, h4⟩
        by_cases e : j = k
        · subst e; omega
        · exact h3 j (by omega)
section XKS
variable {n L tl nb mL fL : Nat}
theorem xk_s (X : XK n) {x : Nat} (hx : x < oc_f n) : sP n (zr n x) := by
  have h := X.1 x hx
  unfold okZ at h
  obtain ⟨b, c⟩ := cd_t h
  refine ⟨fun p hp => ?_, fun g => pq (zr n x) g n, fun g h1 h2 => ?_, fun p hp => ?_⟩
  · obtain ⟨q1, q⟩ := cd_t (alb_k _ b p hp)
    obtain ⟨q2, q⟩ := cd_t q
    exact ⟨Nat.le_of_ble_eq_true q1, Nat.le_of_ble_eq_true q2⟩
  · obtain ⟨q1, q⟩ := cd_t (alb_k _ c (g - 1) (by omega))
    rw [show Nat.succ (g - 1) = g by omega] at q1 q
    exact ⟨Nat.le_of_ble_eq_true q1, Nat.eq_of_beq_eq_true q⟩
  · obtain ⟨q1, q⟩ := cd_t (alb_k _ b p hp)
    obtain ⟨q2, q⟩ := cd_t q
    exact Nat.eq_of_beq_eq_true q
theorem xk_i (X : XK n) {k : Nat} (hk : k < oc_f n) : 0 ≤ ix_f (ur n k) n n ∧ ixN n (ur n k) < oc_f n ∧ ∀ p, p < n → zr n (ixN n (ur n k)) p = ur n k p := by
  have h := X.2.1 k hk
  unfold okX at h
  obtain ⟨a, h⟩ := cd_t h
  rw [fo_eq] at h
  obtain ⟨b, c⟩ := cd_t h
  exact ⟨of_decide_eq_true a, Nat.le_of_ble_eq_true b, fun p hp => of_decide_eq_true (alb_k _ c p hp)⟩
theorem xk_k (X : XK n) (K : TK n L tl nb mL fL) (hn : n ≤ 6) {y : Nat → Int} (hy : sP n y) : ix_k n y := by
  obtain ⟨a, b⟩ := tkq_z K hn hy
  obtain ⟨c, d, e⟩ := xk_i X a
  have e1 : ix_f (ur n (rkn n y)) n n = ix_f y n n := ix_c b n (Nat.le_refl _)
  have e2 : ixN n (ur n (rkn n y)) = ixN n y := by unfold ixN; rw [e1]
  rw [e1] at c
  rw [e2] at d e
  exact ⟨fun p hp => by have := sP_n hy p hp; omega, c, d, fun p hp => (e p hp).trans (b p hp)⟩
theorem xk_o (X : XK n) : ∀ t x, x + 1 + t < oc_f n → lxl (zr n x) (zr n (x + 1 + t)) n 0 = true := fun t => by
  induction t with
  | zero => exact fun x hx => X.2.2 x (by omega)
  | succ t ih => exact fun x hx => lxl_t n 0 (ih x (by omega)) (X.2.2 (x + 1 + t) (by omega))
theorem xk_w (X : XK n) (K : TK n L tl nb mL fL) (hn : 1 ≤ n ∧ n ≤ 6) : ∀ d x k, x < oc_f n → k < oc_f n → (∀ p, p < n → zr n x p = ur n k p) → wcf n d x = wnf n d k := fun d => by
  induction d with
  | zero => exact fun _ _ _ _ _ => rfl
  | succ d ih =>
    intro x k hx hk e
    show s2 (fun i j => if Dc n x = Dc n (nbc n x i j) + 1 then wcf n d (nbc n x i j) else 0) n n = s2 (fun i j => if Dn n k = Dn n (nbr n k i j) + 1 then wnf n d (nbr n k i j) else 0) n n
    refine s2_c n (fun i j h1 h2 h3 => ?_)
    obtain ⟨_, a1, a2, a3⟩ := xk_k X K hn.2 (sP_t (i := i) (xk_s X hx) h3)
    obtain ⟨b1, b2⟩ := tkq_z K hn.2 (sP_t (i := i) (tkq_s K hn.2 hk) h3)
    have e1 : Dc n x = Dn n k := eR_c hn.1 e
    have e2 : ∀ p, p < n → zr n (nbc n x i j) p = ur n (nbr n k i j) p := fun p hp => (a3 p hp).trans ((tI_c h3 e p hp).trans (b2 p hp).symm)
    have e3 : Dc n (nbc n x i j) = Dn n (nbr n k i j) := eR_c hn.1 e2
    rw [e1, e3, ih (nbc n x i j) (nbr n k i j) a2 b1 e2]
theorem mf_6c (X : XK n) (K : TK n L tl nb mL fL) (hn : 1 ≤ n ∧ n ≤ 6) {y : Nat → Int} (hy : sP n y) : ix_k n y ∧ Wc n (ixN n y) = Wn n (rkn n y) := by
  have h := xk_k X K hn.2 hy
  obtain ⟨a, b⟩ := tkq_z K hn.2 hy
  refine ⟨h, ?_⟩
  have e : ∀ p, p < n → zr n (ixN n y) p = ur n (rkn n y) p := fun p hp => (h.2.2.2 p hp).trans (b p hp).symm
  unfold Wc Wn
  rw [show Dc n (ixN n y) = Dn n (rkn n y) from eR_c hn.1 e]
  exact xk_w X K hn _ _ _ h.2.2.1 a e
theorem mf_6a (X : XK n) (K : TK n L tl nb mL fL) (hn : 1 ≤ n ∧ n ≤ 6) : ∀ x, x < oc_f n → sP n (zr n x) ∧ dP n (zr n x) = (Dc n x : Nat) ∧ Dc n x ≤ 20 := fun x hx => by
  have h := xk_s X hx
  obtain ⟨a, b, c, d⟩ := mf_1 K hn _ h
  exact ⟨h, a, by show eR n (zr n x) ≤ 20; omega⟩
theorem mf_6b (X : XK n) (K : TK n L tl nb mL fL) (hn : 1 ≤ n ∧ n ≤ 6) : cw_H n (oc_f n) (Dc n) (Wc n) := by
  refine ⟨fun x hx => ?_, fun x hx => ?_⟩
  · obtain ⟨a, b, c⟩ := mf_6a X K hn x hx
    refine ⟨fun p hp => by have := sP_n a p hp; omega, c, fun i j hij hj => ?_⟩
    obtain ⟨_, a1, a2, a3⟩ := xk_k X K hn.2 (sP_t (i := i) a hj)
    exact ⟨a1, a2, a3⟩
  · refine ⟨fun h => by unfold Wc; rw [h]; rfl, fun h => ?_⟩
    unfold Wc
    obtain ⟨d, hd⟩ : ∃ d, Dc n x = d + 1 := ⟨Dc n x - 1, by omega⟩
    rw [hd]
    show s2 (fun i j => if Dc n x = Dc n (nbc n x i j) + 1 then wcf n d (nbc n x i j) else 0) n n = _
    refine s2_c n (fun i j h1 h2 h3 => ?_)
    rw [hd]
    by_cases c : d + 1 = Dc n (nbc n x i j) + 1
    · rw [if_pos c, if_pos c, show d = Dc n (nbc n x i j) by omega]
    · rw [if_neg c, if_neg c]
theorem mf_6d (X : XK n) (K : TK n L tl nb mL fL) (hn : 1 ≤ n ∧ n ≤ 6) (d : Int) : ct (fun j => ((Dc n j : Nat) : Int) == d) (oc_f n) = ct (fun k => decide ((Dn n k : Int) = d)) (oc_f n) := by
  refine Nat.le_antisymm ?_ ?_
  · refine ct_y (P := fun j => ((Dc n j : Nat) : Int) == d) (Q := fun _ => true) (π := fun x => rkn n (zr n x)) (oc_f n) _ (fun x hx => (tkq_z K hn.2 (xk_s X hx)).1) (fun x y hxy hy q => ?_) (fun x hx hp => ?_)
    · have q2 : rkn n (zr n x) = rkn n (zr n y) := q
      have a := (tkq_z K hn.2 (xk_s X (show x < oc_f n by omega))).2
      have b := (tkq_z K hn.2 (xk_s X hy)).2
      rw [q2] at a
      have h := xk_o X (y - x - 1) x (by omega)
      rw [show x + 1 + (y - x - 1) = y by omega, lxl_c (n := n) (u2 := zr n y) (v2 := zr n y) (fun p hp => (a p hp).symm.trans (b p hp)) (fun _ _ => rfl) n 0 (by omega), lxl_i] at h
      cases h
    · have e : Dn n (rkn n (zr n x)) = Dc n x := (mf_1 K hn _ (xk_s X hx)).2.2.2
      show decide ((Dn n (rkn n (zr n x)) : Int) = d) = true
      rw [e]
      exact decide_eq_true (of_decide_eq_true hp)
  · refine ct_y (P := fun k => decide ((Dn n k : Int) = d)) (Q := fun _ => true) (π := fun k => ixN n (ur n k)) (oc_f n) _ (fun k hk => (xk_i X hk).2.1) (fun x y hxy hy q => ?_) (fun k hk hp => ?_)
    · have q2 : ixN n (ur n x) = ixN n (ur n y) := q
      have a := (xk_i X (show x < oc_f n by omega)).2.2
      have b := (xk_i X hy).2.2
      rw [q2] at a
      have e := rkn_c (n := n) (u := ur n x) (v := ur n y) (fun p hp => (a p hp).symm.trans (b p hp))
      rw [tkq_r K hn.2 (by omega), tkq_r K hn.2 hy] at e
      omega
    · have e : Dc n (ixN n (ur n k)) = Dn n k := eR_c hn.1 (xk_i X hk).2.2
      show (((Dc n (ixN n (ur n k)) : Nat) : Int) == d) = true
      rw [e]
      exact decide_eq_true (of_decide_eq_true hp)
theorem mf_6e (X : XK n) (K : TK n L tl nb mL fL) (hn : 1 ≤ n ∧ n ≤ 6) (u : Nat → Nat → Int) (a b c : Nat) (hu : ∀ s, s < 5 → sP n (u s)) (ha : a < 5) (hb : b < 5) (hc : c < 5) : (mb n (sm n Dn (fun k s => yR n (ur n k) (u s)) a b c) (oc_f n)).1 = (mcl (smc n Dc u a b c) (oc_f n)).1 ∧ ∀ p, p < n → (mb n (sm n Dn (fun k s => yR n (ur n k) (u s)) a b c) (oc_f n)).2 p = zr n (mcl (smc n Dc u a b c) (oc_f n)).2 p := by
  have hp : 0 < oc_f n := (oc_fa n (by omega)).2.2
  have e1 : ∀ k s, k < oc_f n → s < 5 → Dn n (rkn n (yR n (ur n k) (u s))) = eR n (yR n (ur n k) (u s)) ∧ eR n (yR n (ur n k) (u s)) ≤ 7 := fun k s hk hs => by
    have := mf_1 K hn _ (sP_y (tkq_s K hn.2 hk) (hu s hs))
    exact ⟨this.2.2.2, this.2.1⟩
  have e2 : ∀ x s, x < oc_f n → s < 5 → Dc n (ixN n (yR n (zr n x) (u s))) = eR n (yR n (zr n x) (u s)) ∧ eR n (yR n (zr n x) (u s)) ≤ 7 := fun x s hx hs => by
    have h1 := sP_y (xk_s X hx) (hu s hs)
    exact ⟨eR_c hn.1 (xk_k X K hn.2 h1).2.2.2, (mf_1 K hn _ h1).2.1⟩
  have s1 : ∀ k, k < oc_f n → sm n Dn (fun k s => yR n (ur n k) (u s)) a b c k = (eR n (yR n (ur n k) (u a)) : Nat) + (eR n (yR n (ur n k) (u b)) : Nat) + (eR n (yR n (ur n k) (u c)) : Nat) := fun k hk => by
    show ((Dn n (rkn n (yR n (ur n k) (u a))) : Nat) : Int) + (Dn n (rkn n (yR n (ur n k) (u b))) : Nat) + (Dn n (rkn n (yR n (ur n k) (u c))) : Nat) = _
    rw [(e1 k a hk ha).1, (e1 k b hk hb).1, (e1 k c hk hc).1]
  have s2 : ∀ x, x < oc_f n → smc n Dc u a b c x = (eR n (yR n (zr n x) (u a)) : Nat) + (eR n (yR n (zr n x) (u b)) : Nat) + (eR n (yR n (zr n x) (u c)) : Nat) := fun x hx => by
    unfold smc
    rw [(e2 x a hx ha).1, (e2 x b hx hb).1, (e2 x c hx hc).1]
  have se : ∀ x k, x < oc_f n → k < oc_f n → (∀ p, p < n → zr n x p = ur n k p) → smc n Dc u a b c x = sm n Dn (fun k s => yR n (ur n k) (u s)) a b c k := fun x k hx hk e => by
    rw [s1 k hk, s2 x hx, eR_c hn.1 (yR_c (w := u a) e), eR_c hn.1 (yR_c (w := u b) e), eR_c hn.1 (yR_c (w := u c) e)]
  obtain ⟨k0, h1, h2, h3⟩ := mb_I (n := n) (S := sm n Dn (fun k s => yR n (ur n k) (u s)) a b c) (N := oc_f n) (fun k hk => by
    rw [s1 k hk]
    have q1 := (e1 k a hk ha).2
    have q2 := (e1 k b hk hb).2
    have q3 := (e1 k c hk hc).2
    omega) _ (Nat.le_refl _) hp
  obtain ⟨x0, g1, g2, g3, g4⟩ := mcl_I (S := smc n Dc u a b c) (N := oc_f n) (fun x hx => by
    rw [s2 x hx]
    have q1 := (e2 x a hx ha).2
    have q2 := (e2 x b hx hb).2
    have q3 := (e2 x c hx hc).2
    omega) _ (Nat.le_refl _) hp
  rw [h2, g2]
  obtain ⟨_, x1, x2⟩ := xk_i X h1
  obtain ⟨k1, k2⟩ := tkq_z K hn.2 (xk_s X g1)
  have t1 := se _ _ x1 h1 x2
  have t2 := se _ _ g1 k1 (fun p hp => (k2 p hp).symm)
  have t3 := g3 _ x1
  have t4 := h3 _ k1
  have t5 : sm n Dn (fun k s => yR n (ur n k) (u s)) a b c k0 = smc n Dc u a b c x0 := by
    rcases t4 with q | q <;> omega
  have hx : ixN n (ur n k0) = x0 := by
    refine Classical.byContradiction fun q => ?_
    by_cases w : ixN n (ur n k0) < x0
    · have := g4 _ w
      omega
    · have hl := xk_o X (ixN n (ur n k0) - x0 - 1) x0 (by omega)
      rw [show x0 + 1 + (ixN n (ur n k0) - x0 - 1) = ixN n (ur n k0) by omega] at hl
      rw [lxl_c (n := n) (u2 := ur n (rkn n (zr n x0))) (v2 := ur n k0) (fun p hp => (k2 p hp).symm) x2 n 0 (by omega)] at hl
      rcases t4 with v | v
      · omega
      · rw [hl] at v
        exact absurd v.2 (by decide)
  refine ⟨t5, fun p hp => ?_⟩
  show ur n k0 p = zr n x0 p
  rw [← hx]
  exact (x2 p hp).symm
theorem mf_n (X : n ≤ 4 → XK n) (K : TK n L tl nb mL fL) (hn : 1 ≤ n ∧ n ≤ 6) (h0 : dg (tX n tl 0) 0 = 0) : (∀ z, sP n z → dP n z = (eR n z : Nat) ∧ eR n z ≤ 7 ∧ rkn n z < oc_f n ∧ Dn n (rkn n z) = eR n z) ∧
    bf_H n (oc_f n) (nbr n) (Dn n) (Wn n) ∧ (∀ k, k < oc_f n → Dn n k ≤ 7 ∧ sP n (ur n k)) ∧ rw_H n (fun z => Dn n (rkn n z)) (sP n) ∧
    (∀ z k, sP n z → dg_f (eaR n z) (soR n z) n z k = mg_f (eaR n z) (soR n z) n z k) ∧
    (n ≤ 4 → (∀ x, x < oc_f n → sP n (zr n x) ∧ dP n (zr n x) = (Dc n x : Nat) ∧ Dc n x ≤ 20) ∧ cw_H n (oc_f n) (Dc n) (Wc n) ∧
      (∀ y, sP n y → ix_k n y ∧ Wc n (ixN n y) = Wn n (rkn n y)) ∧
      (∀ d : Int, ct (fun j => ((Dc n j : Nat) : Int) == d) (oc_f n) = ct (fun k => decide ((Dn n k : Int) = d)) (oc_f n)) ∧
      (∀ (u : Nat → Nat → Int) a b c, (∀ s, s < 5 → sP n (u s)) → a < 5 → b < 5 → c < 5 → (mb n (sm n Dn (fun k s => yR n (ur n k) (u s)) a b c) (oc_f n)).1 = (mcl (smc n Dc u a b c) (oc_f n)).1 ∧ ∀ p, p < n → (mb n (sm n Dn (fun k s => yR n (ur n k) (u s)) a b c) (oc_f n)).2 p = zr n (mcl (smc n Dc u a b c) (oc_f n)).2 p)) :=
  ⟨mf_1 K hn, mf_2 K hn h0, mf_3 K hn, mf_4 K hn h0, fun z k hz => mf_5 hz k, fun h4 => ⟨mf_6a (X h4) K hn, mf_6b (X h4) K hn, fun y hy => mf_6c (X h4) K hn hy, mf_6d (X h4) K hn, fun u a b c hu ha hb hc => mf_6e (X h4) K hn u a b c hu ha hb hc⟩⟩
end XKS
theorem z01 : dg (tX 1 lT1 0) 0 = 0 := by decide +kernel
theorem z02 : dg (tX 2 lT2 0) 0 = 0 := by decide +kernel
theorem z03 : dg (tX 3 lT3 0) 0 = 0 := by decide +kernel
theorem z04 : dg (tX 4 lT4 0) 0 = 0 := by decide +kernel
theorem z05 : dg (tX 5 lT5 0) 0 = 0 := by decide +kernel
theorem z06 : dg (tX 6 lT6 0) 0 = 0 := by decide +kernel
theorem mf_all : MF := fun n h1 h6 => by
  by_cases c1 : n = 1
  · subst c1; exact mf_n (fun h => XK_k 1 (by decide) h) TK1 ⟨by decide, by decide⟩ z01
  by_cases c2 : n = 2
  · subst c2; exact mf_n (fun h => XK_k 2 (by decide) h) TK2 ⟨by decide, by decide⟩ z02
  by_cases c3 : n = 3
  · subst c3; exact mf_n (fun h => XK_k 3 (by decide) h) TK3 ⟨by decide, by decide⟩ z03
  by_cases c4 : n = 4
  · subst c4; exact mf_n (fun h => XK_k 4 (by decide) h) TK4 ⟨by decide, by decide⟩ z04
  by_cases c5 : n = 5
  · subst c5; exact mf_n (fun h => XK_k 5 (by decide) h) TK5 ⟨by decide, by decide⟩ z05
  have c6 : n = 6 := by omega
  subst c6
  exact mf_n (fun h => XK_k 6 (by decide) h) TK6 ⟨by decide, by decide⟩ z06
