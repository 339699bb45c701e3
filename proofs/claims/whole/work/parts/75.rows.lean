/-! SIGNED ROWS: each number once; their drawing, their relative rows -/
def sP (n : Nat) (u : Nat → Int) : Prop := (∀ p, p < n → 1 ≤ (u p).natAbs ∧ (u p).natAbs ≤ n) ∧ ∃ w : Nat → Nat, (∀ x, 1 ≤ x → x ≤ n → w x < n ∧ (u (w x)).natAbs = x) ∧ ∀ p, p < n → w (u p).natAbs = p
def pq (u : Nat → Int) (x : Nat) : Nat → Nat
  | 0 => 0
  | p + 1 => if (u p).natAbs = x then p else pq u x p
theorem pq_i {u : Nat → Int} {x : Nat} : ∀ m p, p < m → (u p).natAbs = x → pq u x m < m ∧ (u (pq u x m)).natAbs = x := fun m => by
  induction m with
  | zero => intro p h; exact absurd h (Nat.not_lt_zero _)
  | succ m ih =>
    intro p h1 h2
    have e0 : pq u x (m + 1) = if (u m).natAbs = x then m else pq u x m := rfl
    by_cases e : (u m).natAbs = x
    · rw [e0, if_pos e]; exact ⟨by omega, e⟩
    · rw [e0, if_neg e]
      have hp : p ≠ m := fun q => e (by rw [← q]; exact h2)
      obtain ⟨a, b⟩ := ih p (by omega) h2
      exact ⟨by omega, b⟩
theorem sP_x {n : Nat} {u : Nat → Int} (h : sP n u) : ∀ x, 1 ≤ x → x ≤ n → pq u x n < n ∧ (u (pq u x n)).natAbs = x := fun x h1 h2 => by
  obtain ⟨-, w, h3, -⟩ := h
  obtain ⟨a, b⟩ := h3 x h1 h2
  exact pq_i n (w x) a b
theorem sP_j {n : Nat} {u : Nat → Int} (h : sP n u) {p q : Nat} (hp : p < n) (hq : q < n) (e : (u p).natAbs = (u q).natAbs) : p = q := by
  obtain ⟨-, w, -, h4⟩ := h
  rw [← h4 p hp, ← h4 q hq, e]
theorem sP_u {n : Nat} {u : Nat → Int} (h : sP n u) : ∀ p, p < n → pq u (u p).natAbs n = p := fun p hp => by
  obtain ⟨a, b⟩ := pq_i n p hp rfl
  exact sP_j h a hp b
theorem sP_n {n : Nat} {u : Nat → Int} (h : sP n u) : ∀ p, p < n → u p ≠ 0 ∧ -(n : Int) ≤ u p ∧ u p ≤ n := fun p hp => by
  have := h.1 p hp
  omega
/-- the inverse need only be right one way where no number comes twice -/
theorem sP_mk {n : Nat} {u : Nat → Int} (w : Nat → Nat) (h1 : ∀ p, p < n → 1 ≤ (u p).natAbs ∧ (u p).natAbs ≤ n) (h2 : ∀ x, 1 ≤ x → x ≤ n → w x < n ∧ (u (w x)).natAbs = x) (h3 : ∀ p q, p < n → q < n → (u p).natAbs = (u q).natAbs → p = q) : sP n u :=
  ⟨h1, w, h2, fun p hp => by
    obtain ⟨a, b⟩ := h1 p hp
    obtain ⟨c, d⟩ := h2 _ a b
    exact h3 _ _ c hp d⟩
theorem sP_c {n : Nat} {u v : Nat → Int} (h : sP n u) (e : ∀ p, p < n → v p = u p) : sP n v := by
  obtain ⟨h1, w, h2, h3⟩ := h
  refine ⟨fun p hp => by rw [e p hp]; exact h1 p hp, w, fun x a b => ⟨(h2 x a b).1, by rw [e _ (h2 x a b).1]; exact (h2 x a b).2⟩, fun p hp => by rw [e p hp]; exact h3 p hp⟩
theorem sP_0 (n : Nat) : sP n (fun p => (p : Int) + 1) :=
  ⟨fun p hp => by show 1 ≤ ((p : Int) + 1).natAbs ∧ ((p : Int) + 1).natAbs ≤ n; omega, fun x => x - 1, fun x h1 h2 => ⟨by show x - 1 < n; omega, by show (((x - 1 : Nat) : Int) + 1).natAbs = x; omega⟩, fun p _ => by show ((p : Int) + 1).natAbs - 1 = p; omega⟩
theorem sP_t {n : Nat} {u : Nat → Int} (h : sP n u) {i j : Nat} (hj : j < n) : sP n (tI u i j) := by
  obtain ⟨h1, w, h2, h3⟩ := h
  have e1 : ∀ p, (i ≤ p ∧ p ≤ j) → tI u i j p = -(u (i + j - p)) := fun p q => if_pos q
  have e2 : ∀ p, ¬ (i ≤ p ∧ p ≤ j) → tI u i j p = u p := fun p q => if_neg q
  refine ⟨fun p hp => ?_, fun x => if i ≤ w x ∧ w x ≤ j then i + j - w x else w x, fun x a b => ?_, fun p hp => ?_⟩
  · by_cases q : i ≤ p ∧ p ≤ j
    · rw [e1 p q, Int.natAbs_neg]; exact h1 _ (by omega)
    · rw [e2 p q]; exact h1 p hp
  · obtain ⟨c, d⟩ := h2 x a b
    show (if i ≤ w x ∧ w x ≤ j then i + j - w x else w x) < n ∧ (tI u i j (if i ≤ w x ∧ w x ≤ j then i + j - w x else w x)).natAbs = x
    by_cases q : i ≤ w x ∧ w x ≤ j
    · rw [if_pos q, e1 _ (by omega), Int.natAbs_neg, show i + j - (i + j - w x) = w x by omega]
      exact ⟨by omega, d⟩
    · rw [if_neg q, e2 _ q]
      exact ⟨c, d⟩
  · show (if i ≤ w (tI u i j p).natAbs ∧ w (tI u i j p).natAbs ≤ j then i + j - w (tI u i j p).natAbs else w (tI u i j p).natAbs) = p
    by_cases q : i ≤ p ∧ p ≤ j
    · rw [e1 p q, Int.natAbs_neg, h3 _ (by omega), if_pos (by omega)]
      omega
    · rw [e2 p q, h3 p hp, if_neg q]
def eaR (n : Nat) (u : Nat → Int) (s : Nat) : Nat := if 2 * n + 2 ≤ s then 0 else if s = 0 then 0 else if s = 2 * n + 1 then 2 * n + 1 else if s % 2 = 1 then (en1 (u (s / 2))).toNat else (en2 (u (s / 2 - 1))).toNat
def soR (n : Nat) (u : Nat → Int) (e : Nat) : Nat := if 2 * n + 2 ≤ e then 0 else if e = 0 then 0 else if e = 2 * n + 1 then 2 * n + 1 else if 0 < u (pq u ((e + 1) / 2) n) then (if e % 2 = 1 then 2 * pq u ((e + 1) / 2) n + 1 else 2 * pq u ((e + 1) / 2) n + 2) else (if e % 2 = 1 then 2 * pq u ((e + 1) / 2) n + 2 else 2 * pq u ((e + 1) / 2) n + 1)
theorem ea_0 (n : Nat) (u : Nat → Int) : eaR n u 0 = 0 := (if_neg (by omega)).trans (if_pos rfl)
theorem ea_n (n : Nat) (u : Nat → Int) : eaR n u (2 * n + 1) = 2 * n + 1 := (if_neg (by omega)).trans ((if_neg (by omega)).trans (if_pos rfl))
theorem ea_1 {n : Nat} {u : Nat → Int} {p : Nat} (h : p < n) : eaR n u (2 * p + 1) = (en1 (u p)).toNat := by
  unfold eaR
  rw [if_neg (by omega), if_neg (by omega), if_neg (by omega), if_pos (by omega), show (2 * p + 1) / 2 = p by omega]
theorem ea_2 {n : Nat} {u : Nat → Int} {p : Nat} (h : p < n) : eaR n u (2 * p + 2) = (en2 (u p)).toNat := by
  unfold eaR
  rw [if_neg (by omega), if_neg (by omega), if_neg (by omega), if_neg (by omega), show (2 * p + 2) / 2 - 1 = p by omega]
theorem en_b {n : Nat} {u : Nat → Int} (h : sP n u) {p : Nat} (hp : p < n) : (1 ≤ en1 (u p) ∧ en1 (u p) ≤ 2 * n) ∧ 1 ≤ en2 (u p) ∧ en2 (u p) ≤ 2 * n := by
  have := h.1 p hp
  unfold en1 en2
  by_cases q : 0 < u p
  · rw [if_pos q, if_pos q]; omega
  · rw [if_neg q, if_neg q]; omega
theorem sp_cs {n s : Nat} (hs : s < 2 * n + 2) : s = 0 ∨ s = 2 * n + 1 ∨ ∃ p, p < n ∧ (s = 2 * p + 1 ∨ s = 2 * p + 2) := by
  by_cases h1 : s = 0
  · exact Or.inl h1
  · by_cases h2 : s = 2 * n + 1
    · exact Or.inr (Or.inl h2)
    · exact Or.inr (Or.inr ⟨(s - 1) / 2, by omega, by omega⟩)
theorem ea_b {n : Nat} {u : Nat → Int} (h : sP n u) {s : Nat} (hs : s < 2 * n + 2) : eaR n u s < 2 * n + 2 := by
  rcases sp_cs hs with rfl | rfl | ⟨p, hp, rfl | rfl⟩
  · rw [ea_0]; omega
  · rw [ea_n]; omega
  · rw [ea_1 hp]; have := en_b h hp; omega
  · rw [ea_2 hp]; have := en_b h hp; omega
theorem so_v {n : Nat} {u : Nat → Int} {e : Nat} (h : e < 2 * n + 2) (h0 : e ≠ 0) (h1 : e ≠ 2 * n + 1) : soR n u e = if 0 < u (pq u ((e + 1) / 2) n) then (if e % 2 = 1 then 2 * pq u ((e + 1) / 2) n + 1 else 2 * pq u ((e + 1) / 2) n + 2) else (if e % 2 = 1 then 2 * pq u ((e + 1) / 2) n + 2 else 2 * pq u ((e + 1) / 2) n + 1) := (if_neg (by omega)).trans ((if_neg h0).trans (if_neg h1))
theorem so_ea {n : Nat} {u : Nat → Int} (h : sP n u) {s : Nat} (hs : s < 2 * n + 2) : soR n u (eaR n u s) = s := by
  rcases sp_cs hs with rfl | rfl | ⟨p, hp, rfl | rfl⟩
  · rw [ea_0]; exact (if_neg (by omega)).trans (if_pos rfl)
  · rw [ea_n]; exact (if_neg (by omega)).trans ((if_neg (by omega)).trans (if_pos rfl))
  · have b := h.1 p hp
    have b2 := en_b h hp
    rw [ea_1 hp, so_v (by omega) (by omega) (by omega)]
    by_cases q : 0 < u p
    · have e1 : en1 (u p) = 2 * u p - 1 := if_pos q
      rw [e1, show ((2 * u p - 1).toNat + 1) / 2 = (u p).natAbs by omega, sP_u h p hp, if_pos q, if_pos (by omega)]
    · have e1 : en1 (u p) = -2 * u p := if_neg q
      rw [e1, show ((-2 * u p).toNat + 1) / 2 = (u p).natAbs by omega, sP_u h p hp, if_neg q, if_neg (by omega)]
  · have b := h.1 p hp
    have b2 := en_b h hp
    rw [ea_2 hp, so_v (by omega) (by omega) (by omega)]
    by_cases q : 0 < u p
    · have e1 : en2 (u p) = 2 * u p := if_pos q
      rw [e1, show ((2 * u p).toNat + 1) / 2 = (u p).natAbs by omega, sP_u h p hp, if_pos q, if_neg (by omega)]
    · have e1 : en2 (u p) = -2 * u p - 1 := if_neg q
      rw [e1, show ((-2 * u p - 1).toNat + 1) / 2 = (u p).natAbs by omega, sP_u h p hp, if_neg q, if_pos (by omega)]
theorem ea_so {n : Nat} {u : Nat → Int} (h : sP n u) {e : Nat} (he : e < 2 * n + 2) : soR n u e < 2 * n + 2 ∧ eaR n u (soR n u e) = e := by
  by_cases h0 : e = 0
  · subst h0
    rw [show soR n u 0 = 0 from (if_neg (by omega)).trans (if_pos rfl), ea_0]
    exact ⟨by omega, rfl⟩
  · by_cases h1 : e = 2 * n + 1
    · subst h1
      rw [show soR n u (2 * n + 1) = 2 * n + 1 from (if_neg (by omega)).trans ((if_neg (by omega)).trans (if_pos rfl)), ea_n]
      exact ⟨by omega, rfl⟩
    · obtain ⟨a, b⟩ := sP_x h ((e + 1) / 2) (by omega) (by omega)
      rw [so_v he h0 h1]
      revert a b
      generalize pq u ((e + 1) / 2) n = p
      intro a b
      by_cases q : 0 < u p
      · rw [if_pos q]
        by_cases r : e % 2 = 1
        · rw [if_pos r, ea_1 a, show en1 (u p) = 2 * u p - 1 from if_pos q]; omega
        · rw [if_neg r, ea_2 a, show en2 (u p) = 2 * u p from if_pos q]; omega
      · rw [if_neg q]
        by_cases r : e % 2 = 1
        · rw [if_pos r, ea_2 a, show en2 (u p) = -2 * u p - 1 from if_neg q]; omega
        · rw [if_neg r, ea_1 a, show en1 (u p) = -2 * u p from if_neg q]; omega
theorem eaR_c {n : Nat} {u v : Nat → Int} (h : ∀ p, p < n → u p = v p) : eaR n u = eaR n v := by
  funext s
  by_cases q : s < 2 * n + 2
  · rcases sp_cs q with rfl | rfl | ⟨p, hp, rfl | rfl⟩
    · rw [ea_0, ea_0]
    · rw [ea_n, ea_n]
    · rw [ea_1 hp, ea_1 hp, h p hp]
    · rw [ea_2 hp, ea_2 hp, h p hp]
  · rw [show eaR n u s = 0 from if_pos (by omega), show eaR n v s = 0 from if_pos (by omega)]
theorem pq_c {u v : Nat → Int} {x : Nat} : ∀ n, (∀ p, p < n → u p = v p) → pq u x n = pq v x n := fun n => by
  induction n with
  | zero => exact fun _ => rfl
  | succ n ih =>
    intro h
    show (if (u n).natAbs = x then n else pq u x n) = if (v n).natAbs = x then n else pq v x n
    rw [h n (by omega), ih (fun p hp => h p (by omega))]
theorem pq_l {u : Nat → Int} {x : Nat} : ∀ n, 1 ≤ n → pq u x n < n := fun n => by
  induction n with
  | zero => intro h; exact absurd h (by omega)
  | succ n ih =>
    intro _
    show (if (u n).natAbs = x then n else pq u x n) < n + 1
    by_cases e : (u n).natAbs = x
    · rw [if_pos e]; omega
    · rw [if_neg e]
      by_cases e0 : n = 0
      · subst e0; exact Nat.zero_lt_one
      · have := ih (by omega); omega
theorem soR_c {n : Nat} {u v : Nat → Int} (h1 : 1 ≤ n) (h : ∀ p, p < n → u p = v p) : soR n u = soR n v := by
  funext e
  unfold soR
  rw [pq_c n h, h _ (pq_l n h1)]
theorem ea_j {n : Nat} {u : Nat → Int} (h : sP n u) {s t : Nat} (hs : s < 2 * n + 2) (ht : t < 2 * n + 2) (e : eaR n u s = eaR n u t) : s = t := by rw [← so_ea h hs, ← so_ea h ht, e]
theorem pe_28 (I : Nat → Nat → Int32) (a b : Int) : pe_I I a b 28 = upd (I 28) b.toNat (iI a) := rfl
theorem pe_29 (I : Nat → Nat → Int32) (a b : Int) : pe_I I a b 29 = upd (I 29) a.toNat (iI b) := rfl
theorem dw_ok (I : Nat → Nat → Int32) {n : Nat} {u : Nat → Int} (h : sP n u) : ∀ p, p ≤ n → ∀ s, (s = 0 ∨ s = 2 * n + 1 ∨ (1 ≤ s ∧ s ≤ 2 * p)) → dw_p I n u p 28 s = iI (eaR n u s : Nat) ∧ dw_p I n u p 29 (eaR n u s) = iI (s : Nat) := fun p => by
  induction p with
  | zero =>
    intro _ s hs
    show dw_0 I n 28 s = _ ∧ dw_0 I n 29 _ = _
    unfold dw_0
    rw [pe_28, pe_29, pe_28, pe_29]
    rcases hs with rfl | rfl | hs
    · rw [ea_0]
      refine ⟨?_, ?_⟩
      · rw [pk_un (by omega)]; exact pk_us
      · rw [pk_un (by omega)]; exact pk_us
    · rw [ea_n, show (2 * (n : Int) + 1).toNat = 2 * n + 1 by omega]
      exact ⟨pk_us, pk_us⟩
    · omega
  | succ p ih =>
    intro hp s hs
    have hpn : p < n := by omega
    have b2 := en_b h hpn
    show dw_s (dw_p I n u p) p (u p) 28 s = _ ∧ dw_s (dw_p I n u p) p (u p) 29 _ = _
    unfold dw_s
    rw [pe_28, pe_29, pe_28, pe_29, show (2 * (p : Int) + 1).toNat = 2 * p + 1 by omega, show (2 * (p : Int) + 2).toNat = 2 * p + 2 by omega, ← ea_1 (u := u) hpn, ← ea_2 (u := u) hpn]
    by_cases e1 : s = 2 * p + 1
    · subst e1
      rw [pk_un (show 2 * p + 1 ≠ 2 * p + 2 by omega), pk_us, pk_un (fun q => absurd (ea_j h (by omega) (by omega) q) (by omega)), pk_us]
      exact ⟨by rw [ea_1 hpn, show ((en1 (u p)).toNat : Int) = en1 (u p) by omega], rfl⟩
    · by_cases e2 : s = 2 * p + 2
      · subst e2
        rw [pk_us, pk_us]
        exact ⟨by rw [ea_2 hpn, show ((en2 (u p)).toNat : Int) = en2 (u p) by omega], rfl⟩
      · rw [pk_un e2, pk_un e1, pk_un (fun q => e2 (ea_j h (by omega) (by omega) q)), pk_un (fun q => e1 (ea_j h (by omega) (by omega) q))]
        exact ih (by omega) s (by omega)
theorem dr_ok (I : Nat → Nat → Int32) {n : Nat} {u : Nat → Int} (h : sP n u) : dr_e (dw_p I n u n) n (eaR n u) (soR n u) := fun s hs => by
  obtain ⟨a, b⟩ := ea_so h hs
  refine ⟨(dw_ok I h n (Nat.le_refl _) s (by omega)).1, ?_, ea_b h hs, a⟩
  have := (dw_ok I h n (Nat.le_refl _) (soR n u s) (by omega)).2
  rw [b] at this
  exact this
theorem md_ok (g : Nat → Int32) {n : Nat} {u : Nat → Int} (h : sP n u) : ∀ p, p ≤ n → ∀ s, (s = 0 ∨ s = 2 * n + 1 ∨ (1 ≤ s ∧ s ≤ 2 * p)) → md_o (md_0 g n) u p s = iI (eaR n u s : Nat) := fun p => by
  induction p with
  | zero =>
    intro _ s hs
    show md_0 g n s = _
    unfold md_0
    rcases hs with rfl | rfl | hs
    · rw [ea_0, pk_un (by omega)]; exact pk_us
    · rw [ea_n]; exact pk_us
    · omega
  | succ p ih =>
    intro hp s hs
    have hpn : p < n := by omega
    have b2 := en_b h hpn
    show upd (upd (md_o (md_0 g n) u p) (2 * p + 1) (iI (en1 (u p)))) (2 * p + 2) (iI (en2 (u p))) s = _
    by_cases e1 : s = 2 * p + 1
    · subst e1
      rw [pk_un (show 2 * p + 1 ≠ 2 * p + 2 by omega), pk_us, ea_1 hpn, show ((en1 (u p)).toNat : Int) = en1 (u p) by omega]
    · by_cases e2 : s = 2 * p + 2
      · subst e2
        rw [pk_us, ea_2 hpn, show ((en2 (u p)).toNat : Int) = en2 (u p) by omega]
      · rw [pk_un e2, pk_un e1]
        exact ih (by omega) s (by omega)
theorem ms_ok (g : Nat → Int32) {n : Nat} {u : Nat → Int} (h : sP n u) : ∀ m, m ≤ 2 * n + 2 → ∀ s, s < m → ms_o g (eaR n u) m (eaR n u s) = iI (s : Nat) := fun m => by
  induction m with
  | zero => intro _ s hs; exact absurd hs (Nat.not_lt_zero _)
  | succ m ih =>
    intro hm s hs
    show upd (ms_o g (eaR n u) m) (eaR n u m) (iI m) (eaR n u s) = _
    by_cases e : s = m
    · subst e; exact pk_us
    · rw [pk_un (fun q => e (ea_j h (by omega) (by omega) q))]
      exact ih (by omega) s (by omega)
theorem mso_k (g : Nat → Int32) {n : Nat} {u : Nat → Int} (h : sP n u) : ∀ e, e < 2 * n + 2 → ms_o g (eaR n u) (2 * n + 2) e = iI (soR n u e : Nat) ∧ soR n u e < 2 * n + 2 := fun e he => by
  obtain ⟨a, b⟩ := ea_so h he
  have := ms_ok g h (2 * n + 2) (Nat.le_refl _) (soR n u e) a
  rw [b] at this
  exact ⟨this, a⟩
/-! relative rows -/
def yR (n : Nat) (u v : Nat → Int) (p : Nat) : Int := mq (u p) (v (pq v (u p).natAbs n)) (pq v (u p).natAbs n)
theorem yR_q {n : Nat} {u v : Nat → Int} (hu : sP n u) (hv : sP n v) {p : Nat} (hp : p < n) : pq v (u p).natAbs n < n ∧ (v (pq v (u p).natAbs n)).natAbs = (u p).natAbs := sP_x hv _ (hu.1 p hp).1 (hu.1 p hp).2
theorem yR_a {n : Nat} {u v : Nat → Int} {p : Nat} : (yR n u v p).natAbs = pq v (u p).natAbs n + 1 := by
  unfold yR mq
  by_cases q : u p = v (pq v (u p).natAbs n)
  · rw [if_pos q]; omega
  · rw [if_neg q]; omega
theorem sP_y {n : Nat} {u v : Nat → Int} (hu : sP n u) (hv : sP n v) : sP n (yR n u v) := by
  refine ⟨fun p hp => ?_, fun x => pq u (v (x - 1)).natAbs n, fun x h1 h2 => ?_, fun p hp => ?_⟩
  · rw [yR_a]
    have := (yR_q hu hv hp).1
    omega
  · obtain ⟨a, b⟩ := yR_q hv hu (show x - 1 < n by omega)
    refine ⟨a, ?_⟩
    show (yR n u v (pq u (v (x - 1)).natAbs n)).natAbs = x
    rw [yR_a, b, sP_u hv _ (by omega)]
    omega
  · show pq u (v ((yR n u v p).natAbs - 1)).natAbs n = p
    rw [yR_a, Nat.add_sub_cancel, (yR_q hu hv hp).2, sP_u hu p hp]
theorem mr_rn {g : Nat → Int32} {p j : Nat} {x : Int} {v : Nat → Int} (hj : j ≠ p) : ∀ m, mr_r g p x v m j = g j := fun m => by
  induction m with
  | zero => rfl
  | succ m ih =>
    show (if x = v m ∨ x = -(v m) then upd (mr_r g p x v m) p (iI (mq x (v m) m)) else mr_r g p x v m) j = g j
    by_cases q : x = v m ∨ x = -(v m)
    · rw [if_pos q, pk_un hj]; exact ih
    · rw [if_neg q]; exact ih
theorem mr_rs {n : Nat} {g : Nat → Int32} {p q0 : Nat} {x : Int} {v : Nat → Int} (hv : sP n v) (h0 : q0 < n) (hx : (v q0).natAbs = x.natAbs) : ∀ m, m ≤ n → q0 < m → mr_r g p x v m p = iI (mq x (v q0) q0) := fun m => by
  induction m with
  | zero => intro _ h; exact absurd h (Nat.not_lt_zero _)
  | succ m ih =>
    intro hm hq
    show (if x = v m ∨ x = -(v m) then upd (mr_r g p x v m) p (iI (mq x (v m) m)) else mr_r g p x v m) p = _
    by_cases e : q0 = m
    · subst e
      rw [if_pos (by omega), pk_us]
    · rw [if_neg (fun r => e (sP_j hv h0 (by omega) (by omega)))]
      exact ih (by omega) (by omega)
theorem mr_k {n : Nat} {u v : Nat → Int} (hu : sP n u) (hv : sP n v) (g : Nat → Int32) : ∀ k, k ≤ n → ∀ p, p < k → mr_o g u v n k p = iI (yR n u v p) := fun k => by
  induction k with
  | zero => intro _ p hp; exact absurd hp (Nat.not_lt_zero _)
  | succ k ih =>
    intro hk p hp
    show mr_r (mr_o g u v n k) k (u k) v n p = _
    by_cases e : p = k
    · subst e
      obtain ⟨a, b⟩ := yR_q hu hv (show p < n by omega)
      exact mr_rs hv a b n (Nat.le_refl _) a
    · rw [mr_rn e]
      exact ih (by omega) p (by omega)
theorem sp_ck {n : Nat} {v : Nat → Int} (hv : sP n v) (g : Nat → Int32) : ∀ k, k ≤ n → ∀ q, q < k → sp_c g v k (v q).natAbs = iI (sg (v q) q) := fun k => by
  induction k with
  | zero => intro _ q hq; exact absurd hq (Nat.not_lt_zero _)
  | succ k ih =>
    intro hk q hq
    show upd (sp_c g v k) (ab (v k)).toNat (iI (sg (v k) k)) (v q).natAbs = _
    have ea : (ab (v k)).toNat = (v k).natAbs := by unfold ab; split <;> omega
    rw [ea]
    by_cases e : q = k
    · subst e; exact pk_us
    · rw [pk_un (fun r => e (sP_j hv (by omega) (by omega) r))]
      exact ih (by omega) q (by omega)
theorem re_k {n : Nat} {u v : Nat → Int} (hu : sP n u) (hv : sP n v) (I : Nat → Nat → Int32) : ∀ p, p < n → re_I I n u v 37 p = iI (yR n u v p) := fun p hp => by
  unfold re_I
  rw [va_up_self]
  unfold rl
  rw [if_pos hp]
  obtain ⟨a, b⟩ := yR_q hu hv hp
  have hs := sp_ck hv (I 36) n (Nat.le_refl _) _ a
  rw [b] at hs
  have hb := hu.1 p hp
  by_cases q : 0 < u p
  · rw [if_pos q, show (u p).toNat = (u p).natAbs by omega, hs]
    unfold yR mq sg
    by_cases r : 0 < v (pq v (u p).natAbs n)
    · rw [if_pos r, if_pos (by omega)]
    · rw [if_neg r, if_neg (by omega)]
  · rw [if_neg q, show (-(u p)).toNat = (u p).natAbs by omega, hs, iI_neg]
    unfold yR mq sg
    by_cases r : 0 < v (pq v (u p).natAbs n)
    · rw [if_pos r, if_neg (by omega)]
      congr 1
      omega
    · rw [if_neg r, if_pos (by omega)]
      congr 1
      omega
