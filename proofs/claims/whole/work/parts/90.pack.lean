/-! PACKED ROWS: what the kernel can reckon with. A row is a number with a digit of four bits for each place: the gene, and 8 more where it is turned -/
noncomputable def fo {α : Type} (x : Nat) (f : Nat → α) : α := Nat.rec (f 0) (fun k _ => f (Nat.succ k)) x
theorem fo_eq {α : Type} (x : Nat) (f : Nat → α) : fo x f = f x := by cases x <;> rfl
noncomputable def dg (X t : Nat) : Nat := Nat.mod (Nat.shiftRight X (Nat.mul 4 t)) 16
theorem dg_lt (X t : Nat) : dg X t < 16 := Nat.mod_lt _ (by decide)
theorem dg_or (X Y t : Nat) : dg (Nat.lor X Y) t = dg X t ||| dg Y t := by
  show ((X ||| Y) >>> (4 * t)) % 2 ^ 4 = (X >>> (4 * t)) % 2 ^ 4 ||| (Y >>> (4 * t)) % 2 ^ 4
  rw [Nat.shiftRight_or_distrib, Nat.or_mod_two_pow]
theorem dg_sh {d e t : Nat} (hd : d < 16) : dg (Nat.shiftLeft d (4 * e)) t = if t = e then d else 0 := by
  show ((d <<< (4 * e)) >>> (4 * t)) % 16 = _
  rw [Nat.shiftLeft_eq, Nat.shiftRight_eq_div_pow]
  by_cases h : t = e
  · rw [if_pos h, h, Nat.mul_div_cancel _ (Nat.two_pow_pos _), Nat.mod_eq_of_lt hd]
  · rw [if_neg h]
    by_cases h2 : t < e
    · rw [show 4 * e = 4 * t + (4 + 4 * (e - t - 1)) by omega, Nat.pow_add, Nat.pow_add, ← Nat.mul_assoc, Nat.mul_comm d, Nat.mul_assoc, Nat.mul_div_cancel_left _ (Nat.two_pow_pos _), show (2 : Nat) ^ 4 = 16 from rfl, ← Nat.mul_assoc, Nat.mul_comm d 16, Nat.mul_assoc, Nat.mul_mod_right]
    · have hlt : d * 2 ^ (4 * e) < 2 ^ (4 * t) := by
        rw [show 4 * t = 4 * e + (4 + 4 * (t - e - 1)) by omega, Nat.pow_add, Nat.pow_add, Nat.mul_comm d]
        refine Nat.mul_lt_mul_of_pos_left ?_ (Nat.two_pow_pos _)
        have := Nat.two_pow_pos (4 * (t - e - 1))
        have e4 : (2 : Nat) ^ 4 = 16 := rfl
        rw [e4]
        omega
      rw [Nat.div_eq_of_lt hlt]
def cd (v : Int) : Nat := v.natAbs + if v < 0 then 8 else 0
def pks (n : Nat) (z : Nat → Int) (r : Nat) : Prop := ∀ p, p < n → dg r p = cd (z p)
noncomputable def pe1 (d : Nat) : Nat := Nat.add (Nat.pred (Nat.mul 2 (Nat.mod d 8))) (Nat.div d 8)
noncomputable def pe2 (d : Nat) : Nat := Nat.sub (Nat.mul 2 (Nat.mod d 8)) (Nat.div d 8)
theorem pe_ok {v : Int} (h : 1 ≤ v.natAbs ∧ v.natAbs ≤ 6) : pe1 (cd v) = (en1 v).toNat ∧ pe2 (cd v) = (en2 v).toNat := by
  show Nat.pred (2 * (cd v % 8)) + cd v / 8 = _ ∧ 2 * (cd v % 8) - cd v / 8 = _
  unfold cd en1 en2
  rw [Nat.pred_eq_sub_one]
  by_cases q : v < 0
  · rw [if_pos q, if_neg (by omega), if_neg (by omega)]
    omega
  · rw [if_neg q, if_pos (by omega), if_pos (by omega)]
    omega
noncomputable def bld {α : Type} (f : Nat → Nat → α) (r : Nat) (n : Nat) : Nat → Nat → α := Nat.rec (fun A S => f A S) (fun p ih A S => fo (dg r p) fun d => fo (pe1 d) fun e1 => fo (pe2 d) fun e2 => fo (Nat.lor A (Nat.lor (Nat.shiftLeft e1 (Nat.mul 4 (Nat.add (Nat.mul 2 p) 1))) (Nat.shiftLeft e2 (Nat.mul 4 (Nat.add (Nat.mul 2 p) 2))))) fun A2 => fo (Nat.lor S (Nat.lor (Nat.shiftLeft (Nat.add (Nat.mul 2 p) 1) (Nat.mul 4 e1)) (Nat.shiftLeft (Nat.add (Nat.mul 2 p) 2) (Nat.mul 4 e2)))) fun S2 => ih A2 S2) n
theorem bld_s {α : Type} (f : Nat → Nat → α) (r p A S : Nat) : bld f r (p + 1) A S = bld f r p (Nat.lor A (Nat.lor (Nat.shiftLeft (pe1 (dg r p)) (4 * (2 * p + 1))) (Nat.shiftLeft (pe2 (dg r p)) (4 * (2 * p + 2))))) (Nat.lor S (Nat.lor (Nat.shiftLeft (2 * p + 1) (4 * pe1 (dg r p))) (Nat.shiftLeft (2 * p + 2) (4 * pe2 (dg r p))))) := by
  have e : bld f r (p + 1) A S = fo (dg r p) fun d => fo (pe1 d) fun e1 => fo (pe2 d) fun e2 => fo (Nat.lor A (Nat.lor (Nat.shiftLeft e1 (4 * (2 * p + 1))) (Nat.shiftLeft e2 (4 * (2 * p + 2))))) fun A2 => fo (Nat.lor S (Nat.lor (Nat.shiftLeft (2 * p + 1) (4 * e1)) (Nat.shiftLeft (2 * p + 2) (4 * e2)))) fun S2 => bld f r p A2 S2 := rfl
  rw [e, fo_eq, fo_eq, fo_eq, fo_eq, fo_eq]
theorem or_z (a b : Nat) : (0 ||| (a ||| b)) = a ||| b := Nat.zero_or _
/-- behind the places from P on -/
def bI (n : Nat) (z : Nat → Int) (p A S : Nat) : Prop := (∀ s, dg A s = if 2 * p + 1 ≤ s then eaR n z s else 0) ∧ ∀ e, dg S e = if 2 * p + 1 ≤ soR n z e then soR n z e else 0
theorem bI_s {n : Nat} {z : Nat → Int} {r p A S : Nat} (hn : n ≤ 6) (hz : sP n z) (hr : pks n z r) (hp : p < n) (h : bI n z (p + 1) A S) : bI n z p (Nat.lor A (Nat.lor (Nat.shiftLeft (pe1 (dg r p)) (4 * (2 * p + 1))) (Nat.shiftLeft (pe2 (dg r p)) (4 * (2 * p + 2))))) (Nat.lor S (Nat.lor (Nat.shiftLeft (2 * p + 1) (4 * pe1 (dg r p))) (Nat.shiftLeft (2 * p + 2) (4 * pe2 (dg r p))))) := by
  obtain ⟨h1, h2⟩ := h
  have hb := hz.1 p hp
  obtain ⟨q1, q2⟩ := pe_ok (v := z p) (by omega)
  have eb := en_b hz hp
  rw [hr p hp, q1, q2, ← ea_1 (u := z) hp, ← ea_2 (u := z) hp]
  have l1 : eaR n z (2 * p + 1) < 16 := by rw [ea_1 hp]; omega
  have l2 : eaR n z (2 * p + 2) < 16 := by rw [ea_2 hp]; omega
  refine ⟨fun s => ?_, fun e => ?_⟩
  · rw [dg_or, dg_or, dg_sh l1, dg_sh l2, h1 s]
    by_cases c1 : s = 2 * p + 1
    · rw [if_neg (by omega), if_pos c1, if_neg (by omega), if_pos (by omega), c1, Nat.zero_or, Nat.or_zero]
    · by_cases c2 : s = 2 * p + 2
      · rw [if_neg (by omega), if_neg c1, if_pos c2, if_pos (by omega), c2, Nat.zero_or, Nat.zero_or]
      · rw [if_neg c1, if_neg c2, Nat.zero_or, Nat.or_zero]
        exact if_i (by omega) _ _
  · rw [dg_or, dg_or, dg_sh (show 2 * p + 1 < 16 by omega), dg_sh (show 2 * p + 2 < 16 by omega), h2 e]
    have s1 := so_ea hz (s := 2 * p + 1) (by omega)
    have s2 := so_ea hz (s := 2 * p + 2) (by omega)
    by_cases c1 : e = eaR n z (2 * p + 1)
    · have hne : e ≠ eaR n z (2 * p + 2) := fun q => absurd (ea_j hz (by omega) (by omega) (c1.symm.trans q)) (by omega)
      rw [if_pos c1, if_neg hne, c1, s1, if_neg (by omega), if_pos (by omega), Nat.zero_or, Nat.or_zero]
    · by_cases c2 : e = eaR n z (2 * p + 2)
      · rw [if_neg c1, if_pos c2, c2, s2, if_neg (by omega), if_pos (by omega), Nat.zero_or, Nat.zero_or]
      · rw [if_neg c1, if_neg c2, Nat.zero_or, Nat.or_zero]
        refine if_i ?_ _ _
        by_cases c3 : e < 2 * n + 2
        · obtain ⟨g1, g2⟩ := ea_so hz c3
          have n1 : soR n z e ≠ 2 * p + 1 := fun q => c1 (by rw [← q]; exact g2.symm)
          have n2 : soR n z e ≠ 2 * p + 2 := fun q => c2 (by rw [← q]; exact g2.symm)
          omega
        · rw [show soR n z e = 0 from if_pos (by omega)]
          omega
noncomputable def as0 (n : Nat) : Nat := Nat.shiftLeft (Nat.add (Nat.mul 2 n) 1) (Nat.mul 4 (Nat.add (Nat.mul 2 n) 1))
theorem bI_0 {n : Nat} {z : Nat → Int} (hn : n ≤ 6) (hz : sP n z) : bI n z n (as0 n) (as0 n) := by
  have h0 : ∀ t, dg (as0 n) t = if t = 2 * n + 1 then 2 * n + 1 else 0 := fun t => dg_sh (d := 2 * n + 1) (e := 2 * n + 1) (by omega)
  refine ⟨fun s => ?_, fun e => ?_⟩
  · rw [h0]
    by_cases c : s = 2 * n + 1
    · rw [if_pos c, if_pos (by omega), c, ea_n]
    · rw [if_neg c]
      by_cases c2 : 2 * n + 1 ≤ s
      · rw [if_pos c2, show eaR n z s = 0 from if_pos (by omega)]
      · rw [if_neg c2]
  · rw [h0]
    by_cases c3 : e < 2 * n + 2
    · obtain ⟨g1, g2⟩ := ea_so hz c3
      by_cases c : e = 2 * n + 1
      · have es : soR n z (2 * n + 1) = 2 * n + 1 := by have := so_ea hz (s := 2 * n + 1) (by omega); rw [ea_n] at this; exact this
        rw [if_pos c, c, es, if_pos (Nat.le_refl _)]
      · rw [if_neg c, if_neg]
        intro q
        have q2 : soR n z e = 2 * n + 1 := by omega
        rw [q2, ea_n] at g2
        omega
    · rw [if_neg (by omega), show soR n z e = 0 from if_pos (by omega), if_neg (by omega)]
theorem bld_ok {α : Type} (f : Nat → Nat → α) {n : Nat} {z : Nat → Int} {r : Nat} (hn : n ≤ 6) (hz : sP n z) (hr : pks n z r) : ∃ A S, bld f r n (as0 n) (as0 n) = f A S ∧ dg A = eaR n z ∧ dg S = soR n z := by
  have key : ∀ p, p ≤ n → ∀ A S, bI n z p A S → ∃ A' S', bld f r p A S = f A' S' ∧ bI n z 0 A' S' := fun p => by
    induction p with
    | zero => exact fun _ A S h => ⟨A, S, rfl, h⟩
    | succ p ih =>
      intro hp A S h
      rw [bld_s]
      exact ih (by omega) _ _ (bI_s hn hz hr (by omega) h)
  obtain ⟨A, S, h1, h2, h3⟩ := key n (Nat.le_refl _) _ _ (bI_0 hn hz)
  refine ⟨A, S, h1, funext fun s => ?_, funext fun e => ?_⟩
  · rw [h2]
    by_cases c : s = 0
    · rw [if_neg (by omega), c, ea_0]
    · rw [if_pos (by omega)]
  · rw [h3]
    by_cases c : soR n z e = 0
    · rw [if_neg (by omega), c]
    · rw [if_pos (by omega)]
/-! cycles -/
noncomputable def bt (m s : Nat) : Bool := Nat.beq (Nat.mod (Nat.shiftRight m s) 2) 1
theorem bt_t (m s : Nat) : bt m s = m.testBit s := by
  rw [Nat.testBit_eq_decide_div_mod_eq]
  show Nat.beq ((m >>> s) % 2) 1 = _
  rw [Nat.shiftRight_eq_div_pow]
  cases h : Nat.beq (m / 2 ^ s % 2) 1 with
  | true => exact (decide_eq_true (Nat.eq_of_beq_eq_true h)).symm
  | false => exact (decide_eq_false (fun q => by rw [q] at h; cases h)).symm
noncomputable def nxq (A S s : Nat) : Nat := dg S (Nat.xor (dg A (Nat.xor s 1)) 1)
theorem xo_x : ∀ s, s < 16 → Nat.xor s 1 = xo s := by decide +kernel
noncomputable def mk2 (m s : Nat) : Nat := Nat.lor m (Nat.shiftLeft 3 (Nat.mul 2 (Nat.div s 2)))
theorem mk2_t {m s : Nat} : (fun t => (mk2 m s).testBit t) = va_up (va_up (fun t => m.testBit t) s true) (xo s) true := by
  funext t
  show (m ||| (3 <<< (2 * (s / 2)))).testBit t = _
  rw [Nat.testBit_or, Nat.testBit_shiftLeft]
  have hx : xo s = if s % 2 = 0 then s + 1 else s - 1 := rfl
  by_cases c1 : t = xo s
  · rw [c1, va_up_self]
    have : xo s ≥ 2 * (s / 2) ∧ (xo s - 2 * (s / 2) = 0 ∨ xo s - 2 * (s / 2) = 1) := by rw [hx]; split <;> omega
    rw [decide_eq_true this.1]
    rcases this.2 with q | q <;> rw [q] <;> (first | rw [show (3 : Nat).testBit 0 = true from by decide] | rw [show (3 : Nat).testBit 1 = true from by decide]) <;> simp
  · rw [va_up_ne _ _ c1]
    by_cases c2 : t = s
    · rw [c2, va_up_self]
      have : s ≥ 2 * (s / 2) ∧ (s - 2 * (s / 2) = 0 ∨ s - 2 * (s / 2) = 1) := by omega
      rw [decide_eq_true this.1]
      rcases this.2 with q | q <;> rw [q] <;> (first | rw [show (3 : Nat).testBit 0 = true from by decide] | rw [show (3 : Nat).testBit 1 = true from by decide]) <;> simp
    · rw [va_up_ne _ _ c2]
      have h3 : ∀ j, 2 ≤ j → (3 : Nat).testBit j = false := fun j hj => Nat.testBit_lt_two_pow (Nat.lt_of_lt_of_le (by decide : 3 < 2 ^ 2) (Nat.pow_le_pow_right (by decide) hj))
      by_cases c3 : t ≥ 2 * (s / 2)
      · have : 2 ≤ t - 2 * (s / 2) := by rw [hx] at c1; split at c1 <;> omega
        rw [h3 _ this]
        simp
      · rw [decide_eq_false c3]
        simp
theorem wc_t {ea so : Nat → Nat} {k s : Nat} {b : Nat → Bool} (h : b s = true) : wc_f ea so (k + 1) s b = b := if_pos h
theorem wc_n {ea so : Nat → Nat} {k s : Nat} {b : Nat → Bool} (h : b s = false) : wc_f ea so (k + 1) s b = wc_f ea so k (so (xo (ea (xo s)))) (va_up (va_up b s true) (xo s) true) := if_neg (by rw [h]; exact Bool.false_ne_true)
theorem cc_t {ea so : Nat → Nat} {n s : Nat} (h : (cc_f ea so n s).1 s = true) : cc_f ea so n (s + 1) = cc_f ea so n s := if_pos h
theorem cc_n {ea so : Nat → Nat} {n s : Nat} (h : (cc_f ea so n s).1 s = false) : cc_f ea so n (s + 1) = (wc_f ea so (n + 1) s (cc_f ea so n s).1, (cc_f ea so n s).2 + 1) := if_neg (by rw [h]; exact Bool.false_ne_true)
noncomputable def wlk (A S : Nat) (f : Nat) : Nat → Nat → Nat := Nat.rec (fun _ m => m) (fun _ ih s m => cond (bt m s) m (fo (nxq A S s) fun t => fo (mk2 m s) fun m2 => ih t m2)) f
theorem wlk_ok {n A S : Nat} (hn : n ≤ 6) (hA : ∀ s, s < 2 * n + 2 → dg A s < 2 * n + 2) (hS : ∀ s, s < 2 * n + 2 → dg S s < 2 * n + 2) : ∀ k s m, s < 2 * n + 2 → wc_f (dg A) (dg S) k s (fun t => m.testBit t) = fun t => (wlk A S k s m).testBit t := fun k => by
  induction k with
  | zero => intro s m _; rfl
  | succ k ih =>
    intro s m hs
    have e1 : wlk A S (k + 1) s m = cond (bt m s) m (wlk A S k (nxq A S s) (mk2 m s)) := by
      show cond (bt m s) m (fo (nxq A S s) _) = _
      rw [fo_eq, fo_eq]
      rfl
    have hx : xo s < 2 * n + 2 := by unfold xo; split <;> omega
    have h2 := hA _ hx
    have e2 : nxq A S s = dg S (xo (dg A (xo s))) := by
      unfold nxq
      rw [xo_x s (by omega), xo_x _ (by omega)]
    have hx2 : xo (dg A (xo s)) < 2 * n + 2 := by
      have : ∀ y, y < 2 * n + 2 → xo y < 2 * n + 2 := fun y hy => by unfold xo; split <;> omega
      exact this _ h2
    rw [e1, bt_t]
    cases c : m.testBit s with
    | true =>
      show wc_f _ _ (k + 1) s _ = _
      rw [wc_t (b := fun t => m.testBit t) c]
      rfl
    | false =>
      show wc_f _ _ (k + 1) s _ = _
      rw [wc_n (b := fun t => m.testBit t) c, ← mk2_t, ← e2]
      exact ih _ _ (by rw [e2]; exact hS _ hx2)
noncomputable def cyq {α : Type} (A S : Nat) (n : Nat) (k : Nat → α) (N : Nat) (f : Nat) : Nat → Nat → α := Nat.rec (fun _ c => k c) (fun j ih m c => cond (bt m (Nat.sub N (Nat.succ j))) (ih m c) (fo (wlk A S (Nat.succ n) (Nat.sub N (Nat.succ j)) m) fun m2 => ih m2 (Nat.succ c))) f
theorem cyq_ok {α : Type} {n A S : Nat} (k : Nat → α) (hn : n ≤ 6) (hA : ∀ s, s < 2 * n + 2 → dg A s < 2 * n + 2) (hS : ∀ s, s < 2 * n + 2 → dg S s < 2 * n + 2) : ∀ j m c, j ≤ 2 * n + 2 → cc_f (dg A) (dg S) n (2 * n + 2 - j) = (fun t => m.testBit t, c) → cyq A S n k (2 * n + 2) j m c = k (cc_f (dg A) (dg S) n (2 * n + 2)).2 := fun j => by
  induction j with
  | zero => intro m c _ h; rw [show 2 * n + 2 = 2 * n + 2 - 0 from rfl, h]; rfl
  | succ j ih =>
    intro m c hj h
    have e1 : cyq A S n k (2 * n + 2) (j + 1) m c = cond (bt m (2 * n + 2 - (j + 1))) (cyq A S n k (2 * n + 2) j m c) (cyq A S n k (2 * n + 2) j (wlk A S (n + 1) (2 * n + 2 - (j + 1)) m) (c + 1)) := by
      show cond (bt m (Nat.sub (2 * n + 2) (Nat.succ j))) _ (fo _ _) = _
      rw [fo_eq]
      rfl
    have e2 : cc_f (dg A) (dg S) n (2 * n + 2 - j) = cc_f (dg A) (dg S) n ((2 * n + 2 - (j + 1)) + 1) := by rw [show 2 * n + 2 - j = (2 * n + 2 - (j + 1)) + 1 by omega]
    rw [e1, bt_t]
    cases b : m.testBit (2 * n + 2 - (j + 1)) with
    | true =>
      refine ih m c (by omega) ?_
      rw [e2, cc_t (s := 2 * n + 2 - (j + 1)) (by rw [h]; exact b), h]
    | false =>
      refine ih _ _ (by omega) ?_
      rw [e2, cc_n (s := 2 * n + 2 - (j + 1)) (by rw [h]; exact b), h]
      exact Prod.ext (wlk_ok hn hA hS _ _ _ (by omega)) rfl
