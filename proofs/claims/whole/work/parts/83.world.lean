/-! THE WORLD OF BOTH: what the desk's cells and the reference's cells hold, by the same numbers -/
def eR (n : Nat) (z : Nat → Int) : Nat := (dP n z).toNat
def Dn (n k : Nat) : Nat := eR n (ur n k)
def Dc (n x : Nat) : Nat := eR n (zr n x)
def wnf (n : Nat) : Nat → Nat → Nat
  | 0, _ => 1
  | d + 1, k => s2 (fun i j => if Dn n k = Dn n (nbr n k i j) + 1 then wnf n d (nbr n k i j) else 0) n n
def Wn (n k : Nat) : Nat := wnf n (Dn n k) k
def wcf (n : Nat) : Nat → Nat → Nat
  | 0, _ => 1
  | d + 1, x => s2 (fun i j => if Dc n x = Dc n (nbc n x i j) + 1 then wcf n d (nbc n x i j) else 0) n n
def Wc (n x : Nat) : Nat := wcf n (Dc n x) x
/-- what is asked of the mathematics -/
def MF : Prop := ∀ n, 1 ≤ n → n ≤ 6 →
  (∀ z, sP n z → dP n z = (eR n z : Nat) ∧ eR n z ≤ 7 ∧ rkn n z < oc_f n ∧ Dn n (rkn n z) = eR n z) ∧
  bf_H n (oc_f n) (nbr n) (Dn n) (Wn n) ∧ (∀ k, k < oc_f n → Dn n k ≤ 7 ∧ sP n (ur n k)) ∧ rw_H n (fun z => Dn n (rkn n z)) (sP n) ∧
  (∀ z k, sP n z → dg_f (eaR n z) (soR n z) n z k = mg_f (eaR n z) (soR n z) n z k) ∧
  (n ≤ 4 → (∀ x, x < oc_f n → sP n (zr n x) ∧ dP n (zr n x) = (Dc n x : Nat) ∧ Dc n x ≤ 20) ∧ cw_H n (oc_f n) (Dc n) (Wc n) ∧
    (∀ y, sP n y → ix_k n y ∧ Wc n (ixN n y) = Wn n (rkn n y)) ∧
    (∀ d : Int, ct (fun j => ((Dc n j : Nat) : Int) == d) (oc_f n) = ct (fun k => decide ((Dn n k : Int) = d)) (oc_f n)) ∧
    (∀ (u : Nat → Nat → Int) a b c, (∀ s, s < 5 → sP n (u s)) → a < 5 → b < 5 → c < 5 → (mb n (sm n Dn (fun k s => yR n (ur n k) (u s)) a b c) (oc_f n)).1 = (mcl (smc n Dc u a b c) (oc_f n)).1 ∧ ∀ p, p < n → (mb n (sm n Dn (fun k s => yR n (ur n k) (u s)) a b c) (oc_f n)).2 p = zr n (mcl (smc n Dc u a b c) (oc_f n)).2 p))
def wr_s (n : Nat) (u : Nat → Int) (k : Nat) (a b : Nat → Nat) (I : Nat → Nat → Int32) (V : Nat → Nat → Value) (s : Nat) : Prop := (∀ p, p < n → I (sp s + 1) p = iI (u p)) ∧ V (sp s) 3 = .int (iI (k : Nat)) ∧ ∀ m, m < k → I (sp s + 2) m = iI (a m : Nat) ∧ I (sp s + 3) m = iI (b m : Nat)
def wrC (n : Nat) (u : Nat → Nat → Int) (k : Nat → Nat) (a b : Nat → Nat → Nat) (l : Nat) (cc : Nat → Int) (c : Int) (st : Nat → Int) (cs : mm_Sh) (I : Nat → Nat → Int32) (J : Nat → Nat → Int64) (F : Nat → Nat → Option Nat) (V : Nat → Nat → Value) : Prop :=
  dk_W F V ∧ V 0 0 = .int (iI n) ∧ (∀ s, s < 5 → wr_s n (u s) (k s) (a s) (b s) I V s) ∧ V 22 1 = .int (iI l) ∧ (∀ m, m < l → I 23 m = iI (cc m)) ∧ V 0 6 = .int (iI c) ∧ (∀ m : Nat, (m : Int) < c → I 35 m = iI (st m)) ∧ ck_A Dc Wc cs I J F V
def wm_s (n : Nat) (u : Nat → Int) (k : Nat) (a b : Nat → Nat) (I : Nat → Nat → Int32) (s : Nat) : Prop := (∀ p, p < n → I 40 (6 * s + p) = iI (u p)) ∧ I 41 s = iI (k : Nat) ∧ ∀ m, m < k → I 42 (8 * s + m) = iI (10 * (a m : Nat) + (b m : Nat))
def wrM (n : Nat) (u : Nat → Nat → Int) (k : Nat → Nat) (a b : Nat → Nat → Nat) (l : Nat) (cc : Nat → Int) (c : Int) (st : Nat → Int) (I : Nat → Nat → Int32) (J : Nat → Nat → Int64) (V : Nat → Nat → Value) : Prop :=
  mo_V V ∧ V 39 1 = .int (iI n) ∧ (∀ s, s < 5 → wm_s n (u s) (k s) (a s) (b s) I s) ∧ V 39 6 = .int (iI l) ∧ (∀ m, m < l → I 43 m = iI (cc m)) ∧ V 39 7 = .int (bo (decide (c ≠ -1) = true)) ∧ (∃ c8 : Int, V 39 8 = .int (iI c8) ∧ 0 ≤ c8 ∧ c8 ≤ 8 ∧ (c ≠ -1 → c8 = c)) ∧ (∀ m : Nat, (m : Int) < c → I 44 m = iI (st m)) ∧ mk_T Dn Wn I J
def wrP (n : Nat) (u : Nat → Nat → Int) (k : Nat → Nat) (a b : Nat → Nat → Nat) (l : Nat) (cc : Nat → Int) (c : Int) : Prop := (1 ≤ n ∧ n ≤ 6) ∧ (∀ s, s < 5 → sP n (u s) ∧ k s ≤ 8 ∧ ∀ m, m < k s → a s m ≤ b s m ∧ b s m < n) ∧ l ≤ 24 ∧ (∀ m, m < l → 0 ≤ cc m ∧ cc m < 256) ∧ -1 ≤ c ∧ c ≤ 7
def frM (I : Nat → Nat → Int32) (J : Nat → Nat → Int64) (V : Nat → Nat → Value) (I1 : Nat → Nat → Int32) (J1 : Nat → Nat → Int64) (V1 : Nat → Nat → Value) : Prop := (∀ x, 39 ≤ x → x < 58 → I1 x = I x) ∧ J1 48 = J 48 ∧ ∀ j, V1 39 j = V 39 j
def frC (I : Nat → Nat → Int32) (J : Nat → Nat → Int64) (V : Nat → Nat → Value) (I1 : Nat → Nat → Int32) (J1 : Nat → Nat → Int64) (V1 : Nat → Nat → Value) : Prop := (∀ x, (x < 39 ∨ 58 < x) → I1 x = I x) ∧ (∀ x, 58 < x → J1 x = J x) ∧ ∀ x j, x ≠ 39 → V1 x j = V x j
theorem frM_t {I I1 I2 : Nat → Nat → Int32} {J J1 J2 : Nat → Nat → Int64} {V V1 V2 : Nat → Nat → Value} (h1 : frM I J V I1 J1 V1) (h2 : frM I1 J1 V1 I2 J2 V2) : frM I J V I2 J2 V2 := ⟨fun x p q => (h2.1 x p q).trans (h1.1 x p q), h2.2.1.trans h1.2.1, fun j => (h2.2.2 j).trans (h1.2.2 j)⟩
theorem up58_k (J : Nat → Nat → Int64) (v : Int64) {x : Nat} (h : x ≠ 58) : up58 J v x = J x := va_up_ne _ _ h
theorem up58_0 (J : Nat → Nat → Int64) (v : Int64) : up58 J v 58 0 = v := by unfold up58; rw [va_up_self]; exact pk_uLs
section WR
variable {n : Nat} {u : Nat → Nat → Int} {k : Nat → Nat} {a b : Nat → Nat → Nat} {l : Nat} {cc : Nat → Int} {c : Int} {st : Nat → Int} {cs : mm_Sh} {I I1 : Nat → Nat → Int32} {J J1 : Nat → Nat → Int64} {F F1 : Nat → Nat → Option Nat} {V V1 : Nat → Nat → Value}
theorem wrM_f (h : wrM n u k a b l cc c st I J V) (f : frM I J V I1 J1 V1) : wrM n u k a b l cc c st I1 J1 V1 := by
  obtain ⟨h1, h2, h3, h4, h5, h6, ⟨c8, e1, e2, e3, e4⟩, h8, h9⟩ := h
  obtain ⟨f1, f2, f3⟩ := f
  refine ⟨?_, (f3 1).trans h2, fun s hs => ?_, (f3 6).trans h4, fun m hm => by rw [f1 43 (by decide) (by decide)]; exact h5 m hm, (f3 7).trans h6, ⟨c8, (f3 8).trans e1, e2, e3, e4⟩, fun m hm => by rw [f1 44 (by decide) (by decide)]; exact h8 m hm, fun m m1 m6 => ?_⟩
  · obtain ⟨a2, a3, a4, a5, a9, a10, a13, a14, a15, a16, a17, a18, a19, a20, a21, a22, a23, a24⟩ := h1
    exact ⟨(f3 _).trans a2, (f3 _).trans a3, (f3 _).trans a4, (f3 _).trans a5, (f3 _).trans a9, (f3 _).trans a10, (f3 _).trans a13, (f3 _).trans a14, (f3 _).trans a15, (f3 _).trans a16, (f3 _).trans a17, (f3 _).trans a18, (f3 _).trans a19, (f3 _).trans a20, (f3 _).trans a21, (f3 _).trans a22, (f3 _).trans a23, (f3 _).trans a24⟩
  · obtain ⟨g1, g2, g3⟩ := h3 s hs
    exact ⟨fun p hp => by rw [f1 40 (by decide) (by decide)]; exact g1 p hp, by rw [f1 41 (by decide) (by decide)]; exact g2, fun m hm => by rw [f1 42 (by decide) (by decide)]; exact g3 m hm⟩
  · rw [f1 45 (by decide) (by decide), f1 46 (by decide) (by decide), f2]
    exact h9 m m1 m6
theorem wrC_f (h : wrC n u k a b l cc c st cs I J F V) (f : frC I J V I1 J1 V1) : wrC n u k a b l cc c st cs I1 J1 F V1 := by
  obtain ⟨h1, h2, h3, h4, h5, h6, h7, h8⟩ := h
  obtain ⟨f1, f2, f3⟩ := f
  refine ⟨?_, (f3 0 0 (by decide)).trans h2, fun s hs => ?_, (f3 22 1 (by decide)).trans h4, fun m hm => by rw [f1 23 (by omega)]; exact h5 m hm, (f3 0 6 (by decide)).trans h6, fun m hm => by rw [f1 35 (by omega)]; exact h7 m hm, ck_s h8 rfl (fun x hx => f1 x (by omega)) (fun x hx => f2 x (by omega)) (fun x j hx => f3 x j (by omega))⟩
  · obtain ⟨⟨w1, w2, w3, w4, w5, w7, w8, w9⟩, ws, wt, d0, d1, d4, d5, d6, d7, d8, d9, d10⟩ := h1
    refine ⟨⟨(f3 0 1 (by decide)).trans w1, (f3 0 2 (by decide)).trans w2, (f3 0 3 (by decide)).trans w3, (f3 0 4 (by decide)).trans w4, (f3 0 5 (by decide)).trans w5, (f3 0 7 (by decide)).trans w7, (f3 0 8 (by decide)).trans w8, (f3 0 9 (by decide)).trans w9⟩, fun s hs => ?_, (f3 22 0 (by decide)).trans wt, (f3 24 0 (by decide)).trans d0, (f3 24 1 (by decide)).trans d1, (f3 24 4 (by decide)).trans d4, (f3 24 5 (by decide)).trans d5, (f3 24 6 (by decide)).trans d6, (f3 24 7 (by decide)).trans d7, (f3 24 8 (by decide)).trans d8, (f3 24 9 (by decide)).trans d9, (f3 24 10 (by decide)).trans d10⟩
    obtain ⟨x, y, z, t⟩ := ws s hs
    exact ⟨x, (f3 _ _ (by unfold sp; omega)).trans y, (f3 _ _ (by unfold sp; omega)).trans z, (f3 _ _ (by unfold sp; omega)).trans t⟩
  · obtain ⟨g1, g2, g3⟩ := h3 s hs
    exact ⟨fun p hp => by rw [f1 _ (by unfold sp; omega)]; exact g1 p hp, (f3 _ _ (by unfold sp; omega)).trans g2, fun m hm => by rw [f1 _ (by unfold sp; omega), f1 _ (by unfold sp; omega)]; exact g3 m hm⟩
/-- the desk's cells but its scratch are as they were -/
theorem wrC_s (h : wrC n u k a b l cc c st cs I J F V) {cs1 : mm_Sh} (hA : ck_A Dc Wc cs1 I1 J1 F1 V1) (f1 : ∀ x, x < 39 → (x < 25 ∨ 33 < x) → x ≠ 36 → x ≠ 37 → x ≠ 38 → I1 x = I x) (f2 : ∀ x, x ≠ 34 → F1 x = F x) (f3 : ∀ x j, x < 39 → ¬ (x = 24 ∧ (j = 2 ∨ j = 3)) → V1 x j = V x j) : wrC n u k a b l cc c st cs1 I1 J1 F1 V1 := by
  obtain ⟨h1, h2, h3, h4, h5, h6, h7, h8⟩ := h
  refine ⟨?_, (f3 0 0 (by decide) (by omega)).trans h2, fun s hs => ?_, (f3 22 1 (by decide) (by omega)).trans h4, fun m hm => by rw [f1 23 (by omega) (by omega) (by omega) (by omega) (by omega)]; exact h5 m hm, (f3 0 6 (by decide) (by omega)).trans h6, fun m hm => by rw [f1 35 (by omega) (by omega) (by omega) (by omega) (by omega)]; exact h7 m hm, hA⟩
  · obtain ⟨⟨w1, w2, w3, w4, w5, w7, w8, w9⟩, ws, wt, d0, d1, d4, d5, d6, d7, d8, d9, d10⟩ := h1
    refine ⟨⟨(f3 0 1 (by decide) (by omega)).trans w1, (f3 0 2 (by decide) (by omega)).trans w2, (f3 0 3 (by decide) (by omega)).trans w3, (f3 0 4 (by decide) (by omega)).trans w4, (f3 0 5 (by decide) (by omega)).trans w5, (f3 0 7 (by decide) (by omega)).trans w7, (f3 0 8 (by decide) (by omega)).trans w8, (f3 0 9 (by decide) (by omega)).trans w9⟩, fun s hs => ?_, (f3 22 0 (by decide) (by omega)).trans wt, (f3 24 0 (by decide) (by omega)).trans d0, (f3 24 1 (by decide) (by omega)).trans d1, (f3 24 4 (by decide) (by omega)).trans d4, (f3 24 5 (by decide) (by omega)).trans d5, (f3 24 6 (by decide) (by omega)).trans d6, (f3 24 7 (by decide) (by omega)).trans d7, (f3 24 8 (by decide) (by omega)).trans d8, (f3 24 9 (by decide) (by omega)).trans d9, (f3 24 10 (by decide) (by omega)).trans d10⟩
    obtain ⟨x, y, z, t⟩ := ws s hs
    exact ⟨by rw [f2 1 (by decide)]; exact x, (f3 _ _ (by unfold sp; omega) (by unfold sp; omega)).trans y, (f3 _ _ (by unfold sp; omega) (by unfold sp; omega)).trans z, (f3 _ _ (by unfold sp; omega) (by unfold sp; omega)).trans t⟩
  · obtain ⟨g1, g2, g3⟩ := h3 s hs
    exact ⟨fun p hp => by rw [f1 _ (by unfold sp; omega) (by unfold sp; omega) (by unfold sp; omega) (by unfold sp; omega) (by unfold sp; omega)]; exact g1 p hp, (f3 _ _ (by unfold sp; omega) (by unfold sp; omega)).trans g2, fun m hm => by rw [f1 _ (by unfold sp; omega) (by unfold sp; omega) (by unfold sp; omega) (by unfold sp; omega) (by unfold sp; omega), f1 _ (by unfold sp; omega) (by unfold sp; omega) (by unfold sp; omega) (by unfold sp; omega) (by unfold sp; omega)]; exact g3 m hm⟩
/-- only scratch arrays of the drawing, and its two numbers -/
theorem wrC_d (h : wrC n u k a b l cc c st cs I J F V) {K : Nat → Nat → Int32} (hk : sc_k I K) (hv : vd_k V V1) : wrC n u k a b l cc c st cs K J F V1 ∧ frM I J V K J V1 :=
  ⟨wrC_s h (ck_s h.2.2.2.2.2.2.2 rfl (fun x hx => hk x (by omega) (by omega) (by omega)) (fun _ _ => rfl) (fun x j hx => hv x j (by omega))) (fun x _ x1 x2 x3 _ => hk x x1 x2 x3) (fun _ _ => rfl) (fun x j _ q => hv x j q), fun x x1 x2 => hk x (by omega) (by omega) (by omega), rfl, fun j => hv 39 j (by omega)⟩
/-- a chart's call -/
theorem wrC_c (h : wrC n u k a b l cc c st cs I J F V) {cs1 : mm_Sh} (hA : ck_A Dc Wc cs1 I1 J1 F1 V1) (hf : cf_k I J F V I1 J1 F1 V1) : wrC n u k a b l cc c st cs1 I1 J1 F1 V1 ∧ frM I J V I1 J1 V1 :=
  ⟨wrC_s h hA (fun x x0 x1 x2 x3 _ => hf.1 x (by omega) x1 x2 x3) hf.2.2.1 (fun x j x0 q => hf.2.2.2 x j (by omega) q), fun x x1 x2 => hf.1 x (by omega) (by omega) (by omega) (by omega), hf.2.1 48 (by decide), fun j => hf.2.2.2 39 j (by decide) (by omega)⟩
theorem wrC_J {v : Int64} (h : wrC n u k a b l cc c st cs I J F V) : wrC n u k a b l cc c st cs I (up58 J v) F V := wrC_f h ⟨fun _ _ => rfl, fun x hx => up58_k J v (by omega), fun _ _ _ => rfl⟩
theorem frM_J {v : Int64} : frM I J V I (up58 J v) V := ⟨fun _ _ _ => rfl, up58_k J v (by decide), fun _ => rfl⟩
/-- the reference's scratch, and whether it threw -/
theorem wrM_d (h : wrM n u k a b l cc c st I J V) {K : Nat → Nat → Int32} (hk : ms_k I K) (v : Value) : wrM n u k a b l cc c st K J (fu V 39 0 v) ∧ frC I J V K J (fu V 39 0 v) := by
  obtain ⟨h1, h2, h3, h4, h5, h6, ⟨c8, e1, e2, e3, e4⟩, h8, h9⟩ := h
  refine ⟨⟨mo_fu _ h1 (Or.inl rfl), (fu_n2 _ _ (by decide)).trans h2, fun s hs => ?_, (fu_n2 _ _ (by decide)).trans h4, fun m hm => by rw [hk 43 (by omega)]; exact h5 m hm, (fu_n2 _ _ (by decide)).trans h6, ⟨c8, (fu_n2 _ _ (by decide)).trans e1, e2, e3, e4⟩, fun m hm => by rw [hk 44 (by omega)]; exact h8 m hm, fun m m1 m6 => ?_⟩, fun x hx => hk x (by omega), fun _ _ => rfl, fun x j hx => fu_n1 _ _ hx⟩
  · obtain ⟨g1, g2, g3⟩ := h3 s hs
    exact ⟨fun p hp => by rw [hk 40 (by omega)]; exact g1 p hp, by rw [hk 41 (by omega)]; exact g2, fun m hm => by rw [hk 42 (by omega)]; exact g3 m hm⟩
  · rw [hk 45 (by omega), hk 46 (by omega)]
    exact h9 m m1 m6
/-- the reference's tables made -/
theorem wrM_t (h : wrM n u k a b l cc c st I J V) (hP : mk_P Dn Wn n I J (fu V 39 0 (.int (iI 0))) I1 J1 V1) : wrM n u k a b l cc c st I1 J1 V1 ∧ frC I J V I1 J1 V1 ∧ V1 39 0 = .int (iI 0) := by
  obtain ⟨h1, h2, h3, h4, h5, h6, ⟨c8, e1, e2, e3, e4⟩, h8, h9⟩ := h
  obtain ⟨p1, p2, p3, p4, p5, p6, p7⟩ := hP
  have pv : ∀ x j, ¬ (x = 39 ∧ (j = 0 ∨ j = 11 ∨ j = 12)) → V1 x j = V x j := fun x j q => (p5 x j q).trans (fu_ne (fun r => q ⟨r.1, Or.inl r.2⟩))
  refine ⟨⟨mv_M p5 (mo_fu _ h1 (Or.inl rfl)), (pv 39 1 (by omega)).trans h2, fun s hs => ?_, (pv 39 6 (by omega)).trans h4, fun m hm => by rw [p1 43 (by omega) (by omega) (by omega) (by omega)]; exact h5 m hm, (pv 39 7 (by omega)).trans h6, ⟨c8, (pv 39 8 (by omega)).trans e1, e2, e3, e4⟩, fun m hm => by rw [p1 44 (by omega) (by omega) (by omega) (by omega)]; exact h8 m hm, p3⟩, ⟨fun x hx => p1 x (by omega) (by omega) (by omega) (by omega), fun x hx => p2 x (by omega), fun x j hx => pv x j (by omega)⟩, p6.trans (fu_at _ 39 0 _)⟩
  obtain ⟨g1, g2, g3⟩ := h3 s hs
  exact ⟨fun p hp => by rw [p1 40 (by omega) (by omega) (by omega) (by omega)]; exact g1 p hp, by rw [p1 41 (by omega) (by omega) (by omega) (by omega)]; exact g2, fun m hm => by rw [p1 42 (by omega) (by omega) (by omega) (by omega)]; exact g3 m hm⟩
theorem wrM_x (h : wrM n u k a b l cc c st I J V) (v : Value) : wrM n u k a b l cc c st I J (fu V 39 0 v) ∧ frC I J V I J (fu V 39 0 v) := wrM_d h (ms_r I) v
/-- what the contracts ask of the desk's orders -/
theorem wr_O (h : wrC n u k a b l cc c st cs I J F V) (hp : wrP n u k a b l cc c) : (∀ s, s < 5 → or_ok I n s (u s) ∧ sP n (u s)) ∧ dk_O I n u (fun x y => yR n (u x) (u y)) (fun x y => eaR n (yR n (u x) (u y))) (fun x y => soR n (yR n (u x) (u y))) := by
  have h1 : ∀ s, s < 5 → or_ok I n s (u s) ∧ sP n (u s) := fun s hs => ⟨fun p hpn => ⟨(h.2.2.1 s hs).1 p hpn, sP_n (hp.2.1 s hs).1 p hpn⟩, (hp.2.1 s hs).1⟩
  refine ⟨h1, fun s hs => (h1 s hs).1, fun x y hx hy => ⟨fun p hpn => ⟨re_k (h1 x hx).2 (h1 y hy).2 I p hpn, sP_n (sP_y (h1 x hx).2 (h1 y hy).2) p hpn⟩, dr_ok _ (sP_y (h1 x hx).2 (h1 y hy).2)⟩⟩
/-- and of the reference's -/
theorem wr_Q (h : wrM n u k a b l cc c st I J V) (hp : wrP n u k a b l cc c) (mf : MF) : mo_Q I n u (fun x y => yR n (u x) (u y)) ∧ mo_O I n u (fun x y => yR n (u x) (u y)) (fun x y => eaR n (yR n (u x) (u y))) (fun x y => soR n (yR n (u x) (u y))) := by
  have hn := hp.1
  have h0 : ∀ s, s < 5 → mo_or I n s (u s) := fun s hs p hpn => by
    have := sP_n (hp.2.1 s hs).1 p hpn
    exact ⟨(h.2.2.1 s hs).1 p hpn, by omega, by omega⟩
  have hy : ∀ x y, x < 5 → y < 5 → sP n (yR n (u x) (u y)) := fun x y hx hy => sP_y (hp.2.1 x hx).1 (hp.2.1 y hy).1
  refine ⟨⟨h0, fun x y h5 h6 => ⟨fun g p hpn => ?_, ((mf n hn.1 hn.2).1 _ (hy x y h5 h6)).2.2.1⟩⟩, h0, fun x y h5 h6 => ⟨⟨fun p hpn => ⟨mr_k (hp.2.1 x h5).1 (hp.2.1 y h6).1 _ n (Nat.le_refl _) p hpn, sP_n (hy x y h5 h6) p hpn⟩, fun s hs => ⟨md_ok _ (hy x y h5 h6) n (Nat.le_refl _) s (by omega), ea_b (hy x y h5 h6) hs⟩⟩, fun e he => mso_k _ (hy x y h5 h6) e he⟩⟩
  have := sP_n (hy x y h5 h6) p hpn
  exact ⟨mr_k (hp.2.1 x h5).1 (hp.2.1 y h6).1 g n (Nat.le_refl _) p hpn, by show -100 ≤ yR n (u x) (u y) p; omega, by show yR n (u x) (u y) p ≤ 100; omega⟩
end WR
