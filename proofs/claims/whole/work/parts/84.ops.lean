/-! the calls that change something, on the cells of both -/
theorem ge_W2 {F : Nat → Nat → Option Nat} {V : Nat → Nat → Value} {x y : Value} (h : dk_W F V) : dk_W F (fu (ge_V (fu V 0 0 x) 5) 0 6 y) := dk_fu _ (ge_W (dk_fu _ h wi_00) 5 (Nat.le_refl _)) wi_06
section OPS
variable {n : Nat} {u : Nat → Nat → Int} {k : Nat → Nat} {a b : Nat → Nat → Nat} {l : Nat} {cc : Nat → Int} {c : Int} {st : Nat → Int} {cs : mm_Sh} {I I1 : Nat → Nat → Int32} {J J1 : Nat → Nat → Int64} {F F1 : Nat → Nat → Option Nat} {V V1 : Nat → Nat → Value}
theorem wrC_u (h : wrC n u k a b l cc c st cs I J F V) {cs1 : mm_Sh} {s : Nat} (hs : s < 5) {u' : Nat → Int} {k' : Nat} {a' b' : Nat → Nat} (hA : ck_A Dc Wc cs1 I1 J1 F1 V1) (f1 : ∀ x, x < 39 → (x < 25 ∨ 33 < x) → x ≠ 36 → x ≠ 37 → x ≠ 38 → ¬ (sp s < x ∧ x < sp s + 4) → I1 x = I x) (f2 : ∀ x, x ≠ 34 → F1 x = F x) (f3 : ∀ x j, x < 39 → ¬ (x = 24 ∧ (j = 2 ∨ j = 3)) → ¬ (x = sp s ∧ j = 3) → V1 x j = V x j) (hw : wr_s n u' k' a' b' I1 V1 s) : wrC n (va_up u s u') (va_up k s k') (va_up a s a') (va_up b s b') l cc c st cs1 I1 J1 F1 V1 := by
  obtain ⟨h1, h2, h3, h4, h5, h6, h7, h8⟩ := h
  have hp : sp s = 2 + 4 * s := rfl
  refine ⟨?_, (f3 0 0 (by decide) (by omega) (by omega)).trans h2, fun t ht => ?_, (f3 22 1 (by decide) (by omega) (by omega)).trans h4, fun m hm => by rw [f1 23 (by omega) (by omega) (by omega) (by omega) (by omega) (by omega)]; exact h5 m hm, (f3 0 6 (by decide) (by omega) (by omega)).trans h6, fun m hm => by rw [f1 35 (by omega) (by omega) (by omega) (by omega) (by omega) (by omega)]; exact h7 m hm, hA⟩
  · obtain ⟨⟨w1, w2, w3, w4, w5, w7, w8, w9⟩, ws, wt, d0, d1, d4, d5, d6, d7, d8, d9, d10⟩ := h1
    refine ⟨⟨(f3 0 1 (by decide) (by omega) (by omega)).trans w1, (f3 0 2 (by decide) (by omega) (by omega)).trans w2, (f3 0 3 (by decide) (by omega) (by omega)).trans w3, (f3 0 4 (by decide) (by omega) (by omega)).trans w4, (f3 0 5 (by decide) (by omega) (by omega)).trans w5, (f3 0 7 (by decide) (by omega) (by omega)).trans w7, (f3 0 8 (by decide) (by omega) (by omega)).trans w8, (f3 0 9 (by decide) (by omega) (by omega)).trans w9⟩, fun t ht => ?_, (f3 22 0 (by decide) (by omega) (by omega)).trans wt, (f3 24 0 (by decide) (by omega) (by omega)).trans d0, (f3 24 1 (by decide) (by omega) (by omega)).trans d1, (f3 24 4 (by decide) (by omega) (by omega)).trans d4, (f3 24 5 (by decide) (by omega) (by omega)).trans d5, (f3 24 6 (by decide) (by omega) (by omega)).trans d6, (f3 24 7 (by decide) (by omega) (by omega)).trans d7, (f3 24 8 (by decide) (by omega) (by omega)).trans d8, (f3 24 9 (by decide) (by omega) (by omega)).trans d9, (f3 24 10 (by decide) (by omega) (by omega)).trans d10⟩
    obtain ⟨x, y, z, t'⟩ := ws t ht
    exact ⟨by rw [f2 1 (by decide)]; exact x, (f3 _ _ (by unfold sp; omega) (by unfold sp; omega) (by omega)).trans y, (f3 _ _ (by unfold sp; omega) (by unfold sp; omega) (by omega)).trans z, (f3 _ _ (by unfold sp; omega) (by unfold sp; omega) (by omega)).trans t'⟩
  · by_cases e : t = s
    · subst e
      rw [va_up_self, va_up_self, va_up_self, va_up_self]
      exact hw
    · rw [va_up_ne _ _ e, va_up_ne _ _ e, va_up_ne _ _ e, va_up_ne _ _ e]
      obtain ⟨g1, g2, g3⟩ := h3 t ht
      have hq : ∀ d, 1 ≤ d → d ≤ 3 → I1 (sp t + d) = I (sp t + d) := fun d d1 d2 => f1 _ (by unfold sp; omega) (by unfold sp; omega) (by unfold sp; omega) (by unfold sp; omega) (by unfold sp; omega) (by unfold sp; omega)
      exact ⟨fun p hp => by rw [hq 1 (by omega) (by omega)]; exact g1 p hp, (f3 _ _ (by unfold sp; omega) (by unfold sp; omega) (by unfold sp; omega)).trans g2, fun m hm => by rw [hq 2 (by omega) (by omega), hq 3 (by omega) (by omega)]; exact g3 m hm⟩
/-- a slot's own cells change, nothing else -/
theorem wrC_o (h : wrC n u k a b l cc c st cs I J F V) {s : Nat} (hs : s < 5) {u' : Nat → Int} {k' : Nat} {a' b' : Nat → Nat} (f1 : ∀ x, ¬ (sp s < x ∧ x < sp s + 4) → x ≠ 38 → I1 x = I x) (f3 : ∀ x j, ¬ (x = sp s ∧ j = 3) → V1 x j = V x j) (hw : wr_s n u' k' a' b' I1 V1 s) : wrC n (va_up u s u') (va_up k s k') (va_up a s a') (va_up b s b') l cc c st cs I1 J F V1 ∧ frM I J V I1 J V1 := by
  have hp : sp s = 2 + 4 * s := rfl
  exact ⟨wrC_u h hs (ck_s h.2.2.2.2.2.2.2 rfl (fun x hx => f1 x (by omega) (by omega)) (fun _ _ => rfl) (fun x j hx => f3 x j (by omega))) (fun x _ _ _ _ x5 q => f1 x q x5) (fun _ _ => rfl) (fun x j _ _ q => f3 x j q) hw, fun x x1 x2 => f1 x (by omega) (by omega), rfl, fun j => f3 39 j (by omega)⟩
theorem wrM_u (h : wrM n u k a b l cc c st I J V) {s : Nat} (hs : s < 5) {u' : Nat → Int} {k' : Nat} {a' b' : Nat → Nat} (f0 : ∀ x, x ≠ 40 → x ≠ 41 → x ≠ 42 → (x < 49 ∨ 57 < x) → I1 x = I x) (f40 : ∀ t p, t ≠ s → t < 5 → p < 6 → I1 40 (6 * t + p) = I 40 (6 * t + p)) (f41 : ∀ t, t ≠ s → I1 41 t = I 41 t) (f42 : ∀ t m, t ≠ s → t < 5 → m < 8 → I1 42 (8 * t + m) = I 42 (8 * t + m)) (hn6 : n ≤ 6) (hk : ∀ t, t < 5 → k t ≤ 8) (hw : wm_s n u' k' a' b' I1 s) (v : Value) : wrM n (va_up u s u') (va_up k s k') (va_up a s a') (va_up b s b') l cc c st I1 J (fu V 39 0 v) ∧ frC I J V I1 J (fu V 39 0 v) := by
  obtain ⟨h1, h2, h3, h4, h5, h6, ⟨c8, e1, e2, e3, e4⟩, h8, h9⟩ := h
  refine ⟨⟨mo_fu _ h1 (Or.inl rfl), (fu_n2 _ _ (by decide)).trans h2, fun t ht => ?_, (fu_n2 _ _ (by decide)).trans h4, fun m hm => by rw [f0 43 (by decide) (by decide) (by decide) (by decide)]; exact h5 m hm, (fu_n2 _ _ (by decide)).trans h6, ⟨c8, (fu_n2 _ _ (by decide)).trans e1, e2, e3, e4⟩, fun m hm => by rw [f0 44 (by decide) (by decide) (by decide) (by decide)]; exact h8 m hm, fun m m1 m6 => ?_⟩, fun x hx => f0 x (by omega) (by omega) (by omega) (by omega), fun _ _ => rfl, fun x j hx => fu_n1 _ _ hx⟩
  · by_cases e : t = s
    · subst e
      rw [va_up_self, va_up_self, va_up_self, va_up_self]
      exact hw
    · rw [va_up_ne _ _ e, va_up_ne _ _ e, va_up_ne _ _ e, va_up_ne _ _ e]
      obtain ⟨g1, g2, g3⟩ := h3 t ht
      have := hk t ht
      exact ⟨fun p hp => by rw [f40 t p e ht (by omega)]; exact g1 p hp, by rw [f41 t e]; exact g2, fun m hm => by rw [f42 t m e ht (by omega)]; exact g3 m hm⟩
  · rw [f0 45 (by decide) (by decide) (by decide) (by decide), f0 46 (by decide) (by decide) (by decide) (by decide)]
    exact h9 m m1 m6
/-- the facts about a changed slot -/
theorem wrP_u (h : wrP n u k a b l cc c) {s : Nat} {u' : Nat → Int} {k' : Nat} {a' b' : Nat → Nat} (hu : sP n u') (hk : k' ≤ 8) (hab : ∀ m, m < k' → a' m ≤ b' m ∧ b' m < n) : wrP n (va_up u s u') (va_up k s k') (va_up a s a') (va_up b s b') l cc c := by
  obtain ⟨h1, h2, h3, h4, h5⟩ := h
  refine ⟨h1, fun t ht => ?_, h3, h4, h5⟩
  by_cases e : t = s
  · subst e
    rw [va_up_self, va_up_self, va_up_self, va_up_self]
    exact ⟨hu, hk, hab⟩
  · rw [va_up_ne _ _ e, va_up_ne _ _ e, va_up_ne _ _ e, va_up_ne _ _ e]
    exact h2 t ht
/-! genes -/
theorem ge_k (I : Nat → Nat → Int32) (V : Nat → Nat → Value) : ∀ s, s ≤ 5 → (∀ x, ¬ (∃ t, t < s ∧ x = sp t + 1) → ge_I I s x = I x) ∧ (∀ t p, t < s → p < 6 → ge_I I s (sp t + 1) p = iI ((p : Int) + 1)) ∧ (∀ x j, ¬ (∃ t, t < s ∧ x = sp t ∧ j = 3) → ge_V V s x j = V x j) ∧ ∀ t, t < s → ge_V V s (sp t) 3 = .int (iI 0) := fun s => by
  induction s with
  | zero => exact fun _ => ⟨fun _ _ => rfl, fun t p ht => absurd ht (Nat.not_lt_zero _), fun _ _ _ => rfl, fun t ht => absurd ht (Nat.not_lt_zero _)⟩
  | succ s ih =>
    intro hs
    obtain ⟨i1, i2, i3, i4⟩ := ih (by omega)
    refine ⟨fun x hx => ?_, fun t p ht hp => ?_, fun x j hx => ?_, fun t ht => ?_⟩
    · show va_up (ge_I I s) (sp s + 1) _ x = I x
      rw [va_up_ne _ _ (fun q => hx ⟨s, by omega, q⟩)]
      exact i1 x (fun ⟨t, t1, t2⟩ => hx ⟨t, by omega, t2⟩)
    · show va_up (ge_I I s) (sp s + 1) (bp_f (ge_I I s (sp s + 1)) 6) (sp t + 1) p = _
      by_cases e : t = s
      · subst e; rw [va_up_self]; exact bp_6 p hp
      · rw [va_up_ne _ _ (by unfold sp; omega)]; exact i2 t p (by omega) hp
    · show fu (ge_V V s) (sp s) 3 _ x j = V x j
      rw [fu_ne (fun q => hx ⟨s, by omega, q.1, q.2⟩)]
      exact i3 x j (fun ⟨t, t1, t2⟩ => hx ⟨t, by omega, t2⟩)
    · show fu (ge_V V s) (sp s) 3 (.int (iI 0)) (sp t) 3 = _
      by_cases e : t = s
      · subst e; exact fu_at _ _ _ _
      · rw [fu_n1 _ _ (by unfold sp; omega)]; exact i4 t (by omega)
theorem C_genes (h : wrC n u k a b l cc c st cs I J F V) {x : Nat} (hx : 1 ≤ x ∧ x ≤ 6) : wrC x (fun _ p => (p : Int) + 1) (fun _ => 0) a b l cc (-1) st cs (ge_I I 5) J F (fu (ge_V (fu V 0 0 (.int (iI (x : Nat)))) 5) 0 6 (.int (iI (-1)))) ∧ frM I J V (ge_I I 5) J (fu (ge_V (fu V 0 0 (.int (iI (x : Nat)))) 5) 0 6 (.int (iI (-1)))) := by
  obtain ⟨i1, i2, i3, i4⟩ := ge_k I (fu V 0 0 (.int (iI (x : Nat)))) 5 (Nat.le_refl _)
  have hV : ∀ y j, ¬ (y = 0 ∧ (j = 0 ∨ j = 6)) → ¬ (∃ t, t < 5 ∧ y = sp t ∧ j = 3) → fu (ge_V (fu V 0 0 (.int (iI (x : Nat)))) 5) 0 6 (.int (iI (-1))) y j = V y j := fun y j q1 q2 => by rw [fu_ne (fun r => q1 ⟨r.1, Or.inr r.2⟩), i3 y j q2, fu_ne (fun r => q1 ⟨r.1, Or.inl r.2⟩)]
  have hI : ∀ y, ¬ (y < 22) → ge_I I 5 y = I y := fun y hy => i1 y (fun ⟨t, t1, t2⟩ => by unfold sp at t2; omega)
  have nsp : ∀ y j, (y = 0 ∨ 20 ≤ y) → ¬ (∃ t, t < 5 ∧ y = sp t ∧ j = 3) := fun y j hy ⟨t, t1, t2, t3⟩ => by unfold sp at t2; omega
  obtain ⟨h1, h2, h3, h4, h5, h6, h7, h8⟩ := h
  refine ⟨⟨ge_W2 h1, ?_, fun s hs => ⟨fun p hp => i2 s p hs (by omega), ?_, fun m hm => absurd hm (Nat.not_lt_zero _)⟩, (hV 22 1 (by omega) (nsp _ _ (by omega))).trans h4, fun m hm => by rw [hI 23 (by omega)]; exact h5 m hm, fu_at _ 0 6 _, fun m hm => absurd hm (by omega), ck_s h8 rfl (fun y hy => hI y (by omega)) (fun _ _ => rfl) (fun y j hy => hV y j (by omega) (nsp _ _ (by omega)))⟩, fun y y1 y2 => hI y (by omega), rfl, fun j => hV 39 j (by omega) (nsp _ _ (by omega))⟩
  · rw [fu_n2 _ _ (by decide), i3 0 0 (nsp _ _ (by omega)), fu_at]
  · rw [fu_n1 _ _ (by unfold sp; omega), i4 s hs]; rfl
theorem M_genes (h : wrM n u k a b l cc c st I J V) {x : Nat} (hx : 1 ≤ x ∧ x ≤ 6) : wrM x (fun _ p => (p : Int) + 1) (fun _ => 0) a b l cc (-1) st (cl_o I x 5) J (fu (fu (fu V 39 0 (.int (iI 0))) 39 1 (.int (iI (x : Nat)))) 39 7 (.int (iI 0))) ∧ frC I J V (cl_o I x 5) J (fu (fu (fu V 39 0 (.int (iI 0))) 39 1 (.int (iI (x : Nat)))) 39 7 (.int (iI 0))) := by
  obtain ⟨k1, k2⟩ := cl_ok (I := I) hx.2 5 (Nat.le_refl _)
  obtain ⟨h1, h2, h3, h4, h5, h6, ⟨c8, e1, e2, e3, e4⟩, h8, h9⟩ := h
  refine ⟨⟨mo_fu _ (mo_fu _ (mo_fu _ h1 (by omega)) (by omega)) (by omega), ?_, fun s hs => ⟨(k2 s hs).2, (k2 s hs).1, fun m hm => absurd hm (Nat.not_lt_zero _)⟩, ?_, fun m hm => by rw [k1 43 (by decide) (by decide)]; exact h5 m hm, ?_, ⟨c8, ?_, e2, e3, fun q => absurd rfl q⟩, fun m hm => absurd hm (by omega), fun m m1 m6 => ?_⟩, fun y hy => k1 y (by omega) (by omega), fun _ _ => rfl, fun y j hy => by rw [fu_n1 _ _ hy, fu_n1 _ _ hy, fu_n1 _ _ hy]⟩
  · rw [fu_n2 _ _ (by decide), fu_at]
  · rw [fu_n2 _ _ (by decide), fu_n2 _ _ (by decide), fu_n2 _ _ (by decide)]; exact h4
  · rw [fu_at, bo_f (by decide)]
  · rw [fu_n2 _ _ (by decide), fu_n2 _ _ (by decide), fu_n2 _ _ (by decide)]; exact e1
  · rw [k1 45 (by decide) (by decide), k1 46 (by decide) (by decide)]; exact h9 m m1 m6
theorem P_genes (h : wrP n u k a b l cc c) {x : Nat} (hx : 1 ≤ x ∧ x ≤ 6) : wrP x (fun _ p => (p : Int) + 1) (fun _ => 0) a b l cc (-1) := ⟨hx, fun s hs => ⟨sP_0 x, (show (0 : Nat) ≤ 8 by omega), fun m hm => absurd hm (Nat.not_lt_zero _)⟩, h.2.2.1, h.2.2.2.1, by omega, by omega⟩
/-! write, wipe -/
theorem by_b (x : Int64) (j : Int) : ∃ m : Nat, m < 256 ∧ by_f x j = iI (m : Nat) := by
  unfold by_f
  obtain ⟨m, h1, h2⟩ := pk_andE ((x.toUInt64 >>> ((iI (8 * j)).toInt64.toUInt64 &&& Int64.toUInt64 63)).toInt64.toInt32) (m := iI 255) 8 (by decide)
  exact ⟨m, h1, h2.trans (iI_nI m)⟩
theorem ad_c {x : Int64} {g h : Nat → Int32} {l : Nat} (e : ∀ m, m < l → g m = h m) : ∀ j m, m < l + ad_n x j → ad_s x g l j m = ad_s x h l j m := fun j => by
  induction j with
  | zero => exact fun m hm => e m hm
  | succ j ih =>
    intro m hm
    have en : ad_n x (j + 1) = if by_f x j = 0 then ad_n x j else ad_n x j + 1 := rfl
    have eg : ∀ f : Nat → Int32, ad_s x f l (j + 1) = if by_f x j = 0 then ad_s x f l j else upd (ad_s x f l j) (l + ad_n x j) (by_f x j) := fun _ => rfl
    rw [eg, eg]
    by_cases q : by_f x j = 0
    · rw [en, if_pos q] at hm
      rw [if_pos q, if_pos q]; exact ih m hm
    · rw [en, if_neg q] at hm
      rw [if_neg q, if_neg q]
      by_cases r : m = l + ad_n x j
      · subst r; rw [pk_us, pk_us]
      · rw [pk_un r, pk_un r]; exact ih m (by omega)
theorem ad_by {x : Int64} {g : Nat → Int32} {l : Nat} (e : ∀ m, m < l → ∃ v : Nat, v < 256 ∧ g m = iI (v : Nat)) : ∀ j m, m < l + ad_n x j → ∃ v : Nat, v < 256 ∧ ad_s x g l j m = iI (v : Nat) := fun j => by
  induction j with
  | zero => exact fun m hm => e m hm
  | succ j ih =>
    intro m hm
    have en : ad_n x (j + 1) = if by_f x j = 0 then ad_n x j else ad_n x j + 1 := rfl
    have eg : ad_s x g l (j + 1) = if by_f x j = 0 then ad_s x g l j else upd (ad_s x g l j) (l + ad_n x j) (by_f x j) := rfl
    rw [eg]
    by_cases q : by_f x j = 0
    · rw [en, if_pos q] at hm
      rw [if_pos q]; exact ih m hm
    · rw [en, if_neg q] at hm
      rw [if_neg q]
      by_cases r : m = l + ad_n x j
      · subst r; rw [pk_us]; exact by_b x j
      · rw [pk_un r]; exact ih m (by omega)
def cw (x : Int64) (l : Nat) (cc : Nat → Int) (m : Nat) : Int := (ad_s x (fun m => iI (cc m)) l 8 m).toInt
theorem P_write (h : wrP n u k a b l cc c) {x : Int64} (hl : l + ad_n x 8 ≤ 24) : wrP n u k a b (l + ad_n x 8) (cw x l cc) c := by
  obtain ⟨h1, h2, h3, h4, h5⟩ := h
  refine ⟨h1, h2, hl, fun m hm => ?_, h5⟩
  obtain ⟨v, v1, v2⟩ := ad_by (x := x) (g := fun m => iI (cc m)) (l := l) (fun m hm => ⟨(cc m).toNat, by have := h4 m hm; omega, by have := h4 m hm; show iI (cc m) = _; congr 1; omega⟩) 8 m hm
  unfold cw
  rw [v2, iI_toInt (iB_mk (by omega) (by omega))]
  omega
theorem cw_i {x : Int64} {g : Nat → Int32} (hg : ∀ m, m < l → g m = iI (cc m)) : ∀ m, m < l + ad_n x 8 → ad_s x g l 8 m = iI (cw x l cc m) := fun m hm => by
  rw [ad_c (h := fun m => iI (cc m)) hg 8 m hm]
  exact iI_of _
theorem C_write (h : wrC n u k a b l cc c st cs I J F V) {x : Int64} : wrC n u k a b (l + ad_n x 8) (cw x l cc) c st cs (va_up I 23 (ad_s x (I 23) l 8)) J F (fu V 22 1 (.int (iI (l + ad_n x 8 : Nat)))) ∧ frM I J V (va_up I 23 (ad_s x (I 23) l 8)) J (fu V 22 1 (.int (iI (l + ad_n x 8 : Nat)))) := by
  obtain ⟨h1, h2, h3, h4, h5, h6, h7, h8⟩ := h
  refine ⟨⟨dk_fu _ h1 wi_221, (fu_n1 _ _ (by decide)).trans h2, fun s hs => ?_, fu_at _ 22 1 _, fun m hm => by rw [va_up_self]; exact cw_i h5 m hm, (fu_n1 _ _ (by decide)).trans h6, fun m hm => by rw [va_up_ne _ _ (by decide)]; exact h7 m hm, ck_s h8 rfl (fun y hy => va_up_ne _ _ (by omega)) (fun _ _ => rfl) (fun y j hy => fu_n1 _ _ (by omega))⟩, fun y y1 y2 => va_up_ne _ _ (by omega), rfl, fun j => fu_n1 _ _ (by decide)⟩
  obtain ⟨g1, g2, g3⟩ := h3 s hs
  exact ⟨fun p hp => by rw [va_up_ne _ _ (by unfold sp; omega)]; exact g1 p hp, (fu_n1 _ _ (by unfold sp; omega)).trans g2, fun m hm => by rw [va_up_ne _ _ (by unfold sp; omega), va_up_ne _ _ (by unfold sp; omega)]; exact g3 m hm⟩
theorem C_len (h : wrC n u k a b l cc c st cs I J F V) : wrC n u k a b 0 cc c st cs I J F (fu V 22 1 (.int (iI 0))) ∧ frM I J V I J (fu V 22 1 (.int (iI 0))) := by
  obtain ⟨h1, h2, h3, h4, h5, h6, h7, h8⟩ := h
  refine ⟨⟨dk_fu _ h1 wi_221, (fu_n1 _ _ (by decide)).trans h2, fun s hs => ?_, fu_at _ 22 1 _, fun m hm => absurd hm (Nat.not_lt_zero _), (fu_n1 _ _ (by decide)).trans h6, h7, ck_s h8 rfl (fun _ _ => rfl) (fun _ _ => rfl) (fun y j hy => fu_n1 _ _ (by omega))⟩, fun _ _ _ => rfl, rfl, fun j => fu_n1 _ _ (by decide)⟩
  obtain ⟨g1, g2, g3⟩ := h3 s hs
  exact ⟨g1, (fu_n1 _ _ (by unfold sp; omega)).trans g2, g3⟩
theorem P_len (h : wrP n u k a b l cc c) : wrP n u k a b 0 cc c := ⟨h.1, h.2.1, by omega, fun m hm => absurd hm (Nat.not_lt_zero _), h.2.2.2.2⟩
theorem M_len (h : wrM n u k a b l cc c st I J V) {l' : Nat} {cc' : Nat → Int} {I1 : Nat → Nat → Int32} (hI : ∀ y, y ≠ 43 → I1 y = I y) (hc : ∀ m, m < l' → I1 43 m = iI (cc' m)) : wrM n u k a b l' cc' c st I1 J (fu V 39 6 (.int (iI (l' : Nat)))) ∧ frC I J V I1 J (fu V 39 6 (.int (iI (l' : Nat)))) := by
  obtain ⟨h1, h2, h3, h4, h5, h6, ⟨c8, e1, e2, e3, e4⟩, h8, h9⟩ := h
  refine ⟨⟨mo_fu _ h1 (by omega), (fu_n2 _ _ (by decide)).trans h2, fun s hs => ?_, fu_at _ 39 6 _, hc, (fu_n2 _ _ (by decide)).trans h6, ⟨c8, (fu_n2 _ _ (by decide)).trans e1, e2, e3, e4⟩, fun m hm => by rw [hI 44 (by decide)]; exact h8 m hm, fun m m1 m6 => by rw [hI 45 (by decide), hI 46 (by decide)]; exact h9 m m1 m6⟩, fun y hy => hI y (by omega), fun _ _ => rfl, fun y j hy => fu_n1 _ _ hy⟩
  obtain ⟨g1, g2, g3⟩ := h3 s hs
  exact ⟨fun p hp => by rw [hI 40 (by decide)]; exact g1 p hp, by rw [hI 41 (by decide)]; exact g2, fun m hm => by rw [hI 42 (by decide)]; exact g3 m hm⟩
/-! copy, reverse, undo -/
theorem C_copy (h : wrC n u k a b l cc c st cs I J F V) (hn : n ≤ 6) {x y : Nat} (hx : x < 5) (hy : y < 5) : wrC n (va_up u y (u x)) (va_up k y 0) (va_up a y (a y)) (va_up b y (b y)) l cc c st cs (va_up I (sp y + 1) (va_cpy (I (sp x + 1)) (I (sp y + 1)) 0 0 6)) J F (fu V (sp y) 3 (.int (iI 0))) ∧ frM I J V (va_up I (sp y + 1) (va_cpy (I (sp x + 1)) (I (sp y + 1)) 0 0 6)) J (fu V (sp y) 3 (.int (iI 0))) := by
  refine wrC_o h hy (fun z q _ => va_up_ne _ _ (by omega)) (fun z j q => fu_ne q) ⟨fun p hp => ?_, fu_at _ _ _ _, fun m hm => absurd hm (Nat.not_lt_zero _)⟩
  rw [va_up_self]
  unfold va_cpy
  rw [if_pos (by omega), show 0 + (p - 0) = p by omega]
  exact (h.2.2.1 x hx).1 p hp
theorem mc_k {g : Nat → Int32} {x y : Nat} : ∀ m, m ≤ 6 → (∀ j, ¬ (6 * y ≤ j ∧ j < 6 * y + m) → mc_o g x y m j = g j) ∧ ∀ p, p < m → mc_o g x y m (6 * y + p) = g (6 * x + p) := fun m => by
  induction m with
  | zero => exact fun _ => ⟨fun _ _ => rfl, fun p hp => absurd hp (Nat.not_lt_zero _)⟩
  | succ m ih =>
    intro hm
    obtain ⟨i1, i2⟩ := ih (by omega)
    have e0 : mc_o g x y (m + 1) = upd (mc_o g x y m) (6 * y + m) (mc_o g x y m (6 * x + m)) := rfl
    have hx : mc_o g x y m (6 * x + m) = g (6 * x + m) := by
      by_cases e : x = y
      · subst e; exact i1 _ (by omega)
      · exact i1 _ (by omega)
    refine ⟨fun j hj => ?_, fun p hp => ?_⟩
    · rw [e0, pk_un (by omega)]; exact i1 j (by omega)
    · rw [e0]
      by_cases e : p = m
      · subst e; rw [pk_us]; exact hx
      · rw [pk_un (by omega)]; exact i2 p (by omega)
theorem M_copy (h : wrM n u k a b l cc c st I J V) (hp : wrP n u k a b l cc c) {x y : Nat} (hx : x < 5) (hy : y < 5) (v : Value) : wrM n (va_up u y (u x)) (va_up k y 0) (va_up a y (a y)) (va_up b y (b y)) l cc c st (va_up (va_up I 40 (mc_o (I 40) x y n)) 41 (upd (I 41) y (iI 0))) J (fu V 39 0 v) ∧ frC I J V (va_up (va_up I 40 (mc_o (I 40) x y n)) 41 (upd (I 41) y (iI 0))) J (fu V 39 0 v) := by
  have hn := hp.1.2
  obtain ⟨m1, m2⟩ := mc_k (g := I 40) (x := x) (y := y) n hn
  refine wrM_u h hy (fun z z0 z1 _ _ => by rw [va_up_ne _ _ z1, va_up_ne _ _ z0]) (fun t p q t5 p6 => ?_) (fun t q => ?_) (fun t m _ _ _ => by rw [va_up_ne _ _ (by decide), va_up_ne _ _ (by decide)]) hn (fun t ht => (hp.2.1 t ht).2.1) ⟨fun p hpn => ?_, ?_, fun m hm => absurd hm (Nat.not_lt_zero _)⟩ v
  · rw [va_up_ne _ _ (by decide), va_up_self, m1 _ (by omega)]
  · rw [va_up_self, pk_un q]
  · rw [va_up_ne _ _ (by decide), va_up_self, m2 p hpn]; exact (h.2.2.1 x hx).1 p hpn
  · rw [va_up_self, pk_us]; rfl
def ra (f : Nat → Nat) (k i m : Nat) : Nat := if k = 8 then (if m < 7 then f (m + 1) else i) else (if m = k then i else f m)
theorem tk_at {f : Nat → Int32} {g : Nat → Nat} {k i : Nat} (hk : k ≤ 8) (hf : ∀ m, m < k → f m = iI (g m : Nat)) : ∀ m, m < tk_n k + 1 → upd (tk_f f k) (tk_n k) (iI (i : Nat)) m = iI (ra g k i m : Nat) := fun m hm => by
  unfold ra
  by_cases e : k = 8
  · have e1 : tk_n k = 7 := if_pos e
    have e2 : tk_f f k = va_cpy f f 1 0 7 := if_pos e
    rw [e1] at hm
    rw [e1, e2, if_pos e]
    by_cases q : m = 7
    · rw [q, pk_us, if_neg (by omega)]
    · rw [pk_un q, if_pos (by omega)]
      unfold va_cpy
      rw [if_pos (by omega), show 1 + (m - 0) = m + 1 by omega]
      exact hf (m + 1) (by omega)
  · have e1 : tk_n k = k := if_neg e
    have e2 : tk_f f k = f := if_neg e
    rw [e1] at hm
    rw [e1, e2, if_neg e]
    by_cases q : m = k
    · rw [if_pos q, q, pk_us]
    · rw [if_neg q, pk_un q]; exact hf m (by omega)
theorem tk_8 {k : Nat} (h : k ≤ 8) : tk_n k + 1 ≤ 8 ∧ tk_n k + 1 = if k = 8 then 8 else k + 1 := by
  unfold tk_n
  by_cases e : k = 8
  · rw [if_pos e, if_pos e]; exact ⟨by omega, by omega⟩
  · rw [if_neg e, if_neg e]; exact ⟨by omega, by omega⟩
theorem C_rev (h : wrC n u k a b l cc c st cs I J F V) (hp : wrP n u k a b l cc c) {x i j : Nat} (hx : x < 5) (hj : j < n) : wrC n (va_up u x (tI (u x) i j)) (va_up k x (tk_n (k x) + 1)) (va_up a x (ra (a x) (k x) i)) (va_up b x (ra (b x) (k x) j)) l cc c st cs (tk_I I (sp x) i j (k x)) J F (fu V (sp x) 3 (.int (iI ((tk_n (k x) + 1 : Nat) : Int)))) ∧ frM I J V (tk_I I (sp x) i j (k x)) J (fu V (sp x) 3 (.int (iI ((tk_n (k x) + 1 : Nat) : Int)))) := by
  obtain ⟨g1, g2, g3⟩ := h.2.2.1 x hx
  have hk := (hp.2.1 x hx).2.1
  refine wrC_o h hx (fun z q _ => ?_) (fun z j q => fu_ne q) ⟨fun p hpn => ?_, fu_at _ _ _ _, fun m hm => ⟨?_, ?_⟩⟩
  · unfold tk_I; rw [va_up_ne _ _ (by omega), va_up_ne _ _ (by omega), va_up_ne _ _ (by omega)]
  · unfold tk_I; rw [va_up_ne _ _ (by omega), va_up_ne _ _ (by omega), va_up_self]; exact tI_i hj g1 p hpn
  · unfold tk_I; rw [va_up_ne _ _ (by omega), va_up_self]; exact tk_at hk (fun m hm => (g3 m hm).1) m hm
  · unfold tk_I; rw [va_up_self]; exact tk_at hk (fun m hm => (g3 m hm).2) m hm
theorem mv_k2 {g : Nat → Int32} {x : Nat} : ∀ t, t ≤ 7 → (∀ j, ¬ (8 * x ≤ j ∧ j < 8 * x + t) → mv_o g x t j = g j) ∧ ∀ m, m < t → mv_o g x t (8 * x + m) = g (8 * x + m + 1) := fun t => by
  induction t with
  | zero => exact fun _ => ⟨fun _ _ => rfl, fun m hm => absurd hm (Nat.not_lt_zero _)⟩
  | succ t ih =>
    intro ht
    obtain ⟨i1, i2⟩ := ih (by omega)
    have e0 : mv_o g x (t + 1) = upd (mv_o g x t) (8 * x + t) (mv_o g x t (8 * x + t + 1)) := rfl
    refine ⟨fun j hj => ?_, fun m hm => ?_⟩
    · rw [e0, pk_un (by omega)]; exact i1 j (by omega)
    · rw [e0]
      by_cases e : m = t
      · subst e; rw [pk_us]; exact i1 _ (by omega)
      · rw [pk_un (by omega)]; exact i2 m (by omega)
theorem tu_40 {g : Nat → Int32} {x i j q : Nat} (h : q < 6 * x + i ∨ 6 * x + j < q) : tu_f g (6 * x + i) (6 * x + j) q = g q := if_neg (by omega)
theorem tu_u {g : Nat → Int32} {w : Nat → Int} {x i j : Nat} (hj : j < n) (hg : ∀ p, p < n → g (6 * x + p) = iI (w p)) : ∀ p, p < n → tu_f g (6 * x + i) (6 * x + j) (6 * x + p) = iI (tI w i j p) := fun p hp => by
  unfold tu_f tI
  by_cases q : i ≤ p ∧ p ≤ j
  · rw [if_pos (by omega), if_pos q, show 6 * x + i + (6 * x + j) - (6 * x + p) = 6 * x + (i + j - p) by omega, hg _ (by omega), iI_neg]
  · rw [if_neg (by omega), if_neg q]; exact hg p hp
theorem M_rev (h : wrM n u k a b l cc c st I J V) (hp : wrP n u k a b l cc c) {x i j : Nat} (hx : x < 5) (hj : j < n) (v : Value) : wrM n (va_up u x (tI (u x) i j)) (va_up k x (tk_n (k x) + 1)) (va_up a x (ra (a x) (k x) i)) (va_up b x (ra (b x) (k x) j)) l cc c st (rv_I (va_up I 40 (tu_f (I 40) (6 * x + i) (6 * x + j))) x (k x) (iI (10 * (i : Int) + (j : Int)))) J (fu V 39 0 v) ∧ frC I J V (rv_I (va_up I 40 (tu_f (I 40) (6 * x + i) (6 * x + j))) x (k x) (iI (10 * (i : Int) + (j : Int)))) J (fu V 39 0 v) := by
  obtain ⟨g1, g2, g3⟩ := h.2.2.1 x hx
  have hk := (hp.2.1 x hx).2.1
  have hn := hp.1.2
  obtain ⟨m1, m2⟩ := mv_k2 (g := I 42) (x := x) 7 (Nat.le_refl _)
  have e42 : rv_I (va_up I 40 (tu_f (I 40) (6 * x + i) (6 * x + j))) x (k x) (iI (10 * (i : Int) + (j : Int))) 42 = upd (if k x = 8 then mv_o (I 42) x 7 else I 42) (8 * x + (if k x = 8 then 7 else k x)) (iI (10 * (i : Int) + (j : Int))) := by
    unfold rv_I; rw [va_up_ne _ _ (by decide), va_up_self, va_up_ne _ _ (by decide)]
  have e41 : rv_I (va_up I 40 (tu_f (I 40) (6 * x + i) (6 * x + j))) x (k x) (iI (10 * (i : Int) + (j : Int))) 41 = upd (I 41) x (iI ((if k x = 8 then 8 else k x + 1 : Nat) : Int)) := by
    unfold rv_I; rw [va_up_self, va_up_ne _ _ (by decide)]
  have e40 : rv_I (va_up I 40 (tu_f (I 40) (6 * x + i) (6 * x + j))) x (k x) (iI (10 * (i : Int) + (j : Int))) 40 = tu_f (I 40) (6 * x + i) (6 * x + j) := by
    unfold rv_I; rw [va_up_ne _ _ (by decide), va_up_ne _ _ (by decide), va_up_self]
  refine wrM_u h hx (fun z z0 z1 z2 _ => by unfold rv_I; rw [va_up_ne _ _ z1, va_up_ne _ _ z2, va_up_ne _ _ z0]) (fun t p q t5 p6 => ?_) (fun t q => ?_) (fun t m q t5 m8 => ?_) hn (fun t ht => (hp.2.1 t ht).2.1) ⟨fun p hpn => ?_, ?_, fun m hm => ?_⟩ v
  · rw [e40]; exact tu_40 (by omega)
  · rw [e41, pk_un q]
  · rw [e42]
    by_cases e : k x = 8
    · rw [if_pos e, if_pos e, pk_un (by omega)]; exact m1 _ (by omega)
    · rw [if_neg e, if_neg e, pk_un (by omega)]
  · rw [e40]; exact tu_u hj g1 p hpn
  · rw [e41, pk_us, (tk_8 hk).2]
  · rw [e42]
    have h8 := tk_8 hk
    unfold ra
    by_cases e : k x = 8
    · rw [if_pos e, if_pos e, if_pos e, if_pos e]
      by_cases q : m = 7
      · rw [q, pk_us, if_neg (by omega), if_neg (by omega)]
      · rw [if_pos e] at h8
        rw [pk_un (by omega), m2 m (by omega), if_pos (by omega), if_pos (by omega)]
        exact g3 (m + 1) (by omega)
    · rw [if_neg e, if_neg e, if_neg e, if_neg e]
      rw [if_neg e] at h8
      by_cases q : m = k x
      · rw [q, pk_us, if_pos rfl, if_pos rfl]
      · rw [pk_un (by omega), if_neg q, if_neg q]
        exact g3 m (by omega)
theorem P_rev (h : wrP n u k a b l cc c) {x i j : Nat} (hx : x < 5) (hij : i ≤ j) (hj : j < n) : wrP n (va_up u x (tI (u x) i j)) (va_up k x (tk_n (k x) + 1)) (va_up a x (ra (a x) (k x) i)) (va_up b x (ra (b x) (k x) j)) l cc c := by
  obtain ⟨p1, p2, p3⟩ := h.2.1 x hx
  have h8 := tk_8 p2
  refine wrP_u h (sP_t p1 hj) h8.1 (fun m hm => ?_)
  unfold ra
  by_cases e : k x = 8
  · rw [if_pos e, if_pos e]
    by_cases q : m < 7
    · rw [if_pos q, if_pos q]; exact p3 (m + 1) (by omega)
    · rw [if_neg q, if_neg q]; exact ⟨hij, hj⟩
  · rw [if_neg e, if_neg e]
    rw [if_neg e] at h8
    by_cases q : m = k x
    · rw [if_pos q, if_pos q]; exact ⟨hij, hj⟩
    · rw [if_neg q, if_neg q]; exact p3 m (by omega)
theorem C_undo (h : wrC n u k a b l cc c st cs I J F V) {x i j : Nat} (hx : x < 5) (hj : j < n) : wrC n (va_up u x (tI (u x) i j)) (va_up k x (k x - 1)) (va_up a x (a x)) (va_up b x (b x)) l cc c st cs (va_up I (sp x + 1) (tu_f (I (sp x + 1)) i j)) J F (fu V (sp x) 3 (.int (iI ((k x - 1 : Nat) : Int)))) ∧ frM I J V (va_up I (sp x + 1) (tu_f (I (sp x + 1)) i j)) J (fu V (sp x) 3 (.int (iI ((k x - 1 : Nat) : Int)))) := by
  obtain ⟨g1, g2, g3⟩ := h.2.2.1 x hx
  refine wrC_o h hx (fun z q _ => va_up_ne _ _ (by omega)) (fun z j q => fu_ne q) ⟨fun p hpn => ?_, fu_at _ _ _ _, fun m hm => ?_⟩
  · rw [va_up_self]; exact tI_i hj g1 p hpn
  · rw [va_up_ne _ _ (by omega), va_up_ne _ _ (by omega)]; exact g3 m (by omega)
theorem M_undo (h : wrM n u k a b l cc c st I J V) (hp : wrP n u k a b l cc c) {x i j : Nat} (hx : x < 5) (hj : j < n) (v : Value) : wrM n (va_up u x (tI (u x) i j)) (va_up k x (k x - 1)) (va_up a x (a x)) (va_up b x (b x)) l cc c st (va_up (va_up I 41 (upd (I 41) x (iI ((k x - 1 : Nat) : Int)))) 40 (tu_f (I 40) (6 * x + i) (6 * x + j))) J (fu V 39 0 v) ∧ frC I J V (va_up (va_up I 41 (upd (I 41) x (iI ((k x - 1 : Nat) : Int)))) 40 (tu_f (I 40) (6 * x + i) (6 * x + j))) J (fu V 39 0 v) := by
  obtain ⟨g1, g2, g3⟩ := h.2.2.1 x hx
  refine wrM_u h hx (fun z z0 z1 _ _ => by rw [va_up_ne _ _ z0, va_up_ne _ _ z1]) (fun t p q t5 p6 => ?_) (fun t q => ?_) (fun t m _ _ _ => by rw [va_up_ne _ _ (by decide), va_up_ne _ _ (by decide)]) hp.1.2 (fun t ht => (hp.2.1 t ht).2.1) ⟨fun p hpn => ?_, ?_, fun m hm => by rw [va_up_ne _ _ (by decide), va_up_ne _ _ (by decide)]; exact g3 m (by omega)⟩ v
  · rw [va_up_self]; exact tu_40 (by have := hp.1.2; omega)
  · rw [va_up_ne _ _ (by decide), va_up_self, pk_un q]
  · rw [va_up_self]; exact tu_u hj g1 p hpn
  · rw [va_up_ne _ _ (by decide), va_up_self, pk_us]
theorem P_undo (h : wrP n u k a b l cc c) {x i j : Nat} (hx : x < 5) (hj : j < n) : wrP n (va_up u x (tI (u x) i j)) (va_up k x (k x - 1)) (va_up a x (a x)) (va_up b x (b x)) l cc c := by
  obtain ⟨p1, p2, p3⟩ := h.2.1 x hx
  exact wrP_u h (sP_t p1 hj) (by omega) (fun m hm => p3 m (by omega))
end OPS
