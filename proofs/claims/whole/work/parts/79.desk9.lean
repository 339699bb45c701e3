/-! the chart's waysToPlain; the desk's triedTo, circle, ways, median -/
theorem ck_w {Dc Wc : Nat → Nat → Nat} {cs : mm_Sh} {I I1 : Nat → Nat → Int32} {J J1 : Nat → Nat → Int64} {F F1 : Nat → Nat → Option Nat} {V V1 : Nat → Nat → Value} {n c : Nat} (hA : ck_A Dc Wc cs I J F V) (hc : ck_1 Dc Wc (wd_S ++ cs) I J V n c) (hn : n ≤ 4) (hF : F1 34 = F 34) (hI : ∀ a, 59 ≤ a → a ≠ c + 3 → I1 a = I a) (hJ : ∀ a, 59 ≤ a → a ≠ c + 2 → J1 a = J a) (hM : kw_M c (oc_f n) (Wc n) J1) (hV : ∀ a j, 59 ≤ a → V1 a j = V a j) : ck_A Dc Wc cs I1 J1 F1 V1 := by
  refine ⟨hA.1, fun m m1 m4 => ?_⟩
  rw [hF]
  rcases hA.2 m m1 m4 with q | ⟨e, q, e1, e2, e3, e4, e5, e6, e7⟩
  · exact Or.inl q
  · obtain ⟨v0, v1, v2, v3, v4⟩ := e5
    obtain ⟨c1, c2, c3, c4, c5, c6, c7⟩ := hc
    refine Or.inr ⟨e, q, e1, e2, e3, e4, ⟨(hV e 0 e1).trans v0, (hV e 1 e1).trans v1, (hV e 2 e1).trans v2, (hV e 3 e1).trans v3, (hV e 4 e1).trans v4⟩, fun x hx => ?_, ?_⟩
    · rw [hI _ (by omega) (by omega)]; exact e6 x hx
    · by_cases ec : e = c
      · subst ec
        have h1 : (Value.int (iI (m : Nat))) = .int (iI (n : Nat)) := v2.symm.trans c5.2.2.1
        have h2 : iI ((m : Nat) : Int) = iI ((n : Nat) : Int) := Value.int.inj h1
        have h3 := (iI_eq (iB_mk (by omega) (by omega)) (iB_mk (by omega) (by omega))).mp h2
        have h4 : m = n := by omega
        subst h4
        exact hM
      · intro x hx
        rw [hJ _ (by omega) (by omega)]
        exact e7 x hx
theorem ck_s {Dc Wc : Nat → Nat → Nat} {cs : mm_Sh} {I I1 : Nat → Nat → Int32} {J J1 : Nat → Nat → Int64} {F F1 : Nat → Nat → Option Nat} {V V1 : Nat → Nat → Value} (hA : ck_A Dc Wc cs I J F V) (hF : F1 34 = F 34) (hI : ∀ a, 59 ≤ a → I1 a = I a) (hJ : ∀ a, 59 ≤ a → J1 a = J a) (hV : ∀ a j, 59 ≤ a → V1 a j = V a j) : ck_A Dc Wc cs I1 J1 F1 V1 := by
  refine ⟨hA.1, fun m m1 m4 => ?_⟩
  rw [hF]
  rcases hA.2 m m1 m4 with q | ⟨e, q, e1, e2, e3, e4, e5, e6, e7⟩
  · exact Or.inl q
  · obtain ⟨v0, v1, v2, v3, v4⟩ := e5
    refine Or.inr ⟨e, q, e1, e2, e3, e4, ⟨(hV e 0 e1).trans v0, (hV e 1 e1).trans v1, (hV e 2 e1).trans v2, (hV e 3 e1).trans v3, (hV e 4 e1).trans v4⟩, fun x hx => ?_, fun x hx => ?_⟩
    · rw [hI _ (by omega)]; exact e6 x hx
    · rw [hJ _ (by omega)]; exact e7 x hx
def ixN (n : Nat) (y : Nat → Int) : Nat := (ix_f y n n).toNat
/-- a row's index in the chart -/
def ix_k (n : Nat) (y : Nat → Int) : Prop := (∀ p, p < n → -100 ≤ y p ∧ y p ≤ 100) ∧ 0 ≤ ix_f y n n ∧ ixN n y < oc_f n ∧ ∀ p, p < n → zr n (ixN n y) p = y p
theorem re_x (I : Nat → Nat → Int32) (n : Nat) (u v : Nat → Int) {a : Nat} (h : a ≠ 36 ∧ a ≠ 37) : re_I I n u v a = I a := by
  unfold re_I
  rw [va_up_ne _ _ h.2, va_up_ne _ _ h.1]
theorem ev_waysToPlain {G : mm_G} {d : Nat} {sh : mm_Sh} {I : Nat → Nat → Int32} {J : Nat → Nat → Int64} {F : Nat → Nat → Option Nat} {V : Nat → Nat → Value} {c N n a na : Nat} {D W : Nat → Nat} {y : Nat → Int} (hS : ch_S sh c N) (hC : ch_V V c N n) (hn : n ≤ 6) (hN : N < 100000) (hNo : N = oc_f n) (hH : cw_H n N D W) (ht : ∀ k, k < N → I (c + 1) k = iI (D k : Nat)) (hJ : kw_M c N W J) (ha : sh[a]? = some (.inl (0, na)) ∧ a ≠ c + 3) (hna : n ≤ na ∧ na < 2147483648) (hy : ∀ p, p < n → I a p = iI (y p)) (hx : ix_k n y) : mE G mt_Ch_waysToPlain (d + 30) 0 0 [.ref c, .ref a] (sh, I, J, F, V) (fun o h1 => o = .inl (some (.long (lI (W (ixN n y))))) ∧ ∃ I1 J1, h1 = (sh, I1, J1, F, V) ∧ (∀ b, b ≠ c + 3 → I1 b = I b) ∧ kw_k c N W J J1) := by
  refine mE_intro (by decide) (fun k h q => nomatch q.1) (Nat.le_of_ble_eq_true rfl) ?_
  obtain ⟨x1, x2, x3, x4⟩ := hx
  subst hNo
  have hD20 := (hH.1 _ x3).2.1
  show mW G mt_Ch_waysToPlain (d + 30) 0 0 0 [(0, .ref c), (1, .ref a)] [] (sh, I, J, F, V) _
  refine mw_aload_n dc_Ch_waysToPlain_0 rfl 1 rfl ?_
  refine mi_const dc_Ch_waysToPlain_1 ?_
  refine mw_aload_n dc_Ch_waysToPlain_2 rfl 0 rfl ?_
  refine mi_get (ci := 4) (k := 3) dc_Ch_waysToPlain_3 hS.1 wi_Ch rfl rfl (by decide) fl_Ch_26 hC.2.2.2.1 ?_
  refine mi_const dc_Ch_waysToPlain_6 ?_
  refine mw_aload_n dc_Ch_waysToPlain_7 rfl 0 rfl ?_
  refine mi_get (ci := 4) (k := 2) dc_Ch_waysToPlain_8 hS.1 wi_Ch rfl rfl (by decide) fl_Ch_9 hC.2.2.1 ?_
  refine mi_copy dc_Ch_waysToPlain_11 jk_Ch_52 ha.1 hS.2.2.2 ⟨by omega, by omega, by omega, by omega, by omega, by omega, by omega⟩ (Nat.le_of_ble_eq_true rfl) (I' := va_up I (c + 3) (va_cpy (I a) (I (c + 3)) 0 0 n)) (by rw [Int.toNat_natCast]; rfl) ?_
  have hz : ∀ p, p < n → (va_up I (c + 3) (va_cpy (I a) (I (c + 3)) 0 0 n)) (c + 3) p = iI (y p) := fun p hp => by
    rw [va_up_self]
    unfold va_cpy
    rw [if_pos (by omega), show 0 + (p - 0) = p by omega]
    exact hy p hp
  refine mw_aload_n dc_Ch_waysToPlain_14 rfl 0 rfl ?_
  refine mw_aload_n dc_Ch_waysToPlain_15 rfl 0 rfl ?_
  refine mi_get (ci := 4) (k := 3) dc_Ch_waysToPlain_16 hS.1 wi_Ch rfl rfl (by decide) fl_Ch_26 hC.2.2.2.1 ?_
  refine mz_V1 (M2 := mt_Ch_indexOf) dc_Ch_waysToPlain_19 ml_Ch_58 hS.1 rfl ny_Ch_indexOf (by decide) (Nat.le_of_ble_eq_true rfl) (ev_indexOf (y := y) hS hC hn hS.2.2.2 ⟨by omega, by decide⟩ (fun p hp => ⟨hz p hp, x1 p hp⟩)) (fun v h1 hY => ?_)
  obtain ⟨hv, rfl⟩ := hY
  cases hv
  rw [show iI (ix_f y n n) = iI ((ixN n y : Nat) : Int) from congrArg iI (by unfold ixN; omega)]
  refine mw_istore_n dc_Ch_waysToPlain_22 rfl (by decide) rfl ?_
  refine mw_aload_n dc_Ch_waysToPlain_23 rfl 1 rfl ?_
  refine mw_iload_n dc_Ch_waysToPlain_24 rfl 0 rfl ?_
  refine mw_aload_n dc_Ch_waysToPlain_25 rfl 1 rfl ?_
  refine mi_get (ci := 4) (k := 1) dc_Ch_waysToPlain_26 hS.1 wi_Ch rfl rfl (by decide) fl_Ch_18 hC.2.1 ?_
  refine mw_iload_n dc_Ch_waysToPlain_29 rfl 0 rfl ?_
  refine mi_iald dc_Ch_waysToPlain_30 hS.2.1 ⟨by omega, by omega, by omega⟩ (v := iI (D (ixN n y) : Nat)) (by rw [Int.toNat_natCast, va_up_ne _ _ (by omega)]; exact ht _ x3) ?_
  have hw := ev_waysOfWalked (G := G) (sh := sh) (F := F) (V := V) (d := d + 29 - D (ixN n y)) hS hC hn hN hH (D (ixN n y)) (ixN n y) (va_up I (c + 3) (va_cpy (I a) (I (c + 3)) 0 0 n)) J rfl x3 (fun k hk => by rw [va_up_ne _ _ (by omega)]; exact ht k hk) (fun p hp => by rw [hz p hp, x4 p hp]) hJ
  rw [show d + 29 - D (ixN n y) + D (ixN n y) = d + 29 by omega] at hw
  refine mz_V2 (M2 := mt_Ch_waysOfWalked) dc_Ch_waysToPlain_31 ml_Ch_62 hS.1 rfl ny_Ch_waysOfWalked (by decide) (Nat.le_of_ble_eq_true rfl) (hw) (fun v h1 hY => ?_)
  obtain ⟨hv9, J1, rfl, hJ1⟩ := hY
  cases hv9
  exact mw_lret dc_Ch_waysToPlain_34 rfl ⟨rfl, _, J1, rfl, fun b hb => va_up_ne _ _ hb, hJ1⟩
theorem ev_triedTo {G : mm_G} {d : Nat} {cs : mm_Sh} {I : Nat → Nat → Int32} {J : Nat → Nat → Int64} {F : Nat → Nat → Option Nat} {V : Nat → Nat → Value} {n c s : Nat} {Dc Wc : Nat → Nat → Nat} {z v : Nat → Int} (hW : dk_W F V) (hg : V 0 0 = .int (iI n)) (hn : n ≤ 6) (hc : ck_1 Dc Wc (wd_S ++ cs) I J V n c) (hs : s < 5) (hz : ∀ p, p < n → I 38 p = iI (z p)) (pz : sP n z) (hv : or_ok I n s v) (pv : sP n v) (hx : ix_k n (yR n z v)) : mE G mt_De_triedTo (d + 1) 0 0 [.ref 0, .int (iI (s : Nat)), .ref c] (wd_S ++ cs, I, J, F, V) (fun o h1 => o = .inl (some (.int (iI (Dc n (ixN n (yR n z v)) : Nat)))) ∧ h1 = (wd_S ++ cs, re_I I n z v, J, F, V)) := by
  refine mE_intro (by decide) (fun k h q => nomatch q.1) (Nat.le_of_ble_eq_true rfl) ?_
  have hN2 := (oc_fa n (by omega)).2
  show mW G mt_De_triedTo (d + 1) 0 0 0 [(0, .ref 0), (1, .int (iI (s : Nat))), (2, .ref c)] [] (wd_S ++ cs, I, J, F, V) _
  refine mw_aload_n dc_De_triedTo_0 rfl 0 rfl ?_
  refine mw_aload_n dc_De_triedTo_1 rfl 0 rfl ?_
  refine mi_get (ci := 0) (k := 9) dc_De_triedTo_2 rfl wi_De rfl rfl (by decide) fl_De_53 hW.1.2.2.2.2.2.2.2 ?_
  refine mw_aload_n dc_De_triedTo_5 rfl 0 rfl ?_
  refine mi_get (ci := 0) (k := 1) dc_De_triedTo_6 rfl wi_De rfl rfl (by decide) fl_De_15 hW.1.1 ?_
  refine mw_iload_n dc_De_triedTo_9 rfl 1 rfl ?_
  refine mi_aald dc_De_triedTo_10 rfl rfl ⟨by omega, by omega, by decide⟩ (by rw [Int.toNat_natCast]; exact (hW.2.1 s hs).1) ?_
  refine mi_get (ci := 1) (k := 0) dc_De_triedTo_11 (sl_W s hs).1 wi_Sl rfl rfl (by decide) fl_De_91 (hW.2.1 s hs).2.1 ?_
  refine mz_V2 (M2 := mt_De_relate) dc_De_triedTo_14 ml_De_141 rfl rfl ny_De_relate (by decide) (Nat.le_of_ble_eq_true rfl) (ev_relate (u := z) (v := v) hW hg hn ⟨rfl, by decide, by decide⟩ ⟨(sl_W s hs).2.1, by unfold sp; omega, by unfold sp; omega⟩ ⟨hn, by decide⟩ ⟨hn, by decide⟩ (fun p hp => ⟨hz p hp, sP_n pz p hp⟩) hv) (fun v h1 hY => ?_)
  obtain ⟨hv, rfl⟩ := hY
  cases hv
  refine mw_aload_n dc_De_triedTo_17 rfl 2 rfl ?_
  refine mi_get (ci := 4) (k := 1) dc_De_triedTo_18 hc.2.2.2.1.1 wi_Ch rfl rfl (by decide) fl_De_214 hc.2.2.2.2.1.2.1 ?_
  refine mw_aload_n dc_De_triedTo_21 rfl 2 rfl ?_
  refine mw_aload_n dc_De_triedTo_22 rfl 0 rfl ?_
  refine mi_get (ci := 0) (k := 8) dc_De_triedTo_23 rfl wi_De rfl rfl (by decide) fl_De_50 hW.1.2.2.2.2.2.2.1 ?_
  refine mz_V1 (M2 := mt_Ch_indexOf) dc_De_triedTo_26 ml_De_217 hc.2.2.2.1.1 rfl ny_Ch_indexOf (by decide) (Nat.le_of_ble_eq_true rfl) (ev_indexOf (y := yR n z v) (a := 37) (na := 6) hc.2.2.2.1 hc.2.2.2.2.1 hn rfl ⟨hn, by decide⟩ (fun p hp => ⟨re_k pz pv I p hp, hx.1 p hp⟩)) (fun v h1 hY => ?_)
  obtain ⟨hv, rfl⟩ := hY
  cases hv
  obtain ⟨-, x2, x3, -⟩ := hx
  have hc1 := hc.1
  rw [show iI (ix_f (yR n z v) n n) = iI ((ixN n (yR n z v) : Nat) : Int) from congrArg iI (by unfold ixN; omega)]
  refine mi_iald dc_De_triedTo_29 hc.2.2.2.1.2.1 ⟨by omega, by omega, by omega⟩ (v := iI (Dc n (ixN n (yR n z v)) : Nat)) (by rw [Int.toNat_natCast, re_x _ _ _ _ ⟨by omega, by omega⟩]; exact hc.2.2.2.2.2.1 _ x3) ?_
  exact mw_iret dc_De_triedTo_30 rfl rfl ⟨rfl, rfl⟩
theorem cn_i {n : Nat} {h h1 : mm_H} {j : Nat} {P : Prop} (q : (4 < n → (.inr j : Option Value ⊕ Nat) = .inr 3 ∧ h1 = h) ∧ (n ≤ 4 → P)) (hP : P → False) : 4 < n ∧ j = 3 ∧ h1 = h := by
  by_cases c : 4 < n
  · exact ⟨c, Sum.inr.inj (q.1 c).1, (q.1 c).2⟩
  · exact absurd (q.2 (by omega)) hP
theorem ev_circle {G : mm_G} {d : Nat} {cs : mm_Sh} {I : Nat → Nat → Int32} {J : Nat → Nat → Int64} {F : Nat → Nat → Option Nat} {V : Nat → Nat → Value} {n : Nat} {Dc Wc : Nat → Nat → Nat} (hst : G.1.stackTraces = false) (hW : dk_W F V) (hg : V 0 0 = .int (iI n)) (hn : 1 ≤ n ∧ n ≤ 6) (hA : ck_A Dc Wc cs I J F V) (hP : n ≤ 4 → ∀ x, x < oc_f n → sP n (zr n x) ∧ dP n (zr n x) = (Dc n x : Nat)) (hD : n ≤ 4 → ∀ x, x < oc_f n → Dc n x ≤ 20) {a k : Int} (ha : iB a) (hk : iB k) : mT G mt_De_circle (d + 6) 5 806 [.ref 0, .int (iI a), .int (iI k)] (wd_S ++ cs, I, J, F, V) (fun o h1 => (¬ okS a → o = .inr 1 ∧ h1 = (wd_S ++ cs, I, J, F, V)) ∧ ((okS a ∧ 4 < n) → o = .inr 3 ∧ h1 = (wd_S ++ cs, I, J, F, V)) ∧ ((okS a ∧ n ≤ 4) → o = .inl (some (.int (iI (ct (fun j => ((Dc n j : Nat) : Int) == k) (oc_f n) : Nat)))) ∧ ∃ cs1 I1 J1 F1 V1, h1 = (wd_S ++ cs1, I1, J1, F1, V1) ∧ ck_A Dc Wc cs1 I1 J1 F1 V1 ∧ cf_k I J F V I1 J1 F1 V1)) := by
  refine mT_intro hst (by decide) (Nat.le_of_ble_eq_true rfl) ?_
  show mW G mt_De_circle (d + 6) 5 806 0 [(0, .ref 0), (1, .int (iI a)), (2, .int (iI k))] [] (wd_S ++ cs, I, J, F, V) _
  refine mw_iload_n dc_De_circle_0 rfl 1 rfl ?_
  refine mc_SP1 (mc := 1) (ms := 6) (bc := 4) (bs := 800) (M2 := mt_De_checkSlot) dc_De_circle_1 ml_De_74 ny_De_checkSlot (by decide) (Nat.le_of_ble_eq_true rfl) (ev_checkSlot hst ha) (fun v h1 hY => ?_) rfl (fun j h1 hY => by obtain ⟨hp, rfl, rfl⟩ := ck_x hY; exact ⟨fun _ => ⟨rfl, rfl⟩, fun q => absurd q.1 hp, fun q => absurd q.1 hp⟩)
  obtain ⟨hp, rfl, rfl⟩ := ck_r hY
  refine mw_aload_n dc_De_circle_4 rfl 0 rfl ?_
  refine mc_VP0 (mc := 4) (ms := 800) (bc := 0) (bs := 0) (M2 := mt_De_chartNow) dc_De_circle_5 ml_De_168 rfl rfl ny_De_chartNow (by decide) (Nat.le_of_ble_eq_true rfl) (ev_chartNow hst hW hg hn hA hP) (fun v h1 hY => ?_) rfl (fun j h1 hY => by obtain ⟨h5, rfl, rfl⟩ := cn_i hY (fun q => by obtain ⟨c, cs1, I1, J1, F1, V1, q1, q2⟩ := q; cases q1); exact ⟨fun q => absurd hp q, fun _ => ⟨rfl, rfl⟩, fun q => absurd q.2 (by omega)⟩)
  have h4 : n ≤ 4 := by
    by_cases q : 4 < n
    · exact nomatch (hY.1 q).1
    · omega
  obtain ⟨c, cs1, I1, J1, F1, V1, hv9, rfl, hF, hc, hA1, hf⟩ := hY.2 h4
  cases hv9
  have hN2 := (oc_fa n (by omega)).2
  have hc59 := hc.1
  refine mw_iload_n dc_De_circle_8 rfl 2 rfl ?_
  refine mz_V1 (M2 := mt_Ch_countAt) dc_De_circle_9 ml_De_176 hc.2.2.2.1.1 rfl ny_Ch_countAt (by decide) (Nat.le_of_ble_eq_true rfl) (ev_countAt (tp := fun x => ((Dc n x : Nat) : Int)) hc.2.2.2.1 hc.2.2.2.2.1 (by omega) hk (fun x hx => ⟨hc.2.2.2.2.2.1 x hx, by have := hD h4 x hx; exact iB_mk (by omega) (by omega)⟩)) (fun v h1 hY => ?_)
  obtain ⟨hv, rfl⟩ := hY
  cases hv
  exact mw_iret dc_De_circle_12 rfl rfl ⟨fun q => absurd hp q, fun q => absurd q.2 (by omega), fun _ => ⟨rfl, cs1, I1, J1, F1, V1, rfl, hA1, hf⟩⟩
theorem ev_ways {G : mm_G} {d : Nat} {cs : mm_Sh} {I : Nat → Nat → Int32} {J : Nat → Nat → Int64} {F : Nat → Nat → Option Nat} {V : Nat → Nat → Value} {n : Nat} {Dc Wc : Nat → Nat → Nat} (hst : G.1.stackTraces = false) (hW : dk_W F V) (hg : V 0 0 = .int (iI n)) (hn : 1 ≤ n ∧ n ≤ 6) (hA : ck_A Dc Wc cs I J F V) (hP : n ≤ 4 → ∀ x, x < oc_f n → sP n (zr n x) ∧ dP n (zr n x) = (Dc n x : Nat)) (hD : n ≤ 4 → ∀ x, x < oc_f n → Dc n x ≤ 20) (hH : n ≤ 4 → cw_H n (oc_f n) (Dc n) (Wc n)) {u : Nat → Nat → Int} (hO : ∀ s, s < 5 → or_ok I n s (u s) ∧ sP n (u s)) (hX : n ≤ 4 → ∀ y, sP n y → ix_k n y) {a b : Int} (ha : iB a) (hb : iB b) : mT G mt_De_ways (d + 31) 6 812 [.ref 0, .int (iI a), .int (iI b)] (wd_S ++ cs, I, J, F, V) (fun o h1 => (¬ (okS a ∧ okS b) → o = .inr 1 ∧ h1 = (wd_S ++ cs, I, J, F, V)) ∧ (((okS a ∧ okS b) ∧ 4 < n) → o = .inr 3 ∧ h1 = (wd_S ++ cs, I, J, F, V)) ∧ (((okS a ∧ okS b) ∧ n ≤ 4) → o = .inl (some (.long (lI (Wc n (ixN n (yR n (u a.toNat) (u b.toNat))))))) ∧ ∃ cs1 I1 J1 F1 V1, h1 = (wd_S ++ cs1, I1, J1, F1, V1) ∧ ck_A Dc Wc cs1 I1 J1 F1 V1 ∧ cf_k I J F V I1 J1 F1 V1)) := by
  refine mT_intro hst (by decide) (Nat.le_of_ble_eq_true rfl) ?_
  show mW G mt_De_ways (d + 31) 6 812 0 [(0, .ref 0), (1, .int (iI a)), (2, .int (iI b))] [] (wd_S ++ cs, I, J, F, V) _
  refine mw_iload_n dc_De_ways_0 rfl 1 rfl ?_
  refine mw_iload_n dc_De_ways_1 rfl 2 rfl ?_
  refine mc_SP2 (mc := 2) (ms := 12) (bc := 4) (bs := 800) (M2 := mt_De_checkSlots) dc_De_ways_2 ml_De_94 ny_De_checkSlots (by decide) (Nat.le_of_ble_eq_true rfl) (ev_checkSlots hst ha hb) (fun v h1 hY => ?_) rfl (fun j h1 hY => by obtain ⟨hp, rfl, rfl⟩ := ck_x hY; exact ⟨fun _ => ⟨rfl, rfl⟩, fun q => absurd q.1 hp, fun q => absurd q.1 hp⟩)
  obtain ⟨hp, rfl, rfl⟩ := ck_r hY
  refine mw_aload_n dc_De_ways_5 rfl 0 rfl ?_
  refine mc_VP0 (mc := 4) (ms := 800) (bc := 0) (bs := 0) (M2 := mt_De_chartNow) dc_De_ways_6 ml_De_168 rfl rfl ny_De_chartNow (by decide) (Nat.le_of_ble_eq_true rfl) (ev_chartNow hst hW hg hn hA hP) (fun v h1 hY => ?_) rfl (fun j h1 hY => by obtain ⟨h5, rfl, rfl⟩ := cn_i hY (fun q => by obtain ⟨c, cs1, I1, J1, F1, V1, q1, q2⟩ := q; cases q1); exact ⟨fun q => absurd hp q, fun _ => ⟨rfl, rfl⟩, fun q => absurd q.2 (by omega)⟩)
  have h4 : n ≤ 4 := by
    by_cases q : 4 < n
    · exact nomatch (hY.1 q).1
    · omega
  obtain ⟨c, cs1, I1, J1, F1, V1, hv9, rfl, hF, hc, hA1, hf⟩ := hY.2 h4
  cases hv9
  have hN2 := (oc_fa n (by omega)).2
  have hc59 := hc.1
  have hW1 := cf_W hf hW
  have hg1 := (hf.2.2.2 0 0 (by omega) (by omega)).trans hg
  have hO1 : ∀ s, s < 5 → or_ok I1 n s (u s) := fun s hs p hp => by rw [hf.1 _ (by unfold sp; omega) (by unfold sp; omega) (by unfold sp; omega) (by unfold sp; omega)]; exact (hO s hs).1 p hp
  have pa := (hO a.toNat (by omega)).2
  have pb := (hO b.toNat (by omega)).2
  have py := sP_y pa pb
  refine mw_astore_n dc_De_ways_9 rfl (by decide) rfl ?_
  refine mw_aload_n dc_De_ways_10 rfl 1 rfl ?_
  refine mw_aload_n dc_De_ways_11 rfl 1 rfl ?_
  refine mi_get (ci := 0) (k := 1) dc_De_ways_12 rfl wi_De rfl rfl (by decide) fl_De_15 hW1.1.1 ?_
  refine mw_iload_n dc_De_ways_15 rfl 2 rfl ?_
  refine mi_aald dc_De_ways_16 rfl rfl ⟨by omega, by omega, by decide⟩ (hW1.2.1 a.toNat (by omega)).1 ?_
  refine mi_get (ci := 1) (k := 0) dc_De_ways_17 (sl_W a.toNat (by omega)).1 wi_Sl rfl rfl (by decide) fl_De_91 (hW1.2.1 a.toNat (by omega)).2.1 ?_
  refine mw_aload_n dc_De_ways_20 rfl 1 rfl ?_
  refine mi_get (ci := 0) (k := 1) dc_De_ways_21 rfl wi_De rfl rfl (by decide) fl_De_15 hW1.1.1 ?_
  refine mw_iload_n dc_De_ways_24 rfl 3 rfl ?_
  refine mi_aald dc_De_ways_25 rfl rfl ⟨by omega, by omega, by decide⟩ (hW1.2.1 b.toNat (by omega)).1 ?_
  refine mi_get (ci := 1) (k := 0) dc_De_ways_26 (sl_W b.toNat (by omega)).1 wi_Sl rfl rfl (by decide) fl_De_91 (hW1.2.1 b.toNat (by omega)).2.1 ?_
  refine mz_V2 (M2 := mt_De_relate) dc_De_ways_29 ml_De_141 rfl rfl ny_De_relate (by decide) (Nat.le_of_ble_eq_true rfl) (ev_relate hW1 hg1 hn.2 ⟨(sl_W a.toNat (by omega)).2.1, by unfold sp; omega, by unfold sp; omega⟩ ⟨(sl_W b.toNat (by omega)).2.1, by unfold sp; omega, by unfold sp; omega⟩ ⟨hn.2, by decide⟩ ⟨hn.2, by decide⟩ (hO1 _ (by omega)) (hO1 _ (by omega))) (fun v h1 hY => ?_)
  obtain ⟨hv, rfl⟩ := hY
  cases hv
  refine mw_aload_n dc_De_ways_32 rfl 0 rfl ?_
  refine mw_aload_n dc_De_ways_33 rfl 1 rfl ?_
  refine mi_get (ci := 0) (k := 8) dc_De_ways_34 rfl wi_De rfl rfl (by decide) fl_De_50 hW1.1.2.2.2.2.2.2.1 ?_
  refine mz_V1 (M2 := mt_Ch_waysToPlain) dc_De_ways_37 ml_De_172 hc.2.2.2.1.1 rfl ny_Ch_waysToPlain (by decide) (Nat.le_of_ble_eq_true rfl) (ev_waysToPlain (N := oc_f n) (D := Dc n) (W := Wc n) (y := yR n (u a.toNat) (u b.toNat)) (a := 37) (na := 6) hc.2.2.2.1 hc.2.2.2.2.1 hn.2 (by omega) rfl (hH h4) (fun k hk => by rw [re_x _ _ _ _ ⟨by omega, by omega⟩]; exact hc.2.2.2.2.2.1 k hk) hc.2.2.2.2.2.2 ⟨rfl, by omega⟩ ⟨hn.2, by decide⟩ (fun p hp => re_k pa pb I1 p hp) (hX h4 _ py)) (fun v h1 hY => ?_)
  obtain ⟨hv9, I2, J2, rfl, hI2, hJ2⟩ := hY
  cases hv9
  refine mw_lret dc_De_ways_40 rfl ⟨fun q => absurd hp q, fun q => absurd q.2 (by omega), fun _ => ⟨rfl, cs1, I2, J2, F1, V1, rfl, ck_w hA1 hc h4 rfl (fun x x1 x2 => ?_) (fun x x1 x2 => hJ2.1 x x2) hJ2.2 (fun _ _ _ => rfl), cf_t hf ⟨fun x x1 x2 x3 x4 => ?_, fun x x1 => hJ2.1 x (by omega), fun _ _ => rfl, fun _ _ _ _ => rfl⟩⟩⟩
  · rw [hI2 x x2, re_x _ _ _ _ ⟨by omega, by omega⟩]
  · rw [hI2 x (by omega), re_x _ _ _ _ ⟨x3, x4⟩]
theorem lc_De_181 : Jvm.Cond.constant rn_De 181 2147483647 ∈ mm_aw := mm_in (List.mem_of_getElem? (i := 617) (by decide +kernel)) (by decide +kernel)
def mcl (S : Nat → Int) : Nat → Int × Nat
  | 0 => (2147483647, 0)
  | k + 1 => if S k < (mcl S k).1 then (S k, k) else mcl S k
theorem mcl_i {S : Nat → Int} {N : Nat} (hS : ∀ k, k < N → 0 ≤ S k ∧ S k ≤ 100) : ∀ k, k ≤ N → (0 ≤ (mcl S k).1 ∧ (mcl S k).1 ≤ 2147483647) ∧ ((mcl S k).2 < k ∨ (mcl S k).2 = 0) := fun k => by
  induction k with
  | zero => exact fun _ => ⟨⟨(show (0 : Int) ≤ 2147483647 by decide), (show (2147483647 : Int) ≤ 2147483647 by decide)⟩, Or.inr rfl⟩
  | succ k ih =>
    intro hk
    obtain ⟨i1, i2⟩ := ih (by omega)
    have s := hS k (by omega)
    have e0 : mcl S (k + 1) = if S k < (mcl S k).1 then (S k, k) else mcl S k := rfl
    by_cases c : S k < (mcl S k).1
    · rw [e0, if_pos c]; exact ⟨⟨s.1, by show S k ≤ _; omega⟩, Or.inl (Nat.lt_succ_self k)⟩
    · rw [e0, if_neg c]; exact ⟨i1, by omega⟩
def smc (n : Nat) (Dc : Nat → Nat → Nat) (u : Nat → Nat → Int) (a b c k : Nat) : Int := (Dc n (ixN n (yR n (zr n k) (u a))) : Nat) + (Dc n (ixN n (yR n (zr n k) (u b))) : Nat) + (Dc n (ixN n (yR n (zr n k) (u c))) : Nat)
def mm_k (I I1 : Nat → Nat → Int32) : Prop := ∀ a, a ≠ 36 → a ≠ 37 → a ≠ 38 → I1 a = I a
theorem lp_cme {G : mm_G} {d bc bs : Nat} {cs : mm_Sh} {I0 : Nat → Nat → Int32} {J : Nat → Nat → Int64} {F : Nat → Nat → Option Nat} {V : Nat → Nat → Value} {X : mm_X} {n c a b e : Nat} {Dc Wc : Nat → Nat → Nat} {u : Nat → Nat → Int} (hW : dk_W F V) (hg : V 0 0 = .int (iI n)) (hn : 1 ≤ n ∧ n ≤ 4) (hc : ck_1 Dc Wc (wd_S ++ cs) I0 J V n c) (ha : a < 5) (hb : b < 5) (he : e < 5) (hO : ∀ s, s < 5 → or_ok I0 n s (u s) ∧ sP n (u s)) (hP : ∀ x, x < oc_f n → sP n (zr n x)) (hX : ∀ y, sP n y → ix_k n y) (hD : ∀ x, x < oc_f n → Dc n x ≤ 20) (hx : ∀ I, mm_k I0 I → (∀ k, k < oc_f n → 0 ≤ smc n Dc u a b e k ∧ smc n Dc u a b e k ≤ 100) → mW G mt_De_median (d + 2) bc bs 92 [(6, .int (iI (mcl (smc n Dc u a b e) (oc_f n)).1)), (5, .int (iI ((mcl (smc n Dc u a b e) (oc_f n)).2 : Nat))), (4, .ref c), (0, .ref 0)] [] (wd_S ++ cs, I, J, F, V) X) :
    ∀ (m k : Nat) I, oc_f n - k < m → k ≤ oc_f n → mm_k I0 I → mW G mt_De_median (d + 2) bc bs 25 [(7, .int (iI (k : Nat))), (6, .int (iI (mcl (smc n Dc u a b e) k).1)), (5, .int (iI ((mcl (smc n Dc u a b e) k).2 : Nat))), (4, .ref c), (3, .int (iI (e : Nat))), (2, .int (iI (b : Nat))), (1, .int (iI (a : Nat))), (0, .ref 0)] [] (wd_S ++ cs, I, J, F, V) X := by
  have hS : ∀ k, k < oc_f n → 0 ≤ smc n Dc u a b e k ∧ smc n Dc u a b e k ≤ 100 := fun k hk => by
    have h1 := hD _ (hX _ (sP_y (hP k hk) (hO a ha).2)).2.2.1
    have h2 := hD _ (hX _ (sP_y (hP k hk) (hO b hb).2)).2.2.1
    have h3 := hD _ (hX _ (sP_y (hP k hk) (hO e he).2)).2.2.1
    unfold smc
    omega
  have hc59 := hc.1
  have hN2 := (oc_fa n (by omega)).2
  have hk1 : ∀ {I : Nat → Nat → Int32}, mm_k I0 I → ck_1 Dc Wc (wd_S ++ cs) I J V n c ∧ ∀ s, s < 5 → or_ok I n s (u s) := fun {I} q => ⟨⟨hc.1, hc.2.1, hc.2.2.1, hc.2.2.2.1, hc.2.2.2.2.1, fun x hx => by rw [q _ (by omega) (by omega) (by omega)]; exact hc.2.2.2.2.2.1 x hx, hc.2.2.2.2.2.2⟩, fun s hs p hp => by rw [q _ (by unfold sp; omega) (by unfold sp; omega) (by unfold sp; omega)]; exact (hO s hs).1 p hp⟩
  intro m
  induction m with
  | zero => intro k I h1; exact absurd h1 (Nat.not_lt_zero _)
  | succ m ih =>
    intro k I h1 h2 hI
    have hmc := mcl_i hS k h2
    refine mw_iload dc_De_median_25 0 rfl ?_
    refine mw_aload dc_De_median_27 3 rfl ?_
    refine mi_get (ci := 4) (k := 0) dc_De_median_29 hc.2.2.2.1.1 wi_Ch rfl rfl (by decide) fl_De_182 hc.2.2.2.2.1.1 ?_
    refine mi_icmp_ge (tgt := 92) dc_De_median_32 (by decide) (iB_mk (by omega) (by omega)) (iB_mk (by omega) (by omega)) (fun hh => ?_) (fun hh => ?_)
    · have e9 : k = oc_f n := by omega
      subst e9
      refine mw_pick [1, 2, 3, 7] rfl ?_
      exact hx I hI hS
    · have hk : k < oc_f n := by omega
      have pk := hP k hk
      refine mw_aload dc_De_median_35 3 rfl ?_
      refine mw_iload dc_De_median_37 0 rfl ?_
      refine mw_aload_n dc_De_median_39 rfl 7 rfl ?_
      refine mi_get (ci := 0) (k := 9) dc_De_median_40 rfl wi_De rfl rfl (by decide) fl_De_53 hW.1.2.2.2.2.2.2.2 ?_
      refine mz_V2 (M2 := mt_Ch_layOut) dc_De_median_43 ml_De_185 hc.2.2.2.1.1 rfl ny_Ch_layOut (by decide) (Nat.le_of_ble_eq_true rfl) (ev_layOut (x := k) (a := 38) (na := 6) hc.2.2.2.1 hc.2.2.2.2.1 (by omega) rfl ⟨by omega, by decide⟩ (by omega) (by omega)) (fun v h1 hY => ?_)
      obtain ⟨hv, rfl⟩ := hY
      cases hv
      have q0 : mm_k I0 (va_up I 38 (nr (I 38) 0 n (ly n k n).2)) := fun x x1 x2 x3 => by rw [va_up_ne _ _ x3]; exact hI x x1 x2 x3
      have z0 : ∀ p, p < n → va_up I 38 (nr (I 38) 0 n (ly n k n).2) 38 p = iI (zr n k p) := fun p hp => by rw [va_up_self, nr_a (by omega)]; rfl
      revert q0 z0
      generalize va_up I 38 (nr (I 38) 0 n (ly n k n).2) = K0
      intro q0 z0
      refine mw_aload_n dc_De_median_46 rfl 7 rfl ?_
      refine mw_iload_n dc_De_median_47 rfl 6 rfl ?_
      refine mw_aload dc_De_median_48 3 rfl ?_
      refine mz_V2 (M2 := mt_De_triedTo) dc_De_median_50 ml_De_189 rfl rfl ny_De_triedTo (by decide) (Nat.le_of_ble_eq_true rfl) (ev_triedTo (s := a) (z := zr n k) (v := u a) hW hg (by omega) (hk1 q0).1 ha z0 pk ((hk1 q0).2 a ha) (hO a ha).2 (hX _ (sP_y pk (hO a ha).2))) (fun v h1 hY => ?_)
      obtain ⟨hv, rfl⟩ := hY
      cases hv
      have q1 : mm_k I0 (re_I K0 n (zr n k) (u a)) := fun x x1 x2 x3 => by rw [re_x _ _ _ _ ⟨x1, x2⟩]; exact q0 x x1 x2 x3
      have z1 : ∀ p, p < n → re_I K0 n (zr n k) (u a) 38 p = iI (zr n k p) := fun p hp => by rw [re_x _ _ _ _ ⟨by decide, by decide⟩]; exact z0 p hp
      revert q1 z1
      generalize re_I K0 n (zr n k) (u a) = K1
      intro q1 z1
      refine mw_aload_n dc_De_median_53 rfl 7 rfl ?_
      refine mw_iload_n dc_De_median_54 rfl 5 rfl ?_
      refine mw_aload dc_De_median_55 3 rfl ?_
      refine mz_V2 (M2 := mt_De_triedTo) dc_De_median_57 ml_De_189 rfl rfl ny_De_triedTo (by decide) (Nat.le_of_ble_eq_true rfl) (ev_triedTo (s := b) (z := zr n k) (v := u b) hW hg (by omega) (hk1 q1).1 hb z1 pk ((hk1 q1).2 b hb) (hO b hb).2 (hX _ (sP_y pk (hO b hb).2))) (fun v h1 hY => ?_)
      obtain ⟨hv, rfl⟩ := hY
      cases hv
      have q2 : mm_k I0 (re_I K1 n (zr n k) (u b)) := fun x x1 x2 x3 => by rw [re_x _ _ _ _ ⟨x1, x2⟩]; exact q1 x x1 x2 x3
      have z2 : ∀ p, p < n → re_I K1 n (zr n k) (u b) 38 p = iI (zr n k p) := fun p hp => by rw [re_x _ _ _ _ ⟨by decide, by decide⟩]; exact z1 p hp
      revert q2 z2
      generalize re_I K1 n (zr n k) (u b) = K2
      intro q2 z2
      refine mi_iadd dc_De_median_60 ?_
      refine mw_aload_n dc_De_median_61 rfl 7 rfl ?_
      refine mw_iload_n dc_De_median_62 rfl 4 rfl ?_
      refine mw_aload dc_De_median_63 3 rfl ?_
      refine mz_V2 (M2 := mt_De_triedTo) dc_De_median_65 ml_De_189 rfl rfl ny_De_triedTo (by decide) (Nat.le_of_ble_eq_true rfl) (ev_triedTo (s := e) (z := zr n k) (v := u e) hW hg (by omega) (hk1 q2).1 he z2 pk ((hk1 q2).2 e he) (hO e he).2 (hX _ (sP_y pk (hO e he).2))) (fun v h1 hY => ?_)
      obtain ⟨hv, rfl⟩ := hY
      cases hv
      have q3 : mm_k I0 (re_I K2 n (zr n k) (u e)) := fun x x1 x2 x3 => by rw [re_x _ _ _ _ ⟨x1, x2⟩]; exact q2 x x1 x2 x3
      have z3 : ∀ p, p < n → re_I K2 n (zr n k) (u e) 38 p = iI (zr n k p) := fun p hp => by rw [re_x _ _ _ _ ⟨by decide, by decide⟩]; exact z2 p hp
      revert q3 z3
      generalize re_I K2 n (zr n k) (u e) = K3
      intro q3 z3
      refine mi_iadd dc_De_median_68 ?_
      refine mw_istore dc_De_median_69 (by decide) rfl ?_
      rw [show iI (((Dc n (ixN n (yR n (zr n k) (u a))) : Nat) : Int) + ((Dc n (ixN n (yR n (zr n k) (u b))) : Nat) : Int) + ((Dc n (ixN n (yR n (zr n k) (u e))) : Nat) : Int)) = iI (smc n Dc u a b e k) from rfl]
      have hSk := hS k hk
      have e0 : mcl (smc n Dc u a b e) (k + 1) = if smc n Dc u a b e k < (mcl (smc n Dc u a b e) k).1 then (smc n Dc u a b e k, k) else mcl (smc n Dc u a b e) k := rfl
      refine mw_iload dc_De_median_71 0 rfl ?_
      refine mw_iload dc_De_median_73 2 rfl ?_
      refine mi_icmp_ge (tgt := 86) dc_De_median_75 (by decide) (iB_mk (by omega) (by omega)) (iB_mk (by omega) (by omega)) (fun h075 => ?_) (fun h075 => ?_)
      · refine mi_iinc dc_De_median_86 1 rfl (by decide) rfl ?_
        refine mw_goto (tgt := 25) dc_De_median_89 (by decide) ?_
        refine mw_pick [0, 2, 3, 4, 5, 6, 7, 8] rfl ?_
        rw [if_neg (by omega)] at e0
        have k2 := ih (k + 1) K3 (by omega) (by omega) q3
        rw [e0] at k2
        exact k2
      · refine mw_iload dc_De_median_78 0 rfl ?_
        refine mw_istore dc_De_median_80 (by decide) rfl ?_
        refine mw_iload dc_De_median_82 2 rfl ?_
        refine mw_istore dc_De_median_84 (by decide) rfl ?_
        refine mi_iinc dc_De_median_86 3 rfl (by decide) rfl ?_
        refine mw_goto (tgt := 25) dc_De_median_89 (by decide) ?_
        refine mw_pick [0, 2, 1, 4, 5, 6, 7, 8] rfl ?_
        rw [if_pos (by omega)] at e0
        have k2 := ih (k + 1) K3 (by omega) (by omega) q3
        rw [e0] at k2
        exact k2
theorem ev_median {G : mm_G} {d : Nat} {cs : mm_Sh} {I : Nat → Nat → Int32} {J : Nat → Nat → Int64} {F : Nat → Nat → Option Nat} {V : Nat → Nat → Value} {n : Nat} {Dc Wc : Nat → Nat → Nat} (hst : G.1.stackTraces = false) (hW : dk_W F V) (hg : V 0 0 = .int (iI n)) (hn : 1 ≤ n ∧ n ≤ 6) (hA : ck_A Dc Wc cs I J F V) (hP : n ≤ 4 → ∀ x, x < oc_f n → sP n (zr n x) ∧ dP n (zr n x) = (Dc n x : Nat)) (hD : n ≤ 4 → ∀ x, x < oc_f n → Dc n x ≤ 20) {u : Nat → Nat → Int} (hO : ∀ s, s < 5 → or_ok I n s (u s) ∧ sP n (u s)) (hX : n ≤ 4 → ∀ y, sP n y → ix_k n y) {a b e : Int} (ha : iB a) (hb : iB b) (he : iB e) : mT G mt_De_median (d + 6) 7 818 [.ref 0, .int (iI a), .int (iI b), .int (iI e)] (wd_S ++ cs, I, J, F, V) (fun o h1 => (¬ (okS a ∧ okS b ∧ okS e) → o = .inr 1 ∧ h1 = (wd_S ++ cs, I, J, F, V)) ∧ (((okS a ∧ okS b ∧ okS e) ∧ 4 < n) → o = .inr 3 ∧ h1 = (wd_S ++ cs, I, J, F, V)) ∧ (((okS a ∧ okS b ∧ okS e) ∧ n ≤ 4) → o = .inl (some (.int (iI (mcl (smc n Dc u a.toNat b.toNat e.toNat) (oc_f n)).1))) ∧ ∃ cs1 I1 J1 F1 V1, h1 = (wd_S ++ cs1, I1, J1, F1, V1) ∧ ck_A Dc Wc cs1 I1 J1 F1 V1 ∧ (∀ x, x < 59 → (x < 25 ∨ 33 < x) → x ≠ 36 → x ≠ 37 → x ≠ 38 → x ≠ 19 → I1 x = I x) ∧ (∀ p, p < n → I1 19 p = iI (zr n (mcl (smc n Dc u a.toNat b.toNat e.toNat) (oc_f n)).2 p)) ∧ (∀ x, x < 59 → J1 x = J x) ∧ (∀ x, x ≠ 34 → F1 x = F x) ∧ (∀ x j, x < 59 → ¬ (x = 24 ∧ (j = 2 ∨ j = 3)) → ¬ (x = 18 ∧ j = 3) → V1 x j = V x j) ∧ V1 18 3 = .int (iI 0))) := by
  refine mT_intro hst (by decide) (Nat.le_of_ble_eq_true rfl) ?_
  show mW G mt_De_median (d + 6) 7 818 0 [(0, .ref 0), (1, .int (iI a)), (2, .int (iI b)), (3, .int (iI e))] [] (wd_S ++ cs, I, J, F, V) _
  refine mw_iload_n dc_De_median_0 rfl 1 rfl ?_
  refine mw_iload_n dc_De_median_1 rfl 2 rfl ?_
  refine mc_SP2 (mc := 2) (ms := 12) (bc := 5) (bs := 806) (M2 := mt_De_checkSlots) dc_De_median_2 ml_De_94 ny_De_checkSlots (by decide) (Nat.le_of_ble_eq_true rfl) (ev_checkSlots hst ha hb) (fun v h1 hY => ?_) rfl (fun j h1 hY => by obtain ⟨hp, rfl, rfl⟩ := ck_x hY; exact ⟨fun _ => ⟨rfl, rfl⟩, fun q => absurd ⟨q.1.1, q.1.2.1⟩ hp, fun q => absurd ⟨q.1.1, q.1.2.1⟩ hp⟩)
  obtain ⟨hp, rfl, rfl⟩ := ck_r hY
  refine mw_iload_n dc_De_median_5 rfl 3 rfl ?_
  refine mc_SP1 (mc := 1) (ms := 6) (bc := 4) (bs := 800) (M2 := mt_De_checkSlot) dc_De_median_6 ml_De_74 ny_De_checkSlot (by decide) (Nat.le_of_ble_eq_true rfl) (ev_checkSlot hst he) (fun v h1 hY => ?_) rfl (fun j h1 hY => by obtain ⟨hp, rfl, rfl⟩ := ck_x hY; exact ⟨fun _ => ⟨rfl, rfl⟩, fun q => absurd q.1.2.2 hp, fun q => absurd q.1.2.2 hp⟩)
  obtain ⟨hp2, rfl, rfl⟩ := ck_r hY
  refine mw_aload_n dc_De_median_9 rfl 0 rfl ?_
  have hs3 : okS a ∧ okS b ∧ okS e := ⟨hp.1, hp.2, hp2⟩
  refine mc_VP0 (mc := 4) (ms := 800) (bc := 0) (bs := 0) (M2 := mt_De_chartNow) dc_De_median_10 ml_De_168 rfl rfl ny_De_chartNow (by decide) (Nat.le_of_ble_eq_true rfl) (ev_chartNow hst hW hg hn hA hP) (fun v h1 hY => ?_) rfl (fun j h1 hY => by obtain ⟨h5, rfl, rfl⟩ := cn_i hY (fun q => by obtain ⟨c, cs1, I1, J1, F1, V1, q1, q2⟩ := q; cases q1); exact ⟨fun q => absurd hs3 q, fun _ => ⟨rfl, rfl⟩, fun q => absurd q.2 (by omega)⟩)
  have h4 : n ≤ 4 := by
    by_cases q : 4 < n
    · exact nomatch (hY.1 q).1
    · omega
  obtain ⟨c, cs1, I1, J1, F1, V1, hv9, rfl, hF, hc, hA1, hf⟩ := hY.2 h4
  cases hv9
  have hN2 := (oc_fa n (by omega)).2
  have hc59 := hc.1
  have hW1 := cf_W hf hW
  have hg1 := (hf.2.2.2 0 0 (by omega) (by omega)).trans hg
  have hO1 : ∀ s, s < 5 → or_ok I1 n s (u s) ∧ sP n (u s) := fun s hs => ⟨fun p hp => by rw [hf.1 _ (by unfold sp; omega) (by unfold sp; omega) (by unfold sp; omega) (by unfold sp; omega)]; exact (hO s hs).1 p hp, (hO s hs).2⟩
  refine mw_astore dc_De_median_13 (by decide) rfl ?_
  refine mi_const dc_De_median_15 ?_
  refine mw_istore dc_De_median_16 (by decide) rfl ?_
  refine mw_ldc dc_De_median_18 lc_De_181 ?_
  refine mw_istore dc_De_median_20 (by decide) rfl ?_
  refine mi_const dc_De_median_22 ?_
  refine mw_istore dc_De_median_23 (by decide) rfl ?_
  rw [show iI a = iI ((a.toNat : Nat) : Int) by rw [show ((a.toNat : Nat) : Int) = a by omega], show iI b = iI ((b.toNat : Nat) : Int) by rw [show ((b.toNat : Nat) : Int) = b by omega], show iI e = iI ((e.toNat : Nat) : Int) by rw [show ((e.toNat : Nat) : Int) = e by omega]]
  refine mw_pick [0, 1, 2, 3, 7, 6, 5, 4] rfl ?_
  refine lp_cme (I0 := I1) (u := u) (a := a.toNat) (b := b.toNat) (e := e.toNat) hW1 hg1 ⟨hn.1, h4⟩ hc (by omega) (by omega) (by omega) hO1 (fun x hx => (hP h4 x hx).1) (hX h4) (hD h4) (fun K hK hS => ?_) (oc_f n + 1) 0 I1 (by omega) (by omega) (fun _ _ _ _ => rfl)
  have hmc := mcl_i hS (oc_f n) (Nat.le_refl _)
  have hbest : (mcl (smc n Dc u a.toNat b.toNat e.toNat) (oc_f n)).2 < oc_f n := by omega
  refine mw_aload dc_De_median_92 2 rfl ?_
  refine mw_iload dc_De_median_94 1 rfl ?_
  refine mw_aload_n dc_De_median_96 rfl 3 rfl ?_
  refine mi_get (ci := 0) (k := 9) dc_De_median_97 rfl wi_De rfl rfl (by decide) fl_De_53 hW1.1.2.2.2.2.2.2.2 ?_
  refine mz_V2 (M2 := mt_Ch_layOut) dc_De_median_100 ml_De_185 hc.2.2.2.1.1 rfl ny_Ch_layOut (by decide) (Nat.le_of_ble_eq_true rfl) (ev_layOut (x := (mcl (smc n Dc u a.toNat b.toNat e.toNat) (oc_f n)).2) (a := 38) (na := 6) hc.2.2.2.1 hc.2.2.2.2.1 (by omega) rfl ⟨by omega, by decide⟩ (by omega) (by omega)) (fun v h1 hY => ?_)
  obtain ⟨hv, rfl⟩ := hY
  cases hv
  refine mw_aload_n dc_De_median_103 rfl 3 rfl ?_
  refine mi_get (ci := 0) (k := 1) dc_De_median_104 rfl wi_De rfl rfl (by decide) fl_De_15 hW1.1.1 ?_
  refine mi_const dc_De_median_107 ?_
  refine mi_aald dc_De_median_108 rfl rfl ⟨by omega, by omega, by decide⟩ (hW1.2.1 4 (by omega)).1 ?_
  refine mw_aload_n dc_De_median_109 rfl 3 rfl ?_
  refine mi_get (ci := 0) (k := 9) dc_De_median_110 rfl wi_De rfl rfl (by decide) fl_De_53 hW1.1.2.2.2.2.2.2.2 ?_
  refine mz_V1 (M2 := mt_Sl_become) dc_De_median_113 ml_De_82 (sl_W 4 (by omega)).1 rfl ny_Sl_become (by decide) (Nat.le_of_ble_eq_true rfl) (ev_become (I := va_up K 38 (nr (K 38) 0 n (ly n (mcl (smc n Dc u a.toNat b.toNat e.toNat) (oc_f n)).2 n).2)) (p := 18) (a := 38) (n := 6) (sl_W 4 (by omega)) (hW1.2.1 4 (by omega)).2 rfl ⟨by decide, by decide⟩) (fun v h1 hY => ?_)
  obtain ⟨hv, rfl⟩ := hY
  cases hv
  refine mw_iload dc_De_median_116 0 rfl ?_
  refine mw_iret dc_De_median_118 rfl rfl ⟨fun q => absurd hs3 q, fun q => absurd q.2 (by omega), fun _ => ⟨rfl, cs1, _, J1, F1, _, rfl, ck_s hA1 rfl (fun x x1 => ?_) (fun _ _ => rfl) (fun x j x1 => fu_n1 _ _ (by omega)), fun x x1 x2 x3 x4 x5 x6 => ?_, fun p hp9 => ?_, hf.2.1, hf.2.2.1, fun x j x1 x2 x3 => ?_, fu_at _ 18 3 _⟩⟩
  · rw [va_up_ne _ _ (by omega), va_up_ne _ _ (by omega)]; exact hK x (by omega) (by omega) (by omega)
  · rw [va_up_ne _ _ x6, va_up_ne _ _ x5, hK x x3 x4 x5]; exact hf.1 x x1 x2 x3 x4
  · rw [va_up_self, va_up_self]
    unfold va_cpy
    rw [if_pos (by omega), show 0 + (p - 0) = p by omega, nr_a (by omega)]
    rfl
  · rw [fu_ne x3]; exact hf.2.2.2 x j x1 x2
