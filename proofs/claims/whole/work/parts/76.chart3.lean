/-! Chart.measure, waysOfWalked, waysToPlain -/
def vd_k (V V1 : Nat → Nat → Value) : Prop := ∀ a j, ¬ (a = 24 ∧ (j = 2 ∨ j = 3)) → V1 a j = V a j
theorem vd_r (V : Nat → Nat → Value) : vd_k V V := fun _ _ _ => rfl
theorem vd_t {V V1 V2 : Nat → Nat → Value} (h1 : vd_k V V1) (h2 : vd_k V1 V2) : vd_k V V2 := fun a j q => (h2 a j q).trans (h1 a j q)
theorem vd_dr (V : Nat → Nat → Value) (n : Nat) : vd_k V (dr_W V n) := fun a j q => by
  unfold dr_W
  rw [fu_ne (fun r => q ⟨r.1, Or.inr r.2⟩), fu_ne (fun r => q ⟨r.1, Or.inl r.2⟩)]
theorem vd_D {V V1 : Nat → Nat → Value} (h : vd_k V V1) (hD : dr_V V) : dr_V V1 := by
  obtain ⟨h0, h1, h4, h5, h6, h7, h8, h9, h10⟩ := hD
  exact ⟨(h 24 0 (by omega)).trans h0, (h 24 1 (by omega)).trans h1, (h 24 4 (by omega)).trans h4, (h 24 5 (by omega)).trans h5, (h 24 6 (by omega)).trans h6, (h 24 7 (by omega)).trans h7, (h 24 8 (by omega)).trans h8, (h 24 9 (by omega)).trans h9, (h 24 10 (by omega)).trans h10⟩
theorem vd_W {F : Nat → Nat → Option Nat} {V V1 : Nat → Nat → Value} (h : vd_k V V1) (hW : dk_W F V) : dk_W F V1 := by
  obtain ⟨⟨h1, h2, h3, h4, h5, h7, h8, h9⟩, hs, ht, hD⟩ := hW
  refine ⟨⟨(h 0 1 (by omega)).trans h1, (h 0 2 (by omega)).trans h2, (h 0 3 (by omega)).trans h3, (h 0 4 (by omega)).trans h4, (h 0 5 (by omega)).trans h5, (h 0 7 (by omega)).trans h7, (h 0 8 (by omega)).trans h8, (h 0 9 (by omega)).trans h9⟩, fun s h5 => ?_, (h 22 0 (by omega)).trans ht, vd_D h hD⟩
  obtain ⟨a, b, c, d⟩ := hs s h5
  exact ⟨a, (h _ _ (by unfold sp; omega)).trans b, (h _ _ (by unfold sp; omega)).trans c, (h _ _ (by unfold sp; omega)).trans d⟩
theorem vd_C {V V1 : Nat → Nat → Value} {c N n : Nat} (h : vd_k V V1) (hc : 59 ≤ c) (hV : ch_V V c N n) : ch_V V1 c N n := by
  obtain ⟨h0, h1, h2, h3, h4⟩ := hV
  exact ⟨(h c 0 (by omega)).trans h0, (h c 1 (by omega)).trans h1, (h c 2 (by omega)).trans h2, (h c 3 (by omega)).trans h3, (h c 4 (by omega)).trans h4⟩
/-- the desk's distance of a row -/
def dP (n : Nat) (z : Nat → Int) : Int := di_f (eaR n z) (soR n z) n
def zr (n x : Nat) : Nat → Int := (ly n x n).2
def cm_R (n c k : Nat) (I0 I : Nat → Nat → Int32) : Prop := (∀ a, (a < 25 ∨ 33 < a) → a ≠ 36 → a ≠ 37 → a ≠ c + 1 → a ≠ c + 3 → I a = I0 a) ∧ ∀ x, x < k → I (c + 1) x = iI (dP n (zr n x))
theorem lp_mea {G : mm_G} {d bc bs : Nat} {cs : mm_Sh} {J : Nat → Nat → Int64} {F : Nat → Nat → Option Nat} {I0 : Nat → Nat → Int32} {V0 : Nat → Nat → Value} {X : mm_X} {c N n : Nat} (hc : 59 ≤ c) (hS : ch_S (wd_S ++ cs) c N) (hC : ch_V V0 c N n) (hD : dr_V V0) (hn : 1 ≤ n ∧ n ≤ 6) (hN : N < 100000) (hP : ∀ x, x < N → sP n (zr n x)) (hx : ∀ I V, cm_R n c N I0 I → vd_k V0 V → X (.inl none) (wd_S ++ cs, I, J, F, V)) :
    ∀ (m k : Nat) I V, N - k < m → k ≤ N → cm_R n c k I0 I → vd_k V0 V → mW G mt_Ch_measure (d + 4) bc bs 2 [(2, .int (iI (k : Nat))), (1, .ref 24), (0, .ref c)] [] (wd_S ++ cs, I, J, F, V) X := by
  intro m
  induction m with
  | zero => intro k I V h1; exact absurd h1 (Nat.not_lt_zero _)
  | succ m ih =>
    intro k I V h1 h2 hR hv
    have hC1 := vd_C hv hc hC
    have hD1 := vd_D hv hD
    refine mw_iload_n dc_Ch_measure_2 rfl 0 rfl ?_
    refine mw_aload_n dc_Ch_measure_3 rfl 2 rfl ?_
    refine mi_get (ci := 4) (k := 0) dc_Ch_measure_4 hS.1 wi_Ch rfl rfl (by decide) fl_Ch_15 hC1.1 ?_
    refine mi_icmp_ge (tgt := 47) dc_Ch_measure_7 (by decide) (iB_mk (by omega) (by omega)) (iB_mk (by omega) (by omega)) (fun hh => ?_) (fun hh => ?_)
    · have e : k = N := by omega
      subst e
      exact mw_vret dc_Ch_measure_47 rfl (hx I V hR hv)
    · have hp := hP k (by omega)
      refine mw_aload_n dc_Ch_measure_10 rfl 2 rfl ?_
      refine mw_iload_n dc_Ch_measure_11 rfl 0 rfl ?_
      refine mw_aload_n dc_Ch_measure_12 rfl 2 rfl ?_
      refine mi_get (ci := 4) (k := 3) dc_Ch_measure_13 hS.1 wi_Ch rfl rfl (by decide) fl_Ch_26 hC1.2.2.2.1 ?_
      refine mz_V2 (M2 := mt_Ch_layOut) dc_Ch_measure_16 ml_Ch_29 hS.1 rfl ny_Ch_layOut (by decide) (Nat.le_of_ble_eq_true rfl) (ev_layOut hS hC1 hn.2 hS.2.2.2 ⟨by omega, by decide⟩ (by omega) (by omega)) (fun v h1 hY => ?_)
      obtain ⟨hv9, rfl⟩ := hY
      cases hv9
      refine mw_aload_n dc_Ch_measure_19 rfl 1 rfl ?_
      refine mw_aload_n dc_Ch_measure_20 rfl 2 rfl ?_
      refine mi_get (ci := 4) (k := 3) dc_Ch_measure_21 hS.1 wi_Ch rfl rfl (by decide) fl_Ch_26 hC1.2.2.2.1 ?_
      refine mw_aload_n dc_Ch_measure_24 rfl 2 rfl ?_
      refine mi_get (ci := 4) (k := 2) dc_Ch_measure_25 hS.1 wi_Ch rfl rfl (by decide) fl_Ch_9 hC1.2.2.1 ?_
      refine mz_V2 (M2 := mt_Dr_draw) dc_Ch_measure_28 ml_Ch_33 rfl rfl ny_Dr_draw (by decide) (Nat.le_of_ble_eq_true rfl) (ev_draw (y := zr n k) (ea := eaR n (zr n k)) (so := soR n (zr n k)) hD1 hn.2 (by omega) hS.2.2.2 ⟨by omega, by decide⟩ (fun p hp9 => ⟨by rw [va_up_self, nr_a (by omega)]; rfl, sP_n hp p hp9⟩) (dr_ok _ hp)) (fun v h1 hY => ?_)
      obtain ⟨hv9, rfl⟩ := hY
      cases hv9
      have hC2 := vd_C (vd_dr V n) hc hC1
      refine mw_aload_n dc_Ch_measure_31 rfl 2 rfl ?_
      refine mi_get (ci := 4) (k := 1) dc_Ch_measure_32 hS.1 wi_Ch rfl rfl (by decide) fl_Ch_18 hC2.2.1 ?_
      refine mw_iload_n dc_Ch_measure_35 rfl 0 rfl ?_
      refine mw_aload_n dc_Ch_measure_36 rfl 1 rfl ?_
      refine mz_V0 (M2 := mt_Dr_fewestReversals) dc_Ch_measure_37 ml_Ch_39 rfl rfl ny_Dr_fewestReversals (by decide) (Nat.le_of_ble_eq_true rfl) (ev_fewest (I := (dr_I (va_up I (c + 3) (nr (I (c + 3)) 0 n (ly n k n).2)) n (zr n k) (soR n (zr n k)))) (vd_D (vd_dr V n) hD1) (kn_e (dr_ok _ hp)) kn_p kn_b hn.2 (dr_WL V n) (dr_WP V n)) (fun v h1 hY => ?_)
      obtain ⟨hv9, rfl⟩ := hY
      cases hv9
      have hk : sc_k (va_up I (c + 3) (nr (I (c + 3)) 0 n (ly n k n).2)) (va_up (va_up (dr_I (va_up I (c + 3) (nr (I (c + 3)) 0 n (ly n k n).2)) n (zr n k) (soR n (zr n k))) 30 (nb ((dr_I (va_up I (c + 3) (nr (I (c + 3)) 0 n (ly n k n).2)) n (zr n k) (soR n (zr n k))) 30) (2 * n + 2) (cc_f (eaR n (zr n k)) (soR n (zr n k)) n (2 * n + 2)).1)) 33 (nn ((dr_I (va_up I (c + 3) (nr (I (c + 3)) 0 n (ly n k n).2)) n (zr n k) (soR n (zr n k))) 33) (wb_f (eaR n (zr n k)) (pa_f (soR n (zr n k)) n) (bd_f (soR n (zr n k)) n) (2 * n + 2)).2 (wb_f (eaR n (zr n k)) (pa_f (soR n (zr n k)) n) (bd_f (soR n (zr n k)) n) (2 * n + 2)).1)) := sc_t (sc_dr _ n _ _) (sc_t (sc_u _ (by omega)) (sc_u _ (by omega)))
      revert hk
      generalize va_up (va_up (dr_I (va_up I (c + 3) (nr (I (c + 3)) 0 n (ly n k n).2)) n (zr n k) (soR n (zr n k))) 30 (nb ((dr_I (va_up I (c + 3) (nr (I (c + 3)) 0 n (ly n k n).2)) n (zr n k) (soR n (zr n k))) 30) (2 * n + 2) (cc_f (eaR n (zr n k)) (soR n (zr n k)) n (2 * n + 2)).1)) 33 (nn ((dr_I (va_up I (c + 3) (nr (I (c + 3)) 0 n (ly n k n).2)) n (zr n k) (soR n (zr n k))) 33) (wb_f (eaR n (zr n k)) (pa_f (soR n (zr n k)) n) (bd_f (soR n (zr n k)) n) (2 * n + 2)).2 (wb_f (eaR n (zr n k)) (pa_f (soR n (zr n k)) n) (bd_f (soR n (zr n k)) n) (2 * n + 2)).1) = K
      intro hk
      refine mi_iast dc_Ch_measure_40 hS.2.1 ⟨by omega, by omega, by omega⟩ (I' := va_up K (c + 1) (upd (K (c + 1)) k (iI (dP n (zr n k))))) (by rw [Int.toNat_natCast]; rfl) ?_
      refine mi_iinc dc_Ch_measure_41 0 rfl (by decide) rfl ?_
      refine mw_goto (tgt := 2) dc_Ch_measure_44 (by decide) ?_
      refine mw_pick [0, 1, 2] rfl ?_
      refine ih (k + 1) _ _ (by omega) (by omega) ⟨fun a a1 a6 a7 a2 a3 => ?_, fun x hx9 => ?_⟩ (vd_t hv (vd_dr V n))
      · rw [va_up_ne _ _ a2, hk a a1 a6 a7, va_up_ne _ _ a3]; exact hR.1 a a1 a6 a7 a2 a3
      · rw [va_up_self]
        by_cases e : x = k
        · rw [e, pk_us]
        · rw [pk_un e, hk (c + 1) (by omega) (by omega) (by omega), va_up_ne _ _ (by omega)]; exact hR.2 x (by omega)
theorem ev_measure {G : mm_G} {d : Nat} {cs : mm_Sh} {J : Nat → Nat → Int64} {F : Nat → Nat → Option Nat} {I0 : Nat → Nat → Int32} {V0 : Nat → Nat → Value} {c N n : Nat} (hc : 59 ≤ c) (hS : ch_S (wd_S ++ cs) c N) (hC : ch_V V0 c N n) (hD : dr_V V0) (hn : 1 ≤ n ∧ n ≤ 6) (hN : N < 100000) (hP : ∀ x, x < N → sP n (zr n x)) : mE G mt_Ch_measure (d + 4) 0 0 [.ref c, .ref 24] (wd_S ++ cs, I0, J, F, V0) (fun o h1 => o = .inl none ∧ ∃ (I1 : Nat → Nat → Int32) (V1 : Nat → Nat → Value), h1 = (wd_S ++ cs, I1, J, F, V1) ∧ cm_R n c N I0 I1 ∧ vd_k V0 V1) := by
  refine mE_intro (by decide) (fun k h q => nomatch q.1) (Nat.le_of_ble_eq_true rfl) ?_
  show mW G mt_Ch_measure (d + 4) 0 0 0 [(0, .ref c), (1, .ref 24)] [] (wd_S ++ cs, I0, J, F, V0) _
  refine mi_const dc_Ch_measure_0 ?_
  refine mw_istore_n dc_Ch_measure_1 rfl (by decide) rfl ?_
  refine mw_pick [0, 2, 1] rfl ?_
  exact lp_mea hc hS hC hD hn hN hP (fun I V hR hv => ⟨rfl, I, V, rfl, hR, hv⟩) (N + 1) 0 I0 V0 (by omega) (by omega) ⟨fun _ _ _ _ _ _ => rfl, fun x hx => absurd hx (Nat.not_lt_zero _)⟩ (vd_r _)
def nbc (n x i j : Nat) : Nat := (ix_f (tI (zr n x) i j) n n).toNat
/-- the chart's indices: a neighbour's row is the turned row -/
def cw_H (n N : Nat) (D W : Nat → Nat) : Prop := (∀ x, x < N → (∀ p, p < n → -100 ≤ zr n x p ∧ zr n x p ≤ 100) ∧ D x ≤ 20 ∧ ∀ i j, i ≤ j → j < n → 0 ≤ ix_f (tI (zr n x) i j) n n ∧ nbc n x i j < N ∧ ∀ p, p < n → zr n (nbc n x i j) p = tI (zr n x) i j p) ∧ ∀ x, x < N → (D x = 0 → W x = 1) ∧ (0 < D x → W x = s2 (fun i j => if D x = D (nbc n x i j) + 1 then W (nbc n x i j) else 0) n n)
def kw_M (c N : Nat) (W : Nat → Nat) (J : Nat → Nat → Int64) : Prop := ∀ x, x < N → J (c + 2) x = lI 0 ∨ J (c + 2) x = lI (W x)
def kw_k (c N : Nat) (W : Nat → Nat) (J J1 : Nat → Nat → Int64) : Prop := (∀ a, a ≠ c + 2 → J1 a = J a) ∧ kw_M c N W J1
theorem lp_ww1 {G : mm_G} {sh : mm_Sh} {F : Nat → Nat → Option Nat} {V : Nat → Nat → Value} {d bc bs f x i : Nat} {I : Nat → Nat → Int32} {J0 : Nat → Nat → Int64} {X : mm_X} {c N n : Nat} {D W : Nat → Nat} (hS : ch_S sh c N) (hC : ch_V V c N n) (hn : n ≤ 6) (hN : N < 100000) (hH : cw_H n N D W) (hrec : ∀ (x : Nat) (I : Nat → Nat → Int32) (J : Nat → Nat → Int64), D x = f → x < N → (∀ k, k < N → I (c + 1) k = iI (D k : Nat)) → (∀ p, p < n → I (c + 3) p = iI (zr n x p)) → kw_M c N W J → mE G mt_Ch_waysOfWalked (d) 0 0 [.ref c, .int (iI (x : Nat)), .int (iI (f : Nat))] (sh, I, J, F, V) (fun o h1 => o = .inl (some (.long (lI (W (x))))) ∧ ∃ J1, h1 = (sh, I, J1, F, V) ∧ kw_k c N W J J1)) (hx : x < N) (hDx : D x = f + 1) (ht : ∀ k, k < N → I (c + 1) k = iI (D k : Nat)) (hz : ∀ p, p < n → I (c + 3) p = iI (zr n x p)) (hi : i < n) (hX : ∀ J, kw_k c N W J0 J → mW G mt_Ch_waysOfWalked (d + 1) bc bs 107 [(5, .int (iI (i : Nat))), (3, .long (lI (s2 (fun i j => if D x = D (nbc n x i j) + 1 then W (nbc n x i j) else 0) n i + s1 (fun i j => if D x = D (nbc n x i j) + 1 then W (nbc n x i j) else 0) i (n - i)))), (2, .int (iI ((f + 1 : Nat) : Int))), (1, .int (iI (x : Nat))), (0, .ref c)] [] (sh, I, J, F, V) X) :
    ∀ (m t : Nat) J, n - i - t < m → i + t ≤ n → kw_k c N W J0 J → mW G mt_Ch_waysOfWalked (d + 1) bc bs 35 [(6, .int (iI (i + t : Nat))), (5, .int (iI (i : Nat))), (3, .long (lI (s2 (fun i j => if D x = D (nbc n x i j) + 1 then W (nbc n x i j) else 0) n i + s1 (fun i j => if D x = D (nbc n x i j) + 1 then W (nbc n x i j) else 0) i t))), (2, .int (iI ((f + 1 : Nat) : Int))), (1, .int (iI (x : Nat))), (0, .ref c)] [] (sh, I, J, F, V) X := by
  obtain ⟨b1, b2, b3⟩ := hH.1 x hx
  intro m
  induction m with
  | zero => intro t J h1; exact absurd h1 (Nat.not_lt_zero _)
  | succ m ih =>
    intro t J h1 h2 hJ
    refine mw_iload dc_Ch_waysOfWalked_35 0 rfl ?_
    refine mw_aload_n dc_Ch_waysOfWalked_37 rfl 5 rfl ?_
    refine mi_get (ci := 4) (k := 2) dc_Ch_waysOfWalked_38 hS.1 wi_Ch rfl rfl (by decide) fl_Ch_9 hC.2.2.1 ?_
    refine mi_icmp_ge (tgt := 107) dc_Ch_waysOfWalked_41 (by decide) (iB_mk (by omega) (by omega)) (iB_mk (by omega) (by omega)) (fun hh => ?_) (fun hh => ?_)
    · have e : t = n - i := by omega
      subst e
      refine mw_pick [1, 2, 3, 4, 5] rfl ?_
      exact hX J hJ
    · have hj : i + t < n := by omega
      obtain ⟨n0, n1, n2⟩ := b3 i (i + t) (by omega) hj
      obtain ⟨y1, y2, -⟩ := hH.1 _ n1
      refine mw_aload_n dc_Ch_waysOfWalked_44 rfl 5 rfl ?_
      refine mi_get (ci := 4) (k := 3) dc_Ch_waysOfWalked_45 hS.1 wi_Ch rfl rfl (by decide) fl_Ch_26 hC.2.2.2.1 ?_
      refine mw_iload dc_Ch_waysOfWalked_48 1 rfl ?_
      refine mw_iload dc_Ch_waysOfWalked_50 0 rfl ?_
      refine mz_SN3 (M2 := mt_De_turn) dc_Ch_waysOfWalked_52 ml_Ch_66 mn_Ch_66 ny_De_turn (by decide) (Nat.le_of_ble_eq_true rfl) (ev_turn hS.2.2.2 (i := i) (j := i + t) (by omega) (by decide) (by omega)) (fun v h1 hY => ?_)
      obtain ⟨hv9, rfl⟩ := hY
      cases hv9
      refine mw_aload_n dc_Ch_waysOfWalked_55 rfl 5 rfl ?_
      refine mw_aload_n dc_Ch_waysOfWalked_56 rfl 5 rfl ?_
      refine mi_get (ci := 4) (k := 3) dc_Ch_waysOfWalked_57 hS.1 wi_Ch rfl rfl (by decide) fl_Ch_26 hC.2.2.2.1 ?_
      refine mz_V1 (M2 := mt_Ch_indexOf) dc_Ch_waysOfWalked_60 ml_Ch_58 hS.1 rfl ny_Ch_indexOf (by decide) (Nat.le_of_ble_eq_true rfl) (ev_indexOf (y := tI (zr n x) i (i + t)) hS hC hn hS.2.2.2 ⟨by omega, by decide⟩ (fun p hp => ⟨by rw [va_up_self]; exact tI_i hj hz p hp, tI_b (b := 100) hj b1 p hp⟩)) (fun v h1 hY => ?_)
      obtain ⟨hv9, rfl⟩ := hY
      cases hv9
      rw [show iI (ix_f (tI (zr n x) i (i + t)) n n) = iI ((nbc n x i (i + t) : Nat) : Int) from congrArg iI (by unfold nbc; omega)]
      refine mw_istore dc_Ch_waysOfWalked_63 (by decide) rfl ?_
      refine mw_aload_n dc_Ch_waysOfWalked_65 rfl 6 rfl ?_
      refine mi_get (ci := 4) (k := 1) dc_Ch_waysOfWalked_66 hS.1 wi_Ch rfl rfl (by decide) fl_Ch_18 hC.2.1 ?_
      refine mw_iload dc_Ch_waysOfWalked_69 0 rfl ?_
      refine mi_iald dc_Ch_waysOfWalked_71 hS.2.1 ⟨by omega, by omega, by omega⟩ (v := iI (D (nbc n x i (i + t)) : Nat)) (by rw [Int.toNat_natCast, va_up_ne _ _ (by omega)]; exact ht _ n1) ?_
      refine mw_iload_n dc_Ch_waysOfWalked_72 rfl 4 rfl ?_
      refine mi_const dc_Ch_waysOfWalked_73 ?_
      refine mi_isub dc_Ch_waysOfWalked_74 ?_
      refine mi_icmp_ne (tgt := 90) dc_Ch_waysOfWalked_75 (by decide) (iB_mk (by omega) (by omega)) (iB_mk (by omega) (by omega)) (fun hc => ?_) (fun hc => ?_)
      · refine mw_aload_n dc_Ch_waysOfWalked_90 rfl 6 rfl ?_
        refine mi_get (ci := 4) (k := 3) dc_Ch_waysOfWalked_91 hS.1 wi_Ch rfl rfl (by decide) fl_Ch_26 hC.2.2.2.1 ?_
        refine mw_iload dc_Ch_waysOfWalked_94 2 rfl ?_
        refine mw_iload dc_Ch_waysOfWalked_96 1 rfl ?_
        refine mz_SN3 (M2 := mt_De_turn) dc_Ch_waysOfWalked_98 ml_Ch_66 mn_Ch_66 ny_De_turn (by decide) (Nat.le_of_ble_eq_true rfl) (ev_turn hS.2.2.2 (i := i) (j := i + t) (by omega) (by decide) (by omega)) (fun v h1 hY => ?_)
        obtain ⟨hv9, rfl⟩ := hY
        cases hv9
        refine mw_h (h' := (sh, I, J, F, V)) (by rw [va_up_self, up_up, tu_tu, up_id]) ?_
        refine mi_iinc dc_Ch_waysOfWalked_101 1 rfl (by decide) rfl ?_
        refine mw_goto (tgt := 35) dc_Ch_waysOfWalked_104 (by decide) ?_
        refine mw_pick [0, 2, 3, 4, 5, 6] rfl ?_
        have k2 := ih (t + 1) J (by omega) (by omega) hJ
        rw [show s1 (fun i j => if D x = D (nbc n x i j) + 1 then W (nbc n x i j) else 0) i (t + 1) = s1 (fun i j => if D x = D (nbc n x i j) + 1 then W (nbc n x i j) else 0) i t + (if D x = D (nbc n x i (i + t)) + 1 then W (nbc n x i (i + t)) else 0) from rfl, if_neg (by omega), Nat.add_zero] at k2
        exact k2
      · refine mw_lload_n dc_Ch_waysOfWalked_78 rfl 3 rfl ?_
        refine mw_aload_n dc_Ch_waysOfWalked_79 rfl 6 rfl ?_
        refine mw_iload dc_Ch_waysOfWalked_80 0 rfl ?_
        refine mw_iload_n dc_Ch_waysOfWalked_82 rfl 4 rfl ?_
        refine mi_const dc_Ch_waysOfWalked_83 ?_
        refine mi_isub dc_Ch_waysOfWalked_84 ?_
        rw [show ((f + 1 : Nat) : Int) - 1 = ((f : Nat) : Int) by omega]
        refine mz_V2 (M2 := mt_Ch_waysOfWalked) dc_Ch_waysOfWalked_85 ml_Ch_62 hS.1 rfl ny_Ch_waysOfWalked (by decide) (Nat.le_of_ble_eq_true rfl) (hrec (nbc n x i (i + t)) (va_up I (c + 3) (tu_f (I (c + 3)) i (i + t))) J (by omega) n1 (fun k hk => by rw [va_up_ne _ _ (by omega)]; exact ht k hk) (fun p hp => by rw [va_up_self, n2 p hp]; exact tI_i hj hz p hp) hJ.2) (fun v h1 hY => ?_)
        obtain ⟨hv9, J1, rfl, hJ1⟩ := hY
        cases hv9
        refine mw_ladd dc_Ch_waysOfWalked_88 ?_
        rw [lI_a]
        refine mw_lstore_n dc_Ch_waysOfWalked_89 rfl (by decide) rfl ?_
        refine mw_aload_n dc_Ch_waysOfWalked_90 rfl 6 rfl ?_
        refine mi_get (ci := 4) (k := 3) dc_Ch_waysOfWalked_91 hS.1 wi_Ch rfl rfl (by decide) fl_Ch_26 hC.2.2.2.1 ?_
        refine mw_iload dc_Ch_waysOfWalked_94 3 rfl ?_
        refine mw_iload dc_Ch_waysOfWalked_96 2 rfl ?_
        refine mz_SN3 (M2 := mt_De_turn) dc_Ch_waysOfWalked_98 ml_Ch_66 mn_Ch_66 ny_De_turn (by decide) (Nat.le_of_ble_eq_true rfl) (ev_turn hS.2.2.2 (i := i) (j := i + t) (by omega) (by decide) (by omega)) (fun v h1 hY => ?_)
        obtain ⟨hv9, rfl⟩ := hY
        cases hv9
        refine mw_h (h' := (sh, I, J1, F, V)) (by rw [va_up_self, up_up, tu_tu, up_id]) ?_
        refine mi_iinc dc_Ch_waysOfWalked_101 2 rfl (by decide) rfl ?_
        refine mw_goto (tgt := 35) dc_Ch_waysOfWalked_104 (by decide) ?_
        refine mw_pick [0, 3, 1, 4, 5, 6] rfl ?_
        have k2 := ih (t + 1) J1 (by omega) (by omega) ⟨fun a ha => (hJ1.1 a ha).trans (hJ.1 a ha), hJ1.2⟩
        rw [show s1 (fun i j => if D x = D (nbc n x i j) + 1 then W (nbc n x i j) else 0) i (t + 1) = s1 (fun i j => if D x = D (nbc n x i j) + 1 then W (nbc n x i j) else 0) i t + (if D x = D (nbc n x i (i + t)) + 1 then W (nbc n x i (i + t)) else 0) from rfl, if_pos (by omega), ← Nat.add_assoc (s2 (fun i j => if D x = D (nbc n x i j) + 1 then W (nbc n x i j) else 0) n i)] at k2
        exact k2
theorem lp_ww0 {G : mm_G} {sh : mm_Sh} {F : Nat → Nat → Option Nat} {V : Nat → Nat → Value} {d bc bs f x : Nat} {I : Nat → Nat → Int32} {J0 : Nat → Nat → Int64} {X : mm_X} {c N n : Nat} {D W : Nat → Nat} (hS : ch_S sh c N) (hC : ch_V V c N n) (hn : n ≤ 6) (hN : N < 100000) (hH : cw_H n N D W) (hrec : ∀ (x : Nat) (I : Nat → Nat → Int32) (J : Nat → Nat → Int64), D x = f → x < N → (∀ k, k < N → I (c + 1) k = iI (D k : Nat)) → (∀ p, p < n → I (c + 3) p = iI (zr n x p)) → kw_M c N W J → mE G mt_Ch_waysOfWalked (d) 0 0 [.ref c, .int (iI (x : Nat)), .int (iI (f : Nat))] (sh, I, J, F, V) (fun o h1 => o = .inl (some (.long (lI (W (x))))) ∧ ∃ J1, h1 = (sh, I, J1, F, V) ∧ kw_k c N W J J1)) (hx : x < N) (hDx : D x = f + 1) (ht : ∀ k, k < N → I (c + 1) k = iI (D k : Nat)) (hz : ∀ p, p < n → I (c + 3) p = iI (zr n x p)) (hX : ∀ J, kw_k c N W J0 J → mW G mt_Ch_waysOfWalked (d + 1) bc bs 113 [(3, .long (lI (W x))), (1, .int (iI (x : Nat))), (0, .ref c)] [] (sh, I, J, F, V) X) :
    ∀ (m i : Nat) J, n - i < m → i ≤ n → kw_k c N W J0 J → mW G mt_Ch_waysOfWalked (d + 1) bc bs 22 [(5, .int (iI (i : Nat))), (3, .long (lI (s2 (fun i j => if D x = D (nbc n x i j) + 1 then W (nbc n x i j) else 0) n i))), (2, .int (iI ((f + 1 : Nat) : Int))), (1, .int (iI (x : Nat))), (0, .ref c)] [] (sh, I, J, F, V) X := by
  intro m
  induction m with
  | zero => intro i J h1; exact absurd h1 (Nat.not_lt_zero _)
  | succ m ih =>
    intro i J h1 h2 hJ
    refine mw_iload dc_Ch_waysOfWalked_22 0 rfl ?_
    refine mw_aload_n dc_Ch_waysOfWalked_24 rfl 4 rfl ?_
    refine mi_get (ci := 4) (k := 2) dc_Ch_waysOfWalked_25 hS.1 wi_Ch rfl rfl (by decide) fl_Ch_9 hC.2.2.1 ?_
    refine mi_icmp_ge (tgt := 113) dc_Ch_waysOfWalked_28 (by decide) (iB_mk (by omega) (by omega)) (iB_mk (by omega) (by omega)) (fun hh => ?_) (fun hh => ?_)
    · have e : i = n := by omega
      subst e
      rw [← (hH.2 x hx).2 (by omega)]
      refine mw_pick [1, 3, 4] rfl ?_
      exact hX J hJ
    · refine mw_iload dc_Ch_waysOfWalked_31 0 rfl ?_
      refine mw_istore dc_Ch_waysOfWalked_33 (by decide) rfl ?_
      refine mw_pick [0, 1, 2, 3, 4, 5] rfl ?_
      refine lp_ww1 hS hC hn hN hH hrec hx hDx ht hz (by omega) (fun J hJ => ?_) (n + 1) 0 J (by omega) (by omega) hJ
      refine mi_iinc dc_Ch_waysOfWalked_107 0 rfl (by decide) rfl ?_
      refine mw_goto (tgt := 22) dc_Ch_waysOfWalked_110 (by decide) ?_
      refine mw_pick [0, 1, 2, 3, 4] rfl ?_
      exact ih (i + 1) J (by omega) (by omega) hJ
theorem ev_waysOfWalked {G : mm_G} {sh : mm_Sh} {F : Nat → Nat → Option Nat} {V : Nat → Nat → Value} {d : Nat} {c N n : Nat} {D W : Nat → Nat} (hS : ch_S sh c N) (hC : ch_V V c N n) (hn : n ≤ 6) (hN : N < 100000) (hH : cw_H n N D W) : ∀ (f x : Nat) (I : Nat → Nat → Int32) (J : Nat → Nat → Int64), D x = f → x < N → (∀ k, k < N → I (c + 1) k = iI (D k : Nat)) → (∀ p, p < n → I (c + 3) p = iI (zr n x p)) → kw_M c N W J → mE G mt_Ch_waysOfWalked (d + f) 0 0 [.ref c, .int (iI (x : Nat)), .int (iI (f : Nat))] (sh, I, J, F, V) (fun o h1 => o = .inl (some (.long (lI (W (x))))) ∧ ∃ J1, h1 = (sh, I, J1, F, V) ∧ kw_k c N W J J1) := by
  intro f
  induction f with
  | zero =>
    intro x I J hDx hx ht hz hJ
    refine mE_intro (by decide) (fun k h q => nomatch q.1) (Nat.le_of_ble_eq_true rfl) ?_
    show mW G mt_Ch_waysOfWalked (d + 0) 0 0 0 [(0, .ref c), (1, .int (iI (x : Nat))), (2, .int (iI ((0 : Nat) : Int)))] [] (sh, I, J, F, V) _
    refine mw_iload_n dc_Ch_waysOfWalked_0 rfl 2 rfl ?_
    refine mi_if_gt (tgt := 6) dc_Ch_waysOfWalked_1 (by decide) (iB_mk (by omega) (by omega)) (fun hh => ?_) (fun hh => ?_)
    · exact absurd hh (by omega)
    · refine mw_lconst (v := 1) dc_Ch_waysOfWalked_4 (by decide) ?_
      exact mw_lret dc_Ch_waysOfWalked_5 rfl ⟨by rw [(hH.2 x hx).1 hDx]; rfl, J, rfl, fun _ _ => rfl, hJ⟩
  | succ f ih =>
    intro x I J hDx hx ht hz hJ
    have b2 := (hH.1 x hx).2.1
    refine mE_intro (by decide) (fun k h q => nomatch q.1) (Nat.le_of_ble_eq_true rfl) ?_
    show mW G mt_Ch_waysOfWalked (d + f + 1) 0 0 0 [(0, .ref c), (1, .int (iI (x : Nat))), (2, .int (iI ((f + 1 : Nat) : Int)))] [] (sh, I, J, F, V) _
    refine mw_iload_n dc_Ch_waysOfWalked_0 rfl 2 rfl ?_
    refine mi_if_gt (tgt := 6) dc_Ch_waysOfWalked_1 (by decide) (iB_mk (by omega) (by omega)) (fun hh => ?_) (fun hh => ?_)
    · refine mw_aload_n dc_Ch_waysOfWalked_6 rfl 0 rfl ?_
      refine mi_get (ci := 4) (k := 4) dc_Ch_waysOfWalked_7 hS.1 wi_Ch rfl rfl (by decide) fl_Ch_22 hC.2.2.2.2 ?_
      refine mw_iload_n dc_Ch_waysOfWalked_10 rfl 1 rfl ?_
      refine mi_lald dc_Ch_waysOfWalked_11 hS.2.2.1 ⟨by omega, by omega, by omega⟩ (v := J (c + 2) x) (by rw [Int.toNat_natCast]) ?_
      refine mw_lconst (v := 0) dc_Ch_waysOfWalked_12 (by decide) ?_
      refine mw_lcmp dc_Ch_waysOfWalked_13 ?_
      refine mw_if_ne (tgt := 120) dc_Ch_waysOfWalked_14 (by decide) (fun hq => ?_) (fun hq => ?_)
      · have hne : J (c + 2) x ≠ lI 0 := fun q => hq ((lg_cmp_eq _ _).mpr q)
        have e := (hJ x hx).resolve_left hne
        refine mw_aload_n dc_Ch_waysOfWalked_120 rfl 0 rfl ?_
        refine mi_get (ci := 4) (k := 4) dc_Ch_waysOfWalked_121 hS.1 wi_Ch rfl rfl (by decide) fl_Ch_22 hC.2.2.2.2 ?_
        refine mw_iload_n dc_Ch_waysOfWalked_124 rfl 1 rfl ?_
        refine mi_lald dc_Ch_waysOfWalked_125 hS.2.2.1 ⟨by omega, by omega, by omega⟩ (v := lI (W x)) (by rw [Int.toNat_natCast]; exact e) ?_
        exact mw_lret dc_Ch_waysOfWalked_126 rfl ⟨rfl, J, rfl, fun _ _ => rfl, hJ⟩
      · refine mw_lconst (v := 0) dc_Ch_waysOfWalked_17 (by decide) ?_
        refine mw_lstore_n dc_Ch_waysOfWalked_18 rfl (by decide) rfl ?_
        refine mi_const dc_Ch_waysOfWalked_19 ?_
        refine mw_istore dc_Ch_waysOfWalked_20 (by decide) rfl ?_
        refine mw_pick [0, 1, 4, 3, 2] rfl ?_
        refine lp_ww0 (d := d + f) (J0 := J) hS hC hn hN hH ih hx hDx ht hz (fun J2 hJ2 => ?_) (n + 1) 0 J (by omega) (by omega) ⟨fun _ _ => rfl, hJ⟩
        refine mw_aload_n dc_Ch_waysOfWalked_113 rfl 2 rfl ?_
        refine mi_get (ci := 4) (k := 4) dc_Ch_waysOfWalked_114 hS.1 wi_Ch rfl rfl (by decide) fl_Ch_22 hC.2.2.2.2 ?_
        refine mw_iload_n dc_Ch_waysOfWalked_117 rfl 1 rfl ?_
        refine mw_lload_n dc_Ch_waysOfWalked_118 rfl 0 rfl ?_
        refine mi_last dc_Ch_waysOfWalked_119 hS.2.2.1 ⟨by omega, by omega, by omega⟩ (J' := va_up J2 (c + 2) (vp_updL (J2 (c + 2)) x (lI (W x)))) (by rw [Int.toNat_natCast]) ?_
        refine mw_aload_n dc_Ch_waysOfWalked_120 rfl 2 rfl ?_
        refine mi_get (ci := 4) (k := 4) dc_Ch_waysOfWalked_121 hS.1 wi_Ch rfl rfl (by decide) fl_Ch_22 hC.2.2.2.2 ?_
        refine mw_iload_n dc_Ch_waysOfWalked_124 rfl 1 rfl ?_
        refine mi_lald dc_Ch_waysOfWalked_125 hS.2.2.1 ⟨by omega, by omega, by omega⟩ (v := lI (W x)) (by rw [Int.toNat_natCast, va_up_self, pk_uLs]) ?_
        refine mw_lret dc_Ch_waysOfWalked_126 rfl ⟨rfl, _, rfl, fun a ha => ?_, fun y hy => ?_⟩
        · rw [va_up_ne _ _ ha]; exact hJ2.1 a ha
        · rw [va_up_self]
          by_cases e : y = x
          · rw [e, pk_uLs]; exact Or.inr rfl
          · rw [pk_uLn e]; exact hJ2.2 y hy
    · exact absurd hh (by omega)
