/-! the law's loop and its beginning; the entry; the claim out of the facts of the mathematics -/
theorem lw_loop {G : mm_G} {d : Nat} {X : mm_X} (hst : G.1.stackTraces = false) (mf : MF) (hL : G.2.2.2.2.1 ≤ 2048) (hX : ∀ h, X (.inl (some (.int (iI 1)))) h) :
    ∀ (m i : Nat), G.2.2.2.2.1 - i < m → i ≤ 2048 → ∀ (n : Nat) (u : Nat → Nat → Int) (k : Nat → Nat) (a b : Nat → Nat → Nat) (l : Nat) (cc : Nat → Int) (c : Int) (st : Nat → Int) (cs : mm_Sh) (I : Nat → Nat → Int32) (J : Nat → Nat → Int64) (F : Nat → Nat → Option Nat) (V : Nat → Nat → Value), wrP n u k a b l cc c → wrC n u k a b l cc c st cs I J F V → wrM n u k a b l cc c st I J V → mW G mt_law (d + 40) (8 * m) (820 * m) 23 [(4, .int (iI (i : Nat))), (3, .ref 58), (2, .ref 39), (1, .ref 0), (0, .retAddr G.2.2.2.1)] [] (wd_S ++ cs, I, J, F, V) X := by
  intro m
  induction m with
  | zero => intro i h1; exact absurd h1 (Nat.not_lt_zero _)
  | succ m ih =>
    intro i h1 hi n u k a b l cc c st cs I J F V hP hC hM
    show mW G mt_law (d + 40) (8 * m + 8) (820 * m + 820) 23 [(4, .int (iI (i : Nat))), (3, .ref 58), (2, .ref 39), (1, .ref 0), (0, .retAddr G.2.2.2.1)] [] (wd_S ++ cs, I, J, F, V) X
    refine mw_iload dc_La_law_23 0 rfl ?_
    refine mw_aload_nS dc_La_law_25 rfl 4 rfl ?_
    refine mw_slen dc_La_law_26 rfl ?_
    refine mw_iv (y := iI ((G.2.2.2.2.1 : Nat) : Int)) (iI_nI _) ?_
    refine mi_const dc_La_law_27 ?_
    refine mi_isub dc_La_law_28 ?_
    refine mi_icmp_gt (tgt := 1174) dc_La_law_29 (by decide) (iB_mk (by omega) (by omega)) (iB_mk (by omega) (by omega)) (fun hh => ?_) (fun hh => ?_)
    · refine mi_const dc_La_law_1174 ?_
      exact mw_iret dc_La_law_1175 rfl (by decide) (hX _)
    · refine mw_aload_nS dc_La_law_32 rfl 4 rfl ?_
      refine mw_iload dc_La_law_33 0 rfl ?_
      refine mi_sld dc_La_law_35 rfl ⟨by omega, by omega, by omega⟩ (v := G.2.2.2.2.2 i) (by rw [Int.toNat_natCast]) ?_
      refine mi_bipush dc_La_law_36 (by decide) ?_
      refine mw_iand dc_La_law_38 ?_
      obtain ⟨z, z1, z2⟩ := pk_andE (G.2.2.2.2.2 i) (m := iI 31) 5 (by decide)
      refine mw_iv (y := iI ((z : Nat) : Int)) (z2.trans (iI_nI z)) ?_
      have hx : ∀ (n : Nat) (u : Nat → Nat → Int) (k : Nat → Nat) (a b : Nat → Nat → Nat) (l : Nat) (cc : Nat → Int) (c : Int) (st : Nat → Int) (cs : mm_Sh) (I : Nat → Nat → Int32) (J : Nat → Nat → Int64) (F : Nat → Nat → Option Nat) (V : Nat → Nat → Value), wrP n u k a b l cc c → wrC n u k a b l cc c st cs I J F V → wrM n u k a b l cc c st I J V → mW G mt_law (d + 40) (8 * m) (820 * m) 1168 [(4, .int (iI (i : Nat))), (3, .ref 58), (2, .ref 39), (1, .ref 0), (0, .retAddr G.2.2.2.1)] [] (wd_S ++ cs, I, J, F, V) X := fun n u k a b l cc c st cs I J F V hP hC hM => by
        refine mi_iinc dc_La_law_1168 0 rfl (by decide) rfl ?_
        refine mw_goto (tgt := 23) dc_La_law_1171 (by decide) ?_
        refine mw_pick [0, 1, 2, 3, 4] rfl ?_
        exact ih (i + 4) (by omega) (by omega) n u k a b l cc c st cs I J F V hP hC hM
      have e1 := iI_of (G.2.2.2.2.2 (i + 1))
      have e2 := iI_of (G.2.2.2.2.2 (i + 2))
      have e3 := iI_of (G.2.2.2.2.2 (i + 3))
      have b1 := iB_of (G.2.2.2.2.2 (i + 1))
      have b2 := iB_of (G.2.2.2.2.2 (i + 2))
      have b3 := iB_of (G.2.2.2.2.2 (i + 3))
      by_cases c0 : z = 0
      · subst c0
        refine mi_tabI (tgt := 120) dc_La_law_39 (iB_mk (by decide) (by decide)) (by decide) (by decide) rfl (by decide) ?_
        exact lw_genes hst mf ⟨by omega, hL⟩ e1 e2 e3 b1 b2 b3 hP hC hM hx
      by_cases c1 : z = 1
      · subst c1
        refine mi_tabI (tgt := 156) dc_La_law_39 (iB_mk (by decide) (by decide)) (by decide) (by decide) rfl (by decide) ?_
        exact lw_write hst mf ⟨by omega, hL⟩ e1 e2 e3 b1 b2 b3 hP hC hM hx
      by_cases c2 : z = 2
      · subst c2
        refine mi_tabI (tgt := 213) dc_La_law_39 (iB_mk (by decide) (by decide)) (by decide) (by decide) rfl (by decide) ?_
        exact lw_wipe hst mf ⟨by omega, hL⟩ e1 e2 e3 b1 b2 b3 hP hC hM hx
      by_cases c3 : z = 3
      · subst c3
        refine mi_tabI (tgt := 226) dc_La_law_39 (iB_mk (by decide) (by decide)) (by decide) (by decide) rfl (by decide) ?_
        exact lw_read hst mf ⟨by omega, hL⟩ e1 e2 e3 b1 b2 b3 hP hC hM hx
      by_cases c4 : z = 4
      · subst c4
        refine mi_tabI (tgt := 282) dc_La_law_39 (iB_mk (by decide) (by decide)) (by decide) (by decide) rfl (by decide) ?_
        exact lw_gene hst mf ⟨by omega, hL⟩ e1 e2 e3 b1 b2 b3 hP hC hM hx
      by_cases c5 : z = 5
      · subst c5
        refine mi_tabI (tgt := 350) dc_La_law_39 (iB_mk (by decide) (by decide)) (by decide) (by decide) rfl (by decide) ?_
        exact lw_copy hst mf ⟨by omega, hL⟩ e1 e2 e3 b1 b2 b3 hP hC hM hx
      by_cases c6 : z = 6
      · subst c6
        refine mi_tabI (tgt := 398) dc_La_law_39 (iB_mk (by decide) (by decide)) (by decide) (by decide) rfl (by decide) ?_
        exact lw_reverse hst mf ⟨by omega, hL⟩ e1 e2 e3 b1 b2 b3 hP hC hM hx
      by_cases c7 : z = 7
      · subst c7
        refine mi_tabI (tgt := 458) dc_La_law_39 (iB_mk (by decide) (by decide)) (by decide) (by decide) rfl (by decide) ?_
        exact lw_undo hst mf ⟨by omega, hL⟩ e1 e2 e3 b1 b2 b3 hP hC hM hx
      by_cases c8 : z = 8
      · subst c8
        refine mi_tabI (tgt := 521) dc_La_law_39 (iB_mk (by decide) (by decide)) (by decide) (by decide) rfl (by decide) ?_
        exact lw_distance hst mf ⟨by omega, hL⟩ e1 e2 e3 b1 b2 b3 hP hC hM hx
      by_cases c9 : z = 9
      · subst c9
        refine mi_tabI (tgt := 589) dc_La_law_39 (iB_mk (by decide) (by decide)) (by decide) (by decide) rfl (by decide) ?_
        exact lw_drawing hst mf ⟨by omega, hL⟩ e1 e2 e3 b1 b2 b3 hP hC hM hx
      by_cases c10 : z = 10
      · subst c10
        refine mi_tabI (tgt := 669) dc_La_law_39 (iB_mk (by decide) (by decide)) (by decide) (by decide) rfl (by decide) ?_
        exact lw_line hst mf ⟨by omega, hL⟩ e1 e2 e3 b1 b2 b3 hP hC hM hx
      by_cases c11 : z = 11
      · subst c11
        refine mi_tabI (tgt := 749) dc_La_law_39 (iB_mk (by decide) (by decide)) (by decide) (by decide) rfl (by decide) ?_
        exact lw_interval hst mf ⟨by omega, hL⟩ e1 e2 e3 b1 b2 b3 hP hC hM hx
      by_cases c12 : z = 12
      · subst c12
        refine mi_tabI (tgt := 829) dc_La_law_39 (iB_mk (by decide) (by decide)) (by decide) (by decide) rfl (by decide) ?_
        exact lw_scenario hst mf ⟨by omega, hL⟩ e1 e2 e3 b1 b2 b3 hP hC hM hx
      by_cases c13 : z = 13
      · subst c13
        refine mi_tabI (tgt := 897) dc_La_law_39 (iB_mk (by decide) (by decide)) (by decide) (by decide) rfl (by decide) ?_
        exact lw_step hst mf ⟨by omega, hL⟩ e1 e2 e3 b1 b2 b3 hP hC hM hx
      by_cases c14 : z = 14
      · subst c14
        refine mi_tabI (tgt := 953) dc_La_law_39 (iB_mk (by decide) (by decide)) (by decide) (by decide) rfl (by decide) ?_
        exact lw_ways hst mf ⟨by omega, hL⟩ e1 e2 e3 b1 b2 b3 hP hC hM hx
      by_cases c15 : z = 15
      · subst c15
        refine mi_tabI (tgt := 1020) dc_La_law_39 (iB_mk (by decide) (by decide)) (by decide) (by decide) rfl (by decide) ?_
        exact lw_circle hst mf ⟨by omega, hL⟩ e1 e2 e3 b1 b2 b3 hP hC hM hx
      by_cases c16 : z = 16
      · subst c16
        refine mi_tabI (tgt := 1088) dc_La_law_39 (iB_mk (by decide) (by decide)) (by decide) (by decide) rfl (by decide) ?_
        exact lw_median hst mf ⟨by omega, hL⟩ e1 e2 e3 b1 b2 b3 hP hC hM hx
      refine mi_tabO (tgt := 1168) dc_La_law_39 (iB_mk (by omega) (by omega)) (Or.inr (by omega)) (by decide) ?_
      exact mw_le (by omega) (by omega) (hx n u k a b l cc c st cs I J F V hP hC hM)
theorem wd_W {F : Nat → Nat → Option Nat} {V V1 : Nat → Nat → Value} (f : ∀ x j, x < 39 → V1 x j = V x j) (h : dk_W F V) : dk_W F V1 := by
  obtain ⟨⟨h1, h2, h3, h4, h5, h7, h8, h9⟩, hs, ht, d0, d1, d4, d5, d6, d7, d8, d9, d10⟩ := h
  refine ⟨⟨(f 0 1 (by decide)).trans h1, (f 0 2 (by decide)).trans h2, (f 0 3 (by decide)).trans h3, (f 0 4 (by decide)).trans h4, (f 0 5 (by decide)).trans h5, (f 0 7 (by decide)).trans h7, (f 0 8 (by decide)).trans h8, (f 0 9 (by decide)).trans h9⟩, fun s s5 => ?_, (f 22 0 (by decide)).trans ht, (f 24 0 (by decide)).trans d0, (f 24 1 (by decide)).trans d1, (f 24 4 (by decide)).trans d4, (f 24 5 (by decide)).trans d5, (f 24 6 (by decide)).trans d6, (f 24 7 (by decide)).trans d7, (f 24 8 (by decide)).trans d8, (f 24 9 (by decide)).trans d9, (f 24 10 (by decide)).trans d10⟩
  obtain ⟨a, b, c, d⟩ := hs s s5
  exact ⟨a, (f _ _ (by unfold sp; omega)).trans b, (f _ _ (by unfold sp; omega)).trans c, (f _ _ (by unfold sp; omega)).trans d⟩
theorem lw_begin {G : mm_G} {d : Nat} {X : mm_X} (hst : G.1.stackTraces = false) (mf : MF) (hL : G.2.2.2.2.1 ≤ 2048) (hX : ∀ h, X (.inl (some (.int (iI 1)))) h) {I : Nat → Nat → Int32} {J : Nat → Nat → Int64} {F : Nat → Nat → Option Nat} {V : Nat → Nat → Value} : mW G mt_law (d + 40) 16459 1778417 0 [(0, .retAddr G.2.2.2.1)] [] (wd_S.take 0, I, J, F, V) X := by
  refine mq_new (ci := 0) (C := rn_De) (N := 10) (bc := 16458) (bs := 1778407) 0 dc_La_law_0 rfl (by decide) wi_De (by decide +kernel) ck_La_8 rfl rfl ?_
  refine mw_dup dc_La_law_3 rfl ?_
  refine mc_I0 (mc := 38) (ms := 295) (bc := 16420) (bs := 1778112) (M2 := mt_De_init) dc_La_law_4 ml_La_70 rfl rfl ny_De_init (by decide) (Nat.le_of_ble_eq_true rfl) (ev_deinit rfl) (fun v h1 hY => ?_)
  obtain ⟨hv9, I1, F1, V1, rfl, hD⟩ := hY
  cases hv9
  refine mw_astore_n dc_La_law_7 rfl (by decide) rfl ?_
  refine mq_new (ci := 5) (C := rn_Mo) (N := 25) (bc := 16419) (bs := 1778087) 39 dc_La_law_8 rfl (by decide) wi_Mo (by decide +kernel) ck_La_71 rfl rfl ?_
  refine mw_dup dc_La_law_11 rfl ?_
  refine mc_I0 (mc := 18) (ms := 97086) (bc := 16401) (bs := 1681001) (M2 := mt_Mo_init) dc_La_law_12 ml_La_73 rfl rfl ny_Mo_init (by decide) (Nat.le_of_ble_eq_true rfl) (ev_moinit ⟨rfl, rfl⟩) (fun v h1 hY => ?_)
  obtain ⟨hv9, I2, J2, V2, rfl, hM, f1, f2, f3⟩ := hY
  cases hv9
  refine mw_astore_n dc_La_law_15 rfl (by decide) rfl ?_
  refine mi_const dc_La_law_16 ?_
  refine mq_newl (z := 1) (N := 1) (bc := 16400) (bs := 1681000) 58 dc_La_law_17 rfl (by decide) (by decide) ?_
  refine mw_astore_n dc_La_law_19 rfl (by decide) rfl ?_
  refine mi_const dc_La_law_20 ?_
  refine mw_istore dc_La_law_21 (by decide) rfl ?_
  refine mw_pick [0, 1, 2, 3, 4] rfl ?_
  obtain ⟨d1, d2, d3, d4, d5, d6⟩ := hD
  obtain ⟨m1, m2, m3, m4, m5, m6, m7, m8⟩ := hM
  have fV : ∀ x j, x < 39 → V2 x j = V1 x j := fun x j hx => by rw [f3 x j hx, va_up_ne _ _ (by omega)]
  have hW : dk_W F1 V2 := wd_W fV d1
  exact lw_loop (d := d) hst mf hL hX 2050 0 (by omega) (by omega) 4 (fun _ p => (p : Int) + 1) (fun _ => 0) (fun _ _ => 0) (fun _ _ => 0) 0 (fun _ => 0) (-1) (fun _ => 0) [] I2 _ F1 V2
    ⟨by omega, fun s hs => ⟨sP_0 4, Nat.zero_le _, fun m hm => absurd hm (Nat.not_lt_zero _)⟩, by omega, fun m hm => absurd hm (Nat.not_lt_zero _), by omega, by omega⟩
    ⟨hW, (fV 0 0 (by decide)).trans d2, fun s hs => ⟨fun p hp => by rw [f1 _ (by unfold sp; omega)]; exact (d4 s hs).1 p (by omega), (fV _ _ (by unfold sp; omega)).trans (d4 s hs).2, fun m hm => absurd hm (Nat.not_lt_zero _)⟩, (fV 22 1 (by decide)).trans d5, fun m hm => absurd hm (Nat.not_lt_zero _), (fV 0 6 (by decide)).trans d3, fun m hm => absurd hm (by omega), rfl, fun n _ _ => Or.inl (d6 n)⟩
    ⟨m1, m2, fun s hs => ⟨(m6 s hs).2, (m6 s hs).1, fun m hm => absurd hm (Nat.not_lt_zero _)⟩, m3, fun m hm => absurd hm (Nat.not_lt_zero _), m4, ⟨0, m5, by decide, by decide, fun q => absurd rfl q⟩, fun m hm => absurd hm (by omega), fun n _ _ => Or.inr ⟨m7 n, fun _ k _ => by rw [va_up_ne _ _ (by decide)]; exact m8 _⟩⟩
