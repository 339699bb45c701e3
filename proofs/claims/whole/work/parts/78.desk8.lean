/-! the chart's constructor; the desk's chartNow -/
def ch_B (N : Nat) : mm_Sh := [.inr 4, .inl (0, N), .inl (2, N), .inl (0, 6)]
theorem ap_g {sh t : mm_Sh} {k : Nat} {x : (Nat × Nat) ⊕ Nat} (h : sh[k]? = some x) : (sh ++ t)[k]? = some x := by
  rw [List.getElem?_append_left (List.getElem?_eq_some_iff.mp h).1]
  exact h
theorem ap_l {sh t : mm_Sh} {k : Nat} : (sh ++ t)[sh.length + k]? = t[k]? := by
  rw [List.getElem?_append_right (Nat.le_add_right _ _), Nat.add_sub_cancel_left]
theorem ap_n {sh : mm_Sh} {x : (Nat × Nat) ⊕ Nat} : (sh ++ [x]).length = sh.length + 1 := by rw [List.length_append]; rfl
theorem mi_putF {G : mm_G} {M : mm_M} {d bc bs pc : Nat} {ls : List (Nat × Value)} {st : List Value} {sh : mm_Sh} {I : Nat → Nat → Int32} {J : Nat → Nat → Int64} {F : Nat → Nat → Option Nat} {V : Nat → Nat → Value} {X : mm_X} {a idx ci N k : Nat} {C : String} {T : u_T} {x : Int32} {ty0 : Nat → FieldType} {V' : Nat → Nat → Value} (hd : decode M.2.1 pc = .ok (.putfield idx, 3)) (hs : sh[a]? = some (.inr ci)) (hin : ∀ w ∈ u_ws C T N, w ∈ mm_aw) (hty : ∀ k, k < N → parseFieldDescriptor (T k).2.2.1 = some (ty0 k)) (hnm : ∀ a, a < N → ∀ b, b < N → a ≠ b → (T a).2.1 ≠ (T b).2.1) (hc : mm_cl[ci]? = some (C, T, N)) (hN : mm_nf ci = N) (hk : k < N) (hlink : Cond.fieldLink M.1.cls idx (T k).1 (T k).2.1 (T k).2.2.1 ∈ mm_aw) (hfin : (T k).2.2.2 = true) (hi : M.1.name = "<init>") (hdecl : (T k).1 = M.1.cls) (hd2 : parseFieldDescriptor (T k).2.2.1 = some .int) (hV : va_up V a (va_up (V a) k (.int x)) = V') (kk : mW G M d bc bs (pc + 3) ls st (sh, I, J, F, V') X) : mW G M d bc bs pc ls (.int x :: .ref a :: st) (sh, I, J, F, V) X := mw_putF hd hs hin hty hnm hc hN hk hlink hfin hi hdecl hd2 (fun _ => rfl) (fun _ => rfl) (by rw [hV]; exact kk)
theorem lp_chi {G : mm_G} {d bc bs : Nat} {sh : mm_Sh} {I : Nat → Nat → Int32} {J : Nat → Nat → Int64} {F : Nat → Nat → Option Nat} {V : Nat → Nat → Value} {X : mm_X} {n c : Nat} (hn : n ≤ 6) (hx : mW G mt_Ch_init d bc bs 30 [(2, .int (iI (oc_f n : Nat))), (0, .ref c)] [] (sh, I, J, F, V) X) :
    ∀ (m k : Nat), n - k < m → k ≤ n → mW G mt_Ch_init d bc bs 13 [(3, .int (iI ((k + 1 : Nat) : Int))), (2, .int (iI (oc_f k : Nat))), (1, .int (iI (n : Nat))), (0, .ref c)] [] (sh, I, J, F, V) X := by
  intro m
  induction m with
  | zero => intro k h1 _; exact absurd h1 (Nat.not_lt_zero _)
  | succ m ih =>
    intro k h1 h2
    refine mw_iload_n dc_Ch_init_13 rfl 0 rfl ?_
    refine mw_iload_n dc_Ch_init_14 rfl 2 rfl ?_
    refine mi_icmp_gt (tgt := 30) dc_Ch_init_15 (by decide) (iB_mk (by omega) (by omega)) (iB_mk (by omega) (by omega)) (fun hh => ?_) (fun hh => ?_)
    · have e : k = n := by omega
      subst e
      refine mw_pick [1, 3] rfl ?_
      exact hx
    · refine mw_iload_n dc_Ch_init_18 rfl 1 rfl ?_
      refine mi_const dc_Ch_init_19 ?_
      refine mw_iload_n dc_Ch_init_20 rfl 0 rfl ?_
      refine mi_imul dc_Ch_init_21 ?_
      refine mi_imul dc_Ch_init_22 ?_
      refine mw_istore_n dc_Ch_init_23 rfl (by decide) rfl ?_
      refine mi_iinc dc_Ch_init_24 1 rfl (by decide) rfl ?_
      refine mw_goto (tgt := 13) dc_Ch_init_27 (by decide) ?_
      refine mw_pick [0, 1, 2, 3] rfl ?_
      have k2 := ih (k + 1) (by omega) (by omega)
      rw [show ((oc_f (k + 1) : Nat) : Int) = (oc_f k : Nat) * (2 * ((k + 1 : Nat) : Int)) by rw [show oc_f (k + 1) = oc_f k * 2 * (k + 1) from rfl, Int.natCast_mul, Int.natCast_mul, Int.mul_assoc]; rfl] at k2
      exact k2
theorem ev_chinit {G : mm_G} {d : Nat} {sh : mm_Sh} {I : Nat → Nat → Int32} {J : Nat → Nat → Int64} {F : Nat → Nat → Option Nat} {V : Nat → Nat → Value} {n c : Nat} (hn : 1 ≤ n ∧ n ≤ 6) (hs : sh[c]? = some (.inr 4)) : mE G mt_Ch_init d 3 (0 + 6 + oc_f n + oc_f n) [.ref c, .int (iI (n : Nat))] (sh, I, J, F, V) (fun o h1 => o = .inl none ∧ h1 = (((sh ++ [.inl (0, oc_f n)]) ++ [.inl (2, oc_f n)]) ++ [.inl (0, 6)], va_up (va_up I sh.length (fun _ => 0)) (sh.length + 2) (fun _ => 0), va_up J (sh.length + 1) (fun _ => 0), F, fu (fu (fu (fu (fu V c 2 (.int (iI (n : Nat)))) c 0 (.int (iI (oc_f n : Nat)))) c 1 (.ref sh.length)) c 4 (.ref (sh.length + 1))) c 3 (.ref (sh.length + 2)))) := by
  refine mE_intro (by decide) (fun k h q => nomatch q.1) (Nat.le_of_ble_eq_true rfl) ?_
  have hN2 := (oc_fa n (by omega)).2
  show mW G mt_Ch_init d 3 (0 + 6 + oc_f n + oc_f n) 0 [(0, .ref c), (1, .int (iI (n : Nat)))] [] (sh, I, J, F, V) _
  refine mw_aload_n dc_Ch_init_0 rfl 0 rfl ?_
  refine mw_objInit dc_Ch_init_1 jk_Ch_3 (Nat.le_of_ble_eq_true rfl) ?_
  refine mw_aload_n dc_Ch_init_4 rfl 0 rfl ?_
  refine mw_iload_n dc_Ch_init_5 rfl 1 rfl ?_
  refine mi_putF (ci := 4) (k := 2) dc_Ch_init_6 hs wi_Ch tk_Ch nm_Ch rfl rfl (by decide) fl_Ch_9 rfl rfl rfl (by decide +kernel) (show va_up V c (va_up (V c) 2 (.int (iI (n : Nat)))) = fu V c 2 (.int (iI (n : Nat))) from rfl) ?_
  refine mi_const dc_Ch_init_9 ?_
  refine mw_istore_n dc_Ch_init_10 rfl (by decide) rfl ?_
  refine mi_const dc_Ch_init_11 ?_
  refine mw_istore_n dc_Ch_init_12 rfl (by decide) rfl ?_
  refine mw_pick [0, 1, 3, 2] rfl ?_
  refine lp_chi hn.2 ?_ (n + 1) 0 (by omega) (by omega)
  refine mw_aload_n dc_Ch_init_30 rfl 1 rfl ?_
  refine mw_iload_n dc_Ch_init_31 rfl 0 rfl ?_
  refine mi_putF (ci := 4) (k := 0) dc_Ch_init_32 hs wi_Ch tk_Ch nm_Ch rfl rfl (by decide) fl_Ch_15 rfl rfl rfl (by decide +kernel) (show va_up (fu V c 2 (.int (iI (n : Nat)))) c (va_up ((fu V c 2 (.int (iI (n : Nat)))) c) 0 (.int (iI (oc_f n : Nat)))) = fu (fu V c 2 (.int (iI (n : Nat)))) c 0 (.int (iI (oc_f n : Nat))) from rfl) ?_
  refine mw_aload_n dc_Ch_init_35 rfl 1 rfl ?_
  refine mw_iload_n dc_Ch_init_36 rfl 0 rfl ?_
  refine mw_newi (N := oc_f n) (bc := 2) (bs := 0 + 6 + oc_f n) dc_Ch_init_37 ak_int (by rw [iI_0, iI_lt (iB_mk (by omega) (by omega)) iB_0]; omega) (by rw [iI_cl (iB_mk (by omega) (by omega))]; omega) (by omega) ?_
  refine mi_putr (ty := (.array .int)) (ci := 4) (k := 1) dc_Ch_init_39 (ap_g hs) wi_Ch tk_Ch nm_Ch rfl rfl (by decide) fl_Ch_18 rfl rfl rfl (by decide +kernel) (fun _ => rfl) (fun _ => rfl) (show va_up (fu (fu V c 2 (.int (iI (n : Nat)))) c 0 (.int (iI (oc_f n : Nat)))) c (va_up ((fu (fu V c 2 (.int (iI (n : Nat)))) c 0 (.int (iI (oc_f n : Nat)))) c) 1 (.ref sh.length)) = fu (fu (fu V c 2 (.int (iI (n : Nat)))) c 0 (.int (iI (oc_f n : Nat)))) c 1 (.ref sh.length) from rfl) ?_
  refine mw_aload_n dc_Ch_init_42 rfl 1 rfl ?_
  refine mw_iload_n dc_Ch_init_43 rfl 0 rfl ?_
  refine mw_newl (N := oc_f n) (bc := 1) (bs := 0 + 6) dc_Ch_init_44 ak_long (by rw [iI_0, iI_lt (iB_mk (by omega) (by omega)) iB_0]; omega) (by rw [iI_cl (iB_mk (by omega) (by omega))]; omega) (by omega) ?_
  rw [ap_n]
  refine mi_putr (ty := (.array .long)) (ci := 4) (k := 4) dc_Ch_init_46 (ap_g (ap_g hs)) wi_Ch tk_Ch nm_Ch rfl rfl (by decide) fl_Ch_22 rfl rfl rfl (by decide +kernel) (fun _ => rfl) (fun _ => rfl) (show va_up (fu (fu (fu V c 2 (.int (iI (n : Nat)))) c 0 (.int (iI (oc_f n : Nat)))) c 1 (.ref sh.length)) c (va_up ((fu (fu (fu V c 2 (.int (iI (n : Nat)))) c 0 (.int (iI (oc_f n : Nat)))) c 1 (.ref sh.length)) c) 4 (.ref (sh.length + 1))) = fu (fu (fu (fu V c 2 (.int (iI (n : Nat)))) c 0 (.int (iI (oc_f n : Nat)))) c 1 (.ref sh.length)) c 4 (.ref (sh.length + 1)) from rfl) ?_
  refine mw_aload_n dc_Ch_init_49 rfl 1 rfl ?_
  refine mi_bipush dc_Ch_init_50 (by decide) ?_
  refine mw_newi (N := 6) (bc := 0) (bs := 0) dc_Ch_init_52 ak_int (by decide) (by decide) (by decide) ?_
  rw [show (sh ++ [Sum.inl (0, oc_f n)] ++ [Sum.inl (2, oc_f n)] : mm_Sh).length = sh.length + 2 by rw [ap_n, ap_n]]
  refine mi_putr (ty := (.array .int)) (ci := 4) (k := 3) dc_Ch_init_54 (ap_g (ap_g (ap_g hs))) wi_Ch tk_Ch nm_Ch rfl rfl (by decide) fl_Ch_26 rfl rfl rfl (by decide +kernel) (fun _ => rfl) (fun _ => rfl) (show va_up (fu (fu (fu (fu V c 2 (.int (iI (n : Nat)))) c 0 (.int (iI (oc_f n : Nat)))) c 1 (.ref sh.length)) c 4 (.ref (sh.length + 1))) c (va_up ((fu (fu (fu (fu V c 2 (.int (iI (n : Nat)))) c 0 (.int (iI (oc_f n : Nat)))) c 1 (.ref sh.length)) c 4 (.ref (sh.length + 1))) c) 3 (.ref (sh.length + 2))) = fu (fu (fu (fu (fu V c 2 (.int (iI (n : Nat)))) c 0 (.int (iI (oc_f n : Nat)))) c 1 (.ref sh.length)) c 4 (.ref (sh.length + 1))) c 3 (.ref (sh.length + 2)) from rfl) ?_
  exact mw_vret dc_Ch_init_57 rfl ⟨rfl, rfl⟩
def ck_1 (Dc Wc : Nat → Nat → Nat) (sh : mm_Sh) (I : Nat → Nat → Int32) (J : Nat → Nat → Int64) (V : Nat → Nat → Value) (n c : Nat) : Prop := 59 ≤ c ∧ (c - 59) % 4 = 0 ∧ c + 3 < sh.length ∧ ch_S sh c (oc_f n) ∧ ch_V V c (oc_f n) n ∧ (∀ x, x < oc_f n → I (c + 1) x = iI (Dc n x : Nat)) ∧ kw_M c (oc_f n) (Wc n) J
def ck_A (Dc Wc : Nat → Nat → Nat) (cs : mm_Sh) (I : Nat → Nat → Int32) (J : Nat → Nat → Int64) (F : Nat → Nat → Option Nat) (V : Nat → Nat → Value) : Prop := cs.length % 4 = 0 ∧ ∀ n, 1 ≤ n → n ≤ 4 → F 34 n = none ∨ ∃ c, F 34 n = some c ∧ ck_1 Dc Wc (wd_S ++ cs) I J V n c
/-- what the charts' calls leave as it was -/
def cf_k (I : Nat → Nat → Int32) (J : Nat → Nat → Int64) (F : Nat → Nat → Option Nat) (V : Nat → Nat → Value) (I1 : Nat → Nat → Int32) (J1 : Nat → Nat → Int64) (F1 : Nat → Nat → Option Nat) (V1 : Nat → Nat → Value) : Prop :=
  (∀ a, a < 59 → (a < 25 ∨ 33 < a) → a ≠ 36 → a ≠ 37 → I1 a = I a) ∧ (∀ a, a < 59 → J1 a = J a) ∧ (∀ a, a ≠ 34 → F1 a = F a) ∧ ∀ a j, a < 59 → ¬ (a = 24 ∧ (j = 2 ∨ j = 3)) → V1 a j = V a j
theorem cf_r (I : Nat → Nat → Int32) (J : Nat → Nat → Int64) (F : Nat → Nat → Option Nat) (V : Nat → Nat → Value) : cf_k I J F V I J F V := ⟨fun _ _ _ _ _ => rfl, fun _ _ => rfl, fun _ _ => rfl, fun _ _ _ _ => rfl⟩
theorem cf_t {I I1 I2 : Nat → Nat → Int32} {J J1 J2 : Nat → Nat → Int64} {F F1 F2 : Nat → Nat → Option Nat} {V V1 V2 : Nat → Nat → Value} (h1 : cf_k I J F V I1 J1 F1 V1) (h2 : cf_k I1 J1 F1 V1 I2 J2 F2 V2) : cf_k I J F V I2 J2 F2 V2 :=
  ⟨fun a p q r s => (h2.1 a p q r s).trans (h1.1 a p q r s), fun a p => (h2.2.1 a p).trans (h1.2.1 a p), fun a p => (h2.2.2.1 a p).trans (h1.2.2.1 a p), fun a j p q => (h2.2.2.2 a j p q).trans (h1.2.2.2 a j p q)⟩
theorem cf_W {I I1 : Nat → Nat → Int32} {J J1 : Nat → Nat → Int64} {F F1 : Nat → Nat → Option Nat} {V V1 : Nat → Nat → Value} (h : cf_k I J F V I1 J1 F1 V1) (hW : dk_W F V) : dk_W F1 V1 := by
  obtain ⟨⟨h1, h2, h3, h4, h5, h7, h8, h9⟩, hs, ht, d0, d1, d4, d5, d6, d7, d8, d9, d10⟩ := hW
  have e := h.2.2.2
  refine ⟨⟨(e 0 1 (by omega) (by omega)).trans h1, (e 0 2 (by omega) (by omega)).trans h2, (e 0 3 (by omega) (by omega)).trans h3, (e 0 4 (by omega) (by omega)).trans h4, (e 0 5 (by omega) (by omega)).trans h5, (e 0 7 (by omega) (by omega)).trans h7, (e 0 8 (by omega) (by omega)).trans h8, (e 0 9 (by omega) (by omega)).trans h9⟩, fun s s5 => ?_, (e 22 0 (by omega) (by omega)).trans ht, (e 24 0 (by omega) (by omega)).trans d0, (e 24 1 (by omega) (by omega)).trans d1, (e 24 4 (by omega) (by omega)).trans d4, (e 24 5 (by omega) (by omega)).trans d5, (e 24 6 (by omega) (by omega)).trans d6, (e 24 7 (by omega) (by omega)).trans d7, (e 24 8 (by omega) (by omega)).trans d8, (e 24 9 (by omega) (by omega)).trans d9, (e 24 10 (by omega) (by omega)).trans d10⟩
  obtain ⟨a, b, c, d⟩ := hs s s5
  exact ⟨by rw [h.2.2.1 1 (by decide)]; exact a, (e _ _ (by unfold sp; omega) (by unfold sp; omega)).trans b, (e _ _ (by unfold sp; omega) (by unfold sp; omega)).trans c, (e _ _ (by unfold sp; omega) (by unfold sp; omega)).trans d⟩
theorem wd_L (cs : mm_Sh) : (wd_S ++ cs).length = 59 + cs.length := by rw [List.length_append]; rfl
theorem ev_chartNow {G : mm_G} {d : Nat} {cs : mm_Sh} {I : Nat → Nat → Int32} {J : Nat → Nat → Int64} {F : Nat → Nat → Option Nat} {V : Nat → Nat → Value} {n : Nat} {Dc Wc : Nat → Nat → Nat} (hst : G.1.stackTraces = false) (hW : dk_W F V) (hg : V 0 0 = .int (iI n)) (hn : 1 ≤ n ∧ n ≤ 6) (hA : ck_A Dc Wc cs I J F V) (hP : n ≤ 4 → ∀ x, x < oc_f n → sP n (zr n x) ∧ dP n (zr n x) = (Dc n x : Nat)) : mT G mt_De_chartNow (d + 5) 4 800 [.ref 0] (wd_S ++ cs, I, J, F, V) (fun o h1 => (4 < n → o = .inr 3 ∧ h1 = (wd_S ++ cs, I, J, F, V)) ∧ (n ≤ 4 → ∃ c cs1 I1 J1 F1 V1, o = .inl (some (.ref c)) ∧ h1 = (wd_S ++ cs1, I1, J1, F1, V1) ∧ F1 34 n = some c ∧ ck_1 Dc Wc (wd_S ++ cs1) I1 J1 V1 n c ∧ ck_A Dc Wc cs1 I1 J1 F1 V1 ∧ cf_k I J F V I1 J1 F1 V1)) := by
  refine mT_intro hst (by decide) (Nat.le_of_ble_eq_true rfl) ?_
  show mW G mt_De_chartNow (d + 5) 4 800 0 [(0, .ref 0)] [] (wd_S ++ cs, I, J, F, V) _
  refine mw_aload_n dc_De_chartNow_0 rfl 0 rfl ?_
  refine mi_get (ci := 0) (k := 0) dc_De_chartNow_1 rfl wi_De rfl rfl (by decide) fl_De_9 hg ?_
  refine mi_const dc_De_chartNow_4 ?_
  refine mi_icmp_le (tgt := 18) dc_De_chartNow_5 (by decide) (iB_mk (by omega) (by omega)) (iB_mk (by omega) (by omega)) (fun hh => ?_) (fun hh => ?_)
  · have h4 : n ≤ 4 := by omega
    rcases hA.2 n hn.1 h4 with hF | ⟨c, hF, hc⟩
    · refine mw_aload_n dc_De_chartNow_18 rfl 0 rfl ?_
      refine mi_get (ci := 0) (k := 4) dc_De_chartNow_19 rfl wi_De rfl rfl (by decide) fl_De_36 hW.1.2.2.2.1 ?_
      refine mw_aload_n dc_De_chartNow_22 rfl 0 rfl ?_
      refine mi_get (ci := 0) (k := 0) dc_De_chartNow_23 rfl wi_De rfl rfl (by decide) fl_De_9 hg ?_
      refine mw_aald dc_De_chartNow_26 rfl rfl (by exact iI_in (by omega) (by omega) (by decide)) ?_
      rw [iI_cl (iB_mk (by omega) (by omega)), Int.toNat_natCast, hF]
      refine mw_ifnonnullN dc_De_chartNow_27 ?_
      refine mw_aload_n dc_De_chartNow_30 rfl 0 rfl ?_
      refine mi_get (ci := 0) (k := 4) dc_De_chartNow_31 rfl wi_De rfl rfl (by decide) fl_De_36 hW.1.2.2.2.1 ?_
      refine mw_aload_n dc_De_chartNow_34 rfl 0 rfl ?_
      refine mi_get (ci := 0) (k := 0) dc_De_chartNow_35 rfl wi_De rfl rfl (by decide) fl_De_9 hg ?_
      have hN2 : oc_f n ≤ 384 := (show ∀ k, k < 5 → oc_f k ≤ 384 by decide +kernel) n (by omega)
      have hN1 := (oc_fa n (by omega)).2.2
      refine mw_le (bc := 0 + 3 + 1) (bs := 0 + (0 + 6 + oc_f n + oc_f n) + 5) (by omega) (by omega) ?_
      refine mw_new (ci := 4) (C := rn_Ch) (bc := 0 + 3) (bs := 0 + (0 + 6 + oc_f n + oc_f n)) dc_De_chartNow_38 wi_Ch (by decide +kernel) ck_De_34 rfl rfl ?_
      refine mw_dup dc_De_chartNow_41 rfl ?_
      refine mw_aload_n dc_De_chartNow_42 rfl 0 rfl ?_
      refine mi_get (ci := 0) (k := 0) dc_De_chartNow_43 rfl wi_De rfl rfl (by decide) fl_De_9 hg ?_
      refine mc_I1 (bc := 0) (bs := 0) (mc := 3) (ms := 0 + 6 + oc_f n + oc_f n) (M2 := mt_Ch_init) dc_De_chartNow_46 ml_De_208 rfl rfl ny_Ch_init (by decide) (Nat.le_of_ble_eq_true rfl) (ev_chinit (sh := (wd_S ++ cs) ++ [.inr 4]) hn (by rw [show (wd_S ++ cs).length = (wd_S ++ cs).length + 0 from rfl, ap_l]; rfl)) (fun v h1 hY => ?_)
      obtain ⟨hv, rfl⟩ := hY
      cases hv
      rw [show (wd_S ++ cs ++ [Sum.inr 4] : mm_Sh).length = (wd_S ++ cs).length + 1 from ap_n]
      refine mw_h (h' := (wd_S ++ (cs ++ ch_B (oc_f n)), va_up (va_up I ((wd_S ++ cs).length + 1) (fun _ => 0)) (((wd_S ++ cs).length + 1) + 2) (fun _ => 0), va_up J (((wd_S ++ cs).length + 1) + 1) (fun _ => 0), F, fu (fu (fu (fu (fu (va_up V (wd_S ++ cs).length (fun j => defaultValue (mm_tf 4 j))) (wd_S ++ cs).length 2 (.int (iI (n : Nat)))) (wd_S ++ cs).length 0 (.int (iI (oc_f n : Nat)))) (wd_S ++ cs).length 1 (.ref ((wd_S ++ cs).length + 1))) (wd_S ++ cs).length 4 (.ref (((wd_S ++ cs).length + 1) + 1))) (wd_S ++ cs).length 3 (.ref (((wd_S ++ cs).length + 1) + 2)))) (by rw [List.append_assoc, List.append_assoc, List.append_assoc, List.append_assoc]; rfl) ?_
      have hL := wd_L cs
      have g0 : (wd_S ++ (cs ++ ch_B (oc_f n)))[(wd_S ++ cs).length]? = some (.inr 4) := by rw [← List.append_assoc, show (wd_S ++ cs).length = (wd_S ++ cs).length + 0 from rfl, ap_l]; rfl
      have g1 : (wd_S ++ (cs ++ ch_B (oc_f n)))[(wd_S ++ cs).length + 1]? = some (.inl (0, oc_f n)) := by rw [← List.append_assoc, ap_l]; rfl
      have g2 : (wd_S ++ (cs ++ ch_B (oc_f n)))[(wd_S ++ cs).length + 2]? = some (.inl (2, oc_f n)) := by rw [← List.append_assoc, ap_l]; rfl
      have g3 : (wd_S ++ (cs ++ ch_B (oc_f n)))[(wd_S ++ cs).length + 3]? = some (.inl (0, 6)) := by rw [← List.append_assoc, ap_l]; rfl
      have gl : (wd_S ++ (cs ++ ch_B (oc_f n))).length = (wd_S ++ cs).length + 4 := by rw [← List.append_assoc, List.length_append]; rfl
      have gL : (cs ++ ch_B (oc_f n)).length = cs.length + 4 := by rw [List.length_append]; rfl
      have gs : ∀ k x, (wd_S ++ cs)[k]? = some x → (wd_S ++ (cs ++ ch_B (oc_f n)))[k]? = some x := fun k x q => by rw [← List.append_assoc]; exact ap_g q
      have hV1 : ch_V (fu (fu (fu (fu (fu (va_up V (wd_S ++ cs).length (fun j => defaultValue (mm_tf 4 j))) (wd_S ++ cs).length 2 (.int (iI (n : Nat)))) (wd_S ++ cs).length 0 (.int (iI (oc_f n : Nat)))) (wd_S ++ cs).length 1 (.ref ((wd_S ++ cs).length + 1))) (wd_S ++ cs).length 4 (.ref (((wd_S ++ cs).length + 1) + 1))) (wd_S ++ cs).length 3 (.ref (((wd_S ++ cs).length + 1) + 2))) (wd_S ++ cs).length (oc_f n) n := by
        refine ⟨?_, ?_, ?_, ?_, ?_⟩
        · rw [fu_n2 _ _ (by decide), fu_n2 _ _ (by decide), fu_n2 _ _ (by decide), fu_at]
        · rw [fu_n2 _ _ (by decide), fu_n2 _ _ (by decide), fu_at]
        · rw [fu_n2 _ _ (by decide), fu_n2 _ _ (by decide), fu_n2 _ _ (by decide), fu_n2 _ _ (by decide), fu_at]
        · rw [fu_at]
        · rw [fu_n2 _ _ (by decide), fu_at]
      have hVo : ∀ a j, a ≠ (wd_S ++ cs).length → (fu (fu (fu (fu (fu (va_up V (wd_S ++ cs).length (fun j => defaultValue (mm_tf 4 j))) (wd_S ++ cs).length 2 (.int (iI (n : Nat)))) (wd_S ++ cs).length 0 (.int (iI (oc_f n : Nat)))) (wd_S ++ cs).length 1 (.ref ((wd_S ++ cs).length + 1))) (wd_S ++ cs).length 4 (.ref (((wd_S ++ cs).length + 1) + 1))) (wd_S ++ cs).length 3 (.ref (((wd_S ++ cs).length + 1) + 2))) a j = V a j := fun a j q => by rw [fu_n1 _ _ q, fu_n1 _ _ q, fu_n1 _ _ q, fu_n1 _ _ q, fu_n1 _ _ q, va_up_ne _ _ q]
      have hIo : ∀ a, a ≠ (wd_S ++ cs).length + 1 → a ≠ (wd_S ++ cs).length + 3 → (va_up (va_up I ((wd_S ++ cs).length + 1) (fun _ => 0)) (((wd_S ++ cs).length + 1) + 2) (fun _ => 0)) a = I a := fun a q r => by rw [va_up_ne _ _ (by omega), va_up_ne _ _ q]
      have hJo : ∀ a, a ≠ (wd_S ++ cs).length + 2 → (va_up J (((wd_S ++ cs).length + 1) + 1) (fun _ => 0)) a = J a := fun a q => va_up_ne _ _ (by omega)
      have hJz : ∀ x, (va_up J (((wd_S ++ cs).length + 1) + 1) (fun _ => 0)) ((wd_S ++ cs).length + 2) x = lI 0 := fun x => by rw [show (wd_S ++ cs).length + 2 = ((wd_S ++ cs).length + 1) + 1 by omega, va_up_self]; rfl
      revert g0 g1 g2 g3 gl gL gs hV1 hVo hIo hJo hJz
      generalize fu (fu (fu (fu (fu (va_up V (wd_S ++ cs).length (fun j => defaultValue (mm_tf 4 j))) (wd_S ++ cs).length 2 (.int (iI (n : Nat)))) (wd_S ++ cs).length 0 (.int (iI (oc_f n : Nat)))) (wd_S ++ cs).length 1 (.ref ((wd_S ++ cs).length + 1))) (wd_S ++ cs).length 4 (.ref (((wd_S ++ cs).length + 1) + 1))) (wd_S ++ cs).length 3 (.ref (((wd_S ++ cs).length + 1) + 2)) = V1
      generalize va_up (va_up I ((wd_S ++ cs).length + 1) (fun _ => 0)) (((wd_S ++ cs).length + 1) + 2) (fun _ => 0) = I1
      generalize va_up J (((wd_S ++ cs).length + 1) + 1) (fun _ => 0) = J1
      generalize (cs ++ ch_B (oc_f n)) = cs1
      intro g0 g1 g2 g3 gl gL gs hV1 hVo hIo hJo hJz
      have hW1 : dk_W F V1 := cf_W (I := I) (J := J) (F := F) (V := V) (I1 := I) (J1 := J) (F1 := F) (V1 := V1) ⟨fun _ _ _ _ _ => rfl, fun _ _ => rfl, fun _ _ => rfl, fun a j q _ => hVo a j (by omega)⟩ hW
      have hg1 : V1 0 0 = .int (iI n) := (hVo 0 0 (by omega)).trans hg
      refine mw_aast (t := 1) (ci := 4) (r := (rn_Ch, _, _)) dc_De_chartNow_49 rfl g0 rfl rfl (by exact iI_in (by omega) (by omega) (by decide)) ?_
      rw [iI_cl (iB_mk (by omega) (by omega)), Int.toNat_natCast]
      have hFc : (va_up F 34 (va_up (F 34) n (some (wd_S ++ cs).length))) 34 n = some (wd_S ++ cs).length := by rw [va_up_self, va_up_self]
      have hW2 : dk_W (va_up F 34 (va_up (F 34) n (some (wd_S ++ cs).length))) V1 := cf_W (I := I) (J := J) (F := F) (V := V) (I1 := I) (J1 := J) (F1 := (va_up F 34 (va_up (F 34) n (some (wd_S ++ cs).length)))) (V1 := V1) ⟨fun _ _ _ _ _ => rfl, fun _ _ => rfl, fun a q => va_up_ne _ _ q, fun a j q _ => hVo a j (by omega)⟩ hW
      refine mw_aload_n dc_De_chartNow_50 rfl 0 rfl ?_
      refine mi_get (ci := 0) (k := 4) dc_De_chartNow_51 rfl wi_De rfl rfl (by decide) fl_De_36 hW2.1.2.2.2.1 ?_
      refine mw_aload_n dc_De_chartNow_54 rfl 0 rfl ?_
      refine mi_get (ci := 0) (k := 0) dc_De_chartNow_55 rfl wi_De rfl rfl (by decide) fl_De_9 hg1 ?_
      refine mi_aald dc_De_chartNow_58 rfl rfl ⟨by omega, by omega, by decide⟩ (r := (wd_S ++ cs).length) (by rw [Int.toNat_natCast]; exact hFc) ?_
      refine mw_aload_n dc_De_chartNow_59 rfl 0 rfl ?_
      refine mi_get (ci := 0) (k := 3) dc_De_chartNow_60 rfl wi_De rfl rfl (by decide) fl_De_30 hW2.1.2.2.1 ?_
      refine mz_V1 (M2 := mt_Ch_measure) dc_De_chartNow_63 ml_De_210 g0 rfl ny_Ch_measure (by decide) (Nat.le_of_ble_eq_true rfl) (ev_measure (c := (wd_S ++ cs).length) (N := oc_f n) (n := n) (by omega) ⟨g0, g1, g2, g3⟩ hV1 hW2.2.2.2 hn (by omega) (fun x hx => (hP h4 x hx).1)) (fun v h1 hY => ?_)
      obtain ⟨hv9, I2, V2, rfl, hm, hv2⟩ := hY
      cases hv9
      have hW3 := vd_W hv2 hW2
      have hg3 := (hv2 0 0 (by omega)).trans hg1
      refine mw_aload_n dc_De_chartNow_66 rfl 0 rfl ?_
      refine mi_get (ci := 0) (k := 4) dc_De_chartNow_67 rfl wi_De rfl rfl (by decide) fl_De_36 hW3.1.2.2.2.1 ?_
      refine mw_aload_n dc_De_chartNow_70 rfl 0 rfl ?_
      refine mi_get (ci := 0) (k := 0) dc_De_chartNow_71 rfl wi_De rfl rfl (by decide) fl_De_9 hg3 ?_
      refine mi_aald dc_De_chartNow_74 rfl rfl ⟨by omega, by omega, by decide⟩ (r := (wd_S ++ cs).length) (by rw [Int.toNat_natCast]; exact hFc) ?_
      have hc1 : ck_1 Dc Wc (wd_S ++ cs1) I2 J1 V2 n (wd_S ++ cs).length := ⟨by omega, by have := hA.1; omega, by omega, ⟨g0, g1, g2, g3⟩, vd_C hv2 (by omega) hV1, fun x hx => by rw [hm.2 x hx, (hP h4 x hx).2], fun x hx => Or.inl (hJz x)⟩
      refine mw_aret dc_De_chartNow_75 rfl ⟨fun q => absurd q (by omega), fun _ => ⟨(wd_S ++ cs).length, cs1, I2, J1, _, V2, rfl, rfl, hFc, hc1, ⟨by have := hA.1; omega, fun m m1 m4 => ?_⟩, fun a q1 q2 q3 q4 => ?_, fun a q => hJo a (by omega), fun a q => va_up_ne _ _ q, fun a j q1 q2 => ?_⟩⟩
      · by_cases e : m = n
        · subst e
          exact Or.inr ⟨(wd_S ++ cs).length, hFc, hc1⟩
        · rw [va_up_self, va_up_ne _ _ e]
          rcases hA.2 m m1 m4 with q | ⟨c, q, c1, c2, c3, ⟨s0, s1, s2, s3⟩, c5, c6, c7⟩
          · exact Or.inl q
          · obtain ⟨v0, v1, v2, v3, v4⟩ := c5
            have e9 : ∀ j, V2 c j = V c j := fun j => (hv2 c j (by omega)).trans (hVo c j (by omega))
            refine Or.inr ⟨c, q, c1, c2, by omega, ⟨gs _ _ s0, gs _ _ s1, gs _ _ s2, gs _ _ s3⟩, ⟨(e9 0).trans v0, (e9 1).trans v1, (e9 2).trans v2, (e9 3).trans v3, (e9 4).trans v4⟩, fun x hx => ?_, fun x hx => ?_⟩
            · rw [hm.1 (c + 1) (by omega) (by omega) (by omega) (by omega) (by omega), hIo _ (by omega) (by omega)]; exact c6 x hx
            · rw [hJo _ (by omega)]; exact c7 x hx
      · rw [hm.1 a q2 q3 q4 (by omega) (by omega), hIo a (by omega) (by omega)]
      · rw [hv2 a j q2, hVo a j (by omega)]
    · refine mw_aload_n dc_De_chartNow_18 rfl 0 rfl ?_
      refine mi_get (ci := 0) (k := 4) dc_De_chartNow_19 rfl wi_De rfl rfl (by decide) fl_De_36 hW.1.2.2.2.1 ?_
      refine mw_aload_n dc_De_chartNow_22 rfl 0 rfl ?_
      refine mi_get (ci := 0) (k := 0) dc_De_chartNow_23 rfl wi_De rfl rfl (by decide) fl_De_9 hg ?_
      refine mi_aald dc_De_chartNow_26 rfl rfl ⟨by omega, by omega, by decide⟩ (r := c) (by rw [Int.toNat_natCast]; exact hF) ?_
      refine mw_ifnonnull (tgt := 66) dc_De_chartNow_27 (by decide) ?_
      refine mw_aload_n dc_De_chartNow_66 rfl 0 rfl ?_
      refine mi_get (ci := 0) (k := 4) dc_De_chartNow_67 rfl wi_De rfl rfl (by decide) fl_De_36 hW.1.2.2.2.1 ?_
      refine mw_aload_n dc_De_chartNow_70 rfl 0 rfl ?_
      refine mi_get (ci := 0) (k := 0) dc_De_chartNow_71 rfl wi_De rfl rfl (by decide) fl_De_9 hg ?_
      refine mi_aald dc_De_chartNow_74 rfl rfl ⟨by omega, by omega, by decide⟩ (r := c) (by rw [Int.toNat_natCast]; exact hF) ?_
      exact mw_aret dc_De_chartNow_75 rfl ⟨fun q => absurd q (by omega), fun _ => ⟨c, cs, I, J, F, V, rfl, rfl, hF, hc, hA, cf_r I J F V⟩⟩
  · exact mw_throw (bc := 3) (bs := 794) th_De_chartNow_8 (Nat.le_of_ble_eq_true rfl) ⟨fun _ => ⟨rfl, rfl⟩, fun q => absurd q (by omega)⟩
