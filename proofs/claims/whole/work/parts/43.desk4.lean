/-! what is scratch; what is known behind drawSlots -/
def sc_k (I K : Nat → Nat → Int32) : Prop := ∀ a, (a < 25 ∨ 33 < a) → a ≠ 36 → a ≠ 37 → K a = I a
theorem sc_t {I K L : Nat → Nat → Int32} (h1 : sc_k I K) (h2 : sc_k K L) : sc_k I L := fun a h a6 a7 => (h2 a h a6 a7).trans (h1 a h a6 a7)
theorem sc_r (I : Nat → Nat → Int32) : sc_k I I := fun _ _ _ _ => rfl
theorem sc_u {I : Nat → Nat → Int32} {t : Nat} (f : Nat → Int32) (h : (25 ≤ t ∧ t ≤ 33) ∨ t = 36 ∨ t = 37) : sc_k I (va_up I t f) := fun a h1 a6 a7 => va_up_ne _ _ (by omega)
theorem sc_re (I : Nat → Nat → Int32) (n : Nat) (u v : Nat → Int) : sc_k I (re_I I n u v) := sc_t (sc_u _ (by omega)) (sc_u _ (by omega))
theorem sc_pe (I : Nat → Nat → Int32) (a b : Int) : sc_k I (pe_I I a b) := sc_t (sc_u _ (by omega)) (sc_u _ (by omega))
theorem sc_dw (I : Nat → Nat → Int32) (n : Nat) (y : Nat → Int) : ∀ p, sc_k I (dw_p I n y p) := fun p => by
  induction p with
  | zero => exact sc_t (sc_u _ (by omega)) (sc_t (sc_pe _ _ _) (sc_pe _ _ _))
  | succ p ih => exact sc_t ih (sc_t (sc_u _ (by omega)) (sc_t (sc_pe _ _ _) (sc_pe _ _ _)))
theorem sc_dr (I : Nat → Nat → Int32) (n : Nat) (y : Nat → Int) (so : Nat → Nat) : sc_k I (dr_I I n y so) := sc_t (sc_dw I n y n) (sc_t (sc_u _ (by omega)) (sc_t (sc_u _ (by omega)) (sc_t (sc_u _ (by omega)) (sc_u _ (by omega)))))
theorem kn_e {I : Nat → Nat → Int32} {n : Nat} {y : Nat → Int} {ea so : Nat → Nat} (h : dr_e (dw_p I n y n) n ea so) : dr_e (dr_I I n y so) n ea so := fun s hs => h s hs
theorem kn_lh {I : Nat → Nat → Int32} {n : Nat} {y : Nat → Int} {ea so : Nat → Nat} (hn : n ≤ 6) (h : dr_e (dw_p I n y n) n ea so) : dr_lh (dr_I I n y so) n (lo_f so) (hi_f so) := fun k hk => dr_lhl hn h k hk
theorem kn_p {I : Nat → Nat → Int32} {n : Nat} {y : Nat → Int} {so : Nat → Nat} : dr_p (dr_I I n y so) n (pa_f so n) := fun k hk => ⟨(show nn (dw_p I n y n 31) (n + 1) (pa_f so n) k = _ from nn_a (by omega)), jp_ole (n + 1) (Nat.le_refl _) k hk⟩
theorem kn_b {I : Nat → Nat → Int32} {n : Nat} {y : Nat → Int} {so : Nat → Nat} : dr_b (dr_I I n y so) n (bd_f so n) := fun k hk => (show nb (dw_p I n y n 32) (n + 1) (bd_f so n) k = _ from nb_a (by omega))
def fr_f (n : Nat) (y : Nat → Int) (k : Nat) : Int := if k = 0 then 0 else if k = n + 1 then (n : Int) + 1 else y (k - 1)
theorem pe_27 (I : Nat → Nat → Int32) (a b : Int) : pe_I I a b 27 = I 27 := rfl
theorem kn_27 (I : Nat → Nat → Int32) (n : Nat) (y : Nat → Int) : ∀ p, p ≤ n → ∀ k, (k = 0 ∨ k = n + 1 ∨ (1 ≤ k ∧ k ≤ p)) → dw_p I n y p 27 k = iI (fr_f n y k) := fun p => by
  induction p with
  | zero =>
    intro _ k hk
    show upd (upd (I 27) 0 (iI 0)) (n + 1) (iI ((n : Int) + 1)) k = _
    by_cases e : k = n + 1
    · subst e
      rw [pk_us]
      unfold fr_f
      rw [if_neg (by omega), if_pos rfl]
    · rw [pk_un e]
      have e0 : k = 0 := by omega
      subst e0
      rw [pk_us]
      unfold fr_f
      rw [if_pos rfl]
  | succ p ih =>
    intro hp k hk
    show upd (dw_p I n y p 27) (p + 1) (iI (y p)) k = _
    by_cases e : k = p + 1
    · subst e
      rw [pk_us]
      unfold fr_f
      rw [if_neg (by omega), if_neg (by omega), Nat.add_sub_cancel]
    · rw [pk_un e]
      exact ih (by omega) k (by omega)
theorem kn_f {I : Nat → Nat → Int32} {n : Nat} {y : Nat → Int} {so : Nat → Nat} (hn : n ≤ 6) (hy : ∀ p, p < n → -(n : Int) ≤ y p ∧ y p ≤ n) : dr_f (dr_I I n y so) n (fr_f n y) := fun k hk => by
  refine ⟨(show dw_p I n y n 27 k = _ from kn_27 I n y n (Nat.le_refl _) k (by omega)), ?_⟩
  unfold fr_f
  by_cases e : k = 0
  · rw [if_pos e]; omega
  · rw [if_neg e]
    by_cases e2 : k = n + 1
    · rw [if_pos e2]; omega
    · rw [if_neg e2]
      have := hy (k - 1) (by omega)
      omega
/-- the desk's distance of a relative row, by its drawing -/
def hu_n (ea so : Nat → Nat) (n : Nat) : Nat := ct (hu_p (bd_f so n) (wb_f ea (pa_f so n) (bd_f so n) (2 * n + 2)).1 (wb_f ea (pa_f so n) (bd_f so n) (2 * n + 2)).2) (n + 1)
def cy_n (ea so : Nat → Nat) (n : Nat) : Nat := (cc_f ea so n (2 * n + 2)).2
def di_f (ea so : Nat → Nat) (n : Nat) : Int := ((n + 1 : Nat) : Int) - (cy_n ea so n : Nat) + (hu_n ea so n : Nat)
/-- any two slots: their orders, and their drawing -/
def dk_O (I : Nat → Nat → Int32) (n : Nat) (u : Nat → Nat → Int) (y : Nat → Nat → Nat → Int) (ea so : Nat → Nat → Nat → Nat) : Prop := (∀ s, s < 5 → or_ok I n s (u s)) ∧ ∀ a b, a < 5 → b < 5 → rw_ok I n (u a) (u b) (y a b) (ea a b) (so a b)
theorem ev_distance {G : mm_G} {d : Nat} {cs : mm_Sh} {I : Nat → Nat → Int32} {J : Nat → Nat → Int64} {F : Nat → Nat → Option Nat} {V : Nat → Nat → Value} {n : Nat} {u : Nat → Nat → Int} {y : Nat → Nat → Nat → Int} {ea so : Nat → Nat → Nat → Nat} (hW : dk_W F V) (hg : V 0 0 = .int (iI n)) (hn : n ≤ 6) (hO : dk_O I n u y ea so) {a b : Int} (hst : G.1.stackTraces = false) (ha : iB a) (hb : iB b) : mT G mt_De_distance (d + 5) 2 12 [.ref 0, .int (iI a), .int (iI b)] (wd_S ++ cs, I, J, F, V) (fun o h1 => ((okS a ∧ okS b) → (∃ K, sc_k I K ∧ h1 = (wd_S ++ cs, K, J, F, dr_W V n)) ∧ o = .inl (some (.int (iI (di_f (ea a.toNat b.toNat) (so a.toNat b.toNat) n))))) ∧ (¬ (okS a ∧ okS b) → o = .inr 1 ∧ h1 = (wd_S ++ cs, I, J, F, V))) := by
  refine mT_intro hst (by decide) (Nat.le_of_ble_eq_true rfl) ?_
  show mW G mt_De_distance (d + 5) 2 12 0 [(0, .ref 0), (1, .int (iI a)), (2, .int (iI b))] [] (wd_S ++ cs, I, J, F, V) _
  have hW2 := dk_dr n hW
  refine mw_iload_n dc_De_distance_0 rfl 1 rfl ?_
  refine mw_iload_n dc_De_distance_1 rfl 2 rfl ?_
  refine mc_SP2 (mc := 2) (ms := 12) (bc := 0) (bs := 0) (M2 := mt_De_checkSlots) dc_De_distance_2 ml_De_94 ny_De_checkSlots (by decide) (Nat.le_of_ble_eq_true rfl) (ev_checkSlots hst ha hb) (fun v h1 hY => ?_) rfl (fun j h1 hY => by obtain ⟨hp, rfl, rfl⟩ := ck_x hY; exact ⟨fun q => absurd q hp, fun _ => ⟨rfl, rfl⟩⟩)
  obtain ⟨hp, rfl, rfl⟩ := ck_r hY
  refine mw_aload_n dc_De_distance_5 rfl 0 rfl ?_
  refine mw_iload_n dc_De_distance_6 rfl 1 rfl ?_
  refine mw_iload_n dc_De_distance_7 rfl 2 rfl ?_
  rw [show iI a = iI ((a.toNat : Nat) : Int) by rw [show ((a.toNat : Nat) : Int) = a by omega], show iI b = iI ((b.toNat : Nat) : Int) by rw [show ((b.toNat : Nat) : Int) = b by omega]]
  refine mz_V2 (M2 := mt_De_drawSlots) dc_De_distance_8 ml_De_107 rfl rfl ny_De_drawSlots (by decide) (Nat.le_of_ble_eq_true rfl) (ev_drawSlots hW hg hn (a := a.toNat) (b := b.toNat) (by omega) (by omega) (hO.1 _ (by omega)) (hO.1 _ (by omega)) (hO.2 _ _ (by omega) (by omega))) (fun v h1 hY => ?_)
  obtain ⟨hv, rfl⟩ := hY
  cases hv
  refine mw_aload_n dc_De_distance_11 rfl 0 rfl ?_
  refine mi_get (ci := 0) (k := 3) dc_De_distance_12 rfl wi_De rfl rfl (by decide) fl_De_30 hW2.1.2.2.1 ?_
  refine mz_V0 (M2 := mt_Dr_fewestReversals) dc_De_distance_15 ml_De_110 rfl rfl ny_Dr_fewestReversals (by decide) (Nat.le_of_ble_eq_true rfl) (ev_fewest (I := (dr_I (re_I I n (u a.toNat) (u b.toNat)) n (y a.toNat b.toNat) (so a.toNat b.toNat))) hW2.2.2.2 (kn_e (hO.2 _ _ (by omega) (by omega)).2) kn_p kn_b hn (dr_WL V n) (dr_WP V n)) (fun v h1 hY => ?_)
  obtain ⟨hv, rfl⟩ := hY
  cases hv

  exact mw_iret dc_De_distance_18 rfl rfl ⟨fun _ => ⟨⟨_, sc_t (sc_re I n _ _) (sc_t (sc_dr _ n _ _) (sc_t (sc_u _ (by omega)) (sc_u _ (by omega)))), rfl⟩, rfl⟩, fun q => absurd hp q⟩
theorem ev_line {G : mm_G} {d : Nat} {cs : mm_Sh} {I : Nat → Nat → Int32} {J : Nat → Nat → Int64} {F : Nat → Nat → Option Nat} {V : Nat → Nat → Value} {n : Nat} {u : Nat → Nat → Int} {y : Nat → Nat → Nat → Int} {ea so : Nat → Nat → Nat → Nat} (hW : dk_W F V) (hg : V 0 0 = .int (iI n)) (hn : n ≤ 6) (hO : dk_O I n u y ea so) {a b k : Int} (hst : G.1.stackTraces = false) (ha : iB a) (hb : iB b) (hk : iB k) : mT G mt_De_line (d + 5) 3 18 [.ref 0, .int (iI a), .int (iI b), .int (iI k)] (wd_S ++ cs, I, J, F, V) (fun o h1 => ((okS a ∧ okS b ∧ 0 ≤ k ∧ k ≤ n) → (∃ K, sc_k I K ∧ h1 = (wd_S ++ cs, K, J, F, dr_W V n)) ∧ o = .inl (some (.int (iI (100 * (lo_f (so a.toNat b.toNat) k.toNat : Nat) + (hi_f (so a.toNat b.toNat) k.toNat : Nat)))))) ∧ (¬ (okS a ∧ okS b) → o = .inr 1 ∧ h1 = (wd_S ++ cs, I, J, F, V)) ∧ ((okS a ∧ okS b ∧ ¬ (0 ≤ k ∧ k ≤ n)) → o = .inr 0 ∧ h1 = (wd_S ++ cs, I, J, F, V))) := by
  refine mT_intro hst (by decide) (Nat.le_of_ble_eq_true rfl) ?_
  show mW G mt_De_line (d + 5) 3 18 0 [(0, .ref 0), (1, .int (iI a)), (2, .int (iI b)), (3, .int (iI k))] [] (wd_S ++ cs, I, J, F, V) _
  have hW2 := dk_dr n hW
  refine mw_iload_n dc_De_line_0 rfl 1 rfl ?_
  refine mw_iload_n dc_De_line_1 rfl 2 rfl ?_
  refine mc_SP2 (mc := 2) (ms := 12) (bc := 1) (bs := 6) (M2 := mt_De_checkSlots) dc_De_line_2 ml_De_94 ny_De_checkSlots (by decide) (Nat.le_of_ble_eq_true rfl) (ev_checkSlots hst ha hb) (fun v h1 hY => ?_) rfl (fun j h1 hY => by obtain ⟨hp, rfl, rfl⟩ := ck_x hY; exact ⟨fun q => absurd ⟨q.1, q.2.1⟩ hp, fun _ => ⟨rfl, rfl⟩, fun q => absurd ⟨q.1, q.2.1⟩ hp⟩)
  obtain ⟨hp, rfl, rfl⟩ := ck_r hY
  refine mw_iload_n dc_De_line_5 rfl 3 rfl ?_
  refine mi_if_lt (tgt := 17) dc_De_line_6 (by decide) hk (fun h06 => ?_) (fun h06 => ?_)
  · exact mw_throw (bc := 0) (bs := 0) th_De_line_17 (Nat.le_of_ble_eq_true rfl) ⟨fun q => absurd q (by omega), fun q => absurd hp q, fun _ => ⟨rfl, rfl⟩⟩
  · refine mw_iload_n dc_De_line_9 rfl 3 rfl ?_
    refine mw_aload_n dc_De_line_10 rfl 0 rfl ?_
    refine mi_get (ci := 0) (k := 0) dc_De_line_11 rfl wi_De rfl rfl (by decide) fl_De_9 hg ?_
    refine mi_icmp_le (tgt := 27) dc_De_line_14 (by decide) hk (iB_mk (by omega) (by omega)) (fun h114 => ?_) (fun h114 => ?_)
    · refine mw_aload_n dc_De_line_27 rfl 0 rfl ?_
      refine mw_iload_n dc_De_line_28 rfl 1 rfl ?_
      refine mw_iload_n dc_De_line_29 rfl 2 rfl ?_
      rw [show iI a = iI ((a.toNat : Nat) : Int) by rw [show ((a.toNat : Nat) : Int) = a by omega], show iI b = iI ((b.toNat : Nat) : Int) by rw [show ((b.toNat : Nat) : Int) = b by omega]]
      refine mz_V2 (M2 := mt_De_drawSlots) dc_De_line_30 ml_De_107 rfl rfl ny_De_drawSlots (by decide) (Nat.le_of_ble_eq_true rfl) (ev_drawSlots hW hg hn (a := a.toNat) (b := b.toNat) (by omega) (by omega) (hO.1 _ (by omega)) (hO.1 _ (by omega)) (hO.2 _ _ (by omega) (by omega))) (fun v h1 hY => ?_)
      obtain ⟨hv, rfl⟩ := hY
      cases hv
      have hlh := kn_lh (I := re_I I n (u a.toNat) (u b.toNat)) (y := y a.toNat b.toNat) hn (hO.2 _ _ (show a.toNat < 5 by omega) (show b.toNat < 5 by omega)).2
      refine mi_bipush dc_De_line_33 (by decide) ?_
      refine mw_aload_n dc_De_line_35 rfl 0 rfl ?_
      refine mi_get (ci := 0) (k := 3) dc_De_line_36 rfl wi_De rfl rfl (by decide) fl_De_30 hW2.1.2.2.1 ?_
      refine mi_get (ci := 3) (k := 0) dc_De_line_39 rfl wi_Dr rfl rfl (by decide) fl_De_135 hW2.2.2.2.1 ?_
      refine mw_iload_n dc_De_line_42 rfl 3 rfl ?_
      refine mi_iald dc_De_line_43 rfl ⟨by omega, by omega, by decide⟩ (v := iI (lo_f (so a.toNat b.toNat) k.toNat : Nat)) (hlh k.toNat (by omega)).1 ?_
      refine mi_imul dc_De_line_44 ?_
      refine mw_aload_n dc_De_line_45 rfl 0 rfl ?_
      refine mi_get (ci := 0) (k := 3) dc_De_line_46 rfl wi_De rfl rfl (by decide) fl_De_30 hW2.1.2.2.1 ?_
      refine mi_get (ci := 3) (k := 1) dc_De_line_49 rfl wi_Dr rfl rfl (by decide) fl_De_138 hW2.2.2.2.2.1 ?_
      refine mw_iload_n dc_De_line_52 rfl 3 rfl ?_
      refine mi_iald dc_De_line_53 rfl ⟨by omega, by omega, by decide⟩ (v := iI (hi_f (so a.toNat b.toNat) k.toNat : Nat)) (hlh k.toNat (by omega)).2.1 ?_
      refine mi_iadd dc_De_line_54 ?_
      exact mw_iret dc_De_line_55 rfl rfl ⟨fun _ => ⟨⟨_, sc_t (sc_re I n _ _) (sc_dr _ n _ _), rfl⟩, rfl⟩, fun q => absurd hp q, fun q => absurd q.2.2 (by omega)⟩
    · exact mw_throw (bc := 0) (bs := 0) th_De_line_17 (Nat.le_of_ble_eq_true rfl) ⟨fun q => absurd q (by omega), fun q => absurd hp q, fun _ => ⟨rfl, rfl⟩⟩
theorem mi_tabI {G : mm_G} {M : mm_M} {d bc bs pc : Nat} {ls : List (Nat × Value)} {st : List Value} {h : mm_H} {X : mm_X} {dflt lo hi off : Int} {offs : Array Int} {len tgt : Nat} {z : Int} (hd : decode M.2.1 pc = .ok (.tableswitch dflt lo hi offs, len)) (hz : iB z) (h1 : ¬ z < lo) (h2 : ¬ hi < z) (ho : offs[(z - lo).toNat]? = some off) (ht : (pc : Int) + off = (tgt : Int)) (k : mW G M d bc bs tgt ls st h X) : mW G M d bc bs pc ls (.int (iI z) :: st) h X := by
  intro p e R s m args below meth c A n0 ad0 Q hC hA hE ad H locs cells slots lr z2
  refine lv_tableIn hC.1 hC.2.1 hd ?_ ?_ ?_ ht (k p e R s m args below meth c A n0 ad0 Q hC hA hE ad H locs cells slots lr (z2.sk (mm_t1 z2.vs)))
  · rw [iI_toInt hz]; exact h1
  · rw [iI_toInt hz]; exact h2
  · rw [iI_toInt hz]; exact ho
theorem mi_tabO {G : mm_G} {M : mm_M} {d bc bs pc : Nat} {ls : List (Nat × Value)} {st : List Value} {h : mm_H} {X : mm_X} {dflt lo hi : Int} {offs : Array Int} {len tgt : Nat} {z : Int} (hd : decode M.2.1 pc = .ok (.tableswitch dflt lo hi offs, len)) (hz : iB z) (h1 : z < lo ∨ hi < z) (ht : (pc : Int) + dflt = (tgt : Int)) (k : mW G M d bc bs tgt ls st h X) : mW G M d bc bs pc ls (.int (iI z) :: st) h X := by
  intro p e R s m args below meth c A n0 ad0 Q hC hA hE ad H locs cells slots lr z2
  refine lv_tableOut hC.1 hC.2.1 hd ?_ ht (k p e R s m args below meth c A n0 ad0 Q hC hA hE ad H locs cells slots lr (z2.sk (mm_t1 z2.vs)))
  rw [iI_toInt hz]
  exact h1
def dg_f (ea so : Nat → Nat) (n : Nat) (y : Nat → Int) (k : Int) : Nat :=
  if k = 0 then cy_n ea so n else if k = 1 then ct (fun j => pa_f so n j == j) (n + 1) else if k = 2 then ct (bd_f so n) (n + 1) else if k = 3 then hu_n ea so n else if k = 4 then ct (fun j => (lo_f so j + hi_f so j) % 2 == 0) (n + 1) else ct (fun j => !(fr_f n y (j + 1) == fr_f n y j + 1)) (n + 1)
theorem ev_drawing {G : mm_G} {d : Nat} {cs : mm_Sh} {I : Nat → Nat → Int32} {J : Nat → Nat → Int64} {F : Nat → Nat → Option Nat} {V : Nat → Nat → Value} {n : Nat} {u : Nat → Nat → Int} {y : Nat → Nat → Nat → Int} {ea so : Nat → Nat → Nat → Nat} (hW : dk_W F V) (hg : V 0 0 = .int (iI n)) (hn : n ≤ 6) (hO : dk_O I n u y ea so) {a b k : Int} (hst : G.1.stackTraces = false) (ha : iB a) (hb : iB b) (hk : iB k) : mT G mt_De_drawing (d + 5) 3 18 [.ref 0, .int (iI a), .int (iI b), .int (iI k)] (wd_S ++ cs, I, J, F, V) (fun o h1 => ((okS a ∧ okS b ∧ 0 ≤ k ∧ k ≤ 5) → (∃ K, sc_k I K ∧ h1 = (wd_S ++ cs, K, J, F, dr_W V n)) ∧ o = .inl (some (.int (iI ((dg_f (ea a.toNat b.toNat) (so a.toNat b.toNat) n (y a.toNat b.toNat) k : Nat)))))) ∧ (¬ (okS a ∧ okS b) → o = .inr 1 ∧ h1 = (wd_S ++ cs, I, J, F, V)) ∧ ((okS a ∧ okS b ∧ ¬ (0 ≤ k ∧ k ≤ 5)) → o = .inr 0 ∧ h1 = (wd_S ++ cs, I, J, F, V))) := by
  refine mT_intro hst (by decide) (Nat.le_of_ble_eq_true rfl) ?_
  show mW G mt_De_drawing (d + 5) 3 18 0 [(0, .ref 0), (1, .int (iI a)), (2, .int (iI b)), (3, .int (iI k))] [] (wd_S ++ cs, I, J, F, V) _
  have hW2 := dk_dr n hW
  refine mw_iload_n dc_De_drawing_0 rfl 1 rfl ?_
  refine mw_iload_n dc_De_drawing_1 rfl 2 rfl ?_
  refine mc_SP2 (mc := 2) (ms := 12) (bc := 1) (bs := 6) (M2 := mt_De_checkSlots) dc_De_drawing_2 ml_De_94 ny_De_checkSlots (by decide) (Nat.le_of_ble_eq_true rfl) (ev_checkSlots hst ha hb) (fun v h1 hY => ?_) rfl (fun j h1 hY => by obtain ⟨hp, rfl, rfl⟩ := ck_x hY; exact ⟨fun q => absurd ⟨q.1, q.2.1⟩ hp, fun _ => ⟨rfl, rfl⟩, fun q => absurd ⟨q.1, q.2.1⟩ hp⟩)
  obtain ⟨hp, rfl, rfl⟩ := ck_r hY
  refine mw_iload_n dc_De_drawing_5 rfl 3 rfl ?_
  refine mi_if_lt (tgt := 14) dc_De_drawing_6 (by decide) hk (fun h06 => ?_) (fun h06 => ?_)
  · exact mw_throw (bc := 0) (bs := 0) th_De_drawing_14 (Nat.le_of_ble_eq_true rfl) ⟨fun q => absurd q (by omega), fun q => absurd hp q, fun _ => ⟨rfl, rfl⟩⟩
  · refine mw_iload_n dc_De_drawing_9 rfl 3 rfl ?_
    refine mi_const dc_De_drawing_10 ?_
    refine mi_icmp_le (tgt := 24) dc_De_drawing_11 (by decide) hk (iB_mk (by omega) (by omega)) (fun h111 => ?_) (fun h111 => ?_)
    · refine mw_aload_n dc_De_drawing_24 rfl 0 rfl ?_
      refine mw_iload_n dc_De_drawing_25 rfl 1 rfl ?_
      refine mw_iload_n dc_De_drawing_26 rfl 2 rfl ?_
      rw [show iI a = iI ((a.toNat : Nat) : Int) by rw [show ((a.toNat : Nat) : Int) = a by omega], show iI b = iI ((b.toNat : Nat) : Int) by rw [show ((b.toNat : Nat) : Int) = b by omega]]
      refine mz_V2 (M2 := mt_De_drawSlots) dc_De_drawing_27 ml_De_107 rfl rfl ny_De_drawSlots (by decide) (Nat.le_of_ble_eq_true rfl) (ev_drawSlots hW hg hn (a := a.toNat) (b := b.toNat) (by omega) (by omega) (hO.1 _ (by omega)) (hO.1 _ (by omega)) (hO.2 _ _ (by omega) (by omega))) (fun v h1 hY => ?_)
      obtain ⟨hv, rfl⟩ := hY
      cases hv
      refine mw_iload_n dc_De_drawing_30 rfl 3 rfl ?_
      have ho := (hO.2 _ _ (show a.toNat < 5 by omega) (show b.toNat < 5 by omega))
      have hE := kn_e ho.2
      have hlh := kn_lh hn ho.2
      have hF := kn_f (so := so a.toNat b.toNat) (I := re_I I n (u a.toNat) (u b.toNat)) hn (fun p hp9 => ⟨(ho.1 p hp9).2.2.1, (ho.1 p hp9).2.2.2⟩)
      by_cases c0 : k = 0
      · subst c0
        refine mi_tabI (tgt := 64) dc_De_drawing_31 hk (by decide) (by decide) rfl (by decide) ?_
        refine mw_aload_n dc_De_drawing_64 rfl 0 rfl ?_
        refine mi_get (ci := 0) (k := 3) dc_De_drawing_65 rfl wi_De rfl rfl (by decide) fl_De_30 hW2.1.2.2.1 ?_
        refine mz_V0 (M2 := mt_Dr_countCycles) dc_De_drawing_68 ml_De_115 rfl rfl ny_Dr_countCycles (by decide) (Nat.le_of_ble_eq_true rfl) (ev_countCycles hW2.2.2.2 hE hn (dr_WL V n) (dr_WP V n)) (fun v h1 hY => ?_)
        obtain ⟨hv, rfl⟩ := hY
        cases hv
        exact mw_iret dc_De_drawing_71 rfl rfl ⟨fun _ => ⟨⟨_, sc_t (sc_re I n _ _) (sc_t (sc_dr _ n _ _) (sc_u _ (by omega))), rfl⟩, rfl⟩, fun q => absurd hp q, fun q => absurd q.2.2 (by omega)⟩
      by_cases c1 : k = 1
      · subst c1
        refine mi_tabI (tgt := 72) dc_De_drawing_31 hk (by decide) (by decide) rfl (by decide) ?_
        refine mw_aload_n dc_De_drawing_72 rfl 0 rfl ?_
        refine mi_get (ci := 0) (k := 3) dc_De_drawing_73 rfl wi_De rfl rfl (by decide) fl_De_30 hW2.1.2.2.1 ?_
        refine mz_V0 (M2 := mt_Dr_countParts) dc_De_drawing_76 ml_De_118 rfl rfl ny_Dr_countParts (by decide) (Nat.le_of_ble_eq_true rfl) (ev_countParts kn_p hW2.2.2.2 hn (dr_WL V n)) (fun v h1 hY => ?_)
        obtain ⟨hv, rfl⟩ := hY
        cases hv
        exact mw_iret dc_De_drawing_79 rfl rfl ⟨fun _ => ⟨⟨_, sc_t (sc_re I n _ _) (sc_t (sc_dr _ n _ _) (sc_r _)), rfl⟩, rfl⟩, fun q => absurd hp q, fun q => absurd q.2.2 (by omega)⟩
      by_cases c2 : k = 2
      · subst c2
        refine mi_tabI (tgt := 80) dc_De_drawing_31 hk (by decide) (by decide) rfl (by decide) ?_
        refine mw_aload_n dc_De_drawing_80 rfl 0 rfl ?_
        refine mi_get (ci := 0) (k := 3) dc_De_drawing_81 rfl wi_De rfl rfl (by decide) fl_De_30 hW2.1.2.2.1 ?_
        refine mz_V0 (M2 := mt_Dr_countBadParts) dc_De_drawing_84 ml_De_121 rfl rfl ny_Dr_countBadParts (by decide) (Nat.le_of_ble_eq_true rfl) (ev_countBadParts kn_b hW2.2.2.2 hn (dr_WL V n)) (fun v h1 hY => ?_)
        obtain ⟨hv, rfl⟩ := hY
        cases hv
        exact mw_iret dc_De_drawing_87 rfl rfl ⟨fun _ => ⟨⟨_, sc_t (sc_re I n _ _) (sc_t (sc_dr _ n _ _) (sc_r _)), rfl⟩, rfl⟩, fun q => absurd hp q, fun q => absurd q.2.2 (by omega)⟩
      by_cases c3 : k = 3
      · subst c3
        refine mi_tabI (tgt := 88) dc_De_drawing_31 hk (by decide) (by decide) rfl (by decide) ?_
        refine mw_aload_n dc_De_drawing_88 rfl 0 rfl ?_
        refine mi_get (ci := 0) (k := 3) dc_De_drawing_89 rfl wi_De rfl rfl (by decide) fl_De_30 hW2.1.2.2.1 ?_
        refine mz_V0 (M2 := mt_Dr_countHurdles) dc_De_drawing_92 ml_De_124 rfl rfl ny_Dr_countHurdles (by decide) (Nat.le_of_ble_eq_true rfl) (ev_countHurdles hW2.2.2.2 hE kn_p kn_b hn (dr_WL V n) (dr_WP V n)) (fun v h1 hY => ?_)
        obtain ⟨hv, rfl⟩ := hY
        cases hv
        exact mw_iret dc_De_drawing_95 rfl rfl ⟨fun _ => ⟨⟨_, sc_t (sc_re I n _ _) (sc_t (sc_dr _ n _ _) (sc_u _ (by omega))), rfl⟩, rfl⟩, fun q => absurd hp q, fun q => absurd q.2.2 (by omega)⟩
      by_cases c4 : k = 4
      · subst c4
        refine mi_tabI (tgt := 96) dc_De_drawing_31 hk (by decide) (by decide) rfl (by decide) ?_
        refine mw_aload_n dc_De_drawing_96 rfl 0 rfl ?_
        refine mi_get (ci := 0) (k := 3) dc_De_drawing_97 rfl wi_De rfl rfl (by decide) fl_De_30 hW2.1.2.2.1 ?_
        refine mz_V0 (M2 := mt_Dr_countOriented) dc_De_drawing_100 ml_De_127 rfl rfl ny_Dr_countOriented (by decide) (Nat.le_of_ble_eq_true rfl) (ev_countOriented hlh hW2.2.2.2 hn (dr_WL V n)) (fun v h1 hY => ?_)
        obtain ⟨hv, rfl⟩ := hY
        cases hv
        exact mw_iret dc_De_drawing_103 rfl rfl ⟨fun _ => ⟨⟨_, sc_t (sc_re I n _ _) (sc_t (sc_dr _ n _ _) (sc_r _)), rfl⟩, rfl⟩, fun q => absurd hp q, fun q => absurd q.2.2 (by omega)⟩
      refine mi_tabO (tgt := 104) dc_De_drawing_31 hk (Or.inr (by omega)) (by decide) ?_
      refine mw_aload_n dc_De_drawing_104 rfl 0 rfl ?_
      refine mi_get (ci := 0) (k := 3) dc_De_drawing_105 rfl wi_De rfl rfl (by decide) fl_De_30 hW2.1.2.2.1 ?_
      refine mz_V0 (M2 := mt_Dr_countBreakpoints) dc_De_drawing_108 ml_De_130 rfl rfl ny_Dr_countBreakpoints (by decide) (Nat.le_of_ble_eq_true rfl) (ev_countBreakpoints hF hW2.2.2.2 hn (dr_WL V n)) (fun v h1 hY => ?_)
      obtain ⟨hv, rfl⟩ := hY
      cases hv
      exact mw_iret dc_De_drawing_111 rfl rfl ⟨fun _ => ⟨⟨_, sc_t (sc_re I n _ _) (sc_t (sc_dr _ n _ _) (sc_r _)), rfl⟩, by unfold dg_f; rw [if_neg c0, if_neg c1, if_neg c2, if_neg c3, if_neg c4]⟩, fun q => absurd hp q, fun q => absurd q.2.2 (by omega)⟩
    · exact mw_throw (bc := 0) (bs := 0) th_De_drawing_14 (Nat.le_of_ble_eq_true rfl) ⟨fun q => absurd q (by omega), fun q => absurd hp q, fun _ => ⟨rfl, rfl⟩⟩
