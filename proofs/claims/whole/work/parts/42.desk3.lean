/-! wiring stays; genes; the drawing of two slots -/
theorem fu_ne {V : Nat → Nat → Value} {t k a j : Nat} {v : Value} (h : ¬ (a = t ∧ j = k)) : fu V t k v a j = V a j := by
  by_cases e : a = t
  · subst e; exact fu_n2 _ _ (fun e2 => h ⟨rfl, e2⟩)
  · exact fu_n1 _ _ e
def wi (a j : Nat) : Prop := (a = 0 ∧ j ≠ 0 ∧ j ≠ 6) ∨ (∃ s, s < 5 ∧ a = sp s ∧ j < 3) ∨ (a = 22 ∧ j = 0) ∨ (a = 24 ∧ j ≠ 2 ∧ j ≠ 3)
theorem dk_fu {F : Nat → Nat → Option Nat} {V : Nat → Nat → Value} {t k : Nat} (v : Value) (hW : dk_W F V) (h : ¬ wi t k) : dk_W F (fu V t k v) := by
  have e : ∀ a j, wi a j → fu V t k v a j = V a j := fun a j hw => fu_ne (fun q => h (q.1 ▸ q.2 ▸ hw))
  have e0 : ∀ j, j ≠ 0 → j ≠ 6 → fu V t k v 0 j = V 0 j := fun j a b => e 0 j (Or.inl ⟨rfl, a, b⟩)
  have e24 : ∀ j, j ≠ 2 → j ≠ 3 → fu V t k v 24 j = V 24 j := fun j a b => e 24 j (Or.inr (Or.inr (Or.inr ⟨rfl, a, b⟩)))
  obtain ⟨⟨w1, w2, w3, w4, w5, w7, w8, w9⟩, hs, ht, d0, d1, d4, d5, d6, d7, d8, d9, d10⟩ := hW
  refine ⟨⟨(e0 1 (by decide) (by decide)).trans w1, (e0 2 (by decide) (by decide)).trans w2, (e0 3 (by decide) (by decide)).trans w3, (e0 4 (by decide) (by decide)).trans w4, (e0 5 (by decide) (by decide)).trans w5, (e0 7 (by decide) (by decide)).trans w7, (e0 8 (by decide) (by decide)).trans w8, (e0 9 (by decide) (by decide)).trans w9⟩, fun s hs5 => ?_, (e 22 0 (Or.inr (Or.inr (Or.inl ⟨rfl, rfl⟩)))).trans ht, (e24 0 (by decide) (by decide)).trans d0, (e24 1 (by decide) (by decide)).trans d1, (e24 4 (by decide) (by decide)).trans d4, (e24 5 (by decide) (by decide)).trans d5, (e24 6 (by decide) (by decide)).trans d6, (e24 7 (by decide) (by decide)).trans d7, (e24 8 (by decide) (by decide)).trans d8, (e24 9 (by decide) (by decide)).trans d9, (e24 10 (by decide) (by decide)).trans d10⟩
  obtain ⟨f1, f2, f3, f4⟩ := hs s hs5
  exact ⟨f1, (e _ 0 (Or.inr (Or.inl ⟨s, hs5, rfl, by decide⟩))).trans f2, (e _ 1 (Or.inr (Or.inl ⟨s, hs5, rfl, by decide⟩))).trans f3, (e _ 2 (Or.inr (Or.inl ⟨s, hs5, rfl, by decide⟩))).trans f4⟩
theorem wi_k {s : Nat} (h : s < 5) : ¬ wi (sp s) 3 := by
  intro q
  rcases q with ⟨a, _⟩ | ⟨s2, _, _, a⟩ | ⟨a, _⟩ | ⟨a, _, b⟩
  · unfold sp at a; omega
  · omega
  · unfold sp at a; omega
  · exact b rfl
theorem wi_00 : ¬ wi 0 0 := by
  intro q
  rcases q with ⟨_, a, _⟩ | ⟨s2, _, a, _⟩ | ⟨a, _⟩ | ⟨a, _⟩
  · exact a rfl
  · unfold sp at a; omega
  · omega
  · omega
theorem wi_06 : ¬ wi 0 6 := by
  intro q
  rcases q with ⟨_, _, a⟩ | ⟨s2, _, a, _⟩ | ⟨a, _⟩ | ⟨a, _⟩
  · exact a rfl
  · unfold sp at a; omega
  · omega
  · omega
theorem wi_221 : ¬ wi 22 1 := by
  intro q
  rcases q with ⟨a, _⟩ | ⟨s2, h, a, _⟩ | ⟨_, a⟩ | ⟨a, _⟩
  · omega
  · unfold sp at a; omega
  · omega
  · omega
theorem wi_242 : ¬ wi 24 2 := by
  intro q
  rcases q with ⟨a, _⟩ | ⟨s2, h, a, _⟩ | ⟨a, _⟩ | ⟨_, a, _⟩
  · omega
  · unfold sp at a; omega
  · omega
  · exact a rfl
theorem wi_243 : ¬ wi 24 3 := by
  intro q
  rcases q with ⟨a, _⟩ | ⟨s2, h, a, _⟩ | ⟨a, _⟩ | ⟨_, _, a⟩
  · omega
  · unfold sp at a; omega
  · omega
  · exact a rfl
theorem dk_dr {F : Nat → Nat → Option Nat} {V : Nat → Nat → Value} (n : Nat) (hW : dk_W F V) : dk_W F (dr_W V n) := dk_fu _ (dk_fu _ hW wi_242) wi_243
def ge_I (I : Nat → Nat → Int32) : Nat → Nat → Nat → Int32
  | 0 => I
  | s + 1 => va_up (ge_I I s) (sp s + 1) (bp_f (ge_I I s (sp s + 1)) 6)
def ge_V (V : Nat → Nat → Value) : Nat → Nat → Nat → Value
  | 0 => V
  | s + 1 => fu (ge_V V s) (sp s) 3 (.int (iI 0))
theorem ge_W {F : Nat → Nat → Option Nat} {V : Nat → Nat → Value} (hW : dk_W F V) : ∀ s, s ≤ 5 → dk_W F (ge_V V s) := fun s => by
  induction s with
  | zero => intro _; exact hW
  | succ s ih => intro h; exact dk_fu _ (ih (by omega)) (wi_k (by omega))
theorem lp_genes {G : mm_G} {d bc bs : Nat} {cs : mm_Sh} {I : Nat → Nat → Int32} {J : Nat → Nat → Int64} {F : Nat → Nat → Option Nat} {V : Nat → Nat → Value} {X : mm_X} (hW : dk_W F V) (hx : mW G mt_De_genes (d + 1) bc bs 48 [(0, .ref 0)] [] (wd_S ++ cs, ge_I I 5, J, F, ge_V V 5) X) :
    ∀ (m s : Nat), 5 - s < m → s ≤ 5 → mW G mt_De_genes (d + 1) bc bs 28 [(2, .int (iI s)), (0, .ref 0)] [] (wd_S ++ cs, ge_I I s, J, F, ge_V V s) X := by
  intro m
  induction m with
  | zero => intro s h1 _; exact absurd h1 (Nat.not_lt_zero _)
  | succ m ih =>
    intro s h1 h2
    have hW2 := ge_W hW s h2
    refine mw_iload_n dc_De_genes_28 rfl 0 rfl ?_
    refine mi_const dc_De_genes_29 ?_
    refine mi_icmp_ge (tgt := 48) dc_De_genes_30 (by decide) (iB_mk (by omega) (by omega)) (iB_mk (by omega) (by omega)) (fun hh => ?_) (fun hh => ?_)
    · have e : s = 5 := by omega
      subst e
      refine mw_pick [1] rfl ?_
      exact hx
    · have hs : s < 5 := by omega
      refine mw_aload_n dc_De_genes_33 rfl 1 rfl ?_
      refine mi_get (ci := 0) (k := 1) dc_De_genes_34 rfl wi_De rfl rfl (by decide) fl_De_15 hW2.1.1 ?_
      refine mw_iload_n dc_De_genes_37 rfl 0 rfl ?_
      refine mi_aald dc_De_genes_38 rfl rfl ⟨by omega, by omega, by decide⟩ (by rw [Int.toNat_natCast]; exact (hW2.2.1 s (by omega)).1) ?_
      refine mz_V0 (M2 := mt_Sl_becomePlain) dc_De_genes_39 ml_De_63 (sl_W s hs).1 rfl ny_Sl_becomePlain (by decide) (Nat.le_of_ble_eq_true rfl) (ev_becomePlain (sl_W s hs) (hW2.2.1 s hs).2) (fun v h1 hY => ?_)
      obtain ⟨hv, rfl⟩ := hY
      cases hv
      refine mi_iinc dc_De_genes_42 0 rfl (by decide) rfl ?_
      refine mw_goto (tgt := 28) dc_De_genes_45 (by decide) ?_
      refine mw_pick [0, 1] rfl ?_
      exact ih (s + 1) (by omega) (by omega)
theorem ev_genes {G : mm_G} {d : Nat} {cs : mm_Sh} {I : Nat → Nat → Int32} {J : Nat → Nat → Int64} {F : Nat → Nat → Option Nat} {V : Nat → Nat → Value} {x : Int} (hst : G.1.stackTraces = false) (hW : dk_W F V) (hx : iB x) : mT G mt_De_genes (d + 1) 1 6 [.ref 0, .int (iI x)] (wd_S ++ cs, I, J, F, V) (fun o h1 => ((1 ≤ x ∧ x ≤ 6) → o = .inl none ∧ h1 = (wd_S ++ cs, ge_I I 5, J, F, fu (ge_V (fu V 0 0 (.int (iI x))) 5) 0 6 (.int (iI (-1))))) ∧ (¬ (1 ≤ x ∧ x ≤ 6) → o = .inr 0 ∧ h1 = (wd_S ++ cs, I, J, F, V))) := by
  refine mT_intro hst (by decide) (Nat.le_of_ble_eq_true rfl) ?_
  show mW G mt_De_genes (d + 1) 1 6 0 [(0, .ref 0), (1, .int (iI x))] [] (wd_S ++ cs, I, J, F, V) _
  refine mw_iload_n dc_De_genes_0 rfl 1 rfl ?_
  refine mi_const dc_De_genes_1 ?_
  refine mi_icmp_lt (tgt := 11) dc_De_genes_2 (by decide) hx (iB_mk (by omega) (by omega)) (fun h02 => ?_) (fun h02 => ?_)
  · exact mw_throw (bc := 0) (bs := 0) th_De_genes_11 (Nat.le_of_ble_eq_true rfl) ⟨fun q => absurd q (by omega), fun _ => ⟨rfl, rfl⟩⟩
  · refine mw_iload_n dc_De_genes_5 rfl 1 rfl ?_
    refine mi_bipush dc_De_genes_6 (by decide) ?_
    refine mi_icmp_le (tgt := 21) dc_De_genes_8 (by decide) hx (iB_mk (by omega) (by omega)) (fun h18 => ?_) (fun h18 => ?_)
    · refine mw_aload_n dc_De_genes_21 rfl 0 rfl ?_
      refine mw_iload_n dc_De_genes_22 rfl 1 rfl ?_
      refine mi_puti (ci := 0) (k := 0) dc_De_genes_23 rfl wi_De tk_De nm_De rfl rfl (by decide) fl_De_9 rfl (by decide +kernel) rfl ?_
      refine mi_const dc_De_genes_26 ?_
      refine mw_istore_n dc_De_genes_27 rfl (by decide) rfl ?_
      refine mw_pick [0, 1] rfl ?_
      refine lp_genes (I := I) (V := fu V 0 0 (.int (iI x))) (dk_fu _ hW wi_00) ?_ 6 0 (by omega) (by omega)
      refine mw_aload_n dc_De_genes_48 rfl 0 rfl ?_
      refine mi_const dc_De_genes_49 ?_
      refine mi_puti (ci := 0) (k := 6) dc_De_genes_50 rfl wi_De tk_De nm_De rfl rfl (by decide) fl_De_44 rfl (by decide +kernel) rfl ?_
      exact mw_vret dc_De_genes_53 rfl ⟨fun _ => ⟨rfl, rfl⟩, fun q => absurd (show 1 ≤ x ∧ x ≤ 6 by omega) q⟩
    · exact mw_throw (bc := 0) (bs := 0) th_De_genes_11 (Nat.le_of_ble_eq_true rfl) ⟨fun q => absurd q (by omega), fun _ => ⟨rfl, rfl⟩⟩
/-- the orders of two slots, and what the drawing needs of their relative row -/
def or_ok (I : Nat → Nat → Int32) (n s : Nat) (u : Nat → Int) : Prop := ∀ p, p < n → I (sp s + 1) p = iI (u p) ∧ u p ≠ 0 ∧ -(n : Int) ≤ u p ∧ u p ≤ n
def rw_ok (I : Nat → Nat → Int32) (n : Nat) (u v y : Nat → Int) (ea so : Nat → Nat) : Prop := (∀ p, p < n → re_I I n u v 37 p = iI (y p) ∧ y p ≠ 0 ∧ -(n : Int) ≤ y p ∧ y p ≤ n) ∧ dr_e (dw_p (re_I I n u v) n y n) n ea so
theorem ev_drawSlots {G : mm_G} {d : Nat} {cs : mm_Sh} {I : Nat → Nat → Int32} {J : Nat → Nat → Int64} {F : Nat → Nat → Option Nat} {V : Nat → Nat → Value} {n a b : Nat} {u v y : Nat → Int} {ea so : Nat → Nat} (hW : dk_W F V) (hg : V 0 0 = .int (iI n)) (hn : n ≤ 6) (ha : a < 5) (hb : b < 5) (hu : or_ok I n a u) (hv : or_ok I n b v) (hr : rw_ok I n u v y ea so) : mE G mt_De_drawSlots (d + 4) 0 0 [.ref 0, .int (iI a), .int (iI b)] (wd_S ++ cs, I, J, F, V) (fun o h1 => o = .inl none ∧ h1 = (wd_S ++ cs, dr_I (re_I I n u v) n y so, J, F, dr_W V n)) := by
  refine mE_intro (by decide) (fun k h q => nomatch q.1) (Nat.le_of_ble_eq_true rfl) ?_
  show mW G mt_De_drawSlots (d + 4) 0 0 0 [(0, .ref 0), (1, .int (iI a)), (2, .int (iI b))] [] (wd_S ++ cs, I, J, F, V) _
  refine mw_aload_n dc_De_drawSlots_0 rfl 0 rfl ?_
  refine mw_aload_n dc_De_drawSlots_1 rfl 0 rfl ?_
  refine mi_get (ci := 0) (k := 1) dc_De_drawSlots_2 rfl wi_De rfl rfl (by decide) fl_De_15 hW.1.1 ?_
  refine mw_iload_n dc_De_drawSlots_5 rfl 1 rfl ?_
  refine mi_aald dc_De_drawSlots_6 rfl rfl ⟨by omega, by omega, by decide⟩ (by rw [Int.toNat_natCast]; exact (hW.2.1 a ha).1) ?_
  refine mi_get (ci := 1) (k := 0) dc_De_drawSlots_7 (sl_W a ha).1 wi_Sl rfl rfl (by decide) fl_De_91 (hW.2.1 a ha).2.1 ?_
  refine mw_aload_n dc_De_drawSlots_10 rfl 0 rfl ?_
  refine mi_get (ci := 0) (k := 1) dc_De_drawSlots_11 rfl wi_De rfl rfl (by decide) fl_De_15 hW.1.1 ?_
  refine mw_iload_n dc_De_drawSlots_14 rfl 2 rfl ?_
  refine mi_aald dc_De_drawSlots_15 rfl rfl ⟨by omega, by omega, by decide⟩ (by rw [Int.toNat_natCast]; exact (hW.2.1 b hb).1) ?_
  refine mi_get (ci := 1) (k := 0) dc_De_drawSlots_16 (sl_W b hb).1 wi_Sl rfl rfl (by decide) fl_De_91 (hW.2.1 b hb).2.1 ?_
  refine mz_V2 (M2 := mt_De_relate) dc_De_drawSlots_19 ml_De_141 rfl rfl ny_De_relate (by decide) (Nat.le_of_ble_eq_true rfl) (ev_relate hW hg hn ⟨(sl_W a ha).2.1, by unfold sp; omega, by unfold sp; omega⟩ ⟨(sl_W b hb).2.1, by unfold sp; omega, by unfold sp; omega⟩ ⟨hn, by decide⟩ ⟨hn, by decide⟩ hu hv) (fun v h1 hY => ?_)
  obtain ⟨hv, rfl⟩ := hY
  cases hv
  refine mw_aload_n dc_De_drawSlots_22 rfl 0 rfl ?_
  refine mi_get (ci := 0) (k := 3) dc_De_drawSlots_23 rfl wi_De rfl rfl (by decide) fl_De_30 hW.1.2.2.1 ?_
  refine mw_aload_n dc_De_drawSlots_26 rfl 0 rfl ?_
  refine mi_get (ci := 0) (k := 8) dc_De_drawSlots_27 rfl wi_De rfl rfl (by decide) fl_De_50 hW.1.2.2.2.2.2.2.1 ?_
  refine mw_aload_n dc_De_drawSlots_30 rfl 0 rfl ?_
  refine mi_get (ci := 0) (k := 0) dc_De_drawSlots_31 rfl wi_De rfl rfl (by decide) fl_De_9 hg ?_
  refine mz_V2 (M2 := mt_Dr_draw) dc_De_drawSlots_34 ml_De_195 rfl rfl ny_Dr_draw (by decide) (Nat.le_of_ble_eq_true rfl) (ev_draw (a := 37) (na := 6) hW.2.2.2 hn (by decide) rfl ⟨hn, by decide⟩ hr.1 hr.2) (fun v h1 hY => ?_)
  obtain ⟨hv, rfl⟩ := hY
  cases hv

  exact mw_vret dc_De_drawSlots_37 rfl ⟨rfl, rfl⟩
