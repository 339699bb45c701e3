/-! THE DESK: wiring; checks; the calls that change slots -/
theorem mi_aald {G : mm_G} {M : mm_M} {d bc bs pc : Nat} {ls : List (Nat × Value)} {st : List Value} {sh : mm_Sh} {I : Nat → Nat → Int32} {J : Nat → Nat → Int64} {F : Nat → Nat → Option Nat} {V : Nat → Nat → Value} {X : mm_X} {t a n r : Nat} {C : String} {z : Int} (hd : decode M.2.1 pc = .ok (.aaload, 1)) (hs : sh[a]? = some (.inl (t + 3, n))) (ht : (mm_tys G.2.2.1)[t + 3]? = some (G.2.2.1 (t + 3), .object C)) (h0 : 0 ≤ z ∧ z < n ∧ n < 2147483648) (hF : F a z.toNat = some r) (k : mW G M d bc bs (pc + 1) ls (.ref r :: st) (sh, I, J, F, V) X) : mW G M d bc bs pc ls (.int (iI z) :: .ref a :: st) (sh, I, J, F, V) X := by
  refine mw_aald hd hs ht (iI_in h0.1 h0.2.1 h0.2.2) ?_
  rw [iI_cl ⟨by omega, by omega⟩, hF]
  exact k
def sp (s : Nat) : Nat := 2 + 4 * s
def dk_W (F : Nat → Nat → Option Nat) (V : Nat → Nat → Value) : Prop :=
  (V 0 1 = .ref 1 ∧ V 0 2 = .ref 22 ∧ V 0 3 = .ref 24 ∧ V 0 4 = .ref 34 ∧ V 0 5 = .ref 35 ∧ V 0 7 = .ref 36 ∧ V 0 8 = .ref 37 ∧ V 0 9 = .ref 38) ∧ (∀ s, s < 5 → F 1 s = some (sp s) ∧ sl_V V (sp s)) ∧ V 22 0 = .ref 23 ∧ dr_V V
theorem sl_W {cs : mm_Sh} : ∀ s, s < 5 → sl_S (wd_S ++ cs) (sp s)
  | 0, _ => ⟨rfl, rfl, rfl, rfl⟩
  | 1, _ => ⟨rfl, rfl, rfl, rfl⟩
  | 2, _ => ⟨rfl, rfl, rfl, rfl⟩
  | 3, _ => ⟨rfl, rfl, rfl, rfl⟩
  | 4, _ => ⟨rfl, rfl, rfl, rfl⟩
  | n + 5, h => absurd h (by omega)
/-- a check: nothing changes; it throws k where P doesn't hold -/
def ck (P : Prop) (k : Nat) (h : mm_H) : mm_X := fun o h1 => h1 = h ∧ (P → o = .inl none) ∧ (¬ P → o = .inr k)
theorem ck_r {P : Prop} [Decidable P] {k : Nat} {h h1 : mm_H} {v : Option Value} (q : ck P k h (.inl v) h1) : P ∧ v = none ∧ h1 = h := by
  by_cases p : P
  · exact ⟨p, Sum.inl.inj (q.2.1 p), q.1⟩
  · exact nomatch q.2.2 p
theorem ck_x {P : Prop} [Decidable P] {k j : Nat} {h h1 : mm_H} (q : ck P k h (.inr j) h1) : ¬ P ∧ j = k ∧ h1 = h := by
  by_cases p : P
  · exact nomatch q.2.1 p
  · exact ⟨p, Sum.inr.inj (q.2.2 p), q.1⟩
abbrev okS (x : Int) : Prop := 0 ≤ x ∧ x < 5
theorem ev_checkSlot {G : mm_G} {d : Nat} {h : mm_H} {x : Int} (hst : G.1.stackTraces = false) (hx : iB x) : mT G mt_De_checkSlot d 1 6 [.int (iI x)] h (ck (okS x) 1 h) := by
  refine mT_intro hst (by decide) (Nat.le_of_ble_eq_true rfl) ?_
  show mW G mt_De_checkSlot d 1 6 0 [(0, .int (iI x))] [] h _
  refine mw_iload_n dc_De_checkSlot_0 rfl 0 rfl ?_
  refine mi_if_lt (tgt := 9) dc_De_checkSlot_1 (by decide) hx (fun h01 => ?_) (fun h01 => ?_)
  · exact mw_throw (bc := 0) (bs := 0) th_De_checkSlot_9 (Nat.le_of_ble_eq_true rfl) ⟨rfl, fun q => absurd q (by omega), fun _ => rfl⟩
  · refine mw_iload_n dc_De_checkSlot_4 rfl 0 rfl ?_
    refine mi_const dc_De_checkSlot_5 ?_
    refine mi_icmp_lt (tgt := 19) dc_De_checkSlot_6 (by decide) hx (iB_mk (by omega) (by omega)) (fun h16 => ?_) (fun h16 => ?_)
    · exact mw_vret dc_De_checkSlot_19 rfl ⟨rfl, fun _ => rfl, fun q => absurd (show okS x by omega) q⟩
    · exact mw_throw (bc := 0) (bs := 0) th_De_checkSlot_9 (Nat.le_of_ble_eq_true rfl) ⟨rfl, fun q => absurd q (by omega), fun _ => rfl⟩
theorem ev_checkSlots {G : mm_G} {d : Nat} {h : mm_H} {x y : Int} (hst : G.1.stackTraces = false) (hx : iB x) (hy : iB y) : mT G mt_De_checkSlots (d + 1) 2 12 [.int (iI x), .int (iI y)] h (ck (okS x ∧ okS y) 1 h) := by
  refine mT_intro hst (by decide) (Nat.le_of_ble_eq_true rfl) ?_
  show mW G mt_De_checkSlots (d + 1) 2 12 0 [(0, .int (iI x)), (1, .int (iI y))] [] h _
  refine mw_iload_n dc_De_checkSlots_0 rfl 0 rfl ?_
  refine mc_SP1 (mc := 1) (ms := 6) (bc := 1) (bs := 6) (M2 := mt_De_checkSlot) dc_De_checkSlots_1 ml_De_74 ny_De_checkSlot (by decide) (Nat.le_of_ble_eq_true rfl) (ev_checkSlot hst hx) (fun v h1 hY => ?_) rfl (fun j h1 hY => by obtain ⟨hp, rfl, rfl⟩ := ck_x hY; exact ⟨rfl, fun q => absurd q.1 hp, fun _ => rfl⟩)
  obtain ⟨hp, rfl, rfl⟩ := ck_r hY
  refine mw_iload_n dc_De_checkSlots_4 rfl 1 rfl ?_
  refine mc_SP1 (mc := 1) (ms := 6) (bc := 0) (bs := 0) (M2 := mt_De_checkSlot) dc_De_checkSlots_5 ml_De_74 ny_De_checkSlot (by decide) (Nat.le_of_ble_eq_true rfl) (ev_checkSlot hst hy) (fun v h1 hY => ?_) rfl (fun j h1 hY => by obtain ⟨hp, rfl, rfl⟩ := ck_x hY; exact ⟨rfl, fun q => absurd q.2 hp, fun _ => rfl⟩)
  obtain ⟨hp2, rfl, rfl⟩ := ck_r hY

  exact mw_vret dc_De_checkSlots_8 rfl ⟨rfl, fun _ => rfl, fun q => absurd ⟨hp, hp2⟩ q⟩
theorem ev_wipe {G : mm_G} {d : Nat} {cs : mm_Sh} {I : Nat → Nat → Int32} {J : Nat → Nat → Int64} {F : Nat → Nat → Option Nat} {V : Nat → Nat → Value} {l : Int} (hW : dk_W F V) (hl : V 22 1 = .int (iI l)) : mE G mt_De_wipe (d + 1) 0 0 [.ref 0] (wd_S ++ cs, I, J, F, V) (fun o h1 => o = .inl (some (.int (iI l))) ∧ h1 = (wd_S ++ cs, I, J, F, fu V 22 1 (.int (iI 0)))) := by
  refine mE_intro (by decide) (fun k h q => nomatch q.1) (Nat.le_of_ble_eq_true rfl) ?_
  show mW G mt_De_wipe (d + 1) 0 0 0 [(0, .ref 0)] [] (wd_S ++ cs, I, J, F, V) _
  refine mw_aload_n dc_De_wipe_0 rfl 0 rfl ?_
  refine mi_get (ci := 0) (k := 2) dc_De_wipe_1 rfl wi_De rfl rfl (by decide) fl_De_23 hW.1.2.1 ?_
  refine mz_V0 (M2 := mt_Te_empty) dc_De_wipe_4 ml_De_70 rfl rfl ny_Te_empty (by decide) (Nat.le_of_ble_eq_true rfl) (ev_empty rfl hl) (fun v h1 hY => ?_)
  obtain ⟨hv, rfl⟩ := hY
  cases hv

  exact mw_iret dc_De_wipe_7 rfl rfl ⟨rfl, rfl⟩
theorem ev_write {G : mm_G} {d : Nat} {cs : mm_Sh} {I : Nat → Nat → Int32} {J : Nat → Nat → Int64} {F : Nat → Nat → Option Nat} {V : Nat → Nat → Value} {l : Nat} (x : Int64) (hW : dk_W F V) (hl : V 22 1 = .int (iI l)) (hl24 : l ≤ 24) : mE G mt_De_write (d + 2) 0 0 [.ref 0, .long x] (wd_S ++ cs, I, J, F, V) (fun o h1 => (24 < l + ad_n x 8 → o = .inl (some (.int (iI (-1)))) ∧ h1 = (wd_S ++ cs, I, J, F, V)) ∧ (l + ad_n x 8 ≤ 24 → o = .inl (some (.int (iI (l + ad_n x 8 : Nat)))) ∧ h1 = (wd_S ++ cs, va_up I 23 (ad_s x (I 23) l 8), J, F, fu V 22 1 (.int (iI (l + ad_n x 8 : Nat)))))) := by
  refine mE_intro (by decide) (fun k h q => ?_) (Nat.le_of_ble_eq_true rfl) ?_
  · rcases Nat.lt_or_ge 24 (l + ad_n x 8) with h1 | h1
    · exact nomatch (q.1 h1).1
    · exact nomatch (q.2 h1).1
  show mW G mt_De_write (d + 2) 0 0 0 [(0, .ref 0), (1, .long x)] [] (wd_S ++ cs, I, J, F, V) _
  refine mw_aload_n dc_De_write_0 rfl 0 rfl ?_
  refine mi_get (ci := 0) (k := 2) dc_De_write_1 rfl wi_De rfl rfl (by decide) fl_De_23 hW.1.2.1 ?_
  refine mw_lload_n dc_De_write_4 rfl 1 rfl ?_
  refine mz_V1 (M2 := mt_Te_add) dc_De_write_5 ml_De_66 rfl rfl ny_Te_add (by decide) (Nat.le_of_ble_eq_true rfl) (ev_add x rfl rfl hW.2.2.1 hl hl24) (fun v h1 hY => ?_)
  rcases Nat.lt_or_ge 24 (l + ad_n x 8) with q | q
  · obtain ⟨hv, rfl⟩ := hY.1 q
    cases hv
    exact mw_iret dc_De_write_8 rfl rfl ⟨fun _ => ⟨rfl, rfl⟩, fun r => absurd r (by omega)⟩
  · obtain ⟨hv, rfl⟩ := hY.2 q
    cases hv
    exact mw_iret dc_De_write_8 rfl rfl ⟨fun r => absurd r (by omega), fun _ => ⟨rfl, rfl⟩⟩
theorem ev_gene {G : mm_G} {d : Nat} {cs : mm_Sh} {I : Nat → Nat → Int32} {J : Nat → Nat → Int64} {F : Nat → Nat → Option Nat} {V : Nat → Nat → Value} {n : Nat} {x y : Int} (hst : G.1.stackTraces = false) (hW : dk_W F V) (hg : V 0 0 = .int (iI n)) (hn : n ≤ 6) (hx : iB x) (hy : iB y) : mT G mt_De_gene (d + 1) 2 12 [.ref 0, .int (iI x), .int (iI y)] (wd_S ++ cs, I, J, F, V) (fun o h1 => h1 = (wd_S ++ cs, I, J, F, V) ∧ ((okS x ∧ 0 ≤ y ∧ y < n) → o = .inl (some (.int (I (sp x.toNat + 1) y.toNat)))) ∧ (¬ (okS x ∧ 0 ≤ y ∧ y < n) → o = .inr 1)) := by
  refine mT_intro hst (by decide) (Nat.le_of_ble_eq_true rfl) ?_
  show mW G mt_De_gene (d + 1) 2 12 0 [(0, .ref 0), (1, .int (iI x)), (2, .int (iI y))] [] (wd_S ++ cs, I, J, F, V) _
  refine mw_iload_n dc_De_gene_0 rfl 1 rfl ?_
  refine mc_SP1 (mc := 1) (ms := 6) (bc := 1) (bs := 6) (M2 := mt_De_checkSlot) dc_De_gene_1 ml_De_74 ny_De_checkSlot (by decide) (Nat.le_of_ble_eq_true rfl) (ev_checkSlot hst hx) (fun v h1 hY => ?_) rfl (fun j h1 hY => by obtain ⟨hp, rfl, rfl⟩ := ck_x hY; exact ⟨rfl, fun q => absurd q.1 hp, fun _ => rfl⟩)
  obtain ⟨hp, rfl, rfl⟩ := ck_r hY
  refine mw_iload_n dc_De_gene_4 rfl 2 rfl ?_
  refine mi_if_lt (tgt := 16) dc_De_gene_5 (by decide) hy (fun h05 => ?_) (fun h05 => ?_)
  · exact mw_throw (bc := 0) (bs := 0) th_De_gene_16 (Nat.le_of_ble_eq_true rfl) ⟨rfl, fun q => absurd q (by omega), fun _ => rfl⟩
  · refine mw_iload_n dc_De_gene_8 rfl 2 rfl ?_
    refine mw_aload_n dc_De_gene_9 rfl 0 rfl ?_
    refine mi_get (ci := 0) (k := 0) dc_De_gene_10 rfl wi_De rfl rfl (by decide) fl_De_9 hg ?_
    refine mi_icmp_lt (tgt := 26) dc_De_gene_13 (by decide) hy (iB_mk (by omega) (by omega)) (fun h113 => ?_) (fun h113 => ?_)
    · refine mw_aload_n dc_De_gene_26 rfl 0 rfl ?_
      refine mi_get (ci := 0) (k := 1) dc_De_gene_27 rfl wi_De rfl rfl (by decide) fl_De_15 hW.1.1 ?_
      refine mw_iload_n dc_De_gene_30 rfl 1 rfl ?_
      refine mi_aald dc_De_gene_31 rfl rfl ⟨by omega, by omega, by decide⟩ (hW.2.1 x.toNat (by omega)).1 ?_
      refine mi_get (ci := 1) (k := 0) dc_De_gene_32 (sl_W x.toNat (by omega)).1 wi_Sl rfl rfl (by decide) fl_De_91 (hW.2.1 x.toNat (by omega)).2.1 ?_
      refine mw_iload_n dc_De_gene_35 rfl 2 rfl ?_
      refine mi_iald dc_De_gene_36 (sl_W x.toNat (by omega)).2.1 ⟨by omega, by omega, by decide⟩ rfl ?_
      exact mw_iret dc_De_gene_37 rfl rfl ⟨rfl, fun _ => rfl, fun q => absurd (show okS x ∧ 0 ≤ y ∧ y < n by omega) q⟩
    · exact mw_throw (bc := 0) (bs := 0) th_De_gene_16 (Nat.le_of_ble_eq_true rfl) ⟨rfl, fun q => absurd q (by omega), fun _ => rfl⟩
theorem ev_reverse {G : mm_G} {d : Nat} {cs : mm_Sh} {I : Nat → Nat → Int32} {J : Nat → Nat → Int64} {F : Nat → Nat → Option Nat} {V : Nat → Nat → Value} {n k : Nat} {x y z : Int} (hst : G.1.stackTraces = false) (hW : dk_W F V) (hg : V 0 0 = .int (iI n)) (hn : n ≤ 6) (hx : iB x) (hy : iB y) (hz : iB z) (hk : okS x → V (sp x.toNat) 3 = .int (iI k) ∧ k ≤ 8) :
    mT G mt_De_reverse (d + 2) 2 12 [.ref 0, .int (iI x), .int (iI y), .int (iI z)] (wd_S ++ cs, I, J, F, V) (fun o h1 => ((okS x ∧ 0 ≤ y ∧ z < n ∧ y ≤ z) → o = .inl none ∧ h1 = (wd_S ++ cs, tk_I I (sp x.toNat) y.toNat z.toNat k, J, F, fu V (sp x.toNat) 3 (.int (iI ((tk_n k + 1 : Nat) : Int))))) ∧ (¬ (okS x ∧ 0 ≤ y ∧ z < n ∧ y ≤ z) → o = .inr 1 ∧ h1 = (wd_S ++ cs, I, J, F, V))) := by
  refine mT_intro hst (by decide) (Nat.le_of_ble_eq_true rfl) ?_
  show mW G mt_De_reverse (d + 2) 2 12 0 [(0, .ref 0), (1, .int (iI x)), (2, .int (iI y)), (3, .int (iI z))] [] (wd_S ++ cs, I, J, F, V) _
  refine mw_iload_n dc_De_reverse_0 rfl 1 rfl ?_
  refine mc_SP1 (mc := 1) (ms := 6) (bc := 1) (bs := 6) (M2 := mt_De_checkSlot) dc_De_reverse_1 ml_De_74 ny_De_checkSlot (by decide) (Nat.le_of_ble_eq_true rfl) (ev_checkSlot hst hx) (fun v h1 hY => ?_) rfl (fun j h1 hY => by obtain ⟨hp, rfl, rfl⟩ := ck_x hY; exact ⟨fun q => absurd q.1 hp, fun _ => ⟨rfl, rfl⟩⟩)
  obtain ⟨hp, rfl, rfl⟩ := ck_r hY
  refine mw_iload_n dc_De_reverse_4 rfl 2 rfl ?_
  refine mi_if_lt (tgt := 21) dc_De_reverse_5 (by decide) hy (fun h05 => ?_) (fun h05 => ?_)
  · exact mw_throw (bc := 0) (bs := 0) th_De_reverse_21 (Nat.le_of_ble_eq_true rfl) ⟨fun q => absurd q (by omega), fun _ => ⟨rfl, rfl⟩⟩
  · refine mw_iload_n dc_De_reverse_8 rfl 3 rfl ?_
    refine mw_aload_n dc_De_reverse_9 rfl 0 rfl ?_
    refine mi_get (ci := 0) (k := 0) dc_De_reverse_10 rfl wi_De rfl rfl (by decide) fl_De_9 hg ?_
    refine mi_icmp_ge (tgt := 21) dc_De_reverse_13 (by decide) hz (iB_mk (by omega) (by omega)) (fun h113 => ?_) (fun h113 => ?_)
    · exact mw_throw (bc := 0) (bs := 0) th_De_reverse_21 (Nat.le_of_ble_eq_true rfl) ⟨fun q => absurd q (by omega), fun _ => ⟨rfl, rfl⟩⟩
    · refine mw_iload_n dc_De_reverse_16 rfl 2 rfl ?_
      refine mw_iload_n dc_De_reverse_17 rfl 3 rfl ?_
      refine mi_icmp_le (tgt := 31) dc_De_reverse_18 (by decide) hy hz (fun h218 => ?_) (fun h218 => ?_)
      · refine mw_aload_n dc_De_reverse_31 rfl 0 rfl ?_
        refine mi_get (ci := 0) (k := 1) dc_De_reverse_32 rfl wi_De rfl rfl (by decide) fl_De_15 hW.1.1 ?_
        refine mw_iload_n dc_De_reverse_35 rfl 1 rfl ?_
        refine mi_aald dc_De_reverse_36 rfl rfl ⟨by omega, by omega, by decide⟩ (hW.2.1 x.toNat (by omega)).1 ?_
        refine mw_iload_n dc_De_reverse_37 rfl 2 rfl ?_
        refine mw_iload_n dc_De_reverse_38 rfl 3 rfl ?_
        obtain ⟨hk1, hk2⟩ := hk hp
        rw [show iI y = iI ((y.toNat : Nat) : Int) by rw [show ((y.toNat : Nat) : Int) = y by omega], show iI z = iI ((z.toNat : Nat) : Int) by rw [show ((z.toNat : Nat) : Int) = z by omega]]
        refine mz_V2 (M2 := mt_Sl_turnAndKeep) dc_De_reverse_39 ml_De_100 (sl_W x.toNat (by omega)).1 rfl ny_Sl_turnAndKeep (by decide) (Nat.le_of_ble_eq_true rfl) (ev_turnAndKeep (sl_W x.toNat (by omega)) (hW.2.1 x.toNat (by omega)).2 hk1 hk2 (by omega) (by omega)) (fun v h1 hY => ?_)
        obtain ⟨hv, rfl⟩ := hY
        cases hv
        exact mw_vret dc_De_reverse_42 rfl ⟨fun _ => ⟨rfl, rfl⟩, fun q => absurd (show okS x ∧ 0 ≤ y ∧ z < n ∧ y ≤ z by omega) q⟩
      · exact mw_throw (bc := 0) (bs := 0) th_De_reverse_21 (Nat.le_of_ble_eq_true rfl) ⟨fun q => absurd q (by omega), fun _ => ⟨rfl, rfl⟩⟩
theorem ev_copy {G : mm_G} {d : Nat} {cs : mm_Sh} {I : Nat → Nat → Int32} {J : Nat → Nat → Int64} {F : Nat → Nat → Option Nat} {V : Nat → Nat → Value} {x y : Int} (hst : G.1.stackTraces = false) (hW : dk_W F V) (hx : iB x) (hy : iB y) :
    mT G mt_De_copy (d + 2) 2 12 [.ref 0, .int (iI x), .int (iI y)] (wd_S ++ cs, I, J, F, V) (fun o h1 => ((okS x ∧ okS y) → o = .inl none ∧ h1 = (wd_S ++ cs, va_up I (sp y.toNat + 1) (va_cpy (I (sp x.toNat + 1)) (I (sp y.toNat + 1)) 0 0 6), J, F, fu V (sp y.toNat) 3 (.int (iI 0)))) ∧ (¬ (okS x ∧ okS y) → o = .inr 1 ∧ h1 = (wd_S ++ cs, I, J, F, V))) := by
  refine mT_intro hst (by decide) (Nat.le_of_ble_eq_true rfl) ?_
  show mW G mt_De_copy (d + 2) 2 12 0 [(0, .ref 0), (1, .int (iI x)), (2, .int (iI y))] [] (wd_S ++ cs, I, J, F, V) _
  refine mw_iload_n dc_De_copy_0 rfl 1 rfl ?_
  refine mw_iload_n dc_De_copy_1 rfl 2 rfl ?_
  refine mc_SP2 (mc := 2) (ms := 12) (bc := 0) (bs := 0) (M2 := mt_De_checkSlots) dc_De_copy_2 ml_De_94 ny_De_checkSlots (by decide) (Nat.le_of_ble_eq_true rfl) (ev_checkSlots hst hx hy) (fun v h1 hY => ?_) rfl (fun j h1 hY => by obtain ⟨hp, rfl, rfl⟩ := ck_x hY; exact ⟨fun q => absurd q hp, fun _ => ⟨rfl, rfl⟩⟩)
  obtain ⟨hp, rfl, rfl⟩ := ck_r hY
  refine mw_aload_n dc_De_copy_5 rfl 0 rfl ?_
  refine mi_get (ci := 0) (k := 1) dc_De_copy_6 rfl wi_De rfl rfl (by decide) fl_De_15 hW.1.1 ?_
  refine mw_iload_n dc_De_copy_9 rfl 2 rfl ?_
  refine mi_aald dc_De_copy_10 rfl rfl ⟨by omega, by omega, by decide⟩ (hW.2.1 y.toNat (by omega)).1 ?_
  refine mw_aload_n dc_De_copy_11 rfl 0 rfl ?_
  refine mi_get (ci := 0) (k := 1) dc_De_copy_12 rfl wi_De rfl rfl (by decide) fl_De_15 hW.1.1 ?_
  refine mw_iload_n dc_De_copy_15 rfl 1 rfl ?_
  refine mi_aald dc_De_copy_16 rfl rfl ⟨by omega, by omega, by decide⟩ (hW.2.1 x.toNat (by omega)).1 ?_
  refine mi_get (ci := 1) (k := 0) dc_De_copy_17 (sl_W x.toNat (by omega)).1 wi_Sl rfl rfl (by decide) fl_De_91 (hW.2.1 x.toNat (by omega)).2.1 ?_
  refine mz_V1 (M2 := mt_Sl_become) dc_De_copy_20 ml_De_82 (sl_W y.toNat (by omega)).1 rfl ny_Sl_become (by decide) (Nat.le_of_ble_eq_true rfl) (ev_become (sl_W y.toNat (by omega)) (hW.2.1 y.toNat (by omega)).2 (sl_W x.toNat (by omega)).2.1 ⟨by decide, by decide⟩) (fun v h1 hY => ?_)
  obtain ⟨hv, rfl⟩ := hY
  cases hv

  exact mw_vret dc_De_copy_23 rfl ⟨fun _ => ⟨rfl, rfl⟩, fun q => absurd hp q⟩
