/-! the reference's bytes, write -/
theorem bm_0 (x : Int64) (s : Nat) (hs : s + 8 ≤ 64) : ((x.toBitVec.sshiftRight s) &&& 255#64).setWidth 32 = (x.toBitVec >>> s).setWidth 32 &&& 255#32 := by
  apply BitVec.eq_of_getLsbD_eq
  intro i hi
  rw [BitVec.getLsbD_setWidth, BitVec.getLsbD_and, BitVec.getLsbD_and, BitVec.getLsbD_setWidth, BitVec.getLsbD_sshiftRight, BitVec.getLsbD_ushiftRight]
  by_cases h : i < 8
  · have e1 : decide (64 ≤ i) = false := decide_eq_false (by omega)
    have e2 : s + i < 64 := by omega
    have e3 : (255#64).getLsbD i = (255#32).getLsbD i := by
      have : ∀ j, j < 8 → (255#64).getLsbD j = (255#32).getLsbD j := by decide
      exact this i h
    rw [e1, e3, if_pos e2, Bool.not_false, Bool.true_and, Bool.and_assoc]
  · have e3 : (255#32).getLsbD i = false := by
      have : ∀ j, j < 32 → ¬ j < 8 → (255#32).getLsbD j = false := by decide
      exact this i hi h
    have e4 : (255#64).getLsbD i = false := by
      have : ∀ j, j < 32 → ¬ j < 8 → (255#64).getLsbD j = false := by decide
      exact this i hi h
    rw [e3, e4, Bool.and_false, Bool.and_false, Bool.and_false]
theorem bm_z (y : BitVec 64) (h : (y &&& 255#64).setWidth 32 = 0#32) : y &&& 255#64 = 0#64 := by
  apply BitVec.eq_of_getLsbD_eq
  intro i hi
  have k := congrArg (fun b => b.getLsbD i) h
  have k2 : ((y &&& 255#64).setWidth 32).getLsbD i = (0#32).getLsbD i := k
  rw [BitVec.getLsbD_setWidth] at k2
  rw [BitVec.getLsbD_zero] at k2 ⊢
  by_cases h8 : i < 32
  · rw [decide_eq_true h8, Bool.true_and] at k2; exact k2
  · have e4 : (255#64).getLsbD i = false := by
      have : ∀ j, j < 64 → ¬ j < 32 → (255#64).getLsbD j = false := by decide
      exact this i hi h8
    rw [BitVec.getLsbD_and, e4, Bool.and_false]
theorem bm_s (x b : Int64) {s : Nat} (h : (b.toBitVec.smod 64).toNat = s) : (x >>> b).toBitVec = x.toBitVec.sshiftRight s := by subst h; rfl
theorem bm_u (x b : UInt64) {s : Nat} (h : (b.toBitVec % 64).toNat = s) : (x >>> b).toBitVec = x.toBitVec >>> s := by subst h; rfl
def bm_f (x : Int64) (k : Int) : Int64 := (x >>> ((iI (8 * k)).toInt64 &&& 63)) &&& 255
theorem bm_e (x : Int64) (k : Int) {s : Nat} (hb : (((iI (8 * k)).toInt64 &&& 63).toBitVec.smod 64).toNat = s) (hc : (((iI (8 * k)).toInt64.toUInt64 &&& Int64.toUInt64 63).toBitVec % 64).toNat = s) (hs : s + 8 ≤ 64) : (bm_f x k).toInt32 = by_f x k ∧ (by_f x k = 0 → bm_f x k = 0) := by
  have e : (bm_f x k).toInt32 = by_f x k := by
    apply Int32.toBitVec.inj
    show ((x >>> ((iI (8 * k)).toInt64 &&& 63)).toBitVec &&& 255#64).signExtend 32 = ((x.toUInt64 >>> ((iI (8 * k)).toInt64.toUInt64 &&& Int64.toUInt64 63)).toBitVec).signExtend 32 &&& 255#32
    rw [BitVec.signExtend_eq_setWidth_of_le _ (by decide), BitVec.signExtend_eq_setWidth_of_le _ (by decide), bm_s x _ hb, bm_u _ _ hc]
    exact bm_0 x s hs
  refine ⟨e, fun h => ?_⟩
  rw [← e] at h
  apply Int64.toBitVec.inj
  have h2 : (bm_f x k).toInt32.toBitVec = (0 : Int32).toBitVec := congrArg Int32.toBitVec h
  have h3 : ((x >>> ((iI (8 * k)).toInt64 &&& 63)).toBitVec &&& 255#64).signExtend 32 = 0#32 := h2
  rw [BitVec.signExtend_eq_setWidth_of_le _ (by decide)] at h3
  exact bm_z _ h3
theorem bm_1 (x : Int64) (k : Nat) (hk : k < 8) : (bm_f x k).toInt32 = by_f x k ∧ (by_f x k = 0 → bm_f x k = 0) := by
  refine bm_e x k (s := 8 * k) ?_ ?_ (by omega)
  · have : ∀ j : Nat, j < 8 → (((iI (8 * (j : Int))).toInt64 &&& 63).toBitVec.smod 64).toNat = 8 * j := by decide +kernel
    exact this k hk
  · have : ∀ j : Nat, j < 8 → (((iI (8 * (j : Int))).toInt64.toUInt64 &&& Int64.toUInt64 63).toBitVec % 64).toNat = 8 * j := by decide +kernel
    exact this k hk
theorem bm_2 (x : Int64) (k : Nat) (hk : k < 8) : (lg_cmp (bm_f x k) 0 = 0) ↔ by_f x k = 0 := by
  rw [lg_cmp_eq]
  constructor
  · intro h
    rw [← (bm_1 x k hk).1, h]
    rfl
  · exact (bm_1 x k hk).2
theorem lc_Mo_82 : Jvm.Cond.constantLong rn_Mo 82 255 ∈ mm_aw := mm_in (List.mem_of_getElem? (i := 724) (by decide +kernel)) (by decide +kernel)
theorem lp_mw1 {G : mm_G} {d bc bs : Nat} {cs : mm_Sh} {I : Nat → Nat → Int32} {J : Nat → Nat → Int64} {F : Nat → Nat → Option Nat} {V : Nat → Nat → Value} {X : mm_X} (x : Int64) (hx : mW G mt_Mo_write d bc bs 44 [(3, .int (iI (ad_n x 8 : Nat))), (0, .ref 39), (1, .long x)] [] (wd_S ++ cs, I, J, F, V) X) :
    ∀ (m k : Nat), 8 - k < m → k ≤ 8 → mW G mt_Mo_write d bc bs 10 [(4, .int (iI (8 * (k : Int)))), (3, .int (iI (ad_n x k : Nat))), (0, .ref 39), (1, .long x)] [] (wd_S ++ cs, I, J, F, V) X := by
  intro m
  induction m with
  | zero => intro k h1 _; exact absurd h1 (Nat.not_lt_zero _)
  | succ m ih =>
    intro k h1 h2
    have hb := ad_le x k
    refine mw_iload dc_Mo_write_10 0 rfl ?_
    refine mi_bipush dc_Mo_write_12 (by decide) ?_
    refine mi_icmp_ge (tgt := 44) dc_Mo_write_14 (by decide) (iB_mk (by omega) (by omega)) (iB_mk (by omega) (by omega)) (fun hh => ?_) (fun hh => ?_)
    · have e : k = 8 := by omega
      subst e
      refine mw_pick [1, 2, 3] rfl ?_
      exact hx
    · have hk : k < 8 := by omega
      refine mw_lload_n dc_Mo_write_17 rfl 3 rfl ?_
      refine mw_iload dc_Mo_write_18 0 rfl ?_
      refine mw_lshr dc_Mo_write_20 ?_
      refine mw_ldc2 (v := 255) dc_Mo_write_21 lc_Mo_82 ?_
      refine mw_land dc_Mo_write_24 ?_
      refine mw_lconst (v := 0) dc_Mo_write_25 (by decide) ?_
      refine mw_lcmp dc_Mo_write_26 ?_
      refine mw_if_eq (tgt := 36) dc_Mo_write_27 (by decide) (fun hz => ?_) (fun hz => ?_)
      · have hz2 := (bm_2 x k hk).mp hz
        refine mw_iload_n dc_Mo_write_36 rfl 1 rfl ?_
        refine mw_istore_n dc_Mo_write_37 rfl (by decide) rfl ?_
        refine mi_iinc dc_Mo_write_38 1 rfl (by decide) rfl ?_
        refine mw_goto (tgt := 10) dc_Mo_write_41 (by decide) ?_
        refine mw_pick [0, 1, 2, 3] rfl ?_
        have k2 := ih (k + 1) (by omega) (by omega)
        rw [show ad_n x (k + 1) = ad_n x k from if_pos hz2, show 8 * ((k + 1 : Nat) : Int) = 8 * (k : Int) + 8 by omega] at k2
        exact k2
      · have hz2 := fun q => hz ((bm_2 x k hk).mpr q)
        refine mw_iload_n dc_Mo_write_30 rfl 1 rfl ?_
        refine mi_const dc_Mo_write_31 ?_
        refine mi_iadd dc_Mo_write_32 ?_
        refine mw_goto (tgt := 37) dc_Mo_write_33 (by decide) ?_
        refine mw_istore_n dc_Mo_write_37 rfl (by decide) rfl ?_
        refine mi_iinc dc_Mo_write_38 1 rfl (by decide) rfl ?_
        refine mw_goto (tgt := 10) dc_Mo_write_41 (by decide) ?_
        refine mw_pick [0, 1, 2, 3] rfl ?_
        have k2 := ih (k + 1) (by omega) (by omega)
        rw [show ad_n x (k + 1) = ad_n x k + 1 from if_neg hz2, show 8 * ((k + 1 : Nat) : Int) = 8 * (k : Int) + 8 by omega] at k2
        exact k2
theorem lp_mw2 {G : mm_G} {d bc bs : Nat} {cs : mm_Sh} {I : Nat → Nat → Int32} {J : Nat → Nat → Int64} {F : Nat → Nat → Option Nat} {V : Nat → Nat → Value} {X : mm_X} {l : Nat} {g : Nat → Int32} (x : Int64) (hM : mo_V V) (hl : l + ad_n x 8 ≤ 24) (hx : mW G mt_Mo_write d bc bs 110 [(3, .int (iI (ad_n x 8 : Nat))), (0, .ref 39), (1, .long x)] [] (wd_S ++ cs, va_up I 43 (ad_s x g l 8), J, F, fu V 39 6 (.int (iI (l + ad_n x 8 : Nat)))) X) :
    ∀ (m k : Nat), 8 - k < m → k ≤ 8 → mW G mt_Mo_write d bc bs 60 [(4, .int (iI (8 * (k : Int)))), (3, .int (iI (ad_n x 8 : Nat))), (0, .ref 39), (1, .long x)] [] (wd_S ++ cs, va_up I 43 (ad_s x g l k), J, F, fu V 39 6 (.int (iI (l + ad_n x k : Nat)))) X := by
  intro m
  induction m with
  | zero => intro k h1 _; exact absurd h1 (Nat.not_lt_zero _)
  | succ m ih =>
    intro k h1 h2
    have hb := ad_le x k
    refine mw_iload dc_Mo_write_60 0 rfl ?_
    refine mi_bipush dc_Mo_write_62 (by decide) ?_
    refine mi_icmp_ge (tgt := 110) dc_Mo_write_64 (by decide) (iB_mk (by omega) (by omega)) (iB_mk (by omega) (by omega)) (fun hh => ?_) (fun hh => ?_)
    · have e : k = 8 := by omega
      subst e
      refine mw_pick [1, 2, 3] rfl ?_
      exact hx
    · have hk : k < 8 := by omega
      have hm := ad_mono x (show k + 1 ≤ 8 from hk)
      refine mw_lload_n dc_Mo_write_67 rfl 3 rfl ?_
      refine mw_iload dc_Mo_write_68 0 rfl ?_
      refine mw_lshr dc_Mo_write_70 ?_
      refine mw_ldc2 (v := 255) dc_Mo_write_71 lc_Mo_82 ?_
      refine mw_land dc_Mo_write_74 ?_
      refine mw_l2i dc_Mo_write_75 ?_
      rw [show ((x >>> ((iI (8 * (k : Int))).toInt64 &&& 63)) &&& 255 : Int64).toInt32 = by_f x k from (bm_1 x k hk).1]
      refine mw_istore dc_Mo_write_76 (by decide) rfl ?_
      refine mw_iload dc_Mo_write_78 0 rfl ?_
      refine mw_if_eq (tgt := 104) dc_Mo_write_80 (by decide) (fun hz => ?_) (fun hz => ?_)
      · refine mi_iinc dc_Mo_write_104 1 rfl (by decide) rfl ?_
        refine mw_goto (tgt := 60) dc_Mo_write_107 (by decide) ?_
        refine mw_pick [0, 2, 3, 4] rfl ?_
        have k2 := ih (k + 1) (by omega) (by omega)
        rw [show ad_n x (k + 1) = ad_n x k from if_pos hz, show ad_s x g l (k + 1) = ad_s x g l k from if_pos hz, show 8 * ((k + 1 : Nat) : Int) = 8 * (k : Int) + 8 by omega] at k2
        exact k2
      · rw [show ad_n x (k + 1) = ad_n x k + 1 from if_neg hz] at hm
        refine mw_aload_n dc_Mo_write_83 rfl 3 rfl ?_
        refine mi_get (ci := 5) (k := 5) dc_Mo_write_84 rfl wi_Mo rfl rfl (by decide) fl_Mo_23 ((fu_n2 V _ (by decide)).trans hM.2.2.2.1) ?_
        refine mw_aload_n dc_Mo_write_87 rfl 3 rfl ?_
        refine mi_get (ci := 5) (k := 6) dc_Mo_write_88 rfl wi_Mo rfl rfl (by decide) fl_Mo_84 (fu_at V 39 6 _) ?_
        refine mw_iload dc_Mo_write_91 0 rfl ?_
        refine mi_iast dc_Mo_write_93 rfl ⟨by omega, by omega, by decide⟩ (I' := va_up I 43 (ad_s x g l (k + 1))) (by rw [va_up_self, up_up, Int.toNat_natCast]; exact congrArg (va_up I 43) (show _ = ad_s x g l (k + 1) from (if_neg hz).symm)) ?_
        refine mw_aload_n dc_Mo_write_94 rfl 3 rfl ?_
        refine mw_dup dc_Mo_write_95 rfl ?_
        refine mi_get (ci := 5) (k := 6) dc_Mo_write_96 rfl wi_Mo rfl rfl (by decide) fl_Mo_84 (fu_at V 39 6 _) ?_
        refine mi_const dc_Mo_write_99 ?_
        refine mi_iadd dc_Mo_write_100 ?_
        refine mi_puti (ci := 5) (k := 6) dc_Mo_write_101 rfl wi_Mo tk_Mo nm_Mo rfl rfl (by decide) fl_Mo_84 rfl (by decide +kernel) (show _ = fu V 39 6 (.int (iI (l + ad_n x (k + 1) : Nat))) from (fu_fu V 39 6 _ _).trans (by rw [show ad_n x (k + 1) = ad_n x k + 1 from if_neg hz]; rfl)) ?_
        refine mi_iinc dc_Mo_write_104 1 rfl (by decide) rfl ?_
        refine mw_goto (tgt := 60) dc_Mo_write_107 (by decide) ?_
        refine mw_pick [0, 2, 3, 4] rfl ?_
        have k2 := ih (k + 1) (by omega) (by omega)
        rw [show 8 * ((k + 1 : Nat) : Int) = 8 * (k : Int) + 8 by omega] at k2
        exact k2
theorem ev_mowrite {G : mm_G} {d : Nat} {cs : mm_Sh} {I : Nat → Nat → Int32} {J : Nat → Nat → Int64} {F : Nat → Nat → Option Nat} {V : Nat → Nat → Value} {l : Nat} (x : Int64) (hM : mo_V V) (hl : V 39 6 = .int (iI l)) (hl24 : l ≤ 24) : mE G mt_Mo_write d 0 0 [.ref 39, .long x] (wd_S ++ cs, I, J, F, V) (fun o h1 => (24 < l + ad_n x 8 → o = .inl (some (.int (iI (-1)))) ∧ h1 = (wd_S ++ cs, I, J, F, fu V 39 0 (.int (iI 0)))) ∧ (l + ad_n x 8 ≤ 24 → o = .inl (some (.int (iI (l + ad_n x 8 : Nat)))) ∧ h1 = (wd_S ++ cs, va_up I 43 (ad_s x (I 43) l 8), J, F, fu (fu V 39 0 (.int (iI 0))) 39 6 (.int (iI (l + ad_n x 8 : Nat)))))) := by
  refine mE_intro (by decide) (fun k h q => ?_) (Nat.le_of_ble_eq_true rfl) ?_
  · by_cases r : 24 < l + ad_n x 8
    · exact nomatch (q.1 r).1
    · exact nomatch (q.2 (by omega)).1
  have hb := ad_le x 8
  show mW G mt_Mo_write d 0 0 0 [(0, .ref 39), (1, .long x)] [] (wd_S ++ cs, I, J, F, V) _
  refine mw_aload_n dc_Mo_write_0 rfl 0 rfl ?_
  refine mi_const dc_Mo_write_1 ?_
  refine mi_puti (ci := 5) (k := 0) dc_Mo_write_2 rfl wi_Mo tk_Mo nm_Mo rfl rfl (by decide) fl_Mo_75 rfl (by decide +kernel) (show va_up V 39 (va_up (V 39) 0 (.int (iI 0))) = fu V 39 0 (.int (iI 0)) from rfl) ?_
  refine mi_const dc_Mo_write_5 ?_
  refine mw_istore_n dc_Mo_write_6 rfl (by decide) rfl ?_
  refine mi_const dc_Mo_write_7 ?_
  refine mw_istore dc_Mo_write_8 (by decide) rfl ?_
  refine mw_pick [0, 1, 2, 3] rfl ?_
  refine lp_mw1 x ?_ 9 0 (by omega) (by omega)
  refine mw_aload_n dc_Mo_write_44 rfl 1 rfl ?_
  refine mi_get (ci := 5) (k := 6) dc_Mo_write_45 rfl wi_Mo rfl rfl (by decide) fl_Mo_84 ((fu_n2 V _ (by decide)).trans hl) ?_
  refine mw_iload_n dc_Mo_write_48 rfl 0 rfl ?_
  refine mi_iadd dc_Mo_write_49 ?_
  refine mi_bipush dc_Mo_write_50 (by decide) ?_
  refine mi_icmp_le (tgt := 57) dc_Mo_write_52 (by decide) (iB_mk (by omega) (by omega)) (iB_mk (by omega) (by omega)) (fun hh => ?_) (fun hh => ?_)
  · refine mi_const dc_Mo_write_57 ?_
    refine mw_istore dc_Mo_write_58 (by decide) rfl ?_
    refine mw_pick [0, 1, 2, 3] rfl ?_
    refine mw_h (h' := (wd_S ++ cs, va_up I 43 (ad_s x (I 43) l 0), J, F, fu (fu V 39 0 (.int (iI 0))) 39 6 (.int (iI (l + ad_n x 0 : Nat))))) (by rw [show ad_s x (I 43) l 0 = I 43 from rfl, up_id, show l + ad_n x 0 = l from rfl, fu_id ((fu_n2 V _ (by decide)).trans hl)]) ?_
    refine lp_mw2 (I := I) (g := I 43) x (mo_fu _ hM (Or.inl rfl)) (by omega) ?_ 9 0 (by omega) (by omega)
    refine mw_aload_n dc_Mo_write_110 rfl 1 rfl ?_
    refine mi_get (ci := 5) (k := 6) dc_Mo_write_111 rfl wi_Mo rfl rfl (by decide) fl_Mo_84 (fu_at _ 39 6 _) ?_
    exact mw_iret dc_Mo_write_114 rfl rfl ⟨fun q => absurd q (by omega), fun _ => ⟨rfl, rfl⟩⟩
  · refine mi_const dc_Mo_write_55 ?_
    exact mw_iret dc_Mo_write_56 rfl rfl ⟨fun _ => ⟨rfl, rfl⟩, fun q => absurd q (by omega)⟩
