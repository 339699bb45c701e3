/-! the reference's reverse, undo -/
theorem upd_u (f : Nat → Int32) (k : Nat) (v w : Int32) : upd (upd f k v) k w = upd f k w := by
  funext j
  unfold upd
  by_cases h : j = k
  · rw [if_pos h, if_pos h]
  · rw [if_neg h, if_neg h, if_neg h]
theorem upd_s (f : Nat → Int32) (k : Nat) (v : Int32) : upd f k v k = v := if_pos rfl
def mv_o (g : Nat → Int32) (a : Nat) : Nat → Nat → Int32
  | 0 => g
  | t + 1 => upd (mv_o g a t) (8 * a + t) (mv_o g a t (8 * a + t + 1))
def rv_I (I : Nat → Nat → Int32) (a k : Nat) (v : Int32) : Nat → Nat → Int32 := va_up (va_up I 42 (upd (if k = 8 then mv_o (I 42) a 7 else I 42) (8 * a + (if k = 8 then 7 else k)) v)) 41 (upd (I 41) a (iI ((if k = 8 then 8 else k + 1 : Nat) : Int)))
theorem lp_rv3 {G : mm_G} {d bc bs : Nat} {cs : mm_Sh} {I : Nat → Nat → Int32} {J : Nat → Nat → Int64} {F : Nat → Nat → Option Nat} {V : Nat → Nat → Value} {X : mm_X} {a i j k : Nat} {I' : Nat → Nat → Int32} (hM : mo_V V) (ha : a < 5) (hk : I 41 a = iI k) (hk7 : k ≤ 7) (hI : va_up (va_up I 42 (upd (I 42) (8 * a + k) (iI (10 * (i : Int) + j)))) 41 (upd (I 41) a (iI ((k : Int) + 1))) = I') (hx : X (.inl none) (wd_S ++ cs, I', J, F, V)) :
    mW G mt_Mo_reverse d bc bs 117 [(0, .ref 39), (1, .int (iI a)), (2, .int (iI i)), (3, .int (iI j))] [] (wd_S ++ cs, I, J, F, V) X := by
  refine mw_aload_n dc_Mo_reverse_117 rfl 0 rfl ?_
  refine mi_get (ci := 5) (k := 4) dc_Mo_reverse_118 rfl wi_Mo rfl rfl (by decide) fl_Mo_20 hM.2.2.1 ?_
  refine mi_bipush dc_Mo_reverse_121 (by decide) ?_
  refine mw_iload_n dc_Mo_reverse_123 rfl 1 rfl ?_
  refine mi_imul dc_Mo_reverse_124 ?_
  refine mw_aload_n dc_Mo_reverse_125 rfl 0 rfl ?_
  refine mi_get (ci := 5) (k := 3) dc_Mo_reverse_126 rfl wi_Mo rfl rfl (by decide) fl_Mo_17 hM.2.1 ?_
  refine mw_iload_n dc_Mo_reverse_129 rfl 1 rfl ?_
  refine mi_iald dc_Mo_reverse_130 rfl ⟨by omega, by omega, by decide⟩ (v := iI k) (by rw [Int.toNat_natCast]; exact hk) ?_
  refine mi_iadd dc_Mo_reverse_131 ?_
  refine mi_bipush dc_Mo_reverse_132 (by decide) ?_
  refine mw_iload_n dc_Mo_reverse_134 rfl 2 rfl ?_
  refine mi_imul dc_Mo_reverse_135 ?_
  refine mw_iload_n dc_Mo_reverse_136 rfl 3 rfl ?_
  refine mi_iadd dc_Mo_reverse_137 ?_
  refine mi_iast dc_Mo_reverse_138 rfl ⟨by omega, by omega, by decide⟩ (I' := va_up I 42 (upd (I 42) (8 * a + k) (iI (10 * (i : Int) + j)))) (by rw [show (8 * (a : Int) + k).toNat = 8 * a + k by omega]) ?_
  refine mw_aload_n dc_Mo_reverse_139 rfl 0 rfl ?_
  refine mi_get (ci := 5) (k := 3) dc_Mo_reverse_140 rfl wi_Mo rfl rfl (by decide) fl_Mo_17 hM.2.1 ?_
  refine mw_iload_n dc_Mo_reverse_143 rfl 1 rfl ?_
  refine mw_dup2 dc_Mo_reverse_144 rfl rfl ?_
  refine mi_iald dc_Mo_reverse_145 rfl ⟨by omega, by omega, by decide⟩ (v := iI k) (by rw [Int.toNat_natCast, va_up_ne _ _ (by decide)]; exact hk) ?_
  refine mi_const dc_Mo_reverse_146 ?_
  refine mi_iadd dc_Mo_reverse_147 ?_
  refine mi_iast dc_Mo_reverse_148 rfl ⟨by omega, by omega, by decide⟩ (I' := I') (by rw [Int.toNat_natCast, va_up_ne _ _ (by decide)]; exact hI) ?_
  exact mw_vret dc_Mo_reverse_149 rfl hx
theorem lp_rv2 {G : mm_G} {d bc bs : Nat} {cs : mm_Sh} {I : Nat → Nat → Int32} {J : Nat → Nat → Int64} {F : Nat → Nat → Option Nat} {V : Nat → Nat → Value} {X : mm_X} {a i j : Nat} {g : Nat → Int32} (hM : mo_V V) (ha : a < 5) (hx : mW G mt_Mo_reverse d bc bs 107 [(0, .ref 39), (1, .int (iI a)), (2, .int (iI i)), (3, .int (iI j))] [] (wd_S ++ cs, va_up I 42 (mv_o g a 7), J, F, V) X) :
    ∀ (m t : Nat), 7 - t < m → t ≤ 7 → mW G mt_Mo_reverse d bc bs 68 [(4, .int (iI t)), (0, .ref 39), (1, .int (iI a)), (2, .int (iI i)), (3, .int (iI j))] [] (wd_S ++ cs, va_up I 42 (mv_o g a t), J, F, V) X := by
  intro m
  induction m with
  | zero => intro t h1 _; exact absurd h1 (Nat.not_lt_zero _)
  | succ m ih =>
    intro t h1 h2
    refine mw_iload dc_Mo_reverse_68 0 rfl ?_
    refine mi_bipush dc_Mo_reverse_70 (by decide) ?_
    refine mi_icmp_ge (tgt := 107) dc_Mo_reverse_72 (by decide) (iB_mk (by omega) (by omega)) (iB_mk (by omega) (by omega)) (fun hh => ?_) (fun hh => ?_)
    · have e : t = 7 := by omega
      subst e
      refine mw_pick [1, 2, 3, 4] rfl ?_
      exact hx
    · refine mw_aload_n dc_Mo_reverse_75 rfl 1 rfl ?_
      refine mi_get (ci := 5) (k := 4) dc_Mo_reverse_76 rfl wi_Mo rfl rfl (by decide) fl_Mo_20 hM.2.2.1 ?_
      refine mi_bipush dc_Mo_reverse_79 (by decide) ?_
      refine mw_iload_n dc_Mo_reverse_81 rfl 2 rfl ?_
      refine mi_imul dc_Mo_reverse_82 ?_
      refine mw_iload dc_Mo_reverse_83 0 rfl ?_
      refine mi_iadd dc_Mo_reverse_85 ?_
      refine mw_aload_n dc_Mo_reverse_86 rfl 1 rfl ?_
      refine mi_get (ci := 5) (k := 4) dc_Mo_reverse_87 rfl wi_Mo rfl rfl (by decide) fl_Mo_20 hM.2.2.1 ?_
      refine mi_bipush dc_Mo_reverse_90 (by decide) ?_
      refine mw_iload_n dc_Mo_reverse_92 rfl 2 rfl ?_
      refine mi_imul dc_Mo_reverse_93 ?_
      refine mw_iload dc_Mo_reverse_94 0 rfl ?_
      refine mi_iadd dc_Mo_reverse_96 ?_
      refine mi_const dc_Mo_reverse_97 ?_
      refine mi_iadd dc_Mo_reverse_98 ?_
      refine mi_iald dc_Mo_reverse_99 rfl ⟨by omega, by omega, by decide⟩ (v := mv_o g a t (8 * a + t + 1)) (by rw [va_up_self, show (8 * (a : Int) + t + 1).toNat = 8 * a + t + 1 by omega]) ?_
      refine mi_iast dc_Mo_reverse_100 rfl ⟨by omega, by omega, by decide⟩ (I' := va_up I 42 (mv_o g a (t + 1))) (by rw [va_up_self, up_up, show (8 * (a : Int) + t).toNat = 8 * a + t by omega]; rfl) ?_
      refine mi_iinc dc_Mo_reverse_101 0 rfl (by decide) rfl ?_
      refine mw_goto (tgt := 68) dc_Mo_reverse_104 (by decide) ?_
      refine mw_pick [0, 1, 2, 3, 4] rfl ?_
      exact ih (t + 1) (by omega) (by omega)
theorem lp_rv1 {G : mm_G} {d bc bs : Nat} {cs : mm_Sh} {I : Nat → Nat → Int32} {J : Nat → Nat → Int64} {F : Nat → Nat → Option Nat} {V : Nat → Nat → Value} {X : mm_X} {a i j k : Nat} (hM : mo_V V) (ha : a < 5) (hk : I 41 a = iI k) (hk8 : k ≤ 8) (hx : X (.inl none) (wd_S ++ cs, rv_I I a k (iI (10 * (i : Int) + j)), J, F, V)) :
    mW G mt_Mo_reverse d bc bs 54 [(0, .ref 39), (1, .int (iI a)), (2, .int (iI i)), (3, .int (iI j))] [] (wd_S ++ cs, I, J, F, V) X := by
  refine mw_aload_n dc_Mo_reverse_54 rfl 0 rfl ?_
  refine mi_get (ci := 5) (k := 3) dc_Mo_reverse_55 rfl wi_Mo rfl rfl (by decide) fl_Mo_17 hM.2.1 ?_
  refine mw_iload_n dc_Mo_reverse_58 rfl 1 rfl ?_
  refine mi_iald dc_Mo_reverse_59 rfl ⟨by omega, by omega, by decide⟩ (v := iI k) (by rw [Int.toNat_natCast]; exact hk) ?_
  refine mi_bipush dc_Mo_reverse_60 (by decide) ?_
  refine mi_icmp_ne (tgt := 117) dc_Mo_reverse_62 (by decide) (iB_mk (by omega) (by omega)) (iB_mk (by omega) (by omega)) (fun hh => ?_) (fun hh => ?_)
  · have e : ¬ k = 8 := by omega
    exact lp_rv3 hM ha hk (by omega) (by unfold rv_I; rw [if_neg e, if_neg e, if_neg e]; rfl) hx
  · have e : k = 8 := by omega
    subst e
    refine mi_const dc_Mo_reverse_65 ?_
    refine mw_istore dc_Mo_reverse_66 (by decide) rfl ?_
    refine mw_pick [0, 1, 2, 3, 4] rfl ?_
    refine mw_h (h' := (wd_S ++ cs, va_up I 42 (mv_o (I 42) a 0), J, F, V)) (by rw [show mv_o (I 42) a 0 = I 42 from rfl, up_id]) ?_
    refine lp_rv2 (I := I) hM ha ?_ 8 0 (by omega) (by omega)
    refine mw_aload_n dc_Mo_reverse_107 rfl 0 rfl ?_
    refine mi_get (ci := 5) (k := 3) dc_Mo_reverse_108 rfl wi_Mo rfl rfl (by decide) fl_Mo_17 hM.2.1 ?_
    refine mw_iload_n dc_Mo_reverse_111 rfl 1 rfl ?_
    refine mw_dup2 dc_Mo_reverse_112 rfl rfl ?_
    refine mi_iald dc_Mo_reverse_113 rfl ⟨by omega, by omega, by decide⟩ (v := iI 8) (by rw [Int.toNat_natCast, va_up_ne _ _ (by decide)]; exact hk) ?_
    refine mi_const dc_Mo_reverse_114 ?_
    refine mi_isub dc_Mo_reverse_115 ?_
    refine mi_iast dc_Mo_reverse_116 rfl ⟨by omega, by omega, by decide⟩ (I' := va_up (va_up I 42 (mv_o (I 42) a 7)) 41 (upd (I 41) a (iI 7))) (by rw [Int.toNat_natCast, va_up_ne _ _ (by decide)]; rfl) ?_
    refine lp_rv3 (k := 7) hM ha (by rw [va_up_self, upd_s]; rfl) (by omega) ?_ hx
    unfold rv_I
    rw [if_pos rfl, if_pos rfl, if_pos rfl, va_up_self, upd_u, va_up_ne _ _ (by decide), va_up_self, up_cm _ _ _ (show 41 ≠ 42 by decide), up_up, up_up]
    rfl
theorem ev_moreverse {G : mm_G} {d : Nat} {cs : mm_Sh} {I : Nat → Nat → Int32} {J : Nat → Nat → Int64} {F : Nat → Nat → Option Nat} {V : Nat → Nat → Value} {n k : Nat} {x y z : Int} (hM : mo_V V) (hg : V 39 1 = .int (iI n)) (hn : n ≤ 6) (hx : iB x) (hy : iB y) (hz : iB z) (hk : okS x → I 41 x.toNat = iI k ∧ k ≤ 8) : mE G mt_Mo_reverse (d + 1) 0 0 [.ref 39, .int (iI x), .int (iI y), .int (iI z)] (wd_S ++ cs, I, J, F, V) (fun o h1 => o = .inl none ∧ ((okS x ∧ 0 ≤ y ∧ y ≤ z ∧ z < n) → h1 = (wd_S ++ cs, rv_I (va_up I 40 (tu_f (I 40) (6 * x.toNat + y.toNat) (6 * x.toNat + z.toNat))) x.toNat k (iI (10 * y + z)), J, F, fu V 39 0 (.int (iI 0)))) ∧ (¬ (okS x ∧ 0 ≤ y ∧ y ≤ z ∧ z < n) → h1 = (wd_S ++ cs, I, J, F, fu V 39 0 (.int (iI 1))))) := by
  refine mE_intro (by decide) (fun k h q => nomatch q.1) (Nat.le_of_ble_eq_true rfl) ?_
  show mW G mt_Mo_reverse (d + 1) 0 0 0 [(0, .ref 39), (1, .int (iI x)), (2, .int (iI y)), (3, .int (iI z))] [] (wd_S ++ cs, I, J, F, V) _
  refine mw_aload_n dc_Mo_reverse_0 rfl 0 rfl ?_
  refine mw_iload_n dc_Mo_reverse_1 rfl 1 rfl ?_
  refine mz_S1 (M2 := mt_Mo_noSlot) dc_Mo_reverse_2 ml_Mo_87 rfl ny_Mo_noSlot (by decide) (Nat.le_of_ble_eq_true rfl) (ev_noSlot hx) (fun v h1 hY => ?_)
  obtain ⟨hv, rfl⟩ := hY
  cases hv
  refine mw_if_ne (tgt := 25) dc_Mo_reverse_5 (by decide) (fun h05 => ?_) (fun h05 => ?_)
  · refine mi_const dc_Mo_reverse_25 ?_
    refine mw_goto (tgt := 30) dc_Mo_reverse_26 (by decide) ?_
    refine mi_puti (ci := 5) (k := 0) dc_Mo_reverse_30 rfl wi_Mo tk_Mo nm_Mo rfl rfl (by decide) fl_Mo_75 rfl (by decide +kernel) (show va_up V 39 (va_up (V 39) 0 (.int (iI 1))) = fu V 39 0 (.int (iI 1)) from rfl) ?_
    refine mw_aload_n dc_Mo_reverse_33 rfl 0 rfl ?_
    refine mi_get (ci := 5) (k := 0) dc_Mo_reverse_34 rfl wi_Mo rfl rfl (by decide) fl_Mo_75 (fu_at V 39 0 _) ?_
    have hs1 : ¬ okS x := Decidable.not_not.mp (fun q => h05 (bo_0.mpr q))
    refine mi_if_le (tgt := 41) dc_Mo_reverse_37 (by decide) (iB_mk (by omega) (by omega)) (fun hw => ?_) (fun hw => ?_)
    · exact absurd hw (by decide)
    · exact mw_vret dc_Mo_reverse_40 rfl ⟨rfl, fun q => absurd q (fun q => by have := q.1; omega), fun _ => rfl⟩
  · refine mw_iload_n dc_Mo_reverse_8 rfl 2 rfl ?_
    refine mi_if_lt (tgt := 25) dc_Mo_reverse_9 (by decide) hy (fun h19 => ?_) (fun h19 => ?_)
    · refine mi_const dc_Mo_reverse_25 ?_
      refine mw_goto (tgt := 30) dc_Mo_reverse_26 (by decide) ?_
      refine mi_puti (ci := 5) (k := 0) dc_Mo_reverse_30 rfl wi_Mo tk_Mo nm_Mo rfl rfl (by decide) fl_Mo_75 rfl (by decide +kernel) (show va_up V 39 (va_up (V 39) 0 (.int (iI 1))) = fu V 39 0 (.int (iI 1)) from rfl) ?_
      refine mw_aload_n dc_Mo_reverse_33 rfl 0 rfl ?_
      refine mi_get (ci := 5) (k := 0) dc_Mo_reverse_34 rfl wi_Mo rfl rfl (by decide) fl_Mo_75 (fu_at V 39 0 _) ?_
      have hs1 : okS x := Decidable.not_not.mp (bo_0.mp h05)
      refine mi_if_le (tgt := 41) dc_Mo_reverse_37 (by decide) (iB_mk (by omega) (by omega)) (fun hw => ?_) (fun hw => ?_)
      · exact absurd hw (by decide)
      · exact mw_vret dc_Mo_reverse_40 rfl ⟨rfl, fun q => absurd q (fun q => by have := q.1; omega), fun _ => rfl⟩
    · refine mw_iload_n dc_Mo_reverse_12 rfl 3 rfl ?_
      refine mw_aload_n dc_Mo_reverse_13 rfl 0 rfl ?_
      refine mi_get (ci := 5) (k := 1) dc_Mo_reverse_14 rfl wi_Mo rfl rfl (by decide) fl_Mo_7 hg ?_
      refine mi_icmp_ge (tgt := 25) dc_Mo_reverse_17 (by decide) hz (iB_mk (by omega) (by omega)) (fun h217 => ?_) (fun h217 => ?_)
      · refine mi_const dc_Mo_reverse_25 ?_
        refine mw_goto (tgt := 30) dc_Mo_reverse_26 (by decide) ?_
        refine mi_puti (ci := 5) (k := 0) dc_Mo_reverse_30 rfl wi_Mo tk_Mo nm_Mo rfl rfl (by decide) fl_Mo_75 rfl (by decide +kernel) (show va_up V 39 (va_up (V 39) 0 (.int (iI 1))) = fu V 39 0 (.int (iI 1)) from rfl) ?_
        refine mw_aload_n dc_Mo_reverse_33 rfl 0 rfl ?_
        refine mi_get (ci := 5) (k := 0) dc_Mo_reverse_34 rfl wi_Mo rfl rfl (by decide) fl_Mo_75 (fu_at V 39 0 _) ?_
        have hs1 : okS x := Decidable.not_not.mp (bo_0.mp h05)
        refine mi_if_le (tgt := 41) dc_Mo_reverse_37 (by decide) (iB_mk (by omega) (by omega)) (fun hw => ?_) (fun hw => ?_)
        · exact absurd hw (by decide)
        · exact mw_vret dc_Mo_reverse_40 rfl ⟨rfl, fun q => absurd q (fun q => by have := q.1; omega), fun _ => rfl⟩
      · refine mw_iload_n dc_Mo_reverse_20 rfl 2 rfl ?_
        refine mw_iload_n dc_Mo_reverse_21 rfl 3 rfl ?_
        refine mi_icmp_le (tgt := 29) dc_Mo_reverse_22 (by decide) hy hz (fun h322 => ?_) (fun h322 => ?_)
        · refine mi_const dc_Mo_reverse_29 ?_
          refine mi_puti (ci := 5) (k := 0) dc_Mo_reverse_30 rfl wi_Mo tk_Mo nm_Mo rfl rfl (by decide) fl_Mo_75 rfl (by decide +kernel) (show va_up V 39 (va_up (V 39) 0 (.int (iI 0))) = fu V 39 0 (.int (iI 0)) from rfl) ?_
          refine mw_aload_n dc_Mo_reverse_33 rfl 0 rfl ?_
          refine mi_get (ci := 5) (k := 0) dc_Mo_reverse_34 rfl wi_Mo rfl rfl (by decide) fl_Mo_75 (fu_at V 39 0 _) ?_
          have hs1 : okS x := Decidable.not_not.mp (bo_0.mp h05)
          obtain ⟨hk1, hk8⟩ := hk hs1
          obtain ⟨a, rfl⟩ := Int.eq_ofNat_of_zero_le hs1.1
          obtain ⟨e, rfl⟩ := Int.eq_ofNat_of_zero_le (show 0 ≤ y by omega)
          obtain ⟨f, rfl⟩ := Int.eq_ofNat_of_zero_le (show 0 ≤ z by omega)
          have ha : a < 5 := by have := hs1.2; omega
          refine mi_if_le (tgt := 41) dc_Mo_reverse_37 (by decide) (iB_mk (by omega) (by omega)) (fun hw => ?_) (fun hw => ?_)
          · refine mw_aload_n dc_Mo_reverse_41 rfl 0 rfl ?_
            refine mi_get (ci := 5) (k := 2) dc_Mo_reverse_42 rfl wi_Mo rfl rfl (by decide) fl_Mo_13 ((fu_n2 V _ (by decide)).trans hM.1) ?_
            refine mi_bipush dc_Mo_reverse_45 (by decide) ?_
            refine mw_iload_n dc_Mo_reverse_47 rfl 1 rfl ?_
            refine mi_imul dc_Mo_reverse_48 ?_
            refine mw_iload_n dc_Mo_reverse_49 rfl 2 rfl ?_
            refine mw_iload_n dc_Mo_reverse_50 rfl 3 rfl ?_
            refine mz_S4 (M2 := mt_Mo_turn) dc_Mo_reverse_51 ml_Mo_91 rfl ny_Mo_turn (by decide) (Nat.le_of_ble_eq_true rfl) (ev_moturn (s := 6 * a) (i := e) (j := f) rfl (show 6 * a + f < 30 by omega) (by decide) (by omega)) (fun v h1 hY => ?_)
            obtain ⟨hv, rfl⟩ := hY
            cases hv
            exact lp_rv1 (mo_fu _ hM (Or.inl rfl)) ha (by rw [va_up_ne _ _ (by decide)]; exact hk1) hk8 ⟨rfl, fun _ => rfl, fun q => absurd ⟨hs1, by omega, by omega, by omega⟩ q⟩
          · exact absurd hw (by decide)
        · refine mi_const dc_Mo_reverse_25 ?_
          refine mw_goto (tgt := 30) dc_Mo_reverse_26 (by decide) ?_
          refine mi_puti (ci := 5) (k := 0) dc_Mo_reverse_30 rfl wi_Mo tk_Mo nm_Mo rfl rfl (by decide) fl_Mo_75 rfl (by decide +kernel) (show va_up V 39 (va_up (V 39) 0 (.int (iI 1))) = fu V 39 0 (.int (iI 1)) from rfl) ?_
          refine mw_aload_n dc_Mo_reverse_33 rfl 0 rfl ?_
          refine mi_get (ci := 5) (k := 0) dc_Mo_reverse_34 rfl wi_Mo rfl rfl (by decide) fl_Mo_75 (fu_at V 39 0 _) ?_
          have hs1 : okS x := Decidable.not_not.mp (bo_0.mp h05)
          refine mi_if_le (tgt := 41) dc_Mo_reverse_37 (by decide) (iB_mk (by omega) (by omega)) (fun hw => ?_) (fun hw => ?_)
          · exact absurd hw (by decide)
          · exact mw_vret dc_Mo_reverse_40 rfl ⟨rfl, fun q => absurd q (fun q => by have := q.1; omega), fun _ => rfl⟩
theorem ev_moundo {G : mm_G} {d : Nat} {cs : mm_Sh} {I : Nat → Nat → Int32} {J : Nat → Nat → Int64} {F : Nat → Nat → Option Nat} {V : Nat → Nat → Value} {k i j : Nat} {x : Int} (hM : mo_V V) (hx : iB x) (hk : okS x → I 41 x.toNat = iI k ∧ k ≤ 8 ∧ (0 < k → I 42 (8 * x.toNat + (k - 1)) = iI (10 * (i : Int) + j) ∧ i ≤ j ∧ j < 6)) : mE G mt_Mo_undo (d + 1) 0 0 [.ref 39, .int (iI x)] (wd_S ++ cs, I, J, F, V) (fun o h1 => ((okS x ∧ 0 < k) → o = .inl (some (.int (iI 1))) ∧ h1 = (wd_S ++ cs, va_up (va_up I 41 (upd (I 41) x.toNat (iI ((k - 1 : Nat) : Int)))) 40 (tu_f (I 40) (6 * x.toNat + i) (6 * x.toNat + j)), J, F, fu V 39 0 (.int (iI 0)))) ∧ ((okS x ∧ k = 0) → o = .inl (some (.int (iI 0))) ∧ h1 = (wd_S ++ cs, I, J, F, fu V 39 0 (.int (iI 0)))) ∧ (¬ okS x → o = .inl (some (.int (iI 0))) ∧ h1 = (wd_S ++ cs, I, J, F, fu V 39 0 (.int (iI 1))))) := by
  refine mE_intro (by decide) (fun k9 h q => ?_) (Nat.le_of_ble_eq_true rfl) ?_
  · by_cases r : okS x
    · by_cases r2 : k = 0
      · exact nomatch (q.2.1 ⟨r, r2⟩).1
      · exact nomatch (q.1 ⟨r, Nat.pos_of_ne_zero r2⟩).1
    · exact nomatch (q.2.2 r).1
  show mW G mt_Mo_undo (d + 1) 0 0 0 [(0, .ref 39), (1, .int (iI x))] [] (wd_S ++ cs, I, J, F, V) _
  refine mw_aload_n dc_Mo_undo_0 rfl 0 rfl ?_
  refine mw_iload_n dc_Mo_undo_1 rfl 1 rfl ?_
  refine mz_S1 (M2 := mt_Mo_noSlot) dc_Mo_undo_2 ml_Mo_87 rfl ny_Mo_noSlot (by decide) (Nat.le_of_ble_eq_true rfl) (ev_noSlot hx) (fun v h1 hY => ?_)
  obtain ⟨hv, rfl⟩ := hY
  cases hv
  refine mw_if_eq (tgt := 12) dc_Mo_undo_5 (by decide) (fun h05 => ?_) (fun h05 => ?_)
  · refine mi_const dc_Mo_undo_12 ?_
    refine mi_puti (ci := 5) (k := 0) dc_Mo_undo_13 rfl wi_Mo tk_Mo nm_Mo rfl rfl (by decide) fl_Mo_75 rfl (by decide +kernel) (show va_up V 39 (va_up (V 39) 0 (.int (iI 0))) = fu V 39 0 (.int (iI 0)) from rfl) ?_
    refine mw_aload_n dc_Mo_undo_16 rfl 0 rfl ?_
    refine mi_get (ci := 5) (k := 0) dc_Mo_undo_17 rfl wi_Mo rfl rfl (by decide) fl_Mo_75 (fu_at V 39 0 _) ?_
    have hs1 : okS x := Decidable.not_not.mp (bo_0.mp h05)
    obtain ⟨hk1, hk8, hk2⟩ := hk hs1
    obtain ⟨a, rfl⟩ := Int.eq_ofNat_of_zero_le hs1.1
    have ha : a < 5 := by have := hs1.2; omega
    refine mi_if_gt (tgt := 32) dc_Mo_undo_20 (by decide) (iB_mk (by omega) (by omega)) (fun hw => ?_) (fun hw => ?_)
    · exact absurd hw (by decide)
    · refine mw_aload_n dc_Mo_undo_23 rfl 0 rfl ?_
      refine mi_get (ci := 5) (k := 3) dc_Mo_undo_24 rfl wi_Mo rfl rfl (by decide) fl_Mo_17 ((fu_n2 V _ (by decide)).trans hM.2.1) ?_
      refine mw_iload_n dc_Mo_undo_27 rfl 1 rfl ?_
      refine mi_iald dc_Mo_undo_28 rfl ⟨by omega, by omega, by decide⟩ (v := iI k) (by rw [Int.toNat_natCast]; exact hk1) ?_
      refine mi_if_ne (tgt := 34) dc_Mo_undo_29 (by decide) (iB_mk (by omega) (by omega)) (fun hv9 => ?_) (fun hv9 => ?_)
      · obtain ⟨hk9, hij, hj⟩ := hk2 (by omega)
        refine mw_aload_n dc_Mo_undo_34 rfl 0 rfl ?_
        refine mi_get (ci := 5) (k := 3) dc_Mo_undo_35 rfl wi_Mo rfl rfl (by decide) fl_Mo_17 ((fu_n2 V _ (by decide)).trans hM.2.1) ?_
        refine mw_iload_n dc_Mo_undo_38 rfl 1 rfl ?_
        refine mw_dup2 dc_Mo_undo_39 rfl rfl ?_
        refine mi_iald dc_Mo_undo_40 rfl ⟨by omega, by omega, by decide⟩ (v := iI k) (by rw [Int.toNat_natCast]; exact hk1) ?_
        refine mi_const dc_Mo_undo_41 ?_
        refine mi_isub dc_Mo_undo_42 ?_
        refine mi_iast dc_Mo_undo_43 rfl ⟨by omega, by omega, by decide⟩ (I' := va_up I 41 (upd (I 41) a (iI ((k - 1 : Nat) : Int)))) (by rw [Int.toNat_natCast, show (k : Int) - 1 = ((k - 1 : Nat) : Int) by omega]) ?_
        refine mw_aload_n dc_Mo_undo_44 rfl 0 rfl ?_
        refine mi_get (ci := 5) (k := 4) dc_Mo_undo_45 rfl wi_Mo rfl rfl (by decide) fl_Mo_20 ((fu_n2 V _ (by decide)).trans hM.2.2.1) ?_
        refine mi_bipush dc_Mo_undo_48 (by decide) ?_
        refine mw_iload_n dc_Mo_undo_50 rfl 1 rfl ?_
        refine mi_imul dc_Mo_undo_51 ?_
        refine mw_aload_n dc_Mo_undo_52 rfl 0 rfl ?_
        refine mi_get (ci := 5) (k := 3) dc_Mo_undo_53 rfl wi_Mo rfl rfl (by decide) fl_Mo_17 ((fu_n2 V _ (by decide)).trans hM.2.1) ?_
        refine mw_iload_n dc_Mo_undo_56 rfl 1 rfl ?_
        refine mi_iald dc_Mo_undo_57 rfl ⟨by omega, by omega, by decide⟩ (v := iI ((k - 1 : Nat) : Int)) (by rw [Int.toNat_natCast, va_up_self, upd_s]) ?_
        refine mi_iadd dc_Mo_undo_58 ?_
        refine mi_iald dc_Mo_undo_59 rfl ⟨by omega, by omega, by decide⟩ (v := iI (10 * (i : Int) + j)) (by rw [show (8 * (a : Int) + ((k - 1 : Nat) : Int)).toNat = 8 * a + (k - 1) by omega, va_up_ne _ _ (by decide)]; exact hk9) ?_
        refine mw_istore_n dc_Mo_undo_60 rfl (by decide) rfl ?_
        refine mw_aload_n dc_Mo_undo_61 rfl 1 rfl ?_
        refine mi_get (ci := 5) (k := 2) dc_Mo_undo_62 rfl wi_Mo rfl rfl (by decide) fl_Mo_13 ((fu_n2 V _ (by decide)).trans hM.1) ?_
        refine mi_bipush dc_Mo_undo_65 (by decide) ?_
        refine mw_iload_n dc_Mo_undo_67 rfl 2 rfl ?_
        refine mi_imul dc_Mo_undo_68 ?_
        refine mw_iload_n dc_Mo_undo_69 rfl 0 rfl ?_
        refine mi_bipush dc_Mo_undo_70 (by decide) ?_
        refine mi_idiv dc_Mo_undo_72 ⟨by omega, by omega, by omega, by omega⟩ ?_
        rw [show (10 * (i : Int) + j) / 10 = i by omega]
        refine mw_iload_n dc_Mo_undo_73 rfl 0 rfl ?_
        refine mi_bipush dc_Mo_undo_74 (by decide) ?_
        refine mi_irem dc_Mo_undo_76 ⟨by omega, by omega, by omega, by omega⟩ ?_
        rw [show (10 * (i : Int) + j) % 10 = j by omega]
        refine mz_S4 (M2 := mt_Mo_turn) dc_Mo_undo_77 ml_Mo_91 rfl ny_Mo_turn (by decide) (Nat.le_of_ble_eq_true rfl) (ev_moturn (s := 6 * a) (i := i) (j := j) rfl (show 6 * a + j < 30 by omega) (by decide) hij) (fun v h1 hY => ?_)
        obtain ⟨hv, rfl⟩ := hY
        cases hv
        refine mi_const dc_Mo_undo_80 ?_
        refine mw_iret dc_Mo_undo_81 rfl rfl ⟨fun _ => ⟨rfl, ?_⟩, fun q => absurd q.2 (by omega), fun q => absurd hs1 q⟩
        rw [va_up_ne _ _ (by decide)]
        rfl
      · refine mi_const dc_Mo_undo_32 ?_
        exact mw_iret dc_Mo_undo_33 rfl rfl ⟨fun q => absurd q.2 (by omega), fun _ => ⟨rfl, rfl⟩, fun q => absurd hs1 q⟩
  · refine mi_const dc_Mo_undo_8 ?_
    refine mw_goto (tgt := 13) dc_Mo_undo_9 (by decide) ?_
    refine mi_puti (ci := 5) (k := 0) dc_Mo_undo_13 rfl wi_Mo tk_Mo nm_Mo rfl rfl (by decide) fl_Mo_75 rfl (by decide +kernel) (show va_up V 39 (va_up (V 39) 0 (.int (iI 1))) = fu V 39 0 (.int (iI 1)) from rfl) ?_
    refine mw_aload_n dc_Mo_undo_16 rfl 0 rfl ?_
    refine mi_get (ci := 5) (k := 0) dc_Mo_undo_17 rfl wi_Mo rfl rfl (by decide) fl_Mo_75 (fu_at V 39 0 _) ?_
    have hs1 : ¬ okS x := Decidable.not_not.mp (fun q => h05 (bo_0.mpr q))
    refine mi_if_gt (tgt := 32) dc_Mo_undo_20 (by decide) (iB_mk (by omega) (by omega)) (fun hw => ?_) (fun hw => ?_)
    · refine mi_const dc_Mo_undo_32 ?_
      exact mw_iret dc_Mo_undo_33 rfl rfl ⟨fun q => absurd q.1 hs1, fun q => absurd q.1 hs1, fun _ => ⟨rfl, rfl⟩⟩
    · exact absurd hw (by decide)
