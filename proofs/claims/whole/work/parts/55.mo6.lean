/-! the reference's copy -/
def mc_o (g : Nat → Int32) (a b : Nat) : Nat → Nat → Int32
  | 0 => g
  | p + 1 => upd (mc_o g a b p) (6 * b + p) (mc_o g a b p (6 * a + p))
theorem lp_mcp {G : mm_G} {d bc bs : Nat} {cs : mm_Sh} {I : Nat → Nat → Int32} {J : Nat → Nat → Int64} {F : Nat → Nat → Option Nat} {V : Nat → Nat → Value} {X : mm_X} {n a b : Nat} {g : Nat → Int32} (hM : mo_V V) (hg : V 39 1 = .int (iI n)) (hn : n ≤ 6) (ht : V 39 0 = .int (iI 0)) (ha : a < 5) (hb : b < 5) (hx : mW G mt_Mo_copy d bc bs 68 [(0, .ref 39), (1, .int (iI a)), (2, .int (iI b))] [] (wd_S ++ cs, va_up I 40 (mc_o g a b n), J, F, V) X) :
    ∀ (m p : Nat), n - p < m → p ≤ n → mW G mt_Mo_copy d bc bs 25 [(3, .int (iI p)), (0, .ref 39), (1, .int (iI a)), (2, .int (iI b))] [] (wd_S ++ cs, va_up I 40 (mc_o g a b p), J, F, V) X := by
  intro m
  induction m with
  | zero => intro p h1 _; exact absurd h1 (Nat.not_lt_zero _)
  | succ m ih =>
    intro p h1 h2
    refine mw_iload_n dc_Mo_copy_25 rfl 0 rfl ?_
    refine mw_aload_n dc_Mo_copy_26 rfl 1 rfl ?_
    refine mi_get (ci := 5) (k := 1) dc_Mo_copy_27 rfl wi_Mo rfl rfl (by decide) fl_Mo_7 hg ?_
    refine mi_icmp_ge (tgt := 68) dc_Mo_copy_30 (by decide) (iB_mk (by omega) (by omega)) (iB_mk (by omega) (by omega)) (fun hh => ?_) (fun hh => ?_)
    · have e : p = n := by omega
      subst e
      refine mw_pick [1, 2, 3] rfl ?_
      exact hx
    · refine mw_aload_n dc_Mo_copy_33 rfl 1 rfl ?_
      refine mi_get (ci := 5) (k := 0) dc_Mo_copy_34 rfl wi_Mo rfl rfl (by decide) fl_Mo_75 ht ?_
      refine mi_if_ne (tgt := 68) dc_Mo_copy_37 (by decide) (iB_mk (by omega) (by omega)) (fun hz => ?_) (fun hz => ?_)
      · exact absurd rfl hz
      · refine mw_aload_n dc_Mo_copy_40 rfl 1 rfl ?_
        refine mi_get (ci := 5) (k := 2) dc_Mo_copy_41 rfl wi_Mo rfl rfl (by decide) fl_Mo_13 hM.1 ?_
        refine mi_bipush dc_Mo_copy_44 (by decide) ?_
        refine mw_iload_n dc_Mo_copy_46 rfl 3 rfl ?_
        refine mi_imul dc_Mo_copy_47 ?_
        refine mw_iload_n dc_Mo_copy_48 rfl 0 rfl ?_
        refine mi_iadd dc_Mo_copy_49 ?_
        refine mw_aload_n dc_Mo_copy_50 rfl 1 rfl ?_
        refine mi_get (ci := 5) (k := 2) dc_Mo_copy_51 rfl wi_Mo rfl rfl (by decide) fl_Mo_13 hM.1 ?_
        refine mi_bipush dc_Mo_copy_54 (by decide) ?_
        refine mw_iload_n dc_Mo_copy_56 rfl 2 rfl ?_
        refine mi_imul dc_Mo_copy_57 ?_
        refine mw_iload_n dc_Mo_copy_58 rfl 0 rfl ?_
        refine mi_iadd dc_Mo_copy_59 ?_
        refine mi_iald dc_Mo_copy_60 rfl ⟨by omega, by omega, by decide⟩ (v := mc_o g a b p (6 * a + p)) (by rw [va_up_self, show (6 * (a : Int) + p).toNat = 6 * a + p by omega]) ?_
        refine mi_iast dc_Mo_copy_61 rfl ⟨by omega, by omega, by decide⟩ (I' := va_up I 40 (mc_o g a b (p + 1))) (by rw [va_up_self, up_up, show (6 * (b : Int) + p).toNat = 6 * b + p by omega]; rfl) ?_
        refine mi_iinc dc_Mo_copy_62 0 rfl (by decide) rfl ?_
        refine mw_goto (tgt := 25) dc_Mo_copy_65 (by decide) ?_
        refine mw_pick [0, 1, 2, 3] rfl ?_
        exact ih (p + 1) (by omega) (by omega)
theorem ev_mocopy {G : mm_G} {d : Nat} {cs : mm_Sh} {I : Nat → Nat → Int32} {J : Nat → Nat → Int64} {F : Nat → Nat → Option Nat} {V : Nat → Nat → Value} {n : Nat} {x y : Int} (hM : mo_V V) (hg : V 39 1 = .int (iI n)) (hn : n ≤ 6) (hx : iB x) (hy : iB y) : mE G mt_Mo_copy (d + 1) 0 0 [.ref 39, .int (iI x), .int (iI y)] (wd_S ++ cs, I, J, F, V) (fun o h1 => o = .inl none ∧ ((okS x ∧ okS y) → h1 = (wd_S ++ cs, va_up (va_up I 40 (mc_o (I 40) x.toNat y.toNat n)) 41 (upd (I 41) y.toNat (iI 0)), J, F, fu V 39 0 (.int (iI 0)))) ∧ (¬ (okS x ∧ okS y) → h1 = (wd_S ++ cs, I, J, F, fu V 39 0 (.int (iI 1))))) := by
  refine mE_intro (by decide) (fun k h q => nomatch q.1) (Nat.le_of_ble_eq_true rfl) ?_
  show mW G mt_Mo_copy (d + 1) 0 0 0 [(0, .ref 39), (1, .int (iI x)), (2, .int (iI y))] [] (wd_S ++ cs, I, J, F, V) _
  refine mw_aload_n dc_Mo_copy_0 rfl 0 rfl ?_
  refine mw_iload_n dc_Mo_copy_1 rfl 1 rfl ?_
  refine mz_S1 (M2 := mt_Mo_noSlot) dc_Mo_copy_2 ml_Mo_87 rfl ny_Mo_noSlot (by decide) (Nat.le_of_ble_eq_true rfl) (ev_noSlot hx) (fun v h1 hY => ?_)
  obtain ⟨hv, rfl⟩ := hY
  cases hv
  refine mw_if_ne (tgt := 15) dc_Mo_copy_5 (by decide) (fun h05 => ?_) (fun h05 => ?_)
  · refine mi_const dc_Mo_copy_15 ?_
    refine mw_goto (tgt := 20) dc_Mo_copy_16 (by decide) ?_
    refine mi_puti (ci := 5) (k := 0) dc_Mo_copy_20 rfl wi_Mo tk_Mo nm_Mo rfl rfl (by decide) fl_Mo_75 rfl (by decide +kernel) (show va_up V 39 (va_up (V 39) 0 (.int (iI 1))) = fu V 39 0 (.int (iI 1)) from rfl) ?_
    refine mi_const dc_Mo_copy_23 ?_
    refine mw_istore_n dc_Mo_copy_24 rfl (by decide) rfl ?_
    have hs1 : ¬ okS x := Decidable.not_not.mp (fun q => h05 (bo_0.mpr q))
    refine mw_iload_n dc_Mo_copy_25 rfl 0 rfl ?_
    refine mw_aload_n dc_Mo_copy_26 rfl 1 rfl ?_
    refine mi_get (ci := 5) (k := 1) dc_Mo_copy_27 rfl wi_Mo rfl rfl (by decide) fl_Mo_7 ((fu_n2 V _ (by decide)).trans hg) ?_
    refine mi_icmp_ge (tgt := 68) dc_Mo_copy_30 (by decide) (iB_mk (by omega) (by omega)) (iB_mk (by omega) (by omega)) (fun h530 => ?_) (fun h530 => ?_)
    · refine mw_aload_n dc_Mo_copy_68 rfl 1 rfl ?_
      refine mi_get (ci := 5) (k := 0) dc_Mo_copy_69 rfl wi_Mo rfl rfl (by decide) fl_Mo_75 (fu_at V 39 0 _) ?_
      refine mi_if_ne (tgt := 82) dc_Mo_copy_72 (by decide) (iB_mk (by omega) (by omega)) (fun hz => ?_) (fun hz => ?_)
      · exact mw_vret dc_Mo_copy_82 rfl ⟨rfl, fun q => absurd q (fun q => hs1 q.1), fun _ => rfl⟩
      · exact absurd hz (by decide)
    · refine mw_aload_n dc_Mo_copy_33 rfl 1 rfl ?_
      refine mi_get (ci := 5) (k := 0) dc_Mo_copy_34 rfl wi_Mo rfl rfl (by decide) fl_Mo_75 (fu_at V 39 0 _) ?_
      refine mi_if_ne (tgt := 68) dc_Mo_copy_37 (by decide) (iB_mk (by omega) (by omega)) (fun hz => ?_) (fun hz => ?_)
      · refine mw_aload_n dc_Mo_copy_68 rfl 1 rfl ?_
        refine mi_get (ci := 5) (k := 0) dc_Mo_copy_69 rfl wi_Mo rfl rfl (by decide) fl_Mo_75 (fu_at V 39 0 _) ?_
        refine mi_if_ne (tgt := 82) dc_Mo_copy_72 (by decide) (iB_mk (by omega) (by omega)) (fun hz => ?_) (fun hz => ?_)
        · exact mw_vret dc_Mo_copy_82 rfl ⟨rfl, fun q => absurd q (fun q => hs1 q.1), fun _ => rfl⟩
        · exact absurd hz (by decide)
      · exact absurd hz (by decide)
  · refine mw_iload_n dc_Mo_copy_8 rfl 2 rfl ?_
    refine mz_S1 (M2 := mt_Mo_noSlot) dc_Mo_copy_9 ml_Mo_87 rfl ny_Mo_noSlot (by decide) (Nat.le_of_ble_eq_true rfl) (ev_noSlot hy) (fun v h1 hY => ?_)
    obtain ⟨hv, rfl⟩ := hY
    cases hv
    refine mw_if_eq (tgt := 19) dc_Mo_copy_12 (by decide) (fun h112 => ?_) (fun h112 => ?_)
    · refine mi_const dc_Mo_copy_19 ?_
      refine mi_puti (ci := 5) (k := 0) dc_Mo_copy_20 rfl wi_Mo tk_Mo nm_Mo rfl rfl (by decide) fl_Mo_75 rfl (by decide +kernel) (show va_up V 39 (va_up (V 39) 0 (.int (iI 0))) = fu V 39 0 (.int (iI 0)) from rfl) ?_
      refine mi_const dc_Mo_copy_23 ?_
      refine mw_istore_n dc_Mo_copy_24 rfl (by decide) rfl ?_
      have hs1 : okS x := Decidable.not_not.mp (bo_0.mp h05)
      have hs2 : okS y := Decidable.not_not.mp (bo_0.mp h112)
      obtain ⟨a, rfl⟩ := Int.eq_ofNat_of_zero_le hs1.1
      obtain ⟨b, rfl⟩ := Int.eq_ofNat_of_zero_le hs2.1
      have lx : a < 5 := by have := hs1.2; omega
      have ly : b < 5 := by have := hs2.2; omega
      refine mw_h (h' := (wd_S ++ cs, va_up I 40 (mc_o (I 40) a b 0), J, F, fu V 39 0 (.int (iI 0)))) (by rw [show mc_o (I 40) a b 0 = I 40 from rfl, up_id]) ?_
      refine lp_mcp (I := I) (n := n) (g := I 40) (mo_fu (.int (iI 0)) hM (Or.inl rfl)) ((fu_n2 V _ (by decide)).trans hg) hn (fu_at V 39 0 _) lx ly ?_ (n + 1) 0 (by omega) (by omega)
      refine mw_aload_n dc_Mo_copy_68 rfl 0 rfl ?_
      refine mi_get (ci := 5) (k := 0) dc_Mo_copy_69 rfl wi_Mo rfl rfl (by decide) fl_Mo_75 (fu_at V 39 0 _) ?_
      refine mi_if_ne (tgt := 82) dc_Mo_copy_72 (by decide) (iB_mk (by omega) (by omega)) (fun hz => ?_) (fun hz => ?_)
      · exact absurd rfl hz
      · refine mw_aload_n dc_Mo_copy_75 rfl 0 rfl ?_
        refine mi_get (ci := 5) (k := 3) dc_Mo_copy_76 rfl wi_Mo rfl rfl (by decide) fl_Mo_17 ((fu_n2 V _ (by decide)).trans hM.2.1) ?_
        refine mw_iload_n dc_Mo_copy_79 rfl 2 rfl ?_
        refine mi_const dc_Mo_copy_80 ?_
        refine mi_iast dc_Mo_copy_81 rfl ⟨by omega, by omega, by decide⟩ (I' := va_up (va_up I 40 (mc_o (I 40) a b n)) 41 (upd (I 41) b (iI 0))) (by rw [va_up_ne _ _ (by decide), Int.toNat_natCast]) ?_
        exact mw_vret dc_Mo_copy_82 rfl ⟨rfl, fun _ => rfl, fun q => absurd ⟨hs1, hs2⟩ q⟩
    · refine mi_const dc_Mo_copy_15 ?_
      refine mw_goto (tgt := 20) dc_Mo_copy_16 (by decide) ?_
      refine mi_puti (ci := 5) (k := 0) dc_Mo_copy_20 rfl wi_Mo tk_Mo nm_Mo rfl rfl (by decide) fl_Mo_75 rfl (by decide +kernel) (show va_up V 39 (va_up (V 39) 0 (.int (iI 1))) = fu V 39 0 (.int (iI 1)) from rfl) ?_
      refine mi_const dc_Mo_copy_23 ?_
      refine mw_istore_n dc_Mo_copy_24 rfl (by decide) rfl ?_
      have hs1 : okS x := Decidable.not_not.mp (bo_0.mp h05)
      have hs2 : ¬ okS y := Decidable.not_not.mp (fun q => h112 (bo_0.mpr q))
      refine mw_iload_n dc_Mo_copy_25 rfl 0 rfl ?_
      refine mw_aload_n dc_Mo_copy_26 rfl 1 rfl ?_
      refine mi_get (ci := 5) (k := 1) dc_Mo_copy_27 rfl wi_Mo rfl rfl (by decide) fl_Mo_7 ((fu_n2 V _ (by decide)).trans hg) ?_
      refine mi_icmp_ge (tgt := 68) dc_Mo_copy_30 (by decide) (iB_mk (by omega) (by omega)) (iB_mk (by omega) (by omega)) (fun h530 => ?_) (fun h530 => ?_)
      · refine mw_aload_n dc_Mo_copy_68 rfl 1 rfl ?_
        refine mi_get (ci := 5) (k := 0) dc_Mo_copy_69 rfl wi_Mo rfl rfl (by decide) fl_Mo_75 (fu_at V 39 0 _) ?_
        refine mi_if_ne (tgt := 82) dc_Mo_copy_72 (by decide) (iB_mk (by omega) (by omega)) (fun hz => ?_) (fun hz => ?_)
        · exact mw_vret dc_Mo_copy_82 rfl ⟨rfl, fun q => absurd q (fun q => hs2 q.2), fun _ => rfl⟩
        · exact absurd hz (by decide)
      · refine mw_aload_n dc_Mo_copy_33 rfl 1 rfl ?_
        refine mi_get (ci := 5) (k := 0) dc_Mo_copy_34 rfl wi_Mo rfl rfl (by decide) fl_Mo_75 (fu_at V 39 0 _) ?_
        refine mi_if_ne (tgt := 68) dc_Mo_copy_37 (by decide) (iB_mk (by omega) (by omega)) (fun hz => ?_) (fun hz => ?_)
        · refine mw_aload_n dc_Mo_copy_68 rfl 1 rfl ?_
          refine mi_get (ci := 5) (k := 0) dc_Mo_copy_69 rfl wi_Mo rfl rfl (by decide) fl_Mo_75 (fu_at V 39 0 _) ?_
          refine mi_if_ne (tgt := 82) dc_Mo_copy_72 (by decide) (iB_mk (by omega) (by omega)) (fun hz => ?_) (fun hz => ?_)
          · exact mw_vret dc_Mo_copy_82 rfl ⟨rfl, fun q => absurd q (fun q => hs2 q.2), fun _ => rfl⟩
          · exact absurd hz (by decide)
        · exact absurd hz (by decide)
