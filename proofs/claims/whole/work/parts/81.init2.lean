/-! the reference's constructor -/
theorem lp_cl1T {G : mm_G} {d bc bs : Nat} {I : Nat → Nat → Int32} {J : Nat → Nat → Int64} {F : Nat → Nat → Option Nat} {V : Nat → Nat → Value} {X : mm_X} {n s : Nat} {g : Nat → Int32} (hM : mo_V V) (hg : V 39 1 = .int (iI n)) (hn : n ≤ 6) (hs : s < 5) (hx : mW G mt_Mo_clear d bc bs 37 [(1, .int (iI s)), (0, .ref 39)] [] (wd_S.take 58, va_up I 40 (cl_i g s n), J, F, V) X) :
    ∀ (m p : Nat), n - p < m → p ≤ n → mW G mt_Mo_clear d bc bs 9 [(2, .int (iI p)), (1, .int (iI s)), (0, .ref 39)] [] (wd_S.take 58, va_up I 40 (cl_i g s p), J, F, V) X := by
  intro m
  induction m with
  | zero => intro p h1 _; exact absurd h1 (Nat.not_lt_zero _)
  | succ m ih =>
    intro p h1 h2
    refine mw_iload_n dc_Mo_clear_9 rfl 0 rfl ?_
    refine mw_aload_n dc_Mo_clear_10 rfl 2 rfl ?_
    refine mi_get (ci := 5) (k := 1) dc_Mo_clear_11 rfl wi_Mo rfl rfl (by decide) fl_Mo_7 hg ?_
    refine mi_icmp_ge (tgt := 37) dc_Mo_clear_14 (by decide) (iB_mk (by omega) (by omega)) (iB_mk (by omega) (by omega)) (fun hh => ?_) (fun hh => ?_)
    · have e : p = n := by omega
      subst e
      refine mw_pick [1, 2] rfl ?_
      exact hx
    · refine mw_aload_n dc_Mo_clear_17 rfl 2 rfl ?_
      refine mi_get (ci := 5) (k := 2) dc_Mo_clear_18 rfl wi_Mo rfl rfl (by decide) fl_Mo_13 hM.1 ?_
      refine mi_bipush dc_Mo_clear_21 (by decide) ?_
      refine mw_iload_n dc_Mo_clear_23 rfl 1 rfl ?_
      refine mi_imul dc_Mo_clear_24 ?_
      refine mw_iload_n dc_Mo_clear_25 rfl 0 rfl ?_
      refine mi_iadd dc_Mo_clear_26 ?_
      refine mw_iload_n dc_Mo_clear_27 rfl 0 rfl ?_
      refine mi_const dc_Mo_clear_28 ?_
      refine mi_iadd dc_Mo_clear_29 ?_
      refine mi_iast dc_Mo_clear_30 rfl ⟨by omega, by omega, by decide⟩ (I' := va_up I 40 (cl_i g s (p + 1))) (by rw [va_up_self, up_up, show (6 * (s : Int) + p).toNat = 6 * s + p by omega]; rfl) ?_
      refine mi_iinc dc_Mo_clear_31 0 rfl (by decide) rfl ?_
      refine mw_goto (tgt := 9) dc_Mo_clear_34 (by decide) ?_
      refine mw_pick [0, 1, 2] rfl ?_
      exact ih (p + 1) (by omega) (by omega)
theorem lp_cl2T {G : mm_G} {d bc bs : Nat} {I : Nat → Nat → Int32} {J : Nat → Nat → Int64} {F : Nat → Nat → Option Nat} {V : Nat → Nat → Value} {X : mm_X} {n : Nat} (hM : mo_V V) (hg : V 39 1 = .int (iI n)) (hn : n ≤ 6) (hx : X (.inl none) (wd_S.take 58, cl_o I n 5, J, F, fu V 39 7 (.int (iI 0)))) :
    ∀ (m s : Nat), 5 - s < m → s ≤ 5 → mW G mt_Mo_clear d bc bs 2 [(1, .int (iI s)), (0, .ref 39)] [] (wd_S.take 58, cl_o I n s, J, F, V) X := by
  intro m
  induction m with
  | zero => intro s h1 _; exact absurd h1 (Nat.not_lt_zero _)
  | succ m ih =>
    intro s h1 h2
    refine mw_iload_n dc_Mo_clear_2 rfl 0 rfl ?_
    refine mi_const dc_Mo_clear_3 ?_
    refine mi_icmp_ge (tgt := 50) dc_Mo_clear_4 (by decide) (iB_mk (by omega) (by omega)) (iB_mk (by omega) (by omega)) (fun hh => ?_) (fun hh => ?_)
    · have e : s = 5 := by omega
      subst e
      refine mw_aload_n dc_Mo_clear_50 rfl 1 rfl ?_
      refine mi_const dc_Mo_clear_51 ?_
      refine mi_putz (ci := 5) (k := 7) dc_Mo_clear_52 rfl wi_Mo tk_Mo nm_Mo rfl rfl (by decide) fl_Mo_78 rfl (by decide +kernel) (by decide) (show va_up V 39 (va_up (V 39) 7 (.int (iI 0))) = fu V 39 7 (.int (iI 0)) from rfl) ?_
      exact mw_vret dc_Mo_clear_55 rfl hx
    · have hs : s < 5 := by omega
      refine mi_const dc_Mo_clear_7 ?_
      refine mw_istore_n dc_Mo_clear_8 rfl (by decide) rfl ?_
      refine mw_pick [0, 1, 2] rfl ?_
      refine mw_h (h' := (wd_S.take 58, va_up (cl_o I n s) 40 (cl_i (cl_o I n s 40) s 0), J, F, V)) (by rw [show cl_i (cl_o I n s 40) s 0 = cl_o I n s 40 from rfl, up_id]) ?_
      refine lp_cl1T (I := cl_o I n s) hM hg hn hs ?_ (n + 1) 0 (by omega) (by omega)
      refine mw_aload_n dc_Mo_clear_37 rfl 1 rfl ?_
      refine mi_get (ci := 5) (k := 3) dc_Mo_clear_38 rfl wi_Mo rfl rfl (by decide) fl_Mo_17 hM.2.1 ?_
      refine mw_iload_n dc_Mo_clear_41 rfl 0 rfl ?_
      refine mi_const dc_Mo_clear_42 ?_
      refine mi_iast dc_Mo_clear_43 rfl ⟨by omega, by omega, by decide⟩ (I' := cl_o I n (s + 1)) (by rw [Int.toNat_natCast]; rfl) ?_
      refine mi_iinc dc_Mo_clear_44 0 rfl (by decide) rfl ?_
      refine mw_goto (tgt := 2) dc_Mo_clear_47 (by decide) ?_
      refine mw_pick [0, 1] rfl ?_
      exact ih (s + 1) (by omega) (by omega)
theorem ev_clearT {G : mm_G} {d : Nat} {I : Nat → Nat → Int32} {J : Nat → Nat → Int64} {F : Nat → Nat → Option Nat} {V : Nat → Nat → Value} {n : Nat} (hM : mo_V V) (hg : V 39 1 = .int (iI n)) (hn : n ≤ 6) : mE G mt_Mo_clear d 0 0 [.ref 39] (wd_S.take 58, I, J, F, V) (fun o h1 => o = .inl none ∧ h1 = (wd_S.take 58, cl_o I n 5, J, F, fu V 39 7 (.int (iI 0)))) := by
  refine mE_intro (by decide) (fun k h q => nomatch q.1) (Nat.le_of_ble_eq_true rfl) ?_
  show mW G mt_Mo_clear d 0 0 0 [(0, .ref 39)] [] (wd_S.take 58, I, J, F, V) _
  refine mi_const dc_Mo_clear_0 ?_
  refine mw_istore_n dc_Mo_clear_1 rfl (by decide) rfl ?_
  exact lp_cl2T (I := I) hM hg hn ⟨rfl, rfl⟩ 6 0 (by omega) (by omega)
theorem lc_Mo_33 : Jvm.Cond.constant rn_Mo 33 50362 ∈ mm_aw := mm_in (List.mem_of_getElem? (i := 630) (by decide +kernel)) (by decide +kernel)
theorem lc_Mo_37 : Jvm.Cond.constant rn_Mo 37 46080 ∈ mm_aw := mm_in (List.mem_of_getElem? (i := 631) (by decide +kernel)) (by decide +kernel)
theorem cl_ok {I : Nat → Nat → Int32} {n : Nat} (hn : n ≤ 6) : ∀ s, s ≤ 5 → (∀ a, a ≠ 40 → a ≠ 41 → cl_o I n s a = I a) ∧ ∀ t, t < s → cl_o I n s 41 t = iI 0 ∧ ∀ p, p < n → cl_o I n s 40 (6 * t + p) = iI ((p : Int) + 1) := fun s => by
  have hi : ∀ (g : Nat → Int32) s m, m ≤ n → (∀ k, (k < 6 * s ∨ 6 * s + m ≤ k) → cl_i g s m k = g k) ∧ ∀ p, p < m → cl_i g s m (6 * s + p) = iI ((p : Int) + 1) := fun g s m => by
    induction m with
    | zero => exact fun _ => ⟨fun _ _ => rfl, fun p hp => absurd hp (Nat.not_lt_zero _)⟩
    | succ m ih =>
      intro hm
      obtain ⟨i1, i2⟩ := ih (by omega)
      refine ⟨fun k hk => ?_, fun p hp => ?_⟩
      · show upd (cl_i g s m) (6 * s + m) (iI ((m : Int) + 1)) k = g k
        rw [pk_un (by omega)]; exact i1 k (by omega)
      · show upd (cl_i g s m) (6 * s + m) (iI ((m : Int) + 1)) (6 * s + p) = _
        by_cases e : p = m
        · subst e; exact pk_us
        · rw [pk_un (by omega)]; exact i2 p (by omega)
  induction s with
  | zero => exact fun _ => ⟨fun _ _ _ => rfl, fun t ht => absurd ht (Nat.not_lt_zero _)⟩
  | succ s ih =>
    intro hs
    obtain ⟨i1, i2⟩ := ih (by omega)
    refine ⟨fun a a0 a1 => ?_, fun t ht => ⟨?_, fun p hp => ?_⟩⟩
    · show va_up (va_up (cl_o I n s) 40 (cl_i (cl_o I n s 40) s n)) 41 (upd (cl_o I n s 41) s (iI 0)) a = I a
      rw [va_up_ne _ _ a1, va_up_ne _ _ a0]; exact i1 a a0 a1
    · show va_up (va_up (cl_o I n s) 40 (cl_i (cl_o I n s 40) s n)) 41 (upd (cl_o I n s 41) s (iI 0)) 41 t = _
      rw [va_up_self]
      by_cases e : t = s
      · subst e; exact pk_us
      · rw [pk_un e]; exact (i2 t (by omega)).1
    · show va_up (va_up (cl_o I n s) 40 (cl_i (cl_o I n s 40) s n)) 41 (upd (cl_o I n s 41) s (iI 0)) 40 (6 * t + p) = _
      rw [va_up_ne _ _ (by decide), va_up_self]
      obtain ⟨j1, j2⟩ := hi (cl_o I n s 40) s n (Nat.le_refl _)
      by_cases e : t = s
      · subst e; exact j2 p hp
      · rw [j1 _ (by omega)]; exact (i2 t (by omega)).2 p hp
def in_M (I : Nat → Nat → Int32) (J : Nat → Nat → Int64) (V : Nat → Nat → Value) : Prop := mo_V V ∧ V 39 1 = .int (iI 4) ∧ V 39 6 = .int (iI 0) ∧ V 39 7 = .int (iI 0) ∧ V 39 8 = .int (iI 0) ∧ (∀ s, s < 5 → I 41 s = iI 0 ∧ ∀ p, p < 4 → I 40 (6 * s + p) = iI ((p : Int) + 1)) ∧ (∀ n, I 45 n = iI 0) ∧ ∀ k, J 48 k = lI 0
theorem ev_moinit {G : mm_G} {d : Nat} {I : Nat → Nat → Int32} {J : Nat → Nat → Int64} {F : Nat → Nat → Option Nat} {V : Nat → Nat → Value} (hV : V 39 6 = .int (iI 0) ∧ V 39 8 = .int (iI 0)) : mE G mt_Mo_init (d + 1) 18 97086 [.ref 39] (wd_S.take 40, I, J, F, V) (fun o h1 => o = .inl none ∧ ∃ I1 J1 V1, h1 = (wd_S.take 58, I1, J1, F, V1) ∧ in_M I1 J1 V1 ∧ (∀ a, a < 39 → I1 a = I a) ∧ (∀ a, a < 39 → J1 a = J a) ∧ ∀ a j, a < 39 → V1 a j = V a j) := by
  refine mE_intro (by decide) (fun k h q => nomatch q.1) (Nat.le_of_ble_eq_true rfl) ?_
  show mW G mt_Mo_init (d + 1) 18 97086 0 [(0, .ref 39)] [] (wd_S.take 40, I, J, F, V) _
  refine mw_aload_n dc_Mo_init_0 rfl 0 rfl ?_
  refine mw_objInit dc_Mo_init_1 jk_Mo_1 (Nat.le_of_ble_eq_true rfl) ?_
  refine mw_aload_n dc_Mo_init_4 rfl 0 rfl ?_
  refine mi_const dc_Mo_init_5 ?_
  refine mi_puti (ci := 5) (k := 1) dc_Mo_init_6 rfl wi_Mo tk_Mo nm_Mo rfl rfl (by decide) fl_Mo_7 rfl (by decide +kernel) (show va_up V 39 (va_up (V 39) 1 (.int (iI 4))) = fu V 39 1 (.int (iI 4)) from rfl) ?_
  refine mw_aload_n dc_Mo_init_9 rfl 0 rfl ?_
  refine mi_bipush dc_Mo_init_10 (by decide) ?_
  refine mq_newi (z := 30) (bc := 17) (bs := 97056) (N := 30) 40 dc_Mo_init_12 rfl (by decide) (by decide) ?_
  refine mi_putr (ty := (.array .int)) (ci := 5) (k := 2) dc_Mo_init_14 rfl wi_Mo tk_Mo nm_Mo rfl rfl (by decide) fl_Mo_13 rfl rfl rfl (by decide +kernel) (fun _ => rfl) (fun _ => rfl) (show va_up (fu V 39 1 (.int (iI 4))) 39 (va_up ((fu V 39 1 (.int (iI 4))) 39) 2 (.ref 40)) = fu (fu V 39 1 (.int (iI 4))) 39 2 (.ref 40) from rfl) ?_
  refine mw_aload_n dc_Mo_init_17 rfl 0 rfl ?_
  refine mi_const dc_Mo_init_18 ?_
  refine mq_newi (z := 5) (bc := 16) (bs := 97051) (N := 5) 41 dc_Mo_init_19 rfl (by decide) (by decide) ?_
  refine mi_putr (ty := (.array .int)) (ci := 5) (k := 3) dc_Mo_init_21 rfl wi_Mo tk_Mo nm_Mo rfl rfl (by decide) fl_Mo_17 rfl rfl rfl (by decide +kernel) (fun _ => rfl) (fun _ => rfl) (show va_up (fu (fu V 39 1 (.int (iI 4))) 39 2 (.ref 40)) 39 (va_up ((fu (fu V 39 1 (.int (iI 4))) 39 2 (.ref 40)) 39) 3 (.ref 41)) = fu (fu (fu V 39 1 (.int (iI 4))) 39 2 (.ref 40)) 39 3 (.ref 41) from rfl) ?_
  refine mw_aload_n dc_Mo_init_24 rfl 0 rfl ?_
  refine mi_bipush dc_Mo_init_25 (by decide) ?_
  refine mq_newi (z := 40) (bc := 15) (bs := 97011) (N := 40) 42 dc_Mo_init_27 rfl (by decide) (by decide) ?_
  refine mi_putr (ty := (.array .int)) (ci := 5) (k := 4) dc_Mo_init_29 rfl wi_Mo tk_Mo nm_Mo rfl rfl (by decide) fl_Mo_20 rfl rfl rfl (by decide +kernel) (fun _ => rfl) (fun _ => rfl) (show va_up (fu (fu (fu V 39 1 (.int (iI 4))) 39 2 (.ref 40)) 39 3 (.ref 41)) 39 (va_up ((fu (fu (fu V 39 1 (.int (iI 4))) 39 2 (.ref 40)) 39 3 (.ref 41)) 39) 4 (.ref 42)) = fu (fu (fu (fu V 39 1 (.int (iI 4))) 39 2 (.ref 40)) 39 3 (.ref 41)) 39 4 (.ref 42) from rfl) ?_
  refine mw_aload_n dc_Mo_init_32 rfl 0 rfl ?_
  refine mi_bipush dc_Mo_init_33 (by decide) ?_
  refine mq_newi (z := 24) (bc := 14) (bs := 96987) (N := 24) 43 dc_Mo_init_35 rfl (by decide) (by decide) ?_
  refine mi_putr (ty := (.array .int)) (ci := 5) (k := 5) dc_Mo_init_37 rfl wi_Mo tk_Mo nm_Mo rfl rfl (by decide) fl_Mo_23 rfl rfl rfl (by decide +kernel) (fun _ => rfl) (fun _ => rfl) (show va_up (fu (fu (fu (fu V 39 1 (.int (iI 4))) 39 2 (.ref 40)) 39 3 (.ref 41)) 39 4 (.ref 42)) 39 (va_up ((fu (fu (fu (fu V 39 1 (.int (iI 4))) 39 2 (.ref 40)) 39 3 (.ref 41)) 39 4 (.ref 42)) 39) 5 (.ref 43)) = fu (fu (fu (fu (fu V 39 1 (.int (iI 4))) 39 2 (.ref 40)) 39 3 (.ref 41)) 39 4 (.ref 42)) 39 5 (.ref 43) from rfl) ?_
  refine mw_aload_n dc_Mo_init_40 rfl 0 rfl ?_
  refine mi_bipush dc_Mo_init_41 (by decide) ?_
  refine mq_newi (z := 8) (bc := 13) (bs := 96979) (N := 8) 44 dc_Mo_init_43 rfl (by decide) (by decide) ?_
  refine mi_putr (ty := (.array .int)) (ci := 5) (k := 9) dc_Mo_init_45 rfl wi_Mo tk_Mo nm_Mo rfl rfl (by decide) fl_Mo_26 rfl rfl rfl (by decide +kernel) (fun _ => rfl) (fun _ => rfl) (show va_up (fu (fu (fu (fu (fu V 39 1 (.int (iI 4))) 39 2 (.ref 40)) 39 3 (.ref 41)) 39 4 (.ref 42)) 39 5 (.ref 43)) 39 (va_up ((fu (fu (fu (fu (fu V 39 1 (.int (iI 4))) 39 2 (.ref 40)) 39 3 (.ref 41)) 39 4 (.ref 42)) 39 5 (.ref 43)) 39) 9 (.ref 44)) = fu (fu (fu (fu (fu (fu V 39 1 (.int (iI 4))) 39 2 (.ref 40)) 39 3 (.ref 41)) 39 4 (.ref 42)) 39 5 (.ref 43)) 39 9 (.ref 44) from rfl) ?_
  refine mw_aload_n dc_Mo_init_48 rfl 0 rfl ?_
  refine mi_bipush dc_Mo_init_49 (by decide) ?_
  refine mq_newz (z := 7) (bc := 12) (bs := 96972) (N := 7) 45 dc_Mo_init_51 rfl (by decide) (by decide) ?_
  refine mi_putr (ty := (.array .boolean)) (ci := 5) (k := 10) dc_Mo_init_53 rfl wi_Mo tk_Mo nm_Mo rfl rfl (by decide) fl_Mo_29 rfl rfl rfl (by decide +kernel) (fun _ => rfl) (fun _ => rfl) (show va_up (fu (fu (fu (fu (fu (fu V 39 1 (.int (iI 4))) 39 2 (.ref 40)) 39 3 (.ref 41)) 39 4 (.ref 42)) 39 5 (.ref 43)) 39 9 (.ref 44)) 39 (va_up ((fu (fu (fu (fu (fu (fu V 39 1 (.int (iI 4))) 39 2 (.ref 40)) 39 3 (.ref 41)) 39 4 (.ref 42)) 39 5 (.ref 43)) 39 9 (.ref 44)) 39) 10 (.ref 45)) = fu (fu (fu (fu (fu (fu (fu V 39 1 (.int (iI 4))) 39 2 (.ref 40)) 39 3 (.ref 41)) 39 4 (.ref 42)) 39 5 (.ref 43)) 39 9 (.ref 44)) 39 10 (.ref 45) from rfl) ?_
  refine mw_aload_n dc_Mo_init_56 rfl 0 rfl ?_
  refine mw_ldc dc_Mo_init_57 lc_Mo_33 ?_
  refine mq_newi (z := 50362) (bc := 11) (bs := 46610) (N := 50362) 46 dc_Mo_init_59 rfl (by decide) (by decide) ?_
  refine mi_putr (ty := (.array .int)) (ci := 5) (k := 13) dc_Mo_init_61 rfl wi_Mo tk_Mo nm_Mo rfl rfl (by decide) fl_Mo_34 rfl rfl rfl (by decide +kernel) (fun _ => rfl) (fun _ => rfl) (show va_up (fu (fu (fu (fu (fu (fu (fu V 39 1 (.int (iI 4))) 39 2 (.ref 40)) 39 3 (.ref 41)) 39 4 (.ref 42)) 39 5 (.ref 43)) 39 9 (.ref 44)) 39 10 (.ref 45)) 39 (va_up ((fu (fu (fu (fu (fu (fu (fu V 39 1 (.int (iI 4))) 39 2 (.ref 40)) 39 3 (.ref 41)) 39 4 (.ref 42)) 39 5 (.ref 43)) 39 9 (.ref 44)) 39 10 (.ref 45)) 39) 13 (.ref 46)) = fu (fu (fu (fu (fu (fu (fu (fu V 39 1 (.int (iI 4))) 39 2 (.ref 40)) 39 3 (.ref 41)) 39 4 (.ref 42)) 39 5 (.ref 43)) 39 9 (.ref 44)) 39 10 (.ref 45)) 39 13 (.ref 46) from rfl) ?_
  refine mw_aload_n dc_Mo_init_64 rfl 0 rfl ?_
  refine mw_ldc dc_Mo_init_65 lc_Mo_37 ?_
  refine mq_newi (z := 46080) (bc := 10) (bs := 530) (N := 46080) 47 dc_Mo_init_67 rfl (by decide) (by decide) ?_
  refine mi_putr (ty := (.array .int)) (ci := 5) (k := 14) dc_Mo_init_69 rfl wi_Mo tk_Mo nm_Mo rfl rfl (by decide) fl_Mo_38 rfl rfl rfl (by decide +kernel) (fun _ => rfl) (fun _ => rfl) (show va_up (fu (fu (fu (fu (fu (fu (fu (fu V 39 1 (.int (iI 4))) 39 2 (.ref 40)) 39 3 (.ref 41)) 39 4 (.ref 42)) 39 5 (.ref 43)) 39 9 (.ref 44)) 39 10 (.ref 45)) 39 13 (.ref 46)) 39 (va_up ((fu (fu (fu (fu (fu (fu (fu (fu V 39 1 (.int (iI 4))) 39 2 (.ref 40)) 39 3 (.ref 41)) 39 4 (.ref 42)) 39 5 (.ref 43)) 39 9 (.ref 44)) 39 10 (.ref 45)) 39 13 (.ref 46)) 39) 14 (.ref 47)) = fu (fu (fu (fu (fu (fu (fu (fu (fu V 39 1 (.int (iI 4))) 39 2 (.ref 40)) 39 3 (.ref 41)) 39 4 (.ref 42)) 39 5 (.ref 43)) 39 9 (.ref 44)) 39 10 (.ref 45)) 39 13 (.ref 46)) 39 14 (.ref 47) from rfl) ?_
  refine mw_aload_n dc_Mo_init_72 rfl 0 rfl ?_
  refine mi_sipush dc_Mo_init_73 (by decide) ?_
  refine mq_newl (z := 442) (bc := 9) (bs := 88) (N := 442) 48 dc_Mo_init_76 rfl (by decide) (by decide) ?_
  refine mi_putr (ty := (.array .long)) (ci := 5) (k := 15) dc_Mo_init_78 rfl wi_Mo tk_Mo nm_Mo rfl rfl (by decide) fl_Mo_41 rfl rfl rfl (by decide +kernel) (fun _ => rfl) (fun _ => rfl) (show va_up (fu (fu (fu (fu (fu (fu (fu (fu (fu V 39 1 (.int (iI 4))) 39 2 (.ref 40)) 39 3 (.ref 41)) 39 4 (.ref 42)) 39 5 (.ref 43)) 39 9 (.ref 44)) 39 10 (.ref 45)) 39 13 (.ref 46)) 39 14 (.ref 47)) 39 (va_up ((fu (fu (fu (fu (fu (fu (fu (fu (fu V 39 1 (.int (iI 4))) 39 2 (.ref 40)) 39 3 (.ref 41)) 39 4 (.ref 42)) 39 5 (.ref 43)) 39 9 (.ref 44)) 39 10 (.ref 45)) 39 13 (.ref 46)) 39 14 (.ref 47)) 39) 15 (.ref 48)) = fu (fu (fu (fu (fu (fu (fu (fu (fu (fu V 39 1 (.int (iI 4))) 39 2 (.ref 40)) 39 3 (.ref 41)) 39 4 (.ref 42)) 39 5 (.ref 43)) 39 9 (.ref 44)) 39 10 (.ref 45)) 39 13 (.ref 46)) 39 14 (.ref 47)) 39 15 (.ref 48) from rfl) ?_
  refine mw_aload_n dc_Mo_init_81 rfl 0 rfl ?_
  refine mi_bipush dc_Mo_init_82 (by decide) ?_
  refine mq_newi (z := 6) (bc := 8) (bs := 82) (N := 6) 49 dc_Mo_init_84 rfl (by decide) (by decide) ?_
  refine mi_putr (ty := (.array .int)) (ci := 5) (k := 16) dc_Mo_init_86 rfl wi_Mo tk_Mo nm_Mo rfl rfl (by decide) fl_Mo_45 rfl rfl rfl (by decide +kernel) (fun _ => rfl) (fun _ => rfl) (show va_up (fu (fu (fu (fu (fu (fu (fu (fu (fu (fu V 39 1 (.int (iI 4))) 39 2 (.ref 40)) 39 3 (.ref 41)) 39 4 (.ref 42)) 39 5 (.ref 43)) 39 9 (.ref 44)) 39 10 (.ref 45)) 39 13 (.ref 46)) 39 14 (.ref 47)) 39 15 (.ref 48)) 39 (va_up ((fu (fu (fu (fu (fu (fu (fu (fu (fu (fu V 39 1 (.int (iI 4))) 39 2 (.ref 40)) 39 3 (.ref 41)) 39 4 (.ref 42)) 39 5 (.ref 43)) 39 9 (.ref 44)) 39 10 (.ref 45)) 39 13 (.ref 46)) 39 14 (.ref 47)) 39 15 (.ref 48)) 39) 16 (.ref 49)) = fu (fu (fu (fu (fu (fu (fu (fu (fu (fu (fu V 39 1 (.int (iI 4))) 39 2 (.ref 40)) 39 3 (.ref 41)) 39 4 (.ref 42)) 39 5 (.ref 43)) 39 9 (.ref 44)) 39 10 (.ref 45)) 39 13 (.ref 46)) 39 14 (.ref 47)) 39 15 (.ref 48)) 39 16 (.ref 49) from rfl) ?_
  refine mw_aload_n dc_Mo_init_89 rfl 0 rfl ?_
  refine mi_bipush dc_Mo_init_90 (by decide) ?_
  refine mq_newi (z := 6) (bc := 7) (bs := 76) (N := 6) 50 dc_Mo_init_92 rfl (by decide) (by decide) ?_
  refine mi_putr (ty := (.array .int)) (ci := 5) (k := 17) dc_Mo_init_94 rfl wi_Mo tk_Mo nm_Mo rfl rfl (by decide) fl_Mo_48 rfl rfl rfl (by decide +kernel) (fun _ => rfl) (fun _ => rfl) (show va_up (fu (fu (fu (fu (fu (fu (fu (fu (fu (fu (fu V 39 1 (.int (iI 4))) 39 2 (.ref 40)) 39 3 (.ref 41)) 39 4 (.ref 42)) 39 5 (.ref 43)) 39 9 (.ref 44)) 39 10 (.ref 45)) 39 13 (.ref 46)) 39 14 (.ref 47)) 39 15 (.ref 48)) 39 16 (.ref 49)) 39 (va_up ((fu (fu (fu (fu (fu (fu (fu (fu (fu (fu (fu V 39 1 (.int (iI 4))) 39 2 (.ref 40)) 39 3 (.ref 41)) 39 4 (.ref 42)) 39 5 (.ref 43)) 39 9 (.ref 44)) 39 10 (.ref 45)) 39 13 (.ref 46)) 39 14 (.ref 47)) 39 15 (.ref 48)) 39 16 (.ref 49)) 39) 17 (.ref 50)) = fu (fu (fu (fu (fu (fu (fu (fu (fu (fu (fu (fu V 39 1 (.int (iI 4))) 39 2 (.ref 40)) 39 3 (.ref 41)) 39 4 (.ref 42)) 39 5 (.ref 43)) 39 9 (.ref 44)) 39 10 (.ref 45)) 39 13 (.ref 46)) 39 14 (.ref 47)) 39 15 (.ref 48)) 39 16 (.ref 49)) 39 17 (.ref 50) from rfl) ?_
  refine mw_aload_n dc_Mo_init_97 rfl 0 rfl ?_
  refine mi_bipush dc_Mo_init_98 (by decide) ?_
  refine mq_newi (z := 6) (bc := 6) (bs := 70) (N := 6) 51 dc_Mo_init_100 rfl (by decide) (by decide) ?_
  refine mi_putr (ty := (.array .int)) (ci := 5) (k := 18) dc_Mo_init_102 rfl wi_Mo tk_Mo nm_Mo rfl rfl (by decide) fl_Mo_51 rfl rfl rfl (by decide +kernel) (fun _ => rfl) (fun _ => rfl) (show va_up (fu (fu (fu (fu (fu (fu (fu (fu (fu (fu (fu (fu V 39 1 (.int (iI 4))) 39 2 (.ref 40)) 39 3 (.ref 41)) 39 4 (.ref 42)) 39 5 (.ref 43)) 39 9 (.ref 44)) 39 10 (.ref 45)) 39 13 (.ref 46)) 39 14 (.ref 47)) 39 15 (.ref 48)) 39 16 (.ref 49)) 39 17 (.ref 50)) 39 (va_up ((fu (fu (fu (fu (fu (fu (fu (fu (fu (fu (fu (fu V 39 1 (.int (iI 4))) 39 2 (.ref 40)) 39 3 (.ref 41)) 39 4 (.ref 42)) 39 5 (.ref 43)) 39 9 (.ref 44)) 39 10 (.ref 45)) 39 13 (.ref 46)) 39 14 (.ref 47)) 39 15 (.ref 48)) 39 16 (.ref 49)) 39 17 (.ref 50)) 39) 18 (.ref 51)) = fu (fu (fu (fu (fu (fu (fu (fu (fu (fu (fu (fu (fu V 39 1 (.int (iI 4))) 39 2 (.ref 40)) 39 3 (.ref 41)) 39 4 (.ref 42)) 39 5 (.ref 43)) 39 9 (.ref 44)) 39 10 (.ref 45)) 39 13 (.ref 46)) 39 14 (.ref 47)) 39 15 (.ref 48)) 39 16 (.ref 49)) 39 17 (.ref 50)) 39 18 (.ref 51) from rfl) ?_
  refine mw_aload_n dc_Mo_init_105 rfl 0 rfl ?_
  refine mi_bipush dc_Mo_init_106 (by decide) ?_
  refine mq_newi (z := 14) (bc := 5) (bs := 56) (N := 14) 52 dc_Mo_init_108 rfl (by decide) (by decide) ?_
  refine mi_putr (ty := (.array .int)) (ci := 5) (k := 19) dc_Mo_init_110 rfl wi_Mo tk_Mo nm_Mo rfl rfl (by decide) fl_Mo_54 rfl rfl rfl (by decide +kernel) (fun _ => rfl) (fun _ => rfl) (show va_up (fu (fu (fu (fu (fu (fu (fu (fu (fu (fu (fu (fu (fu V 39 1 (.int (iI 4))) 39 2 (.ref 40)) 39 3 (.ref 41)) 39 4 (.ref 42)) 39 5 (.ref 43)) 39 9 (.ref 44)) 39 10 (.ref 45)) 39 13 (.ref 46)) 39 14 (.ref 47)) 39 15 (.ref 48)) 39 16 (.ref 49)) 39 17 (.ref 50)) 39 18 (.ref 51)) 39 (va_up ((fu (fu (fu (fu (fu (fu (fu (fu (fu (fu (fu (fu (fu V 39 1 (.int (iI 4))) 39 2 (.ref 40)) 39 3 (.ref 41)) 39 4 (.ref 42)) 39 5 (.ref 43)) 39 9 (.ref 44)) 39 10 (.ref 45)) 39 13 (.ref 46)) 39 14 (.ref 47)) 39 15 (.ref 48)) 39 16 (.ref 49)) 39 17 (.ref 50)) 39 18 (.ref 51)) 39) 19 (.ref 52)) = fu (fu (fu (fu (fu (fu (fu (fu (fu (fu (fu (fu (fu (fu V 39 1 (.int (iI 4))) 39 2 (.ref 40)) 39 3 (.ref 41)) 39 4 (.ref 42)) 39 5 (.ref 43)) 39 9 (.ref 44)) 39 10 (.ref 45)) 39 13 (.ref 46)) 39 14 (.ref 47)) 39 15 (.ref 48)) 39 16 (.ref 49)) 39 17 (.ref 50)) 39 18 (.ref 51)) 39 19 (.ref 52) from rfl) ?_
  refine mw_aload_n dc_Mo_init_113 rfl 0 rfl ?_
  refine mi_bipush dc_Mo_init_114 (by decide) ?_
  refine mq_newi (z := 14) (bc := 4) (bs := 42) (N := 14) 53 dc_Mo_init_116 rfl (by decide) (by decide) ?_
  refine mi_putr (ty := (.array .int)) (ci := 5) (k := 20) dc_Mo_init_118 rfl wi_Mo tk_Mo nm_Mo rfl rfl (by decide) fl_Mo_57 rfl rfl rfl (by decide +kernel) (fun _ => rfl) (fun _ => rfl) (show va_up (fu (fu (fu (fu (fu (fu (fu (fu (fu (fu (fu (fu (fu (fu V 39 1 (.int (iI 4))) 39 2 (.ref 40)) 39 3 (.ref 41)) 39 4 (.ref 42)) 39 5 (.ref 43)) 39 9 (.ref 44)) 39 10 (.ref 45)) 39 13 (.ref 46)) 39 14 (.ref 47)) 39 15 (.ref 48)) 39 16 (.ref 49)) 39 17 (.ref 50)) 39 18 (.ref 51)) 39 19 (.ref 52)) 39 (va_up ((fu (fu (fu (fu (fu (fu (fu (fu (fu (fu (fu (fu (fu (fu V 39 1 (.int (iI 4))) 39 2 (.ref 40)) 39 3 (.ref 41)) 39 4 (.ref 42)) 39 5 (.ref 43)) 39 9 (.ref 44)) 39 10 (.ref 45)) 39 13 (.ref 46)) 39 14 (.ref 47)) 39 15 (.ref 48)) 39 16 (.ref 49)) 39 17 (.ref 50)) 39 18 (.ref 51)) 39 19 (.ref 52)) 39) 20 (.ref 53)) = fu (fu (fu (fu (fu (fu (fu (fu (fu (fu (fu (fu (fu (fu (fu V 39 1 (.int (iI 4))) 39 2 (.ref 40)) 39 3 (.ref 41)) 39 4 (.ref 42)) 39 5 (.ref 43)) 39 9 (.ref 44)) 39 10 (.ref 45)) 39 13 (.ref 46)) 39 14 (.ref 47)) 39 15 (.ref 48)) 39 16 (.ref 49)) 39 17 (.ref 50)) 39 18 (.ref 51)) 39 19 (.ref 52)) 39 20 (.ref 53) from rfl) ?_
  refine mw_aload_n dc_Mo_init_121 rfl 0 rfl ?_
  refine mi_bipush dc_Mo_init_122 (by decide) ?_
  refine mq_newi (z := 7) (bc := 3) (bs := 35) (N := 7) 54 dc_Mo_init_124 rfl (by decide) (by decide) ?_
  refine mi_putr (ty := (.array .int)) (ci := 5) (k := 21) dc_Mo_init_126 rfl wi_Mo tk_Mo nm_Mo rfl rfl (by decide) fl_Mo_60 rfl rfl rfl (by decide +kernel) (fun _ => rfl) (fun _ => rfl) (show va_up (fu (fu (fu (fu (fu (fu (fu (fu (fu (fu (fu (fu (fu (fu (fu V 39 1 (.int (iI 4))) 39 2 (.ref 40)) 39 3 (.ref 41)) 39 4 (.ref 42)) 39 5 (.ref 43)) 39 9 (.ref 44)) 39 10 (.ref 45)) 39 13 (.ref 46)) 39 14 (.ref 47)) 39 15 (.ref 48)) 39 16 (.ref 49)) 39 17 (.ref 50)) 39 18 (.ref 51)) 39 19 (.ref 52)) 39 20 (.ref 53)) 39 (va_up ((fu (fu (fu (fu (fu (fu (fu (fu (fu (fu (fu (fu (fu (fu (fu V 39 1 (.int (iI 4))) 39 2 (.ref 40)) 39 3 (.ref 41)) 39 4 (.ref 42)) 39 5 (.ref 43)) 39 9 (.ref 44)) 39 10 (.ref 45)) 39 13 (.ref 46)) 39 14 (.ref 47)) 39 15 (.ref 48)) 39 16 (.ref 49)) 39 17 (.ref 50)) 39 18 (.ref 51)) 39 19 (.ref 52)) 39 20 (.ref 53)) 39) 21 (.ref 54)) = fu (fu (fu (fu (fu (fu (fu (fu (fu (fu (fu (fu (fu (fu (fu (fu V 39 1 (.int (iI 4))) 39 2 (.ref 40)) 39 3 (.ref 41)) 39 4 (.ref 42)) 39 5 (.ref 43)) 39 9 (.ref 44)) 39 10 (.ref 45)) 39 13 (.ref 46)) 39 14 (.ref 47)) 39 15 (.ref 48)) 39 16 (.ref 49)) 39 17 (.ref 50)) 39 18 (.ref 51)) 39 19 (.ref 52)) 39 20 (.ref 53)) 39 21 (.ref 54) from rfl) ?_
  refine mw_aload_n dc_Mo_init_129 rfl 0 rfl ?_
  refine mi_bipush dc_Mo_init_130 (by decide) ?_
  refine mq_newz (z := 7) (bc := 2) (bs := 28) (N := 7) 55 dc_Mo_init_132 rfl (by decide) (by decide) ?_
  refine mi_putr (ty := (.array .boolean)) (ci := 5) (k := 22) dc_Mo_init_134 rfl wi_Mo tk_Mo nm_Mo rfl rfl (by decide) fl_Mo_63 rfl rfl rfl (by decide +kernel) (fun _ => rfl) (fun _ => rfl) (show va_up (fu (fu (fu (fu (fu (fu (fu (fu (fu (fu (fu (fu (fu (fu (fu (fu V 39 1 (.int (iI 4))) 39 2 (.ref 40)) 39 3 (.ref 41)) 39 4 (.ref 42)) 39 5 (.ref 43)) 39 9 (.ref 44)) 39 10 (.ref 45)) 39 13 (.ref 46)) 39 14 (.ref 47)) 39 15 (.ref 48)) 39 16 (.ref 49)) 39 17 (.ref 50)) 39 18 (.ref 51)) 39 19 (.ref 52)) 39 20 (.ref 53)) 39 21 (.ref 54)) 39 (va_up ((fu (fu (fu (fu (fu (fu (fu (fu (fu (fu (fu (fu (fu (fu (fu (fu V 39 1 (.int (iI 4))) 39 2 (.ref 40)) 39 3 (.ref 41)) 39 4 (.ref 42)) 39 5 (.ref 43)) 39 9 (.ref 44)) 39 10 (.ref 45)) 39 13 (.ref 46)) 39 14 (.ref 47)) 39 15 (.ref 48)) 39 16 (.ref 49)) 39 17 (.ref 50)) 39 18 (.ref 51)) 39 19 (.ref 52)) 39 20 (.ref 53)) 39 21 (.ref 54)) 39) 22 (.ref 55)) = fu (fu (fu (fu (fu (fu (fu (fu (fu (fu (fu (fu (fu (fu (fu (fu (fu V 39 1 (.int (iI 4))) 39 2 (.ref 40)) 39 3 (.ref 41)) 39 4 (.ref 42)) 39 5 (.ref 43)) 39 9 (.ref 44)) 39 10 (.ref 45)) 39 13 (.ref 46)) 39 14 (.ref 47)) 39 15 (.ref 48)) 39 16 (.ref 49)) 39 17 (.ref 50)) 39 18 (.ref 51)) 39 19 (.ref 52)) 39 20 (.ref 53)) 39 21 (.ref 54)) 39 22 (.ref 55) from rfl) ?_
  refine mw_aload_n dc_Mo_init_137 rfl 0 rfl ?_
  refine mi_bipush dc_Mo_init_138 (by decide) ?_
  refine mq_newz (z := 14) (bc := 1) (bs := 14) (N := 14) 56 dc_Mo_init_140 rfl (by decide) (by decide) ?_
  refine mi_putr (ty := (.array .boolean)) (ci := 5) (k := 23) dc_Mo_init_142 rfl wi_Mo tk_Mo nm_Mo rfl rfl (by decide) fl_Mo_66 rfl rfl rfl (by decide +kernel) (fun _ => rfl) (fun _ => rfl) (show va_up (fu (fu (fu (fu (fu (fu (fu (fu (fu (fu (fu (fu (fu (fu (fu (fu (fu V 39 1 (.int (iI 4))) 39 2 (.ref 40)) 39 3 (.ref 41)) 39 4 (.ref 42)) 39 5 (.ref 43)) 39 9 (.ref 44)) 39 10 (.ref 45)) 39 13 (.ref 46)) 39 14 (.ref 47)) 39 15 (.ref 48)) 39 16 (.ref 49)) 39 17 (.ref 50)) 39 18 (.ref 51)) 39 19 (.ref 52)) 39 20 (.ref 53)) 39 21 (.ref 54)) 39 22 (.ref 55)) 39 (va_up ((fu (fu (fu (fu (fu (fu (fu (fu (fu (fu (fu (fu (fu (fu (fu (fu (fu V 39 1 (.int (iI 4))) 39 2 (.ref 40)) 39 3 (.ref 41)) 39 4 (.ref 42)) 39 5 (.ref 43)) 39 9 (.ref 44)) 39 10 (.ref 45)) 39 13 (.ref 46)) 39 14 (.ref 47)) 39 15 (.ref 48)) 39 16 (.ref 49)) 39 17 (.ref 50)) 39 18 (.ref 51)) 39 19 (.ref 52)) 39 20 (.ref 53)) 39 21 (.ref 54)) 39 22 (.ref 55)) 39) 23 (.ref 56)) = fu (fu (fu (fu (fu (fu (fu (fu (fu (fu (fu (fu (fu (fu (fu (fu (fu (fu V 39 1 (.int (iI 4))) 39 2 (.ref 40)) 39 3 (.ref 41)) 39 4 (.ref 42)) 39 5 (.ref 43)) 39 9 (.ref 44)) 39 10 (.ref 45)) 39 13 (.ref 46)) 39 14 (.ref 47)) 39 15 (.ref 48)) 39 16 (.ref 49)) 39 17 (.ref 50)) 39 18 (.ref 51)) 39 19 (.ref 52)) 39 20 (.ref 53)) 39 21 (.ref 54)) 39 22 (.ref 55)) 39 23 (.ref 56) from rfl) ?_
  refine mw_aload_n dc_Mo_init_145 rfl 0 rfl ?_
  refine mi_bipush dc_Mo_init_146 (by decide) ?_
  refine mq_newi (z := 14) (bc := 0) (bs := 0) (N := 14) 57 dc_Mo_init_148 rfl (by decide) (by decide) ?_
  refine mi_putr (ty := (.array .int)) (ci := 5) (k := 24) dc_Mo_init_150 rfl wi_Mo tk_Mo nm_Mo rfl rfl (by decide) fl_Mo_69 rfl rfl rfl (by decide +kernel) (fun _ => rfl) (fun _ => rfl) (show va_up (fu (fu (fu (fu (fu (fu (fu (fu (fu (fu (fu (fu (fu (fu (fu (fu (fu (fu V 39 1 (.int (iI 4))) 39 2 (.ref 40)) 39 3 (.ref 41)) 39 4 (.ref 42)) 39 5 (.ref 43)) 39 9 (.ref 44)) 39 10 (.ref 45)) 39 13 (.ref 46)) 39 14 (.ref 47)) 39 15 (.ref 48)) 39 16 (.ref 49)) 39 17 (.ref 50)) 39 18 (.ref 51)) 39 19 (.ref 52)) 39 20 (.ref 53)) 39 21 (.ref 54)) 39 22 (.ref 55)) 39 23 (.ref 56)) 39 (va_up ((fu (fu (fu (fu (fu (fu (fu (fu (fu (fu (fu (fu (fu (fu (fu (fu (fu (fu V 39 1 (.int (iI 4))) 39 2 (.ref 40)) 39 3 (.ref 41)) 39 4 (.ref 42)) 39 5 (.ref 43)) 39 9 (.ref 44)) 39 10 (.ref 45)) 39 13 (.ref 46)) 39 14 (.ref 47)) 39 15 (.ref 48)) 39 16 (.ref 49)) 39 17 (.ref 50)) 39 18 (.ref 51)) 39 19 (.ref 52)) 39 20 (.ref 53)) 39 21 (.ref 54)) 39 22 (.ref 55)) 39 23 (.ref 56)) 39) 24 (.ref 57)) = fu (fu (fu (fu (fu (fu (fu (fu (fu (fu (fu (fu (fu (fu (fu (fu (fu (fu (fu V 39 1 (.int (iI 4))) 39 2 (.ref 40)) 39 3 (.ref 41)) 39 4 (.ref 42)) 39 5 (.ref 43)) 39 9 (.ref 44)) 39 10 (.ref 45)) 39 13 (.ref 46)) 39 14 (.ref 47)) 39 15 (.ref 48)) 39 16 (.ref 49)) 39 17 (.ref 50)) 39 18 (.ref 51)) 39 19 (.ref 52)) 39 20 (.ref 53)) 39 21 (.ref 54)) 39 22 (.ref 55)) 39 23 (.ref 56)) 39 24 (.ref 57) from rfl) ?_
  refine mw_aload_n dc_Mo_init_153 rfl 0 rfl ?_
  have hM : mo_V (fu (fu (fu (fu (fu (fu (fu (fu (fu (fu (fu (fu (fu (fu (fu (fu (fu (fu (fu V 39 1 (.int (iI 4))) 39 2 (.ref 40)) 39 3 (.ref 41)) 39 4 (.ref 42)) 39 5 (.ref 43)) 39 9 (.ref 44)) 39 10 (.ref 45)) 39 13 (.ref 46)) 39 14 (.ref 47)) 39 15 (.ref 48)) 39 16 (.ref 49)) 39 17 (.ref 50)) 39 18 (.ref 51)) 39 19 (.ref 52)) 39 20 (.ref 53)) 39 21 (.ref 54)) 39 22 (.ref 55)) 39 23 (.ref 56)) 39 24 (.ref 57)) := ⟨rfl, rfl, rfl, rfl, rfl, rfl, rfl, rfl, rfl, rfl, rfl, rfl, rfl, rfl, rfl, rfl, rfl, rfl⟩
  have hg : (fu (fu (fu (fu (fu (fu (fu (fu (fu (fu (fu (fu (fu (fu (fu (fu (fu (fu (fu V 39 1 (.int (iI 4))) 39 2 (.ref 40)) 39 3 (.ref 41)) 39 4 (.ref 42)) 39 5 (.ref 43)) 39 9 (.ref 44)) 39 10 (.ref 45)) 39 13 (.ref 46)) 39 14 (.ref 47)) 39 15 (.ref 48)) 39 16 (.ref 49)) 39 17 (.ref 50)) 39 18 (.ref 51)) 39 19 (.ref 52)) 39 20 (.ref 53)) 39 21 (.ref 54)) 39 22 (.ref 55)) 39 23 (.ref 56)) 39 24 (.ref 57)) 39 1 = .int (iI ((4 : Nat) : Int)) := rfl
  have h6 : (fu (fu (fu (fu (fu (fu (fu (fu (fu (fu (fu (fu (fu (fu (fu (fu (fu (fu (fu V 39 1 (.int (iI 4))) 39 2 (.ref 40)) 39 3 (.ref 41)) 39 4 (.ref 42)) 39 5 (.ref 43)) 39 9 (.ref 44)) 39 10 (.ref 45)) 39 13 (.ref 46)) 39 14 (.ref 47)) 39 15 (.ref 48)) 39 16 (.ref 49)) 39 17 (.ref 50)) 39 18 (.ref 51)) 39 19 (.ref 52)) 39 20 (.ref 53)) 39 21 (.ref 54)) 39 22 (.ref 55)) 39 23 (.ref 56)) 39 24 (.ref 57)) 39 6 = .int (iI 0) := hV.1
  have h8 : (fu (fu (fu (fu (fu (fu (fu (fu (fu (fu (fu (fu (fu (fu (fu (fu (fu (fu (fu V 39 1 (.int (iI 4))) 39 2 (.ref 40)) 39 3 (.ref 41)) 39 4 (.ref 42)) 39 5 (.ref 43)) 39 9 (.ref 44)) 39 10 (.ref 45)) 39 13 (.ref 46)) 39 14 (.ref 47)) 39 15 (.ref 48)) 39 16 (.ref 49)) 39 17 (.ref 50)) 39 18 (.ref 51)) 39 19 (.ref 52)) 39 20 (.ref 53)) 39 21 (.ref 54)) 39 22 (.ref 55)) 39 23 (.ref 56)) 39 24 (.ref 57)) 39 8 = .int (iI 0) := hV.2
  have hI : ∀ a, a < 39 → (va_up (va_up (va_up (va_up (va_up (va_up (va_up (va_up (va_up (va_up (va_up (va_up (va_up (va_up (va_up (va_up (va_up (I) 40 (fun _ => 0)) 41 (fun _ => 0)) 42 (fun _ => 0)) 43 (fun _ => 0)) 44 (fun _ => 0)) 45 (fun _ => 0)) 46 (fun _ => 0)) 47 (fun _ => 0)) 49 (fun _ => 0)) 50 (fun _ => 0)) 51 (fun _ => 0)) 52 (fun _ => 0)) 53 (fun _ => 0)) 54 (fun _ => 0)) 55 (fun _ => 0)) 56 (fun _ => 0)) 57 (fun _ => 0)) a = I a := fun a ha => by rw [va_up_ne _ _ (by omega), va_up_ne _ _ (by omega), va_up_ne _ _ (by omega), va_up_ne _ _ (by omega), va_up_ne _ _ (by omega), va_up_ne _ _ (by omega), va_up_ne _ _ (by omega), va_up_ne _ _ (by omega), va_up_ne _ _ (by omega), va_up_ne _ _ (by omega), va_up_ne _ _ (by omega), va_up_ne _ _ (by omega), va_up_ne _ _ (by omega), va_up_ne _ _ (by omega), va_up_ne _ _ (by omega), va_up_ne _ _ (by omega), va_up_ne _ _ (by omega)]
  have hJ : ∀ a, a < 39 → (va_up (J) 48 (fun _ => 0)) a = J a := fun a ha => va_up_ne _ _ (by omega)
  have h45 : (va_up (va_up (va_up (va_up (va_up (va_up (va_up (va_up (va_up (va_up (va_up (va_up (va_up (va_up (va_up (va_up (va_up (I) 40 (fun _ => 0)) 41 (fun _ => 0)) 42 (fun _ => 0)) 43 (fun _ => 0)) 44 (fun _ => 0)) 45 (fun _ => 0)) 46 (fun _ => 0)) 47 (fun _ => 0)) 49 (fun _ => 0)) 50 (fun _ => 0)) 51 (fun _ => 0)) 52 (fun _ => 0)) 53 (fun _ => 0)) 54 (fun _ => 0)) 55 (fun _ => 0)) 56 (fun _ => 0)) 57 (fun _ => 0)) 45 = fun _ => 0 := rfl
  have hJ8 : (va_up (J) 48 (fun _ => 0)) 48 = fun _ => 0 := rfl
  have hVo : ∀ a j, a ≠ 39 → (fu (fu (fu (fu (fu (fu (fu (fu (fu (fu (fu (fu (fu (fu (fu (fu (fu (fu (fu V 39 1 (.int (iI 4))) 39 2 (.ref 40)) 39 3 (.ref 41)) 39 4 (.ref 42)) 39 5 (.ref 43)) 39 9 (.ref 44)) 39 10 (.ref 45)) 39 13 (.ref 46)) 39 14 (.ref 47)) 39 15 (.ref 48)) 39 16 (.ref 49)) 39 17 (.ref 50)) 39 18 (.ref 51)) 39 19 (.ref 52)) 39 20 (.ref 53)) 39 21 (.ref 54)) 39 22 (.ref 55)) 39 23 (.ref 56)) 39 24 (.ref 57)) a j = V a j := fun a j ha => by rw [fu_n1 _ _ ha, fu_n1 _ _ ha, fu_n1 _ _ ha, fu_n1 _ _ ha, fu_n1 _ _ ha, fu_n1 _ _ ha, fu_n1 _ _ ha, fu_n1 _ _ ha, fu_n1 _ _ ha, fu_n1 _ _ ha, fu_n1 _ _ ha, fu_n1 _ _ ha, fu_n1 _ _ ha, fu_n1 _ _ ha, fu_n1 _ _ ha, fu_n1 _ _ ha, fu_n1 _ _ ha, fu_n1 _ _ ha, fu_n1 _ _ ha]
  revert hM hg h6 h8 hI hJ h45 hJ8 hVo
  generalize fu (fu (fu (fu (fu (fu (fu (fu (fu (fu (fu (fu (fu (fu (fu (fu (fu (fu (fu V 39 1 (.int (iI 4))) 39 2 (.ref 40)) 39 3 (.ref 41)) 39 4 (.ref 42)) 39 5 (.ref 43)) 39 9 (.ref 44)) 39 10 (.ref 45)) 39 13 (.ref 46)) 39 14 (.ref 47)) 39 15 (.ref 48)) 39 16 (.ref 49)) 39 17 (.ref 50)) 39 18 (.ref 51)) 39 19 (.ref 52)) 39 20 (.ref 53)) 39 21 (.ref 54)) 39 22 (.ref 55)) 39 23 (.ref 56)) 39 24 (.ref 57) = V1
  generalize va_up (va_up (va_up (va_up (va_up (va_up (va_up (va_up (va_up (va_up (va_up (va_up (va_up (va_up (va_up (va_up (va_up (I) 40 (fun _ => 0)) 41 (fun _ => 0)) 42 (fun _ => 0)) 43 (fun _ => 0)) 44 (fun _ => 0)) 45 (fun _ => 0)) 46 (fun _ => 0)) 47 (fun _ => 0)) 49 (fun _ => 0)) 50 (fun _ => 0)) 51 (fun _ => 0)) 52 (fun _ => 0)) 53 (fun _ => 0)) 54 (fun _ => 0)) 55 (fun _ => 0)) 56 (fun _ => 0)) 57 (fun _ => 0) = I1
  generalize va_up (J) 48 (fun _ => 0) = J1
  intro hM hg h6 h8 hI hJ h45 hJ8 hVo
  refine mz_V0 (M2 := mt_Mo_clear) dc_Mo_init_154 ml_Mo_72 rfl rfl ny_Mo_clear (by decide) (Nat.le_of_ble_eq_true rfl) (ev_clearT hM hg (by decide)) (fun v h1 hY => ?_)
  obtain ⟨hv, rfl⟩ := hY
  cases hv
  obtain ⟨k1, k2⟩ := cl_ok (I := I1) (n := 4) (by decide) 5 (Nat.le_refl _)
  refine mw_vret dc_Mo_init_157 rfl ⟨rfl, _, J1, _, rfl, ⟨mo_fu _ hM (by omega), (fu_n2 _ _ (by decide)).trans hg, (fu_n2 _ _ (by decide)).trans h6, fu_at _ 39 7 _, (fu_n2 _ _ (by decide)).trans h8, fun s hs => k2 s hs, fun n => by rw [k1 45 (by decide) (by decide), h45]; rfl, fun k => by rw [hJ8]; rfl⟩, fun a ha => (k1 a (by omega) (by omega)).trans (hI a ha), hJ, fun a j ha => (fu_n1 _ _ (by omega)).trans (hVo a j (by omega))⟩
