/-! a boolean field set; the reference's clear, genes, copy -/
theorem mi_putz {G : mm_G} {M : mm_M} {d bc bs pc : Nat} {ls : List (Nat × Value)} {st : List Value} {sh : mm_Sh} {I : Nat → Nat → Int32} {J : Nat → Nat → Int64} {F : Nat → Nat → Option Nat} {V : Nat → Nat → Value} {X : mm_X} {a idx ci N k : Nat} {C : String} {T : u_T} {x : Int32} {ty0 : Nat → FieldType} {V' : Nat → Nat → Value} (hd : decode M.2.1 pc = .ok (.putfield idx, 3)) (hs : sh[a]? = some (.inr ci)) (hin : ∀ w ∈ u_ws C T N, w ∈ mm_aw) (hty : ∀ k, k < N → parseFieldDescriptor (T k).2.2.1 = some (ty0 k)) (hnm : ∀ a, a < N → ∀ b, b < N → a ≠ b → (T a).2.1 ≠ (T b).2.1) (hc : mm_cl[ci]? = some (C, T, N)) (hN : mm_nf ci = N) (hk : k < N) (hlink : Cond.fieldLink M.1.cls idx (T k).1 (T k).2.1 (T k).2.2.1 ∈ mm_aw) (hfin : (T k).2.2.2 = false) (hd2 : parseFieldDescriptor (T k).2.2.1 = some .boolean) (hx : narrow .boolean (.int x) = .int x ∧ fits .boolean (.int x) = true) (hV : va_up V a (va_up (V a) k (.int x)) = V') (kk : mW G M d bc bs (pc + 3) ls st (sh, I, J, F, V') X) : mW G M d bc bs pc ls (.int x :: .ref a :: st) (sh, I, J, F, V) X := mw_put hd hs hin hty hnm hc hN hk hlink hfin hd2 (fun _ => hx.1) (fun _ => hx.2) (by rw [hV]; exact kk)
def cl_i (g : Nat → Int32) (s : Nat) : Nat → Nat → Int32
  | 0 => g
  | p + 1 => upd (cl_i g s p) (6 * s + p) (iI ((p : Int) + 1))
def cl_o (I : Nat → Nat → Int32) (n : Nat) : Nat → Nat → Nat → Int32
  | 0 => I
  | s + 1 => va_up (va_up (cl_o I n s) 40 (cl_i (cl_o I n s 40) s n)) 41 (upd (cl_o I n s 41) s (iI 0))
theorem lp_cl1 {G : mm_G} {d bc bs : Nat} {cs : mm_Sh} {I : Nat → Nat → Int32} {J : Nat → Nat → Int64} {F : Nat → Nat → Option Nat} {V : Nat → Nat → Value} {X : mm_X} {n s : Nat} {g : Nat → Int32} (hM : mo_V V) (hg : V 39 1 = .int (iI n)) (hn : n ≤ 6) (hs : s < 5) (hx : mW G mt_Mo_clear d bc bs 37 [(1, .int (iI s)), (0, .ref 39)] [] (wd_S ++ cs, va_up I 40 (cl_i g s n), J, F, V) X) :
    ∀ (m p : Nat), n - p < m → p ≤ n → mW G mt_Mo_clear d bc bs 9 [(2, .int (iI p)), (1, .int (iI s)), (0, .ref 39)] [] (wd_S ++ cs, va_up I 40 (cl_i g s p), J, F, V) X := by
  intro m
  induction m with
  | zero => intro p h1 _; exact absurd h1 (Nat.not_lt_zero _)
  | succ m ih =>
    intro p h1 h2
    refine mw_iload_n dc_Mo_clear_9 rfl 0 rfl ?_
    refine mw_aload_n dc_Mo_clear_10 rfl 2 rfl ?_
    refine mi_get (ci := 5) (k := 1) dc_Mo_clear_11 rfl wi_Mo rfl rfl (by decide) fl_Mo_7 hg ?_
    refine mi_icmp_ge (tgt := 37) dc_Mo_clear_14 (by decide) (iB_mk (by omega) (by omega)) (iB_mk (by omega) (by omega)) (fun hh => ?_) (fun hh => ?_)
    · have e : p = n := by omega
      subst e
      refine mw_pick [1, 2] rfl ?_
      exact hx
    · refine mw_aload_n dc_Mo_clear_17 rfl 2 rfl ?_
      refine mi_get (ci := 5) (k := 2) dc_Mo_clear_18 rfl wi_Mo rfl rfl (by decide) fl_Mo_13 hM.1 ?_
      refine mi_bipush dc_Mo_clear_21 (by decide) ?_
      refine mw_iload_n dc_Mo_clear_23 rfl 1 rfl ?_
      refine mi_imul dc_Mo_clear_24 ?_
      refine mw_iload_n dc_Mo_clear_25 rfl 0 rfl ?_
      refine mi_iadd dc_Mo_clear_26 ?_
      refine mw_iload_n dc_Mo_clear_27 rfl 0 rfl ?_
      refine mi_const dc_Mo_clear_28 ?_
      refine mi_iadd dc_Mo_clear_29 ?_
      refine mi_iast dc_Mo_clear_30 rfl ⟨by omega, by omega, by decide⟩ (I' := va_up I 40 (cl_i g s (p + 1))) (by rw [va_up_self, up_up, show (6 * (s : Int) + p).toNat = 6 * s + p by omega]; rfl) ?_
      refine mi_iinc dc_Mo_clear_31 0 rfl (by decide) rfl ?_
      refine mw_goto (tgt := 9) dc_Mo_clear_34 (by decide) ?_
      refine mw_pick [0, 1, 2] rfl ?_
      exact ih (p + 1) (by omega) (by omega)
theorem lp_cl2 {G : mm_G} {d bc bs : Nat} {cs : mm_Sh} {I : Nat → Nat → Int32} {J : Nat → Nat → Int64} {F : Nat → Nat → Option Nat} {V : Nat → Nat → Value} {X : mm_X} {n : Nat} (hM : mo_V V) (hg : V 39 1 = .int (iI n)) (hn : n ≤ 6) (hx : X (.inl none) (wd_S ++ cs, cl_o I n 5, J, F, fu V 39 7 (.int (iI 0)))) :
    ∀ (m s : Nat), 5 - s < m → s ≤ 5 → mW G mt_Mo_clear d bc bs 2 [(1, .int (iI s)), (0, .ref 39)] [] (wd_S ++ cs, cl_o I n s, J, F, V) X := by
  intro m
  induction m with
  | zero => intro s h1 _; exact absurd h1 (Nat.not_lt_zero _)
  | succ m ih =>
    intro s h1 h2
    refine mw_iload_n dc_Mo_clear_2 rfl 0 rfl ?_
    refine mi_const dc_Mo_clear_3 ?_
    refine mi_icmp_ge (tgt := 50) dc_Mo_clear_4 (by decide) (iB_mk (by omega) (by omega)) (iB_mk (by omega) (by omega)) (fun hh => ?_) (fun hh => ?_)
    · have e : s = 5 := by omega
      subst e
      refine mw_aload_n dc_Mo_clear_50 rfl 1 rfl ?_
      refine mi_const dc_Mo_clear_51 ?_
      refine mi_putz (ci := 5) (k := 7) dc_Mo_clear_52 rfl wi_Mo tk_Mo nm_Mo rfl rfl (by decide) fl_Mo_78 rfl (by decide +kernel) (by decide) (show va_up V 39 (va_up (V 39) 7 (.int (iI 0))) = fu V 39 7 (.int (iI 0)) from rfl) ?_
      exact mw_vret dc_Mo_clear_55 rfl hx
    · have hs : s < 5 := by omega
      refine mi_const dc_Mo_clear_7 ?_
      refine mw_istore_n dc_Mo_clear_8 rfl (by decide) rfl ?_
      refine mw_pick [0, 1, 2] rfl ?_
      refine mw_h (h' := (wd_S ++ cs, va_up (cl_o I n s) 40 (cl_i (cl_o I n s 40) s 0), J, F, V)) (by rw [show cl_i (cl_o I n s 40) s 0 = cl_o I n s 40 from rfl, up_id]) ?_
      refine lp_cl1 (I := cl_o I n s) hM hg hn hs ?_ (n + 1) 0 (by omega) (by omega)
      refine mw_aload_n dc_Mo_clear_37 rfl 1 rfl ?_
      refine mi_get (ci := 5) (k := 3) dc_Mo_clear_38 rfl wi_Mo rfl rfl (by decide) fl_Mo_17 hM.2.1 ?_
      refine mw_iload_n dc_Mo_clear_41 rfl 0 rfl ?_
      refine mi_const dc_Mo_clear_42 ?_
      refine mi_iast dc_Mo_clear_43 rfl ⟨by omega, by omega, by decide⟩ (I' := cl_o I n (s + 1)) (by rw [Int.toNat_natCast]; rfl) ?_
      refine mi_iinc dc_Mo_clear_44 0 rfl (by decide) rfl ?_
      refine mw_goto (tgt := 2) dc_Mo_clear_47 (by decide) ?_
      refine mw_pick [0, 1] rfl ?_
      exact ih (s + 1) (by omega) (by omega)
theorem ev_clear {G : mm_G} {d : Nat} {cs : mm_Sh} {I : Nat → Nat → Int32} {J : Nat → Nat → Int64} {F : Nat → Nat → Option Nat} {V : Nat → Nat → Value} {n : Nat} (hM : mo_V V) (hg : V 39 1 = .int (iI n)) (hn : n ≤ 6) : mE G mt_Mo_clear d 0 0 [.ref 39] (wd_S ++ cs, I, J, F, V) (fun o h1 => o = .inl none ∧ h1 = (wd_S ++ cs, cl_o I n 5, J, F, fu V 39 7 (.int (iI 0)))) := by
  refine mE_intro (by decide) (fun k h q => nomatch q.1) (Nat.le_of_ble_eq_true rfl) ?_
  show mW G mt_Mo_clear d 0 0 0 [(0, .ref 39)] [] (wd_S ++ cs, I, J, F, V) _
  refine mi_const dc_Mo_clear_0 ?_
  refine mw_istore_n dc_Mo_clear_1 rfl (by decide) rfl ?_
  exact lp_cl2 (I := I) hM hg hn ⟨rfl, rfl⟩ 6 0 (by omega) (by omega)
theorem ev_mogenes {G : mm_G} {d : Nat} {cs : mm_Sh} {I : Nat → Nat → Int32} {J : Nat → Nat → Int64} {F : Nat → Nat → Option Nat} {V : Nat → Nat → Value} {x : Int} (hM : mo_V V) (hx : iB x) : mE G mt_Mo_genes (d + 1) 0 0 [.ref 39, .int (iI x)] (wd_S ++ cs, I, J, F, V) (fun o h1 => o = .inl none ∧ ((1 ≤ x ∧ x ≤ 6) → h1 = (wd_S ++ cs, cl_o I x.toNat 5, J, F, fu (fu (fu V 39 0 (.int (iI 0))) 39 1 (.int (iI x))) 39 7 (.int (iI 0)))) ∧ (¬ (1 ≤ x ∧ x ≤ 6) → h1 = (wd_S ++ cs, I, J, F, fu V 39 0 (.int (iI 1))))) := by
  refine mE_intro (by decide) (fun k h q => nomatch q.1) (Nat.le_of_ble_eq_true rfl) ?_
  show mW G mt_Mo_genes (d + 1) 0 0 0 [(0, .ref 39), (1, .int (iI x))] [] (wd_S ++ cs, I, J, F, V) _
  refine mw_aload_n dc_Mo_genes_0 rfl 0 rfl ?_
  refine mw_iload_n dc_Mo_genes_1 rfl 1 rfl ?_
  refine mi_const dc_Mo_genes_2 ?_
  refine mi_icmp_lt (tgt := 12) dc_Mo_genes_3 (by decide) hx (iB_mk (by omega) (by omega)) (fun h03 => ?_) (fun h03 => ?_)
  · refine mi_const dc_Mo_genes_12 ?_
    refine mw_goto (tgt := 17) dc_Mo_genes_13 (by decide) ?_
    refine mi_puti (ci := 5) (k := 0) dc_Mo_genes_17 rfl wi_Mo tk_Mo nm_Mo rfl rfl (by decide) fl_Mo_75 rfl (by decide +kernel) (show va_up V 39 (va_up (V 39) 0 (.int (iI 1))) = fu V 39 0 (.int (iI 1)) from rfl) ?_
    refine mw_aload_n dc_Mo_genes_20 rfl 0 rfl ?_
    refine mi_get (ci := 5) (k := 0) dc_Mo_genes_21 rfl wi_Mo rfl rfl (by decide) fl_Mo_75 (fu_at V 39 0 _) ?_
    refine mi_if_ne (tgt := 36) dc_Mo_genes_24 (by decide) (iB_mk (by omega) (by omega)) (fun hz => ?_) (fun hz => ?_)
    · exact mw_vret dc_Mo_genes_36 rfl ⟨rfl, fun q => absurd q (by omega), fun _ => rfl⟩
    · exact absurd hz (by decide)
  · refine mw_iload_n dc_Mo_genes_6 rfl 1 rfl ?_
    refine mi_bipush dc_Mo_genes_7 (by decide) ?_
    refine mi_icmp_le (tgt := 16) dc_Mo_genes_9 (by decide) hx (iB_mk (by omega) (by omega)) (fun h19 => ?_) (fun h19 => ?_)
    · refine mi_const dc_Mo_genes_16 ?_
      refine mi_puti (ci := 5) (k := 0) dc_Mo_genes_17 rfl wi_Mo tk_Mo nm_Mo rfl rfl (by decide) fl_Mo_75 rfl (by decide +kernel) (show va_up V 39 (va_up (V 39) 0 (.int (iI 0))) = fu V 39 0 (.int (iI 0)) from rfl) ?_
      refine mw_aload_n dc_Mo_genes_20 rfl 0 rfl ?_
      refine mi_get (ci := 5) (k := 0) dc_Mo_genes_21 rfl wi_Mo rfl rfl (by decide) fl_Mo_75 (fu_at V 39 0 _) ?_
      refine mi_if_ne (tgt := 36) dc_Mo_genes_24 (by decide) (iB_mk (by omega) (by omega)) (fun hz => ?_) (fun hz => ?_)
      · exact absurd rfl hz
      · refine mw_aload_n dc_Mo_genes_27 rfl 0 rfl ?_
        refine mw_iload_n dc_Mo_genes_28 rfl 1 rfl ?_
        refine mi_puti (ci := 5) (k := 1) dc_Mo_genes_29 rfl wi_Mo tk_Mo nm_Mo rfl rfl (by decide) fl_Mo_7 rfl (by decide +kernel) (show va_up (fu V 39 0 (.int (iI 0))) 39 (va_up (fu V 39 0 (.int (iI 0)) 39) 1 (.int (iI x))) = fu (fu V 39 0 (.int (iI 0))) 39 1 (.int (iI x)) from rfl) ?_
        refine mw_aload_n dc_Mo_genes_32 rfl 0 rfl ?_
        refine mz_V0 (M2 := mt_Mo_clear) dc_Mo_genes_33 ml_Mo_72 rfl rfl ny_Mo_clear (by decide) (Nat.le_of_ble_eq_true rfl) (ev_clear (n := x.toNat) (mo_fu _ (mo_fu _ hM (by omega)) (by omega)) ((fu_at _ 39 1 _).trans (congrArg (fun q => Value.int (iI q)) (show x = ((x.toNat : Nat) : Int) by omega))) (by omega)) (fun v h1 hY => ?_)
        obtain ⟨hv, rfl⟩ := hY
        cases hv

        exact mw_vret dc_Mo_genes_36 rfl ⟨rfl, fun _ => rfl, fun q => absurd (show 1 ≤ x ∧ x ≤ 6 by omega) q⟩
    · refine mi_const dc_Mo_genes_12 ?_
      refine mw_goto (tgt := 17) dc_Mo_genes_13 (by decide) ?_
      refine mi_puti (ci := 5) (k := 0) dc_Mo_genes_17 rfl wi_Mo tk_Mo nm_Mo rfl rfl (by decide) fl_Mo_75 rfl (by decide +kernel) (show va_up V 39 (va_up (V 39) 0 (.int (iI 1))) = fu V 39 0 (.int (iI 1)) from rfl) ?_
      refine mw_aload_n dc_Mo_genes_20 rfl 0 rfl ?_
      refine mi_get (ci := 5) (k := 0) dc_Mo_genes_21 rfl wi_Mo rfl rfl (by decide) fl_Mo_75 (fu_at V 39 0 _) ?_
      refine mi_if_ne (tgt := 36) dc_Mo_genes_24 (by decide) (iB_mk (by omega) (by omega)) (fun hz => ?_) (fun hz => ?_)
      · exact mw_vret dc_Mo_genes_36 rfl ⟨rfl, fun q => absurd q (by omega), fun _ => rfl⟩
      · exact absurd hz (by decide)
