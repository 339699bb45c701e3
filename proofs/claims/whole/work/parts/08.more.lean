section MMN
variable {G : mm_G} {M : mm_M} {d bc bs pc : Nat} {ls : List (Nat × Value)} {st : List Value} {sh : mm_Sh} {I : Nat → Nat → Int32} {J : Nat → Nat → Int64} {F : Nat → Nat → Option Nat} {V : Nat → Nat → Value} {X : mm_X}
theorem mm_df (ad : Nat → Nat) (t : FieldType) : mm_rv ad (defaultValue t) = defaultValue t := by cases t <;> rfl
theorem mm_dr (t : FieldType) (r : Nat) : defaultValue t ≠ .ref r := by cases t <;> (intro h; cases h)
theorem mw_new {idx ci N : Nat} {C : String} {T : u_T} (hd : decode M.2.1 pc = .ok (.new idx, 3)) (hin : ∀ w ∈ u_ws C T N, w ∈ mm_aw) (hty : ∀ k, k < N → parseFieldDescriptor (T k).2.2.1 = some (mm_tf ci k)) (hw : ∀ w ∈ ([.classLink M.1.cls idx C, .instantiable C N, .initialized C] : List Cond), w ∈ mm_aw) (hc : mm_cl[ci]? = some (C, T, N)) (hN : mm_nf ci = N)
    (k : mW G M d bc bs (pc + 3) ls (.ref sh.length :: st) (sh ++ [.inr ci], I, J, F, va_up V sh.length (fun j => defaultValue (mm_tf ci j))) X) : mW G M d (bc + 1) (bs + N) pc ls st (sh, I, J, F, V) X := by
  intro p e R s m args below meth c A n0 ad0 Q hC hA hE ad H locs cells slots lr z
  refine va_new (fs := (List.range N).map (fun j => defaultValue (mm_tf ci j))) hC.1 hC.2.1 hC.2.2.2.2.1 hin (mm_tf ci) hty hC.2.2.2.1 (hC.2.2.2.2.1 _ (hw _ List.mem_cons_self)) (hC.2.2.2.2.1 _ (hw _ (List.mem_cons_of_mem _ List.mem_cons_self))) (hC.2.2.2.2.1 _ (hw _ (List.mem_cons_of_mem _ (List.mem_cons_of_mem _ List.mem_cons_self)))) hC.2.2.2.2.2.2.2.2.2.1 z.1 z.2.1 z.2.2.1 hA.1 hc (fun j hj => ?_) (by have := z.2.2.2.2.2.2.2.1; omega) (by have := z.2.2.2.2.2.2.2.2.1; omega) hd (fun q H1 hP hD hS => ?_)
  · unfold vp_V
    rw [List.getD_eq_getElem?_getD, List.getElem?_map, List.getElem?_range hj]
    rfl
  have e1 := mm_ws_push (tc := G.2.2.1) (ad := ad) (q := q) (h := (sh, I, J, F, V)) (h' := (sh ++ [.inr ci], I, J, F, va_up V sh.length (fun j => defaultValue (mm_tf ci j)))) (x := .inr ci) z.2.2.2.2.1 rfl (fun k hk => ⟨rfl, rfl, rfl, va_up_ne _ _ (Nat.ne_of_lt hk)⟩)
  have e2 : mm_ce G.2.2.1 (va_up ad sh.length q) (sh ++ [.inr ci], I, J, F, va_up V sh.length (fun j => defaultValue (mm_tf ci j))) sh.length (.inr ci) = .inr (ci, (List.range N).map (fun j => defaultValue (mm_tf ci j))) := by
    simp only [mm_ce, va_up_self, mm_df, hN]
  rw [e2] at e1
  rw [← e1] at hP hD
  have ho : mm_ok (sh ++ [Sum.inr ci]).length (sh ++ [.inr ci], I, J, F, va_up V sh.length (fun j => defaultValue (mm_tf ci j))) := by
    have hl : (sh ++ [(Sum.inr ci : (Nat × Nat) ⊕ Nat)]).length = sh.length + 1 := by rw [List.length_append]; rfl
    rw [hl]
    refine ⟨fun a b r hr => Nat.lt_succ_of_lt (z.2.2.2.2.1.1 a b r hr), fun a b r hr => ?_⟩
    have hr : va_up V sh.length (fun j => defaultValue (mm_tf ci j)) a b = .ref r := hr
    by_cases ea : a = sh.length
    · subst ea
      rw [va_up_self] at hr
      exact absurd hr (mm_dr _ _)
    · rw [va_up_ne _ _ ea] at hr
      exact Nat.lt_succ_of_lt (z.2.2.2.2.1.2 a b r hr)
  have z2 := mm_S.mk (dc := 1) (ds := N) (h := (sh, I, J, F, V)) (h' := (sh ++ [.inr ci], I, J, F, va_up V sh.length (fun j => defaultValue (mm_tf ci j)))) z rfl ho z.vs hP hD hS
  have k2 := k p e R s m args below meth c A n0 ad0 Q hC hA hE _ H1 locs (cells + 1) (slots + N) lr z2
  rw [List.map_cons, mm_st_up z.vs] at k2
  rw [show mm_rv (va_up ad sh.length q) (.ref sh.length) = .ref q from by show Value.ref (va_up ad sh.length q sh.length) = _; rw [va_up_self]] at k2
  exact k2
theorem mw_newq {idx t N : Nat} {n : Int32} {C : String} (hd : decode M.2.1 pc = .ok (.anewarray idx, 3)) (hw : Cond.classLink M.1.cls idx C ∈ mm_aw) (ho2 : Cond.arrayOver (.object C) ∈ mm_nw) (ht : (mm_tys G.2.2.1)[t + 3]? = some (G.2.2.1 (t + 3), .object C)) (hn : ¬ n < 0) (hN : n.toNatClampNeg = N) (hb : N * 4 ≤ 536870912)
    (k : mW G M d bc bs (pc + 3) ls (.ref sh.length :: st) (sh ++ [.inl (t + 3, N)], I, J, va_up F sh.length (fun _ => none), V) X) : mW G M d (bc + 1) (bs + N) pc ls (.int n :: st) (sh, I, J, F, V) X := by
  intro p e R s m args below meth c A n0 ad0 Q hC hA hE ad H locs cells slots lr z
  refine va_newq (C := C) hC.1 hC.2.1 hC.2.2.2.1 (hC.2.2.2.2.1 _ hw) (hC.2.2.2.2.2.1.1 _ ho2) hC.2.2.2.2.2.2.2.2.2.1 z.1 z.2.1 z.2.2.1 hA.1 hn hN hb (by have := z.2.2.2.2.2.2.2.1; omega) (by have := z.2.2.2.2.2.2.2.2.1; omega) hd (fun q cA H1 hK2 hP hD hS => ?_)
  cases mm_K1 (t := t + 3) hC.2.2.2.2.2.2.2.2.2.1 ht hK2
  have e1 := mm_ws_push (tc := G.2.2.1) (ad := ad) (q := q) (h := (sh, I, J, F, V)) (h' := (sh ++ [.inl (t + 3, N)], I, J, va_up F sh.length (fun _ => none), V)) (x := .inl (t + 3, N)) z.2.2.2.2.1 rfl (fun k hk => ⟨rfl, rfl, va_up_ne _ _ (Nat.ne_of_lt hk), rfl⟩)
  have e2 : mm_ce G.2.2.1 (va_up ad sh.length q) (sh ++ [.inl (t + 3, N)], I, J, va_up F sh.length (fun _ => none), V) sh.length (.inl (t + 3, N)) = .inl (G.2.2.1 (t + 3), N, .inr (.inr (.inr (.inr (fun _ => none))))) := by
    simp only [mm_ce, va_up_self, Option.map_none]
  rw [e2] at e1
  rw [← e1] at hP hD
  have ho : mm_ok (sh ++ [Sum.inl (t + 3, N)]).length (sh ++ [.inl (t + 3, N)], I, J, va_up F sh.length (fun _ => none), V) := by
    have hl : (sh ++ [(Sum.inl (t + 3, N) : (Nat × Nat) ⊕ Nat)]).length = sh.length + 1 := by rw [List.length_append]; rfl
    rw [hl]
    refine ⟨fun a b r hr => ?_, fun a b r hr => Nat.lt_succ_of_lt (z.2.2.2.2.1.2 a b r hr)⟩
    have hr : va_up F sh.length (fun _ => none) a b = some r := hr
    by_cases ea : a = sh.length
    · subst ea
      rw [va_up_self] at hr
      cases hr
    · rw [va_up_ne _ _ ea] at hr
      exact Nat.lt_succ_of_lt (z.2.2.2.2.1.1 a b r hr)
  have z2 := mm_S.mk (dc := 1) (ds := N) (h := (sh, I, J, F, V)) (h' := (sh ++ [.inl (t + 3, N)], I, J, va_up F sh.length (fun _ => none), V)) z rfl ho (mm_t1 z.vs) hP hD hS
  have k2 := k p e R s m args below meth c A n0 ad0 Q hC hA hE _ H1 locs (cells + 1) (slots + N) lr z2
  rw [List.map_cons, mm_st_up (mm_t1 z.vs)] at k2
  rw [show mm_rv (va_up ad sh.length q) (.ref sh.length) = .ref q from by show Value.ref (va_up ad sh.length q sh.length) = _; rw [va_up_self]] at k2
  exact k2
theorem mw_aast {t a n v ci : Nat} {i : Int32} {r : vw_C} (hd : decode M.2.1 pc = .ok (.aastore, 1)) (hs : sh[a]? = some (.inl (t + 3, n))) (hv : sh[v]? = some (.inr ci)) (hc : mm_cl[ci]? = some r) (ht : (mm_tys G.2.2.1)[t + 3]? = some (G.2.2.1 (t + 3), .object r.1)) (hin : vp_in i n)
    (k : mW G M d bc bs (pc + 1) ls st (sh, I, J, va_up F a (va_up (F a) i.toNatClampNeg (some v)), V) X) : mW G M d bc bs pc ls (.ref v :: .int i :: .ref a :: st) (sh, I, J, F, V) X := by
  intro p e R s m args below meth c A n0 ad0 Q hC hA hE ad H locs cells slots lr z
  refine va_astq hC.1 hC.2.1 hC.2.2.2.2.2.2.2.2.2.1 z.1 z.2.1 z.2.2.1 a (t + 3) v ci (mm_ws_get (h := (sh, I, J, F, V)) hs) ht (mm_ws_get (h := (sh, I, J, F, V)) hv) hc hin hd (fun H1 locs1 hP hD hS => ?_)
  have e1 := mm_ws_set (tc := G.2.2.1) (ad := ad) (h := (sh, I, J, F, V)) (h' := (sh, I, J, va_up F a (va_up (F a) i.toNatClampNeg (some v)), V)) rfl hs (fun j hj y => mm_ce_eq (h := (sh, I, J, F, V)) (h' := (sh, I, J, va_up F a (va_up (F a) i.toNatClampNeg (some v)), V)) rfl rfl (va_up_ne _ _ hj) rfl y)
  have e2 : mm_ce G.2.2.1 ad (sh, I, J, va_up F a (va_up (F a) i.toNatClampNeg (some v)), V) a (.inl (t + 3, n)) = .inl (G.2.2.1 (t + 3), n, .inr (.inr (.inr (.inr (va_up (fun j => (F a j).map ad) i.toNatClampNeg (some (ad v))))))) := by
    simp only [mm_ce, va_up_self]
    congr 7
    funext j
    by_cases hj : j = i.toNatClampNeg
    · subst hj
      rw [va_up_self, va_up_self]
      rfl
    · rw [va_up_ne _ _ hj, va_up_ne _ _ hj]
  rw [e2] at e1
  rw [e1] at hP hD
  refine k p e R s m args below meth c A n0 ad0 Q hC hA hE ad H1 locs1 cells slots lr (z.wr rfl ⟨fun a2 k2 r2 hr => ?_, z.2.2.2.2.1.2⟩ (mm_t1 (mm_t1 (mm_t1 z.vs))) hP hD hS)
  have hr : va_up F a (va_up (F a) i.toNatClampNeg (some v)) a2 k2 = some r2 := hr
  by_cases e3 : a2 = a
  · subst e3
    rw [va_up_self] at hr
    by_cases e4 : k2 = i.toNatClampNeg
    · subst e4
      rw [va_up_self] at hr
      cases hr
      exact mm_h1 z.vs v rfl
    · rw [va_up_ne _ _ e4] at hr
      exact z.2.2.2.2.1.1 _ _ _ hr
  · rw [va_up_ne _ _ e3] at hr
    exact z.2.2.2.2.1.1 _ _ _ hr
theorem mm_rm1 {h : mm_H} {p : Program} {R : Room} {s : State} {m : MethodId} {args : Array Value} {meth : Method} {c : Code} (hC : mm_C G M d p R s m args meth c) : 1 ≤ R.frames := Nat.le_trans (by omega) hC.2.2.2.2.2.2.2.2.2.2.1
theorem mm_rml1 {p : Program} {R : Room} {s : State} {m : MethodId} {args : Array Value} {meth : Method} {c : Code} (hC : mm_C G M d p R s m args meth c) {x y : Nat} (hx : x ≤ 8) (hy : y ≤ 250) : x + y ≤ R.locals := Nat.le_trans (by omega) hC.2.2.2.2.2.2.2.2.2.2.2.1
theorem mw_objInit {h : mm_H} {a idx : Nat} (hd : decode M.2.1 pc = .ok (.invokespecial idx, 3)) (hw : ∀ w ∈ ([.methodLink M.1.cls idx Lib.objectInit, .instanceMethod Lib.objectInit, .code Lib.objectInit ⟨#[0xb1]⟩ 1 none] : List Cond), w ∈ mm_aw) (hr : (st.map fun v => v.category).sum ≤ 8) (k : mW G M d bc bs (pc + 3) ls st h X) : mW G M d bc bs pc ls (.ref a :: st) h X := by
  intro p e R s m args below meth c A n0 ad0 Q hC hA hE ad H locs cells slots lr z
  refine W.objInit hC.1 hC.2.1 hC.2.2.2.1 (hC.2.2.2.2.1 _ (hw _ List.mem_cons_self)) (hC.2.2.2.2.1 _ (hw _ (List.mem_cons_of_mem _ List.mem_cons_self))) (hC.2.2.2.2.1 _ (hw _ (List.mem_cons_of_mem _ (List.mem_cons_of_mem _ List.mem_cons_self)))) rfl (by rw [hC.2.2.1]; exact z.2.2.2.1.1) rfl hd (mm_rm1 (h := h) hC) ?_ ?_
  · have := lv_room (m := m) (pc := pc) (ls := lr) (rest := st.map (mm_rv ad)) (st := st.map (mm_rv ad)) (by rw [mm_rest]; exact hr)
    exact mm_rml1 hC this (by decide)
  · exact W.eq (g2 := F0 m (pc + 3) lr (st.map (mm_rv ad))) rfl (k p e R s m args below meth c A n0 ad0 Q hC hA hE ad H locs cells slots lr (z.sk (mm_t1 z.vs)))
theorem mw_mabs {h : mm_H} {idx : Nat} {x : Int32} (hd : decode M.2.1 pc = .ok (.invokestatic idx, 3)) (hw : ∀ w ∈ ([.methodLink M.1.cls idx Lib.Math.abs.name, .static Lib.Math.abs.name, .initialized "java/lang/Math", .code Lib.Math.abs.name Lib.Math.abs.code 1 (some .int)] : List Cond), w ∈ mm_aw) (hr : (st.map fun v => v.category).sum ≤ 8) (k : mW G M d bc bs (pc + 3) ls (.int (if 0 ≤ x then x else 0 - x) :: st) h X) : mW G M d bc bs pc ls (.int x :: st) h X := by
  intro p e R s m args below meth c A n0 ad0 Q hC hA hE ad H locs cells slots lr z
  exact va_mabs hC.1 hC.2.1 (hC.2.2.1.trans z.2.2.2.1.1.symm) hC.2.2.2.1 (hC.2.2.2.2.1 _ (hw _ List.mem_cons_self)) (hC.2.2.2.2.1 _ (hw _ (List.mem_cons_of_mem _ List.mem_cons_self))) (hC.2.2.2.2.1 _ (hw _ (List.mem_cons_of_mem _ (List.mem_cons_of_mem _ List.mem_cons_self)))) (hC.2.2.2.2.1 _ (hw _ (List.mem_cons_of_mem _ (List.mem_cons_of_mem _ (List.mem_cons_of_mem _ List.mem_cons_self))))) (mm_rm1 (h := h) hC) (mm_rml1 hC (by rw [mm_rest]; exact hr) (by decide)) (Nat.le_trans (Nat.le_add_right _ _) z.2.2.2.2.2.2.2.1) (Nat.le_trans (Nat.le_add_right _ _) z.2.2.2.2.2.2.2.2.1) hd (k p e R s m args below meth c A n0 ad0 Q hC hA hE ad H locs cells slots lr (z.sk (mm_c1 (mm_vi _ _) (mm_t1 z.vs))))
theorem mw_mmin {h : mm_H} {idx : Nat} {x y : Int32} (hd : decode M.2.1 pc = .ok (.invokestatic idx, 3)) (hw : ∀ w ∈ ([.methodLink M.1.cls idx Lib.Math.min.name, .static Lib.Math.min.name, .initialized "java/lang/Math", .code Lib.Math.min.name Lib.Math.min.code 2 (some .int)] : List Cond), w ∈ mm_aw) (hr : (st.map fun v => v.category).sum ≤ 8) (k : mW G M d bc bs (pc + 3) ls (.int (if y < x then y else x) :: st) h X) : mW G M d bc bs pc ls (.int y :: .int x :: st) h X := by
  intro p e R s m args below meth c A n0 ad0 Q hC hA hE ad H locs cells slots lr z
  exact va_mmin hC.1 hC.2.1 (hC.2.2.1.trans z.2.2.2.1.1.symm) hC.2.2.2.1 (hC.2.2.2.2.1 _ (hw _ List.mem_cons_self)) (hC.2.2.2.2.1 _ (hw _ (List.mem_cons_of_mem _ List.mem_cons_self))) (hC.2.2.2.2.1 _ (hw _ (List.mem_cons_of_mem _ (List.mem_cons_of_mem _ List.mem_cons_self)))) (hC.2.2.2.2.1 _ (hw _ (List.mem_cons_of_mem _ (List.mem_cons_of_mem _ (List.mem_cons_of_mem _ List.mem_cons_self))))) (mm_rm1 (h := h) hC) (mm_rml1 hC (by rw [mm_rest]; exact hr) (by decide)) (Nat.le_trans (Nat.le_add_right _ _) z.2.2.2.2.2.2.2.1) (Nat.le_trans (Nat.le_add_right _ _) z.2.2.2.2.2.2.2.2.1) hd (k p e R s m args below meth c A n0 ad0 Q hC hA hE ad H locs cells slots lr (z.sk (mm_c1 (mm_vi _ _) (mm_t1 (mm_t1 z.vs)))))
theorem mw_mmax {h : mm_H} {idx : Nat} {x y : Int32} (hd : decode M.2.1 pc = .ok (.invokestatic idx, 3)) (hw : ∀ w ∈ ([.methodLink M.1.cls idx Lib.Math.max.name, .static Lib.Math.max.name, .initialized "java/lang/Math", .code Lib.Math.max.name Lib.Math.max.code 2 (some .int)] : List Cond), w ∈ mm_aw) (hr : (st.map fun v => v.category).sum ≤ 8) (k : mW G M d bc bs (pc + 3) ls (.int (if x < y then y else x) :: st) h X) : mW G M d bc bs pc ls (.int y :: .int x :: st) h X := by
  intro p e R s m args below meth c A n0 ad0 Q hC hA hE ad H locs cells slots lr z
  exact va_mmax hC.1 hC.2.1 (hC.2.2.1.trans z.2.2.2.1.1.symm) hC.2.2.2.1 (hC.2.2.2.2.1 _ (hw _ List.mem_cons_self)) (hC.2.2.2.2.1 _ (hw _ (List.mem_cons_of_mem _ List.mem_cons_self))) (hC.2.2.2.2.1 _ (hw _ (List.mem_cons_of_mem _ (List.mem_cons_of_mem _ List.mem_cons_self)))) (hC.2.2.2.2.1 _ (hw _ (List.mem_cons_of_mem _ (List.mem_cons_of_mem _ (List.mem_cons_of_mem _ List.mem_cons_self))))) (mm_rm1 (h := h) hC) (mm_rml1 hC (by rw [mm_rest]; exact hr) (by decide)) (Nat.le_trans (Nat.le_add_right _ _) z.2.2.2.2.2.2.2.1) (Nat.le_trans (Nat.le_add_right _ _) z.2.2.2.2.2.2.2.2.1) hd (k p e R s m args below meth c A n0 ad0 Q hC hA hE ad H locs cells slots lr (z.sk (mm_c1 (mm_vi _ _) (mm_t1 (mm_t1 z.vs)))))
theorem mw_copy {idx a b n0' n1' : Nat} {sp dp n : Int32} (hd : decode M.2.1 pc = .ok (.invokestatic idx, 3)) (hw : ∀ w ∈ ([.methodLink M.1.cls idx arraycopyName, .native arraycopyName, .static arraycopyName, .initialized "java/lang/System"] : List Cond), w ∈ mm_aw) (hsa : sh[a]? = some (.inl (0, n0'))) (hsb : sh[b]? = some (.inl (0, n1'))) (h1 : ¬ sp < 0) (h2 : ¬ dp < 0) (h3 : ¬ n < 0) (h4 : sp.toNatClampNeg + n.toNatClampNeg ≤ n0') (h5 : dp.toNatClampNeg + n.toNatClampNeg ≤ n1') (hr : (st.map fun v => v.category).sum ≤ 8)
    (k : mW G M d bc bs (pc + 3) ls st (sh, va_up I b (va_cpy (I a) (I b) sp.toNatClampNeg dp.toNatClampNeg n.toNatClampNeg), J, F, V) X) : mW G M d bc bs pc ls (.int n :: .int dp :: .ref b :: .int sp :: .ref a :: st) (sh, I, J, F, V) X := by
  intro p e R s m args below meth c A n0 ad0 Q hC hA hE ad H locs cells slots lr z
  refine va_copyi (ty := .int) hC.1 hC.2.1 (hC.2.2.1.trans z.2.2.2.1.1.symm) hC.2.2.2.1 (hC.2.2.2.2.1 _ (hw _ List.mem_cons_self)) (hC.2.2.2.2.1 _ (hw _ (List.mem_cons_of_mem _ List.mem_cons_self))) (hC.2.2.2.2.1 _ (hw _ (List.mem_cons_of_mem _ (List.mem_cons_of_mem _ List.mem_cons_self)))) (hC.2.2.2.2.1 _ (hw _ (List.mem_cons_of_mem _ (List.mem_cons_of_mem _ (List.mem_cons_of_mem _ List.mem_cons_self))))) hC.2.2.2.2.2.2.2.2.2.1 z.1 z.2.1 z.2.2.1 a b 0 0 (mm_ws_get (h := (sh, I, J, F, V)) hsa) (mm_ws_get (h := (sh, I, J, F, V)) hsb) rfl rfl rfl h1 h2 h3 h4 h5 (fun _ _ => rfl) (mm_rm1 (h := (sh, I, J, F, V)) hC) (mm_rml1 hC (by rw [mm_rest]; exact hr) (by decide)) hd (fun H1 locs1 hP hD hS => ?_)
  have e1 := mm_ws_set (tc := G.2.2.1) (ad := ad) (h := (sh, I, J, F, V)) (h' := (sh, va_up I b (va_cpy (I a) (I b) sp.toNatClampNeg dp.toNatClampNeg n.toNatClampNeg), J, F, V)) rfl hsb (fun j hj y => mm_ce_eq (h := (sh, I, J, F, V)) (h' := (sh, va_up I b (va_cpy (I a) (I b) sp.toNatClampNeg dp.toNatClampNeg n.toNatClampNeg), J, F, V)) (va_up_ne _ _ hj) rfl rfl rfl y)
  have e2 : mm_ce G.2.2.1 ad (sh, va_up I b (va_cpy (I a) (I b) sp.toNatClampNeg dp.toNatClampNeg n.toNatClampNeg), J, F, V) b (.inl (0, n1')) = .inl (G.2.2.1 0, n1', .inl (va_cpy (I a) (I b) sp.toNatClampNeg dp.toNatClampNeg n.toNatClampNeg)) := by simp only [mm_ce, va_up_self]
  rw [e2] at e1
  rw [e1] at hP hD
  exact k p e R s m args below meth c A n0 ad0 Q hC hA hE ad H1 locs1 cells slots lr (z.wr rfl z.2.2.2.2.1 (mm_t1 (mm_t1 (mm_t1 (mm_t1 (mm_t1 z.vs))))) hP hD hS)
theorem mw_sld {h : mm_H} {i : Int32} (hd : decode M.2.1 pc = .ok (.iaload, 1)) (hl : M.1.name = "law") (hin : vp_in i G.2.2.2.2.1) (k : mW G M d bc bs (pc + 1) ls (.int (G.2.2.2.2.2 i.toNatClampNeg) :: st) h X) : mW G M d bc bs pc ls (.int i :: .retAddr G.2.2.2.1 :: st) h X := by
  intro p e R s m args below meth c A n0 ad0 Q hC hA hE ad H locs cells slots lr z
  exact va_sld hC.1 hC.2.1 (hA.2.1 hl).1 (hA.2.1 hl).2.1 (hA.2.1 hl).2.2 z.2.2.1 hin hd (k p e R s m args below meth c A n0 ad0 Q hC hA hE ad H locs cells slots lr (z.sk (mm_c1 (mm_vi _ _) (mm_t1 (mm_t1 z.vs)))))
theorem mw_slen {h : mm_H} (hd : decode M.2.1 pc = .ok (.arraylength, 1)) (hl : M.1.name = "law") (k : mW G M d bc bs (pc + 1) ls (.int (Int32.ofNat G.2.2.2.2.1) :: st) h X) : mW G M d bc bs pc ls (.retAddr G.2.2.2.1 :: st) h X := by
  intro p e R s m args below meth c A n0 ad0 Q hC hA hE ad H locs cells slots lr z
  exact va_slen hC.1 hC.2.1 (hA.2.1 hl).1 (hA.2.1 hl).2.1 (hA.2.1 hl).2.2 z.2.2.1 hd (k p e R s m args below meth c A n0 ad0 Q hC hA hE ad H locs cells slots lr (z.sk (mm_c1 (mm_vi _ _) (mm_t1 z.vs))))
theorem mw_le {h : mm_H} {bc2 bs2 : Nat} (h1 : bc ≤ bc2) (h2 : bs ≤ bs2) (k : mW G M d bc bs pc ls st h X) : mW G M d bc2 bs2 pc ls st h X := by
  intro p e R s m args below meth c A n0 ad0 Q hC hA hE ad H locs cells slots lr z
  exact k p e R s m args below meth c A n0 ad0 Q hC hA hE ad H locs cells slots lr ⟨z.1, z.2.1, z.2.2.1, z.2.2.2.1, z.2.2.2.2.1, z.2.2.2.2.2.1, z.2.2.2.2.2.2.1, by have := z.2.2.2.2.2.2.2.1; omega, by have := z.2.2.2.2.2.2.2.2.1; omega, z.2.2.2.2.2.2.2.2.2⟩
theorem mw_X {h : mm_H} {Y : mm_X} (hXY : ∀ o h, Y o h → X o h) (k : mW G M d bc bs pc ls st h Y) : mW G M d bc bs pc ls st h X := by
  intro p e R s m args below meth c A n0 ad0 Q hC hA hE ad H locs cells slots lr z
  refine k p e R s m args below meth c A n0 ad0 Q hC hA ⟨?_, ?_, ?_⟩ ad H locs cells slots lr z
  · intro h a1 a2 a3 a4 a5 a6 v hY
    exact hE.1 h a1 a2 a3 a4 a5 a6 v (hXY _ _ hY)
  · intro h a1 a2 a3 a4 a5 a6 k a7 a8 a9 a10 a11 a12 hY
    exact hE.2.1 h a1 a2 a3 a4 a5 a6 k a7 a8 a9 a10 a11 a12 (hXY _ _ hY)
  · intro h a1 a2 a3 a4 a5 a6 k a7 a8 a9 a10 hY
    exact hE.2.2 h a1 a2 a3 a4 a5 a6 k a7 a8 a9 a10 (hXY _ _ hY)
end MMN
