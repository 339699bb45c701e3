/-! methods with a table of their own that throw nothing: their contract, and their call -/
def mm_wh (M : mm_M) : List Cond := .codeWith M.1 M.2.1 M.2.2.1 M.2.2.2.1 M.2.2.2.2 :: mm_aw
def mH (G : mm_G) (M : mm_M) (d bc bs : Nat) (as : List Value) (h : mm_H) (X : mm_X) : Prop :=
  mm_ok h.1.length h → (∀ v ∈ as, mm_vo h.1.length v) → ∀ (ad : Nat → Nat) (sz : Nat), vx_Met G.1 M.1 (mm_wh M) (mm_rm d bc bs) (mm_Pr G ad as h sz) (mm_Po G ad h sz X) (mm_XC G ad h sz X) bc bs (va_A (mm_ws G.2.2.1 ad h) sz)
theorem mm_wh_in {M : mm_M} (h : Cond.codeWith M.1 M.2.1 M.2.2.1 M.2.2.2.1 M.2.2.2.2 ∈ mm_aw) : ∀ w ∈ mm_wh M, w ∈ mm_aw := fun w hw => by
  rcases List.mem_cons.mp hw with rfl | q
  · exact h
  · exact q
set_option maxHeartbeats 2000000 in
theorem mH_intro {G : mm_G} {M : mm_M} {d bc bs : Nat} {as : List Value} {h : mm_H} {X : mm_X} (hy : plainName M.1.cls = true ∧ M.1.name ≠ "law") (hno : ∀ k h, ¬ X (.inr k) h) (hl : (lg_sl as).length ≤ M.2.2.1) (k : mW G M d bc bs 0 (lv_args 0 as) [] h X) : mH G M d bc bs as h X := by
  intro ho hv ad sz
  refine vx_ofWH (cc := M.2.1) (maxL := M.2.2.1) (ret := M.2.2.2.1) (hh := M.2.2.2.2) hy.1 rfl ?_
  intro p e s m args below meth c s₁ B hml hp
  obtain ⟨rfl, hsz, hP, hK, hD0, hN, hZ1, hZ2⟩ := hp
  subst hsz
  have hts := atoms_spec (ws := mm_wh M) B.pre
  have hC : mm_C G M d p (mm_rm d bc bs) s m (as.map (mm_rv ad)).toArray meth c :=
    ⟨B.exec, B.bytes, hml, findClass_of_methodNamed B.named, fun w hw => hts w (List.mem_cons_of_mem _ hw), hN, B.returns, B.notSynchronized, (name_of_methodNamed B.named B.method).1, hK, Nat.le_refl _, Nat.le_refl _, vx_table (x := M.1) B (hts _ List.mem_cons_self)⟩
  have hD := hD0.self (sz := s.heap.size)
  have hl0 := lv_entry (as.map (mm_rv ad)) (n := M.2.2.1) (by rw [mm_sl_len]; exact hl)
  rw [lg_entry_eq]
  rw [mm_args] at hl0
  have hE : mm_E G M p e (mm_rm d bc bs) s m (as.map (mm_rv ad)).toArray below meth c (va_A (mm_ws G.2.2.1 ad h) s.heap.size) h.1.length ad (vx_MQ below (mm_Po G ad h s.heap.size X) (mm_XC G ad h s.heap.size X) (as.map (mm_rv ad)).toArray s bc bs (va_A (mm_ws G.2.2.1 ad h) s.heap.size)) X := by
    intro h' ad' H' locs' cells' slots' lr' v hX hvo z
    have hc : cells' ≤ bc := z.2.2.2.2.2.2.2.1
    have hs : slots' ≤ bs := z.2.2.2.2.2.2.2.2.1
    have post : ∀ t : State, t.heap = H' → mm_Po G ad h s.heap.size X (as.map (mm_rv ad)).toArray s (.returned (v.map (mm_rv ad'))) t := fun t ht =>
      ⟨⟨v, h', ad', rfl, hX, z.2.2.2.2.2.2.2.2.2.1, z.2.2.2.2.2.2.2.2.2.2, z.2.2.2.2.1, hvo, by rw [ht]; exact z.1, z.2.1⟩, z.2.2.1.F ht⟩
    refine ⟨?_, ?_, ?_, ?_⟩
    · intro hv2 hr pc hd
      subst hv2
      refine vx_ret (W.widen hc hs ?_)
      exact W.vret B.exec B.bytes (B.returns.trans hr) (fun t ht _ => post t ht) z.2.2.1.2.2 hd B.notSynchronized
    · intro x ty hv2 hr hn pc hd
      subst hv2
      refine vx_ret (W.widen hc hs ?_)
      exact W.zret B.exec B.bytes (B.returns.trans hr) hn (fun t ht _ => post t ht) z.2.2.1.2.2 hd B.notSynchronized
    · intro x hv2 hr pc hd
      subst hv2
      refine vx_ret (W.widen hc hs ?_)
      exact W.lret B.exec B.bytes (B.returns.trans hr) (fun t ht _ => post t ht) z.2.2.1.2.2 hd B.notSynchronized
    · intro x n hv2 hr pc hd
      subst hv2
      refine vx_ret (W.widen hc hs ?_)
      exact W.aret B.exec B.bytes (B.returns.trans hr) (Or.inl ⟨n, rfl⟩) (Or.inr ⟨_, rfl⟩) (fun t ht _ => post t ht) z.2.2.1.2.2 hd B.notSynchronized
  have hT1 : mm_ET G M p e (mm_rm d bc bs) s m (as.map (mm_rv ad)).toArray below meth c (va_A (mm_ws G.2.2.1 ad h) s.heap.size) h.1.length ad (vx_MQ below (mm_Po G ad h s.heap.size X) (mm_XC G ad h s.heap.size X) (as.map (mm_rv ad)).toArray s bc bs (va_A (mm_ws G.2.2.1 ad h) s.heap.size)) X := by
    refine ⟨?_, ?_⟩
    · intro h' ad' H' locs' cells' slots' lr' k pc ik is ic text rest hX
      exact absurd hX (hno _ _)
    · intro h' ad' H' locs' cells' slots' lr' k pc q ce rest hX
      exact absurd hX (hno _ _)
  exact k p e (mm_rm d bc bs) s m _ below meth c _ _ ad _ hC ⟨fun q hq => Or.inr hq, fun q => absurd q hy.2, hZ1, hZ2⟩ ⟨hE, hT1⟩ ad s.heap [] 0 0 _
    ⟨hP, hD, va_S.rf, hl0, ho, mm_args_vo hv 0, (fun _ hq => absurd hq List.not_mem_nil), by show 0 + bc ≤ bc; omega, by show 0 + bs ≤ bs; omega, Nat.le_refl _, fun _ _ => rfl⟩
section MMW
variable {G : mm_G} {M M2 : mm_M} {d bc bs mc ms pc : Nat} {ls : List (Nat × Value)} {st : List Value} {h : mm_H} {X Y : mm_X}
theorem mw_callSW {idx n : Nat} {as : List Value} (hd : decode M.2.1 pc = .ok (.invokestatic idx, 3)) (hw : ∀ w ∈ ([.methodLink M.1.cls idx M2.1, .static M2.1, .initialized M2.1.cls, .codeWith M2.1 M2.2.1 M2.2.2.1 M2.2.2.2.1 M2.2.2.2.2] : List Cond), w ∈ mm_aw) (hy : mm_ny M2 n) (hL : M2.2.2.1 ≤ 21) (hn : as.length = n) (hrest : (st.map fun v => v.category).sum ≤ 8) (hm : mH G M2 d mc ms as h Y) (hno : ∀ k h, ¬ Y (.inr k) h) (k : ∀ (v : Option Value) (h' : mm_H), Y (.inl v) h' → mW G M (d + 1) bc bs (pc + 3) ls (v.toList ++ st) h' X) : mW G M (d + 1) (bc + mc) (bs + ms) pc ls (as.reverse ++ st) h X := by
  intro p e R s m args below meth c A n0 ad0 Q hC hA hE ad H locs cells slots lr z
  have hst : ∀ v ∈ st, mm_vo h.1.length v := fun v hv => z.vs v (List.mem_append_right _ hv)
  have has : ∀ v ∈ as, mm_vo h.1.length v := fun v hv => z.vs v (List.mem_append_left _ (List.mem_reverse.mpr hv))
  have r1 : (mm_rm d mc ms).frames + 1 ≤ R.frames := by have := hC.2.2.2.2.2.2.2.2.2.2.1; rw [mm_rmf]; omega
  have r2 : 8 + (M2.2.2.1 + 11) + (mm_rm d mc ms).locals ≤ R.locals := mm_r2 hL hC.2.2.2.2.2.2.2.2.2.2.2.1
  have r3 : cells + mc ≤ R.cells ∧ slots + ms ≤ R.slots := ⟨by have := z.2.2.2.2.2.2.2.1; omega, by have := z.2.2.2.2.2.2.2.2.1; omega⟩
  have hwi := mm_wh_in (M := M2) (hw _ (List.mem_cons_of_mem _ (List.mem_cons_of_mem _ (List.mem_cons_of_mem _ (List.mem_cons_self)))))
  have hall : ∀ w ∈ va_wsS M.1.cls idx M2.1 (mm_wh M2), w ∈ mm_aw := fun w q => by
    rcases List.mem_append.mp q with q | q
    · rcases List.mem_cons.mp q with rfl | q
      · exact hw _ List.mem_cons_self
      rcases List.mem_cons.mp q with rfl | q
      · exact hw _ (List.mem_cons_of_mem _ List.mem_cons_self)
      rcases List.mem_cons.mp q with rfl | q
      · exact hw _ (List.mem_cons_of_mem _ (List.mem_cons_of_mem _ List.mem_cons_self))
      · exact absurd q List.not_mem_nil
    · exact hwi w q
  refine mm_afterX hC hA hE z hst (vx_runSX (As := as.map (mm_rv ad)) (rest := st.map (mm_rv ad)) (n := n) ⟨hC.1, hC.2.1, hC.2.2.1, hC.2.2.2.1, hC.2.2.2.2.1⟩ (hm z.2.2.2.2.1 has ad H.size) (vx_cwSW n hC.2.2.2.2.1 (mm_good_in hall) rfl rfl rfl hy ⟨r1, r2⟩) ⟨mm_blind, mm_pre hC hA z⟩ rfl (by rw [List.length_map]; exact hn) z.2.2.2.1.1 ?_ (lv_room (by rw [mm_rest]; exact hrest)) hd r3) k ?_
  · show (as.reverse ++ st).map (mm_rv ad) = _
    rw [List.map_append, List.map_reverse]
  · intro j h' hY
    exact absurd hY (hno j h')
end MMW
theorem kl_13 : Cond.classLink rn_La 13 "java/lang/IllegalArgumentException" ∈ mm_aw := mm_in (List.mem_of_getElem? (i := 197) (by decide +kernel)) (by decide +kernel)
theorem kl_19 : Cond.classLink rn_La 19 "java/lang/IndexOutOfBoundsException" ∈ mm_aw := mm_in (List.mem_of_getElem? (i := 275) (by decide +kernel)) (by decide +kernel)
theorem kl_56 : Cond.classLink rn_La 56 "java/lang/IllegalStateException" ∈ mm_aw := mm_in (List.mem_of_getElem? (i := 496) (by decide +kernel)) (by decide +kernel)
theorem kl_62 : Cond.classLink rn_La 62 "java/lang/UnsupportedOperationException" ∈ mm_aw := mm_in (List.mem_of_getElem? (i := 521) (by decide +kernel)) (by decide +kernel)
def up58 (J : Nat → Nat → Int64) (x : Int64) : Nat → Nat → Int64 := va_up J 58 (vp_updL (J 58) 0 x)
theorem ev_La_genes {G : mm_G} {d mc ms : Nat} {cs : mm_Sh} {I : Nat → Nat → Int32} {J : Nat → Nat → Int64} {F : Nat → Nat → Option Nat} {V : Nat → Nat → Value} {Y : mm_X} {x0 : Int32} (hm : mT G mt_De_genes d mc ms [.ref 0, .int x0] (wd_S ++ cs, I, J, F, V) Y) (hv : ∀ v h', Y (.inl v) h' → v = none) (hj : ∀ j h', Y (.inr j) h' → j = 0) : mH G mt_La_genes (d + 1) mc ms [.ref 0, .int x0] (wd_S ++ cs, I, J, F, V) (fun o h1 => (∃ h', Y (.inl none) h' ∧ o = .inl (some (.int (iI 0))) ∧ h1 = h') ∨ (∃ h', Y (.inr 0) h' ∧ o = .inl (some (.int (iI 1))) ∧ h1 = h')) := by
  refine mH_intro (by decide) (fun k h q => ?_) (Nat.le_of_ble_eq_true rfl) ?_
  · rcases q with ⟨_, _, q, _⟩ | ⟨_, _, q, _⟩ <;> cases q
  show mW G mt_La_genes (d + 1) mc ms 0 [(0, .ref 0), (1, .int x0)] [] (wd_S ++ cs, I, J, F, V) _
  refine mw_aload_n dc_La_genes_0 rfl 0 rfl ?_
  refine mw_iload_n dc_La_genes_1 rfl 1 rfl ?_
  refine mw_le (bc := 0 + mc) (bs := 0 + ms) (by omega) (by omega) ?_
  refine mw_callVH (M2 := mt_De_genes) (as := [.int x0]) (b := 0) (st := []) (Y := Y) dc_La_genes_2 ml_La_7 rfl rfl ny_De_genes (by decide) rfl (Nat.le_of_ble_eq_true rfl) hm (fun v h' hY => ?_) (fun j h' hY => ?_)
  · cases hv v h' hY
    refine mw_goto (tgt := 11) dc_La_genes_5 (by decide) ?_
    refine mi_const dc_La_genes_11 ?_
    exact mw_iret dc_La_genes_12 rfl rfl (Or.inl ⟨h', hY, rfl, rfl⟩)
  · cases hj j h' hY
    refine ⟨[], ⟨0, 5, 8, 13⟩, [], _, 2, 1, rfl, fun z hz => absurd hz List.not_mem_nil, by decide, by decide, kl_13, by decide +kernel, by decide, Or.inl ⟨2, rfl, dc_La_genes_8, rfl⟩, ?_⟩
    refine mi_const dc_La_genes_9 ?_
    exact mw_iret dc_La_genes_10 rfl rfl (Or.inr (⟨h', hY, rfl, rfl⟩))
theorem ev_La_read {G : mm_G} {d mc ms : Nat} {cs : mm_Sh} {I : Nat → Nat → Int32} {J : Nat → Nat → Int64} {F : Nat → Nat → Option Nat} {V : Nat → Nat → Value} {Y : mm_X} {x0 : Int32} (hm : mT G mt_De_read d mc ms [.ref 0, .int x0] (wd_S ++ cs, I, J, F, V) Y) (hv : ∀ v h', Y (.inl v) h' → ∃ (x : Int32) (cs1 : mm_Sh) (I1 : Nat → Nat → Int32) (J1 : Nat → Nat → Int64) (F1 : Nat → Nat → Option Nat) (V1 : Nat → Nat → Value), v = some (.int x) ∧ h' = (wd_S ++ cs1, I1, J1, F1, V1)) (hj : ∀ j h', Y (.inr j) h' → j = 1) : mH G mt_La_read (d + 1) mc ms [.ref 0, .int x0, .ref 58] (wd_S ++ cs, I, J, F, V) (fun o h1 => (∃ (x : Int32) (h9 : mm_H), Y (.inl (some (.int x))) h9 ∧ o = .inl (some (.int (iI 0))) ∧ h1 = (h9.1, h9.2.1, up58 h9.2.2.1 x.toInt64, h9.2.2.2)) ∨ (∃ h', Y (.inr 1) h' ∧ o = .inl (some (.int (iI 1))) ∧ h1 = h')) := by
  refine mH_intro (by decide) (fun k h q => ?_) (Nat.le_of_ble_eq_true rfl) ?_
  · rcases q with ⟨_, _, _, q, _⟩ | ⟨_, _, q, _⟩ <;> cases q
  show mW G mt_La_read (d + 1) mc ms 0 [(0, .ref 0), (1, .int x0), (2, .ref 58)] [] (wd_S ++ cs, I, J, F, V) _
  refine mw_aload_n dc_La_read_0 rfl 2 rfl ?_
  refine mi_const dc_La_read_1 ?_
  refine mw_aload_n dc_La_read_2 rfl 0 rfl ?_
  refine mw_iload_n dc_La_read_3 rfl 1 rfl ?_
  refine mw_le (bc := 0 + mc) (bs := 0 + ms) (by omega) (by omega) ?_
  refine mw_callVH (M2 := mt_De_read) (as := [.int x0]) (b := 0) (st := [.int (iI 0), .ref 58]) (Y := Y) dc_La_read_4 ml_La_15 rfl rfl ny_De_read (by decide) rfl (Nat.le_of_ble_eq_true rfl) hm (fun v h' hY => ?_) (fun j h' hY => ?_)
  · obtain ⟨x, cs1, I1, J1, F1, V1, rfl, rfl⟩ := hv v h' hY
    refine mw_i2l dc_La_read_7 ?_
    refine mi_last dc_La_read_8 rfl ⟨by decide, by decide, by decide⟩ (J' := up58 J1 x.toInt64) rfl ?_
    refine mw_goto (tgt := 15) dc_La_read_9 (by decide) ?_
    refine mi_const dc_La_read_15 ?_
    exact mw_iret dc_La_read_16 rfl rfl (Or.inl ⟨x, _, hY, rfl, rfl⟩)
  · cases hj j h' hY
    refine ⟨[], ⟨0, 9, 12, 19⟩, [], _, 3, 1, rfl, fun z hz => absurd hz List.not_mem_nil, by decide, by decide, kl_19, by decide +kernel, by decide, Or.inl ⟨3, rfl, dc_La_read_12, rfl⟩, ?_⟩
    refine mi_const dc_La_read_13 ?_
    exact mw_iret dc_La_read_14 rfl rfl (Or.inr (⟨h', hY, rfl, rfl⟩))
theorem ev_La_gene {G : mm_G} {d mc ms : Nat} {cs : mm_Sh} {I : Nat → Nat → Int32} {J : Nat → Nat → Int64} {F : Nat → Nat → Option Nat} {V : Nat → Nat → Value} {Y : mm_X} {x0 x1 : Int32} (hm : mT G mt_De_gene d mc ms [.ref 0, .int x0, .int x1] (wd_S ++ cs, I, J, F, V) Y) (hv : ∀ v h', Y (.inl v) h' → ∃ (x : Int32) (cs1 : mm_Sh) (I1 : Nat → Nat → Int32) (J1 : Nat → Nat → Int64) (F1 : Nat → Nat → Option Nat) (V1 : Nat → Nat → Value), v = some (.int x) ∧ h' = (wd_S ++ cs1, I1, J1, F1, V1)) (hj : ∀ j h', Y (.inr j) h' → j = 1) : mH G mt_La_gene (d + 1) mc ms [.ref 0, .int x0, .int x1, .ref 58] (wd_S ++ cs, I, J, F, V) (fun o h1 => (∃ (x : Int32) (h9 : mm_H), Y (.inl (some (.int x))) h9 ∧ o = .inl (some (.int (iI 0))) ∧ h1 = (h9.1, h9.2.1, up58 h9.2.2.1 x.toInt64, h9.2.2.2)) ∨ (∃ h', Y (.inr 1) h' ∧ o = .inl (some (.int (iI 1))) ∧ h1 = h')) := by
  refine mH_intro (by decide) (fun k h q => ?_) (Nat.le_of_ble_eq_true rfl) ?_
  · rcases q with ⟨_, _, _, q, _⟩ | ⟨_, _, q, _⟩ <;> cases q
  show mW G mt_La_gene (d + 1) mc ms 0 [(0, .ref 0), (1, .int x0), (2, .int x1), (3, .ref 58)] [] (wd_S ++ cs, I, J, F, V) _
  refine mw_aload_n dc_La_gene_0 rfl 3 rfl ?_
  refine mi_const dc_La_gene_1 ?_
  refine mw_aload_n dc_La_gene_2 rfl 0 rfl ?_
  refine mw_iload_n dc_La_gene_3 rfl 1 rfl ?_
  refine mw_iload_n dc_La_gene_4 rfl 2 rfl ?_
  refine mw_le (bc := 0 + mc) (bs := 0 + ms) (by omega) (by omega) ?_
  refine mw_callVH (M2 := mt_De_gene) (as := [.int x0, .int x1]) (b := 0) (st := [.int (iI 0), .ref 58]) (Y := Y) dc_La_gene_5 ml_La_21 rfl rfl ny_De_gene (by decide) rfl (Nat.le_of_ble_eq_true rfl) hm (fun v h' hY => ?_) (fun j h' hY => ?_)
  · obtain ⟨x, cs1, I1, J1, F1, V1, rfl, rfl⟩ := hv v h' hY
    refine mw_i2l dc_La_gene_8 ?_
    refine mi_last dc_La_gene_9 rfl ⟨by decide, by decide, by decide⟩ (J' := up58 J1 x.toInt64) rfl ?_
    refine mw_goto (tgt := 17) dc_La_gene_10 (by decide) ?_
    refine mi_const dc_La_gene_17 ?_
    exact mw_iret dc_La_gene_18 rfl rfl (Or.inl ⟨x, _, hY, rfl, rfl⟩)
  · cases hj j h' hY
    refine ⟨[], ⟨0, 10, 13, 19⟩, [], _, 4, 2, rfl, fun z hz => absurd hz List.not_mem_nil, by decide, by decide, kl_19, by decide +kernel, by decide, Or.inr ⟨dc_La_gene_13, rfl⟩, ?_⟩
    refine mi_const dc_La_gene_15 ?_
    exact mw_iret dc_La_gene_16 rfl rfl (Or.inr (⟨h', hY, rfl, rfl⟩))
theorem ev_La_copy {G : mm_G} {d mc ms : Nat} {cs : mm_Sh} {I : Nat → Nat → Int32} {J : Nat → Nat → Int64} {F : Nat → Nat → Option Nat} {V : Nat → Nat → Value} {Y : mm_X} {x0 x1 : Int32} (hm : mT G mt_De_copy d mc ms [.ref 0, .int x0, .int x1] (wd_S ++ cs, I, J, F, V) Y) (hv : ∀ v h', Y (.inl v) h' → v = none) (hj : ∀ j h', Y (.inr j) h' → j = 1) : mH G mt_La_copy (d + 1) mc ms [.ref 0, .int x0, .int x1] (wd_S ++ cs, I, J, F, V) (fun o h1 => (∃ h', Y (.inl none) h' ∧ o = .inl (some (.int (iI 0))) ∧ h1 = h') ∨ (∃ h', Y (.inr 1) h' ∧ o = .inl (some (.int (iI 1))) ∧ h1 = h')) := by
  refine mH_intro (by decide) (fun k h q => ?_) (Nat.le_of_ble_eq_true rfl) ?_
  · rcases q with ⟨_, _, q, _⟩ | ⟨_, _, q, _⟩ <;> cases q
  show mW G mt_La_copy (d + 1) mc ms 0 [(0, .ref 0), (1, .int x0), (2, .int x1)] [] (wd_S ++ cs, I, J, F, V) _
  refine mw_aload_n dc_La_copy_0 rfl 0 rfl ?_
  refine mw_iload_n dc_La_copy_1 rfl 1 rfl ?_
  refine mw_iload_n dc_La_copy_2 rfl 2 rfl ?_
  refine mw_le (bc := 0 + mc) (bs := 0 + ms) (by omega) (by omega) ?_
  refine mw_callVH (M2 := mt_De_copy) (as := [.int x0, .int x1]) (b := 0) (st := []) (Y := Y) dc_La_copy_3 ml_La_25 rfl rfl ny_De_copy (by decide) rfl (Nat.le_of_ble_eq_true rfl) hm (fun v h' hY => ?_) (fun j h' hY => ?_)
  · cases hv v h' hY
    refine mw_goto (tgt := 12) dc_La_copy_6 (by decide) ?_
    refine mi_const dc_La_copy_12 ?_
    exact mw_iret dc_La_copy_13 rfl rfl (Or.inl ⟨h', hY, rfl, rfl⟩)
  · cases hj j h' hY
    refine ⟨[], ⟨0, 6, 9, 19⟩, [], _, 3, 1, rfl, fun z hz => absurd hz List.not_mem_nil, by decide, by decide, kl_19, by decide +kernel, by decide, Or.inl ⟨3, rfl, dc_La_copy_9, rfl⟩, ?_⟩
    refine mi_const dc_La_copy_10 ?_
    exact mw_iret dc_La_copy_11 rfl rfl (Or.inr (⟨h', hY, rfl, rfl⟩))
theorem ev_La_reverse {G : mm_G} {d mc ms : Nat} {cs : mm_Sh} {I : Nat → Nat → Int32} {J : Nat → Nat → Int64} {F : Nat → Nat → Option Nat} {V : Nat → Nat → Value} {Y : mm_X} {x0 x1 x2 : Int32} (hm : mT G mt_De_reverse d mc ms [.ref 0, .int x0, .int x1, .int x2] (wd_S ++ cs, I, J, F, V) Y) (hv : ∀ v h', Y (.inl v) h' → v = none) (hj : ∀ j h', Y (.inr j) h' → j = 1) : mH G mt_La_reverse (d + 1) mc ms [.ref 0, .int x0, .int x1, .int x2] (wd_S ++ cs, I, J, F, V) (fun o h1 => (∃ h', Y (.inl none) h' ∧ o = .inl (some (.int (iI 0))) ∧ h1 = h') ∨ (∃ h', Y (.inr 1) h' ∧ o = .inl (some (.int (iI 1))) ∧ h1 = h')) := by
  refine mH_intro (by decide) (fun k h q => ?_) (Nat.le_of_ble_eq_true rfl) ?_
  · rcases q with ⟨_, _, q, _⟩ | ⟨_, _, q, _⟩ <;> cases q
  show mW G mt_La_reverse (d + 1) mc ms 0 [(0, .ref 0), (1, .int x0), (2, .int x1), (3, .int x2)] [] (wd_S ++ cs, I, J, F, V) _
  refine mw_aload_n dc_La_reverse_0 rfl 0 rfl ?_
  refine mw_iload_n dc_La_reverse_1 rfl 1 rfl ?_
  refine mw_iload_n dc_La_reverse_2 rfl 2 rfl ?_
  refine mw_iload_n dc_La_reverse_3 rfl 3 rfl ?_
  refine mw_le (bc := 0 + mc) (bs := 0 + ms) (by omega) (by omega) ?_
  refine mw_callVH (M2 := mt_De_reverse) (as := [.int x0, .int x1, .int x2]) (b := 0) (st := []) (Y := Y) dc_La_reverse_4 ml_La_29 rfl rfl ny_De_reverse (by decide) rfl (Nat.le_of_ble_eq_true rfl) hm (fun v h' hY => ?_) (fun j h' hY => ?_)
  · cases hv v h' hY
    refine mw_goto (tgt := 14) dc_La_reverse_7 (by decide) ?_
    refine mi_const dc_La_reverse_14 ?_
    exact mw_iret dc_La_reverse_15 rfl rfl (Or.inl ⟨h', hY, rfl, rfl⟩)
  · cases hj j h' hY
    refine ⟨[], ⟨0, 7, 10, 19⟩, [], _, 4, 2, rfl, fun z hz => absurd hz List.not_mem_nil, by decide, by decide, kl_19, by decide +kernel, by decide, Or.inr ⟨dc_La_reverse_10, rfl⟩, ?_⟩
    refine mi_const dc_La_reverse_12 ?_
    exact mw_iret dc_La_reverse_13 rfl rfl (Or.inr (⟨h', hY, rfl, rfl⟩))
theorem ev_La_undo {G : mm_G} {d mc ms : Nat} {cs : mm_Sh} {I : Nat → Nat → Int32} {J : Nat → Nat → Int64} {F : Nat → Nat → Option Nat} {V : Nat → Nat → Value} {Y : mm_X} {x0 : Int32} (hm : mT G mt_De_undo d mc ms [.ref 0, .int x0] (wd_S ++ cs, I, J, F, V) Y) (hv : ∀ v h', Y (.inl v) h' → ∃ (x : Int32) (cs1 : mm_Sh) (I1 : Nat → Nat → Int32) (J1 : Nat → Nat → Int64) (F1 : Nat → Nat → Option Nat) (V1 : Nat → Nat → Value), v = some (.int x) ∧ h' = (wd_S ++ cs1, I1, J1, F1, V1)) (hj : ∀ j h', Y (.inr j) h' → j = 1) : mH G mt_La_undo (d + 1) mc ms [.ref 0, .int x0, .ref 58] (wd_S ++ cs, I, J, F, V) (fun o h1 => (∃ (x : Int32) (h9 : mm_H), Y (.inl (some (.int x))) h9 ∧ o = .inl (some (.int (iI 0))) ∧ h1 = (h9.1, h9.2.1, up58 h9.2.2.1 (if x = 0 then 0 else 1), h9.2.2.2)) ∨ (∃ h', Y (.inr 1) h' ∧ o = .inl (some (.int (iI 1))) ∧ h1 = h')) := by
  refine mH_intro (by decide) (fun k h q => ?_) (Nat.le_of_ble_eq_true rfl) ?_
  · rcases q with ⟨_, _, _, q, _⟩ | ⟨_, _, q, _⟩ <;> cases q
  show mW G mt_La_undo (d + 1) mc ms 0 [(0, .ref 0), (1, .int x0), (2, .ref 58)] [] (wd_S ++ cs, I, J, F, V) _
  refine mw_aload_n dc_La_undo_0 rfl 2 rfl ?_
  refine mi_const dc_La_undo_1 ?_
  refine mw_aload_n dc_La_undo_2 rfl 0 rfl ?_
  refine mw_iload_n dc_La_undo_3 rfl 1 rfl ?_
  refine mw_le (bc := 0 + mc) (bs := 0 + ms) (by omega) (by omega) ?_
  refine mw_callVH (M2 := mt_De_undo) (as := [.int x0]) (b := 0) (st := [.int (iI 0), .ref 58]) (Y := Y) dc_La_undo_4 ml_La_33 rfl rfl ny_De_undo (by decide) rfl (Nat.le_of_ble_eq_true rfl) hm (fun v h' hY => ?_) (fun j h' hY => ?_)
  · obtain ⟨x, cs1, I1, J1, F1, V1, rfl, rfl⟩ := hv v h' hY
    refine mw_if_eq (tgt := 14) dc_La_undo_7 (by decide) (fun hb => ?_) (fun hb => ?_)
    · refine mw_lconst (v := 0) dc_La_undo_14 (by decide) ?_
      refine mi_last dc_La_undo_15 rfl ⟨by decide, by decide, by decide⟩ (J' := up58 J1 0) rfl ?_
      refine mw_goto (tgt := 22) dc_La_undo_16 (by decide) ?_
      refine mi_const dc_La_undo_22 ?_
      exact mw_iret dc_La_undo_23 rfl rfl (Or.inl ⟨x, _, hY, rfl, by rw [show (if x = 0 then (0 : Int64) else 1) = 0 from if_pos hb]⟩)
    · refine mw_lconst (v := 1) dc_La_undo_10 (by decide) ?_
      refine mw_goto (tgt := 15) dc_La_undo_11 (by decide) ?_
      refine mi_last dc_La_undo_15 rfl ⟨by decide, by decide, by decide⟩ (J' := up58 J1 1) rfl ?_
      refine mw_goto (tgt := 22) dc_La_undo_16 (by decide) ?_
      refine mi_const dc_La_undo_22 ?_
      exact mw_iret dc_La_undo_23 rfl rfl (Or.inl ⟨x, _, hY, rfl, by rw [show (if x = 0 then (0 : Int64) else 1) = 1 from if_neg hb]⟩)
  · cases hj j h' hY
    refine ⟨[], ⟨0, 16, 19, 19⟩, [], _, 3, 1, rfl, fun z hz => absurd hz List.not_mem_nil, by decide, by decide, kl_19, by decide +kernel, by decide, Or.inl ⟨3, rfl, dc_La_undo_19, rfl⟩, ?_⟩
    refine mi_const dc_La_undo_20 ?_
    exact mw_iret dc_La_undo_21 rfl rfl (Or.inr (⟨h', hY, rfl, rfl⟩))
theorem ev_La_distance {G : mm_G} {d mc ms : Nat} {cs : mm_Sh} {I : Nat → Nat → Int32} {J : Nat → Nat → Int64} {F : Nat → Nat → Option Nat} {V : Nat → Nat → Value} {Y : mm_X} {x0 x1 : Int32} (hm : mT G mt_De_distance d mc ms [.ref 0, .int x0, .int x1] (wd_S ++ cs, I, J, F, V) Y) (hv : ∀ v h', Y (.inl v) h' → ∃ (x : Int32) (cs1 : mm_Sh) (I1 : Nat → Nat → Int32) (J1 : Nat → Nat → Int64) (F1 : Nat → Nat → Option Nat) (V1 : Nat → Nat → Value), v = some (.int x) ∧ h' = (wd_S ++ cs1, I1, J1, F1, V1)) (hj : ∀ j h', Y (.inr j) h' → j = 1) : mH G mt_La_distance (d + 1) mc ms [.ref 0, .int x0, .int x1, .ref 58] (wd_S ++ cs, I, J, F, V) (fun o h1 => (∃ (x : Int32) (h9 : mm_H), Y (.inl (some (.int x))) h9 ∧ o = .inl (some (.int (iI 0))) ∧ h1 = (h9.1, h9.2.1, up58 h9.2.2.1 x.toInt64, h9.2.2.2)) ∨ (∃ h', Y (.inr 1) h' ∧ o = .inl (some (.int (iI 1))) ∧ h1 = h')) := by
  refine mH_intro (by decide) (fun k h q => ?_) (Nat.le_of_ble_eq_true rfl) ?_
  · rcases q with ⟨_, _, _, q, _⟩ | ⟨_, _, q, _⟩ <;> cases q
  show mW G mt_La_distance (d + 1) mc ms 0 [(0, .ref 0), (1, .int x0), (2, .int x1), (3, .ref 58)] [] (wd_S ++ cs, I, J, F, V) _
  refine mw_aload_n dc_La_distance_0 rfl 3 rfl ?_
  refine mi_const dc_La_distance_1 ?_
  refine mw_aload_n dc_La_distance_2 rfl 0 rfl ?_
  refine mw_iload_n dc_La_distance_3 rfl 1 rfl ?_
  refine mw_iload_n dc_La_distance_4 rfl 2 rfl ?_
  refine mw_le (bc := 0 + mc) (bs := 0 + ms) (by omega) (by omega) ?_
  refine mw_callVH (M2 := mt_De_distance) (as := [.int x0, .int x1]) (b := 0) (st := [.int (iI 0), .ref 58]) (Y := Y) dc_La_distance_5 ml_La_37 rfl rfl ny_De_distance (by decide) rfl (Nat.le_of_ble_eq_true rfl) hm (fun v h' hY => ?_) (fun j h' hY => ?_)
  · obtain ⟨x, cs1, I1, J1, F1, V1, rfl, rfl⟩ := hv v h' hY
    refine mw_i2l dc_La_distance_8 ?_
    refine mi_last dc_La_distance_9 rfl ⟨by decide, by decide, by decide⟩ (J' := up58 J1 x.toInt64) rfl ?_
    refine mw_goto (tgt := 17) dc_La_distance_10 (by decide) ?_
    refine mi_const dc_La_distance_17 ?_
    exact mw_iret dc_La_distance_18 rfl rfl (Or.inl ⟨x, _, hY, rfl, rfl⟩)
  · cases hj j h' hY
    refine ⟨[], ⟨0, 10, 13, 19⟩, [], _, 4, 2, rfl, fun z hz => absurd hz List.not_mem_nil, by decide, by decide, kl_19, by decide +kernel, by decide, Or.inr ⟨dc_La_distance_13, rfl⟩, ?_⟩
    refine mi_const dc_La_distance_15 ?_
    exact mw_iret dc_La_distance_16 rfl rfl (Or.inr (⟨h', hY, rfl, rfl⟩))
theorem ev_La_drawing {G : mm_G} {d mc ms : Nat} {cs : mm_Sh} {I : Nat → Nat → Int32} {J : Nat → Nat → Int64} {F : Nat → Nat → Option Nat} {V : Nat → Nat → Value} {Y : mm_X} {x0 x1 x2 : Int32} (hm : mT G mt_De_drawing d mc ms [.ref 0, .int x0, .int x1, .int x2] (wd_S ++ cs, I, J, F, V) Y) (hv : ∀ v h', Y (.inl v) h' → ∃ (x : Int32) (cs1 : mm_Sh) (I1 : Nat → Nat → Int32) (J1 : Nat → Nat → Int64) (F1 : Nat → Nat → Option Nat) (V1 : Nat → Nat → Value), v = some (.int x) ∧ h' = (wd_S ++ cs1, I1, J1, F1, V1)) (hj : ∀ j h', Y (.inr j) h' → j = 1 ∨ j = 0) : mH G mt_La_drawing (d + 1) mc ms [.ref 0, .int x0, .int x1, .int x2, .ref 58] (wd_S ++ cs, I, J, F, V) (fun o h1 => (∃ (x : Int32) (h9 : mm_H), Y (.inl (some (.int x))) h9 ∧ o = .inl (some (.int (iI 0))) ∧ h1 = (h9.1, h9.2.1, up58 h9.2.2.1 x.toInt64, h9.2.2.2)) ∨ (∃ h', Y (.inr 1) h' ∧ o = .inl (some (.int (iI 1))) ∧ h1 = h') ∨ (∃ h', Y (.inr 0) h' ∧ o = .inl (some (.int (iI 2))) ∧ h1 = h')) := by
  refine mH_intro (by decide) (fun k h q => ?_) (Nat.le_of_ble_eq_true rfl) ?_
  · rcases q with ⟨_, _, _, q, _⟩ | ⟨_, _, q, _⟩ | ⟨_, _, q, _⟩ <;> cases q
  show mW G mt_La_drawing (d + 1) mc ms 0 [(0, .ref 0), (1, .int x0), (2, .int x1), (3, .int x2), (4, .ref 58)] [] (wd_S ++ cs, I, J, F, V) _
  refine mw_aload dc_La_drawing_0 4 rfl ?_
  refine mi_const dc_La_drawing_2 ?_
  refine mw_aload_n dc_La_drawing_3 rfl 0 rfl ?_
  refine mw_iload_n dc_La_drawing_4 rfl 1 rfl ?_
  refine mw_iload_n dc_La_drawing_5 rfl 2 rfl ?_
  refine mw_iload_n dc_La_drawing_6 rfl 3 rfl ?_
  refine mw_le (bc := 0 + mc) (bs := 0 + ms) (by omega) (by omega) ?_
  refine mw_callVH (M2 := mt_De_drawing) (as := [.int x0, .int x1, .int x2]) (b := 0) (st := [.int (iI 0), .ref 58]) (Y := Y) dc_La_drawing_7 ml_La_40 rfl rfl ny_De_drawing (by decide) rfl (Nat.le_of_ble_eq_true rfl) hm (fun v h' hY => ?_) (fun j h' hY => ?_)
  · obtain ⟨x, cs1, I1, J1, F1, V1, rfl, rfl⟩ := hv v h' hY
    refine mw_i2l dc_La_drawing_10 ?_
    refine mi_last dc_La_drawing_11 rfl ⟨by decide, by decide, by decide⟩ (J' := up58 J1 x.toInt64) rfl ?_
    refine mw_goto (tgt := 23) dc_La_drawing_12 (by decide) ?_
    refine mi_const dc_La_drawing_23 ?_
    exact mw_iret dc_La_drawing_24 rfl rfl (Or.inl ⟨x, _, hY, rfl, rfl⟩)
  · rcases hj j h' hY with rfl | rfl
    · refine ⟨[], ⟨0, 12, 15, 19⟩, [⟨0, 12, 19, 13⟩], _, 5, 2, rfl, fun z hz => absurd hz List.not_mem_nil, by decide, by decide, kl_19, by decide +kernel, by decide, Or.inr ⟨dc_La_drawing_15, rfl⟩, ?_⟩
      refine mi_const dc_La_drawing_17 ?_
      exact mw_iret dc_La_drawing_18 rfl rfl (Or.inr (Or.inl ⟨h', hY, rfl, rfl⟩))
    · refine ⟨[⟨0, 12, 15, 19⟩], ⟨0, 12, 19, 13⟩, [], _, 5, 2, rfl, fun z hz => by rcases List.mem_cons.mp hz with rfl | hz; exact Or.inr ⟨by decide, _, kl_19, by decide +kernel⟩; exact absurd hz List.not_mem_nil, by decide, by decide, kl_13, by decide +kernel, by decide, Or.inr ⟨dc_La_drawing_19, rfl⟩, ?_⟩
      refine mi_const dc_La_drawing_21 ?_
      exact mw_iret dc_La_drawing_22 rfl rfl (Or.inr (Or.inr ⟨h', hY, rfl, rfl⟩))
theorem ev_La_line {G : mm_G} {d mc ms : Nat} {cs : mm_Sh} {I : Nat → Nat → Int32} {J : Nat → Nat → Int64} {F : Nat → Nat → Option Nat} {V : Nat → Nat → Value} {Y : mm_X} {x0 x1 x2 : Int32} (hm : mT G mt_De_line d mc ms [.ref 0, .int x0, .int x1, .int x2] (wd_S ++ cs, I, J, F, V) Y) (hv : ∀ v h', Y (.inl v) h' → ∃ (x : Int32) (cs1 : mm_Sh) (I1 : Nat → Nat → Int32) (J1 : Nat → Nat → Int64) (F1 : Nat → Nat → Option Nat) (V1 : Nat → Nat → Value), v = some (.int x) ∧ h' = (wd_S ++ cs1, I1, J1, F1, V1)) (hj : ∀ j h', Y (.inr j) h' → j = 1 ∨ j = 0) : mH G mt_La_line (d + 1) mc ms [.ref 0, .int x0, .int x1, .int x2, .ref 58] (wd_S ++ cs, I, J, F, V) (fun o h1 => (∃ (x : Int32) (h9 : mm_H), Y (.inl (some (.int x))) h9 ∧ o = .inl (some (.int (iI 0))) ∧ h1 = (h9.1, h9.2.1, up58 h9.2.2.1 x.toInt64, h9.2.2.2)) ∨ (∃ h', Y (.inr 1) h' ∧ o = .inl (some (.int (iI 1))) ∧ h1 = h') ∨ (∃ h', Y (.inr 0) h' ∧ o = .inl (some (.int (iI 2))) ∧ h1 = h')) := by
  refine mH_intro (by decide) (fun k h q => ?_) (Nat.le_of_ble_eq_true rfl) ?_
  · rcases q with ⟨_, _, _, q, _⟩ | ⟨_, _, q, _⟩ | ⟨_, _, q, _⟩ <;> cases q
  show mW G mt_La_line (d + 1) mc ms 0 [(0, .ref 0), (1, .int x0), (2, .int x1), (3, .int x2), (4, .ref 58)] [] (wd_S ++ cs, I, J, F, V) _
  refine mw_aload dc_La_line_0 4 rfl ?_
  refine mi_const dc_La_line_2 ?_
  refine mw_aload_n dc_La_line_3 rfl 0 rfl ?_
  refine mw_iload_n dc_La_line_4 rfl 1 rfl ?_
  refine mw_iload_n dc_La_line_5 rfl 2 rfl ?_
  refine mw_iload_n dc_La_line_6 rfl 3 rfl ?_
  refine mw_le (bc := 0 + mc) (bs := 0 + ms) (by omega) (by omega) ?_
  refine mw_callVH (M2 := mt_De_line) (as := [.int x0, .int x1, .int x2]) (b := 0) (st := [.int (iI 0), .ref 58]) (Y := Y) dc_La_line_7 ml_La_44 rfl rfl ny_De_line (by decide) rfl (Nat.le_of_ble_eq_true rfl) hm (fun v h' hY => ?_) (fun j h' hY => ?_)
  · obtain ⟨x, cs1, I1, J1, F1, V1, rfl, rfl⟩ := hv v h' hY
    refine mw_i2l dc_La_line_10 ?_
    refine mi_last dc_La_line_11 rfl ⟨by decide, by decide, by decide⟩ (J' := up58 J1 x.toInt64) rfl ?_
    refine mw_goto (tgt := 23) dc_La_line_12 (by decide) ?_
    refine mi_const dc_La_line_23 ?_
    exact mw_iret dc_La_line_24 rfl rfl (Or.inl ⟨x, _, hY, rfl, rfl⟩)
  · rcases hj j h' hY with rfl | rfl
    · refine ⟨[], ⟨0, 12, 15, 19⟩, [⟨0, 12, 19, 13⟩], _, 5, 2, rfl, fun z hz => absurd hz List.not_mem_nil, by decide, by decide, kl_19, by decide +kernel, by decide, Or.inr ⟨dc_La_line_15, rfl⟩, ?_⟩
      refine mi_const dc_La_line_17 ?_
      exact mw_iret dc_La_line_18 rfl rfl (Or.inr (Or.inl ⟨h', hY, rfl, rfl⟩))
    · refine ⟨[⟨0, 12, 15, 19⟩], ⟨0, 12, 19, 13⟩, [], _, 5, 2, rfl, fun z hz => by rcases List.mem_cons.mp hz with rfl | hz; exact Or.inr ⟨by decide, _, kl_19, by decide +kernel⟩; exact absurd hz List.not_mem_nil, by decide, by decide, kl_13, by decide +kernel, by decide, Or.inr ⟨dc_La_line_19, rfl⟩, ?_⟩
      refine mi_const dc_La_line_21 ?_
      exact mw_iret dc_La_line_22 rfl rfl (Or.inr (Or.inr ⟨h', hY, rfl, rfl⟩))
theorem ev_La_interval {G : mm_G} {d mc ms : Nat} {cs : mm_Sh} {I : Nat → Nat → Int32} {J : Nat → Nat → Int64} {F : Nat → Nat → Option Nat} {V : Nat → Nat → Value} {Y : mm_X} {x0 x1 x2 : Int32} (hm : mT G mt_De_interval d mc ms [.ref 0, .int x0, .int x1, .int x2] (wd_S ++ cs, I, J, F, V) Y) (hv : ∀ v h', Y (.inl v) h' → ∃ (x : Int32) (cs1 : mm_Sh) (I1 : Nat → Nat → Int32) (J1 : Nat → Nat → Int64) (F1 : Nat → Nat → Option Nat) (V1 : Nat → Nat → Value), v = some (.int x) ∧ h' = (wd_S ++ cs1, I1, J1, F1, V1)) (hj : ∀ j h', Y (.inr j) h' → j = 1) : mH G mt_La_interval (d + 1) mc ms [.ref 0, .int x0, .int x1, .int x2, .ref 58] (wd_S ++ cs, I, J, F, V) (fun o h1 => (∃ (x : Int32) (h9 : mm_H), Y (.inl (some (.int x))) h9 ∧ o = .inl (some (.int (iI 0))) ∧ h1 = (h9.1, h9.2.1, up58 h9.2.2.1 x.toInt64, h9.2.2.2)) ∨ (∃ h', Y (.inr 1) h' ∧ o = .inl (some (.int (iI 1))) ∧ h1 = h')) := by
  refine mH_intro (by decide) (fun k h q => ?_) (Nat.le_of_ble_eq_true rfl) ?_
  · rcases q with ⟨_, _, _, q, _⟩ | ⟨_, _, q, _⟩ <;> cases q
  show mW G mt_La_interval (d + 1) mc ms 0 [(0, .ref 0), (1, .int x0), (2, .int x1), (3, .int x2), (4, .ref 58)] [] (wd_S ++ cs, I, J, F, V) _
  refine mw_aload dc_La_interval_0 4 rfl ?_
  refine mi_const dc_La_interval_2 ?_
  refine mw_aload_n dc_La_interval_3 rfl 0 rfl ?_
  refine mw_iload_n dc_La_interval_4 rfl 1 rfl ?_
  refine mw_iload_n dc_La_interval_5 rfl 2 rfl ?_
  refine mw_iload_n dc_La_interval_6 rfl 3 rfl ?_
  refine mw_le (bc := 0 + mc) (bs := 0 + ms) (by omega) (by omega) ?_
  refine mw_callVH (M2 := mt_De_interval) (as := [.int x0, .int x1, .int x2]) (b := 0) (st := [.int (iI 0), .ref 58]) (Y := Y) dc_La_interval_7 ml_La_47 rfl rfl ny_De_interval (by decide) rfl (Nat.le_of_ble_eq_true rfl) hm (fun v h' hY => ?_) (fun j h' hY => ?_)
  · obtain ⟨x, cs1, I1, J1, F1, V1, rfl, rfl⟩ := hv v h' hY
    refine mw_i2l dc_La_interval_10 ?_
    refine mi_last dc_La_interval_11 rfl ⟨by decide, by decide, by decide⟩ (J' := up58 J1 x.toInt64) rfl ?_
    refine mw_goto (tgt := 19) dc_La_interval_12 (by decide) ?_
    refine mi_const dc_La_interval_19 ?_
    exact mw_iret dc_La_interval_20 rfl rfl (Or.inl ⟨x, _, hY, rfl, rfl⟩)
  · cases hj j h' hY
    refine ⟨[], ⟨0, 12, 15, 19⟩, [], _, 5, 2, rfl, fun z hz => absurd hz List.not_mem_nil, by decide, by decide, kl_19, by decide +kernel, by decide, Or.inr ⟨dc_La_interval_15, rfl⟩, ?_⟩
    refine mi_const dc_La_interval_17 ?_
    exact mw_iret dc_La_interval_18 rfl rfl (Or.inr (⟨h', hY, rfl, rfl⟩))
theorem ev_La_scenario {G : mm_G} {d mc ms : Nat} {cs : mm_Sh} {I : Nat → Nat → Int32} {J : Nat → Nat → Int64} {F : Nat → Nat → Option Nat} {V : Nat → Nat → Value} {Y : mm_X} {x0 x1 : Int32} (hm : mT G mt_De_scenario d mc ms [.ref 0, .int x0, .int x1] (wd_S ++ cs, I, J, F, V) Y) (hv : ∀ v h', Y (.inl v) h' → ∃ (x : Int32) (cs1 : mm_Sh) (I1 : Nat → Nat → Int32) (J1 : Nat → Nat → Int64) (F1 : Nat → Nat → Option Nat) (V1 : Nat → Nat → Value), v = some (.int x) ∧ h' = (wd_S ++ cs1, I1, J1, F1, V1)) (hj : ∀ j h', Y (.inr j) h' → j = 1) : mH G mt_La_scenario (d + 1) mc ms [.ref 0, .int x0, .int x1, .ref 58] (wd_S ++ cs, I, J, F, V) (fun o h1 => (∃ (x : Int32) (h9 : mm_H), Y (.inl (some (.int x))) h9 ∧ o = .inl (some (.int (iI 0))) ∧ h1 = (h9.1, h9.2.1, up58 h9.2.2.1 x.toInt64, h9.2.2.2)) ∨ (∃ h', Y (.inr 1) h' ∧ o = .inl (some (.int (iI 1))) ∧ h1 = h')) := by
  refine mH_intro (by decide) (fun k h q => ?_) (Nat.le_of_ble_eq_true rfl) ?_
  · rcases q with ⟨_, _, _, q, _⟩ | ⟨_, _, q, _⟩ <;> cases q
  show mW G mt_La_scenario (d + 1) mc ms 0 [(0, .ref 0), (1, .int x0), (2, .int x1), (3, .ref 58)] [] (wd_S ++ cs, I, J, F, V) _
  refine mw_aload_n dc_La_scenario_0 rfl 3 rfl ?_
  refine mi_const dc_La_scenario_1 ?_
  refine mw_aload_n dc_La_scenario_2 rfl 0 rfl ?_
  refine mw_iload_n dc_La_scenario_3 rfl 1 rfl ?_
  refine mw_iload_n dc_La_scenario_4 rfl 2 rfl ?_
  refine mw_le (bc := 0 + mc) (bs := 0 + ms) (by omega) (by omega) ?_
  refine mw_callVH (M2 := mt_De_scenario) (as := [.int x0, .int x1]) (b := 0) (st := [.int (iI 0), .ref 58]) (Y := Y) dc_La_scenario_5 ml_La_50 rfl rfl ny_De_scenario (by decide) rfl (Nat.le_of_ble_eq_true rfl) hm (fun v h' hY => ?_) (fun j h' hY => ?_)
  · obtain ⟨x, cs1, I1, J1, F1, V1, rfl, rfl⟩ := hv v h' hY
    refine mw_i2l dc_La_scenario_8 ?_
    refine mi_last dc_La_scenario_9 rfl ⟨by decide, by decide, by decide⟩ (J' := up58 J1 x.toInt64) rfl ?_
    refine mw_goto (tgt := 17) dc_La_scenario_10 (by decide) ?_
    refine mi_const dc_La_scenario_17 ?_
    exact mw_iret dc_La_scenario_18 rfl rfl (Or.inl ⟨x, _, hY, rfl, rfl⟩)
  · cases hj j h' hY
    refine ⟨[], ⟨0, 10, 13, 19⟩, [], _, 4, 2, rfl, fun z hz => absurd hz List.not_mem_nil, by decide, by decide, kl_19, by decide +kernel, by decide, Or.inr ⟨dc_La_scenario_13, rfl⟩, ?_⟩
    refine mi_const dc_La_scenario_15 ?_
    exact mw_iret dc_La_scenario_16 rfl rfl (Or.inr (⟨h', hY, rfl, rfl⟩))
theorem ev_La_step {G : mm_G} {d mc ms : Nat} {cs : mm_Sh} {I : Nat → Nat → Int32} {J : Nat → Nat → Int64} {F : Nat → Nat → Option Nat} {V : Nat → Nat → Value} {Y : mm_X} {x0 : Int32} (hm : mT G mt_De_step d mc ms [.ref 0, .int x0] (wd_S ++ cs, I, J, F, V) Y) (hv : ∀ v h', Y (.inl v) h' → ∃ (x : Int32) (cs1 : mm_Sh) (I1 : Nat → Nat → Int32) (J1 : Nat → Nat → Int64) (F1 : Nat → Nat → Option Nat) (V1 : Nat → Nat → Value), v = some (.int x) ∧ h' = (wd_S ++ cs1, I1, J1, F1, V1)) (hj : ∀ j h', Y (.inr j) h' → j = 2 ∨ j = 0) : mH G mt_La_step (d + 1) mc ms [.ref 0, .int x0, .ref 58] (wd_S ++ cs, I, J, F, V) (fun o h1 => (∃ (x : Int32) (h9 : mm_H), Y (.inl (some (.int x))) h9 ∧ o = .inl (some (.int (iI 0))) ∧ h1 = (h9.1, h9.2.1, up58 h9.2.2.1 x.toInt64, h9.2.2.2)) ∨ (∃ h', Y (.inr 2) h' ∧ o = .inl (some (.int (iI 1))) ∧ h1 = h') ∨ (∃ h', Y (.inr 0) h' ∧ o = .inl (some (.int (iI 2))) ∧ h1 = h')) := by
  refine mH_intro (by decide) (fun k h q => ?_) (Nat.le_of_ble_eq_true rfl) ?_
  · rcases q with ⟨_, _, _, q, _⟩ | ⟨_, _, q, _⟩ | ⟨_, _, q, _⟩ <;> cases q
  show mW G mt_La_step (d + 1) mc ms 0 [(0, .ref 0), (1, .int x0), (2, .ref 58)] [] (wd_S ++ cs, I, J, F, V) _
  refine mw_aload_n dc_La_step_0 rfl 2 rfl ?_
  refine mi_const dc_La_step_1 ?_
  refine mw_aload_n dc_La_step_2 rfl 0 rfl ?_
  refine mw_iload_n dc_La_step_3 rfl 1 rfl ?_
  refine mw_le (bc := 0 + mc) (bs := 0 + ms) (by omega) (by omega) ?_
  refine mw_callVH (M2 := mt_De_step) (as := [.int x0]) (b := 0) (st := [.int (iI 0), .ref 58]) (Y := Y) dc_La_step_4 ml_La_53 rfl rfl ny_De_step (by decide) rfl (Nat.le_of_ble_eq_true rfl) hm (fun v h' hY => ?_) (fun j h' hY => ?_)
  · obtain ⟨x, cs1, I1, J1, F1, V1, rfl, rfl⟩ := hv v h' hY
    refine mw_i2l dc_La_step_7 ?_
    refine mi_last dc_La_step_8 rfl ⟨by decide, by decide, by decide⟩ (J' := up58 J1 x.toInt64) rfl ?_
    refine mw_goto (tgt := 18) dc_La_step_9 (by decide) ?_
    refine mi_const dc_La_step_18 ?_
    exact mw_iret dc_La_step_19 rfl rfl (Or.inl ⟨x, _, hY, rfl, rfl⟩)
  · rcases hj j h' hY with rfl | rfl
    · refine ⟨[], ⟨0, 9, 12, 56⟩, [⟨0, 9, 15, 13⟩], _, 3, 1, rfl, fun z hz => absurd hz List.not_mem_nil, by decide, by decide, kl_56, by decide +kernel, by decide, Or.inl ⟨3, rfl, dc_La_step_12, rfl⟩, ?_⟩
      refine mi_const dc_La_step_13 ?_
      exact mw_iret dc_La_step_14 rfl rfl (Or.inr (Or.inl ⟨h', hY, rfl, rfl⟩))
    · refine ⟨[⟨0, 9, 12, 56⟩], ⟨0, 9, 15, 13⟩, [], _, 3, 1, rfl, fun z hz => by rcases List.mem_cons.mp hz with rfl | hz; exact Or.inr ⟨by decide, _, kl_56, by decide +kernel⟩; exact absurd hz List.not_mem_nil, by decide, by decide, kl_13, by decide +kernel, by decide, Or.inl ⟨3, rfl, dc_La_step_15, rfl⟩, ?_⟩
      refine mi_const dc_La_step_16 ?_
      exact mw_iret dc_La_step_17 rfl rfl (Or.inr (Or.inr ⟨h', hY, rfl, rfl⟩))
theorem ev_La_ways {G : mm_G} {d mc ms : Nat} {cs : mm_Sh} {I : Nat → Nat → Int32} {J : Nat → Nat → Int64} {F : Nat → Nat → Option Nat} {V : Nat → Nat → Value} {Y : mm_X} {x0 x1 : Int32} (hm : mT G mt_De_ways d mc ms [.ref 0, .int x0, .int x1] (wd_S ++ cs, I, J, F, V) Y) (hv : ∀ v h', Y (.inl v) h' → ∃ (x : Int64) (cs1 : mm_Sh) (I1 : Nat → Nat → Int32) (J1 : Nat → Nat → Int64) (F1 : Nat → Nat → Option Nat) (V1 : Nat → Nat → Value), v = some (.long x) ∧ h' = (wd_S ++ cs1, I1, J1, F1, V1)) (hj : ∀ j h', Y (.inr j) h' → j = 1 ∨ j = 3) : mH G mt_La_ways (d + 1) mc ms [.ref 0, .int x0, .int x1, .ref 58] (wd_S ++ cs, I, J, F, V) (fun o h1 => (∃ (x : Int64) (h9 : mm_H), Y (.inl (some (.long x))) h9 ∧ o = .inl (some (.int (iI 0))) ∧ h1 = (h9.1, h9.2.1, up58 h9.2.2.1 x, h9.2.2.2)) ∨ (∃ h', Y (.inr 1) h' ∧ o = .inl (some (.int (iI 1))) ∧ h1 = h') ∨ (∃ h', Y (.inr 3) h' ∧ o = .inl (some (.int (iI 2))) ∧ h1 = h')) := by
  refine mH_intro (by decide) (fun k h q => ?_) (Nat.le_of_ble_eq_true rfl) ?_
  · rcases q with ⟨_, _, _, q, _⟩ | ⟨_, _, q, _⟩ | ⟨_, _, q, _⟩ <;> cases q
  show mW G mt_La_ways (d + 1) mc ms 0 [(0, .ref 0), (1, .int x0), (2, .int x1), (3, .ref 58)] [] (wd_S ++ cs, I, J, F, V) _
  refine mw_aload_n dc_La_ways_0 rfl 3 rfl ?_
  refine mi_const dc_La_ways_1 ?_
  refine mw_aload_n dc_La_ways_2 rfl 0 rfl ?_
  refine mw_iload_n dc_La_ways_3 rfl 1 rfl ?_
  refine mw_iload_n dc_La_ways_4 rfl 2 rfl ?_
  refine mw_le (bc := 0 + mc) (bs := 0 + ms) (by omega) (by omega) ?_
  refine mw_callVH (M2 := mt_De_ways) (as := [.int x0, .int x1]) (b := 0) (st := [.int (iI 0), .ref 58]) (Y := Y) dc_La_ways_5 ml_La_58 rfl rfl ny_De_ways (by decide) rfl (Nat.le_of_ble_eq_true rfl) hm (fun v h' hY => ?_) (fun j h' hY => ?_)
  · obtain ⟨x, cs1, I1, J1, F1, V1, rfl, rfl⟩ := hv v h' hY
    refine mi_last dc_La_ways_8 rfl ⟨by decide, by decide, by decide⟩ (J' := up58 J1 x) rfl ?_
    refine mw_goto (tgt := 20) dc_La_ways_9 (by decide) ?_
    refine mi_const dc_La_ways_20 ?_
    exact mw_iret dc_La_ways_21 rfl rfl (Or.inl ⟨x, _, hY, rfl, rfl⟩)
  · rcases hj j h' hY with rfl | rfl
    · refine ⟨[], ⟨0, 9, 12, 19⟩, [⟨0, 9, 16, 62⟩], _, 4, 2, rfl, fun z hz => absurd hz List.not_mem_nil, by decide, by decide, kl_19, by decide +kernel, by decide, Or.inr ⟨dc_La_ways_12, rfl⟩, ?_⟩
      refine mi_const dc_La_ways_14 ?_
      exact mw_iret dc_La_ways_15 rfl rfl (Or.inr (Or.inl ⟨h', hY, rfl, rfl⟩))
    · refine ⟨[⟨0, 9, 12, 19⟩], ⟨0, 9, 16, 62⟩, [], _, 4, 2, rfl, fun z hz => by rcases List.mem_cons.mp hz with rfl | hz; exact Or.inr ⟨by decide, _, kl_19, by decide +kernel⟩; exact absurd hz List.not_mem_nil, by decide, by decide, kl_62, by decide +kernel, by decide, Or.inr ⟨dc_La_ways_16, rfl⟩, ?_⟩
      refine mi_const dc_La_ways_18 ?_
      exact mw_iret dc_La_ways_19 rfl rfl (Or.inr (Or.inr ⟨h', hY, rfl, rfl⟩))
theorem ev_La_circle {G : mm_G} {d mc ms : Nat} {cs : mm_Sh} {I : Nat → Nat → Int32} {J : Nat → Nat → Int64} {F : Nat → Nat → Option Nat} {V : Nat → Nat → Value} {Y : mm_X} {x0 x1 : Int32} (hm : mT G mt_De_circle d mc ms [.ref 0, .int x0, .int x1] (wd_S ++ cs, I, J, F, V) Y) (hv : ∀ v h', Y (.inl v) h' → ∃ (x : Int32) (cs1 : mm_Sh) (I1 : Nat → Nat → Int32) (J1 : Nat → Nat → Int64) (F1 : Nat → Nat → Option Nat) (V1 : Nat → Nat → Value), v = some (.int x) ∧ h' = (wd_S ++ cs1, I1, J1, F1, V1)) (hj : ∀ j h', Y (.inr j) h' → j = 1 ∨ j = 3) : mH G mt_La_circle (d + 1) mc ms [.ref 0, .int x0, .int x1, .ref 58] (wd_S ++ cs, I, J, F, V) (fun o h1 => (∃ (x : Int32) (h9 : mm_H), Y (.inl (some (.int x))) h9 ∧ o = .inl (some (.int (iI 0))) ∧ h1 = (h9.1, h9.2.1, up58 h9.2.2.1 x.toInt64, h9.2.2.2)) ∨ (∃ h', Y (.inr 1) h' ∧ o = .inl (some (.int (iI 1))) ∧ h1 = h') ∨ (∃ h', Y (.inr 3) h' ∧ o = .inl (some (.int (iI 2))) ∧ h1 = h')) := by
  refine mH_intro (by decide) (fun k h q => ?_) (Nat.le_of_ble_eq_true rfl) ?_
  · rcases q with ⟨_, _, _, q, _⟩ | ⟨_, _, q, _⟩ | ⟨_, _, q, _⟩ <;> cases q
  show mW G mt_La_circle (d + 1) mc ms 0 [(0, .ref 0), (1, .int x0), (2, .int x1), (3, .ref 58)] [] (wd_S ++ cs, I, J, F, V) _
  refine mw_aload_n dc_La_circle_0 rfl 3 rfl ?_
  refine mi_const dc_La_circle_1 ?_
  refine mw_aload_n dc_La_circle_2 rfl 0 rfl ?_
  refine mw_iload_n dc_La_circle_3 rfl 1 rfl ?_
  refine mw_iload_n dc_La_circle_4 rfl 2 rfl ?_
  refine mw_le (bc := 0 + mc) (bs := 0 + ms) (by omega) (by omega) ?_
  refine mw_callVH (M2 := mt_De_circle) (as := [.int x0, .int x1]) (b := 0) (st := [.int (iI 0), .ref 58]) (Y := Y) dc_La_circle_5 ml_La_64 rfl rfl ny_De_circle (by decide) rfl (Nat.le_of_ble_eq_true rfl) hm (fun v h' hY => ?_) (fun j h' hY => ?_)
  · obtain ⟨x, cs1, I1, J1, F1, V1, rfl, rfl⟩ := hv v h' hY
    refine mw_i2l dc_La_circle_8 ?_
    refine mi_last dc_La_circle_9 rfl ⟨by decide, by decide, by decide⟩ (J' := up58 J1 x.toInt64) rfl ?_
    refine mw_goto (tgt := 21) dc_La_circle_10 (by decide) ?_
    refine mi_const dc_La_circle_21 ?_
    exact mw_iret dc_La_circle_22 rfl rfl (Or.inl ⟨x, _, hY, rfl, rfl⟩)
  · rcases hj j h' hY with rfl | rfl
    · refine ⟨[], ⟨0, 10, 13, 19⟩, [⟨0, 10, 17, 62⟩], _, 4, 2, rfl, fun z hz => absurd hz List.not_mem_nil, by decide, by decide, kl_19, by decide +kernel, by decide, Or.inr ⟨dc_La_circle_13, rfl⟩, ?_⟩
      refine mi_const dc_La_circle_15 ?_
      exact mw_iret dc_La_circle_16 rfl rfl (Or.inr (Or.inl ⟨h', hY, rfl, rfl⟩))
    · refine ⟨[⟨0, 10, 13, 19⟩], ⟨0, 10, 17, 62⟩, [], _, 4, 2, rfl, fun z hz => by rcases List.mem_cons.mp hz with rfl | hz; exact Or.inr ⟨by decide, _, kl_19, by decide +kernel⟩; exact absurd hz List.not_mem_nil, by decide, by decide, kl_62, by decide +kernel, by decide, Or.inr ⟨dc_La_circle_17, rfl⟩, ?_⟩
      refine mi_const dc_La_circle_19 ?_
      exact mw_iret dc_La_circle_20 rfl rfl (Or.inr (Or.inr ⟨h', hY, rfl, rfl⟩))
theorem ev_La_median {G : mm_G} {d mc ms : Nat} {cs : mm_Sh} {I : Nat → Nat → Int32} {J : Nat → Nat → Int64} {F : Nat → Nat → Option Nat} {V : Nat → Nat → Value} {Y : mm_X} {x0 x1 x2 : Int32} (hm : mT G mt_De_median d mc ms [.ref 0, .int x0, .int x1, .int x2] (wd_S ++ cs, I, J, F, V) Y) (hv : ∀ v h', Y (.inl v) h' → ∃ (x : Int32) (cs1 : mm_Sh) (I1 : Nat → Nat → Int32) (J1 : Nat → Nat → Int64) (F1 : Nat → Nat → Option Nat) (V1 : Nat → Nat → Value), v = some (.int x) ∧ h' = (wd_S ++ cs1, I1, J1, F1, V1)) (hj : ∀ j h', Y (.inr j) h' → j = 1 ∨ j = 3) : mH G mt_La_median (d + 1) mc ms [.ref 0, .int x0, .int x1, .int x2, .ref 58] (wd_S ++ cs, I, J, F, V) (fun o h1 => (∃ (x : Int32) (h9 : mm_H), Y (.inl (some (.int x))) h9 ∧ o = .inl (some (.int (iI 0))) ∧ h1 = (h9.1, h9.2.1, up58 h9.2.2.1 x.toInt64, h9.2.2.2)) ∨ (∃ h', Y (.inr 1) h' ∧ o = .inl (some (.int (iI 1))) ∧ h1 = h') ∨ (∃ h', Y (.inr 3) h' ∧ o = .inl (some (.int (iI 2))) ∧ h1 = h')) := by
  refine mH_intro (by decide) (fun k h q => ?_) (Nat.le_of_ble_eq_true rfl) ?_
  · rcases q with ⟨_, _, _, q, _⟩ | ⟨_, _, q, _⟩ | ⟨_, _, q, _⟩ <;> cases q
  show mW G mt_La_median (d + 1) mc ms 0 [(0, .ref 0), (1, .int x0), (2, .int x1), (3, .int x2), (4, .ref 58)] [] (wd_S ++ cs, I, J, F, V) _
  refine mw_aload dc_La_median_0 4 rfl ?_
  refine mi_const dc_La_median_2 ?_
  refine mw_aload_n dc_La_median_3 rfl 0 rfl ?_
  refine mw_iload_n dc_La_median_4 rfl 1 rfl ?_
  refine mw_iload_n dc_La_median_5 rfl 2 rfl ?_
  refine mw_iload_n dc_La_median_6 rfl 3 rfl ?_
  refine mw_le (bc := 0 + mc) (bs := 0 + ms) (by omega) (by omega) ?_
  refine mw_callVH (M2 := mt_De_median) (as := [.int x0, .int x1, .int x2]) (b := 0) (st := [.int (iI 0), .ref 58]) (Y := Y) dc_La_median_7 ml_La_67 rfl rfl ny_De_median (by decide) rfl (Nat.le_of_ble_eq_true rfl) hm (fun v h' hY => ?_) (fun j h' hY => ?_)
  · obtain ⟨x, cs1, I1, J1, F1, V1, rfl, rfl⟩ := hv v h' hY
    refine mw_i2l dc_La_median_10 ?_
    refine mi_last dc_La_median_11 rfl ⟨by decide, by decide, by decide⟩ (J' := up58 J1 x.toInt64) rfl ?_
    refine mw_goto (tgt := 23) dc_La_median_12 (by decide) ?_
    refine mi_const dc_La_median_23 ?_
    exact mw_iret dc_La_median_24 rfl rfl (Or.inl ⟨x, _, hY, rfl, rfl⟩)
  · rcases hj j h' hY with rfl | rfl
    · refine ⟨[], ⟨0, 12, 15, 19⟩, [⟨0, 12, 19, 62⟩], _, 5, 2, rfl, fun z hz => absurd hz List.not_mem_nil, by decide, by decide, kl_19, by decide +kernel, by decide, Or.inr ⟨dc_La_median_15, rfl⟩, ?_⟩
      refine mi_const dc_La_median_17 ?_
      exact mw_iret dc_La_median_18 rfl rfl (Or.inr (Or.inl ⟨h', hY, rfl, rfl⟩))
    · refine ⟨[⟨0, 12, 15, 19⟩], ⟨0, 12, 19, 62⟩, [], _, 5, 2, rfl, fun z hz => by rcases List.mem_cons.mp hz with rfl | hz; exact Or.inr ⟨by decide, _, kl_19, by decide +kernel⟩; exact absurd hz List.not_mem_nil, by decide, by decide, kl_62, by decide +kernel, by decide, Or.inr ⟨dc_La_median_19, rfl⟩, ?_⟩
      refine mi_const dc_La_median_21 ?_
      exact mw_iret dc_La_median_22 rfl rfl (Or.inr (Or.inr ⟨h', hY, rfl, rfl⟩))
