/-! METHODS THAT MAY THROW -/
def mm_XC (G : mm_G) (ad : Nat → Nat) (h : mm_H) (sz : Nat) (X : mm_X) : String → State → State → Prop := fun E st t =>
  ∃ (k : Nat) (h' : mm_H) (ad' : Nat → Nat), E = mm_en k ∧ X (.inr k) h' ∧ h.1.length ≤ h'.1.length ∧ (∀ k, k < h.1.length → ad' k = ad k) ∧ mm_ok h'.1.length h' ∧
    va_P G.2.1 mm_cl (mm_ws G.2.2.1 ad' h') t.heap ∧ va_D (va_A (mm_ws G.2.2.1 ad h) sz) (mm_ws G.2.2.1 ad' h') ∧ va_F (va_A (mm_ws G.2.2.1 ad h) sz) st t
/-- the method M returns or throws, and X -/
def mT (G : mm_G) (M : mm_M) (d bc bs : Nat) (as : List Value) (h : mm_H) (X : mm_X) : Prop :=
  mm_ok h.1.length h → (∀ v ∈ as, mm_vo h.1.length v) → ∀ (ad : Nat → Nat) (sz : Nat), vx_Met G.1 M.1 (mm_wm M) (mm_rm d bc bs) (mm_Pr G ad as h sz) (mm_Po G ad h sz X) (mm_XC G ad h sz X) bc bs (va_A (mm_ws G.2.2.1 ad h) sz)
set_option maxHeartbeats 2000000 in
theorem mT_intro {G : mm_G} {M : mm_M} {d bc bs : Nat} {as : List Value} {h : mm_H} {X : mm_X} (hst : G.1.stackTraces = false) (hy : plainName M.1.cls = true ∧ M.1.name ≠ "law" ∧ M.2.2.2.2 = []) (hl : (lg_sl as).length ≤ M.2.2.1) (k : mW G M d bc bs 0 (lv_args 0 as) [] h X) : mT G M d bc bs as h X := by
  intro ho hv ad sz
  refine vx_ofW (cc := M.2.1) (maxL := M.2.2.1) (ret := M.2.2.2.1) hy.1 rfl ?_
  intro p e s m args below meth c s₁ B hml hnoh hp
  obtain ⟨rfl, hsz, hP, hK, hD0, hN, hZ1, hZ2⟩ := hp
  subst hsz
  have hts := atoms_spec (ws := mm_wm M) B.pre
  have hC : mm_C G M d p (mm_rm d bc bs) s m (as.map (mm_rv ad)).toArray meth c :=
    ⟨B.exec, B.bytes, hml, findClass_of_methodNamed B.named, fun w hw => hts w (List.mem_cons_of_mem _ hw), hN, B.returns, B.notSynchronized, (name_of_methodNamed B.named B.method).1, hK, Nat.le_refl _, Nat.le_refl _, by rw [hy.2.2]; exact mm_noh (BodyLoose.noHandlers B (hts _ List.mem_cons_self))⟩
  have hD := hD0.self (sz := s.heap.size)
  have hl0 := lv_entry (as.map (mm_rv ad)) (n := M.2.2.1) (by rw [mm_sl_len]; exact hl)
  rw [lg_entry_eq]
  rw [mm_args] at hl0
  have hE : mm_E G M p e (mm_rm d bc bs) s m (as.map (mm_rv ad)).toArray below meth c (va_A (mm_ws G.2.2.1 ad h) s.heap.size) h.1.length ad (vx_MQ below (mm_Po G ad h s.heap.size X) (mm_XC G ad h s.heap.size X) (as.map (mm_rv ad)).toArray s bc bs (va_A (mm_ws G.2.2.1 ad h) s.heap.size)) X := by
    intro h' ad' H' locs' cells' slots' lr' v hX hvo z
    have hc : cells' ≤ bc := z.2.2.2.2.2.2.2.1
    have hs : slots' ≤ bs := z.2.2.2.2.2.2.2.2.1
    have post : ∀ t : State, t.heap = H' → mm_Po G ad h s.heap.size X (as.map (mm_rv ad)).toArray s (.returned (v.map (mm_rv ad'))) t := fun t ht =>
      ⟨⟨v, h', ad', rfl, hX, z.2.2.2.2.2.2.2.2.2.1, z.2.2.2.2.2.2.2.2.2.2, z.2.2.2.2.1, hvo, by rw [ht]; exact z.1, z.2.1⟩, z.2.2.1.F ht⟩
    refine ⟨?_, ?_, ?_, ?_⟩
    · intro hv2 hr pc hd
      subst hv2
      refine vx_ret (W.widen hc hs ?_)
      exact W.vret B.exec B.bytes (B.returns.trans hr) (fun t ht _ => post t ht) z.2.2.1.2.2 hd B.notSynchronized
    · intro x ty hv2 hr hn pc hd
      subst hv2
      refine vx_ret (W.widen hc hs ?_)
      exact W.zret B.exec B.bytes (B.returns.trans hr) hn (fun t ht _ => post t ht) z.2.2.1.2.2 hd B.notSynchronized
    · intro x hv2 hr pc hd
      subst hv2
      refine vx_ret (W.widen hc hs ?_)
      exact W.lret B.exec B.bytes (B.returns.trans hr) (fun t ht _ => post t ht) z.2.2.1.2.2 hd B.notSynchronized
    · intro x n hv2 hr pc hd
      subst hv2
      refine vx_ret (W.widen hc hs ?_)
      exact W.aret B.exec B.bytes (B.returns.trans hr) (Or.inl ⟨n, rfl⟩) (Or.inr ⟨_, rfl⟩) (fun t ht _ => post t ht) z.2.2.1.2.2 hd B.notSynchronized
  have hT1 : mm_ET G M p e (mm_rm d bc bs) s m (as.map (mm_rv ad)).toArray below meth c (va_A (mm_ws G.2.2.1 ad h) s.heap.size) h.1.length ad (vx_MQ below (mm_Po G ad h s.heap.size X) (mm_XC G ad h s.heap.size X) (as.map (mm_rv ad)).toArray s bc bs (va_A (mm_ws G.2.2.1 ad h) s.heap.size)) X := by
    refine ⟨?_, ?_⟩
    · intro h' ad' H' locs' cells' slots' lr' k pc ik is ic text rest hX z ht hrest
      obtain ⟨d0, d3, d4, d6, d9, hsr, hwd, -, hf1, hf2⟩ := ht
      obtain ⟨sa, hsa⟩ := hN.2.1 _ hsr
      have hbf : ∀ w ∈ Cond.classLink M.1.cls ik (mm_en k) :: Cond.initialized (mm_en k) :: vx_atS M.1.cls ic (mm_en k) mm_xn, w.before (as.map (mm_rv ad)).toArray s = true := fun w hw => by
        rcases (hwd w hw).1 with q | q
        · exact hC.2.2.2.2.1 w q
        · exact mm_nw_use w q (hN.1 w q)
      refine vx_throwS (A := va_A (mm_ws G.2.2.1 ad h) s.heap.size) B.exec B.bytes hst hC.2.2.2.1 hf1 hf2 (hbf _ List.mem_cons_self) (hbf _ (List.mem_cons_of_mem _ List.mem_cons_self)) hsa (fun w hw => hbf w (List.mem_cons_of_mem _ (List.mem_cons_of_mem _ hw))) (fun w hw => (hwd w hw).2) hZ1 hZ2 z.2.2.1 (z.2.2.2.1.1.trans hml.symm) d0 d3 d4 d6 d9 (fun x hx => absurd (hnoh x hx) id) ?_ ?_ z.2.2.2.2.2.2.2.1 z.2.2.2.2.2.2.2.2.1 B.notSynchronized ?_ z.2.2.1.2.2 z.2.2.2.2.2.2.2.1 z.2.2.2.2.2.2.2.2.1
      · show 2 + 3 < d + 9
        omega
      · show _ + (13 * (2 + 1) + 43) ≤ 40 * d + 300
        omega
      · intro t hal hsz hkp
        refine ⟨k, h', ad', rfl, hX, z.2.2.2.2.2.2.2.2.2.1, z.2.2.2.2.2.2.2.2.2.2, z.2.2.2.2.1, z.1.kept (fun j q hq => hkp q.1 (z.1 j q hq).lt), z.2.1, Nat.le_trans z.2.2.1.1 hsz, fun q h1 h2 => ?_⟩
        rw [hkp q (Nat.lt_of_lt_of_le h1 z.2.2.1.1)]
        exact z.2.2.1.2.1 q h1 h2
    · intro h' ad' H' locs' cells' slots' lr' k pc q ce rest hX z _ hq hcv hcl
      refine vx_out (fun x hx => absurd (hnoh x hx) id) B.notSynchronized hq hcv hcl (fun t ht hal => ?_) z.2.2.1.2.2 z.2.2.2.2.2.2.2.1 z.2.2.2.2.2.2.2.2.1
      exact ⟨k, h', ad', rfl, hX, z.2.2.2.2.2.2.2.2.2.1, z.2.2.2.2.2.2.2.2.2.2, z.2.2.2.2.1, by rw [ht]; exact z.1, z.2.1, z.2.2.1.F ht⟩
  exact k p e (mm_rm d bc bs) s m _ below meth c _ _ ad _ hC ⟨fun q hq => Or.inr hq, fun q => absurd q hy.2.1, hZ1, hZ2⟩ ⟨hE, hT1⟩ ad s.heap [] 0 0 _
    ⟨hP, hD, va_S.rf, hl0, ho, mm_args_vo hv 0, (fun _ hq => absurd hq List.not_mem_nil), by show 0 + bc ≤ bc; omega, by show 0 + bs ≤ bs; omega, Nat.le_refl _, fun _ _ => rfl⟩
section MMT
variable {G : mm_G} {M M2 : mm_M} {d bc bs mc ms pc : Nat} {ls : List (Nat × Value)} {st : List Value} {h : mm_H} {X Y : mm_X}
theorem mw_throw {k ik is ic : Nat} {text : String} (ht : mm_th M k pc ik is ic text) (hr : (st.map fun v => v.category).sum ≤ 8) (hX : X (.inr k) h) : mW G M d (bc + 1) (bs + 6) pc ls st h X := by
  intro p e R s m args below meth c A n0 ad0 Q hC hA hE ad H locs cells slots lr z
  refine hE.2.1 h ad H locs cells slots lr k pc ik is ic text (st.map (mm_rv ad)) hX ?_ ht (by rw [mm_rest]; exact hr)
  exact ⟨z.1, z.2.1, z.2.2.1, z.fin.2.2.2.1, z.2.2.2.2.1, z.fin.2.2.2.2.2.1, z.fin.2.2.2.2.2.2.1, by have := z.2.2.2.2.2.2.2.1; omega, by have := z.2.2.2.2.2.2.2.2.1; omega, z.2.2.2.2.2.2.2.2.2⟩
/-- behind a call that may throw -/
theorem mm_afterX {p : Program} {e : Env} {R : Room} {s : State} {m : MethodId} {args : Array Value} {below : List Frame} {meth : Method} {c : Code} {A : Nat → Prop} {n0 : Nat} {ad0 ad : Nat → Nat} {Q : State → Prop} {H : Heap} {locs : List Loc} {cells slots : Nat} {lr : Array Slot} {st' st0 : List Value} {a : Array Value}
    (hC : mm_C G M d p R s m args meth c) (hA : mm_A G M s A) (hE : mm_E G M p e R s m args below meth c A n0 ad0 Q X ∧ mm_ET G M p e R s m args below meth c A n0 ad0 Q X) (z : mm_S G M (bc + mc) (bs + ms) R s A ls st' h n0 ad0 ad H locs cells slots lr) (hst : ∀ v ∈ st, mm_vo h.1.length v)
    (hr : vx_Run p G.1 e R s m args below meth c H locs cells slots mc ms (F0 m pc lr st0) (st.map (mm_rv ad)) (mm_Po G ad h H.size Y a) (mm_XC G ad h H.size Y) (va_A (mm_ws G.2.2.1 ad h) H.size))
    (k : ∀ (v : Option Value) (h' : mm_H), Y (.inl v) h' → mW G M d bc bs (pc + 3) ls (v.toList ++ st) h' X)
    (kx : ∀ (j : Nat) (h' : mm_H), Y (.inr j) h' → ∀ (ad' : Nat → Nat) (H' : Heap) (locs' : List Loc) (cells' slots' q : Nat) (ce : Cell), mm_S G M bc bs R s A ls st h' n0 ad0 ad' H' locs' cells' slots' lr → H'[q]? = some ce → ce.vm = .none → s.vm.findClass (mm_en j) = some ce.cls →
      vx_W p G.1 e R s m args below meth c H' locs' cells' slots' Q (F0 m pc lr (st.map (mm_rv ad'))) q) : W p G.1 e R s m args below meth c H locs cells slots Q (F0 m pc lr st0) := by
  have hF := mm_sub hA z
  have step : ∀ (h' : mm_H) (ad' : Nat → Nat) (st₀ t T' : State) (L : List Loc) (sv : List Value), st₀.heap = H → T'.heap = t.heap → (∀ q ∈ L, va_A (mm_ws G.2.2.1 ad h) H.size q.base) → h.1.length ≤ h'.1.length → (∀ k, k < h.1.length → ad' k = ad k) → mm_ok h'.1.length h' → (∀ x ∈ sv, mm_vo h'.1.length x) →
      va_P G.2.1 mm_cl (mm_ws G.2.2.1 ad' h') t.heap → va_D (va_A (mm_ws G.2.2.1 ad h) H.size) (mm_ws G.2.2.1 ad' h') → va_F (va_A (mm_ws G.2.2.1 ad h) H.size) st₀ t →
      mm_S G M bc bs R s A ls (sv ++ st) h' n0 ad0 ad' T'.heap (locs ++ L) (cells + mc) (slots + ms) lr := by
    intro h' ad' st₀ t T' L sv h0 e1 hL hlen hag hok hvo hP' hD' hFF
    obtain ⟨hz, hk⟩ := hFF
    rw [h0] at hz hk
    refine ⟨by rw [e1]; exact hP', hD'.weaken (fun _ q _ hq => hF q.1 hq), ⟨Nat.le_trans z.2.2.1.1 (by rw [e1]; exact hz), fun q h1 h2 => ?_, fun q hq => ?_⟩, ?_, hok, fun q hq => mm_vs hlen (z.vl q hq), fun x hx => ?_, ?_, ?_, Nat.le_trans z.2.2.2.2.2.2.2.2.2.1 hlen, fun j hj => ?_⟩
    · rw [e1, hk q (Nat.lt_of_lt_of_le h1 z.2.2.1.1) (fun hq => h2 (hF q hq))]
      exact z.2.2.1.2.1 q h1 h2
    · rcases List.mem_append.mp hq with hq | hq
      · exact z.2.2.1.2.2 q hq
      · exact hF _ (hL q hq)
    · have : mm_lm ad' ls = mm_lm ad ls := List.map_congr_left (fun q hq => by rw [mm_agree hag (z.vl q hq)])
      rw [this]
      exact z.2.2.2.1
    · rcases List.mem_append.mp hx with hx | hx
      · exact hvo x hx
      · exact mm_vs hlen (hst x hx)
    · have := z.2.2.2.2.2.2.2.1
      omega
    · have := z.2.2.2.2.2.2.2.2.1
      omega
    · rw [hag j (Nat.lt_of_lt_of_le hj z.2.2.2.2.2.2.2.2.2.1)]
      exact z.2.2.2.2.2.2.2.2.2.2 j hj
  intro T hT S
  rcases hr T hT S with ⟨v, st₀, t, T', L, h0, S', hL, e1, e2, ⟨⟨v2, h', ad', hv, hY, hlen, hag, hok, hvo, hP', hD'⟩, hFF⟩, go⟩ | ⟨q, st₀, t, T', L, E, ce, h0, S', hL, e1, e2, ⟨j, h', ad', rfl, hY, hlen, hag, hok, hP', hD', hFF⟩, hce, hcv, hcl, go⟩
  · have hv : v = v2.map (mm_rv ad') := Outcome.returned.inj hv
    subst hv
    have k2 := k v2 h' hY p e R s m args below meth c A n0 ad0 Q hC hA hE ad' T'.heap (locs ++ L) (cells + mc) (slots + ms) lr (step h' ad' st₀ t T' L v2.toList h0 e1 hL hlen hag hok hvo hP' hD' hFF)
    have e3 : (v2.toList ++ st).map (mm_rv ad') = (v2.map (mm_rv ad')).toList ++ st.map (mm_rv ad) := by
      rw [List.map_append]
      congr 1
      · cases v2 <;> rfl
      · exact List.map_congr_left (fun x hx => mm_agree hag (hst x hx))
    rw [e3] at k2
    obtain ⟨t2, a1, b1⟩ := k2 T' rfl S'
    exact ⟨t2, go t2 a1, b1⟩
  · have k2 := kx j h' hY ad' T'.heap (locs ++ L) (cells + mc) (slots + ms) q ce (step h' ad' st₀ t T' L [] h0 e1 hL hlen hag hok (fun _ hq => absurd hq List.not_mem_nil) hP' hD' hFF) (by rw [e1]; exact hce) hcv hcl
    rw [show st.map (mm_rv ad') = st.map (mm_rv ad) from List.map_congr_left (fun x hx => mm_agree hag (hst x hx))] at k2
    obtain ⟨t2, a1, b1⟩ := k2 T' rfl S'
    exact ⟨t2, go.trans a1, b1⟩
theorem mw_callVP {idx n : Nat} {as : List Value} {b ci N : Nat} {T : u_T} (hd : decode M.2.1 pc = .ok (.invokevirtual idx, 3)) (hw : ∀ w ∈ ([.methodLink M.1.cls idx M2.1, .instanceMethod M2.1, .selects M2.1.cls M2.1 M2.1, .initialized M2.1.cls, .code M2.1 M2.2.1 M2.2.2.1 M2.2.2.2.1] : List Cond), w ∈ mm_aw) (hs : h.1[b]? = some (.inr ci)) (hc : mm_cl[ci]? = some (M2.1.cls, T, N)) (hy : mm_ny M2 n) (hL : M2.2.2.1 ≤ 21) (hn : as.length = n) (hrest : (st.map fun v => v.category).sum ≤ 8) (hm : mT G M2 d mc ms (.ref b :: as) h Y) (k : ∀ (v : Option Value) (h' : mm_H), Y (.inl v) h' → mW G M (d + 1) bc bs (pc + 3) ls (v.toList ++ st) h' X) (hh : M.2.2.2.2 = []) (kx : ∀ (j : Nat) (h' : mm_H), Y (.inr j) h' → X (.inr j) h') : mW G M (d + 1) (bc + mc) (bs + ms) pc ls (as.reverse ++ .ref b :: st) h X := by
  intro p e R s m args below meth c A n0 ad0 Q hC hA hE ad H locs cells slots lr z
  have hst : ∀ v ∈ st, mm_vo h.1.length v := fun v hv => z.vs v (List.mem_append_right _ (List.mem_cons_of_mem _ hv))
  have has : ∀ v ∈ (.ref b :: as), mm_vo h.1.length v := fun v hv => by
    rcases List.mem_cons.mp hv with rfl | hv
    · exact z.vs _ (List.mem_append_right _ List.mem_cons_self)
    · exact z.vs _ (List.mem_append_left _ (List.mem_reverse.mpr hv))
  have r1 : (mm_rm d mc ms).frames + 1 ≤ R.frames := by have := hC.2.2.2.2.2.2.2.2.2.2.1; rw [mm_rmf]; omega
  have r2 : 8 + (M2.2.2.1 + 11) + (mm_rm d mc ms).locals ≤ R.locals := mm_r2 hL hC.2.2.2.2.2.2.2.2.2.2.2.1
  have r3 : cells + mc ≤ R.cells ∧ slots + ms ≤ R.slots := ⟨by have := z.2.2.2.2.2.2.2.1; omega, by have := z.2.2.2.2.2.2.2.2.1; omega⟩
  refine mm_afterX hC hA hE z hst (vx_runV (As := as.map (mm_rv ad)) (b := ad b) (rest := st.map (mm_rv ad)) (n := n) ⟨hC.1, hC.2.1, hC.2.2.1, hC.2.2.2.1, hC.2.2.2.2.1⟩ (hm z.2.2.2.2.1 has ad H.size) ⟨callB_of n hC.2.2.2.2.1 (mm_good_in (mm_wm_in (hw _ (List.mem_cons_of_mem _ (List.mem_cons_of_mem _ (List.mem_cons_of_mem _ (List.mem_cons_of_mem _ (List.mem_cons_self)))))))) rfl rfl rfl (hC.2.2.2.2.1 _ (hw _ (List.mem_cons_of_mem _ (List.mem_cons_of_mem _ (List.mem_cons_of_mem _ (List.mem_cons_self)))))) (hC.2.2.2.2.1 _ (hw _ (List.mem_cons_self))) hy ⟨r1, r2⟩, (hC.2.2.2.2.1 _ (hw _ (List.mem_cons_of_mem _ (List.mem_cons_self)))), (hC.2.2.2.2.1 _ (hw _ (List.mem_cons_of_mem _ (List.mem_cons_of_mem _ (List.mem_cons_self)))))⟩ ⟨mm_blind, va_recv hC.2.2.2.2.2.2.2.2.2.1 z.1 hc (mm_ws_get hs), mm_pre hC hA z⟩ rfl (by rw [List.length_map]; exact hn) z.2.2.2.1.1 ?_ (lv_room (by rw [mm_rest]; exact hrest)) hd r3) k ?_
  · show (as.reverse ++ .ref b :: st).map (mm_rv ad) = _
    rw [List.map_append, List.map_reverse]
    rfl
  · intro j h' hY ad' H' locs' cells' slots' q ce z2 hq hcv hcl
    exact hE.2.2 h' ad' H' locs' cells' slots' lr j pc q ce _ (kx j h' hY) z2.fin hh hq hcv hcl
theorem mw_callVH {idx n : Nat} {as : List Value} {b ci N : Nat} {T : u_T} (hd : decode M.2.1 pc = .ok (.invokevirtual idx, 3)) (hw : ∀ w ∈ ([.methodLink M.1.cls idx M2.1, .instanceMethod M2.1, .selects M2.1.cls M2.1 M2.1, .initialized M2.1.cls, .code M2.1 M2.2.1 M2.2.2.1 M2.2.2.2.1] : List Cond), w ∈ mm_aw) (hs : h.1[b]? = some (.inr ci)) (hc : mm_cl[ci]? = some (M2.1.cls, T, N)) (hy : mm_ny M2 n) (hL : M2.2.2.1 ≤ 21) (hn : as.length = n) (hrest : (st.map fun v => v.category).sum ≤ 8) (hm : mT G M2 d mc ms (.ref b :: as) h Y) (k : ∀ (v : Option Value) (h' : mm_H), Y (.inl v) h' → mW G M (d + 1) bc bs (pc + 3) ls (v.toList ++ st) h' X) (kx : ∀ (j : Nat) (h' : mm_H), Y (.inr j) h' → ∃ (pre : List ExceptionTableEntry) (x : ExceptionTableEntry) (suf : List ExceptionTableEntry) (nm : String) (i ln : Nat), tableOf M.2.2.2.2 = pre ++ x :: suf ∧ (∀ z ∈ pre, covers z pc = false ∨ (z.catchType ≠ 0 ∧ ∃ nm2, Cond.classLink M.1.cls z.catchType nm2 ∈ mm_aw ∧ (mm_en j, nm2) ∈ mm_nc)) ∧ covers x pc = true ∧ x.catchType ≠ 0 ∧ Cond.classLink M.1.cls x.catchType nm ∈ mm_aw ∧ Cond.castable (mm_en j) nm ∈ mm_nw ∧
        i < M.2.2.1 ∧ ((∃ kk : Fin 4, (kk : Nat) = i ∧ decode M.2.1 x.handlerPc = .ok (.astore_n kk, 1) ∧ ln = 1) ∨ (decode M.2.1 x.handlerPc = .ok (.astore i, 2) ∧ ln = 2)) ∧ mW G M (d + 1) bc bs (x.handlerPc + ln) (ls.filter (fun q => !(q.1 == i) && !(q.1 + 1 == i && q.2.category == 2))) [] h' X) : mW G M (d + 1) (bc + mc) (bs + ms) pc ls (as.reverse ++ .ref b :: st) h X := by
  intro p e R s m args below meth c A n0 ad0 Q hC hA hE ad H locs cells slots lr z
  have hst : ∀ v ∈ st, mm_vo h.1.length v := fun v hv => z.vs v (List.mem_append_right _ (List.mem_cons_of_mem _ hv))
  have has : ∀ v ∈ (.ref b :: as), mm_vo h.1.length v := fun v hv => by
    rcases List.mem_cons.mp hv with rfl | hv
    · exact z.vs _ (List.mem_append_right _ List.mem_cons_self)
    · exact z.vs _ (List.mem_append_left _ (List.mem_reverse.mpr hv))
  have r1 : (mm_rm d mc ms).frames + 1 ≤ R.frames := by have := hC.2.2.2.2.2.2.2.2.2.2.1; rw [mm_rmf]; omega
  have r2 : 8 + (M2.2.2.1 + 11) + (mm_rm d mc ms).locals ≤ R.locals := mm_r2 hL hC.2.2.2.2.2.2.2.2.2.2.2.1
  have r3 : cells + mc ≤ R.cells ∧ slots + ms ≤ R.slots := ⟨by have := z.2.2.2.2.2.2.2.1; omega, by have := z.2.2.2.2.2.2.2.2.1; omega⟩
  refine mm_afterX hC hA hE z hst (vx_runV (As := as.map (mm_rv ad)) (b := ad b) (rest := st.map (mm_rv ad)) (n := n) ⟨hC.1, hC.2.1, hC.2.2.1, hC.2.2.2.1, hC.2.2.2.2.1⟩ (hm z.2.2.2.2.1 has ad H.size) ⟨callB_of n hC.2.2.2.2.1 (mm_good_in (mm_wm_in (hw _ (List.mem_cons_of_mem _ (List.mem_cons_of_mem _ (List.mem_cons_of_mem _ (List.mem_cons_of_mem _ (List.mem_cons_self)))))))) rfl rfl rfl (hC.2.2.2.2.1 _ (hw _ (List.mem_cons_of_mem _ (List.mem_cons_of_mem _ (List.mem_cons_of_mem _ (List.mem_cons_self)))))) (hC.2.2.2.2.1 _ (hw _ (List.mem_cons_self))) hy ⟨r1, r2⟩, (hC.2.2.2.2.1 _ (hw _ (List.mem_cons_of_mem _ (List.mem_cons_self)))), (hC.2.2.2.2.1 _ (hw _ (List.mem_cons_of_mem _ (List.mem_cons_of_mem _ (List.mem_cons_self)))))⟩ ⟨mm_blind, va_recv hC.2.2.2.2.2.2.2.2.2.1 z.1 hc (mm_ws_get hs), mm_pre hC hA z⟩ rfl (by rw [List.length_map]; exact hn) z.2.2.2.1.1 ?_ (lv_room (by rw [mm_rest]; exact hrest)) hd r3) k ?_
  · show (as.reverse ++ .ref b :: st).map (mm_rv ad) = _
    rw [List.map_append, List.map_reverse]
    rfl
  · intro j h' hY ad' H' locs' cells' slots' q ce z2 hq hcv hcl
    obtain ⟨pre, x, suf, nm, i, ln, h1, h2, h3, h4, h5, h6, h7, h8, kk⟩ := kx j h' hY
    refine vx_catch (name := nm) hC.2.2.2.1 pre x suf (hC.2.2.2.2.2.2.2.2.2.2.2.2.trans h1) (fun y hy2 => ?_) h3 h4 (hC.2.2.2.2.1 _ h5) (mm_nw_use _ h6 (hC.2.2.2.2.2.1.1 _ h6)) hq hcv hcl ?_
    · rcases h2 y hy2 with h9 | ⟨h9, nm2, h10, h11⟩
      · exact Or.inl h9
      · exact Or.inr ⟨h9, nm2, hC.2.2.2.2.1 _ h10, hC.2.2.2.2.2.1.2.2 _ h11⟩
    · have fin : ∀ (lr2 : Array Slot), lv_has lr2 M.2.2.1 ((i, Value.ref q) :: (mm_lm ad' ls).filter (fun q => !(q.1 == i) && !(q.1 + 1 == i && q.2.category == 2))) → W p G.1 e R s m args below meth c H' locs' cells' slots' Q (F0 m (x.handlerPc + ln) lr2 []) := by
        intro lr2 hl2
        rw [mm_lm_f1] at hl2
        have hl3 : lv_has lr2 M.2.2.1 (mm_lm ad' (ls.filter (fun q => !(q.1 == i) && !(q.1 + 1 == i && q.2.category == 2)))) := ⟨hl2.1, hl2.2.1, fun y hy2 => hl2.2.2 y (List.mem_cons_of_mem _ hy2)⟩
        exact kk p e R s m args below meth c A n0 ad0 Q hC hA hE ad' H' locs' cells' slots' lr2 (z2.lt hl3 (fun y hy2 => z2.vl y (List.mem_filter.mp hy2).1) (fun _ hq => absurd hq List.not_mem_nil))
      rcases h8 with ⟨k4, e4, h9, rfl⟩ | ⟨h9, rfl⟩
      · exact lv_astore_n hC.1 hC.2.1 h9 e4 z2.2.2.2.1 h7 rfl fin
      · exact lv_astore hC.1 hC.2.1 h9 z2.2.2.2.1 h7 rfl fin
theorem mw_callSP {idx n : Nat} {as : List Value} (hd : decode M.2.1 pc = .ok (.invokestatic idx, 3)) (hw : ∀ w ∈ ([.methodLink M.1.cls idx M2.1, .static M2.1, .initialized M2.1.cls, .code M2.1 M2.2.1 M2.2.2.1 M2.2.2.2.1] : List Cond), w ∈ mm_aw) (hy : mm_ny M2 n) (hL : M2.2.2.1 ≤ 21) (hn : as.length = n) (hrest : (st.map fun v => v.category).sum ≤ 8) (hm : mT G M2 d mc ms as h Y) (k : ∀ (v : Option Value) (h' : mm_H), Y (.inl v) h' → mW G M (d + 1) bc bs (pc + 3) ls (v.toList ++ st) h' X) (hh : M.2.2.2.2 = []) (kx : ∀ (j : Nat) (h' : mm_H), Y (.inr j) h' → X (.inr j) h') : mW G M (d + 1) (bc + mc) (bs + ms) pc ls (as.reverse ++ st) h X := by
  intro p e R s m args below meth c A n0 ad0 Q hC hA hE ad H locs cells slots lr z
  have hst : ∀ v ∈ st, mm_vo h.1.length v := fun v hv => z.vs v (List.mem_append_right _ hv)
  have has : ∀ v ∈ as, mm_vo h.1.length v := fun v hv => z.vs v (List.mem_append_left _ (List.mem_reverse.mpr hv))
  have r1 : (mm_rm d mc ms).frames + 1 ≤ R.frames := by have := hC.2.2.2.2.2.2.2.2.2.2.1; rw [mm_rmf]; omega
  have r2 : 8 + (M2.2.2.1 + 11) + (mm_rm d mc ms).locals ≤ R.locals := mm_r2 hL hC.2.2.2.2.2.2.2.2.2.2.2.1
  have r3 : cells + mc ≤ R.cells ∧ slots + ms ≤ R.slots := ⟨by have := z.2.2.2.2.2.2.2.1; omega, by have := z.2.2.2.2.2.2.2.2.1; omega⟩
  refine mm_afterX hC hA hE z hst (vx_runS (As := as.map (mm_rv ad)) (rest := st.map (mm_rv ad)) (n := n) ⟨hC.1, hC.2.1, hC.2.2.1, hC.2.2.2.1, hC.2.2.2.2.1⟩ (hm z.2.2.2.2.1 has ad H.size) ⟨callB_of n hC.2.2.2.2.1 (mm_good_in (mm_wm_in (hw _ (List.mem_cons_of_mem _ (List.mem_cons_of_mem _ (List.mem_cons_of_mem _ (List.mem_cons_self))))))) rfl rfl rfl (hC.2.2.2.2.1 _ (hw _ (List.mem_cons_of_mem _ (List.mem_cons_of_mem _ (List.mem_cons_self))))) (hC.2.2.2.2.1 _ (hw _ (List.mem_cons_self))) hy ⟨r1, r2⟩, (hC.2.2.2.2.1 _ (hw _ (List.mem_cons_of_mem _ (List.mem_cons_self))))⟩ ⟨mm_blind, mm_pre hC hA z⟩ rfl (by rw [List.length_map]; exact hn) z.2.2.2.1.1 ?_ (lv_room (by rw [mm_rest]; exact hrest)) hd r3) k ?_
  · show (as.reverse ++ st).map (mm_rv ad) = _
    rw [List.map_append, List.map_reverse]
  · intro j h' hY ad' H' locs' cells' slots' q ce z2 hq hcv hcl
    exact hE.2.2 h' ad' H' locs' cells' slots' lr j pc q ce _ (kx j h' hY) z2.fin hh hq hcv hcl
theorem mw_callSH {idx n : Nat} {as : List Value} (hd : decode M.2.1 pc = .ok (.invokestatic idx, 3)) (hw : ∀ w ∈ ([.methodLink M.1.cls idx M2.1, .static M2.1, .initialized M2.1.cls, .code M2.1 M2.2.1 M2.2.2.1 M2.2.2.2.1] : List Cond), w ∈ mm_aw) (hy : mm_ny M2 n) (hL : M2.2.2.1 ≤ 21) (hn : as.length = n) (hrest : (st.map fun v => v.category).sum ≤ 8) (hm : mT G M2 d mc ms as h Y) (k : ∀ (v : Option Value) (h' : mm_H), Y (.inl v) h' → mW G M (d + 1) bc bs (pc + 3) ls (v.toList ++ st) h' X) (kx : ∀ (j : Nat) (h' : mm_H), Y (.inr j) h' → ∃ (pre : List ExceptionTableEntry) (x : ExceptionTableEntry) (suf : List ExceptionTableEntry) (nm : String) (i ln : Nat), tableOf M.2.2.2.2 = pre ++ x :: suf ∧ (∀ z ∈ pre, covers z pc = false ∨ (z.catchType ≠ 0 ∧ ∃ nm2, Cond.classLink M.1.cls z.catchType nm2 ∈ mm_aw ∧ (mm_en j, nm2) ∈ mm_nc)) ∧ covers x pc = true ∧ x.catchType ≠ 0 ∧ Cond.classLink M.1.cls x.catchType nm ∈ mm_aw ∧ Cond.castable (mm_en j) nm ∈ mm_nw ∧
        i < M.2.2.1 ∧ ((∃ kk : Fin 4, (kk : Nat) = i ∧ decode M.2.1 x.handlerPc = .ok (.astore_n kk, 1) ∧ ln = 1) ∨ (decode M.2.1 x.handlerPc = .ok (.astore i, 2) ∧ ln = 2)) ∧ mW G M (d + 1) bc bs (x.handlerPc + ln) (ls.filter (fun q => !(q.1 == i) && !(q.1 + 1 == i && q.2.category == 2))) [] h' X) : mW G M (d + 1) (bc + mc) (bs + ms) pc ls (as.reverse ++ st) h X := by
  intro p e R s m args below meth c A n0 ad0 Q hC hA hE ad H locs cells slots lr z
  have hst : ∀ v ∈ st, mm_vo h.1.length v := fun v hv => z.vs v (List.mem_append_right _ hv)
  have has : ∀ v ∈ as, mm_vo h.1.length v := fun v hv => z.vs v (List.mem_append_left _ (List.mem_reverse.mpr hv))
  have r1 : (mm_rm d mc ms).frames + 1 ≤ R.frames := by have := hC.2.2.2.2.2.2.2.2.2.2.1; rw [mm_rmf]; omega
  have r2 : 8 + (M2.2.2.1 + 11) + (mm_rm d mc ms).locals ≤ R.locals := mm_r2 hL hC.2.2.2.2.2.2.2.2.2.2.2.1
  have r3 : cells + mc ≤ R.cells ∧ slots + ms ≤ R.slots := ⟨by have := z.2.2.2.2.2.2.2.1; omega, by have := z.2.2.2.2.2.2.2.2.1; omega⟩
  refine mm_afterX hC hA hE z hst (vx_runS (As := as.map (mm_rv ad)) (rest := st.map (mm_rv ad)) (n := n) ⟨hC.1, hC.2.1, hC.2.2.1, hC.2.2.2.1, hC.2.2.2.2.1⟩ (hm z.2.2.2.2.1 has ad H.size) ⟨callB_of n hC.2.2.2.2.1 (mm_good_in (mm_wm_in (hw _ (List.mem_cons_of_mem _ (List.mem_cons_of_mem _ (List.mem_cons_of_mem _ (List.mem_cons_self))))))) rfl rfl rfl (hC.2.2.2.2.1 _ (hw _ (List.mem_cons_of_mem _ (List.mem_cons_of_mem _ (List.mem_cons_self))))) (hC.2.2.2.2.1 _ (hw _ (List.mem_cons_self))) hy ⟨r1, r2⟩, (hC.2.2.2.2.1 _ (hw _ (List.mem_cons_of_mem _ (List.mem_cons_self))))⟩ ⟨mm_blind, mm_pre hC hA z⟩ rfl (by rw [List.length_map]; exact hn) z.2.2.2.1.1 ?_ (lv_room (by rw [mm_rest]; exact hrest)) hd r3) k ?_
  · show (as.reverse ++ st).map (mm_rv ad) = _
    rw [List.map_append, List.map_reverse]
  · intro j h' hY ad' H' locs' cells' slots' q ce z2 hq hcv hcl
    obtain ⟨pre, x, suf, nm, i, ln, h1, h2, h3, h4, h5, h6, h7, h8, kk⟩ := kx j h' hY
    refine vx_catch (name := nm) hC.2.2.2.1 pre x suf (hC.2.2.2.2.2.2.2.2.2.2.2.2.trans h1) (fun y hy2 => ?_) h3 h4 (hC.2.2.2.2.1 _ h5) (mm_nw_use _ h6 (hC.2.2.2.2.2.1.1 _ h6)) hq hcv hcl ?_
    · rcases h2 y hy2 with h9 | ⟨h9, nm2, h10, h11⟩
      · exact Or.inl h9
      · exact Or.inr ⟨h9, nm2, hC.2.2.2.2.1 _ h10, hC.2.2.2.2.2.1.2.2 _ h11⟩
    · have fin : ∀ (lr2 : Array Slot), lv_has lr2 M.2.2.1 ((i, Value.ref q) :: (mm_lm ad' ls).filter (fun q => !(q.1 == i) && !(q.1 + 1 == i && q.2.category == 2))) → W p G.1 e R s m args below meth c H' locs' cells' slots' Q (F0 m (x.handlerPc + ln) lr2 []) := by
        intro lr2 hl2
        rw [mm_lm_f1] at hl2
        have hl3 : lv_has lr2 M.2.2.1 (mm_lm ad' (ls.filter (fun q => !(q.1 == i) && !(q.1 + 1 == i && q.2.category == 2)))) := ⟨hl2.1, hl2.2.1, fun y hy2 => hl2.2.2 y (List.mem_cons_of_mem _ hy2)⟩
        exact kk p e R s m args below meth c A n0 ad0 Q hC hA hE ad' H' locs' cells' slots' lr2 (z2.lt hl3 (fun y hy2 => z2.vl y (List.mem_filter.mp hy2).1) (fun _ hq => absurd hq List.not_mem_nil))
      rcases h8 with ⟨k4, e4, h9, rfl⟩ | ⟨h9, rfl⟩
      · exact lv_astore_n hC.1 hC.2.1 h9 e4 z2.2.2.2.1 h7 rfl fin
      · exact lv_astore hC.1 hC.2.1 h9 z2.2.2.2.1 h7 rfl fin
end MMT
