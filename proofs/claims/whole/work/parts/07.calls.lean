/-! CONTRACTS AND CALLS over the small machine -/
def mm_rm (d bc bs : Nat) : Room := { frames := d + 9, cells := bc, slots := bs, locals := 40 * d + 300 }
theorem mm_rml (d bc bs : Nat) : (mm_rm d bc bs).locals = 40 * d + 300 := rfl
theorem mm_rmf (d bc bs : Nat) : (mm_rm d bc bs).frames = d + 9 := rfl
theorem mm_r2 {d mc ms L x : Nat} (hL : L ≤ 21) (h : 40 * (d + 1) + 300 ≤ x) : 8 + (L + 11) + (mm_rm d mc ms).locals ≤ x := by
  rw [mm_rml, Nat.mul_succ] at *
  refine Nat.le_trans ?_ h
  rw [Nat.add_right_comm _ 40, Nat.add_comm]
  exact Nat.add_le_add_left (Nat.le_trans (Nat.add_le_add_left (Nat.add_le_add_right hL 11) 8) (by decide)) _
def mm_wm (M : mm_M) : List Cond := .code M.1 M.2.1 M.2.2.1 M.2.2.2.1 :: mm_aw
def mm_Pr (G : mm_G) (ad : Nat → Nat) (as : List Value) (h : mm_H) (sz : Nat) : Array Value → State → Prop :=
  va_Pc (as.map (mm_rv ad)) (fun U => U.heap.size = sz ∧ va_P G.2.1 mm_cl (mm_ws G.2.2.1 ad h) U.heap ∧ va_K G.2.1 mm_cl (mm_tys G.2.2.1) U ∧ va_D (fun _ => True) (mm_ws G.2.2.1 ad h) ∧ mm_N U ∧ vx_Zq Bundle.tN "UNASSIGNED_STACK" Bundle.steD (va_A (mm_ws G.2.2.1 ad h) sz) U U.heap ∧ vx_Zq Bundle.tN "SUPPRESSED_SENTINEL" Bundle.listD (va_A (mm_ws G.2.2.1 ad h) sz) U U.heap)
def mm_Po (G : mm_G) (ad : Nat → Nat) (h : mm_H) (sz : Nat) (X : mm_X) : Array Value → State → Outcome → State → Prop := fun _ st oc t =>
  (∃ (v : Option Value) (h' : mm_H) (ad' : Nat → Nat), oc = .returned (v.map (mm_rv ad')) ∧ X (.inl v) h' ∧ h.1.length ≤ h'.1.length ∧ (∀ k, k < h.1.length → ad' k = ad k) ∧ mm_ok h'.1.length h' ∧ (∀ x ∈ v.toList, mm_vo h'.1.length x) ∧
    va_P G.2.1 mm_cl (mm_ws G.2.2.1 ad' h') t.heap ∧ va_D (va_A (mm_ws G.2.2.1 ad h) sz) (mm_ws G.2.2.1 ad' h')) ∧ va_F (va_A (mm_ws G.2.2.1 ad h) sz) st t
/-- the method M, from the arguments as and the heap h, with d frames below it and so much room: it returns, and X -/
def mE (G : mm_G) (M : mm_M) (d bc bs : Nat) (as : List Value) (h : mm_H) (X : mm_X) : Prop :=
  mm_ok h.1.length h → (∀ v ∈ as, mm_vo h.1.length v) → ∀ (ad : Nat → Nat) (sz : Nat), Met G.1 M.1 (mm_wm M) (mm_rm d bc bs) (mm_Pr G ad as h sz) (mm_Po G ad h sz X) bc bs (va_A (mm_ws G.2.2.1 ad h) sz)
theorem mm_noh {c : Code} (h : c.exceptionTable.isEmpty = true) : c.exceptionTable.toList = tableOf [] := by
  have e : c.exceptionTable = #[] := by simpa using h
  rw [e]
  rfl
theorem mm_sl_len (ad : Nat → Nat) (as : List Value) : (lg_sl (as.map (mm_rv ad))).length = (lg_sl as).length := by
  induction as with
  | nil => rfl
  | cons v as ih =>
    simp only [lg_sl, List.map_cons, List.flatMap_cons, List.length_append, mm_cat] at ih ⊢
    rw [ih]
    split <;> rfl
theorem mm_args (ad : Nat → Nat) (as : List Value) (i : Nat) : lv_args i (as.map (mm_rv ad)) = mm_lm ad (lv_args i as) := by
  induction as generalizing i with
  | nil => rfl
  | cons v as ih =>
    simp only [List.map_cons, lv_args, mm_cat, ih]
theorem mm_args_vo {n : Nat} {as : List Value} (h : ∀ v ∈ as, mm_vo n v) (i : Nat) : ∀ q ∈ lv_args i as, mm_vo n q.2 := by
  induction as generalizing i with
  | nil => intro q hq; cases hq
  | cons v as ih =>
    intro q hq
    rcases List.mem_cons.mp hq with rfl | hq
    · exact h v List.mem_cons_self
    · exact ih (fun x hx => h x (List.mem_cons_of_mem _ hx)) _ q hq
set_option maxHeartbeats 1000000 in
theorem mE_intro {G : mm_G} {M : mm_M} {d bc bs : Nat} {as : List Value} {h : mm_H} {X : mm_X} (hy : plainName M.1.cls = true ∧ M.1.name ≠ "law" ∧ M.2.2.2.2 = []) (hno : ∀ k h, ¬ X (.inr k) h) (hl : (lg_sl as).length ≤ M.2.2.1) (k : mW G M d bc bs 0 (lv_args 0 as) [] h X) : mE G M d bc bs as h X := by
  intro ho hv ad sz
  refine Met.ofW (cc := M.2.1) (maxL := M.2.2.1) (ret := M.2.2.2.1) hy.1 rfl ?_
  intro p e s m args below meth c s₁ B hml hp
  obtain ⟨rfl, hsz, hP, hK, hD0, hN, hZ1, hZ2⟩ := hp
  subst hsz
  have hts := atoms_spec (ws := mm_wm M) B.pre
  have hC : mm_C G M d p (mm_rm d bc bs) s m (as.map (mm_rv ad)).toArray meth c :=
    ⟨B.exec, B.bytes, hml, findClass_of_methodNamed B.named, fun w hw => hts w (List.mem_cons_of_mem _ hw), hN, B.returns, B.notSynchronized, (name_of_methodNamed B.named B.method).1, hK, Nat.le_refl _, Nat.le_refl _, by rw [hy.2.2]; exact mm_noh (BodyLoose.noHandlers B (hts _ List.mem_cons_self))⟩
  have hD := hD0.self (sz := s.heap.size)
  have hl0 := lv_entry (as.map (mm_rv ad)) (n := M.2.2.1) (by rw [mm_sl_len]; exact hl)
  rw [lg_entry_eq]
  rw [mm_args] at hl0
  have hE : mm_E G M p e (mm_rm d bc bs) s m (as.map (mm_rv ad)).toArray below meth c (va_A (mm_ws G.2.2.1 ad h) s.heap.size) h.1.length ad (MQ below (mm_Po G ad h s.heap.size X) (as.map (mm_rv ad)).toArray s bc bs (va_A (mm_ws G.2.2.1 ad h) s.heap.size)) X := by
    intro h' ad' H' locs' cells' slots' lr' v hX hvo z
    have hc : cells' ≤ bc := z.2.2.2.2.2.2.2.1
    have hs : slots' ≤ bs := z.2.2.2.2.2.2.2.2.1
    have post : ∀ t : State, t.heap = H' → mm_Po G ad h s.heap.size X (as.map (mm_rv ad)).toArray s (.returned (v.map (mm_rv ad'))) t := fun t ht =>
      ⟨⟨v, h', ad', rfl, hX, z.2.2.2.2.2.2.2.2.2.1, z.2.2.2.2.2.2.2.2.2.2, z.2.2.2.2.1, hvo, by rw [ht]; exact z.1, z.2.1⟩, z.2.2.1.F ht⟩
    refine ⟨?_, ?_, ?_, ?_⟩
    · intro hv2 hr pc hd
      subst hv2
      refine W.widen hc hs ?_
      exact W.vret B.exec B.bytes (B.returns.trans hr) (fun t ht _ => post t ht) z.2.2.1.2.2 hd B.notSynchronized
    · intro x ty hv2 hr hn pc hd
      subst hv2
      refine W.widen hc hs ?_
      exact W.zret B.exec B.bytes (B.returns.trans hr) hn (fun t ht _ => post t ht) z.2.2.1.2.2 hd B.notSynchronized
    · intro x hv2 hr pc hd
      subst hv2
      refine W.widen hc hs ?_
      exact W.lret B.exec B.bytes (B.returns.trans hr) (fun t ht _ => post t ht) z.2.2.1.2.2 hd B.notSynchronized
    · intro x n hv2 hr pc hd
      subst hv2
      refine W.widen hc hs ?_
      exact W.aret B.exec B.bytes (B.returns.trans hr) (Or.inl ⟨n, rfl⟩) (Or.inr ⟨_, rfl⟩) (fun t ht _ => post t ht) z.2.2.1.2.2 hd B.notSynchronized
  exact k p e (mm_rm d bc bs) s m _ below meth c _ _ ad _ hC ⟨fun q hq => Or.inr hq, fun q => absurd q hy.2.1, hZ1, hZ2⟩ ⟨hE, fun h _ _ _ _ _ _ k _ _ _ _ _ _ q => absurd q (hno k h), fun h _ _ _ _ _ _ k _ _ _ _ q => absurd q (hno k h)⟩ ad s.heap [] 0 0 _
    ⟨hP, hD, va_S.rf, hl0, ho, mm_args_vo hv 0, (fun _ hq => absurd hq List.not_mem_nil), by show 0 + bc ≤ bc; omega, by show 0 + bs ≤ bs; omega, Nat.le_refl _, fun _ _ => rfl⟩
section MMC
variable {G : mm_G} {M M2 : mm_M} {d bc bs mc ms pc : Nat} {ls : List (Nat × Value)} {st : List Value} {h : mm_H} {X Y : mm_X}
theorem mm_agree {ad ad' : Nat → Nat} {n : Nat} (e : ∀ k, k < n → ad' k = ad k) {v : Value} (hv : mm_vo n v) : mm_rv ad' v = mm_rv ad v := by
  cases v with
  | ref r => show Value.ref (ad' r) = .ref (ad r); rw [e r (hv r rfl)]
  | _ => rfl
theorem mm_blind {ad : Nat → Nat} {as : List Value} {sz : Nat} : FrameBlind (mm_Pr G ad as h sz) := fun a U g mk q =>
  ⟨q.1, q.2.1, q.2.2.1, va_K.moved (u := U) (U := U.calling g mk a) (Vm.Alike.refl U.vm) q.2.2.2.1, q.2.2.2.2.1, mm_N_same (u := U) (U := U.calling g mk a) rfl q.2.2.2.2.2.1, vx_Zq.moved (u := U) (U := U.calling g mk a) (Vm.Alike.refl U.vm) q.2.2.2.2.2.2.1, vx_Zq.moved (u := U) (U := U.calling g mk a) (Vm.Alike.refl U.vm) q.2.2.2.2.2.2.2⟩
theorem mm_sub {ad : Nat → Nat} {R : Room} {s : State} {A : Nat → Prop} {n0 : Nat} {ad0 : Nat → Nat} {H : Heap} {locs : List Loc} {cells slots : Nat} {lr : Array Slot} {st' : List Value}
    (hA : mm_A G M s A) (z : mm_S G M bc bs R s A ls st' h n0 ad0 ad H locs cells slots lr) : ∀ q, va_A (mm_ws G.2.2.1 ad h) H.size q → A q := fun q hq => by
  rcases hq with ⟨j, x, hj⟩ | hq
  · exact z.2.1.2 j _ hj
  · exact hA.1 q (Nat.le_trans z.2.2.1.1 hq)
theorem mm_pre {ad : Nat → Nat} {as : List Value} {p : Program} {R : Room} {s : State} {m : MethodId} {args : Array Value} {meth : Method} {c : Code} {A : Nat → Prop} {n0 : Nat} {ad0 : Nat → Nat} {H : Heap} {locs : List Loc} {cells slots : Nat} {lr : Array Slot} {st' : List Value}
    (hC : mm_C G M d p R s m args meth c) (hA : mm_A G M s A) (z : mm_S G M bc bs R s A ls st' h n0 ad0 ad H locs cells slots lr) : ∀ U : State, U.heap = H → s.WarmedH U.vm → mm_Pr G ad as h H.size (as.map (mm_rv ad)).toArray U := fun U hU hW =>
  ⟨rfl, by rw [hU], by rw [hU]; exact z.1, va_K.moved hW.alike hC.2.2.2.2.2.2.2.2.2.1, z.2.1.weaken (fun _ _ _ _ => trivial), mm_N_warm hW hC.2.2.2.2.2.1, by rw [hU]; exact ((hA.2.2.1.kept z.2.2.1.2.1).moved hW.alike).narrow (mm_sub hA z), by rw [hU]; exact ((hA.2.2.2.kept z.2.2.1.2.1).moved hW.alike).narrow (mm_sub hA z)⟩
theorem mm_after {p : Program} {e : Env} {R : Room} {s : State} {m : MethodId} {args : Array Value} {below : List Frame} {meth : Method} {c : Code} {A : Nat → Prop} {n0 : Nat} {ad0 ad : Nat → Nat} {Q : State → Prop} {H : Heap} {locs : List Loc} {cells slots : Nat} {lr : Array Slot} {st' st0 : List Value} {a : Array Value}
    (hC : mm_C G M d p R s m args meth c) (hA : mm_A G M s A) (hE : mm_E G M p e R s m args below meth c A n0 ad0 Q X ∧ mm_ET G M p e R s m args below meth c A n0 ad0 Q X) (z : mm_S G M (bc + mc) (bs + ms) R s A ls st' h n0 ad0 ad H locs cells slots lr) (hst : ∀ v ∈ st, mm_vo h.1.length v)
    (hr : va_Run p G.1 e R s m args below meth c H locs cells slots mc ms (F0 m pc lr st0) (st.map (mm_rv ad)) (mm_Po G ad h H.size Y a) (va_A (mm_ws G.2.2.1 ad h) H.size))
    (k : ∀ (v : Option Value) (h' : mm_H), Y (.inl v) h' → mW G M d bc bs (pc + 3) ls (v.toList ++ st) h' X) : W p G.1 e R s m args below meth c H locs cells slots Q (F0 m pc lr st0) := by
  have hF := mm_sub hA z
  intro T hT S
  obtain ⟨v, st₀, t, T', L, h0, S', hL, e1, e2, ⟨⟨v2, h', ad', hv, hY, hlen, hag, hok, hvo, hP', hD'⟩, hz, hk⟩, go⟩ := hr T hT S
  have hv : v = v2.map (mm_rv ad') := Outcome.returned.inj hv
  subst hv
  rw [h0] at hz hk
  have z2 : mm_S G M bc bs R s A ls (v2.toList ++ st) h' n0 ad0 ad' T'.heap (locs ++ L) (cells + mc) (slots + ms) lr := by
    refine ⟨by rw [e1]; exact hP', hD'.weaken (fun _ q _ hq => hF q.1 hq), ⟨Nat.le_trans z.2.2.1.1 (by rw [e1]; exact hz), fun q h1 h2 => ?_, fun q hq => ?_⟩, ?_, hok, fun q hq => mm_vs hlen (z.vl q hq), fun x hx => ?_, ?_, ?_, Nat.le_trans z.2.2.2.2.2.2.2.2.2.1 hlen, fun j hj => ?_⟩
    · rw [e1, hk q (Nat.lt_of_lt_of_le h1 z.2.2.1.1) (fun hq => h2 (hF q hq))]
      exact z.2.2.1.2.1 q h1 h2
    · rcases List.mem_append.mp hq with hq | hq
      · exact z.2.2.1.2.2 q hq
      · exact hF _ (hL q hq)
    · have : mm_lm ad' ls = mm_lm ad ls := List.map_congr_left (fun q hq => by rw [mm_agree hag (z.vl q hq)])
      rw [this]
      exact z.2.2.2.1
    · rcases List.mem_append.mp hx with hx | hx
      · exact hvo x hx
      · exact mm_vs hlen (hst x hx)
    · have := z.2.2.2.2.2.2.2.1
      omega
    · have := z.2.2.2.2.2.2.2.2.1
      omega
    · rw [hag j (Nat.lt_of_lt_of_le hj z.2.2.2.2.2.2.2.2.2.1)]
      exact z.2.2.2.2.2.2.2.2.2.2 j hj
  have k2 := k v2 h' hY p e R s m args below meth c A n0 ad0 Q hC hA hE ad' T'.heap (locs ++ L) (cells + mc) (slots + ms) lr z2
  have e3 : (v2.toList ++ st).map (mm_rv ad') = (v2.map (mm_rv ad')).toList ++ st.map (mm_rv ad) := by
    rw [List.map_append]
    congr 1
    · cases v2 <;> rfl
    · exact List.map_congr_left (fun x hx => mm_agree hag (hst x hx))
  rw [e3] at k2
  obtain ⟨t2, a1, b1⟩ := k2 T' rfl S'
  exact ⟨t2, go t2 a1, b1⟩
theorem mm_rest (st : List Value) (ad : Nat → Nat) : ((st.map (mm_rv ad)).map fun v => v.category).sum = (st.map fun v => v.category).sum := by
  rw [List.map_map]
  congr 1
  apply List.map_congr_left
  intro v _
  exact mm_cat ad v
theorem mm_good_in {ws : List Cond} (h : ∀ w ∈ ws, w ∈ mm_aw) : GoodIn mm_aw ws := fun w hw => ⟨h w hw, mm_good w (h w hw)⟩
theorem mm_wm_in {M : mm_M} (h : Cond.code M.1 M.2.1 M.2.2.1 M.2.2.2.1 ∈ mm_aw) : ∀ w ∈ mm_wm M, w ∈ mm_aw := fun w hw => by
  rcases List.mem_cons.mp hw with rfl | hw
  · exact h
  · exact hw
abbrev mm_ny (M : mm_M) (n : Nat) : Prop := M.1.cls ≠ "java/lang/invoke/MethodHandle" ∧ M.1.cls ≠ "java/lang/invoke/VarHandle" ∧ (parseMethodDescriptor M.1.desc).map (fun d => d.parameters.length) = some n
theorem mw_callV {idx n : Nat} {as : List Value} {b : Nat} {ci N : Nat} {T : u_T} (hd : decode M.2.1 pc = .ok (.invokevirtual idx, 3)) (hw : ∀ w ∈ ([.methodLink M.1.cls idx M2.1, .instanceMethod M2.1, .selects M2.1.cls M2.1 M2.1, .initialized M2.1.cls, .code M2.1 M2.2.1 M2.2.2.1 M2.2.2.2.1] : List Cond), w ∈ mm_aw) (hs : h.1[b]? = some (.inr ci)) (hc : mm_cl[ci]? = some (M2.1.cls, T, N)) (hy : mm_ny M2 n) (hL : M2.2.2.1 ≤ 21) (hn : as.length = n) (hrest : (st.map fun v => v.category).sum ≤ 8) (hm : mE G M2 d mc ms (.ref b :: as) h Y) (k : ∀ (v : Option Value) (h' : mm_H), Y (.inl v) h' → mW G M (d + 1) bc bs (pc + 3) ls (v.toList ++ st) h' X) : mW G M (d + 1) (bc + mc) (bs + ms) pc ls (as.reverse ++ .ref b :: st) h X := by
  intro p e R s m args below meth c A n0 ad0 Q hC hA hE ad H locs cells slots lr z
  have hst : ∀ v ∈ st, mm_vo h.1.length v := fun v hv => z.vs v (List.mem_append_right _ (List.mem_cons_of_mem _ hv))
  have has : ∀ v ∈ (.ref b :: as), mm_vo h.1.length v := fun v hv => by
    rcases List.mem_cons.mp hv with rfl | hv
    · exact z.vs _ (List.mem_append_right _ List.mem_cons_self)
    · exact z.vs _ (List.mem_append_left _ (List.mem_reverse.mpr hv))
  have r1 : (mm_rm d mc ms).frames + 1 ≤ R.frames := by have := hC.2.2.2.2.2.2.2.2.2.2.1; rw [mm_rmf]; omega
  have r2 : 8 + (M2.2.2.1 + 11) + (mm_rm d mc ms).locals ≤ R.locals := mm_r2 hL hC.2.2.2.2.2.2.2.2.2.2.2.1
  have r3 : cells + mc ≤ R.cells ∧ slots + ms ≤ R.slots := ⟨by have := z.2.2.2.2.2.2.2.1; omega, by have := z.2.2.2.2.2.2.2.2.1; omega⟩
  refine mm_after hC hA hE z hst (va_runV (As := as.map (mm_rv ad)) (b := ad b) (rest := st.map (mm_rv ad)) (n := n) ⟨hC.1, hC.2.1, hC.2.2.1, hC.2.2.2.1, hC.2.2.2.2.1⟩ (hm z.2.2.2.2.1 has ad H.size) ⟨callB_of n hC.2.2.2.2.1 (mm_good_in (mm_wm_in (hw _ (List.mem_cons_of_mem _ (List.mem_cons_of_mem _ (List.mem_cons_of_mem _ (List.mem_cons_of_mem _ (List.mem_cons_self)))))))) rfl rfl rfl (hC.2.2.2.2.1 _ (hw _ (List.mem_cons_of_mem _ (List.mem_cons_of_mem _ (List.mem_cons_of_mem _ (List.mem_cons_self)))))) (hC.2.2.2.2.1 _ (hw _ (List.mem_cons_self))) hy ⟨r1, r2⟩, (hC.2.2.2.2.1 _ (hw _ (List.mem_cons_of_mem _ (List.mem_cons_self)))), (hC.2.2.2.2.1 _ (hw _ (List.mem_cons_of_mem _ (List.mem_cons_of_mem _ (List.mem_cons_self)))))⟩ ⟨mm_blind, va_recv hC.2.2.2.2.2.2.2.2.2.1 z.1 hc (mm_ws_get hs), mm_pre hC hA z⟩ rfl (by rw [List.length_map]; exact hn) z.2.2.2.1.1 ?_ (lv_room (by rw [mm_rest]; exact hrest)) hd r3) k
  show (as.reverse ++ .ref b :: st).map (mm_rv ad) = _
  rw [List.map_append, List.map_reverse]
  rfl
theorem mw_callS {idx n : Nat} {as : List Value} (hd : decode M.2.1 pc = .ok (.invokestatic idx, 3)) (hw : ∀ w ∈ ([.methodLink M.1.cls idx M2.1, .static M2.1, .initialized M2.1.cls, .code M2.1 M2.2.1 M2.2.2.1 M2.2.2.2.1] : List Cond), w ∈ mm_aw) (hcl : M2.1.cls = M.1.cls) (hy : mm_ny M2 n) (hL : M2.2.2.1 ≤ 21) (hn : as.length = n) (hrest : (st.map fun v => v.category).sum ≤ 8) (hm : mE G M2 d mc ms as h Y) (k : ∀ (v : Option Value) (h' : mm_H), Y (.inl v) h' → mW G M (d + 1) bc bs (pc + 3) ls (v.toList ++ st) h' X) : mW G M (d + 1) (bc + mc) (bs + ms) pc ls (as.reverse ++ st) h X := by
  intro p e R s m args below meth c A n0 ad0 Q hC hA hE ad H locs cells slots lr z
  have hst : ∀ v ∈ st, mm_vo h.1.length v := fun v hv => z.vs v (List.mem_append_right _ hv)
  have has : ∀ v ∈ as, mm_vo h.1.length v := fun v hv => z.vs v (List.mem_append_left _ (List.mem_reverse.mpr hv))
  have r1 : (mm_rm d mc ms).frames + 1 ≤ R.frames := by have := hC.2.2.2.2.2.2.2.2.2.2.1; rw [mm_rmf]; omega
  have r2 : 8 + (M2.2.2.1 + 11) + (mm_rm d mc ms).locals ≤ R.locals := mm_r2 hL hC.2.2.2.2.2.2.2.2.2.2.2.1
  have r3 : cells + mc ≤ R.cells ∧ slots + ms ≤ R.slots := ⟨by have := z.2.2.2.2.2.2.2.1; omega, by have := z.2.2.2.2.2.2.2.2.1; omega⟩
  refine mm_after hC hA hE z hst (va_runS (As := as.map (mm_rv ad)) (rest := st.map (mm_rv ad)) (n := n) ⟨hC.1, hC.2.1, hC.2.2.1, hC.2.2.2.1, hC.2.2.2.2.1⟩ (hm z.2.2.2.2.1 has ad H.size) ⟨callB_of n hC.2.2.2.2.1 (mm_good_in (mm_wm_in (hw _ (List.mem_cons_of_mem _ (List.mem_cons_of_mem _ (List.mem_cons_of_mem _ (List.mem_cons_self))))))) rfl rfl rfl (hC.2.2.2.2.1 _ (hw _ (List.mem_cons_of_mem _ (List.mem_cons_of_mem _ (List.mem_cons_self))))) (hC.2.2.2.2.1 _ (hw _ (List.mem_cons_self))) hy ⟨r1, r2⟩, (hC.2.2.2.2.1 _ (hw _ (List.mem_cons_of_mem _ (List.mem_cons_self))))⟩ ⟨mm_blind, mm_pre hC hA z⟩ rfl (by rw [List.length_map]; exact hn) z.2.2.2.1.1 ?_ (lv_room (by rw [mm_rest]; exact hrest)) hd r3) k
  show (as.reverse ++ st).map (mm_rv ad) = _
  rw [List.map_append, List.map_reverse]
theorem mw_callI {idx n : Nat} {as : List Value} {b : Nat} (hd : decode M.2.1 pc = .ok (.invokespecial idx, 3)) (hw : ∀ w ∈ ([.methodLink M.1.cls idx M2.1, .instanceMethod M2.1, .initialized M2.1.cls, .code M2.1 M2.2.1 M2.2.2.1 M2.2.2.2.1] : List Cond), w ∈ mm_aw) (hi : M2.1.name = "<init>") (hret : M2.2.2.2.1 = none) (hy : mm_ny M2 n) (hL : M2.2.2.1 ≤ 21) (hn : as.length = n) (hrest : (st.map fun v => v.category).sum ≤ 8) (hm : mE G M2 d mc ms (.ref b :: as) h Y) (k : ∀ (v : Option Value) (h' : mm_H), Y (.inl v) h' → mW G M (d + 1) bc bs (pc + 3) ls (v.toList ++ st) h' X) : mW G M (d + 1) (bc + mc) (bs + ms) pc ls (as.reverse ++ .ref b :: st) h X := by
  intro p e R s m args below meth c A n0 ad0 Q hC hA hE ad H locs cells slots lr z
  have hst : ∀ v ∈ st, mm_vo h.1.length v := fun v hv => z.vs v (List.mem_append_right _ (List.mem_cons_of_mem _ hv))
  have has : ∀ v ∈ (.ref b :: as), mm_vo h.1.length v := fun v hv => by
    rcases List.mem_cons.mp hv with rfl | hv
    · exact z.vs _ (List.mem_append_right _ List.mem_cons_self)
    · exact z.vs _ (List.mem_append_left _ (List.mem_reverse.mpr hv))
  have r1 : (mm_rm d mc ms).frames + 1 ≤ R.frames := by have := hC.2.2.2.2.2.2.2.2.2.2.1; rw [mm_rmf]; omega
  have r2 : 8 + (M2.2.2.1 + 11) + (mm_rm d mc ms).locals ≤ R.locals := mm_r2 hL hC.2.2.2.2.2.2.2.2.2.2.2.1
  have r3 : cells + mc ≤ R.cells ∧ slots + ms ≤ R.slots := ⟨by have := z.2.2.2.2.2.2.2.1; omega, by have := z.2.2.2.2.2.2.2.2.1; omega⟩
  refine mm_after hC hA hE z hst (va_runI (As := as.map (mm_rv ad)) (b := ad b) (rest := st.map (mm_rv ad)) (n := n) ⟨hC.1, hC.2.1, hC.2.2.1, hC.2.2.2.1, hC.2.2.2.2.1⟩ (hm z.2.2.2.2.1 has ad H.size) ⟨(by rw [← hret]; exact callB_of n hC.2.2.2.2.1 (mm_good_in (mm_wm_in (hw _ (List.mem_cons_of_mem _ (List.mem_cons_of_mem _ (List.mem_cons_of_mem _ (List.mem_cons_self))))))) rfl rfl rfl (hC.2.2.2.2.1 _ (hw _ (List.mem_cons_of_mem _ (List.mem_cons_of_mem _ (List.mem_cons_self))))) (hC.2.2.2.2.1 _ (hw _ (List.mem_cons_self))) hy ⟨r1, r2⟩), hi, (hC.2.2.2.2.1 _ (hw _ (List.mem_cons_of_mem _ (List.mem_cons_self))))⟩ ⟨mm_blind, mm_pre hC hA z⟩ rfl (by rw [List.length_map]; exact hn) z.2.2.2.1.1 ?_ (lv_room (by rw [mm_rest]; exact hrest)) hd r3) k
  show (as.reverse ++ .ref b :: st).map (mm_rv ad) = _
  rw [List.map_append, List.map_reverse]
  rfl
theorem mw_callVN {idx n : Nat} {as : List Value} {b : Nat} {ci N : Nat} {T : u_T} {host : String} (hd : decode M.2.1 pc = .ok (.invokevirtual idx, 3)) (hw : ∀ w ∈ ([.instanceMethod M2.1, .selects M2.1.cls M2.1 M2.1, .initialized M2.1.cls, .code M2.1 M2.2.1 M2.2.2.1 M2.2.2.2.1] : List Cond), w ∈ mm_aw) (hlk : Cond.methodLinkNest M.1.cls idx M2.1 host ∈ mm_nw) (hs : h.1[b]? = some (.inr ci)) (hc : mm_cl[ci]? = some (M2.1.cls, T, N)) (hy : mm_ny M2 n) (hL : M2.2.2.1 ≤ 21) (hn : as.length = n) (hrest : (st.map fun v => v.category).sum ≤ 8) (hm : mE G M2 d mc ms (.ref b :: as) h Y) (k : ∀ (v : Option Value) (h' : mm_H), Y (.inl v) h' → mW G M (d + 1) bc bs (pc + 3) ls (v.toList ++ st) h' X) : mW G M (d + 1) (bc + mc) (bs + ms) pc ls (as.reverse ++ .ref b :: st) h X := by
  intro p e R s m args below meth c A n0 ad0 Q hC hA hE ad H locs cells slots lr z
  have hst : ∀ v ∈ st, mm_vo h.1.length v := fun v hv => z.vs v (List.mem_append_right _ (List.mem_cons_of_mem _ hv))
  have has : ∀ v ∈ (.ref b :: as), mm_vo h.1.length v := fun v hv => by
    rcases List.mem_cons.mp hv with rfl | hv
    · exact z.vs _ (List.mem_append_right _ List.mem_cons_self)
    · exact z.vs _ (List.mem_append_left _ (List.mem_reverse.mpr hv))
  have r1 : (mm_rm d mc ms).frames + 1 ≤ R.frames := by have := hC.2.2.2.2.2.2.2.2.2.2.1; rw [mm_rmf]; omega
  have r2 : 8 + (M2.2.2.1 + 11) + (mm_rm d mc ms).locals ≤ R.locals := mm_r2 hL hC.2.2.2.2.2.2.2.2.2.2.2.1
  have r3 : cells + mc ≤ R.cells ∧ slots + ms ≤ R.slots := ⟨by have := z.2.2.2.2.2.2.2.1; omega, by have := z.2.2.2.2.2.2.2.2.1; omega⟩
  refine mm_after hC hA hE z hst (va_runVN (As := as.map (mm_rv ad)) (b := ad b) (rest := st.map (mm_rv ad)) (n := n) ⟨hC.1, hC.2.1, hC.2.2.1, hC.2.2.2.1, hC.2.2.2.2.1⟩ (hm z.2.2.2.2.1 has ad H.size) ⟨va_cnB n hC.2.2.2.2.1 (mm_good_in (mm_wm_in (hw _ (List.mem_cons_of_mem _ (List.mem_cons_of_mem _ (List.mem_cons_of_mem _ (List.mem_cons_self))))))) rfl rfl rfl (hC.2.2.2.2.2.1.1 _ hlk) (hC.2.2.2.2.1 _ (hw _ (List.mem_cons_of_mem _ (List.mem_cons_of_mem _ (List.mem_cons_self))))) hy ⟨r1, r2⟩, (hC.2.2.2.2.1 _ (hw _ (List.mem_cons_self))), (hC.2.2.2.2.1 _ (hw _ (List.mem_cons_of_mem _ (List.mem_cons_self))))⟩ ⟨mm_blind, va_recv hC.2.2.2.2.2.2.2.2.2.1 z.1 hc (mm_ws_get hs), mm_pre hC hA z⟩ rfl (by rw [List.length_map]; exact hn) z.2.2.2.1.1 ?_ (lv_room (by rw [mm_rest]; exact hrest)) hd r3) k
  show (as.reverse ++ .ref b :: st).map (mm_rv ad) = _
  rw [List.map_append, List.map_reverse]
  rfl
theorem mw_callSN {idx n : Nat} {as : List Value} {host : String} (hd : decode M.2.1 pc = .ok (.invokestatic idx, 3)) (hw : ∀ w ∈ ([.static M2.1, .initialized M2.1.cls, .code M2.1 M2.2.1 M2.2.2.1 M2.2.2.2.1] : List Cond), w ∈ mm_aw) (hlk : Cond.methodLinkNest M.1.cls idx M2.1 host ∈ mm_nw) (hy : mm_ny M2 n) (hL : M2.2.2.1 ≤ 21) (hn : as.length = n) (hrest : (st.map fun v => v.category).sum ≤ 8) (hm : mE G M2 d mc ms as h Y) (k : ∀ (v : Option Value) (h' : mm_H), Y (.inl v) h' → mW G M (d + 1) bc bs (pc + 3) ls (v.toList ++ st) h' X) : mW G M (d + 1) (bc + mc) (bs + ms) pc ls (as.reverse ++ st) h X := by
  intro p e R s m args below meth c A n0 ad0 Q hC hA hE ad H locs cells slots lr z
  have hst : ∀ v ∈ st, mm_vo h.1.length v := fun v hv => z.vs v (List.mem_append_right _ hv)
  have has : ∀ v ∈ as, mm_vo h.1.length v := fun v hv => z.vs v (List.mem_append_left _ (List.mem_reverse.mpr hv))
  have r1 : (mm_rm d mc ms).frames + 1 ≤ R.frames := by have := hC.2.2.2.2.2.2.2.2.2.2.1; rw [mm_rmf]; omega
  have r2 : 8 + (M2.2.2.1 + 11) + (mm_rm d mc ms).locals ≤ R.locals := mm_r2 hL hC.2.2.2.2.2.2.2.2.2.2.2.1
  have r3 : cells + mc ≤ R.cells ∧ slots + ms ≤ R.slots := ⟨by have := z.2.2.2.2.2.2.2.1; omega, by have := z.2.2.2.2.2.2.2.2.1; omega⟩
  refine mm_after hC hA hE z hst (va_runSN (As := as.map (mm_rv ad)) (rest := st.map (mm_rv ad)) (n := n) ⟨hC.1, hC.2.1, hC.2.2.1, hC.2.2.2.1, hC.2.2.2.2.1⟩ (hm z.2.2.2.2.1 has ad H.size) ⟨va_cnB n hC.2.2.2.2.1 (mm_good_in (mm_wm_in (hw _ (List.mem_cons_of_mem _ (List.mem_cons_of_mem _ (List.mem_cons_self)))))) rfl rfl rfl (hC.2.2.2.2.2.1.1 _ hlk) (hC.2.2.2.2.1 _ (hw _ (List.mem_cons_of_mem _ (List.mem_cons_self)))) hy ⟨r1, r2⟩, (hC.2.2.2.2.1 _ (hw _ (List.mem_cons_self))), trivial⟩ ⟨mm_blind, mm_pre hC hA z⟩ rfl (by rw [List.length_map]; exact hn) z.2.2.2.1.1 ?_ (lv_room (by rw [mm_rest]; exact hrest)) hd r3) k
  show (as.reverse ++ st).map (mm_rv ad) = _
  rw [List.map_append, List.map_reverse]
theorem mw_callIN {idx n : Nat} {as : List Value} {b : Nat} {host : String} (hd : decode M.2.1 pc = .ok (.invokespecial idx, 3)) (hw : ∀ w ∈ ([.instanceMethod M2.1, .initialized M2.1.cls, .code M2.1 M2.2.1 M2.2.2.1 M2.2.2.2.1] : List Cond), w ∈ mm_aw) (hlk : Cond.methodLinkNest M.1.cls idx M2.1 host ∈ mm_nw) (hi : M2.1.name = "<init>") (hret : M2.2.2.2.1 = none) (hy : mm_ny M2 n) (hL : M2.2.2.1 ≤ 21) (hn : as.length = n) (hrest : (st.map fun v => v.category).sum ≤ 8) (hm : mE G M2 d mc ms (.ref b :: as) h Y) (k : ∀ (v : Option Value) (h' : mm_H), Y (.inl v) h' → mW G M (d + 1) bc bs (pc + 3) ls (v.toList ++ st) h' X) : mW G M (d + 1) (bc + mc) (bs + ms) pc ls (as.reverse ++ .ref b :: st) h X := by
  intro p e R s m args below meth c A n0 ad0 Q hC hA hE ad H locs cells slots lr z
  have hst : ∀ v ∈ st, mm_vo h.1.length v := fun v hv => z.vs v (List.mem_append_right _ (List.mem_cons_of_mem _ hv))
  have has : ∀ v ∈ (.ref b :: as), mm_vo h.1.length v := fun v hv => by
    rcases List.mem_cons.mp hv with rfl | hv
    · exact z.vs _ (List.mem_append_right _ List.mem_cons_self)
    · exact z.vs _ (List.mem_append_left _ (List.mem_reverse.mpr hv))
  have r1 : (mm_rm d mc ms).frames + 1 ≤ R.frames := by have := hC.2.2.2.2.2.2.2.2.2.2.1; rw [mm_rmf]; omega
  have r2 : 8 + (M2.2.2.1 + 11) + (mm_rm d mc ms).locals ≤ R.locals := mm_r2 hL hC.2.2.2.2.2.2.2.2.2.2.2.1
  have r3 : cells + mc ≤ R.cells ∧ slots + ms ≤ R.slots := ⟨by have := z.2.2.2.2.2.2.2.1; omega, by have := z.2.2.2.2.2.2.2.2.1; omega⟩
  refine mm_after hC hA hE z hst (va_runIN (As := as.map (mm_rv ad)) (b := ad b) (rest := st.map (mm_rv ad)) (n := n) ⟨hC.1, hC.2.1, hC.2.2.1, hC.2.2.2.1, hC.2.2.2.2.1⟩ (hm z.2.2.2.2.1 has ad H.size) ⟨(by rw [← hret]; exact va_cnB n hC.2.2.2.2.1 (mm_good_in (mm_wm_in (hw _ (List.mem_cons_of_mem _ (List.mem_cons_of_mem _ (List.mem_cons_self)))))) rfl rfl rfl (hC.2.2.2.2.2.1.1 _ hlk) (hC.2.2.2.2.1 _ (hw _ (List.mem_cons_of_mem _ (List.mem_cons_self)))) hy ⟨r1, r2⟩), hi, (hC.2.2.2.2.1 _ (hw _ (List.mem_cons_self)))⟩ ⟨mm_blind, mm_pre hC hA z⟩ rfl (by rw [List.length_map]; exact hn) z.2.2.2.1.1 ?_ (lv_room (by rw [mm_rest]; exact hrest)) hd r3) k
  show (as.reverse ++ .ref b :: st).map (mm_rv ad) = _
  rw [List.map_append, List.map_reverse]
  rfl
end MMC
