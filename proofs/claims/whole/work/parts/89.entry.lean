/-! the entry, and the claim out of the facts of the mathematics (rows of the skeleton, with the launch's flag and the method's name and table threaded through) -/
def R_law : String := "ReversalDeskLaw"
def lw_P (b : Addr) (xs : List Int32) (args : Array Value) (s : State) : Prop := args = #[.ref b] ∧ s.IntsAt b xs ∧ xs.length ≤ 2048 ∧ (Jvm.Cond.and given_1 narrow_1).before args s = true
def lw_Q (_ : Array Value) (s : State) (o : Outcome) (t : State) : Prop := o = .returned (some (.int 1)) ∧ Framed s o t [] 601024 7293034
def lw_Z (below : List Frame) (a : Array Value) (s : State) : State → Prop := fun t => ∃ o, t.status = .running ∧ Ended t below o ∧ lw_Q a s o t
/-- the law's own end, with 1 on the stack, nothing written that was there before, its room as the claim has it -/
theorem lw_ret {p : Program} {l : Launch} {e : Env} {s : State} {m : MethodId} {below : List Frame} {meth : Method} {c : Code} {b : Nat} (hx : p.tables.exec = Jvm.exec) (hb : c.code = code) (hr : meth.sig.returnType = ret) (hlocks : meth.locks = false) {pc : Nat} {H : Heap} {ls : Array Slot} (hdg : decode code pc = .ok (.ireturn, 1)) : W p l e room_1 s m #[Value.ref b] below meth c H [] 601024 7293034 (lw_Z below #[Value.ref b] s) (F0 m pc ls [.int 1]) := by
  intro T hT X
  obtain ⟨fs, hret, hrun, hended, hW, hframe⟩ := X.leave (v := some (.int 1)) (hlocks := hlocks) (fun h => by rw [hr] at h; cases h)
  have hmeth' : T.vm.method? m = some meth := X.method'
  refine ⟨T.setFrames fs, ?_, .returned (some (.int 1)), hrun, hended, rfl, ⟨_, rfl⟩, hW, hframe⟩
  jvm_step X.here [X.here.top, hx, hb, hdg, hmeth', hr, ret, narrow_b1]
  (try refine ⟨rfl, ?_⟩); (try refine ⟨rfl, ?_⟩)
  first | (intro acts; rw [hret _ acts rfl rfl rfl]) | rw [hret _ _ rfl rfl rfl]
  exact Steps.refl _
/-- what holds at the law's entry: the machine, the code, the tables' words (any of lw_tbl by 'hts w (by decide +kernel)'), the script of L ints xs at the cell b, what the Statement gives of the start (any of its parts by flat_of_before) -/
def lw_At (p : Program) (s : State) (m : MethodId) (meth : Method) (c : Code) (b L : Nat) (xs : Nat → Int32) : Prop :=
  p.tables.exec = Jvm.exec ∧ c.code = code ∧ meth.sig.returnType = ret ∧ c.maxLocals = 8 ∧ s.vm.findClass R_law = some m.cls ∧ (∀ w ∈ lw_tbl, w.before #[Value.ref b] s = true) ∧ va_X b L xs s s.heap ∧ b < s.heap.size ∧ meth.locks = false ∧ (Jvm.Cond.and given_1 narrow_1).before #[Value.ref b] s = true ∧ meth.name = "law" ∧ c.exceptionTable.toList = tableOf []
theorem ent_nw : ∀ w ∈ mm_nw, w ∈ lw_tbl := fun w hw => of_decide_eq_true (List.all_eq_true.mp (show mm_nw.all (fun w => decide (w ∈ lw_tbl)) = true by decide +kernel) w hw)
theorem ent_sr : ∀ q ∈ mm_sr, Cond.stringRef q.1 q.2.1 q.2.2 ∈ lw_tbl ∧ Cond.exactly (.string q.1 q.2.1) "java/lang/String" ∈ flatC (Jvm.Cond.and given_1 narrow_1) := fun q hq => of_decide_eq_true (List.all_eq_true.mp (show mm_sr.all (fun q => decide (Cond.stringRef q.1 q.2.1 q.2.2 ∈ lw_tbl ∧ Cond.exactly (.string q.1 q.2.1) "java/lang/String" ∈ flatC (Jvm.Cond.and given_1 narrow_1))) = true by decide +kernel) q hq)
theorem ent_nc : ∀ q ∈ mm_nc, Cond.not (.castable q.1 q.2) ∈ flatC (Jvm.Cond.and given_1 narrow_1) := fun q hq => of_decide_eq_true (List.all_eq_true.mp (show mm_nc.all (fun q => decide (Cond.not (.castable q.1 q.2) ∈ flatC (Jvm.Cond.and given_1 narrow_1))) = true by decide +kernel) q hq)
theorem ent_N {b : Addr} {s : State} (hts : ∀ w ∈ lw_tbl, w.before #[Value.ref b] s = true) (hgv : (Jvm.Cond.and given_1 narrow_1).before #[Value.ref b] s = true) : mm_N s := by
  have hs := flat_of_before _ hgv
  refine ⟨fun w hw => ?_, fun q hq => ?_, fun q hq => va_Nc.of (hs _ (ent_nc q hq))⟩
  · have h := hts w (ent_nw w hw)
    rcases List.mem_append.mp hw with hw | hw
    · obtain ⟨q, -, rfl⟩ := List.mem_map.mp hw
      exact va_Nw.of rfl h
    rcases List.mem_append.mp hw with hw | hw
    · obtain ⟨C, -, rfl⟩ := List.mem_map.mp hw
      exact va_AO.of h
    rcases List.mem_append.mp hw with hw | hw
    · obtain ⟨q, -, rfl⟩ := List.mem_map.mp hw
      exact va_Nw.of rfl h
    · obtain ⟨q, -, rfl⟩ := List.mem_map.mp hw
      exact va_Nw.of rfl h
  · obtain ⟨h1, h2⟩ := ent_sr q hq
    obtain ⟨a, -, -, -, ha, -⟩ := Cond.exactly_spec (hs _ h2)
    exact ⟨a, vk_R.of (hts _ h1) ha⟩
theorem ent_aw : ∀ w ∈ mm_aw, w ∈ lw_tbl := fun w hw => (List.mem_filter.mp hw).1
theorem ent_K {b : Addr} {s : State} (hts : ∀ w ∈ lw_tbl, w.before #[Value.ref b] s = true) : ∃ (D : va_G) (tc : Nat → ClassId), va_K D mm_cl (mm_tys tc) s := by
  have ha : ∀ w ∈ mm_aw, w.before #[Value.ref b] s = true := fun w hw => hts w (ent_aw w hw)
  obtain ⟨c0, i0, k0⟩ := u_known (n := 10) ha wi_De (ha _ (ck_La_8 _ (List.mem_cons_of_mem _ List.mem_cons_self)))
  obtain ⟨c1, i1, k1⟩ := u_known (n := 4) ha wi_Sl (ha _ (ck_De_13 _ (List.mem_cons_of_mem _ List.mem_cons_self)))
  obtain ⟨c2, i2, k2⟩ := u_known (n := 2) ha wi_Te (ha _ (ck_De_20 _ (List.mem_cons_of_mem _ List.mem_cons_self)))
  obtain ⟨c3, i3, k3⟩ := u_known (n := 11) ha wi_Dr (ha _ (ck_De_27 _ (List.mem_cons_of_mem _ List.mem_cons_self)))
  obtain ⟨c4, i4, k4⟩ := u_known (n := 5) ha wi_Ch (ha _ (ck_De_34 _ (List.mem_cons_of_mem _ List.mem_cons_self)))
  obtain ⟨c5, i5, k5⟩ := u_known (n := 25) ha wi_Mo (ha _ (ck_La_71 _ (List.mem_cons_of_mem _ List.mem_cons_self)))
  obtain ⟨t0, q0, p0, f0, g0, h0⟩ := Cond.arrayClass_spec (ha _ ak_int)
  obtain ⟨t1, q1, p1, f1, g1, h1⟩ := Cond.arrayClass_spec (ha _ ak_boolean)
  obtain ⟨t2, q2, p2, f2, g2, h2⟩ := Cond.arrayClass_spec (ha _ ak_long)
  obtain ⟨p3, t3, q3, e3, -, g3, h3, f3⟩ := Cond.arrayOver_spec (hts _ (ent_nw (.arrayOver (.object "ReversalDesk$Slot")) (by decide +kernel)))
  obtain ⟨p4, t4, q4, e4, -, g4, h4, f4⟩ := Cond.arrayOver_spec (hts _ (ent_nw (.arrayOver (.object "ReversalDesk$Chart")) (by decide +kernel)))
  have ar : ∀ {cA : ClassId} {kA : Class} {comp : ClassId} {ty : FieldType}, s.vm.classes[cA]? = some kA → kA.kind = .array comp ty → ArrOfT s cA ty := fun {cA kA comp ty} x y n z => ⟨fun k h => (by cases h), kA, x, comp, y⟩
  refine ⟨(fun c => match c with | 0 => c0 | 1 => c1 | 2 => c2 | 3 => c3 | 4 => c4 | _ => c5, fun c => match c with | 0 => i0 | 1 => i1 | 2 => i2 | 3 => i3 | 4 => i4 | _ => i5), fun k => match k with | 0 => t0 | 1 => t1 | 2 => t2 | 3 => t3 | _ => t4, fun c q hq => ?_, fun k q hq => ?_⟩
  · match c, hq with
    | 0, hq => cases hq; exact k0
    | 1, hq => cases hq; exact k1
    | 2, hq => cases hq; exact k2
    | 3, hq => cases hq; exact k3
    | 4, hq => cases hq; exact k4
    | 5, hq => cases hq; exact k5
    | c + 6, hq => exact nomatch hq
  · match k, hq with
    | 0, hq => cases hq; exact ⟨ar g0 h0, f0⟩
    | 1, hq => cases hq; exact ⟨ar g1 h1, f1⟩
    | 2, hq => cases hq; exact ⟨ar g2 h2, f2⟩
    | 3, hq => cases hq; exact ⟨ar g3 h3, q3, p3, g3, h3, e3, f3⟩
    | 4, hq => cases hq; exact ⟨ar g4 h4, q4, p4, g4, h4, e4, f4⟩
    | k + 5, hq => exact nomatch hq
theorem whole_start {p : Program} {e : Env} {s : State} {m : MethodId} {below : List Frame} {meth : Method} {c : Code} (l : Launch) (hst : l.stackTraces = false) (mf : MF) {b L : Nat} {xs : Nat → Int32} (hL : L ≤ 2048) (C0 : lw_At p s m meth c b L xs) : W p l e room_1 s m #[Value.ref b] below meth c s.heap [] 0 0 (lw_Z below #[Value.ref b] s) (entryFrame m ([Value.ref b] : List Value).toArray 8) := by
  obtain ⟨hx, hb, hr, hml, hown, hts, hX, hbl, hlocks, hgv, hnm, htab⟩ := C0
  obtain ⟨D, tc, hK⟩ := ent_K hts
  have hs := flat_of_before _ hgv
  have hC : mm_C (l, D, tc, b, L, xs) mt_law 40 p room_1 s m #[Value.ref b] meth c := ⟨hx, hb, hml, hown, fun w hw => hts w (ent_aw w hw), ent_N hts hgv, hr, hlocks, hnm, hK, by decide, by decide, htab⟩
  have hnA : ∀ a : Nat, a < s.heap.size → ¬ (s.heap.size ≤ a) := fun a ha => Nat.not_le.mpr ha
  have hA : mm_A (l, D, tc, b, L, xs) mt_law s (fun q => s.heap.size ≤ q) := ⟨fun q hq => hq, fun _ => ⟨hX, hbl, hnA b hbl⟩, vx_Zqof (hts _ (by decide +kernel)) (hts _ (by decide +kernel)) (hs _ (by decide +kernel)) hnA, vx_Zqof (hts _ (by decide +kernel)) (hts _ (by decide +kernel)) (hs _ (by decide +kernel)) hnA⟩
  have hl0 := lv_entry ([Value.ref b] : List Value) (n := 8) (Nat.le_of_ble_eq_true rfl)
  rw [lg_entry_eq]
  have k := lw_begin (G := (l, D, tc, b, L, xs)) (d := 0) (X := fun o _ => o = .inl (some (.int (iI 1)))) (I := fun _ _ => 0) (J := fun _ _ => 0) (F := fun _ _ => none) (V := fun _ _ => .int 0) hst mf hL (fun _ => rfl)
  refine k p e room_1 s m #[Value.ref b] below meth c (fun q => s.heap.size ≤ q) 0 (fun _ => 0) (lw_Z below #[Value.ref b] s) hC hA ⟨?_, ?_⟩ (fun _ => 0) s.heap [] 0 0 _ ⟨?_, ?_, va_S.rf, hl0, ?_, ?_, ?_, by decide, by decide, Nat.le_refl _, fun k hk => absurd hk (Nat.not_lt_zero _)⟩
  · intro h ad H locs cells slots lr v hv hvo z
    have hv : v = some (.int (iI 1)) := Sum.inl.inj hv
    subst hv
    refine ⟨fun h => (nomatch h), fun x ty h1 h2 h3 pc hd => ?_, fun x h => (nomatch h), fun x n h => (nomatch h)⟩
    cases h1
    refine va_forget z.2.2.1.2.2 (W.widen z.2.2.2.2.2.2.2.1 z.2.2.2.2.2.2.2.2.1 ?_)
    exact lw_ret hx hb hr hlocks hd
  · exact ⟨fun h ad H locs cells slots lr k pc ik is ic text rest hX9 => (nomatch hX9), fun h ad H locs cells slots lr k pc q ce rest hX9 => (nomatch hX9)⟩
  · intro k q hq; exact nomatch hq
  · exact ⟨fun i j p q hi => (nomatch hi), fun k q hq => (nomatch hq)⟩
  · exact ⟨fun k j r h => (nomatch h), fun k j r h => (nomatch h)⟩
  · intro q hq
    rcases List.mem_cons.mp hq with rfl | hq
    · intro r h; cases h
    · exact absurd hq List.not_mem_nil
  · intro v hv; exact absurd hv List.not_mem_nil
set_option maxHeartbeats 4000000 in
theorem lw_walk (l : Launch) (hst : l.stackTraces = false) (mf : MF) (b : Addr) (xs : List Int32) : MetFree l x (headSpec (Jvm.Cond.code x code maxLocals ret :: tables_1) room_1) (lw_P b xs) (fun _ _ _ _ _ => True) lw_Q := by
  refine MetFree.of_bodyS (code := code) (maxLocals := maxLocals) (ret := ret) (by decide) ?_ ?_
  · intro args s m h hn
    obtain ⟨meth, c, h1, h2, h3, h4, h5, h6, -, -⟩ := Cond.code_spec hn (atoms_spec (ws := Jvm.Cond.code x code maxLocals ret :: tables_1) h _ List.mem_cons_self)
    exact ⟨meth, c, h1, h2, h3, h4, h5, h6⟩
  · intro p e s m args below meth c s₁ B hml0 hP _
    obtain ⟨rfl, hx, hbd, hgv⟩ := hP
    obtain ⟨scr, harrAt, hlist, hof, hsmall⟩ := hx
    obtain ⟨hcb, hkn, -, -⟩ := State.arrayAt?_spec harrAt
    have hown : s.vm.findClass R_law = some m.cls := findClass_of_methodNamed B.named
    have hts0 : ∀ c ∈ (Jvm.Cond.code x code maxLocals ret :: tables_1), c.before #[Value.ref b] s = true := atoms_spec (ws := Jvm.Cond.code x code maxLocals ret :: tables_1) B.pre
    have hts : ∀ w ∈ lw_tbl, w.before #[Value.ref b] s = true := k2_hts_sels lw_privs (fun w hw => hts0 w (List.mem_cons_of_mem _ hw)) lw_privs_ok
    have hml : c.maxLocals = 8 := B.maxLocals_eq (hts0 _ List.mem_cons_self)
    have X₀ : Stand p l e room_1 s m #[Value.ref b] below meth c s₁ [] 0 0 := Stand.of_body B
    have hh0 : s₁.heap = s.heap := by rw [B.state]; rfl
    have hsz : scr.slots.size = xs.length := by rw [← Array.length_toList, hlist, List.length_map]
    have hval : ∀ j : Nat, j < xs.length → scr.slots[j]? = some (.int (xs.getD j 0)) := fun j hj => by
      rw [← Array.getElem?_toList, hlist]
      simp [hj]
    have hbl : b < s.heap.size := (Array.getElem?_eq_some_iff.mp hcb).1
    have hX : va_X b xs.length (fun j => xs.getD j 0) s s.heap := ⟨scr, hcb, hof, hkn, hsz, hval⟩
    have K : W p l e room_1 s m #[Value.ref b] below meth c s₁.heap [] 0 0 (lw_Z below #[Value.ref b] s) (entryFrame m ([Value.ref b] : List Value).toArray 8) := by
      rw [hh0]
      exact whole_start l hst mf hbd ⟨B.exec, B.bytes, B.returns, hml, hown, hts, hX, hbl, B.notSynchronized, hgv, (name_of_methodNamed B.named B.method).1, mm_noh (BodyLoose.noHandlers B (hts0 _ List.mem_cons_self))⟩
    obtain ⟨t, a1, o, b1, b2, b3⟩ := K s₁ rfl X₀
    exact ⟨t, o, a1, b1, b2, b3⟩
theorem lw_pre_spec {args : Array Value} {s : State} (h : (Jvm.Cond.and given_1 narrow_1).before args s = true) (hr : rest_1_c.before args s = true) : ∃ (b : Addr) (xs : List Int32), lw_P b xs args s := by
  have hs := flat_of_before _ h
  have hq := flat_of_before _ hr
  have hc : (Cond.count 1).before args s = true := hs _ (by decide +kernel)
  have harr : (Cond.arrayOf (.arg 0) .int).before args s = true := hs _ (by decide +kernel)
  have hle : (Cond.le (.length (.arg 0)) (.int 2048)).before args s = true := hs _ (by decide +kernel)
  have hlen : (Cond.isInt (.length (.arg 0))).before args s = true := hq _ (by decide +kernel)
  have hall : (Cond.all (.arg 0) (.isInt (.elem (.arg 0) (.index 0)))).before args s = true := hq _ (by decide +kernel)
  obtain ⟨b, xs, hb, hx⟩ := State.ints_of_pre rfl harr hlen hall
  have hsm : xs.length < 2 ^ 31 := hx.choose_spec.2.2.2
  have hev : (Term.length (.arg 0)).eval args s none [] s = some (.int xs.length.toInt32) := hx.length_eval hb
  have hv := Cond.le_ints hev (show (Term.int 2048).eval args s none [] s = some (.int 2048) from rfl)
  have hd : xs.length.toInt32 ≤ 2048 := by
    simpa [Cond.before, Cond.holds, hv] using hle
  have hN : xs.length ≤ 2048 := (Int32.ofNat_le_ofNat hsm (by decide)).mp (show Int32.ofNat xs.length ≤ Int32.ofNat 2048 from hd)
  exact ⟨b, xs, Cond.one_arg hc (show args[0]? = some (.ref b) from hb), hx, hN, h⟩
theorem lw_comes (l : Launch) (hst : l.stackTraces = false) (mf : MF) : Comes l x (Jvm.Cond.code x code maxLocals ret :: tables_1) room_1 (fun tb e args s => Calls_1 tb e args s ∧ rest_1 tb e args s ∧ Pre_1 tb e args s)
    (fun _ _ args s o t => lw_Q args s o t) := by
  intro p e ha hc hk s m args below hf hfit hheap happ hpre
  obtain ⟨b, xs, hP⟩ := lw_pre_spec hpre.2.2 hpre.2.1
  obtain ⟨k, o, h1, h2, h3, hQ⟩ := lw_walk l hst mf b xs p e ha hc hk s m args below hf ((Spec.applies_iff_loose hf).mp happ).1 hP trivial
  exact ⟨k, o, h1, h2, h3, hQ⟩
theorem lw_frame {s t : State} {o : Outcome} {args : Array Value} (h : Framed s o t [] 601024 7293034) :
    Framed s o t (fieldLocs frame_1_writes args s ++ arrayLocs frame_1_arrays args s ++ staticLocs frame_1_statics s) 601024 7293034 := h
theorem lw_limb (mf : MF) (L : Cond) (hL : ∀ (args : Array Value) (s t : State), L.after args s (.returned (some (.int 1))) t = true) :
    ArmFor flags0 classFile x code maxLocals ret World_1 tables_1 room_1 Calls_1 rest_1 Pre_1
      (fun tb e a s o t => postC L tb e a s o t ∧ Framed s o t (fieldLocs frame_1_writes a s ++ arrayLocs frame_1_arrays a s ++ staticLocs frame_1_statics s) 601024 7293034) := by
  intro l hfl _ _ p e ha hc hk s m args below hf hfit hheap happ hpre
  obtain ⟨k, o, h1, h2, h3, rfl, hF⟩ := lw_comes l (by unfold Launch.stackTraces; rw [hfl]; decide +kernel) mf p e ha hc hk s m args below hf hfit hheap happ hpre
  exact ⟨k, _, h1, h2, h3, hL args s _, lw_frame hF⟩
theorem whole_of (mf : MF) : Claimed_1_1 ∧ Claimed_1_2 := ⟨lw_limb mf limb_1_1 (fun args s t => by simp [limb_1_1, Cond.after, Cond.holds, Cond.value]), lw_limb mf limb_1_2 (fun args s t => Cond.after_iff.mpr (by
  first | (rw [show limb_1_2 = Cond.eq .result (.int 1) from rfl, Cond.eq_ints (x := 1) (y := 1) rfl rfl]; simp; done) | (simp [limb_1_2, Cond.value, Term.eval]; done)))⟩
