/-! THE SMALL MACHINE. A value's reference is a POSITION in the list of shapes; what a cell holds is a function of its position.
mW: 'from here, in every real situation that looks so, W holds', stated once; each instruction is a row over mW. -/
def mm_rv (ad : Nat → Nat) : Value → Value
  | .ref k => .ref (ad k)
  | .retAddr b => .ref b
  | v => v
def mm_vo (n : Nat) (v : Value) : Prop := ∀ r, v = .ref r → r < n
abbrev mm_Sh : Type := List ((Nat × Nat) ⊕ Nat)
abbrev mm_H : Type := mm_Sh × (Nat → Nat → Int32) × (Nat → Nat → Int64) × (Nat → Nat → Option Nat) × (Nat → Nat → Value)
abbrev mm_X : Type := Option Value ⊕ Nat → mm_H → Prop
/-- launch; classes' numbers and slots; array classes; the script: cell, length, ints -/
abbrev mm_G : Type := Launch × va_G × (Nat → ClassId) × Nat × Nat × (Nat → Int32)


def mm_ce (tc : Nat → ClassId) (ad : Nat → Nat) (h : mm_H) (k : Nat) : (Nat × Nat) ⊕ Nat → va_E
  | .inl (0, n) => .inl (tc 0, n, .inl (h.2.1 k))
  | .inl (1, n) => .inl (tc 1, n, .inl (h.2.1 k))
  | .inl (2, n) => .inl (tc 2, n, .inr (.inl (h.2.2.1 k)))
  | .inl (t + 3, n) => .inl (tc (t + 3), n, .inr (.inr (.inr (.inr (fun j => (h.2.2.2.1 k j).map ad)))))
  | .inr ci => .inr (ci, (List.range (mm_nf ci)).map (fun j => mm_rv ad (h.2.2.2.2 k j)))
def mm_ws (tc : Nat → ClassId) (ad : Nat → Nat) (h : mm_H) : va_W := h.1.mapIdx (fun k x => (ad k, mm_ce tc ad h k x))
/-- every reference that is kept is of a cell that is there -/
def mm_ok (n : Nat) (h : mm_H) : Prop := (∀ k j r, h.2.2.2.1 k j = some r → r < n) ∧ ∀ k j r, h.2.2.2.2 k j = .ref r → r < n
theorem mm_ws_get {tc : Nat → ClassId} {ad : Nat → Nat} {h : mm_H} {k : Nat} {x : (Nat × Nat) ⊕ Nat} (hk : h.1[k]? = some x) : (mm_ws tc ad h)[k]? = some (ad k, mm_ce tc ad h k x) := by
  unfold mm_ws
  rw [List.getElem?_mapIdx, hk]
  rfl
theorem mm_ws_len {tc : Nat → ClassId} {ad : Nat → Nat} {h : mm_H} : (mm_ws tc ad h).length = h.1.length := by
  unfold mm_ws
  rw [List.length_mapIdx]
theorem mm_ws_set {tc : Nat → ClassId} {ad : Nat → Nat} {h h' : mm_H} {k : Nat} {x : (Nat × Nat) ⊕ Nat} (hs : h'.1 = h.1) (hk : h.1[k]? = some x) (hne : ∀ j, j ≠ k → ∀ y, mm_ce tc ad h' j y = mm_ce tc ad h j y) :
    (mm_ws tc ad h).set k (ad k, mm_ce tc ad h' k x) = mm_ws tc ad h' := by
  apply List.ext_getElem?
  intro j
  by_cases hj : j = k
  · subst hj
    have hlt : j < (mm_ws tc ad h).length := by
      rw [mm_ws_len]
      exact (List.getElem?_eq_some_iff.mp hk).1
    rw [List.getElem?_set_self hlt, mm_ws_get (h := h') (by rw [hs]; exact hk)]
  · rw [List.getElem?_set_ne (fun e => hj e.symm)]
    unfold mm_ws
    rw [List.getElem?_mapIdx, List.getElem?_mapIdx, hs]
    cases h.1[j]? with
    | none => rfl
    | some y => simp only [Option.map_some, hne j hj y]
theorem mm_rv_up {ad : Nat → Nat} {n q : Nat} {v : Value} (h : mm_vo n v) : mm_rv (va_up ad n q) v = mm_rv ad v := by
  cases v with
  | ref r =>
    show Value.ref (va_up ad n q r) = .ref (ad r)
    rw [va_up_ne _ _ (Nat.ne_of_lt (h r rfl))]
  | _ => rfl
theorem mm_ro_up {ad : Nat → Nat} {n q : Nat} {v : Option Nat} (h : ∀ r, v = some r → r < n) : v.map (va_up ad n q) = v.map ad := by
  cases v with
  | none => rfl
  | some r =>
    show some (va_up ad n q r) = some (ad r)
    rw [va_up_ne _ _ (Nat.ne_of_lt (h r rfl))]
theorem mm_ce_up {tc : Nat → ClassId} {ad : Nat → Nat} {n q : Nat} {h h' : mm_H} (ho : mm_ok n h) {k : Nat} (e1 : h'.2.1 k = h.2.1 k) (e2 : h'.2.2.1 k = h.2.2.1 k) (e3 : h'.2.2.2.1 k = h.2.2.2.1 k) (e4 : h'.2.2.2.2 k = h.2.2.2.2 k) (x : (Nat × Nat) ⊕ Nat) :
    mm_ce tc (va_up ad n q) h' k x = mm_ce tc ad h k x := by
  match x with
  | .inl (0, m) => simp only [mm_ce, e1]
  | .inl (1, m) => simp only [mm_ce, e1]
  | .inl (2, m) => simp only [mm_ce, e2]
  | .inl (t + 3, m) =>
    simp only [mm_ce, e3]
    congr 7
    funext j
    exact mm_ro_up (ho.1 k j)
  | .inr ci =>
    simp only [mm_ce, e4]
    congr 2
    apply List.map_congr_left
    intro j _
    exact mm_rv_up (ho.2 k j)
theorem mm_ws_push {tc : Nat → ClassId} {ad : Nat → Nat} {q : Nat} {h h' : mm_H} {x : (Nat × Nat) ⊕ Nat} (ho : mm_ok h.1.length h) (hs : h'.1 = h.1 ++ [x])
    (e : ∀ k, k < h.1.length → h'.2.1 k = h.2.1 k ∧ h'.2.2.1 k = h.2.2.1 k ∧ h'.2.2.2.1 k = h.2.2.2.1 k ∧ h'.2.2.2.2 k = h.2.2.2.2 k) :
    mm_ws tc (va_up ad h.1.length q) h' = mm_ws tc ad h ++ [(q, mm_ce tc (va_up ad h.1.length q) h' h.1.length x)] := by
  unfold mm_ws
  rw [hs, List.mapIdx_concat, va_up_self]
  congr 1
  apply List.ext_getElem?
  intro j
  rw [List.getElem?_mapIdx, List.getElem?_mapIdx]
  cases hj : h.1[j]? with
  | none => rfl
  | some y =>
    have hlt := (List.getElem?_eq_some_iff.mp hj).1
    obtain ⟨e1, e2, e3, e4⟩ := e j hlt
    simp only [Option.map_some]
    rw [mm_ce_up ho e1 e2 e3 e4, va_up_ne _ _ (Nat.ne_of_lt hlt)]
theorem mm_cat (ad : Nat → Nat) (v : Value) : (mm_rv ad v).category = v.category := by cases v <;> rfl
abbrev mm_lm (ad : Nat → Nat) (ls : List (Nat × Value)) : List (Nat × Value) := ls.map (fun q => (q.1, mm_rv ad q.2))
theorem mm_lm_at {ad : Nat → Nat} {ls : List (Nat × Value)} {k i : Nat} {v : Value} (h : ls[k]? = some (i, v)) : (mm_lm ad ls)[k]? = some (i, mm_rv ad v) := by
  rw [List.getElem?_map, h]
  rfl
theorem mm_lm_f1 (ad : Nat → Nat) (ls : List (Nat × Value)) (i : Nat) : (mm_lm ad ls).filter (fun q => !(q.1 == i) && !(q.1 + 1 == i && q.2.category == 2)) = mm_lm ad (ls.filter (fun q => !(q.1 == i) && !(q.1 + 1 == i && q.2.category == 2))) := by
  rw [List.filter_map]
  congr 1
  apply List.filter_congr
  intro q _
  simp only [Function.comp, mm_cat]
theorem mm_lm_f2 (ad : Nat → Nat) (ls : List (Nat × Value)) (i : Nat) : (mm_lm ad ls).filter (fun q => !(q.1 == i) && (!(q.1 == i + 1) && !(q.1 + 1 == i && q.2.category == 2))) = mm_lm ad (ls.filter (fun q => !(q.1 == i) && (!(q.1 == i + 1) && !(q.1 + 1 == i && q.2.category == 2)))) := by
  rw [List.filter_map]
  congr 1
  apply List.filter_congr
  intro q _
  simp only [Function.comp, mm_cat]
theorem mm_lm_up {ad : Nat → Nat} {n q : Nat} {ls : List (Nat × Value)} (h : ∀ x ∈ ls, mm_vo n x.2) : mm_lm (va_up ad n q) ls = mm_lm ad ls := by
  apply List.map_congr_left
  intro x hx
  rw [mm_rv_up (h x hx)]
theorem mm_st_up {ad : Nat → Nat} {n q : Nat} {st : List Value} (h : ∀ x ∈ st, mm_vo n x) : st.map (mm_rv (va_up ad n q)) = st.map (mm_rv ad) := by
  apply List.map_congr_left
  intro x hx
  exact mm_rv_up (h x hx)
theorem mm_vi (n : Nat) (x : Int32) : mm_vo n (.int x) := fun _ h => by cases h
theorem mm_vl (n : Nat) (x : Int64) : mm_vo n (.long x) := fun _ h => by cases h
theorem mm_vn (n : Nat) : mm_vo n .null := fun _ h => by cases h
theorem mm_vs {n m : Nat} (h : n ≤ m) {v : Value} (hv : mm_vo n v) : mm_vo m v := fun r e => Nat.lt_of_lt_of_le (hv r e) h
/-- the method stands: its code, its words, its room -/
def mm_C (G : mm_G) (M : mm_M) (d : Nat) (p : Program) (R : Room) (s : State) (m : MethodId) (args : Array Value) (meth : Method) (c : Code) : Prop :=
  p.tables.exec = Jvm.exec ∧ c.code = M.2.1 ∧ c.maxLocals = M.2.2.1 ∧ s.vm.findClass M.1.cls = some m.cls ∧ (∀ w ∈ mm_aw, w.before args s = true) ∧ mm_N s ∧ meth.sig.returnType = M.2.2.2.1 ∧ meth.locks = false ∧ meth.name = M.1.name ∧
  va_K G.2.1 mm_cl (mm_tys G.2.2.1) s ∧ d + 9 ≤ R.frames ∧ 40 * d + 300 ≤ R.locals ∧ c.exceptionTable.toList = tableOf M.2.2.2.2
/-- the heap, the locals and the room look so -/
def mm_S (G : mm_G) (M : mm_M) (bc bs : Nat) (R : Room) (s : State) (A : Nat → Prop) (ls : List (Nat × Value)) (st : List Value) (h : mm_H) (n0 : Nat) (ad0 ad : Nat → Nat) (H : Heap) (locs : List Loc) (cells slots : Nat) (lr : Array Slot) : Prop :=
  va_P G.2.1 mm_cl (mm_ws G.2.2.1 ad h) H ∧ va_D A (mm_ws G.2.2.1 ad h) ∧ va_S A s.heap H locs ∧ lv_has lr M.2.2.1 (mm_lm ad ls) ∧ mm_ok h.1.length h ∧ (∀ q ∈ ls, mm_vo h.1.length q.2) ∧ (∀ v ∈ st, mm_vo h.1.length v) ∧ cells + bc ≤ R.cells ∧ slots + bs ≤ R.slots ∧ n0 ≤ h.1.length ∧ ∀ k, k < n0 → ad k = ad0 k
/-- what may be changed: all that is new; not the script; not Throwable's statics -/
def mm_A (G : mm_G) (M : mm_M) (s : State) (A : Nat → Prop) : Prop :=
  (∀ q, s.heap.size ≤ q → A q) ∧ (M.1.name = "law" → va_X G.2.2.2.1 G.2.2.2.2.1 G.2.2.2.2.2 s s.heap ∧ G.2.2.2.1 < s.heap.size ∧ ¬ A G.2.2.2.1) ∧
  vx_Zq Bundle.tN "UNASSIGNED_STACK" Bundle.steD A s s.heap ∧ vx_Zq Bundle.tN "SUPPRESSED_SENTINEL" Bundle.listD A s s.heap
/-- 'throw new E(text)' stands at pc -/
def mm_th (M : mm_M) (k pc ik is ic : Nat) (text : String) : Prop :=
  decode M.2.1 pc = .ok (.new ik, 3) ∧ decode M.2.1 (pc + 3) = .ok (.dup, 1) ∧ decode M.2.1 (pc + 4) = .ok (.ldc is, 2) ∧ decode M.2.1 (pc + 6) = .ok (.invokespecial ic, 3) ∧ decode M.2.1 (pc + 9) = .ok (.athrow, 1) ∧
  (M.1.cls, is, text) ∈ mm_sr ∧ (∀ w ∈ Cond.classLink M.1.cls ik (mm_en k) :: Cond.initialized (mm_en k) :: vx_atS M.1.cls ic (mm_en k) mm_xn, (w ∈ mm_aw ∨ w ∈ mm_nw) ∧ vx_ot w = true) ∧ M.2.2.2.2 = [] ∧ Bundle.fit (mm_en k) = true ∧ ∀ n ∈ mm_xn, Bundle.fit n = true
/-- where a return leads, and a throw -/
def mm_E (G : mm_G) (M : mm_M) (p : Program) (e : Env) (R : Room) (s : State) (m : MethodId) (args : Array Value) (below : List Frame) (meth : Method) (c : Code) (A : Nat → Prop) (n0 : Nat) (ad0 : Nat → Nat) (Q : State → Prop) (X : mm_X) : Prop :=
  ∀ (h : mm_H) (ad : Nat → Nat) (H : Heap) (locs : List Loc) (cells slots : Nat) (lr : Array Slot) (v : Option Value), X (.inl v) h → (∀ x ∈ v.toList, mm_vo h.1.length x) → mm_S G M 0 0 R s A [] [] h n0 ad0 ad H locs cells slots lr →
    (v = none → M.2.2.2.1 = none → ∀ pc, decode M.2.1 pc = .ok (.return_, 1) → W p G.1 e R s m args below meth c H locs cells slots Q (F0 m pc lr [])) ∧
    (∀ x ty, v = some (.int x) → M.2.2.2.1 = some ty → narrow ty (.int x) = .int x → ∀ pc, decode M.2.1 pc = .ok (.ireturn, 1) → W p G.1 e R s m args below meth c H locs cells slots Q (F0 m pc lr [.int x])) ∧
    (∀ x, v = some (.long x) → M.2.2.2.1 = some .long → ∀ pc, decode M.2.1 pc = .ok (.lreturn, 1) → W p G.1 e R s m args below meth c H locs cells slots Q (F0 m pc lr [.long x])) ∧
    (∀ x n, v = some (.ref x) → M.2.2.2.1 = some (.object n) → ∀ pc, decode M.2.1 pc = .ok (.areturn, 1) → W p G.1 e R s m args below meth c H locs cells slots Q (F0 m pc lr [.ref (ad x)]))
def mm_ET (G : mm_G) (M : mm_M) (p : Program) (e : Env) (R : Room) (s : State) (m : MethodId) (args : Array Value) (below : List Frame) (meth : Method) (c : Code) (A : Nat → Prop) (n0 : Nat) (ad0 : Nat → Nat) (Q : State → Prop) (X : mm_X) : Prop :=
  (∀ (h : mm_H) (ad : Nat → Nat) (H : Heap) (locs : List Loc) (cells slots : Nat) (lr : Array Slot) (k pc ik is ic : Nat) (text : String) (rest : List Value), X (.inr k) h → mm_S G M 1 6 R s A [] [] h n0 ad0 ad H locs cells slots lr → mm_th M k pc ik is ic text → (rest.map fun v => v.category).sum ≤ 8 →
    W p G.1 e R s m args below meth c H locs cells slots Q (F0 m pc lr rest)) ∧
  (∀ (h : mm_H) (ad : Nat → Nat) (H : Heap) (locs : List Loc) (cells slots : Nat) (lr : Array Slot) (k pc q : Nat) (ce : Cell) (rest : List Value), X (.inr k) h → mm_S G M 0 0 R s A [] [] h n0 ad0 ad H locs cells slots lr → M.2.2.2.2 = [] → H[q]? = some ce → ce.vm = .none → s.vm.findClass (mm_en k) = some ce.cls →
    vx_W p G.1 e R s m args below meth c H locs cells slots Q (F0 m pc lr rest) q)
def mW (G : mm_G) (M : mm_M) (d bc bs : Nat) (pc : Nat) (ls : List (Nat × Value)) (st : List Value) (h : mm_H) (X : mm_X) : Prop :=
  ∀ (p : Program) (e : Env) (R : Room) (s : State) (m : MethodId) (args : Array Value) (below : List Frame) (meth : Method) (c : Code) (A : Nat → Prop) (n0 : Nat) (ad0 : Nat → Nat) (Q : State → Prop),
    mm_C G M d p R s m args meth c → mm_A G M s A → mm_E G M p e R s m args below meth c A n0 ad0 Q X ∧ mm_ET G M p e R s m args below meth c A n0 ad0 Q X →
    ∀ (ad : Nat → Nat) (H : Heap) (locs : List Loc) (cells slots : Nat) (lr : Array Slot), mm_S G M bc bs R s A ls st h n0 ad0 ad H locs cells slots lr →
      W p G.1 e R s m args below meth c H locs cells slots Q (F0 m pc lr (st.map (mm_rv ad)))
section MMR
variable {G : mm_G} {M : mm_M} {d bc bs pc : Nat} {ls : List (Nat × Value)} {st : List Value} {h : mm_H} {X : mm_X}
theorem mm_S.sk {R : Room} {s : State} {A : Nat → Prop} {st' : List Value} {n0 : Nat} {ad0 ad : Nat → Nat} {H : Heap} {locs : List Loc} {cells slots : Nat} {lr : Array Slot} (z : mm_S G M bc bs R s A ls st h n0 ad0 ad H locs cells slots lr) (hv : ∀ v ∈ st', mm_vo h.1.length v) : mm_S G M bc bs R s A ls st' h n0 ad0 ad H locs cells slots lr :=
  ⟨z.1, z.2.1, z.2.2.1, z.2.2.2.1, z.2.2.2.2.1, z.2.2.2.2.2.1, hv, z.2.2.2.2.2.2.2⟩
theorem mm_S.lt {R : Room} {s : State} {A : Nat → Prop} {ls' : List (Nat × Value)} {st' : List Value} {n0 : Nat} {ad0 ad : Nat → Nat} {H : Heap} {locs : List Loc} {cells slots : Nat} {lr lr' : Array Slot} (z : mm_S G M bc bs R s A ls st h n0 ad0 ad H locs cells slots lr) (hl : lv_has lr' M.2.2.1 (mm_lm ad ls')) (ho : ∀ q ∈ ls', mm_vo h.1.length q.2) (hv : ∀ v ∈ st', mm_vo h.1.length v) : mm_S G M bc bs R s A ls' st' h n0 ad0 ad H locs cells slots lr' :=
  ⟨z.1, z.2.1, z.2.2.1, hl, z.2.2.2.2.1, ho, hv, z.2.2.2.2.2.2.2⟩
theorem mm_S.vs {R : Room} {s : State} {A : Nat → Prop} {n0 : Nat} {ad0 ad : Nat → Nat} {H : Heap} {locs : List Loc} {cells slots : Nat} {lr : Array Slot} (z : mm_S G M bc bs R s A ls st h n0 ad0 ad H locs cells slots lr) : ∀ v ∈ st, mm_vo h.1.length v := z.2.2.2.2.2.2.1
theorem mm_S.vl {R : Room} {s : State} {A : Nat → Prop} {n0 : Nat} {ad0 ad : Nat → Nat} {H : Heap} {locs : List Loc} {cells slots : Nat} {lr : Array Slot} (z : mm_S G M bc bs R s A ls st h n0 ad0 ad H locs cells slots lr) : ∀ q ∈ ls, mm_vo h.1.length q.2 := z.2.2.2.2.2.1
theorem mm_c1 {n : Nat} {v : Value} {st : List Value} (hv : mm_vo n v) (h : ∀ v ∈ st, mm_vo n v) : ∀ x ∈ v :: st, mm_vo n x := List.forall_mem_cons.mpr ⟨hv, h⟩
theorem mm_t1 {n : Nat} {v : Value} {st : List Value} (h : ∀ x ∈ v :: st, mm_vo n x) : ∀ x ∈ st, mm_vo n x := (List.forall_mem_cons.mp h).2
theorem mm_h1 {n : Nat} {v : Value} {st : List Value} (h : ∀ x ∈ v :: st, mm_vo n x) : mm_vo n v := (List.forall_mem_cons.mp h).1
theorem mm_lf {n : Nat} {i : Nat} {v : Value} {ls ls' : List (Nat × Value)} {f : Nat × Value → Bool} (hv : mm_vo n v) (h : ∀ q ∈ ls, mm_vo n q.2) (e : (i, v) :: ls.filter f = ls') : ∀ q ∈ ls', mm_vo n q.2 := by
  subst e
  intro q hq
  rcases List.mem_cons.mp hq with rfl | hq
  · exact hv
  · exact h q (List.mem_filter.mp hq).1

theorem mw_iconst {n : Int} {v : Int32} (hd : decode M.2.1 pc = .ok (.iconst n, 1)) (hv : Int32.ofInt n = v) (k : mW G M d bc bs (pc + 1) ls (.int v :: st) h X) : mW G M d bc bs pc ls st h X := by
  intro p e R s m args below meth c A n0 ad0 Q hC hA hE ad H locs cells slots lr z
  exact lv_iconst hC.1 hC.2.1 hd hv (k p e R s m args below meth c A n0 ad0 Q hC hA hE ad H locs cells slots lr (z.sk (mm_c1 (mm_vi _ _) z.vs)))
theorem mw_bipush {n : Int} {v : Int32} (hd : decode M.2.1 pc = .ok (.bipush n, 2)) (hv : (Int8.ofInt n).toInt32 = v) (k : mW G M d bc bs (pc + 2) ls (.int v :: st) h X) : mW G M d bc bs pc ls st h X := by
  intro p e R s m args below meth c A n0 ad0 Q hC hA hE ad H locs cells slots lr z
  exact lv_bipush hC.1 hC.2.1 hd hv (k p e R s m args below meth c A n0 ad0 Q hC hA hE ad H locs cells slots lr (z.sk (mm_c1 (mm_vi _ _) z.vs)))
theorem mw_sipush {n : Int} {v : Int32} (hd : decode M.2.1 pc = .ok (.sipush n, 3)) (hv : (Int16.ofInt n).toInt32 = v) (k : mW G M d bc bs (pc + 3) ls (.int v :: st) h X) : mW G M d bc bs pc ls st h X := by
  intro p e R s m args below meth c A n0 ad0 Q hC hA hE ad H locs cells slots lr z
  exact lv_sipush hC.1 hC.2.1 hd hv (k p e R s m args below meth c A n0 ad0 Q hC hA hE ad H locs cells slots lr (z.sk (mm_c1 (mm_vi _ _) z.vs)))
theorem mw_lconst {n : Fin 2} {v : Int64} (hd : decode M.2.1 pc = .ok (.lconst n, 1)) (hv : Int64.ofNat (n : Nat) = v) (k : mW G M d bc bs (pc + 1) ls (.long v :: st) h X) : mW G M d bc bs pc ls st h X := by
  intro p e R s m args below meth c A n0 ad0 Q hC hA hE ad H locs cells slots lr z
  exact lv_lconst hC.1 hC.2.1 hd hv (k p e R s m args below meth c A n0 ad0 Q hC hA hE ad H locs cells slots lr (z.sk (mm_c1 (mm_vl _ _) z.vs)))
theorem mw_ldc {idx : Nat} {v : Int32} (hd : decode M.2.1 pc = .ok (.ldc idx, 2)) (hw : Jvm.Cond.constant M.1.cls idx v ∈ mm_aw) (k : mW G M d bc bs (pc + 2) ls (.int v :: st) h X) : mW G M d bc bs pc ls st h X := by
  intro p e R s m args below meth c A n0 ad0 Q hC hA hE ad H locs cells slots lr z
  exact lv_ldc hC.1 hC.2.1 hC.2.2.2.1 (hC.2.2.2.2.1 _ hw) hd (k p e R s m args below meth c A n0 ad0 Q hC hA hE ad H locs cells slots lr (z.sk (mm_c1 (mm_vi _ _) z.vs)))
theorem mw_ldc2 {idx : Nat} {v : Int64} (hd : decode M.2.1 pc = .ok (.ldc2_w idx, 3)) (hw : Jvm.Cond.constantLong M.1.cls idx v ∈ mm_aw) (k : mW G M d bc bs (pc + 3) ls (.long v :: st) h X) : mW G M d bc bs pc ls st h X := by
  intro p e R s m args below meth c A n0 ad0 Q hC hA hE ad H locs cells slots lr z
  exact lv_ldc2 hC.1 hC.2.1 hC.2.2.2.1 (hC.2.2.2.2.1 _ hw) hd (k p e R s m args below meth c A n0 ad0 Q hC hA hE ad H locs cells slots lr (z.sk (mm_c1 (mm_vl _ _) z.vs)))
theorem mw_iload_n {kk : Fin 4} {i : Nat} {x : Int32} (hd : decode M.2.1 pc = .ok (.iload_n kk, 1)) (hi : (kk : Nat) = i) (q : Nat) (hl : ls[q]? = some (i, .int x)) (k : mW G M d bc bs (pc + 1) ls (.int x :: st) h X) : mW G M d bc bs pc ls st h X := by
  intro p e R s m args below meth c A n0 ad0 Q hC hA hE ad H locs cells slots lr z
  exact lv_iload_n hC.1 hC.2.1 hd hi (lv_at z.2.2.2.1 q (mm_lm_at hl)) (k p e R s m args below meth c A n0 ad0 Q hC hA hE ad H locs cells slots lr (z.sk (mm_c1 (mm_vi _ _) z.vs)))
theorem mw_iload {i : Nat} {x : Int32} (hd : decode M.2.1 pc = .ok (.iload i, 2)) (q : Nat) (hl : ls[q]? = some (i, .int x)) (k : mW G M d bc bs (pc + 2) ls (.int x :: st) h X) : mW G M d bc bs pc ls st h X := by
  intro p e R s m args below meth c A n0 ad0 Q hC hA hE ad H locs cells slots lr z
  exact lv_iload hC.1 hC.2.1 hd (lv_at z.2.2.2.1 q (mm_lm_at hl)) (k p e R s m args below meth c A n0 ad0 Q hC hA hE ad H locs cells slots lr (z.sk (mm_c1 (mm_vi _ _) z.vs)))
theorem mw_lload_n {kk : Fin 4} {i : Nat} {x : Int64} (hd : decode M.2.1 pc = .ok (.lload_n kk, 1)) (hi : (kk : Nat) = i) (q : Nat) (hl : ls[q]? = some (i, .long x)) (k : mW G M d bc bs (pc + 1) ls (.long x :: st) h X) : mW G M d bc bs pc ls st h X := by
  intro p e R s m args below meth c A n0 ad0 Q hC hA hE ad H locs cells slots lr z
  exact lv_lload_n hC.1 hC.2.1 hd hi (lv_at z.2.2.2.1 q (mm_lm_at hl)) (k p e R s m args below meth c A n0 ad0 Q hC hA hE ad H locs cells slots lr (z.sk (mm_c1 (mm_vl _ _) z.vs)))
theorem mw_lload {i : Nat} {x : Int64} (hd : decode M.2.1 pc = .ok (.lload i, 2)) (q : Nat) (hl : ls[q]? = some (i, .long x)) (k : mW G M d bc bs (pc + 2) ls (.long x :: st) h X) : mW G M d bc bs pc ls st h X := by
  intro p e R s m args below meth c A n0 ad0 Q hC hA hE ad H locs cells slots lr z
  exact lv_lload hC.1 hC.2.1 hd (lv_at z.2.2.2.1 q (mm_lm_at hl)) (k p e R s m args below meth c A n0 ad0 Q hC hA hE ad H locs cells slots lr (z.sk (mm_c1 (mm_vl _ _) z.vs)))
theorem mw_aload_n {kk : Fin 4} {i : Nat} {x : Nat} (hd : decode M.2.1 pc = .ok (.aload_n kk, 1)) (hi : (kk : Nat) = i) (q : Nat) (hl : ls[q]? = some (i, .ref x)) (k : mW G M d bc bs (pc + 1) ls (.ref x :: st) h X) : mW G M d bc bs pc ls st h X := by
  intro p e R s m args below meth c A n0 ad0 Q hC hA hE ad H locs cells slots lr z
  exact lv_aload_n hC.1 hC.2.1 hd hi (lv_at z.2.2.2.1 q (mm_lm_at hl)) (k p e R s m args below meth c A n0 ad0 Q hC hA hE ad H locs cells slots lr (z.sk (mm_c1 (z.vl _ (List.mem_of_getElem? hl)) z.vs)))
theorem mw_aload {i : Nat} {x : Nat} (hd : decode M.2.1 pc = .ok (.aload i, 2)) (q : Nat) (hl : ls[q]? = some (i, .ref x)) (k : mW G M d bc bs (pc + 2) ls (.ref x :: st) h X) : mW G M d bc bs pc ls st h X := by
  intro p e R s m args below meth c A n0 ad0 Q hC hA hE ad H locs cells slots lr z
  exact lv_aload hC.1 hC.2.1 hd (lv_at z.2.2.2.1 q (mm_lm_at hl)) (k p e R s m args below meth c A n0 ad0 Q hC hA hE ad H locs cells slots lr (z.sk (mm_c1 (z.vl _ (List.mem_of_getElem? hl)) z.vs)))
theorem mw_aload_nS {kk : Fin 4} {i : Nat} {x : Nat} (hd : decode M.2.1 pc = .ok (.aload_n kk, 1)) (hi : (kk : Nat) = i) (q : Nat) (hl : ls[q]? = some (i, .retAddr x)) (k : mW G M d bc bs (pc + 1) ls (.retAddr x :: st) h X) : mW G M d bc bs pc ls st h X := by
  intro p e R s m args below meth c A n0 ad0 Q hC hA hE ad H locs cells slots lr z
  exact lv_aload_n hC.1 hC.2.1 hd hi (lv_at z.2.2.2.1 q (mm_lm_at hl)) (k p e R s m args below meth c A n0 ad0 Q hC hA hE ad H locs cells slots lr (z.sk (mm_c1 (z.vl _ (List.mem_of_getElem? hl)) z.vs)))
theorem mw_aloadS {i : Nat} {x : Nat} (hd : decode M.2.1 pc = .ok (.aload i, 2)) (q : Nat) (hl : ls[q]? = some (i, .retAddr x)) (k : mW G M d bc bs (pc + 2) ls (.retAddr x :: st) h X) : mW G M d bc bs pc ls st h X := by
  intro p e R s m args below meth c A n0 ad0 Q hC hA hE ad H locs cells slots lr z
  exact lv_aload hC.1 hC.2.1 hd (lv_at z.2.2.2.1 q (mm_lm_at hl)) (k p e R s m args below meth c A n0 ad0 Q hC hA hE ad H locs cells slots lr (z.sk (mm_c1 (z.vl _ (List.mem_of_getElem? hl)) z.vs)))
theorem mw_istore_n {kk : Fin 4} {i : Nat} {x : Int32} {ls' : List (Nat × Value)} (hd : decode M.2.1 pc = .ok (.istore_n kk, 1)) (hi : (kk : Nat) = i) (hn : i < M.2.2.1) (hl : (i, Value.int x) :: ls.filter (fun q => !(q.1 == i) && !(q.1 + 1 == i && q.2.category == 2)) = ls') (k : mW G M d bc bs (pc + 1) ls' st h X) : mW G M d bc bs pc ls (.int x :: st) h X := by
  intro p e R s m args below meth c A n0 ad0 Q hC hA hE ad H locs cells slots lr z
  refine lv_istore_n hC.1 hC.2.1 hd hi z.2.2.2.1 hn rfl (fun lr2 hl2 => ?_)
  rw [mm_lm_f1] at hl2
  exact k p e R s m args below meth c A n0 ad0 Q hC hA hE ad H locs cells slots lr2 (z.lt (by rw [← hl]; exact hl2) (mm_lf (mm_h1 z.vs) z.vl hl) (mm_t1 z.vs))
theorem mw_istore {i : Nat} {x : Int32} {ls' : List (Nat × Value)} (hd : decode M.2.1 pc = .ok (.istore i, 2)) (hn : i < M.2.2.1) (hl : (i, Value.int x) :: ls.filter (fun q => !(q.1 == i) && !(q.1 + 1 == i && q.2.category == 2)) = ls') (k : mW G M d bc bs (pc + 2) ls' st h X) : mW G M d bc bs pc ls (.int x :: st) h X := by
  intro p e R s m args below meth c A n0 ad0 Q hC hA hE ad H locs cells slots lr z
  refine lv_istore hC.1 hC.2.1 hd z.2.2.2.1 hn rfl (fun lr2 hl2 => ?_)
  rw [mm_lm_f1] at hl2
  exact k p e R s m args below meth c A n0 ad0 Q hC hA hE ad H locs cells slots lr2 (z.lt (by rw [← hl]; exact hl2) (mm_lf (mm_h1 z.vs) z.vl hl) (mm_t1 z.vs))
theorem mw_lstore_n {kk : Fin 4} {i : Nat} {x : Int64} {ls' : List (Nat × Value)} (hd : decode M.2.1 pc = .ok (.lstore_n kk, 1)) (hi : (kk : Nat) = i) (hn : i + 1 < M.2.2.1) (hl : (i, Value.long x) :: ls.filter (fun q => !(q.1 == i) && (!(q.1 == i + 1) && !(q.1 + 1 == i && q.2.category == 2))) = ls') (k : mW G M d bc bs (pc + 1) ls' st h X) : mW G M d bc bs pc ls (.long x :: st) h X := by
  intro p e R s m args below meth c A n0 ad0 Q hC hA hE ad H locs cells slots lr z
  refine lv_lstore_n hC.1 hC.2.1 hd hi z.2.2.2.1 hn rfl (fun lr2 hl2 => ?_)
  rw [mm_lm_f2] at hl2
  exact k p e R s m args below meth c A n0 ad0 Q hC hA hE ad H locs cells slots lr2 (z.lt (by rw [← hl]; exact hl2) (mm_lf (mm_h1 z.vs) z.vl hl) (mm_t1 z.vs))
theorem mw_lstore {i : Nat} {x : Int64} {ls' : List (Nat × Value)} (hd : decode M.2.1 pc = .ok (.lstore i, 2)) (hn : i + 1 < M.2.2.1) (hl : (i, Value.long x) :: ls.filter (fun q => !(q.1 == i) && (!(q.1 == i + 1) && !(q.1 + 1 == i && q.2.category == 2))) = ls') (k : mW G M d bc bs (pc + 2) ls' st h X) : mW G M d bc bs pc ls (.long x :: st) h X := by
  intro p e R s m args below meth c A n0 ad0 Q hC hA hE ad H locs cells slots lr z
  refine lv_lstore hC.1 hC.2.1 hd z.2.2.2.1 hn rfl (fun lr2 hl2 => ?_)
  rw [mm_lm_f2] at hl2
  exact k p e R s m args below meth c A n0 ad0 Q hC hA hE ad H locs cells slots lr2 (z.lt (by rw [← hl]; exact hl2) (mm_lf (mm_h1 z.vs) z.vl hl) (mm_t1 z.vs))
theorem mw_astore_n {kk : Fin 4} {i : Nat} {x : Nat} {ls' : List (Nat × Value)} (hd : decode M.2.1 pc = .ok (.astore_n kk, 1)) (hi : (kk : Nat) = i) (hn : i < M.2.2.1) (hl : (i, Value.ref x) :: ls.filter (fun q => !(q.1 == i) && !(q.1 + 1 == i && q.2.category == 2)) = ls') (k : mW G M d bc bs (pc + 1) ls' st h X) : mW G M d bc bs pc ls (.ref x :: st) h X := by
  intro p e R s m args below meth c A n0 ad0 Q hC hA hE ad H locs cells slots lr z
  refine lv_astore_n hC.1 hC.2.1 hd hi z.2.2.2.1 hn rfl (fun lr2 hl2 => ?_)
  rw [mm_lm_f1] at hl2
  exact k p e R s m args below meth c A n0 ad0 Q hC hA hE ad H locs cells slots lr2 (z.lt (by rw [← hl]; exact hl2) (mm_lf (mm_h1 z.vs) z.vl hl) (mm_t1 z.vs))
theorem mw_astore {i : Nat} {x : Nat} {ls' : List (Nat × Value)} (hd : decode M.2.1 pc = .ok (.astore i, 2)) (hn : i < M.2.2.1) (hl : (i, Value.ref x) :: ls.filter (fun q => !(q.1 == i) && !(q.1 + 1 == i && q.2.category == 2)) = ls') (k : mW G M d bc bs (pc + 2) ls' st h X) : mW G M d bc bs pc ls (.ref x :: st) h X := by
  intro p e R s m args below meth c A n0 ad0 Q hC hA hE ad H locs cells slots lr z
  refine lv_astore hC.1 hC.2.1 hd z.2.2.2.1 hn rfl (fun lr2 hl2 => ?_)
  rw [mm_lm_f1] at hl2
  exact k p e R s m args below meth c A n0 ad0 Q hC hA hE ad H locs cells slots lr2 (z.lt (by rw [← hl]; exact hl2) (mm_lf (mm_h1 z.vs) z.vl hl) (mm_t1 z.vs))
theorem mw_iinc {i : Nat} {n : Int} {x v : Int32} {ls' : List (Nat × Value)} (hd : decode M.2.1 pc = .ok (.iinc i n, 3)) (q : Nat) (hq : ls[q]? = some (i, .int x)) (hv : x + Int32.ofInt n = v) (hn : i < M.2.2.1) (hl : (i, Value.int v) :: ls.filter (fun q => !(q.1 == i) && !(q.1 + 1 == i && q.2.category == 2)) = ls') (k : mW G M d bc bs (pc + 3) ls' st h X) : mW G M d bc bs pc ls st h X := by
  intro p e R s m args below meth c A n0 ad0 Q hC hA hE ad H locs cells slots lr z
  refine lv_iinc hC.1 hC.2.1 hd z.2.2.2.1 (mm_lm_at hq) hv hn rfl (fun lr2 hl2 => ?_)
  rw [mm_lm_f1] at hl2
  exact k p e R s m args below meth c A n0 ad0 Q hC hA hE ad H locs cells slots lr2 (z.lt (by rw [← hl]; exact hl2) (mm_lf (mm_vi _ _) z.vl hl) z.vs)
theorem mw_iadd {x y : Int32} (hd : decode M.2.1 pc = .ok (.iadd, 1)) (k : mW G M d bc bs (pc + 1) ls (.int (x + y) :: st) h X) : mW G M d bc bs pc ls (.int y :: .int x :: st) h X := by
  intro p e R s m args below meth c A n0 ad0 Q hC hA hE ad H locs cells slots lr z
  exact lv_iadd hC.1 hC.2.1 hd (k p e R s m args below meth c A n0 ad0 Q hC hA hE ad H locs cells slots lr (z.sk (mm_c1 (mm_vi _ _) (mm_t1 (mm_t1 z.vs)))))
theorem mw_isub {x y : Int32} (hd : decode M.2.1 pc = .ok (.isub, 1)) (k : mW G M d bc bs (pc + 1) ls (.int (x - y) :: st) h X) : mW G M d bc bs pc ls (.int y :: .int x :: st) h X := by
  intro p e R s m args below meth c A n0 ad0 Q hC hA hE ad H locs cells slots lr z
  exact lv_isub hC.1 hC.2.1 hd (k p e R s m args below meth c A n0 ad0 Q hC hA hE ad H locs cells slots lr (z.sk (mm_c1 (mm_vi _ _) (mm_t1 (mm_t1 z.vs)))))
theorem mw_imul {x y : Int32} (hd : decode M.2.1 pc = .ok (.imul, 1)) (k : mW G M d bc bs (pc + 1) ls (.int (x * y) :: st) h X) : mW G M d bc bs pc ls (.int y :: .int x :: st) h X := by
  intro p e R s m args below meth c A n0 ad0 Q hC hA hE ad H locs cells slots lr z
  exact lv_imul hC.1 hC.2.1 hd (k p e R s m args below meth c A n0 ad0 Q hC hA hE ad H locs cells slots lr (z.sk (mm_c1 (mm_vi _ _) (mm_t1 (mm_t1 z.vs)))))
theorem mw_iand {x y : Int32} (hd : decode M.2.1 pc = .ok (.iand, 1)) (k : mW G M d bc bs (pc + 1) ls (.int (x &&& y) :: st) h X) : mW G M d bc bs pc ls (.int y :: .int x :: st) h X := by
  intro p e R s m args below meth c A n0 ad0 Q hC hA hE ad H locs cells slots lr z
  exact lv_iand hC.1 hC.2.1 hd (k p e R s m args below meth c A n0 ad0 Q hC hA hE ad H locs cells slots lr (z.sk (mm_c1 (mm_vi _ _) (mm_t1 (mm_t1 z.vs)))))
theorem mw_ior {x y : Int32} (hd : decode M.2.1 pc = .ok (.ior, 1)) (k : mW G M d bc bs (pc + 1) ls (.int (x ||| y) :: st) h X) : mW G M d bc bs pc ls (.int y :: .int x :: st) h X := by
  intro p e R s m args below meth c A n0 ad0 Q hC hA hE ad H locs cells slots lr z
  exact lv_ior hC.1 hC.2.1 hd (k p e R s m args below meth c A n0 ad0 Q hC hA hE ad H locs cells slots lr (z.sk (mm_c1 (mm_vi _ _) (mm_t1 (mm_t1 z.vs)))))
theorem mw_ixor {x y : Int32} (hd : decode M.2.1 pc = .ok (.ixor, 1)) (k : mW G M d bc bs (pc + 1) ls (.int (x ^^^ y) :: st) h X) : mW G M d bc bs pc ls (.int y :: .int x :: st) h X := by
  intro p e R s m args below meth c A n0 ad0 Q hC hA hE ad H locs cells slots lr z
  exact lv_ixor hC.1 hC.2.1 hd (k p e R s m args below meth c A n0 ad0 Q hC hA hE ad H locs cells slots lr (z.sk (mm_c1 (mm_vi _ _) (mm_t1 (mm_t1 z.vs)))))
theorem mw_ishl {x y : Int32} (hd : decode M.2.1 pc = .ok (.ishl, 1)) (k : mW G M d bc bs (pc + 1) ls (.int (x <<< (y &&& 31)) :: st) h X) : mW G M d bc bs pc ls (.int y :: .int x :: st) h X := by
  intro p e R s m args below meth c A n0 ad0 Q hC hA hE ad H locs cells slots lr z
  exact lv_ishl hC.1 hC.2.1 hd (k p e R s m args below meth c A n0 ad0 Q hC hA hE ad H locs cells slots lr (z.sk (mm_c1 (mm_vi _ _) (mm_t1 (mm_t1 z.vs)))))
theorem mw_ishr {x y : Int32} (hd : decode M.2.1 pc = .ok (.ishr, 1)) (k : mW G M d bc bs (pc + 1) ls (.int (x >>> (y &&& 31)) :: st) h X) : mW G M d bc bs pc ls (.int y :: .int x :: st) h X := by
  intro p e R s m args below meth c A n0 ad0 Q hC hA hE ad H locs cells slots lr z
  exact lv_ishr hC.1 hC.2.1 hd (k p e R s m args below meth c A n0 ad0 Q hC hA hE ad H locs cells slots lr (z.sk (mm_c1 (mm_vi _ _) (mm_t1 (mm_t1 z.vs)))))
theorem mw_idiv {x y : Int32} (hd : decode M.2.1 pc = .ok (.idiv, 1)) (hne : ¬ y = 0) (k : mW G M d bc bs (pc + 1) ls (.int (x / y) :: st) h X) : mW G M d bc bs pc ls (.int y :: .int x :: st) h X := by
  intro p e R s m args below meth c A n0 ad0 Q hC hA hE ad H locs cells slots lr z
  exact lv_idiv hC.1 hC.2.1 hd hne (k p e R s m args below meth c A n0 ad0 Q hC hA hE ad H locs cells slots lr (z.sk (mm_c1 (mm_vi _ _) (mm_t1 (mm_t1 z.vs)))))
theorem mw_irem {x y : Int32} (hd : decode M.2.1 pc = .ok (.irem, 1)) (hne : ¬ y = 0) (k : mW G M d bc bs (pc + 1) ls (.int (x - x / y * y) :: st) h X) : mW G M d bc bs pc ls (.int y :: .int x :: st) h X := by
  intro p e R s m args below meth c A n0 ad0 Q hC hA hE ad H locs cells slots lr z
  exact lv_irem hC.1 hC.2.1 hd hne (k p e R s m args below meth c A n0 ad0 Q hC hA hE ad H locs cells slots lr (z.sk (mm_c1 (mm_vi _ _) (mm_t1 (mm_t1 z.vs)))))
theorem mw_ineg {x : Int32} (hd : decode M.2.1 pc = .ok (.ineg, 1)) (k : mW G M d bc bs (pc + 1) ls (.int (-x) :: st) h X) : mW G M d bc bs pc ls (.int x :: st) h X := by
  intro p e R s m args below meth c A n0 ad0 Q hC hA hE ad H locs cells slots lr z
  exact lv_ineg hC.1 hC.2.1 hd (k p e R s m args below meth c A n0 ad0 Q hC hA hE ad H locs cells slots lr (z.sk (mm_c1 (mm_vi _ _) (mm_t1 z.vs))))
theorem mw_ladd {x y : Int64} (hd : decode M.2.1 pc = .ok (.ladd, 1)) (k : mW G M d bc bs (pc + 1) ls (.long (x + y) :: st) h X) : mW G M d bc bs pc ls (.long y :: .long x :: st) h X := by
  intro p e R s m args below meth c A n0 ad0 Q hC hA hE ad H locs cells slots lr z
  exact lv_ladd hC.1 hC.2.1 hd (k p e R s m args below meth c A n0 ad0 Q hC hA hE ad H locs cells slots lr (z.sk (mm_c1 (mm_vl _ _) (mm_t1 (mm_t1 z.vs)))))
theorem mw_land {x y : Int64} (hd : decode M.2.1 pc = .ok (.land, 1)) (k : mW G M d bc bs (pc + 1) ls (.long (x &&& y) :: st) h X) : mW G M d bc bs pc ls (.long y :: .long x :: st) h X := by
  intro p e R s m args below meth c A n0 ad0 Q hC hA hE ad H locs cells slots lr z
  exact lv_land hC.1 hC.2.1 hd (k p e R s m args below meth c A n0 ad0 Q hC hA hE ad H locs cells slots lr (z.sk (mm_c1 (mm_vl _ _) (mm_t1 (mm_t1 z.vs)))))
theorem mw_lor {x y : Int64} (hd : decode M.2.1 pc = .ok (.lor, 1)) (k : mW G M d bc bs (pc + 1) ls (.long (x ||| y) :: st) h X) : mW G M d bc bs pc ls (.long y :: .long x :: st) h X := by
  intro p e R s m args below meth c A n0 ad0 Q hC hA hE ad H locs cells slots lr z
  exact lv_lor hC.1 hC.2.1 hd (k p e R s m args below meth c A n0 ad0 Q hC hA hE ad H locs cells slots lr (z.sk (mm_c1 (mm_vl _ _) (mm_t1 (mm_t1 z.vs)))))
theorem mw_lshl {x : Int64} {y : Int32} (hd : decode M.2.1 pc = .ok (.lshl, 1)) (k : mW G M d bc bs (pc + 1) ls (.long (x <<< (y.toInt64 &&& 63)) :: st) h X) : mW G M d bc bs pc ls (.int y :: .long x :: st) h X := by
  intro p e R s m args below meth c A n0 ad0 Q hC hA hE ad H locs cells slots lr z
  exact lv_lshl hC.1 hC.2.1 hd rfl (k p e R s m args below meth c A n0 ad0 Q hC hA hE ad H locs cells slots lr (z.sk (mm_c1 (mm_vl _ _) (mm_t1 (mm_t1 z.vs)))))
theorem mw_lshr {x : Int64} {y : Int32} (hd : decode M.2.1 pc = .ok (.lshr, 1)) (k : mW G M d bc bs (pc + 1) ls (.long (x >>> (y.toInt64 &&& 63)) :: st) h X) : mW G M d bc bs pc ls (.int y :: .long x :: st) h X := by
  intro p e R s m args below meth c A n0 ad0 Q hC hA hE ad H locs cells slots lr z
  exact lv_lshr hC.1 hC.2.1 hd rfl (k p e R s m args below meth c A n0 ad0 Q hC hA hE ad H locs cells slots lr (z.sk (mm_c1 (mm_vl _ _) (mm_t1 (mm_t1 z.vs)))))
theorem mw_lushr {x : Int64} {y : Int32} (hd : decode M.2.1 pc = .ok (.lushr, 1)) (k : mW G M d bc bs (pc + 1) ls (.long ((x.toUInt64 >>> (y.toInt64.toUInt64 &&& Int64.toUInt64 63)).toInt64) :: st) h X) : mW G M d bc bs pc ls (.int y :: .long x :: st) h X := by
  intro p e R s m args below meth c A n0 ad0 Q hC hA hE ad H locs cells slots lr z
  exact lv_lushr hC.1 hC.2.1 hd rfl (k p e R s m args below meth c A n0 ad0 Q hC hA hE ad H locs cells slots lr (z.sk (mm_c1 (mm_vl _ _) (mm_t1 (mm_t1 z.vs)))))
theorem mw_i2l {x : Int32} (hd : decode M.2.1 pc = .ok (.i2l, 1)) (k : mW G M d bc bs (pc + 1) ls (.long x.toInt64 :: st) h X) : mW G M d bc bs pc ls (.int x :: st) h X := by
  intro p e R s m args below meth c A n0 ad0 Q hC hA hE ad H locs cells slots lr z
  exact lv_i2l hC.1 hC.2.1 hd rfl (k p e R s m args below meth c A n0 ad0 Q hC hA hE ad H locs cells slots lr (z.sk (mm_c1 (mm_vl _ _) (mm_t1 z.vs))))
theorem mw_l2i {x : Int64} (hd : decode M.2.1 pc = .ok (.l2i, 1)) (k : mW G M d bc bs (pc + 1) ls (.int x.toInt32 :: st) h X) : mW G M d bc bs pc ls (.long x :: st) h X := by
  intro p e R s m args below meth c A n0 ad0 Q hC hA hE ad H locs cells slots lr z
  exact lv_l2i hC.1 hC.2.1 hd rfl (k p e R s m args below meth c A n0 ad0 Q hC hA hE ad H locs cells slots lr (z.sk (mm_c1 (mm_vi _ _) (mm_t1 z.vs))))
theorem mw_lcmp {x y : Int64} (hd : decode M.2.1 pc = .ok (.lcmp, 1)) (k : mW G M d bc bs (pc + 1) ls (.int (lg_cmp x y) :: st) h X) : mW G M d bc bs pc ls (.long y :: .long x :: st) h X := by
  intro p e R s m args below meth c A n0 ad0 Q hC hA hE ad H locs cells slots lr z
  exact W.lcmp hC.1 hC.2.1 hd (k p e R s m args below meth c A n0 ad0 Q hC hA hE ad H locs cells slots lr (z.sk (mm_c1 (mm_vi _ _) (mm_t1 (mm_t1 z.vs)))))
theorem mw_dup {v : Value} (hd : decode M.2.1 pc = .ok (.dup, 1)) (hv : v.category = 1) (k : mW G M d bc bs (pc + 1) ls (v :: v :: st) h X) : mW G M d bc bs pc ls (v :: st) h X := by
  intro p e R s m args below meth c A n0 ad0 Q hC hA hE ad H locs cells slots lr z
  exact lv_dup hC.1 hC.2.1 hd ((mm_cat ad v).trans hv) (k p e R s m args below meth c A n0 ad0 Q hC hA hE ad H locs cells slots lr (z.sk (mm_c1 (mm_h1 z.vs) z.vs)))
theorem mw_pop {v : Value} (hd : decode M.2.1 pc = .ok (.pop, 1)) (hv : v.category = 1) (k : mW G M d bc bs (pc + 1) ls st h X) : mW G M d bc bs pc ls (v :: st) h X := by
  intro p e R s m args below meth c A n0 ad0 Q hC hA hE ad H locs cells slots lr z
  exact lv_pop hC.1 hC.2.1 hd ((mm_cat ad v).trans hv) (k p e R s m args below meth c A n0 ad0 Q hC hA hE ad H locs cells slots lr (z.sk (mm_t1 z.vs)))
theorem mw_dup_x1 {v u : Value} (hd : decode M.2.1 pc = .ok (.dup_x1, 1)) (hv : v.category = 1) (hu : u.category = 1) (k : mW G M d bc bs (pc + 1) ls (v :: u :: v :: st) h X) : mW G M d bc bs pc ls (v :: u :: st) h X := by
  intro p e R s m args below meth c A n0 ad0 Q hC hA hE ad H locs cells slots lr z
  exact lv_dup_x1 hC.1 hC.2.1 hd ((mm_cat ad v).trans hv) ((mm_cat ad u).trans hu) (k p e R s m args below meth c A n0 ad0 Q hC hA hE ad H locs cells slots lr (z.sk (mm_c1 (mm_h1 z.vs) (mm_c1 (mm_h1 (mm_t1 z.vs)) (mm_c1 (mm_h1 z.vs) (mm_t1 (mm_t1 z.vs)))))))
theorem mw_dup2 {v u : Value} (hd : decode M.2.1 pc = .ok (.dup2, 1)) (hv : v.category = 1) (hu : u.category = 1) (k : mW G M d bc bs (pc + 1) ls (v :: u :: v :: u :: st) h X) : mW G M d bc bs pc ls (v :: u :: st) h X := by
  intro p e R s m args below meth c A n0 ad0 Q hC hA hE ad H locs cells slots lr z
  exact lv_dup2_11 hC.1 hC.2.1 hd ((mm_cat ad v).trans hv) ((mm_cat ad u).trans hu) (k p e R s m args below meth c A n0 ad0 Q hC hA hE ad H locs cells slots lr (z.sk (mm_c1 (mm_h1 z.vs) (mm_c1 (mm_h1 (mm_t1 z.vs)) z.vs))))
theorem mw_if_eq {x : Int32} {off : Int} {tgt : Nat} (hd : decode M.2.1 pc = .ok (.ifCond .eq off, 3)) (ht : (pc : Int) + off = (tgt : Int)) (kt : x = 0 → mW G M d bc bs tgt ls st h X) (kf : ¬ x = 0 → mW G M d bc bs (pc + 3) ls st h X) : mW G M d bc bs pc ls (.int x :: st) h X := by
  intro p e R s m args below meth c A n0 ad0 Q hC hA hE ad H locs cells slots lr z
  exact lv_if_eq hC.1 hC.2.1 hd ht (fun hh => kt hh p e R s m args below meth c A n0 ad0 Q hC hA hE ad H locs cells slots lr (z.sk (mm_t1 z.vs))) (fun hh => kf hh p e R s m args below meth c A n0 ad0 Q hC hA hE ad H locs cells slots lr (z.sk (mm_t1 z.vs)))
theorem mw_if_lt {x : Int32} {off : Int} {tgt : Nat} (hd : decode M.2.1 pc = .ok (.ifCond .lt off, 3)) (ht : (pc : Int) + off = (tgt : Int)) (kt : x < 0 → mW G M d bc bs tgt ls st h X) (kf : ¬ x < 0 → mW G M d bc bs (pc + 3) ls st h X) : mW G M d bc bs pc ls (.int x :: st) h X := by
  intro p e R s m args below meth c A n0 ad0 Q hC hA hE ad H locs cells slots lr z
  exact lv_if_lt hC.1 hC.2.1 hd ht (fun hh => kt hh p e R s m args below meth c A n0 ad0 Q hC hA hE ad H locs cells slots lr (z.sk (mm_t1 z.vs))) (fun hh => kf hh p e R s m args below meth c A n0 ad0 Q hC hA hE ad H locs cells slots lr (z.sk (mm_t1 z.vs)))
theorem mw_if_ge {x : Int32} {off : Int} {tgt : Nat} (hd : decode M.2.1 pc = .ok (.ifCond .ge off, 3)) (ht : (pc : Int) + off = (tgt : Int)) (kt : 0 ≤ x → mW G M d bc bs tgt ls st h X) (kf : ¬ 0 ≤ x → mW G M d bc bs (pc + 3) ls st h X) : mW G M d bc bs pc ls (.int x :: st) h X := by
  intro p e R s m args below meth c A n0 ad0 Q hC hA hE ad H locs cells slots lr z
  exact lv_if_ge hC.1 hC.2.1 hd ht (fun hh => kt hh p e R s m args below meth c A n0 ad0 Q hC hA hE ad H locs cells slots lr (z.sk (mm_t1 z.vs))) (fun hh => kf hh p e R s m args below meth c A n0 ad0 Q hC hA hE ad H locs cells slots lr (z.sk (mm_t1 z.vs)))
theorem mw_if_gt {x : Int32} {off : Int} {tgt : Nat} (hd : decode M.2.1 pc = .ok (.ifCond .gt off, 3)) (ht : (pc : Int) + off = (tgt : Int)) (kt : 0 < x → mW G M d bc bs tgt ls st h X) (kf : ¬ 0 < x → mW G M d bc bs (pc + 3) ls st h X) : mW G M d bc bs pc ls (.int x :: st) h X := by
  intro p e R s m args below meth c A n0 ad0 Q hC hA hE ad H locs cells slots lr z
  exact lv_if_gt hC.1 hC.2.1 hd ht (fun hh => kt hh p e R s m args below meth c A n0 ad0 Q hC hA hE ad H locs cells slots lr (z.sk (mm_t1 z.vs))) (fun hh => kf hh p e R s m args below meth c A n0 ad0 Q hC hA hE ad H locs cells slots lr (z.sk (mm_t1 z.vs)))
theorem mw_if_le {x : Int32} {off : Int} {tgt : Nat} (hd : decode M.2.1 pc = .ok (.ifCond .le off, 3)) (ht : (pc : Int) + off = (tgt : Int)) (kt : x ≤ 0 → mW G M d bc bs tgt ls st h X) (kf : ¬ x ≤ 0 → mW G M d bc bs (pc + 3) ls st h X) : mW G M d bc bs pc ls (.int x :: st) h X := by
  intro p e R s m args below meth c A n0 ad0 Q hC hA hE ad H locs cells slots lr z
  exact lv_if_le hC.1 hC.2.1 hd ht (fun hh => kt hh p e R s m args below meth c A n0 ad0 Q hC hA hE ad H locs cells slots lr (z.sk (mm_t1 z.vs))) (fun hh => kf hh p e R s m args below meth c A n0 ad0 Q hC hA hE ad H locs cells slots lr (z.sk (mm_t1 z.vs)))
theorem mw_if_ne {x : Int32} {off : Int} {tgt : Nat} (hd : decode M.2.1 pc = .ok (.ifCond .ne off, 3)) (ht : (pc : Int) + off = (tgt : Int)) (kt : ¬ x = 0 → mW G M d bc bs tgt ls st h X) (kf : x = 0 → mW G M d bc bs (pc + 3) ls st h X) : mW G M d bc bs pc ls (.int x :: st) h X := by
  intro p e R s m args below meth c A n0 ad0 Q hC hA hE ad H locs cells slots lr z
  exact lv_if_ne hC.1 hC.2.1 hd ht (fun hh => kt hh p e R s m args below meth c A n0 ad0 Q hC hA hE ad H locs cells slots lr (z.sk (mm_t1 z.vs))) (fun hh => kf hh p e R s m args below meth c A n0 ad0 Q hC hA hE ad H locs cells slots lr (z.sk (mm_t1 z.vs)))
theorem mw_icmp_eq {x y : Int32} {off : Int} {tgt : Nat} (hd : decode M.2.1 pc = .ok (.if_icmp .eq off, 3)) (ht : (pc : Int) + off = (tgt : Int)) (kt : x = y → mW G M d bc bs tgt ls st h X) (kf : ¬ x = y → mW G M d bc bs (pc + 3) ls st h X) : mW G M d bc bs pc ls (.int y :: .int x :: st) h X := by
  intro p e R s m args below meth c A n0 ad0 Q hC hA hE ad H locs cells slots lr z
  exact lv_icmp_eq hC.1 hC.2.1 hd ht (fun hh => kt hh p e R s m args below meth c A n0 ad0 Q hC hA hE ad H locs cells slots lr (z.sk (mm_t1 (mm_t1 z.vs)))) (fun hh => kf hh p e R s m args below meth c A n0 ad0 Q hC hA hE ad H locs cells slots lr (z.sk (mm_t1 (mm_t1 z.vs))))
theorem mw_icmp_lt {x y : Int32} {off : Int} {tgt : Nat} (hd : decode M.2.1 pc = .ok (.if_icmp .lt off, 3)) (ht : (pc : Int) + off = (tgt : Int)) (kt : x < y → mW G M d bc bs tgt ls st h X) (kf : ¬ x < y → mW G M d bc bs (pc + 3) ls st h X) : mW G M d bc bs pc ls (.int y :: .int x :: st) h X := by
  intro p e R s m args below meth c A n0 ad0 Q hC hA hE ad H locs cells slots lr z
  exact lv_icmp_lt hC.1 hC.2.1 hd ht (fun hh => kt hh p e R s m args below meth c A n0 ad0 Q hC hA hE ad H locs cells slots lr (z.sk (mm_t1 (mm_t1 z.vs)))) (fun hh => kf hh p e R s m args below meth c A n0 ad0 Q hC hA hE ad H locs cells slots lr (z.sk (mm_t1 (mm_t1 z.vs))))
theorem mw_icmp_ge {x y : Int32} {off : Int} {tgt : Nat} (hd : decode M.2.1 pc = .ok (.if_icmp .ge off, 3)) (ht : (pc : Int) + off = (tgt : Int)) (kt : y ≤ x → mW G M d bc bs tgt ls st h X) (kf : ¬ y ≤ x → mW G M d bc bs (pc + 3) ls st h X) : mW G M d bc bs pc ls (.int y :: .int x :: st) h X := by
  intro p e R s m args below meth c A n0 ad0 Q hC hA hE ad H locs cells slots lr z
  exact lv_icmp_ge hC.1 hC.2.1 hd ht (fun hh => kt hh p e R s m args below meth c A n0 ad0 Q hC hA hE ad H locs cells slots lr (z.sk (mm_t1 (mm_t1 z.vs)))) (fun hh => kf hh p e R s m args below meth c A n0 ad0 Q hC hA hE ad H locs cells slots lr (z.sk (mm_t1 (mm_t1 z.vs))))
theorem mw_icmp_gt {x y : Int32} {off : Int} {tgt : Nat} (hd : decode M.2.1 pc = .ok (.if_icmp .gt off, 3)) (ht : (pc : Int) + off = (tgt : Int)) (kt : y < x → mW G M d bc bs tgt ls st h X) (kf : ¬ y < x → mW G M d bc bs (pc + 3) ls st h X) : mW G M d bc bs pc ls (.int y :: .int x :: st) h X := by
  intro p e R s m args below meth c A n0 ad0 Q hC hA hE ad H locs cells slots lr z
  exact lv_icmp_gt hC.1 hC.2.1 hd ht (fun hh => kt hh p e R s m args below meth c A n0 ad0 Q hC hA hE ad H locs cells slots lr (z.sk (mm_t1 (mm_t1 z.vs)))) (fun hh => kf hh p e R s m args below meth c A n0 ad0 Q hC hA hE ad H locs cells slots lr (z.sk (mm_t1 (mm_t1 z.vs))))
theorem mw_icmp_le {x y : Int32} {off : Int} {tgt : Nat} (hd : decode M.2.1 pc = .ok (.if_icmp .le off, 3)) (ht : (pc : Int) + off = (tgt : Int)) (kt : x ≤ y → mW G M d bc bs tgt ls st h X) (kf : ¬ x ≤ y → mW G M d bc bs (pc + 3) ls st h X) : mW G M d bc bs pc ls (.int y :: .int x :: st) h X := by
  intro p e R s m args below meth c A n0 ad0 Q hC hA hE ad H locs cells slots lr z
  exact lv_icmp_le hC.1 hC.2.1 hd ht (fun hh => kt hh p e R s m args below meth c A n0 ad0 Q hC hA hE ad H locs cells slots lr (z.sk (mm_t1 (mm_t1 z.vs)))) (fun hh => kf hh p e R s m args below meth c A n0 ad0 Q hC hA hE ad H locs cells slots lr (z.sk (mm_t1 (mm_t1 z.vs))))
theorem mw_icmp_ne {x y : Int32} {off : Int} {tgt : Nat} (hd : decode M.2.1 pc = .ok (.if_icmp .ne off, 3)) (ht : (pc : Int) + off = (tgt : Int)) (kt : ¬ x = y → mW G M d bc bs tgt ls st h X) (kf : x = y → mW G M d bc bs (pc + 3) ls st h X) : mW G M d bc bs pc ls (.int y :: .int x :: st) h X := by
  intro p e R s m args below meth c A n0 ad0 Q hC hA hE ad H locs cells slots lr z
  exact lv_icmp_ne hC.1 hC.2.1 hd ht (fun hh => kt hh p e R s m args below meth c A n0 ad0 Q hC hA hE ad H locs cells slots lr (z.sk (mm_t1 (mm_t1 z.vs)))) (fun hh => kf hh p e R s m args below meth c A n0 ad0 Q hC hA hE ad H locs cells slots lr (z.sk (mm_t1 (mm_t1 z.vs))))
theorem mw_goto {off : Int} {tgt : Nat} (hd : decode M.2.1 pc = .ok (.goto off, 3)) (ht : (pc : Int) + off = (tgt : Int)) (k : mW G M d bc bs tgt ls st h X) : mW G M d bc bs pc ls st h X := by
  intro p e R s m args below meth c A n0 ad0 Q hC hA hE ad H locs cells slots lr z
  exact lv_goto hC.1 hC.2.1 hd ht (k p e R s m args below meth c A n0 ad0 Q hC hA hE ad H locs cells slots lr z)
theorem mw_ifnonnull {off : Int} {tgt a : Nat} (hd : decode M.2.1 pc = .ok (.ifnonnull off, 3)) (ht : (pc : Int) + off = (tgt : Int)) (k : mW G M d bc bs tgt ls st h X) : mW G M d bc bs pc ls (.ref a :: st) h X := by
  intro p e R s m args below meth c A n0 ad0 Q hC hA hE ad H locs cells slots lr z
  exact lv_ifnonnull hC.1 hC.2.1 hd ht (k p e R s m args below meth c A n0 ad0 Q hC hA hE ad H locs cells slots lr (z.sk (mm_t1 z.vs)))
theorem mw_ifnonnullN {off : Int} (hd : decode M.2.1 pc = .ok (.ifnonnull off, 3)) (k : mW G M d bc bs (pc + 3) ls st h X) : mW G M d bc bs pc ls (.null :: st) h X := by
  intro p e R s m args below meth c A n0 ad0 Q hC hA hE ad H locs cells slots lr z
  exact lv_ifnonnullN hC.1 hC.2.1 hd (k p e R s m args below meth c A n0 ad0 Q hC hA hE ad H locs cells slots lr (z.sk (mm_t1 z.vs)))
theorem mm_S.fin {R : Room} {s : State} {A : Nat → Prop} {n0 : Nat} {ad0 ad : Nat → Nat} {H : Heap} {locs : List Loc} {cells slots : Nat} {lr : Array Slot} (z : mm_S G M bc bs R s A ls st h n0 ad0 ad H locs cells slots lr) : mm_S G M 0 0 R s A [] [] h n0 ad0 ad H locs cells slots lr :=
  ⟨z.1, z.2.1, z.2.2.1, ⟨z.2.2.2.1.1, z.2.2.2.1.2.1, fun _ hq => absurd hq List.not_mem_nil⟩, z.2.2.2.2.1, fun _ hq => absurd hq List.not_mem_nil, fun _ hq => absurd hq List.not_mem_nil, Nat.le_trans (Nat.add_le_add_left (Nat.zero_le _) _) z.2.2.2.2.2.2.2.1, Nat.le_trans (Nat.add_le_add_left (Nat.zero_le _) _) z.2.2.2.2.2.2.2.2.1, z.2.2.2.2.2.2.2.2.2⟩
theorem mw_vret (hd : decode M.2.1 pc = .ok (.return_, 1)) (hr : M.2.2.2.1 = none) (hX : X (.inl none) h) : mW G M d bc bs pc ls [] h X := by
  intro p e R s m args below meth c A n0 ad0 Q hC hA hE ad H locs cells slots lr z
  exact (hE.1 h ad H locs cells slots lr none hX (fun _ hq => absurd hq List.not_mem_nil) z.fin).1 rfl hr pc hd
theorem mw_iret {x : Int32} {ty : FieldType} (hd : decode M.2.1 pc = .ok (.ireturn, 1)) (hr : M.2.2.2.1 = some ty) (hn : narrow ty (.int x) = .int x) (hX : X (.inl (some (.int x))) h) : mW G M d bc bs pc ls [.int x] h X := by
  intro p e R s m args below meth c A n0 ad0 Q hC hA hE ad H locs cells slots lr z
  exact (hE.1 h ad H locs cells slots lr (some (.int x)) hX (fun y hy => by cases List.mem_singleton.mp hy; exact mm_vi _ _) z.fin).2.1 x ty rfl hr hn pc hd
theorem mw_lret {x : Int64} (hd : decode M.2.1 pc = .ok (.lreturn, 1)) (hr : M.2.2.2.1 = some .long) (hX : X (.inl (some (.long x))) h) : mW G M d bc bs pc ls [.long x] h X := by
  intro p e R s m args below meth c A n0 ad0 Q hC hA hE ad H locs cells slots lr z
  exact (hE.1 h ad H locs cells slots lr (some (.long x)) hX (fun y hy => by cases List.mem_singleton.mp hy; exact mm_vl _ _) z.fin).2.2.1 x rfl hr pc hd
theorem mw_aret {x : Nat} {n : String} (hd : decode M.2.1 pc = .ok (.areturn, 1)) (hr : M.2.2.2.1 = some (.object n)) (hX : X (.inl (some (.ref x))) h) : mW G M d bc bs pc ls [.ref x] h X := by
  intro p e R s m args below meth c A n0 ad0 Q hC hA hE ad H locs cells slots lr z
  exact (hE.1 h ad H locs cells slots lr (some (.ref x)) hX (fun y hy => by cases List.mem_singleton.mp hy; exact mm_h1 z.vs) z.fin).2.2.2 x n rfl hr pc hd
end MMR
section MMH
variable {G : mm_G} {M : mm_M} {d bc bs pc : Nat} {ls : List (Nat × Value)} {st : List Value} {sh : mm_Sh} {I : Nat → Nat → Int32} {J : Nat → Nat → Int64} {F : Nat → Nat → Option Nat} {V : Nat → Nat → Value} {X : mm_X}
theorem mm_ce_eq {tc : Nat → ClassId} {ad : Nat → Nat} {h h' : mm_H} {k : Nat} (e1 : h'.2.1 k = h.2.1 k) (e2 : h'.2.2.1 k = h.2.2.1 k) (e3 : h'.2.2.2.1 k = h.2.2.2.1 k) (e4 : h'.2.2.2.2 k = h.2.2.2.2 k) (x : (Nat × Nat) ⊕ Nat) : mm_ce tc ad h' k x = mm_ce tc ad h k x := by
  match x with
  | .inl (0, m) => simp only [mm_ce, e1]
  | .inl (1, m) => simp only [mm_ce, e1]
  | .inl (2, m) => simp only [mm_ce, e2]
  | .inl (t + 3, m) => simp only [mm_ce, e3]
  | .inr ci => simp only [mm_ce, e4]
/-- the state behind a write -/
theorem mm_S.wr {h h' : mm_H} {R : Room} {s : State} {A : Nat → Prop} {n0 : Nat} {ad0 ad : Nat → Nat} {H H1 : Heap} {locs locs1 : List Loc} {cells slots : Nat} {lr : Array Slot} {st' : List Value} (z : mm_S G M bc bs R s A ls st h n0 ad0 ad H locs cells slots lr)
    (hs : h'.1 = h.1) (ho : mm_ok h.1.length h') (hv : ∀ v ∈ st', mm_vo h.1.length v) (hP : va_P G.2.1 mm_cl (mm_ws G.2.2.1 ad h') H1) (hD : va_D A (mm_ws G.2.2.1 ad h')) (hS : va_S A s.heap H1 locs1) : mm_S G M bc bs R s A ls st' h' n0 ad0 ad H1 locs1 cells slots lr :=
  ⟨hP, hD, hS, z.2.2.2.1, by rw [hs]; exact ho, by rw [hs]; exact z.2.2.2.2.2.1, by rw [hs]; exact hv, z.2.2.2.2.2.2.2.1, z.2.2.2.2.2.2.2.2.1, by rw [hs]; exact z.2.2.2.2.2.2.2.2.2⟩
theorem mw_iald {a n : Nat} {i : Int32} (hd : decode M.2.1 pc = .ok (.iaload, 1)) (hs : sh[a]? = some (.inl (0, n))) (hin : vp_in i n) (k : mW G M d bc bs (pc + 1) ls (.int (I a i.toNatClampNeg) :: st) (sh, I, J, F, V) X) : mW G M d bc bs pc ls (.int i :: .ref a :: st) (sh, I, J, F, V) X := by
  intro p e R s m args below meth c A n0 ad0 Q hC hA hE ad H locs cells slots lr z
  exact va_iald hC.1 hC.2.1 hC.2.2.2.2.2.2.2.2.2.1 z.1 a 0 (mm_ws_get (h := (sh, I, J, F, V)) hs) rfl hin hd (k p e R s m args below meth c A n0 ad0 Q hC hA hE ad H locs cells slots lr (z.sk (mm_c1 (mm_vi _ _) (mm_t1 (mm_t1 z.vs)))))
theorem mw_zald {a n : Nat} {i : Int32} (hd : decode M.2.1 pc = .ok (.baload, 1)) (hs : sh[a]? = some (.inl (1, n))) (hin : vp_in i n) (k : mW G M d bc bs (pc + 1) ls (.int (I a i.toNatClampNeg) :: st) (sh, I, J, F, V) X) : mW G M d bc bs pc ls (.int i :: .ref a :: st) (sh, I, J, F, V) X := by
  intro p e R s m args below meth c A n0 ad0 Q hC hA hE ad H locs cells slots lr z
  exact va_zald hC.1 hC.2.1 hC.2.2.2.2.2.2.2.2.2.1 z.1 a 1 (mm_ws_get (h := (sh, I, J, F, V)) hs) rfl hin hd (k p e R s m args below meth c A n0 ad0 Q hC hA hE ad H locs cells slots lr (z.sk (mm_c1 (mm_vi _ _) (mm_t1 (mm_t1 z.vs)))))
theorem mw_lald {a n : Nat} {i : Int32} (hd : decode M.2.1 pc = .ok (.laload, 1)) (hs : sh[a]? = some (.inl (2, n))) (hin : vp_in i n) (k : mW G M d bc bs (pc + 1) ls (.long (J a i.toNatClampNeg) :: st) (sh, I, J, F, V) X) : mW G M d bc bs pc ls (.int i :: .ref a :: st) (sh, I, J, F, V) X := by
  intro p e R s m args below meth c A n0 ad0 Q hC hA hE ad H locs cells slots lr z
  exact va_lald hC.1 hC.2.1 hC.2.2.2.2.2.2.2.2.2.1 z.1 a 2 (mm_ws_get (h := (sh, I, J, F, V)) hs) rfl hin hd (k p e R s m args below meth c A n0 ad0 Q hC hA hE ad H locs cells slots lr (z.sk (mm_c1 (mm_vl _ _) (mm_t1 (mm_t1 z.vs)))))
theorem mw_iast {a n : Nat} {i : Int32} {x : Int32} (hd : decode M.2.1 pc = .ok (.iastore, 1)) (hs : sh[a]? = some (.inl (0, n))) (hin : vp_in i n) (k : mW G M d bc bs (pc + 1) ls st (sh, va_up I a (upd (I a) i.toNatClampNeg x), J, F, V) X) : mW G M d bc bs pc ls (.int x :: .int i :: .ref a :: st) (sh, I, J, F, V) X := by
  intro p e R s m args below meth c A n0 ad0 Q hC hA hE ad H locs cells slots lr z
  refine va_iast hC.1 hC.2.1 hC.2.2.2.2.2.2.2.2.2.1 z.1 z.2.1 z.2.2.1 a 0 (mm_ws_get (h := (sh, I, J, F, V)) hs) rfl hin hd (fun H1 locs1 hP hD hS => ?_)
  have e1 := mm_ws_set (tc := G.2.2.1) (ad := ad) (h := (sh, I, J, F, V)) (h' := (sh, va_up I a (upd (I a) i.toNatClampNeg x), J, F, V)) rfl hs (fun j hj y => mm_ce_eq (h := (sh, I, J, F, V)) (h' := (sh, va_up I a (upd (I a) i.toNatClampNeg x), J, F, V)) (va_up_ne _ _ hj) rfl rfl rfl y)
  have e2 : mm_ce G.2.2.1 ad (sh, va_up I a (upd (I a) i.toNatClampNeg x), J, F, V) a (.inl (0, n)) = .inl (G.2.2.1 0, n, .inl (upd (I a) i.toNatClampNeg x)) := by simp only [mm_ce, va_up_self]
  rw [e2] at e1
  rw [e1] at hP hD
  exact k p e R s m args below meth c A n0 ad0 Q hC hA hE ad H1 locs1 cells slots lr (z.wr rfl z.2.2.2.2.1 (mm_t1 (mm_t1 (mm_t1 z.vs))) hP hD hS)
theorem mw_zast {a n : Nat} {i : Int32} {x : Int32} (hd : decode M.2.1 pc = .ok (.bastore, 1)) (hs : sh[a]? = some (.inl (1, n))) (hin : vp_in i n) (k : mW G M d bc bs (pc + 1) ls st (sh, va_up I a (upd (I a) i.toNatClampNeg (vp_nar .boolean x)), J, F, V) X) : mW G M d bc bs pc ls (.int x :: .int i :: .ref a :: st) (sh, I, J, F, V) X := by
  intro p e R s m args below meth c A n0 ad0 Q hC hA hE ad H locs cells slots lr z
  refine va_zast hC.1 hC.2.1 hC.2.2.2.2.2.2.2.2.2.1 z.1 z.2.1 z.2.2.1 a 1 (mm_ws_get (h := (sh, I, J, F, V)) hs) rfl hin hd (fun H1 locs1 hP hD hS => ?_)
  have e1 := mm_ws_set (tc := G.2.2.1) (ad := ad) (h := (sh, I, J, F, V)) (h' := (sh, va_up I a (upd (I a) i.toNatClampNeg (vp_nar .boolean x)), J, F, V)) rfl hs (fun j hj y => mm_ce_eq (h := (sh, I, J, F, V)) (h' := (sh, va_up I a (upd (I a) i.toNatClampNeg (vp_nar .boolean x)), J, F, V)) (va_up_ne _ _ hj) rfl rfl rfl y)
  have e2 : mm_ce G.2.2.1 ad (sh, va_up I a (upd (I a) i.toNatClampNeg (vp_nar .boolean x)), J, F, V) a (.inl (1, n)) = .inl (G.2.2.1 1, n, .inl (upd (I a) i.toNatClampNeg (vp_nar .boolean x))) := by simp only [mm_ce, va_up_self]
  rw [e2] at e1
  rw [e1] at hP hD
  exact k p e R s m args below meth c A n0 ad0 Q hC hA hE ad H1 locs1 cells slots lr (z.wr rfl z.2.2.2.2.1 (mm_t1 (mm_t1 (mm_t1 z.vs))) hP hD hS)
theorem mw_last {a n : Nat} {i : Int32} {x : Int64} (hd : decode M.2.1 pc = .ok (.lastore, 1)) (hs : sh[a]? = some (.inl (2, n))) (hin : vp_in i n) (k : mW G M d bc bs (pc + 1) ls st (sh, I, va_up J a (vp_updL (J a) i.toNatClampNeg x), F, V) X) : mW G M d bc bs pc ls (.long x :: .int i :: .ref a :: st) (sh, I, J, F, V) X := by
  intro p e R s m args below meth c A n0 ad0 Q hC hA hE ad H locs cells slots lr z
  refine va_last hC.1 hC.2.1 hC.2.2.2.2.2.2.2.2.2.1 z.1 z.2.1 z.2.2.1 a 2 (mm_ws_get (h := (sh, I, J, F, V)) hs) rfl hin hd (fun H1 locs1 hP hD hS => ?_)
  have e1 := mm_ws_set (tc := G.2.2.1) (ad := ad) (h := (sh, I, J, F, V)) (h' := (sh, I, va_up J a (vp_updL (J a) i.toNatClampNeg x), F, V)) rfl hs (fun j hj y => mm_ce_eq (h := (sh, I, J, F, V)) (h' := (sh, I, va_up J a (vp_updL (J a) i.toNatClampNeg x), F, V)) rfl (va_up_ne _ _ hj) rfl rfl y)
  have e2 : mm_ce G.2.2.1 ad (sh, I, va_up J a (vp_updL (J a) i.toNatClampNeg x), F, V) a (.inl (2, n)) = .inl (G.2.2.1 2, n, .inr (.inl (vp_updL (J a) i.toNatClampNeg x))) := by simp only [mm_ce, va_up_self]
  rw [e2] at e1
  rw [e1] at hP hD
  exact k p e R s m args below meth c A n0 ad0 Q hC hA hE ad H1 locs1 cells slots lr (z.wr rfl z.2.2.2.2.1 (mm_t1 (mm_t1 (mm_t1 z.vs))) hP hD hS)
theorem mm_rf (ad : Nat → Nat) (o : Option Nat) : mm_rv ad (va_rf o) = va_rf (o.map ad) := by cases o <;> rfl
theorem mw_aald {t a n : Nat} {C : String} {i : Int32} (hd : decode M.2.1 pc = .ok (.aaload, 1)) (hs : sh[a]? = some (.inl (t + 3, n))) (ht : (mm_tys G.2.2.1)[t + 3]? = some (G.2.2.1 (t + 3), .object C)) (hin : vp_in i n) (k : mW G M d bc bs (pc + 1) ls (va_rf (F a i.toNatClampNeg) :: st) (sh, I, J, F, V) X) : mW G M d bc bs pc ls (.int i :: .ref a :: st) (sh, I, J, F, V) X := by
  intro p e R s m args below meth c A n0 ad0 Q hC hA hE ad H locs cells slots lr z
  refine va_aldq hC.1 hC.2.1 hC.2.2.2.2.2.2.2.2.2.1 z.1 a (t + 3) (mm_ws_get (h := (sh, I, J, F, V)) hs) ht hin hd ?_
  have k2 := k p e R s m args below meth c A n0 ad0 Q hC hA hE ad H locs cells slots lr (z.sk (mm_c1 (fun r hr => by
    cases hF : F a i.toNatClampNeg with
    | none => rw [hF] at hr; cases hr
    | some q => rw [hF] at hr; cases hr; exact z.2.2.2.2.1.1 _ _ _ hF) (mm_t1 (mm_t1 z.vs))))
  rw [List.map_cons, mm_rf] at k2
  exact k2
theorem mw_alen {t a n : Nat} {ty : FieldType} {v : Int32} (hd : decode M.2.1 pc = .ok (.arraylength, 1)) (hs : sh[a]? = some (.inl (t, n))) (ht : (mm_tys G.2.2.1)[t]? = some (G.2.2.1 t, ty)) (hv : Int32.ofNat n = v) (k : mW G M d bc bs (pc + 1) ls (.int v :: st) (sh, I, J, F, V) X) : mW G M d bc bs pc ls (.ref a :: st) (sh, I, J, F, V) X := by
  intro p e R s m args below meth c A n0 ad0 Q hC hA hE ad H locs cells slots lr z
  match t, hs, ht with
  | 0, hs, ht => exact va_alen hC.1 hC.2.1 hC.2.2.2.2.2.2.2.2.2.1 z.1 a 0 (mm_ws_get (h := (sh, I, J, F, V)) hs) ht hv hd (k p e R s m args below meth c A n0 ad0 Q hC hA hE ad H locs cells slots lr (z.sk (mm_c1 (mm_vi _ _) (mm_t1 z.vs))))
  | 1, hs, ht => exact va_alen hC.1 hC.2.1 hC.2.2.2.2.2.2.2.2.2.1 z.1 a 1 (mm_ws_get (h := (sh, I, J, F, V)) hs) ht hv hd (k p e R s m args below meth c A n0 ad0 Q hC hA hE ad H locs cells slots lr (z.sk (mm_c1 (mm_vi _ _) (mm_t1 z.vs))))
  | 2, hs, ht => exact va_alen hC.1 hC.2.1 hC.2.2.2.2.2.2.2.2.2.1 z.1 a 2 (mm_ws_get (h := (sh, I, J, F, V)) hs) ht hv hd (k p e R s m args below meth c A n0 ad0 Q hC hA hE ad H locs cells slots lr (z.sk (mm_c1 (mm_vi _ _) (mm_t1 z.vs))))
  | t + 3, hs, ht => exact va_alen hC.1 hC.2.1 hC.2.2.2.2.2.2.2.2.2.1 z.1 a (t + 3) (mm_ws_get (h := (sh, I, J, F, V)) hs) ht hv hd (k p e R s m args below meth c A n0 ad0 Q hC hA hE ad H locs cells slots lr (z.sk (mm_c1 (mm_vi _ _) (mm_t1 z.vs))))
theorem mm_fs_get {ad : Nat → Nat} {ci N a k : Nat} (hN : mm_nf ci = N) (hk : k < N) : ((List.range (mm_nf ci)).map (fun j => mm_rv ad (V a j)))[k]? = some (mm_rv ad (V a k)) := by
  rw [List.getElem?_map, List.getElem?_range (by rw [hN]; exact hk)]
  rfl
theorem mm_fs_set {ad : Nat → Nat} {g : Nat → Value} {n k : Nat} {v : Value} : ((List.range n).map (fun j => mm_rv ad (g j))).set k (mm_rv ad v) = (List.range n).map (fun j => mm_rv ad (va_up g k v j)) := by
  apply List.ext_getElem?
  intro j
  by_cases hj : j = k
  · subst hj
    by_cases hl : j < n
    · rw [List.getElem?_set_self (by simpa using hl), List.getElem?_map, List.getElem?_range hl, Option.map_some, va_up_self]
    · rw [List.getElem?_eq_none (by simpa using hl), List.getElem?_eq_none (by simpa using hl)]
  · rw [List.getElem?_set_ne (fun e => hj e.symm), List.getElem?_map, List.getElem?_map]
    cases hr : (List.range n)[j]? with
    | none => rfl
    | some y =>
      have hy : y = j := by
        have hlt := (List.getElem?_eq_some_iff.mp hr).1
        rw [List.getElem?_range (by simpa using hlt)] at hr
        exact (Option.some.inj hr).symm
      subst hy
      rw [Option.map_some, Option.map_some, va_up_ne _ _ hj]
theorem mw_get {a idx ci N k : Nat} {C : String} {T : u_T} (hd : decode M.2.1 pc = .ok (.getfield idx, 3)) (hs : sh[a]? = some (.inr ci)) (hin : ∀ w ∈ u_ws C T N, w ∈ mm_aw) (hc : mm_cl[ci]? = some (C, T, N)) (hN : mm_nf ci = N) (hk : k < N) (hlink : Cond.fieldLink M.1.cls idx (T k).1 (T k).2.1 (T k).2.2.1 ∈ mm_aw) (kk : mW G M d bc bs (pc + 3) ls (V a k :: st) (sh, I, J, F, V) X) : mW G M d bc bs pc ls (.ref a :: st) (sh, I, J, F, V) X := by
  intro p e R s m args below meth c A n0 ad0 Q hC hA hE ad H locs cells slots lr z
  exact va_get hC.1 hC.2.1 hC.2.2.2.2.1 hin hC.2.2.2.1 hC.2.2.2.2.2.2.2.2.2.1 z.1 a (mm_ws_get (h := (sh, I, J, F, V)) hs) hc k hk (hC.2.2.2.2.1 _ hlink) (fun _ q => q) (mm_fs_get (V := V) (ad := ad) (a := a) hN hk) hd (kk p e R s m args below meth c A n0 ad0 Q hC hA hE ad H locs cells slots lr (z.sk (mm_c1 (fun r hr => z.2.2.2.2.1.2 _ _ _ hr) (mm_t1 z.vs))))
theorem mw_getN {a idx ci N k : Nat} {C host : String} {T : u_T} (hd : decode M.2.1 pc = .ok (.getfield idx, 3)) (hs : sh[a]? = some (.inr ci)) (hin : ∀ w ∈ u_ws C T N, w ∈ mm_aw) (hc : mm_cl[ci]? = some (C, T, N)) (hN : mm_nf ci = N) (hk : k < N) (hlink : Cond.fieldLinkNest M.1.cls idx (T k).1 (T k).2.1 (T k).2.2.1 host ∈ mm_nw) (kk : mW G M d bc bs (pc + 3) ls (V a k :: st) (sh, I, J, F, V) X) : mW G M d bc bs pc ls (.ref a :: st) (sh, I, J, F, V) X := by
  intro p e R s m args below meth c A n0 ad0 Q hC hA hE ad H locs cells slots lr z
  exact va_getN hC.1 hC.2.1 hC.2.2.2.2.1 hin hC.2.2.2.1 hC.2.2.2.2.2.2.2.2.2.1 z.1 a (mm_ws_get (h := (sh, I, J, F, V)) hs) hc k hk (va_Nw.use rfl (hC.2.2.2.2.2.1.1 _ hlink)) (fun _ q => q) (mm_fs_get (V := V) (ad := ad) (a := a) hN hk) hd (kk p e R s m args below meth c A n0 ad0 Q hC hA hE ad H locs cells slots lr (z.sk (mm_c1 (fun r hr => z.2.2.2.2.1.2 _ _ _ hr) (mm_t1 z.vs))))
theorem mm_ok_V {n a k : Nat} {v : Value} (ho : mm_ok n (sh, I, J, F, V)) (hv : mm_vo n v) : mm_ok n (sh, I, J, F, va_up V a (va_up (V a) k v)) := by
  refine ⟨ho.1, fun a2 k2 r hr => ?_⟩
  have hr : va_up V a (va_up (V a) k v) a2 k2 = .ref r := hr
  by_cases e1 : a2 = a
  · subst e1
    rw [va_up_self] at hr
    by_cases e2 : k2 = k
    · subst e2
      rw [va_up_self] at hr
      exact hv r hr
    · rw [va_up_ne _ _ e2] at hr
      exact ho.2 _ _ _ hr
  · rw [va_up_ne _ _ e1] at hr
    exact ho.2 _ _ _ hr
theorem mw_put {a idx ci N k : Nat} {C : String} {T : u_T} {v : Value} {ty : FieldType} {ty0 : Nat → FieldType} (hd : decode M.2.1 pc = .ok (.putfield idx, 3)) (hs : sh[a]? = some (.inr ci)) (hin : ∀ w ∈ u_ws C T N, w ∈ mm_aw) (hty : ∀ k, k < N → parseFieldDescriptor (T k).2.2.1 = some (ty0 k)) (hnm : ∀ a, a < N → ∀ b, b < N → a ≠ b → (T a).2.1 ≠ (T b).2.1) (hc : mm_cl[ci]? = some (C, T, N)) (hN : mm_nf ci = N) (hk : k < N) (hlink : Cond.fieldLink M.1.cls idx (T k).1 (T k).2.1 (T k).2.2.1 ∈ mm_aw) (hfin : (T k).2.2.2 = false) (hd2 : parseFieldDescriptor (T k).2.2.1 = some ty) (hn : ∀ ad, narrow ty (mm_rv ad v) = mm_rv ad v) (hf : ∀ ad, fits ty (mm_rv ad v) = true) (kk : mW G M d bc bs (pc + 3) ls st (sh, I, J, F, va_up V a (va_up (V a) k v)) X) : mW G M d bc bs pc ls (v :: .ref a :: st) (sh, I, J, F, V) X := by
  intro p e R s m args below meth c A n0 ad0 Q hC hA hE ad H locs cells slots lr z
  refine va_put hC.1 hC.2.1 hC.2.2.2.2.1 hin ty0 hty hnm hC.2.2.2.1 hC.2.2.2.2.2.2.2.2.2.1 z.1 z.2.1 z.2.2.1 a (mm_ws_get (h := (sh, I, J, F, V)) hs) hc k hk (hC.2.2.2.2.1 _ hlink) (fun _ q => q) hfin hd2 (hn ad) (hf ad) (by rw [List.length_map, List.length_range, hN]; exact hk) hd (fun H1 locs1 hP hD hS => ?_)
  have e1 := mm_ws_set (tc := G.2.2.1) (ad := ad) (h := (sh, I, J, F, V)) (h' := (sh, I, J, F, va_up V a (va_up (V a) k v))) rfl hs (fun j hj y => mm_ce_eq (h := (sh, I, J, F, V)) (h' := (sh, I, J, F, va_up V a (va_up (V a) k v))) rfl rfl rfl (va_up_ne _ _ hj) y)
  have e2 : mm_ce G.2.2.1 ad (sh, I, J, F, va_up V a (va_up (V a) k v)) a (.inr ci) = .inr (ci, ((List.range (mm_nf ci)).map (fun j => mm_rv ad (V a j))).set k (mm_rv ad v)) := by
    rw [mm_fs_set]
    simp only [mm_ce, va_up_self]
  rw [e2] at e1
  rw [e1] at hP hD
  exact kk p e R s m args below meth c A n0 ad0 Q hC hA hE ad H1 locs1 cells slots lr (z.wr rfl (mm_ok_V z.2.2.2.2.1 (mm_h1 z.vs)) (mm_t1 (mm_t1 z.vs)) hP hD hS)
theorem mw_putF {a idx ci N k : Nat} {C : String} {T : u_T} {v : Value} {ty : FieldType} {ty0 : Nat → FieldType} (hd : decode M.2.1 pc = .ok (.putfield idx, 3)) (hs : sh[a]? = some (.inr ci)) (hin : ∀ w ∈ u_ws C T N, w ∈ mm_aw) (hty : ∀ k, k < N → parseFieldDescriptor (T k).2.2.1 = some (ty0 k)) (hnm : ∀ a, a < N → ∀ b, b < N → a ≠ b → (T a).2.1 ≠ (T b).2.1) (hc : mm_cl[ci]? = some (C, T, N)) (hN : mm_nf ci = N) (hk : k < N) (hlink : Cond.fieldLink M.1.cls idx (T k).1 (T k).2.1 (T k).2.2.1 ∈ mm_aw) (hfin : (T k).2.2.2 = true) (hi : M.1.name = "<init>") (hdecl : (T k).1 = M.1.cls) (hd2 : parseFieldDescriptor (T k).2.2.1 = some ty) (hn : ∀ ad, narrow ty (mm_rv ad v) = mm_rv ad v) (hf : ∀ ad, fits ty (mm_rv ad v) = true) (kk : mW G M d bc bs (pc + 3) ls st (sh, I, J, F, va_up V a (va_up (V a) k v)) X) : mW G M d bc bs pc ls (v :: .ref a :: st) (sh, I, J, F, V) X := by
  intro p e R s m args below meth c A n0 ad0 Q hC hA hE ad H locs cells slots lr z
  refine va_putF hC.1 hC.2.1 hC.2.2.2.2.1 hin ty0 hty hnm hC.2.2.2.1 hC.2.2.2.2.2.2.2.2.2.1 z.1 z.2.1 z.2.2.1 a (mm_ws_get (h := (sh, I, J, F, V)) hs) hc k hk (hC.2.2.2.2.1 _ hlink) (fun _ q => q) hfin (hC.2.2.2.2.2.2.2.2.1.trans hi) hdecl hd2 (hn ad) (hf ad) (by rw [List.length_map, List.length_range, hN]; exact hk) hd (fun H1 locs1 hP hD hS => ?_)
  have e1 := mm_ws_set (tc := G.2.2.1) (ad := ad) (h := (sh, I, J, F, V)) (h' := (sh, I, J, F, va_up V a (va_up (V a) k v))) rfl hs (fun j hj y => mm_ce_eq (h := (sh, I, J, F, V)) (h' := (sh, I, J, F, va_up V a (va_up (V a) k v))) rfl rfl rfl (va_up_ne _ _ hj) y)
  have e2 : mm_ce G.2.2.1 ad (sh, I, J, F, va_up V a (va_up (V a) k v)) a (.inr ci) = .inr (ci, ((List.range (mm_nf ci)).map (fun j => mm_rv ad (V a j))).set k (mm_rv ad v)) := by
    rw [mm_fs_set]
    simp only [mm_ce, va_up_self]
  rw [e2] at e1
  rw [e1] at hP hD
  exact kk p e R s m args below meth c A n0 ad0 Q hC hA hE ad H1 locs1 cells slots lr (z.wr rfl (mm_ok_V z.2.2.2.2.1 (mm_h1 z.vs)) (mm_t1 (mm_t1 z.vs)) hP hD hS)
theorem mm_S.mk {h h' : mm_H} {R : Room} {s : State} {A : Nat → Prop} {n0 q dc ds : Nat} {ad0 ad : Nat → Nat} {H H1 : Heap} {locs : List Loc} {cells slots : Nat} {lr : Array Slot} {st' : List Value} {x : (Nat × Nat) ⊕ Nat} (z : mm_S G M (bc + dc) (bs + ds) R s A ls st h n0 ad0 ad H locs cells slots lr)
    (hs : h'.1 = h.1 ++ [x]) (ho : mm_ok h'.1.length h') (hv : ∀ v ∈ st', mm_vo h.1.length v) (hP : va_P G.2.1 mm_cl (mm_ws G.2.2.1 (va_up ad h.1.length q) h') H1) (hD : va_D A (mm_ws G.2.2.1 (va_up ad h.1.length q) h')) (hS : va_S A s.heap H1 locs) :
    mm_S G M bc bs R s A ls (.ref h.1.length :: st') h' n0 ad0 (va_up ad h.1.length q) H1 locs (cells + dc) (slots + ds) lr := by
  have hl : h'.1.length = h.1.length + 1 := by rw [hs, List.length_append]; rfl
  have hle : h.1.length ≤ h'.1.length := by omega
  refine ⟨hP, hD, hS, by rw [mm_lm_up z.vl]; exact z.2.2.2.1, ho, fun y hy => mm_vs hle (z.vl y hy), mm_c1 (fun r hr => by rw [hl, ← Value.ref.inj hr]; exact Nat.lt_succ_self _) (fun y hy => mm_vs hle (hv y hy)), ?_, ?_, ?_, fun k hk => ?_⟩
  · have := z.2.2.2.2.2.2.2.1; omega
  · have := z.2.2.2.2.2.2.2.2.1; omega
  · have := z.2.2.2.2.2.2.2.2.2.1; omega
  · have h1 := z.2.2.2.2.2.2.2.2.2.1
    rw [va_up_ne _ _ (by omega)]
    exact z.2.2.2.2.2.2.2.2.2.2 k hk
theorem mm_K1 {G : mm_G} {s : State} {cA : ClassId} {ty : FieldType} {t : Nat} (hK : va_K G.2.1 mm_cl (mm_tys G.2.2.1) s) (ht : (mm_tys G.2.2.1)[t]? = some (G.2.2.1 t, ty)) (h2 : va_K G.2.1 mm_cl (mm_tys G.2.2.1 ++ [(cA, ty)]) s) : cA = G.2.2.1 t := by
  have h1 := (hK.2 t _ ht).2
  have h3 := (h2.2 (mm_tys G.2.2.1).length (cA, ty) (by rw [List.getElem?_append_right (Nat.le_refl _), Nat.sub_self]; rfl)).2
  cases ty with
  | object C =>
    obtain ⟨_, _, _, _, _, h4⟩ := h1
    obtain ⟨_, _, _, _, _, h5⟩ := h3
    exact Option.some.inj (h5.symm.trans h4)
  | _ => exact Option.some.inj (Eq.trans (Eq.symm h3) h1)
theorem mw_newi {n : Int32} {N : Nat} (hd : decode M.2.1 pc = .ok (.newarray .int, 2)) (hw : Cond.arrayClass .int ∈ mm_aw) (hn : ¬ n < 0) (hN : n.toNatClampNeg = N) (hb : N * 8 ≤ 536870912) (k : mW G M d bc bs (pc + 2) ls (.ref sh.length :: st) (sh ++ [.inl (0, N)], va_up I sh.length (fun _ => 0), J, F, V) X) : mW G M d (bc + 1) (bs + N) pc ls (.int n :: st) (sh, I, J, F, V) X := by
  intro p e R s m args below meth c A n0 ad0 Q hC hA hE ad H locs cells slots lr z
  refine va_newa (atype := .int) (a0 := (N, .inl (fun _ => 0))) (ty := .int) hC.1 hC.2.1 (hC.2.2.2.2.1 _ hw) rfl hC.2.2.2.2.2.2.2.2.2.1 z.1 z.2.1 z.2.2.1 hA.1 (fun cA => rfl) hn hN (Nat.le_trans (Nat.mul_le_mul_left N (by decide)) hb) (by have := z.2.2.2.2.2.2.2.1; omega) (by have := z.2.2.2.2.2.2.2.2.1; omega) hd (fun q cA H1 hK2 hP hD hS => ?_)
  cases mm_K1 (t := 0) hC.2.2.2.2.2.2.2.2.2.1 rfl hK2
  have e1 := mm_ws_push (tc := G.2.2.1) (ad := ad) (q := q) (h := (sh, I, J, F, V)) (h' := (sh ++ [.inl (0, N)], va_up I sh.length (fun _ => 0), J, F, V)) (x := .inl (0, N)) z.2.2.2.2.1 rfl (fun k hk => ⟨va_up_ne _ _ (Nat.ne_of_lt hk), rfl, rfl, rfl⟩)
  have e2 : mm_ce G.2.2.1 (va_up ad sh.length q) (sh ++ [.inl (0, N)], va_up I sh.length (fun _ => 0), J, F, V) sh.length (.inl (0, N)) = .inl (G.2.2.1 0, N, .inl (fun _ => 0)) := by simp only [mm_ce, va_up_self]
  rw [e2] at e1
  rw [← e1] at hP hD
  have ho : mm_ok (sh ++ [Sum.inl (0, N)]).length (sh ++ [.inl (0, N)], va_up I sh.length (fun _ => 0), J, F, V) := by
    have hl : (sh ++ [Sum.inl (0, N)]).length = sh.length + 1 := by rw [List.length_append]; rfl
    rw [hl]
    exact ⟨fun a b r hr => Nat.lt_succ_of_lt (z.2.2.2.2.1.1 a b r hr), fun a b r hr => Nat.lt_succ_of_lt (z.2.2.2.2.1.2 a b r hr)⟩
  have z2 := mm_S.mk (dc := 1) (ds := N) (h := (sh, I, J, F, V)) (h' := (sh ++ [.inl (0, N)], va_up I sh.length (fun _ => 0), J, F, V)) z rfl ho (mm_t1 z.vs) hP hD hS
  have := k p e R s m args below meth c A n0 ad0 Q hC hA hE _ H1 locs (cells + 1) (slots + N) lr z2
  rw [List.map_cons, mm_st_up (mm_t1 z.vs)] at this
  rw [show mm_rv (va_up ad sh.length q) (.ref sh.length) = .ref q from by show Value.ref (va_up ad sh.length q sh.length) = _; rw [va_up_self]] at this
  exact this
theorem mw_newz {n : Int32} {N : Nat} (hd : decode M.2.1 pc = .ok (.newarray .boolean, 2)) (hw : Cond.arrayClass .boolean ∈ mm_aw) (hn : ¬ n < 0) (hN : n.toNatClampNeg = N) (hb : N * 8 ≤ 536870912) (k : mW G M d bc bs (pc + 2) ls (.ref sh.length :: st) (sh ++ [.inl (1, N)], va_up I sh.length (fun _ => 0), J, F, V) X) : mW G M d (bc + 1) (bs + N) pc ls (.int n :: st) (sh, I, J, F, V) X := by
  intro p e R s m args below meth c A n0 ad0 Q hC hA hE ad H locs cells slots lr z
  refine va_newa (atype := .boolean) (a0 := (N, .inl (fun _ => 0))) (ty := .boolean) hC.1 hC.2.1 (hC.2.2.2.2.1 _ hw) rfl hC.2.2.2.2.2.2.2.2.2.1 z.1 z.2.1 z.2.2.1 hA.1 (fun cA => rfl) hn hN (Nat.le_trans (Nat.mul_le_mul_left N (by decide)) hb) (by have := z.2.2.2.2.2.2.2.1; omega) (by have := z.2.2.2.2.2.2.2.2.1; omega) hd (fun q cA H1 hK2 hP hD hS => ?_)
  cases mm_K1 (t := 1) hC.2.2.2.2.2.2.2.2.2.1 rfl hK2
  have e1 := mm_ws_push (tc := G.2.2.1) (ad := ad) (q := q) (h := (sh, I, J, F, V)) (h' := (sh ++ [.inl (1, N)], va_up I sh.length (fun _ => 0), J, F, V)) (x := .inl (1, N)) z.2.2.2.2.1 rfl (fun k hk => ⟨va_up_ne _ _ (Nat.ne_of_lt hk), rfl, rfl, rfl⟩)
  have e2 : mm_ce G.2.2.1 (va_up ad sh.length q) (sh ++ [.inl (1, N)], va_up I sh.length (fun _ => 0), J, F, V) sh.length (.inl (1, N)) = .inl (G.2.2.1 1, N, .inl (fun _ => 0)) := by simp only [mm_ce, va_up_self]
  rw [e2] at e1
  rw [← e1] at hP hD
  have ho : mm_ok (sh ++ [Sum.inl (1, N)]).length (sh ++ [.inl (1, N)], va_up I sh.length (fun _ => 0), J, F, V) := by
    have hl : (sh ++ [Sum.inl (1, N)]).length = sh.length + 1 := by rw [List.length_append]; rfl
    rw [hl]
    exact ⟨fun a b r hr => Nat.lt_succ_of_lt (z.2.2.2.2.1.1 a b r hr), fun a b r hr => Nat.lt_succ_of_lt (z.2.2.2.2.1.2 a b r hr)⟩
  have z2 := mm_S.mk (dc := 1) (ds := N) (h := (sh, I, J, F, V)) (h' := (sh ++ [.inl (1, N)], va_up I sh.length (fun _ => 0), J, F, V)) z rfl ho (mm_t1 z.vs) hP hD hS
  have := k p e R s m args below meth c A n0 ad0 Q hC hA hE _ H1 locs (cells + 1) (slots + N) lr z2
  rw [List.map_cons, mm_st_up (mm_t1 z.vs)] at this
  rw [show mm_rv (va_up ad sh.length q) (.ref sh.length) = .ref q from by show Value.ref (va_up ad sh.length q sh.length) = _; rw [va_up_self]] at this
  exact this
theorem mw_newl {n : Int32} {N : Nat} (hd : decode M.2.1 pc = .ok (.newarray .long, 2)) (hw : Cond.arrayClass .long ∈ mm_aw) (hn : ¬ n < 0) (hN : n.toNatClampNeg = N) (hb : N * 8 ≤ 536870912) (k : mW G M d bc bs (pc + 2) ls (.ref sh.length :: st) (sh ++ [.inl (2, N)], I, va_up J sh.length (fun _ => 0), F, V) X) : mW G M d (bc + 1) (bs + N) pc ls (.int n :: st) (sh, I, J, F, V) X := by
  intro p e R s m args below meth c A n0 ad0 Q hC hA hE ad H locs cells slots lr z
  refine va_newa (atype := .long) (a0 := (N, .inr (.inl (fun _ => 0)))) (ty := .long) hC.1 hC.2.1 (hC.2.2.2.2.1 _ hw) rfl hC.2.2.2.2.2.2.2.2.2.1 z.1 z.2.1 z.2.2.1 hA.1 (fun cA => rfl) hn hN (Nat.le_trans (Nat.mul_le_mul_left N (by decide)) hb) (by have := z.2.2.2.2.2.2.2.1; omega) (by have := z.2.2.2.2.2.2.2.2.1; omega) hd (fun q cA H1 hK2 hP hD hS => ?_)
  cases mm_K1 (t := 2) hC.2.2.2.2.2.2.2.2.2.1 rfl hK2
  have e1 := mm_ws_push (tc := G.2.2.1) (ad := ad) (q := q) (h := (sh, I, J, F, V)) (h' := (sh ++ [.inl (2, N)], I, va_up J sh.length (fun _ => 0), F, V)) (x := .inl (2, N)) z.2.2.2.2.1 rfl (fun k hk => ⟨rfl, va_up_ne _ _ (Nat.ne_of_lt hk), rfl, rfl⟩)
  have e2 : mm_ce G.2.2.1 (va_up ad sh.length q) (sh ++ [.inl (2, N)], I, va_up J sh.length (fun _ => 0), F, V) sh.length (.inl (2, N)) = .inl (G.2.2.1 2, N, .inr (.inl (fun _ => 0))) := by simp only [mm_ce, va_up_self]
  rw [e2] at e1
  rw [← e1] at hP hD
  have ho : mm_ok (sh ++ [Sum.inl (2, N)]).length (sh ++ [.inl (2, N)], I, va_up J sh.length (fun _ => 0), F, V) := by
    have hl : (sh ++ [Sum.inl (2, N)]).length = sh.length + 1 := by rw [List.length_append]; rfl
    rw [hl]
    exact ⟨fun a b r hr => Nat.lt_succ_of_lt (z.2.2.2.2.1.1 a b r hr), fun a b r hr => Nat.lt_succ_of_lt (z.2.2.2.2.1.2 a b r hr)⟩
  have z2 := mm_S.mk (dc := 1) (ds := N) (h := (sh, I, J, F, V)) (h' := (sh ++ [.inl (2, N)], I, va_up J sh.length (fun _ => 0), F, V)) z rfl ho (mm_t1 z.vs) hP hD hS
  have := k p e R s m args below meth c A n0 ad0 Q hC hA hE _ H1 locs (cells + 1) (slots + N) lr z2
  rw [List.map_cons, mm_st_up (mm_t1 z.vs)] at this
  rw [show mm_rv (va_up ad sh.length q) (.ref sh.length) = .ref q from by show Value.ref (va_up ad sh.length q sh.length) = _; rw [va_up_self]] at this
  exact this
end MMH
