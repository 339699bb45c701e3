/-! INTS BY THEIR WHOLE NUMBERS: iI z; arithmetic without side conditions, comparisons with bounds -/
def iI (z : Int) : Int32 := Int32.ofInt z
def iB (z : Int) : Prop := -2147483648 ≤ z ∧ z < 2147483648
theorem iB_mk {z : Int} (h1 : -2147483648 ≤ z) (h2 : z < 2147483648) : iB z := ⟨h1, h2⟩
theorem iI_toInt {z : Int} (h : iB z) : (iI z).toInt = z := by
  obtain ⟨h1, h2⟩ := h
  have e : (2 : Int) ^ 31 = 2147483648 := by decide
  exact Int32.toInt_ofInt_of_le (by rw [e]; omega) (by rw [e]; omega)
theorem iI_add (a b : Int) : iI a + iI b = iI (a + b) := (Int32.ofInt_add a b).symm
theorem iI_sub (a b : Int) : iI a - iI b = iI (a - b) := (Int32.ofInt_sub a b).symm
theorem iI_mul (a b : Int) : iI a * iI b = iI (a * b) := (Int32.ofInt_mul a b).symm
theorem iI_neg (a : Int) : -iI a = iI (-a) := (Int32.ofInt_neg a).symm
theorem iI_lt {a b : Int} (ha : iB a) (hb : iB b) : iI a < iI b ↔ a < b := by rw [Int32.lt_iff_toInt_lt, iI_toInt ha, iI_toInt hb]
theorem iI_le {a b : Int} (ha : iB a) (hb : iB b) : iI a ≤ iI b ↔ a ≤ b := by rw [Int32.le_iff_toInt_le, iI_toInt ha, iI_toInt hb]
theorem iI_eq {a b : Int} (ha : iB a) (hb : iB b) : iI a = iI b ↔ a = b := by rw [← Int32.toInt_inj, iI_toInt ha, iI_toInt hb]
theorem iI_0 : (0 : Int32) = iI 0 := by decide
theorem iB_0 : iB 0 := ⟨by decide, by decide⟩
theorem iI_cl {z : Int} (h : iB z) : (iI z).toNatClampNeg = z.toNat := by
  show (iI z).toInt.toNat = z.toNat
  rw [iI_toInt h]
theorem iI_in {z : Int} {n : Nat} (h0 : 0 ≤ z) (h1 : z < n) (hn : n < 2147483648) : vp_in (iI z) n := by
  rw [vp_in_iff, iI_toInt ⟨by omega, by omega⟩]
  exact ⟨h0, h1⟩
theorem iI_nI (n : Nat) : nI n = iI n := Int32.ofInt_eq_ofNat.symm
theorem iI_of (x : Int32) : x = iI x.toInt := (Int32.ofInt_toInt x).symm
theorem iB_of (x : Int32) : iB x.toInt := by
  have h1 := Int32.le_toInt x
  have h2 := Int32.toInt_lt x
  have e : (2 : Int) ^ 31 = 2147483648 := by decide
  rw [e] at h1 h2
  exact ⟨h1, h2⟩
section MII
variable {G : mm_G} {M : mm_M} {d bc bs pc : Nat} {ls : List (Nat × Value)} {st : List Value} {h : mm_H} {X : mm_X}
theorem mw_pick {ls' : List (Nat × Value)} (ks : List Nat) (hk : ks.filterMap (fun k => ls[k]?) = ls') (k : mW G M d bc bs pc ls' st h X) : mW G M d bc bs pc ls st h X := by
  intro p e R s m args below meth c A n0 ad0 Q hC hA hE ad H locs cells slots lr z
  have hsub : ∀ q ∈ ls', q ∈ ls := fun q hq => by
    subst hk
    obtain ⟨i, -, hi⟩ := List.mem_filterMap.mp hq
    exact List.mem_of_getElem? hi
  refine k p e R s m args below meth c A n0 ad0 Q hC hA hE ad H locs cells slots lr (z.lt ⟨z.2.2.2.1.1, z.2.2.2.1.2.1, fun q hq => ?_⟩ (fun q hq => z.vl q (hsub q hq)) z.vs)
  obtain ⟨q0, h0, rfl⟩ := List.mem_map.mp hq
  exact z.2.2.2.1.2.2 _ (List.mem_map.mpr ⟨q0, hsub q0 h0, rfl⟩)
theorem mw_iv {x y : Int32} (e : x = y) (k : mW G M d bc bs pc ls (.int y :: st) h X) : mW G M d bc bs pc ls (.int x :: st) h X := e ▸ k
theorem mw_h {h' : mm_H} (e : h = h') (k : mW G M d bc bs pc ls st h' X) : mW G M d bc bs pc ls st h X := e ▸ k
theorem mi_const {n : Int} (hd : decode M.2.1 pc = .ok (.iconst n, 1)) (k : mW G M d bc bs (pc + 1) ls (.int (iI n) :: st) h X) : mW G M d bc bs pc ls st h X := mw_iconst hd rfl k
theorem mi_bipush {n : Int} (hd : decode M.2.1 pc = .ok (.bipush n, 2)) (hv : (Int8.ofInt n).toInt32 = iI n) (k : mW G M d bc bs (pc + 2) ls (.int (iI n) :: st) h X) : mW G M d bc bs pc ls st h X := mw_bipush hd hv k
theorem mi_sipush {n : Int} (hd : decode M.2.1 pc = .ok (.sipush n, 3)) (hv : (Int16.ofInt n).toInt32 = iI n) (k : mW G M d bc bs (pc + 3) ls (.int (iI n) :: st) h X) : mW G M d bc bs pc ls st h X := mw_sipush hd hv k
theorem mi_ineg {a : Int} (hd : decode M.2.1 pc = .ok (.ineg, 1)) (k : mW G M d bc bs (pc + 1) ls (.int (iI (-a)) :: st) h X) : mW G M d bc bs pc ls (.int (iI a) :: st) h X := mw_ineg hd (by rw [iI_neg]; exact k)
theorem mi_iadd {a b : Int} (hd : decode M.2.1 pc = .ok (.iadd, 1)) (k : mW G M d bc bs (pc + 1) ls (.int (iI (a + b)) :: st) h X) : mW G M d bc bs pc ls (.int (iI b) :: .int (iI a) :: st) h X := mw_iadd hd (by rw [iI_add]; exact k)
theorem mi_isub {a b : Int} (hd : decode M.2.1 pc = .ok (.isub, 1)) (k : mW G M d bc bs (pc + 1) ls (.int (iI (a - b)) :: st) h X) : mW G M d bc bs pc ls (.int (iI b) :: .int (iI a) :: st) h X := mw_isub hd (by rw [iI_sub]; exact k)
theorem mi_imul {a b : Int} (hd : decode M.2.1 pc = .ok (.imul, 1)) (k : mW G M d bc bs (pc + 1) ls (.int (iI (a * b)) :: st) h X) : mW G M d bc bs pc ls (.int (iI b) :: .int (iI a) :: st) h X := mw_imul hd (by rw [iI_mul]; exact k)
theorem mi_iinc {i : Nat} {n a : Int} {ls' : List (Nat × Value)} (hd : decode M.2.1 pc = .ok (.iinc i n, 3)) (q : Nat) (hq : ls[q]? = some (i, .int (iI a))) (hn : i < M.2.2.1) (hl : (i, Value.int (iI (a + n))) :: ls.filter (fun q => !(q.1 == i) && !(q.1 + 1 == i && q.2.category == 2)) = ls') (k : mW G M d bc bs (pc + 3) ls' st h X) : mW G M d bc bs pc ls st h X := mw_iinc hd q hq (iI_add a n) hn hl k
theorem mi_icmp_eq {a b : Int} {off : Int} {tgt : Nat} (hd : decode M.2.1 pc = .ok (.if_icmp .eq off, 3)) (ht : (pc : Int) + off = (tgt : Int)) (ha : iB a) (hb : iB b) (kt : a = b → mW G M d bc bs tgt ls st h X) (kf : ¬ a = b → mW G M d bc bs (pc + 3) ls st h X) : mW G M d bc bs pc ls (.int (iI b) :: .int (iI a) :: st) h X := mw_icmp_eq hd ht (fun q => kt ((iI_eq ha hb).mp q)) (fun q => kf (fun r => q ((iI_eq ha hb).mpr r)))
theorem mi_icmp_lt {a b : Int} {off : Int} {tgt : Nat} (hd : decode M.2.1 pc = .ok (.if_icmp .lt off, 3)) (ht : (pc : Int) + off = (tgt : Int)) (ha : iB a) (hb : iB b) (kt : a < b → mW G M d bc bs tgt ls st h X) (kf : ¬ a < b → mW G M d bc bs (pc + 3) ls st h X) : mW G M d bc bs pc ls (.int (iI b) :: .int (iI a) :: st) h X := mw_icmp_lt hd ht (fun q => kt ((iI_lt ha hb).mp q)) (fun q => kf (fun r => q ((iI_lt ha hb).mpr r)))
theorem mi_icmp_ge {a b : Int} {off : Int} {tgt : Nat} (hd : decode M.2.1 pc = .ok (.if_icmp .ge off, 3)) (ht : (pc : Int) + off = (tgt : Int)) (ha : iB a) (hb : iB b) (kt : b ≤ a → mW G M d bc bs tgt ls st h X) (kf : ¬ b ≤ a → mW G M d bc bs (pc + 3) ls st h X) : mW G M d bc bs pc ls (.int (iI b) :: .int (iI a) :: st) h X := mw_icmp_ge hd ht (fun q => kt ((iI_le hb ha).mp q)) (fun q => kf (fun r => q ((iI_le hb ha).mpr r)))
theorem mi_icmp_gt {a b : Int} {off : Int} {tgt : Nat} (hd : decode M.2.1 pc = .ok (.if_icmp .gt off, 3)) (ht : (pc : Int) + off = (tgt : Int)) (ha : iB a) (hb : iB b) (kt : b < a → mW G M d bc bs tgt ls st h X) (kf : ¬ b < a → mW G M d bc bs (pc + 3) ls st h X) : mW G M d bc bs pc ls (.int (iI b) :: .int (iI a) :: st) h X := mw_icmp_gt hd ht (fun q => kt ((iI_lt hb ha).mp q)) (fun q => kf (fun r => q ((iI_lt hb ha).mpr r)))
theorem mi_icmp_le {a b : Int} {off : Int} {tgt : Nat} (hd : decode M.2.1 pc = .ok (.if_icmp .le off, 3)) (ht : (pc : Int) + off = (tgt : Int)) (ha : iB a) (hb : iB b) (kt : a ≤ b → mW G M d bc bs tgt ls st h X) (kf : ¬ a ≤ b → mW G M d bc bs (pc + 3) ls st h X) : mW G M d bc bs pc ls (.int (iI b) :: .int (iI a) :: st) h X := mw_icmp_le hd ht (fun q => kt ((iI_le ha hb).mp q)) (fun q => kf (fun r => q ((iI_le ha hb).mpr r)))
theorem mi_icmp_ne {a b : Int} {off : Int} {tgt : Nat} (hd : decode M.2.1 pc = .ok (.if_icmp .ne off, 3)) (ht : (pc : Int) + off = (tgt : Int)) (ha : iB a) (hb : iB b) (kt : ¬ a = b → mW G M d bc bs tgt ls st h X) (kf : a = b → mW G M d bc bs (pc + 3) ls st h X) : mW G M d bc bs pc ls (.int (iI b) :: .int (iI a) :: st) h X := mw_icmp_ne hd ht (fun q => kt (fun r => q ((iI_eq ha hb).mpr r))) (fun q => kf ((iI_eq ha hb).mp q))
theorem mi_if_eq {a : Int} {off : Int} {tgt : Nat} (hd : decode M.2.1 pc = .ok (.ifCond .eq off, 3)) (ht : (pc : Int) + off = (tgt : Int)) (ha : iB a) (kt : a = 0 → mW G M d bc bs tgt ls st h X) (kf : ¬ a = 0 → mW G M d bc bs (pc + 3) ls st h X) : mW G M d bc bs pc ls (.int (iI a) :: st) h X := by
  have e := (iI_eq ha iB_0)
  rw [← iI_0] at e
  exact mw_if_eq hd ht (fun q => kt (e.mp q)) (fun q => kf (fun r => q (e.mpr r)))
theorem mi_if_lt {a : Int} {off : Int} {tgt : Nat} (hd : decode M.2.1 pc = .ok (.ifCond .lt off, 3)) (ht : (pc : Int) + off = (tgt : Int)) (ha : iB a) (kt : a < 0 → mW G M d bc bs tgt ls st h X) (kf : ¬ a < 0 → mW G M d bc bs (pc + 3) ls st h X) : mW G M d bc bs pc ls (.int (iI a) :: st) h X := by
  have e := (iI_lt ha iB_0)
  rw [← iI_0] at e
  exact mw_if_lt hd ht (fun q => kt (e.mp q)) (fun q => kf (fun r => q (e.mpr r)))
theorem mi_if_ge {a : Int} {off : Int} {tgt : Nat} (hd : decode M.2.1 pc = .ok (.ifCond .ge off, 3)) (ht : (pc : Int) + off = (tgt : Int)) (ha : iB a) (kt : 0 ≤ a → mW G M d bc bs tgt ls st h X) (kf : ¬ 0 ≤ a → mW G M d bc bs (pc + 3) ls st h X) : mW G M d bc bs pc ls (.int (iI a) :: st) h X := by
  have e := (iI_le iB_0 ha)
  rw [← iI_0] at e
  exact mw_if_ge hd ht (fun q => kt (e.mp q)) (fun q => kf (fun r => q (e.mpr r)))
theorem mi_if_gt {a : Int} {off : Int} {tgt : Nat} (hd : decode M.2.1 pc = .ok (.ifCond .gt off, 3)) (ht : (pc : Int) + off = (tgt : Int)) (ha : iB a) (kt : 0 < a → mW G M d bc bs tgt ls st h X) (kf : ¬ 0 < a → mW G M d bc bs (pc + 3) ls st h X) : mW G M d bc bs pc ls (.int (iI a) :: st) h X := by
  have e := (iI_lt iB_0 ha)
  rw [← iI_0] at e
  exact mw_if_gt hd ht (fun q => kt (e.mp q)) (fun q => kf (fun r => q (e.mpr r)))
theorem mi_if_le {a : Int} {off : Int} {tgt : Nat} (hd : decode M.2.1 pc = .ok (.ifCond .le off, 3)) (ht : (pc : Int) + off = (tgt : Int)) (ha : iB a) (kt : a ≤ 0 → mW G M d bc bs tgt ls st h X) (kf : ¬ a ≤ 0 → mW G M d bc bs (pc + 3) ls st h X) : mW G M d bc bs pc ls (.int (iI a) :: st) h X := by
  have e := (iI_le ha iB_0)
  rw [← iI_0] at e
  exact mw_if_le hd ht (fun q => kt (e.mp q)) (fun q => kf (fun r => q (e.mpr r)))
theorem mi_if_ne {a : Int} {off : Int} {tgt : Nat} (hd : decode M.2.1 pc = .ok (.ifCond .ne off, 3)) (ht : (pc : Int) + off = (tgt : Int)) (ha : iB a) (kt : ¬ a = 0 → mW G M d bc bs tgt ls st h X) (kf : a = 0 → mW G M d bc bs (pc + 3) ls st h X) : mW G M d bc bs pc ls (.int (iI a) :: st) h X := by
  have e := (iI_eq ha iB_0)
  rw [← iI_0] at e
  exact mw_if_ne hd ht (fun q => kt (fun r => q (e.mpr r))) (fun q => kf (e.mp q))
end MII
section MIH
variable {G : mm_G} {M : mm_M} {d bc bs pc : Nat} {ls : List (Nat × Value)} {st : List Value} {sh : mm_Sh} {I : Nat → Nat → Int32} {J : Nat → Nat → Int64} {F : Nat → Nat → Option Nat} {V : Nat → Nat → Value} {X : mm_X}
theorem mi_iald {a n : Nat} {z : Int} {v : Int32} (hd : decode M.2.1 pc = .ok (.iaload, 1)) (hs : sh[a]? = some (.inl (0, n))) (h0 : 0 ≤ z ∧ z < n ∧ n < 2147483648) (hv : I a z.toNat = v) (k : mW G M d bc bs (pc + 1) ls (.int v :: st) (sh, I, J, F, V) X) : mW G M d bc bs pc ls (.int (iI z) :: .ref a :: st) (sh, I, J, F, V) X := by
  refine mw_iald hd hs (iI_in h0.1 h0.2.1 h0.2.2) ?_
  rw [iI_cl ⟨by omega, by omega⟩, hv]
  exact k
theorem mi_zald {a n : Nat} {z : Int} {v : Int32} (hd : decode M.2.1 pc = .ok (.baload, 1)) (hs : sh[a]? = some (.inl (1, n))) (h0 : 0 ≤ z ∧ z < n ∧ n < 2147483648) (hv : I a z.toNat = v) (k : mW G M d bc bs (pc + 1) ls (.int v :: st) (sh, I, J, F, V) X) : mW G M d bc bs pc ls (.int (iI z) :: .ref a :: st) (sh, I, J, F, V) X := by
  refine mw_zald hd hs (iI_in h0.1 h0.2.1 h0.2.2) ?_
  rw [iI_cl ⟨by omega, by omega⟩, hv]
  exact k
theorem mi_lald {a n : Nat} {z : Int} {v : Int64} (hd : decode M.2.1 pc = .ok (.laload, 1)) (hs : sh[a]? = some (.inl (2, n))) (h0 : 0 ≤ z ∧ z < n ∧ n < 2147483648) (hv : J a z.toNat = v) (k : mW G M d bc bs (pc + 1) ls (.long v :: st) (sh, I, J, F, V) X) : mW G M d bc bs pc ls (.int (iI z) :: .ref a :: st) (sh, I, J, F, V) X := by
  refine mw_lald hd hs (iI_in h0.1 h0.2.1 h0.2.2) ?_
  rw [iI_cl ⟨by omega, by omega⟩, hv]
  exact k
theorem mi_iast {a n : Nat} {z : Int} {x : Int32} {I' : Nat → Nat → Int32} (hd : decode M.2.1 pc = .ok (.iastore, 1)) (hs : sh[a]? = some (.inl (0, n))) (h0 : 0 ≤ z ∧ z < n ∧ n < 2147483648) (hI : va_up I a (upd (I a) z.toNat x) = I') (k : mW G M d bc bs (pc + 1) ls st (sh, I', J, F, V) X) : mW G M d bc bs pc ls (.int x :: .int (iI z) :: .ref a :: st) (sh, I, J, F, V) X := by
  refine mw_iast hd hs (iI_in h0.1 h0.2.1 h0.2.2) ?_
  rw [iI_cl ⟨by omega, by omega⟩, hI]
  exact k
theorem mi_zast {a n : Nat} {z : Int} {x : Int32} {I' : Nat → Nat → Int32} (hd : decode M.2.1 pc = .ok (.bastore, 1)) (hs : sh[a]? = some (.inl (1, n))) (h0 : 0 ≤ z ∧ z < n ∧ n < 2147483648) (hx : vp_nar .boolean x = x) (hI : va_up I a (upd (I a) z.toNat x) = I') (k : mW G M d bc bs (pc + 1) ls st (sh, I', J, F, V) X) : mW G M d bc bs pc ls (.int x :: .int (iI z) :: .ref a :: st) (sh, I, J, F, V) X := by
  refine mw_zast hd hs (iI_in h0.1 h0.2.1 h0.2.2) ?_
  rw [iI_cl ⟨by omega, by omega⟩, hx, hI]
  exact k
theorem mi_last {a n : Nat} {z : Int} {x : Int64} {J' : Nat → Nat → Int64} (hd : decode M.2.1 pc = .ok (.lastore, 1)) (hs : sh[a]? = some (.inl (2, n))) (h0 : 0 ≤ z ∧ z < n ∧ n < 2147483648) (hJ : va_up J a (vp_updL (J a) z.toNat x) = J') (k : mW G M d bc bs (pc + 1) ls st (sh, I, J', F, V) X) : mW G M d bc bs pc ls (.long x :: .int (iI z) :: .ref a :: st) (sh, I, J, F, V) X := by
  refine mw_last hd hs (iI_in h0.1 h0.2.1 h0.2.2) ?_
  rw [iI_cl ⟨by omega, by omega⟩, hJ]
  exact k
theorem up_up {α : Type} (f : Nat → α) (k : Nat) (v w : α) : va_up (va_up f k v) k w = va_up f k w := bx_uu f k v w
end MIH
