/-! answers of tests; division; Math on whole numbers -/
def bo (P : Prop) [Decidable P] : Int32 := if P then iI 1 else iI 0
theorem bo_t {P : Prop} [Decidable P] (h : P) : bo P = iI 1 := if_pos h
theorem bo_f {P : Prop} [Decidable P] (h : ¬ P) : bo P = iI 0 := if_neg h
theorem bo_c {P Q : Prop} [Decidable P] [Decidable Q] (h : P ↔ Q) : bo P = bo Q := by
  by_cases q : Q
  · rw [bo_t q, bo_t (h.mpr q)]
  · rw [bo_f q, bo_f (fun p => q (h.mp p))]
theorem bo_n (P : Prop) [Decidable P] : narrow .boolean (.int (bo P)) = .int (bo P) := by
  by_cases p : P
  · rw [bo_t p]; decide
  · rw [bo_f p]; decide
theorem bo_0 {P : Prop} [Decidable P] : bo P = 0 ↔ ¬ P := by
  by_cases p : P
  · rw [bo_t p]; exact ⟨fun h => absurd h (by decide), fun h => absurd p h⟩
  · rw [bo_f p]; exact ⟨fun _ => p, fun _ => by decide⟩
theorem iI_rem {a b : Int} (h : 0 ≤ a ∧ a < 2147483648 ∧ 0 < b ∧ b < 2147483648) : iI a - iI a / iI b * iI b = iI (a % b) := by
  obtain ⟨h1, h2, h3, h4⟩ := h
  obtain ⟨m, rfl⟩ := Int.eq_ofNat_of_zero_le h1
  obtain ⟨n, rfl⟩ := Int.eq_ofNat_of_zero_le (Int.le_of_lt h3)
  have e : (2 : Nat) ^ 31 = 2147483648 := by decide
  have q := pk_rem (a := m) (d := n) (by omega) (by omega) (by omega)
  rw [iI_nI, iI_nI, iI_nI] at q
  rw [q, Int.natCast_emod]
theorem iI_div {a b : Int} (h : 0 ≤ a ∧ a < 2147483648 ∧ 0 < b ∧ b < 2147483648) : iI a / iI b = iI (a / b) := by
  obtain ⟨h1, h2, h3, h4⟩ := h
  obtain ⟨m, rfl⟩ := Int.eq_ofNat_of_zero_le h1
  obtain ⟨n, rfl⟩ := Int.eq_ofNat_of_zero_le (Int.le_of_lt h3)
  have e : (2 : Nat) ^ 31 = 2147483648 := by decide
  have q := pk_div (a := m) (d := n) (by omega) (by omega) (by omega)
  rw [iI_nI, iI_nI, iI_nI] at q
  rw [q, Int.natCast_ediv]
theorem iI_ne0 {b : Int} (h : 0 < b ∧ b < 2147483648) : ¬ iI b = 0 := by
  rw [iI_0]
  exact fun q => absurd ((iI_eq ⟨by omega, by omega⟩ iB_0).mp q) (by omega)
section MIX
variable {G : mm_G} {M : mm_M} {d bc bs pc : Nat} {ls : List (Nat × Value)} {st : List Value} {h : mm_H} {X : mm_X}
theorem mi_irem {a b : Int} (hd : decode M.2.1 pc = .ok (.irem, 1)) (hq : 0 ≤ a ∧ a < 2147483648 ∧ 0 < b ∧ b < 2147483648) (k : mW G M d bc bs (pc + 1) ls (.int (iI (a % b)) :: st) h X) : mW G M d bc bs pc ls (.int (iI b) :: .int (iI a) :: st) h X := mw_irem hd (iI_ne0 ⟨hq.2.2.1, hq.2.2.2⟩) (by rw [iI_rem hq]; exact k)
theorem mi_idiv {a b : Int} (hd : decode M.2.1 pc = .ok (.idiv, 1)) (hq : 0 ≤ a ∧ a < 2147483648 ∧ 0 < b ∧ b < 2147483648) (k : mW G M d bc bs (pc + 1) ls (.int (iI (a / b)) :: st) h X) : mW G M d bc bs pc ls (.int (iI b) :: .int (iI a) :: st) h X := mw_idiv hd (iI_ne0 ⟨hq.2.2.1, hq.2.2.2⟩) (by rw [iI_div hq]; exact k)
theorem mi_mmin {idx : Nat} {a b c : Int} (hd : decode M.2.1 pc = .ok (.invokestatic idx, 3)) (hw : ∀ w ∈ ([.methodLink M.1.cls idx Lib.Math.min.name, .static Lib.Math.min.name, .initialized "java/lang/Math", .code Lib.Math.min.name Lib.Math.min.code 2 (some .int)] : List Cond), w ∈ mm_aw) (hr : (st.map fun v => v.category).sum ≤ 8) (ha : iB a) (hb : iB b) (hc : (if b < a then b else a) = c) (k : mW G M d bc bs (pc + 3) ls (.int (iI c) :: st) h X) : mW G M d bc bs pc ls (.int (iI b) :: .int (iI a) :: st) h X := by
  refine mw_mmin hd hw hr ?_
  subst hc
  by_cases q : b < a
  · rw [if_pos ((iI_lt hb ha).mpr q)]; rw [if_pos q] at k; exact k
  · rw [if_neg (fun r => q ((iI_lt hb ha).mp r))]; rw [if_neg q] at k; exact k
theorem mi_mmax {idx : Nat} {a b c : Int} (hd : decode M.2.1 pc = .ok (.invokestatic idx, 3)) (hw : ∀ w ∈ ([.methodLink M.1.cls idx Lib.Math.max.name, .static Lib.Math.max.name, .initialized "java/lang/Math", .code Lib.Math.max.name Lib.Math.max.code 2 (some .int)] : List Cond), w ∈ mm_aw) (hr : (st.map fun v => v.category).sum ≤ 8) (ha : iB a) (hb : iB b) (hc : (if a < b then b else a) = c) (k : mW G M d bc bs (pc + 3) ls (.int (iI c) :: st) h X) : mW G M d bc bs pc ls (.int (iI b) :: .int (iI a) :: st) h X := by
  refine mw_mmax hd hw hr ?_
  subst hc
  by_cases q : a < b
  · rw [if_pos ((iI_lt ha hb).mpr q)]; rw [if_pos q] at k; exact k
  · rw [if_neg (fun r => q ((iI_lt ha hb).mp r))]; rw [if_neg q] at k; exact k
theorem mi_mabs {idx : Nat} {a c : Int} (hd : decode M.2.1 pc = .ok (.invokestatic idx, 3)) (hw : ∀ w ∈ ([.methodLink M.1.cls idx Lib.Math.abs.name, .static Lib.Math.abs.name, .initialized "java/lang/Math", .code Lib.Math.abs.name Lib.Math.abs.code 1 (some .int)] : List Cond), w ∈ mm_aw) (hr : (st.map fun v => v.category).sum ≤ 8) (ha : iB a) (hc : (if 0 ≤ a then a else -a) = c) (k : mW G M d bc bs (pc + 3) ls (.int (iI c) :: st) h X) : mW G M d bc bs pc ls (.int (iI a) :: st) h X := by
  refine mw_mabs hd hw hr ?_
  subst hc
  have e : (0 : Int32) ≤ iI a ↔ 0 ≤ a := by
    have q := iI_le iB_0 ha
    rw [← iI_0] at q
    exact q
  by_cases q : 0 ≤ a
  · rw [if_pos (e.mpr q)]; rw [if_pos q] at k; exact k
  · rw [if_neg (fun r => q (e.mp r))]
    rw [if_neg q] at k
    rw [show (0 : Int32) - iI a = iI (-a) by rw [iI_0, iI_sub, Int.zero_sub]]
    exact k
end MIX
