/-! turn (the desk's): a stretch of a row turned round, its numbers' signs changed -/
def tu_f (f : Nat → Int32) (i j : Nat) : Nat → Int32 := fun k => if i ≤ k ∧ k ≤ j then -(f (i + j - k)) else f k
def tu_g (f : Nat → Int32) (i j t : Nat) : Nat → Int32 := fun k => if (i ≤ k ∧ k < i + t) ∨ (j < k + t ∧ k ≤ j) then -(f (i + j - k)) else f k
theorem tu_g0 (f : Nat → Int32) (i j : Nat) : tu_g f i j 0 = f := by
  funext k
  unfold tu_g
  rw [if_neg (by omega)]
theorem tu_gf {f : Nat → Int32} {i j t : Nat} (h1 : j < i + t + t) (h2 : 2 * t ≤ j + 2 - i) (h : i ≤ j) : tu_g f i j t = tu_f f i j := by
  funext k
  unfold tu_g tu_f
  by_cases hk : i ≤ k ∧ k ≤ j
  · rw [if_pos hk, if_pos (by omega)]
  · rw [if_neg hk, if_neg (by omega)]
theorem tu_at1 {f : Nat → Int32} {i j t : Nat} (h : i + t + t ≤ j) : tu_g f i j t (i + t) = f (i + t) := by
  unfold tu_g
  rw [if_neg (by omega)]
theorem tu_at2 {f : Nat → Int32} {i j t : Nat} (h : i + t + t ≤ j) : tu_g f i j t (j - t) = f (j - t) := by
  unfold tu_g
  rw [if_neg (by omega)]
theorem tu_step {f : Nat → Int32} {i j t : Nat} (h : i + t + t ≤ j) : upd (upd (tu_g f i j t) (i + t) (-(f (j - t)))) (j - t) (-(f (i + t))) = tu_g f i j (t + 1) := by
  funext k
  by_cases h1 : k = j - t
  · subst h1
    rw [pk_us]
    unfold tu_g
    rw [if_pos (by omega), show i + j - (j - t) = i + t by omega]
  · rw [pk_un h1]
    by_cases h2 : k = i + t
    · subst h2
      rw [pk_us]
      unfold tu_g
      rw [if_pos (by omega), show i + j - (i + t) = j - t by omega]
    · rw [pk_un h2]
      unfold tu_g
      by_cases h3 : (i ≤ k ∧ k < i + t) ∨ (j < k + t ∧ k ≤ j)
      · rw [if_pos h3, if_pos (by omega)]
      · rw [if_neg h3, if_neg (by omega)]
theorem up_id {α : Type} (f : Nat → α) (k : Nat) : va_up f k (f k) = f := by
  funext j
  by_cases h : j = k
  · subst h
    rw [va_up_self]
  · rw [va_up_ne _ _ h]
theorem tu_loop {G : mm_G} {d bc bs : Nat} {sh : mm_Sh} {I : Nat → Nat → Int32} {J : Nat → Nat → Int64} {F : Nat → Nat → Option Nat} {V : Nat → Nat → Value} {X : mm_X} {a n i j : Nat} (f : Nat → Int32) (hs : sh[a]? = some (.inl (0, n))) (hj : j < n) (hn : n < 2147483648) (hij : i ≤ j) (hX : X (.inl none) (sh, va_up I a (tu_f f i j), J, F, V)) :
    ∀ (m t : Nat), j + 1 - i - 2 * t < m → 2 * t ≤ j + 2 - i → mW G mt_De_turn d bc bs 5 [(4, .int (iI ((j : Int) - t))), (3, .int (iI ((i : Int) + t))), (0, .ref a)] [] (sh, va_up I a (tu_g f i j t), J, F, V) X := by
  intro m
  induction m with
  | zero => intro t h1 _; exact absurd h1 (Nat.not_lt_zero _)
  | succ m ih =>
    intro t h1 h2
    refine mw_iload_n dc_De_turn_5 rfl 1 rfl ?_
    refine mw_iload dc_De_turn_6 0 rfl ?_
    refine mi_icmp_gt (tgt := 40) dc_De_turn_8 (by decide) (iB_mk (by omega) (by omega)) (iB_mk (by omega) (by omega)) (fun hh => ?_) (fun hh => ?_)
    · refine mw_vret dc_De_turn_40 rfl ?_
      rw [tu_gf (by omega) h2 hij]
      exact hX
    · have hh : i + t + t ≤ j := by omega
      have e1 : ((i : Int) + t).toNat = i + t := by omega
      have e2 : ((j : Int) - t).toNat = j - t := by omega
      refine mw_aload_n dc_De_turn_11 rfl 2 rfl ?_
      refine mw_iload_n dc_De_turn_12 rfl 1 rfl ?_
      refine mi_iald dc_De_turn_13 hs ⟨by omega, by omega, hn⟩ (v := f (i + t)) (by rw [va_up_self, e1]; exact tu_at1 hh) ?_
      refine mw_istore dc_De_turn_14 (by decide) rfl ?_
      refine mw_aload_n dc_De_turn_16 rfl 3 rfl ?_
      refine mw_iload_n dc_De_turn_17 rfl 2 rfl ?_
      refine mw_aload_n dc_De_turn_18 rfl 3 rfl ?_
      refine mw_iload dc_De_turn_19 1 rfl ?_
      refine mi_iald dc_De_turn_21 hs ⟨by omega, by omega, hn⟩ (v := f (j - t)) (by rw [va_up_self, e2]; exact tu_at2 hh) ?_
      refine mw_ineg dc_De_turn_22 ?_
      refine mi_iast dc_De_turn_23 hs ⟨by omega, by omega, hn⟩ (I' := va_up I a (upd (tu_g f i j t) (i + t) (-(f (j - t))))) (by rw [va_up_self, up_up, e1]) ?_
      refine mw_aload_n dc_De_turn_24 rfl 3 rfl ?_
      refine mw_iload dc_De_turn_25 1 rfl ?_
      refine mw_iload dc_De_turn_27 0 rfl ?_
      refine mw_ineg dc_De_turn_29 ?_
      refine mi_iast dc_De_turn_30 hs ⟨by omega, by omega, hn⟩ (I' := va_up I a (tu_g f i j (t + 1))) (by rw [va_up_self, up_up, e2, tu_step hh]) ?_
      refine mi_iinc dc_De_turn_31 2 rfl (by decide) rfl ?_
      refine mi_iinc dc_De_turn_34 2 rfl (by decide) rfl ?_
      refine mw_goto (tgt := 5) dc_De_turn_37 (by decide) ?_
      refine mw_pick [0, 1, 3] rfl ?_
      rw [show (j : Int) - t + -1 = (j : Int) - ((t + 1 : Nat) : Int) by omega, show (i : Int) + t + 1 = (i : Int) + ((t + 1 : Nat) : Int) by omega]
      exact ih (t + 1) (by omega) (by omega)
theorem ev_turn {G : mm_G} {d : Nat} {sh : mm_Sh} {I : Nat → Nat → Int32} {J : Nat → Nat → Int64} {F : Nat → Nat → Option Nat} {V : Nat → Nat → Value} {a n i j : Nat} (hs : sh[a]? = some (.inl (0, n))) (hj : j < n) (hn : n < 2147483648) (hij : i ≤ j) :
    mE G mt_De_turn d 0 0 [.ref a, .int (iI i), .int (iI j)] (sh, I, J, F, V) (fun o h => o = .inl none ∧ h = (sh, va_up I a (tu_f (I a) i j), J, F, V)) := by
  refine mE_intro (by decide) (fun k h q => nomatch q.1) (Nat.le_of_ble_eq_true rfl) ?_
  show mW G mt_De_turn d 0 0 0 [(0, .ref a), (1, .int (iI i)), (2, .int (iI j))] [] (sh, I, J, F, V) _
  refine mw_iload_n dc_De_turn_0 rfl 1 rfl ?_
  refine mw_istore_n dc_De_turn_1 rfl (by decide) rfl ?_
  refine mw_iload_n dc_De_turn_2 rfl 3 rfl ?_
  refine mw_istore dc_De_turn_3 (by decide) rfl ?_
  refine mw_pick [0, 1, 2] rfl ?_
  have k := tu_loop (G := G) (d := d) (bc := 0) (bs := 0) (I := I) (J := J) (F := F) (V := V) (X := fun o h => o = .inl none ∧ h = (sh, va_up I a (tu_f (I a) i j), J, F, V)) (I a) hs hj hn hij ⟨rfl, rfl⟩ (j + 2) 0 (by omega) (by omega)
  rw [tu_g0, up_id, show (j : Int) - ((0 : Nat) : Int) = j by omega, show (i : Int) + ((0 : Nat) : Int) = i by omega] at k
  exact k
