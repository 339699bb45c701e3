/-! the reference's turn: the same, from a place on -/
def tm (i j t : Nat) : Nat := min t ((j - i) / 2 + 1)
theorem lp_moturn {G : mm_G} {d bc bs : Nat} {sh : mm_Sh} {I : Nat → Nat → Int32} {J : Nat → Nat → Int64} {F : Nat → Nat → Option Nat} {V : Nat → Nat → Value} {X : mm_X} {a n s i j : Nat} (f : Nat → Int32) (hs : sh[a]? = some (.inl (0, n))) (hj : s + j < n) (hn : n < 1000000) (hij : i ≤ j) (hX : X (.inl none) (sh, va_up I a (tu_f f (s + i) (s + j)), J, F, V)) :
    ∀ (m t : Nat), j + 1 - i - t < m → t ≤ j + 1 - i → mW G mt_Mo_turn d bc bs 3 [(4, .int (iI (t : Nat))), (0, .ref a), (1, .int (iI (s : Nat))), (2, .int (iI (i : Nat))), (3, .int (iI (j : Nat)))] [] (sh, va_up I a (tu_g f (s + i) (s + j) (tm i j t)), J, F, V) X := by
  intro m
  induction m with
  | zero => intro t h1 _; exact absurd h1 (Nat.not_lt_zero _)
  | succ m ih =>
    intro t h1 h2
    refine mw_iload dc_Mo_turn_3 0 rfl ?_
    refine mw_iload_n dc_Mo_turn_5 rfl 4 rfl ?_
    refine mw_iload_n dc_Mo_turn_6 rfl 3 rfl ?_
    refine mi_isub dc_Mo_turn_7 ?_
    refine mi_icmp_gt (tgt := 62) dc_Mo_turn_8 (by decide) (iB_mk (by omega) (by omega)) (iB_mk (by omega) (by omega)) (fun hh => ?_) (fun hh => ?_)
    · have e : t = j + 1 - i := by omega
      rw [tu_gf (show s + j < s + i + tm i j t + tm i j t by unfold tm; omega) (by unfold tm; omega) (by omega)]
      exact mw_vret dc_Mo_turn_62 rfl hX
    · refine mw_iload_n dc_Mo_turn_11 rfl 2 rfl ?_
      refine mw_iload_n dc_Mo_turn_12 rfl 3 rfl ?_
      refine mi_iadd dc_Mo_turn_13 ?_
      refine mw_iload dc_Mo_turn_14 0 rfl ?_
      refine mi_iadd dc_Mo_turn_16 ?_
      refine mw_istore dc_Mo_turn_17 (by decide) rfl ?_
      refine mw_iload_n dc_Mo_turn_19 rfl 3 rfl ?_
      refine mw_iload_n dc_Mo_turn_20 rfl 5 rfl ?_
      refine mi_iadd dc_Mo_turn_21 ?_
      refine mw_iload dc_Mo_turn_22 1 rfl ?_
      refine mi_isub dc_Mo_turn_24 ?_
      refine mw_istore dc_Mo_turn_25 (by decide) rfl ?_
      refine mw_iload dc_Mo_turn_27 1 rfl ?_
      refine mw_iload dc_Mo_turn_29 0 rfl ?_
      refine mi_icmp_gt (tgt := 56) dc_Mo_turn_31 (by decide) (iB_mk (by omega) (by omega)) (iB_mk (by omega) (by omega)) (fun h2b => ?_) (fun h2b => ?_)
      · refine mi_iinc dc_Mo_turn_56 2 rfl (by decide) rfl ?_
        refine mw_goto (tgt := 3) dc_Mo_turn_59 (by decide) ?_
        refine mw_pick [0, 3, 4, 5, 6] rfl ?_
        have e9 : tm i j t = tm i j (t + 1) := by unfold tm; omega
        rw [e9]
        exact ih (t + 1) (by omega) (by omega)
      · have hh3 : s + i + t + t ≤ s + j := by omega
        have e1 : ((s : Int) + i + t).toNat = s + i + t := by omega
        have e2 : ((s : Int) + j - t).toNat = s + j - t := by omega
        have e3 : tm i j t = t := by unfold tm; omega
        have e4 : tm i j (t + 1) = t + 1 := by unfold tm; omega
        refine mw_aload_n dc_Mo_turn_34 rfl 3 rfl ?_
        refine mw_iload dc_Mo_turn_35 1 rfl ?_
        refine mi_iald dc_Mo_turn_37 hs ⟨by omega, by omega, by omega⟩ (v := f (s + i + t)) (by rw [va_up_self, e1, e3]; exact tu_at1 hh3) ?_
        refine mw_istore dc_Mo_turn_38 (by decide) rfl ?_
        refine mw_aload_n dc_Mo_turn_40 rfl 4 rfl ?_
        refine mw_iload dc_Mo_turn_41 2 rfl ?_
        refine mw_aload_n dc_Mo_turn_43 rfl 4 rfl ?_
        refine mw_iload dc_Mo_turn_44 1 rfl ?_
        refine mi_iald dc_Mo_turn_46 hs ⟨by omega, by omega, by omega⟩ (v := f (s + j - t)) (by rw [va_up_self, e2, e3]; exact tu_at2 hh3) ?_
        refine mw_ineg dc_Mo_turn_47 ?_
        refine mi_iast dc_Mo_turn_48 hs ⟨by omega, by omega, by omega⟩ (I' := va_up I a (upd (tu_g f (s + i) (s + j) t) (s + i + t) (-(f (s + j - t))))) (by rw [va_up_self, up_up, e1, e3]) ?_
        refine mw_aload_n dc_Mo_turn_49 rfl 4 rfl ?_
        refine mw_iload dc_Mo_turn_50 1 rfl ?_
        refine mw_iload dc_Mo_turn_52 0 rfl ?_
        refine mw_ineg dc_Mo_turn_54 ?_
        refine mi_iast dc_Mo_turn_55 hs ⟨by omega, by omega, by omega⟩ (I' := va_up I a (tu_g f (s + i) (s + j) (t + 1))) (by rw [va_up_self, up_up, e2, tu_step hh3]) ?_
        refine mi_iinc dc_Mo_turn_56 3 rfl (by decide) rfl ?_
        refine mw_goto (tgt := 3) dc_Mo_turn_59 (by decide) ?_
        refine mw_pick [0, 4, 5, 6, 7] rfl ?_
        have k2 := ih (t + 1) (by omega) (by omega)
        rw [e4] at k2
        exact k2
theorem ev_moturn {G : mm_G} {d : Nat} {sh : mm_Sh} {I : Nat → Nat → Int32} {J : Nat → Nat → Int64} {F : Nat → Nat → Option Nat} {V : Nat → Nat → Value} {a n s i j : Nat} (hs : sh[a]? = some (.inl (0, n))) (hj : s + j < n) (hn : n < 1000000) (hij : i ≤ j) : mE G mt_Mo_turn d 0 0 [.ref a, .int (iI (s : Nat)), .int (iI (i : Nat)), .int (iI (j : Nat))] (sh, I, J, F, V) (fun o h1 => o = .inl none ∧ h1 = (sh, va_up I a (tu_f (I a) (s + i) (s + j)), J, F, V)) := by
  refine mE_intro (by decide) (fun k h q => nomatch q.1) (Nat.le_of_ble_eq_true rfl) ?_
  show mW G mt_Mo_turn d 0 0 0 [(0, .ref a), (1, .int (iI (s : Nat))), (2, .int (iI (i : Nat))), (3, .int (iI (j : Nat)))] [] (sh, I, J, F, V) _
  refine mi_const dc_Mo_turn_0 ?_
  refine mw_istore dc_Mo_turn_1 (by decide) rfl ?_
  have k := lp_moturn (G := G) (d := d) (bc := 0) (bs := 0) (I := I) (J := J) (F := F) (V := V) (X := fun o h1 => o = .inl none ∧ h1 = (sh, va_up I a (tu_f (I a) (s + i) (s + j)), J, F, V)) (I a) hs hj hn hij ⟨rfl, rfl⟩ (j + 2) 0 (by omega) (by omega)
  rw [show tm i j 0 = 0 from Nat.zero_min _, tu_g0, up_id] at k
  exact k
/-! orderCount -/
def oc_f : Nat → Nat
  | 0 => 1
  | k + 1 => oc_f k * 2 * (k + 1)
theorem lp_oc {G : mm_G} {d bc bs : Nat} {sh : mm_Sh} {I : Nat → Nat → Int32} {J : Nat → Nat → Int64} {F : Nat → Nat → Option Nat} {V : Nat → Nat → Value} {X : mm_X} {n : Nat} (h39 : sh[39]? = some (.inr 5)) (hg : V 39 1 = .int (iI n)) (hn : n ≤ 6) (hx : X (.inl (some (.int (iI (oc_f n : Nat))))) (sh, I, J, F, V)) :
    ∀ (m k : Nat), n - k < m → k ≤ n → mW G mt_Mo_orderCount d bc bs 4 [(2, .int (iI ((k + 1 : Nat) : Int))), (1, .int (iI (oc_f k : Nat))), (0, .ref 39)] [] (sh, I, J, F, V) X := by
  intro m
  induction m with
  | zero => intro k h1 _; exact absurd h1 (Nat.not_lt_zero _)
  | succ m ih =>
    intro k h1 h2
    refine mw_iload_n dc_Mo_orderCount_4 rfl 0 rfl ?_
    refine mw_aload_n dc_Mo_orderCount_5 rfl 2 rfl ?_
    refine mi_get (ci := 5) (k := 1) dc_Mo_orderCount_6 h39 wi_Mo rfl rfl (by decide) fl_Mo_7 hg ?_
    refine mi_icmp_gt (tgt := 24) dc_Mo_orderCount_9 (by decide) (iB_mk (by omega) (by omega)) (iB_mk (by omega) (by omega)) (fun hh => ?_) (fun hh => ?_)
    · have e : k = n := by omega
      subst e
      refine mw_iload_n dc_Mo_orderCount_24 rfl 1 rfl ?_
      exact mw_iret dc_Mo_orderCount_25 rfl rfl hx
    · refine mw_iload_n dc_Mo_orderCount_12 rfl 1 rfl ?_
      refine mi_const dc_Mo_orderCount_13 ?_
      refine mi_imul dc_Mo_orderCount_14 ?_
      refine mw_iload_n dc_Mo_orderCount_15 rfl 0 rfl ?_
      refine mi_imul dc_Mo_orderCount_16 ?_
      refine mw_istore_n dc_Mo_orderCount_17 rfl (by decide) rfl ?_
      refine mi_iinc dc_Mo_orderCount_18 1 rfl (by decide) rfl ?_
      refine mw_goto (tgt := 4) dc_Mo_orderCount_21 (by decide) ?_
      refine mw_pick [0, 1, 2] rfl ?_
      have k2 := ih (k + 1) (by omega) (by omega)
      rw [show oc_f (k + 1) = oc_f k * 2 * (k + 1) from rfl, Int.natCast_mul, Int.natCast_mul] at k2
      exact k2
theorem ev_orderCount {G : mm_G} {d : Nat} {sh : mm_Sh} {I : Nat → Nat → Int32} {J : Nat → Nat → Int64} {F : Nat → Nat → Option Nat} {V : Nat → Nat → Value} {n : Nat} (h39 : sh[39]? = some (.inr 5)) (hg : V 39 1 = .int (iI n)) (hn : n ≤ 6) : mE G mt_Mo_orderCount d 0 0 [.ref 39] (sh, I, J, F, V) (fun o h1 => o = .inl (some (.int (iI (oc_f n : Nat)))) ∧ h1 = (sh, I, J, F, V)) := by
  refine mE_intro (by decide) (fun k h q => nomatch q.1) (Nat.le_of_ble_eq_true rfl) ?_
  show mW G mt_Mo_orderCount d 0 0 0 [(0, .ref 39)] [] (sh, I, J, F, V) _
  refine mi_const dc_Mo_orderCount_0 ?_
  refine mw_istore_n dc_Mo_orderCount_1 rfl (by decide) rfl ?_
  refine mi_const dc_Mo_orderCount_2 ?_
  refine mw_istore_n dc_Mo_orderCount_3 rfl (by decide) rfl ?_
  exact lp_oc h39 hg hn ⟨rfl, rfl⟩ (n + 1) 0 (by omega) (by omega)
