def dv (r l : Nat) : Int := if r % (2 * l) < l then ((r % (2 * l) : Nat) : Int) - l else ((r % (2 * l) : Nat) : Int) - l + 1
def ly (n x : Nat) : Nat → Nat × (Nat → Int)
  | 0 => (x, fun _ => 0)
  | t + 1 => ((ly n x t).1 / (2 * (t + 1)), mr (va_up (ly n x t).2 (n - 1 - t) (dv (ly n x t).1 (t + 1))) (n - 1 - t) n)
theorem ly_le (n x t : Nat) : (ly n x t).1 ≤ x := by
  induction t with
  | zero => exact Nat.le_refl _
  | succ t ih => exact Nat.le_trans (Nat.div_le_self _ _) ih
theorem dv_b (r l : Nat) (h : 0 < l) : -(l : Int) ≤ dv r l ∧ dv r l ≤ l := by
  have h1 := Nat.mod_lt r (show 2 * l > 0 by omega)
  unfold dv
  split <;> omega
theorem ly_b (n x t : Nat) : ∀ q, -(t : Int) ≤ (ly n x t).2 q ∧ (ly n x t).2 q ≤ t := by
  induction t with
  | zero => intro q; exact ⟨Int.le_refl _, Int.le_refl _⟩
  | succ t ih =>
    intro q
    have b : ∀ q, -((t + 1 : Nat) : Int) ≤ va_up (ly n x t).2 (n - 1 - t) (dv (ly n x t).1 (t + 1)) q ∧ va_up (ly n x t).2 (n - 1 - t) (dv (ly n x t).1 (t + 1)) q ≤ ((t + 1 : Nat) : Int) := fun q => by
      by_cases e : q = n - 1 - t
      · subst e; rw [va_up_self]; exact dv_b _ _ (by omega)
      · rw [va_up_ne _ _ e]; have := ih q; omega
    show _ ≤ mr (va_up (ly n x t).2 (n - 1 - t) (dv (ly n x t).1 (t + 1))) (n - 1 - t) n q ∧ mr (va_up (ly n x t).2 (n - 1 - t) (dv (ly n x t).1 (t + 1))) (n - 1 - t) n q ≤ _
    by_cases e : q = n - 1 - t
    · unfold mr
      rw [if_neg (by omega)]
      exact b q
    · unfold mr
      by_cases h2 : n - 1 - t < q ∧ q < n ∧ ab (va_up (ly n x t).2 (n - 1 - t) (dv (ly n x t).1 (t + 1)) (n - 1 - t)) ≤ ab (va_up (ly n x t).2 (n - 1 - t) (dv (ly n x t).1 (t + 1)) q)
      · rw [if_pos h2, va_up_ne _ _ e]
        have := ih q
        unfold mv
        split <;> omega
      · rw [if_neg h2]
        exact b q
theorem lp_lay {G : mm_G} {d bc bs : Nat} {sh : mm_Sh} {I : Nat → Nat → Int32} {J : Nat → Nat → Int64} {F : Nat → Nat → Option Nat} {V : Nat → Nat → Value} {X : mm_X} {c N n a na x : Nat} (hs : ch_S sh c N) (hV : ch_V V c N n) (hn : n ≤ 6) (ha : sh[a]? = some (.inl (0, na))) (hna : n ≤ na ∧ na < 2147483648) (hx : x < 2147483648) {g : Nat → Int32} (hX : X (.inl none) (sh, va_up I a (nr g 0 n (ly n x n).2), J, F, V)) :
    ∀ (m t : Nat), n - t < m → t ≤ n → mW G mt_Ch_layOut (d + 1) bc bs 10 [(4, .int (iI ((n : Int) - 1 - t))), (3, .int (iI ((ly n x t).1 : Nat))), (0, .ref c), (2, .ref a)] [] (sh, va_up I a (nr g (n - t) n (ly n x t).2), J, F, V) X := by
  intro m
  induction m with
  | zero => intro t h1 _; exact absurd h1 (Nat.not_lt_zero _)
  | succ m ih =>
    intro t h1 h2
    have hr := ly_le n x t
    refine mw_iload dc_Ch_layOut_10 0 rfl ?_
    refine mi_if_lt (tgt := 78) dc_Ch_layOut_12 (by decide) (iB_mk (by omega) (by omega)) (fun hh => ?_) (fun hh => ?_)
    · have e : t = n := by omega
      subst e
      rw [Nat.sub_self]
      exact mw_vret dc_Ch_layOut_78 rfl hX
    · have ht : t < n := by omega
      have e0 : ((n : Int) - 1 - t).toNat = n - 1 - t := by omega
      have e1 : n - t = n - 1 - t + 1 := by omega
      have hm := Nat.mod_lt (ly n x t).1 (show 2 * (t + 1) > 0 by omega)
      have hlb := ly_b n x t
      have hdb := dv_b (ly n x t).1 (t + 1) (by omega)
      refine mw_aload_n dc_Ch_layOut_15 rfl 2 rfl ?_
      refine mi_get (ci := 4) (k := 2) dc_Ch_layOut_16 hs.1 wi_Ch rfl rfl (by decide) fl_Ch_9 hV.2.2.1 ?_
      refine mw_iload dc_Ch_layOut_19 0 rfl ?_
      refine mi_isub dc_Ch_layOut_21 ?_
      refine mw_iv (y := iI ((t + 1 : Nat) : Int)) (congrArg iI (by omega)) ?_
      refine mw_istore dc_Ch_layOut_22 (by decide) rfl ?_
      refine mw_iload_n dc_Ch_layOut_24 rfl 2 rfl ?_
      refine mi_const dc_Ch_layOut_25 ?_
      refine mw_iload dc_Ch_layOut_26 0 rfl ?_
      refine mi_imul dc_Ch_layOut_28 ?_
      refine mi_irem dc_Ch_layOut_29 ⟨by omega, by omega, by omega, by omega⟩ ?_
      refine mw_iv (y := iI (((ly n x t).1 % (2 * (t + 1)) : Nat) : Int)) (congrArg iI (by rw [Int.natCast_emod, Int.natCast_mul]; rfl)) ?_
      refine mw_istore dc_Ch_layOut_30 (by decide) rfl ?_
      refine mw_iload_n dc_Ch_layOut_32 rfl 3 rfl ?_
      refine mi_const dc_Ch_layOut_33 ?_
      refine mw_iload dc_Ch_layOut_34 1 rfl ?_
      refine mi_imul dc_Ch_layOut_36 ?_
      refine mi_idiv dc_Ch_layOut_37 ⟨by omega, by omega, by omega, by omega⟩ ?_
      refine mw_iv (y := iI (((ly n x t).1 / (2 * (t + 1)) : Nat) : Int)) (congrArg iI (by rw [Int.natCast_ediv, Int.natCast_mul]; rfl)) ?_
      refine mw_istore_n dc_Ch_layOut_38 rfl (by decide) rfl ?_
      refine mw_aload_n dc_Ch_layOut_39 rfl 5 rfl ?_
      refine mw_iload dc_Ch_layOut_40 3 rfl ?_
      refine mw_iload dc_Ch_layOut_42 1 rfl ?_
      refine mw_iload dc_Ch_layOut_44 2 rfl ?_
      refine mi_icmp_ge (tgt := 57) dc_Ch_layOut_46 (by decide) (iB_mk (by omega) (by omega)) (iB_mk (by omega) (by omega)) (fun hh => ?_) (fun hh => ?_)
      · have e2 : dv (ly n x t).1 (t + 1) = ((((ly n x t).1 % (2 * (t + 1)) : Nat) : Int) - ((t + 1 : Nat) : Int) + 1) := if_neg (show ¬ (ly n x t).1 % (2 * (t + 1)) < t + 1 by omega)
        refine mw_iload dc_Ch_layOut_57 1 rfl ?_
        refine mw_iload dc_Ch_layOut_59 2 rfl ?_
        refine mi_isub dc_Ch_layOut_61 ?_
        refine mi_const dc_Ch_layOut_62 ?_
        refine mi_iadd dc_Ch_layOut_63 ?_
        refine mi_iast dc_Ch_layOut_64 ha ⟨by omega, by omega, hna.2⟩ (I' := va_up I a (nr g (n - 1 - t) n (va_up (ly n x t).2 (n - 1 - t) (dv (ly n x t).1 (t + 1))))) (by rw [va_up_self, up_up, e0, e1, nr_d _ (by omega), e2]) ?_
        refine mw_aload_n dc_Ch_layOut_65 rfl 4 rfl ?_
        refine mw_aload_n dc_Ch_layOut_66 rfl 5 rfl ?_
        refine mw_iload dc_Ch_layOut_67 3 rfl ?_
        rw [show (n : Int) - 1 - t = ((n - 1 - t : Nat) : Int) by omega]
        refine mz_V2 (M2 := mt_Ch_makeRoom) dc_Ch_layOut_69 ml_Ch_49 hs.1 rfl ny_Ch_makeRoom (by decide) (Nat.le_of_ble_eq_true rfl) (ev_makeRoom (I := I) (g := g) (z := va_up (ly n x t).2 (n - 1 - t) (dv (ly n x t).1 (t + 1))) hs hV hn ha hna (by omega) (fun q => by
          by_cases e : q = n - 1 - t
          · subst e; rw [va_up_self]; omega
          · rw [va_up_ne _ _ e]; have := hlb q; omega)) (fun v h1 hY => ?_)
        obtain ⟨hv, rfl⟩ := hY
        cases hv
        refine mi_iinc dc_Ch_layOut_72 3 rfl (by decide) rfl ?_
        refine mw_goto (tgt := 10) dc_Ch_layOut_75 (by decide) ?_
        refine mw_pick [0, 1, 4, 5] rfl ?_
        have k2 := ih (t + 1) (by omega) (by omega)
        rw [show n - (t + 1) = n - 1 - t by omega, show (n : Int) - 1 - ((t + 1 : Nat) : Int) = ((n - 1 - t : Nat) : Int) + -1 by omega] at k2
        exact k2
      · have e2 : dv (ly n x t).1 (t + 1) = ((((ly n x t).1 % (2 * (t + 1)) : Nat) : Int) - ((t + 1 : Nat) : Int)) := if_pos (show (ly n x t).1 % (2 * (t + 1)) < t + 1 by omega)
        refine mw_iload dc_Ch_layOut_49 1 rfl ?_
        refine mw_iload dc_Ch_layOut_51 2 rfl ?_
        refine mi_isub dc_Ch_layOut_53 ?_
        refine mw_goto (tgt := 64) dc_Ch_layOut_54 (by decide) ?_
        refine mi_iast dc_Ch_layOut_64 ha ⟨by omega, by omega, hna.2⟩ (I' := va_up I a (nr g (n - 1 - t) n (va_up (ly n x t).2 (n - 1 - t) (dv (ly n x t).1 (t + 1))))) (by rw [va_up_self, up_up, e0, e1, nr_d _ (by omega), e2]) ?_
        refine mw_aload_n dc_Ch_layOut_65 rfl 4 rfl ?_
        refine mw_aload_n dc_Ch_layOut_66 rfl 5 rfl ?_
        refine mw_iload dc_Ch_layOut_67 3 rfl ?_
        rw [show (n : Int) - 1 - t = ((n - 1 - t : Nat) : Int) by omega]
        refine mz_V2 (M2 := mt_Ch_makeRoom) dc_Ch_layOut_69 ml_Ch_49 hs.1 rfl ny_Ch_makeRoom (by decide) (Nat.le_of_ble_eq_true rfl) (ev_makeRoom (I := I) (g := g) (z := va_up (ly n x t).2 (n - 1 - t) (dv (ly n x t).1 (t + 1))) hs hV hn ha hna (by omega) (fun q => by
          by_cases e : q = n - 1 - t
          · subst e; rw [va_up_self]; omega
          · rw [va_up_ne _ _ e]; have := hlb q; omega)) (fun v h1 hY => ?_)
        obtain ⟨hv, rfl⟩ := hY
        cases hv
        refine mi_iinc dc_Ch_layOut_72 3 rfl (by decide) rfl ?_
        refine mw_goto (tgt := 10) dc_Ch_layOut_75 (by decide) ?_
        refine mw_pick [0, 1, 4, 5] rfl ?_
        have k2 := ih (t + 1) (by omega) (by omega)
        rw [show n - (t + 1) = n - 1 - t by omega, show (n : Int) - 1 - ((t + 1 : Nat) : Int) = ((n - 1 - t : Nat) : Int) + -1 by omega] at k2
        exact k2
theorem ev_layOut {G : mm_G} {d : Nat} {sh : mm_Sh} {I : Nat → Nat → Int32} {J : Nat → Nat → Int64} {F : Nat → Nat → Option Nat} {V : Nat → Nat → Value} {c N n a na x : Nat} (hs : ch_S sh c N) (hV : ch_V V c N n) (hn : n ≤ 6) (ha : sh[a]? = some (.inl (0, na))) (hna : n ≤ na ∧ na < 2147483648) (hx : x < 2147483648) (hn1 : 0 < n) : mE G mt_Ch_layOut (d + 1) 0 0 [.ref c, .int (iI x), .ref a] (sh, I, J, F, V) (fun o h1 => o = .inl none ∧ h1 = (sh, va_up I a (nr (I a) 0 n (ly n x n).2), J, F, V)) := by
  refine mE_intro (by decide) (fun k h q => nomatch q.1) (Nat.le_of_ble_eq_true rfl) ?_
  show mW G mt_Ch_layOut (d + 1) 0 0 0 [(0, .ref c), (1, .int (iI x)), (2, .ref a)] [] (sh, I, J, F, V) _
  refine mw_iload_n dc_Ch_layOut_0 rfl 1 rfl ?_
  refine mw_istore_n dc_Ch_layOut_1 rfl (by decide) rfl ?_
  refine mw_aload_n dc_Ch_layOut_2 rfl 1 rfl ?_
  refine mi_get (ci := 4) (k := 2) dc_Ch_layOut_3 hs.1 wi_Ch rfl rfl (by decide) fl_Ch_9 hV.2.2.1 ?_
  refine mi_const dc_Ch_layOut_6 ?_
  refine mi_isub dc_Ch_layOut_7 ?_
  refine mw_istore dc_Ch_layOut_8 (by decide) rfl ?_
  refine mw_pick [0, 1, 2, 4] rfl ?_
  have k := lp_lay (G := G) (d := d) (bc := 0) (bs := 0) (I := I) (J := J) (F := F) (g := I a) (X := fun o h1 => o = .inl none ∧ h1 = (sh, va_up I a (nr (I a) 0 n (ly n x n).2), J, F, V)) hs hV hn ha hna hx ⟨rfl, rfl⟩ (n + 1) 0 (by omega) (by omega)
  rw [Nat.sub_zero, nr_n, up_id, show (n : Int) - 1 - ((0 : Nat) : Int) = (n : Int) - 1 by omega] at k
  exact k
theorem lp_cat {G : mm_G} {d bc bs : Nat} {sh : mm_Sh} {I : Nat → Nat → Int32} {J : Nat → Nat → Int64} {F : Nat → Nat → Option Nat} {V : Nat → Nat → Value} {X : mm_X} {c N n : Nat} {tp : Nat → Int} {f : Int} (hs : ch_S sh c N) (hV : ch_V V c N n) (hN : N < 2147483648) (hf : iB f) (ht : ∀ k, k < N → I (c + 1) k = iI (tp k) ∧ iB (tp k)) (hx : X (.inl (some (.int (iI (ct (fun j => tp j == f) N : Nat))))) (sh, I, J, F, V)) :
    ∀ (m k : Nat), N - k < m → k ≤ N → mW G mt_Ch_countAt d bc bs 4 [(3, .int (iI k)), (2, .int (iI (ct (fun j => tp j == f) k : Nat))), (0, .ref c), (1, .int (iI f))] [] (sh, I, J, F, V) X := by
  intro m
  induction m with
  | zero => intro k h1 _; exact absurd h1 (Nat.not_lt_zero _)
  | succ m ih =>
    intro k h1 h2
    refine mw_iload_n dc_Ch_countAt_4 rfl 0 rfl ?_
    refine mw_aload_n dc_Ch_countAt_5 rfl 2 rfl ?_
    refine mi_get (ci := 4) (k := 0) dc_Ch_countAt_6 hs.1 wi_Ch rfl rfl (by decide) fl_Ch_15 hV.1 ?_
    refine mi_icmp_ge (tgt := 31) dc_Ch_countAt_9 (by decide) (iB_mk (by omega) (by omega)) (iB_mk (by omega) (by omega)) (fun hh => ?_) (fun hh => ?_)
    · have e : k = N := by omega
      subst e
      refine mw_iload_n dc_Ch_countAt_31 rfl 1 rfl ?_
      exact mw_iret dc_Ch_countAt_32 rfl rfl hx
    · have hk : k < N := by omega
      obtain ⟨q1, q2⟩ := ht k hk
      refine mw_aload_n dc_Ch_countAt_12 rfl 2 rfl ?_
      refine mi_get (ci := 4) (k := 1) dc_Ch_countAt_13 hs.1 wi_Ch rfl rfl (by decide) fl_Ch_18 hV.2.1 ?_
      refine mw_iload_n dc_Ch_countAt_16 rfl 0 rfl ?_
      refine mi_iald dc_Ch_countAt_17 hs.2.1 ⟨by omega, by omega, hN⟩ (v := iI (tp k)) (by rw [Int.toNat_natCast]; exact q1) ?_
      refine mw_iload_n dc_Ch_countAt_18 rfl 3 rfl ?_
      refine mi_icmp_ne (tgt := 25) dc_Ch_countAt_19 (by decide) q2 hf (fun hh => ?_) (fun hh => ?_)
      · refine mi_iinc dc_Ch_countAt_25 0 rfl (by decide) rfl ?_
        refine mw_goto (tgt := 4) dc_Ch_countAt_28 (by decide) ?_
        refine mw_pick [0, 1, 2, 3] rfl ?_
        have k2 := ih (k + 1) (by omega) (by omega)
        rw [ct_f (P := (fun j => tp j == f)) (fun q => hh (beq_iff_eq.mp q))] at k2
        exact k2
      · refine mi_iinc dc_Ch_countAt_22 1 rfl (by decide) rfl ?_
        refine mi_iinc dc_Ch_countAt_25 1 rfl (by decide) rfl ?_
        refine mw_goto (tgt := 4) dc_Ch_countAt_28 (by decide) ?_
        refine mw_pick [0, 1, 2, 3] rfl ?_
        have k2 := ih (k + 1) (by omega) (by omega)
        rw [ct_t (P := (fun j => tp j == f)) (beq_iff_eq.mpr hh)] at k2
        exact k2
theorem ev_countAt {G : mm_G} {d : Nat} {sh : mm_Sh} {I : Nat → Nat → Int32} {J : Nat → Nat → Int64} {F : Nat → Nat → Option Nat} {V : Nat → Nat → Value} {c N n : Nat} {tp : Nat → Int} {f : Int} (hs : ch_S sh c N) (hV : ch_V V c N n) (hN : N < 2147483648) (hf : iB f) (ht : ∀ k, k < N → I (c + 1) k = iI (tp k) ∧ iB (tp k)) : mE G mt_Ch_countAt d 0 0 [.ref c, .int (iI f)] (sh, I, J, F, V) (fun o h1 => o = .inl (some (.int (iI (ct (fun j => tp j == f) N : Nat)))) ∧ h1 = (sh, I, J, F, V)) := by
  refine mE_intro (by decide) (fun k h q => nomatch q.1) (Nat.le_of_ble_eq_true rfl) ?_
  show mW G mt_Ch_countAt d 0 0 0 [(0, .ref c), (1, .int (iI f))] [] (sh, I, J, F, V) _
  refine mi_const dc_Ch_countAt_0 ?_
  refine mw_istore_n dc_Ch_countAt_1 rfl (by decide) rfl ?_
  refine mi_const dc_Ch_countAt_2 ?_
  refine mw_istore_n dc_Ch_countAt_3 rfl (by decide) rfl ?_
  exact lp_cat hs hV hN hf ht ⟨rfl, rfl⟩ (N + 1) 0 (by omega) (by omega)
