/-! fields, one set -/
def fu (V : Nat → Nat → Value) (t k : Nat) (v : Value) : Nat → Nat → Value := va_up V t (va_up (V t) k v)
theorem fu_at (V : Nat → Nat → Value) (t k : Nat) (v : Value) : fu V t k v t k = v := by unfold fu; rw [va_up_self, va_up_self]
theorem fu_n1 (V : Nat → Nat → Value) {t k s j : Nat} (v : Value) (h : s ≠ t) : fu V t k v s j = V s j := by unfold fu; rw [va_up_ne _ _ h]
theorem fu_n2 (V : Nat → Nat → Value) {t k j : Nat} (v : Value) (h : j ≠ k) : fu V t k v t j = V t j := by unfold fu; rw [va_up_self, va_up_ne _ _ h]
theorem fu_fu (V : Nat → Nat → Value) (t k : Nat) (v u : Value) : fu (fu V t k v) t k u = fu V t k u := by unfold fu; rw [va_up_self, up_up, up_up]
theorem fu_id {V : Nat → Nat → Value} {t k : Nat} {v : Value} (h : V t k = v) : fu V t k v = V := by unfold fu; rw [← h, up_id, up_id]
/-! Text.byteAt, empty, add -/
def by_f (x : Int64) (k : Int) : Int32 := (x.toUInt64 >>> ((iI (8 * k)).toInt64.toUInt64 &&& Int64.toUInt64 63)).toInt64.toInt32 &&& iI 255
theorem ev_byteAt {G : mm_G} {d : Nat} {h : mm_H} (x : Int64) (k : Int) : mE G mt_Te_byteAt d 0 0 [.long x, .int (iI k)] h (fun o h1 => o = .inl (some (.int (by_f x k))) ∧ h1 = h) := by
  refine mE_intro (by decide) (fun k h q => nomatch q.1) (Nat.le_of_ble_eq_true rfl) ?_
  show mW G mt_Te_byteAt d 0 0 0 [(0, .long x), (2, .int (iI k))] [] h _
  refine mw_lload_n dc_Te_byteAt_0 rfl 0 rfl ?_
  refine mi_bipush dc_Te_byteAt_1 (by decide) ?_
  refine mw_iload_n dc_Te_byteAt_3 rfl 1 rfl ?_
  refine mi_imul dc_Te_byteAt_4 ?_
  refine mw_lushr dc_Te_byteAt_5 ?_
  refine mw_l2i dc_Te_byteAt_6 ?_
  refine mi_sipush dc_Te_byteAt_7 (by decide) ?_
  refine mw_iand dc_Te_byteAt_10 ?_
  exact mw_iret dc_Te_byteAt_11 rfl rfl ⟨rfl, rfl⟩
theorem ev_empty {G : mm_G} {d : Nat} {sh : mm_Sh} {I : Nat → Nat → Int32} {J : Nat → Nat → Int64} {F : Nat → Nat → Option Nat} {V : Nat → Nat → Value} {t : Nat} {l : Int} (ht : sh[t]? = some (.inr 2)) (hV1 : V t 1 = .int (iI l)) : mE G mt_Te_empty d 0 0 [.ref t] (sh, I, J, F, V) (fun o h1 => o = .inl (some (.int (iI l))) ∧ h1 = (sh, I, J, F, fu V t 1 (.int (iI 0)))) := by
  refine mE_intro (by decide) (fun k h q => nomatch q.1) (Nat.le_of_ble_eq_true rfl) ?_
  show mW G mt_Te_empty d 0 0 0 [(0, .ref t)] [] (sh, I, J, F, V) _
  refine mw_aload_n dc_Te_empty_0 rfl 0 rfl ?_
  refine mi_get (ci := 2) (k := 1) dc_Te_empty_1 ht wi_Te rfl rfl (by decide) fl_Te_19 hV1 ?_
  refine mw_istore_n dc_Te_empty_4 rfl (by decide) rfl ?_
  refine mw_aload_n dc_Te_empty_5 rfl 1 rfl ?_
  refine mi_const dc_Te_empty_6 ?_
  refine mi_puti (ci := 2) (k := 1) dc_Te_empty_7 ht wi_Te tk_Te nm_Te rfl rfl (by decide) fl_Te_19 rfl (by decide +kernel) (show va_up V t (va_up (V t) 1 (.int (iI 0))) = fu V t 1 (.int (iI 0)) from rfl) ?_
  refine mw_iload_n dc_Te_empty_10 rfl 0 rfl ?_
  exact mw_iret dc_Te_empty_11 rfl rfl ⟨rfl, rfl⟩
/-- how many of the first k bytes are not 0 -/
def ad_n (x : Int64) : Nat → Nat
  | 0 => 0
  | k + 1 => if by_f x k = 0 then ad_n x k else ad_n x k + 1
/-- the text and its length behind the first k bytes -/
def ad_s (x : Int64) (f : Nat → Int32) (l : Nat) : Nat → Nat → Int32
  | 0 => f
  | k + 1 => if by_f x k = 0 then ad_s x f l k else upd (ad_s x f l k) (l + ad_n x k) (by_f x k)
theorem ad_mono (x : Int64) {k m : Nat} (h : k ≤ m) : ad_n x k ≤ ad_n x m := by
  induction m with
  | zero => rw [Nat.le_zero.mp h]; exact Nat.le_refl _
  | succ m ih =>
    by_cases e : k = m + 1
    · rw [e]; exact Nat.le_refl _
    · have := ih (by omega)
      show _ ≤ (if by_f x m = 0 then ad_n x m else ad_n x m + 1)
      split <;> omega
theorem ad_le (x : Int64) (k : Nat) : ad_n x k ≤ k := by
  induction k with
  | zero => exact Nat.le_refl _
  | succ k ih =>
    show (if by_f x k = 0 then ad_n x k else ad_n x k + 1) ≤ k + 1
    split <;> omega
theorem ad_loop1 {G : mm_G} {d bc bs : Nat} {sh : mm_Sh} {I : Nat → Nat → Int32} {J : Nat → Nat → Int64} {F : Nat → Nat → Option Nat} {V : Nat → Nat → Value} {X : mm_X} {t : Nat} (x : Int64) (hx : mW G mt_Te_add (d + 1) bc bs 30 [(4, .int (iI (8 : Nat))), (3, .int (iI (ad_n x 8 : Nat))), (0, .ref t), (1, .long x)] [] (sh, I, J, F, V) X) :
    ∀ (m k : Nat), 8 - k < m → k ≤ 8 → mW G mt_Te_add (d + 1) bc bs 5 [(4, .int (iI k)), (3, .int (iI (ad_n x k : Nat))), (0, .ref t), (1, .long x)] [] (sh, I, J, F, V) X := by
  intro m
  induction m with
  | zero => intro k h1 _; exact absurd h1 (Nat.not_lt_zero _)
  | succ m ih =>
    intro k h1 h2
    have hb := ad_le x k
    refine mw_iload dc_Te_add_5 0 rfl ?_
    refine mi_bipush dc_Te_add_7 (by decide) ?_
    refine mi_icmp_ge (tgt := 30) dc_Te_add_9 (by decide) (iB_mk (by omega) (by omega)) (iB_mk (by omega) (by omega)) (fun hh => ?_) (fun hh => ?_)
    · have e : k = 8 := by omega
      subst e
      exact hx
    · have hk : k < 8 := by omega
      refine mw_lload_n dc_Te_add_12 rfl 3 rfl ?_
      refine mw_iload dc_Te_add_13 0 rfl ?_
      refine mz_S2 (M2 := mt_Te_byteAt) dc_Te_add_15 ml_Te_15 rfl ny_Te_byteAt (by decide) (Nat.le_of_ble_eq_true rfl) (ev_byteAt x k) (fun v h1 hY => ?_)
      obtain ⟨hv, rfl⟩ := hY
      cases hv
      refine mw_if_eq (tgt := 24) dc_Te_add_18 (by decide) (fun hh => ?_) (fun hh => ?_)
      · refine mi_iinc dc_Te_add_24 0 rfl (by decide) rfl ?_
        refine mw_goto (tgt := 5) dc_Te_add_27 (by decide) ?_
        refine mw_pick [0, 1, 2, 3] rfl ?_
        have e : ad_n x (k + 1) = ad_n x k := if_pos hh
        have k2 := ih (k + 1) (by omega) (by omega)
        rw [e] at k2
        exact k2
      · refine mi_iinc dc_Te_add_21 1 rfl (by decide) rfl ?_
        refine mi_iinc dc_Te_add_24 1 rfl (by decide) rfl ?_
        refine mw_goto (tgt := 5) dc_Te_add_27 (by decide) ?_
        refine mw_pick [0, 1, 2, 3] rfl ?_
        have e : ad_n x (k + 1) = ad_n x k + 1 := if_neg hh
        have k2 := ih (k + 1) (by omega) (by omega)
        rw [e] at k2
        exact k2
theorem ad_loop2 {G : mm_G} {d bc bs : Nat} {sh : mm_Sh} {I : Nat → Nat → Int32} {J : Nat → Nat → Int64} {F : Nat → Nat → Option Nat} {V : Nat → Nat → Value} {X : mm_X} {t c l : Nat} (x : Int64) (ht : sh[t]? = some (.inr 2)) (hc : sh[c]? = some (.inl (0, 24))) (hV0 : V t 0 = .ref c) (hl : l + ad_n x 8 ≤ 24)
    (hx : X (.inl (some (.int (iI (l + ad_n x 8 : Nat))))) (sh, va_up I c (ad_s x (I c) l 8), J, F, fu V t 1 (.int (iI (l + ad_n x 8 : Nat))))) :
    ∀ (m k : Nat), 8 - k < m → k ≤ 8 → mW G mt_Te_add (d + 1) bc bs 46 [(4, .int (iI k)), (0, .ref t), (1, .long x)] [] (sh, va_up I c (ad_s x (I c) l k), J, F, fu V t 1 (.int (iI (l + ad_n x k : Nat)))) X := by
  intro m
  induction m with
  | zero => intro k h1 _; exact absurd h1 (Nat.not_lt_zero _)
  | succ m ih =>
    intro k h1 h2
    have hb := ad_mono x h2
    refine mw_iload dc_Te_add_46 0 rfl ?_
    refine mi_bipush dc_Te_add_48 (by decide) ?_
    refine mi_icmp_ge (tgt := 93) dc_Te_add_50 (by decide) (iB_mk (by omega) (by omega)) (iB_mk (by omega) (by omega)) (fun hh => ?_) (fun hh => ?_)
    · have e : k = 8 := by omega
      subst e
      refine mw_aload_n dc_Te_add_93 rfl 1 rfl ?_
      refine mi_get (ci := 2) (k := 1) dc_Te_add_94 ht wi_Te rfl rfl (by decide) fl_Te_19 (fu_at V t 1 _) ?_
      exact mw_iret dc_Te_add_97 rfl rfl hx
    · have hk : k < 8 := by omega
      have hb2 := ad_mono x (show k + 1 ≤ 8 by omega)
      refine mw_lload_n dc_Te_add_53 rfl 2 rfl ?_
      refine mw_iload dc_Te_add_54 0 rfl ?_
      refine mz_S2 (M2 := mt_Te_byteAt) dc_Te_add_56 ml_Te_15 rfl ny_Te_byteAt (by decide) (Nat.le_of_ble_eq_true rfl) (ev_byteAt x k) (fun v h1 hY => ?_)
      obtain ⟨hv, rfl⟩ := hY
      cases hv
      refine mw_istore dc_Te_add_59 (by decide) rfl ?_
      refine mw_iload dc_Te_add_61 0 rfl ?_
      refine mw_if_eq (tgt := 87) dc_Te_add_63 (by decide) (fun hh => ?_) (fun hh => ?_)
      · have e : ad_n x (k + 1) = ad_n x k := if_pos hh
        have e2 : ad_s x (I c) l (k + 1) = ad_s x (I c) l k := if_pos hh
        refine mi_iinc dc_Te_add_87 1 rfl (by decide) rfl ?_
        refine mw_goto (tgt := 46) dc_Te_add_90 (by decide) ?_
        refine mw_pick [0, 2, 3] rfl ?_
        have k2 := ih (k + 1) (by omega) (by omega)
        rw [e, e2] at k2
        exact k2
      · have e : ad_n x (k + 1) = ad_n x k + 1 := if_neg hh
        refine mw_aload_n dc_Te_add_66 rfl 2 rfl ?_
        refine mi_get (ci := 2) (k := 0) dc_Te_add_67 ht wi_Te rfl rfl (by decide) fl_Te_11 ((fu_n2 V _ (by decide)).trans hV0) ?_
        refine mw_aload_n dc_Te_add_70 rfl 2 rfl ?_
        refine mi_get (ci := 2) (k := 1) dc_Te_add_71 ht wi_Te rfl rfl (by decide) fl_Te_19 (fu_at V t 1 _) ?_
        refine mw_iload dc_Te_add_74 0 rfl ?_
        refine mi_iast dc_Te_add_76 hc ⟨by omega, by omega, by decide⟩ (I' := va_up I c (ad_s x (I c) l (k + 1))) (by rw [va_up_self, up_up, Int.toNat_natCast, show ad_s x (I c) l (k + 1) = upd (ad_s x (I c) l k) (l + ad_n x k) (by_f x k) from if_neg hh]) ?_
        refine mw_aload_n dc_Te_add_77 rfl 2 rfl ?_
        refine mw_dup dc_Te_add_78 rfl ?_
        refine mi_get (ci := 2) (k := 1) dc_Te_add_79 ht wi_Te rfl rfl (by decide) fl_Te_19 (fu_at V t 1 _) ?_
        refine mi_const dc_Te_add_82 ?_
        refine mi_iadd dc_Te_add_83 ?_
        refine mi_puti (ci := 2) (k := 1) dc_Te_add_84 ht wi_Te tk_Te nm_Te rfl rfl (by decide) fl_Te_19 rfl (by decide +kernel) (show va_up (fu V t 1 _) t (va_up (fu V t 1 _ t) 1 _) = fu V t 1 (.int (iI (l + ad_n x (k + 1) : Nat))) from (fu_fu V t 1 _ _).trans (by rw [show ((l + ad_n x k : Nat) : Int) + 1 = ((l + ad_n x (k + 1) : Nat) : Int) by rw [e]; omega])) ?_
        refine mi_iinc dc_Te_add_87 1 rfl (by decide) rfl ?_
        refine mw_goto (tgt := 46) dc_Te_add_90 (by decide) ?_
        refine mw_pick [0, 2, 3] rfl ?_
        exact ih (k + 1) (by omega) (by omega)
/-- add: the bytes that are not 0, if they fit -/
theorem ev_add {G : mm_G} {d : Nat} {sh : mm_Sh} {I : Nat → Nat → Int32} {J : Nat → Nat → Int64} {F : Nat → Nat → Option Nat} {V : Nat → Nat → Value} {t c l : Nat} (x : Int64) (ht : sh[t]? = some (.inr 2)) (hc : sh[c]? = some (.inl (0, 24))) (hV0 : V t 0 = .ref c) (hV1 : V t 1 = .int (iI l)) (hl : l ≤ 24) :
    mE G mt_Te_add (d + 1) 0 0 [.ref t, .long x] (sh, I, J, F, V) (fun o h1 => (24 < l + ad_n x 8 → o = .inl (some (.int (iI (-1)))) ∧ h1 = (sh, I, J, F, V)) ∧ (l + ad_n x 8 ≤ 24 → o = .inl (some (.int (iI (l + ad_n x 8 : Nat)))) ∧ h1 = (sh, va_up I c (ad_s x (I c) l 8), J, F, fu V t 1 (.int (iI (l + ad_n x 8 : Nat)))))) := by
  refine mE_intro (by decide) (fun k h q => ?_) (Nat.le_of_ble_eq_true rfl) ?_
  · rcases Nat.lt_or_ge 24 (l + ad_n x 8) with h1 | h1
    · exact nomatch (q.1 h1).1
    · exact nomatch (q.2 h1).1
  show mW G mt_Te_add (d + 1) 0 0 0 [(0, .ref t), (1, .long x)] [] (sh, I, J, F, V) _
  refine mi_const dc_Te_add_0 ?_
  refine mw_istore_n dc_Te_add_1 rfl (by decide) rfl ?_
  refine mi_const dc_Te_add_2 ?_
  refine mw_istore dc_Te_add_3 (by decide) rfl ?_
  refine mw_pick [0, 1, 2, 3] rfl ?_
  refine ad_loop1 x ?_ 9 0 (by omega) (by omega)
  have hb := ad_le x 8
  refine mw_aload_n dc_Te_add_30 rfl 2 rfl ?_
  refine mi_get (ci := 2) (k := 1) dc_Te_add_31 ht wi_Te rfl rfl (by decide) fl_Te_19 hV1 ?_
  refine mw_iload_n dc_Te_add_34 rfl 1 rfl ?_
  refine mi_iadd dc_Te_add_35 ?_
  refine mi_bipush dc_Te_add_36 (by decide) ?_
  refine mi_icmp_le (tgt := 43) dc_Te_add_38 (by decide) (iB_mk (by omega) (by omega)) (iB_mk (by omega) (by omega)) (fun hh => ?_) (fun hh => ?_)
  · have hl2 : l + ad_n x 8 ≤ 24 := by omega
    refine mi_const dc_Te_add_43 ?_
    refine mw_istore dc_Te_add_44 (by decide) rfl ?_
    refine mw_pick [0, 2, 3] rfl ?_
    have k := ad_loop2 (G := G) (d := d) (bc := 0) (bs := 0) (I := I) (J := J) (F := F) (V := V) (X := fun o h1 => (24 < l + ad_n x 8 → o = .inl (some (.int (iI (-1)))) ∧ h1 = (sh, I, J, F, V)) ∧ (l + ad_n x 8 ≤ 24 → o = .inl (some (.int (iI (l + ad_n x 8 : Nat)))) ∧ h1 = (sh, va_up I c (ad_s x (I c) l 8), J, F, fu V t 1 (.int (iI (l + ad_n x 8 : Nat)))))) x ht hc hV0 hl2 ⟨fun q => absurd q (by omega), fun _ => ⟨rfl, rfl⟩⟩ 9 0 (by omega) (by omega)
    rw [show ad_s x (I c) l 0 = I c from rfl, up_id, show l + ad_n x 0 = l from rfl, fu_id hV1] at k
    exact k
  · have hl2 : 24 < l + ad_n x 8 := by omega
    refine mi_const dc_Te_add_41 ?_
    exact mw_iret dc_Te_add_42 rfl rfl ⟨fun _ => ⟨rfl, rfl⟩, fun q => absurd q (by omega)⟩
