/-! A SLOT at the position p: its order at p + 1, the places of its latest reversals at p + 2 and p + 3 -/
def sl_S (sh : mm_Sh) (p : Nat) : Prop := sh[p]? = some (.inr 1) ∧ sh[p + 1]? = some (.inl (0, 6)) ∧ sh[p + 2]? = some (.inl (0, 8)) ∧ sh[p + 3]? = some (.inl (0, 8))
def sl_V (V : Nat → Nat → Value) (p : Nat) : Prop := V p 0 = .ref (p + 1) ∧ V p 1 = .ref (p + 2) ∧ V p 2 = .ref (p + 3)
theorem sl_Vf {V : Nat → Nat → Value} {p : Nat} (h : sl_V V p) (v : Value) : sl_V (fu V p 3 v) p :=
  ⟨(fu_n2 V v (by decide)).trans h.1, (fu_n2 V v (by decide)).trans h.2.1, (fu_n2 V v (by decide)).trans h.2.2⟩
def bp_f (f : Nat → Int32) (k : Nat) : Nat → Int32 := fun j => if j < k then iI ((j : Int) + 1) else f j
theorem bp_0 (f : Nat → Int32) : bp_f f 0 = f := by
  funext j
  unfold bp_f
  rw [if_neg (by omega)]
theorem bp_s (f : Nat → Int32) (k : Nat) : upd (bp_f f k) k (iI ((k : Int) + 1)) = bp_f f (k + 1) := by
  funext j
  by_cases h : j = k
  · subst h
    rw [pk_us]
    unfold bp_f
    rw [if_pos (by omega)]
  · rw [pk_un h]
    unfold bp_f
    by_cases h2 : j < k
    · rw [if_pos h2, if_pos (by omega)]
    · rw [if_neg h2, if_neg (by omega)]
theorem bp_loop {G : mm_G} {d bc bs : Nat} {sh : mm_Sh} {I : Nat → Nat → Int32} {J : Nat → Nat → Int64} {F : Nat → Nat → Option Nat} {V : Nat → Nat → Value} {X : mm_X} {p : Nat} (hs : sl_S sh p) (hV : sl_V V p) (hx : X (.inl none) (sh, va_up I (p + 1) (bp_f (I (p + 1)) 6), J, F, fu V p 3 (.int (iI 0)))) :
    ∀ (m k : Nat), 6 - k < m → k ≤ 6 → mW G mt_Sl_becomePlain d bc bs 2 [(1, .int (iI k)), (0, .ref p)] [] (sh, va_up I (p + 1) (bp_f (I (p + 1)) k), J, F, V) X := by
  intro m
  induction m with
  | zero => intro k h1 _; exact absurd h1 (Nat.not_lt_zero _)
  | succ m ih =>
    intro k h1 h2
    refine mw_iload_n dc_Sl_becomePlain_2 rfl 0 rfl ?_
    refine mi_bipush dc_Sl_becomePlain_3 (by decide) ?_
    refine mi_icmp_ge (tgt := 23) dc_Sl_becomePlain_5 (by decide) (iB_mk (by omega) (by omega)) (iB_mk (by omega) (by omega)) (fun hh => ?_) (fun hh => ?_)
    · have e : k = 6 := by omega
      subst e
      refine mw_aload_n dc_Sl_becomePlain_23 rfl 1 rfl ?_
      refine mi_const dc_Sl_becomePlain_24 ?_
      refine mi_puti (ci := 1) (k := 3) dc_Sl_becomePlain_25 hs.1 wi_Sl tk_Sl nm_Sl rfl rfl (by decide) fl_Sl_24 rfl (by decide +kernel) rfl ?_
      exact mw_vret dc_Sl_becomePlain_28 rfl hx
    · have hk : k < 6 := by omega
      refine mw_aload_n dc_Sl_becomePlain_8 rfl 1 rfl ?_
      refine mi_get (ci := 1) (k := 0) dc_Sl_becomePlain_9 hs.1 wi_Sl rfl rfl (by decide) fl_Sl_9 hV.1 ?_
      refine mw_iload_n dc_Sl_becomePlain_12 rfl 0 rfl ?_
      refine mw_iload_n dc_Sl_becomePlain_13 rfl 0 rfl ?_
      refine mi_const dc_Sl_becomePlain_14 ?_
      refine mi_iadd dc_Sl_becomePlain_15 ?_
      refine mi_iast dc_Sl_becomePlain_16 hs.2.1 ⟨by omega, by omega, by decide⟩ (I' := va_up I (p + 1) (bp_f (I (p + 1)) (k + 1))) (by rw [va_up_self, up_up, Int.toNat_natCast, bp_s]) ?_
      refine mi_iinc dc_Sl_becomePlain_17 0 rfl (by decide) rfl ?_
      refine mw_goto (tgt := 2) dc_Sl_becomePlain_20 (by decide) ?_
      refine mw_pick [0, 1] rfl ?_
      exact ih (k + 1) (by omega) (by omega)
theorem ev_becomePlain {G : mm_G} {d : Nat} {sh : mm_Sh} {I : Nat → Nat → Int32} {J : Nat → Nat → Int64} {F : Nat → Nat → Option Nat} {V : Nat → Nat → Value} {p : Nat} (hs : sl_S sh p) (hV : sl_V V p) : mE G mt_Sl_becomePlain d 0 0 [.ref p] (sh, I, J, F, V) (fun o h1 => o = .inl none ∧ h1 = (sh, va_up I (p + 1) (bp_f (I (p + 1)) 6), J, F, fu V p 3 (.int (iI 0)))) := by
  refine mE_intro (by decide) (fun k h q => nomatch q.1) (Nat.le_of_ble_eq_true rfl) ?_
  show mW G mt_Sl_becomePlain d 0 0 0 [(0, .ref p)] [] (sh, I, J, F, V) _
  refine mi_const dc_Sl_becomePlain_0 ?_
  refine mw_istore_n dc_Sl_becomePlain_1 rfl (by decide) rfl ?_
  have k := bp_loop (G := G) (d := d) (bc := 0) (bs := 0) (I := I) (J := J) (F := F) (X := fun o h1 => o = .inl none ∧ h1 = (sh, va_up I (p + 1) (bp_f (I (p + 1)) 6), J, F, fu V p 3 (.int (iI 0)))) hs hV ⟨rfl, rfl⟩ 7 0 (by omega) (by omega)
  rw [bp_0, up_id] at k
  exact k
theorem ev_become {G : mm_G} {d : Nat} {sh : mm_Sh} {I : Nat → Nat → Int32} {J : Nat → Nat → Int64} {F : Nat → Nat → Option Nat} {V : Nat → Nat → Value} {p a n : Nat} (hs : sl_S sh p) (hV : sl_V V p) (ha : sh[a]? = some (.inl (0, n))) (hn : 6 ≤ n ∧ n < 2147483648) : mE G mt_Sl_become d 0 0 [.ref p, .ref a] (sh, I, J, F, V) (fun o h1 => o = .inl none ∧ h1 = (sh, va_up I (p + 1) (va_cpy (I a) (I (p + 1)) 0 0 6), J, F, fu V p 3 (.int (iI 0)))) := by
  refine mE_intro (by decide) (fun k h q => nomatch q.1) (Nat.le_of_ble_eq_true rfl) ?_
  show mW G mt_Sl_become d 0 0 0 [(0, .ref p), (1, .ref a)] [] (sh, I, J, F, V) _
  refine mw_aload_n dc_Sl_become_0 rfl 1 rfl ?_
  refine mi_const dc_Sl_become_1 ?_
  refine mw_aload_n dc_Sl_become_2 rfl 0 rfl ?_
  refine mi_get (ci := 1) (k := 0) dc_Sl_become_3 hs.1 wi_Sl rfl rfl (by decide) fl_Sl_9 hV.1 ?_
  refine mi_const dc_Sl_become_6 ?_
  refine mi_bipush dc_Sl_become_7 (by decide) ?_
  refine mi_copy dc_Sl_become_9 jk_Sl_28 ha hs.2.1 ⟨by omega, by omega, by omega, by omega, by omega, by omega, by omega⟩ (Nat.le_of_ble_eq_true rfl) rfl ?_
  refine mw_aload_n dc_Sl_become_12 rfl 0 rfl ?_
  refine mi_const dc_Sl_become_13 ?_
  refine mi_puti (ci := 1) (k := 3) dc_Sl_become_14 hs.1 wi_Sl tk_Sl nm_Sl rfl rfl (by decide) fl_Sl_24 rfl (by decide +kernel) rfl ?_
  exact mw_vret dc_Sl_become_17 rfl ⟨rfl, rfl⟩
/-- what is kept behind a reversal: of nine the latest eight -/
def tk_n (k : Nat) : Nat := if k = 8 then 7 else k
def tk_f (f : Nat → Int32) (k : Nat) : Nat → Int32 := if k = 8 then va_cpy f f 1 0 7 else f
def tk_I (I : Nat → Nat → Int32) (p i j k : Nat) : Nat → Nat → Int32 := va_up (va_up (va_up I (p + 1) (tu_f (I (p + 1)) i j)) (p + 2) (upd (tk_f (I (p + 2)) k) (tk_n k) (iI i))) (p + 3) (upd (tk_f (I (p + 3)) k) (tk_n k) (iI j))
theorem up_cm {α : Type} (f : Nat → α) {a b : Nat} (x y : α) (h : a ≠ b) : va_up (va_up f a x) b y = va_up (va_up f b y) a x := by
  funext k
  by_cases h1 : k = a
  · subst h1
    rw [va_up_ne _ _ h, va_up_self, va_up_self]
  · by_cases h2 : k = b
    · subst h2
      rw [va_up_self, va_up_ne _ _ h1, va_up_self]
    · rw [va_up_ne _ _ h2, va_up_ne _ _ h1, va_up_ne _ _ h1, va_up_ne _ _ h2]
theorem tk_end {G : mm_G} {d bc bs : Nat} {sh : mm_Sh} {I : Nat → Nat → Int32} {J : Nat → Nat → Int64} {F : Nat → Nat → Option Nat} {V : Nat → Nat → Value} {X : mm_X} {p i j k : Nat} {f g : Nat → Int32} (hs : sl_S sh p) (hV : sl_V V p) (hk : V p 3 = .int (iI k)) (hk8 : k < 8)
    (hx : X (.inl none) (sh, va_up (va_up I (p + 2) (upd (I (p + 2)) k (iI i))) (p + 3) (upd (I (p + 3)) k (iI j)), J, F, fu V p 3 (.int (iI ((k + 1 : Nat) : Int))))) : mW G mt_Sl_turnAndKeep d bc bs 58 [(0, .ref p), (1, .int (iI i)), (2, .int (iI j))] [] (sh, I, J, F, V) X := by
  refine mw_aload_n dc_Sl_turnAndKeep_58 rfl 0 rfl ?_
  refine mi_get (ci := 1) (k := 1) dc_Sl_turnAndKeep_59 hs.1 wi_Sl rfl rfl (by decide) fl_Sl_15 hV.2.1 ?_
  refine mw_aload_n dc_Sl_turnAndKeep_62 rfl 0 rfl ?_
  refine mi_get (ci := 1) (k := 3) dc_Sl_turnAndKeep_63 hs.1 wi_Sl rfl rfl (by decide) fl_Sl_24 hk ?_
  refine mw_iload_n dc_Sl_turnAndKeep_66 rfl 1 rfl ?_
  refine mi_iast dc_Sl_turnAndKeep_67 hs.2.2.1 ⟨by omega, by omega, by decide⟩ (I' := va_up I (p + 2) (upd (I (p + 2)) k (iI i))) (by rw [Int.toNat_natCast]) ?_
  refine mw_aload_n dc_Sl_turnAndKeep_68 rfl 0 rfl ?_
  refine mi_get (ci := 1) (k := 2) dc_Sl_turnAndKeep_69 hs.1 wi_Sl rfl rfl (by decide) fl_Sl_18 hV.2.2 ?_
  refine mw_aload_n dc_Sl_turnAndKeep_72 rfl 0 rfl ?_
  refine mi_get (ci := 1) (k := 3) dc_Sl_turnAndKeep_73 hs.1 wi_Sl rfl rfl (by decide) fl_Sl_24 hk ?_
  refine mw_iload_n dc_Sl_turnAndKeep_76 rfl 2 rfl ?_
  refine mi_iast dc_Sl_turnAndKeep_77 hs.2.2.2 ⟨by omega, by omega, by decide⟩ (I' := va_up (va_up I (p + 2) (upd (I (p + 2)) k (iI i))) (p + 3) (upd (I (p + 3)) k (iI j))) (by rw [va_up_ne _ _ (show p + 3 ≠ p + 2 by omega), Int.toNat_natCast]) ?_
  refine mw_aload_n dc_Sl_turnAndKeep_78 rfl 0 rfl ?_
  refine mw_dup dc_Sl_turnAndKeep_79 rfl ?_
  refine mi_get (ci := 1) (k := 3) dc_Sl_turnAndKeep_80 hs.1 wi_Sl rfl rfl (by decide) fl_Sl_24 hk ?_
  refine mi_const dc_Sl_turnAndKeep_83 ?_
  refine mi_iadd dc_Sl_turnAndKeep_84 ?_
  refine mi_puti (ci := 1) (k := 3) dc_Sl_turnAndKeep_85 hs.1 wi_Sl tk_Sl nm_Sl rfl rfl (by decide) fl_Sl_24 rfl (by decide +kernel) rfl ?_
  exact mw_vret dc_Sl_turnAndKeep_88 rfl hx
theorem ev_turnAndKeep {G : mm_G} {d : Nat} {sh : mm_Sh} {I : Nat → Nat → Int32} {J : Nat → Nat → Int64} {F : Nat → Nat → Option Nat} {V : Nat → Nat → Value} {p i j k : Nat} (hs : sl_S sh p) (hV : sl_V V p) (hk : V p 3 = .int (iI k)) (hk8 : k ≤ 8) (hij : i ≤ j) (hj : j < 6) :
    mE G mt_Sl_turnAndKeep (d + 1) 0 0 [.ref p, .int (iI i), .int (iI j)] (sh, I, J, F, V) (fun o h1 => o = .inl none ∧ h1 = (sh, tk_I I p i j k, J, F, fu V p 3 (.int (iI ((tk_n k + 1 : Nat) : Int))))) := by
  refine mE_intro (by decide) (fun k h q => nomatch q.1) (Nat.le_of_ble_eq_true rfl) ?_
  show mW G mt_Sl_turnAndKeep (d + 1) 0 0 0 [(0, .ref p), (1, .int (iI i)), (2, .int (iI j))] [] (sh, I, J, F, V) _
  refine mw_aload_n dc_Sl_turnAndKeep_0 rfl 0 rfl ?_
  refine mi_get (ci := 1) (k := 0) dc_Sl_turnAndKeep_1 hs.1 wi_Sl rfl rfl (by decide) fl_Sl_9 hV.1 ?_
  refine mw_iload_n dc_Sl_turnAndKeep_4 rfl 1 rfl ?_
  refine mw_iload_n dc_Sl_turnAndKeep_5 rfl 2 rfl ?_
  refine mz_SN3 (M2 := mt_De_turn) dc_Sl_turnAndKeep_6 ml_Sl_34 mn_Sl_34 ny_De_turn (by decide) (Nat.le_of_ble_eq_true rfl) (ev_turn hs.2.1 hj (by decide) hij) (fun v h1 hY => ?_)
  obtain ⟨hv, rfl⟩ := hY
  cases hv
  refine mw_aload_n dc_Sl_turnAndKeep_9 rfl 0 rfl ?_
  refine mi_get (ci := 1) (k := 3) dc_Sl_turnAndKeep_10 hs.1 wi_Sl rfl rfl (by decide) fl_Sl_24 hk ?_
  refine mi_bipush dc_Sl_turnAndKeep_13 (by decide) ?_
  refine mi_icmp_ne (tgt := 58) dc_Sl_turnAndKeep_15 (by decide) (iB_mk (by omega) (by omega)) (iB_mk (by omega) (by omega)) (fun hh => ?_) (fun hh => ?_)
  · refine tk_end (i := i) (j := j) (f := I 0) (g := I 0) hs hV hk (by omega) ⟨rfl, ?_⟩
    unfold tk_I tk_f tk_n
    rw [if_neg (show ¬ k = 8 by omega), if_neg (show ¬ k = 8 by omega), if_neg (show ¬ k = 8 by omega), va_up_ne _ _ (show p + 2 ≠ p + 1 by omega), va_up_ne _ _ (show p + 3 ≠ p + 1 by omega)]
  · have e : k = 8 := by omega
    subst e
    refine mw_aload_n dc_Sl_turnAndKeep_18 rfl 0 rfl ?_
    refine mi_get (ci := 1) (k := 1) dc_Sl_turnAndKeep_19 hs.1 wi_Sl rfl rfl (by decide) fl_Sl_15 hV.2.1 ?_
    refine mi_const dc_Sl_turnAndKeep_22 ?_
    refine mw_aload_n dc_Sl_turnAndKeep_23 rfl 0 rfl ?_
    refine mi_get (ci := 1) (k := 1) dc_Sl_turnAndKeep_24 hs.1 wi_Sl rfl rfl (by decide) fl_Sl_15 hV.2.1 ?_
    refine mi_const dc_Sl_turnAndKeep_27 ?_
    refine mi_bipush dc_Sl_turnAndKeep_28 (by decide) ?_
    refine mi_copy dc_Sl_turnAndKeep_30 jk_Sl_28 hs.2.2.1 hs.2.2.1 ⟨by omega, by omega, by omega, by omega, by omega, by omega, by omega⟩ (Nat.le_of_ble_eq_true rfl) (I' := va_up (va_up I (p + 1) (tu_f (I (p + 1)) i j)) (p + 2) (va_cpy (I (p + 2)) (I (p + 2)) 1 0 7)) (by rw [va_up_ne _ _ (show p + 2 ≠ p + 1 by omega)]; rfl) ?_
    refine mw_aload_n dc_Sl_turnAndKeep_33 rfl 0 rfl ?_
    refine mi_get (ci := 1) (k := 2) dc_Sl_turnAndKeep_34 hs.1 wi_Sl rfl rfl (by decide) fl_Sl_18 hV.2.2 ?_
    refine mi_const dc_Sl_turnAndKeep_37 ?_
    refine mw_aload_n dc_Sl_turnAndKeep_38 rfl 0 rfl ?_
    refine mi_get (ci := 1) (k := 2) dc_Sl_turnAndKeep_39 hs.1 wi_Sl rfl rfl (by decide) fl_Sl_18 hV.2.2 ?_
    refine mi_const dc_Sl_turnAndKeep_42 ?_
    refine mi_bipush dc_Sl_turnAndKeep_43 (by decide) ?_
    refine mi_copy dc_Sl_turnAndKeep_45 jk_Sl_28 hs.2.2.2 hs.2.2.2 ⟨by omega, by omega, by omega, by omega, by omega, by omega, by omega⟩ (Nat.le_of_ble_eq_true rfl) (I' := va_up (va_up (va_up I (p + 1) (tu_f (I (p + 1)) i j)) (p + 2) (va_cpy (I (p + 2)) (I (p + 2)) 1 0 7)) (p + 3) (va_cpy (I (p + 3)) (I (p + 3)) 1 0 7)) (by rw [va_up_ne _ _ (show p + 3 ≠ p + 2 by omega), va_up_ne _ _ (show p + 3 ≠ p + 1 by omega)]; rfl) ?_
    refine mw_aload_n dc_Sl_turnAndKeep_48 rfl 0 rfl ?_
    refine mw_dup dc_Sl_turnAndKeep_49 rfl ?_
    refine mi_get (ci := 1) (k := 3) dc_Sl_turnAndKeep_50 hs.1 wi_Sl rfl rfl (by decide) fl_Sl_24 hk ?_
    refine mi_const dc_Sl_turnAndKeep_53 ?_
    refine mi_isub dc_Sl_turnAndKeep_54 ?_
    refine mi_puti (ci := 1) (k := 3) dc_Sl_turnAndKeep_55 hs.1 wi_Sl tk_Sl nm_Sl rfl rfl (by decide) fl_Sl_24 rfl (by decide +kernel) (show va_up V p (va_up (V p) 3 (.int (iI (((8 : Nat) : Int) - 1)))) = fu V p 3 (.int (iI (7 : Nat))) from rfl) ?_
    refine tk_end (i := i) (j := j) (k := 7) (f := I 0) (g := I 0) hs (sl_Vf hV _) (fu_at V p 3 _) (by omega) ⟨rfl, ?_⟩
    unfold tk_I tk_f tk_n
    rw [if_pos rfl, if_pos rfl, if_pos rfl, fu_fu, va_up_self]
    rw [va_up_ne _ _ (show p + 2 ≠ p + 3 by omega), va_up_self]
    rw [up_cm _ _ _ (show p + 3 ≠ p + 2 by omega), up_up, up_up]
theorem ev_turnBack0 {G : mm_G} {d : Nat} {sh : mm_Sh} {I : Nat → Nat → Int32} {J : Nat → Nat → Int64} {F : Nat → Nat → Option Nat} {V : Nat → Nat → Value} {p : Nat} (hs : sl_S sh p) (hk : V p 3 = .int (iI 0)) : mE G mt_Sl_turnBack d 0 0 [.ref p] (sh, I, J, F, V) (fun o h1 => o = .inl (some (.int (iI 0))) ∧ h1 = (sh, I, J, F, V)) := by
  refine mE_intro (by decide) (fun k h q => nomatch q.1) (Nat.le_of_ble_eq_true rfl) ?_
  show mW G mt_Sl_turnBack d 0 0 0 [(0, .ref p)] [] (sh, I, J, F, V) _
  refine mw_aload_n dc_Sl_turnBack_0 rfl 0 rfl ?_
  refine mi_get (ci := 1) (k := 3) dc_Sl_turnBack_1 hs.1 wi_Sl rfl rfl (by decide) fl_Sl_24 hk ?_
  refine mi_if_ne (tgt := 9) dc_Sl_turnBack_4 (by decide) (iB_mk (by omega) (by omega)) (fun hh => ?_) (fun hh => ?_)
  · exact absurd rfl hh
  refine mi_const dc_Sl_turnBack_7 ?_
  exact mw_iret dc_Sl_turnBack_8 rfl (by decide) ⟨rfl, rfl⟩
theorem ev_turnBack {G : mm_G} {d : Nat} {sh : mm_Sh} {I : Nat → Nat → Int32} {J : Nat → Nat → Int64} {F : Nat → Nat → Option Nat} {V : Nat → Nat → Value} {p i j k : Nat} (hs : sl_S sh p) (hV : sl_V V p) (hk : V p 3 = .int (iI ((k + 1 : Nat) : Int))) (hk8 : k < 8) (hi : I (p + 2) k = iI i) (hj : I (p + 3) k = iI j) (hij : i ≤ j) (hj6 : j < 6) :
    mE G mt_Sl_turnBack (d + 1) 0 0 [.ref p] (sh, I, J, F, V) (fun o h1 => o = .inl (some (.int (iI 1))) ∧ h1 = (sh, va_up I (p + 1) (tu_f (I (p + 1)) i j), J, F, fu V p 3 (.int (iI k)))) := by
  refine mE_intro (by decide) (fun k h q => nomatch q.1) (Nat.le_of_ble_eq_true rfl) ?_
  show mW G mt_Sl_turnBack (d + 1) 0 0 0 [(0, .ref p)] [] (sh, I, J, F, V) _
  have hV2 := sl_Vf hV (.int (iI k))
  refine mw_aload_n dc_Sl_turnBack_0 rfl 0 rfl ?_
  refine mi_get (ci := 1) (k := 3) dc_Sl_turnBack_1 hs.1 wi_Sl rfl rfl (by decide) fl_Sl_24 hk ?_
  refine mi_if_ne (tgt := 9) dc_Sl_turnBack_4 (by decide) (iB_mk (by omega) (by omega)) (fun hh => ?_) (fun hh => ?_)
  · refine mw_aload_n dc_Sl_turnBack_9 rfl 0 rfl ?_
    refine mw_dup dc_Sl_turnBack_10 rfl ?_
    refine mi_get (ci := 1) (k := 3) dc_Sl_turnBack_11 hs.1 wi_Sl rfl rfl (by decide) fl_Sl_24 hk ?_
    refine mi_const dc_Sl_turnBack_14 ?_
    refine mi_isub dc_Sl_turnBack_15 ?_
    refine mi_puti (ci := 1) (k := 3) dc_Sl_turnBack_16 hs.1 wi_Sl tk_Sl nm_Sl rfl rfl (by decide) fl_Sl_24 rfl (by decide +kernel) (show va_up V p (va_up (V p) 3 (.int (iI (((k + 1 : Nat) : Int) - 1)))) = fu V p 3 (.int (iI k)) by rw [show ((k + 1 : Nat) : Int) - 1 = (k : Int) by omega]; rfl) ?_
    refine mw_aload_n dc_Sl_turnBack_19 rfl 0 rfl ?_
    refine mi_get (ci := 1) (k := 0) dc_Sl_turnBack_20 hs.1 wi_Sl rfl rfl (by decide) fl_Sl_9 hV2.1 ?_
    refine mw_aload_n dc_Sl_turnBack_23 rfl 0 rfl ?_
    refine mi_get (ci := 1) (k := 1) dc_Sl_turnBack_24 hs.1 wi_Sl rfl rfl (by decide) fl_Sl_15 hV2.2.1 ?_
    refine mw_aload_n dc_Sl_turnBack_27 rfl 0 rfl ?_
    refine mi_get (ci := 1) (k := 3) dc_Sl_turnBack_28 hs.1 wi_Sl rfl rfl (by decide) fl_Sl_24 (fu_at V p 3 _) ?_
    refine mi_iald dc_Sl_turnBack_31 hs.2.2.1 ⟨by omega, by omega, by decide⟩ (v := iI i) (by rw [Int.toNat_natCast]; exact hi) ?_
    refine mw_aload_n dc_Sl_turnBack_32 rfl 0 rfl ?_
    refine mi_get (ci := 1) (k := 2) dc_Sl_turnBack_33 hs.1 wi_Sl rfl rfl (by decide) fl_Sl_18 hV2.2.2 ?_
    refine mw_aload_n dc_Sl_turnBack_36 rfl 0 rfl ?_
    refine mi_get (ci := 1) (k := 3) dc_Sl_turnBack_37 hs.1 wi_Sl rfl rfl (by decide) fl_Sl_24 (fu_at V p 3 _) ?_
    refine mi_iald dc_Sl_turnBack_40 hs.2.2.2 ⟨by omega, by omega, by decide⟩ (v := iI j) (by rw [Int.toNat_natCast]; exact hj) ?_
    refine mz_SN3 (M2 := mt_De_turn) dc_Sl_turnBack_41 ml_Sl_34 mn_Sl_34 ny_De_turn (by decide) (Nat.le_of_ble_eq_true rfl) (ev_turn hs.2.1 hj6 (by decide) hij) (fun v h1 hY => ?_)
    obtain ⟨hv, rfl⟩ := hY
    cases hv
    refine mi_const dc_Sl_turnBack_44 ?_
    exact mw_iret dc_Sl_turnBack_45 rfl (by decide) ⟨rfl, rfl⟩
  · exact absurd hh (by omega)
