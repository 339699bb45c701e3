/-! relate: the relative row of two orders -/
def sg (v q : Int) : Int := if 0 < v then q + 1 else -q - 1
def sp_c (g : Nat → Int32) (v : Nat → Int) : Nat → Nat → Int32
  | 0 => g
  | q + 1 => upd (sp_c g v q) (ab (v q)).toNat (iI (sg (v q) q))
def rl (g : Nat → Int32) (u : Nat → Int) (S : Nat → Int32) (k : Nat) : Nat → Int32 := fun p => if p < k then (if 0 < u p then S (u p).toNat else -(S (-(u p)).toNat)) else g p
theorem rl_0 (g : Nat → Int32) (u : Nat → Int) (S : Nat → Int32) : rl g u S 0 = g := by
  funext p; unfold rl; rw [if_neg (by omega)]
theorem rl_s {g : Nat → Int32} {u : Nat → Int} {S : Nat → Int32} {k : Nat} {x : Int32} (h : (if 0 < u k then S (u k).toNat else -(S (-(u k)).toNat)) = x) : upd (rl g u S k) k x = rl g u S (k + 1) := by
  funext p
  by_cases e : p = k
  · subst e; rw [pk_us]; unfold rl; rw [if_pos (show p < p + 1 by omega), h]
  · rw [pk_un e]
    unfold rl
    by_cases q : p < k
    · rw [if_pos q, if_pos (show p < k + 1 by omega)]
    · rw [if_neg q, if_neg (show ¬ p < k + 1 by omega)]
theorem lp_rel1 {G : mm_G} {d bc bs : Nat} {cs : mm_Sh} {I : Nat → Nat → Int32} {J : Nat → Nat → Int64} {F : Nat → Nat → Option Nat} {V : Nat → Nat → Value} {X : mm_X} {n a b na nb : Nat} {u v : Nat → Int} (hW : dk_W F V) (hg : V 0 0 = .int (iI n)) (hn : n ≤ 6) (ha : (wd_S ++ cs)[a]? = some (.inl (0, na)) ∧ a ≠ 36 ∧ a ≠ 37) (hb : (wd_S ++ cs)[b]? = some (.inl (0, nb)) ∧ b ≠ 36 ∧ b ≠ 37) (hna : n ≤ na ∧ na < 2147483648) (hnb : n ≤ nb ∧ nb < 2147483648) (hu : ∀ p, p < n → I a p = iI (u p) ∧ u p ≠ 0 ∧ -(n : Int) ≤ u p ∧ u p ≤ n) (hv : ∀ p, p < n → I b p = iI (v p) ∧ v p ≠ 0 ∧ -(n : Int) ≤ v p ∧ v p ≤ n) (hx : mW G mt_De_relate d bc bs 46 [(3, .int (iI n)), (0, .ref 0), (1, .ref a), (2, .ref b)] [] (wd_S ++ cs, va_up I 36 (sp_c (I 36) v n), J, F, V) X) :
    ∀ (m q : Nat), n - q < m → q ≤ n → mW G mt_De_relate d bc bs 2 [(3, .int (iI q)), (0, .ref 0), (1, .ref a), (2, .ref b)] [] (wd_S ++ cs, va_up I 36 (sp_c (I 36) v q), J, F, V) X := by
  intro m
  induction m with
  | zero => intro q h1 _; exact absurd h1 (Nat.not_lt_zero _)
  | succ m ih =>
    intro q h1 h2
    refine mw_iload_n dc_De_relate_2 rfl 0 rfl ?_
    refine mw_aload_n dc_De_relate_3 rfl 1 rfl ?_
    refine mi_get (ci := 0) (k := 0) dc_De_relate_4 rfl wi_De rfl rfl (by decide) fl_De_9 hg ?_
    refine mi_icmp_ge (tgt := 46) dc_De_relate_7 (by decide) (iB_mk (by omega) (by omega)) (iB_mk (by omega) (by omega)) (fun hh => ?_) (fun hh => ?_)
    · have e : q = n := by omega
      subst e
      exact hx
    · have hq : q < n := by omega
      obtain ⟨q1, q2, q3, q4⟩ := hv q hq
      have b1 := ab_le (z := v q) (m := 6) ⟨by omega, by omega⟩
      refine mw_aload_n dc_De_relate_10 rfl 3 rfl ?_
      refine mw_iload_n dc_De_relate_11 rfl 0 rfl ?_
      refine mi_iald dc_De_relate_12 hb.1 ⟨by omega, by omega, hnb.2⟩ (v := iI (v q)) (by rw [Int.toNat_natCast, va_up_ne _ _ hb.2.1]; exact q1) ?_
      refine mw_istore dc_De_relate_13 (by decide) rfl ?_
      refine mw_aload_n dc_De_relate_15 rfl 2 rfl ?_
      refine mi_get (ci := 0) (k := 7) dc_De_relate_16 rfl wi_De rfl rfl (by decide) fl_De_47 hW.1.2.2.2.2.2.1 ?_
      refine mw_iload dc_De_relate_19 0 rfl ?_
      refine mi_mabs dc_De_relate_21 jk_De_145 (Nat.le_of_ble_eq_true rfl) (iB_mk (by omega) (by omega)) (c := ab (v q)) rfl ?_
      refine mw_iload dc_De_relate_24 0 rfl ?_
      refine mi_if_le (tgt := 35) dc_De_relate_26 (by decide) (iB_mk (by omega) (by omega)) (fun h026 => ?_) (fun h026 => ?_)
      · refine mw_iload_n dc_De_relate_35 rfl 1 rfl ?_
        refine mi_ineg dc_De_relate_36 ?_
        refine mi_const dc_De_relate_37 ?_
        refine mi_isub dc_De_relate_38 ?_
        refine mi_iast dc_De_relate_39 rfl ⟨by omega, by omega, by decide⟩ (I' := va_up I 36 (sp_c (I 36) v (q + 1))) (by rw [va_up_self, up_up]; exact congrArg (va_up I 36) (show upd (sp_c (I 36) v q) (ab (v q)).toNat (iI (-(q : Int) - 1)) = _ by rw [← show sg (v q) q = -(q : Int) - 1 from if_neg (show ¬ 0 < v q by omega)]; rfl)) ?_
        refine mi_iinc dc_De_relate_40 1 rfl (by decide) rfl ?_
        refine mw_goto (tgt := 2) dc_De_relate_43 (by decide) ?_
        refine mw_pick [0, 2, 3, 4] rfl ?_
        exact ih (q + 1) (by omega) (by omega)
      · refine mw_iload_n dc_De_relate_29 rfl 1 rfl ?_
        refine mi_const dc_De_relate_30 ?_
        refine mi_iadd dc_De_relate_31 ?_
        refine mw_goto (tgt := 39) dc_De_relate_32 (by decide) ?_
        refine mi_iast dc_De_relate_39 rfl ⟨by omega, by omega, by decide⟩ (I' := va_up I 36 (sp_c (I 36) v (q + 1))) (by rw [va_up_self, up_up]; exact congrArg (va_up I 36) (show upd (sp_c (I 36) v q) (ab (v q)).toNat (iI ((q : Int) + 1)) = _ by rw [← show sg (v q) q = (q : Int) + 1 from if_pos (show 0 < v q by omega)]; rfl)) ?_
        refine mi_iinc dc_De_relate_40 1 rfl (by decide) rfl ?_
        refine mw_goto (tgt := 2) dc_De_relate_43 (by decide) ?_
        refine mw_pick [0, 2, 3, 4] rfl ?_
        exact ih (q + 1) (by omega) (by omega)
theorem lp_rel2 {G : mm_G} {d bc bs : Nat} {cs : mm_Sh} {I : Nat → Nat → Int32} {J : Nat → Nat → Int64} {F : Nat → Nat → Option Nat} {V : Nat → Nat → Value} {X : mm_X} {n a b na nb : Nat} {u v : Nat → Int} (hW : dk_W F V) (hg : V 0 0 = .int (iI n)) (hn : n ≤ 6) (ha : (wd_S ++ cs)[a]? = some (.inl (0, na)) ∧ a ≠ 36 ∧ a ≠ 37) (hb : (wd_S ++ cs)[b]? = some (.inl (0, nb)) ∧ b ≠ 36 ∧ b ≠ 37) (hna : n ≤ na ∧ na < 2147483648) (hnb : n ≤ nb ∧ nb < 2147483648) (hu : ∀ p, p < n → I a p = iI (u p) ∧ u p ≠ 0 ∧ -(n : Int) ≤ u p ∧ u p ≤ n) (hv : ∀ p, p < n → I b p = iI (v p) ∧ v p ≠ 0 ∧ -(n : Int) ≤ v p ∧ v p ≤ n) (hx : X (.inl none) (wd_S ++ cs, va_up (va_up I 36 (sp_c (I 36) v n)) 37 (rl (I 37) u (sp_c (I 36) v n) n), J, F, V)) :
    ∀ (m p : Nat), n - p < m → p ≤ n → mW G mt_De_relate d bc bs 48 [(3, .int (iI p)), (0, .ref 0), (1, .ref a), (2, .ref b)] [] (wd_S ++ cs, va_up (va_up I 36 (sp_c (I 36) v n)) 37 (rl (I 37) u (sp_c (I 36) v n) p), J, F, V) X := by
  intro m
  induction m with
  | zero => intro p h1 _; exact absurd h1 (Nat.not_lt_zero _)
  | succ m ih =>
    intro p h1 h2
    refine mw_iload_n dc_De_relate_48 rfl 0 rfl ?_
    refine mw_aload_n dc_De_relate_49 rfl 1 rfl ?_
    refine mi_get (ci := 0) (k := 0) dc_De_relate_50 rfl wi_De rfl rfl (by decide) fl_De_9 hg ?_
    refine mi_icmp_ge (tgt := 97) dc_De_relate_53 (by decide) (iB_mk (by omega) (by omega)) (iB_mk (by omega) (by omega)) (fun hh => ?_) (fun hh => ?_)
    · have e : p = n := by omega
      subst e
      exact mw_vret dc_De_relate_97 rfl hx
    · have hp : p < n := by omega
      obtain ⟨q1, q2, q3, q4⟩ := hu p hp
      refine mw_aload_n dc_De_relate_56 rfl 2 rfl ?_
      refine mw_iload_n dc_De_relate_57 rfl 0 rfl ?_
      refine mi_iald dc_De_relate_58 ha.1 ⟨by omega, by omega, hna.2⟩ (v := iI (u p)) (by rw [Int.toNat_natCast, va_up_ne _ _ ha.2.2, va_up_ne _ _ ha.2.1]; exact q1) ?_
      refine mw_istore dc_De_relate_59 (by decide) rfl ?_
      refine mw_aload_n dc_De_relate_61 rfl 2 rfl ?_
      refine mi_get (ci := 0) (k := 8) dc_De_relate_62 rfl wi_De rfl rfl (by decide) fl_De_50 hW.1.2.2.2.2.2.2.1 ?_
      refine mw_iload_n dc_De_relate_65 rfl 1 rfl ?_
      refine mw_iload dc_De_relate_66 0 rfl ?_
      refine mi_if_le (tgt := 81) dc_De_relate_68 (by decide) (iB_mk (by omega) (by omega)) (fun h068 => ?_) (fun h068 => ?_)
      · refine mw_aload_n dc_De_relate_81 rfl 2 rfl ?_
        refine mi_get (ci := 0) (k := 7) dc_De_relate_82 rfl wi_De rfl rfl (by decide) fl_De_47 hW.1.2.2.2.2.2.1 ?_
        refine mw_iload dc_De_relate_85 0 rfl ?_
        refine mi_ineg dc_De_relate_87 ?_
        refine mi_iald dc_De_relate_88 rfl ⟨by omega, by omega, by decide⟩ (v := sp_c (I 36) v n (-(u p)).toNat) rfl ?_
        refine mw_ineg dc_De_relate_89 ?_
        refine mi_iast dc_De_relate_90 rfl ⟨by omega, by omega, by decide⟩ (I' := va_up (va_up I 36 (sp_c (I 36) v n)) 37 (rl (I 37) u (sp_c (I 36) v n) (p + 1))) (by rw [va_up_self, up_up, Int.toNat_natCast, rl_s (if_neg (show ¬ 0 < u p by omega))]) ?_
        refine mi_iinc dc_De_relate_91 1 rfl (by decide) rfl ?_
        refine mw_goto (tgt := 48) dc_De_relate_94 (by decide) ?_
        refine mw_pick [0, 2, 3, 4] rfl ?_
        exact ih (p + 1) (by omega) (by omega)
      · refine mw_aload_n dc_De_relate_71 rfl 2 rfl ?_
        refine mi_get (ci := 0) (k := 7) dc_De_relate_72 rfl wi_De rfl rfl (by decide) fl_De_47 hW.1.2.2.2.2.2.1 ?_
        refine mw_iload dc_De_relate_75 0 rfl ?_
        refine mi_iald dc_De_relate_77 rfl ⟨by omega, by omega, by decide⟩ (v := sp_c (I 36) v n (u p).toNat) rfl ?_
        refine mw_goto (tgt := 90) dc_De_relate_78 (by decide) ?_
        refine mi_iast dc_De_relate_90 rfl ⟨by omega, by omega, by decide⟩ (I' := va_up (va_up I 36 (sp_c (I 36) v n)) 37 (rl (I 37) u (sp_c (I 36) v n) (p + 1))) (by rw [va_up_self, up_up, Int.toNat_natCast, rl_s (if_pos (show 0 < u p by omega))]) ?_
        refine mi_iinc dc_De_relate_91 1 rfl (by decide) rfl ?_
        refine mw_goto (tgt := 48) dc_De_relate_94 (by decide) ?_
        refine mw_pick [0, 2, 3, 4] rfl ?_
        exact ih (p + 1) (by omega) (by omega)
def re_I (I : Nat → Nat → Int32) (n : Nat) (u v : Nat → Int) : Nat → Nat → Int32 := va_up (va_up I 36 (sp_c (I 36) v n)) 37 (rl (I 37) u (sp_c (I 36) v n) n)
theorem ev_relate {G : mm_G} {d : Nat} {cs : mm_Sh} {I : Nat → Nat → Int32} {J : Nat → Nat → Int64} {F : Nat → Nat → Option Nat} {V : Nat → Nat → Value} {n a b na nb : Nat} {u v : Nat → Int} (hW : dk_W F V) (hg : V 0 0 = .int (iI n)) (hn : n ≤ 6) (ha : (wd_S ++ cs)[a]? = some (.inl (0, na)) ∧ a ≠ 36 ∧ a ≠ 37) (hb : (wd_S ++ cs)[b]? = some (.inl (0, nb)) ∧ b ≠ 36 ∧ b ≠ 37) (hna : n ≤ na ∧ na < 2147483648) (hnb : n ≤ nb ∧ nb < 2147483648) (hu : ∀ p, p < n → I a p = iI (u p) ∧ u p ≠ 0 ∧ -(n : Int) ≤ u p ∧ u p ≤ n) (hv : ∀ p, p < n → I b p = iI (v p) ∧ v p ≠ 0 ∧ -(n : Int) ≤ v p ∧ v p ≤ n) : mE G mt_De_relate d 0 0 [.ref 0, .ref a, .ref b] (wd_S ++ cs, I, J, F, V) (fun o h1 => o = .inl none ∧ h1 = (wd_S ++ cs, re_I I n u v, J, F, V)) := by
  refine mE_intro (by decide) (fun k h q => nomatch q.1) (Nat.le_of_ble_eq_true rfl) ?_
  show mW G mt_De_relate d 0 0 0 [(0, .ref 0), (1, .ref a), (2, .ref b)] [] (wd_S ++ cs, I, J, F, V) _
  refine mi_const dc_De_relate_0 ?_
  refine mw_istore_n dc_De_relate_1 rfl (by decide) rfl ?_
  refine mw_h (h' := (wd_S ++ cs, va_up I 36 (sp_c (I 36) v 0), J, F, V)) (by rw [show sp_c (I 36) v 0 = I 36 from rfl, up_id]) ?_
  refine lp_rel1 (I := I) hW hg hn ha hb hna hnb hu hv ?_ (n + 1) 0 (by omega) (by omega)
  refine mi_const dc_De_relate_46 ?_
  refine mw_istore_n dc_De_relate_47 rfl (by decide) rfl ?_
  have k := lp_rel2 (G := G) (d := d) (bc := 0) (bs := 0) (cs := cs) (I := I) (J := J) (F := F) (V := V) (X := fun o h1 => o = .inl none ∧ h1 = (wd_S ++ cs, re_I I n u v, J, F, V)) hW hg hn ha hb hna hnb hu hv ⟨rfl, rfl⟩ (n + 1) 0 (by omega) (by omega)
  rw [rl_0, show va_up (va_up I 36 (sp_c (I 36) v n)) 37 (I 37) = va_up I 36 (sp_c (I 36) v n) from up_id (va_up I 36 (sp_c (I 36) v n)) 37] at k
  exact k
theorem ev_undo {G : mm_G} {d : Nat} {cs : mm_Sh} {I : Nat → Nat → Int32} {J : Nat → Nat → Int64} {F : Nat → Nat → Option Nat} {V : Nat → Nat → Value} {k : Nat} {x : Int} {i j : Nat} (hst : G.1.stackTraces = false) (hW : dk_W F V) (hx : iB x) (hk : okS x → V (sp x.toNat) 3 = .int (iI k) ∧ k ≤ 8 ∧ (0 < k → I (sp x.toNat + 2) (k - 1) = iI i ∧ I (sp x.toNat + 3) (k - 1) = iI j ∧ i ≤ j ∧ j < 6)) :
    mT G mt_De_undo (d + 2) 1 6 [.ref 0, .int (iI x)] (wd_S ++ cs, I, J, F, V) (fun o h1 => ((okS x ∧ k = 0) → o = .inl (some (.int (iI 0))) ∧ h1 = (wd_S ++ cs, I, J, F, V)) ∧ ((okS x ∧ 0 < k) → o = .inl (some (.int (iI 1))) ∧ h1 = (wd_S ++ cs, va_up I (sp x.toNat + 1) (tu_f (I (sp x.toNat + 1)) i j), J, F, fu V (sp x.toNat) 3 (.int (iI ((k - 1 : Nat) : Int))))) ∧ (¬ okS x → o = .inr 1 ∧ h1 = (wd_S ++ cs, I, J, F, V))) := by
  refine mT_intro hst (by decide) (Nat.le_of_ble_eq_true rfl) ?_
  show mW G mt_De_undo (d + 2) 1 6 0 [(0, .ref 0), (1, .int (iI x))] [] (wd_S ++ cs, I, J, F, V) _
  refine mw_iload_n dc_De_undo_0 rfl 1 rfl ?_
  refine mc_SP1 (mc := 1) (ms := 6) (bc := 0) (bs := 0) (M2 := mt_De_checkSlot) dc_De_undo_1 ml_De_74 ny_De_checkSlot (by decide) (Nat.le_of_ble_eq_true rfl) (ev_checkSlot hst hx) (fun v h1 hY => ?_) rfl (fun j h1 hY => by obtain ⟨hp, rfl, rfl⟩ := ck_x hY; exact ⟨fun q => absurd q.1 hp, fun q => absurd q.1 hp, fun _ => ⟨rfl, rfl⟩⟩)
  obtain ⟨hp, rfl, rfl⟩ := ck_r hY
  obtain ⟨k1, k2, k3⟩ := hk hp
  refine mw_aload_n dc_De_undo_4 rfl 0 rfl ?_
  refine mi_get (ci := 0) (k := 1) dc_De_undo_5 rfl wi_De rfl rfl (by decide) fl_De_15 hW.1.1 ?_
  refine mw_iload_n dc_De_undo_8 rfl 1 rfl ?_
  refine mi_aald dc_De_undo_9 rfl rfl ⟨by omega, by omega, by decide⟩ (hW.2.1 x.toNat (by omega)).1 ?_
  by_cases hk0 : k = 0
  · subst hk0
    refine mz_V0 (M2 := mt_Sl_turnBack) dc_De_undo_10 ml_De_103 (sl_W x.toNat (by omega)).1 rfl ny_Sl_turnBack (by decide) (Nat.le_of_ble_eq_true rfl) (ev_turnBack0 (sl_W x.toNat (by omega)) k1) (fun v h1 hY => ?_)
    obtain ⟨hv, rfl⟩ := hY
    cases hv
    exact mw_iret dc_De_undo_13 rfl (by decide) ⟨fun _ => ⟨rfl, rfl⟩, fun q => absurd q.2 (by omega), fun q => absurd hp q⟩
  · obtain ⟨k4, k5, k6, k7⟩ := k3 (by omega)
    have e : k = k - 1 + 1 := by omega
    rw [e] at k1
    refine mz_V0 (M2 := mt_Sl_turnBack) dc_De_undo_10 ml_De_103 (sl_W x.toNat (by omega)).1 rfl ny_Sl_turnBack (by decide) (Nat.le_of_ble_eq_true rfl) (ev_turnBack (sl_W x.toNat (by omega)) (hW.2.1 x.toNat (by omega)).2 k1 (by omega) k4 k5 k6 k7) (fun v h1 hY => ?_)
    obtain ⟨hv, rfl⟩ := hY
    cases hv
    exact mw_iret dc_De_undo_13 rfl (by decide) ⟨fun q => absurd q.2 hk0, fun _ => ⟨rfl, rfl⟩, fun q => absurd hp q⟩
theorem ev_step {G : mm_G} {d : Nat} {cs : mm_Sh} {I : Nat → Nat → Int32} {J : Nat → Nat → Int64} {F : Nat → Nat → Option Nat} {V : Nat → Nat → Value} {c y : Int} (hst : G.1.stackTraces = false) (hW : dk_W F V) (hc : V 0 6 = .int (iI c)) (hcb : -1 ≤ c ∧ c ≤ 7) (hy : iB y) :
    mT G mt_De_step d 1 6 [.ref 0, .int (iI y)] (wd_S ++ cs, I, J, F, V) (fun o h1 => h1 = (wd_S ++ cs, I, J, F, V) ∧ (c = -1 → o = .inr 2) ∧ (c ≠ -1 → (0 ≤ y ∧ y < c) → o = .inl (some (.int (I 35 y.toNat)))) ∧ (c ≠ -1 → ¬ (0 ≤ y ∧ y < c) → o = .inr 0)) := by
  refine mT_intro hst (by decide) (Nat.le_of_ble_eq_true rfl) ?_
  show mW G mt_De_step d 1 6 0 [(0, .ref 0), (1, .int (iI y))] [] (wd_S ++ cs, I, J, F, V) _
  refine mw_aload_n dc_De_step_0 rfl 0 rfl ?_
  refine mi_get (ci := 0) (k := 6) dc_De_step_1 rfl wi_De rfl rfl (by decide) fl_De_44 hc ?_
  refine mi_const dc_De_step_4 ?_
  refine mi_icmp_ne (tgt := 18) dc_De_step_5 (by decide) (iB_mk (by omega) (by omega)) (iB_mk (by omega) (by omega)) (fun h05 => ?_) (fun h05 => ?_)
  · refine mw_iload_n dc_De_step_18 rfl 1 rfl ?_
    refine mi_if_lt (tgt := 30) dc_De_step_19 (by decide) hy (fun h119 => ?_) (fun h119 => ?_)
    · exact mw_throw (bc := 0) (bs := 0) th_De_step_30 (Nat.le_of_ble_eq_true rfl) ⟨rfl, fun q => absurd q (by omega), fun _ q => absurd q (by omega), fun _ _ => rfl⟩
    · refine mw_iload_n dc_De_step_22 rfl 1 rfl ?_
      refine mw_aload_n dc_De_step_23 rfl 0 rfl ?_
      refine mi_get (ci := 0) (k := 6) dc_De_step_24 rfl wi_De rfl rfl (by decide) fl_De_44 hc ?_
      refine mi_icmp_lt (tgt := 40) dc_De_step_27 (by decide) hy (iB_mk (by omega) (by omega)) (fun h227 => ?_) (fun h227 => ?_)
      · refine mw_aload_n dc_De_step_40 rfl 0 rfl ?_
        refine mi_get (ci := 0) (k := 5) dc_De_step_41 rfl wi_De rfl rfl (by decide) fl_De_40 hW.1.2.2.2.2.1 ?_
        refine mw_iload_n dc_De_step_44 rfl 1 rfl ?_
        refine mi_iald dc_De_step_45 rfl ⟨by omega, by omega, by decide⟩ rfl ?_
        exact mw_iret dc_De_step_46 rfl rfl ⟨rfl, fun q => absurd q (by omega), fun _ _ => rfl, fun _ q => absurd (show 0 ≤ y ∧ y < c by omega) q⟩
      · exact mw_throw (bc := 0) (bs := 0) th_De_step_30 (Nat.le_of_ble_eq_true rfl) ⟨rfl, fun q => absurd q (by omega), fun _ q => absurd q (by omega), fun _ _ => rfl⟩
  · exact mw_throw (bc := 0) (bs := 0) th_De_step_8 (Nat.le_of_ble_eq_true rfl) ⟨rfl, fun _ => rfl, fun q => absurd (by omega) q, fun q => absurd (by omega) q⟩
