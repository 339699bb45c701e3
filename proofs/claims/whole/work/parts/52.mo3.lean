/-! the reference's relate -/
def mq (x v : Int) (q : Nat) : Int := if x = v then (q : Int) + 1 else -(q : Int) - 1
def mr_r (g : Nat → Int32) (p : Nat) (x : Int) (v : Nat → Int) : Nat → Nat → Int32
  | 0 => g
  | q + 1 => if x = v q ∨ x = -(v q) then upd (mr_r g p x v q) p (iI (mq x (v q) q)) else mr_r g p x v q
def mr_o (g : Nat → Int32) (u v : Nat → Int) (n : Nat) : Nat → Nat → Int32
  | 0 => g
  | p + 1 => mr_r (mr_o g u v n p) p (u p) v n
theorem lp_mre1 {G : mm_G} {d bc bs : Nat} {cs : mm_Sh} {I : Nat → Nat → Int32} {J : Nat → Nat → Int64} {F : Nat → Nat → Option Nat} {V : Nat → Nat → Value} {X : mm_X} {n a b s1 s2 na nb : Nat} {u v : Nat → Int} (hM : mo_V V) (hg : V 39 1 = .int (iI n)) (hn : n ≤ 6) (ha : (wd_S ++ cs)[a]? = some (.inl (0, na)) ∧ a ≠ 49) (hb : (wd_S ++ cs)[b]? = some (.inl (0, nb)) ∧ b ≠ 49) (hna : s1 + n ≤ na ∧ na < 1000000) (hnb : s2 + n ≤ nb ∧ nb < 1000000) (hu : ∀ p, p < n → I a (s1 + p) = iI (u p) ∧ -100 ≤ u p ∧ u p ≤ 100) (hv : ∀ p, p < n → I b (s2 + p) = iI (v p) ∧ -100 ≤ v p ∧ v p ≤ 100) {p : Nat} {g : Nat → Int32} (hp : p < n) (hx : mW G mt_Mo_relate d bc bs 88 [(5, .int (iI p)), (0, .ref 39), (1, .ref a), (2, .int (iI (s1 : Nat))), (3, .ref b), (4, .int (iI (s2 : Nat)))] [] (wd_S ++ cs, va_up I 49 (mr_r g p (u p) v n), J, F, V) X) :
    ∀ (m q : Nat), n - q < m → q ≤ n → mW G mt_Mo_relate d bc bs 23 [(7, .int (iI q)), (6, .int (iI (u p))), (5, .int (iI p)), (0, .ref 39), (1, .ref a), (2, .int (iI (s1 : Nat))), (3, .ref b), (4, .int (iI (s2 : Nat)))] [] (wd_S ++ cs, va_up I 49 (mr_r g p (u p) v q), J, F, V) X := by
  intro m
  induction m with
  | zero => intro q h1 _; exact absurd h1 (Nat.not_lt_zero _)
  | succ m ih =>
    intro q h1 h2
    obtain ⟨u1, u2, u3⟩ := hu p hp
    refine mw_iload dc_Mo_relate_23 0 rfl ?_
    refine mw_aload_n dc_Mo_relate_25 rfl 3 rfl ?_
    refine mi_get (ci := 5) (k := 1) dc_Mo_relate_26 rfl wi_Mo rfl rfl (by decide) fl_Mo_7 hg ?_
    refine mi_icmp_ge (tgt := 88) dc_Mo_relate_29 (by decide) (iB_mk (by omega) (by omega)) (iB_mk (by omega) (by omega)) (fun hh => ?_) (fun hh => ?_)
    · have e : q = n := by omega
      subst e
      refine mw_pick [2, 3, 4, 5, 6, 7] rfl ?_
      exact hx
    · have hq : q < n := by omega
      obtain ⟨q1, q2, q3⟩ := hv q hq
      refine mw_aload_n dc_Mo_relate_32 rfl 6 rfl ?_
      refine mw_iload dc_Mo_relate_33 7 rfl ?_
      refine mw_iload dc_Mo_relate_35 0 rfl ?_
      refine mi_iadd dc_Mo_relate_37 ?_
      refine mi_iald dc_Mo_relate_38 hb.1 ⟨by omega, by omega, by omega⟩ (v := iI (v q)) (by rw [show ((s2 : Int) + q).toNat = s2 + q by omega, va_up_ne _ _ hb.2]; exact q1) ?_
      refine mw_istore dc_Mo_relate_39 (by decide) rfl ?_
      refine mw_iload dc_Mo_relate_41 2 rfl ?_
      refine mw_iload dc_Mo_relate_43 0 rfl ?_
      refine mi_icmp_eq (tgt := 56) dc_Mo_relate_45 (by decide) (iB_mk (by omega) (by omega)) (iB_mk (by omega) (by omega)) (fun h045 => ?_) (fun h045 => ?_)
      · refine mw_aload_n dc_Mo_relate_56 rfl 4 rfl ?_
        refine mi_get (ci := 5) (k := 16) dc_Mo_relate_57 rfl wi_Mo rfl rfl (by decide) fl_Mo_45 hM.2.2.2.2.2.2.2.2.2.1 ?_
        refine mw_iload dc_Mo_relate_60 3 rfl ?_
        refine mw_iload dc_Mo_relate_62 2 rfl ?_
        refine mw_iload dc_Mo_relate_64 0 rfl ?_
        refine mi_icmp_ne (tgt := 76) dc_Mo_relate_66 (by decide) (iB_mk (by omega) (by omega)) (iB_mk (by omega) (by omega)) (fun h166 => ?_) (fun h166 => ?_)
        · refine mw_iload dc_Mo_relate_76 1 rfl ?_
          refine mi_ineg dc_Mo_relate_78 ?_
          refine mi_const dc_Mo_relate_79 ?_
          refine mi_isub dc_Mo_relate_80 ?_
          refine mi_iast dc_Mo_relate_81 rfl ⟨by omega, by omega, by decide⟩ (I' := va_up I 49 (mr_r g p (u p) v (q + 1))) (by rw [va_up_self, up_up, Int.toNat_natCast, ← (show mq (u p) (v q) q = -(q : Int) - 1 from if_neg (by omega))]; exact congrArg (va_up I 49) (show _ = mr_r g p (u p) v (q + 1) from (if_pos (show u p = v q ∨ u p = -(v q) by omega)).symm)) ?_
          refine mi_iinc dc_Mo_relate_82 1 rfl (by decide) rfl ?_
          refine mw_goto (tgt := 23) dc_Mo_relate_85 (by decide) ?_
          refine mw_pick [0, 2, 3, 4, 5, 6, 7, 8] rfl ?_
          exact ih (q + 1) (by omega) (by omega)
        · refine mw_iload dc_Mo_relate_69 1 rfl ?_
          refine mi_const dc_Mo_relate_71 ?_
          refine mi_iadd dc_Mo_relate_72 ?_
          refine mw_goto (tgt := 81) dc_Mo_relate_73 (by decide) ?_
          refine mi_iast dc_Mo_relate_81 rfl ⟨by omega, by omega, by decide⟩ (I' := va_up I 49 (mr_r g p (u p) v (q + 1))) (by rw [va_up_self, up_up, Int.toNat_natCast, ← (show mq (u p) (v q) q = (q : Int) + 1 from if_pos (by omega))]; exact congrArg (va_up I 49) (show _ = mr_r g p (u p) v (q + 1) from (if_pos (show u p = v q ∨ u p = -(v q) by omega)).symm)) ?_
          refine mi_iinc dc_Mo_relate_82 1 rfl (by decide) rfl ?_
          refine mw_goto (tgt := 23) dc_Mo_relate_85 (by decide) ?_
          refine mw_pick [0, 2, 3, 4, 5, 6, 7, 8] rfl ?_
          exact ih (q + 1) (by omega) (by omega)
      · refine mw_iload dc_Mo_relate_48 2 rfl ?_
        refine mw_iload dc_Mo_relate_50 0 rfl ?_
        refine mi_ineg dc_Mo_relate_52 ?_
        refine mi_icmp_ne (tgt := 82) dc_Mo_relate_53 (by decide) (iB_mk (by omega) (by omega)) (iB_mk (by omega) (by omega)) (fun h153 => ?_) (fun h153 => ?_)
        · refine mi_iinc dc_Mo_relate_82 1 rfl (by decide) rfl ?_
          refine mw_goto (tgt := 23) dc_Mo_relate_85 (by decide) ?_
          refine mw_pick [0, 2, 3, 4, 5, 6, 7, 8] rfl ?_
          have k2 := ih (q + 1) (by omega) (by omega)
          rw [show mr_r g p (u p) v (q + 1) = mr_r g p (u p) v q from if_neg (by omega)] at k2
          exact k2
        · refine mw_aload_n dc_Mo_relate_56 rfl 4 rfl ?_
          refine mi_get (ci := 5) (k := 16) dc_Mo_relate_57 rfl wi_Mo rfl rfl (by decide) fl_Mo_45 hM.2.2.2.2.2.2.2.2.2.1 ?_
          refine mw_iload dc_Mo_relate_60 3 rfl ?_
          refine mw_iload dc_Mo_relate_62 2 rfl ?_
          refine mw_iload dc_Mo_relate_64 0 rfl ?_
          refine mi_icmp_ne (tgt := 76) dc_Mo_relate_66 (by decide) (iB_mk (by omega) (by omega)) (iB_mk (by omega) (by omega)) (fun h266 => ?_) (fun h266 => ?_)
          · refine mw_iload dc_Mo_relate_76 1 rfl ?_
            refine mi_ineg dc_Mo_relate_78 ?_
            refine mi_const dc_Mo_relate_79 ?_
            refine mi_isub dc_Mo_relate_80 ?_
            refine mi_iast dc_Mo_relate_81 rfl ⟨by omega, by omega, by decide⟩ (I' := va_up I 49 (mr_r g p (u p) v (q + 1))) (by rw [va_up_self, up_up, Int.toNat_natCast, ← (show mq (u p) (v q) q = -(q : Int) - 1 from if_neg (by omega))]; exact congrArg (va_up I 49) (show _ = mr_r g p (u p) v (q + 1) from (if_pos (show u p = v q ∨ u p = -(v q) by omega)).symm)) ?_
            refine mi_iinc dc_Mo_relate_82 1 rfl (by decide) rfl ?_
            refine mw_goto (tgt := 23) dc_Mo_relate_85 (by decide) ?_
            refine mw_pick [0, 2, 3, 4, 5, 6, 7, 8] rfl ?_
            exact ih (q + 1) (by omega) (by omega)
          · refine mw_iload dc_Mo_relate_69 1 rfl ?_
            refine mi_const dc_Mo_relate_71 ?_
            refine mi_iadd dc_Mo_relate_72 ?_
            refine mw_goto (tgt := 81) dc_Mo_relate_73 (by decide) ?_
            refine mi_iast dc_Mo_relate_81 rfl ⟨by omega, by omega, by decide⟩ (I' := va_up I 49 (mr_r g p (u p) v (q + 1))) (by rw [va_up_self, up_up, Int.toNat_natCast, ← (show mq (u p) (v q) q = (q : Int) + 1 from if_pos (by omega))]; exact congrArg (va_up I 49) (show _ = mr_r g p (u p) v (q + 1) from (if_pos (show u p = v q ∨ u p = -(v q) by omega)).symm)) ?_
            refine mi_iinc dc_Mo_relate_82 1 rfl (by decide) rfl ?_
            refine mw_goto (tgt := 23) dc_Mo_relate_85 (by decide) ?_
            refine mw_pick [0, 2, 3, 4, 5, 6, 7, 8] rfl ?_
            exact ih (q + 1) (by omega) (by omega)
theorem lp_mre2 {G : mm_G} {d bc bs : Nat} {cs : mm_Sh} {I : Nat → Nat → Int32} {J : Nat → Nat → Int64} {F : Nat → Nat → Option Nat} {V : Nat → Nat → Value} {X : mm_X} {n a b s1 s2 na nb : Nat} {u v : Nat → Int} (hM : mo_V V) (hg : V 39 1 = .int (iI n)) (hn : n ≤ 6) (ha : (wd_S ++ cs)[a]? = some (.inl (0, na)) ∧ a ≠ 49) (hb : (wd_S ++ cs)[b]? = some (.inl (0, nb)) ∧ b ≠ 49) (hna : s1 + n ≤ na ∧ na < 1000000) (hnb : s2 + n ≤ nb ∧ nb < 1000000) (hu : ∀ p, p < n → I a (s1 + p) = iI (u p) ∧ -100 ≤ u p ∧ u p ≤ 100) (hv : ∀ p, p < n → I b (s2 + p) = iI (v p) ∧ -100 ≤ v p ∧ v p ≤ 100) (hx : X (.inl none) (wd_S ++ cs, va_up I 49 (mr_o (I 49) u v n n), J, F, V)) :
    ∀ (m p : Nat), n - p < m → p ≤ n → mW G mt_Mo_relate d bc bs 3 [(5, .int (iI p)), (0, .ref 39), (1, .ref a), (2, .int (iI (s1 : Nat))), (3, .ref b), (4, .int (iI (s2 : Nat)))] [] (wd_S ++ cs, va_up I 49 (mr_o (I 49) u v n p), J, F, V) X := by
  intro m
  induction m with
  | zero => intro p h1 _; exact absurd h1 (Nat.not_lt_zero _)
  | succ m ih =>
    intro p h1 h2
    refine mw_iload dc_Mo_relate_3 0 rfl ?_
    refine mw_aload_n dc_Mo_relate_5 rfl 1 rfl ?_
    refine mi_get (ci := 5) (k := 1) dc_Mo_relate_6 rfl wi_Mo rfl rfl (by decide) fl_Mo_7 hg ?_
    refine mi_icmp_ge (tgt := 94) dc_Mo_relate_9 (by decide) (iB_mk (by omega) (by omega)) (iB_mk (by omega) (by omega)) (fun hh => ?_) (fun hh => ?_)
    · have e : p = n := by omega
      subst e
      exact mw_vret dc_Mo_relate_94 rfl hx
    · have hp : p < n := by omega
      obtain ⟨u1, u2, u3⟩ := hu p hp
      refine mw_aload_n dc_Mo_relate_12 rfl 2 rfl ?_
      refine mw_iload_n dc_Mo_relate_13 rfl 3 rfl ?_
      refine mw_iload dc_Mo_relate_14 0 rfl ?_
      refine mi_iadd dc_Mo_relate_16 ?_
      refine mi_iald dc_Mo_relate_17 ha.1 ⟨by omega, by omega, by omega⟩ (v := iI (u p)) (by rw [show ((s1 : Int) + p).toNat = s1 + p by omega, va_up_ne _ _ ha.2]; exact u1) ?_
      refine mw_istore dc_Mo_relate_18 (by decide) rfl ?_
      refine mi_const dc_Mo_relate_20 ?_
      refine mw_istore dc_Mo_relate_21 (by decide) rfl ?_
      refine mw_pick [0, 1, 2, 3, 4, 5, 6, 7] rfl ?_
      refine lp_mre1 (I := I) hM hg hn ha hb hna hnb hu hv hp ?_ (n + 1) 0 (by omega) (by omega)
      refine mi_iinc dc_Mo_relate_88 0 rfl (by decide) rfl ?_
      refine mw_goto (tgt := 3) dc_Mo_relate_91 (by decide) ?_
      refine mw_pick [0, 1, 2, 3, 4, 5] rfl ?_
      exact ih (p + 1) (by omega) (by omega)
theorem ev_morelate {G : mm_G} {d : Nat} {cs : mm_Sh} {I : Nat → Nat → Int32} {J : Nat → Nat → Int64} {F : Nat → Nat → Option Nat} {V : Nat → Nat → Value} {n a b s1 s2 na nb : Nat} {u v : Nat → Int} (hM : mo_V V) (hg : V 39 1 = .int (iI n)) (hn : n ≤ 6) (ha : (wd_S ++ cs)[a]? = some (.inl (0, na)) ∧ a ≠ 49) (hb : (wd_S ++ cs)[b]? = some (.inl (0, nb)) ∧ b ≠ 49) (hna : s1 + n ≤ na ∧ na < 1000000) (hnb : s2 + n ≤ nb ∧ nb < 1000000) (hu : ∀ p, p < n → I a (s1 + p) = iI (u p) ∧ -100 ≤ u p ∧ u p ≤ 100) (hv : ∀ p, p < n → I b (s2 + p) = iI (v p) ∧ -100 ≤ v p ∧ v p ≤ 100) : mE G mt_Mo_relate d 0 0 [.ref 39, .ref a, .int (iI (s1 : Nat)), .ref b, .int (iI (s2 : Nat))] (wd_S ++ cs, I, J, F, V) (fun o h1 => o = .inl none ∧ h1 = (wd_S ++ cs, va_up I 49 (mr_o (I 49) u v n n), J, F, V)) := by
  refine mE_intro (by decide) (fun k h q => nomatch q.1) (Nat.le_of_ble_eq_true rfl) ?_
  show mW G mt_Mo_relate d 0 0 0 [(0, .ref 39), (1, .ref a), (2, .int (iI (s1 : Nat))), (3, .ref b), (4, .int (iI (s2 : Nat)))] [] (wd_S ++ cs, I, J, F, V) _
  refine mi_const dc_Mo_relate_0 ?_
  refine mw_istore dc_Mo_relate_1 (by decide) rfl ?_
  refine mw_h (h' := (wd_S ++ cs, va_up I 49 (mr_o (I 49) u v n 0), J, F, V)) (by rw [show mr_o (I 49) u v n 0 = I 49 from rfl, up_id]) ?_
  exact lp_mre2 hM hg hn ha hb hna hnb hu hv ⟨rfl, rfl⟩ (n + 1) 0 (by omega) (by omega)
