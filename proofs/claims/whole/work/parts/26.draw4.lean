/-! joinParts: lines that cross are of one part; a part bears its least line's number -/
def jp_s (lo hi : Nat → Nat) (k m : Nat) (p : Nat → Nat) : Nat → Nat := if ¬ p k = p m ∧ ¬ ((lo k < lo m ∧ lo m < hi k) ↔ (lo k < hi m ∧ hi m < hi k)) then un p (p k) (p m) else p
def jp_i (lo hi : Nat → Nat) (k : Nat) : Nat → (Nat → Nat) → Nat → Nat
  | 0, p => p
  | t + 1, p => jp_s lo hi k (k + 1 + t) (jp_i lo hi k t p)
def jp_o (lo hi : Nat → Nat) (n : Nat) : Nat → Nat → Nat
  | 0 => fun j => j
  | k + 1 => jp_i lo hi k (n - k) (jp_o lo hi n k)
theorem un_le {p : Nat → Nat} {a b n j : Nat} (h : p j ≤ n) (ha : a ≤ n) (hb : b ≤ n) : un p a b j ≤ n := by
  unfold un
  split <;> omega
theorem jp_sle {lo hi : Nat → Nat} {k m n : Nat} {p : Nat → Nat} (h : ∀ j, j ≤ n → p j ≤ n) (hk : k ≤ n) (hm : m ≤ n) : ∀ j, j ≤ n → jp_s lo hi k m p j ≤ n := fun j hj => by
  unfold jp_s
  split
  · exact un_le (h j hj) (h k hk) (h m hm)
  · exact h j hj
theorem jp_ile {lo hi : Nat → Nat} {k n : Nat} {p : Nat → Nat} (h : ∀ j, j ≤ n → p j ≤ n) (hk : k ≤ n) : ∀ t, k + t ≤ n → ∀ j, j ≤ n → jp_i lo hi k t p j ≤ n := fun t => by
  induction t with
  | zero => intro _; exact h
  | succ t ih => intro ht; exact jp_sle (ih (by omega)) hk (by omega)
theorem jp_ole {lo hi : Nat → Nat} {n : Nat} : ∀ k, k ≤ n + 1 → ∀ j, j ≤ n → jp_o lo hi n k j ≤ n := fun k => by
  induction k with
  | zero => intro _ j hj; exact hj
  | succ k ih => intro hk; exact jp_ile (ih (by omega)) (by omega) (n - k) (by omega)
theorem lp_join1 {G : mm_G} {d bc bs : Nat} {cs : mm_Sh} {I : Nat → Nat → Int32} {J : Nat → Nat → Int64} {F : Nat → Nat → Option Nat} {V : Nat → Nat → Value} {X : mm_X} {n : Nat} (hV : dr_V V) (hn : n ≤ 6) (hL : V 24 2 = .int (iI ((n + 1 : Nat) : Int))) (hx : mW G mt_Dr_joinParts d bc bs 23 [(1, .int (iI ((n + 1 : Nat) : Int))), (0, .ref 24)] [] (wd_S ++ cs, va_up I 31 (nn (I 31) (n + 1) (fun j => j)), J, F, V) X) :
    ∀ (m k : Nat), n + 1 - k < m → k ≤ n + 1 → mW G mt_Dr_joinParts d bc bs 2 [(1, .int (iI k)), (0, .ref 24)] [] (wd_S ++ cs, va_up I 31 (nn (I 31) k (fun j => j)), J, F, V) X := by
  intro m
  induction m with
  | zero => intro k h1 _; exact absurd h1 (Nat.not_lt_zero _)
  | succ m ih =>
    intro k h1 h2
    refine mw_iload_n dc_Dr_joinParts_2 rfl 0 rfl ?_
    refine mw_aload_n dc_Dr_joinParts_3 rfl 1 rfl ?_
    refine mi_get (ci := 3) (k := 2) dc_Dr_joinParts_4 rfl wi_Dr rfl rfl (by decide) fl_Dr_40 hL ?_
    refine mi_icmp_ge (tgt := 23) dc_Dr_joinParts_7 (by decide) (iB_mk (by omega) (by omega)) (iB_mk (by omega) (by omega)) (fun hh => ?_) (fun hh => ?_)
    · have e : k = n + 1 := by omega
      subst e
      exact hx
    · have hk : k ≤ n := by omega
      refine mw_aload_n dc_Dr_joinParts_10 rfl 1 rfl ?_
      refine mi_get (ci := 3) (k := 8) dc_Dr_joinParts_11 rfl wi_Dr rfl rfl (by decide) fl_Dr_31 hV.2.2.2.2.2.2.1 ?_
      refine mw_iload_n dc_Dr_joinParts_14 rfl 0 rfl ?_
      refine mw_iload_n dc_Dr_joinParts_15 rfl 0 rfl ?_
      refine mi_iast dc_Dr_joinParts_16 rfl ⟨by omega, by omega, by decide⟩ (I' := va_up I 31 (nn (I 31) (k + 1) (fun j => j))) (by rw [va_up_self, up_up, Int.toNat_natCast]; exact congrArg (va_up I 31) (nn_s (I 31) k (fun j => j))) ?_
      refine mi_iinc dc_Dr_joinParts_17 0 rfl (by decide) rfl ?_
      refine mw_goto (tgt := 2) dc_Dr_joinParts_20 (by decide) ?_
      refine mw_pick [0, 1] rfl ?_
      exact ih (k + 1) (by omega) (by omega)
theorem lp_join3 {G : mm_G} {d bc bs : Nat} {cs : mm_Sh} {I : Nat → Nat → Int32} {J : Nat → Nat → Int64} {F : Nat → Nat → Option Nat} {V : Nat → Nat → Value} {X : mm_X} {n k : Nat} {g : Nat → Int32} {p lo hi : Nat → Nat} (hV : dr_V V) (hq : dr_lh I n lo hi) (hn : n ≤ 6) (hk : k ≤ n) (hp : ∀ j, j ≤ n → p j ≤ n) (hL : V 24 2 = .int (iI ((n + 1 : Nat) : Int))) (hx : mW G mt_Dr_joinParts (d + 2) bc bs 91 [(1, .int (iI k)), (0, .ref 24)] [] (wd_S ++ cs, va_up I 31 (nn g (n + 1) (jp_i lo hi k (n - k) p)), J, F, V) X) :
    ∀ (m t : Nat), n + 1 - k - t < m → t ≤ n - k → mW G mt_Dr_joinParts (d + 2) bc bs 37 [(2, .int (iI ((k + 1 + t : Nat) : Int))), (1, .int (iI k)), (0, .ref 24)] [] (wd_S ++ cs, va_up I 31 (nn g (n + 1) (jp_i lo hi k t p)), J, F, V) X := by
  intro m
  induction m with
  | zero => intro t h1 _; exact absurd h1 (Nat.not_lt_zero _)
  | succ m ih =>
    intro t h1 h2
    have hq2 : dr_lh (va_up I 31 (nn g (n + 1) (jp_i lo hi k t p))) n lo hi := hq
    have hpt := jp_ile (lo := lo) (hi := hi) hp hk t (by omega)
    refine mw_iload_n dc_Dr_joinParts_37 rfl 0 rfl ?_
    refine mw_aload_n dc_Dr_joinParts_38 rfl 2 rfl ?_
    refine mi_get (ci := 3) (k := 2) dc_Dr_joinParts_39 rfl wi_Dr rfl rfl (by decide) fl_Dr_40 hL ?_
    refine mi_icmp_ge (tgt := 91) dc_Dr_joinParts_42 (by decide) (iB_mk (by omega) (by omega)) (iB_mk (by omega) (by omega)) (fun hh => ?_) (fun hh => ?_)
    · have e : t = n - k := by omega
      subst e
      refine mw_pick [1, 2] rfl ?_
      exact hx
    · have hm : k + 1 + t ≤ n := by omega
      have b1 := hpt k hk
      have b2 := hpt (k + 1 + t) hm
      refine mw_aload_n dc_Dr_joinParts_45 rfl 2 rfl ?_
      refine mi_get (ci := 3) (k := 8) dc_Dr_joinParts_46 rfl wi_Dr rfl rfl (by decide) fl_Dr_31 hV.2.2.2.2.2.2.1 ?_
      refine mw_iload_n dc_Dr_joinParts_49 rfl 1 rfl ?_
      refine mi_iald dc_Dr_joinParts_50 rfl ⟨by omega, by omega, by decide⟩ (v := iI (jp_i lo hi k t p k)) (by rw [Int.toNat_natCast, va_up_self, nn_a (by omega)]) ?_
      refine mw_aload_n dc_Dr_joinParts_51 rfl 2 rfl ?_
      refine mi_get (ci := 3) (k := 8) dc_Dr_joinParts_52 rfl wi_Dr rfl rfl (by decide) fl_Dr_31 hV.2.2.2.2.2.2.1 ?_
      refine mw_iload_n dc_Dr_joinParts_55 rfl 0 rfl ?_
      refine mi_iald dc_Dr_joinParts_56 rfl ⟨by omega, by omega, by decide⟩ (v := iI (jp_i lo hi k t p (k + 1 + t))) (by rw [Int.toNat_natCast, va_up_self, nn_a (by omega)]) ?_
      refine mi_icmp_eq (tgt := 85) dc_Dr_joinParts_57 (by decide) (iB_mk (by omega) (by omega)) (iB_mk (by omega) (by omega)) (fun h057 => ?_) (fun h057 => ?_)
      · refine mi_iinc dc_Dr_joinParts_85 0 rfl (by decide) rfl ?_
        refine mw_goto (tgt := 37) dc_Dr_joinParts_88 (by decide) ?_
        refine mw_pick [0, 1, 2] rfl ?_
        have e : jp_i lo hi k (t + 1) p = jp_i lo hi k t p := if_neg (fun q => q.1 (by omega))
        have k2 := ih (t + 1) (by omega) (by omega)
        rw [e] at k2
        exact k2
      · refine mw_aload_n dc_Dr_joinParts_60 rfl 2 rfl ?_
        refine mw_iload_n dc_Dr_joinParts_61 rfl 1 rfl ?_
        refine mw_iload_n dc_Dr_joinParts_62 rfl 0 rfl ?_
        refine mz_V2 (M2 := mt_Dr_isCrossing) dc_Dr_joinParts_63 ml_Dr_66 rfl rfl ny_Dr_isCrossing (by decide) (Nat.le_of_ble_eq_true rfl) (ev_isCrossing hV hq2 hk hm hn) (fun v h1 hY => ?_)
        obtain ⟨hv, rfl⟩ := hY
        cases hv
        refine mw_if_eq (tgt := 85) dc_Dr_joinParts_66 (by decide) (fun h166 => ?_) (fun h166 => ?_)
        · refine mi_iinc dc_Dr_joinParts_85 0 rfl (by decide) rfl ?_
          refine mw_goto (tgt := 37) dc_Dr_joinParts_88 (by decide) ?_
          refine mw_pick [0, 1, 2] rfl ?_
          have e : jp_i lo hi k (t + 1) p = jp_i lo hi k t p := if_neg (fun q => bo_0.mp h166 q.2)
          have k2 := ih (t + 1) (by omega) (by omega)
          rw [e] at k2
          exact k2
        · refine mw_aload_n dc_Dr_joinParts_69 rfl 2 rfl ?_
          refine mw_aload_n dc_Dr_joinParts_70 rfl 2 rfl ?_
          refine mi_get (ci := 3) (k := 8) dc_Dr_joinParts_71 rfl wi_Dr rfl rfl (by decide) fl_Dr_31 hV.2.2.2.2.2.2.1 ?_
          refine mw_iload_n dc_Dr_joinParts_74 rfl 1 rfl ?_
          refine mi_iald dc_Dr_joinParts_75 rfl ⟨by omega, by omega, by decide⟩ (v := iI (jp_i lo hi k t p k)) (by rw [Int.toNat_natCast, va_up_self, nn_a (by omega)]) ?_
          refine mw_aload_n dc_Dr_joinParts_76 rfl 2 rfl ?_
          refine mi_get (ci := 3) (k := 8) dc_Dr_joinParts_77 rfl wi_Dr rfl rfl (by decide) fl_Dr_31 hV.2.2.2.2.2.2.1 ?_
          refine mw_iload_n dc_Dr_joinParts_80 rfl 0 rfl ?_
          refine mi_iald dc_Dr_joinParts_81 rfl ⟨by omega, by omega, by decide⟩ (v := iI (jp_i lo hi k t p (k + 1 + t))) (by rw [Int.toNat_natCast, va_up_self, nn_a (by omega)]) ?_
          refine mz_V2 (M2 := mt_Dr_unite) dc_Dr_joinParts_82 ml_Dr_70 rfl rfl ny_Dr_unite (by decide) (Nat.le_of_ble_eq_true rfl) (ev_unite hV hn b1 b2 hpt hL) (fun v h1 hY => ?_)
          obtain ⟨hv, rfl⟩ := hY
          cases hv
          refine mi_iinc dc_Dr_joinParts_85 0 rfl (by decide) rfl ?_
          refine mw_goto (tgt := 37) dc_Dr_joinParts_88 (by decide) ?_
          refine mw_pick [0, 1, 2] rfl ?_
          have e : jp_i lo hi k (t + 1) p = un (jp_i lo hi k t p) (jp_i lo hi k t p k) (jp_i lo hi k t p (k + 1 + t)) := if_pos ⟨fun q => h057 (by omega), Decidable.not_not.mp (fun q => h166 (bo_0.mpr q))⟩
          have k2 := ih (t + 1) (by omega) (by omega)
          rw [e] at k2
          exact k2
theorem lp_join2 {G : mm_G} {d bc bs : Nat} {cs : mm_Sh} {I : Nat → Nat → Int32} {J : Nat → Nat → Int64} {F : Nat → Nat → Option Nat} {V : Nat → Nat → Value} {X : mm_X} {n : Nat} {g : Nat → Int32} {lo hi : Nat → Nat} (hV : dr_V V) (hq : dr_lh I n lo hi) (hn : n ≤ 6) (hL : V 24 2 = .int (iI ((n + 1 : Nat) : Int))) (hx : X (.inl none) (wd_S ++ cs, va_up I 31 (nn g (n + 1) (jp_o lo hi n (n + 1))), J, F, V)) :
    ∀ (m k : Nat), n + 1 - k < m → k ≤ n + 1 → mW G mt_Dr_joinParts (d + 2) bc bs 25 [(1, .int (iI k)), (0, .ref 24)] [] (wd_S ++ cs, va_up I 31 (nn g (n + 1) (jp_o lo hi n k)), J, F, V) X := by
  intro m
  induction m with
  | zero => intro k h1 _; exact absurd h1 (Nat.not_lt_zero _)
  | succ m ih =>
    intro k h1 h2
    have hpo := jp_ole (lo := lo) (hi := hi) (n := n) k h2
    refine mw_iload_n dc_Dr_joinParts_25 rfl 0 rfl ?_
    refine mw_aload_n dc_Dr_joinParts_26 rfl 1 rfl ?_
    refine mi_get (ci := 3) (k := 2) dc_Dr_joinParts_27 rfl wi_Dr rfl rfl (by decide) fl_Dr_40 hL ?_
    refine mi_icmp_ge (tgt := 97) dc_Dr_joinParts_30 (by decide) (iB_mk (by omega) (by omega)) (iB_mk (by omega) (by omega)) (fun hh => ?_) (fun hh => ?_)
    · have e : k = n + 1 := by omega
      subst e
      exact mw_vret dc_Dr_joinParts_97 rfl hx
    · have hk : k ≤ n := by omega
      refine mw_iload_n dc_Dr_joinParts_33 rfl 0 rfl ?_
      refine mi_const dc_Dr_joinParts_34 ?_
      refine mi_iadd dc_Dr_joinParts_35 ?_
      refine mw_istore_n dc_Dr_joinParts_36 rfl (by decide) rfl ?_
      refine mw_pick [0, 1, 2] rfl ?_
      refine lp_join3 (I := I) (g := g) hV hq hn hk hpo hL ?_ (n + 2) 0 (by omega) (by omega)
      refine mi_iinc dc_Dr_joinParts_91 0 rfl (by decide) rfl ?_
      refine mw_goto (tgt := 25) dc_Dr_joinParts_94 (by decide) ?_
      refine mw_pick [0, 1] rfl ?_
      exact ih (k + 1) (by omega) (by omega)
theorem ev_joinParts {G : mm_G} {d : Nat} {cs : mm_Sh} {I : Nat → Nat → Int32} {J : Nat → Nat → Int64} {F : Nat → Nat → Option Nat} {V : Nat → Nat → Value} {n : Nat} {lo hi : Nat → Nat} (hV : dr_V V) (hq : dr_lh I n lo hi) (hn : n ≤ 6) (hL : V 24 2 = .int (iI ((n + 1 : Nat) : Int))) : mE G mt_Dr_joinParts (d + 2) 0 0 [.ref 24] (wd_S ++ cs, I, J, F, V) (fun o h1 => o = .inl none ∧ h1 = (wd_S ++ cs, va_up I 31 (nn (I 31) (n + 1) (jp_o lo hi n (n + 1))), J, F, V)) := by
  refine mE_intro (by decide) (fun k h q => nomatch q.1) (Nat.le_of_ble_eq_true rfl) ?_
  show mW G mt_Dr_joinParts (d + 2) 0 0 0 [(0, .ref 24)] [] (wd_S ++ cs, I, J, F, V) _
  refine mi_const dc_Dr_joinParts_0 ?_
  refine mw_istore_n dc_Dr_joinParts_1 rfl (by decide) rfl ?_
  have k := lp_join1 (G := G) (d := d + 2) (bc := 0) (bs := 0) (cs := cs) (I := I) (J := J) (F := F) (X := fun o h1 => o = .inl none ∧ h1 = (wd_S ++ cs, va_up I 31 (nn (I 31) (n + 1) (jp_o lo hi n (n + 1))), J, F, V)) hV hn hL ?_ (n + 2) 0 (by omega) (by omega)
  · rw [nn_0, up_id] at k
    exact k
  · refine mi_const dc_Dr_joinParts_23 ?_
    refine mw_istore_n dc_Dr_joinParts_24 rfl (by decide) rfl ?_
    exact lp_join2 (I := I) hV hq hn hL ⟨rfl, rfl⟩ (n + 2) 0 (by omega) (by omega)
/-! markBadParts: parts with no oriented line, but for a short line alone -/
def mb_0 (pa lo hi : Nat → Nat) : Nat → Bool := fun k => decide (pa k = k ∧ ¬ (hi k = lo k + 1 ∧ lo k % 2 = 0))
def mb_s (pa lo hi : Nat → Nat) : Nat → Nat → Bool
  | 0 => mb_0 pa lo hi
  | k + 1 => if (lo k + hi k) % 2 = 0 then va_up (mb_s pa lo hi k) (pa k) false else mb_s pa lo hi k
theorem nb_st {g : Nat → Int32} {k : Nat} {p : Nat → Bool} (h : p k = true) : upd (nb g k p) k (iI 1) = nb g (k + 1) p := by
  rw [← nb_s, bo_t h]
theorem nb_sf {g : Nat → Int32} {k : Nat} {p : Nat → Bool} (h : p k = false) : upd (nb g k p) k (iI 0) = nb g (k + 1) p := by
  rw [← nb_s, bo_f (by rw [h]; decide)]
theorem nb_uf {g : Nat → Int32} {n k : Nat} {p : Nat → Bool} (h : k < n) : upd (nb g n p) k (iI 0) = nb g n (va_up p k false) := by
  rw [← nb_u false h, bo_f (by decide)]
theorem nb_ut {g : Nat → Int32} {n k : Nat} {p : Nat → Bool} (h : k < n) : upd (nb g n p) k (iI 1) = nb g n (va_up p k true) := by
  rw [← nb_u true h, bo_t (by decide)]
theorem lp_mark1 {G : mm_G} {d bc bs : Nat} {cs : mm_Sh} {I : Nat → Nat → Int32} {J : Nat → Nat → Int64} {F : Nat → Nat → Option Nat} {V : Nat → Nat → Value} {X : mm_X} {n : Nat} {pa lo hi : Nat → Nat} (hV : dr_V V) (hq : dr_lh I n lo hi) (hp : dr_p I n pa) (hn : n ≤ 6) (hL : V 24 2 = .int (iI ((n + 1 : Nat) : Int))) (hx : mW G mt_Dr_markBadParts (d + 1) bc bs 45 [(1, .int (iI ((n + 1 : Nat) : Int))), (0, .ref 24)] [] (wd_S ++ cs, va_up I 32 (nb (I 32) (n + 1) (mb_0 pa lo hi)), J, F, V) X) :
    ∀ (m k : Nat), n + 1 - k < m → k ≤ n + 1 → mW G mt_Dr_markBadParts (d + 1) bc bs 2 [(1, .int (iI k)), (0, .ref 24)] [] (wd_S ++ cs, va_up I 32 (nb (I 32) k (mb_0 pa lo hi)), J, F, V) X := by
  intro m
  induction m with
  | zero => intro k h1 _; exact absurd h1 (Nat.not_lt_zero _)
  | succ m ih =>
    intro k h1 h2
    have hq2 : dr_lh (va_up I 32 (nb (I 32) k (mb_0 pa lo hi))) n lo hi := hq
    refine mw_iload_n dc_Dr_markBadParts_2 rfl 0 rfl ?_
    refine mw_aload_n dc_Dr_markBadParts_3 rfl 1 rfl ?_
    refine mi_get (ci := 3) (k := 2) dc_Dr_markBadParts_4 rfl wi_Dr rfl rfl (by decide) fl_Dr_40 hL ?_
    refine mi_icmp_ge (tgt := 45) dc_Dr_markBadParts_7 (by decide) (iB_mk (by omega) (by omega)) (iB_mk (by omega) (by omega)) (fun hh => ?_) (fun hh => ?_)
    · have e : k = n + 1 := by omega
      subst e
      exact hx
    · have hk : k ≤ n := by omega
      obtain ⟨q1, q2⟩ := hp k hk
      refine mw_aload_n dc_Dr_markBadParts_10 rfl 1 rfl ?_
      refine mi_get (ci := 3) (k := 9) dc_Dr_markBadParts_11 rfl wi_Dr rfl rfl (by decide) fl_Dr_34 hV.2.2.2.2.2.2.2.1 ?_
      refine mw_iload_n dc_Dr_markBadParts_14 rfl 0 rfl ?_
      refine mw_aload_n dc_Dr_markBadParts_15 rfl 1 rfl ?_
      refine mi_get (ci := 3) (k := 8) dc_Dr_markBadParts_16 rfl wi_Dr rfl rfl (by decide) fl_Dr_31 hV.2.2.2.2.2.2.1 ?_
      refine mw_iload_n dc_Dr_markBadParts_19 rfl 0 rfl ?_
      refine mi_iald dc_Dr_markBadParts_20 rfl ⟨by omega, by omega, by decide⟩ (v := iI (pa k)) (by rw [Int.toNat_natCast]; exact q1) ?_
      refine mw_iload_n dc_Dr_markBadParts_21 rfl 0 rfl ?_
      refine mi_icmp_ne (tgt := 37) dc_Dr_markBadParts_22 (by decide) (iB_mk (by omega) (by omega)) (iB_mk (by omega) (by omega)) (fun h022 => ?_) (fun h022 => ?_)
      · refine mi_const dc_Dr_markBadParts_37 ?_
        refine mi_zast dc_Dr_markBadParts_38 rfl ⟨by omega, by omega, by decide⟩ (by decide) (I' := va_up I 32 (nb (I 32) (k + 1) (mb_0 pa lo hi))) (by rw [va_up_self, up_up, Int.toNat_natCast, nb_sf (decide_eq_false (fun q => by omega))]) ?_
        refine mi_iinc dc_Dr_markBadParts_39 0 rfl (by decide) rfl ?_
        refine mw_goto (tgt := 2) dc_Dr_markBadParts_42 (by decide) ?_
        refine mw_pick [0, 1] rfl ?_
        exact ih (k + 1) (by omega) (by omega)
      · refine mw_aload_n dc_Dr_markBadParts_25 rfl 1 rfl ?_
        refine mw_iload_n dc_Dr_markBadParts_26 rfl 0 rfl ?_
        refine mz_V1 (M2 := mt_Dr_isShort) dc_Dr_markBadParts_27 ml_Dr_76 rfl rfl ny_Dr_isShort (by decide) (Nat.le_of_ble_eq_true rfl) (ev_isShort hV hq2 hk hn) (fun v h1 hY => ?_)
        obtain ⟨hv, rfl⟩ := hY
        cases hv
        refine mw_if_ne (tgt := 37) dc_Dr_markBadParts_30 (by decide) (fun h130 => ?_) (fun h130 => ?_)
        · refine mi_const dc_Dr_markBadParts_37 ?_
          refine mi_zast dc_Dr_markBadParts_38 rfl ⟨by omega, by omega, by decide⟩ (by decide) (I' := va_up I 32 (nb (I 32) (k + 1) (mb_0 pa lo hi))) (by rw [va_up_self, up_up, Int.toNat_natCast, nb_sf (decide_eq_false (fun q => h130 (bo_0.mpr q.2)))]) ?_
          refine mi_iinc dc_Dr_markBadParts_39 0 rfl (by decide) rfl ?_
          refine mw_goto (tgt := 2) dc_Dr_markBadParts_42 (by decide) ?_
          refine mw_pick [0, 1] rfl ?_
          exact ih (k + 1) (by omega) (by omega)
        · refine mi_const dc_Dr_markBadParts_33 ?_
          refine mw_goto (tgt := 38) dc_Dr_markBadParts_34 (by decide) ?_
          refine mi_zast dc_Dr_markBadParts_38 rfl ⟨by omega, by omega, by decide⟩ (by decide) (I' := va_up I 32 (nb (I 32) (k + 1) (mb_0 pa lo hi))) (by rw [va_up_self, up_up, Int.toNat_natCast, nb_st (decide_eq_true ⟨by omega, bo_0.mp h130⟩)]) ?_
          refine mi_iinc dc_Dr_markBadParts_39 0 rfl (by decide) rfl ?_
          refine mw_goto (tgt := 2) dc_Dr_markBadParts_42 (by decide) ?_
          refine mw_pick [0, 1] rfl ?_
          exact ih (k + 1) (by omega) (by omega)
theorem lp_mark2 {G : mm_G} {d bc bs : Nat} {cs : mm_Sh} {I : Nat → Nat → Int32} {J : Nat → Nat → Int64} {F : Nat → Nat → Option Nat} {V : Nat → Nat → Value} {X : mm_X} {n : Nat} {g : Nat → Int32} {pa lo hi : Nat → Nat} (hV : dr_V V) (hq : dr_lh I n lo hi) (hp : dr_p I n pa) (hn : n ≤ 6) (hL : V 24 2 = .int (iI ((n + 1 : Nat) : Int))) (hx : X (.inl none) (wd_S ++ cs, va_up I 32 (nb g (n + 1) (mb_s pa lo hi (n + 1))), J, F, V)) :
    ∀ (m k : Nat), n + 1 - k < m → k ≤ n + 1 → mW G mt_Dr_markBadParts (d + 1) bc bs 47 [(1, .int (iI k)), (0, .ref 24)] [] (wd_S ++ cs, va_up I 32 (nb g (n + 1) (mb_s pa lo hi k)), J, F, V) X := by
  intro m
  induction m with
  | zero => intro k h1 _; exact absurd h1 (Nat.not_lt_zero _)
  | succ m ih =>
    intro k h1 h2
    have hq2 : dr_lh (va_up I 32 (nb g (n + 1) (mb_s pa lo hi k))) n lo hi := hq
    refine mw_iload_n dc_Dr_markBadParts_47 rfl 0 rfl ?_
    refine mw_aload_n dc_Dr_markBadParts_48 rfl 1 rfl ?_
    refine mi_get (ci := 3) (k := 2) dc_Dr_markBadParts_49 rfl wi_Dr rfl rfl (by decide) fl_Dr_40 hL ?_
    refine mi_icmp_ge (tgt := 81) dc_Dr_markBadParts_52 (by decide) (iB_mk (by omega) (by omega)) (iB_mk (by omega) (by omega)) (fun hh => ?_) (fun hh => ?_)
    · have e : k = n + 1 := by omega
      subst e
      exact mw_vret dc_Dr_markBadParts_81 rfl hx
    · have hk : k ≤ n := by omega
      obtain ⟨q1, q2⟩ := hp k hk
      refine mw_aload_n dc_Dr_markBadParts_55 rfl 1 rfl ?_
      refine mw_iload_n dc_Dr_markBadParts_56 rfl 0 rfl ?_
      refine mz_V1 (M2 := mt_Dr_isOriented) dc_Dr_markBadParts_57 ml_Dr_80 rfl rfl ny_Dr_isOriented (by decide) (Nat.le_of_ble_eq_true rfl) (ev_isOriented hV hq2 hk hn) (fun v h1 hY => ?_)
      obtain ⟨hv, rfl⟩ := hY
      cases hv
      refine mw_if_eq (tgt := 75) dc_Dr_markBadParts_60 (by decide) (fun h060 => ?_) (fun h060 => ?_)
      · refine mi_iinc dc_Dr_markBadParts_75 0 rfl (by decide) rfl ?_
        refine mw_goto (tgt := 47) dc_Dr_markBadParts_78 (by decide) ?_
        refine mw_pick [0, 1] rfl ?_
        have e : mb_s pa lo hi (k + 1) = mb_s pa lo hi k := if_neg (bo_0.mp h060)
        have k2 := ih (k + 1) (by omega) (by omega)
        rw [e] at k2
        exact k2
      · refine mw_aload_n dc_Dr_markBadParts_63 rfl 1 rfl ?_
        refine mi_get (ci := 3) (k := 9) dc_Dr_markBadParts_64 rfl wi_Dr rfl rfl (by decide) fl_Dr_34 hV.2.2.2.2.2.2.2.1 ?_
        refine mw_aload_n dc_Dr_markBadParts_67 rfl 1 rfl ?_
        refine mi_get (ci := 3) (k := 8) dc_Dr_markBadParts_68 rfl wi_Dr rfl rfl (by decide) fl_Dr_31 hV.2.2.2.2.2.2.1 ?_
        refine mw_iload_n dc_Dr_markBadParts_71 rfl 0 rfl ?_
        refine mi_iald dc_Dr_markBadParts_72 rfl ⟨by omega, by omega, by decide⟩ (v := iI (pa k)) (by rw [Int.toNat_natCast]; exact q1) ?_
        refine mi_const dc_Dr_markBadParts_73 ?_
        refine mi_zast dc_Dr_markBadParts_74 rfl ⟨by omega, by omega, by decide⟩ (by decide) (I' := va_up I 32 (nb g (n + 1) (va_up (mb_s pa lo hi k) (pa k) false))) (by rw [va_up_self, up_up, Int.toNat_natCast, nb_uf (by omega)]) ?_
        refine mi_iinc dc_Dr_markBadParts_75 0 rfl (by decide) rfl ?_
        refine mw_goto (tgt := 47) dc_Dr_markBadParts_78 (by decide) ?_
        refine mw_pick [0, 1] rfl ?_
        have e : mb_s pa lo hi (k + 1) = va_up (mb_s pa lo hi k) (pa k) false := if_pos (Decidable.not_not.mp (fun q => h060 (bo_0.mpr q)))
        have k2 := ih (k + 1) (by omega) (by omega)
        rw [e] at k2
        exact k2
theorem ev_markBadParts {G : mm_G} {d : Nat} {cs : mm_Sh} {I : Nat → Nat → Int32} {J : Nat → Nat → Int64} {F : Nat → Nat → Option Nat} {V : Nat → Nat → Value} {n : Nat} {pa lo hi : Nat → Nat} (hV : dr_V V) (hq : dr_lh I n lo hi) (hp : dr_p I n pa) (hn : n ≤ 6) (hL : V 24 2 = .int (iI ((n + 1 : Nat) : Int))) : mE G mt_Dr_markBadParts (d + 1) 0 0 [.ref 24] (wd_S ++ cs, I, J, F, V) (fun o h1 => o = .inl none ∧ h1 = (wd_S ++ cs, va_up I 32 (nb (I 32) (n + 1) (mb_s pa lo hi (n + 1))), J, F, V)) := by
  refine mE_intro (by decide) (fun k h q => nomatch q.1) (Nat.le_of_ble_eq_true rfl) ?_
  show mW G mt_Dr_markBadParts (d + 1) 0 0 0 [(0, .ref 24)] [] (wd_S ++ cs, I, J, F, V) _
  refine mi_const dc_Dr_markBadParts_0 ?_
  refine mw_istore_n dc_Dr_markBadParts_1 rfl (by decide) rfl ?_
  have k := lp_mark1 (G := G) (d := d) (bc := 0) (bs := 0) (cs := cs) (I := I) (J := J) (F := F) (X := fun o h1 => o = .inl none ∧ h1 = (wd_S ++ cs, va_up I 32 (nb (I 32) (n + 1) (mb_s pa lo hi (n + 1))), J, F, V)) hV hq hp hn hL ?_ (n + 2) 0 (by omega) (by omega)
  · rw [nb_0, up_id] at k
    exact k
  · refine mi_const dc_Dr_markBadParts_45 ?_
    refine mw_istore_n dc_Dr_markBadParts_46 rfl (by decide) rfl ?_
    exact lp_mark2 (I := I) hV hq hp hn hL ⟨rfl, rfl⟩ (n + 2) 0 (by omega) (by omega)
