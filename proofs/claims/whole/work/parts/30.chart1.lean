/-! A CHART at the position c: orders, genes; toPlain at c + 1, knownWays at c + 2, walked at c + 3 -/
def ch_S (sh : mm_Sh) (c N : Nat) : Prop := sh[c]? = some (.inr 4) ∧ sh[c + 1]? = some (.inl (0, N)) ∧ sh[c + 2]? = some (.inl (2, N)) ∧ sh[c + 3]? = some (.inl (0, 6))
def ch_V (V : Nat → Nat → Value) (c N n : Nat) : Prop := V c 0 = .int (iI N) ∧ V c 1 = .ref (c + 1) ∧ V c 2 = .int (iI n) ∧ V c 3 = .ref (c + 3) ∧ V c 4 = .ref (c + 2)
def ab (z : Int) : Int := if 0 ≤ z then z else -z
theorem ab_le {z : Int} {m : Int} (h : -m ≤ z ∧ z ≤ m) : 0 ≤ ab z ∧ ab z ≤ m := by
  unfold ab
  split <;> omega
/-! indexOf: a digit a place -/
def lc (y : Nat → Int) (p : Nat) : Nat → Nat
  | 0 => 0
  | t + 1 => if ab (y (p + 1 + t)) < ab (y p) then lc y p t + 1 else lc y p t
theorem lc_le (y : Nat → Int) (p t : Nat) : lc y p t ≤ t := by
  induction t with
  | zero => exact Nat.le_refl _
  | succ t ih =>
    show (if ab (y (p + 1 + t)) < ab (y p) then lc y p t + 1 else lc y p t) ≤ t + 1
    split <;> omega
def ix_d (y : Nat → Int) (n p : Nat) : Int := if 0 < y p then (n : Int) - p + lc y p (n - 1 - p) else (n : Int) - p - 1 - lc y p (n - 1 - p)
def ix_f (y : Nat → Int) (n : Nat) : Nat → Int
  | 0 => 0
  | p + 1 => ix_f y n p * 2 * ((n : Int) - p) + ix_d y n p
theorem lp_ix1 {G : mm_G} {d bc bs : Nat} {sh : mm_Sh} {I : Nat → Nat → Int32} {J : Nat → Nat → Int64} {F : Nat → Nat → Option Nat} {V : Nat → Nat → Value} {X : mm_X} {c N n a na : Nat} {y : Nat → Int} (hs : ch_S sh c N) (hV : ch_V V c N n) (hn : n ≤ 6) (ha : sh[a]? = some (.inl (0, na))) (hna : n ≤ na ∧ na < 2147483648) (hy : ∀ p, p < n → I a p = iI (y p) ∧ -100 ≤ y p ∧ y p ≤ 100) {x : Int} {p : Nat} (hp : p < n) (hx : mW G mt_Ch_indexOf d bc bs 62 [(5, .int (iI (lc y p (n - 1 - p) : Nat))), (4, .int (iI ((n : Int) - p))), (3, .int (iI p)), (2, .int (iI x)), (0, .ref c), (1, .ref a)] [] (sh, I, J, F, V) X) :
    ∀ (m t : Nat), n - p - t < m → t ≤ n - 1 - p → mW G mt_Ch_indexOf d bc bs 28 [(6, .int (iI ((p + 1 + t : Nat) : Int))), (5, .int (iI (lc y p t : Nat))), (4, .int (iI ((n : Int) - p))), (3, .int (iI p)), (2, .int (iI (x))), (0, .ref c), (1, .ref a)] [] (sh, I, J, F, V) X := by
  intro m
  induction m with
  | zero => intro t h1 _; exact absurd h1 (Nat.not_lt_zero _)
  | succ m ih =>
    intro t h1 h2
    refine mw_iload dc_Ch_indexOf_28 0 rfl ?_
    refine mw_aload_n dc_Ch_indexOf_30 rfl 5 rfl ?_
    refine mi_get (ci := 4) (k := 2) dc_Ch_indexOf_31 hs.1 wi_Ch rfl rfl (by decide) fl_Ch_9 hV.2.2.1 ?_
    refine mi_icmp_ge (tgt := 62) dc_Ch_indexOf_34 (by decide) (iB_mk (by omega) (by omega)) (iB_mk (by omega) (by omega)) (fun hh => ?_) (fun hh => ?_)
    · have e : t = n - 1 - p := by omega
      subst e
      refine mw_pick [1, 2, 3, 4, 5, 6] rfl ?_
      exact hx
    · obtain ⟨q1, q2, q3⟩ := hy (p + 1 + t) (by omega)
      obtain ⟨p1, p2, p3⟩ := hy p hp
      have b1 := ab_le (m := 100) ⟨q2, q3⟩
      have b2 := ab_le (m := 100) ⟨p2, p3⟩
      refine mw_aload_n dc_Ch_indexOf_37 rfl 6 rfl ?_
      refine mw_iload dc_Ch_indexOf_38 0 rfl ?_
      refine mi_iald dc_Ch_indexOf_40 ha ⟨by omega, by omega, hna.2⟩ (v := iI (y (p + 1 + t))) (by rw [Int.toNat_natCast]; exact q1) ?_
      refine mi_mabs dc_Ch_indexOf_41 jk_Ch_43 (Nat.le_of_ble_eq_true rfl) (iB_mk (by omega) (by omega)) (c := ab (y (p + 1 + t))) rfl ?_
      refine mw_aload_n dc_Ch_indexOf_44 rfl 6 rfl ?_
      refine mw_iload_n dc_Ch_indexOf_45 rfl 3 rfl ?_
      refine mi_iald dc_Ch_indexOf_46 ha ⟨by omega, by omega, hna.2⟩ (v := iI (y p)) (by rw [Int.toNat_natCast]; exact p1) ?_
      refine mi_mabs dc_Ch_indexOf_47 jk_Ch_43 (Nat.le_of_ble_eq_true rfl) (iB_mk (by omega) (by omega)) (c := ab (y p)) rfl ?_

      refine mi_icmp_ge (tgt := 56) dc_Ch_indexOf_50 (by decide) (show iB (ab (y (p + 1 + t))) from ⟨by omega, by omega⟩) (show iB (ab (y p)) from ⟨by omega, by omega⟩) (fun hh => ?_) (fun hh => ?_)
      · refine mi_iinc dc_Ch_indexOf_56 0 rfl (by decide) rfl ?_
        refine mw_goto (tgt := 28) dc_Ch_indexOf_59 (by decide) ?_
        refine mw_pick [0, 1, 2, 3, 4, 5, 6] rfl ?_
        have e : lc y p (t + 1) = lc y p t := if_neg (show ¬ ab (y (p + 1 + t)) < ab (y p) by omega)
        have k2 := ih (t + 1) (by omega) (by omega)
        rw [e] at k2
        exact k2
      · refine mi_iinc dc_Ch_indexOf_53 1 rfl (by decide) rfl ?_
        refine mi_iinc dc_Ch_indexOf_56 1 rfl (by decide) rfl ?_
        refine mw_goto (tgt := 28) dc_Ch_indexOf_59 (by decide) ?_
        refine mw_pick [0, 1, 2, 3, 4, 5, 6] rfl ?_
        have e : lc y p (t + 1) = lc y p t + 1 := if_pos (show ab (y (p + 1 + t)) < ab (y p) by omega)
        have k2 := ih (t + 1) (by omega) (by omega)
        rw [e] at k2
        exact k2
theorem lp_ix2 {G : mm_G} {d bc bs : Nat} {sh : mm_Sh} {I : Nat → Nat → Int32} {J : Nat → Nat → Int64} {F : Nat → Nat → Option Nat} {V : Nat → Nat → Value} {X : mm_X} {c N n a na : Nat} {y : Nat → Int} (hs : ch_S sh c N) (hV : ch_V V c N n) (hn : n ≤ 6) (ha : sh[a]? = some (.inl (0, na))) (hna : n ≤ na ∧ na < 2147483648) (hy : ∀ p, p < n → I a p = iI (y p) ∧ -100 ≤ y p ∧ y p ≤ 100) (hx : X (.inl (some (.int (iI (ix_f y n n))))) (sh, I, J, F, V)) :
    ∀ (m p : Nat), n - p < m → p ≤ n → mW G mt_Ch_indexOf d bc bs 4 [(3, .int (iI p)), (2, .int (iI (ix_f y n p))), (0, .ref c), (1, .ref a)] [] (sh, I, J, F, V) X := by
  intro m
  induction m with
  | zero => intro p h1 _; exact absurd h1 (Nat.not_lt_zero _)
  | succ m ih =>
    intro p h1 h2
    refine mw_iload_n dc_Ch_indexOf_4 rfl 0 rfl ?_
    refine mw_aload_n dc_Ch_indexOf_5 rfl 2 rfl ?_
    refine mi_get (ci := 4) (k := 2) dc_Ch_indexOf_6 hs.1 wi_Ch rfl rfl (by decide) fl_Ch_9 hV.2.2.1 ?_
    refine mi_icmp_ge (tgt := 101) dc_Ch_indexOf_9 (by decide) (iB_mk (by omega) (by omega)) (iB_mk (by omega) (by omega)) (fun hh => ?_) (fun hh => ?_)
    · have e : p = n := by omega
      subst e
      refine mw_iload_n dc_Ch_indexOf_101 rfl 1 rfl ?_
      exact mw_iret dc_Ch_indexOf_102 rfl rfl hx
    · have hp : p < n := by omega
      obtain ⟨p1, p2, p3⟩ := hy p hp
      refine mw_aload_n dc_Ch_indexOf_12 rfl 2 rfl ?_
      refine mi_get (ci := 4) (k := 2) dc_Ch_indexOf_13 hs.1 wi_Ch rfl rfl (by decide) fl_Ch_9 hV.2.2.1 ?_
      refine mw_iload_n dc_Ch_indexOf_16 rfl 0 rfl ?_
      refine mi_isub dc_Ch_indexOf_17 ?_
      refine mw_istore dc_Ch_indexOf_18 (by decide) rfl ?_
      refine mi_const dc_Ch_indexOf_20 ?_
      refine mw_istore dc_Ch_indexOf_21 (by decide) rfl ?_
      refine mw_iload_n dc_Ch_indexOf_23 rfl 2 rfl ?_
      refine mi_const dc_Ch_indexOf_24 ?_
      refine mi_iadd dc_Ch_indexOf_25 ?_
      refine mw_istore dc_Ch_indexOf_26 (by decide) rfl ?_
      refine mw_pick [0, 1, 2, 3, 4, 5, 6] rfl ?_
      refine lp_ix1 hs hV hn ha hna hy hp ?_ (n + 1) 0 (by omega) (by omega)
      refine mw_aload_n dc_Ch_indexOf_62 rfl 5 rfl ?_
      refine mw_iload_n dc_Ch_indexOf_63 rfl 2 rfl ?_
      refine mi_iald dc_Ch_indexOf_64 ha ⟨by omega, by omega, hna.2⟩ (v := iI (y p)) (by rw [Int.toNat_natCast]; exact p1) ?_
      refine mi_if_le (tgt := 76) dc_Ch_indexOf_65 (by decide) (iB_mk (by omega) (by omega)) (fun hh => ?_) (fun hh => ?_)
      · refine mw_iload dc_Ch_indexOf_76 1 rfl ?_
        refine mi_const dc_Ch_indexOf_78 ?_
        refine mi_isub dc_Ch_indexOf_79 ?_
        refine mw_iload dc_Ch_indexOf_80 0 rfl ?_
        refine mi_isub dc_Ch_indexOf_82 ?_
        refine mw_istore dc_Ch_indexOf_83 (by decide) rfl ?_
        refine mw_iload_n dc_Ch_indexOf_85 rfl 4 rfl ?_
        refine mi_const dc_Ch_indexOf_86 ?_
        refine mi_imul dc_Ch_indexOf_87 ?_
        refine mw_iload dc_Ch_indexOf_88 2 rfl ?_
        refine mi_imul dc_Ch_indexOf_90 ?_
        refine mw_iload dc_Ch_indexOf_91 0 rfl ?_
        refine mi_iadd dc_Ch_indexOf_93 ?_
        refine mw_istore_n dc_Ch_indexOf_94 rfl (by decide) rfl ?_
        refine mi_iinc dc_Ch_indexOf_95 4 rfl (by decide) rfl ?_
        refine mw_goto (tgt := 4) dc_Ch_indexOf_98 (by decide) ?_
        refine mw_pick [0, 1, 5, 6] rfl ?_
        have e : ix_f y n (p + 1) = ix_f y n p * 2 * ((n : Int) - p) + ((n : Int) - p - 1 - lc y p (n - 1 - p)) := congrArg (fun q => ix_f y n p * 2 * ((n : Int) - p) + q) (if_neg (show ¬ 0 < y p by omega))
        have k2 := ih (p + 1) (by omega) (by omega)
        rw [e] at k2
        exact k2
      · refine mw_iload dc_Ch_indexOf_68 1 rfl ?_
        refine mw_iload dc_Ch_indexOf_70 0 rfl ?_
        refine mi_iadd dc_Ch_indexOf_72 ?_
        refine mw_goto (tgt := 83) dc_Ch_indexOf_73 (by decide) ?_
        refine mw_istore dc_Ch_indexOf_83 (by decide) rfl ?_
        refine mw_iload_n dc_Ch_indexOf_85 rfl 4 rfl ?_
        refine mi_const dc_Ch_indexOf_86 ?_
        refine mi_imul dc_Ch_indexOf_87 ?_
        refine mw_iload dc_Ch_indexOf_88 2 rfl ?_
        refine mi_imul dc_Ch_indexOf_90 ?_
        refine mw_iload dc_Ch_indexOf_91 0 rfl ?_
        refine mi_iadd dc_Ch_indexOf_93 ?_
        refine mw_istore_n dc_Ch_indexOf_94 rfl (by decide) rfl ?_
        refine mi_iinc dc_Ch_indexOf_95 4 rfl (by decide) rfl ?_
        refine mw_goto (tgt := 4) dc_Ch_indexOf_98 (by decide) ?_
        refine mw_pick [0, 1, 5, 6] rfl ?_
        have e : ix_f y n (p + 1) = ix_f y n p * 2 * ((n : Int) - p) + ((n : Int) - p + lc y p (n - 1 - p)) := congrArg (fun q => ix_f y n p * 2 * ((n : Int) - p) + q) (if_pos (show 0 < y p by omega))
        have k2 := ih (p + 1) (by omega) (by omega)
        rw [e] at k2
        exact k2
theorem ev_indexOf {G : mm_G} {d : Nat} {sh : mm_Sh} {I : Nat → Nat → Int32} {J : Nat → Nat → Int64} {F : Nat → Nat → Option Nat} {V : Nat → Nat → Value} {c N n a na : Nat} {y : Nat → Int} (hs : ch_S sh c N) (hV : ch_V V c N n) (hn : n ≤ 6) (ha : sh[a]? = some (.inl (0, na))) (hna : n ≤ na ∧ na < 2147483648) (hy : ∀ p, p < n → I a p = iI (y p) ∧ -100 ≤ y p ∧ y p ≤ 100) : mE G mt_Ch_indexOf d 0 0 [.ref c, .ref a] (sh, I, J, F, V) (fun o h1 => o = .inl (some (.int (iI (ix_f y n n)))) ∧ h1 = (sh, I, J, F, V)) := by
  refine mE_intro (by decide) (fun k h q => nomatch q.1) (Nat.le_of_ble_eq_true rfl) ?_
  show mW G mt_Ch_indexOf d 0 0 0 [(0, .ref c), (1, .ref a)] [] (sh, I, J, F, V) _
  refine mi_const dc_Ch_indexOf_0 ?_
  refine mw_istore_n dc_Ch_indexOf_1 rfl (by decide) rfl ?_
  refine mi_const dc_Ch_indexOf_2 ?_
  refine mw_istore_n dc_Ch_indexOf_3 rfl (by decide) rfl ?_
  exact lp_ix2 hs hV hn ha hna hy ⟨rfl, rfl⟩ (n + 1) 0 (by omega) (by omega)
/-! makeRoom, layOut -/
def nr (g : Nat → Int32) (l n : Nat) (z : Nat → Int) : Nat → Int32 := fun k => if l ≤ k ∧ k < n then iI (z k) else g k
theorem nr_a {g : Nat → Int32} {l n k : Nat} {z : Nat → Int} (h : l ≤ k ∧ k < n) : nr g l n z k = iI (z k) := if_pos h
theorem nr_u {g : Nat → Int32} {l n k : Nat} {z : Nat → Int} (v : Int) (h : l ≤ k ∧ k < n) : upd (nr g l n z) k (iI v) = nr g l n (va_up z k v) := by
  funext j
  by_cases e : j = k
  · subst e; rw [pk_us]; unfold nr; rw [if_pos h, va_up_self]
  · rw [pk_un e]; unfold nr; rw [va_up_ne _ _ e]
theorem nr_d {g : Nat → Int32} {l n : Nat} {z : Nat → Int} (v : Int) (h : l < n) : upd (nr g (l + 1) n z) l (iI v) = nr g l n (va_up z l v) := by
  funext j
  by_cases e : j = l
  · subst e; rw [pk_us]; unfold nr; rw [if_pos (by omega), va_up_self]
  · rw [pk_un e]
    unfold nr
    rw [va_up_ne _ _ e]
    by_cases q : l + 1 ≤ j ∧ j < n
    · rw [if_pos q, if_pos (by omega)]
    · rw [if_neg q, if_neg (by omega)]
theorem nr_n (g : Nat → Int32) (n : Nat) (z : Nat → Int) : nr g n n z = g := by
  funext j; unfold nr; rw [if_neg (by omega)]
theorem nr_c {g : Nat → Int32} {l n : Nat} {y z : Nat → Int} (h : ∀ k, l ≤ k ∧ k < n → y k = z k) : nr g l n y = nr g l n z := by
  funext j
  unfold nr
  by_cases e : l ≤ j ∧ j < n
  · rw [if_pos e, if_pos e, h j e]
  · rw [if_neg e, if_neg e]
def mv (x : Int) : Int := if 0 < x then x + 1 else x + -1
def mr (z : Nat → Int) (p k : Nat) : Nat → Int := fun q => if p < q ∧ q < k ∧ ab (z p) ≤ ab (z q) then mv (z q) else z q
theorem mr_0 {z : Nat → Int} {p : Nat} : mr z p (p + 1) = z := by
  funext q; unfold mr; rw [if_neg (by omega)]
theorem mr_p {z : Nat → Int} {p k : Nat} : mr z p k p = z p := by
  unfold mr; rw [if_neg (by omega)]
theorem mr_at {z : Nat → Int} {p k : Nat} : mr z p k k = z k := by
  unfold mr; rw [if_neg (by omega)]
theorem mr_t {z : Nat → Int} {p k : Nat} (hp : p < k) (h : ab (z p) ≤ ab (z k)) : va_up (mr z p k) k (mv (z k)) = mr z p (k + 1) := by
  funext q
  by_cases e : q = k
  · subst e; rw [va_up_self]; unfold mr; rw [if_pos ⟨hp, by omega, h⟩]
  · rw [va_up_ne _ _ e]
    unfold mr
    by_cases h2 : p < q ∧ q < k ∧ ab (z p) ≤ ab (z q)
    · rw [if_pos h2, if_pos ⟨h2.1, by omega, h2.2.2⟩]
    · rw [if_neg h2, if_neg (fun r => h2 ⟨r.1, by omega, r.2.2⟩)]
theorem mr_f {z : Nat → Int} {p k : Nat} (h : ¬ ab (z p) ≤ ab (z k)) : mr z p k = mr z p (k + 1) := by
  funext q
  unfold mr
  by_cases h2 : p < q ∧ q < k ∧ ab (z p) ≤ ab (z q)
  · rw [if_pos h2, if_pos ⟨h2.1, by omega, h2.2.2⟩]
  · rw [if_neg h2, if_neg (fun r => h2 ⟨r.1, by
      have : q ≠ k := fun e => h (e ▸ r.2.2)
      omega, r.2.2⟩)]
theorem lp_room {G : mm_G} {d bc bs : Nat} {sh : mm_Sh} {I : Nat → Nat → Int32} {J : Nat → Nat → Int64} {F : Nat → Nat → Option Nat} {V : Nat → Nat → Value} {X : mm_X} {c N n a na p : Nat} {g : Nat → Int32} {z : Nat → Int} (hs : ch_S sh c N) (hV : ch_V V c N n) (hn : n ≤ 6) (ha : sh[a]? = some (.inl (0, na))) (hna : n ≤ na ∧ na < 2147483648) (hp : p < n) (hz : ∀ q, -100 ≤ z q ∧ z q ≤ 100) (hx : X (.inl none) (sh, va_up I a (nr g p n (mr z p n)), J, F, V)) :
    ∀ (m k : Nat), n - k < m → k ≤ n → p < k → mW G mt_Ch_makeRoom d bc bs 4 [(3, .int (iI k)), (0, .ref c), (1, .ref a), (2, .int (iI p))] [] (sh, va_up I a (nr g p n (mr z p k)), J, F, V) X := by
  intro m
  induction m with
  | zero => intro k h1 _ _; exact absurd h1 (Nat.not_lt_zero _)
  | succ m ih =>
    intro k h1 h2 h3
    have c1 := hz k
    have c2 := hz p
    have b1 := ab_le (m := 100) c1
    have b2 := ab_le (m := 100) c2
    refine mw_iload_n dc_Ch_makeRoom_4 rfl 0 rfl ?_
    refine mw_aload_n dc_Ch_makeRoom_5 rfl 1 rfl ?_
    refine mi_get (ci := 4) (k := 2) dc_Ch_makeRoom_6 hs.1 wi_Ch rfl rfl (by decide) fl_Ch_9 hV.2.2.1 ?_
    refine mi_icmp_ge (tgt := 50) dc_Ch_makeRoom_9 (by decide) (iB_mk (by omega) (by omega)) (iB_mk (by omega) (by omega)) (fun hh => ?_) (fun hh => ?_)
    · have e : k = n := by omega
      subst e
      exact mw_vret dc_Ch_makeRoom_50 rfl hx
    · have hk : k < n := by omega
      refine mw_aload_n dc_Ch_makeRoom_12 rfl 2 rfl ?_
      refine mw_iload_n dc_Ch_makeRoom_13 rfl 0 rfl ?_
      refine mi_iald dc_Ch_makeRoom_14 ha ⟨by omega, by omega, hna.2⟩ (v := iI (z k)) (by rw [Int.toNat_natCast, va_up_self, nr_a ⟨by omega, by omega⟩, mr_at]) ?_
      refine mi_mabs dc_Ch_makeRoom_15 jk_Ch_43 (Nat.le_of_ble_eq_true rfl) (iB_mk (by omega) (by omega)) (c := ab (z k)) rfl ?_
      refine mw_aload_n dc_Ch_makeRoom_18 rfl 2 rfl ?_
      refine mw_iload_n dc_Ch_makeRoom_19 rfl 3 rfl ?_
      refine mi_iald dc_Ch_makeRoom_20 ha ⟨by omega, by omega, hna.2⟩ (v := iI (z p)) (by rw [Int.toNat_natCast, va_up_self, nr_a ⟨by omega, by omega⟩, mr_p]) ?_
      refine mi_mabs dc_Ch_makeRoom_21 jk_Ch_43 (Nat.le_of_ble_eq_true rfl) (iB_mk (by omega) (by omega)) (c := ab (z p)) rfl ?_

      refine mi_icmp_lt (tgt := 44) dc_Ch_makeRoom_24 (by decide) (show iB (ab (z k)) from ⟨by omega, by omega⟩) (show iB (ab (z p)) from ⟨by omega, by omega⟩) (fun hh => ?_) (fun hh => ?_)
      · have hh2 : ¬ ab (z p) ≤ ab (z k) := by omega
        refine mi_iinc dc_Ch_makeRoom_44 0 rfl (by decide) rfl ?_
        refine mw_goto (tgt := 4) dc_Ch_makeRoom_47 (by decide) ?_
        refine mw_pick [0, 1, 2, 3] rfl ?_
        rw [mr_f hh2]
        exact ih (k + 1) (by omega) (by omega) (by omega)
      · have hh2 : ab (z p) ≤ ab (z k) := by omega
        refine mw_aload_n dc_Ch_makeRoom_27 rfl 2 rfl ?_
        refine mw_iload_n dc_Ch_makeRoom_28 rfl 0 rfl ?_
        refine mw_dup2 dc_Ch_makeRoom_29 rfl rfl ?_
        refine mi_iald dc_Ch_makeRoom_30 ha ⟨by omega, by omega, hna.2⟩ (v := iI (z k)) (by rw [Int.toNat_natCast, va_up_self, nr_a ⟨by omega, by omega⟩, mr_at]) ?_
        refine mw_aload_n dc_Ch_makeRoom_31 rfl 2 rfl ?_
        refine mw_iload_n dc_Ch_makeRoom_32 rfl 0 rfl ?_
        refine mi_iald dc_Ch_makeRoom_33 ha ⟨by omega, by omega, hna.2⟩ (v := iI (z k)) (by rw [Int.toNat_natCast, va_up_self, nr_a ⟨by omega, by omega⟩, mr_at]) ?_
        refine mi_if_le (tgt := 41) dc_Ch_makeRoom_34 (by decide) (iB_mk (by omega) (by omega)) (fun h034 => ?_) (fun h034 => ?_)
        · refine mi_const dc_Ch_makeRoom_41 ?_
          refine mi_iadd dc_Ch_makeRoom_42 ?_
          refine mi_iast dc_Ch_makeRoom_43 ha ⟨by omega, by omega, hna.2⟩ (I' := va_up I a (nr g p n (mr z p (k + 1)))) (by rw [va_up_self, up_up, Int.toNat_natCast, nr_u _ ⟨by omega, by omega⟩, ← mr_t h3 (by omega), show mv (z k) = z k + -1 from if_neg (show ¬ 0 < z k by omega)]) ?_
          refine mi_iinc dc_Ch_makeRoom_44 0 rfl (by decide) rfl ?_
          refine mw_goto (tgt := 4) dc_Ch_makeRoom_47 (by decide) ?_
          refine mw_pick [0, 1, 2, 3] rfl ?_
          exact ih (k + 1) (by omega) (by omega) (by omega)
        · refine mi_const dc_Ch_makeRoom_37 ?_
          refine mw_goto (tgt := 42) dc_Ch_makeRoom_38 (by decide) ?_
          refine mi_iadd dc_Ch_makeRoom_42 ?_
          refine mi_iast dc_Ch_makeRoom_43 ha ⟨by omega, by omega, hna.2⟩ (I' := va_up I a (nr g p n (mr z p (k + 1)))) (by rw [va_up_self, up_up, Int.toNat_natCast, nr_u _ ⟨by omega, by omega⟩, ← mr_t h3 (by omega), show mv (z k) = z k + 1 from if_pos (show 0 < z k by omega)]) ?_
          refine mi_iinc dc_Ch_makeRoom_44 0 rfl (by decide) rfl ?_
          refine mw_goto (tgt := 4) dc_Ch_makeRoom_47 (by decide) ?_
          refine mw_pick [0, 1, 2, 3] rfl ?_
          exact ih (k + 1) (by omega) (by omega) (by omega)
theorem ev_makeRoom {G : mm_G} {d : Nat} {sh : mm_Sh} {I : Nat → Nat → Int32} {J : Nat → Nat → Int64} {F : Nat → Nat → Option Nat} {V : Nat → Nat → Value} {c N n a na p : Nat} {g : Nat → Int32} {z : Nat → Int} (hs : ch_S sh c N) (hV : ch_V V c N n) (hn : n ≤ 6) (ha : sh[a]? = some (.inl (0, na))) (hna : n ≤ na ∧ na < 2147483648) (hp : p < n) (hz : ∀ q, -100 ≤ z q ∧ z q ≤ 100) : mE G mt_Ch_makeRoom d 0 0 [.ref c, .ref a, .int (iI p)] (sh, va_up I a (nr g p n z), J, F, V) (fun o h1 => o = .inl none ∧ h1 = (sh, va_up I a (nr g p n (mr z p n)), J, F, V)) := by
  refine mE_intro (by decide) (fun k h q => nomatch q.1) (Nat.le_of_ble_eq_true rfl) ?_
  show mW G mt_Ch_makeRoom d 0 0 0 [(0, .ref c), (1, .ref a), (2, .int (iI p))] [] (sh, va_up I a (nr g p n z), J, F, V) _
  refine mw_iload_n dc_Ch_makeRoom_0 rfl 2 rfl ?_
  refine mi_const dc_Ch_makeRoom_1 ?_
  refine mi_iadd dc_Ch_makeRoom_2 ?_
  refine mw_istore_n dc_Ch_makeRoom_3 rfl (by decide) rfl ?_
  have k := lp_room (G := G) (d := d) (bc := 0) (bs := 0) (I := I) (J := J) (F := F) (g := g) (X := fun o h1 => o = .inl none ∧ h1 = (sh, va_up I a (nr g p n (mr z p n)), J, F, V)) hs hV hn ha hna hp hz ⟨rfl, rfl⟩ (n + 1) (p + 1) (by omega) (by omega) (by omega)
  rw [mr_0] at k
  exact k
