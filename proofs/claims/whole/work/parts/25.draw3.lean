/-! arrays whose first places are known -/
def nn (g : Nat → Int32) (n : Nat) (p : Nat → Nat) : Nat → Int32 := fun k => if k < n then iI (p k) else g k
def nb (g : Nat → Int32) (n : Nat) (b : Nat → Bool) : Nat → Int32 := fun k => if k < n then bo (b k = true) else g k
theorem nn_0 (g : Nat → Int32) (p : Nat → Nat) : nn g 0 p = g := by
  funext k; unfold nn; rw [if_neg (by omega)]
theorem nn_a {g : Nat → Int32} {n k : Nat} {p : Nat → Nat} (h : k < n) : nn g n p k = iI (p k) := if_pos h
theorem nn_s (g : Nat → Int32) (k : Nat) (p : Nat → Nat) : upd (nn g k p) k (iI (p k)) = nn g (k + 1) p := by
  funext j
  by_cases h : j = k
  · subst h; rw [pk_us]; unfold nn; rw [if_pos (by omega)]
  · rw [pk_un h]
    unfold nn
    by_cases h2 : j < k
    · rw [if_pos h2, if_pos (by omega)]
    · rw [if_neg h2, if_neg (by omega)]
theorem nn_u {g : Nat → Int32} {n k : Nat} {p : Nat → Nat} (v : Nat) (h : k < n) : upd (nn g n p) k (iI v) = nn g n (va_up p k v) := by
  funext j
  by_cases e : j = k
  · subst e; rw [pk_us]; unfold nn; rw [if_pos h, va_up_self]
  · rw [pk_un e]
    unfold nn
    rw [va_up_ne _ _ e]
theorem nn_c {g : Nat → Int32} {n : Nat} {p q : Nat → Nat} (h : ∀ k, k < n → p k = q k) : nn g n p = nn g n q := by
  funext j
  unfold nn
  by_cases e : j < n
  · rw [if_pos e, if_pos e, h j e]
  · rw [if_neg e, if_neg e]
theorem nb_0 (g : Nat → Int32) (p : Nat → Bool) : nb g 0 p = g := by
  funext k; unfold nb; rw [if_neg (by omega)]
theorem nb_a {g : Nat → Int32} {n k : Nat} {p : Nat → Bool} (h : k < n) : nb g n p k = bo (p k = true) := if_pos h
theorem nb_s (g : Nat → Int32) (k : Nat) (p : Nat → Bool) : upd (nb g k p) k (bo (p k = true)) = nb g (k + 1) p := by
  funext j
  by_cases h : j = k
  · subst h; rw [pk_us]; unfold nb; rw [if_pos (by omega)]
  · rw [pk_un h]
    unfold nb
    by_cases h2 : j < k
    · rw [if_pos h2, if_pos (by omega)]
    · rw [if_neg h2, if_neg (by omega)]
theorem nb_u {g : Nat → Int32} {n k : Nat} {p : Nat → Bool} (v : Bool) (h : k < n) : upd (nb g n p) k (bo (v = true)) = nb g n (va_up p k v) := by
  funext j
  by_cases e : j = k
  · subst e; rw [pk_us]; unfold nb; rw [if_pos h, va_up_self]
  · rw [pk_un e]
    unfold nb
    rw [va_up_ne _ _ e]
theorem bo_nar (P : Prop) [Decidable P] : vp_nar .boolean (bo P) = bo P := by
  by_cases p : P
  · rw [bo_t p]; decide
  · rw [bo_f p]; decide
/-! unite: the parts of two lines become one -/
def un_k (p : Nat → Nat) (a b k : Nat) : Nat → Nat := fun j => if j < k ∧ p j = max a b then min a b else p j
def un (p : Nat → Nat) (a b : Nat) : Nat → Nat := fun j => if p j = max a b then min a b else p j
theorem un_0 (p : Nat → Nat) (a b : Nat) : un_k p a b 0 = p := by
  funext j; unfold un_k; rw [if_neg (by omega)]
theorem un_st {p : Nat → Nat} {a b k : Nat} (h : p k = max a b) : va_up (un_k p a b k) k (min a b) = un_k p a b (k + 1) := by
  funext j
  by_cases e : j = k
  · subst e; rw [va_up_self]; unfold un_k; rw [if_pos ⟨by omega, h⟩]
  · rw [va_up_ne _ _ e]
    unfold un_k
    by_cases h2 : j < k ∧ p j = max a b
    · rw [if_pos h2, if_pos ⟨by omega, h2.2⟩]
    · rw [if_neg h2, if_neg (fun q => h2 ⟨by omega, q.2⟩)]
theorem un_sf {p : Nat → Nat} {a b k : Nat} (h : ¬ p k = max a b) : un_k p a b k = un_k p a b (k + 1) := by
  funext j
  unfold un_k
  by_cases h2 : j < k ∧ p j = max a b
  · rw [if_pos h2, if_pos ⟨by omega, h2.2⟩]
  · rw [if_neg h2, if_neg (fun q => h2 ⟨by
      have : j ≠ k := fun e => h (e ▸ q.2)
      omega, q.2⟩)]
theorem un_e {p : Nat → Nat} {a b n : Nat} : ∀ k, k < n → un_k p a b n k = un p a b k := fun k hk => by
  unfold un_k un
  by_cases h : p k = max a b
  · rw [if_pos ⟨hk, h⟩, if_pos h]
  · rw [if_neg (fun q => h q.2), if_neg h]
theorem lp_unite {G : mm_G} {d bc bs : Nat} {cs : mm_Sh} {I : Nat → Nat → Int32} {J : Nat → Nat → Int64} {F : Nat → Nat → Option Nat} {V : Nat → Nat → Value} {X : mm_X} {n a b : Nat} {g : Nat → Int32} {p : Nat → Nat} (hV : dr_V V) (hn : n ≤ 6) (ha : a ≤ n) (hb : b ≤ n) (hp : ∀ k, k ≤ n → p k ≤ n) (hL : V 24 2 = .int (iI ((n + 1 : Nat) : Int))) (hx : X (.inl none) (wd_S ++ cs, va_up I 31 (nn g (n + 1) (un p a b)), J, F, V)) :
    ∀ (m k : Nat), n + 1 - k < m → k ≤ n + 1 → mW G mt_Dr_unite d bc bs 16 [(5, .int (iI k)), (4, .int (iI (max a b : Nat))), (3, .int (iI (min a b : Nat))), (0, .ref 24)] [] (wd_S ++ cs, va_up I 31 (nn g (n + 1) (un_k p a b k)), J, F, V) X := by
  intro m
  induction m with
  | zero => intro k h1 _; exact absurd h1 (Nat.not_lt_zero _)
  | succ m ih =>
    intro k h1 h2
    refine mw_iload dc_Dr_unite_16 0 rfl ?_
    refine mw_aload_n dc_Dr_unite_18 rfl 3 rfl ?_
    refine mi_get (ci := 3) (k := 2) dc_Dr_unite_19 rfl wi_Dr rfl rfl (by decide) fl_Dr_40 hL ?_
    refine mi_icmp_ge (tgt := 51) dc_Dr_unite_22 (by decide) (iB_mk (by omega) (by omega)) (iB_mk (by omega) (by omega)) (fun hh => ?_) (fun hh => ?_)
    · have e : k = n + 1 := by omega
      subst e
      rw [nn_c un_e]
      exact mw_vret dc_Dr_unite_51 rfl hx
    · have hk : k ≤ n := by omega
      have hpk := hp k hk
      refine mw_aload_n dc_Dr_unite_25 rfl 3 rfl ?_
      refine mi_get (ci := 3) (k := 8) dc_Dr_unite_26 rfl wi_Dr rfl rfl (by decide) fl_Dr_31 hV.2.2.2.2.2.2.1 ?_
      refine mw_iload dc_Dr_unite_29 0 rfl ?_
      refine mi_iald dc_Dr_unite_31 rfl ⟨by omega, by omega, by decide⟩ (v := iI (p k)) (by rw [Int.toNat_natCast, show va_up I 31 (nn g (n + 1) (un_k p a b k)) 31 = nn g (n + 1) (un_k p a b k) from va_up_self _ _ _, nn_a (by omega)]; unfold un_k; rw [if_neg (by omega)]) ?_
      refine mw_iload dc_Dr_unite_32 1 rfl ?_
      refine mi_icmp_ne (tgt := 45) dc_Dr_unite_34 (by decide) (iB_mk (by omega) (by omega)) (iB_mk (by omega) (by omega)) (fun h034 => ?_) (fun h034 => ?_)
      · refine mi_iinc dc_Dr_unite_45 0 rfl (by decide) rfl ?_
        refine mw_goto (tgt := 16) dc_Dr_unite_48 (by decide) ?_
        refine mw_pick [0, 1, 2, 3] rfl ?_
        rw [un_sf (show ¬ p k = max a b by omega)]
        exact ih (k + 1) (by omega) (by omega)
      · refine mw_aload_n dc_Dr_unite_37 rfl 3 rfl ?_
        refine mi_get (ci := 3) (k := 8) dc_Dr_unite_38 rfl wi_Dr rfl rfl (by decide) fl_Dr_31 hV.2.2.2.2.2.2.1 ?_
        refine mw_iload dc_Dr_unite_41 0 rfl ?_
        refine mw_iload_n dc_Dr_unite_43 rfl 2 rfl ?_
        refine mi_iast dc_Dr_unite_44 rfl ⟨by omega, by omega, by decide⟩ (I' := va_up I 31 (nn g (n + 1) (un_k p a b (k + 1)))) (by rw [va_up_self, up_up, Int.toNat_natCast, nn_u _ (by omega), un_st (by omega)]) ?_
        refine mi_iinc dc_Dr_unite_45 0 rfl (by decide) rfl ?_
        refine mw_goto (tgt := 16) dc_Dr_unite_48 (by decide) ?_
        refine mw_pick [0, 1, 2, 3] rfl ?_
        exact ih (k + 1) (by omega) (by omega)
theorem ev_unite {G : mm_G} {d : Nat} {cs : mm_Sh} {I : Nat → Nat → Int32} {J : Nat → Nat → Int64} {F : Nat → Nat → Option Nat} {V : Nat → Nat → Value} {n a b : Nat} {g : Nat → Int32} {p : Nat → Nat} (hV : dr_V V) (hn : n ≤ 6) (ha : a ≤ n) (hb : b ≤ n) (hp : ∀ k, k ≤ n → p k ≤ n) (hL : V 24 2 = .int (iI ((n + 1 : Nat) : Int))) : mE G mt_Dr_unite d 0 0 [.ref 24, .int (iI a), .int (iI b)] (wd_S ++ cs, va_up I 31 (nn g (n + 1) p), J, F, V) (fun o h1 => o = .inl none ∧ h1 = (wd_S ++ cs, va_up I 31 (nn g (n + 1) (un p a b)), J, F, V)) := by
  refine mE_intro (by decide) (fun k h q => nomatch q.1) (Nat.le_of_ble_eq_true rfl) ?_
  show mW G mt_Dr_unite d 0 0 0 [(0, .ref 24), (1, .int (iI a)), (2, .int (iI b))] [] (wd_S ++ cs, va_up I 31 (nn g (n + 1) p), J, F, V) _
  refine mw_iload_n dc_Dr_unite_0 rfl 1 rfl ?_
  refine mw_iload_n dc_Dr_unite_1 rfl 2 rfl ?_
  refine mi_mmin dc_Dr_unite_2 jk_Dr_51 (Nat.le_of_ble_eq_true rfl) (iB_mk (by omega) (by omega)) (iB_mk (by omega) (by omega)) (show _ = ((min a b : Nat) : Int) by split <;> omega) ?_
  refine mw_istore_n dc_Dr_unite_5 rfl (by decide) rfl ?_
  refine mw_iload_n dc_Dr_unite_6 rfl 2 rfl ?_
  refine mw_iload_n dc_Dr_unite_7 rfl 3 rfl ?_
  refine mi_mmax dc_Dr_unite_8 jk_Dr_57 (Nat.le_of_ble_eq_true rfl) (iB_mk (by omega) (by omega)) (iB_mk (by omega) (by omega)) (show _ = ((max a b : Nat) : Int) by split <;> omega) ?_
  refine mw_istore dc_Dr_unite_11 (by decide) rfl ?_
  refine mi_const dc_Dr_unite_13 ?_
  refine mw_istore dc_Dr_unite_14 (by decide) rfl ?_
  refine mw_pick [0, 1, 2, 3] rfl ?_
  have k := lp_unite (G := G) (d := d) (bc := 0) (bs := 0) (cs := cs) (I := I) (J := J) (F := F) (V := V) (g := g) (X := fun o h1 => o = .inl none ∧ h1 = (wd_S ++ cs, va_up I 31 (nn g (n + 1) (un p a b)), J, F, V)) hV hn ha hb hp hL ⟨rfl, rfl⟩ (n + 2) 0 (by omega) (by omega)
  rw [un_0] at k
  exact k
