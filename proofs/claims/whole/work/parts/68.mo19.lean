/-! the reference's unrank (into the row 'other', 50) -/
theorem us_sh {k s : Nat} (hk : k < 2147483648) (hs : s < 7) : iI (k : Nat) >>> (iI (s : Nat) &&& 31) = iI ((k / 2 ^ s : Nat) : Int) := by
  have h := pk_shrN (n := k) (by omega) (iI (s : Nat) &&& 31) s (sh_i s hs)
  rw [iI_nI, iI_nI] at h
  exact h
theorem us_b {k s : Nat} (hk : k < 2147483648) (hs : s < 7) : (iI (k : Nat) >>> (iI (s : Nat) &&& 31)) &&& iI 1 = iI ((k / 2 ^ s % 2 : Nat) : Int) := by
  rw [us_sh hk hs]
  have hd : k / 2 ^ s ≤ k := Nat.div_le_self _ _
  have h := pk_andN (n := k / 2 ^ s) (by omega) (m := iI 1) 1 (by decide)
  rw [iI_nI, iI_nI] at h
  exact h
def fa : Nat → Nat
  | 0 => 1
  | k + 1 => (k + 1) * fa k
theorem fa_le : ∀ k, k < 7 → 1 ≤ fa k ∧ fa k ≤ 720 := by decide +kernel
def fi (m : Nat) : Nat → Nat → Nat → Nat
  | 0, _, g => g
  | f + 1, l, g => if m / 2 ^ g % 2 = 1 ∨ 0 < l then fi m f (if m / 2 ^ g % 2 = 1 then l else l - 1) (g + 1) else g
theorem fi_ge (m : Nat) : ∀ f l g, g ≤ fi m f l g := fun f => by
  induction f with
  | zero => intro l g; exact Nat.le_refl _
  | succ f ih =>
    intro l g
    show g ≤ if m / 2 ^ g % 2 = 1 ∨ 0 < l then fi m f (if m / 2 ^ g % 2 = 1 then l else l - 1) (g + 1) else g
    have := ih (if m / 2 ^ g % 2 = 1 then l else l - 1) (g + 1)
    split <;> omega
def fik (n m l : Nat) : Bool := decide ((pbt n m = true ∧ l + pop m < n) → (1 ≤ fi m 7 l 1 ∧ fi m 7 l 1 ≤ n ∧ m / 2 ^ fi m 7 l 1 % 2 = 0))
theorem fi_k0 : ∀ n, n < 7 → ∀ m, m < 128 → ∀ l, l < 7 → fik n m l = true := by decide +kernel
theorem fi_k {n m l : Nat} (hn : n < 7) (hm : m < 128) (h : pbt n m = true ∧ l + pop m < n) : 1 ≤ fi m 7 l 1 ∧ fi m 7 l 1 ≤ n ∧ m / 2 ^ fi m 7 l 1 % 2 = 0 := of_decide_eq_true (fi_k0 n hn m hm l (by omega)) h
/-- what is left of the rank, and the genes that are used, at a place -/
def uq (n R : Nat) : Nat → Nat × Nat
  | 0 => (R, 0)
  | p + 1 => ((uq n R p).1 % fa (n - 1 - p), (uq n R p).2 ||| 2 ^ fi (uq n R p).2 7 ((uq n R p).1 / fa (n - 1 - p)) 1)
def ug (n R p : Nat) : Nat := fi (uq n R p).2 7 ((uq n R p).1 / fa (n - 1 - p)) 1
def ur (n k p : Nat) : Int := if k / 2 ^ (n - 1 - p) % 2 = 1 then -((ug n (k / 2 ^ n) p : Nat) : Int) else (ug n (k / 2 ^ n) p : Nat)
theorem uq_i {n R : Nat} (hn : n ≤ 6) (hR : R < fa n) : ∀ p, p ≤ n → (uq n R p).1 < fa (n - p) ∧ (uq n R p).2 < 128 ∧ pbt n (uq n R p).2 = true ∧ pop (uq n R p).2 = p := fun p => by
  induction p with
  | zero => exact fun _ => ⟨hR, Nat.zero_lt_succ _, pb_0 n (by omega), (show pop 0 = 0 by decide)⟩
  | succ p ih =>
    intro hp
    obtain ⟨h1, h2, h3, h4⟩ := ih (by omega)
    have f1 := fa_le (n - 1 - p) (by omega)
    have e1 : fa (n - p) = (n - p) * fa (n - 1 - p) := by rw [show n - p = (n - 1 - p) + 1 by omega]; rfl
    rw [e1] at h1
    have h5 : (uq n R p).1 / fa (n - 1 - p) < n - p := Nat.div_lt_of_lt_mul (by rw [Nat.mul_comm]; exact h1)
    obtain ⟨g1, g2, g3⟩ := fi_k (n := n) (m := (uq n R p).2) (l := (uq n R p).1 / fa (n - 1 - p)) (by omega) h2 ⟨h3, by omega⟩
    obtain ⟨b1, b2, b3⟩ := (pb_1 n (by omega) _ h2 h3).2 _ (by omega) g1 g2 g3
    refine ⟨?_, (bi_o _ h2 _ (show fi (uq n R p).2 7 ((uq n R p).1 / fa (n - 1 - p)) 1 < 7 by omega)).2, b2, b3.trans (congrArg (· + 1) h4)⟩
    show (uq n R p).1 % fa (n - 1 - p) < fa (n - (p + 1))
    rw [show n - (p + 1) = n - 1 - p by omega]
    exact Nat.mod_lt _ (by omega)
theorem ug_i {n R p : Nat} (hn : n ≤ 6) (hR : R < fa n) (hp : p < n) : (uq n R p).1 / fa (n - 1 - p) < n - p ∧ 1 ≤ ug n R p ∧ ug n R p ≤ n ∧ (uq n R p).2 / 2 ^ ug n R p % 2 = 0 := by
  obtain ⟨h1, h2, h3, h4⟩ := uq_i hn hR p (by omega)
  have e1 : fa (n - p) = (n - p) * fa (n - 1 - p) := by rw [show n - p = (n - 1 - p) + 1 by omega]; rfl
  rw [e1] at h1
  have h5 : (uq n R p).1 / fa (n - 1 - p) < n - p := Nat.div_lt_of_lt_mul (by rw [Nat.mul_comm]; exact h1)
  exact ⟨h5, fi_k (n := n) (m := (uq n R p).2) (l := (uq n R p).1 / fa (n - 1 - p)) (by omega) h2 ⟨h3, by omega⟩⟩
theorem nr_x {g : Nat → Int32} {p : Nat} {z : Nat → Int} {v : Int32} (h : v = iI (z p)) : upd (nr g 0 p z) p v = nr g 0 (p + 1) z := by
  subst h
  rw [nr_e]
  exact nr_c (fun k hk => by
    by_cases e : k = p
    · subst e; rw [va_up_self]
    · rw [va_up_ne _ _ e])
theorem fa_d {m : Nat} (h : 0 < m) : fa m / m = fa (m - 1) := by
  obtain ⟨k, rfl⟩ := Nat.exists_eq_succ_of_ne_zero (Nat.ne_of_gt h)
  exact Nat.mul_div_cancel_left (fa k) h
theorem lp_ur1 {G : mm_G} {d bc bs : Nat} {cs : mm_Sh} {I : Nat → Nat → Int32} {J : Nat → Nat → Int64} {F : Nat → Nat → Option Nat} {V : Nat → Nat → Value} {X : mm_X} {m p R k : Nat} {al : Int32} {z : Nat} (hm : m < 128) (hz : z ≤ 6) (hx : mW G mt_Mo_unrank d bc bs 149 [(8, .int (iI (z : Nat))), (6, .int (iI p)), (5, .int al), (4, .int (iI (m : Nat))), (3, .int (iI (R : Nat))), (2, .ref 50), (1, .int (iI k)), (0, .ref 39)] [] (wd_S ++ cs, I, J, F, V) X) :
    ∀ (f l g : Nat), g + f = 8 → l < 720 → fi m f l g = z → mW G mt_Mo_unrank d bc bs 105 [(8, .int (iI (g : Nat))), (7, .int (iI (l : Nat))), (6, .int (iI p)), (5, .int al), (4, .int (iI (m : Nat))), (3, .int (iI (R : Nat))), (2, .ref 50), (1, .int (iI k)), (0, .ref 39)] [] (wd_S ++ cs, I, J, F, V) X := by
  intro f
  induction f with
  | zero => intro l g h1 _ h3; exact absurd (show g = z from h3) (by omega)
  | succ f ih =>
    intro l g h1 h2 h3
    have hge := fi_ge m (f + 1) l g
    have e0 : fi m (f + 1) l g = if m / 2 ^ g % 2 = 1 ∨ 0 < l then fi m f (if m / 2 ^ g % 2 = 1 then l else l - 1) (g + 1) else g := rfl
    refine mw_iload dc_Mo_unrank_105 4 rfl ?_
    refine mw_iload dc_Mo_unrank_107 0 rfl ?_
    refine mw_ishr dc_Mo_unrank_109 ?_
    refine mi_const dc_Mo_unrank_110 ?_
    refine mw_iand dc_Mo_unrank_111 ?_
    rw [us_b (k := m) (s := g) (by omega) (by omega)]
    refine mi_const dc_Mo_unrank_112 ?_
    refine mi_icmp_eq (tgt := 121) dc_Mo_unrank_113 (by decide) (iB_mk (by omega) (by omega)) (iB_mk (by omega) (by omega)) (fun h0113 => ?_) (fun h0113 => ?_)
    · refine mw_iload dc_Mo_unrank_121 4 rfl ?_
      refine mw_iload dc_Mo_unrank_123 0 rfl ?_
      refine mw_ishr dc_Mo_unrank_125 ?_
      refine mi_const dc_Mo_unrank_126 ?_
      refine mw_iand dc_Mo_unrank_127 ?_
      rw [us_b (k := m) (s := g) (by omega) (by omega)]
      refine mi_const dc_Mo_unrank_128 ?_
      refine mi_icmp_ne (tgt := 137) dc_Mo_unrank_129 (by decide) (iB_mk (by omega) (by omega)) (iB_mk (by omega) (by omega)) (fun h9 => ?_) (fun h9 => ?_)
      · exfalso; omega
      · refine mw_iload dc_Mo_unrank_132 1 rfl ?_
        refine mw_goto (tgt := 141) dc_Mo_unrank_134 (by decide) ?_
        refine mw_istore dc_Mo_unrank_141 (by decide) rfl ?_
        refine mi_iinc dc_Mo_unrank_143 1 rfl (by decide) rfl ?_
        refine mw_goto (tgt := 105) dc_Mo_unrank_146 (by decide) ?_
        refine mw_pick [0, 1, 2, 3, 4, 5, 6, 7, 8] rfl ?_
        rw [if_pos (Or.inl (by omega)), if_pos (by omega)] at e0
        exact ih (l) (g + 1) (by omega) (by omega) (e0.symm.trans h3)
    · refine mw_iload dc_Mo_unrank_116 1 rfl ?_
      refine mi_if_le (tgt := 149) dc_Mo_unrank_118 (by decide) (iB_mk (by omega) (by omega)) (fun h1118 => ?_) (fun h1118 => ?_)
      · refine mw_pick [0, 2, 3, 4, 5, 6, 7, 8] rfl ?_
        rw [if_neg (fun q => by omega)] at e0
        have e9 : g = z := e0.symm.trans h3
        subst e9
        exact hx
      · refine mw_iload dc_Mo_unrank_121 4 rfl ?_
        refine mw_iload dc_Mo_unrank_123 0 rfl ?_
        refine mw_ishr dc_Mo_unrank_125 ?_
        refine mi_const dc_Mo_unrank_126 ?_
        refine mw_iand dc_Mo_unrank_127 ?_
        rw [us_b (k := m) (s := g) (by omega) (by omega)]
        refine mi_const dc_Mo_unrank_128 ?_
        refine mi_icmp_ne (tgt := 137) dc_Mo_unrank_129 (by decide) (iB_mk (by omega) (by omega)) (iB_mk (by omega) (by omega)) (fun h9 => ?_) (fun h9 => ?_)
        · refine mw_iload dc_Mo_unrank_137 1 rfl ?_
          refine mi_const dc_Mo_unrank_139 ?_
          refine mi_isub dc_Mo_unrank_140 ?_
          refine mw_istore dc_Mo_unrank_141 (by decide) rfl ?_
          refine mi_iinc dc_Mo_unrank_143 1 rfl (by decide) rfl ?_
          refine mw_goto (tgt := 105) dc_Mo_unrank_146 (by decide) ?_
          refine mw_pick [0, 1, 2, 3, 4, 5, 6, 7, 8] rfl ?_
          rw [if_pos (Or.inr (by omega)), if_neg (by omega)] at e0
          rw [show ((l : Int) - 1) = ((l - 1 : Nat) : Int) by omega]
          exact ih (l - 1) (g + 1) (by omega) (by omega) (e0.symm.trans h3)
        · exfalso; omega
theorem lp_ur0 {G : mm_G} {d bc bs : Nat} {cs : mm_Sh} {I : Nat → Nat → Int32} {J : Nat → Nat → Int64} {F : Nat → Nat → Option Nat} {V : Nat → Nat → Value} {X : mm_X} {n k : Nat} (hM : mo_V V) (hg : V 39 1 = .int (iI n)) (hn : 1 ≤ n ∧ n ≤ 6) {R : Int32} (hx : mW G mt_Mo_unrank d bc bs 38 [(5, .int (iI (fa (n - 1) : Nat))), (4, .int (iI 0)), (3, .int R), (2, .ref 50), (1, .int (iI k)), (0, .ref 39)] [] (wd_S ++ cs, I, J, F, V) X) :
    ∀ (m q : Nat), n - q < m → (q + 2 ≤ n ∨ q = 0) → mW G mt_Mo_unrank d bc bs 16 [(6, .int (iI ((q + 2 : Nat) : Int))), (5, .int (iI (fa (q + 1) : Nat))), (4, .int (iI 0)), (3, .int R), (2, .ref 50), (1, .int (iI k)), (0, .ref 39)] [] (wd_S ++ cs, I, J, F, V) X := by
  intro m
  induction m with
  | zero => intro q h1 _; exact absurd h1 (Nat.not_lt_zero _)
  | succ m ih =>
    intro q h1 h2
    have f1 := fa_le (q + 1) (by omega)
    refine mw_iload dc_Mo_unrank_16 0 rfl ?_
    refine mw_aload_n dc_Mo_unrank_18 rfl 6 rfl ?_
    refine mi_get (ci := 5) (k := 1) dc_Mo_unrank_19 rfl wi_Mo rfl rfl (by decide) fl_Mo_7 hg ?_
    refine mi_icmp_ge (tgt := 38) dc_Mo_unrank_22 (by decide) (iB_mk (by omega) (by omega)) (iB_mk (by omega) (by omega)) (fun hh => ?_) (fun hh => ?_)
    · have e : fa (q + 1) = fa (n - 1) := by
        by_cases e1 : n = 1
        · have : q = 0 := by omega
          subst this
          subst e1
          rfl
        · rw [show q + 1 = n - 1 by omega]
      rw [e]
      refine mw_pick [1, 2, 3, 4, 5, 6] rfl ?_
      exact hx
    · refine mw_iload dc_Mo_unrank_25 1 rfl ?_
      refine mw_iload dc_Mo_unrank_27 0 rfl ?_
      refine mi_imul dc_Mo_unrank_29 ?_
      refine mw_istore dc_Mo_unrank_30 (by decide) rfl ?_
      refine mi_iinc dc_Mo_unrank_32 1 rfl (by decide) rfl ?_
      refine mw_goto (tgt := 16) dc_Mo_unrank_35 (by decide) ?_
      refine mw_pick [0, 1, 2, 3, 4, 5, 6] rfl ?_
      have k2 := ih (q + 1) (by omega) (by omega)
      rw [show ((fa (q + 1 + 1) : Nat) : Int) = (fa (q + 1) : Nat) * ((q + 2 : Nat) : Int) by rw [← Int.natCast_mul, Nat.mul_comm]; rfl] at k2
      exact k2
theorem lp_ur {G : mm_G} {d bc bs : Nat} {cs : mm_Sh} {I : Nat → Nat → Int32} {J : Nat → Nat → Int64} {F : Nat → Nat → Option Nat} {V : Nat → Nat → Value} {X : mm_X} {n k : Nat} (hM : mo_V V) (hg : V 39 1 = .int (iI n)) (hn : 1 ≤ n ∧ n ≤ 6) (hk : k / 2 ^ n < fa n) (hk2 : k < 2147483648) (hx : X (.inl none) (wd_S ++ cs, va_up I 50 (nr (I 50) 0 n (ur n k)), J, F, V)) :
    ∀ (m p : Nat), n - p < m → p ≤ n → mW G mt_Mo_unrank d bc bs 41 [(6, .int (iI p)), (5, .int (iI (fa (n - 1 - p) : Nat))), (4, .int (iI ((uq n (k / 2 ^ n) p).2 : Nat))), (3, .int (iI ((uq n (k / 2 ^ n) p).1 : Nat))), (2, .ref 50), (1, .int (iI k)), (0, .ref 39)] [] (wd_S ++ cs, va_up I 50 (nr (I 50) 0 p (ur n k)), J, F, V) X := by
  intro m
  induction m with
  | zero => intro p h1 _; exact absurd h1 (Nat.not_lt_zero _)
  | succ m ih =>
    intro p h1 h2
    have f1 := fa_le (n - 1 - p) (by omega)
    obtain ⟨u1, u2, u3, u4⟩ := uq_i hn.2 hk p h2
    have u5 := (fa_le (n - p) (by omega)).2
    refine mw_iload dc_Mo_unrank_41 0 rfl ?_
    refine mw_aload_n dc_Mo_unrank_43 rfl 6 rfl ?_
    refine mi_get (ci := 5) (k := 1) dc_Mo_unrank_44 rfl wi_Mo rfl rfl (by decide) fl_Mo_7 hg ?_
    refine mi_icmp_ge (tgt := 193) dc_Mo_unrank_47 (by decide) (iB_mk (by omega) (by omega)) (iB_mk (by omega) (by omega)) (fun hh => ?_) (fun hh => ?_)
    · have e : p = n := by omega
      subst e
      exact mw_vret dc_Mo_unrank_193 rfl hx
    · have hp : p < n := by omega
      obtain ⟨g0, g1, g2, g3⟩ := ug_i hn.2 hk hp
      refine mw_iload_n dc_Mo_unrank_50 rfl 3 rfl ?_
      refine mw_iload dc_Mo_unrank_51 1 rfl ?_
      refine mi_idiv dc_Mo_unrank_53 ⟨by omega, by omega, by omega, by omega⟩ ?_
      refine mw_iv (y := iI (((uq n (k / 2 ^ n) p).1 / fa (n - 1 - p) : Nat) : Int)) (congrArg iI (Int.natCast_ediv _ _).symm) ?_
      refine mw_istore dc_Mo_unrank_54 (by decide) rfl ?_
      refine mw_iload_n dc_Mo_unrank_56 rfl 4 rfl ?_
      refine mw_iload dc_Mo_unrank_57 2 rfl ?_
      refine mi_irem dc_Mo_unrank_59 ⟨by omega, by omega, by omega, by omega⟩ ?_
      refine mw_iv (y := iI (((uq n (k / 2 ^ n) p).1 % fa (n - 1 - p) : Nat) : Int)) (congrArg iI (Int.natCast_emod _ _).symm) ?_
      refine mw_istore_n dc_Mo_unrank_60 rfl (by decide) rfl ?_
      refine mw_iload dc_Mo_unrank_61 2 rfl ?_
      refine mi_const dc_Mo_unrank_63 ?_
      refine mi_iadd dc_Mo_unrank_64 ?_
      refine mw_aload_n dc_Mo_unrank_65 rfl 7 rfl ?_
      refine mi_get (ci := 5) (k := 1) dc_Mo_unrank_66 rfl wi_Mo rfl rfl (by decide) fl_Mo_7 hg ?_
      refine mi_icmp_ge (tgt := 99) dc_Mo_unrank_69 (by decide) (iB_mk (by omega) (by omega)) (iB_mk (by omega) (by omega)) (fun h069 => ?_) (fun h069 => ?_)
      · refine mi_const dc_Mo_unrank_99 ?_
        refine mw_iv (y := iI (fa (n - 1 - (p + 1)) : Nat)) (congrArg iI (by rw [show n - 1 - (p + 1) = 0 by omega]; rfl)) ?_
        refine mw_istore dc_Mo_unrank_100 (by decide) rfl ?_
        refine mi_const dc_Mo_unrank_102 ?_
        refine mw_istore dc_Mo_unrank_103 (by decide) rfl ?_
        refine mw_pick [0, 3, 4, 1, 5, 2, 6, 7, 8] rfl ?_
        refine lp_ur1 u2 (z := ug n (k / 2 ^ n) p) (by omega) ?_ 7 _ 1 (by omega) (by omega) rfl
        refine mw_iload dc_Mo_unrank_149 3 rfl ?_
        refine mi_const dc_Mo_unrank_151 ?_
        refine mw_iload dc_Mo_unrank_152 0 rfl ?_
        refine mw_ishl dc_Mo_unrank_154 ?_
        refine mw_ior dc_Mo_unrank_155 ?_
        rw [(bi_o _ u2 _ (show ug n (k / 2 ^ n) p < 7 by omega)).1]
        refine mw_istore dc_Mo_unrank_156 (by decide) rfl ?_
        refine mw_aload_n dc_Mo_unrank_158 rfl 5 rfl ?_
        refine mw_iload dc_Mo_unrank_159 2 rfl ?_
        refine mw_iload_n dc_Mo_unrank_161 rfl 6 rfl ?_
        refine mw_aload_n dc_Mo_unrank_162 rfl 7 rfl ?_
        refine mi_get (ci := 5) (k := 1) dc_Mo_unrank_163 rfl wi_Mo rfl rfl (by decide) fl_Mo_7 hg ?_
        refine mi_const dc_Mo_unrank_166 ?_
        refine mi_isub dc_Mo_unrank_167 ?_
        refine mw_iload dc_Mo_unrank_168 2 rfl ?_
        refine mi_isub dc_Mo_unrank_170 ?_
        refine mw_ishr dc_Mo_unrank_171 ?_
        refine mi_const dc_Mo_unrank_172 ?_
        refine mw_iand dc_Mo_unrank_173 ?_
        rw [show iI ((n : Int) - 1 - (p : Int)) = iI ((n - 1 - p : Nat) : Int) from congrArg iI (by omega), us_b (k := k) (s := n - 1 - p) (by omega) (by omega)]
        refine mi_const dc_Mo_unrank_174 ?_
        refine mi_icmp_ne (tgt := 184) dc_Mo_unrank_175 (by decide) (iB_mk (by omega) (by omega)) (iB_mk (by omega) (by omega)) (fun h5175 => ?_) (fun h5175 => ?_)
        · refine mw_iload dc_Mo_unrank_184 1 rfl ?_
          refine mi_iast dc_Mo_unrank_186 rfl ⟨by omega, by omega, by decide⟩ (I' := va_up I 50 (nr (I 50) 0 (p + 1) (ur n k))) (by rw [va_up_self, up_up, Int.toNat_natCast]; exact congrArg (va_up I 50) (nr_x (by unfold ur; rw [if_neg (by omega)]))) ?_
          refine mi_iinc dc_Mo_unrank_187 2 rfl (by decide) rfl ?_
          refine mw_goto (tgt := 41) dc_Mo_unrank_190 (by decide) ?_
          refine mw_pick [0, 3, 1, 4, 5, 6, 7] rfl ?_
          exact ih (p + 1) (by omega) (by omega)
        · refine mw_iload dc_Mo_unrank_178 1 rfl ?_
          refine mi_ineg dc_Mo_unrank_180 ?_
          refine mw_goto (tgt := 186) dc_Mo_unrank_181 (by decide) ?_
          refine mi_iast dc_Mo_unrank_186 rfl ⟨by omega, by omega, by decide⟩ (I' := va_up I 50 (nr (I 50) 0 (p + 1) (ur n k))) (by rw [va_up_self, up_up, Int.toNat_natCast]; exact congrArg (va_up I 50) (nr_x (by unfold ur; rw [if_pos (by omega)]))) ?_
          refine mi_iinc dc_Mo_unrank_187 2 rfl (by decide) rfl ?_
          refine mw_goto (tgt := 41) dc_Mo_unrank_190 (by decide) ?_
          refine mw_pick [0, 3, 1, 4, 5, 6, 7] rfl ?_
          exact ih (p + 1) (by omega) (by omega)
      · refine mw_aload_n dc_Mo_unrank_72 rfl 7 rfl ?_
        refine mi_get (ci := 5) (k := 1) dc_Mo_unrank_73 rfl wi_Mo rfl rfl (by decide) fl_Mo_7 hg ?_
        refine mi_const dc_Mo_unrank_76 ?_
        refine mi_isub dc_Mo_unrank_77 ?_
        refine mw_iload dc_Mo_unrank_78 2 rfl ?_
        refine mi_isub dc_Mo_unrank_80 ?_
        refine mi_if_le (tgt := 99) dc_Mo_unrank_81 (by decide) (iB_mk (by omega) (by omega)) (fun h81 => ?_) (fun h81 => ?_)
        · exfalso; omega
        · refine mw_iload dc_Mo_unrank_84 3 rfl ?_
          refine mw_aload_n dc_Mo_unrank_86 rfl 7 rfl ?_
          refine mi_get (ci := 5) (k := 1) dc_Mo_unrank_87 rfl wi_Mo rfl rfl (by decide) fl_Mo_7 hg ?_
          refine mi_const dc_Mo_unrank_90 ?_
          refine mi_isub dc_Mo_unrank_91 ?_
          refine mw_iload dc_Mo_unrank_92 2 rfl ?_
          refine mi_isub dc_Mo_unrank_94 ?_
          refine mi_idiv dc_Mo_unrank_95 ⟨by omega, by omega, by omega, by omega⟩ ?_
          refine mw_goto (tgt := 100) dc_Mo_unrank_96 (by decide) ?_
          refine mw_iv (y := iI (fa (n - 1 - (p + 1)) : Nat)) (congrArg iI (by rw [show (n : Int) - 1 - (p : Int) = ((n - 1 - p : Nat) : Int) by omega, ← Int.natCast_ediv]; exact congrArg Int.ofNat (fa_d (by omega)))) ?_
          refine mw_istore dc_Mo_unrank_100 (by decide) rfl ?_
          refine mi_const dc_Mo_unrank_102 ?_
          refine mw_istore dc_Mo_unrank_103 (by decide) rfl ?_
          refine mw_pick [0, 3, 4, 1, 5, 2, 6, 7, 8] rfl ?_
          refine lp_ur1 u2 (z := ug n (k / 2 ^ n) p) (by omega) ?_ 7 _ 1 (by omega) (by omega) rfl
          refine mw_iload dc_Mo_unrank_149 3 rfl ?_
          refine mi_const dc_Mo_unrank_151 ?_
          refine mw_iload dc_Mo_unrank_152 0 rfl ?_
          refine mw_ishl dc_Mo_unrank_154 ?_
          refine mw_ior dc_Mo_unrank_155 ?_
          rw [(bi_o _ u2 _ (show ug n (k / 2 ^ n) p < 7 by omega)).1]
          refine mw_istore dc_Mo_unrank_156 (by decide) rfl ?_
          refine mw_aload_n dc_Mo_unrank_158 rfl 5 rfl ?_
          refine mw_iload dc_Mo_unrank_159 2 rfl ?_
          refine mw_iload_n dc_Mo_unrank_161 rfl 6 rfl ?_
          refine mw_aload_n dc_Mo_unrank_162 rfl 7 rfl ?_
          refine mi_get (ci := 5) (k := 1) dc_Mo_unrank_163 rfl wi_Mo rfl rfl (by decide) fl_Mo_7 hg ?_
          refine mi_const dc_Mo_unrank_166 ?_
          refine mi_isub dc_Mo_unrank_167 ?_
          refine mw_iload dc_Mo_unrank_168 2 rfl ?_
          refine mi_isub dc_Mo_unrank_170 ?_
          refine mw_ishr dc_Mo_unrank_171 ?_
          refine mi_const dc_Mo_unrank_172 ?_
          refine mw_iand dc_Mo_unrank_173 ?_
          rw [show iI ((n : Int) - 1 - (p : Int)) = iI ((n - 1 - p : Nat) : Int) from congrArg iI (by omega), us_b (k := k) (s := n - 1 - p) (by omega) (by omega)]
          refine mi_const dc_Mo_unrank_174 ?_
          refine mi_icmp_ne (tgt := 184) dc_Mo_unrank_175 (by decide) (iB_mk (by omega) (by omega)) (iB_mk (by omega) (by omega)) (fun h5175 => ?_) (fun h5175 => ?_)
          · refine mw_iload dc_Mo_unrank_184 1 rfl ?_
            refine mi_iast dc_Mo_unrank_186 rfl ⟨by omega, by omega, by decide⟩ (I' := va_up I 50 (nr (I 50) 0 (p + 1) (ur n k))) (by rw [va_up_self, up_up, Int.toNat_natCast]; exact congrArg (va_up I 50) (nr_x (by unfold ur; rw [if_neg (by omega)]))) ?_
            refine mi_iinc dc_Mo_unrank_187 2 rfl (by decide) rfl ?_
            refine mw_goto (tgt := 41) dc_Mo_unrank_190 (by decide) ?_
            refine mw_pick [0, 3, 1, 4, 5, 6, 7] rfl ?_
            exact ih (p + 1) (by omega) (by omega)
          · refine mw_iload dc_Mo_unrank_178 1 rfl ?_
            refine mi_ineg dc_Mo_unrank_180 ?_
            refine mw_goto (tgt := 186) dc_Mo_unrank_181 (by decide) ?_
            refine mi_iast dc_Mo_unrank_186 rfl ⟨by omega, by omega, by decide⟩ (I' := va_up I 50 (nr (I 50) 0 (p + 1) (ur n k))) (by rw [va_up_self, up_up, Int.toNat_natCast]; exact congrArg (va_up I 50) (nr_x (by unfold ur; rw [if_pos (by omega)]))) ?_
            refine mi_iinc dc_Mo_unrank_187 2 rfl (by decide) rfl ?_
            refine mw_goto (tgt := 41) dc_Mo_unrank_190 (by decide) ?_
            refine mw_pick [0, 3, 1, 4, 5, 6, 7] rfl ?_
            exact ih (p + 1) (by omega) (by omega)
theorem ev_unrank {G : mm_G} {d : Nat} {cs : mm_Sh} {I : Nat → Nat → Int32} {J : Nat → Nat → Int64} {F : Nat → Nat → Option Nat} {V : Nat → Nat → Value} {n k : Nat} (hM : mo_V V) (hg : V 39 1 = .int (iI n)) (hn : 1 ≤ n ∧ n ≤ 6) (hk : k / 2 ^ n < fa n) (hk2 : k < 2147483648) : mE G mt_Mo_unrank d 0 0 [.ref 39, .int (iI (k : Nat)), .ref 50] (wd_S ++ cs, I, J, F, V) (fun o h1 => o = .inl none ∧ h1 = (wd_S ++ cs, va_up I 50 (nr (I 50) 0 n (ur n k)), J, F, V)) := by
  refine mE_intro (by decide) (fun k h q => nomatch q.1) (Nat.le_of_ble_eq_true rfl) ?_
  show mW G mt_Mo_unrank d 0 0 0 [(0, .ref 39), (1, .int (iI (k : Nat))), (2, .ref 50)] [] (wd_S ++ cs, I, J, F, V) _
  refine mw_iload_n dc_Mo_unrank_0 rfl 1 rfl ?_
  refine mw_aload_n dc_Mo_unrank_1 rfl 0 rfl ?_
  refine mi_get (ci := 5) (k := 1) dc_Mo_unrank_2 rfl wi_Mo rfl rfl (by decide) fl_Mo_7 hg ?_
  refine mw_ishr dc_Mo_unrank_5 ?_
  rw [us_sh hk2 (by omega)]
  refine mw_istore_n dc_Mo_unrank_6 rfl (by decide) rfl ?_
  refine mi_const dc_Mo_unrank_7 ?_
  refine mw_istore dc_Mo_unrank_8 (by decide) rfl ?_
  refine mi_const dc_Mo_unrank_10 ?_
  refine mw_istore dc_Mo_unrank_11 (by decide) rfl ?_
  refine mi_const dc_Mo_unrank_13 ?_
  refine mw_istore dc_Mo_unrank_14 (by decide) rfl ?_
  refine mw_pick [0, 1, 2, 3, 6, 5, 4] rfl ?_
  refine lp_ur0 hM hg hn ?_ 10 0 (by omega) (by omega)
  refine mi_const dc_Mo_unrank_38 ?_
  refine mw_istore dc_Mo_unrank_39 (by decide) rfl ?_
  refine mw_pick [0, 1, 2, 3, 4, 5, 6] rfl ?_
  refine mw_h (h' := (wd_S ++ cs, va_up I 50 (nr (I 50) 0 0 (ur n k)), J, F, V)) (by rw [nr_n, up_id]) ?_
  exact lp_ur hM hg hn hk hk2 ⟨rfl, rfl⟩ (n + 1) 0 (by omega) (by omega)
