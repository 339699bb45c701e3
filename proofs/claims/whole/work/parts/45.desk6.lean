/-! interval -/
def mn (y : Nat → Int) (f : Nat) : Nat → Int
  | 0 => ab (y f)
  | t + 1 => if ab (y (f + 1 + t)) < mn y f t then ab (y (f + 1 + t)) else mn y f t
def mx (y : Nat → Int) (f : Nat) : Nat → Int
  | 0 => ab (y f)
  | t + 1 => if mx y f t < ab (y (f + 1 + t)) then ab (y (f + 1 + t)) else mx y f t
theorem mn_b {y : Nat → Int} {n f : Nat} (hy : ∀ p, p < n → 0 ≤ ab (y p) ∧ ab (y p) ≤ 6) : ∀ t, f + t < n → (0 ≤ mn y f t ∧ mn y f t ≤ 6) ∧ 0 ≤ mx y f t ∧ mx y f t ≤ 6 := fun t => by
  induction t with
  | zero => intro h; exact ⟨hy f h, hy f h⟩
  | succ t ih =>
    intro h
    have h1 := ih (by omega)
    have h2 := hy (f + 1 + t) (by omega)
    refine ⟨?_, ?_⟩
    · show 0 ≤ (if ab (y (f + 1 + t)) < mn y f t then ab (y (f + 1 + t)) else mn y f t) ∧ (if ab (y (f + 1 + t)) < mn y f t then ab (y (f + 1 + t)) else mn y f t) ≤ 6
      split <;> omega
    · show 0 ≤ (if mx y f t < ab (y (f + 1 + t)) then ab (y (f + 1 + t)) else mx y f t) ∧ (if mx y f t < ab (y (f + 1 + t)) then ab (y (f + 1 + t)) else mx y f t) ≤ 6
      split <;> omega
def iv_i (y : Nat → Int) (f : Nat) (k : Int) : Nat → Nat → Int → Int ⊕ Int
  | 0, _, b => .inr b
  | r + 1, t, b => if mx y f (t + 1) - mn y f (t + 1) = (t : Int) + 1 then (if b = k then .inl (10 * f + (f + 1 + t : Nat)) else iv_i y f k r (t + 1) (b + 1)) else iv_i y f k r (t + 1) b
def iv_o (y : Nat → Int) (n : Nat) (k : Int) : Nat → Nat → Int → Int
  | 0, _, _ => -1
  | r + 1, f, b => match iv_i y f k (n - 1 - f) 0 b with
    | .inl a => a
    | .inr b2 => iv_o y n k r (f + 1) b2
theorem lp_iv1 {G : mm_G} {d bc bs : Nat} {cs : mm_Sh} {I : Nat → Nat → Int32} {J : Nat → Nat → Int64} {F : Nat → Nat → Option Nat} {V : Nat → Nat → Value} {X : mm_X} {n : Nat} {k : Int} {y : Nat → Int} (hW : dk_W F V) (hg : V 0 0 = .int (iI n)) (hn : n ≤ 6) (hk : iB k) (hy : ∀ p, p < n → I 37 p = iI (y p) ∧ -6 ≤ y p ∧ y p ≤ 6) {f : Nat} (hf : f < n) :
    ∀ (r t : Nat) (b : Int), t + r = n - 1 - f → 0 ≤ b ∧ b ≤ 10 * f + t → (∀ a, iv_i y f k r t b = .inl a → X (.inl (some (.int (iI a)))) (wd_S ++ cs, I, J, F, V)) → (∀ b2, iv_i y f k r t b = .inr b2 → 0 ≤ b2 ∧ b2 ≤ 10 * f + 9 → mW G mt_De_interval (d + 1) bc bs 140 [(5, .int (iI f)), (4, .int (iI b2)), (0, .ref 0), (3, .int (iI k))] [] (wd_S ++ cs, I, J, F, V) X) →
      mW G mt_De_interval (d + 1) bc bs 64 [(8, .int (iI ((f + 1 + t : Nat) : Int))), (7, .int (iI (mx y f t))), (6, .int (iI (mn y f t))), (5, .int (iI f)), (4, .int (iI b)), (0, .ref 0), (3, .int (iI k))] [] (wd_S ++ cs, I, J, F, V) X := by
  have hy2 : ∀ p, p < n → 0 ≤ ab (y p) ∧ ab (y p) ≤ 6 := fun p hp => ab_le ⟨(hy p hp).2.1, (hy p hp).2.2⟩
  intro r
  induction r with
  | zero =>
    intro t b h1 h2 hx hz
    have hb1 := mn_b (f := f) hy2 t (by omega)
    refine mw_iload dc_De_interval_64 0 rfl ?_
    refine mw_aload_n dc_De_interval_66 rfl 5 rfl ?_
    refine mi_get (ci := 0) (k := 0) dc_De_interval_67 rfl wi_De rfl rfl (by decide) fl_De_9 hg ?_
    refine mi_icmp_ge (tgt := 140) dc_De_interval_70 (by decide) (iB_mk (by omega) (by omega)) (iB_mk (by omega) (by omega)) (fun hh => ?_) (fun hh => ?_)
    · refine mw_pick [3, 4, 5, 6] rfl ?_
      exact hz b rfl (by omega)
    · exact absurd hh (by omega)
  | succ r ih =>
    intro t b h1 h2 hx hz
    have hb1 := mn_b (f := f) hy2 t (by omega)
    have hb2 := mn_b (f := f) hy2 (t + 1) (by omega)
    obtain ⟨q1, q2, q3⟩ := hy (f + 1 + t) (by omega)
    have hq := hy2 (f + 1 + t) (by omega)
    refine mw_iload dc_De_interval_64 0 rfl ?_
    refine mw_aload_n dc_De_interval_66 rfl 5 rfl ?_
    refine mi_get (ci := 0) (k := 0) dc_De_interval_67 rfl wi_De rfl rfl (by decide) fl_De_9 hg ?_
    refine mi_icmp_ge (tgt := 140) dc_De_interval_70 (by decide) (iB_mk (by omega) (by omega)) (iB_mk (by omega) (by omega)) (fun hh => ?_) (fun hh => ?_)
    · exact absurd hh (by omega)
    · refine mw_aload_n dc_De_interval_73 rfl 5 rfl ?_
      refine mi_get (ci := 0) (k := 8) dc_De_interval_74 rfl wi_De rfl rfl (by decide) fl_De_50 hW.1.2.2.2.2.2.2.1 ?_
      refine mw_iload dc_De_interval_77 0 rfl ?_
      refine mi_iald dc_De_interval_79 rfl ⟨by omega, by omega, by decide⟩ (v := iI (y (f + 1 + t))) (by rw [Int.toNat_natCast]; exact q1) ?_
      refine mi_mabs dc_De_interval_80 jk_De_145 (Nat.le_of_ble_eq_true rfl) (iB_mk (by omega) (by omega)) (c := ab (y (f + 1 + t))) rfl ?_
      refine mw_istore dc_De_interval_83 (by decide) rfl ?_
      refine mw_iload dc_De_interval_85 3 rfl ?_
      refine mw_iload dc_De_interval_87 0 rfl ?_
      refine mi_mmin dc_De_interval_89 jk_De_151 (Nat.le_of_ble_eq_true rfl) (iB_mk (by omega) (by omega)) (iB_mk (by omega) (by omega)) (c := mn y f (t + 1)) rfl ?_
      refine mw_istore dc_De_interval_92 (by decide) rfl ?_
      refine mw_iload dc_De_interval_94 3 rfl ?_
      refine mw_iload dc_De_interval_96 1 rfl ?_
      refine mi_mmax dc_De_interval_98 jk_De_155 (Nat.le_of_ble_eq_true rfl) (iB_mk (by omega) (by omega)) (iB_mk (by omega) (by omega)) (c := mx y f (t + 1)) rfl ?_
      refine mw_istore dc_De_interval_101 (by decide) rfl ?_
      refine mw_iload dc_De_interval_103 0 rfl ?_
      refine mw_iload dc_De_interval_105 1 rfl ?_
      refine mi_isub dc_De_interval_107 ?_
      refine mw_iload dc_De_interval_108 3 rfl ?_
      refine mw_iload dc_De_interval_110 4 rfl ?_
      refine mi_isub dc_De_interval_112 ?_
      refine mi_icmp_ne (tgt := 134) dc_De_interval_113 (by decide) (iB_mk (by omega) (by omega)) (iB_mk (by omega) (by omega)) (fun h0113 => ?_) (fun h0113 => ?_)
      · refine mi_iinc dc_De_interval_134 3 rfl (by decide) rfl ?_
        refine mw_goto (tgt := 64) dc_De_interval_137 (by decide) ?_
        refine mw_pick [0, 1, 2, 4, 5, 6, 7] rfl ?_
        have e9 : iv_i y f k (r + 1) t b = iv_i y f k r (t + 1) b := if_neg (by omega)
        exact ih (t + 1) (b) (by omega) (by omega) (fun a ha => hx a (e9.trans ha)) (fun b2 hb2 => hz b2 (e9.trans hb2))
      · refine mw_iload dc_De_interval_116 5 rfl ?_
        refine mw_iload_n dc_De_interval_118 rfl 7 rfl ?_
        refine mi_icmp_ne (tgt := 131) dc_De_interval_119 (by decide) (iB_mk (by omega) (by omega)) hk (fun h1119 => ?_) (fun h1119 => ?_)
        · refine mi_iinc dc_De_interval_131 5 rfl (by decide) rfl ?_
          refine mi_iinc dc_De_interval_134 4 rfl (by decide) rfl ?_
          refine mw_goto (tgt := 64) dc_De_interval_137 (by decide) ?_
          refine mw_pick [0, 2, 3, 5, 1, 6, 7] rfl ?_
          have e9 : iv_i y f k (r + 1) t b = iv_i y f k r (t + 1) (b + 1) := (if_pos (by omega)).trans (if_neg (by omega))
          exact ih (t + 1) (b + 1) (by omega) (by omega) (fun a ha => hx a (e9.trans ha)) (fun b2 hb2 => hz b2 (e9.trans hb2))
        · refine mi_bipush dc_De_interval_122 (by decide) ?_
          refine mw_iload dc_De_interval_124 4 rfl ?_
          refine mi_imul dc_De_interval_126 ?_
          refine mw_iload dc_De_interval_127 3 rfl ?_
          refine mi_iadd dc_De_interval_129 ?_
          have e9 : iv_i y f k (r + 1) t b = .inl (10 * f + (f + 1 + t : Nat)) := (if_pos (by omega)).trans (if_pos (by omega))
          exact mw_iret dc_De_interval_130 rfl rfl (hx _ e9)
theorem lp_iv2 {G : mm_G} {d bc bs : Nat} {cs : mm_Sh} {I : Nat → Nat → Int32} {J : Nat → Nat → Int64} {F : Nat → Nat → Option Nat} {V : Nat → Nat → Value} {X : mm_X} {n : Nat} {k : Int} {y : Nat → Int} (hW : dk_W F V) (hg : V 0 0 = .int (iI n)) (hn : n ≤ 6) (hk : iB k) (hy : ∀ p, p < n → I 37 p = iI (y p) ∧ -6 ≤ y p ∧ y p ≤ 6) :
    ∀ (r f : Nat) (b : Int), f + r = n → 0 ≤ b ∧ b ≤ 10 * f → X (.inl (some (.int (iI (iv_o y n k r f b))))) (wd_S ++ cs, I, J, F, V) → mW G mt_De_interval (d + 1) bc bs 33 [(5, .int (iI f)), (4, .int (iI b)), (0, .ref 0), (3, .int (iI k))] [] (wd_S ++ cs, I, J, F, V) X := by
  intro r
  induction r with
  | zero =>
    intro f b h1 h2 hx
    refine mw_iload dc_De_interval_33 0 rfl ?_
    refine mw_aload_n dc_De_interval_35 rfl 2 rfl ?_
    refine mi_get (ci := 0) (k := 0) dc_De_interval_36 rfl wi_De rfl rfl (by decide) fl_De_9 hg ?_
    refine mi_icmp_ge (tgt := 146) dc_De_interval_39 (by decide) (iB_mk (by omega) (by omega)) (iB_mk (by omega) (by omega)) (fun hh => ?_) (fun hh => ?_)
    · refine mi_const dc_De_interval_146 ?_
      exact mw_iret dc_De_interval_147 rfl rfl hx
    · exact absurd hh (by omega)
  | succ r ih =>
    intro f b h1 h2 hx
    obtain ⟨q1, q2, q3⟩ := hy f (by omega)
    refine mw_iload dc_De_interval_33 0 rfl ?_
    refine mw_aload_n dc_De_interval_35 rfl 2 rfl ?_
    refine mi_get (ci := 0) (k := 0) dc_De_interval_36 rfl wi_De rfl rfl (by decide) fl_De_9 hg ?_
    refine mi_icmp_ge (tgt := 146) dc_De_interval_39 (by decide) (iB_mk (by omega) (by omega)) (iB_mk (by omega) (by omega)) (fun hh => ?_) (fun hh => ?_)
    · exact absurd hh (by omega)
    · refine mw_aload_n dc_De_interval_42 rfl 2 rfl ?_
      refine mi_get (ci := 0) (k := 8) dc_De_interval_43 rfl wi_De rfl rfl (by decide) fl_De_50 hW.1.2.2.2.2.2.2.1 ?_
      refine mw_iload dc_De_interval_46 0 rfl ?_
      refine mi_iald dc_De_interval_48 rfl ⟨by omega, by omega, by decide⟩ (v := iI (y f)) (by rw [Int.toNat_natCast]; exact q1) ?_
      refine mi_mabs dc_De_interval_49 jk_De_145 (Nat.le_of_ble_eq_true rfl) (iB_mk (by omega) (by omega)) (c := ab (y f)) rfl ?_
      refine mw_istore dc_De_interval_52 (by decide) rfl ?_
      refine mw_iload dc_De_interval_54 0 rfl ?_
      refine mw_istore dc_De_interval_56 (by decide) rfl ?_
      refine mw_iload dc_De_interval_58 2 rfl ?_
      refine mi_const dc_De_interval_60 ?_
      refine mi_iadd dc_De_interval_61 ?_
      refine mw_istore dc_De_interval_62 (by decide) rfl ?_
      refine mw_pick [0, 1, 2, 3, 4, 5, 6] rfl ?_
      refine lp_iv1 hW hg hn hk hy (show f < n by omega) (n - 1 - f) 0 b (by omega) (by omega) (fun a ha => ?_) (fun b2 hb2 hb3 => ?_)
      · have e : iv_o y n k (r + 1) f b = a := by
          show (match iv_i y f k (n - 1 - f) 0 b with | .inl a => a | .inr b2 => iv_o y n k r (f + 1) b2) = a
          rw [ha]
        rw [e] at hx
        exact hx
      · have e : iv_o y n k (r + 1) f b = iv_o y n k r (f + 1) b2 := by
          show (match iv_i y f k (n - 1 - f) 0 b with | .inl a => a | .inr b2 => iv_o y n k r (f + 1) b2) = _
          rw [hb2]
        rw [e] at hx
        refine mi_iinc dc_De_interval_140 0 rfl (by decide) rfl ?_
        refine mw_goto (tgt := 33) dc_De_interval_143 (by decide) ?_
        refine mw_pick [0, 1, 2, 3] rfl ?_
        exact ih (f + 1) b2 (by omega) (by omega) hx
theorem ev_interval {G : mm_G} {d : Nat} {cs : mm_Sh} {I : Nat → Nat → Int32} {J : Nat → Nat → Int64} {F : Nat → Nat → Option Nat} {V : Nat → Nat → Value} {n : Nat} {u : Nat → Nat → Int} {y : Nat → Nat → Nat → Int} {ea so : Nat → Nat → Nat → Nat} (hW : dk_W F V) (hg : V 0 0 = .int (iI n)) (hn : n ≤ 6) (hO : dk_O I n u y ea so) {a b k : Int} (hst : G.1.stackTraces = false) (ha : iB a) (hb : iB b) (hk : iB k) : mT G mt_De_interval (d + 2) 2 12 [.ref 0, .int (iI a), .int (iI b), .int (iI k)] (wd_S ++ cs, I, J, F, V) (fun o h1 => ((okS a ∧ okS b) → (∃ K, sc_k I K ∧ h1 = (wd_S ++ cs, K, J, F, V)) ∧ o = .inl (some (.int (iI (iv_o (y a.toNat b.toNat) n k n 0 0))))) ∧ (¬ (okS a ∧ okS b) → o = .inr 1 ∧ h1 = (wd_S ++ cs, I, J, F, V))) := by
  refine mT_intro hst (by decide) (Nat.le_of_ble_eq_true rfl) ?_
  show mW G mt_De_interval (d + 2) 2 12 0 [(0, .ref 0), (1, .int (iI a)), (2, .int (iI b)), (3, .int (iI k))] [] (wd_S ++ cs, I, J, F, V) _
  refine mw_iload_n dc_De_interval_0 rfl 1 rfl ?_
  refine mw_iload_n dc_De_interval_1 rfl 2 rfl ?_
  refine mc_SP2 (mc := 2) (ms := 12) (bc := 0) (bs := 0) (M2 := mt_De_checkSlots) dc_De_interval_2 ml_De_94 ny_De_checkSlots (by decide) (Nat.le_of_ble_eq_true rfl) (ev_checkSlots hst ha hb) (fun v h1 hY => ?_) rfl (fun j h1 hY => by obtain ⟨hp, rfl, rfl⟩ := ck_x hY; exact ⟨fun q => absurd q hp, fun _ => ⟨rfl, rfl⟩⟩)
  obtain ⟨hp, rfl, rfl⟩ := ck_r hY
  refine mw_aload_n dc_De_interval_5 rfl 0 rfl ?_
  refine mw_aload_n dc_De_interval_6 rfl 0 rfl ?_
  refine mi_get (ci := 0) (k := 1) dc_De_interval_7 rfl wi_De rfl rfl (by decide) fl_De_15 hW.1.1 ?_
  refine mw_iload_n dc_De_interval_10 rfl 1 rfl ?_
  refine mi_aald dc_De_interval_11 rfl rfl ⟨by omega, by omega, by decide⟩ (hW.2.1 a.toNat (by omega)).1 ?_
  refine mi_get (ci := 1) (k := 0) dc_De_interval_12 (sl_W a.toNat (by omega)).1 wi_Sl rfl rfl (by decide) fl_De_91 (hW.2.1 a.toNat (by omega)).2.1 ?_
  refine mw_aload_n dc_De_interval_15 rfl 0 rfl ?_
  refine mi_get (ci := 0) (k := 1) dc_De_interval_16 rfl wi_De rfl rfl (by decide) fl_De_15 hW.1.1 ?_
  refine mw_iload_n dc_De_interval_19 rfl 2 rfl ?_
  refine mi_aald dc_De_interval_20 rfl rfl ⟨by omega, by omega, by decide⟩ (hW.2.1 b.toNat (by omega)).1 ?_
  refine mi_get (ci := 1) (k := 0) dc_De_interval_21 (sl_W b.toNat (by omega)).1 wi_Sl rfl rfl (by decide) fl_De_91 (hW.2.1 b.toNat (by omega)).2.1 ?_
  refine mz_V2 (M2 := mt_De_relate) dc_De_interval_24 ml_De_141 rfl rfl ny_De_relate (by decide) (Nat.le_of_ble_eq_true rfl) (ev_relate hW hg hn ⟨(sl_W a.toNat (by omega)).2.1, by unfold sp; omega, by unfold sp; omega⟩ ⟨(sl_W b.toNat (by omega)).2.1, by unfold sp; omega, by unfold sp; omega⟩ ⟨hn, by decide⟩ ⟨hn, by decide⟩ (hO.1 _ (by omega)) (hO.1 _ (by omega))) (fun v h1 hY => ?_)
  obtain ⟨hv, rfl⟩ := hY
  cases hv
  refine mi_const dc_De_interval_27 ?_
  refine mw_istore dc_De_interval_28 (by decide) rfl ?_
  refine mi_const dc_De_interval_30 ?_
  refine mw_istore dc_De_interval_31 (by decide) rfl ?_
  refine mw_pick [0, 1, 2, 5] rfl ?_
  have ho := hO.2 a.toNat b.toNat (by omega) (by omega)
  exact lp_iv2 (y := y a.toNat b.toNat) hW hg hn hk (fun p hp9 => ⟨(ho.1 p hp9).1, by have := (ho.1 p hp9).2.2; omega, by have := (ho.1 p hp9).2.2; omega⟩) n 0 0 (by omega) (by omega) ⟨fun _ => ⟨⟨_, sc_re I n _ _, rfl⟩, rfl⟩, fun q => absurd hp q⟩
