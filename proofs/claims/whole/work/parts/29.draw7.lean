/-! putEnd, draw -/
def pe_I (I : Nat → Nat → Int32) (ze zs : Int) : Nat → Nat → Int32 := va_up (va_up I 28 (upd (I 28) zs.toNat (iI ze))) 29 (upd (I 29) ze.toNat (iI zs))
theorem pe_k {I : Nat → Nat → Int32} {ze zs : Int} {a : Nat} (h : 29 < a) : pe_I I ze zs a = I a := by
  unfold pe_I
  rw [va_up_ne _ _ (by omega), va_up_ne _ _ (by omega)]
def en1 (z : Int) : Int := if 0 < z then 2 * z - 1 else -2 * z
def en2 (z : Int) : Int := if 0 < z then 2 * z else -2 * z - 1
def dw_0 (I : Nat → Nat → Int32) (n : Nat) : Nat → Nat → Int32 := pe_I (pe_I (va_up I 27 (upd (upd (I 27) 0 (iI 0)) (n + 1) (iI ((n : Int) + 1)))) 0 0) (2 * n + 1) (2 * n + 1)
def dw_s (I : Nat → Nat → Int32) (p : Nat) (y : Int) : Nat → Nat → Int32 := pe_I (pe_I (va_up I 27 (upd (I 27) (p + 1) (iI y))) (en1 y) (2 * p + 1)) (en2 y) (2 * p + 2)
def dw_p (I : Nat → Nat → Int32) (n : Nat) (y : Nat → Int) : Nat → Nat → Nat → Int32
  | 0 => dw_0 I n
  | p + 1 => dw_s (dw_p I n y p) p (y p)
theorem dw_k {I : Nat → Nat → Int32} {n : Nat} {y : Nat → Int} {a : Nat} (h : 29 < a) : ∀ p, dw_p I n y p a = I a := by
  intro p
  induction p with
  | zero =>
    show dw_0 I n a = I a
    unfold dw_0
    rw [pe_k h, pe_k h, va_up_ne _ _ (by omega)]
  | succ p ih =>
    show dw_s (dw_p I n y p) p (y p) a = I a
    unfold dw_s
    rw [pe_k h, pe_k h, va_up_ne _ _ (by omega), ih]
theorem ev_putEnd {G : mm_G} {d : Nat} {cs : mm_Sh} {I : Nat → Nat → Int32} {J : Nat → Nat → Int64} {F : Nat → Nat → Option Nat} {V : Nat → Nat → Value} {ze zs : Int} (hV : dr_V V) (he : 0 ≤ ze ∧ ze < 14) (hs : 0 ≤ zs ∧ zs < 14) : mE G mt_Dr_putEnd d 0 0 [.ref 24, .int (iI ze), .int (iI zs)] (wd_S ++ cs, I, J, F, V) (fun o h1 => o = .inl none ∧ h1 = (wd_S ++ cs, pe_I I ze zs, J, F, V)) := by
  refine mE_intro (by decide) (fun k h q => nomatch q.1) (Nat.le_of_ble_eq_true rfl) ?_
  show mW G mt_Dr_putEnd d 0 0 0 [(0, .ref 24), (1, .int (iI ze)), (2, .int (iI zs))] [] (wd_S ++ cs, I, J, F, V) _
  refine mw_aload_n dc_Dr_putEnd_0 rfl 0 rfl ?_
  refine mi_get (ci := 3) (k := 5) dc_Dr_putEnd_1 rfl wi_Dr rfl rfl (by decide) fl_Dr_21 hV.2.2.2.1 ?_
  refine mw_iload_n dc_Dr_putEnd_4 rfl 2 rfl ?_
  refine mw_iload_n dc_Dr_putEnd_5 rfl 1 rfl ?_
  refine mi_iast dc_Dr_putEnd_6 rfl ⟨by omega, by omega, by decide⟩ rfl ?_
  refine mw_aload_n dc_Dr_putEnd_7 rfl 0 rfl ?_
  refine mi_get (ci := 3) (k := 6) dc_Dr_putEnd_8 rfl wi_Dr rfl rfl (by decide) fl_Dr_24 hV.2.2.2.2.1 ?_
  refine mw_iload_n dc_Dr_putEnd_11 rfl 1 rfl ?_
  refine mw_iload_n dc_Dr_putEnd_12 rfl 2 rfl ?_
  refine mi_iast dc_Dr_putEnd_13 rfl ⟨by omega, by omega, by decide⟩ (I' := pe_I I ze zs) rfl ?_
  exact mw_vret dc_Dr_putEnd_14 rfl ⟨rfl, rfl⟩
theorem lp_draw1 {G : mm_G} {d bc bs : Nat} {cs : mm_Sh} {I : Nat → Nat → Int32} {J : Nat → Nat → Int64} {F : Nat → Nat → Option Nat} {V : Nat → Nat → Value} {X : mm_X} {n a na : Nat} {y : Nat → Int} (hV : dr_V V) (hn : n ≤ 6) (ha : 33 < a) (haS : (wd_S ++ cs)[a]? = some (.inl (0, na))) (hna : n ≤ na ∧ na < 2147483648) (hy : ∀ p, p < n → I a p = iI (y p) ∧ y p ≠ 0 ∧ -(n : Int) ≤ y p ∧ y p ≤ n) (hx : mW G mt_Dr_draw (d + 1) bc bs 138 [(3, .int (iI n)), (0, .ref 24), (1, .ref a), (2, .int (iI n))] [] (wd_S ++ cs, dw_p I n y n, J, F, V) X) :
    ∀ (m p : Nat), n - p < m → p ≤ n → mW G mt_Dr_draw (d + 1) bc bs 56 [(3, .int (iI p)), (0, .ref 24), (1, .ref a), (2, .int (iI n))] [] (wd_S ++ cs, dw_p I n y p, J, F, V) X := by
  intro m
  induction m with
  | zero => intro p h1 _; exact absurd h1 (Nat.not_lt_zero _)
  | succ m ih =>
    intro p h1 h2
    refine mw_iload_n dc_Dr_draw_56 rfl 0 rfl ?_
    refine mw_iload_n dc_Dr_draw_57 rfl 3 rfl ?_
    refine mi_icmp_ge (tgt := 138) dc_Dr_draw_58 (by decide) (iB_mk (by omega) (by omega)) (iB_mk (by omega) (by omega)) (fun hh => ?_) (fun hh => ?_)
    · have e : p = n := by omega
      subst e
      exact hx
    · have hp : p < n := by omega
      obtain ⟨q1, q2, q3, q4⟩ := hy p hp
      refine mw_aload_n dc_Dr_draw_61 rfl 2 rfl ?_
      refine mw_iload_n dc_Dr_draw_62 rfl 0 rfl ?_
      refine mi_iald dc_Dr_draw_63 haS ⟨by omega, by omega, hna.2⟩ (v := iI (y p)) (by rw [Int.toNat_natCast, dw_k (by omega)]; exact q1) ?_
      refine mw_istore dc_Dr_draw_64 (by decide) rfl ?_
      refine mw_aload_n dc_Dr_draw_66 rfl 2 rfl ?_
      refine mi_get (ci := 3) (k := 4) dc_Dr_draw_67 rfl wi_Dr rfl rfl (by decide) fl_Dr_18 hV.2.2.1 ?_
      refine mw_iload_n dc_Dr_draw_70 rfl 1 rfl ?_
      refine mi_const dc_Dr_draw_71 ?_
      refine mi_iadd dc_Dr_draw_72 ?_
      refine mw_iload dc_Dr_draw_73 0 rfl ?_
      refine mi_iast dc_Dr_draw_75 rfl ⟨by omega, by omega, by decide⟩ (I' := va_up (dw_p I n y p) 27 (upd (dw_p I n y p 27) (p + 1) (iI (y p)))) (by rw [show ((p : Int) + 1).toNat = p + 1 by omega]) ?_
      refine mw_aload_n dc_Dr_draw_76 rfl 2 rfl ?_
      refine mw_iload dc_Dr_draw_77 0 rfl ?_
      refine mi_if_le (tgt := 91) dc_Dr_draw_79 (by decide) (iB_mk (by omega) (by omega)) (fun hy1 => ?_) (fun hy1 => ?_)
      · have e1 : en1 (y p) = -2 * y p := if_neg (show ¬ 0 < y p by omega)
        have e2 : en2 (y p) = -2 * y p - 1 := if_neg (show ¬ 0 < y p by omega)
        refine mi_bipush dc_Dr_draw_91 (by decide) ?_
        refine mw_iload dc_Dr_draw_93 0 rfl ?_
        refine mi_imul dc_Dr_draw_95 ?_
        refine mi_const dc_Dr_draw_96 ?_
        refine mw_iload_n dc_Dr_draw_97 rfl 1 rfl ?_
        refine mi_imul dc_Dr_draw_98 ?_
        refine mi_const dc_Dr_draw_99 ?_
        refine mi_iadd dc_Dr_draw_100 ?_
        refine mz_V2 (M2 := mt_Dr_putEnd) dc_Dr_draw_101 ml_Dr_47 rfl rfl ny_Dr_putEnd (by decide) (Nat.le_of_ble_eq_true rfl) (ev_putEnd hV ⟨by omega, by omega⟩ ⟨by omega, by omega⟩) (fun v h1 hY => ?_)
        obtain ⟨hv, rfl⟩ := hY
        cases hv
        refine mw_aload_n dc_Dr_draw_104 rfl 2 rfl ?_
        refine mw_iload dc_Dr_draw_105 0 rfl ?_
        refine mi_if_le (tgt := 117) dc_Dr_draw_107 (by decide) (iB_mk (by omega) (by omega)) (fun hy2 => ?_) (fun hy2 => ?_)
        · refine mi_bipush dc_Dr_draw_117 (by decide) ?_
          refine mw_iload dc_Dr_draw_119 0 rfl ?_
          refine mi_imul dc_Dr_draw_121 ?_
          refine mi_const dc_Dr_draw_122 ?_
          refine mi_isub dc_Dr_draw_123 ?_
          refine mi_const dc_Dr_draw_124 ?_
          refine mw_iload_n dc_Dr_draw_125 rfl 1 rfl ?_
          refine mi_imul dc_Dr_draw_126 ?_
          refine mi_const dc_Dr_draw_127 ?_
          refine mi_iadd dc_Dr_draw_128 ?_
          refine mz_V2 (M2 := mt_Dr_putEnd) dc_Dr_draw_129 ml_Dr_47 rfl rfl ny_Dr_putEnd (by decide) (Nat.le_of_ble_eq_true rfl) (ev_putEnd hV ⟨by omega, by omega⟩ ⟨by omega, by omega⟩) (fun v h1 hY => ?_)
          obtain ⟨hv, rfl⟩ := hY
          cases hv
          refine mi_iinc dc_Dr_draw_132 1 rfl (by decide) rfl ?_
          refine mw_goto (tgt := 56) dc_Dr_draw_135 (by decide) ?_
          refine mw_pick [0, 2, 3, 4] rfl ?_
          have k2 := ih (p + 1) (by omega) (by omega)
          rw [show dw_p I n y (p + 1) = dw_s (dw_p I n y p) p (y p) from rfl] at k2
          unfold dw_s at k2
          rw [e1, e2] at k2
          exact k2
        · exact absurd hy1 hy2
      · have e1 : en1 (y p) = 2 * y p - 1 := if_pos (show 0 < y p by omega)
        have e2 : en2 (y p) = 2 * y p := if_pos (show 0 < y p by omega)
        refine mi_const dc_Dr_draw_82 ?_
        refine mw_iload dc_Dr_draw_83 0 rfl ?_
        refine mi_imul dc_Dr_draw_85 ?_
        refine mi_const dc_Dr_draw_86 ?_
        refine mi_isub dc_Dr_draw_87 ?_
        refine mw_goto (tgt := 96) dc_Dr_draw_88 (by decide) ?_
        refine mi_const dc_Dr_draw_96 ?_
        refine mw_iload_n dc_Dr_draw_97 rfl 1 rfl ?_
        refine mi_imul dc_Dr_draw_98 ?_
        refine mi_const dc_Dr_draw_99 ?_
        refine mi_iadd dc_Dr_draw_100 ?_
        refine mz_V2 (M2 := mt_Dr_putEnd) dc_Dr_draw_101 ml_Dr_47 rfl rfl ny_Dr_putEnd (by decide) (Nat.le_of_ble_eq_true rfl) (ev_putEnd hV ⟨by omega, by omega⟩ ⟨by omega, by omega⟩) (fun v h1 hY => ?_)
        obtain ⟨hv, rfl⟩ := hY
        cases hv
        refine mw_aload_n dc_Dr_draw_104 rfl 2 rfl ?_
        refine mw_iload dc_Dr_draw_105 0 rfl ?_
        refine mi_if_le (tgt := 117) dc_Dr_draw_107 (by decide) (iB_mk (by omega) (by omega)) (fun hy2 => ?_) (fun hy2 => ?_)
        · exact absurd hy2 hy1
        · refine mi_const dc_Dr_draw_110 ?_
          refine mw_iload dc_Dr_draw_111 0 rfl ?_
          refine mi_imul dc_Dr_draw_113 ?_
          refine mw_goto (tgt := 124) dc_Dr_draw_114 (by decide) ?_
          refine mi_const dc_Dr_draw_124 ?_
          refine mw_iload_n dc_Dr_draw_125 rfl 1 rfl ?_
          refine mi_imul dc_Dr_draw_126 ?_
          refine mi_const dc_Dr_draw_127 ?_
          refine mi_iadd dc_Dr_draw_128 ?_
          refine mz_V2 (M2 := mt_Dr_putEnd) dc_Dr_draw_129 ml_Dr_47 rfl rfl ny_Dr_putEnd (by decide) (Nat.le_of_ble_eq_true rfl) (ev_putEnd hV ⟨by omega, by omega⟩ ⟨by omega, by omega⟩) (fun v h1 hY => ?_)
          obtain ⟨hv, rfl⟩ := hY
          cases hv
          refine mi_iinc dc_Dr_draw_132 1 rfl (by decide) rfl ?_
          refine mw_goto (tgt := 56) dc_Dr_draw_135 (by decide) ?_
          refine mw_pick [0, 2, 3, 4] rfl ?_
          have k2 := ih (p + 1) (by omega) (by omega)
          rw [show dw_p I n y (p + 1) = dw_s (dw_p I n y p) p (y p) from rfl] at k2
          unfold dw_s at k2
          rw [e1, e2] at k2
          exact k2
def lo_f (so : Nat → Nat) (k : Nat) : Nat := min (so (2 * k)) (so (2 * k + 1))
def hi_f (so : Nat → Nat) (k : Nat) : Nat := max (so (2 * k)) (so (2 * k + 1))
def dw_l (I : Nat → Nat → Int32) (so : Nat → Nat) (k : Nat) : Nat → Nat → Int32 := va_up (va_up I 25 (nn (I 25) k (lo_f so))) 26 (nn (I 26) k (hi_f so))
theorem dw_l0 (I : Nat → Nat → Int32) (so : Nat → Nat) : dw_l I so 0 = I := by
  unfold dw_l
  rw [nn_0, nn_0, up_id]
  exact up_id I 26
theorem lp_draw2 {G : mm_G} {d bc bs : Nat} {cs : mm_Sh} {I : Nat → Nat → Int32} {J : Nat → Nat → Int64} {F : Nat → Nat → Option Nat} {V : Nat → Nat → Value} {X : mm_X} {n a : Nat} {ea so : Nat → Nat} (hV : dr_V V) (hn : n ≤ 6) (he : dr_e I n ea so) (hL : V 24 2 = .int (iI ((n + 1 : Nat) : Int))) (hx : mW G mt_Dr_draw (d + 1) bc bs 208 [(0, .ref 24)] [] (wd_S ++ cs, dw_l I so (n + 1), J, F, V) X) :
    ∀ (m k : Nat), n + 1 - k < m → k ≤ n + 1 → mW G mt_Dr_draw (d + 1) bc bs 140 [(3, .int (iI k)), (0, .ref 24)] [] (wd_S ++ cs, dw_l I so k, J, F, V) X := by
  intro m
  induction m with
  | zero => intro k h1 _; exact absurd h1 (Nat.not_lt_zero _)
  | succ m ih =>
    intro k h1 h2
    refine mw_iload_n dc_Dr_draw_140 rfl 0 rfl ?_
    refine mw_aload_n dc_Dr_draw_141 rfl 1 rfl ?_
    refine mi_get (ci := 3) (k := 2) dc_Dr_draw_142 rfl wi_Dr rfl rfl (by decide) fl_Dr_40 hL ?_
    refine mi_icmp_ge (tgt := 208) dc_Dr_draw_145 (by decide) (iB_mk (by omega) (by omega)) (iB_mk (by omega) (by omega)) (fun hh => ?_) (fun hh => ?_)
    · have e : k = n + 1 := by omega
      subst e
      refine mw_pick [1] rfl ?_
      exact hx
    · have hk : k ≤ n := by omega
      obtain ⟨q1, q2, q3, q4⟩ := he (2 * k) (by omega)
      obtain ⟨p1, p2, p3, p4⟩ := he (2 * k + 1) (by omega)
      refine mw_aload_n dc_Dr_draw_148 rfl 1 rfl ?_
      refine mi_get (ci := 3) (k := 0) dc_Dr_draw_149 rfl wi_Dr rfl rfl (by decide) fl_Dr_11 hV.1 ?_
      refine mw_iload_n dc_Dr_draw_152 rfl 0 rfl ?_
      refine mw_aload_n dc_Dr_draw_153 rfl 1 rfl ?_
      refine mi_get (ci := 3) (k := 6) dc_Dr_draw_154 rfl wi_Dr rfl rfl (by decide) fl_Dr_24 hV.2.2.2.2.1 ?_
      refine mi_const dc_Dr_draw_157 ?_
      refine mw_iload_n dc_Dr_draw_158 rfl 0 rfl ?_
      refine mi_imul dc_Dr_draw_159 ?_
      refine mi_iald dc_Dr_draw_160 rfl ⟨by omega, by omega, by decide⟩ (v := iI (so (2 * k))) (by rw [show (2 * (k : Int)).toNat = 2 * k by omega]; exact q2) ?_
      refine mw_aload_n dc_Dr_draw_161 rfl 1 rfl ?_
      refine mi_get (ci := 3) (k := 6) dc_Dr_draw_162 rfl wi_Dr rfl rfl (by decide) fl_Dr_24 hV.2.2.2.2.1 ?_
      refine mi_const dc_Dr_draw_165 ?_
      refine mw_iload_n dc_Dr_draw_166 rfl 0 rfl ?_
      refine mi_imul dc_Dr_draw_167 ?_
      refine mi_const dc_Dr_draw_168 ?_
      refine mi_iadd dc_Dr_draw_169 ?_
      refine mi_iald dc_Dr_draw_170 rfl ⟨by omega, by omega, by decide⟩ (v := iI (so (2 * k + 1))) (by rw [show (2 * (k : Int) + 1).toNat = 2 * k + 1 by omega]; exact p2) ?_
      refine mi_mmin dc_Dr_draw_171 jk_Dr_51 (Nat.le_of_ble_eq_true rfl) (iB_mk (by omega) (by omega)) (iB_mk (by omega) (by omega)) (show _ = ((lo_f so k : Nat) : Int) by unfold lo_f; split <;> omega) ?_
      refine mi_iast dc_Dr_draw_174 rfl ⟨by omega, by omega, by decide⟩ (I' := va_up (va_up I 25 (nn (I 25) (k + 1) (lo_f so))) 26 (nn (I 26) k (hi_f so))) (by rw [Int.toNat_natCast]; show va_up (dw_l I so k) 25 (upd (nn (I 25) k (lo_f so)) k (iI (lo_f so k : Nat))) = _; rw [nn_s]; unfold dw_l; rw [up_cm _ _ _ (show 26 ≠ 25 by decide), up_up]) ?_
      refine mw_aload_n dc_Dr_draw_175 rfl 1 rfl ?_
      refine mi_get (ci := 3) (k := 1) dc_Dr_draw_176 rfl wi_Dr rfl rfl (by decide) fl_Dr_15 hV.2.1 ?_
      refine mw_iload_n dc_Dr_draw_179 rfl 0 rfl ?_
      refine mw_aload_n dc_Dr_draw_180 rfl 1 rfl ?_
      refine mi_get (ci := 3) (k := 6) dc_Dr_draw_181 rfl wi_Dr rfl rfl (by decide) fl_Dr_24 hV.2.2.2.2.1 ?_
      refine mi_const dc_Dr_draw_184 ?_
      refine mw_iload_n dc_Dr_draw_185 rfl 0 rfl ?_
      refine mi_imul dc_Dr_draw_186 ?_
      refine mi_iald dc_Dr_draw_187 rfl ⟨by omega, by omega, by decide⟩ (v := iI (so (2 * k))) (by rw [show (2 * (k : Int)).toNat = 2 * k by omega]; exact q2) ?_
      refine mw_aload_n dc_Dr_draw_188 rfl 1 rfl ?_
      refine mi_get (ci := 3) (k := 6) dc_Dr_draw_189 rfl wi_Dr rfl rfl (by decide) fl_Dr_24 hV.2.2.2.2.1 ?_
      refine mi_const dc_Dr_draw_192 ?_
      refine mw_iload_n dc_Dr_draw_193 rfl 0 rfl ?_
      refine mi_imul dc_Dr_draw_194 ?_
      refine mi_const dc_Dr_draw_195 ?_
      refine mi_iadd dc_Dr_draw_196 ?_
      refine mi_iald dc_Dr_draw_197 rfl ⟨by omega, by omega, by decide⟩ (v := iI (so (2 * k + 1))) (by rw [show (2 * (k : Int) + 1).toNat = 2 * k + 1 by omega]; exact p2) ?_
      refine mi_mmax dc_Dr_draw_198 jk_Dr_57 (Nat.le_of_ble_eq_true rfl) (iB_mk (by omega) (by omega)) (iB_mk (by omega) (by omega)) (show _ = ((hi_f so k : Nat) : Int) by unfold hi_f; split <;> omega) ?_
      refine mi_iast dc_Dr_draw_201 rfl ⟨by omega, by omega, by decide⟩ (I' := dw_l I so (k + 1)) (by rw [Int.toNat_natCast]; show va_up (va_up (va_up I 25 (nn (I 25) (k + 1) (lo_f so))) 26 (nn (I 26) k (hi_f so))) 26 (upd (nn (I 26) k (hi_f so)) k (iI (hi_f so k : Nat))) = _; rw [nn_s, up_up]; rfl) ?_
      refine mi_iinc dc_Dr_draw_202 0 rfl (by decide) rfl ?_
      refine mw_goto (tgt := 140) dc_Dr_draw_205 (by decide) ?_
      refine mw_pick [0, 1] rfl ?_
      exact ih (k + 1) (by omega) (by omega)
def pa_f (so : Nat → Nat) (n : Nat) : Nat → Nat := jp_o (lo_f so) (hi_f so) n (n + 1)
def bd_f (so : Nat → Nat) (n : Nat) : Nat → Bool := mb_s (pa_f so n) (lo_f so) (hi_f so) (n + 1)
/-- all of the drawing's arrays behind draw -/
def dr_I (I : Nat → Nat → Int32) (n : Nat) (y : Nat → Int) (so : Nat → Nat) : Nat → Nat → Int32 :=
  va_up (va_up (dw_l (dw_p I n y n) so (n + 1)) 31 (nn (dw_p I n y n 31) (n + 1) (pa_f so n))) 32 (nb (dw_p I n y n 32) (n + 1) (bd_f so n))
def dr_W (V : Nat → Nat → Value) (n : Nat) : Nat → Nat → Value := fu (fu V 24 2 (.int (iI ((n + 1 : Nat) : Int)))) 24 3 (.int (iI ((2 * n + 2 : Nat) : Int)))
theorem dr_WV {V : Nat → Nat → Value} {n : Nat} (h : dr_V V) : dr_V (dr_W V n) := by
  obtain ⟨h0, h1, h4, h5, h6, h7, h8, h9, h10⟩ := h
  have e : ∀ j, j ≠ 2 → j ≠ 3 → dr_W V n 24 j = V 24 j := fun j a b => by
    unfold dr_W
    rw [fu_n2 _ _ b, fu_n2 _ _ a]
  exact ⟨(e 0 (by decide) (by decide)).trans h0, (e 1 (by decide) (by decide)).trans h1, (e 4 (by decide) (by decide)).trans h4, (e 5 (by decide) (by decide)).trans h5, (e 6 (by decide) (by decide)).trans h6, (e 7 (by decide) (by decide)).trans h7, (e 8 (by decide) (by decide)).trans h8, (e 9 (by decide) (by decide)).trans h9, (e 10 (by decide) (by decide)).trans h10⟩
theorem dr_WL (V : Nat → Nat → Value) (n : Nat) : dr_W V n 24 2 = .int (iI ((n + 1 : Nat) : Int)) := by
  unfold dr_W
  rw [fu_n2 _ _ (by decide), fu_at]
theorem dr_WP (V : Nat → Nat → Value) (n : Nat) : dr_W V n 24 3 = .int (iI ((2 * n + 2 : Nat) : Int)) := by
  unfold dr_W
  rw [fu_at]
theorem dr_lhl {I : Nat → Nat → Int32} {n : Nat} {ea so : Nat → Nat} (hn : n ≤ 6) (he : dr_e I n ea so) : dr_lh (dw_l I so (n + 1)) n (lo_f so) (hi_f so) := fun k hk => by
  obtain ⟨q1, q2, q3, q4⟩ := he (2 * k) (by omega)
  obtain ⟨p1, p2, p3, p4⟩ := he (2 * k + 1) (by omega)
  refine ⟨?_, ?_, ?_, ?_⟩
  · show nn (I 25) (n + 1) (lo_f so) k = _
    rw [nn_a (by omega)]
  · show nn (I 26) (n + 1) (hi_f so) k = _
    rw [nn_a (by omega)]
  · unfold lo_f; omega
  · unfold hi_f; omega
set_option maxHeartbeats 1000000 in
theorem ev_draw {G : mm_G} {d : Nat} {cs : mm_Sh} {I : Nat → Nat → Int32} {J : Nat → Nat → Int64} {F : Nat → Nat → Option Nat} {V : Nat → Nat → Value} {n a na : Nat} {y : Nat → Int} (hV : dr_V V) (hn : n ≤ 6) (ha : 33 < a) (haS : (wd_S ++ cs)[a]? = some (.inl (0, na))) (hna : n ≤ na ∧ na < 2147483648) (hy : ∀ p, p < n → I a p = iI (y p) ∧ y p ≠ 0 ∧ -(n : Int) ≤ y p ∧ y p ≤ n) {ea so : Nat → Nat} (hd : dr_e (dw_p I n y n) n ea so) : mE G mt_Dr_draw (d + 3) 0 0 [.ref 24, .ref a, .int (iI n)] (wd_S ++ cs, I, J, F, V) (fun o h1 => o = .inl none ∧ h1 = (wd_S ++ cs, dr_I I n y so, J, F, dr_W V n)) := by
  refine mE_intro (by decide) (fun k h q => nomatch q.1) (Nat.le_of_ble_eq_true rfl) ?_
  show mW G mt_Dr_draw (d + 3) 0 0 0 [(0, .ref 24), (1, .ref a), (2, .int (iI n))] [] (wd_S ++ cs, I, J, F, V) _
  have hV2 := dr_WV (n := n) hV
  refine mw_aload_n dc_Dr_draw_0 rfl 0 rfl ?_
  refine mw_iload_n dc_Dr_draw_1 rfl 2 rfl ?_
  refine mi_const dc_Dr_draw_2 ?_
  refine mi_iadd dc_Dr_draw_3 ?_
  refine mi_puti (ci := 3) (k := 2) dc_Dr_draw_4 rfl wi_Dr tk_Dr nm_Dr rfl rfl (by decide) fl_Dr_40 rfl (by decide +kernel) (show va_up V 24 (va_up (V 24) 2 (.int (iI ((n : Int) + 1)))) = fu V 24 2 (.int (iI ((n + 1 : Nat) : Int))) from rfl) ?_
  refine mw_aload_n dc_Dr_draw_7 rfl 0 rfl ?_
  refine mi_const dc_Dr_draw_8 ?_
  refine mw_iload_n dc_Dr_draw_9 rfl 2 rfl ?_
  refine mi_imul dc_Dr_draw_10 ?_
  refine mi_const dc_Dr_draw_11 ?_
  refine mi_iadd dc_Dr_draw_12 ?_
  refine mi_puti (ci := 3) (k := 3) dc_Dr_draw_13 rfl wi_Dr tk_Dr nm_Dr rfl rfl (by decide) fl_Dr_44 rfl (by decide +kernel) (show va_up (fu V 24 2 (.int (iI ((n + 1 : Nat) : Int)))) 24 (va_up (fu V 24 2 (.int (iI ((n + 1 : Nat) : Int))) 24) 3 (.int (iI (2 * (n : Int) + 2)))) = dr_W V n from rfl) ?_
  refine mw_aload_n dc_Dr_draw_16 rfl 0 rfl ?_
  refine mi_get (ci := 3) (k := 4) dc_Dr_draw_17 rfl wi_Dr rfl rfl (by decide) fl_Dr_18 hV2.2.2.1 ?_
  refine mi_const dc_Dr_draw_20 ?_
  refine mi_const dc_Dr_draw_21 ?_
  refine mi_iast dc_Dr_draw_22 rfl ⟨by omega, by omega, by decide⟩ rfl ?_
  refine mw_aload_n dc_Dr_draw_23 rfl 0 rfl ?_
  refine mi_get (ci := 3) (k := 4) dc_Dr_draw_24 rfl wi_Dr rfl rfl (by decide) fl_Dr_18 hV2.2.2.1 ?_
  refine mw_iload_n dc_Dr_draw_27 rfl 2 rfl ?_
  refine mi_const dc_Dr_draw_28 ?_
  refine mi_iadd dc_Dr_draw_29 ?_
  refine mw_iload_n dc_Dr_draw_30 rfl 2 rfl ?_
  refine mi_const dc_Dr_draw_31 ?_
  refine mi_iadd dc_Dr_draw_32 ?_
  refine mi_iast dc_Dr_draw_33 rfl ⟨by omega, by omega, by decide⟩ (I' := va_up I 27 (upd (upd (I 27) 0 (iI 0)) (n + 1) (iI ((n : Int) + 1)))) (by rw [va_up_self, up_up, show ((n : Int) + 1).toNat = n + 1 by omega]; rfl) ?_
  refine mw_aload_n dc_Dr_draw_34 rfl 0 rfl ?_
  refine mi_const dc_Dr_draw_35 ?_
  refine mi_const dc_Dr_draw_36 ?_
  refine mz_V2 (M2 := mt_Dr_putEnd) dc_Dr_draw_37 ml_Dr_47 rfl rfl ny_Dr_putEnd (by decide) (Nat.le_of_ble_eq_true rfl) (ev_putEnd hV2 ⟨by omega, by omega⟩ ⟨by omega, by omega⟩) (fun v h1 hY => ?_)
  obtain ⟨hv, rfl⟩ := hY
  cases hv
  refine mw_aload_n dc_Dr_draw_40 rfl 0 rfl ?_
  refine mi_const dc_Dr_draw_41 ?_
  refine mw_iload_n dc_Dr_draw_42 rfl 2 rfl ?_
  refine mi_imul dc_Dr_draw_43 ?_
  refine mi_const dc_Dr_draw_44 ?_
  refine mi_iadd dc_Dr_draw_45 ?_
  refine mi_const dc_Dr_draw_46 ?_
  refine mw_iload_n dc_Dr_draw_47 rfl 2 rfl ?_
  refine mi_imul dc_Dr_draw_48 ?_
  refine mi_const dc_Dr_draw_49 ?_
  refine mi_iadd dc_Dr_draw_50 ?_
  refine mz_V2 (M2 := mt_Dr_putEnd) dc_Dr_draw_51 ml_Dr_47 rfl rfl ny_Dr_putEnd (by decide) (Nat.le_of_ble_eq_true rfl) (ev_putEnd hV2 ⟨by omega, by omega⟩ ⟨by omega, by omega⟩) (fun v h1 hY => ?_)
  obtain ⟨hv, rfl⟩ := hY
  cases hv
  refine mi_const dc_Dr_draw_54 ?_
  refine mw_istore_n dc_Dr_draw_55 rfl (by decide) rfl ?_
  refine mw_pick [0, 1, 2, 3] rfl ?_
  refine lp_draw1 (I := I) hV2 hn ha haS hna hy ?_ (n + 1) 0 (by omega) (by omega)
  refine mi_const dc_Dr_draw_138 ?_
  refine mw_istore_n dc_Dr_draw_139 rfl (by decide) rfl ?_
  refine mw_pick [0, 1] rfl ?_
  have k := lp_draw2 (G := G) (d := d + 2) (bc := 0) (bs := 0) (cs := cs) (I := dw_p I n y n) (J := J) (F := F) (V := dr_W V n) (X := fun o h1 => o = .inl none ∧ h1 = (wd_S ++ cs, dr_I I n y so, J, F, dr_W V n)) (a := a) hV2 hn hd (dr_WL V n) ?_ (n + 2) 0 (by omega) (by omega)
  · rw [dw_l0] at k
    exact k
  · have hq := dr_lhl hn hd
    refine mw_aload_n dc_Dr_draw_208 rfl 0 rfl ?_
    refine mz_V0 (M2 := mt_Dr_joinParts) dc_Dr_draw_209 ml_Dr_60 rfl rfl ny_Dr_joinParts (by decide) (Nat.le_of_ble_eq_true rfl) (ev_joinParts hV2 hq hn (dr_WL V n)) (fun v h1 hY => ?_)
    obtain ⟨hv, rfl⟩ := hY
    cases hv
    refine mw_aload_n dc_Dr_draw_212 rfl 0 rfl ?_
    refine mz_V0 (M2 := mt_Dr_markBadParts) dc_Dr_draw_213 ml_Dr_63 rfl rfl ny_Dr_markBadParts (by decide) (Nat.le_of_ble_eq_true rfl) (ev_markBadParts (pa := pa_f so n) hV2 hq (fun k hk => ⟨by rw [va_up_self, nn_a (by omega)]; rfl, jp_ole (n + 1) (Nat.le_refl _) k hk⟩) hn (dr_WL V n)) (fun v h1 hY => ?_)
    obtain ⟨hv, rfl⟩ := hY
    cases hv

    exact mw_vret dc_Dr_draw_216 rfl ⟨rfl, rfl⟩
