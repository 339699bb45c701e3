/-! the reference's draw -/
def md_o (g : Nat → Int32) (y : Nat → Int) : Nat → Nat → Int32
  | 0 => g
  | p + 1 => upd (upd (md_o g y p) (2 * p + 1) (iI (en1 (y p)))) (2 * p + 2) (iI (en2 (y p)))
def md_0 (g : Nat → Int32) (n : Nat) : Nat → Int32 := upd (upd g 0 (iI 0)) (2 * n + 1) (iI (2 * (n : Int) + 1))
def ms_o (g : Nat → Int32) (ea : Nat → Nat) : Nat → Nat → Int32
  | 0 => g
  | s + 1 => upd (ms_o g ea s) (ea s) (iI s)
def md_I (I : Nat → Nat → Int32) (n : Nat) (u v y : Nat → Int) (ea : Nat → Nat) : Nat → Nat → Int32 := va_up (va_up (va_up I 49 (mr_o (I 49) u v n n)) 52 (md_o (md_0 (I 52) n) y n)) 53 (ms_o (I 53) ea (2 * n + 2))
def md_k (I : Nat → Nat → Int32) (n : Nat) (u v y : Nat → Int) (ea : Nat → Nat) : Prop := (∀ p, p < n → mr_o (I 49) u v n n p = iI (y p) ∧ y p ≠ 0 ∧ -(n : Int) ≤ y p ∧ y p ≤ n) ∧ ∀ s, s < 2 * n + 2 → md_o (md_0 (I 52) n) y n s = iI (ea s) ∧ ea s < 2 * n + 2
def mo_or (I : Nat → Nat → Int32) (n s : Nat) (u : Nat → Int) : Prop := ∀ p, p < n → I 40 (6 * s + p) = iI (u p) ∧ -100 ≤ u p ∧ u p ≤ 100
theorem lp_md1 {G : mm_G} {d bc bs : Nat} {cs : mm_Sh} {I : Nat → Nat → Int32} {J : Nat → Nat → Int64} {F : Nat → Nat → Option Nat} {V : Nat → Nat → Value} {X : mm_X} {n a b : Nat} {y : Nat → Int} {g : Nat → Int32} (hM : mo_V V) (hg : V 39 1 = .int (iI n)) (hn : n ≤ 6) (hy : ∀ p, p < n → I 49 p = iI (y p) ∧ y p ≠ 0 ∧ -(n : Int) ≤ y p ∧ y p ≤ n) (hx : mW G mt_Mo_draw d bc bs 130 [(0, .ref 39), (1, .int (iI a)), (2, .int (iI b))] [] (wd_S ++ cs, va_up I 52 (md_o g y n), J, F, V) X) :
    ∀ (m p : Nat), n - p < m → p ≤ n → mW G mt_Mo_draw d bc bs 50 [(3, .int (iI p)), (0, .ref 39), (1, .int (iI a)), (2, .int (iI b))] [] (wd_S ++ cs, va_up I 52 (md_o g y p), J, F, V) X := by
  intro m
  induction m with
  | zero => intro p h1 _; exact absurd h1 (Nat.not_lt_zero _)
  | succ m ih =>
    intro p h1 h2
    refine mw_iload_n dc_Mo_draw_50 rfl 0 rfl ?_
    refine mw_aload_n dc_Mo_draw_51 rfl 1 rfl ?_
    refine mi_get (ci := 5) (k := 1) dc_Mo_draw_52 rfl wi_Mo rfl rfl (by decide) fl_Mo_7 hg ?_
    refine mi_icmp_ge (tgt := 130) dc_Mo_draw_55 (by decide) (iB_mk (by omega) (by omega)) (iB_mk (by omega) (by omega)) (fun hh => ?_) (fun hh => ?_)
    · have e : p = n := by omega
      subst e
      refine mw_pick [1, 2, 3] rfl ?_
      exact hx
    · obtain ⟨y1, y2, y3, y4⟩ := hy p (by omega)
      refine mw_aload_n dc_Mo_draw_58 rfl 1 rfl ?_
      refine mi_get (ci := 5) (k := 16) dc_Mo_draw_59 rfl wi_Mo rfl rfl (by decide) fl_Mo_45 hM.2.2.2.2.2.2.2.2.2.1 ?_
      refine mw_iload_n dc_Mo_draw_62 rfl 0 rfl ?_
      refine mi_iald dc_Mo_draw_63 rfl ⟨by omega, by omega, by decide⟩ (v := iI (y p)) (by rw [Int.toNat_natCast, va_up_ne _ _ (by decide)]; exact y1) ?_
      refine mw_istore dc_Mo_draw_64 (by decide) rfl ?_
      refine mw_aload_n dc_Mo_draw_66 rfl 2 rfl ?_
      refine mi_get (ci := 5) (k := 19) dc_Mo_draw_67 rfl wi_Mo rfl rfl (by decide) fl_Mo_54 hM.2.2.2.2.2.2.2.2.2.2.2.2.1 ?_
      refine mi_const dc_Mo_draw_70 ?_
      refine mw_iload_n dc_Mo_draw_71 rfl 1 rfl ?_
      refine mi_imul dc_Mo_draw_72 ?_
      refine mi_const dc_Mo_draw_73 ?_
      refine mi_iadd dc_Mo_draw_74 ?_
      refine mw_iload dc_Mo_draw_75 0 rfl ?_
      refine mi_if_le (tgt := 89) dc_Mo_draw_77 (by decide) (iB_mk (by omega) (by omega)) (fun h077 => ?_) (fun h077 => ?_)
      · refine mi_bipush dc_Mo_draw_89 (by decide) ?_
        refine mw_iload dc_Mo_draw_91 0 rfl ?_
        refine mi_imul dc_Mo_draw_93 ?_
        refine mi_iast dc_Mo_draw_94 rfl ⟨by omega, by omega, by decide⟩ (I' := va_up I 52 (upd (md_o g y p) (2 * p + 1) (iI (en1 (y p))))) (by rw [va_up_self, up_up, show (2 * (p : Int) + 1).toNat = 2 * p + 1 by omega, ← (show en1 (y p) = -2 * y p from if_neg (by omega))]) ?_
        refine mw_aload_n dc_Mo_draw_95 rfl 2 rfl ?_
        refine mi_get (ci := 5) (k := 19) dc_Mo_draw_96 rfl wi_Mo rfl rfl (by decide) fl_Mo_54 hM.2.2.2.2.2.2.2.2.2.2.2.2.1 ?_
        refine mi_const dc_Mo_draw_99 ?_
        refine mw_iload_n dc_Mo_draw_100 rfl 1 rfl ?_
        refine mi_imul dc_Mo_draw_101 ?_
        refine mi_const dc_Mo_draw_102 ?_
        refine mi_iadd dc_Mo_draw_103 ?_
        refine mw_iload dc_Mo_draw_104 0 rfl ?_
        refine mi_if_le (tgt := 116) dc_Mo_draw_106 (by decide) (iB_mk (by omega) (by omega)) (fun hw => ?_) (fun hw => ?_)
        · refine mi_bipush dc_Mo_draw_116 (by decide) ?_
          refine mw_iload dc_Mo_draw_118 0 rfl ?_
          refine mi_imul dc_Mo_draw_120 ?_
          refine mi_const dc_Mo_draw_121 ?_
          refine mi_isub dc_Mo_draw_122 ?_
          refine mi_iast dc_Mo_draw_123 rfl ⟨by omega, by omega, by decide⟩ (I' := va_up I 52 (md_o g y (p + 1))) (by rw [va_up_self, up_up, show (2 * (p : Int) + 2).toNat = 2 * p + 2 by omega, ← (show en2 (y p) = -2 * y p - 1 from if_neg (by omega))]; rfl) ?_
          refine mi_iinc dc_Mo_draw_124 1 rfl (by decide) rfl ?_
          refine mw_goto (tgt := 50) dc_Mo_draw_127 (by decide) ?_
          refine mw_pick [0, 2, 3, 4] rfl ?_
          exact ih (p + 1) (by omega) (by omega)
        · exfalso; omega
      · refine mi_const dc_Mo_draw_80 ?_
        refine mw_iload dc_Mo_draw_81 0 rfl ?_
        refine mi_imul dc_Mo_draw_83 ?_
        refine mi_const dc_Mo_draw_84 ?_
        refine mi_isub dc_Mo_draw_85 ?_
        refine mw_goto (tgt := 94) dc_Mo_draw_86 (by decide) ?_
        refine mi_iast dc_Mo_draw_94 rfl ⟨by omega, by omega, by decide⟩ (I' := va_up I 52 (upd (md_o g y p) (2 * p + 1) (iI (en1 (y p))))) (by rw [va_up_self, up_up, show (2 * (p : Int) + 1).toNat = 2 * p + 1 by omega, ← (show en1 (y p) = 2 * y p - 1 from if_pos (by omega))]) ?_
        refine mw_aload_n dc_Mo_draw_95 rfl 2 rfl ?_
        refine mi_get (ci := 5) (k := 19) dc_Mo_draw_96 rfl wi_Mo rfl rfl (by decide) fl_Mo_54 hM.2.2.2.2.2.2.2.2.2.2.2.2.1 ?_
        refine mi_const dc_Mo_draw_99 ?_
        refine mw_iload_n dc_Mo_draw_100 rfl 1 rfl ?_
        refine mi_imul dc_Mo_draw_101 ?_
        refine mi_const dc_Mo_draw_102 ?_
        refine mi_iadd dc_Mo_draw_103 ?_
        refine mw_iload dc_Mo_draw_104 0 rfl ?_
        refine mi_if_le (tgt := 116) dc_Mo_draw_106 (by decide) (iB_mk (by omega) (by omega)) (fun hw => ?_) (fun hw => ?_)
        · exfalso; omega
        · refine mi_const dc_Mo_draw_109 ?_
          refine mw_iload dc_Mo_draw_110 0 rfl ?_
          refine mi_imul dc_Mo_draw_112 ?_
          refine mw_goto (tgt := 123) dc_Mo_draw_113 (by decide) ?_
          refine mi_iast dc_Mo_draw_123 rfl ⟨by omega, by omega, by decide⟩ (I' := va_up I 52 (md_o g y (p + 1))) (by rw [va_up_self, up_up, show (2 * (p : Int) + 2).toNat = 2 * p + 2 by omega, ← (show en2 (y p) = 2 * y p from if_pos (by omega))]; rfl) ?_
          refine mi_iinc dc_Mo_draw_124 1 rfl (by decide) rfl ?_
          refine mw_goto (tgt := 50) dc_Mo_draw_127 (by decide) ?_
          refine mw_pick [0, 2, 3, 4] rfl ?_
          exact ih (p + 1) (by omega) (by omega)
theorem lp_md2 {G : mm_G} {d bc bs : Nat} {cs : mm_Sh} {I : Nat → Nat → Int32} {J : Nat → Nat → Int64} {F : Nat → Nat → Option Nat} {V : Nat → Nat → Value} {X : mm_X} {n a b : Nat} {ea : Nat → Nat} {g : Nat → Int32} (hM : mo_V V) (hg : V 39 1 = .int (iI n)) (hn : n ≤ 6) (he : ∀ s, s < 2 * n + 2 → I 52 s = iI (ea s) ∧ ea s < 2 * n + 2) (hx : X (.inl none) (wd_S ++ cs, va_up I 53 (ms_o g ea (2 * n + 2)), J, F, V)) :
    ∀ (m s : Nat), 2 * n + 2 - s < m → s ≤ 2 * n + 2 → mW G mt_Mo_draw d bc bs 132 [(3, .int (iI s)), (0, .ref 39), (1, .int (iI a)), (2, .int (iI b))] [] (wd_S ++ cs, va_up I 53 (ms_o g ea s), J, F, V) X := by
  intro m
  induction m with
  | zero => intro s h1 _; exact absurd h1 (Nat.not_lt_zero _)
  | succ m ih =>
    intro s h1 h2
    refine mw_iload_n dc_Mo_draw_132 rfl 0 rfl ?_
    refine mi_const dc_Mo_draw_133 ?_
    refine mw_aload_n dc_Mo_draw_134 rfl 1 rfl ?_
    refine mi_get (ci := 5) (k := 1) dc_Mo_draw_135 rfl wi_Mo rfl rfl (by decide) fl_Mo_7 hg ?_
    refine mi_imul dc_Mo_draw_138 ?_
    refine mi_const dc_Mo_draw_139 ?_
    refine mi_iadd dc_Mo_draw_140 ?_
    refine mi_icmp_gt (tgt := 162) dc_Mo_draw_141 (by decide) (iB_mk (by omega) (by omega)) (iB_mk (by omega) (by omega)) (fun hh => ?_) (fun hh => ?_)
    · have e : s = 2 * n + 2 := by omega
      subst e
      exact mw_vret dc_Mo_draw_162 rfl hx
    · obtain ⟨e1, e2⟩ := he s (by omega)
      refine mw_aload_n dc_Mo_draw_144 rfl 1 rfl ?_
      refine mi_get (ci := 5) (k := 20) dc_Mo_draw_145 rfl wi_Mo rfl rfl (by decide) fl_Mo_57 hM.2.2.2.2.2.2.2.2.2.2.2.2.2.1 ?_
      refine mw_aload_n dc_Mo_draw_148 rfl 1 rfl ?_
      refine mi_get (ci := 5) (k := 19) dc_Mo_draw_149 rfl wi_Mo rfl rfl (by decide) fl_Mo_54 hM.2.2.2.2.2.2.2.2.2.2.2.2.1 ?_
      refine mw_iload_n dc_Mo_draw_152 rfl 0 rfl ?_
      refine mi_iald dc_Mo_draw_153 rfl ⟨by omega, by omega, by decide⟩ (v := iI (ea s)) (by rw [Int.toNat_natCast, va_up_ne _ _ (by decide)]; exact e1) ?_
      refine mw_iload_n dc_Mo_draw_154 rfl 0 rfl ?_
      refine mi_iast dc_Mo_draw_155 rfl ⟨by omega, by omega, by decide⟩ (I' := va_up I 53 (ms_o g ea (s + 1))) (by rw [va_up_self, up_up, Int.toNat_natCast]; rfl) ?_
      refine mi_iinc dc_Mo_draw_156 0 rfl (by decide) rfl ?_
      refine mw_goto (tgt := 132) dc_Mo_draw_159 (by decide) ?_
      refine mw_pick [0, 1, 2, 3] rfl ?_
      exact ih (s + 1) (by omega) (by omega)
theorem ev_modraw {G : mm_G} {d : Nat} {cs : mm_Sh} {I : Nat → Nat → Int32} {J : Nat → Nat → Int64} {F : Nat → Nat → Option Nat} {V : Nat → Nat → Value} {n a b : Nat} {u v y : Nat → Int} {ea : Nat → Nat} (hM : mo_V V) (hg : V 39 1 = .int (iI n)) (hn : n ≤ 6) (ha : a < 5) (hb : b < 5) (hu : mo_or I n a u) (hv : mo_or I n b v) (hk : md_k I n u v y ea) : mE G mt_Mo_draw (d + 1) 0 0 [.ref 39, .int (iI a), .int (iI b)] (wd_S ++ cs, I, J, F, V) (fun o h1 => o = .inl none ∧ h1 = (wd_S ++ cs, md_I I n u v y ea, J, F, V)) := by
  refine mE_intro (by decide) (fun k h q => nomatch q.1) (Nat.le_of_ble_eq_true rfl) ?_
  show mW G mt_Mo_draw (d + 1) 0 0 0 [(0, .ref 39), (1, .int (iI a)), (2, .int (iI b))] [] (wd_S ++ cs, I, J, F, V) _
  refine mw_aload_n dc_Mo_draw_0 rfl 0 rfl ?_
  refine mw_aload_n dc_Mo_draw_1 rfl 0 rfl ?_
  refine mi_get (ci := 5) (k := 2) dc_Mo_draw_2 rfl wi_Mo rfl rfl (by decide) fl_Mo_13 hM.1 ?_
  refine mi_bipush dc_Mo_draw_5 (by decide) ?_
  refine mw_iload_n dc_Mo_draw_7 rfl 1 rfl ?_
  refine mi_imul dc_Mo_draw_8 ?_
  refine mw_aload_n dc_Mo_draw_9 rfl 0 rfl ?_
  refine mi_get (ci := 5) (k := 2) dc_Mo_draw_10 rfl wi_Mo rfl rfl (by decide) fl_Mo_13 hM.1 ?_
  refine mi_bipush dc_Mo_draw_13 (by decide) ?_
  refine mw_iload_n dc_Mo_draw_15 rfl 2 rfl ?_
  refine mi_imul dc_Mo_draw_16 ?_
  refine mz_V4 (M2 := mt_Mo_relate) dc_Mo_draw_17 ml_Mo_120 rfl rfl ny_Mo_relate (by decide) (Nat.le_of_ble_eq_true rfl) (ev_morelate (a := 40) (b := 40) (s1 := 6 * a) (s2 := 6 * b) (na := 30) (nb := 30) (u := u) (v := v) hM hg hn ⟨rfl, by decide⟩ ⟨rfl, by decide⟩ ⟨by omega, by decide⟩ ⟨by omega, by decide⟩ hu hv) (fun v h1 hY => ?_)
  obtain ⟨hv9, rfl⟩ := hY
  cases hv9
  refine mw_aload_n dc_Mo_draw_20 rfl 0 rfl ?_
  refine mi_get (ci := 5) (k := 19) dc_Mo_draw_21 rfl wi_Mo rfl rfl (by decide) fl_Mo_54 hM.2.2.2.2.2.2.2.2.2.2.2.2.1 ?_
  refine mi_const dc_Mo_draw_24 ?_
  refine mi_const dc_Mo_draw_25 ?_
  refine mi_iast dc_Mo_draw_26 rfl ⟨by omega, by omega, by decide⟩ (I' := va_up (va_up I 49 (mr_o (I 49) u v n n)) 52 (upd (I 52) 0 (iI 0))) (by rw [va_up_ne _ _ (show 52 ≠ 49 by decide)]; rfl) ?_
  refine mw_aload_n dc_Mo_draw_27 rfl 0 rfl ?_
  refine mi_get (ci := 5) (k := 19) dc_Mo_draw_28 rfl wi_Mo rfl rfl (by decide) fl_Mo_54 hM.2.2.2.2.2.2.2.2.2.2.2.2.1 ?_
  refine mi_const dc_Mo_draw_31 ?_
  refine mw_aload_n dc_Mo_draw_32 rfl 0 rfl ?_
  refine mi_get (ci := 5) (k := 1) dc_Mo_draw_33 rfl wi_Mo rfl rfl (by decide) fl_Mo_7 hg ?_
  refine mi_imul dc_Mo_draw_36 ?_
  refine mi_const dc_Mo_draw_37 ?_
  refine mi_iadd dc_Mo_draw_38 ?_
  refine mi_const dc_Mo_draw_39 ?_
  refine mw_aload_n dc_Mo_draw_40 rfl 0 rfl ?_
  refine mi_get (ci := 5) (k := 1) dc_Mo_draw_41 rfl wi_Mo rfl rfl (by decide) fl_Mo_7 hg ?_
  refine mi_imul dc_Mo_draw_44 ?_
  refine mi_const dc_Mo_draw_45 ?_
  refine mi_iadd dc_Mo_draw_46 ?_
  refine mi_iast dc_Mo_draw_47 rfl ⟨by omega, by omega, by decide⟩ (I' := va_up (va_up I 49 (mr_o (I 49) u v n n)) 52 (md_0 (I 52) n)) (by rw [va_up_self, up_up, show (2 * (n : Int) + 1).toNat = 2 * n + 1 by omega]; rfl) ?_
  refine mi_const dc_Mo_draw_48 ?_
  refine mw_istore_n dc_Mo_draw_49 rfl (by decide) rfl ?_
  refine mw_pick [0, 1, 2, 3] rfl ?_
  refine lp_md1 (I := va_up I 49 (mr_o (I 49) u v n n)) (g := md_0 (I 52) n) (y := y) hM hg hn (fun p hp => by rw [va_up_self]; exact hk.1 p hp) ?_ (n + 1) 0 (by omega) (by omega)
  refine mi_const dc_Mo_draw_130 ?_
  refine mw_istore_n dc_Mo_draw_131 rfl (by decide) rfl ?_
  refine mw_pick [0, 1, 2, 3] rfl ?_
  refine mw_h (h' := (wd_S ++ cs, va_up (va_up (va_up I 49 (mr_o (I 49) u v n n)) 52 (md_o (md_0 (I 52) n) y n)) 53 (ms_o (I 53) ea 0), J, F, V)) (by rw [show ms_o (I 53) ea 0 = va_up (va_up I 49 (mr_o (I 49) u v n n)) 52 (md_o (md_0 (I 52) n) y n) 53 from by rw [va_up_ne _ _ (by decide), va_up_ne _ _ (by decide)]; rfl, up_id]) ?_
  exact lp_md2 (I := va_up (va_up I 49 (mr_o (I 49) u v n n)) 52 (md_o (md_0 (I 52) n) y n)) (ea := ea) (g := I 53) hM hg hn (fun s hs => by rw [va_up_self]; exact hk.2 s hs) ⟨rfl, rfl⟩ (2 * n + 3) 0 (by omega) (by omega)
