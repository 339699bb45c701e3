/-! the reference's interval -/
def mn0 (y : Nat → Int) (f : Nat) : Nat → Int
  | 0 => 99
  | s + 1 => mn y f s
def mx0 (y : Nat → Int) (f : Nat) : Nat → Int
  | 0 => 0
  | s + 1 => mx y f s
theorem mn0_s {y : Nat → Int} {f s : Nat} (h : 0 ≤ ab (y (f + s)) ∧ ab (y (f + s)) ≤ 6) : mn0 y f (s + 1) = (if ab (y (f + s)) < mn0 y f s then ab (y (f + s)) else mn0 y f s) ∧ mx0 y f (s + 1) = (if mx0 y f s < ab (y (f + s)) then ab (y (f + s)) else mx0 y f s) := by
  cases s with
  | zero =>
    refine ⟨?_, ?_⟩
    · show ab (y f) = if ab (y f) < 99 then ab (y f) else 99
      rw [if_pos (by have := h.2; rw [Nat.add_zero] at this; omega)]
    · show ab (y f) = if 0 < ab (y f) then ab (y f) else 0
      have := h.1
      rw [Nat.add_zero] at this
      split <;> omega
  | succ s =>
    rw [show f + (s + 1) = f + 1 + s by omega]
    exact ⟨rfl, rfl⟩
theorem mn0_b {y : Nat → Int} {n f : Nat} (hy : ∀ p, p < n → 0 ≤ ab (y p) ∧ ab (y p) ≤ 6) : ∀ s, f + s ≤ n → (0 ≤ mn0 y f s ∧ mn0 y f s ≤ 99) ∧ 0 ≤ mx0 y f s ∧ mx0 y f s ≤ 6 := fun s h => by
  cases s with
  | zero => exact ⟨by show (0 : Int) ≤ 99 ∧ (99 : Int) ≤ 99; omega, by show (0 : Int) ≤ 0 ∧ (0 : Int) ≤ 6; omega⟩
  | succ s =>
    have := mn_b (f := f) hy s (by omega)
    exact ⟨⟨this.1.1, by show mn y f s ≤ 99; omega⟩, this.2⟩
theorem lp_mi0 {G : mm_G} {d bc bs : Nat} {cs : mm_Sh} {I : Nat → Nat → Int32} {J : Nat → Nat → Int64} {F : Nat → Nat → Option Nat} {V : Nat → Nat → Value} {X : mm_X} {n : Nat} {k : Int} {y : Nat → Int} (hM : mo_V V) (hg : V 39 1 = .int (iI n)) (hn : n ≤ 6) (hk : iB k) (hy : ∀ p, p < n → I 49 p = iI (y p) ∧ -6 ≤ y p ∧ y p ≤ 6) {f t : Nat} {b : Int} (hf : f + 1 + t < n) (hx : mW G mt_Mo_interval d bc bs 168 [(8, .int (iI (mx y f (t + 1)))), (7, .int (iI (mn y f (t + 1)))), (6, .int (iI ((f + 1 + t : Nat) : Int))), (5, .int (iI f)), (4, .int (iI b)), (3, .int (iI k)), (0, .ref 39)] [] (wd_S ++ cs, I, J, F, V) X) :
    ∀ (m s : Nat), t + 2 - s < m → s ≤ t + 2 → mW G mt_Mo_interval d bc bs 93 [(9, .int (iI ((f + s : Nat) : Int))), (8, .int (iI (mx0 y f s))), (7, .int (iI (mn0 y f s))), (6, .int (iI ((f + 1 + t : Nat) : Int))), (5, .int (iI f)), (4, .int (iI b)), (3, .int (iI k)), (0, .ref 39)] [] (wd_S ++ cs, I, J, F, V) X := by
  have hy2 : ∀ p, p < n → 0 ≤ ab (y p) ∧ ab (y p) ≤ 6 := fun p hp => ab_le ⟨(hy p hp).2.1, (hy p hp).2.2⟩
  intro m
  induction m with
  | zero => intro s h1 _; exact absurd h1 (Nat.not_lt_zero _)
  | succ m ih =>
    intro s h1 h2
    have hb1 := mn0_b (f := f) hy2 s (by omega)
    refine mw_iload dc_Mo_interval_93 0 rfl ?_
    refine mw_iload dc_Mo_interval_95 3 rfl ?_
    refine mi_icmp_gt (tgt := 168) dc_Mo_interval_97 (by decide) (iB_mk (by omega) (by omega)) (iB_mk (by omega) (by omega)) (fun hh => ?_) (fun hh => ?_)
    · have e : s = t + 2 := by omega
      subst e
      refine mw_pick [1, 2, 3, 4, 5, 6, 7] rfl ?_
      exact hx
    · obtain ⟨q1, q2, q3⟩ := hy (f + s) (by omega)
      have hq := hy2 (f + s) (by omega)
      obtain ⟨m1, m2⟩ := mn0_s (f := f) (s := s) hq
      refine mw_aload_n dc_Mo_interval_100 rfl 7 rfl ?_
      refine mi_get (ci := 5) (k := 16) dc_Mo_interval_101 rfl wi_Mo rfl rfl (by decide) fl_Mo_45 hM.2.2.2.2.2.2.2.2.2.1 ?_
      refine mw_iload dc_Mo_interval_104 0 rfl ?_
      refine mi_iald dc_Mo_interval_106 rfl ⟨by omega, by omega, by decide⟩ (v := iI (y (f + s))) (by rw [Int.toNat_natCast]; exact q1) ?_
      refine mi_if_ge (tgt := 121) dc_Mo_interval_107 (by decide) (iB_mk (by omega) (by omega)) (fun h0107 => ?_) (fun h0107 => ?_)
      · refine mw_aload_n dc_Mo_interval_121 rfl 7 rfl ?_
        refine mi_get (ci := 5) (k := 16) dc_Mo_interval_122 rfl wi_Mo rfl rfl (by decide) fl_Mo_45 hM.2.2.2.2.2.2.2.2.2.1 ?_
        refine mw_iload dc_Mo_interval_125 0 rfl ?_
        refine mi_iald dc_Mo_interval_127 rfl ⟨by omega, by omega, by decide⟩ (v := iI (y (f + s))) (by rw [Int.toNat_natCast]; exact q1) ?_
        refine mw_istore dc_Mo_interval_128 (by decide) rfl ?_
        have ea : ab (y (f + s)) = y (f + s) := by unfold ab; omega
        rw [ea] at m1 m2 hq
        refine mw_iload dc_Mo_interval_130 0 rfl ?_
        refine mw_iload dc_Mo_interval_132 3 rfl ?_
        refine mi_icmp_ge (tgt := 142) dc_Mo_interval_134 (by decide) (iB_mk (by omega) (by omega)) (iB_mk (by omega) (by omega)) (fun h3134 => ?_) (fun h3134 => ?_)
        · refine mw_iload dc_Mo_interval_142 3 rfl ?_
          refine mw_istore dc_Mo_interval_144 (by decide) rfl ?_
          refine mw_iload dc_Mo_interval_146 1 rfl ?_
          refine mw_iload dc_Mo_interval_148 3 rfl ?_
          refine mi_icmp_le (tgt := 158) dc_Mo_interval_150 (by decide) (iB_mk (by omega) (by omega)) (iB_mk (by omega) (by omega)) (fun h4150 => ?_) (fun h4150 => ?_)
          · refine mw_iload dc_Mo_interval_158 3 rfl ?_
            refine mw_istore dc_Mo_interval_160 (by decide) rfl ?_
            refine mi_iinc dc_Mo_interval_162 3 rfl (by decide) rfl ?_
            refine mw_goto (tgt := 93) dc_Mo_interval_165 (by decide) ?_
            refine mw_pick [0, 1, 2, 4, 5, 6, 7, 8] rfl ?_
            have k2 := ih (s + 1) (by omega) (by omega)
            rw [m1, m2, if_neg (by omega), if_neg (by omega)] at k2
            exact k2
          · refine mw_iload dc_Mo_interval_153 1 rfl ?_
            refine mw_goto (tgt := 160) dc_Mo_interval_155 (by decide) ?_
            refine mw_istore dc_Mo_interval_160 (by decide) rfl ?_
            refine mi_iinc dc_Mo_interval_162 3 rfl (by decide) rfl ?_
            refine mw_goto (tgt := 93) dc_Mo_interval_165 (by decide) ?_
            refine mw_pick [0, 1, 2, 4, 5, 6, 7, 8] rfl ?_
            have k2 := ih (s + 1) (by omega) (by omega)
            rw [m1, m2, if_pos (by omega), if_neg (by omega)] at k2
            exact k2
        · refine mw_iload dc_Mo_interval_137 0 rfl ?_
          refine mw_goto (tgt := 144) dc_Mo_interval_139 (by decide) ?_
          refine mw_istore dc_Mo_interval_144 (by decide) rfl ?_
          refine mw_iload dc_Mo_interval_146 1 rfl ?_
          refine mw_iload dc_Mo_interval_148 3 rfl ?_
          refine mi_icmp_le (tgt := 158) dc_Mo_interval_150 (by decide) (iB_mk (by omega) (by omega)) (iB_mk (by omega) (by omega)) (fun h4150 => ?_) (fun h4150 => ?_)
          · refine mw_iload dc_Mo_interval_158 3 rfl ?_
            refine mw_istore dc_Mo_interval_160 (by decide) rfl ?_
            refine mi_iinc dc_Mo_interval_162 3 rfl (by decide) rfl ?_
            refine mw_goto (tgt := 93) dc_Mo_interval_165 (by decide) ?_
            refine mw_pick [0, 1, 2, 4, 5, 6, 7, 8] rfl ?_
            have k2 := ih (s + 1) (by omega) (by omega)
            rw [m1, m2, if_neg (by omega), if_pos (by omega)] at k2
            exact k2
          · refine mw_iload dc_Mo_interval_153 1 rfl ?_
            refine mw_goto (tgt := 160) dc_Mo_interval_155 (by decide) ?_
            refine mw_istore dc_Mo_interval_160 (by decide) rfl ?_
            refine mi_iinc dc_Mo_interval_162 3 rfl (by decide) rfl ?_
            refine mw_goto (tgt := 93) dc_Mo_interval_165 (by decide) ?_
            refine mw_pick [0, 1, 2, 4, 5, 6, 7, 8] rfl ?_
            have k2 := ih (s + 1) (by omega) (by omega)
            rw [m1, m2, if_pos (by omega), if_pos (by omega)] at k2
            exact k2
      · refine mw_aload_n dc_Mo_interval_110 rfl 7 rfl ?_
        refine mi_get (ci := 5) (k := 16) dc_Mo_interval_111 rfl wi_Mo rfl rfl (by decide) fl_Mo_45 hM.2.2.2.2.2.2.2.2.2.1 ?_
        refine mw_iload dc_Mo_interval_114 0 rfl ?_
        refine mi_iald dc_Mo_interval_116 rfl ⟨by omega, by omega, by decide⟩ (v := iI (y (f + s))) (by rw [Int.toNat_natCast]; exact q1) ?_
        refine mi_ineg dc_Mo_interval_117 ?_
        refine mw_goto (tgt := 128) dc_Mo_interval_118 (by decide) ?_
        refine mw_istore dc_Mo_interval_128 (by decide) rfl ?_
        have ea : ab (y (f + s)) = -y (f + s) := by unfold ab; omega
        rw [ea] at m1 m2 hq
        refine mw_iload dc_Mo_interval_130 0 rfl ?_
        refine mw_iload dc_Mo_interval_132 3 rfl ?_
        refine mi_icmp_ge (tgt := 142) dc_Mo_interval_134 (by decide) (iB_mk (by omega) (by omega)) (iB_mk (by omega) (by omega)) (fun h3134 => ?_) (fun h3134 => ?_)
        · refine mw_iload dc_Mo_interval_142 3 rfl ?_
          refine mw_istore dc_Mo_interval_144 (by decide) rfl ?_
          refine mw_iload dc_Mo_interval_146 1 rfl ?_
          refine mw_iload dc_Mo_interval_148 3 rfl ?_
          refine mi_icmp_le (tgt := 158) dc_Mo_interval_150 (by decide) (iB_mk (by omega) (by omega)) (iB_mk (by omega) (by omega)) (fun h4150 => ?_) (fun h4150 => ?_)
          · refine mw_iload dc_Mo_interval_158 3 rfl ?_
            refine mw_istore dc_Mo_interval_160 (by decide) rfl ?_
            refine mi_iinc dc_Mo_interval_162 3 rfl (by decide) rfl ?_
            refine mw_goto (tgt := 93) dc_Mo_interval_165 (by decide) ?_
            refine mw_pick [0, 1, 2, 4, 5, 6, 7, 8] rfl ?_
            have k2 := ih (s + 1) (by omega) (by omega)
            rw [m1, m2, if_neg (by omega), if_neg (by omega)] at k2
            exact k2
          · refine mw_iload dc_Mo_interval_153 1 rfl ?_
            refine mw_goto (tgt := 160) dc_Mo_interval_155 (by decide) ?_
            refine mw_istore dc_Mo_interval_160 (by decide) rfl ?_
            refine mi_iinc dc_Mo_interval_162 3 rfl (by decide) rfl ?_
            refine mw_goto (tgt := 93) dc_Mo_interval_165 (by decide) ?_
            refine mw_pick [0, 1, 2, 4, 5, 6, 7, 8] rfl ?_
            have k2 := ih (s + 1) (by omega) (by omega)
            rw [m1, m2, if_pos (by omega), if_neg (by omega)] at k2
            exact k2
        · refine mw_iload dc_Mo_interval_137 0 rfl ?_
          refine mw_goto (tgt := 144) dc_Mo_interval_139 (by decide) ?_
          refine mw_istore dc_Mo_interval_144 (by decide) rfl ?_
          refine mw_iload dc_Mo_interval_146 1 rfl ?_
          refine mw_iload dc_Mo_interval_148 3 rfl ?_
          refine mi_icmp_le (tgt := 158) dc_Mo_interval_150 (by decide) (iB_mk (by omega) (by omega)) (iB_mk (by omega) (by omega)) (fun h4150 => ?_) (fun h4150 => ?_)
          · refine mw_iload dc_Mo_interval_158 3 rfl ?_
            refine mw_istore dc_Mo_interval_160 (by decide) rfl ?_
            refine mi_iinc dc_Mo_interval_162 3 rfl (by decide) rfl ?_
            refine mw_goto (tgt := 93) dc_Mo_interval_165 (by decide) ?_
            refine mw_pick [0, 1, 2, 4, 5, 6, 7, 8] rfl ?_
            have k2 := ih (s + 1) (by omega) (by omega)
            rw [m1, m2, if_neg (by omega), if_pos (by omega)] at k2
            exact k2
          · refine mw_iload dc_Mo_interval_153 1 rfl ?_
            refine mw_goto (tgt := 160) dc_Mo_interval_155 (by decide) ?_
            refine mw_istore dc_Mo_interval_160 (by decide) rfl ?_
            refine mi_iinc dc_Mo_interval_162 3 rfl (by decide) rfl ?_
            refine mw_goto (tgt := 93) dc_Mo_interval_165 (by decide) ?_
            refine mw_pick [0, 1, 2, 4, 5, 6, 7, 8] rfl ?_
            have k2 := ih (s + 1) (by omega) (by omega)
            rw [m1, m2, if_pos (by omega), if_pos (by omega)] at k2
            exact k2
theorem lp_mi1 {G : mm_G} {d bc bs : Nat} {cs : mm_Sh} {I : Nat → Nat → Int32} {J : Nat → Nat → Int64} {F : Nat → Nat → Option Nat} {V : Nat → Nat → Value} {X : mm_X} {n : Nat} {k : Int} {y : Nat → Int} (hM : mo_V V) (hg : V 39 1 = .int (iI n)) (hn : n ≤ 6) (hk : iB k) (hy : ∀ p, p < n → I 49 p = iI (y p) ∧ -6 ≤ y p ∧ y p ≤ 6) {f : Nat} (hf : f < n) :
    ∀ (r t : Nat) (b : Int), t + r = n - 1 - f → 0 ≤ b ∧ b ≤ 10 * f + t → (∀ a, iv_i y f k r t b = .inl a → X (.inl (some (.int (iI a)))) (wd_S ++ cs, I, J, F, V)) → (∀ b2, iv_i y f k r t b = .inr b2 → 0 ≤ b2 ∧ b2 ≤ 10 * f + 9 → mW G mt_Mo_interval d bc bs 205 [(5, .int (iI f)), (4, .int (iI b2)), (3, .int (iI k)), (0, .ref 39)] [] (wd_S ++ cs, I, J, F, V) X) →
      mW G mt_Mo_interval d bc bs 73 [(6, .int (iI ((f + 1 + t : Nat) : Int))), (5, .int (iI f)), (4, .int (iI b)), (3, .int (iI k)), (0, .ref 39)] [] (wd_S ++ cs, I, J, F, V) X := by
  have hy2 : ∀ p, p < n → 0 ≤ ab (y p) ∧ ab (y p) ≤ 6 := fun p hp => ab_le ⟨(hy p hp).2.1, (hy p hp).2.2⟩
  intro r
  induction r with
  | zero =>
    intro t b h1 h2 hx hz
    refine mw_iload dc_Mo_interval_73 0 rfl ?_
    refine mw_aload_n dc_Mo_interval_75 rfl 4 rfl ?_
    refine mi_get (ci := 5) (k := 1) dc_Mo_interval_76 rfl wi_Mo rfl rfl (by decide) fl_Mo_7 hg ?_
    refine mi_icmp_ge (tgt := 205) dc_Mo_interval_79 (by decide) (iB_mk (by omega) (by omega)) (iB_mk (by omega) (by omega)) (fun hh => ?_) (fun hh => ?_)
    · refine mw_pick [1, 2, 3, 4] rfl ?_
      exact hz b rfl (by omega)
    · exact absurd hh (by omega)
  | succ r ih =>
    intro t b h1 h2 hx hz
    have hb2 := mn_b (f := f) hy2 (t + 1) (by omega)
    refine mw_iload dc_Mo_interval_73 0 rfl ?_
    refine mw_aload_n dc_Mo_interval_75 rfl 4 rfl ?_
    refine mi_get (ci := 5) (k := 1) dc_Mo_interval_76 rfl wi_Mo rfl rfl (by decide) fl_Mo_7 hg ?_
    refine mi_icmp_ge (tgt := 205) dc_Mo_interval_79 (by decide) (iB_mk (by omega) (by omega)) (iB_mk (by omega) (by omega)) (fun hh => ?_) (fun hh => ?_)
    · exact absurd hh (by omega)
    · refine mi_bipush dc_Mo_interval_82 (by decide) ?_
      refine mw_istore dc_Mo_interval_84 (by decide) rfl ?_
      refine mi_const dc_Mo_interval_86 ?_
      refine mw_istore dc_Mo_interval_87 (by decide) rfl ?_
      refine mw_iload dc_Mo_interval_89 3 rfl ?_
      refine mw_istore dc_Mo_interval_91 (by decide) rfl ?_
      refine mw_pick [0, 1, 2, 3, 4, 5, 6, 7] rfl ?_
      refine lp_mi0 hM hg hn hk hy (by omega) ?_ (t + 3) 0 (by omega) (by omega)
      refine mw_iload dc_Mo_interval_168 0 rfl ?_
      refine mw_iload dc_Mo_interval_170 1 rfl ?_
      refine mi_isub dc_Mo_interval_172 ?_
      refine mw_iload dc_Mo_interval_173 2 rfl ?_
      refine mw_iload dc_Mo_interval_175 3 rfl ?_
      refine mi_isub dc_Mo_interval_177 ?_
      refine mi_icmp_ne (tgt := 199) dc_Mo_interval_178 (by decide) (iB_mk (by omega) (by omega)) (iB_mk (by omega) (by omega)) (fun h0178 => ?_) (fun h0178 => ?_)
      · refine mi_iinc dc_Mo_interval_199 2 rfl (by decide) rfl ?_
        refine mw_goto (tgt := 73) dc_Mo_interval_202 (by decide) ?_
        refine mw_pick [0, 3, 4, 5, 6] rfl ?_
        have e9 : iv_i y f k (r + 1) t b = iv_i y f k r (t + 1) b := if_neg (by omega)
        exact ih (t + 1) (b) (by omega) (by omega) (fun a ha => hx a (e9.trans ha)) (fun b2 hb2 => hz b2 (e9.trans hb2))
      · refine mw_iload dc_Mo_interval_181 4 rfl ?_
        refine mw_iload_n dc_Mo_interval_183 rfl 5 rfl ?_
        refine mi_icmp_ne (tgt := 196) dc_Mo_interval_184 (by decide) (iB_mk (by omega) (by omega)) hk (fun h1184 => ?_) (fun h1184 => ?_)
        · refine mi_iinc dc_Mo_interval_196 4 rfl (by decide) rfl ?_
          refine mi_iinc dc_Mo_interval_199 3 rfl (by decide) rfl ?_
          refine mw_goto (tgt := 73) dc_Mo_interval_202 (by decide) ?_
          refine mw_pick [0, 4, 1, 5, 6] rfl ?_
          have e9 : iv_i y f k (r + 1) t b = iv_i y f k r (t + 1) (b + 1) := (if_pos (by omega)).trans (if_neg (by omega))
          exact ih (t + 1) (b + 1) (by omega) (by omega) (fun a ha => hx a (e9.trans ha)) (fun b2 hb2 => hz b2 (e9.trans hb2))
        · refine mi_bipush dc_Mo_interval_187 (by decide) ?_
          refine mw_iload dc_Mo_interval_189 3 rfl ?_
          refine mi_imul dc_Mo_interval_191 ?_
          refine mw_iload dc_Mo_interval_192 2 rfl ?_
          refine mi_iadd dc_Mo_interval_194 ?_
          have e9 : iv_i y f k (r + 1) t b = .inl (10 * f + (f + 1 + t : Nat)) := (if_pos (by omega)).trans (if_pos (by omega))
          exact mw_iret dc_Mo_interval_195 rfl rfl (hx _ e9)
theorem lp_mi2 {G : mm_G} {d bc bs : Nat} {cs : mm_Sh} {I : Nat → Nat → Int32} {J : Nat → Nat → Int64} {F : Nat → Nat → Option Nat} {V : Nat → Nat → Value} {X : mm_X} {n : Nat} {k : Int} {y : Nat → Int} (hM : mo_V V) (hg : V 39 1 = .int (iI n)) (hn : n ≤ 6) (hk : iB k) (hy : ∀ p, p < n → I 49 p = iI (y p) ∧ -6 ≤ y p ∧ y p ≤ 6) :
    ∀ (r f : Nat) (b : Int), f + r = n → 0 ≤ b ∧ b ≤ 10 * f → X (.inl (some (.int (iI (iv_o y n k r f b))))) (wd_S ++ cs, I, J, F, V) → mW G mt_Mo_interval d bc bs 58 [(5, .int (iI f)), (4, .int (iI b)), (3, .int (iI k)), (0, .ref 39)] [] (wd_S ++ cs, I, J, F, V) X := by
  intro r
  induction r with
  | zero =>
    intro f b h1 h2 hx
    refine mw_iload dc_Mo_interval_58 0 rfl ?_
    refine mw_aload_n dc_Mo_interval_60 rfl 3 rfl ?_
    refine mi_get (ci := 5) (k := 1) dc_Mo_interval_61 rfl wi_Mo rfl rfl (by decide) fl_Mo_7 hg ?_
    refine mi_icmp_ge (tgt := 211) dc_Mo_interval_64 (by decide) (iB_mk (by omega) (by omega)) (iB_mk (by omega) (by omega)) (fun hh => ?_) (fun hh => ?_)
    · refine mi_const dc_Mo_interval_211 ?_
      exact mw_iret dc_Mo_interval_212 rfl rfl hx
    · exact absurd hh (by omega)
  | succ r ih =>
    intro f b h1 h2 hx
    refine mw_iload dc_Mo_interval_58 0 rfl ?_
    refine mw_aload_n dc_Mo_interval_60 rfl 3 rfl ?_
    refine mi_get (ci := 5) (k := 1) dc_Mo_interval_61 rfl wi_Mo rfl rfl (by decide) fl_Mo_7 hg ?_
    refine mi_icmp_ge (tgt := 211) dc_Mo_interval_64 (by decide) (iB_mk (by omega) (by omega)) (iB_mk (by omega) (by omega)) (fun hh => ?_) (fun hh => ?_)
    · exact absurd hh (by omega)
    · refine mw_iload dc_Mo_interval_67 0 rfl ?_
      refine mi_const dc_Mo_interval_69 ?_
      refine mi_iadd dc_Mo_interval_70 ?_
      refine mw_istore dc_Mo_interval_71 (by decide) rfl ?_
      refine mw_pick [0, 1, 2, 3, 4] rfl ?_
      refine lp_mi1 hM hg hn hk hy (show f < n by omega) (n - 1 - f) 0 b (by omega) (by omega) (fun a ha => ?_) (fun b2 hb2 hb3 => ?_)
      · have e : iv_o y n k (r + 1) f b = a := by
          show (match iv_i y f k (n - 1 - f) 0 b with | .inl a => a | .inr b2 => iv_o y n k r (f + 1) b2) = a
          rw [ha]
        rw [e] at hx
        exact hx
      · have e : iv_o y n k (r + 1) f b = iv_o y n k r (f + 1) b2 := by
          show (match iv_i y f k (n - 1 - f) 0 b with | .inl a => a | .inr b2 => iv_o y n k r (f + 1) b2) = _
          rw [hb2]
        rw [e] at hx
        refine mi_iinc dc_Mo_interval_205 0 rfl (by decide) rfl ?_
        refine mw_goto (tgt := 58) dc_Mo_interval_208 (by decide) ?_
        refine mw_pick [0, 1, 2, 3] rfl ?_
        exact ih (f + 1) b2 (by omega) (by omega) hx
theorem ev_mointerval {G : mm_G} {d : Nat} {cs : mm_Sh} {I : Nat → Nat → Int32} {J : Nat → Nat → Int64} {F : Nat → Nat → Option Nat} {V : Nat → Nat → Value} {n : Nat} {x y k : Int} {u : Nat → Nat → Int} {r : Nat → Nat → Nat → Int} {ea so : Nat → Nat → Nat → Nat} (hM : mo_V V) (hg : V 39 1 = .int (iI n)) (hn : n ≤ 6) (hO : mo_O I n u r ea so) (hx : iB x) (hy : iB y) (hk : iB k) : mE G mt_Mo_interval (d + 1) 0 0 [.ref 39, .int (iI x), .int (iI y), .int (iI k)] (wd_S ++ cs, I, J, F, V) (fun o h1 => (¬ (okS x ∧ okS y) → o = .inl (some (.int (iI 0))) ∧ h1 = (wd_S ++ cs, I, J, F, fu V 39 0 (.int (iI 1)))) ∧ ((okS x ∧ okS y) → o = .inl (some (.int (iI (iv_o (r x.toNat y.toNat) n k n 0 0)))) ∧ ∃ K, ms_k I K ∧ h1 = (wd_S ++ cs, K, J, F, fu V 39 0 (.int (iI 0))))) := by
  refine mE_intro (by decide) (fun k9 h q => ?_) (Nat.le_of_ble_eq_true rfl) ?_
  · by_cases r1 : okS x ∧ okS y
    · exact nomatch (q.2 r1).1
    · exact nomatch (q.1 r1).1
  show mW G mt_Mo_interval (d + 1) 0 0 0 [(0, .ref 39), (1, .int (iI x)), (2, .int (iI y)), (3, .int (iI k))] [] (wd_S ++ cs, I, J, F, V) _
  refine mw_aload_n dc_Mo_interval_0 rfl 0 rfl ?_
  refine mw_iload_n dc_Mo_interval_1 rfl 1 rfl ?_
  refine mz_S1 (M2 := mt_Mo_noSlot) dc_Mo_interval_2 ml_Mo_87 rfl ny_Mo_noSlot (by decide) (Nat.le_of_ble_eq_true rfl) (ev_noSlot hx) (fun v h1 hY => ?_)
  obtain ⟨hv9, rfl⟩ := hY
  cases hv9
  refine mw_if_ne (tgt := 15) dc_Mo_interval_5 (by decide) (fun h05 => ?_) (fun h05 => ?_)
  · refine mi_const dc_Mo_interval_15 ?_
    refine mw_goto (tgt := 20) dc_Mo_interval_16 (by decide) ?_
    refine mi_puti (ci := 5) (k := 0) dc_Mo_interval_20 rfl wi_Mo tk_Mo nm_Mo rfl rfl (by decide) fl_Mo_75 rfl (by decide +kernel) (show va_up V 39 (va_up (V 39) 0 (.int (iI 1))) = fu V 39 0 (.int (iI 1)) from rfl) ?_
    refine mw_aload_n dc_Mo_interval_23 rfl 0 rfl ?_
    refine mi_get (ci := 5) (k := 0) dc_Mo_interval_24 rfl wi_Mo rfl rfl (by decide) fl_Mo_75 (fu_at V 39 0 _) ?_
    have hs : ¬ (okS x ∧ okS y) := fun q => Decidable.not_not.mp (fun q => h05 (bo_0.mpr q)) q.1
    refine mi_if_le (tgt := 32) dc_Mo_interval_27 (by decide) (iB_mk (by omega) (by omega)) (fun hw => ?_) (fun hw => ?_)
    · exact absurd hw (by decide)
    · refine mi_const dc_Mo_interval_30 ?_
      exact mw_iret dc_Mo_interval_31 rfl rfl ⟨fun _ => ⟨rfl, rfl⟩, fun q => absurd q hs⟩
  · refine mw_iload_n dc_Mo_interval_8 rfl 2 rfl ?_
    refine mz_S1 (M2 := mt_Mo_noSlot) dc_Mo_interval_9 ml_Mo_87 rfl ny_Mo_noSlot (by decide) (Nat.le_of_ble_eq_true rfl) (ev_noSlot hy) (fun v h1 hY => ?_)
    obtain ⟨hv9, rfl⟩ := hY
    cases hv9
    refine mw_if_eq (tgt := 19) dc_Mo_interval_12 (by decide) (fun h112 => ?_) (fun h112 => ?_)
    · refine mi_const dc_Mo_interval_19 ?_
      refine mi_puti (ci := 5) (k := 0) dc_Mo_interval_20 rfl wi_Mo tk_Mo nm_Mo rfl rfl (by decide) fl_Mo_75 rfl (by decide +kernel) (show va_up V 39 (va_up (V 39) 0 (.int (iI 0))) = fu V 39 0 (.int (iI 0)) from rfl) ?_
      refine mw_aload_n dc_Mo_interval_23 rfl 0 rfl ?_
      refine mi_get (ci := 5) (k := 0) dc_Mo_interval_24 rfl wi_Mo rfl rfl (by decide) fl_Mo_75 (fu_at V 39 0 _) ?_
      have hs1 : okS x := Decidable.not_not.mp (bo_0.mp h05)
      have hs2 : okS y := Decidable.not_not.mp (bo_0.mp h112)
      have hs : okS x ∧ okS y := ⟨hs1, hs2⟩
      obtain ⟨a, rfl⟩ := Int.eq_ofNat_of_zero_le hs1.1
      obtain ⟨b, rfl⟩ := Int.eq_ofNat_of_zero_le hs2.1
      have ha : a < 5 := by have := hs1.2; omega
      have hb : b < 5 := by have := hs2.2; omega
      refine mi_if_le (tgt := 32) dc_Mo_interval_27 (by decide) (iB_mk (by omega) (by omega)) (fun hw => ?_) (fun hw => ?_)
      · refine mw_aload_n dc_Mo_interval_32 rfl 0 rfl ?_
        refine mw_aload_n dc_Mo_interval_33 rfl 0 rfl ?_
        refine mi_get (ci := 5) (k := 2) dc_Mo_interval_34 rfl wi_Mo rfl rfl (by decide) fl_Mo_13 ((fu_n2 V _ (by decide)).trans hM.1) ?_
        refine mi_bipush dc_Mo_interval_37 (by decide) ?_
        refine mw_iload_n dc_Mo_interval_39 rfl 1 rfl ?_
        refine mi_imul dc_Mo_interval_40 ?_
        refine mw_aload_n dc_Mo_interval_41 rfl 0 rfl ?_
        refine mi_get (ci := 5) (k := 2) dc_Mo_interval_42 rfl wi_Mo rfl rfl (by decide) fl_Mo_13 ((fu_n2 V _ (by decide)).trans hM.1) ?_
        refine mi_bipush dc_Mo_interval_45 (by decide) ?_
        refine mw_iload_n dc_Mo_interval_47 rfl 2 rfl ?_
        refine mi_imul dc_Mo_interval_48 ?_
        rw [show (6 * (a : Int)) = ((6 * a : Nat) : Int) by omega, show (6 * (b : Int)) = ((6 * b : Nat) : Int) by omega]
        refine mz_V4 (M2 := mt_Mo_relate) dc_Mo_interval_49 ml_Mo_120 rfl rfl ny_Mo_relate (by decide) (Nat.le_of_ble_eq_true rfl) (ev_morelate (mo_fu _ hM (Or.inl rfl)) ((fu_n2 V _ (by decide)).trans hg) hn ⟨rfl, by decide⟩ ⟨rfl, by decide⟩ (by omega) (by omega) (hO.1 a ha) (hO.1 b hb)) (fun v h1 hY => ?_)
        obtain ⟨hv9, rfl⟩ := hY
        cases hv9
        refine mi_const dc_Mo_interval_52 ?_
        refine mw_istore dc_Mo_interval_53 (by decide) rfl ?_
        refine mi_const dc_Mo_interval_55 ?_
        refine mw_istore dc_Mo_interval_56 (by decide) rfl ?_
        refine mw_pick [0, 1, 5, 2] rfl ?_
        have hk9 := (hO.2 a b ha hb).1.1
        exact lp_mi2 (y := r a b) (mo_fu _ hM (Or.inl rfl)) ((fu_n2 V _ (by decide)).trans hg) hn hk (fun p hp => ⟨by rw [va_up_self]; exact (hk9 p hp).1, by have := (hk9 p hp).2.2; omega, by have := (hk9 p hp).2.2; omega⟩) n 0 0 (by omega) (by omega) ⟨fun q => absurd hs q, fun _ => ⟨rfl, _, ms_u _ (by omega), rfl⟩⟩
      · exact absurd hw (by decide)
    · refine mi_const dc_Mo_interval_15 ?_
      refine mw_goto (tgt := 20) dc_Mo_interval_16 (by decide) ?_
      refine mi_puti (ci := 5) (k := 0) dc_Mo_interval_20 rfl wi_Mo tk_Mo nm_Mo rfl rfl (by decide) fl_Mo_75 rfl (by decide +kernel) (show va_up V 39 (va_up (V 39) 0 (.int (iI 1))) = fu V 39 0 (.int (iI 1)) from rfl) ?_
      refine mw_aload_n dc_Mo_interval_23 rfl 0 rfl ?_
      refine mi_get (ci := 5) (k := 0) dc_Mo_interval_24 rfl wi_Mo rfl rfl (by decide) fl_Mo_75 (fu_at V 39 0 _) ?_
      have hs1 : okS x := Decidable.not_not.mp (bo_0.mp h05)
      have hs : ¬ (okS x ∧ okS y) := fun q => Decidable.not_not.mp (fun q => h112 (bo_0.mpr q)) q.2
      refine mi_if_le (tgt := 32) dc_Mo_interval_27 (by decide) (iB_mk (by omega) (by omega)) (fun hw => ?_) (fun hw => ?_)
      · exact absurd hw (by decide)
      · refine mi_const dc_Mo_interval_30 ?_
        exact mw_iret dc_Mo_interval_31 rfl rfl ⟨fun _ => ⟨rfl, rfl⟩, fun q => absurd q hs⟩
