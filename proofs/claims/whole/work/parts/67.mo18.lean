/-! the reference's read -/
theorem mW_post {G : mm_G} {M : mm_M} {d bc bs pc : Nat} {ls : List (Nat × Value)} {st : List Value} {h : mm_H} {X X' : mm_X} (f : ∀ o h1, X o h1 → X' o h1) (k : mW G M d bc bs pc ls st h X) : mW G M d bc bs pc ls st h X' := by
  intro p e R s m args below meth c A n0 ad0 Q hC hA hE
  exact k p e R s m args below meth c A n0 ad0 Q hC hA ⟨fun h ad H locs cells slots lr v hx => hE.1 h ad H locs cells slots lr v (f _ _ hx), fun h ad H locs cells slots lr k pc ik is ic text rest hx => hE.2.1 h ad H locs cells slots lr k pc ik is ic text rest (f _ _ hx), fun h ad H locs cells slots lr k pc q ce rest hx => hE.2.2 h ad H locs cells slots lr k pc q ce rest (f _ _ hx)⟩
def pop (m : Nat) : Nat := m % 2 + m / 2 % 2 + m / 4 % 2 + m / 8 % 2 + m / 16 % 2 + m / 32 % 2 + m / 64 % 2
def pbt (n m : Nat) : Bool := m % 2 == 0 && Nat.blt m (2 ^ (n + 1))
theorem pb_a : ∀ n, n < 7 → ∀ m, m < 128 → (pbt n m = true → pop m ≤ n) := by decide +kernel
def pbk (n m g : Nat) : Bool := decide ((pbt n m = true ∧ 1 ≤ g ∧ g ≤ n ∧ m / 2 ^ g % 2 = 0) → (pop m < n ∧ pbt n (m ||| 2 ^ g) = true ∧ pop (m ||| 2 ^ g) = pop m + 1))
theorem pb_b0 : ∀ n, n < 7 → ∀ m, m < 128 → ∀ g, g < 7 → pbk n m g = true := by decide +kernel
theorem pb_b (n : Nat) (h1 : n < 7) (m : Nat) (h2 : m < 128) (g : Nat) (h3 : g < 7) : ((pbt n m = true ∧ 1 ≤ g ∧ g ≤ n ∧ m / 2 ^ g % 2 = 0) → (pop m < n ∧ pbt n (m ||| 2 ^ g) = true ∧ pop (m ||| 2 ^ g) = pop m + 1)) := of_decide_eq_true (pb_b0 n h1 m h2 g h3)
theorem pb_1 (n : Nat) (hn : n < 7) (m : Nat) (hm : m < 128) (h : pbt n m = true) : pop m ≤ n ∧ ∀ g, g < 7 → 1 ≤ g → g ≤ n → m / 2 ^ g % 2 = 0 → pop m < n ∧ pbt n (m ||| 2 ^ g) = true ∧ pop (m ||| 2 ^ g) = pop m + 1 := ⟨pb_a n hn m hm h, fun g h7 h1 h2 h3 => pb_b n hn m hm g h7 ⟨h, h1, h2, h3⟩⟩
theorem pb_0 : ∀ n, n < 7 → pbt n 0 = true := by decide +kernel
def no_f (g : Nat → Int32) (s n : Nat) (z : Nat → Int) : Nat → Int32 := fun k => if 6 * s ≤ k ∧ k < 6 * s + n then iI (z (k - 6 * s)) else g k
theorem no_0 (g : Nat → Int32) (s : Nat) (z : Nat → Int) : no_f g s 0 z = g := by
  funext k; unfold no_f; rw [if_neg (by omega)]
theorem no_u {g : Nat → Int32} {s p : Nat} {z : Nat → Int} : upd (no_f g s p z) (6 * s + p) (iI (z p)) = no_f g s (p + 1) z := by
  funext j
  by_cases e : j = 6 * s + p
  · subst e; rw [pk_us]; unfold no_f; rw [if_pos (by omega), show 6 * s + p - 6 * s = p by omega]
  · rw [pk_un e]
    unfold no_f
    by_cases q : 6 * s ≤ j ∧ j < 6 * s + p
    · rw [if_pos q, if_pos (by omega)]
    · rw [if_neg q, if_neg (by omega)]
def mo_R (n l s : Nat) (cc : Nat → Int) (sh : mm_Sh) (I : Nat → Nat → Int32) (J : Nat → Nat → Int64) (F : Nat → Nat → Option Nat) (V : Nat → Nat → Value) : mm_X := fun o h1 =>
  ∃ (t : Nat) (q : ps_S), t ≤ l ∧ ps_r n cc t = some q ∧ ((t < l ∧ ps_1 n (cc t) q = none ∧ o = .inl (some (.int (iI t))) ∧ h1 = (sh, va_up I 49 (nr (I 49) 0 q.1 q.2.2.2), J, F, V)) ∨ (t = l ∧ q.1 ≠ n ∧ o = .inl (some (.int (iI l))) ∧ h1 = (sh, va_up I 49 (nr (I 49) 0 q.1 q.2.2.2), J, F, V)) ∨ (t = l ∧ q.1 = n ∧ o = .inl (some (.int (iI (-1)))) ∧ h1 = (sh, va_up (va_up (va_up I 49 (nr (I 49) 0 q.1 q.2.2.2)) 40 (no_f (I 40) s n q.2.2.2)) 41 (upd (I 41) s (iI 0)), J, F, fu V 39 6 (.int (iI 0)))))
theorem lp_mrd2 {G : mm_G} {d bc bs : Nat} {cs : mm_Sh} {I : Nat → Nat → Int32} {J : Nat → Nat → Int64} {F : Nat → Nat → Option Nat} {V : Nat → Nat → Value} {X : mm_X} {z : Nat → Int} {n l s : Nat} {cc : Nat → Int} (hM : mo_V V) (hg : V 39 1 = .int (iI n)) (hl : V 39 6 = .int (iI l)) (hn : n ≤ 6) (hs5 : s < 5) (hl24 : l ≤ 24) (hcc : ∀ k, k < l → I 43 k = iI (cc k) ∧ 0 ≤ cc k ∧ cc k < 256) (hx : X (.inl (some (.int (iI (-1))))) (wd_S ++ cs, va_up (va_up (va_up I 49 (nr (I 49) 0 n z)) 40 (no_f (I 40) s n z)) 41 (upd (I 41) s (iI 0)), J, F, fu V 39 6 (.int (iI 0)))) :
    ∀ (m p : Nat), n - p < m → p ≤ n → mW G mt_Mo_read d bc bs 200 [(5, .int (iI p)), (1, .int (iI s)), (0, .ref 39)] [] (wd_S ++ cs, va_up (va_up I 49 (nr (I 49) 0 n z)) 40 (no_f (I 40) s p z), J, F, V) X := by
  intro m
  induction m with
  | zero => intro p h1 _; exact absurd h1 (Nat.not_lt_zero _)
  | succ m ih =>
    intro p h1 h2
    refine mw_iload dc_Mo_read_200 0 rfl ?_
    refine mw_aload_n dc_Mo_read_202 rfl 2 rfl ?_
    refine mi_get (ci := 5) (k := 1) dc_Mo_read_203 rfl wi_Mo rfl rfl (by decide) fl_Mo_7 hg ?_
    refine mi_icmp_ge (tgt := 234) dc_Mo_read_206 (by decide) (iB_mk (by omega) (by omega)) (iB_mk (by omega) (by omega)) (fun hh => ?_) (fun hh => ?_)
    · have e : p = n := by omega
      subst e
      refine mw_aload_n dc_Mo_read_234 rfl 2 rfl ?_
      refine mi_get (ci := 5) (k := 3) dc_Mo_read_235 rfl wi_Mo rfl rfl (by decide) fl_Mo_17 hM.2.1 ?_
      refine mw_iload_n dc_Mo_read_238 rfl 1 rfl ?_
      refine mi_const dc_Mo_read_239 ?_
      refine mi_iast dc_Mo_read_240 rfl ⟨by omega, by omega, by decide⟩ (I' := va_up (va_up (va_up I 49 (nr (I 49) 0 p z)) 40 (no_f (I 40) s p z)) 41 (upd (I 41) s (iI 0))) (by rw [Int.toNat_natCast]; rfl) ?_
      refine mw_aload_n dc_Mo_read_241 rfl 2 rfl ?_
      refine mi_const dc_Mo_read_242 ?_
      refine mi_puti (ci := 5) (k := 6) dc_Mo_read_243 rfl wi_Mo tk_Mo nm_Mo rfl rfl (by decide) fl_Mo_84 rfl (by decide +kernel) (show va_up V 39 (va_up (V 39) 6 (.int (iI 0))) = fu V 39 6 (.int (iI 0)) from rfl) ?_
      refine mi_const dc_Mo_read_246 ?_
      exact mw_iret dc_Mo_read_247 rfl rfl hx
    · have hp : p < n := by omega
      refine mw_aload_n dc_Mo_read_209 rfl 2 rfl ?_
      refine mi_get (ci := 5) (k := 2) dc_Mo_read_210 rfl wi_Mo rfl rfl (by decide) fl_Mo_13 hM.1 ?_
      refine mi_bipush dc_Mo_read_213 (by decide) ?_
      refine mw_iload_n dc_Mo_read_215 rfl 1 rfl ?_
      refine mi_imul dc_Mo_read_216 ?_
      refine mw_iload dc_Mo_read_217 0 rfl ?_
      refine mi_iadd dc_Mo_read_219 ?_
      refine mw_aload_n dc_Mo_read_220 rfl 2 rfl ?_
      refine mi_get (ci := 5) (k := 16) dc_Mo_read_221 rfl wi_Mo rfl rfl (by decide) fl_Mo_45 hM.2.2.2.2.2.2.2.2.2.1 ?_
      refine mw_iload dc_Mo_read_224 0 rfl ?_
      refine mi_iald dc_Mo_read_226 rfl ⟨by omega, by omega, by decide⟩ (v := iI (z p)) (by rw [Int.toNat_natCast, va_up_ne _ _ (by decide), va_up_self, nr_a (by omega)]) ?_
      refine mi_iast dc_Mo_read_227 rfl ⟨by omega, by omega, by decide⟩ (I' := va_up (va_up I 49 (nr (I 49) 0 n z)) 40 (no_f (I 40) s (p + 1) z)) (by rw [va_up_self, up_up, show (6 * (s : Int) + p).toNat = 6 * s + p by omega, no_u]) ?_
      refine mi_iinc dc_Mo_read_228 0 rfl (by decide) rfl ?_
      refine mw_goto (tgt := 200) dc_Mo_read_231 (by decide) ?_
      refine mw_pick [0, 1, 2] rfl ?_
      exact ih (p + 1) (by omega) (by omega)
set_option maxHeartbeats 1000000 in
theorem lp_mrd {G : mm_G} {d bc bs : Nat} {cs : mm_Sh} {I : Nat → Nat → Int32} {J : Nat → Nat → Int64} {F : Nat → Nat → Option Nat} {V : Nat → Nat → Value} {n l s : Nat} {cc : Nat → Int} (hM : mo_V V) (hg : V 39 1 = .int (iI n)) (hl : V 39 6 = .int (iI l)) (hn : n ≤ 6) (hs5 : s < 5) (hl24 : l ≤ 24) (hcc : ∀ k, k < l → I 43 k = iI (cc k) ∧ 0 ≤ cc k ∧ cc k < 256) :
    ∀ (r k f m : Nat) (e : Int) (z : Nat → Int), l - k < r → k ≤ l → ps_r n cc k = some (f, m, e, z) → pop m = f → pbt n m = true → m < 128 → -1 ≤ e ∧ e ≤ 1 → mW G mt_Mo_read d bc bs 35 [(5, .int (iI k)), (4, .int (iI e)), (3, .int (iI (m : Nat))), (2, .int (iI (f : Nat))), (1, .int (iI s)), (0, .ref 39)] [] (wd_S ++ cs, va_up I 49 (nr (I 49) 0 f z), J, F, V) (mo_R n l s cc (wd_S ++ cs) I J F V) := by
  intro r
  induction r with
  | zero => intro k f m e z h1; exact absurd h1 (Nat.not_lt_zero _)
  | succ r ih =>
    intro k f m e z h1 h2 hr hpop hpb hm he
    obtain ⟨hfn0, hbit⟩ := pb_1 n (by omega) m hm hpb
    rw [hpop] at hfn0
    refine mw_iload dc_Mo_read_35 0 rfl ?_
    refine mw_aload_n dc_Mo_read_37 rfl 5 rfl ?_
    refine mi_get (ci := 5) (k := 6) dc_Mo_read_38 rfl wi_Mo rfl rfl (by decide) fl_Mo_84 hl ?_
    refine mi_icmp_ge (tgt := 184) dc_Mo_read_41 (by decide) (iB_mk (by omega) (by omega)) (iB_mk (by omega) (by omega)) (fun hh => ?_) (fun hh => ?_)
    · have e9 : k = l := by omega
      subst e9
      refine mw_iload_n dc_Mo_read_184 rfl 3 rfl ?_
      refine mw_aload_n dc_Mo_read_185 rfl 5 rfl ?_
      refine mi_get (ci := 5) (k := 1) dc_Mo_read_186 rfl wi_Mo rfl rfl (by decide) fl_Mo_7 hg ?_
      refine mi_icmp_ge (tgt := 197) dc_Mo_read_189 (by decide) (iB_mk (by omega) (by omega)) (iB_mk (by omega) (by omega)) (fun h0189 => ?_) (fun h0189 => ?_)
      · refine mi_const dc_Mo_read_197 ?_
        refine mw_istore dc_Mo_read_198 (by decide) rfl ?_
        have hfn : f = n := by omega
        subst hfn
        refine mw_pick [0, 4, 5] rfl ?_
        refine mw_h (h' := (wd_S ++ cs, va_up (va_up I 49 (nr (I 49) 0 f z)) 40 (no_f (I 40) s 0 z), J, F, V)) (by rw [no_0, show I 40 = va_up I 49 (nr (I 49) 0 f z) 40 from (va_up_ne _ _ (by decide)).symm, up_id]) ?_
        exact lp_mrd2 hM hg hl hn hs5 hl24 hcc ⟨k, (f, m, e, z), Nat.le_refl _, hr, Or.inr (Or.inr ⟨rfl, rfl, rfl, rfl⟩)⟩ (f + 1) 0 (by omega) (by omega)
      · refine mw_aload_n dc_Mo_read_192 rfl 5 rfl ?_
        refine mi_get (ci := 5) (k := 6) dc_Mo_read_193 rfl wi_Mo rfl rfl (by decide) fl_Mo_84 hl ?_
        exact mw_iret dc_Mo_read_196 rfl rfl ⟨k, (f, m, e, z), Nat.le_refl _, hr, Or.inr (Or.inl ⟨rfl, (show f ≠ n by omega), rfl, rfl⟩)⟩
    · have hk : k < l := by omega
      obtain ⟨q1, q2, q3⟩ := hcc k hk
      refine mw_aload_n dc_Mo_read_44 rfl 5 rfl ?_
      refine mi_get (ci := 5) (k := 5) dc_Mo_read_45 rfl wi_Mo rfl rfl (by decide) fl_Mo_23 hM.2.2.2.1 ?_
      refine mw_iload dc_Mo_read_48 0 rfl ?_
      refine mi_iald dc_Mo_read_50 rfl ⟨by omega, by omega, by decide⟩ (v := iI (cc k)) (by rw [Int.toNat_natCast, va_up_ne _ _ (by decide)]; exact q1) ?_
      refine mw_istore dc_Mo_read_51 (by decide) rfl ?_
      refine mw_iload dc_Mo_read_53 0 rfl ?_
      refine mi_bipush dc_Mo_read_55 (by decide) ?_
      refine mi_isub dc_Mo_read_57 ?_
      refine mw_istore dc_Mo_read_58 (by decide) rfl ?_
      refine mw_iload dc_Mo_read_60 0 rfl ?_
      refine mi_const dc_Mo_read_62 ?_
      refine mi_icmp_lt (tgt := 119) dc_Mo_read_63 (by decide) (iB_mk (by omega) (by omega)) (iB_mk (by omega) (by omega)) (fun h063 => ?_) (fun h063 => ?_)
      · refine mw_iload dc_Mo_read_119 1 rfl ?_
        refine mi_bipush dc_Mo_read_121 (by decide) ?_
        refine mi_icmp_eq (tgt := 133) dc_Mo_read_123 (by decide) (iB_mk (by omega) (by omega)) (iB_mk (by omega) (by omega)) (fun h1123 => ?_) (fun h1123 => ?_)
        · refine mw_iload dc_Mo_read_133 3 rfl ?_
          refine mi_if_ne (tgt := 163) dc_Mo_read_135 (by decide) (iB_mk (by omega) (by omega)) (fun h2135 => ?_) (fun h2135 => ?_)
          · refine mw_iload dc_Mo_read_163 1 rfl ?_
            refine mi_bipush dc_Mo_read_165 (by decide) ?_
            refine mi_icmp_ne (tgt := 175) dc_Mo_read_167 (by decide) (iB_mk (by omega) (by omega)) (iB_mk (by omega) (by omega)) (fun h3167 => ?_) (fun h3167 => ?_)
            · refine mw_iload dc_Mo_read_175 2 rfl ?_
              have e9 : ps_1 n (cc k) (f, m, e, z) = none := by
                unfold ps_1
                dsimp only
                by_cases hfn : f = n
                · rw [if_neg (fun q => by have := q.1; have := q.2; omega), if_pos hfn]
                · rw [if_neg (fun q => by have := q.1; have := q.2; omega), if_neg hfn, if_neg (fun q => by have := q.1; rcases q.2 with q2 | q2 <;> omega), if_pos (Or.inl (by omega))]
              exact mw_iret dc_Mo_read_177 rfl rfl ⟨k, (f, m, e, z), h2, hr, Or.inl ⟨hk, e9, rfl, rfl⟩⟩
            · refine mw_iload dc_Mo_read_170 3 rfl ?_
              refine mi_if_eq (tgt := 178) dc_Mo_read_172 (by decide) (iB_mk (by omega) (by omega)) (fun h4172 => ?_) (fun h4172 => ?_)
              · refine mi_iinc dc_Mo_read_178 2 rfl (by decide) rfl ?_
                refine mw_goto (tgt := 35) dc_Mo_read_181 (by decide) ?_
                refine mw_pick [0, 3, 4, 5, 6, 7] rfl ?_
                have e9 : ps_1 n (cc k) (f, m, e, z) = some (f, m, e, z) := by
                  unfold ps_1
                  dsimp only
                  rw [if_pos ⟨by omega, by omega⟩]
                exact ih (k + 1) (f) (m) (e) (z) (by omega) (by omega) (by show (ps_r n cc k).bind _ = _; rw [hr]; exact e9) hpop hpb hm he
              · refine mw_iload dc_Mo_read_175 2 rfl ?_
                have e9 : ps_1 n (cc k) (f, m, e, z) = none := by
                  unfold ps_1
                  dsimp only
                  by_cases hfn : f = n
                  · rw [if_neg (fun q => by have := q.1; have := q.2; omega), if_pos hfn]
                  · rw [if_neg (fun q => by have := q.1; have := q.2; omega), if_neg hfn, if_neg (fun q => by have := q.1; rcases q.2 with q2 | q2 <;> omega), if_pos (Or.inl (by omega))]
                exact mw_iret dc_Mo_read_177 rfl rfl ⟨k, (f, m, e, z), h2, hr, Or.inl ⟨hk, e9, rfl, rfl⟩⟩
          · refine mw_iload_n dc_Mo_read_138 rfl 5 rfl ?_
            refine mw_aload_n dc_Mo_read_139 rfl 7 rfl ?_
            refine mi_get (ci := 5) (k := 1) dc_Mo_read_140 rfl wi_Mo rfl rfl (by decide) fl_Mo_7 hg ?_
            refine mi_icmp_ge (tgt := 163) dc_Mo_read_143 (by decide) (iB_mk (by omega) (by omega)) (iB_mk (by omega) (by omega)) (fun h3143 => ?_) (fun h3143 => ?_)
            · refine mw_iload dc_Mo_read_163 1 rfl ?_
              refine mi_bipush dc_Mo_read_165 (by decide) ?_
              refine mi_icmp_ne (tgt := 175) dc_Mo_read_167 (by decide) (iB_mk (by omega) (by omega)) (iB_mk (by omega) (by omega)) (fun h4167 => ?_) (fun h4167 => ?_)
              · refine mw_iload dc_Mo_read_175 2 rfl ?_
                have e9 : ps_1 n (cc k) (f, m, e, z) = none := by
                  unfold ps_1
                  dsimp only
                  by_cases hfn : f = n
                  · rw [if_neg (fun q => by have := q.1; have := q.2; omega), if_pos hfn]
                  · rw [if_neg (fun q => by have := q.1; have := q.2; omega), if_neg hfn, if_neg (fun q => by have := q.1; rcases q.2 with q2 | q2 <;> omega), if_pos (Or.inl (by omega))]
                exact mw_iret dc_Mo_read_177 rfl rfl ⟨k, (f, m, e, z), h2, hr, Or.inl ⟨hk, e9, rfl, rfl⟩⟩
              · refine mw_iload dc_Mo_read_170 3 rfl ?_
                refine mi_if_eq (tgt := 178) dc_Mo_read_172 (by decide) (iB_mk (by omega) (by omega)) (fun h5172 => ?_) (fun h5172 => ?_)
                · refine mi_iinc dc_Mo_read_178 2 rfl (by decide) rfl ?_
                  refine mw_goto (tgt := 35) dc_Mo_read_181 (by decide) ?_
                  refine mw_pick [0, 3, 4, 5, 6, 7] rfl ?_
                  have e9 : ps_1 n (cc k) (f, m, e, z) = some (f, m, e, z) := by
                    unfold ps_1
                    dsimp only
                    rw [if_pos ⟨by omega, by omega⟩]
                  exact ih (k + 1) (f) (m) (e) (z) (by omega) (by omega) (by show (ps_r n cc k).bind _ = _; rw [hr]; exact e9) hpop hpb hm he
                · refine mw_iload dc_Mo_read_175 2 rfl ?_
                  have e9 : ps_1 n (cc k) (f, m, e, z) = none := by
                    unfold ps_1
                    dsimp only
                    by_cases hfn : f = n
                    · rw [if_neg (fun q => by have := q.1; have := q.2; omega), if_pos hfn]
                    · rw [if_neg (fun q => by have := q.1; have := q.2; omega), if_neg hfn, if_neg (fun q => by have := q.1; rcases q.2 with q2 | q2 <;> omega), if_pos (Or.inl (by omega))]
                  exact mw_iret dc_Mo_read_177 rfl rfl ⟨k, (f, m, e, z), h2, hr, Or.inl ⟨hk, e9, rfl, rfl⟩⟩
            · refine mw_iload dc_Mo_read_146 1 rfl ?_
              refine mi_bipush dc_Mo_read_148 (by decide) ?_
              refine mi_icmp_ne (tgt := 157) dc_Mo_read_150 (by decide) (iB_mk (by omega) (by omega)) (iB_mk (by omega) (by omega)) (fun h4150 => ?_) (fun h4150 => ?_)
              · refine mi_const dc_Mo_read_157 ?_
                refine mw_istore dc_Mo_read_158 (by decide) rfl ?_
                refine mw_goto (tgt := 178) dc_Mo_read_160 (by decide) ?_
                refine mi_iinc dc_Mo_read_178 3 rfl (by decide) rfl ?_
                refine mw_goto (tgt := 35) dc_Mo_read_181 (by decide) ?_
                refine mw_pick [0, 1, 4, 5, 6, 7] rfl ?_
                have e9 : ps_1 n (cc k) (f, m, e, z) = some (f, m, -1, z) := by
                  unfold ps_1
                  dsimp only
                  rw [if_neg (fun q => by have := q.1; have := q.2; omega), if_neg (show ¬ f = n by omega), if_pos ⟨by omega, by omega⟩]
                  rw [show (if cc k = 43 then (1 : Int) else -1) = -1 from if_neg (by omega)]
                exact ih (k + 1) (f) (m) (-1) (z) (by omega) (by omega) (by show (ps_r n cc k).bind _ = _; rw [hr]; exact e9) hpop hpb hm (by omega)
              · refine mi_const dc_Mo_read_153 ?_
                refine mw_goto (tgt := 158) dc_Mo_read_154 (by decide) ?_
                refine mw_istore dc_Mo_read_158 (by decide) rfl ?_
                refine mw_goto (tgt := 178) dc_Mo_read_160 (by decide) ?_
                refine mi_iinc dc_Mo_read_178 3 rfl (by decide) rfl ?_
                refine mw_goto (tgt := 35) dc_Mo_read_181 (by decide) ?_
                refine mw_pick [0, 1, 4, 5, 6, 7] rfl ?_
                have e9 : ps_1 n (cc k) (f, m, e, z) = some (f, m, 1, z) := by
                  unfold ps_1
                  dsimp only
                  rw [if_neg (fun q => by have := q.1; have := q.2; omega), if_neg (show ¬ f = n by omega), if_pos ⟨by omega, by omega⟩]
                  rw [show (if cc k = 43 then (1 : Int) else -1) = 1 from if_pos (by omega)]
                exact ih (k + 1) (f) (m) (1) (z) (by omega) (by omega) (by show (ps_r n cc k).bind _ = _; rw [hr]; exact e9) hpop hpb hm (by omega)
        · refine mw_iload dc_Mo_read_126 1 rfl ?_
          refine mi_bipush dc_Mo_read_128 (by decide) ?_
          refine mi_icmp_ne (tgt := 163) dc_Mo_read_130 (by decide) (iB_mk (by omega) (by omega)) (iB_mk (by omega) (by omega)) (fun h2130 => ?_) (fun h2130 => ?_)
          · refine mw_iload dc_Mo_read_163 1 rfl ?_
            refine mi_bipush dc_Mo_read_165 (by decide) ?_
            refine mi_icmp_ne (tgt := 175) dc_Mo_read_167 (by decide) (iB_mk (by omega) (by omega)) (iB_mk (by omega) (by omega)) (fun h3167 => ?_) (fun h3167 => ?_)
            · refine mw_iload dc_Mo_read_175 2 rfl ?_
              have e9 : ps_1 n (cc k) (f, m, e, z) = none := by
                unfold ps_1
                dsimp only
                by_cases hfn : f = n
                · rw [if_neg (fun q => by have := q.1; have := q.2; omega), if_pos hfn]
                · rw [if_neg (fun q => by have := q.1; have := q.2; omega), if_neg hfn, if_neg (fun q => by have := q.1; rcases q.2 with q2 | q2 <;> omega), if_pos (Or.inl (by omega))]
              exact mw_iret dc_Mo_read_177 rfl rfl ⟨k, (f, m, e, z), h2, hr, Or.inl ⟨hk, e9, rfl, rfl⟩⟩
            · refine mw_iload dc_Mo_read_170 3 rfl ?_
              refine mi_if_eq (tgt := 178) dc_Mo_read_172 (by decide) (iB_mk (by omega) (by omega)) (fun h4172 => ?_) (fun h4172 => ?_)
              · refine mi_iinc dc_Mo_read_178 2 rfl (by decide) rfl ?_
                refine mw_goto (tgt := 35) dc_Mo_read_181 (by decide) ?_
                refine mw_pick [0, 3, 4, 5, 6, 7] rfl ?_
                have e9 : ps_1 n (cc k) (f, m, e, z) = some (f, m, e, z) := by
                  unfold ps_1
                  dsimp only
                  rw [if_pos ⟨by omega, by omega⟩]
                exact ih (k + 1) (f) (m) (e) (z) (by omega) (by omega) (by show (ps_r n cc k).bind _ = _; rw [hr]; exact e9) hpop hpb hm he
              · refine mw_iload dc_Mo_read_175 2 rfl ?_
                have e9 : ps_1 n (cc k) (f, m, e, z) = none := by
                  unfold ps_1
                  dsimp only
                  by_cases hfn : f = n
                  · rw [if_neg (fun q => by have := q.1; have := q.2; omega), if_pos hfn]
                  · rw [if_neg (fun q => by have := q.1; have := q.2; omega), if_neg hfn, if_neg (fun q => by have := q.1; rcases q.2 with q2 | q2 <;> omega), if_pos (Or.inl (by omega))]
                exact mw_iret dc_Mo_read_177 rfl rfl ⟨k, (f, m, e, z), h2, hr, Or.inl ⟨hk, e9, rfl, rfl⟩⟩
          · refine mw_iload dc_Mo_read_133 3 rfl ?_
            refine mi_if_ne (tgt := 163) dc_Mo_read_135 (by decide) (iB_mk (by omega) (by omega)) (fun h3135 => ?_) (fun h3135 => ?_)
            · refine mw_iload dc_Mo_read_163 1 rfl ?_
              refine mi_bipush dc_Mo_read_165 (by decide) ?_
              refine mi_icmp_ne (tgt := 175) dc_Mo_read_167 (by decide) (iB_mk (by omega) (by omega)) (iB_mk (by omega) (by omega)) (fun h4167 => ?_) (fun h4167 => ?_)
              · refine mw_iload dc_Mo_read_175 2 rfl ?_
                have e9 : ps_1 n (cc k) (f, m, e, z) = none := by
                  unfold ps_1
                  dsimp only
                  by_cases hfn : f = n
                  · rw [if_neg (fun q => by have := q.1; have := q.2; omega), if_pos hfn]
                  · rw [if_neg (fun q => by have := q.1; have := q.2; omega), if_neg hfn, if_neg (fun q => by have := q.1; rcases q.2 with q2 | q2 <;> omega), if_pos (Or.inl (by omega))]
                exact mw_iret dc_Mo_read_177 rfl rfl ⟨k, (f, m, e, z), h2, hr, Or.inl ⟨hk, e9, rfl, rfl⟩⟩
              · refine mw_iload dc_Mo_read_170 3 rfl ?_
                refine mi_if_eq (tgt := 178) dc_Mo_read_172 (by decide) (iB_mk (by omega) (by omega)) (fun h5172 => ?_) (fun h5172 => ?_)
                · refine mi_iinc dc_Mo_read_178 2 rfl (by decide) rfl ?_
                  refine mw_goto (tgt := 35) dc_Mo_read_181 (by decide) ?_
                  refine mw_pick [0, 3, 4, 5, 6, 7] rfl ?_
                  have e9 : ps_1 n (cc k) (f, m, e, z) = some (f, m, e, z) := by
                    unfold ps_1
                    dsimp only
                    rw [if_pos ⟨by omega, by omega⟩]
                  exact ih (k + 1) (f) (m) (e) (z) (by omega) (by omega) (by show (ps_r n cc k).bind _ = _; rw [hr]; exact e9) hpop hpb hm he
                · refine mw_iload dc_Mo_read_175 2 rfl ?_
                  have e9 : ps_1 n (cc k) (f, m, e, z) = none := by
                    unfold ps_1
                    dsimp only
                    by_cases hfn : f = n
                    · rw [if_neg (fun q => by have := q.1; have := q.2; omega), if_pos hfn]
                    · rw [if_neg (fun q => by have := q.1; have := q.2; omega), if_neg hfn, if_neg (fun q => by have := q.1; rcases q.2 with q2 | q2 <;> omega), if_pos (Or.inl (by omega))]
                  exact mw_iret dc_Mo_read_177 rfl rfl ⟨k, (f, m, e, z), h2, hr, Or.inl ⟨hk, e9, rfl, rfl⟩⟩
            · refine mw_iload_n dc_Mo_read_138 rfl 5 rfl ?_
              refine mw_aload_n dc_Mo_read_139 rfl 7 rfl ?_
              refine mi_get (ci := 5) (k := 1) dc_Mo_read_140 rfl wi_Mo rfl rfl (by decide) fl_Mo_7 hg ?_
              refine mi_icmp_ge (tgt := 163) dc_Mo_read_143 (by decide) (iB_mk (by omega) (by omega)) (iB_mk (by omega) (by omega)) (fun h4143 => ?_) (fun h4143 => ?_)
              · refine mw_iload dc_Mo_read_163 1 rfl ?_
                refine mi_bipush dc_Mo_read_165 (by decide) ?_
                refine mi_icmp_ne (tgt := 175) dc_Mo_read_167 (by decide) (iB_mk (by omega) (by omega)) (iB_mk (by omega) (by omega)) (fun h5167 => ?_) (fun h5167 => ?_)
                · refine mw_iload dc_Mo_read_175 2 rfl ?_
                  have e9 : ps_1 n (cc k) (f, m, e, z) = none := by
                    unfold ps_1
                    dsimp only
                    by_cases hfn : f = n
                    · rw [if_neg (fun q => by have := q.1; have := q.2; omega), if_pos hfn]
                    · rw [if_neg (fun q => by have := q.1; have := q.2; omega), if_neg hfn, if_neg (fun q => by have := q.1; rcases q.2 with q2 | q2 <;> omega), if_pos (Or.inl (by omega))]
                  exact mw_iret dc_Mo_read_177 rfl rfl ⟨k, (f, m, e, z), h2, hr, Or.inl ⟨hk, e9, rfl, rfl⟩⟩
                · refine mw_iload dc_Mo_read_170 3 rfl ?_
                  refine mi_if_eq (tgt := 178) dc_Mo_read_172 (by decide) (iB_mk (by omega) (by omega)) (fun h6172 => ?_) (fun h6172 => ?_)
                  · refine mi_iinc dc_Mo_read_178 2 rfl (by decide) rfl ?_
                    refine mw_goto (tgt := 35) dc_Mo_read_181 (by decide) ?_
                    refine mw_pick [0, 3, 4, 5, 6, 7] rfl ?_
                    have e9 : ps_1 n (cc k) (f, m, e, z) = some (f, m, e, z) := by
                      unfold ps_1
                      dsimp only
                      rw [if_pos ⟨by omega, by omega⟩]
                    exact ih (k + 1) (f) (m) (e) (z) (by omega) (by omega) (by show (ps_r n cc k).bind _ = _; rw [hr]; exact e9) hpop hpb hm he
                  · refine mw_iload dc_Mo_read_175 2 rfl ?_
                    have e9 : ps_1 n (cc k) (f, m, e, z) = none := by
                      unfold ps_1
                      dsimp only
                      by_cases hfn : f = n
                      · rw [if_neg (fun q => by have := q.1; have := q.2; omega), if_pos hfn]
                      · rw [if_neg (fun q => by have := q.1; have := q.2; omega), if_neg hfn, if_neg (fun q => by have := q.1; rcases q.2 with q2 | q2 <;> omega), if_pos (Or.inl (by omega))]
                    exact mw_iret dc_Mo_read_177 rfl rfl ⟨k, (f, m, e, z), h2, hr, Or.inl ⟨hk, e9, rfl, rfl⟩⟩
              · refine mw_iload dc_Mo_read_146 1 rfl ?_
                refine mi_bipush dc_Mo_read_148 (by decide) ?_
                refine mi_icmp_ne (tgt := 157) dc_Mo_read_150 (by decide) (iB_mk (by omega) (by omega)) (iB_mk (by omega) (by omega)) (fun h5150 => ?_) (fun h5150 => ?_)
                · refine mi_const dc_Mo_read_157 ?_
                  refine mw_istore dc_Mo_read_158 (by decide) rfl ?_
                  refine mw_goto (tgt := 178) dc_Mo_read_160 (by decide) ?_
                  refine mi_iinc dc_Mo_read_178 3 rfl (by decide) rfl ?_
                  refine mw_goto (tgt := 35) dc_Mo_read_181 (by decide) ?_
                  refine mw_pick [0, 1, 4, 5, 6, 7] rfl ?_
                  have e9 : ps_1 n (cc k) (f, m, e, z) = some (f, m, -1, z) := by
                    unfold ps_1
                    dsimp only
                    rw [if_neg (fun q => by have := q.1; have := q.2; omega), if_neg (show ¬ f = n by omega), if_pos ⟨by omega, by omega⟩]
                    rw [show (if cc k = 43 then (1 : Int) else -1) = -1 from if_neg (by omega)]
                  exact ih (k + 1) (f) (m) (-1) (z) (by omega) (by omega) (by show (ps_r n cc k).bind _ = _; rw [hr]; exact e9) hpop hpb hm (by omega)
                · refine mi_const dc_Mo_read_153 ?_
                  refine mw_goto (tgt := 158) dc_Mo_read_154 (by decide) ?_
                  refine mw_istore dc_Mo_read_158 (by decide) rfl ?_
                  refine mw_goto (tgt := 178) dc_Mo_read_160 (by decide) ?_
                  refine mi_iinc dc_Mo_read_178 3 rfl (by decide) rfl ?_
                  refine mw_goto (tgt := 35) dc_Mo_read_181 (by decide) ?_
                  refine mw_pick [0, 1, 4, 5, 6, 7] rfl ?_
                  have e9 : ps_1 n (cc k) (f, m, e, z) = some (f, m, 1, z) := by
                    unfold ps_1
                    dsimp only
                    rw [if_neg (fun q => by have := q.1; have := q.2; omega), if_neg (show ¬ f = n by omega), if_pos ⟨by omega, by omega⟩]
                    rw [show (if cc k = 43 then (1 : Int) else -1) = 1 from if_pos (by omega)]
                  exact ih (k + 1) (f) (m) (1) (z) (by omega) (by omega) (by show (ps_r n cc k).bind _ = _; rw [hr]; exact e9) hpop hpb hm (by omega)
      · refine mw_iload dc_Mo_read_66 0 rfl ?_
        refine mw_aload_n dc_Mo_read_68 rfl 7 rfl ?_
        refine mi_get (ci := 5) (k := 1) dc_Mo_read_69 rfl wi_Mo rfl rfl (by decide) fl_Mo_7 hg ?_
        refine mi_icmp_gt (tgt := 119) dc_Mo_read_72 (by decide) (iB_mk (by omega) (by omega)) (iB_mk (by omega) (by omega)) (fun h172 => ?_) (fun h172 => ?_)
        · refine mw_iload dc_Mo_read_119 1 rfl ?_
          refine mi_bipush dc_Mo_read_121 (by decide) ?_
          refine mi_icmp_eq (tgt := 133) dc_Mo_read_123 (by decide) (iB_mk (by omega) (by omega)) (iB_mk (by omega) (by omega)) (fun h2123 => ?_) (fun h2123 => ?_)
          · refine mw_iload dc_Mo_read_133 3 rfl ?_
            refine mi_if_ne (tgt := 163) dc_Mo_read_135 (by decide) (iB_mk (by omega) (by omega)) (fun h3135 => ?_) (fun h3135 => ?_)
            · refine mw_iload dc_Mo_read_163 1 rfl ?_
              refine mi_bipush dc_Mo_read_165 (by decide) ?_
              refine mi_icmp_ne (tgt := 175) dc_Mo_read_167 (by decide) (iB_mk (by omega) (by omega)) (iB_mk (by omega) (by omega)) (fun h4167 => ?_) (fun h4167 => ?_)
              · refine mw_iload dc_Mo_read_175 2 rfl ?_
                have e9 : ps_1 n (cc k) (f, m, e, z) = none := by
                  unfold ps_1
                  dsimp only
                  by_cases hfn : f = n
                  · rw [if_neg (fun q => by have := q.1; have := q.2; omega), if_pos hfn]
                  · rw [if_neg (fun q => by have := q.1; have := q.2; omega), if_neg hfn, if_neg (fun q => by have := q.1; rcases q.2 with q2 | q2 <;> omega), if_pos (Or.inr (Or.inl (by omega)))]
                exact mw_iret dc_Mo_read_177 rfl rfl ⟨k, (f, m, e, z), h2, hr, Or.inl ⟨hk, e9, rfl, rfl⟩⟩
              · refine mw_iload dc_Mo_read_170 3 rfl ?_
                refine mi_if_eq (tgt := 178) dc_Mo_read_172 (by decide) (iB_mk (by omega) (by omega)) (fun h5172 => ?_) (fun h5172 => ?_)
                · refine mi_iinc dc_Mo_read_178 2 rfl (by decide) rfl ?_
                  refine mw_goto (tgt := 35) dc_Mo_read_181 (by decide) ?_
                  refine mw_pick [0, 3, 4, 5, 6, 7] rfl ?_
                  have e9 : ps_1 n (cc k) (f, m, e, z) = some (f, m, e, z) := by
                    unfold ps_1
                    dsimp only
                    rw [if_pos ⟨by omega, by omega⟩]
                  exact ih (k + 1) (f) (m) (e) (z) (by omega) (by omega) (by show (ps_r n cc k).bind _ = _; rw [hr]; exact e9) hpop hpb hm he
                · refine mw_iload dc_Mo_read_175 2 rfl ?_
                  have e9 : ps_1 n (cc k) (f, m, e, z) = none := by
                    unfold ps_1
                    dsimp only
                    by_cases hfn : f = n
                    · rw [if_neg (fun q => by have := q.1; have := q.2; omega), if_pos hfn]
                    · rw [if_neg (fun q => by have := q.1; have := q.2; omega), if_neg hfn, if_neg (fun q => by have := q.1; rcases q.2 with q2 | q2 <;> omega), if_pos (Or.inr (Or.inl (by omega)))]
                  exact mw_iret dc_Mo_read_177 rfl rfl ⟨k, (f, m, e, z), h2, hr, Or.inl ⟨hk, e9, rfl, rfl⟩⟩
            · refine mw_iload_n dc_Mo_read_138 rfl 5 rfl ?_
              refine mw_aload_n dc_Mo_read_139 rfl 7 rfl ?_
              refine mi_get (ci := 5) (k := 1) dc_Mo_read_140 rfl wi_Mo rfl rfl (by decide) fl_Mo_7 hg ?_
              refine mi_icmp_ge (tgt := 163) dc_Mo_read_143 (by decide) (iB_mk (by omega) (by omega)) (iB_mk (by omega) (by omega)) (fun h4143 => ?_) (fun h4143 => ?_)
              · refine mw_iload dc_Mo_read_163 1 rfl ?_
                refine mi_bipush dc_Mo_read_165 (by decide) ?_
                refine mi_icmp_ne (tgt := 175) dc_Mo_read_167 (by decide) (iB_mk (by omega) (by omega)) (iB_mk (by omega) (by omega)) (fun h5167 => ?_) (fun h5167 => ?_)
                · refine mw_iload dc_Mo_read_175 2 rfl ?_
                  have e9 : ps_1 n (cc k) (f, m, e, z) = none := by
                    unfold ps_1
                    dsimp only
                    by_cases hfn : f = n
                    · rw [if_neg (fun q => by have := q.1; have := q.2; omega), if_pos hfn]
                    · rw [if_neg (fun q => by have := q.1; have := q.2; omega), if_neg hfn, if_neg (fun q => by have := q.1; rcases q.2 with q2 | q2 <;> omega), if_pos (Or.inr (Or.inl (by omega)))]
                  exact mw_iret dc_Mo_read_177 rfl rfl ⟨k, (f, m, e, z), h2, hr, Or.inl ⟨hk, e9, rfl, rfl⟩⟩
                · refine mw_iload dc_Mo_read_170 3 rfl ?_
                  refine mi_if_eq (tgt := 178) dc_Mo_read_172 (by decide) (iB_mk (by omega) (by omega)) (fun h6172 => ?_) (fun h6172 => ?_)
                  · refine mi_iinc dc_Mo_read_178 2 rfl (by decide) rfl ?_
                    refine mw_goto (tgt := 35) dc_Mo_read_181 (by decide) ?_
                    refine mw_pick [0, 3, 4, 5, 6, 7] rfl ?_
                    have e9 : ps_1 n (cc k) (f, m, e, z) = some (f, m, e, z) := by
                      unfold ps_1
                      dsimp only
                      rw [if_pos ⟨by omega, by omega⟩]
                    exact ih (k + 1) (f) (m) (e) (z) (by omega) (by omega) (by show (ps_r n cc k).bind _ = _; rw [hr]; exact e9) hpop hpb hm he
                  · refine mw_iload dc_Mo_read_175 2 rfl ?_
                    have e9 : ps_1 n (cc k) (f, m, e, z) = none := by
                      unfold ps_1
                      dsimp only
                      by_cases hfn : f = n
                      · rw [if_neg (fun q => by have := q.1; have := q.2; omega), if_pos hfn]
                      · rw [if_neg (fun q => by have := q.1; have := q.2; omega), if_neg hfn, if_neg (fun q => by have := q.1; rcases q.2 with q2 | q2 <;> omega), if_pos (Or.inr (Or.inl (by omega)))]
                    exact mw_iret dc_Mo_read_177 rfl rfl ⟨k, (f, m, e, z), h2, hr, Or.inl ⟨hk, e9, rfl, rfl⟩⟩
              · refine mw_iload dc_Mo_read_146 1 rfl ?_
                refine mi_bipush dc_Mo_read_148 (by decide) ?_
                refine mi_icmp_ne (tgt := 157) dc_Mo_read_150 (by decide) (iB_mk (by omega) (by omega)) (iB_mk (by omega) (by omega)) (fun h5150 => ?_) (fun h5150 => ?_)
                · refine mi_const dc_Mo_read_157 ?_
                  refine mw_istore dc_Mo_read_158 (by decide) rfl ?_
                  refine mw_goto (tgt := 178) dc_Mo_read_160 (by decide) ?_
                  refine mi_iinc dc_Mo_read_178 3 rfl (by decide) rfl ?_
                  refine mw_goto (tgt := 35) dc_Mo_read_181 (by decide) ?_
                  refine mw_pick [0, 1, 4, 5, 6, 7] rfl ?_
                  have e9 : ps_1 n (cc k) (f, m, e, z) = some (f, m, -1, z) := by
                    unfold ps_1
                    dsimp only
                    rw [if_neg (fun q => by have := q.1; have := q.2; omega), if_neg (show ¬ f = n by omega), if_pos ⟨by omega, by omega⟩]
                    rw [show (if cc k = 43 then (1 : Int) else -1) = -1 from if_neg (by omega)]
                  exact ih (k + 1) (f) (m) (-1) (z) (by omega) (by omega) (by show (ps_r n cc k).bind _ = _; rw [hr]; exact e9) hpop hpb hm (by omega)
                · refine mi_const dc_Mo_read_153 ?_
                  refine mw_goto (tgt := 158) dc_Mo_read_154 (by decide) ?_
                  refine mw_istore dc_Mo_read_158 (by decide) rfl ?_
                  refine mw_goto (tgt := 178) dc_Mo_read_160 (by decide) ?_
                  refine mi_iinc dc_Mo_read_178 3 rfl (by decide) rfl ?_
                  refine mw_goto (tgt := 35) dc_Mo_read_181 (by decide) ?_
                  refine mw_pick [0, 1, 4, 5, 6, 7] rfl ?_
                  have e9 : ps_1 n (cc k) (f, m, e, z) = some (f, m, 1, z) := by
                    unfold ps_1
                    dsimp only
                    rw [if_neg (fun q => by have := q.1; have := q.2; omega), if_neg (show ¬ f = n by omega), if_pos ⟨by omega, by omega⟩]
                    rw [show (if cc k = 43 then (1 : Int) else -1) = 1 from if_pos (by omega)]
                  exact ih (k + 1) (f) (m) (1) (z) (by omega) (by omega) (by show (ps_r n cc k).bind _ = _; rw [hr]; exact e9) hpop hpb hm (by omega)
          · refine mw_iload dc_Mo_read_126 1 rfl ?_
            refine mi_bipush dc_Mo_read_128 (by decide) ?_
            refine mi_icmp_ne (tgt := 163) dc_Mo_read_130 (by decide) (iB_mk (by omega) (by omega)) (iB_mk (by omega) (by omega)) (fun h3130 => ?_) (fun h3130 => ?_)
            · refine mw_iload dc_Mo_read_163 1 rfl ?_
              refine mi_bipush dc_Mo_read_165 (by decide) ?_
              refine mi_icmp_ne (tgt := 175) dc_Mo_read_167 (by decide) (iB_mk (by omega) (by omega)) (iB_mk (by omega) (by omega)) (fun h4167 => ?_) (fun h4167 => ?_)
              · refine mw_iload dc_Mo_read_175 2 rfl ?_
                have e9 : ps_1 n (cc k) (f, m, e, z) = none := by
                  unfold ps_1
                  dsimp only
                  by_cases hfn : f = n
                  · rw [if_neg (fun q => by have := q.1; have := q.2; omega), if_pos hfn]
                  · rw [if_neg (fun q => by have := q.1; have := q.2; omega), if_neg hfn, if_neg (fun q => by have := q.1; rcases q.2 with q2 | q2 <;> omega), if_pos (Or.inr (Or.inl (by omega)))]
                exact mw_iret dc_Mo_read_177 rfl rfl ⟨k, (f, m, e, z), h2, hr, Or.inl ⟨hk, e9, rfl, rfl⟩⟩
              · refine mw_iload dc_Mo_read_170 3 rfl ?_
                refine mi_if_eq (tgt := 178) dc_Mo_read_172 (by decide) (iB_mk (by omega) (by omega)) (fun h5172 => ?_) (fun h5172 => ?_)
                · refine mi_iinc dc_Mo_read_178 2 rfl (by decide) rfl ?_
                  refine mw_goto (tgt := 35) dc_Mo_read_181 (by decide) ?_
                  refine mw_pick [0, 3, 4, 5, 6, 7] rfl ?_
                  have e9 : ps_1 n (cc k) (f, m, e, z) = some (f, m, e, z) := by
                    unfold ps_1
                    dsimp only
                    rw [if_pos ⟨by omega, by omega⟩]
                  exact ih (k + 1) (f) (m) (e) (z) (by omega) (by omega) (by show (ps_r n cc k).bind _ = _; rw [hr]; exact e9) hpop hpb hm he
                · refine mw_iload dc_Mo_read_175 2 rfl ?_
                  have e9 : ps_1 n (cc k) (f, m, e, z) = none := by
                    unfold ps_1
                    dsimp only
                    by_cases hfn : f = n
                    · rw [if_neg (fun q => by have := q.1; have := q.2; omega), if_pos hfn]
                    · rw [if_neg (fun q => by have := q.1; have := q.2; omega), if_neg hfn, if_neg (fun q => by have := q.1; rcases q.2 with q2 | q2 <;> omega), if_pos (Or.inr (Or.inl (by omega)))]
                  exact mw_iret dc_Mo_read_177 rfl rfl ⟨k, (f, m, e, z), h2, hr, Or.inl ⟨hk, e9, rfl, rfl⟩⟩
            · refine mw_iload dc_Mo_read_133 3 rfl ?_
              refine mi_if_ne (tgt := 163) dc_Mo_read_135 (by decide) (iB_mk (by omega) (by omega)) (fun h4135 => ?_) (fun h4135 => ?_)
              · refine mw_iload dc_Mo_read_163 1 rfl ?_
                refine mi_bipush dc_Mo_read_165 (by decide) ?_
                refine mi_icmp_ne (tgt := 175) dc_Mo_read_167 (by decide) (iB_mk (by omega) (by omega)) (iB_mk (by omega) (by omega)) (fun h5167 => ?_) (fun h5167 => ?_)
                · refine mw_iload dc_Mo_read_175 2 rfl ?_
                  have e9 : ps_1 n (cc k) (f, m, e, z) = none := by
                    unfold ps_1
                    dsimp only
                    by_cases hfn : f = n
                    · rw [if_neg (fun q => by have := q.1; have := q.2; omega), if_pos hfn]
                    · rw [if_neg (fun q => by have := q.1; have := q.2; omega), if_neg hfn, if_neg (fun q => by have := q.1; rcases q.2 with q2 | q2 <;> omega), if_pos (Or.inr (Or.inl (by omega)))]
                  exact mw_iret dc_Mo_read_177 rfl rfl ⟨k, (f, m, e, z), h2, hr, Or.inl ⟨hk, e9, rfl, rfl⟩⟩
                · refine mw_iload dc_Mo_read_170 3 rfl ?_
                  refine mi_if_eq (tgt := 178) dc_Mo_read_172 (by decide) (iB_mk (by omega) (by omega)) (fun h6172 => ?_) (fun h6172 => ?_)
                  · refine mi_iinc dc_Mo_read_178 2 rfl (by decide) rfl ?_
                    refine mw_goto (tgt := 35) dc_Mo_read_181 (by decide) ?_
                    refine mw_pick [0, 3, 4, 5, 6, 7] rfl ?_
                    have e9 : ps_1 n (cc k) (f, m, e, z) = some (f, m, e, z) := by
                      unfold ps_1
                      dsimp only
                      rw [if_pos ⟨by omega, by omega⟩]
                    exact ih (k + 1) (f) (m) (e) (z) (by omega) (by omega) (by show (ps_r n cc k).bind _ = _; rw [hr]; exact e9) hpop hpb hm he
                  · refine mw_iload dc_Mo_read_175 2 rfl ?_
                    have e9 : ps_1 n (cc k) (f, m, e, z) = none := by
                      unfold ps_1
                      dsimp only
                      by_cases hfn : f = n
                      · rw [if_neg (fun q => by have := q.1; have := q.2; omega), if_pos hfn]
                      · rw [if_neg (fun q => by have := q.1; have := q.2; omega), if_neg hfn, if_neg (fun q => by have := q.1; rcases q.2 with q2 | q2 <;> omega), if_pos (Or.inr (Or.inl (by omega)))]
                    exact mw_iret dc_Mo_read_177 rfl rfl ⟨k, (f, m, e, z), h2, hr, Or.inl ⟨hk, e9, rfl, rfl⟩⟩
              · refine mw_iload_n dc_Mo_read_138 rfl 5 rfl ?_
                refine mw_aload_n dc_Mo_read_139 rfl 7 rfl ?_
                refine mi_get (ci := 5) (k := 1) dc_Mo_read_140 rfl wi_Mo rfl rfl (by decide) fl_Mo_7 hg ?_
                refine mi_icmp_ge (tgt := 163) dc_Mo_read_143 (by decide) (iB_mk (by omega) (by omega)) (iB_mk (by omega) (by omega)) (fun h5143 => ?_) (fun h5143 => ?_)
                · refine mw_iload dc_Mo_read_163 1 rfl ?_
                  refine mi_bipush dc_Mo_read_165 (by decide) ?_
                  refine mi_icmp_ne (tgt := 175) dc_Mo_read_167 (by decide) (iB_mk (by omega) (by omega)) (iB_mk (by omega) (by omega)) (fun h6167 => ?_) (fun h6167 => ?_)
                  · refine mw_iload dc_Mo_read_175 2 rfl ?_
                    have e9 : ps_1 n (cc k) (f, m, e, z) = none := by
                      unfold ps_1
                      dsimp only
                      by_cases hfn : f = n
                      · rw [if_neg (fun q => by have := q.1; have := q.2; omega), if_pos hfn]
                      · rw [if_neg (fun q => by have := q.1; have := q.2; omega), if_neg hfn, if_neg (fun q => by have := q.1; rcases q.2 with q2 | q2 <;> omega), if_pos (Or.inr (Or.inl (by omega)))]
                    exact mw_iret dc_Mo_read_177 rfl rfl ⟨k, (f, m, e, z), h2, hr, Or.inl ⟨hk, e9, rfl, rfl⟩⟩
                  · refine mw_iload dc_Mo_read_170 3 rfl ?_
                    refine mi_if_eq (tgt := 178) dc_Mo_read_172 (by decide) (iB_mk (by omega) (by omega)) (fun h7172 => ?_) (fun h7172 => ?_)
                    · refine mi_iinc dc_Mo_read_178 2 rfl (by decide) rfl ?_
                      refine mw_goto (tgt := 35) dc_Mo_read_181 (by decide) ?_
                      refine mw_pick [0, 3, 4, 5, 6, 7] rfl ?_
                      have e9 : ps_1 n (cc k) (f, m, e, z) = some (f, m, e, z) := by
                        unfold ps_1
                        dsimp only
                        rw [if_pos ⟨by omega, by omega⟩]
                      exact ih (k + 1) (f) (m) (e) (z) (by omega) (by omega) (by show (ps_r n cc k).bind _ = _; rw [hr]; exact e9) hpop hpb hm he
                    · refine mw_iload dc_Mo_read_175 2 rfl ?_
                      have e9 : ps_1 n (cc k) (f, m, e, z) = none := by
                        unfold ps_1
                        dsimp only
                        by_cases hfn : f = n
                        · rw [if_neg (fun q => by have := q.1; have := q.2; omega), if_pos hfn]
                        · rw [if_neg (fun q => by have := q.1; have := q.2; omega), if_neg hfn, if_neg (fun q => by have := q.1; rcases q.2 with q2 | q2 <;> omega), if_pos (Or.inr (Or.inl (by omega)))]
                      exact mw_iret dc_Mo_read_177 rfl rfl ⟨k, (f, m, e, z), h2, hr, Or.inl ⟨hk, e9, rfl, rfl⟩⟩
                · refine mw_iload dc_Mo_read_146 1 rfl ?_
                  refine mi_bipush dc_Mo_read_148 (by decide) ?_
                  refine mi_icmp_ne (tgt := 157) dc_Mo_read_150 (by decide) (iB_mk (by omega) (by omega)) (iB_mk (by omega) (by omega)) (fun h6150 => ?_) (fun h6150 => ?_)
                  · refine mi_const dc_Mo_read_157 ?_
                    refine mw_istore dc_Mo_read_158 (by decide) rfl ?_
                    refine mw_goto (tgt := 178) dc_Mo_read_160 (by decide) ?_
                    refine mi_iinc dc_Mo_read_178 3 rfl (by decide) rfl ?_
                    refine mw_goto (tgt := 35) dc_Mo_read_181 (by decide) ?_
                    refine mw_pick [0, 1, 4, 5, 6, 7] rfl ?_
                    have e9 : ps_1 n (cc k) (f, m, e, z) = some (f, m, -1, z) := by
                      unfold ps_1
                      dsimp only
                      rw [if_neg (fun q => by have := q.1; have := q.2; omega), if_neg (show ¬ f = n by omega), if_pos ⟨by omega, by omega⟩]
                      rw [show (if cc k = 43 then (1 : Int) else -1) = -1 from if_neg (by omega)]
                    exact ih (k + 1) (f) (m) (-1) (z) (by omega) (by omega) (by show (ps_r n cc k).bind _ = _; rw [hr]; exact e9) hpop hpb hm (by omega)
                  · refine mi_const dc_Mo_read_153 ?_
                    refine mw_goto (tgt := 158) dc_Mo_read_154 (by decide) ?_
                    refine mw_istore dc_Mo_read_158 (by decide) rfl ?_
                    refine mw_goto (tgt := 178) dc_Mo_read_160 (by decide) ?_
                    refine mi_iinc dc_Mo_read_178 3 rfl (by decide) rfl ?_
                    refine mw_goto (tgt := 35) dc_Mo_read_181 (by decide) ?_
                    refine mw_pick [0, 1, 4, 5, 6, 7] rfl ?_
                    have e9 : ps_1 n (cc k) (f, m, e, z) = some (f, m, 1, z) := by
                      unfold ps_1
                      dsimp only
                      rw [if_neg (fun q => by have := q.1; have := q.2; omega), if_neg (show ¬ f = n by omega), if_pos ⟨by omega, by omega⟩]
                      rw [show (if cc k = 43 then (1 : Int) else -1) = 1 from if_pos (by omega)]
                    exact ih (k + 1) (f) (m) (1) (z) (by omega) (by omega) (by show (ps_r n cc k).bind _ = _; rw [hr]; exact e9) hpop hpb hm (by omega)
        · refine mw_iload_n dc_Mo_read_75 rfl 4 rfl ?_
          refine mw_iload dc_Mo_read_76 0 rfl ?_
          refine mw_ishr dc_Mo_read_78 ?_
          refine mi_const dc_Mo_read_79 ?_
          refine mw_iand dc_Mo_read_80 ?_
          rw [show iI (cc k - 48) = iI (((cc k - 48).toNat : Nat) : Int) from congrArg iI (by omega), bi_t m hm (cc k - 48).toNat (by omega), show iI (((cc k - 48).toNat : Nat) : Int) = iI (cc k - 48) from congrArg iI (by omega)]
          refine mi_if_ne (tgt := 119) dc_Mo_read_81 (by decide) (iB_mk (by omega) (by omega)) (fun h281 => ?_) (fun h281 => ?_)
          · refine mw_iload dc_Mo_read_119 1 rfl ?_
            refine mi_bipush dc_Mo_read_121 (by decide) ?_
            refine mi_icmp_eq (tgt := 133) dc_Mo_read_123 (by decide) (iB_mk (by omega) (by omega)) (iB_mk (by omega) (by omega)) (fun h3123 => ?_) (fun h3123 => ?_)
            · refine mw_iload dc_Mo_read_133 3 rfl ?_
              refine mi_if_ne (tgt := 163) dc_Mo_read_135 (by decide) (iB_mk (by omega) (by omega)) (fun h4135 => ?_) (fun h4135 => ?_)
              · refine mw_iload dc_Mo_read_163 1 rfl ?_
                refine mi_bipush dc_Mo_read_165 (by decide) ?_
                refine mi_icmp_ne (tgt := 175) dc_Mo_read_167 (by decide) (iB_mk (by omega) (by omega)) (iB_mk (by omega) (by omega)) (fun h5167 => ?_) (fun h5167 => ?_)
                · refine mw_iload dc_Mo_read_175 2 rfl ?_
                  have e9 : ps_1 n (cc k) (f, m, e, z) = none := by
                    unfold ps_1
                    dsimp only
                    by_cases hfn : f = n
                    · rw [if_neg (fun q => by have := q.1; have := q.2; omega), if_pos hfn]
                    · rw [if_neg (fun q => by have := q.1; have := q.2; omega), if_neg hfn, if_neg (fun q => by have := q.1; rcases q.2 with q2 | q2 <;> omega), if_pos (Or.inr (Or.inr (by omega)))]
                  exact mw_iret dc_Mo_read_177 rfl rfl ⟨k, (f, m, e, z), h2, hr, Or.inl ⟨hk, e9, rfl, rfl⟩⟩
                · refine mw_iload dc_Mo_read_170 3 rfl ?_
                  refine mi_if_eq (tgt := 178) dc_Mo_read_172 (by decide) (iB_mk (by omega) (by omega)) (fun h6172 => ?_) (fun h6172 => ?_)
                  · refine mi_iinc dc_Mo_read_178 2 rfl (by decide) rfl ?_
                    refine mw_goto (tgt := 35) dc_Mo_read_181 (by decide) ?_
                    refine mw_pick [0, 3, 4, 5, 6, 7] rfl ?_
                    have e9 : ps_1 n (cc k) (f, m, e, z) = some (f, m, e, z) := by
                      unfold ps_1
                      dsimp only
                      rw [if_pos ⟨by omega, by omega⟩]
                    exact ih (k + 1) (f) (m) (e) (z) (by omega) (by omega) (by show (ps_r n cc k).bind _ = _; rw [hr]; exact e9) hpop hpb hm he
                  · refine mw_iload dc_Mo_read_175 2 rfl ?_
                    have e9 : ps_1 n (cc k) (f, m, e, z) = none := by
                      unfold ps_1
                      dsimp only
                      by_cases hfn : f = n
                      · rw [if_neg (fun q => by have := q.1; have := q.2; omega), if_pos hfn]
                      · rw [if_neg (fun q => by have := q.1; have := q.2; omega), if_neg hfn, if_neg (fun q => by have := q.1; rcases q.2 with q2 | q2 <;> omega), if_pos (Or.inr (Or.inr (by omega)))]
                    exact mw_iret dc_Mo_read_177 rfl rfl ⟨k, (f, m, e, z), h2, hr, Or.inl ⟨hk, e9, rfl, rfl⟩⟩
              · refine mw_iload_n dc_Mo_read_138 rfl 5 rfl ?_
                refine mw_aload_n dc_Mo_read_139 rfl 7 rfl ?_
                refine mi_get (ci := 5) (k := 1) dc_Mo_read_140 rfl wi_Mo rfl rfl (by decide) fl_Mo_7 hg ?_
                refine mi_icmp_ge (tgt := 163) dc_Mo_read_143 (by decide) (iB_mk (by omega) (by omega)) (iB_mk (by omega) (by omega)) (fun h5143 => ?_) (fun h5143 => ?_)
                · refine mw_iload dc_Mo_read_163 1 rfl ?_
                  refine mi_bipush dc_Mo_read_165 (by decide) ?_
                  refine mi_icmp_ne (tgt := 175) dc_Mo_read_167 (by decide) (iB_mk (by omega) (by omega)) (iB_mk (by omega) (by omega)) (fun h6167 => ?_) (fun h6167 => ?_)
                  · refine mw_iload dc_Mo_read_175 2 rfl ?_
                    have e9 : ps_1 n (cc k) (f, m, e, z) = none := by
                      unfold ps_1
                      dsimp only
                      by_cases hfn : f = n
                      · rw [if_neg (fun q => by have := q.1; have := q.2; omega), if_pos hfn]
                      · rw [if_neg (fun q => by have := q.1; have := q.2; omega), if_neg hfn, if_neg (fun q => by have := q.1; rcases q.2 with q2 | q2 <;> omega), if_pos (Or.inr (Or.inr (by omega)))]
                    exact mw_iret dc_Mo_read_177 rfl rfl ⟨k, (f, m, e, z), h2, hr, Or.inl ⟨hk, e9, rfl, rfl⟩⟩
                  · refine mw_iload dc_Mo_read_170 3 rfl ?_
                    refine mi_if_eq (tgt := 178) dc_Mo_read_172 (by decide) (iB_mk (by omega) (by omega)) (fun h7172 => ?_) (fun h7172 => ?_)
                    · refine mi_iinc dc_Mo_read_178 2 rfl (by decide) rfl ?_
                      refine mw_goto (tgt := 35) dc_Mo_read_181 (by decide) ?_
                      refine mw_pick [0, 3, 4, 5, 6, 7] rfl ?_
                      have e9 : ps_1 n (cc k) (f, m, e, z) = some (f, m, e, z) := by
                        unfold ps_1
                        dsimp only
                        rw [if_pos ⟨by omega, by omega⟩]
                      exact ih (k + 1) (f) (m) (e) (z) (by omega) (by omega) (by show (ps_r n cc k).bind _ = _; rw [hr]; exact e9) hpop hpb hm he
                    · refine mw_iload dc_Mo_read_175 2 rfl ?_
                      have e9 : ps_1 n (cc k) (f, m, e, z) = none := by
                        unfold ps_1
                        dsimp only
                        by_cases hfn : f = n
                        · rw [if_neg (fun q => by have := q.1; have := q.2; omega), if_pos hfn]
                        · rw [if_neg (fun q => by have := q.1; have := q.2; omega), if_neg hfn, if_neg (fun q => by have := q.1; rcases q.2 with q2 | q2 <;> omega), if_pos (Or.inr (Or.inr (by omega)))]
                      exact mw_iret dc_Mo_read_177 rfl rfl ⟨k, (f, m, e, z), h2, hr, Or.inl ⟨hk, e9, rfl, rfl⟩⟩
                · refine mw_iload dc_Mo_read_146 1 rfl ?_
                  refine mi_bipush dc_Mo_read_148 (by decide) ?_
                  refine mi_icmp_ne (tgt := 157) dc_Mo_read_150 (by decide) (iB_mk (by omega) (by omega)) (iB_mk (by omega) (by omega)) (fun h6150 => ?_) (fun h6150 => ?_)
                  · refine mi_const dc_Mo_read_157 ?_
                    refine mw_istore dc_Mo_read_158 (by decide) rfl ?_
                    refine mw_goto (tgt := 178) dc_Mo_read_160 (by decide) ?_
                    refine mi_iinc dc_Mo_read_178 3 rfl (by decide) rfl ?_
                    refine mw_goto (tgt := 35) dc_Mo_read_181 (by decide) ?_
                    refine mw_pick [0, 1, 4, 5, 6, 7] rfl ?_
                    have e9 : ps_1 n (cc k) (f, m, e, z) = some (f, m, -1, z) := by
                      unfold ps_1
                      dsimp only
                      rw [if_neg (fun q => by have := q.1; have := q.2; omega), if_neg (show ¬ f = n by omega), if_pos ⟨by omega, by omega⟩]
                      rw [show (if cc k = 43 then (1 : Int) else -1) = -1 from if_neg (by omega)]
                    exact ih (k + 1) (f) (m) (-1) (z) (by omega) (by omega) (by show (ps_r n cc k).bind _ = _; rw [hr]; exact e9) hpop hpb hm (by omega)
                  · refine mi_const dc_Mo_read_153 ?_
                    refine mw_goto (tgt := 158) dc_Mo_read_154 (by decide) ?_
                    refine mw_istore dc_Mo_read_158 (by decide) rfl ?_
                    refine mw_goto (tgt := 178) dc_Mo_read_160 (by decide) ?_
                    refine mi_iinc dc_Mo_read_178 3 rfl (by decide) rfl ?_
                    refine mw_goto (tgt := 35) dc_Mo_read_181 (by decide) ?_
                    refine mw_pick [0, 1, 4, 5, 6, 7] rfl ?_
                    have e9 : ps_1 n (cc k) (f, m, e, z) = some (f, m, 1, z) := by
                      unfold ps_1
                      dsimp only
                      rw [if_neg (fun q => by have := q.1; have := q.2; omega), if_neg (show ¬ f = n by omega), if_pos ⟨by omega, by omega⟩]
                      rw [show (if cc k = 43 then (1 : Int) else -1) = 1 from if_pos (by omega)]
                    exact ih (k + 1) (f) (m) (1) (z) (by omega) (by omega) (by show (ps_r n cc k).bind _ = _; rw [hr]; exact e9) hpop hpb hm (by omega)
            · refine mw_iload dc_Mo_read_126 1 rfl ?_
              refine mi_bipush dc_Mo_read_128 (by decide) ?_
              refine mi_icmp_ne (tgt := 163) dc_Mo_read_130 (by decide) (iB_mk (by omega) (by omega)) (iB_mk (by omega) (by omega)) (fun h4130 => ?_) (fun h4130 => ?_)
              · refine mw_iload dc_Mo_read_163 1 rfl ?_
                refine mi_bipush dc_Mo_read_165 (by decide) ?_
                refine mi_icmp_ne (tgt := 175) dc_Mo_read_167 (by decide) (iB_mk (by omega) (by omega)) (iB_mk (by omega) (by omega)) (fun h5167 => ?_) (fun h5167 => ?_)
                · refine mw_iload dc_Mo_read_175 2 rfl ?_
                  have e9 : ps_1 n (cc k) (f, m, e, z) = none := by
                    unfold ps_1
                    dsimp only
                    by_cases hfn : f = n
                    · rw [if_neg (fun q => by have := q.1; have := q.2; omega), if_pos hfn]
                    · rw [if_neg (fun q => by have := q.1; have := q.2; omega), if_neg hfn, if_neg (fun q => by have := q.1; rcases q.2 with q2 | q2 <;> omega), if_pos (Or.inr (Or.inr (by omega)))]
                  exact mw_iret dc_Mo_read_177 rfl rfl ⟨k, (f, m, e, z), h2, hr, Or.inl ⟨hk, e9, rfl, rfl⟩⟩
                · refine mw_iload dc_Mo_read_170 3 rfl ?_
                  refine mi_if_eq (tgt := 178) dc_Mo_read_172 (by decide) (iB_mk (by omega) (by omega)) (fun h6172 => ?_) (fun h6172 => ?_)
                  · refine mi_iinc dc_Mo_read_178 2 rfl (by decide) rfl ?_
                    refine mw_goto (tgt := 35) dc_Mo_read_181 (by decide) ?_
                    refine mw_pick [0, 3, 4, 5, 6, 7] rfl ?_
                    have e9 : ps_1 n (cc k) (f, m, e, z) = some (f, m, e, z) := by
                      unfold ps_1
                      dsimp only
                      rw [if_pos ⟨by omega, by omega⟩]
                    exact ih (k + 1) (f) (m) (e) (z) (by omega) (by omega) (by show (ps_r n cc k).bind _ = _; rw [hr]; exact e9) hpop hpb hm he
                  · refine mw_iload dc_Mo_read_175 2 rfl ?_
                    have e9 : ps_1 n (cc k) (f, m, e, z) = none := by
                      unfold ps_1
                      dsimp only
                      by_cases hfn : f = n
                      · rw [if_neg (fun q => by have := q.1; have := q.2; omega), if_pos hfn]
                      · rw [if_neg (fun q => by have := q.1; have := q.2; omega), if_neg hfn, if_neg (fun q => by have := q.1; rcases q.2 with q2 | q2 <;> omega), if_pos (Or.inr (Or.inr (by omega)))]
                    exact mw_iret dc_Mo_read_177 rfl rfl ⟨k, (f, m, e, z), h2, hr, Or.inl ⟨hk, e9, rfl, rfl⟩⟩
              · refine mw_iload dc_Mo_read_133 3 rfl ?_
                refine mi_if_ne (tgt := 163) dc_Mo_read_135 (by decide) (iB_mk (by omega) (by omega)) (fun h5135 => ?_) (fun h5135 => ?_)
                · refine mw_iload dc_Mo_read_163 1 rfl ?_
                  refine mi_bipush dc_Mo_read_165 (by decide) ?_
                  refine mi_icmp_ne (tgt := 175) dc_Mo_read_167 (by decide) (iB_mk (by omega) (by omega)) (iB_mk (by omega) (by omega)) (fun h6167 => ?_) (fun h6167 => ?_)
                  · refine mw_iload dc_Mo_read_175 2 rfl ?_
                    have e9 : ps_1 n (cc k) (f, m, e, z) = none := by
                      unfold ps_1
                      dsimp only
                      by_cases hfn : f = n
                      · rw [if_neg (fun q => by have := q.1; have := q.2; omega), if_pos hfn]
                      · rw [if_neg (fun q => by have := q.1; have := q.2; omega), if_neg hfn, if_neg (fun q => by have := q.1; rcases q.2 with q2 | q2 <;> omega), if_pos (Or.inr (Or.inr (by omega)))]
                    exact mw_iret dc_Mo_read_177 rfl rfl ⟨k, (f, m, e, z), h2, hr, Or.inl ⟨hk, e9, rfl, rfl⟩⟩
                  · refine mw_iload dc_Mo_read_170 3 rfl ?_
                    refine mi_if_eq (tgt := 178) dc_Mo_read_172 (by decide) (iB_mk (by omega) (by omega)) (fun h7172 => ?_) (fun h7172 => ?_)
                    · refine mi_iinc dc_Mo_read_178 2 rfl (by decide) rfl ?_
                      refine mw_goto (tgt := 35) dc_Mo_read_181 (by decide) ?_
                      refine mw_pick [0, 3, 4, 5, 6, 7] rfl ?_
                      have e9 : ps_1 n (cc k) (f, m, e, z) = some (f, m, e, z) := by
                        unfold ps_1
                        dsimp only
                        rw [if_pos ⟨by omega, by omega⟩]
                      exact ih (k + 1) (f) (m) (e) (z) (by omega) (by omega) (by show (ps_r n cc k).bind _ = _; rw [hr]; exact e9) hpop hpb hm he
                    · refine mw_iload dc_Mo_read_175 2 rfl ?_
                      have e9 : ps_1 n (cc k) (f, m, e, z) = none := by
                        unfold ps_1
                        dsimp only
                        by_cases hfn : f = n
                        · rw [if_neg (fun q => by have := q.1; have := q.2; omega), if_pos hfn]
                        · rw [if_neg (fun q => by have := q.1; have := q.2; omega), if_neg hfn, if_neg (fun q => by have := q.1; rcases q.2 with q2 | q2 <;> omega), if_pos (Or.inr (Or.inr (by omega)))]
                      exact mw_iret dc_Mo_read_177 rfl rfl ⟨k, (f, m, e, z), h2, hr, Or.inl ⟨hk, e9, rfl, rfl⟩⟩
                · refine mw_iload_n dc_Mo_read_138 rfl 5 rfl ?_
                  refine mw_aload_n dc_Mo_read_139 rfl 7 rfl ?_
                  refine mi_get (ci := 5) (k := 1) dc_Mo_read_140 rfl wi_Mo rfl rfl (by decide) fl_Mo_7 hg ?_
                  refine mi_icmp_ge (tgt := 163) dc_Mo_read_143 (by decide) (iB_mk (by omega) (by omega)) (iB_mk (by omega) (by omega)) (fun h6143 => ?_) (fun h6143 => ?_)
                  · refine mw_iload dc_Mo_read_163 1 rfl ?_
                    refine mi_bipush dc_Mo_read_165 (by decide) ?_
                    refine mi_icmp_ne (tgt := 175) dc_Mo_read_167 (by decide) (iB_mk (by omega) (by omega)) (iB_mk (by omega) (by omega)) (fun h7167 => ?_) (fun h7167 => ?_)
                    · refine mw_iload dc_Mo_read_175 2 rfl ?_
                      have e9 : ps_1 n (cc k) (f, m, e, z) = none := by
                        unfold ps_1
                        dsimp only
                        by_cases hfn : f = n
                        · rw [if_neg (fun q => by have := q.1; have := q.2; omega), if_pos hfn]
                        · rw [if_neg (fun q => by have := q.1; have := q.2; omega), if_neg hfn, if_neg (fun q => by have := q.1; rcases q.2 with q2 | q2 <;> omega), if_pos (Or.inr (Or.inr (by omega)))]
                      exact mw_iret dc_Mo_read_177 rfl rfl ⟨k, (f, m, e, z), h2, hr, Or.inl ⟨hk, e9, rfl, rfl⟩⟩
                    · refine mw_iload dc_Mo_read_170 3 rfl ?_
                      refine mi_if_eq (tgt := 178) dc_Mo_read_172 (by decide) (iB_mk (by omega) (by omega)) (fun h8172 => ?_) (fun h8172 => ?_)
                      · refine mi_iinc dc_Mo_read_178 2 rfl (by decide) rfl ?_
                        refine mw_goto (tgt := 35) dc_Mo_read_181 (by decide) ?_
                        refine mw_pick [0, 3, 4, 5, 6, 7] rfl ?_
                        have e9 : ps_1 n (cc k) (f, m, e, z) = some (f, m, e, z) := by
                          unfold ps_1
                          dsimp only
                          rw [if_pos ⟨by omega, by omega⟩]
                        exact ih (k + 1) (f) (m) (e) (z) (by omega) (by omega) (by show (ps_r n cc k).bind _ = _; rw [hr]; exact e9) hpop hpb hm he
                      · refine mw_iload dc_Mo_read_175 2 rfl ?_
                        have e9 : ps_1 n (cc k) (f, m, e, z) = none := by
                          unfold ps_1
                          dsimp only
                          by_cases hfn : f = n
                          · rw [if_neg (fun q => by have := q.1; have := q.2; omega), if_pos hfn]
                          · rw [if_neg (fun q => by have := q.1; have := q.2; omega), if_neg hfn, if_neg (fun q => by have := q.1; rcases q.2 with q2 | q2 <;> omega), if_pos (Or.inr (Or.inr (by omega)))]
                        exact mw_iret dc_Mo_read_177 rfl rfl ⟨k, (f, m, e, z), h2, hr, Or.inl ⟨hk, e9, rfl, rfl⟩⟩
                  · refine mw_iload dc_Mo_read_146 1 rfl ?_
                    refine mi_bipush dc_Mo_read_148 (by decide) ?_
                    refine mi_icmp_ne (tgt := 157) dc_Mo_read_150 (by decide) (iB_mk (by omega) (by omega)) (iB_mk (by omega) (by omega)) (fun h7150 => ?_) (fun h7150 => ?_)
                    · refine mi_const dc_Mo_read_157 ?_
                      refine mw_istore dc_Mo_read_158 (by decide) rfl ?_
                      refine mw_goto (tgt := 178) dc_Mo_read_160 (by decide) ?_
                      refine mi_iinc dc_Mo_read_178 3 rfl (by decide) rfl ?_
                      refine mw_goto (tgt := 35) dc_Mo_read_181 (by decide) ?_
                      refine mw_pick [0, 1, 4, 5, 6, 7] rfl ?_
                      have e9 : ps_1 n (cc k) (f, m, e, z) = some (f, m, -1, z) := by
                        unfold ps_1
                        dsimp only
                        rw [if_neg (fun q => by have := q.1; have := q.2; omega), if_neg (show ¬ f = n by omega), if_pos ⟨by omega, by omega⟩]
                        rw [show (if cc k = 43 then (1 : Int) else -1) = -1 from if_neg (by omega)]
                      exact ih (k + 1) (f) (m) (-1) (z) (by omega) (by omega) (by show (ps_r n cc k).bind _ = _; rw [hr]; exact e9) hpop hpb hm (by omega)
                    · refine mi_const dc_Mo_read_153 ?_
                      refine mw_goto (tgt := 158) dc_Mo_read_154 (by decide) ?_
                      refine mw_istore dc_Mo_read_158 (by decide) rfl ?_
                      refine mw_goto (tgt := 178) dc_Mo_read_160 (by decide) ?_
                      refine mi_iinc dc_Mo_read_178 3 rfl (by decide) rfl ?_
                      refine mw_goto (tgt := 35) dc_Mo_read_181 (by decide) ?_
                      refine mw_pick [0, 1, 4, 5, 6, 7] rfl ?_
                      have e9 : ps_1 n (cc k) (f, m, e, z) = some (f, m, 1, z) := by
                        unfold ps_1
                        dsimp only
                        rw [if_neg (fun q => by have := q.1; have := q.2; omega), if_neg (show ¬ f = n by omega), if_pos ⟨by omega, by omega⟩]
                        rw [show (if cc k = 43 then (1 : Int) else -1) = 1 from if_pos (by omega)]
                      exact ih (k + 1) (f) (m) (1) (z) (by omega) (by omega) (by show (ps_r n cc k).bind _ = _; rw [hr]; exact e9) hpop hpb hm (by omega)
          · obtain ⟨c1, c2, c3⟩ := hbit (cc k - 48).toNat (by omega) (by omega) (by omega) (by omega)
            refine mw_aload_n dc_Mo_read_84 rfl 7 rfl ?_
            refine mi_get (ci := 5) (k := 16) dc_Mo_read_85 rfl wi_Mo rfl rfl (by decide) fl_Mo_45 hM.2.2.2.2.2.2.2.2.2.1 ?_
            refine mw_iload_n dc_Mo_read_88 rfl 5 rfl ?_
            refine mw_iload dc_Mo_read_89 3 rfl ?_
            refine mi_if_ge (tgt := 100) dc_Mo_read_91 (by decide) (iB_mk (by omega) (by omega)) (fun h991 => ?_) (fun h991 => ?_)
            · refine mw_iload dc_Mo_read_100 0 rfl ?_
              refine mi_iast dc_Mo_read_102 rfl ⟨by omega, by omega, by decide⟩ (I' := va_up I 49 (nr (I 49) 0 (f + 1) (va_up z f (cc k - 48)))) (by rw [va_up_self, up_up, Int.toNat_natCast, nr_e]) ?_
              refine mi_iinc dc_Mo_read_103 5 rfl (by decide) rfl ?_
              refine mw_iload_n dc_Mo_read_106 rfl 5 rfl ?_
              refine mi_const dc_Mo_read_107 ?_
              refine mw_iload dc_Mo_read_108 1 rfl ?_
              refine mw_ishl dc_Mo_read_110 ?_
              refine mw_ior dc_Mo_read_111 ?_
              rw [show iI (cc k - 48) = iI (((cc k - 48).toNat : Nat) : Int) from congrArg iI (by omega), (bi_o m hm (cc k - 48).toNat (by omega)).1, show iI (((cc k - 48).toNat : Nat) : Int) = iI (cc k - 48) from congrArg iI (by omega)]
              refine mw_istore_n dc_Mo_read_112 rfl (by decide) rfl ?_
              refine mi_const dc_Mo_read_113 ?_
              refine mw_istore dc_Mo_read_114 (by decide) rfl ?_
              refine mw_goto (tgt := 178) dc_Mo_read_116 (by decide) ?_
              refine mi_iinc dc_Mo_read_178 5 rfl (by decide) rfl ?_
              refine mw_goto (tgt := 35) dc_Mo_read_181 (by decide) ?_
              obtain ⟨b1, b2, b3⟩ := hbit (cc k - 48).toNat (by omega) (by omega) (by omega) (by omega)
              refine mw_pick [0, 1, 2, 3, 6, 7] rfl ?_
              have e9 : ps_1 n (cc k) (f, m, e, z) = some (f + 1, m ||| 2 ^ (cc k - 48).toNat, 0, va_up z f (cc k - 48)) := by
                unfold ps_1
                dsimp only
                rw [if_neg (fun q => by have := q.1; have := q.2; omega), if_neg (show ¬ f = n by omega), if_neg (fun q => by have := q.1; rcases q.2 with q2 | q2 <;> omega), if_neg (fun q => by rcases q with q | q | q <;> omega)]
                rw [show (if e < 0 then -(cc k - 48) else cc k - 48) = cc k - 48 from if_neg (by omega)]
              exact ih (k + 1) (f + 1) (m ||| 2 ^ (cc k - 48).toNat) (0) (va_up z f (cc k - 48)) (by omega) (by omega) (by show (ps_r n cc k).bind _ = _; rw [hr]; exact e9) (b3.trans (congrArg (· + 1) hpop)) b2 (bi_o m hm (cc k - 48).toNat (by omega)).2 (by omega)
            · refine mw_iload dc_Mo_read_94 0 rfl ?_
              refine mi_ineg dc_Mo_read_96 ?_
              refine mw_goto (tgt := 102) dc_Mo_read_97 (by decide) ?_
              refine mi_iast dc_Mo_read_102 rfl ⟨by omega, by omega, by decide⟩ (I' := va_up I 49 (nr (I 49) 0 (f + 1) (va_up z f (-(cc k - 48))))) (by rw [va_up_self, up_up, Int.toNat_natCast, nr_e]) ?_
              refine mi_iinc dc_Mo_read_103 5 rfl (by decide) rfl ?_
              refine mw_iload_n dc_Mo_read_106 rfl 5 rfl ?_
              refine mi_const dc_Mo_read_107 ?_
              refine mw_iload dc_Mo_read_108 1 rfl ?_
              refine mw_ishl dc_Mo_read_110 ?_
              refine mw_ior dc_Mo_read_111 ?_
              rw [show iI (cc k - 48) = iI (((cc k - 48).toNat : Nat) : Int) from congrArg iI (by omega), (bi_o m hm (cc k - 48).toNat (by omega)).1, show iI (((cc k - 48).toNat : Nat) : Int) = iI (cc k - 48) from congrArg iI (by omega)]
              refine mw_istore_n dc_Mo_read_112 rfl (by decide) rfl ?_
              refine mi_const dc_Mo_read_113 ?_
              refine mw_istore dc_Mo_read_114 (by decide) rfl ?_
              refine mw_goto (tgt := 178) dc_Mo_read_116 (by decide) ?_
              refine mi_iinc dc_Mo_read_178 5 rfl (by decide) rfl ?_
              refine mw_goto (tgt := 35) dc_Mo_read_181 (by decide) ?_
              obtain ⟨b1, b2, b3⟩ := hbit (cc k - 48).toNat (by omega) (by omega) (by omega) (by omega)
              refine mw_pick [0, 1, 2, 3, 6, 7] rfl ?_
              have e9 : ps_1 n (cc k) (f, m, e, z) = some (f + 1, m ||| 2 ^ (cc k - 48).toNat, 0, va_up z f (-(cc k - 48))) := by
                unfold ps_1
                dsimp only
                rw [if_neg (fun q => by have := q.1; have := q.2; omega), if_neg (show ¬ f = n by omega), if_neg (fun q => by have := q.1; rcases q.2 with q2 | q2 <;> omega), if_neg (fun q => by rcases q with q | q | q <;> omega)]
                rw [show (if e < 0 then -(cc k - 48) else cc k - 48) = -(cc k - 48) from if_pos (by omega)]
              exact ih (k + 1) (f + 1) (m ||| 2 ^ (cc k - 48).toNat) (0) (va_up z f (-(cc k - 48))) (by omega) (by omega) (by show (ps_r n cc k).bind _ = _; rw [hr]; exact e9) (b3.trans (congrArg (· + 1) hpop)) b2 (bi_o m hm (cc k - 48).toNat (by omega)).2 (by omega)
theorem ev_moread {G : mm_G} {d : Nat} {cs : mm_Sh} {I : Nat → Nat → Int32} {J : Nat → Nat → Int64} {F : Nat → Nat → Option Nat} {V : Nat → Nat → Value} {n l : Nat} {x : Int} {cc : Nat → Int} (hM : mo_V V) (hg : V 39 1 = .int (iI n)) (hl : V 39 6 = .int (iI l)) (hn : n ≤ 6) (hx : iB x) (hl24 : l ≤ 24) (hcc : ∀ k, k < l → I 43 k = iI (cc k) ∧ 0 ≤ cc k ∧ cc k < 256) : mE G mt_Mo_read (d + 1) 0 0 [.ref 39, .int (iI x)] (wd_S ++ cs, I, J, F, V) (fun o h1 => (¬ okS x → o = .inl (some (.int (iI 0))) ∧ h1 = (wd_S ++ cs, I, J, F, fu V 39 0 (.int (iI 1)))) ∧ (okS x → mo_R n l x.toNat cc (wd_S ++ cs) I J F (fu V 39 0 (.int (iI 0))) o h1)) := by
  refine mE_intro (by decide) (fun k9 h q => ?_) (Nat.le_of_ble_eq_true rfl) ?_
  · by_cases r1 : okS x
    · obtain ⟨t, q, -, -, q | q | q⟩ := q.2 r1
      · exact nomatch q.2.2.1
      · exact nomatch q.2.2.1
      · exact nomatch q.2.2.1
    · exact nomatch (q.1 r1).1
  show mW G mt_Mo_read (d + 1) 0 0 0 [(0, .ref 39), (1, .int (iI x))] [] (wd_S ++ cs, I, J, F, V) _
  refine mw_aload_n dc_Mo_read_0 rfl 0 rfl ?_
  refine mw_iload_n dc_Mo_read_1 rfl 1 rfl ?_
  refine mz_S1 (M2 := mt_Mo_noSlot) dc_Mo_read_2 ml_Mo_87 rfl ny_Mo_noSlot (by decide) (Nat.le_of_ble_eq_true rfl) (ev_noSlot hx) (fun v h1 hY => ?_)
  obtain ⟨hv9, rfl⟩ := hY
  cases hv9
  refine mw_if_eq (tgt := 12) dc_Mo_read_5 (by decide) (fun h05 => ?_) (fun h05 => ?_)
  · refine mi_const dc_Mo_read_12 ?_
    refine mi_puti (ci := 5) (k := 0) dc_Mo_read_13 rfl wi_Mo tk_Mo nm_Mo rfl rfl (by decide) fl_Mo_75 rfl (by decide +kernel) (show va_up V 39 (va_up (V 39) 0 (.int (iI 0))) = fu V 39 0 (.int (iI 0)) from rfl) ?_
    refine mw_aload_n dc_Mo_read_16 rfl 0 rfl ?_
    refine mi_get (ci := 5) (k := 0) dc_Mo_read_17 rfl wi_Mo rfl rfl (by decide) fl_Mo_75 (fu_at V 39 0 _) ?_
    have hs : okS x := Decidable.not_not.mp (bo_0.mp h05)
    obtain ⟨a, rfl⟩ := Int.eq_ofNat_of_zero_le hs.1
    have ha : a < 5 := by have := hs.2; omega
    refine mi_if_le (tgt := 25) dc_Mo_read_20 (by decide) (iB_mk (by omega) (by omega)) (fun hw => ?_) (fun hw => ?_)
    · refine mi_const dc_Mo_read_25 ?_
      refine mw_istore_n dc_Mo_read_26 rfl (by decide) rfl ?_
      refine mi_const dc_Mo_read_27 ?_
      refine mw_istore_n dc_Mo_read_28 rfl (by decide) rfl ?_
      refine mi_const dc_Mo_read_29 ?_
      refine mw_istore dc_Mo_read_30 (by decide) rfl ?_
      refine mi_const dc_Mo_read_32 ?_
      refine mw_istore dc_Mo_read_33 (by decide) rfl ?_
      refine mw_pick [0, 1, 2, 3, 5, 4] rfl ?_
      refine mw_h (h' := (wd_S ++ cs, va_up I 49 (nr (I 49) 0 0 (fun _ => 0)), J, F, fu V 39 0 (.int (iI 0)))) (by rw [nr_n, up_id]) ?_
      exact mW_post (fun o h1 q => ⟨fun r => absurd hs r, fun _ => q⟩) (lp_mrd (mo_fu _ hM (Or.inl rfl)) ((fu_n2 V _ (by decide)).trans hg) ((fu_n2 V _ (by decide)).trans hl) hn ha hl24 hcc (l + 1) 0 0 0 0 (fun _ => 0) (by omega) (by omega) rfl rfl (pb_0 n (by omega)) (by omega) (by omega))
    · exact absurd hw (by decide)
  · refine mi_const dc_Mo_read_8 ?_
    refine mw_goto (tgt := 13) dc_Mo_read_9 (by decide) ?_
    refine mi_puti (ci := 5) (k := 0) dc_Mo_read_13 rfl wi_Mo tk_Mo nm_Mo rfl rfl (by decide) fl_Mo_75 rfl (by decide +kernel) (show va_up V 39 (va_up (V 39) 0 (.int (iI 1))) = fu V 39 0 (.int (iI 1)) from rfl) ?_
    refine mw_aload_n dc_Mo_read_16 rfl 0 rfl ?_
    refine mi_get (ci := 5) (k := 0) dc_Mo_read_17 rfl wi_Mo rfl rfl (by decide) fl_Mo_75 (fu_at V 39 0 _) ?_
    have hs : ¬ okS x := Decidable.not_not.mp (fun q => h05 (bo_0.mpr q))
    refine mi_if_le (tgt := 25) dc_Mo_read_20 (by decide) (iB_mk (by omega) (by omega)) (fun hw => ?_) (fun hw => ?_)
    · exact absurd hw (by decide)
    · refine mi_const dc_Mo_read_23 ?_
      exact mw_iret dc_Mo_read_24 rfl rfl ⟨fun _ => ⟨rfl, rfl⟩, fun q => absurd q hs⟩
