/-! Text.parse: signs and genes, each gene once; the first wrong place -/
abbrev ps_S : Type := Nat × Nat × Int × (Nat → Int)
def ps_1 (n : Nat) (c : Int) (q : ps_S) : Option ps_S :=
  if c = 32 ∧ q.2.2.1 = 0 then some q
  else if q.1 = n then none
  else if q.2.2.1 = 0 ∧ (c = 43 ∨ c = 45) then some (q.1, q.2.1, (if c = 43 then 1 else -1), q.2.2.2)
  else if c - 48 < 1 ∨ (n : Int) < c - 48 ∨ q.2.1 / 2 ^ (c - 48).toNat % 2 = 1 then none
  else some (q.1 + 1, q.2.1 ||| 2 ^ (c - 48).toNat, 0, va_up q.2.2.2 q.1 (if q.2.2.1 < 0 then -(c - 48) else c - 48))
def ps_r (n : Nat) (cc : Nat → Int) : Nat → Option ps_S
  | 0 => some (0, 0, 0, fun _ => 0)
  | t + 1 => (ps_r n cc t).bind (ps_1 n (cc t))
theorem bi_t : ∀ m, m < 128 → ∀ k, k < 7 → (iI (m : Nat) >>> (iI (k : Nat) &&& 31)) &&& iI 1 = iI ((m / 2 ^ k % 2 : Nat) : Int) := by decide +kernel
theorem bi_o : ∀ m, m < 128 → ∀ k, k < 7 → iI (m : Nat) ||| (iI 1 <<< (iI (k : Nat) &&& 31)) = iI ((m ||| 2 ^ k : Nat) : Int) ∧ m ||| 2 ^ k < 128 := by decide +kernel
theorem nr_e {g : Nat → Int32} {f : Nat} {z : Nat → Int} (v : Int) : upd (nr g 0 f z) f (iI v) = nr g 0 (f + 1) (va_up z f v) := by
  funext j
  by_cases e : j = f
  · subst e; rw [pk_us]; unfold nr; rw [if_pos (by omega), va_up_self]
  · rw [pk_un e]
    unfold nr
    rw [va_up_ne _ _ e]
    by_cases q : 0 ≤ j ∧ j < f
    · rw [if_pos q, if_pos (by omega)]
    · rw [if_neg q, if_neg (by omega)]
def ps_X (n l a : Nat) (cc : Nat → Int) (sh : mm_Sh) (I : Nat → Nat → Int32) (J : Nat → Nat → Int64) (F : Nat → Nat → Option Nat) (V : Nat → Nat → Value) : mm_X := fun o h1 =>
  ∃ (t : Nat) (q : ps_S), t ≤ l ∧ ps_r n cc t = some q ∧ h1 = (sh, va_up I a (nr (I a) 0 q.1 q.2.2.2), J, F, V) ∧ ((t < l ∧ ps_1 n (cc t) q = none ∧ o = .inl (some (.int (iI t)))) ∨ (t = l ∧ o = .inl (some (.int (iI (if q.1 = n then -1 else (l : Int)))))))
set_option maxHeartbeats 1000000 in
theorem lp_parse {G : mm_G} {d bc bs : Nat} {sh : mm_Sh} {I : Nat → Nat → Int32} {J : Nat → Nat → Int64} {F : Nat → Nat → Option Nat} {V : Nat → Nat → Value} {t c l a n na : Nat} {cc : Nat → Int} (ht : sh[t]? = some (.inr 2)) (hc : sh[c]? = some (.inl (0, 24))) (ha : sh[a]? = some (.inl (0, na))) (hac : c ≠ a) (hV0 : V t 0 = .ref c) (hV1 : V t 1 = .int (iI l)) (hl : l ≤ 24) (hn : n ≤ 6) (hna : n ≤ na ∧ na < 2147483648) (hcc : ∀ k, k < l → I c k = iI (cc k) ∧ 0 ≤ cc k ∧ cc k < 256) :
    ∀ (r k f m : Nat) (s : Int) (z : Nat → Int), l - k < r → k ≤ l → ps_r n cc k = some (f, m, s, z) → f ≤ n → m < 128 → -1 ≤ s ∧ s ≤ 1 → mW G mt_Te_parse d bc bs 11 [(6, .int (iI k)), (5, .int (iI s)), (4, .int (iI (m : Nat))), (3, .int (iI (f : Nat))), (0, .ref t), (1, .ref a), (2, .int (iI n))] [] (sh, va_up I a (nr (I a) 0 f z), J, F, V) (ps_X n l a cc sh I J F V) := by
  intro r
  induction r with
  | zero => intro k f m s z h1; exact absurd h1 (Nat.not_lt_zero _)
  | succ r ih =>
    intro k f m s z h1 h2 hr hf hm hs
    refine mw_iload dc_Te_parse_11 0 rfl ?_
    refine mw_aload_n dc_Te_parse_13 rfl 4 rfl ?_
    refine mi_get (ci := 2) (k := 1) dc_Te_parse_14 ht wi_Te rfl rfl (by decide) fl_Te_19 hV1 ?_
    refine mi_icmp_ge (tgt := 158) dc_Te_parse_17 (by decide) (iB_mk (by omega) (by omega)) (iB_mk (by omega) (by omega)) (fun hh => ?_) (fun hh => ?_)
    · have e : k = l := by omega
      subst e
      refine mw_iload_n dc_Te_parse_158 rfl 3 rfl ?_
      refine mw_iload_n dc_Te_parse_159 rfl 6 rfl ?_
      refine mi_icmp_ne (tgt := 167) dc_Te_parse_160 (by decide) (iB_mk (by omega) (by omega)) (iB_mk (by omega) (by omega)) (fun h0160 => ?_) (fun h0160 => ?_)
      · refine mw_aload_n dc_Te_parse_167 rfl 4 rfl ?_
        refine mi_get (ci := 2) (k := 1) dc_Te_parse_168 ht wi_Te rfl rfl (by decide) fl_Te_19 hV1 ?_
        have hfn : ¬ f = n := by omega
        exact mw_iret dc_Te_parse_171 rfl rfl ⟨k, (f, m, s, z), Nat.le_refl _, hr, rfl, Or.inr ⟨rfl, by rw [show (if (f, m, s, z).1 = n then (-1 : Int) else (k : Int)) = _ from if_neg hfn]⟩⟩
      · refine mi_const dc_Te_parse_163 ?_
        refine mw_goto (tgt := 171) dc_Te_parse_164 (by decide) ?_
        have hfn : f = n := by omega
        exact mw_iret dc_Te_parse_171 rfl rfl ⟨k, (f, m, s, z), Nat.le_refl _, hr, rfl, Or.inr ⟨rfl, by rw [show (if (f, m, s, z).1 = n then (-1 : Int) else (k : Int)) = _ from if_pos hfn]⟩⟩
    · have hk : k < l := by omega
      obtain ⟨q1, q2, q3⟩ := hcc k hk
      refine mw_aload_n dc_Te_parse_20 rfl 4 rfl ?_
      refine mi_get (ci := 2) (k := 0) dc_Te_parse_21 ht wi_Te rfl rfl (by decide) fl_Te_11 hV0 ?_
      refine mw_iload dc_Te_parse_24 0 rfl ?_
      refine mi_iald dc_Te_parse_26 hc ⟨by omega, by omega, by decide⟩ (v := iI (cc k)) (by rw [Int.toNat_natCast, va_up_ne _ _ hac]; exact q1) ?_
      refine mw_istore dc_Te_parse_27 (by decide) rfl ?_
      refine mw_iload dc_Te_parse_29 0 rfl ?_
      refine mi_bipush dc_Te_parse_31 (by decide) ?_
      refine mi_icmp_ne (tgt := 44) dc_Te_parse_33 (by decide) (iB_mk (by omega) (by omega)) (iB_mk (by omega) (by omega)) (fun h033 => ?_) (fun h033 => ?_)
      · refine mw_iload_n dc_Te_parse_44 rfl 4 rfl ?_
        refine mw_iload_n dc_Te_parse_45 rfl 7 rfl ?_
        refine mi_icmp_ne (tgt := 52) dc_Te_parse_46 (by decide) (iB_mk (by omega) (by omega)) (iB_mk (by omega) (by omega)) (fun h146 => ?_) (fun h146 => ?_)
        · refine mw_iload dc_Te_parse_52 2 rfl ?_
          refine mi_if_ne (tgt := 88) dc_Te_parse_54 (by decide) (iB_mk (by omega) (by omega)) (fun h254 => ?_) (fun h254 => ?_)
          · refine mw_iload dc_Te_parse_88 0 rfl ?_
            refine mi_bipush dc_Te_parse_90 (by decide) ?_
            refine mi_isub dc_Te_parse_92 ?_
            refine mw_istore dc_Te_parse_93 (by decide) rfl ?_
            refine mw_iload dc_Te_parse_95 0 rfl ?_
            refine mi_const dc_Te_parse_97 ?_
            refine mi_icmp_lt (tgt := 118) dc_Te_parse_98 (by decide) (iB_mk (by omega) (by omega)) (iB_mk (by omega) (by omega)) (fun h398 => ?_) (fun h398 => ?_)
            · refine mw_iload dc_Te_parse_118 2 rfl ?_
              have e9 : ps_1 n (cc k) (f, m, s, z) = none := by
                unfold ps_1
                dsimp only
                rw [if_neg (fun q => by have := q.1; have := q.2; omega), if_neg (show ¬ f = n by omega), if_neg (fun q => by have := q.1; rcases q.2 with q2 | q2 <;> omega), if_pos (Or.inl (by omega))]
              exact mw_iret dc_Te_parse_120 rfl rfl ⟨k, (f, m, s, z), h2, hr, rfl, Or.inl ⟨hk, e9, rfl⟩⟩
            · refine mw_iload dc_Te_parse_101 0 rfl ?_
              refine mw_iload_n dc_Te_parse_103 rfl 8 rfl ?_
              refine mi_icmp_gt (tgt := 118) dc_Te_parse_104 (by decide) (iB_mk (by omega) (by omega)) (iB_mk (by omega) (by omega)) (fun h4104 => ?_) (fun h4104 => ?_)
              · refine mw_iload dc_Te_parse_118 2 rfl ?_
                have e9 : ps_1 n (cc k) (f, m, s, z) = none := by
                  unfold ps_1
                  dsimp only
                  rw [if_neg (fun q => by have := q.1; have := q.2; omega), if_neg (show ¬ f = n by omega), if_neg (fun q => by have := q.1; rcases q.2 with q2 | q2 <;> omega), if_pos (Or.inr (Or.inl (by omega)))]
                exact mw_iret dc_Te_parse_120 rfl rfl ⟨k, (f, m, s, z), h2, hr, rfl, Or.inl ⟨hk, e9, rfl⟩⟩
              · refine mw_iload dc_Te_parse_107 4 rfl ?_
                refine mw_iload dc_Te_parse_109 0 rfl ?_
                refine mw_ishr dc_Te_parse_111 ?_
                refine mi_const dc_Te_parse_112 ?_
                refine mw_iand dc_Te_parse_113 ?_
                rw [show iI (cc k - 48) = iI (((cc k - 48).toNat : Nat) : Int) from congrArg iI (by omega), bi_t m hm (cc k - 48).toNat (by omega), show iI (((cc k - 48).toNat : Nat) : Int) = iI (cc k - 48) from congrArg iI (by omega)]
                refine mi_const dc_Te_parse_114 ?_
                refine mi_icmp_ne (tgt := 121) dc_Te_parse_115 (by decide) (iB_mk (by omega) (by omega)) (iB_mk (by omega) (by omega)) (fun h5115 => ?_) (fun h5115 => ?_)
                · refine mw_aload_n dc_Te_parse_121 rfl 7 rfl ?_
                  refine mw_iload_n dc_Te_parse_122 rfl 5 rfl ?_
                  refine mw_iload dc_Te_parse_123 3 rfl ?_
                  refine mi_if_ge (tgt := 134) dc_Te_parse_125 (by decide) (iB_mk (by omega) (by omega)) (fun h6125 => ?_) (fun h6125 => ?_)
                  · refine mw_iload dc_Te_parse_134 0 rfl ?_
                    refine mi_iast dc_Te_parse_136 ha ⟨by omega, by omega, hna.2⟩ (I' := va_up I a (nr (I a) 0 (f + 1) (va_up z f (cc k - 48)))) (by rw [va_up_self, up_up, Int.toNat_natCast, nr_e]) ?_
                    refine mi_iinc dc_Te_parse_137 5 rfl (by decide) rfl ?_
                    refine mw_iload dc_Te_parse_140 5 rfl ?_
                    refine mi_const dc_Te_parse_142 ?_
                    refine mw_iload dc_Te_parse_143 1 rfl ?_
                    refine mw_ishl dc_Te_parse_145 ?_
                    refine mw_ior dc_Te_parse_146 ?_
                    rw [show iI (cc k - 48) = iI (((cc k - 48).toNat : Nat) : Int) from congrArg iI (by omega), (bi_o m hm (cc k - 48).toNat (by omega)).1, show iI (((cc k - 48).toNat : Nat) : Int) = iI (cc k - 48) from congrArg iI (by omega)]
                    refine mw_istore dc_Te_parse_147 (by decide) rfl ?_
                    refine mi_const dc_Te_parse_149 ?_
                    refine mw_istore dc_Te_parse_150 (by decide) rfl ?_
                    refine mi_iinc dc_Te_parse_152 5 rfl (by decide) rfl ?_
                    refine mw_goto (tgt := 11) dc_Te_parse_155 (by decide) ?_
                    refine mw_pick [0, 1, 2, 3, 6, 7, 8] rfl ?_
                    have e9 : ps_1 n (cc k) (f, m, s, z) = some (f + 1, m ||| 2 ^ (cc k - 48).toNat, 0, va_up z f (cc k - 48)) := by
                      unfold ps_1
                      dsimp only
                      rw [if_neg (fun q => by have := q.1; have := q.2; omega), if_neg (show ¬ f = n by omega), if_neg (fun q => by have := q.1; rcases q.2 with q2 | q2 <;> omega), if_neg (fun q => by rcases q with q | q | q <;> omega)]
                      rw [show (if s < 0 then -(cc k - 48) else cc k - 48) = cc k - 48 from if_neg (by omega)]
                    exact ih (k + 1) (f + 1) (m ||| 2 ^ (cc k - 48).toNat) (0) (va_up z f (cc k - 48)) (by omega) (by omega) (by show (ps_r n cc k).bind _ = _; rw [hr]; exact e9) (by omega) ((bi_o m hm (cc k - 48).toNat (by omega)).2) (by omega)
                  · refine mw_iload dc_Te_parse_128 0 rfl ?_
                    refine mi_ineg dc_Te_parse_130 ?_
                    refine mw_goto (tgt := 136) dc_Te_parse_131 (by decide) ?_
                    refine mi_iast dc_Te_parse_136 ha ⟨by omega, by omega, hna.2⟩ (I' := va_up I a (nr (I a) 0 (f + 1) (va_up z f (-(cc k - 48))))) (by rw [va_up_self, up_up, Int.toNat_natCast, nr_e]) ?_
                    refine mi_iinc dc_Te_parse_137 5 rfl (by decide) rfl ?_
                    refine mw_iload dc_Te_parse_140 5 rfl ?_
                    refine mi_const dc_Te_parse_142 ?_
                    refine mw_iload dc_Te_parse_143 1 rfl ?_
                    refine mw_ishl dc_Te_parse_145 ?_
                    refine mw_ior dc_Te_parse_146 ?_
                    rw [show iI (cc k - 48) = iI (((cc k - 48).toNat : Nat) : Int) from congrArg iI (by omega), (bi_o m hm (cc k - 48).toNat (by omega)).1, show iI (((cc k - 48).toNat : Nat) : Int) = iI (cc k - 48) from congrArg iI (by omega)]
                    refine mw_istore dc_Te_parse_147 (by decide) rfl ?_
                    refine mi_const dc_Te_parse_149 ?_
                    refine mw_istore dc_Te_parse_150 (by decide) rfl ?_
                    refine mi_iinc dc_Te_parse_152 5 rfl (by decide) rfl ?_
                    refine mw_goto (tgt := 11) dc_Te_parse_155 (by decide) ?_
                    refine mw_pick [0, 1, 2, 3, 6, 7, 8] rfl ?_
                    have e9 : ps_1 n (cc k) (f, m, s, z) = some (f + 1, m ||| 2 ^ (cc k - 48).toNat, 0, va_up z f (-(cc k - 48))) := by
                      unfold ps_1
                      dsimp only
                      rw [if_neg (fun q => by have := q.1; have := q.2; omega), if_neg (show ¬ f = n by omega), if_neg (fun q => by have := q.1; rcases q.2 with q2 | q2 <;> omega), if_neg (fun q => by rcases q with q | q | q <;> omega)]
                      rw [show (if s < 0 then -(cc k - 48) else cc k - 48) = -(cc k - 48) from if_pos (by omega)]
                    exact ih (k + 1) (f + 1) (m ||| 2 ^ (cc k - 48).toNat) (0) (va_up z f (-(cc k - 48))) (by omega) (by omega) (by show (ps_r n cc k).bind _ = _; rw [hr]; exact e9) (by omega) ((bi_o m hm (cc k - 48).toNat (by omega)).2) (by omega)
                · refine mw_iload dc_Te_parse_118 2 rfl ?_
                  have e9 : ps_1 n (cc k) (f, m, s, z) = none := by
                    unfold ps_1
                    dsimp only
                    rw [if_neg (fun q => by have := q.1; have := q.2; omega), if_neg (show ¬ f = n by omega), if_neg (fun q => by have := q.1; rcases q.2 with q2 | q2 <;> omega), if_pos (Or.inr (Or.inr (by omega)))]
                  exact mw_iret dc_Te_parse_120 rfl rfl ⟨k, (f, m, s, z), h2, hr, rfl, Or.inl ⟨hk, e9, rfl⟩⟩
          · refine mw_iload dc_Te_parse_57 0 rfl ?_
            refine mi_bipush dc_Te_parse_59 (by decide) ?_
            refine mi_icmp_eq (tgt := 71) dc_Te_parse_61 (by decide) (iB_mk (by omega) (by omega)) (iB_mk (by omega) (by omega)) (fun h361 => ?_) (fun h361 => ?_)
            · refine mw_iload dc_Te_parse_71 0 rfl ?_
              refine mi_bipush dc_Te_parse_73 (by decide) ?_
              refine mi_icmp_ne (tgt := 82) dc_Te_parse_75 (by decide) (iB_mk (by omega) (by omega)) (iB_mk (by omega) (by omega)) (fun h475 => ?_) (fun h475 => ?_)
              · refine mi_const dc_Te_parse_82 ?_
                refine mw_istore dc_Te_parse_83 (by decide) rfl ?_
                refine mw_goto (tgt := 152) dc_Te_parse_85 (by decide) ?_
                refine mi_iinc dc_Te_parse_152 2 rfl (by decide) rfl ?_
                refine mw_goto (tgt := 11) dc_Te_parse_155 (by decide) ?_
                refine mw_pick [0, 1, 3, 4, 5, 6, 7] rfl ?_
                have e9 : ps_1 n (cc k) (f, m, s, z) = some (f, m, -1, z) := by
                  unfold ps_1
                  dsimp only
                  rw [if_neg (fun q => by have := q.1; have := q.2; omega), if_neg (show ¬ f = n by omega), if_pos ⟨by omega, by omega⟩]
                  rw [show (if cc k = 43 then (1 : Int) else -1) = -1 from if_neg (by omega)]
                exact ih (k + 1) (f) (m) (-1) (z) (by omega) (by omega) (by show (ps_r n cc k).bind _ = _; rw [hr]; exact e9) (by omega) (hm) (by omega)
              · refine mi_const dc_Te_parse_78 ?_
                refine mw_goto (tgt := 83) dc_Te_parse_79 (by decide) ?_
                refine mw_istore dc_Te_parse_83 (by decide) rfl ?_
                refine mw_goto (tgt := 152) dc_Te_parse_85 (by decide) ?_
                refine mi_iinc dc_Te_parse_152 2 rfl (by decide) rfl ?_
                refine mw_goto (tgt := 11) dc_Te_parse_155 (by decide) ?_
                refine mw_pick [0, 1, 3, 4, 5, 6, 7] rfl ?_
                have e9 : ps_1 n (cc k) (f, m, s, z) = some (f, m, 1, z) := by
                  unfold ps_1
                  dsimp only
                  rw [if_neg (fun q => by have := q.1; have := q.2; omega), if_neg (show ¬ f = n by omega), if_pos ⟨by omega, by omega⟩]
                  rw [show (if cc k = 43 then (1 : Int) else -1) = 1 from if_pos (by omega)]
                exact ih (k + 1) (f) (m) (1) (z) (by omega) (by omega) (by show (ps_r n cc k).bind _ = _; rw [hr]; exact e9) (by omega) (hm) (by omega)
            · refine mw_iload dc_Te_parse_64 0 rfl ?_
              refine mi_bipush dc_Te_parse_66 (by decide) ?_
              refine mi_icmp_ne (tgt := 88) dc_Te_parse_68 (by decide) (iB_mk (by omega) (by omega)) (iB_mk (by omega) (by omega)) (fun h468 => ?_) (fun h468 => ?_)
              · refine mw_iload dc_Te_parse_88 0 rfl ?_
                refine mi_bipush dc_Te_parse_90 (by decide) ?_
                refine mi_isub dc_Te_parse_92 ?_
                refine mw_istore dc_Te_parse_93 (by decide) rfl ?_
                refine mw_iload dc_Te_parse_95 0 rfl ?_
                refine mi_const dc_Te_parse_97 ?_
                refine mi_icmp_lt (tgt := 118) dc_Te_parse_98 (by decide) (iB_mk (by omega) (by omega)) (iB_mk (by omega) (by omega)) (fun h598 => ?_) (fun h598 => ?_)
                · refine mw_iload dc_Te_parse_118 2 rfl ?_
                  have e9 : ps_1 n (cc k) (f, m, s, z) = none := by
                    unfold ps_1
                    dsimp only
                    rw [if_neg (fun q => by have := q.1; have := q.2; omega), if_neg (show ¬ f = n by omega), if_neg (fun q => by have := q.1; rcases q.2 with q2 | q2 <;> omega), if_pos (Or.inl (by omega))]
                  exact mw_iret dc_Te_parse_120 rfl rfl ⟨k, (f, m, s, z), h2, hr, rfl, Or.inl ⟨hk, e9, rfl⟩⟩
                · refine mw_iload dc_Te_parse_101 0 rfl ?_
                  refine mw_iload_n dc_Te_parse_103 rfl 8 rfl ?_
                  refine mi_icmp_gt (tgt := 118) dc_Te_parse_104 (by decide) (iB_mk (by omega) (by omega)) (iB_mk (by omega) (by omega)) (fun h6104 => ?_) (fun h6104 => ?_)
                  · refine mw_iload dc_Te_parse_118 2 rfl ?_
                    have e9 : ps_1 n (cc k) (f, m, s, z) = none := by
                      unfold ps_1
                      dsimp only
                      rw [if_neg (fun q => by have := q.1; have := q.2; omega), if_neg (show ¬ f = n by omega), if_neg (fun q => by have := q.1; rcases q.2 with q2 | q2 <;> omega), if_pos (Or.inr (Or.inl (by omega)))]
                    exact mw_iret dc_Te_parse_120 rfl rfl ⟨k, (f, m, s, z), h2, hr, rfl, Or.inl ⟨hk, e9, rfl⟩⟩
                  · refine mw_iload dc_Te_parse_107 4 rfl ?_
                    refine mw_iload dc_Te_parse_109 0 rfl ?_
                    refine mw_ishr dc_Te_parse_111 ?_
                    refine mi_const dc_Te_parse_112 ?_
                    refine mw_iand dc_Te_parse_113 ?_
                    rw [show iI (cc k - 48) = iI (((cc k - 48).toNat : Nat) : Int) from congrArg iI (by omega), bi_t m hm (cc k - 48).toNat (by omega), show iI (((cc k - 48).toNat : Nat) : Int) = iI (cc k - 48) from congrArg iI (by omega)]
                    refine mi_const dc_Te_parse_114 ?_
                    refine mi_icmp_ne (tgt := 121) dc_Te_parse_115 (by decide) (iB_mk (by omega) (by omega)) (iB_mk (by omega) (by omega)) (fun h7115 => ?_) (fun h7115 => ?_)
                    · refine mw_aload_n dc_Te_parse_121 rfl 7 rfl ?_
                      refine mw_iload_n dc_Te_parse_122 rfl 5 rfl ?_
                      refine mw_iload dc_Te_parse_123 3 rfl ?_
                      refine mi_if_ge (tgt := 134) dc_Te_parse_125 (by decide) (iB_mk (by omega) (by omega)) (fun h8125 => ?_) (fun h8125 => ?_)
                      · refine mw_iload dc_Te_parse_134 0 rfl ?_
                        refine mi_iast dc_Te_parse_136 ha ⟨by omega, by omega, hna.2⟩ (I' := va_up I a (nr (I a) 0 (f + 1) (va_up z f (cc k - 48)))) (by rw [va_up_self, up_up, Int.toNat_natCast, nr_e]) ?_
                        refine mi_iinc dc_Te_parse_137 5 rfl (by decide) rfl ?_
                        refine mw_iload dc_Te_parse_140 5 rfl ?_
                        refine mi_const dc_Te_parse_142 ?_
                        refine mw_iload dc_Te_parse_143 1 rfl ?_
                        refine mw_ishl dc_Te_parse_145 ?_
                        refine mw_ior dc_Te_parse_146 ?_
                        rw [show iI (cc k - 48) = iI (((cc k - 48).toNat : Nat) : Int) from congrArg iI (by omega), (bi_o m hm (cc k - 48).toNat (by omega)).1, show iI (((cc k - 48).toNat : Nat) : Int) = iI (cc k - 48) from congrArg iI (by omega)]
                        refine mw_istore dc_Te_parse_147 (by decide) rfl ?_
                        refine mi_const dc_Te_parse_149 ?_
                        refine mw_istore dc_Te_parse_150 (by decide) rfl ?_
                        refine mi_iinc dc_Te_parse_152 5 rfl (by decide) rfl ?_
                        refine mw_goto (tgt := 11) dc_Te_parse_155 (by decide) ?_
                        refine mw_pick [0, 1, 2, 3, 6, 7, 8] rfl ?_
                        have e9 : ps_1 n (cc k) (f, m, s, z) = some (f + 1, m ||| 2 ^ (cc k - 48).toNat, 0, va_up z f (cc k - 48)) := by
                          unfold ps_1
                          dsimp only
                          rw [if_neg (fun q => by have := q.1; have := q.2; omega), if_neg (show ¬ f = n by omega), if_neg (fun q => by have := q.1; rcases q.2 with q2 | q2 <;> omega), if_neg (fun q => by rcases q with q | q | q <;> omega)]
                          rw [show (if s < 0 then -(cc k - 48) else cc k - 48) = cc k - 48 from if_neg (by omega)]
                        exact ih (k + 1) (f + 1) (m ||| 2 ^ (cc k - 48).toNat) (0) (va_up z f (cc k - 48)) (by omega) (by omega) (by show (ps_r n cc k).bind _ = _; rw [hr]; exact e9) (by omega) ((bi_o m hm (cc k - 48).toNat (by omega)).2) (by omega)
                      · refine mw_iload dc_Te_parse_128 0 rfl ?_
                        refine mi_ineg dc_Te_parse_130 ?_
                        refine mw_goto (tgt := 136) dc_Te_parse_131 (by decide) ?_
                        refine mi_iast dc_Te_parse_136 ha ⟨by omega, by omega, hna.2⟩ (I' := va_up I a (nr (I a) 0 (f + 1) (va_up z f (-(cc k - 48))))) (by rw [va_up_self, up_up, Int.toNat_natCast, nr_e]) ?_
                        refine mi_iinc dc_Te_parse_137 5 rfl (by decide) rfl ?_
                        refine mw_iload dc_Te_parse_140 5 rfl ?_
                        refine mi_const dc_Te_parse_142 ?_
                        refine mw_iload dc_Te_parse_143 1 rfl ?_
                        refine mw_ishl dc_Te_parse_145 ?_
                        refine mw_ior dc_Te_parse_146 ?_
                        rw [show iI (cc k - 48) = iI (((cc k - 48).toNat : Nat) : Int) from congrArg iI (by omega), (bi_o m hm (cc k - 48).toNat (by omega)).1, show iI (((cc k - 48).toNat : Nat) : Int) = iI (cc k - 48) from congrArg iI (by omega)]
                        refine mw_istore dc_Te_parse_147 (by decide) rfl ?_
                        refine mi_const dc_Te_parse_149 ?_
                        refine mw_istore dc_Te_parse_150 (by decide) rfl ?_
                        refine mi_iinc dc_Te_parse_152 5 rfl (by decide) rfl ?_
                        refine mw_goto (tgt := 11) dc_Te_parse_155 (by decide) ?_
                        refine mw_pick [0, 1, 2, 3, 6, 7, 8] rfl ?_
                        have e9 : ps_1 n (cc k) (f, m, s, z) = some (f + 1, m ||| 2 ^ (cc k - 48).toNat, 0, va_up z f (-(cc k - 48))) := by
                          unfold ps_1
                          dsimp only
                          rw [if_neg (fun q => by have := q.1; have := q.2; omega), if_neg (show ¬ f = n by omega), if_neg (fun q => by have := q.1; rcases q.2 with q2 | q2 <;> omega), if_neg (fun q => by rcases q with q | q | q <;> omega)]
                          rw [show (if s < 0 then -(cc k - 48) else cc k - 48) = -(cc k - 48) from if_pos (by omega)]
                        exact ih (k + 1) (f + 1) (m ||| 2 ^ (cc k - 48).toNat) (0) (va_up z f (-(cc k - 48))) (by omega) (by omega) (by show (ps_r n cc k).bind _ = _; rw [hr]; exact e9) (by omega) ((bi_o m hm (cc k - 48).toNat (by omega)).2) (by omega)
                    · refine mw_iload dc_Te_parse_118 2 rfl ?_
                      have e9 : ps_1 n (cc k) (f, m, s, z) = none := by
                        unfold ps_1
                        dsimp only
                        rw [if_neg (fun q => by have := q.1; have := q.2; omega), if_neg (show ¬ f = n by omega), if_neg (fun q => by have := q.1; rcases q.2 with q2 | q2 <;> omega), if_pos (Or.inr (Or.inr (by omega)))]
                      exact mw_iret dc_Te_parse_120 rfl rfl ⟨k, (f, m, s, z), h2, hr, rfl, Or.inl ⟨hk, e9, rfl⟩⟩
              · refine mw_iload dc_Te_parse_71 0 rfl ?_
                refine mi_bipush dc_Te_parse_73 (by decide) ?_
                refine mi_icmp_ne (tgt := 82) dc_Te_parse_75 (by decide) (iB_mk (by omega) (by omega)) (iB_mk (by omega) (by omega)) (fun h575 => ?_) (fun h575 => ?_)
                · refine mi_const dc_Te_parse_82 ?_
                  refine mw_istore dc_Te_parse_83 (by decide) rfl ?_
                  refine mw_goto (tgt := 152) dc_Te_parse_85 (by decide) ?_
                  refine mi_iinc dc_Te_parse_152 2 rfl (by decide) rfl ?_
                  refine mw_goto (tgt := 11) dc_Te_parse_155 (by decide) ?_
                  refine mw_pick [0, 1, 3, 4, 5, 6, 7] rfl ?_
                  have e9 : ps_1 n (cc k) (f, m, s, z) = some (f, m, -1, z) := by
                    unfold ps_1
                    dsimp only
                    rw [if_neg (fun q => by have := q.1; have := q.2; omega), if_neg (show ¬ f = n by omega), if_pos ⟨by omega, by omega⟩]
                    rw [show (if cc k = 43 then (1 : Int) else -1) = -1 from if_neg (by omega)]
                  exact ih (k + 1) (f) (m) (-1) (z) (by omega) (by omega) (by show (ps_r n cc k).bind _ = _; rw [hr]; exact e9) (by omega) (hm) (by omega)
                · refine mi_const dc_Te_parse_78 ?_
                  refine mw_goto (tgt := 83) dc_Te_parse_79 (by decide) ?_
                  refine mw_istore dc_Te_parse_83 (by decide) rfl ?_
                  refine mw_goto (tgt := 152) dc_Te_parse_85 (by decide) ?_
                  refine mi_iinc dc_Te_parse_152 2 rfl (by decide) rfl ?_
                  refine mw_goto (tgt := 11) dc_Te_parse_155 (by decide) ?_
                  refine mw_pick [0, 1, 3, 4, 5, 6, 7] rfl ?_
                  have e9 : ps_1 n (cc k) (f, m, s, z) = some (f, m, 1, z) := by
                    unfold ps_1
                    dsimp only
                    rw [if_neg (fun q => by have := q.1; have := q.2; omega), if_neg (show ¬ f = n by omega), if_pos ⟨by omega, by omega⟩]
                    rw [show (if cc k = 43 then (1 : Int) else -1) = 1 from if_pos (by omega)]
                  exact ih (k + 1) (f) (m) (1) (z) (by omega) (by omega) (by show (ps_r n cc k).bind _ = _; rw [hr]; exact e9) (by omega) (hm) (by omega)
        · refine mw_iload dc_Te_parse_49 1 rfl ?_
          have e9 : ps_1 n (cc k) (f, m, s, z) = none := by
            unfold ps_1
            dsimp only
            rw [if_neg (fun q => by have := q.1; have := q.2; omega), if_pos (show f = n by omega)]
          exact mw_iret dc_Te_parse_51 rfl rfl ⟨k, (f, m, s, z), h2, hr, rfl, Or.inl ⟨hk, e9, rfl⟩⟩
      · refine mw_iload dc_Te_parse_36 2 rfl ?_
        refine mi_if_ne (tgt := 44) dc_Te_parse_38 (by decide) (iB_mk (by omega) (by omega)) (fun h138 => ?_) (fun h138 => ?_)
        · refine mw_iload_n dc_Te_parse_44 rfl 4 rfl ?_
          refine mw_iload_n dc_Te_parse_45 rfl 7 rfl ?_
          refine mi_icmp_ne (tgt := 52) dc_Te_parse_46 (by decide) (iB_mk (by omega) (by omega)) (iB_mk (by omega) (by omega)) (fun h246 => ?_) (fun h246 => ?_)
          · refine mw_iload dc_Te_parse_52 2 rfl ?_
            refine mi_if_ne (tgt := 88) dc_Te_parse_54 (by decide) (iB_mk (by omega) (by omega)) (fun h354 => ?_) (fun h354 => ?_)
            · refine mw_iload dc_Te_parse_88 0 rfl ?_
              refine mi_bipush dc_Te_parse_90 (by decide) ?_
              refine mi_isub dc_Te_parse_92 ?_
              refine mw_istore dc_Te_parse_93 (by decide) rfl ?_
              refine mw_iload dc_Te_parse_95 0 rfl ?_
              refine mi_const dc_Te_parse_97 ?_
              refine mi_icmp_lt (tgt := 118) dc_Te_parse_98 (by decide) (iB_mk (by omega) (by omega)) (iB_mk (by omega) (by omega)) (fun h498 => ?_) (fun h498 => ?_)
              · refine mw_iload dc_Te_parse_118 2 rfl ?_
                have e9 : ps_1 n (cc k) (f, m, s, z) = none := by
                  unfold ps_1
                  dsimp only
                  rw [if_neg (fun q => by have := q.1; have := q.2; omega), if_neg (show ¬ f = n by omega), if_neg (fun q => by have := q.1; rcases q.2 with q2 | q2 <;> omega), if_pos (Or.inl (by omega))]
                exact mw_iret dc_Te_parse_120 rfl rfl ⟨k, (f, m, s, z), h2, hr, rfl, Or.inl ⟨hk, e9, rfl⟩⟩
              · refine mw_iload dc_Te_parse_101 0 rfl ?_
                refine mw_iload_n dc_Te_parse_103 rfl 8 rfl ?_
                refine mi_icmp_gt (tgt := 118) dc_Te_parse_104 (by decide) (iB_mk (by omega) (by omega)) (iB_mk (by omega) (by omega)) (fun h5104 => ?_) (fun h5104 => ?_)
                · refine mw_iload dc_Te_parse_118 2 rfl ?_
                  have e9 : ps_1 n (cc k) (f, m, s, z) = none := by
                    unfold ps_1
                    dsimp only
                    rw [if_neg (fun q => by have := q.1; have := q.2; omega), if_neg (show ¬ f = n by omega), if_neg (fun q => by have := q.1; rcases q.2 with q2 | q2 <;> omega), if_pos (Or.inr (Or.inl (by omega)))]
                  exact mw_iret dc_Te_parse_120 rfl rfl ⟨k, (f, m, s, z), h2, hr, rfl, Or.inl ⟨hk, e9, rfl⟩⟩
                · refine mw_iload dc_Te_parse_107 4 rfl ?_
                  refine mw_iload dc_Te_parse_109 0 rfl ?_
                  refine mw_ishr dc_Te_parse_111 ?_
                  refine mi_const dc_Te_parse_112 ?_
                  refine mw_iand dc_Te_parse_113 ?_
                  rw [show iI (cc k - 48) = iI (((cc k - 48).toNat : Nat) : Int) from congrArg iI (by omega), bi_t m hm (cc k - 48).toNat (by omega), show iI (((cc k - 48).toNat : Nat) : Int) = iI (cc k - 48) from congrArg iI (by omega)]
                  refine mi_const dc_Te_parse_114 ?_
                  refine mi_icmp_ne (tgt := 121) dc_Te_parse_115 (by decide) (iB_mk (by omega) (by omega)) (iB_mk (by omega) (by omega)) (fun h6115 => ?_) (fun h6115 => ?_)
                  · refine mw_aload_n dc_Te_parse_121 rfl 7 rfl ?_
                    refine mw_iload_n dc_Te_parse_122 rfl 5 rfl ?_
                    refine mw_iload dc_Te_parse_123 3 rfl ?_
                    refine mi_if_ge (tgt := 134) dc_Te_parse_125 (by decide) (iB_mk (by omega) (by omega)) (fun h7125 => ?_) (fun h7125 => ?_)
                    · refine mw_iload dc_Te_parse_134 0 rfl ?_
                      refine mi_iast dc_Te_parse_136 ha ⟨by omega, by omega, hna.2⟩ (I' := va_up I a (nr (I a) 0 (f + 1) (va_up z f (cc k - 48)))) (by rw [va_up_self, up_up, Int.toNat_natCast, nr_e]) ?_
                      refine mi_iinc dc_Te_parse_137 5 rfl (by decide) rfl ?_
                      refine mw_iload dc_Te_parse_140 5 rfl ?_
                      refine mi_const dc_Te_parse_142 ?_
                      refine mw_iload dc_Te_parse_143 1 rfl ?_
                      refine mw_ishl dc_Te_parse_145 ?_
                      refine mw_ior dc_Te_parse_146 ?_
                      rw [show iI (cc k - 48) = iI (((cc k - 48).toNat : Nat) : Int) from congrArg iI (by omega), (bi_o m hm (cc k - 48).toNat (by omega)).1, show iI (((cc k - 48).toNat : Nat) : Int) = iI (cc k - 48) from congrArg iI (by omega)]
                      refine mw_istore dc_Te_parse_147 (by decide) rfl ?_
                      refine mi_const dc_Te_parse_149 ?_
                      refine mw_istore dc_Te_parse_150 (by decide) rfl ?_
                      refine mi_iinc dc_Te_parse_152 5 rfl (by decide) rfl ?_
                      refine mw_goto (tgt := 11) dc_Te_parse_155 (by decide) ?_
                      refine mw_pick [0, 1, 2, 3, 6, 7, 8] rfl ?_
                      have e9 : ps_1 n (cc k) (f, m, s, z) = some (f + 1, m ||| 2 ^ (cc k - 48).toNat, 0, va_up z f (cc k - 48)) := by
                        unfold ps_1
                        dsimp only
                        rw [if_neg (fun q => by have := q.1; have := q.2; omega), if_neg (show ¬ f = n by omega), if_neg (fun q => by have := q.1; rcases q.2 with q2 | q2 <;> omega), if_neg (fun q => by rcases q with q | q | q <;> omega)]
                        rw [show (if s < 0 then -(cc k - 48) else cc k - 48) = cc k - 48 from if_neg (by omega)]
                      exact ih (k + 1) (f + 1) (m ||| 2 ^ (cc k - 48).toNat) (0) (va_up z f (cc k - 48)) (by omega) (by omega) (by show (ps_r n cc k).bind _ = _; rw [hr]; exact e9) (by omega) ((bi_o m hm (cc k - 48).toNat (by omega)).2) (by omega)
                    · refine mw_iload dc_Te_parse_128 0 rfl ?_
                      refine mi_ineg dc_Te_parse_130 ?_
                      refine mw_goto (tgt := 136) dc_Te_parse_131 (by decide) ?_
                      refine mi_iast dc_Te_parse_136 ha ⟨by omega, by omega, hna.2⟩ (I' := va_up I a (nr (I a) 0 (f + 1) (va_up z f (-(cc k - 48))))) (by rw [va_up_self, up_up, Int.toNat_natCast, nr_e]) ?_
                      refine mi_iinc dc_Te_parse_137 5 rfl (by decide) rfl ?_
                      refine mw_iload dc_Te_parse_140 5 rfl ?_
                      refine mi_const dc_Te_parse_142 ?_
                      refine mw_iload dc_Te_parse_143 1 rfl ?_
                      refine mw_ishl dc_Te_parse_145 ?_
                      refine mw_ior dc_Te_parse_146 ?_
                      rw [show iI (cc k - 48) = iI (((cc k - 48).toNat : Nat) : Int) from congrArg iI (by omega), (bi_o m hm (cc k - 48).toNat (by omega)).1, show iI (((cc k - 48).toNat : Nat) : Int) = iI (cc k - 48) from congrArg iI (by omega)]
                      refine mw_istore dc_Te_parse_147 (by decide) rfl ?_
                      refine mi_const dc_Te_parse_149 ?_
                      refine mw_istore dc_Te_parse_150 (by decide) rfl ?_
                      refine mi_iinc dc_Te_parse_152 5 rfl (by decide) rfl ?_
                      refine mw_goto (tgt := 11) dc_Te_parse_155 (by decide) ?_
                      refine mw_pick [0, 1, 2, 3, 6, 7, 8] rfl ?_
                      have e9 : ps_1 n (cc k) (f, m, s, z) = some (f + 1, m ||| 2 ^ (cc k - 48).toNat, 0, va_up z f (-(cc k - 48))) := by
                        unfold ps_1
                        dsimp only
                        rw [if_neg (fun q => by have := q.1; have := q.2; omega), if_neg (show ¬ f = n by omega), if_neg (fun q => by have := q.1; rcases q.2 with q2 | q2 <;> omega), if_neg (fun q => by rcases q with q | q | q <;> omega)]
                        rw [show (if s < 0 then -(cc k - 48) else cc k - 48) = -(cc k - 48) from if_pos (by omega)]
                      exact ih (k + 1) (f + 1) (m ||| 2 ^ (cc k - 48).toNat) (0) (va_up z f (-(cc k - 48))) (by omega) (by omega) (by show (ps_r n cc k).bind _ = _; rw [hr]; exact e9) (by omega) ((bi_o m hm (cc k - 48).toNat (by omega)).2) (by omega)
                  · refine mw_iload dc_Te_parse_118 2 rfl ?_
                    have e9 : ps_1 n (cc k) (f, m, s, z) = none := by
                      unfold ps_1
                      dsimp only
                      rw [if_neg (fun q => by have := q.1; have := q.2; omega), if_neg (show ¬ f = n by omega), if_neg (fun q => by have := q.1; rcases q.2 with q2 | q2 <;> omega), if_pos (Or.inr (Or.inr (by omega)))]
                    exact mw_iret dc_Te_parse_120 rfl rfl ⟨k, (f, m, s, z), h2, hr, rfl, Or.inl ⟨hk, e9, rfl⟩⟩
            · refine mw_iload dc_Te_parse_57 0 rfl ?_
              refine mi_bipush dc_Te_parse_59 (by decide) ?_
              refine mi_icmp_eq (tgt := 71) dc_Te_parse_61 (by decide) (iB_mk (by omega) (by omega)) (iB_mk (by omega) (by omega)) (fun h461 => ?_) (fun h461 => ?_)
              · refine mw_iload dc_Te_parse_71 0 rfl ?_
                refine mi_bipush dc_Te_parse_73 (by decide) ?_
                refine mi_icmp_ne (tgt := 82) dc_Te_parse_75 (by decide) (iB_mk (by omega) (by omega)) (iB_mk (by omega) (by omega)) (fun h575 => ?_) (fun h575 => ?_)
                · refine mi_const dc_Te_parse_82 ?_
                  refine mw_istore dc_Te_parse_83 (by decide) rfl ?_
                  refine mw_goto (tgt := 152) dc_Te_parse_85 (by decide) ?_
                  refine mi_iinc dc_Te_parse_152 2 rfl (by decide) rfl ?_
                  refine mw_goto (tgt := 11) dc_Te_parse_155 (by decide) ?_
                  refine mw_pick [0, 1, 3, 4, 5, 6, 7] rfl ?_
                  have e9 : ps_1 n (cc k) (f, m, s, z) = some (f, m, -1, z) := by
                    unfold ps_1
                    dsimp only
                    rw [if_neg (fun q => by have := q.1; have := q.2; omega), if_neg (show ¬ f = n by omega), if_pos ⟨by omega, by omega⟩]
                    rw [show (if cc k = 43 then (1 : Int) else -1) = -1 from if_neg (by omega)]
                  exact ih (k + 1) (f) (m) (-1) (z) (by omega) (by omega) (by show (ps_r n cc k).bind _ = _; rw [hr]; exact e9) (by omega) (hm) (by omega)
                · refine mi_const dc_Te_parse_78 ?_
                  refine mw_goto (tgt := 83) dc_Te_parse_79 (by decide) ?_
                  refine mw_istore dc_Te_parse_83 (by decide) rfl ?_
                  refine mw_goto (tgt := 152) dc_Te_parse_85 (by decide) ?_
                  refine mi_iinc dc_Te_parse_152 2 rfl (by decide) rfl ?_
                  refine mw_goto (tgt := 11) dc_Te_parse_155 (by decide) ?_
                  refine mw_pick [0, 1, 3, 4, 5, 6, 7] rfl ?_
                  have e9 : ps_1 n (cc k) (f, m, s, z) = some (f, m, 1, z) := by
                    unfold ps_1
                    dsimp only
                    rw [if_neg (fun q => by have := q.1; have := q.2; omega), if_neg (show ¬ f = n by omega), if_pos ⟨by omega, by omega⟩]
                    rw [show (if cc k = 43 then (1 : Int) else -1) = 1 from if_pos (by omega)]
                  exact ih (k + 1) (f) (m) (1) (z) (by omega) (by omega) (by show (ps_r n cc k).bind _ = _; rw [hr]; exact e9) (by omega) (hm) (by omega)
              · refine mw_iload dc_Te_parse_64 0 rfl ?_
                refine mi_bipush dc_Te_parse_66 (by decide) ?_
                refine mi_icmp_ne (tgt := 88) dc_Te_parse_68 (by decide) (iB_mk (by omega) (by omega)) (iB_mk (by omega) (by omega)) (fun h568 => ?_) (fun h568 => ?_)
                · refine mw_iload dc_Te_parse_88 0 rfl ?_
                  refine mi_bipush dc_Te_parse_90 (by decide) ?_
                  refine mi_isub dc_Te_parse_92 ?_
                  refine mw_istore dc_Te_parse_93 (by decide) rfl ?_
                  refine mw_iload dc_Te_parse_95 0 rfl ?_
                  refine mi_const dc_Te_parse_97 ?_
                  refine mi_icmp_lt (tgt := 118) dc_Te_parse_98 (by decide) (iB_mk (by omega) (by omega)) (iB_mk (by omega) (by omega)) (fun h698 => ?_) (fun h698 => ?_)
                  · refine mw_iload dc_Te_parse_118 2 rfl ?_
                    have e9 : ps_1 n (cc k) (f, m, s, z) = none := by
                      unfold ps_1
                      dsimp only
                      rw [if_neg (fun q => by have := q.1; have := q.2; omega), if_neg (show ¬ f = n by omega), if_neg (fun q => by have := q.1; rcases q.2 with q2 | q2 <;> omega), if_pos (Or.inl (by omega))]
                    exact mw_iret dc_Te_parse_120 rfl rfl ⟨k, (f, m, s, z), h2, hr, rfl, Or.inl ⟨hk, e9, rfl⟩⟩
                  · refine mw_iload dc_Te_parse_101 0 rfl ?_
                    refine mw_iload_n dc_Te_parse_103 rfl 8 rfl ?_
                    refine mi_icmp_gt (tgt := 118) dc_Te_parse_104 (by decide) (iB_mk (by omega) (by omega)) (iB_mk (by omega) (by omega)) (fun h7104 => ?_) (fun h7104 => ?_)
                    · refine mw_iload dc_Te_parse_118 2 rfl ?_
                      have e9 : ps_1 n (cc k) (f, m, s, z) = none := by
                        unfold ps_1
                        dsimp only
                        rw [if_neg (fun q => by have := q.1; have := q.2; omega), if_neg (show ¬ f = n by omega), if_neg (fun q => by have := q.1; rcases q.2 with q2 | q2 <;> omega), if_pos (Or.inr (Or.inl (by omega)))]
                      exact mw_iret dc_Te_parse_120 rfl rfl ⟨k, (f, m, s, z), h2, hr, rfl, Or.inl ⟨hk, e9, rfl⟩⟩
                    · refine mw_iload dc_Te_parse_107 4 rfl ?_
                      refine mw_iload dc_Te_parse_109 0 rfl ?_
                      refine mw_ishr dc_Te_parse_111 ?_
                      refine mi_const dc_Te_parse_112 ?_
                      refine mw_iand dc_Te_parse_113 ?_
                      rw [show iI (cc k - 48) = iI (((cc k - 48).toNat : Nat) : Int) from congrArg iI (by omega), bi_t m hm (cc k - 48).toNat (by omega), show iI (((cc k - 48).toNat : Nat) : Int) = iI (cc k - 48) from congrArg iI (by omega)]
                      refine mi_const dc_Te_parse_114 ?_
                      refine mi_icmp_ne (tgt := 121) dc_Te_parse_115 (by decide) (iB_mk (by omega) (by omega)) (iB_mk (by omega) (by omega)) (fun h8115 => ?_) (fun h8115 => ?_)
                      · refine mw_aload_n dc_Te_parse_121 rfl 7 rfl ?_
                        refine mw_iload_n dc_Te_parse_122 rfl 5 rfl ?_
                        refine mw_iload dc_Te_parse_123 3 rfl ?_
                        refine mi_if_ge (tgt := 134) dc_Te_parse_125 (by decide) (iB_mk (by omega) (by omega)) (fun h9125 => ?_) (fun h9125 => ?_)
                        · refine mw_iload dc_Te_parse_134 0 rfl ?_
                          refine mi_iast dc_Te_parse_136 ha ⟨by omega, by omega, hna.2⟩ (I' := va_up I a (nr (I a) 0 (f + 1) (va_up z f (cc k - 48)))) (by rw [va_up_self, up_up, Int.toNat_natCast, nr_e]) ?_
                          refine mi_iinc dc_Te_parse_137 5 rfl (by decide) rfl ?_
                          refine mw_iload dc_Te_parse_140 5 rfl ?_
                          refine mi_const dc_Te_parse_142 ?_
                          refine mw_iload dc_Te_parse_143 1 rfl ?_
                          refine mw_ishl dc_Te_parse_145 ?_
                          refine mw_ior dc_Te_parse_146 ?_
                          rw [show iI (cc k - 48) = iI (((cc k - 48).toNat : Nat) : Int) from congrArg iI (by omega), (bi_o m hm (cc k - 48).toNat (by omega)).1, show iI (((cc k - 48).toNat : Nat) : Int) = iI (cc k - 48) from congrArg iI (by omega)]
                          refine mw_istore dc_Te_parse_147 (by decide) rfl ?_
                          refine mi_const dc_Te_parse_149 ?_
                          refine mw_istore dc_Te_parse_150 (by decide) rfl ?_
                          refine mi_iinc dc_Te_parse_152 5 rfl (by decide) rfl ?_
                          refine mw_goto (tgt := 11) dc_Te_parse_155 (by decide) ?_
                          refine mw_pick [0, 1, 2, 3, 6, 7, 8] rfl ?_
                          have e9 : ps_1 n (cc k) (f, m, s, z) = some (f + 1, m ||| 2 ^ (cc k - 48).toNat, 0, va_up z f (cc k - 48)) := by
                            unfold ps_1
                            dsimp only
                            rw [if_neg (fun q => by have := q.1; have := q.2; omega), if_neg (show ¬ f = n by omega), if_neg (fun q => by have := q.1; rcases q.2 with q2 | q2 <;> omega), if_neg (fun q => by rcases q with q | q | q <;> omega)]
                            rw [show (if s < 0 then -(cc k - 48) else cc k - 48) = cc k - 48 from if_neg (by omega)]
                          exact ih (k + 1) (f + 1) (m ||| 2 ^ (cc k - 48).toNat) (0) (va_up z f (cc k - 48)) (by omega) (by omega) (by show (ps_r n cc k).bind _ = _; rw [hr]; exact e9) (by omega) ((bi_o m hm (cc k - 48).toNat (by omega)).2) (by omega)
                        · refine mw_iload dc_Te_parse_128 0 rfl ?_
                          refine mi_ineg dc_Te_parse_130 ?_
                          refine mw_goto (tgt := 136) dc_Te_parse_131 (by decide) ?_
                          refine mi_iast dc_Te_parse_136 ha ⟨by omega, by omega, hna.2⟩ (I' := va_up I a (nr (I a) 0 (f + 1) (va_up z f (-(cc k - 48))))) (by rw [va_up_self, up_up, Int.toNat_natCast, nr_e]) ?_
                          refine mi_iinc dc_Te_parse_137 5 rfl (by decide) rfl ?_
                          refine mw_iload dc_Te_parse_140 5 rfl ?_
                          refine mi_const dc_Te_parse_142 ?_
                          refine mw_iload dc_Te_parse_143 1 rfl ?_
                          refine mw_ishl dc_Te_parse_145 ?_
                          refine mw_ior dc_Te_parse_146 ?_
                          rw [show iI (cc k - 48) = iI (((cc k - 48).toNat : Nat) : Int) from congrArg iI (by omega), (bi_o m hm (cc k - 48).toNat (by omega)).1, show iI (((cc k - 48).toNat : Nat) : Int) = iI (cc k - 48) from congrArg iI (by omega)]
                          refine mw_istore dc_Te_parse_147 (by decide) rfl ?_
                          refine mi_const dc_Te_parse_149 ?_
                          refine mw_istore dc_Te_parse_150 (by decide) rfl ?_
                          refine mi_iinc dc_Te_parse_152 5 rfl (by decide) rfl ?_
                          refine mw_goto (tgt := 11) dc_Te_parse_155 (by decide) ?_
                          refine mw_pick [0, 1, 2, 3, 6, 7, 8] rfl ?_
                          have e9 : ps_1 n (cc k) (f, m, s, z) = some (f + 1, m ||| 2 ^ (cc k - 48).toNat, 0, va_up z f (-(cc k - 48))) := by
                            unfold ps_1
                            dsimp only
                            rw [if_neg (fun q => by have := q.1; have := q.2; omega), if_neg (show ¬ f = n by omega), if_neg (fun q => by have := q.1; rcases q.2 with q2 | q2 <;> omega), if_neg (fun q => by rcases q with q | q | q <;> omega)]
                            rw [show (if s < 0 then -(cc k - 48) else cc k - 48) = -(cc k - 48) from if_pos (by omega)]
                          exact ih (k + 1) (f + 1) (m ||| 2 ^ (cc k - 48).toNat) (0) (va_up z f (-(cc k - 48))) (by omega) (by omega) (by show (ps_r n cc k).bind _ = _; rw [hr]; exact e9) (by omega) ((bi_o m hm (cc k - 48).toNat (by omega)).2) (by omega)
                      · refine mw_iload dc_Te_parse_118 2 rfl ?_
                        have e9 : ps_1 n (cc k) (f, m, s, z) = none := by
                          unfold ps_1
                          dsimp only
                          rw [if_neg (fun q => by have := q.1; have := q.2; omega), if_neg (show ¬ f = n by omega), if_neg (fun q => by have := q.1; rcases q.2 with q2 | q2 <;> omega), if_pos (Or.inr (Or.inr (by omega)))]
                        exact mw_iret dc_Te_parse_120 rfl rfl ⟨k, (f, m, s, z), h2, hr, rfl, Or.inl ⟨hk, e9, rfl⟩⟩
                · refine mw_iload dc_Te_parse_71 0 rfl ?_
                  refine mi_bipush dc_Te_parse_73 (by decide) ?_
                  refine mi_icmp_ne (tgt := 82) dc_Te_parse_75 (by decide) (iB_mk (by omega) (by omega)) (iB_mk (by omega) (by omega)) (fun h675 => ?_) (fun h675 => ?_)
                  · refine mi_const dc_Te_parse_82 ?_
                    refine mw_istore dc_Te_parse_83 (by decide) rfl ?_
                    refine mw_goto (tgt := 152) dc_Te_parse_85 (by decide) ?_
                    refine mi_iinc dc_Te_parse_152 2 rfl (by decide) rfl ?_
                    refine mw_goto (tgt := 11) dc_Te_parse_155 (by decide) ?_
                    refine mw_pick [0, 1, 3, 4, 5, 6, 7] rfl ?_
                    have e9 : ps_1 n (cc k) (f, m, s, z) = some (f, m, -1, z) := by
                      unfold ps_1
                      dsimp only
                      rw [if_neg (fun q => by have := q.1; have := q.2; omega), if_neg (show ¬ f = n by omega), if_pos ⟨by omega, by omega⟩]
                      rw [show (if cc k = 43 then (1 : Int) else -1) = -1 from if_neg (by omega)]
                    exact ih (k + 1) (f) (m) (-1) (z) (by omega) (by omega) (by show (ps_r n cc k).bind _ = _; rw [hr]; exact e9) (by omega) (hm) (by omega)
                  · refine mi_const dc_Te_parse_78 ?_
                    refine mw_goto (tgt := 83) dc_Te_parse_79 (by decide) ?_
                    refine mw_istore dc_Te_parse_83 (by decide) rfl ?_
                    refine mw_goto (tgt := 152) dc_Te_parse_85 (by decide) ?_
                    refine mi_iinc dc_Te_parse_152 2 rfl (by decide) rfl ?_
                    refine mw_goto (tgt := 11) dc_Te_parse_155 (by decide) ?_
                    refine mw_pick [0, 1, 3, 4, 5, 6, 7] rfl ?_
                    have e9 : ps_1 n (cc k) (f, m, s, z) = some (f, m, 1, z) := by
                      unfold ps_1
                      dsimp only
                      rw [if_neg (fun q => by have := q.1; have := q.2; omega), if_neg (show ¬ f = n by omega), if_pos ⟨by omega, by omega⟩]
                      rw [show (if cc k = 43 then (1 : Int) else -1) = 1 from if_pos (by omega)]
                    exact ih (k + 1) (f) (m) (1) (z) (by omega) (by omega) (by show (ps_r n cc k).bind _ = _; rw [hr]; exact e9) (by omega) (hm) (by omega)
          · refine mw_iload dc_Te_parse_49 1 rfl ?_
            have e9 : ps_1 n (cc k) (f, m, s, z) = none := by
              unfold ps_1
              dsimp only
              rw [if_neg (fun q => by have := q.1; have := q.2; omega), if_pos (show f = n by omega)]
            exact mw_iret dc_Te_parse_51 rfl rfl ⟨k, (f, m, s, z), h2, hr, rfl, Or.inl ⟨hk, e9, rfl⟩⟩
        · refine mw_goto (tgt := 152) dc_Te_parse_41 (by decide) ?_
          refine mi_iinc dc_Te_parse_152 1 rfl (by decide) rfl ?_
          refine mw_goto (tgt := 11) dc_Te_parse_155 (by decide) ?_
          refine mw_pick [0, 2, 3, 4, 5, 6, 7] rfl ?_
          have e9 : ps_1 n (cc k) (f, m, s, z) = some (f, m, s, z) := by
            unfold ps_1
            dsimp only
            rw [if_pos ⟨by omega, by omega⟩]
          exact ih (k + 1) (f) (m) (s) (z) (by omega) (by omega) (by show (ps_r n cc k).bind _ = _; rw [hr]; exact e9) (by omega) (hm) (by omega)
theorem ev_parse {G : mm_G} {d : Nat} {sh : mm_Sh} {I : Nat → Nat → Int32} {J : Nat → Nat → Int64} {F : Nat → Nat → Option Nat} {V : Nat → Nat → Value} {t c l a n na : Nat} {cc : Nat → Int} (ht : sh[t]? = some (.inr 2)) (hc : sh[c]? = some (.inl (0, 24))) (ha : sh[a]? = some (.inl (0, na))) (hac : c ≠ a) (hV0 : V t 0 = .ref c) (hV1 : V t 1 = .int (iI l)) (hl : l ≤ 24) (hn : n ≤ 6) (hna : n ≤ na ∧ na < 2147483648) (hcc : ∀ k, k < l → I c k = iI (cc k) ∧ 0 ≤ cc k ∧ cc k < 256) : mE G mt_Te_parse d 0 0 [.ref t, .ref a, .int (iI n)] (sh, I, J, F, V) (ps_X n l a cc sh I J F V) := by
  refine mE_intro (by decide) (fun k h q => ?_) (Nat.le_of_ble_eq_true rfl) ?_
  · obtain ⟨t, q, -, -, -, q | q⟩ := q
    · exact nomatch q.2.2
    · exact nomatch q.2
  show mW G mt_Te_parse d 0 0 0 [(0, .ref t), (1, .ref a), (2, .int (iI n))] [] (sh, I, J, F, V) _
  refine mi_const dc_Te_parse_0 ?_
  refine mw_istore_n dc_Te_parse_1 rfl (by decide) rfl ?_
  refine mi_const dc_Te_parse_2 ?_
  refine mw_istore dc_Te_parse_3 (by decide) rfl ?_
  refine mi_const dc_Te_parse_5 ?_
  refine mw_istore dc_Te_parse_6 (by decide) rfl ?_
  refine mi_const dc_Te_parse_8 ?_
  refine mw_istore dc_Te_parse_9 (by decide) rfl ?_
  refine mw_pick [0, 1, 2, 3, 4, 5, 6] rfl ?_
  refine mw_h (h' := (sh, va_up I a (nr (I a) 0 0 (fun _ => 0)), J, F, V)) (by rw [nr_n, up_id]) ?_
  exact lp_parse ht hc ha hac hV0 hV1 hl hn hna hcc (l + 1) 0 0 0 0 (fun _ => 0) (by omega) (by omega) rfl (by omega) (by omega) (by omega)
