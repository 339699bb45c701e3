/-! the reference's rankOf -/
def rk (u : Nat → Int) (n : Nat) : Nat → Nat
  | 0 => 0
  | p + 1 => rk u n p * (n - p) + lc u p (n - 1 - p)
def sn (u : Nat → Int) : Nat → Nat
  | 0 => 0
  | p + 1 => sn u p * 2 + (if u p < 0 then 1 else 0)
theorem rk_le {u : Nat → Int} {n : Nat} (hn : n ≤ 6) : ∀ p, rk u n p + 1 ≤ 7 ^ p := fun p => by
  induction p with
  | zero => exact Nat.le_refl _
  | succ p ih =>
    show rk u n p * (n - p) + lc u p (n - 1 - p) + 1 ≤ 7 ^ (p + 1)
    have h1 := Nat.mul_le_mul_left (rk u n p) (show n - p ≤ 6 by omega)
    have h2 := lc_le u p (n - 1 - p)
    rw [Nat.pow_succ]
    omega
theorem sh_i : ∀ n, n < 7 → ((iI (n : Nat) &&& 31).toBitVec.smod 32).toNat = n := by decide +kernel
theorem rk_sh {r n : Nat} (hr : r < 117649) (hn : n ≤ 6) : iI (r : Nat) <<< (iI (n : Nat) &&& 31) = iI ((r * 2 ^ n : Nat) : Int) := by
  have h := pk_shlN (n := r) (iI (n : Nat) &&& 31) n (sh_i n (by omega)) (by
    have : 2 ^ n ≤ 2 ^ 6 := Nat.pow_le_pow_right (by decide) hn
    have h2 := Nat.mul_le_mul (show r ≤ 117649 by omega) this
    omega)
  rw [iI_nI, iI_nI] at h
  exact h
theorem lp_rk1 {G : mm_G} {d bc bs : Nat} {cs : mm_Sh} {I : Nat → Nat → Int32} {J : Nat → Nat → Int64} {F : Nat → Nat → Option Nat} {V : Nat → Nat → Value} {X : mm_X} {n a na : Nat} {u : Nat → Int} (hg : V 39 1 = .int (iI n)) (hn : n ≤ 6) (ha : (wd_S ++ cs)[a]? = some (.inl (0, na))) (hna : n ≤ na ∧ na < 1000000) (hu : ∀ p, p < n → I a p = iI (u p) ∧ -100 ≤ u p ∧ u p ≤ 100) {p x2 x3 : Nat} (hp : p < n) (hx : mW G mt_Mo_rankOf d bc bs 100 [(6, .int (iI (lc u p (n - 1 - p) : Nat))), (4, .int (iI p)), (3, .int (iI (x3 : Nat))), (2, .int (iI (x2 : Nat))), (0, .ref 39), (1, .ref a)] [] (wd_S ++ cs, I, J, F, V) X) :
    ∀ (m t : Nat), n - p - t < m → t ≤ n - 1 - p → mW G mt_Mo_rankOf d bc bs 46 [(7, .int (iI ((p + 1 + t : Nat) : Int))), (6, .int (iI (lc u p t : Nat))), (5, .int (iI (ab (u p)))), (4, .int (iI p)), (3, .int (iI (x3 : Nat))), (2, .int (iI (x2 : Nat))), (0, .ref 39), (1, .ref a)] [] (wd_S ++ cs, I, J, F, V) X := by
  intro m
  induction m with
  | zero => intro t h1 _; exact absurd h1 (Nat.not_lt_zero _)
  | succ m ih =>
    intro t h1 h2
    obtain ⟨u1, u2, u3⟩ := hu p hp
    have b2 := ab_le (m := 100) ⟨u2, u3⟩
    refine mw_iload dc_Mo_rankOf_46 0 rfl ?_
    refine mw_aload_n dc_Mo_rankOf_48 rfl 6 rfl ?_
    refine mi_get (ci := 5) (k := 1) dc_Mo_rankOf_49 rfl wi_Mo rfl rfl (by decide) fl_Mo_7 hg ?_
    refine mi_icmp_ge (tgt := 100) dc_Mo_rankOf_52 (by decide) (iB_mk (by omega) (by omega)) (iB_mk (by omega) (by omega)) (fun hh => ?_) (fun hh => ?_)
    · have e : t = n - 1 - p := by omega
      subst e
      refine mw_pick [1, 3, 4, 5, 6, 7] rfl ?_
      exact hx
    · obtain ⟨q1, q2, q3⟩ := hu (p + 1 + t) (by omega)
      have b1 := ab_le (m := 100) ⟨q2, q3⟩
      refine mw_aload_n dc_Mo_rankOf_55 rfl 7 rfl ?_
      refine mw_iload dc_Mo_rankOf_56 0 rfl ?_
      refine mi_iald dc_Mo_rankOf_58 ha ⟨by omega, by omega, by omega⟩ (v := iI (u (p + 1 + t))) (by rw [Int.toNat_natCast]; exact q1) ?_
      refine mi_if_ge (tgt := 70) dc_Mo_rankOf_59 (by decide) (iB_mk (by omega) (by omega)) (fun h059 => ?_) (fun h059 => ?_)
      · refine mw_aload_n dc_Mo_rankOf_70 rfl 7 rfl ?_
        refine mw_iload dc_Mo_rankOf_71 0 rfl ?_
        refine mi_iald dc_Mo_rankOf_73 ha ⟨by omega, by omega, by omega⟩ (v := iI (u (p + 1 + t))) (by rw [Int.toNat_natCast]; exact q1) ?_
        refine mw_iv (y := iI (ab (u (p + 1 + t)))) (congrArg iI (show _ = ab (u (p + 1 + t)) from (if_pos (show 0 ≤ u (p + 1 + t) by omega)).symm)) ?_
        refine mw_istore dc_Mo_rankOf_74 (by decide) rfl ?_
        refine mw_iload dc_Mo_rankOf_76 0 rfl ?_
        refine mw_iload dc_Mo_rankOf_78 3 rfl ?_
        refine mi_icmp_ge (tgt := 90) dc_Mo_rankOf_80 (by decide) (show iB (ab (u (p + 1 + t))) from ⟨by omega, by omega⟩) (show iB (ab (u p)) from ⟨by omega, by omega⟩) (fun h180 => ?_) (fun h180 => ?_)
        · refine mw_iload dc_Mo_rankOf_90 2 rfl ?_
          refine mw_istore dc_Mo_rankOf_92 (by decide) rfl ?_
          refine mi_iinc dc_Mo_rankOf_94 2 rfl (by decide) rfl ?_
          refine mw_goto (tgt := 46) dc_Mo_rankOf_97 (by decide) ?_
          refine mw_pick [0, 1, 3, 4, 5, 6, 7, 8] rfl ?_
          have e9 : lc u p (t + 1) = lc u p t := if_neg (show ¬ ab (u (p + 1 + t)) < ab (u p) by omega)
          have k2 := ih (t + 1) (by omega) (by omega)
          rw [e9] at k2
          exact k2
        · refine mw_iload dc_Mo_rankOf_83 2 rfl ?_
          refine mi_const dc_Mo_rankOf_85 ?_
          refine mi_iadd dc_Mo_rankOf_86 ?_
          refine mw_goto (tgt := 92) dc_Mo_rankOf_87 (by decide) ?_
          refine mw_istore dc_Mo_rankOf_92 (by decide) rfl ?_
          refine mi_iinc dc_Mo_rankOf_94 2 rfl (by decide) rfl ?_
          refine mw_goto (tgt := 46) dc_Mo_rankOf_97 (by decide) ?_
          refine mw_pick [0, 1, 3, 4, 5, 6, 7, 8] rfl ?_
          have e9 : lc u p (t + 1) = lc u p t + 1 := if_pos (show ab (u (p + 1 + t)) < ab (u p) by omega)
          have k2 := ih (t + 1) (by omega) (by omega)
          rw [e9] at k2
          exact k2
      · refine mw_aload_n dc_Mo_rankOf_62 rfl 7 rfl ?_
        refine mw_iload dc_Mo_rankOf_63 0 rfl ?_
        refine mi_iald dc_Mo_rankOf_65 ha ⟨by omega, by omega, by omega⟩ (v := iI (u (p + 1 + t))) (by rw [Int.toNat_natCast]; exact q1) ?_
        refine mi_ineg dc_Mo_rankOf_66 ?_
        refine mw_goto (tgt := 74) dc_Mo_rankOf_67 (by decide) ?_
        refine mw_iv (y := iI (ab (u (p + 1 + t)))) (congrArg iI (show _ = ab (u (p + 1 + t)) from (if_neg (show ¬ 0 ≤ u (p + 1 + t) by omega)).symm)) ?_
        refine mw_istore dc_Mo_rankOf_74 (by decide) rfl ?_
        refine mw_iload dc_Mo_rankOf_76 0 rfl ?_
        refine mw_iload dc_Mo_rankOf_78 3 rfl ?_
        refine mi_icmp_ge (tgt := 90) dc_Mo_rankOf_80 (by decide) (show iB (ab (u (p + 1 + t))) from ⟨by omega, by omega⟩) (show iB (ab (u p)) from ⟨by omega, by omega⟩) (fun h180 => ?_) (fun h180 => ?_)
        · refine mw_iload dc_Mo_rankOf_90 2 rfl ?_
          refine mw_istore dc_Mo_rankOf_92 (by decide) rfl ?_
          refine mi_iinc dc_Mo_rankOf_94 2 rfl (by decide) rfl ?_
          refine mw_goto (tgt := 46) dc_Mo_rankOf_97 (by decide) ?_
          refine mw_pick [0, 1, 3, 4, 5, 6, 7, 8] rfl ?_
          have e9 : lc u p (t + 1) = lc u p t := if_neg (show ¬ ab (u (p + 1 + t)) < ab (u p) by omega)
          have k2 := ih (t + 1) (by omega) (by omega)
          rw [e9] at k2
          exact k2
        · refine mw_iload dc_Mo_rankOf_83 2 rfl ?_
          refine mi_const dc_Mo_rankOf_85 ?_
          refine mi_iadd dc_Mo_rankOf_86 ?_
          refine mw_goto (tgt := 92) dc_Mo_rankOf_87 (by decide) ?_
          refine mw_istore dc_Mo_rankOf_92 (by decide) rfl ?_
          refine mi_iinc dc_Mo_rankOf_94 2 rfl (by decide) rfl ?_
          refine mw_goto (tgt := 46) dc_Mo_rankOf_97 (by decide) ?_
          refine mw_pick [0, 1, 3, 4, 5, 6, 7, 8] rfl ?_
          have e9 : lc u p (t + 1) = lc u p t + 1 := if_pos (show ab (u (p + 1 + t)) < ab (u p) by omega)
          have k2 := ih (t + 1) (by omega) (by omega)
          rw [e9] at k2
          exact k2
theorem lp_rk2 {G : mm_G} {d bc bs : Nat} {cs : mm_Sh} {I : Nat → Nat → Int32} {J : Nat → Nat → Int64} {F : Nat → Nat → Option Nat} {V : Nat → Nat → Value} {X : mm_X} {n a na : Nat} {u : Nat → Int} (hg : V 39 1 = .int (iI n)) (hn : n ≤ 6) (ha : (wd_S ++ cs)[a]? = some (.inl (0, na))) (hna : n ≤ na ∧ na < 1000000) (hu : ∀ p, p < n → I a p = iI (u p) ∧ -100 ≤ u p ∧ u p ≤ 100) (hx : X (.inl (some (.int (iI ((rk u n n * 2 ^ n + sn u n : Nat) : Int))))) (wd_S ++ cs, I, J, F, V)) :
    ∀ (m p : Nat), n - p < m → p ≤ n → mW G mt_Mo_rankOf d bc bs 7 [(4, .int (iI p)), (3, .int (iI (sn u p : Nat))), (2, .int (iI (rk u n p : Nat))), (0, .ref 39), (1, .ref a)] [] (wd_S ++ cs, I, J, F, V) X := by
  intro m
  induction m with
  | zero => intro p h1 _; exact absurd h1 (Nat.not_lt_zero _)
  | succ m ih =>
    intro p h1 h2
    refine mw_iload dc_Mo_rankOf_7 0 rfl ?_
    refine mw_aload_n dc_Mo_rankOf_9 rfl 3 rfl ?_
    refine mi_get (ci := 5) (k := 1) dc_Mo_rankOf_10 rfl wi_Mo rfl rfl (by decide) fl_Mo_7 hg ?_
    refine mi_icmp_ge (tgt := 136) dc_Mo_rankOf_13 (by decide) (iB_mk (by omega) (by omega)) (iB_mk (by omega) (by omega)) (fun hh => ?_) (fun hh => ?_)
    · have e : p = n := by omega
      subst e
      have hr := rk_le (u := u) hn p
      have h7 : 7 ^ p ≤ 7 ^ 6 := Nat.pow_le_pow_right (by decide) hn
      refine mw_iload_n dc_Mo_rankOf_136 rfl 2 rfl ?_
      refine mw_aload_n dc_Mo_rankOf_137 rfl 3 rfl ?_
      refine mi_get (ci := 5) (k := 1) dc_Mo_rankOf_138 rfl wi_Mo rfl rfl (by decide) fl_Mo_7 hg ?_
      refine mw_ishl dc_Mo_rankOf_141 ?_
      rw [rk_sh (by omega) hn]
      refine mw_iload_n dc_Mo_rankOf_142 rfl 1 rfl ?_
      refine mi_iadd dc_Mo_rankOf_143 ?_
      exact mw_iret dc_Mo_rankOf_144 rfl rfl hx
    · have hp : p < n := by omega
      obtain ⟨u1, u2, u3⟩ := hu p hp
      refine mw_aload_n dc_Mo_rankOf_16 rfl 4 rfl ?_
      refine mw_iload dc_Mo_rankOf_17 0 rfl ?_
      refine mi_iald dc_Mo_rankOf_19 ha ⟨by omega, by omega, by omega⟩ (v := iI (u p)) (by rw [Int.toNat_natCast]; exact u1) ?_
      refine mi_if_ge (tgt := 31) dc_Mo_rankOf_20 (by decide) (iB_mk (by omega) (by omega)) (fun h020 => ?_) (fun h020 => ?_)
      · refine mw_aload_n dc_Mo_rankOf_31 rfl 4 rfl ?_
        refine mw_iload dc_Mo_rankOf_32 0 rfl ?_
        refine mi_iald dc_Mo_rankOf_34 ha ⟨by omega, by omega, by omega⟩ (v := iI (u p)) (by rw [Int.toNat_natCast]; exact u1) ?_
        refine mw_iv (y := iI (ab (u p))) (congrArg iI (show _ = ab (u p) from (if_pos (show 0 ≤ u p by omega)).symm)) ?_
        refine mw_istore dc_Mo_rankOf_35 (by decide) rfl ?_
        refine mi_const dc_Mo_rankOf_37 ?_
        refine mw_istore dc_Mo_rankOf_38 (by decide) rfl ?_
        refine mw_iload dc_Mo_rankOf_40 2 rfl ?_
        refine mi_const dc_Mo_rankOf_42 ?_
        refine mi_iadd dc_Mo_rankOf_43 ?_
        refine mw_istore dc_Mo_rankOf_44 (by decide) rfl ?_
        refine mw_pick [0, 1, 2, 3, 4, 5, 6, 7] rfl ?_
        refine lp_rk1 hg hn ha hna hu hp ?_ (n + 1) 0 (by omega) (by omega)
        refine mw_iload_n dc_Mo_rankOf_100 rfl 3 rfl ?_
        refine mw_aload_n dc_Mo_rankOf_101 rfl 4 rfl ?_
        refine mi_get (ci := 5) (k := 1) dc_Mo_rankOf_102 rfl wi_Mo rfl rfl (by decide) fl_Mo_7 hg ?_
        refine mw_iload dc_Mo_rankOf_105 1 rfl ?_
        refine mi_isub dc_Mo_rankOf_107 ?_
        refine mi_imul dc_Mo_rankOf_108 ?_
        refine mw_iload dc_Mo_rankOf_109 0 rfl ?_
        refine mi_iadd dc_Mo_rankOf_111 ?_
        refine mw_istore_n dc_Mo_rankOf_112 rfl (by decide) rfl ?_
        refine mw_iload_n dc_Mo_rankOf_113 rfl 3 rfl ?_
        refine mi_const dc_Mo_rankOf_114 ?_
        refine mi_imul dc_Mo_rankOf_115 ?_
        refine mw_aload_n dc_Mo_rankOf_116 rfl 5 rfl ?_
        refine mw_iload dc_Mo_rankOf_117 2 rfl ?_
        refine mi_iald dc_Mo_rankOf_119 ha ⟨by omega, by omega, by omega⟩ (v := iI (u p)) (by rw [Int.toNat_natCast]; exact u1) ?_
        refine mi_if_ge (tgt := 127) dc_Mo_rankOf_120 (by decide) (iB_mk (by omega) (by omega)) (fun h0120 => ?_) (fun h0120 => ?_)
        · refine mi_const dc_Mo_rankOf_127 ?_
          refine mi_iadd dc_Mo_rankOf_128 ?_
          refine mw_istore_n dc_Mo_rankOf_129 rfl (by decide) rfl ?_
          refine mi_iinc dc_Mo_rankOf_130 3 rfl (by decide) rfl ?_
          refine mw_goto (tgt := 7) dc_Mo_rankOf_133 (by decide) ?_
          refine mw_pick [0, 1, 2, 4, 5] rfl ?_
          have k2 := ih (p + 1) (by omega) (by omega)
          have e8 : ((sn u (p + 1) : Nat) : Int) = (sn u p : Nat) * 2 + 0 := by rw [show sn u (p + 1) = sn u p * 2 + 0 from congrArg (sn u p * 2 + ·) (if_neg (by omega))]; omega
          have e7 : ((rk u n (p + 1) : Nat) : Int) = (rk u n p : Nat) * ((n : Int) - p) + (lc u p (n - 1 - p) : Nat) := by rw [show rk u n (p + 1) = rk u n p * (n - p) + lc u p (n - 1 - p) from rfl, Int.natCast_add, Int.natCast_mul, Int.ofNat_sub (by omega)]
          rw [e7, e8] at k2
          exact k2
        · refine mi_const dc_Mo_rankOf_123 ?_
          refine mw_goto (tgt := 128) dc_Mo_rankOf_124 (by decide) ?_
          refine mi_iadd dc_Mo_rankOf_128 ?_
          refine mw_istore_n dc_Mo_rankOf_129 rfl (by decide) rfl ?_
          refine mi_iinc dc_Mo_rankOf_130 3 rfl (by decide) rfl ?_
          refine mw_goto (tgt := 7) dc_Mo_rankOf_133 (by decide) ?_
          refine mw_pick [0, 1, 2, 4, 5] rfl ?_
          have k2 := ih (p + 1) (by omega) (by omega)
          have e8 : ((sn u (p + 1) : Nat) : Int) = (sn u p : Nat) * 2 + 1 := by rw [show sn u (p + 1) = sn u p * 2 + 1 from congrArg (sn u p * 2 + ·) (if_pos (by omega))]; omega
          have e7 : ((rk u n (p + 1) : Nat) : Int) = (rk u n p : Nat) * ((n : Int) - p) + (lc u p (n - 1 - p) : Nat) := by rw [show rk u n (p + 1) = rk u n p * (n - p) + lc u p (n - 1 - p) from rfl, Int.natCast_add, Int.natCast_mul, Int.ofNat_sub (by omega)]
          rw [e7, e8] at k2
          exact k2
      · refine mw_aload_n dc_Mo_rankOf_23 rfl 4 rfl ?_
        refine mw_iload dc_Mo_rankOf_24 0 rfl ?_
        refine mi_iald dc_Mo_rankOf_26 ha ⟨by omega, by omega, by omega⟩ (v := iI (u p)) (by rw [Int.toNat_natCast]; exact u1) ?_
        refine mi_ineg dc_Mo_rankOf_27 ?_
        refine mw_goto (tgt := 35) dc_Mo_rankOf_28 (by decide) ?_
        refine mw_iv (y := iI (ab (u p))) (congrArg iI (show _ = ab (u p) from (if_neg (show ¬ 0 ≤ u p by omega)).symm)) ?_
        refine mw_istore dc_Mo_rankOf_35 (by decide) rfl ?_
        refine mi_const dc_Mo_rankOf_37 ?_
        refine mw_istore dc_Mo_rankOf_38 (by decide) rfl ?_
        refine mw_iload dc_Mo_rankOf_40 2 rfl ?_
        refine mi_const dc_Mo_rankOf_42 ?_
        refine mi_iadd dc_Mo_rankOf_43 ?_
        refine mw_istore dc_Mo_rankOf_44 (by decide) rfl ?_
        refine mw_pick [0, 1, 2, 3, 4, 5, 6, 7] rfl ?_
        refine lp_rk1 hg hn ha hna hu hp ?_ (n + 1) 0 (by omega) (by omega)
        refine mw_iload_n dc_Mo_rankOf_100 rfl 3 rfl ?_
        refine mw_aload_n dc_Mo_rankOf_101 rfl 4 rfl ?_
        refine mi_get (ci := 5) (k := 1) dc_Mo_rankOf_102 rfl wi_Mo rfl rfl (by decide) fl_Mo_7 hg ?_
        refine mw_iload dc_Mo_rankOf_105 1 rfl ?_
        refine mi_isub dc_Mo_rankOf_107 ?_
        refine mi_imul dc_Mo_rankOf_108 ?_
        refine mw_iload dc_Mo_rankOf_109 0 rfl ?_
        refine mi_iadd dc_Mo_rankOf_111 ?_
        refine mw_istore_n dc_Mo_rankOf_112 rfl (by decide) rfl ?_
        refine mw_iload_n dc_Mo_rankOf_113 rfl 3 rfl ?_
        refine mi_const dc_Mo_rankOf_114 ?_
        refine mi_imul dc_Mo_rankOf_115 ?_
        refine mw_aload_n dc_Mo_rankOf_116 rfl 5 rfl ?_
        refine mw_iload dc_Mo_rankOf_117 2 rfl ?_
        refine mi_iald dc_Mo_rankOf_119 ha ⟨by omega, by omega, by omega⟩ (v := iI (u p)) (by rw [Int.toNat_natCast]; exact u1) ?_
        refine mi_if_ge (tgt := 127) dc_Mo_rankOf_120 (by decide) (iB_mk (by omega) (by omega)) (fun h0120 => ?_) (fun h0120 => ?_)
        · refine mi_const dc_Mo_rankOf_127 ?_
          refine mi_iadd dc_Mo_rankOf_128 ?_
          refine mw_istore_n dc_Mo_rankOf_129 rfl (by decide) rfl ?_
          refine mi_iinc dc_Mo_rankOf_130 3 rfl (by decide) rfl ?_
          refine mw_goto (tgt := 7) dc_Mo_rankOf_133 (by decide) ?_
          refine mw_pick [0, 1, 2, 4, 5] rfl ?_
          have k2 := ih (p + 1) (by omega) (by omega)
          have e8 : ((sn u (p + 1) : Nat) : Int) = (sn u p : Nat) * 2 + 0 := by rw [show sn u (p + 1) = sn u p * 2 + 0 from congrArg (sn u p * 2 + ·) (if_neg (by omega))]; omega
          have e7 : ((rk u n (p + 1) : Nat) : Int) = (rk u n p : Nat) * ((n : Int) - p) + (lc u p (n - 1 - p) : Nat) := by rw [show rk u n (p + 1) = rk u n p * (n - p) + lc u p (n - 1 - p) from rfl, Int.natCast_add, Int.natCast_mul, Int.ofNat_sub (by omega)]
          rw [e7, e8] at k2
          exact k2
        · refine mi_const dc_Mo_rankOf_123 ?_
          refine mw_goto (tgt := 128) dc_Mo_rankOf_124 (by decide) ?_
          refine mi_iadd dc_Mo_rankOf_128 ?_
          refine mw_istore_n dc_Mo_rankOf_129 rfl (by decide) rfl ?_
          refine mi_iinc dc_Mo_rankOf_130 3 rfl (by decide) rfl ?_
          refine mw_goto (tgt := 7) dc_Mo_rankOf_133 (by decide) ?_
          refine mw_pick [0, 1, 2, 4, 5] rfl ?_
          have k2 := ih (p + 1) (by omega) (by omega)
          have e8 : ((sn u (p + 1) : Nat) : Int) = (sn u p : Nat) * 2 + 1 := by rw [show sn u (p + 1) = sn u p * 2 + 1 from congrArg (sn u p * 2 + ·) (if_pos (by omega))]; omega
          have e7 : ((rk u n (p + 1) : Nat) : Int) = (rk u n p : Nat) * ((n : Int) - p) + (lc u p (n - 1 - p) : Nat) := by rw [show rk u n (p + 1) = rk u n p * (n - p) + lc u p (n - 1 - p) from rfl, Int.natCast_add, Int.natCast_mul, Int.ofNat_sub (by omega)]
          rw [e7, e8] at k2
          exact k2
theorem ev_rankOf {G : mm_G} {d : Nat} {cs : mm_Sh} {I : Nat → Nat → Int32} {J : Nat → Nat → Int64} {F : Nat → Nat → Option Nat} {V : Nat → Nat → Value} {n a na : Nat} {u : Nat → Int} (hg : V 39 1 = .int (iI n)) (hn : n ≤ 6) (ha : (wd_S ++ cs)[a]? = some (.inl (0, na))) (hna : n ≤ na ∧ na < 1000000) (hu : ∀ p, p < n → I a p = iI (u p) ∧ -100 ≤ u p ∧ u p ≤ 100) : mE G mt_Mo_rankOf d 0 0 [.ref 39, .ref a] (wd_S ++ cs, I, J, F, V) (fun o h1 => o = .inl (some (.int (iI ((rk u n n * 2 ^ n + sn u n : Nat) : Int)))) ∧ h1 = (wd_S ++ cs, I, J, F, V)) := by
  refine mE_intro (by decide) (fun k h q => nomatch q.1) (Nat.le_of_ble_eq_true rfl) ?_
  show mW G mt_Mo_rankOf d 0 0 0 [(0, .ref 39), (1, .ref a)] [] (wd_S ++ cs, I, J, F, V) _
  refine mi_const dc_Mo_rankOf_0 ?_
  refine mw_istore_n dc_Mo_rankOf_1 rfl (by decide) rfl ?_
  refine mi_const dc_Mo_rankOf_2 ?_
  refine mw_istore_n dc_Mo_rankOf_3 rfl (by decide) rfl ?_
  refine mi_const dc_Mo_rankOf_4 ?_
  refine mw_istore dc_Mo_rankOf_5 (by decide) rfl ?_
  exact lp_rk2 hg hn ha hna hu ⟨rfl, rfl⟩ (n + 1) 0 (by omega) (by omega)
