/-! one to four genes: the chart's rows, checked -/
noncomputable def okZ (n x : Nat) : Bool := cond (alb (fun p => cond (Nat.ble 1 (zr n x p).natAbs) (cond (Nat.ble (zr n x p).natAbs n) (Nat.beq (pq (zr n x) (zr n x p).natAbs n) p) false) false) n) (alb (fun g => cond (Nat.ble (Nat.succ (pq (zr n x) (Nat.succ g) n)) n) (Nat.beq (zr n x (pq (zr n x) (Nat.succ g) n)).natAbs (Nat.succ g)) false) n) false
noncomputable def okX (n k : Nat) : Bool := cond (decide (0 ≤ ix_f (ur n k) n n)) (fo (ixN n (ur n k)) fun x => cond (Nat.ble (Nat.succ x) (oc_f n)) (alb (fun p => decide (zr n x p = ur n k p)) n) false) false
def okO (n x : Nat) : Bool := lxl (zr n x) (zr n (x + 1)) n 0
theorem cZ1 : alb (okZ 1) 2 = true := by decide +kernel
theorem cX1 : alb (okX 1) 2 = true := by decide +kernel
theorem cO1 : alb (okO 1) 1 = true := by decide +kernel
theorem cZ2 : alb (okZ 2) 8 = true := by decide +kernel
theorem cX2 : alb (okX 2) 8 = true := by decide +kernel
theorem cO2 : alb (okO 2) 7 = true := by decide +kernel
theorem cZ3 : alb (okZ 3) 48 = true := by decide +kernel
theorem cX3 : alb (okX 3) 48 = true := by decide +kernel
theorem cO3 : alb (okO 3) 47 = true := by decide +kernel
theorem cZ4 : alb (okZ 4) 384 = true := by decide +kernel
theorem cX4 : alb (okX 4) 384 = true := by decide +kernel
theorem cO4 : alb (okO 4) 383 = true := by decide +kernel
def XK (n : Nat) : Prop := (∀ x, x < oc_f n → okZ n x = true) ∧ (∀ k, k < oc_f n → okX n k = true) ∧ ∀ x, x < oc_f n - 1 → okO n x = true
theorem XK_k : ∀ n, 1 ≤ n → n ≤ 4 → XK n := fun n h1 h2 => by
  by_cases c1 : n = 1
  · subst c1; exact ⟨alb_k _ cZ1, alb_k _ cX1, alb_k _ cO1⟩
  by_cases c2 : n = 2
  · subst c2; exact ⟨alb_k _ cZ2, alb_k _ cX2, alb_k _ cO2⟩
  by_cases c3 : n = 3
  · subst c3; exact ⟨alb_k _ cZ3, alb_k _ cX3, alb_k _ cO3⟩
  have c4 : n = 4 := by omega
  subst c4
  exact ⟨alb_k _ cZ4, alb_k _ cX4, alb_k _ cO4⟩
