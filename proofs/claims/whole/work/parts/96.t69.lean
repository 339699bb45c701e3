/-! the tables for six genes: all checks -/
theorem ch_k {F : Nat → Bool} {lo c : Nat} (h : alb (fun x => F (Nat.add lo x)) c = true) {R : Nat} (h1 : lo ≤ R) (h2 : R < lo + c) : F R = true := by
  have q := alb_k _ h (R - lo) (by omega)
  have e : Nat.add lo (R - lo) = R := by show lo + (R - lo) = R; omega
  have q2 : F (Nat.add lo (R - lo)) = true := q
  rw [e] at q2
  exact q2
theorem cA6 : ∀ R, R < 720 → okA 6 lL6 lT6 R = true := fun R h => by
  by_cases h0 : R < 30
  · exact ch_k (F := fun R => okA 6 lL6 lT6 R) cA6_0 (by omega) h0
  by_cases h30 : R < 60
  · exact ch_k (F := fun R => okA 6 lL6 lT6 R) cA6_30 (by omega) h30
  by_cases h60 : R < 90
  · exact ch_k (F := fun R => okA 6 lL6 lT6 R) cA6_60 (by omega) h60
  by_cases h90 : R < 120
  · exact ch_k (F := fun R => okA 6 lL6 lT6 R) cA6_90 (by omega) h90
  by_cases h120 : R < 150
  · exact ch_k (F := fun R => okA 6 lL6 lT6 R) cA6_120 (by omega) h120
  by_cases h150 : R < 180
  · exact ch_k (F := fun R => okA 6 lL6 lT6 R) cA6_150 (by omega) h150
  by_cases h180 : R < 210
  · exact ch_k (F := fun R => okA 6 lL6 lT6 R) cA6_180 (by omega) h180
  by_cases h210 : R < 240
  · exact ch_k (F := fun R => okA 6 lL6 lT6 R) cA6_210 (by omega) h210
  by_cases h240 : R < 270
  · exact ch_k (F := fun R => okA 6 lL6 lT6 R) cA6_240 (by omega) h240
  by_cases h270 : R < 300
  · exact ch_k (F := fun R => okA 6 lL6 lT6 R) cA6_270 (by omega) h270
  by_cases h300 : R < 330
  · exact ch_k (F := fun R => okA 6 lL6 lT6 R) cA6_300 (by omega) h300
  by_cases h330 : R < 360
  · exact ch_k (F := fun R => okA 6 lL6 lT6 R) cA6_330 (by omega) h330
  by_cases h360 : R < 390
  · exact ch_k (F := fun R => okA 6 lL6 lT6 R) cA6_360 (by omega) h360
  by_cases h390 : R < 420
  · exact ch_k (F := fun R => okA 6 lL6 lT6 R) cA6_390 (by omega) h390
  by_cases h420 : R < 450
  · exact ch_k (F := fun R => okA 6 lL6 lT6 R) cA6_420 (by omega) h420
  by_cases h450 : R < 480
  · exact ch_k (F := fun R => okA 6 lL6 lT6 R) cA6_450 (by omega) h450
  by_cases h480 : R < 510
  · exact ch_k (F := fun R => okA 6 lL6 lT6 R) cA6_480 (by omega) h480
  by_cases h510 : R < 540
  · exact ch_k (F := fun R => okA 6 lL6 lT6 R) cA6_510 (by omega) h510
  by_cases h540 : R < 570
  · exact ch_k (F := fun R => okA 6 lL6 lT6 R) cA6_540 (by omega) h540
  by_cases h570 : R < 600
  · exact ch_k (F := fun R => okA 6 lL6 lT6 R) cA6_570 (by omega) h570
  by_cases h600 : R < 630
  · exact ch_k (F := fun R => okA 6 lL6 lT6 R) cA6_600 (by omega) h600
  by_cases h630 : R < 660
  · exact ch_k (F := fun R => okA 6 lL6 lT6 R) cA6_630 (by omega) h630
  by_cases h660 : R < 690
  · exact ch_k (F := fun R => okA 6 lL6 lT6 R) cA6_660 (by omega) h660
  exact ch_k (F := fun R => okA 6 lL6 lT6 R) cA6_690 (by omega) (by omega)
theorem cB6 : ∀ R, R < 720 → okB 6 lL6 lT6 lN6 lM6 lF6 R = true := fun R h => by
  by_cases h0 : R < 30
  · exact ch_k (F := fun R => okB 6 lL6 lT6 lN6 lM6 lF6 R) cB6_0 (by omega) h0
  by_cases h30 : R < 60
  · exact ch_k (F := fun R => okB 6 lL6 lT6 lN6 lM6 lF6 R) cB6_30 (by omega) h30
  by_cases h60 : R < 90
  · exact ch_k (F := fun R => okB 6 lL6 lT6 lN6 lM6 lF6 R) cB6_60 (by omega) h60
  by_cases h90 : R < 120
  · exact ch_k (F := fun R => okB 6 lL6 lT6 lN6 lM6 lF6 R) cB6_90 (by omega) h90
  by_cases h120 : R < 150
  · exact ch_k (F := fun R => okB 6 lL6 lT6 lN6 lM6 lF6 R) cB6_120 (by omega) h120
  by_cases h150 : R < 180
  · exact ch_k (F := fun R => okB 6 lL6 lT6 lN6 lM6 lF6 R) cB6_150 (by omega) h150
  by_cases h180 : R < 210
  · exact ch_k (F := fun R => okB 6 lL6 lT6 lN6 lM6 lF6 R) cB6_180 (by omega) h180
  by_cases h210 : R < 240
  · exact ch_k (F := fun R => okB 6 lL6 lT6 lN6 lM6 lF6 R) cB6_210 (by omega) h210
  by_cases h240 : R < 270
  · exact ch_k (F := fun R => okB 6 lL6 lT6 lN6 lM6 lF6 R) cB6_240 (by omega) h240
  by_cases h270 : R < 300
  · exact ch_k (F := fun R => okB 6 lL6 lT6 lN6 lM6 lF6 R) cB6_270 (by omega) h270
  by_cases h300 : R < 330
  · exact ch_k (F := fun R => okB 6 lL6 lT6 lN6 lM6 lF6 R) cB6_300 (by omega) h300
  by_cases h330 : R < 360
  · exact ch_k (F := fun R => okB 6 lL6 lT6 lN6 lM6 lF6 R) cB6_330 (by omega) h330
  by_cases h360 : R < 390
  · exact ch_k (F := fun R => okB 6 lL6 lT6 lN6 lM6 lF6 R) cB6_360 (by omega) h360
  by_cases h390 : R < 420
  · exact ch_k (F := fun R => okB 6 lL6 lT6 lN6 lM6 lF6 R) cB6_390 (by omega) h390
  by_cases h420 : R < 450
  · exact ch_k (F := fun R => okB 6 lL6 lT6 lN6 lM6 lF6 R) cB6_420 (by omega) h420
  by_cases h450 : R < 480
  · exact ch_k (F := fun R => okB 6 lL6 lT6 lN6 lM6 lF6 R) cB6_450 (by omega) h450
  by_cases h480 : R < 510
  · exact ch_k (F := fun R => okB 6 lL6 lT6 lN6 lM6 lF6 R) cB6_480 (by omega) h480
  by_cases h510 : R < 540
  · exact ch_k (F := fun R => okB 6 lL6 lT6 lN6 lM6 lF6 R) cB6_510 (by omega) h510
  by_cases h540 : R < 570
  · exact ch_k (F := fun R => okB 6 lL6 lT6 lN6 lM6 lF6 R) cB6_540 (by omega) h540
  by_cases h570 : R < 600
  · exact ch_k (F := fun R => okB 6 lL6 lT6 lN6 lM6 lF6 R) cB6_570 (by omega) h570
  by_cases h600 : R < 630
  · exact ch_k (F := fun R => okB 6 lL6 lT6 lN6 lM6 lF6 R) cB6_600 (by omega) h600
  by_cases h630 : R < 660
  · exact ch_k (F := fun R => okB 6 lL6 lT6 lN6 lM6 lF6 R) cB6_630 (by omega) h630
  by_cases h660 : R < 690
  · exact ch_k (F := fun R => okB 6 lL6 lT6 lN6 lM6 lF6 R) cB6_660 (by omega) h660
  exact ch_k (F := fun R => okB 6 lL6 lT6 lN6 lM6 lF6 R) cB6_690 (by omega) (by omega)
theorem TK6 : TK 6 lL6 lT6 lN6 lM6 lF6 := ⟨alb_k _ cL6, cE6, ⟨cD6, cS6⟩, cA6, cB6⟩
