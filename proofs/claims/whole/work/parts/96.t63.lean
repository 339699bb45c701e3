/-! the tables for six genes, checked -/
theorem cA6_360 : alb (fun x => okA 6 lL6 lT6 (Nat.add 360 x)) 30 = true := by decide +kernel
theorem cB6_360 : alb (fun x => okB 6 lL6 lT6 lN6 lM6 lF6 (Nat.add 360 x)) 30 = true := by decide +kernel
theorem cA6_390 : alb (fun x => okA 6 lL6 lT6 (Nat.add 390 x)) 30 = true := by decide +kernel
theorem cB6_390 : alb (fun x => okB 6 lL6 lT6 lN6 lM6 lF6 (Nat.add 390 x)) 30 = true := by decide +kernel
theorem cA6_420 : alb (fun x => okA 6 lL6 lT6 (Nat.add 420 x)) 30 = true := by decide +kernel
theorem cB6_420 : alb (fun x => okB 6 lL6 lT6 lN6 lM6 lF6 (Nat.add 420 x)) 30 = true := by decide +kernel
theorem cA6_450 : alb (fun x => okA 6 lL6 lT6 (Nat.add 450 x)) 30 = true := by decide +kernel
theorem cB6_450 : alb (fun x => okB 6 lL6 lT6 lN6 lM6 lF6 (Nat.add 450 x)) 30 = true := by decide +kernel
theorem cA6_480 : alb (fun x => okA 6 lL6 lT6 (Nat.add 480 x)) 30 = true := by decide +kernel
theorem cB6_480 : alb (fun x => okB 6 lL6 lT6 lN6 lM6 lF6 (Nat.add 480 x)) 30 = true := by decide +kernel
theorem cA6_510 : alb (fun x => okA 6 lL6 lT6 (Nat.add 510 x)) 30 = true := by decide +kernel
theorem cB6_510 : alb (fun x => okB 6 lL6 lT6 lN6 lM6 lF6 (Nat.add 510 x)) 30 = true := by decide +kernel
