/-! the tables for six genes, checked -/
theorem cA6_0 : alb (fun x => okA 6 lL6 lT6 (Nat.add 0 x)) 30 = true := by decide +kernel
theorem cB6_0 : alb (fun x => okB 6 lL6 lT6 lN6 lM6 lF6 (Nat.add 0 x)) 30 = true := by decide +kernel
theorem cA6_30 : alb (fun x => okA 6 lL6 lT6 (Nat.add 30 x)) 30 = true := by decide +kernel
theorem cB6_30 : alb (fun x => okB 6 lL6 lT6 lN6 lM6 lF6 (Nat.add 30 x)) 30 = true := by decide +kernel
theorem cA6_60 : alb (fun x => okA 6 lL6 lT6 (Nat.add 60 x)) 30 = true := by decide +kernel
theorem cB6_60 : alb (fun x => okB 6 lL6 lT6 lN6 lM6 lF6 (Nat.add 60 x)) 30 = true := by decide +kernel
theorem cA6_90 : alb (fun x => okA 6 lL6 lT6 (Nat.add 90 x)) 30 = true := by decide +kernel
theorem cB6_90 : alb (fun x => okB 6 lL6 lT6 lN6 lM6 lF6 (Nat.add 90 x)) 30 = true := by decide +kernel
theorem cA6_120 : alb (fun x => okA 6 lL6 lT6 (Nat.add 120 x)) 30 = true := by decide +kernel
theorem cB6_120 : alb (fun x => okB 6 lL6 lT6 lN6 lM6 lF6 (Nat.add 120 x)) 30 = true := by decide +kernel
theorem cA6_150 : alb (fun x => okA 6 lL6 lT6 (Nat.add 150 x)) 30 = true := by decide +kernel
theorem cB6_150 : alb (fun x => okB 6 lL6 lT6 lN6 lM6 lF6 (Nat.add 150 x)) 30 = true := by decide +kernel
