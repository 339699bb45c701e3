/-! the tables for six genes, checked -/
theorem cA6_180 : alb (fun x => okA 6 lL6 lT6 (Nat.add 180 x)) 30 = true := by decide +kernel
theorem cB6_180 : alb (fun x => okB 6 lL6 lT6 lN6 lM6 lF6 (Nat.add 180 x)) 30 = true := by decide +kernel
theorem cA6_210 : alb (fun x => okA 6 lL6 lT6 (Nat.add 210 x)) 30 = true := by decide +kernel
theorem cB6_210 : alb (fun x => okB 6 lL6 lT6 lN6 lM6 lF6 (Nat.add 210 x)) 30 = true := by decide +kernel
theorem cA6_240 : alb (fun x => okA 6 lL6 lT6 (Nat.add 240 x)) 30 = true := by decide +kernel
theorem cB6_240 : alb (fun x => okB 6 lL6 lT6 lN6 lM6 lF6 (Nat.add 240 x)) 30 = true := by decide +kernel
theorem cA6_270 : alb (fun x => okA 6 lL6 lT6 (Nat.add 270 x)) 30 = true := by decide +kernel
theorem cB6_270 : alb (fun x => okB 6 lL6 lT6 lN6 lM6 lF6 (Nat.add 270 x)) 30 = true := by decide +kernel
theorem cA6_300 : alb (fun x => okA 6 lL6 lT6 (Nat.add 300 x)) 30 = true := by decide +kernel
theorem cB6_300 : alb (fun x => okB 6 lL6 lT6 lN6 lM6 lF6 (Nat.add 300 x)) 30 = true := by decide +kernel
theorem cA6_330 : alb (fun x => okA 6 lL6 lT6 (Nat.add 330 x)) 30 = true := by decide +kernel
theorem cB6_330 : alb (fun x => okB 6 lL6 lT6 lN6 lM6 lF6 (Nat.add 330 x)) 30 = true := by decide +kernel
