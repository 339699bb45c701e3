/-! the tables for six genes, checked -/
theorem cA6_540 : alb (fun x => okA 6 lL6 lT6 (Nat.add 540 x)) 30 = true := by decide +kernel
theorem cB6_540 : alb (fun x => okB 6 lL6 lT6 lN6 lM6 lF6 (Nat.add 540 x)) 30 = true := by decide +kernel
theorem cA6_570 : alb (fun x => okA 6 lL6 lT6 (Nat.add 570 x)) 30 = true := by decide +kernel
theorem cB6_570 : alb (fun x => okB 6 lL6 lT6 lN6 lM6 lF6 (Nat.add 570 x)) 30 = true := by decide +kernel
theorem cA6_600 : alb (fun x => okA 6 lL6 lT6 (Nat.add 600 x)) 30 = true := by decide +kernel
theorem cB6_600 : alb (fun x => okB 6 lL6 lT6 lN6 lM6 lF6 (Nat.add 600 x)) 30 = true := by decide +kernel
theorem cA6_630 : alb (fun x => okA 6 lL6 lT6 (Nat.add 630 x)) 30 = true := by decide +kernel
theorem cB6_630 : alb (fun x => okB 6 lL6 lT6 lN6 lM6 lF6 (Nat.add 630 x)) 30 = true := by decide +kernel
theorem cA6_660 : alb (fun x => okA 6 lL6 lT6 (Nat.add 660 x)) 30 = true := by decide +kernel
theorem cB6_660 : alb (fun x => okB 6 lL6 lT6 lN6 lM6 lF6 (Nat.add 660 x)) 30 = true := by decide +kernel
theorem cA6_690 : alb (fun x => okA 6 lL6 lT6 (Nat.add 690 x)) 30 = true := by decide +kernel
theorem cB6_690 : alb (fun x => okB 6 lL6 lT6 lN6 lM6 lF6 (Nat.add 690 x)) 30 = true := by decide +kernel
