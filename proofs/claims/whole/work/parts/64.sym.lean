/-! a told text at base b: 5 or 30 -/
theorem kb_0 {b : Nat} (hb : b = 5 ∨ b = 30) : kd (b) = (7, 0) := by rcases hb with rfl | rfl <;> rfl
theorem kl_0 {b : Nat} (hb : b = 5 ∨ b = 30) : b < NF := by rcases hb with rfl | rfl <;> decide
theorem kb_1 {b : Nat} (hb : b = 5 ∨ b = 30) : kd (b + 1) = (16, 5) := by rcases hb with rfl | rfl <;> rfl
theorem kl_1 {b : Nat} (hb : b = 5 ∨ b = 30) : b + 1 < NF := by rcases hb with rfl | rfl <;> decide
theorem kb_2 {b : Nat} (hb : b = 5 ∨ b = 30) : kd (b + 2) = (3, 0) := by rcases hb with rfl | rfl <;> rfl
theorem kl_2 {b : Nat} (hb : b = 5 ∨ b = 30) : b + 2 < NF := by rcases hb with rfl | rfl <;> decide
theorem kb_3 {b : Nat} (hb : b = 5 ∨ b = 30) : kd (b + 3) = (13, 6) := by rcases hb with rfl | rfl <;> rfl
theorem kl_3 {b : Nat} (hb : b = 5 ∨ b = 30) : b + 3 < NF := by rcases hb with rfl | rfl <;> decide
theorem kb_4 {b : Nat} (hb : b = 5 ∨ b = 30) : kd (b + 4) = (13, 24) := by rcases hb with rfl | rfl <;> rfl
theorem kl_4 {b : Nat} (hb : b = 5 ∨ b = 30) : b + 4 < NF := by rcases hb with rfl | rfl <;> decide
theorem kb_5 {b : Nat} (hb : b = 5 ∨ b = 30) : kd (b + 5) = (3, 0) := by rcases hb with rfl | rfl <;> rfl
theorem kl_5 {b : Nat} (hb : b = 5 ∨ b = 30) : b + 5 < NF := by rcases hb with rfl | rfl <;> decide
theorem kb_6 {b : Nat} (hb : b = 5 ∨ b = 30) : kd (b + 6) = (13, 5) := by rcases hb with rfl | rfl <;> rfl
theorem kl_6 {b : Nat} (hb : b = 5 ∨ b = 30) : b + 6 < NF := by rcases hb with rfl | rfl <;> decide
theorem kb_7 {b : Nat} (hb : b = 5 ∨ b = 30) : kd (b + 7) = (13, 15) := by rcases hb with rfl | rfl <;> rfl
theorem kl_7 {b : Nat} (hb : b = 5 ∨ b = 30) : b + 7 < NF := by rcases hb with rfl | rfl <;> decide
theorem kb_8 {b : Nat} (hb : b = 5 ∨ b = 30) : kd (b + 8) = (3, 0) := by rcases hb with rfl | rfl <;> rfl
theorem kl_8 {b : Nat} (hb : b = 5 ∨ b = 30) : b + 8 < NF := by rcases hb with rfl | rfl <;> decide
theorem kb_9 {b : Nat} (hb : b = 5 ∨ b = 30) : kd (b + 9) = (13, 3) := by rcases hb with rfl | rfl <;> rfl
theorem kl_9 {b : Nat} (hb : b = 5 ∨ b = 30) : b + 9 < NF := by rcases hb with rfl | rfl <;> decide
theorem kb_10 {b : Nat} (hb : b = 5 ∨ b = 30) : kd (b + 10) = (13, 9) := by rcases hb with rfl | rfl <;> rfl
theorem kl_10 {b : Nat} (hb : b = 5 ∨ b = 30) : b + 10 < NF := by rcases hb with rfl | rfl <;> decide
theorem kb_11 {b : Nat} (hb : b = 5 ∨ b = 30) : kd (b + 11) = (3, 0) := by rcases hb with rfl | rfl <;> rfl
theorem kl_11 {b : Nat} (hb : b = 5 ∨ b = 30) : b + 11 < NF := by rcases hb with rfl | rfl <;> decide
theorem kb_12 {b : Nat} (hb : b = 5 ∨ b = 30) : kd (b + 12) = (13, 5) := by rcases hb with rfl | rfl <;> rfl
theorem kl_12 {b : Nat} (hb : b = 5 ∨ b = 30) : b + 12 < NF := by rcases hb with rfl | rfl <;> decide
theorem kb_13 {b : Nat} (hb : b = 5 ∨ b = 30) : kd (b + 13) = (13, 35) := by rcases hb with rfl | rfl <;> rfl
theorem kl_13 {b : Nat} (hb : b = 5 ∨ b = 30) : b + 13 < NF := by rcases hb with rfl | rfl <;> decide
theorem kb_14 {b : Nat} (hb : b = 5 ∨ b = 30) : kd (b + 14) = (3, 0) := by rcases hb with rfl | rfl <;> rfl
theorem kl_14 {b : Nat} (hb : b = 5 ∨ b = 30) : b + 14 < NF := by rcases hb with rfl | rfl <;> decide
theorem kb_15 {b : Nat} (hb : b = 5 ∨ b = 30) : kd (b + 15) = (13, 4) := by rcases hb with rfl | rfl <;> rfl
theorem kl_15 {b : Nat} (hb : b = 5 ∨ b = 30) : b + 15 < NF := by rcases hb with rfl | rfl <;> decide
theorem kb_16 {b : Nat} (hb : b = 5 ∨ b = 30) : kd (b + 16) = (13, 8) := by rcases hb with rfl | rfl <;> rfl
theorem kl_16 {b : Nat} (hb : b = 5 ∨ b = 30) : b + 16 < NF := by rcases hb with rfl | rfl <;> decide
theorem kb_17 {b : Nat} (hb : b = 5 ∨ b = 30) : kd (b + 17) = (1, 0) := by rcases hb with rfl | rfl <;> rfl
theorem kl_17 {b : Nat} (hb : b = 5 ∨ b = 30) : b + 17 < NF := by rcases hb with rfl | rfl <;> decide
theorem kb_18 {b : Nat} (hb : b = 5 ∨ b = 30) : kd (b + 18) = (13, 64) := by rcases hb with rfl | rfl <;> rfl
theorem kl_18 {b : Nat} (hb : b = 5 ∨ b = 30) : b + 18 < NF := by rcases hb with rfl | rfl <;> decide
theorem kb_19 {b : Nat} (hb : b = 5 ∨ b = 30) : kd (b + 19) = (13, 64) := by rcases hb with rfl | rfl <;> rfl
theorem kl_19 {b : Nat} (hb : b = 5 ∨ b = 30) : b + 19 < NF := by rcases hb with rfl | rfl <;> decide
theorem kb_20 {b : Nat} (hb : b = 5 ∨ b = 30) : kd (b + 20) = (13, 8) := by rcases hb with rfl | rfl <;> rfl
theorem kl_20 {b : Nat} (hb : b = 5 ∨ b = 30) : b + 20 < NF := by rcases hb with rfl | rfl <;> decide
theorem kb_21 {b : Nat} (hb : b = 5 ∨ b = 30) : kd (b + 21) = (13, 8) := by rcases hb with rfl | rfl <;> rfl
theorem kl_21 {b : Nat} (hb : b = 5 ∨ b = 30) : b + 21 < NF := by rcases hb with rfl | rfl <;> decide
theorem kb_22 {b : Nat} (hb : b = 5 ∨ b = 30) : kd (b + 22) = (14, 64) := by rcases hb with rfl | rfl <;> rfl
theorem kl_22 {b : Nat} (hb : b = 5 ∨ b = 30) : b + 22 < NF := by rcases hb with rfl | rfl <;> decide
theorem kb_23 {b : Nat} (hb : b = 5 ∨ b = 30) : kd (b + 23) = (14, 8) := by rcases hb with rfl | rfl <;> rfl
theorem kl_23 {b : Nat} (hb : b = 5 ∨ b = 30) : b + 23 < NF := by rcases hb with rfl | rfl <;> decide
theorem kb_24 {b : Nat} (hb : b = 5 ∨ b = 30) : kd (b + 24) = (15, 8) := by rcases hb with rfl | rfl <;> rfl
theorem kl_24 {b : Nat} (hb : b = 5 ∨ b = 30) : b + 24 < NF := by rcases hb with rfl | rfl <;> decide
theorem fb_0_0 {b : Nat} {ρ : RT} (h : Fx ρ) (hb : b = 5 ∨ b = 30) : ρ b 0 = some (b + 1) := by rcases hb with rfl | rfl; exact fx_5_0 h; exact fx_30_0 h
theorem fb_0_1 {b : Nat} {ρ : RT} (h : Fx ρ) (hb : b = 5 ∨ b = 30) : ρ b 1 = some (b + 17) := by rcases hb with rfl | rfl; exact fx_5_1 h; exact fx_30_1 h
theorem fb_1_0 {b : Nat} {ρ : RT} (h : Fx ρ) (hb : b = 5 ∨ b = 30) : ρ (b + 1) 0 = some (b + 2) := by rcases hb with rfl | rfl; exact fx_6_0 h; exact fx_31_0 h
theorem fb_1_1 {b : Nat} {ρ : RT} (h : Fx ρ) (hb : b = 5 ∨ b = 30) : ρ (b + 1) 1 = some (b + 5) := by rcases hb with rfl | rfl; exact fx_6_1 h; exact fx_31_1 h
theorem fb_1_2 {b : Nat} {ρ : RT} (h : Fx ρ) (hb : b = 5 ∨ b = 30) : ρ (b + 1) 2 = some (b + 8) := by rcases hb with rfl | rfl; exact fx_6_2 h; exact fx_31_2 h
theorem fb_1_3 {b : Nat} {ρ : RT} (h : Fx ρ) (hb : b = 5 ∨ b = 30) : ρ (b + 1) 3 = some (b + 11) := by rcases hb with rfl | rfl; exact fx_6_3 h; exact fx_31_3 h
theorem fb_1_4 {b : Nat} {ρ : RT} (h : Fx ρ) (hb : b = 5 ∨ b = 30) : ρ (b + 1) 4 = some (b + 14) := by rcases hb with rfl | rfl; exact fx_6_4 h; exact fx_31_4 h
theorem fb_2_2 {b : Nat} {ρ : RT} (h : Fx ρ) (hb : b = 5 ∨ b = 30) : ρ (b + 2) 2 = some (b + 3) := by rcases hb with rfl | rfl; exact fx_7_2 h; exact fx_32_2 h
theorem fb_2_3 {b : Nat} {ρ : RT} (h : Fx ρ) (hb : b = 5 ∨ b = 30) : ρ (b + 2) 3 = some (b + 4) := by rcases hb with rfl | rfl; exact fx_7_3 h; exact fx_32_3 h
theorem fb_5_2 {b : Nat} {ρ : RT} (h : Fx ρ) (hb : b = 5 ∨ b = 30) : ρ (b + 5) 2 = some (b + 6) := by rcases hb with rfl | rfl; exact fx_10_2 h; exact fx_35_2 h
theorem fb_5_3 {b : Nat} {ρ : RT} (h : Fx ρ) (hb : b = 5 ∨ b = 30) : ρ (b + 5) 3 = some (b + 7) := by rcases hb with rfl | rfl; exact fx_10_3 h; exact fx_35_3 h
theorem fb_8_2 {b : Nat} {ρ : RT} (h : Fx ρ) (hb : b = 5 ∨ b = 30) : ρ (b + 8) 2 = some (b + 9) := by rcases hb with rfl | rfl; exact fx_13_2 h; exact fx_38_2 h
theorem fb_8_3 {b : Nat} {ρ : RT} (h : Fx ρ) (hb : b = 5 ∨ b = 30) : ρ (b + 8) 3 = some (b + 10) := by rcases hb with rfl | rfl; exact fx_13_3 h; exact fx_38_3 h
theorem fb_11_2 {b : Nat} {ρ : RT} (h : Fx ρ) (hb : b = 5 ∨ b = 30) : ρ (b + 11) 2 = some (b + 12) := by rcases hb with rfl | rfl; exact fx_16_2 h; exact fx_41_2 h
theorem fb_11_3 {b : Nat} {ρ : RT} (h : Fx ρ) (hb : b = 5 ∨ b = 30) : ρ (b + 11) 3 = some (b + 13) := by rcases hb with rfl | rfl; exact fx_16_3 h; exact fx_41_3 h
theorem fb_14_2 {b : Nat} {ρ : RT} (h : Fx ρ) (hb : b = 5 ∨ b = 30) : ρ (b + 14) 2 = some (b + 15) := by rcases hb with rfl | rfl; exact fx_19_2 h; exact fx_44_2 h
theorem fb_14_3 {b : Nat} {ρ : RT} (h : Fx ρ) (hb : b = 5 ∨ b = 30) : ρ (b + 14) 3 = some (b + 16) := by rcases hb with rfl | rfl; exact fx_19_3 h; exact fx_44_3 h
theorem fb_17_0 {b : Nat} {ρ : RT} (h : Fx ρ) (hb : b = 5 ∨ b = 30) : ρ (b + 17) 0 = some (b + 18) := by rcases hb with rfl | rfl; exact fx_22_0 h; exact fx_47_0 h
theorem fb_17_1 {b : Nat} {ρ : RT} (h : Fx ρ) (hb : b = 5 ∨ b = 30) : ρ (b + 17) 1 = some (b + 19) := by rcases hb with rfl | rfl; exact fx_22_1 h; exact fx_47_1 h
theorem fb_17_3 {b : Nat} {ρ : RT} (h : Fx ρ) (hb : b = 5 ∨ b = 30) : ρ (b + 17) 3 = some (b + 20) := by rcases hb with rfl | rfl; exact fx_22_3 h; exact fx_47_3 h
theorem fb_17_4 {b : Nat} {ρ : RT} (h : Fx ρ) (hb : b = 5 ∨ b = 30) : ρ (b + 17) 4 = some (b + 21) := by rcases hb with rfl | rfl; exact fx_22_4 h; exact fx_47_4 h
theorem fb_17_5 {b : Nat} {ρ : RT} (h : Fx ρ) (hb : b = 5 ∨ b = 30) : ρ (b + 17) 5 = some (b + 22) := by rcases hb with rfl | rfl; exact fx_22_5 h; exact fx_47_5 h
theorem fb_17_6 {b : Nat} {ρ : RT} (h : Fx ρ) (hb : b = 5 ∨ b = 30) : ρ (b + 17) 6 = some (b + 23) := by rcases hb with rfl | rfl; exact fx_22_6 h; exact fx_47_6 h
theorem fb_17_7 {b : Nat} {ρ : RT} (h : Fx ρ) (hb : b = 5 ∨ b = 30) : ρ (b + 17) 7 = some (b + 24) := by rcases hb with rfl | rfl; exact fx_22_7 h; exact fx_47_7 h

