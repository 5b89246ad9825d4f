section MORE
variable {y : MethodName} {cc : ByteArray} {nL : Nat} {rt : Option FieldType} {d mc ms : Nat} {fl : Bool} {Q : QT} {n' n kc ks pc : Nat} {L st : List Value} {ρ : RT} {f : IT} {g : JT}
theorem cmpz_eq {a b : Int} : cmpz a b = 0 ↔ a = b := by unfold cmpz; (repeat' split) <;> omega
theorem cmpz_lt {a b : Int} : cmpz a b < 0 ↔ a < b := by unfold cmpz; (repeat' split) <;> omega
theorem cmpz_ge {a b : Int} : 0 ≤ cmpz a b ↔ b ≤ a := by unfold cmpz; (repeat' split) <;> omega
theorem cmpz_gt {a b : Int} : 0 < cmpz a b ↔ b < a := by unfold cmpz; (repeat' split) <;> omega
theorem cmpz_le {a b : Int} : cmpz a b ≤ 0 ↔ a ≤ b := by unfold cmpz; (repeat' split) <;> omega
theorem cmpz_ri {a b : Int} : ri (cmpz a b) := by unfold cmpz ri; (repeat' split) <;> omega
theorem V_lif_eq {a b : Int} {off : Int} {tgt : Nat} (hd : decode cc pc = .ok (.lcmp, 1)) (hd2 : decode cc (pc + 1) = .ok (.ifCond .eq off, 3)) (hg : ((pc + 1 : Nat) : Int) + off = (tgt : Int)) (ha : rl a) (hb : rl b) (ht : a = b → V y cc nL rt d mc ms fl Q n' n kc ks tgt L st ρ f g) (hf : ¬ (a = b) → V y cc nL rt d mc ms fl Q n' n kc ks (pc + 1 + 3) L st ρ f g) : V y cc nL rt d mc ms fl Q n' n kc ks pc L (.long (lz b) :: .long (lz a) :: st) ρ f g :=
  V_lcmp hd ha hb (V_if_eq hd2 hg cmpz_ri (fun h0 => ht (cmpz_eq.mp h0)) (fun h0 => hf (fun h9 => h0 (cmpz_eq.mpr h9))))
theorem V_lif_ne {a b : Int} {off : Int} {tgt : Nat} (hd : decode cc pc = .ok (.lcmp, 1)) (hd2 : decode cc (pc + 1) = .ok (.ifCond .ne off, 3)) (hg : ((pc + 1 : Nat) : Int) + off = (tgt : Int)) (ha : rl a) (hb : rl b) (ht : ¬ a = b → V y cc nL rt d mc ms fl Q n' n kc ks tgt L st ρ f g) (hf : a = b → V y cc nL rt d mc ms fl Q n' n kc ks (pc + 1 + 3) L st ρ f g) : V y cc nL rt d mc ms fl Q n' n kc ks pc L (.long (lz b) :: .long (lz a) :: st) ρ f g :=
  V_lcmp hd ha hb (V_if_ne hd2 hg cmpz_ri (fun h0 => ht (fun h9 => h0 (cmpz_eq.mpr h9))) (fun h0 => hf (cmpz_eq.mp h0)))
theorem V_lif_lt {a b : Int} {off : Int} {tgt : Nat} (hd : decode cc pc = .ok (.lcmp, 1)) (hd2 : decode cc (pc + 1) = .ok (.ifCond .lt off, 3)) (hg : ((pc + 1 : Nat) : Int) + off = (tgt : Int)) (ha : rl a) (hb : rl b) (ht : a < b → V y cc nL rt d mc ms fl Q n' n kc ks tgt L st ρ f g) (hf : ¬ (a < b) → V y cc nL rt d mc ms fl Q n' n kc ks (pc + 1 + 3) L st ρ f g) : V y cc nL rt d mc ms fl Q n' n kc ks pc L (.long (lz b) :: .long (lz a) :: st) ρ f g :=
  V_lcmp hd ha hb (V_if_lt hd2 hg cmpz_ri (fun h0 => ht (cmpz_lt.mp h0)) (fun h0 => hf (fun h9 => h0 (cmpz_lt.mpr h9))))
theorem V_lif_ge {a b : Int} {off : Int} {tgt : Nat} (hd : decode cc pc = .ok (.lcmp, 1)) (hd2 : decode cc (pc + 1) = .ok (.ifCond .ge off, 3)) (hg : ((pc + 1 : Nat) : Int) + off = (tgt : Int)) (ha : rl a) (hb : rl b) (ht : b ≤ a → V y cc nL rt d mc ms fl Q n' n kc ks tgt L st ρ f g) (hf : ¬ (b ≤ a) → V y cc nL rt d mc ms fl Q n' n kc ks (pc + 1 + 3) L st ρ f g) : V y cc nL rt d mc ms fl Q n' n kc ks pc L (.long (lz b) :: .long (lz a) :: st) ρ f g :=
  V_lcmp hd ha hb (V_if_ge hd2 hg cmpz_ri (fun h0 => ht (cmpz_ge.mp h0)) (fun h0 => hf (fun h9 => h0 (cmpz_ge.mpr h9))))
theorem V_lif_gt {a b : Int} {off : Int} {tgt : Nat} (hd : decode cc pc = .ok (.lcmp, 1)) (hd2 : decode cc (pc + 1) = .ok (.ifCond .gt off, 3)) (hg : ((pc + 1 : Nat) : Int) + off = (tgt : Int)) (ha : rl a) (hb : rl b) (ht : b < a → V y cc nL rt d mc ms fl Q n' n kc ks tgt L st ρ f g) (hf : ¬ (b < a) → V y cc nL rt d mc ms fl Q n' n kc ks (pc + 1 + 3) L st ρ f g) : V y cc nL rt d mc ms fl Q n' n kc ks pc L (.long (lz b) :: .long (lz a) :: st) ρ f g :=
  V_lcmp hd ha hb (V_if_gt hd2 hg cmpz_ri (fun h0 => ht (cmpz_gt.mp h0)) (fun h0 => hf (fun h9 => h0 (cmpz_gt.mpr h9))))
theorem V_lif_le {a b : Int} {off : Int} {tgt : Nat} (hd : decode cc pc = .ok (.lcmp, 1)) (hd2 : decode cc (pc + 1) = .ok (.ifCond .le off, 3)) (hg : ((pc + 1 : Nat) : Int) + off = (tgt : Int)) (ha : rl a) (hb : rl b) (ht : a ≤ b → V y cc nL rt d mc ms fl Q n' n kc ks tgt L st ρ f g) (hf : ¬ (a ≤ b) → V y cc nL rt d mc ms fl Q n' n kc ks (pc + 1 + 3) L st ρ f g) : V y cc nL rt d mc ms fl Q n' n kc ks pc L (.long (lz b) :: .long (lz a) :: st) ρ f g :=
  V_lcmp hd ha hb (V_if_le hd2 hg cmpz_ri (fun h0 => ht (cmpz_le.mp h0)) (fun h0 => hf (fun h9 => h0 (cmpz_le.mpr h9))))
theorem lz_div {a b : Int} (ha0 : 0 ≤ a) (hb0 : 0 < b) (ha : rl a) (hb : rl b) : lz a / lz b = lz (a / b) := by
  apply Int64.toInt_inj.mp
  have h2 : 0 ≤ a / b := Int.ediv_nonneg ha0 (by omega)
  have h3 : a / b ≤ a := Int.ediv_le_self b ha0
  unfold rl at ha hb
  rw [Int64.toInt_div, lz_val ha.1 ha.2, lz_val hb.1 hb.2, lz_val (by omega) (by omega), Int.tdiv_eq_ediv_of_nonneg ha0, Int.bmod_def]
  split <;> omega
theorem iz_div {a b : Int} (ha0 : 0 ≤ a) (hb0 : 0 < b) (ha : ri a) (hb : ri b) : iz a / iz b = iz (a / b) := by
  apply Int32.toInt_inj.mp
  have h2 : 0 ≤ a / b := Int.ediv_nonneg ha0 (by omega)
  have h3 : a / b ≤ a := Int.ediv_le_self b ha0
  unfold ri at ha hb
  rw [Int32.toInt_div, iz_val ha.1 ha.2, iz_val hb.1 hb.2, iz_val (by omega) (by omega), Int.tdiv_eq_ediv_of_nonneg ha0, Int.bmod_def]
  split <;> omega
theorem iz_rem {a b : Int} (ha0 : 0 ≤ a) (hb0 : 0 < b) (ha : ri a) (hb : ri b) : iz a - iz a / iz b * iz b = iz (a % b) := by
  rw [iz_div ha0 hb0 ha hb, iz_mul, iz_sub]
  congr 1
  have := Int.emod_def a b
  rw [Int.mul_comm] at this
  omega
theorem lz_rem {a b : Int} (ha0 : 0 ≤ a) (hb0 : 0 < b) (ha : rl a) (hb : rl b) : lz a - lz a / lz b * lz b = lz (a % b) := by
  rw [lz_div ha0 hb0 ha hb, lz_mul, lz_sub]
  congr 1
  have := Int.emod_def a b
  rw [Int.mul_comm] at this
  omega
/-- a division of longs that may be below 0 -/
theorem lz_tdiv {a b : Int} (hb0 : b ≠ 0) (ha : -1000000000000 ≤ a ∧ a ≤ 1000000000000) (hb : -1000000000000 ≤ b ∧ b ≤ 1000000000000) : lz a / lz b = lz (a.tdiv b) := by
  apply Int64.toInt_inj.mp
  have h2 : (a.tdiv b).natAbs ≤ a.natAbs := by rw [Int.natAbs_tdiv]; exact Nat.div_le_self _ _
  rw [Int64.toInt_div, lz_val (by omega) (by omega), lz_val (by omega) (by omega), lz_val (by omega) (by omega), Int.bmod_def]
  split <;> omega
theorem pq4 {P : Option Value → RT → IT → JT → Prop} {v : Option Value} {R : RT} {F : IT} {G : JT} (h : P v R F G) : ∀ r ρ1 f1 g1, (r = v ∧ ρ1 = R ∧ f1 = F ∧ g1 = G) → P r ρ1 f1 g1 := by
  rintro r ρ1 f1 g1 ⟨rfl, rfl, rfl, rfl⟩
  exact h
end MORE
