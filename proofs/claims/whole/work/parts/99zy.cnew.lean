/-! the opening: constructors, where nothing lies yet -/
section NEWZ
variable {y : MethodName} {cc : ByteArray} {nL : Nat} {rt : Option FieldType} {d mc ms : Nat} {fl : Bool} {Q : QT} {n' n kc ks pc : Nat} {L st : List Value} {ρ : RT} {f : IT} {g : JT}
def Zr (n : Nat) (ρ : RT) (f : IT) (g : JT) : Prop := ∀ a k, n ≤ a → a < 1000 → ρ a k = none ∧ f a k = 0 ∧ g a k = 0
theorem Zr.mono {m n : Nat} (h : Zr m ρ f g) (hm : m ≤ n) : Zr n ρ f g := fun a k z1 z2 => h a k (by omega) z2
theorem Zr.ur {n a k : Nat} {v : Option Nat} (ha : a < n) (h : Zr n ρ f g) : Zr n (u2 ρ a k v) f g := fun b j z1 z2 => ⟨by rw [u2_o (by omega)]; exact (h b j z1 z2).1, (h b j z1 z2).2⟩
theorem Zr.ui {n a k : Nat} {v : Int} (ha : a < n) (h : Zr n ρ f g) : Zr n ρ (u2 f a k v) g := fun b j z1 z2 => ⟨(h b j z1 z2).1, by rw [u2_o (by omega)]; exact (h b j z1 z2).2.1, (h b j z1 z2).2.2⟩
theorem Zr.ug {n a k : Nat} {v : Int} (ha : a < n) (h : Zr n ρ f g) : Zr n ρ f (u2 g a k v) := fun b j z1 z2 => ⟨(h b j z1 z2).1, (h b j z1 z2).2.1, by rw [u2_o (by omega)]; exact (h b j z1 z2).2.2⟩
theorem Zr.now {n : Nat} (h : Zr n ρ f g) (hn : n < NF) : u1 ρ n none = ρ ∧ u1 f n 0 = f ∧ u1 g n 0 = g := by
  have hn2 : n < 1000 := Nat.lt_trans hn (by decide)
  refine ⟨?_, ?_, ?_⟩ <;> (funext a k; unfold u1; split)
  · rename_i e; rw [e]; exact (h n k (Nat.le_refl _) hn2).1.symm
  · rfl
  · rename_i e; rw [e]; exact (h n k (Nat.le_refl _) hn2).2.1.symm
  · rfl
  · rename_i e; rw [e]; exact (h n k (Nat.le_refl _) hn2).2.2.symm
  · rfl
theorem V_newZ {idx c : Nat} (hk : kd n = (c, 0)) (hc : c < 13) (hn : n < NF) (hcl : Cond.classLink y.cls idx (cR c) ∈ tblG) (hins : Cond.instantiable (cR c) (cN c) ∈ tblG) (hini : Cond.initialized (cR c) ∈ tblG) (hmc : kc + 1 ≤ mc) (hms : ks + cN c ≤ ms) (hd : decode cc pc = .ok (.new idx, 3)) (hz : Zr n ρ f g)
    (h : V y cc nL rt d mc ms fl Q n' (n + 1) (kc + 1) (ks + cN c) (pc + 3) L (.ref n :: st) ρ f g) : V y cc nL rt d mc ms fl Q n' n kc ks pc L st ρ f g := by
  obtain ⟨e1, e2, e3⟩ := hz.now hn
  exact V_new hk hc hn hcl hins hini hmc hms hd (by rw [e1, e2, e3]; exact h)
theorem V_newarrZ {N c : Nat} {aty : ArrayType} {ty : FieldType} {e : Int} (hk : kd n = (c, N)) (hcase : (c = 13 ∧ aty = .int) ∨ (c = 14 ∧ aty = .long) ∨ (c = 15 ∧ aty = .boolean)) (hn : n < NF) (harr : Cond.arrayClass (newarray.typeOf aty) ∈ tblG) (he : e = (N : Int)) (hN : N ≤ 60000000) (hmc : kc + 1 ≤ mc) (hms : ks + N ≤ ms) (hd : decode cc pc = .ok (.newarray aty, 2)) (hz : Zr n ρ f g)
    (h : V y cc nL rt d mc ms fl Q n' (n + 1) (kc + 1) (ks + N) (pc + 2) L (.ref n :: st) ρ f g) : V y cc nL rt d mc ms fl Q n' n kc ks pc L (.int (iz e) :: st) ρ f g := by
  obtain ⟨e1, e2, e3⟩ := hz.now hn
  exact V_newarr (ty := ty) hk hcase hn harr he hN hmc hms hd (by rw [e1, e2, e3]; exact h)
theorem V_anewZ {N c c2 idx : Nat} {e : Int} (hk : kd n = (c, N)) (hcase : (c = 16 ∧ c2 = 3) ∨ (c = 17 ∧ c2 = 10)) (hn : n < NF) (hcl2 : Cond.classLink y.cls idx (cR c2) ∈ tblG) (he : e = (N : Int)) (hN : N ≤ 60000000) (hmc : kc + 1 ≤ mc) (hms : ks + N ≤ ms) (hd : decode cc pc = .ok (.anewarray idx, 3)) (hz : Zr n ρ f g)
    (h : V y cc nL rt d mc ms fl Q n' (n + 1) (kc + 1) (ks + N) (pc + 3) L (.ref n :: st) ρ f g) : V y cc nL rt d mc ms fl Q n' n kc ks pc L (.int (iz e) :: st) ρ f g := by
  obtain ⟨e1, e2, e3⟩ := hz.now hn
  exact V_anew hk hcase hn hcl2 he hN hmc hms hd (by rw [e1, e2, e3]; exact h)
end NEWZ
section OPEN1
variable {ρ : RT} {f : IT} {g : JT}
def wkI (q : Nat) (f : IT) : IT := u2 (u2 (u2 (u2 (u2 (u2 (u2 (u2 (u2 (u2 (u2 (u2 (u2 (u2 (f) q 0 0) q 1 0) q 2 0) q 3 0) q 4 0) q 5 0) q 6 0) q 7 0) q 8 0) q 9 0) q 10 0) q 11 0) q 12 0) q 13 0
def wkG (q : Nat) (g : JT) : JT := u2 (g) q 14 0
theorem wk_zr {q n : Nat} (hq : q < n) (h : Zr n ρ f g) : Zr n ρ (wkI q f) (wkG q g) := by
  unfold wkI wkG
  exact Zr.ug hq (Zr.ui hq (Zr.ui hq (Zr.ui hq (Zr.ui hq (Zr.ui hq (Zr.ui hq (Zr.ui hq (Zr.ui hq (Zr.ui hq (Zr.ui hq (Zr.ui hq (Zr.ui hq (Zr.ui hq (Zr.ui hq (h)))))))))))))))
theorem cn_walk {q n : Nat} (hk : kd q = (10, 0)) (hq : q < n) (hZ : Zr n ρ f g) : Ct yX10_init cX10_init 1 none 1 0 0 n n [.ref q] ρ f g (fun r ρ' f' g' => r = none ∧ ρ' = ρ ∧ f' = wkI q f ∧ g' = wkG q g ∧ Zr n ρ' f' g') := by
  refine Ct.ofV (by decide) rfl (Nat.le_of_ble_eq_true rfl) ?_
  refine V_al0n dX10_init_0 ?_
  refine V_objInit mo_X10_3 io_obj co_obj (by decide) (Nat.le_of_ble_eq_true rfl) dX10_init_1 ?_
  refine V_al0n dX10_init_4 ?_
  refine V_iconst dX10_init_5 ?_
  refine V_putZ hk hq fl_X10_9 rfl (by first | exact Or.inl rfl | exact Or.inr rfl | (unfold bz; split <;> simp)) dX10_init_6 ?_
  refine V_al0n dX10_init_9 ?_
  refine V_iconst dX10_init_10 ?_
  refine V_putI hk hq fl_X10_15 rfl dX10_init_11 ?_
  refine V_al0n dX10_init_14 ?_
  refine V_iconst dX10_init_15 ?_
  refine V_putI hk hq fl_X10_19 rfl dX10_init_16 ?_
  refine V_al0n dX10_init_19 ?_
  refine V_iconst dX10_init_20 ?_
  refine V_putI hk hq fl_X10_22 rfl dX10_init_21 ?_
  refine V_al0n dX10_init_24 ?_
  refine V_iconst dX10_init_25 ?_
  refine V_putI hk hq fl_X10_25 rfl dX10_init_26 ?_
  refine V_al0n dX10_init_29 ?_
  refine V_iconst dX10_init_30 ?_
  refine V_putI hk hq fl_X10_28 rfl dX10_init_31 ?_
  refine V_al0n dX10_init_34 ?_
  refine V_iconst dX10_init_35 ?_
  refine V_putI hk hq fl_X10_31 rfl dX10_init_36 ?_
  refine V_al0n dX10_init_39 ?_
  refine V_iconst dX10_init_40 ?_
  refine V_putI hk hq fl_X10_34 rfl dX10_init_41 ?_
  refine V_al0n dX10_init_44 ?_
  refine V_iconst dX10_init_45 ?_
  refine V_putI hk hq fl_X10_37 rfl dX10_init_46 ?_
  refine V_al0n dX10_init_49 ?_
  refine V_iconst dX10_init_50 ?_
  refine V_putI hk hq fl_X10_40 rfl dX10_init_51 ?_
  refine V_al0n dX10_init_54 ?_
  refine V_iconst dX10_init_55 ?_
  refine V_putI hk hq fl_X10_43 rfl dX10_init_56 ?_
  refine V_al0n dX10_init_59 ?_
  refine V_iconst dX10_init_60 ?_
  refine V_putI hk hq fl_X10_46 rfl dX10_init_61 ?_
  refine V_al0n dX10_init_64 ?_
  refine V_iconst dX10_init_65 ?_
  refine V_putI hk hq fl_X10_49 rfl dX10_init_66 ?_
  refine V_al0n dX10_init_69 ?_
  refine V_iconst dX10_init_70 ?_
  refine V_putI hk hq fl_X10_52 rfl dX10_init_71 ?_
  refine V_al0n dX10_init_74 ?_
  refine V_lconst (a := 0) dX10_init_75 rfl ?_
  refine V_putJ hk hq fl_X10_55 rfl dX10_init_76 ?_
  exact V_return rfl ⟨rfl, rfl, rfl, rfl, wk_zr hq hZ⟩ dX10_init_79
def nR_4 (ρ : RT) : RT := u2 (ρ) 4 0 (some 1)
def nI_4 (f : IT) : IT := u2 (u2 (u2 (u2 (u2 (u2 (f) 4 1 0) 4 2 0) 4 3 20) 4 4 0) 4 5 0) 4 6 (-1)
def nG_4 (g : JT) : JT := g
theorem cn_4 (hZ : Zr 5 ρ f g) : Ct yX6_init cX6_init 2 none 1 0 0 5 5 [.ref 4, .ref 1] ρ f g (fun r ρ' f' g' => r = none ∧ ρ' = nR_4 ρ ∧ f' = nI_4 f ∧ g' = nG_4 g ∧ Zr 5 ρ' f' g') := by
  refine Ct.ofV (by decide) rfl (Nat.le_of_ble_eq_true rfl) ?_
  refine V_al0n dX6_init_0 ?_
  refine V_objInit mo_X6_3 io_obj co_obj (by decide) (Nat.le_of_ble_eq_true rfl) dX6_init_1 ?_
  refine V_al0n dX6_init_4 ?_
  refine V_iconst dX6_init_5 ?_
  refine V_putI kk4 (by decide) fl_X6_9 rfl dX6_init_6 ?_
  refine V_al0n dX6_init_9 ?_
  refine V_iconst dX6_init_10 ?_
  refine V_putI kk4 (by decide) fl_X6_15 rfl dX6_init_11 ?_
  refine V_al0n dX6_init_14 ?_
  refine V_bipush dX6_init_15 rfl ?_
  refine V_putI kk4 (by decide) fl_X6_18 rfl dX6_init_17 ?_
  refine V_al0n dX6_init_20 ?_
  refine V_iconst dX6_init_21 ?_
  refine V_putI kk4 (by decide) fl_X6_21 rfl dX6_init_22 ?_
  refine V_al0n dX6_init_25 ?_
  refine V_iconst dX6_init_26 ?_
  refine V_putI kk4 (by decide) fl_X6_24 rfl dX6_init_27 ?_
  refine V_al0n dX6_init_30 ?_
  refine V_iconst dX6_init_31 ?_
  refine V_putI kk4 (by decide) fl_X6_27 rfl dX6_init_32 ?_
  refine V_al0n dX6_init_35 ?_
  refine V_al1n dX6_init_36 ?_
  refine V_putFR kk4 (by decide) fl_X6_30 rfl (by decide) dX6_init_37 ?_
  exact V_return rfl ⟨rfl, rfl, rfl, rfl, (Zr.ui (by first | decide | omega) (Zr.ui (by first | decide | omega) (Zr.ui (by first | decide | omega) (Zr.ui (by first | decide | omega) (Zr.ui (by first | decide | omega) (Zr.ui (by first | decide | omega) (Zr.ur (by first | decide | omega) (Zr.mono hZ (by first | decide | omega)))))))))⟩ dX6_init_40
def nR_2 (ρ : RT) : RT := u2 (nR_4 (u2 (ρ) 2 1 (some 3))) 2 0 (some 4)
def nI_2 (f : IT) : IT := nI_4 (u2 (u2 (u2 (u2 (u2 (u2 (f) 2 2 0) 2 3 0) 2 4 1) 2 5 1) 2 6 0) 2 7 (-1))
def nG_2 (g : JT) : JT := nG_4 (g)
theorem cn_2 (hZ : Zr 3 ρ f g) : Ct yX2_init cX2_init 2 none 2 2 79 3 5 [.ref 2, .ref 1] ρ f g (fun r ρ' f' g' => r = none ∧ ρ' = nR_2 ρ ∧ f' = nI_2 f ∧ g' = nG_2 g ∧ Zr 5 ρ' f' g') := by
  refine Ct.ofV (by decide) rfl (Nat.le_of_ble_eq_true rfl) ?_
  refine V_al0n dX2_init_0 ?_
  refine V_objInit mo_X2_3 io_obj co_obj (by decide) (Nat.le_of_ble_eq_true rfl) dX2_init_1 ?_
  refine V_al0n dX2_init_4 ?_
  refine V_bipush dX2_init_5 rfl ?_
  refine V_newarrZ (ty := .int) kk3 (by decide) (by decide) ac_int rfl (by decide) (by decide) (by decide) dX2_init_7 (Zr.mono hZ (by first | decide | omega)) ?_
  refine V_putFR kk2 (by decide) fl_X2_13 rfl (by decide) dX2_init_9 ?_
  refine V_al0n dX2_init_12 ?_
  refine V_iconst dX2_init_13 ?_
  refine V_putI kk2 (by decide) fl_X2_17 rfl dX2_init_14 ?_
  refine V_al0n dX2_init_17 ?_
  refine V_iconst dX2_init_18 ?_
  refine V_putI kk2 (by decide) fl_X2_21 rfl dX2_init_19 ?_
  refine V_al0n dX2_init_22 ?_
  refine V_iconst dX2_init_23 ?_
  refine V_putZ kk2 (by decide) fl_X2_24 rfl (by first | exact Or.inl rfl | exact Or.inr rfl | (unfold bz; split <;> simp)) dX2_init_24 ?_
  refine V_al0n dX2_init_27 ?_
  refine V_iconst dX2_init_28 ?_
  refine V_putZ kk2 (by decide) fl_X2_28 rfl (by first | exact Or.inl rfl | exact Or.inr rfl | (unfold bz; split <;> simp)) dX2_init_29 ?_
  refine V_al0n dX2_init_32 ?_
  refine V_iconst dX2_init_33 ?_
  refine V_putI kk2 (by decide) fl_X2_31 rfl dX2_init_34 ?_
  refine V_al0n dX2_init_37 ?_
  refine V_iconst dX2_init_38 ?_
  refine V_putI kk2 (by decide) fl_X2_34 rfl dX2_init_39 ?_
  refine V_al0n dX2_init_42 ?_
  refine V_newZ kk4 (by decide) (by decide) cl_X2_37 it_6 in_6 (by first | decide | omega) (by first | decide | omega) dX2_init_43 (Zr.ui (by first | decide | omega) (Zr.ui (by first | decide | omega) (Zr.ui (by first | decide | omega) (Zr.ui (by first | decide | omega) (Zr.ui (by first | decide | omega) (Zr.ui (by first | decide | omega) (Zr.ur (by first | decide | omega) (Zr.mono hZ (by first | decide | omega))))))))) ?_
  refine V_dup dX2_init_46 rfl ?_
  refine V_al1n dX2_init_47 ?_
  refine V_callI (as := [_]) ml_X2_39 im_X6_init rfl dX2_init_48 rfl rfl (by decide) (by decide) (Nat.le_of_ble_eq_true rfl) (by decide) (by decide) rfl (cn_4 (Zr.ui (by first | decide | omega) (Zr.ui (by first | decide | omega) (Zr.ui (by first | decide | omega) (Zr.ui (by first | decide | omega) (Zr.ui (by first | decide | omega) (Zr.ui (by first | decide | omega) (Zr.ur (by first | decide | omega) (Zr.mono hZ (by first | decide | omega)))))))))) ?_
  rintro r48 ρ48 f48 g48 ⟨rfl, rfl, rfl, rfl, z48⟩
  refine V_putFR kk2 (by decide) fl_X2_42 rfl (by decide) dX2_init_51 ?_
  exact V_return rfl ⟨rfl, rfl, rfl, rfl, (Zr.ur (by first | decide | omega) (Zr.mono z48 (by first | decide | omega)))⟩ dX2_init_54
def nR_7 (ρ : RT) : RT := u2 (u2 (ρ) 7 2 (some 8)) 7 3 (some 9)
def nI_7 (f : IT) : IT := u2 (u2 (u2 (f) 7 4 0) 7 0 6) 7 1 4
def nG_7 (g : JT) : JT := g
theorem cn_7 (hZ : Zr 8 ρ f g) : Ct yX3_init cX3_init 3 none 1 2 30 8 10 [.ref 7, .int (iz 6), .int (iz 4)] ρ f g (fun r ρ' f' g' => r = none ∧ ρ' = nR_7 ρ ∧ f' = nI_7 f ∧ g' = nG_7 g ∧ Zr 10 ρ' f' g') := by
  refine Ct.ofV (by decide) rfl (Nat.le_of_ble_eq_true rfl) ?_
  refine V_al0n dX3_init_0 ?_
  refine V_objInit mo_X3_3 io_obj co_obj (by decide) (Nat.le_of_ble_eq_true rfl) dX3_init_1 ?_
  refine V_al0n dX3_init_4 ?_
  refine V_iconst dX3_init_5 ?_
  refine V_putI kk7 (by decide) fl_X3_9 rfl dX3_init_6 ?_
  refine V_al0n dX3_init_9 ?_
  refine V_il1n dX3_init_10 ?_
  refine V_putFI kk7 (by decide) fl_X3_15 rfl (by decide) dX3_init_11 ?_
  refine V_al0n dX3_init_14 ?_
  refine V_il2n dX3_init_15 ?_
  refine V_putFI kk7 (by decide) fl_X3_18 rfl (by decide) dX3_init_16 ?_
  refine V_al0n dX3_init_19 ?_
  refine V_il1n dX3_init_20 ?_
  refine V_newarrZ (ty := .int) kk8 (by decide) (by decide) ac_int rfl (by decide) (by decide) (by decide) dX3_init_21 (Zr.ui (by first | decide | omega) (Zr.ui (by first | decide | omega) (Zr.ui (by first | decide | omega) (Zr.mono hZ (by first | decide | omega))))) ?_
  refine V_putFR kk7 (by decide) fl_X3_21 rfl (by decide) dX3_init_23 ?_
  refine V_al0n dX3_init_26 ?_
  refine V_il1n dX3_init_27 ?_
  refine V_il2n dX3_init_28 ?_
  refine V_imul dX3_init_29 ?_
  refine V_newarrZ (ty := .int) kk9 (by decide) (by decide) ac_int rfl (by decide) (by decide) (by decide) dX3_init_30 (Zr.ui (by first | decide | omega) (Zr.ui (by first | decide | omega) (Zr.ui (by first | decide | omega) (Zr.ur (by first | decide | omega) (Zr.mono hZ (by first | decide | omega)))))) ?_
  refine V_putFR kk7 (by decide) fl_X3_25 rfl (by decide) dX3_init_32 ?_
  exact V_return rfl ⟨rfl, rfl, rfl, rfl, (Zr.ui (by first | decide | omega) (Zr.ui (by first | decide | omega) (Zr.ui (by first | decide | omega) (Zr.ur (by first | decide | omega) (Zr.ur (by first | decide | omega) (Zr.mono hZ (by first | decide | omega)))))))⟩ dX3_init_35
def nR_10 (ρ : RT) : RT := u2 (u2 (ρ) 10 2 (some 11)) 10 3 (some 12)
def nI_10 (f : IT) : IT := u2 (u2 (u2 (f) 10 4 0) 10 0 5) 10 1 3
def nG_10 (g : JT) : JT := g
theorem cn_10 (hZ : Zr 11 ρ f g) : Ct yX3_init cX3_init 3 none 1 2 20 11 13 [.ref 10, .int (iz 5), .int (iz 3)] ρ f g (fun r ρ' f' g' => r = none ∧ ρ' = nR_10 ρ ∧ f' = nI_10 f ∧ g' = nG_10 g ∧ Zr 13 ρ' f' g') := by
  refine Ct.ofV (by decide) rfl (Nat.le_of_ble_eq_true rfl) ?_
  refine V_al0n dX3_init_0 ?_
  refine V_objInit mo_X3_3 io_obj co_obj (by decide) (Nat.le_of_ble_eq_true rfl) dX3_init_1 ?_
  refine V_al0n dX3_init_4 ?_
  refine V_iconst dX3_init_5 ?_
  refine V_putI kk10 (by decide) fl_X3_9 rfl dX3_init_6 ?_
  refine V_al0n dX3_init_9 ?_
  refine V_il1n dX3_init_10 ?_
  refine V_putFI kk10 (by decide) fl_X3_15 rfl (by decide) dX3_init_11 ?_
  refine V_al0n dX3_init_14 ?_
  refine V_il2n dX3_init_15 ?_
  refine V_putFI kk10 (by decide) fl_X3_18 rfl (by decide) dX3_init_16 ?_
  refine V_al0n dX3_init_19 ?_
  refine V_il1n dX3_init_20 ?_
  refine V_newarrZ (ty := .int) kk11 (by decide) (by decide) ac_int rfl (by decide) (by decide) (by decide) dX3_init_21 (Zr.ui (by first | decide | omega) (Zr.ui (by first | decide | omega) (Zr.ui (by first | decide | omega) (Zr.mono hZ (by first | decide | omega))))) ?_
  refine V_putFR kk10 (by decide) fl_X3_21 rfl (by decide) dX3_init_23 ?_
  refine V_al0n dX3_init_26 ?_
  refine V_il1n dX3_init_27 ?_
  refine V_il2n dX3_init_28 ?_
  refine V_imul dX3_init_29 ?_
  refine V_newarrZ (ty := .int) kk12 (by decide) (by decide) ac_int rfl (by decide) (by decide) (by decide) dX3_init_30 (Zr.ui (by first | decide | omega) (Zr.ui (by first | decide | omega) (Zr.ui (by first | decide | omega) (Zr.ur (by first | decide | omega) (Zr.mono hZ (by first | decide | omega)))))) ?_
  refine V_putFR kk10 (by decide) fl_X3_25 rfl (by decide) dX3_init_32 ?_
  exact V_return rfl ⟨rfl, rfl, rfl, rfl, (Zr.ui (by first | decide | omega) (Zr.ui (by first | decide | omega) (Zr.ui (by first | decide | omega) (Zr.ur (by first | decide | omega) (Zr.ur (by first | decide | omega) (Zr.mono hZ (by first | decide | omega)))))))⟩ dX3_init_35
def nR_13 (ρ : RT) : RT := u2 (u2 (ρ) 13 2 (some 14)) 13 3 (some 15)
def nI_13 (f : IT) : IT := u2 (u2 (u2 (f) 13 4 0) 13 0 3) 13 1 3
def nG_13 (g : JT) : JT := g
theorem cn_13 (hZ : Zr 14 ρ f g) : Ct yX3_init cX3_init 3 none 1 2 12 14 16 [.ref 13, .int (iz 3), .int (iz 3)] ρ f g (fun r ρ' f' g' => r = none ∧ ρ' = nR_13 ρ ∧ f' = nI_13 f ∧ g' = nG_13 g ∧ Zr 16 ρ' f' g') := by
  refine Ct.ofV (by decide) rfl (Nat.le_of_ble_eq_true rfl) ?_
  refine V_al0n dX3_init_0 ?_
  refine V_objInit mo_X3_3 io_obj co_obj (by decide) (Nat.le_of_ble_eq_true rfl) dX3_init_1 ?_
  refine V_al0n dX3_init_4 ?_
  refine V_iconst dX3_init_5 ?_
  refine V_putI kk13 (by decide) fl_X3_9 rfl dX3_init_6 ?_
  refine V_al0n dX3_init_9 ?_
  refine V_il1n dX3_init_10 ?_
  refine V_putFI kk13 (by decide) fl_X3_15 rfl (by decide) dX3_init_11 ?_
  refine V_al0n dX3_init_14 ?_
  refine V_il2n dX3_init_15 ?_
  refine V_putFI kk13 (by decide) fl_X3_18 rfl (by decide) dX3_init_16 ?_
  refine V_al0n dX3_init_19 ?_
  refine V_il1n dX3_init_20 ?_
  refine V_newarrZ (ty := .int) kk14 (by decide) (by decide) ac_int rfl (by decide) (by decide) (by decide) dX3_init_21 (Zr.ui (by first | decide | omega) (Zr.ui (by first | decide | omega) (Zr.ui (by first | decide | omega) (Zr.mono hZ (by first | decide | omega))))) ?_
  refine V_putFR kk13 (by decide) fl_X3_21 rfl (by decide) dX3_init_23 ?_
  refine V_al0n dX3_init_26 ?_
  refine V_il1n dX3_init_27 ?_
  refine V_il2n dX3_init_28 ?_
  refine V_imul dX3_init_29 ?_
  refine V_newarrZ (ty := .int) kk15 (by decide) (by decide) ac_int rfl (by decide) (by decide) (by decide) dX3_init_30 (Zr.ui (by first | decide | omega) (Zr.ui (by first | decide | omega) (Zr.ui (by first | decide | omega) (Zr.ur (by first | decide | omega) (Zr.mono hZ (by first | decide | omega)))))) ?_
  refine V_putFR kk13 (by decide) fl_X3_25 rfl (by decide) dX3_init_32 ?_
  exact V_return rfl ⟨rfl, rfl, rfl, rfl, (Zr.ui (by first | decide | omega) (Zr.ui (by first | decide | omega) (Zr.ui (by first | decide | omega) (Zr.ur (by first | decide | omega) (Zr.ur (by first | decide | omega) (Zr.mono hZ (by first | decide | omega)))))))⟩ dX3_init_35
def nR_16 (ρ : RT) : RT := u2 (u2 (ρ) 16 2 (some 17)) 16 3 (some 18)
def nI_16 (f : IT) : IT := u2 (u2 (u2 (f) 16 4 0) 16 0 5) 16 1 7
def nG_16 (g : JT) : JT := g
theorem cn_16 (hZ : Zr 17 ρ f g) : Ct yX3_init cX3_init 3 none 1 2 40 17 19 [.ref 16, .int (iz 5), .int (iz 7)] ρ f g (fun r ρ' f' g' => r = none ∧ ρ' = nR_16 ρ ∧ f' = nI_16 f ∧ g' = nG_16 g ∧ Zr 19 ρ' f' g') := by
  refine Ct.ofV (by decide) rfl (Nat.le_of_ble_eq_true rfl) ?_
  refine V_al0n dX3_init_0 ?_
  refine V_objInit mo_X3_3 io_obj co_obj (by decide) (Nat.le_of_ble_eq_true rfl) dX3_init_1 ?_
  refine V_al0n dX3_init_4 ?_
  refine V_iconst dX3_init_5 ?_
  refine V_putI kk16 (by decide) fl_X3_9 rfl dX3_init_6 ?_
  refine V_al0n dX3_init_9 ?_
  refine V_il1n dX3_init_10 ?_
  refine V_putFI kk16 (by decide) fl_X3_15 rfl (by decide) dX3_init_11 ?_
  refine V_al0n dX3_init_14 ?_
  refine V_il2n dX3_init_15 ?_
  refine V_putFI kk16 (by decide) fl_X3_18 rfl (by decide) dX3_init_16 ?_
  refine V_al0n dX3_init_19 ?_
  refine V_il1n dX3_init_20 ?_
  refine V_newarrZ (ty := .int) kk17 (by decide) (by decide) ac_int rfl (by decide) (by decide) (by decide) dX3_init_21 (Zr.ui (by first | decide | omega) (Zr.ui (by first | decide | omega) (Zr.ui (by first | decide | omega) (Zr.mono hZ (by first | decide | omega))))) ?_
  refine V_putFR kk16 (by decide) fl_X3_21 rfl (by decide) dX3_init_23 ?_
  refine V_al0n dX3_init_26 ?_
  refine V_il1n dX3_init_27 ?_
  refine V_il2n dX3_init_28 ?_
  refine V_imul dX3_init_29 ?_
  refine V_newarrZ (ty := .int) kk18 (by decide) (by decide) ac_int rfl (by decide) (by decide) (by decide) dX3_init_30 (Zr.ui (by first | decide | omega) (Zr.ui (by first | decide | omega) (Zr.ui (by first | decide | omega) (Zr.ur (by first | decide | omega) (Zr.mono hZ (by first | decide | omega)))))) ?_
  refine V_putFR kk16 (by decide) fl_X3_25 rfl (by decide) dX3_init_32 ?_
  exact V_return rfl ⟨rfl, rfl, rfl, rfl, (Zr.ui (by first | decide | omega) (Zr.ui (by first | decide | omega) (Zr.ui (by first | decide | omega) (Zr.ur (by first | decide | omega) (Zr.ur (by first | decide | omega) (Zr.mono hZ (by first | decide | omega)))))))⟩ dX3_init_35
def nR_19 (ρ : RT) : RT := u2 (u2 (ρ) 19 2 (some 20)) 19 3 (some 21)
def nI_19 (f : IT) : IT := u2 (u2 (u2 (f) 19 4 0) 19 0 4) 19 1 2
def nG_19 (g : JT) : JT := g
theorem cn_19 (hZ : Zr 20 ρ f g) : Ct yX3_init cX3_init 3 none 1 2 12 20 22 [.ref 19, .int (iz 4), .int (iz 2)] ρ f g (fun r ρ' f' g' => r = none ∧ ρ' = nR_19 ρ ∧ f' = nI_19 f ∧ g' = nG_19 g ∧ Zr 22 ρ' f' g') := by
  refine Ct.ofV (by decide) rfl (Nat.le_of_ble_eq_true rfl) ?_
  refine V_al0n dX3_init_0 ?_
  refine V_objInit mo_X3_3 io_obj co_obj (by decide) (Nat.le_of_ble_eq_true rfl) dX3_init_1 ?_
  refine V_al0n dX3_init_4 ?_
  refine V_iconst dX3_init_5 ?_
  refine V_putI kk19 (by decide) fl_X3_9 rfl dX3_init_6 ?_
  refine V_al0n dX3_init_9 ?_
  refine V_il1n dX3_init_10 ?_
  refine V_putFI kk19 (by decide) fl_X3_15 rfl (by decide) dX3_init_11 ?_
  refine V_al0n dX3_init_14 ?_
  refine V_il2n dX3_init_15 ?_
  refine V_putFI kk19 (by decide) fl_X3_18 rfl (by decide) dX3_init_16 ?_
  refine V_al0n dX3_init_19 ?_
  refine V_il1n dX3_init_20 ?_
  refine V_newarrZ (ty := .int) kk20 (by decide) (by decide) ac_int rfl (by decide) (by decide) (by decide) dX3_init_21 (Zr.ui (by first | decide | omega) (Zr.ui (by first | decide | omega) (Zr.ui (by first | decide | omega) (Zr.mono hZ (by first | decide | omega))))) ?_
  refine V_putFR kk19 (by decide) fl_X3_21 rfl (by decide) dX3_init_23 ?_
  refine V_al0n dX3_init_26 ?_
  refine V_il1n dX3_init_27 ?_
  refine V_il2n dX3_init_28 ?_
  refine V_imul dX3_init_29 ?_
  refine V_newarrZ (ty := .int) kk21 (by decide) (by decide) ac_int rfl (by decide) (by decide) (by decide) dX3_init_30 (Zr.ui (by first | decide | omega) (Zr.ui (by first | decide | omega) (Zr.ui (by first | decide | omega) (Zr.ur (by first | decide | omega) (Zr.mono hZ (by first | decide | omega)))))) ?_
  refine V_putFR kk19 (by decide) fl_X3_25 rfl (by decide) dX3_init_32 ?_
  exact V_return rfl ⟨rfl, rfl, rfl, rfl, (Zr.ui (by first | decide | omega) (Zr.ui (by first | decide | omega) (Zr.ui (by first | decide | omega) (Zr.ur (by first | decide | omega) (Zr.ur (by first | decide | omega) (Zr.mono hZ (by first | decide | omega)))))))⟩ dX3_init_35
def nR_22 (ρ : RT) : RT := u2 (u2 (u2 (u2 (u2 (u2 (u2 (ρ) 22 0 (some 23)) 22 1 (some 24)) 22 3 (some 25)) 22 4 (some 26)) 22 5 (some 27)) 22 6 (some 28)) 22 7 (some 29)
def nI_22 (f : IT) : IT := u2 (u2 (f) 22 2 0) 22 8 0
def nG_22 (g : JT) : JT := g
theorem cn_22 (hZ : Zr 23 ρ f g) : Ct yX1_init cX1_init 1 none 1 7 224 23 30 [.ref 22] ρ f g (fun r ρ' f' g' => r = none ∧ ρ' = nR_22 ρ ∧ f' = nI_22 f ∧ g' = nG_22 g ∧ Zr 30 ρ' f' g') := by
  refine Ct.ofV (by decide) rfl (Nat.le_of_ble_eq_true rfl) ?_
  refine V_al0n dX1_init_0 ?_
  refine V_objInit mo_X1_3 io_obj co_obj (by decide) (Nat.le_of_ble_eq_true rfl) dX1_init_1 ?_
  refine V_al0n dX1_init_4 ?_
  refine V_bipush dX1_init_5 rfl ?_
  refine V_newarrZ (ty := .int) kk23 (by decide) (by decide) ac_int rfl (by decide) (by decide) (by decide) dX1_init_7 (Zr.mono hZ (by first | decide | omega)) ?_
  refine V_putFR kk22 (by decide) fl_X1_11 rfl (by decide) dX1_init_9 ?_
  refine V_al0n dX1_init_12 ?_
  refine V_bipush dX1_init_13 rfl ?_
  refine V_newarrZ (ty := .int) kk24 (by decide) (by decide) ac_int rfl (by decide) (by decide) (by decide) dX1_init_15 (Zr.ur (by first | decide | omega) (Zr.mono hZ (by first | decide | omega))) ?_
  refine V_putFR kk22 (by decide) fl_X1_15 rfl (by decide) dX1_init_17 ?_
  refine V_al0n dX1_init_20 ?_
  refine V_iconst dX1_init_21 ?_
  refine V_putI kk22 (by decide) fl_X1_18 rfl dX1_init_22 ?_
  refine V_al0n dX1_init_25 ?_
  refine V_bipush dX1_init_26 rfl ?_
  refine V_newarrZ (ty := .int) kk25 (by decide) (by decide) ac_int rfl (by decide) (by decide) (by decide) dX1_init_28 (Zr.ui (by first | decide | omega) (Zr.ur (by first | decide | omega) (Zr.ur (by first | decide | omega) (Zr.mono hZ (by first | decide | omega))))) ?_
  refine V_putFR kk22 (by decide) fl_X1_22 rfl (by decide) dX1_init_30 ?_
  refine V_al0n dX1_init_33 ?_
  refine V_bipush dX1_init_34 rfl ?_
  refine V_newarrZ (ty := .int) kk26 (by decide) (by decide) ac_int rfl (by decide) (by decide) (by decide) dX1_init_36 (Zr.ui (by first | decide | omega) (Zr.ur (by first | decide | omega) (Zr.ur (by first | decide | omega) (Zr.ur (by first | decide | omega) (Zr.mono hZ (by first | decide | omega)))))) ?_
  refine V_putFR kk22 (by decide) fl_X1_25 rfl (by decide) dX1_init_38 ?_
  refine V_al0n dX1_init_41 ?_
  refine V_bipush dX1_init_42 rfl ?_
  refine V_newarrZ (ty := .int) kk27 (by decide) (by decide) ac_long rfl (by decide) (by decide) (by decide) dX1_init_44 (Zr.ui (by first | decide | omega) (Zr.ur (by first | decide | omega) (Zr.ur (by first | decide | omega) (Zr.ur (by first | decide | omega) (Zr.ur (by first | decide | omega) (Zr.mono hZ (by first | decide | omega))))))) ?_
  refine V_putFR kk22 (by decide) fl_X1_28 rfl (by decide) dX1_init_46 ?_
  refine V_al0n dX1_init_49 ?_
  refine V_bipush dX1_init_50 rfl ?_
  refine V_newarrZ (ty := .int) kk28 (by decide) (by decide) ac_long rfl (by decide) (by decide) (by decide) dX1_init_52 (Zr.ui (by first | decide | omega) (Zr.ur (by first | decide | omega) (Zr.ur (by first | decide | omega) (Zr.ur (by first | decide | omega) (Zr.ur (by first | decide | omega) (Zr.ur (by first | decide | omega) (Zr.mono hZ (by first | decide | omega)))))))) ?_
  refine V_putFR kk22 (by decide) fl_X1_32 rfl (by decide) dX1_init_54 ?_
  refine V_al0n dX1_init_57 ?_
  refine V_bipush dX1_init_58 rfl ?_
  refine V_newarrZ (ty := .int) kk29 (by decide) (by decide) ac_boolean rfl (by decide) (by decide) (by decide) dX1_init_60 (Zr.ui (by first | decide | omega) (Zr.ur (by first | decide | omega) (Zr.ur (by first | decide | omega) (Zr.ur (by first | decide | omega) (Zr.ur (by first | decide | omega) (Zr.ur (by first | decide | omega) (Zr.ur (by first | decide | omega) (Zr.mono hZ (by first | decide | omega))))))))) ?_
  refine V_putFR kk22 (by decide) fl_X1_35 rfl (by decide) dX1_init_62 ?_
  refine V_al0n dX1_init_65 ?_
  refine V_iconst dX1_init_66 ?_
  refine V_putI kk22 (by decide) fl_X1_39 rfl dX1_init_67 ?_
  exact V_return rfl ⟨rfl, rfl, rfl, rfl, (Zr.ui (by first | decide | omega) (Zr.ui (by first | decide | omega) (Zr.ur (by first | decide | omega) (Zr.ur (by first | decide | omega) (Zr.ur (by first | decide | omega) (Zr.ur (by first | decide | omega) (Zr.ur (by first | decide | omega) (Zr.ur (by first | decide | omega) (Zr.ur (by first | decide | omega) (Zr.mono hZ (by first | decide | omega)))))))))))⟩ dX1_init_70
def nR_5 (ρ : RT) : RT := u2 (nR_22 (u2 (u2 (nR_19 (u2 (nR_16 (u2 (nR_13 (u2 (nR_10 (u2 (nR_7 (ρ)) 6 0 (some 7))) 6 1 (some 10))) 6 2 (some 13))) 6 3 (some 16))) 6 4 (some 19)) 5 0 (some 6))) 5 1 (some 22)
def nI_5 (f : IT) : IT := u2 (u2 (u2 (nI_22 (nI_19 (nI_16 (nI_13 (nI_10 (nI_7 (f))))))) 5 2 (-1)) 5 3 (-1)) 5 4 0
def nG_5 (g : JT) : JT := nG_22 (nG_19 (nG_16 (nG_13 (nG_10 (nG_7 (g))))))
theorem cn_5 (hZ : Zr 6 ρ f g) : Ct yX7_init cX7_init 1 none 2 24 377 6 30 [.ref 5] ρ f g (fun r ρ' f' g' => r = none ∧ ρ' = nR_5 ρ ∧ f' = nI_5 f ∧ g' = nG_5 g ∧ Zr 30 ρ' f' g') := by
  refine Ct.ofV (by decide) rfl (Nat.le_of_ble_eq_true rfl) ?_
  refine V_al0n dX7_init_0 ?_
  refine V_objInit mo_X7_3 io_obj co_obj (by decide) (Nat.le_of_ble_eq_true rfl) dX7_init_1 ?_
  refine V_al0n dX7_init_4 ?_
  refine V_iconst dX7_init_5 ?_
  refine V_anewZ (c2 := 3) kk6 (by decide) (by decide) cl_X7_9 rfl (by decide) (by decide) (by decide) dX7_init_6 (Zr.mono hZ (by first | decide | omega)) ?_
  refine V_dup dX7_init_9 rfl ?_
  refine V_iconst dX7_init_10 ?_
  refine V_newZ kk7 (by decide) (by decide) cl_X7_9 it_3 in_3 (by first | decide | omega) (by first | decide | omega) dX7_init_11 (Zr.mono hZ (by first | decide | omega)) ?_
  refine V_dup dX7_init_14 rfl ?_
  refine V_bipush dX7_init_15 rfl ?_
  refine V_iconst dX7_init_17 ?_
  refine V_callI (as := [_, _]) ml_X7_11 im_X3_init rfl dX7_init_18 rfl rfl (by decide) (by decide) (Nat.le_of_ble_eq_true rfl) (by decide) (by decide) rfl (cn_7 (Zr.mono hZ (by first | decide | omega))) ?_
  rintro r18 ρ18 f18 g18 ⟨rfl, rfl, rfl, rfl, z18⟩
  refine V_aast (k := 0) kk6 (by decide) kk7 (by decide) (by decide) (by first | rfl | omega) (by omega) (by decide) dX7_init_21 ?_
  refine V_dup dX7_init_22 rfl ?_
  refine V_iconst dX7_init_23 ?_
  refine V_newZ kk10 (by decide) (by decide) cl_X7_9 it_3 in_3 (by first | decide | omega) (by first | decide | omega) dX7_init_24 (Zr.ur (by first | decide | omega) (Zr.mono z18 (by first | decide | omega))) ?_
  refine V_dup dX7_init_27 rfl ?_
  refine V_iconst dX7_init_28 ?_
  refine V_iconst dX7_init_29 ?_
  refine V_callI (as := [_, _]) ml_X7_11 im_X3_init rfl dX7_init_30 rfl rfl (by decide) (by decide) (Nat.le_of_ble_eq_true rfl) (by decide) (by decide) rfl (cn_10 (Zr.ur (by first | decide | omega) (Zr.mono z18 (by first | decide | omega)))) ?_
  rintro r30 ρ30 f30 g30 ⟨rfl, rfl, rfl, rfl, z30⟩
  refine V_aast (k := 1) kk6 (by decide) kk10 (by decide) (by decide) (by first | rfl | omega) (by omega) (by decide) dX7_init_33 ?_
  refine V_dup dX7_init_34 rfl ?_
  refine V_iconst dX7_init_35 ?_
  refine V_newZ kk13 (by decide) (by decide) cl_X7_9 it_3 in_3 (by first | decide | omega) (by first | decide | omega) dX7_init_36 (Zr.ur (by first | decide | omega) (Zr.mono z30 (by first | decide | omega))) ?_
  refine V_dup dX7_init_39 rfl ?_
  refine V_iconst dX7_init_40 ?_
  refine V_iconst dX7_init_41 ?_
  refine V_callI (as := [_, _]) ml_X7_11 im_X3_init rfl dX7_init_42 rfl rfl (by decide) (by decide) (Nat.le_of_ble_eq_true rfl) (by decide) (by decide) rfl (cn_13 (Zr.ur (by first | decide | omega) (Zr.mono z30 (by first | decide | omega)))) ?_
  rintro r42 ρ42 f42 g42 ⟨rfl, rfl, rfl, rfl, z42⟩
  refine V_aast (k := 2) kk6 (by decide) kk13 (by decide) (by decide) (by first | rfl | omega) (by omega) (by decide) dX7_init_45 ?_
  refine V_dup dX7_init_46 rfl ?_
  refine V_iconst dX7_init_47 ?_
  refine V_newZ kk16 (by decide) (by decide) cl_X7_9 it_3 in_3 (by first | decide | omega) (by first | decide | omega) dX7_init_48 (Zr.ur (by first | decide | omega) (Zr.mono z42 (by first | decide | omega))) ?_
  refine V_dup dX7_init_51 rfl ?_
  refine V_iconst dX7_init_52 ?_
  refine V_bipush dX7_init_53 rfl ?_
  refine V_callI (as := [_, _]) ml_X7_11 im_X3_init rfl dX7_init_55 rfl rfl (by decide) (by decide) (Nat.le_of_ble_eq_true rfl) (by decide) (by decide) rfl (cn_16 (Zr.ur (by first | decide | omega) (Zr.mono z42 (by first | decide | omega)))) ?_
  rintro r55 ρ55 f55 g55 ⟨rfl, rfl, rfl, rfl, z55⟩
  refine V_aast (k := 3) kk6 (by decide) kk16 (by decide) (by decide) (by first | rfl | omega) (by omega) (by decide) dX7_init_58 ?_
  refine V_dup dX7_init_59 rfl ?_
  refine V_iconst dX7_init_60 ?_
  refine V_newZ kk19 (by decide) (by decide) cl_X7_9 it_3 in_3 (by first | decide | omega) (by first | decide | omega) dX7_init_61 (Zr.ur (by first | decide | omega) (Zr.mono z55 (by first | decide | omega))) ?_
  refine V_dup dX7_init_64 rfl ?_
  refine V_iconst dX7_init_65 ?_
  refine V_iconst dX7_init_66 ?_
  refine V_callI (as := [_, _]) ml_X7_11 im_X3_init rfl dX7_init_67 rfl rfl (by decide) (by decide) (Nat.le_of_ble_eq_true rfl) (by decide) (by decide) rfl (cn_19 (Zr.ur (by first | decide | omega) (Zr.mono z55 (by first | decide | omega)))) ?_
  rintro r67 ρ67 f67 g67 ⟨rfl, rfl, rfl, rfl, z67⟩
  refine V_aast (k := 4) kk6 (by decide) kk19 (by decide) (by decide) (by first | rfl | omega) (by omega) (by decide) dX7_init_70 ?_
  refine V_putFR kk5 (by decide) fl_X7_14 rfl (by decide) dX7_init_71 ?_
  refine V_al0n dX7_init_74 ?_
  refine V_newZ kk22 (by decide) (by decide) cl_X7_20 it_1 in_1 (by first | decide | omega) (by first | decide | omega) dX7_init_75 (Zr.ur (by first | decide | omega) (Zr.ur (by first | decide | omega) (Zr.mono z67 (by first | decide | omega)))) ?_
  refine V_dup dX7_init_78 rfl ?_
  refine V_callN (as := []) co_X1_init ii_X1_init mn_X7_22 mp_X1_init im_X1_init rfl dX7_init_79 rfl rfl (by decide) (by decide) (Nat.le_of_ble_eq_true rfl) (by decide) (by decide) rfl (cn_22 (Zr.ur (by first | decide | omega) (Zr.ur (by first | decide | omega) (Zr.mono z67 (by first | decide | omega))))) ?_
  rintro r79 ρ79 f79 g79 ⟨rfl, rfl, rfl, rfl, z79⟩
  refine V_putFR kk5 (by decide) fl_X7_23 rfl (by decide) dX7_init_82 ?_
  refine V_al0n dX7_init_85 ?_
  refine V_iconst dX7_init_86 ?_
  refine V_putI kk5 (by decide) fl_X7_27 rfl dX7_init_87 ?_
  refine V_al0n dX7_init_90 ?_
  refine V_iconst dX7_init_91 ?_
  refine V_putI kk5 (by decide) fl_X7_31 rfl dX7_init_92 ?_
  refine V_al0n dX7_init_95 ?_
  refine V_iconst dX7_init_96 ?_
  refine V_putI kk5 (by decide) fl_X7_34 rfl dX7_init_97 ?_
  exact V_return rfl ⟨rfl, rfl, rfl, rfl, (Zr.ui (by first | decide | omega) (Zr.ui (by first | decide | omega) (Zr.ui (by first | decide | omega) (Zr.ur (by first | decide | omega) (Zr.mono z79 (by first | decide | omega))))))⟩ dX7_init_100
def nR_32 (ρ : RT) : RT := u2 (u2 (ρ) 32 2 (some 33)) 32 3 (some 34)
def nI_32 (f : IT) : IT := u2 (u2 (u2 (f) 32 4 0) 32 0 6) 32 1 4
def nG_32 (g : JT) : JT := g
theorem cn_32 (hZ : Zr 33 ρ f g) : Ct yX3_init cX3_init 3 none 1 2 30 33 35 [.ref 32, .int (iz 6), .int (iz 4)] ρ f g (fun r ρ' f' g' => r = none ∧ ρ' = nR_32 ρ ∧ f' = nI_32 f ∧ g' = nG_32 g ∧ Zr 35 ρ' f' g') := by
  refine Ct.ofV (by decide) rfl (Nat.le_of_ble_eq_true rfl) ?_
  refine V_al0n dX3_init_0 ?_
  refine V_objInit mo_X3_3 io_obj co_obj (by decide) (Nat.le_of_ble_eq_true rfl) dX3_init_1 ?_
  refine V_al0n dX3_init_4 ?_
  refine V_iconst dX3_init_5 ?_
  refine V_putI kk32 (by decide) fl_X3_9 rfl dX3_init_6 ?_
  refine V_al0n dX3_init_9 ?_
  refine V_il1n dX3_init_10 ?_
  refine V_putFI kk32 (by decide) fl_X3_15 rfl (by decide) dX3_init_11 ?_
  refine V_al0n dX3_init_14 ?_
  refine V_il2n dX3_init_15 ?_
  refine V_putFI kk32 (by decide) fl_X3_18 rfl (by decide) dX3_init_16 ?_
  refine V_al0n dX3_init_19 ?_
  refine V_il1n dX3_init_20 ?_
  refine V_newarrZ (ty := .int) kk33 (by decide) (by decide) ac_int rfl (by decide) (by decide) (by decide) dX3_init_21 (Zr.ui (by first | decide | omega) (Zr.ui (by first | decide | omega) (Zr.ui (by first | decide | omega) (Zr.mono hZ (by first | decide | omega))))) ?_
  refine V_putFR kk32 (by decide) fl_X3_21 rfl (by decide) dX3_init_23 ?_
  refine V_al0n dX3_init_26 ?_
  refine V_il1n dX3_init_27 ?_
  refine V_il2n dX3_init_28 ?_
  refine V_imul dX3_init_29 ?_
  refine V_newarrZ (ty := .int) kk34 (by decide) (by decide) ac_int rfl (by decide) (by decide) (by decide) dX3_init_30 (Zr.ui (by first | decide | omega) (Zr.ui (by first | decide | omega) (Zr.ui (by first | decide | omega) (Zr.ur (by first | decide | omega) (Zr.mono hZ (by first | decide | omega)))))) ?_
  refine V_putFR kk32 (by decide) fl_X3_25 rfl (by decide) dX3_init_32 ?_
  exact V_return rfl ⟨rfl, rfl, rfl, rfl, (Zr.ui (by first | decide | omega) (Zr.ui (by first | decide | omega) (Zr.ui (by first | decide | omega) (Zr.ur (by first | decide | omega) (Zr.ur (by first | decide | omega) (Zr.mono hZ (by first | decide | omega)))))))⟩ dX3_init_35
def nR_35 (ρ : RT) : RT := u2 (u2 (ρ) 35 2 (some 36)) 35 3 (some 37)
def nI_35 (f : IT) : IT := u2 (u2 (u2 (f) 35 4 0) 35 0 5) 35 1 3
def nG_35 (g : JT) : JT := g
theorem cn_35 (hZ : Zr 36 ρ f g) : Ct yX3_init cX3_init 3 none 1 2 20 36 38 [.ref 35, .int (iz 5), .int (iz 3)] ρ f g (fun r ρ' f' g' => r = none ∧ ρ' = nR_35 ρ ∧ f' = nI_35 f ∧ g' = nG_35 g ∧ Zr 38 ρ' f' g') := by
  refine Ct.ofV (by decide) rfl (Nat.le_of_ble_eq_true rfl) ?_
  refine V_al0n dX3_init_0 ?_
  refine V_objInit mo_X3_3 io_obj co_obj (by decide) (Nat.le_of_ble_eq_true rfl) dX3_init_1 ?_
  refine V_al0n dX3_init_4 ?_
  refine V_iconst dX3_init_5 ?_
  refine V_putI kk35 (by decide) fl_X3_9 rfl dX3_init_6 ?_
  refine V_al0n dX3_init_9 ?_
  refine V_il1n dX3_init_10 ?_
  refine V_putFI kk35 (by decide) fl_X3_15 rfl (by decide) dX3_init_11 ?_
  refine V_al0n dX3_init_14 ?_
  refine V_il2n dX3_init_15 ?_
  refine V_putFI kk35 (by decide) fl_X3_18 rfl (by decide) dX3_init_16 ?_
  refine V_al0n dX3_init_19 ?_
  refine V_il1n dX3_init_20 ?_
  refine V_newarrZ (ty := .int) kk36 (by decide) (by decide) ac_int rfl (by decide) (by decide) (by decide) dX3_init_21 (Zr.ui (by first | decide | omega) (Zr.ui (by first | decide | omega) (Zr.ui (by first | decide | omega) (Zr.mono hZ (by first | decide | omega))))) ?_
  refine V_putFR kk35 (by decide) fl_X3_21 rfl (by decide) dX3_init_23 ?_
  refine V_al0n dX3_init_26 ?_
  refine V_il1n dX3_init_27 ?_
  refine V_il2n dX3_init_28 ?_
  refine V_imul dX3_init_29 ?_
  refine V_newarrZ (ty := .int) kk37 (by decide) (by decide) ac_int rfl (by decide) (by decide) (by decide) dX3_init_30 (Zr.ui (by first | decide | omega) (Zr.ui (by first | decide | omega) (Zr.ui (by first | decide | omega) (Zr.ur (by first | decide | omega) (Zr.mono hZ (by first | decide | omega)))))) ?_
  refine V_putFR kk35 (by decide) fl_X3_25 rfl (by decide) dX3_init_32 ?_
  exact V_return rfl ⟨rfl, rfl, rfl, rfl, (Zr.ui (by first | decide | omega) (Zr.ui (by first | decide | omega) (Zr.ui (by first | decide | omega) (Zr.ur (by first | decide | omega) (Zr.ur (by first | decide | omega) (Zr.mono hZ (by first | decide | omega)))))))⟩ dX3_init_35
def nR_38 (ρ : RT) : RT := u2 (u2 (ρ) 38 2 (some 39)) 38 3 (some 40)
def nI_38 (f : IT) : IT := u2 (u2 (u2 (f) 38 4 0) 38 0 3) 38 1 3
def nG_38 (g : JT) : JT := g
theorem cn_38 (hZ : Zr 39 ρ f g) : Ct yX3_init cX3_init 3 none 1 2 12 39 41 [.ref 38, .int (iz 3), .int (iz 3)] ρ f g (fun r ρ' f' g' => r = none ∧ ρ' = nR_38 ρ ∧ f' = nI_38 f ∧ g' = nG_38 g ∧ Zr 41 ρ' f' g') := by
  refine Ct.ofV (by decide) rfl (Nat.le_of_ble_eq_true rfl) ?_
  refine V_al0n dX3_init_0 ?_
  refine V_objInit mo_X3_3 io_obj co_obj (by decide) (Nat.le_of_ble_eq_true rfl) dX3_init_1 ?_
  refine V_al0n dX3_init_4 ?_
  refine V_iconst dX3_init_5 ?_
  refine V_putI kk38 (by decide) fl_X3_9 rfl dX3_init_6 ?_
  refine V_al0n dX3_init_9 ?_
  refine V_il1n dX3_init_10 ?_
  refine V_putFI kk38 (by decide) fl_X3_15 rfl (by decide) dX3_init_11 ?_
  refine V_al0n dX3_init_14 ?_
  refine V_il2n dX3_init_15 ?_
  refine V_putFI kk38 (by decide) fl_X3_18 rfl (by decide) dX3_init_16 ?_
  refine V_al0n dX3_init_19 ?_
  refine V_il1n dX3_init_20 ?_
  refine V_newarrZ (ty := .int) kk39 (by decide) (by decide) ac_int rfl (by decide) (by decide) (by decide) dX3_init_21 (Zr.ui (by first | decide | omega) (Zr.ui (by first | decide | omega) (Zr.ui (by first | decide | omega) (Zr.mono hZ (by first | decide | omega))))) ?_
  refine V_putFR kk38 (by decide) fl_X3_21 rfl (by decide) dX3_init_23 ?_
  refine V_al0n dX3_init_26 ?_
  refine V_il1n dX3_init_27 ?_
  refine V_il2n dX3_init_28 ?_
  refine V_imul dX3_init_29 ?_
  refine V_newarrZ (ty := .int) kk40 (by decide) (by decide) ac_int rfl (by decide) (by decide) (by decide) dX3_init_30 (Zr.ui (by first | decide | omega) (Zr.ui (by first | decide | omega) (Zr.ui (by first | decide | omega) (Zr.ur (by first | decide | omega) (Zr.mono hZ (by first | decide | omega)))))) ?_
  refine V_putFR kk38 (by decide) fl_X3_25 rfl (by decide) dX3_init_32 ?_
  exact V_return rfl ⟨rfl, rfl, rfl, rfl, (Zr.ui (by first | decide | omega) (Zr.ui (by first | decide | omega) (Zr.ui (by first | decide | omega) (Zr.ur (by first | decide | omega) (Zr.ur (by first | decide | omega) (Zr.mono hZ (by first | decide | omega)))))))⟩ dX3_init_35
def nR_41 (ρ : RT) : RT := u2 (u2 (ρ) 41 2 (some 42)) 41 3 (some 43)
def nI_41 (f : IT) : IT := u2 (u2 (u2 (f) 41 4 0) 41 0 5) 41 1 7
def nG_41 (g : JT) : JT := g
theorem cn_41 (hZ : Zr 42 ρ f g) : Ct yX3_init cX3_init 3 none 1 2 40 42 44 [.ref 41, .int (iz 5), .int (iz 7)] ρ f g (fun r ρ' f' g' => r = none ∧ ρ' = nR_41 ρ ∧ f' = nI_41 f ∧ g' = nG_41 g ∧ Zr 44 ρ' f' g') := by
  refine Ct.ofV (by decide) rfl (Nat.le_of_ble_eq_true rfl) ?_
  refine V_al0n dX3_init_0 ?_
  refine V_objInit mo_X3_3 io_obj co_obj (by decide) (Nat.le_of_ble_eq_true rfl) dX3_init_1 ?_
  refine V_al0n dX3_init_4 ?_
  refine V_iconst dX3_init_5 ?_
  refine V_putI kk41 (by decide) fl_X3_9 rfl dX3_init_6 ?_
  refine V_al0n dX3_init_9 ?_
  refine V_il1n dX3_init_10 ?_
  refine V_putFI kk41 (by decide) fl_X3_15 rfl (by decide) dX3_init_11 ?_
  refine V_al0n dX3_init_14 ?_
  refine V_il2n dX3_init_15 ?_
  refine V_putFI kk41 (by decide) fl_X3_18 rfl (by decide) dX3_init_16 ?_
  refine V_al0n dX3_init_19 ?_
  refine V_il1n dX3_init_20 ?_
  refine V_newarrZ (ty := .int) kk42 (by decide) (by decide) ac_int rfl (by decide) (by decide) (by decide) dX3_init_21 (Zr.ui (by first | decide | omega) (Zr.ui (by first | decide | omega) (Zr.ui (by first | decide | omega) (Zr.mono hZ (by first | decide | omega))))) ?_
  refine V_putFR kk41 (by decide) fl_X3_21 rfl (by decide) dX3_init_23 ?_
  refine V_al0n dX3_init_26 ?_
  refine V_il1n dX3_init_27 ?_
  refine V_il2n dX3_init_28 ?_
  refine V_imul dX3_init_29 ?_
  refine V_newarrZ (ty := .int) kk43 (by decide) (by decide) ac_int rfl (by decide) (by decide) (by decide) dX3_init_30 (Zr.ui (by first | decide | omega) (Zr.ui (by first | decide | omega) (Zr.ui (by first | decide | omega) (Zr.ur (by first | decide | omega) (Zr.mono hZ (by first | decide | omega)))))) ?_
  refine V_putFR kk41 (by decide) fl_X3_25 rfl (by decide) dX3_init_32 ?_
  exact V_return rfl ⟨rfl, rfl, rfl, rfl, (Zr.ui (by first | decide | omega) (Zr.ui (by first | decide | omega) (Zr.ui (by first | decide | omega) (Zr.ur (by first | decide | omega) (Zr.ur (by first | decide | omega) (Zr.mono hZ (by first | decide | omega)))))))⟩ dX3_init_35
def nR_44 (ρ : RT) : RT := u2 (u2 (ρ) 44 2 (some 45)) 44 3 (some 46)
def nI_44 (f : IT) : IT := u2 (u2 (u2 (f) 44 4 0) 44 0 4) 44 1 2
def nG_44 (g : JT) : JT := g
theorem cn_44 (hZ : Zr 45 ρ f g) : Ct yX3_init cX3_init 3 none 1 2 12 45 47 [.ref 44, .int (iz 4), .int (iz 2)] ρ f g (fun r ρ' f' g' => r = none ∧ ρ' = nR_44 ρ ∧ f' = nI_44 f ∧ g' = nG_44 g ∧ Zr 47 ρ' f' g') := by
  refine Ct.ofV (by decide) rfl (Nat.le_of_ble_eq_true rfl) ?_
  refine V_al0n dX3_init_0 ?_
  refine V_objInit mo_X3_3 io_obj co_obj (by decide) (Nat.le_of_ble_eq_true rfl) dX3_init_1 ?_
  refine V_al0n dX3_init_4 ?_
  refine V_iconst dX3_init_5 ?_
  refine V_putI kk44 (by decide) fl_X3_9 rfl dX3_init_6 ?_
  refine V_al0n dX3_init_9 ?_
  refine V_il1n dX3_init_10 ?_
  refine V_putFI kk44 (by decide) fl_X3_15 rfl (by decide) dX3_init_11 ?_
  refine V_al0n dX3_init_14 ?_
  refine V_il2n dX3_init_15 ?_
  refine V_putFI kk44 (by decide) fl_X3_18 rfl (by decide) dX3_init_16 ?_
  refine V_al0n dX3_init_19 ?_
  refine V_il1n dX3_init_20 ?_
  refine V_newarrZ (ty := .int) kk45 (by decide) (by decide) ac_int rfl (by decide) (by decide) (by decide) dX3_init_21 (Zr.ui (by first | decide | omega) (Zr.ui (by first | decide | omega) (Zr.ui (by first | decide | omega) (Zr.mono hZ (by first | decide | omega))))) ?_
  refine V_putFR kk44 (by decide) fl_X3_21 rfl (by decide) dX3_init_23 ?_
  refine V_al0n dX3_init_26 ?_
  refine V_il1n dX3_init_27 ?_
  refine V_il2n dX3_init_28 ?_
  refine V_imul dX3_init_29 ?_
  refine V_newarrZ (ty := .int) kk46 (by decide) (by decide) ac_int rfl (by decide) (by decide) (by decide) dX3_init_30 (Zr.ui (by first | decide | omega) (Zr.ui (by first | decide | omega) (Zr.ui (by first | decide | omega) (Zr.ur (by first | decide | omega) (Zr.mono hZ (by first | decide | omega)))))) ?_
  refine V_putFR kk44 (by decide) fl_X3_25 rfl (by decide) dX3_init_32 ?_
  exact V_return rfl ⟨rfl, rfl, rfl, rfl, (Zr.ui (by first | decide | omega) (Zr.ui (by first | decide | omega) (Zr.ui (by first | decide | omega) (Zr.ur (by first | decide | omega) (Zr.ur (by first | decide | omega) (Zr.mono hZ (by first | decide | omega)))))))⟩ dX3_init_35
def nR_47 (ρ : RT) : RT := u2 (u2 (u2 (u2 (u2 (u2 (u2 (ρ) 47 0 (some 48)) 47 1 (some 49)) 47 3 (some 50)) 47 4 (some 51)) 47 5 (some 52)) 47 6 (some 53)) 47 7 (some 54)
def nI_47 (f : IT) : IT := u2 (u2 (f) 47 2 0) 47 8 0
def nG_47 (g : JT) : JT := g
theorem cn_47 (hZ : Zr 48 ρ f g) : Ct yX1_init cX1_init 1 none 1 7 224 48 55 [.ref 47] ρ f g (fun r ρ' f' g' => r = none ∧ ρ' = nR_47 ρ ∧ f' = nI_47 f ∧ g' = nG_47 g ∧ Zr 55 ρ' f' g') := by
  refine Ct.ofV (by decide) rfl (Nat.le_of_ble_eq_true rfl) ?_
  refine V_al0n dX1_init_0 ?_
  refine V_objInit mo_X1_3 io_obj co_obj (by decide) (Nat.le_of_ble_eq_true rfl) dX1_init_1 ?_
  refine V_al0n dX1_init_4 ?_
  refine V_bipush dX1_init_5 rfl ?_
  refine V_newarrZ (ty := .int) kk48 (by decide) (by decide) ac_int rfl (by decide) (by decide) (by decide) dX1_init_7 (Zr.mono hZ (by first | decide | omega)) ?_
  refine V_putFR kk47 (by decide) fl_X1_11 rfl (by decide) dX1_init_9 ?_
  refine V_al0n dX1_init_12 ?_
  refine V_bipush dX1_init_13 rfl ?_
  refine V_newarrZ (ty := .int) kk49 (by decide) (by decide) ac_int rfl (by decide) (by decide) (by decide) dX1_init_15 (Zr.ur (by first | decide | omega) (Zr.mono hZ (by first | decide | omega))) ?_
  refine V_putFR kk47 (by decide) fl_X1_15 rfl (by decide) dX1_init_17 ?_
  refine V_al0n dX1_init_20 ?_
  refine V_iconst dX1_init_21 ?_
  refine V_putI kk47 (by decide) fl_X1_18 rfl dX1_init_22 ?_
  refine V_al0n dX1_init_25 ?_
  refine V_bipush dX1_init_26 rfl ?_
  refine V_newarrZ (ty := .int) kk50 (by decide) (by decide) ac_int rfl (by decide) (by decide) (by decide) dX1_init_28 (Zr.ui (by first | decide | omega) (Zr.ur (by first | decide | omega) (Zr.ur (by first | decide | omega) (Zr.mono hZ (by first | decide | omega))))) ?_
  refine V_putFR kk47 (by decide) fl_X1_22 rfl (by decide) dX1_init_30 ?_
  refine V_al0n dX1_init_33 ?_
  refine V_bipush dX1_init_34 rfl ?_
  refine V_newarrZ (ty := .int) kk51 (by decide) (by decide) ac_int rfl (by decide) (by decide) (by decide) dX1_init_36 (Zr.ui (by first | decide | omega) (Zr.ur (by first | decide | omega) (Zr.ur (by first | decide | omega) (Zr.ur (by first | decide | omega) (Zr.mono hZ (by first | decide | omega)))))) ?_
  refine V_putFR kk47 (by decide) fl_X1_25 rfl (by decide) dX1_init_38 ?_
  refine V_al0n dX1_init_41 ?_
  refine V_bipush dX1_init_42 rfl ?_
  refine V_newarrZ (ty := .int) kk52 (by decide) (by decide) ac_long rfl (by decide) (by decide) (by decide) dX1_init_44 (Zr.ui (by first | decide | omega) (Zr.ur (by first | decide | omega) (Zr.ur (by first | decide | omega) (Zr.ur (by first | decide | omega) (Zr.ur (by first | decide | omega) (Zr.mono hZ (by first | decide | omega))))))) ?_
  refine V_putFR kk47 (by decide) fl_X1_28 rfl (by decide) dX1_init_46 ?_
  refine V_al0n dX1_init_49 ?_
  refine V_bipush dX1_init_50 rfl ?_
  refine V_newarrZ (ty := .int) kk53 (by decide) (by decide) ac_long rfl (by decide) (by decide) (by decide) dX1_init_52 (Zr.ui (by first | decide | omega) (Zr.ur (by first | decide | omega) (Zr.ur (by first | decide | omega) (Zr.ur (by first | decide | omega) (Zr.ur (by first | decide | omega) (Zr.ur (by first | decide | omega) (Zr.mono hZ (by first | decide | omega)))))))) ?_
  refine V_putFR kk47 (by decide) fl_X1_32 rfl (by decide) dX1_init_54 ?_
  refine V_al0n dX1_init_57 ?_
  refine V_bipush dX1_init_58 rfl ?_
  refine V_newarrZ (ty := .int) kk54 (by decide) (by decide) ac_boolean rfl (by decide) (by decide) (by decide) dX1_init_60 (Zr.ui (by first | decide | omega) (Zr.ur (by first | decide | omega) (Zr.ur (by first | decide | omega) (Zr.ur (by first | decide | omega) (Zr.ur (by first | decide | omega) (Zr.ur (by first | decide | omega) (Zr.ur (by first | decide | omega) (Zr.mono hZ (by first | decide | omega))))))))) ?_
  refine V_putFR kk47 (by decide) fl_X1_35 rfl (by decide) dX1_init_62 ?_
  refine V_al0n dX1_init_65 ?_
  refine V_iconst dX1_init_66 ?_
  refine V_putI kk47 (by decide) fl_X1_39 rfl dX1_init_67 ?_
  exact V_return rfl ⟨rfl, rfl, rfl, rfl, (Zr.ui (by first | decide | omega) (Zr.ui (by first | decide | omega) (Zr.ur (by first | decide | omega) (Zr.ur (by first | decide | omega) (Zr.ur (by first | decide | omega) (Zr.ur (by first | decide | omega) (Zr.ur (by first | decide | omega) (Zr.ur (by first | decide | omega) (Zr.ur (by first | decide | omega) (Zr.mono hZ (by first | decide | omega)))))))))))⟩ dX1_init_70
def nR_30 (ρ : RT) : RT := u2 (nR_47 (u2 (u2 (nR_44 (u2 (nR_41 (u2 (nR_38 (u2 (nR_35 (u2 (nR_32 (ρ)) 31 0 (some 32))) 31 1 (some 35))) 31 2 (some 38))) 31 3 (some 41))) 31 4 (some 44)) 30 0 (some 31))) 30 1 (some 47)
def nI_30 (f : IT) : IT := u2 (u2 (u2 (nI_47 (nI_44 (nI_41 (nI_38 (nI_35 (nI_32 (f))))))) 30 2 (-1)) 30 3 (-1)) 30 4 0
def nG_30 (g : JT) : JT := nG_47 (nG_44 (nG_41 (nG_38 (nG_35 (nG_32 (g))))))
theorem cn_30 (hZ : Zr 31 ρ f g) : Ct yX7_init cX7_init 1 none 2 24 377 31 55 [.ref 30] ρ f g (fun r ρ' f' g' => r = none ∧ ρ' = nR_30 ρ ∧ f' = nI_30 f ∧ g' = nG_30 g ∧ Zr 55 ρ' f' g') := by
  refine Ct.ofV (by decide) rfl (Nat.le_of_ble_eq_true rfl) ?_
  refine V_al0n dX7_init_0 ?_
  refine V_objInit mo_X7_3 io_obj co_obj (by decide) (Nat.le_of_ble_eq_true rfl) dX7_init_1 ?_
  refine V_al0n dX7_init_4 ?_
  refine V_iconst dX7_init_5 ?_
  refine V_anewZ (c2 := 3) kk31 (by decide) (by decide) cl_X7_9 rfl (by decide) (by decide) (by decide) dX7_init_6 (Zr.mono hZ (by first | decide | omega)) ?_
  refine V_dup dX7_init_9 rfl ?_
  refine V_iconst dX7_init_10 ?_
  refine V_newZ kk32 (by decide) (by decide) cl_X7_9 it_3 in_3 (by first | decide | omega) (by first | decide | omega) dX7_init_11 (Zr.mono hZ (by first | decide | omega)) ?_
  refine V_dup dX7_init_14 rfl ?_
  refine V_bipush dX7_init_15 rfl ?_
  refine V_iconst dX7_init_17 ?_
  refine V_callI (as := [_, _]) ml_X7_11 im_X3_init rfl dX7_init_18 rfl rfl (by decide) (by decide) (Nat.le_of_ble_eq_true rfl) (by decide) (by decide) rfl (cn_32 (Zr.mono hZ (by first | decide | omega))) ?_
  rintro r18 ρ18 f18 g18 ⟨rfl, rfl, rfl, rfl, z18⟩
  refine V_aast (k := 0) kk31 (by decide) kk32 (by decide) (by decide) (by first | rfl | omega) (by omega) (by decide) dX7_init_21 ?_
  refine V_dup dX7_init_22 rfl ?_
  refine V_iconst dX7_init_23 ?_
  refine V_newZ kk35 (by decide) (by decide) cl_X7_9 it_3 in_3 (by first | decide | omega) (by first | decide | omega) dX7_init_24 (Zr.ur (by first | decide | omega) (Zr.mono z18 (by first | decide | omega))) ?_
  refine V_dup dX7_init_27 rfl ?_
  refine V_iconst dX7_init_28 ?_
  refine V_iconst dX7_init_29 ?_
  refine V_callI (as := [_, _]) ml_X7_11 im_X3_init rfl dX7_init_30 rfl rfl (by decide) (by decide) (Nat.le_of_ble_eq_true rfl) (by decide) (by decide) rfl (cn_35 (Zr.ur (by first | decide | omega) (Zr.mono z18 (by first | decide | omega)))) ?_
  rintro r30 ρ30 f30 g30 ⟨rfl, rfl, rfl, rfl, z30⟩
  refine V_aast (k := 1) kk31 (by decide) kk35 (by decide) (by decide) (by first | rfl | omega) (by omega) (by decide) dX7_init_33 ?_
  refine V_dup dX7_init_34 rfl ?_
  refine V_iconst dX7_init_35 ?_
  refine V_newZ kk38 (by decide) (by decide) cl_X7_9 it_3 in_3 (by first | decide | omega) (by first | decide | omega) dX7_init_36 (Zr.ur (by first | decide | omega) (Zr.mono z30 (by first | decide | omega))) ?_
  refine V_dup dX7_init_39 rfl ?_
  refine V_iconst dX7_init_40 ?_
  refine V_iconst dX7_init_41 ?_
  refine V_callI (as := [_, _]) ml_X7_11 im_X3_init rfl dX7_init_42 rfl rfl (by decide) (by decide) (Nat.le_of_ble_eq_true rfl) (by decide) (by decide) rfl (cn_38 (Zr.ur (by first | decide | omega) (Zr.mono z30 (by first | decide | omega)))) ?_
  rintro r42 ρ42 f42 g42 ⟨rfl, rfl, rfl, rfl, z42⟩
  refine V_aast (k := 2) kk31 (by decide) kk38 (by decide) (by decide) (by first | rfl | omega) (by omega) (by decide) dX7_init_45 ?_
  refine V_dup dX7_init_46 rfl ?_
  refine V_iconst dX7_init_47 ?_
  refine V_newZ kk41 (by decide) (by decide) cl_X7_9 it_3 in_3 (by first | decide | omega) (by first | decide | omega) dX7_init_48 (Zr.ur (by first | decide | omega) (Zr.mono z42 (by first | decide | omega))) ?_
  refine V_dup dX7_init_51 rfl ?_
  refine V_iconst dX7_init_52 ?_
  refine V_bipush dX7_init_53 rfl ?_
  refine V_callI (as := [_, _]) ml_X7_11 im_X3_init rfl dX7_init_55 rfl rfl (by decide) (by decide) (Nat.le_of_ble_eq_true rfl) (by decide) (by decide) rfl (cn_41 (Zr.ur (by first | decide | omega) (Zr.mono z42 (by first | decide | omega)))) ?_
  rintro r55 ρ55 f55 g55 ⟨rfl, rfl, rfl, rfl, z55⟩
  refine V_aast (k := 3) kk31 (by decide) kk41 (by decide) (by decide) (by first | rfl | omega) (by omega) (by decide) dX7_init_58 ?_
  refine V_dup dX7_init_59 rfl ?_
  refine V_iconst dX7_init_60 ?_
  refine V_newZ kk44 (by decide) (by decide) cl_X7_9 it_3 in_3 (by first | decide | omega) (by first | decide | omega) dX7_init_61 (Zr.ur (by first | decide | omega) (Zr.mono z55 (by first | decide | omega))) ?_
  refine V_dup dX7_init_64 rfl ?_
  refine V_iconst dX7_init_65 ?_
  refine V_iconst dX7_init_66 ?_
  refine V_callI (as := [_, _]) ml_X7_11 im_X3_init rfl dX7_init_67 rfl rfl (by decide) (by decide) (Nat.le_of_ble_eq_true rfl) (by decide) (by decide) rfl (cn_44 (Zr.ur (by first | decide | omega) (Zr.mono z55 (by first | decide | omega)))) ?_
  rintro r67 ρ67 f67 g67 ⟨rfl, rfl, rfl, rfl, z67⟩
  refine V_aast (k := 4) kk31 (by decide) kk44 (by decide) (by decide) (by first | rfl | omega) (by omega) (by decide) dX7_init_70 ?_
  refine V_putFR kk30 (by decide) fl_X7_14 rfl (by decide) dX7_init_71 ?_
  refine V_al0n dX7_init_74 ?_
  refine V_newZ kk47 (by decide) (by decide) cl_X7_20 it_1 in_1 (by first | decide | omega) (by first | decide | omega) dX7_init_75 (Zr.ur (by first | decide | omega) (Zr.ur (by first | decide | omega) (Zr.mono z67 (by first | decide | omega)))) ?_
  refine V_dup dX7_init_78 rfl ?_
  refine V_callN (as := []) co_X1_init ii_X1_init mn_X7_22 mp_X1_init im_X1_init rfl dX7_init_79 rfl rfl (by decide) (by decide) (Nat.le_of_ble_eq_true rfl) (by decide) (by decide) rfl (cn_47 (Zr.ur (by first | decide | omega) (Zr.ur (by first | decide | omega) (Zr.mono z67 (by first | decide | omega))))) ?_
  rintro r79 ρ79 f79 g79 ⟨rfl, rfl, rfl, rfl, z79⟩
  refine V_putFR kk30 (by decide) fl_X7_23 rfl (by decide) dX7_init_82 ?_
  refine V_al0n dX7_init_85 ?_
  refine V_iconst dX7_init_86 ?_
  refine V_putI kk30 (by decide) fl_X7_27 rfl dX7_init_87 ?_
  refine V_al0n dX7_init_90 ?_
  refine V_iconst dX7_init_91 ?_
  refine V_putI kk30 (by decide) fl_X7_31 rfl dX7_init_92 ?_
  refine V_al0n dX7_init_95 ?_
  refine V_iconst dX7_init_96 ?_
  refine V_putI kk30 (by decide) fl_X7_34 rfl dX7_init_97 ?_
  exact V_return rfl ⟨rfl, rfl, rfl, rfl, (Zr.ui (by first | decide | omega) (Zr.ui (by first | decide | omega) (Zr.ui (by first | decide | omega) (Zr.ur (by first | decide | omega) (Zr.mono z79 (by first | decide | omega))))))⟩ dX7_init_100
def nR_55 (ρ : RT) : RT := u2 (u2 (u2 (u2 (u2 (u2 (u2 (ρ) 55 6 (some 56)) 55 7 (some 57)) 55 8 (some 58)) 55 9 (some 59)) 55 10 (some 60)) 55 11 (some 61)) 55 0 (some 5)
def nI_55 (f : IT) : IT := u2 (u2 (u2 (u2 (u2 (f) 55 1 0) 55 2 0) 55 3 0) 55 4 0) 55 5 1
def nG_55 (g : JT) : JT := g
theorem cn_55 (hZ : Zr 56 ρ f g) : Ct yX0_init cX0_init 2 none 1 6 8216 56 62 [.ref 55, .ref 5] ρ f g (fun r ρ' f' g' => r = none ∧ ρ' = nR_55 ρ ∧ f' = nI_55 f ∧ g' = nG_55 g ∧ Zr 62 ρ' f' g') := by
  refine Ct.ofV (by decide) rfl (Nat.le_of_ble_eq_true rfl) ?_
  refine V_al0n dX0_init_0 ?_
  refine V_objInit mo_X0_3 io_obj co_obj (by decide) (Nat.le_of_ble_eq_true rfl) dX0_init_1 ?_
  refine V_al0n dX0_init_4 ?_
  refine V_iconst dX0_init_5 ?_
  refine V_putI kk55 (by decide) fl_X0_9 rfl dX0_init_6 ?_
  refine V_al0n dX0_init_9 ?_
  refine V_iconst dX0_init_10 ?_
  refine V_putI kk55 (by decide) fl_X0_15 rfl dX0_init_11 ?_
  refine V_al0n dX0_init_14 ?_
  refine V_iconst dX0_init_15 ?_
  refine V_putZ kk55 (by decide) fl_X0_18 rfl (by first | exact Or.inl rfl | exact Or.inr rfl | (unfold bz; split <;> simp)) dX0_init_16 ?_
  refine V_al0n dX0_init_19 ?_
  refine V_iconst dX0_init_20 ?_
  refine V_putZ kk55 (by decide) fl_X0_22 rfl (by first | exact Or.inl rfl | exact Or.inr rfl | (unfold bz; split <;> simp)) dX0_init_21 ?_
  refine V_al0n dX0_init_24 ?_
  refine V_iconst dX0_init_25 ?_
  refine V_putI kk55 (by decide) fl_X0_25 rfl dX0_init_26 ?_
  refine V_al0n dX0_init_29 ?_
  refine V_bipush dX0_init_30 rfl ?_
  refine V_newarrZ (ty := .int) kk56 (by decide) (by decide) ac_int rfl (by decide) (by decide) (by decide) dX0_init_32 (Zr.ui (by first | decide | omega) (Zr.ui (by first | decide | omega) (Zr.ui (by first | decide | omega) (Zr.ui (by first | decide | omega) (Zr.ui (by first | decide | omega) (Zr.mono hZ (by first | decide | omega))))))) ?_
  refine V_putFR kk55 (by decide) fl_X0_28 rfl (by decide) dX0_init_34 ?_
  refine V_al0n dX0_init_37 ?_
  refine V_bipush dX0_init_38 rfl ?_
  refine V_newarrZ (ty := .int) kk57 (by decide) (by decide) ac_int rfl (by decide) (by decide) (by decide) dX0_init_40 (Zr.ui (by first | decide | omega) (Zr.ui (by first | decide | omega) (Zr.ui (by first | decide | omega) (Zr.ui (by first | decide | omega) (Zr.ui (by first | decide | omega) (Zr.ur (by first | decide | omega) (Zr.mono hZ (by first | decide | omega)))))))) ?_
  refine V_putFR kk55 (by decide) fl_X0_32 rfl (by decide) dX0_init_42 ?_
  refine V_al0n dX0_init_45 ?_
  refine V_bipush dX0_init_46 rfl ?_
  refine V_newarrZ (ty := .int) kk58 (by decide) (by decide) ac_int rfl (by decide) (by decide) (by decide) dX0_init_48 (Zr.ui (by first | decide | omega) (Zr.ui (by first | decide | omega) (Zr.ui (by first | decide | omega) (Zr.ui (by first | decide | omega) (Zr.ui (by first | decide | omega) (Zr.ur (by first | decide | omega) (Zr.ur (by first | decide | omega) (Zr.mono hZ (by first | decide | omega))))))))) ?_
  refine V_putFR kk55 (by decide) fl_X0_35 rfl (by decide) dX0_init_50 ?_
  refine V_al0n dX0_init_53 ?_
  refine V_bipush dX0_init_54 rfl ?_
  refine V_newarrZ (ty := .int) kk59 (by decide) (by decide) ac_int rfl (by decide) (by decide) (by decide) dX0_init_56 (Zr.ui (by first | decide | omega) (Zr.ui (by first | decide | omega) (Zr.ui (by first | decide | omega) (Zr.ui (by first | decide | omega) (Zr.ui (by first | decide | omega) (Zr.ur (by first | decide | omega) (Zr.ur (by first | decide | omega) (Zr.ur (by first | decide | omega) (Zr.mono hZ (by first | decide | omega)))))))))) ?_
  refine V_putFR kk55 (by decide) fl_X0_38 rfl (by decide) dX0_init_58 ?_
  refine V_al0n dX0_init_61 ?_
  refine V_sipush dX0_init_62 rfl ?_
  refine V_newarrZ (ty := .int) kk60 (by decide) (by decide) ac_long rfl (by decide) (by decide) (by decide) dX0_init_65 (Zr.ui (by first | decide | omega) (Zr.ui (by first | decide | omega) (Zr.ui (by first | decide | omega) (Zr.ui (by first | decide | omega) (Zr.ui (by first | decide | omega) (Zr.ur (by first | decide | omega) (Zr.ur (by first | decide | omega) (Zr.ur (by first | decide | omega) (Zr.ur (by first | decide | omega) (Zr.mono hZ (by first | decide | omega))))))))))) ?_
  refine V_putFR kk55 (by decide) fl_X0_41 rfl (by decide) dX0_init_67 ?_
  refine V_al0n dX0_init_70 ?_
  refine V_sipush dX0_init_71 rfl ?_
  refine V_newarrZ (ty := .int) kk61 (by decide) (by decide) ac_int rfl (by decide) (by decide) (by decide) dX0_init_74 (Zr.ui (by first | decide | omega) (Zr.ui (by first | decide | omega) (Zr.ui (by first | decide | omega) (Zr.ui (by first | decide | omega) (Zr.ui (by first | decide | omega) (Zr.ur (by first | decide | omega) (Zr.ur (by first | decide | omega) (Zr.ur (by first | decide | omega) (Zr.ur (by first | decide | omega) (Zr.ur (by first | decide | omega) (Zr.mono hZ (by first | decide | omega)))))))))))) ?_
  refine V_putFR kk55 (by decide) fl_X0_45 rfl (by decide) dX0_init_76 ?_
  refine V_al0n dX0_init_79 ?_
  refine V_al1n dX0_init_80 ?_
  refine V_putR kk55 (by decide) fl_X0_48 rfl dX0_init_81 ?_
  exact V_return rfl ⟨rfl, rfl, rfl, rfl, (Zr.ui (by first | decide | omega) (Zr.ui (by first | decide | omega) (Zr.ui (by first | decide | omega) (Zr.ui (by first | decide | omega) (Zr.ui (by first | decide | omega) (Zr.ur (by first | decide | omega) (Zr.ur (by first | decide | omega) (Zr.ur (by first | decide | omega) (Zr.ur (by first | decide | omega) (Zr.ur (by first | decide | omega) (Zr.ur (by first | decide | omega) (Zr.ur (by first | decide | omega) (Zr.mono hZ (by first | decide | omega))))))))))))))⟩ dX0_init_84
def nR_66 (ρ : RT) : RT := u2 (u2 (u2 (u2 (u2 (u2 (ρ) 66 1 (some 67)) 66 2 (some 68)) 66 3 (some 69)) 66 4 (some 70)) 66 5 (some 71)) 66 0 (some 55)
def nI_66 (f : IT) : IT := u2 (u2 (u2 (u2 (u2 (u2 (u2 (u2 (wkI 67 (f)) 66 6 0) 66 7 0) 66 8 0) 66 9 (-1)) 66 10 (-1)) 66 11 0) 66 13 0) 66 14 0
def nG_66 (g : JT) : JT := u2 (wkG 67 (g)) 66 12 (-1)
theorem cn_66 (hZ : Zr 67 ρ f g) : Ct yX4_init cX4_init 2 none 2 5 10019 67 72 [.ref 66, .ref 55] ρ f g (fun r ρ' f' g' => r = none ∧ ρ' = nR_66 ρ ∧ f' = nI_66 f ∧ g' = nG_66 g ∧ Zr 72 ρ' f' g') := by
  refine Ct.ofV (by decide) rfl (Nat.le_of_ble_eq_true rfl) ?_
  refine V_al0n dX4_init_0 ?_
  refine V_objInit mo_X4_5 io_obj co_obj (by decide) (Nat.le_of_ble_eq_true rfl) dX4_init_1 ?_
  refine V_al0n dX4_init_4 ?_
  refine V_newZ kk67 (by decide) (by decide) cl_X4_11 it_10 in_10 (by first | decide | omega) (by first | decide | omega) dX4_init_5 (Zr.mono hZ (by first | decide | omega)) ?_
  refine V_dup dX4_init_8 rfl ?_
  refine V_callN (as := []) co_X10_init ii_X10_init mn_X4_13 mp_X10_init im_X10_init rfl dX4_init_9 rfl rfl (by decide) (by decide) (Nat.le_of_ble_eq_true rfl) (by decide) (by decide) rfl (cn_walk kk67 (by decide) (Zr.mono hZ (by first | decide | omega))) ?_
  rintro r9 ρ9 f9 g9 ⟨rfl, rfl, rfl, rfl, z9⟩
  refine V_putFR kk66 (by decide) fl_X4_14 rfl (by decide) dX4_init_12 ?_
  refine V_al0n dX4_init_15 ?_
  refine V_sipush dX4_init_16 rfl ?_
  refine V_newarrZ (ty := .int) kk68 (by decide) (by decide) ac_long rfl (by decide) (by decide) (by decide) dX4_init_19 (Zr.ur (by first | decide | omega) (Zr.mono z9 (by first | decide | omega))) ?_
  refine V_putR kk66 (by decide) fl_X4_18 rfl dX4_init_21 ?_
  refine V_al0n dX4_init_24 ?_
  refine V_sipush dX4_init_25 rfl ?_
  refine V_newarrZ (ty := .int) kk69 (by decide) (by decide) ac_long rfl (by decide) (by decide) (by decide) dX4_init_28 (Zr.ur (by first | decide | omega) (Zr.ur (by first | decide | omega) (Zr.mono z9 (by first | decide | omega)))) ?_
  refine V_putR kk66 (by decide) fl_X4_22 rfl dX4_init_30 ?_
  refine V_al0n dX4_init_33 ?_
  refine V_sipush dX4_init_34 rfl ?_
  refine V_newarrZ (ty := .int) kk70 (by decide) (by decide) ac_int rfl (by decide) (by decide) (by decide) dX4_init_37 (Zr.ur (by first | decide | omega) (Zr.ur (by first | decide | omega) (Zr.ur (by first | decide | omega) (Zr.mono z9 (by first | decide | omega))))) ?_
  refine V_putR kk66 (by decide) fl_X4_25 rfl dX4_init_39 ?_
  refine V_al0n dX4_init_42 ?_
  refine V_sipush dX4_init_43 rfl ?_
  refine V_newarrZ (ty := .int) kk71 (by decide) (by decide) ac_int rfl (by decide) (by decide) (by decide) dX4_init_46 (Zr.ur (by first | decide | omega) (Zr.ur (by first | decide | omega) (Zr.ur (by first | decide | omega) (Zr.ur (by first | decide | omega) (Zr.mono z9 (by first | decide | omega)))))) ?_
  refine V_putR kk66 (by decide) fl_X4_29 rfl dX4_init_48 ?_
  refine V_al0n dX4_init_51 ?_
  refine V_iconst dX4_init_52 ?_
  refine V_putI kk66 (by decide) fl_X4_32 rfl dX4_init_53 ?_
  refine V_al0n dX4_init_56 ?_
  refine V_iconst dX4_init_57 ?_
  refine V_putI kk66 (by decide) fl_X4_36 rfl dX4_init_58 ?_
  refine V_al0n dX4_init_61 ?_
  refine V_iconst dX4_init_62 ?_
  refine V_putI kk66 (by decide) fl_X4_39 rfl dX4_init_63 ?_
  refine V_al0n dX4_init_66 ?_
  refine V_iconst dX4_init_67 ?_
  refine V_putI kk66 (by decide) fl_X4_42 rfl dX4_init_68 ?_
  refine V_al0n dX4_init_71 ?_
  refine V_iconst dX4_init_72 ?_
  refine V_putI kk66 (by decide) fl_X4_45 rfl dX4_init_73 ?_
  refine V_al0n dX4_init_76 ?_
  refine V_iconst dX4_init_77 ?_
  refine V_putI kk66 (by decide) fl_X4_48 rfl dX4_init_78 ?_
  refine V_al0n dX4_init_81 ?_
  refine V_ldc2_w (a := -1) kl_X4_51 rfl dX4_init_82 ?_
  refine V_putJ kk66 (by decide) fl_X4_53 rfl dX4_init_85 ?_
  refine V_al0n dX4_init_88 ?_
  refine V_iconst dX4_init_89 ?_
  refine V_putI kk66 (by decide) fl_X4_57 rfl dX4_init_90 ?_
  refine V_al0n dX4_init_93 ?_
  refine V_iconst dX4_init_94 ?_
  refine V_putI kk66 (by decide) fl_X4_60 rfl dX4_init_95 ?_
  refine V_al0n dX4_init_98 ?_
  refine V_al1n dX4_init_99 ?_
  refine V_putFR kk66 (by decide) fl_X4_63 rfl (by decide) dX4_init_100 ?_
  exact V_return rfl ⟨rfl, rfl, rfl, rfl, (Zr.ug (by first | decide | omega) (Zr.ui (by first | decide | omega) (Zr.ui (by first | decide | omega) (Zr.ui (by first | decide | omega) (Zr.ui (by first | decide | omega) (Zr.ui (by first | decide | omega) (Zr.ui (by first | decide | omega) (Zr.ui (by first | decide | omega) (Zr.ui (by first | decide | omega) (Zr.ur (by first | decide | omega) (Zr.ur (by first | decide | omega) (Zr.ur (by first | decide | omega) (Zr.ur (by first | decide | omega) (Zr.ur (by first | decide | omega) (Zr.ur (by first | decide | omega) (Zr.mono z9 (by first | decide | omega)))))))))))))))))⟩ dX4_init_103
def nR_72 (ρ : RT) : RT := ρ
def nI_72 (f : IT) : IT := u2 (u2 (u2 (u2 (u2 (u2 (u2 (f) 72 0 (-1)) 72 1 0) 72 2 0) 72 3 0) 72 4 0) 72 5 0) 72 6 0
def nG_72 (g : JT) : JT := g
theorem cn_72 (hZ : Zr 73 ρ f g) : Ct yX8_init cX8_init 1 none 1 0 0 73 73 [.ref 72] ρ f g (fun r ρ' f' g' => r = none ∧ ρ' = nR_72 ρ ∧ f' = nI_72 f ∧ g' = nG_72 g ∧ Zr 73 ρ' f' g') := by
  refine Ct.ofV (by decide) rfl (Nat.le_of_ble_eq_true rfl) ?_
  refine V_al0n dX8_init_0 ?_
  refine V_objInit mo_X8_3 io_obj co_obj (by decide) (Nat.le_of_ble_eq_true rfl) dX8_init_1 ?_
  refine V_al0n dX8_init_4 ?_
  refine V_iconst dX8_init_5 ?_
  refine V_putI kk72 (by decide) fl_X8_9 rfl dX8_init_6 ?_
  refine V_al0n dX8_init_9 ?_
  refine V_iconst dX8_init_10 ?_
  refine V_putI kk72 (by decide) fl_X8_15 rfl dX8_init_11 ?_
  refine V_al0n dX8_init_14 ?_
  refine V_iconst dX8_init_15 ?_
  refine V_putI kk72 (by decide) fl_X8_18 rfl dX8_init_16 ?_
  refine V_al0n dX8_init_19 ?_
  refine V_iconst dX8_init_20 ?_
  refine V_putZ kk72 (by decide) fl_X8_21 rfl (by first | exact Or.inl rfl | exact Or.inr rfl | (unfold bz; split <;> simp)) dX8_init_21 ?_
  refine V_al0n dX8_init_24 ?_
  refine V_iconst dX8_init_25 ?_
  refine V_putI kk72 (by decide) fl_X8_25 rfl dX8_init_26 ?_
  refine V_al0n dX8_init_29 ?_
  refine V_iconst dX8_init_30 ?_
  refine V_putI kk72 (by decide) fl_X8_28 rfl dX8_init_31 ?_
  refine V_al0n dX8_init_34 ?_
  refine V_iconst dX8_init_35 ?_
  refine V_putI kk72 (by decide) fl_X8_31 rfl dX8_init_36 ?_
  exact V_return rfl ⟨rfl, rfl, rfl, rfl, (Zr.ui (by first | decide | omega) (Zr.ui (by first | decide | omega) (Zr.ui (by first | decide | omega) (Zr.ui (by first | decide | omega) (Zr.ui (by first | decide | omega) (Zr.ui (by first | decide | omega) (Zr.ui (by first | decide | omega) (Zr.mono hZ (by first | decide | omega)))))))))⟩ dX8_init_39
def nR_73 (ρ : RT) : RT := u2 (u2 (u2 (u2 (u2 (u2 (u2 (ρ) 73 0 (some 74)) 73 1 (some 75)) 73 2 (some 76)) 73 3 (some 77)) 73 6 (some 78)) 73 7 (some 79)) 73 12 (some 80)
def nI_73 (f : IT) : IT := u2 (u2 (u2 (u2 (u2 (u2 (f) 73 4 0) 73 5 (-1)) 73 8 0) 73 9 (-1)) 73 10 0) 73 11 0
def nG_73 (g : JT) : JT := g
theorem cn_73 (hZ : Zr 74 ρ f g) : Ct yX5_init cX5_init 1 none 1 7 135 74 81 [.ref 73] ρ f g (fun r ρ' f' g' => r = none ∧ ρ' = nR_73 ρ ∧ f' = nI_73 f ∧ g' = nG_73 g ∧ Zr 81 ρ' f' g') := by
  refine Ct.ofV (by decide) rfl (Nat.le_of_ble_eq_true rfl) ?_
  refine V_al0n dX5_init_0 ?_
  refine V_objInit mo_X5_3 io_obj co_obj (by decide) (Nat.le_of_ble_eq_true rfl) dX5_init_1 ?_
  refine V_al0n dX5_init_4 ?_
  refine V_bipush dX5_init_5 rfl ?_
  refine V_newarrZ (ty := .int) kk74 (by decide) (by decide) ac_int rfl (by decide) (by decide) (by decide) dX5_init_7 (Zr.mono hZ (by first | decide | omega)) ?_
  refine V_putFR kk73 (by decide) fl_X5_11 rfl (by decide) dX5_init_9 ?_
  refine V_al0n dX5_init_12 ?_
  refine V_bipush dX5_init_13 rfl ?_
  refine V_newarrZ (ty := .int) kk75 (by decide) (by decide) ac_int rfl (by decide) (by decide) (by decide) dX5_init_15 (Zr.ur (by first | decide | omega) (Zr.mono hZ (by first | decide | omega))) ?_
  refine V_putFR kk73 (by decide) fl_X5_15 rfl (by decide) dX5_init_17 ?_
  refine V_al0n dX5_init_20 ?_
  refine V_bipush dX5_init_21 rfl ?_
  refine V_newarrZ (ty := .int) kk76 (by decide) (by decide) ac_int rfl (by decide) (by decide) (by decide) dX5_init_23 (Zr.ur (by first | decide | omega) (Zr.ur (by first | decide | omega) (Zr.mono hZ (by first | decide | omega)))) ?_
  refine V_putFR kk73 (by decide) fl_X5_18 rfl (by decide) dX5_init_25 ?_
  refine V_al0n dX5_init_28 ?_
  refine V_bipush dX5_init_29 rfl ?_
  refine V_newarrZ (ty := .int) kk77 (by decide) (by decide) ac_boolean rfl (by decide) (by decide) (by decide) dX5_init_31 (Zr.ur (by first | decide | omega) (Zr.ur (by first | decide | omega) (Zr.ur (by first | decide | omega) (Zr.mono hZ (by first | decide | omega))))) ?_
  refine V_putFR kk73 (by decide) fl_X5_21 rfl (by decide) dX5_init_33 ?_
  refine V_al0n dX5_init_36 ?_
  refine V_iconst dX5_init_37 ?_
  refine V_putI kk73 (by decide) fl_X5_25 rfl dX5_init_38 ?_
  refine V_al0n dX5_init_41 ?_
  refine V_iconst dX5_init_42 ?_
  refine V_putI kk73 (by decide) fl_X5_29 rfl dX5_init_43 ?_
  refine V_al0n dX5_init_46 ?_
  refine V_bipush dX5_init_47 rfl ?_
  refine V_newarrZ (ty := .int) kk78 (by decide) (by decide) ac_int rfl (by decide) (by decide) (by decide) dX5_init_49 (Zr.ui (by first | decide | omega) (Zr.ui (by first | decide | omega) (Zr.ur (by first | decide | omega) (Zr.ur (by first | decide | omega) (Zr.ur (by first | decide | omega) (Zr.ur (by first | decide | omega) (Zr.mono hZ (by first | decide | omega)))))))) ?_
  refine V_putFR kk73 (by decide) fl_X5_32 rfl (by decide) dX5_init_51 ?_
  refine V_al0n dX5_init_54 ?_
  refine V_iconst dX5_init_55 ?_
  refine V_newarrZ (ty := .int) kk79 (by decide) (by decide) ac_int rfl (by decide) (by decide) (by decide) dX5_init_56 (Zr.ui (by first | decide | omega) (Zr.ui (by first | decide | omega) (Zr.ur (by first | decide | omega) (Zr.ur (by first | decide | omega) (Zr.ur (by first | decide | omega) (Zr.ur (by first | decide | omega) (Zr.ur (by first | decide | omega) (Zr.mono hZ (by first | decide | omega))))))))) ?_
  refine V_putFR kk73 (by decide) fl_X5_35 rfl (by decide) dX5_init_58 ?_
  refine V_al0n dX5_init_61 ?_
  refine V_iconst dX5_init_62 ?_
  refine V_putZ kk73 (by decide) fl_X5_38 rfl (by first | exact Or.inl rfl | exact Or.inr rfl | (unfold bz; split <;> simp)) dX5_init_63 ?_
  refine V_al0n dX5_init_66 ?_
  refine V_iconst dX5_init_67 ?_
  refine V_putI kk73 (by decide) fl_X5_42 rfl dX5_init_68 ?_
  refine V_al0n dX5_init_71 ?_
  refine V_iconst dX5_init_72 ?_
  refine V_putI kk73 (by decide) fl_X5_45 rfl dX5_init_73 ?_
  refine V_al0n dX5_init_76 ?_
  refine V_iconst dX5_init_77 ?_
  refine V_putI kk73 (by decide) fl_X5_48 rfl dX5_init_78 ?_
  refine V_al0n dX5_init_81 ?_
  refine V_iconst dX5_init_82 ?_
  refine V_newarrZ (ty := .int) kk80 (by decide) (by decide) ac_int rfl (by decide) (by decide) (by decide) dX5_init_83 (Zr.ui (by first | decide | omega) (Zr.ui (by first | decide | omega) (Zr.ui (by first | decide | omega) (Zr.ui (by first | decide | omega) (Zr.ui (by first | decide | omega) (Zr.ui (by first | decide | omega) (Zr.ur (by first | decide | omega) (Zr.ur (by first | decide | omega) (Zr.ur (by first | decide | omega) (Zr.ur (by first | decide | omega) (Zr.ur (by first | decide | omega) (Zr.ur (by first | decide | omega) (Zr.mono hZ (by first | decide | omega)))))))))))))) ?_
  refine V_putFR kk73 (by decide) fl_X5_51 rfl (by decide) dX5_init_85 ?_
  exact V_return rfl ⟨rfl, rfl, rfl, rfl, (Zr.ui (by first | decide | omega) (Zr.ui (by first | decide | omega) (Zr.ui (by first | decide | omega) (Zr.ui (by first | decide | omega) (Zr.ui (by first | decide | omega) (Zr.ui (by first | decide | omega) (Zr.ur (by first | decide | omega) (Zr.ur (by first | decide | omega) (Zr.ur (by first | decide | omega) (Zr.ur (by first | decide | omega) (Zr.ur (by first | decide | omega) (Zr.ur (by first | decide | omega) (Zr.ur (by first | decide | omega) (Zr.mono hZ (by first | decide | omega)))))))))))))))⟩ dX5_init_88
def nR_81 (ρ : RT) : RT := u2 (u2 (ρ) 81 1 (some 82)) 81 2 (some 83)
def nI_81 (f : IT) : IT := u2 (f) 81 0 0
def nG_81 (g : JT) : JT := g
theorem cn_81 (hZ : Zr 82 ρ f g) : Ct yX9_init cX9_init 1 none 1 2 10 82 84 [.ref 81] ρ f g (fun r ρ' f' g' => r = none ∧ ρ' = nR_81 ρ ∧ f' = nI_81 f ∧ g' = nG_81 g ∧ Zr 84 ρ' f' g') := by
  refine Ct.ofV (by decide) rfl (Nat.le_of_ble_eq_true rfl) ?_
  refine V_al0n dX9_init_0 ?_
  refine V_objInit mo_X9_3 io_obj co_obj (by decide) (Nat.le_of_ble_eq_true rfl) dX9_init_1 ?_
  refine V_al0n dX9_init_4 ?_
  refine V_iconst dX9_init_5 ?_
  refine V_putI kk81 (by decide) fl_X9_9 rfl dX9_init_6 ?_
  refine V_al0n dX9_init_9 ?_
  refine V_iconst dX9_init_10 ?_
  refine V_newarrZ (ty := .int) kk82 (by decide) (by decide) ac_int rfl (by decide) (by decide) (by decide) dX9_init_11 (Zr.ui (by first | decide | omega) (Zr.mono hZ (by first | decide | omega))) ?_
  refine V_putFR kk81 (by decide) fl_X9_15 rfl (by decide) dX9_init_13 ?_
  refine V_al0n dX9_init_16 ?_
  refine V_iconst dX9_init_17 ?_
  refine V_newarrZ (ty := .int) kk83 (by decide) (by decide) ac_int rfl (by decide) (by decide) (by decide) dX9_init_18 (Zr.ui (by first | decide | omega) (Zr.ur (by first | decide | omega) (Zr.mono hZ (by first | decide | omega)))) ?_
  refine V_putFR kk81 (by decide) fl_X9_19 rfl (by decide) dX9_init_20 ?_
  exact V_return rfl ⟨rfl, rfl, rfl, rfl, (Zr.ui (by first | decide | omega) (Zr.ur (by first | decide | omega) (Zr.ur (by first | decide | omega) (Zr.mono hZ (by first | decide | omega)))))⟩ dX9_init_23
end OPEN1

