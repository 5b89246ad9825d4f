/-! splits that are told, and what fits them -/
def ntdF (m p k x : Int) (f : IT) : IT := u2 (u2 (u2 (u2 (u2 f 142 (4 * (f 104 90).toNat) m) 142 (4 * (f 104 90).toNat + 1) p) 142 (4 * (f 104 90).toNat + 2) k) 142 (4 * (f 104 90).toNat + 3) x) 104 90 (f 104 90 + 1)
theorem c_noted {ρ : RT} {f f0 : IT} {g : JT} (hρ : Fx ρ) (km : KM f0 f) (h90 : 0 ≤ f0 104 90 ∧ f0 104 90 < 24) {m p k x : Int} :
    C_X12_noted [.ref 104, .int (iz m), .int (iz p), .int (iz k), .int (iz x)] ρ f g (fun r ρ' f' g' => r = some (.int (iz (f0 104 90))) ∧ ρ' = ρ ∧ KM (ntdF m p k x f0) f' ∧ g' = g) := by
  obtain ⟨n, en⟩ : ∃ n : Nat, f0 104 90 = n := ⟨(f0 104 90).toNat, by omega⟩
  have e90 : f 104 90 = (n : Int) := (km 104 90 rfl).trans en
  refine Ct.ofV (by decide) rfl (Nat.le_of_ble_eq_true rfl) ?_
  refine V_al0n dX12_noted_0 ?_
  refine V_getR kk104 (by decide) fl_X12_130 (fx_104_92 hρ) dX12_noted_1 ?_
  refine V_iconst dX12_noted_4 ?_
  refine V_al0n dX12_noted_5 ?_
  refine V_getI kk104 (by decide) fl_X12_298 e90 dX12_noted_6 ?_
  refine V_imul dX12_noted_9 ?_
  refine V_il1n dX12_noted_10 ?_
  refine V_iast (k := 4 * n) kk142 (by decide) (by first | rfl | omega) (by omega) (by first | decide | assumption | omega) dX12_noted_11 ?_
  refine V_al0n dX12_noted_12 ?_
  refine V_getR kk104 (by decide) fl_X12_130 (fx_104_92 hρ) dX12_noted_13 ?_
  refine V_iconst dX12_noted_16 ?_
  refine V_al0n dX12_noted_17 ?_
  refine V_getI kk104 (by decide) fl_X12_298 (u2_n (by omega) e90) dX12_noted_18 ?_
  refine V_imul dX12_noted_21 ?_
  refine V_iconst dX12_noted_22 ?_
  refine V_iadd dX12_noted_23 ?_
  refine V_il2n dX12_noted_24 ?_
  refine V_iast (k := 4 * n + 1) kk142 (by decide) (by first | rfl | omega) (by omega) (by first | decide | assumption | omega) dX12_noted_25 ?_
  refine V_al0n dX12_noted_26 ?_
  refine V_getR kk104 (by decide) fl_X12_130 (fx_104_92 hρ) dX12_noted_27 ?_
  refine V_iconst dX12_noted_30 ?_
  refine V_al0n dX12_noted_31 ?_
  refine V_getI kk104 (by decide) fl_X12_298 (u2_n (by omega) (u2_n (by omega) e90)) dX12_noted_32 ?_
  refine V_imul dX12_noted_35 ?_
  refine V_iconst dX12_noted_36 ?_
  refine V_iadd dX12_noted_37 ?_
  refine V_il3n dX12_noted_38 ?_
  refine V_iast (k := 4 * n + 2) kk142 (by decide) (by first | rfl | omega) (by omega) (by first | decide | assumption | omega) dX12_noted_39 ?_
  refine V_al0n dX12_noted_40 ?_
  refine V_getR kk104 (by decide) fl_X12_130 (fx_104_92 hρ) dX12_noted_41 ?_
  refine V_iconst dX12_noted_44 ?_
  refine V_al0n dX12_noted_45 ?_
  refine V_getI kk104 (by decide) fl_X12_298 (u2_n (by omega) (u2_n (by omega) (u2_n (by omega) e90))) dX12_noted_46 ?_
  refine V_imul dX12_noted_49 ?_
  refine V_iconst dX12_noted_50 ?_
  refine V_iadd dX12_noted_51 ?_
  refine V_il4 dX12_noted_52 ?_
  refine V_iast (k := 4 * n + 3) kk142 (by decide) (by first | rfl | omega) (by omega) (by first | decide | assumption | omega) dX12_noted_54 ?_
  refine V_al0n dX12_noted_55 ?_
  refine V_dup dX12_noted_56 rfl ?_
  refine V_getI kk104 (by decide) fl_X12_298 (u2_n (by omega) (u2_n (by omega) (u2_n (by omega) (u2_n (by omega) e90)))) dX12_noted_57 ?_
  refine V_iconst dX12_noted_60 ?_
  refine V_iadd dX12_noted_61 ?_
  refine V_putI kk104 (by decide) fl_X12_298 rfl dX12_noted_62 ?_
  refine V_al0n dX12_noted_65 ?_
  refine V_getI kk104 (by decide) fl_X12_298 u2_s dX12_noted_66 ?_
  refine V_iconst dX12_noted_69 ?_
  refine V_isub dX12_noted_70 ?_
  exact V_ireturn rfl ⟨by rw [en]; congr 3; omega, rfl, by unfold ntdF; rw [en, Int.toNat_natCast]; exact km_cg (km_cg (km_cg (km_cg (km_cg km)))), rfl⟩ dX12_noted_71
def notO (T : TT) (m p k x : Int) (f : IT) : Bool := decide (f 104 90 ≠ 24) && okM T m && okP T p && okL T k && zin x 0 99999
def notA (T : TT) (m p k x : Int) (f : IT) : Int := if notO T m p k x f = true then f 104 90 else -1
def notF (T : TT) (m p k x : Int) (f : IT) : IT := if notO T m p k x f = true then ntdF m p k x f else f
theorem c_mnote {T : TT} {ρ : RT} {f : IT} {g : JT} (hρ : Fx ρ) (hT : MT T f) (hk : TOK T) (h90 : 0 ≤ f 104 90 ∧ f 104 90 ≤ 24) {m p k x : Int} (rm : ri m) (rp : ri p) (rk : ri k) (rx : ri x) :
    C_X12_note [.ref 104, .int (iz m), .int (iz p), .int (iz k), .int (iz x)] ρ f g (fun r ρ' f' g' => r = some (.int (iz (notA T m p k x f))) ∧ ρ' = ρ ∧ KM (notF T m p k x f) f' ∧ KM g g') := by
  have k0 : KM f (u2 f 104 2 0) := KM.u2 rfl KM.rf
  have hT1 : MT T (u2 f 104 2 0) := hT.km k0
  have h6 := hk.la
  have h5 := hk.me
  have h4 := hk.pl
  refine Ct.ofV (by decide) rfl (Nat.le_of_ble_eq_true rfl) ?_
  refine V_al0n dX12_note_0 ?_
  refine V_iconst dX12_note_1 ?_
  refine V_putI kk104 (by decide) fl_X12_154 rfl dX12_note_2 ?_
  refine V_al0n dX12_note_5 ?_
  refine V_getI kk104 (by decide) fl_X12_298 (u2_n (by decide) rfl) dX12_note_6 ?_
  refine V_bipush dX12_note_9 rfl ?_
  refine V_icmp_eq (tgt := 49) dX12_note_11 rfl (by first | assumption | (unfold ri at *; omega)) (by first | assumption | (unfold ri at *; omega)) (fun b11 => ?_) (fun b11 => ?_)
  · have eo : notO T m p k x f = false := by unfold notO; simp [b11]
    refine V_iconst dX12_note_49 ?_
    refine V_goto (tgt := 62) dX12_note_50 rfl ?_
    exact V_ireturn rfl ⟨by unfold notA; rw [eo]; rfl, rfl, by unfold notF; rw [eo]; first | exact k0 | exact k59, KM.rf⟩ dX12_note_62
  · refine V_al0n dX12_note_14 ?_
    refine V_il1n dX12_note_15 ?_
    refine V_callV (as := [_]) ml_X12_462 im_X12_isMan se_X12_isMan kk104 (by decide) (by decide) dX12_note_16 rfl rfl (by decide) (by decide) (Nat.le_of_ble_eq_true rfl) (by decide) (by decide) rfl (c_isMan rm ((hT1 104 13 rfl).trans h5.1) (by unfold ri; omega)) ?_
    refine pq4 ?_
    refine V_bt (tgt := 49) dX12_note_19 rfl (fun b19 => ?_) (fun b19 => ?_)
    · have eo : notO T m p k x f = false := by unfold notO okM; simp only [b19]; simp
      refine V_iconst dX12_note_49 ?_
      refine V_goto (tgt := 62) dX12_note_50 rfl ?_
      exact V_ireturn rfl ⟨by unfold notA; rw [eo]; rfl, rfl, by unfold notF; rw [eo]; first | exact k0 | exact k59, KM.rf⟩ dX12_note_62
    · refine V_al0n dX12_note_22 ?_
      refine V_il2n dX12_note_23 ?_
      refine V_callV (as := [_]) ml_X12_456 im_X12_isPlan se_X12_isPlan kk104 (by decide) (by decide) dX12_note_24 rfl rfl (by decide) (by decide) (Nat.le_of_ble_eq_true rfl) (by decide) (by decide) rfl (c_isPlan rp ((hT1 104 15 rfl).trans h4.1) (by unfold ri; omega)) ?_
      refine pq4 ?_
      refine V_bt (tgt := 49) dX12_note_27 rfl (fun b27 => ?_) (fun b27 => ?_)
      · have eo : notO T m p k x f = false := by unfold notO okP; simp only [b27]; simp
        refine V_iconst dX12_note_49 ?_
        refine V_goto (tgt := 62) dX12_note_50 rfl ?_
        exact V_ireturn rfl ⟨by unfold notA; rw [eo]; rfl, rfl, by unfold notF; rw [eo]; first | exact k0 | exact k59, KM.rf⟩ dX12_note_62
      · refine V_al0n dX12_note_30 ?_
        refine V_il3n dX12_note_31 ?_
        refine V_callV (as := [_]) ml_X12_450 im_X12_isLane se_X12_isLane kk104 (by decide) (by decide) dX12_note_32 rfl rfl (by decide) (by decide) (Nat.le_of_ble_eq_true rfl) (by decide) (by decide) rfl (c_isLane rk ((hT1 104 12 rfl).trans h6.1) (by unfold ri; omega)) ?_
        refine pq4 ?_
        refine V_bt (tgt := 49) dX12_note_35 rfl (fun b35 => ?_) (fun b35 => ?_)
        · have eo : notO T m p k x f = false := by unfold notO okL; simp only [b35]; simp
          refine V_iconst dX12_note_49 ?_
          refine V_goto (tgt := 62) dX12_note_50 rfl ?_
          exact V_ireturn rfl ⟨by unfold notA; rw [eo]; rfl, rfl, by unfold notF; rw [eo]; first | exact k0 | exact k59, KM.rf⟩ dX12_note_62
        · refine V_il4 dX12_note_38 ?_
          refine V_iconst dX12_note_40 ?_
          refine V_ldc (a := 99999) kc_X12_192 rfl dX12_note_41 ?_
          refine V_callS (as := [_, _, _]) ml_X12_199 sm_X12_isIn dX12_note_43 rfl rfl (by decide) (by decide) (Nat.le_of_ble_eq_true rfl) (by decide) (by decide) rfl (c_isIn rx (by unfold ri; omega) (by unfold ri; omega)) ?_
          refine pq4 ?_
          refine V_bf (tgt := 53) dX12_note_46 rfl (fun b46 => ?_) (fun b46 => ?_)
          · have eo : notO T m p k x f = true := by unfold notO okM okP okL; simp only [b19, b27, b35, b46]; simp [b11]
            refine V_al0n dX12_note_53 ?_
            refine V_il1n dX12_note_54 ?_
            refine V_il2n dX12_note_55 ?_
            refine V_il3n dX12_note_56 ?_
            refine V_il4 dX12_note_57 ?_
            refine V_callV (as := [_, _, _, _]) ml_X12_558 im_X12_noted se_X12_noted kk104 (by decide) (by decide) dX12_note_59 rfl rfl (by decide) (by decide) (Nat.le_of_ble_eq_true rfl) (by decide) (by decide) rfl (c_noted hρ k0 (by omega)) ?_
            rintro r59 ρ59 f59 g59 ⟨rfl, s59_0, k59, s59_1⟩
            obtain rfl := s59_0.symm
            obtain rfl := s59_1.symm
            exact V_ireturn rfl ⟨by unfold notA; rw [eo]; rfl, rfl, by unfold notF; rw [eo]; first | exact k0 | exact k59, KM.rf⟩ dX12_note_62
          · have eo : notO T m p k x f = false := by unfold notO; simp only [b46]; simp
            refine V_iconst dX12_note_49 ?_
            refine V_goto (tgt := 62) dX12_note_50 rfl ?_
            exact V_ireturn rfl ⟨by unfold notA; rw [eo]; rfl, rfl, by unfold notF; rw [eo]; first | exact k0 | exact k59, KM.rf⟩ dX12_note_62
def strO (n : Int) (f : IT) : Bool := decide (f 104 90 ≠ 24) && decide (0 ≤ n ∧ n < f 104 90)
def strA (n : Int) (f : IT) : Int := if strO n f = true then f 104 90 else -1
def strF (n : Int) (f : IT) : IT := if strO n f = true then ntdF (-1) 0 0 n f else f
theorem c_mstrike {ρ : RT} {f : IT} {g : JT} (hρ : Fx ρ) (h90 : 0 ≤ f 104 90 ∧ f 104 90 ≤ 24) {n : Int} (rn_ : ri n) :
    C_X12_strike [.ref 104, .int (iz n)] ρ f g (fun r ρ' f' g' => r = some (.int (iz (strA n f))) ∧ ρ' = ρ ∧ KM (strF n f) f' ∧ KM g g') := by
  have k0 : KM f (u2 f 104 2 0) := KM.u2 rfl KM.rf
  refine Ct.ofV (by decide) rfl (Nat.le_of_ble_eq_true rfl) ?_
  refine V_al0n dX12_strike_0 ?_
  refine V_iconst dX12_strike_1 ?_
  refine V_putI kk104 (by decide) fl_X12_154 rfl dX12_strike_2 ?_
  refine V_al0n dX12_strike_5 ?_
  refine V_getI kk104 (by decide) fl_X12_298 (u2_n (by decide) rfl) dX12_strike_6 ?_
  refine V_bipush dX12_strike_9 rfl ?_
  refine V_icmp_eq (tgt := 26) dX12_strike_11 rfl (by first | assumption | (unfold ri at *; omega)) (by first | assumption | (unfold ri at *; omega)) (fun b11 => ?_) (fun b11 => ?_)
  · have eo : strO n f = false := by unfold strO; simp [b11]
    refine V_iconst dX12_strike_26 ?_
    refine V_goto (tgt := 38) dX12_strike_27 rfl ?_
    exact V_ireturn rfl ⟨by unfold strA; rw [eo]; rfl, rfl, by unfold strF; rw [eo]; first | exact k0 | exact k35, KM.rf⟩ dX12_strike_38
  · refine V_il1n dX12_strike_14 ?_
    refine V_if_lt (tgt := 26) dX12_strike_15 rfl (by first | assumption | (unfold ri at *; omega)) (fun b15 => ?_) (fun b15 => ?_)
    · have eo : strO n f = false := by unfold strO; simp; omega
      refine V_iconst dX12_strike_26 ?_
      refine V_goto (tgt := 38) dX12_strike_27 rfl ?_
      exact V_ireturn rfl ⟨by unfold strA; rw [eo]; rfl, rfl, by unfold strF; rw [eo]; first | exact k0 | exact k35, KM.rf⟩ dX12_strike_38
    · refine V_il1n dX12_strike_18 ?_
      refine V_al0n dX12_strike_19 ?_
      refine V_getI kk104 (by decide) fl_X12_298 (u2_n (by decide) rfl) dX12_strike_20 ?_
      refine V_icmp_lt (tgt := 30) dX12_strike_23 rfl (by first | assumption | (unfold ri at *; omega)) (by first | assumption | (unfold ri at *; omega)) (fun b23 => ?_) (fun b23 => ?_)
      · have eo : strO n f = true := by unfold strO; simp; omega
        refine V_al0n dX12_strike_30 ?_
        refine V_iconst dX12_strike_31 ?_
        refine V_iconst dX12_strike_32 ?_
        refine V_iconst dX12_strike_33 ?_
        refine V_il1n dX12_strike_34 ?_
        refine V_callV (as := [_, _, _, _]) ml_X12_558 im_X12_noted se_X12_noted kk104 (by decide) (by decide) dX12_strike_35 rfl rfl (by decide) (by decide) (Nat.le_of_ble_eq_true rfl) (by decide) (by decide) rfl (c_noted hρ k0 (by omega)) ?_
        rintro r35 ρ35 f35 g35 ⟨rfl, s35_0, k35, s35_1⟩
        obtain rfl := s35_0.symm
        obtain rfl := s35_1.symm
        exact V_ireturn rfl ⟨by unfold strA; rw [eo]; rfl, rfl, by unfold strF; rw [eo]; first | exact k0 | exact k35, KM.rf⟩ dX12_strike_38
      · have eo : strO n f = false := by unfold strO; simp; omega
        refine V_iconst dX12_strike_26 ?_
        refine V_goto (tgt := 38) dX12_strike_27 rfl ?_
        exact V_ireturn rfl ⟨by unfold strA; rw [eo]; rfl, rfl, by unfold strF; rw [eo]; first | exact k0 | exact k35, KM.rf⟩ dX12_strike_38
def knoF (n : Int) (f : IT) : IT := if zin n (-1) (f 104 90) = true then u2 f 104 91 n else f
theorem c_mknown {ρ : RT} {f : IT} {g : JT} (h90 : 0 ≤ f 104 90 ∧ f 104 90 ≤ 24) {n : Int} (rn_ : ri n) :
    C_X12_known [.ref 104, .int (iz n)] ρ f g (fun r ρ' f' g' => r = some (.int (iz (bz (zin n (-1) (f 104 90))))) ∧ ρ' = ρ ∧ KM (knoF n f) f' ∧ KM g g') := by
  have k0 : KM f (u2 f 104 2 0) := KM.u2 rfl KM.rf
  refine Ct.ofV (by decide) rfl (Nat.le_of_ble_eq_true rfl) ?_
  refine V_al0n dX12_known_0 ?_
  refine V_iconst dX12_known_1 ?_
  refine V_putI kk104 (by decide) fl_X12_154 rfl dX12_known_2 ?_
  refine V_il1n dX12_known_5 ?_
  refine V_iconst dX12_known_6 ?_
  refine V_al0n dX12_known_7 ?_
  refine V_getI kk104 (by decide) fl_X12_298 (u2_n (by decide) rfl) dX12_known_8 ?_
  refine V_callS (as := [_, _, _]) ml_X12_199 sm_X12_isIn dX12_known_11 rfl rfl (by decide) (by decide) (Nat.le_of_ble_eq_true rfl) (by decide) (by decide) rfl (c_isIn rn_ (by unfold ri; omega) (by unfold ri; omega)) ?_
  refine pq4 ?_
  refine V_bf (tgt := 19) dX12_known_14 rfl (fun b14 => ?_) (fun b14 => ?_)
  · refine V_al0n dX12_known_19 ?_
    refine V_il1n dX12_known_20 ?_
    refine V_putI kk104 (by decide) fl_X12_127 rfl dX12_known_21 ?_
    refine V_iconst dX12_known_24 ?_
    exact V_zreturn rfl (by first | exact Or.inl rfl | exact Or.inr rfl | (unfold bz; split <;> simp)) ⟨by simp [*, bz], rfl, by unfold knoF; simp [*] <;> first | exact k0 | exact km_cg k0, KM.rf⟩ dX12_known_25
  · refine V_iconst dX12_known_17 ?_
    exact V_zreturn rfl (by first | exact Or.inl rfl | exact Or.inr rfl | (unfold bz; split <;> simp)) ⟨by simp [*, bz], rfl, by unfold knoF; simp [*] <;> first | exact k0 | exact km_cg k0, KM.rf⟩ dX12_known_18
def NTK (T : TT) (f : IT) : Prop := (0 ≤ f 104 90 ∧ f 104 90 ≤ 24) ∧ (-1 ≤ f 104 91 ∧ f 104 91 ≤ f 104 90) ∧ ∀ i : Nat, (i : Int) < f 104 90 → (f 142 (4 * i) = -1 ∧ 0 ≤ f 142 (4 * i + 3) ∧ f 142 (4 * i + 3) < i) ∨ ((0 ≤ f 142 (4 * i) ∧ f 142 (4 * i) < (nMe T : Int)) ∧ (0 ≤ f 142 (4 * i + 1) ∧ f 142 (4 * i + 1) < (nPl T : Int)) ∧ (0 ≤ f 142 (4 * i + 2) ∧ f 142 (4 * i + 2) < (nLa T : Int)) ∧ (0 ≤ f 142 (4 * i + 3) ∧ f 142 (4 * i + 3) ≤ 99999))
def kB (f : IT) : Nat := (if f 104 91 < 0 then f 104 90 else f 104 91).toNat
theorem kB_rng {T : TT} {f : IT} (h : NTK T f) : (if f 104 91 < 0 then f 104 90 else f 104 91) = (kB f : Int) ∧ (kB f : Int) ≤ f 104 90 ∧ kB f ≤ 24 := by
  obtain ⟨h1, h2, -⟩ := h
  unfold kB
  split <;> omega
theorem NTK.km {T : TT} {f f' : IT} (h : NTK T f) (hk : KM f f') : NTK T f' := by
  unfold NTK at *
  rw [hk 104 90 rfl, hk 104 91 rfl]
  refine ⟨h.1, h.2.1, fun i hi => ?_⟩
  rw [hk 142 _ rfl, hk 142 _ rfl, hk 142 _ rfl, hk 142 _ rfl]
  exact h.2.2 i hi
def cstp (r : Nat → Int) (i : Nat) (c : Nat → Bool) : Nat → Bool := if (c i && decide (r (4 * i) < 0)) = true then fun j => if j = (r (4 * i + 3)).toNat then false else c j else c
def cRun (r : Nat → Int) : Nat → (Nat → Bool) → Nat → Bool
  | 0, c => c
  | i + 1, c => cRun r i (cstp r i c)
def K43 (f f' : IT) : Prop := ∀ a k, a ≠ 143 → f' a k = f a k
theorem K43.km {f f' : IT} (h : K43 f f') : KM f f' := fun a k hs => h a k (fun q => by subst q; cases hs)
theorem c_known0 {T : TT} {ρ : RT} {f f0 : IT} {g : JT} (hN : NTK T f0) (km : KM f0 f) : C_X12_knownBy [.ref 104] ρ f g (fun r ρ' f' g' => r = some (.int (iz (kB f0 : Int))) ∧ ρ' = ρ ∧ f' = f ∧ g' = g) := by
  have h1 := kB_rng hN
  rw [← h1.1]
  exact c_knownBy (km 104 91 rfl) (km 104 90 rfl) (by have := hN.1; have := hN.2.1; unfold ri; omega)
theorem w_lc2 {T : TT} {Q : QT} {ρ : RT} {f0 : IT} {g : JT} (hρ : Fx ρ) (hN : NTK T f0) (hX : ∀ f, K43 f0 f → (∀ j, j < kB f0 → f 143 j = 1) → V_X12_layCounts Q 23 [.ref 104, .null] [] ρ f g) (i : Nat) (hi : i ≤ kB f0) (f : IT) (hf : K43 f0 f) (h1 : ∀ j, j < i → f 143 j = 1) : V_X12_layCounts Q 2 [.ref 104, .int (iz (i : Int))] [] ρ f g := by
  have hK := kB_rng hN
  refine V_il1n dX12_layCounts_2 ?_
  refine V_al0n dX12_layCounts_3 ?_
  refine V_callV (as := []) ml_X12_561 im_X12_knownBy se_X12_knownBy kk104 (by decide) (by decide) dX12_layCounts_4 rfl rfl (by decide) (by decide) (Nat.le_of_ble_eq_true rfl) (by decide) (by decide) rfl (c_known0 hN hf.km) ?_
  refine pq4 ?_
  refine V_icmp_ge (tgt := 23) dX12_layCounts_7 rfl (by first | assumption | (unfold ri at *; omega)) (by first | assumption | (unfold ri at *; omega)) (fun b7 => ?_) (fun b7 => ?_)
  · exact V_weak (by repeat (first | exact wk_n | refine wk_c (Or.inr rfl) ?_ | refine wk_c (Or.inl rfl) ?_)) (hX f hf (fun j hj => h1 j (by omega)))
  · refine V_al0n dX12_layCounts_10 ?_
    refine V_getR kk104 (by decide) fl_X12_133 (fx_104_93 hρ) dX12_layCounts_11 ?_
    refine V_il1n dX12_layCounts_14 ?_
    refine V_iconst dX12_layCounts_15 ?_
    refine V_zast (k := i) kk143 (by decide) (by first | rfl | omega) (by omega) (by first | decide | assumption | omega) (by first | exact Or.inl rfl | exact Or.inr rfl | (unfold bz; split <;> simp)) dX12_layCounts_16 ?_
    refine V_inc1 dX12_layCounts_17 (by decide) rfl ?_
    refine V_goto (tgt := 2) dX12_layCounts_20 rfl ?_
    exact w_lc2 hρ hN hX (i + 1) (by omega) _ (fun a k ha => (u2_o (by omega)).trans (hf a k ha)) (fun j hj => by by_cases e : j = i; (rw [e]; exact u2_s); exact u2_n (by omega) (h1 j (by omega)))
termination_by kB f0 - i
theorem w_lc30 {T : TT} {Q : QT} {ρ : RT} {f0 : IT} {g : JT} (hρ : Fx ρ) (hk : TOK T) (hN : NTK T f0) {C : Nat → Bool} (hX : ∀ f, K43 f0 f → (∀ j, j < kB f0 → f 143 j = bz (C j)) → Q none ρ f g) (i : Nat) (hi : i ≤ kB f0) (f : IT) (hf : K43 f0 f) (c : Nat → Bool) (h1 : ∀ j, j < kB f0 → f 143 j = bz (c j)) (hC : C = cRun (f0 142) i c) : V_X12_layCounts Q 30 [.ref 104, .int (iz ((i : Int) - 1))] [] ρ f g := by
  have hK := kB_rng hN
  by_cases e : i = 0
  · subst e
    simp only [cRun] at hC
    subst hC
    refine V_il1n dX12_layCounts_30 ?_
    refine V_if_lt (tgt := 76) dX12_layCounts_31 rfl (by first | assumption | (unfold ri at *; omega)) (fun b31 => ?_) (fun b31 => ?_)
    · exact V_return rfl (hX f hf h1) dX12_layCounts_76
    · exfalso; omega
  · obtain ⟨j, rfl⟩ : ∃ j, i = j + 1 := ⟨i - 1, by omega⟩
    have hn := hN.2.2 j (by omega)
    have h5 := hk.me
    simp only [cRun] at hC
    have e0 : f 142 (4 * j) = f0 142 (4 * j) := hf 142 _ (by omega)
    have e3 : f 142 (4 * j + 3) = f0 142 (4 * j + 3) := hf 142 _ (by omega)
    refine V_il1n dX12_layCounts_30 ?_
    refine V_if_lt (tgt := 76) dX12_layCounts_31 rfl (by first | assumption | (unfold ri at *; omega)) (fun b31 => ?_) (fun b31 => ?_)
    · exfalso; omega
    · refine V_al0n dX12_layCounts_34 ?_
      refine V_getR kk104 (by decide) fl_X12_133 (fx_104_93 hρ) dX12_layCounts_35 ?_
      refine V_il1n dX12_layCounts_38 ?_
      refine V_zald (k := j) kk143 (by decide) (by first | rfl | omega) (by omega) (by first | decide | assumption | omega) (h1 j (by omega)) dX12_layCounts_39 ?_
      refine V_bt (tgt := 70) dX12_layCounts_40 rfl (fun b40 => ?_) (fun b40 => ?_)
      · refine V_inc1 dX12_layCounts_70 (by decide) rfl ?_
        refine V_goto (tgt := 30) dX12_layCounts_73 rfl ?_
        have hs : cstp (f0 142) j c = c := by unfold cstp; rw [if_neg (by simp; intros; simp_all; try omega)]
        rw [hs] at hC
        have := w_lc30 hρ hk hN hX j (by omega) f hf c h1 hC
        rw [show ((j + 1 : Nat) : Int) - 1 + -1 = (j : Int) - 1 by omega]
        exact this
      · refine V_al0n dX12_layCounts_43 ?_
        refine V_getR kk104 (by decide) fl_X12_130 (fx_104_92 hρ) dX12_layCounts_44 ?_
        refine V_iconst dX12_layCounts_47 ?_
        refine V_il1n dX12_layCounts_48 ?_
        refine V_imul dX12_layCounts_49 ?_
        refine V_iald (k := 4 * j) kk142 (by decide) (by first | rfl | omega) (by omega) (by first | decide | assumption | omega) e0 dX12_layCounts_50 ?_
        refine V_if_ge (tgt := 70) dX12_layCounts_51 rfl (by first | assumption | (unfold ri at *; omega)) (fun b51 => ?_) (fun b51 => ?_)
        · refine V_inc1 dX12_layCounts_70 (by decide) rfl ?_
          refine V_goto (tgt := 30) dX12_layCounts_73 rfl ?_
          have hs : cstp (f0 142) j c = c := by unfold cstp; rw [if_neg (by simp; intros; simp_all; try omega)]
          rw [hs] at hC
          have := w_lc30 hρ hk hN hX j (by omega) f hf c h1 hC
          rw [show ((j + 1 : Nat) : Int) - 1 + -1 = (j : Int) - 1 by omega]
          exact this
        · refine V_al0n dX12_layCounts_54 ?_
          refine V_getR kk104 (by decide) fl_X12_133 (fx_104_93 hρ) dX12_layCounts_55 ?_
          refine V_al0n dX12_layCounts_58 ?_
          refine V_getR kk104 (by decide) fl_X12_130 (fx_104_92 hρ) dX12_layCounts_59 ?_
          refine V_iconst dX12_layCounts_62 ?_
          refine V_il1n dX12_layCounts_63 ?_
          refine V_imul dX12_layCounts_64 ?_
          refine V_iconst dX12_layCounts_65 ?_
          refine V_iadd dX12_layCounts_66 ?_
          refine V_iald (k := 4 * j + 3) kk142 (by decide) (by first | rfl | omega) (by omega) (by first | decide | assumption | omega) e3 dX12_layCounts_67 ?_
          refine V_iconst dX12_layCounts_68 ?_
          refine V_zast (k := (f0 142 (4 * j + 3)).toNat) kk143 (by decide) (by first | rfl | omega) (by omega) (by first | decide | assumption | omega) (by first | exact Or.inl rfl | exact Or.inr rfl | (unfold bz; split <;> simp)) dX12_layCounts_69 ?_
          refine V_inc1 dX12_layCounts_70 (by decide) rfl ?_
          refine V_goto (tgt := 30) dX12_layCounts_73 rfl ?_
          have hs : cstp (f0 142) j c = fun q => if q = (f0 142 (4 * j + 3)).toNat then false else c q := by unfold cstp; rw [if_pos (by rw [b40]; simp; omega)]
          have := w_lc30 hρ hk hN hX j (by omega) (u2 f 143 (f0 142 (4 * j + 3)).toNat 0) (fun a k ha => (u2_o (by omega)).trans (hf a k ha)) _ (fun q hq => by rw [hs]; simp only [u2]; by_cases eq : q = (f0 142 (4 * j + 3)).toNat; (simp [eq, bz]); (simp [eq]; exact h1 q hq)) hC
          rw [show ((j + 1 : Nat) : Int) - 1 + -1 = (j : Int) - 1 by omega]
          exact this
termination_by i
theorem c_layCounts {T : TT} {ρ : RT} {f0 : IT} {g : JT} (hρ : Fx ρ) (hk : TOK T) (hN : NTK T f0) : C_X12_layCounts [.ref 104] ρ f0 g (fun r ρ' f' g' => r = none ∧ ρ' = ρ ∧ K43 f0 f' ∧ (∀ j, j < kB f0 → f' 143 j = bz (cRun (f0 142) (kB f0) (fun _ => true) j)) ∧ g' = g) := by
  refine Ct.ofV (by decide) rfl (Nat.le_of_ble_eq_true rfl) ?_
  have hX : ∀ f, K43 f0 f → (∀ j, j < kB f0 → f 143 j = 1) → V_X12_layCounts (fun r ρ' f' g' => r = none ∧ ρ' = ρ ∧ K43 f0 f' ∧ (∀ j, j < kB f0 → f' 143 j = bz (cRun (f0 142) (kB f0) (fun _ => true) j)) ∧ g' = g) 23 [.ref 104, .null] [] ρ f g := by
    intro f hf h1
    refine V_al0n dX12_layCounts_23 ?_
    refine V_callV (as := []) ml_X12_561 im_X12_knownBy se_X12_knownBy kk104 (by decide) (by decide) dX12_layCounts_24 rfl rfl (by decide) (by decide) (Nat.le_of_ble_eq_true rfl) (by decide) (by decide) rfl (c_known0 hN hf.km) ?_
    refine pq4 ?_
    refine V_iconst dX12_layCounts_27 ?_
    refine V_isub dX12_layCounts_28 ?_
    refine V_is1n dX12_layCounts_29 (by decide) rfl ?_
    exact w_lc30 hρ hk hN (fun f' a1 a2 => ⟨rfl, rfl, a1, a2, rfl⟩) (kB f0) (by omega) f hf (fun _ => true) (fun j hj => (h1 j hj).trans rfl) rfl
  refine V_iconst dX12_layCounts_0 ?_
  refine V_is1n dX12_layCounts_1 (by decide) rfl ?_
  exact w_lc2 hρ hN hX 0 (by omega) f0 (fun a k ha => rfl) (fun j hj => by omega)
/-- one who begins with a wind and legs, by a plan up to the end of a stretch -/
def fitR (T : TT) (ra : Bool) (sk : Int) (m : Nat) (w l : Int) (p k : Nat) : SS := rn T (false, ra, sk, T 115 m, w) (T 117 (T 121 p).toNat) (pce T p) (k + 1) (0, w, l, 0)
def soI (T : TT) (ra : Bool) (sk : Int) (m : Nat) (r : Nat → Int) (w l : Int) (i : Nat) : Bool := decide ((fitR T ra sk m w l (r (4 * i + 1)).toNat (r (4 * i + 2)).toNat).2.2.1 ≠ 0 ∧ (fitR T ra sk m w l (r (4 * i + 1)).toNat (r (4 * i + 2)).toNat).1 = r (4 * i + 3))
def soB (T : TT) (ra : Bool) (sk : Int) (m : Nat) (r : Nat → Int) (C : Nat → Bool) (K : Nat) (w l : Int) : Bool := decide (∀ i, i < K → C i = true → r (4 * i) = (m : Int) → soI T ra sk m r w l i = true)
theorem w_so3 {T : TT} {Q : QT} {ρ : RT} {f0 : IT} {g0 : JT} (hρ : Fx ρ) (hT0 : MT T f0) (hk : TOK T) (hN : NTK T f0) {sk : Int} {ra : Bool} (hs : f0 104 67 = sk) (hsk : 0 ≤ sk ∧ sk ≤ 30) (hr : f0 104 68 = bz ra) {m : Nat} (hm : m < nMe T) {w l : Int} (hw : 1 ≤ w ∧ w ≤ 60) (hl : 1 ≤ l ∧ l ≤ 40) {C : Nat → Bool} (hC : ∀ j, j < kB f0 → f0 143 j = bz (C j))
    (hQ : ∀ (f : IT) (g : JT), KW f0 f → KG g0 g → Q (some (.int (iz (bz (soB T ra sk m (f0 142) C (kB f0) w l))))) ρ f g)
    (i : Nat) (hi : i ≤ kB f0) (f : IT) (g : JT) (hf : KW f0 f) (hg : KG g0 g) (hb : ∀ j, j < i → C j = true → f0 142 (4 * j) = (m : Int) → soI T ra sk m (f0 142) w l j = true) :
    V_X12_isSo Q 3 [.ref 104, .int (iz (m : Int)), .int (iz w), .int (iz l), .int (iz (i : Int))] [] ρ f g := by
  have hK := kB_rng hN
  have hT := hf.mt hT0
  have hmm := hk.man hm
  have h5 := hk.me
  have h4 := hk.pl
  have h6 := hk.la
  by_cases e : i = kB f0
  · have hq := hQ f g hf hg
    have : soB T ra sk m (f0 142) C (kB f0) w l = true := by unfold soB; simp only [decide_eq_true_eq]; exact fun j hj => hb j (by omega)
    rw [this] at hq
    refine V_il4 dX12_isSo_3 ?_
    refine V_al0n dX12_isSo_5 ?_
    refine V_callV (as := []) ml_X12_561 im_X12_knownBy se_X12_knownBy kk104 (by decide) (by decide) dX12_isSo_6 rfl rfl (by decide) (by decide) (Nat.le_of_ble_eq_true rfl) (by decide) (by decide) rfl (c_known0 hN hf.km) ?_
    refine pq4 ?_
    refine V_icmp_ge (tgt := 113) dX12_isSo_9 rfl (by first | assumption | (unfold ri at *; omega)) (by first | assumption | (unfold ri at *; omega)) (fun b9 => ?_) (fun b9 => ?_)
    · refine V_iconst dX12_isSo_113 ?_
      exact V_zreturn rfl (by first | exact Or.inl rfl | exact Or.inr rfl | (unfold bz; split <;> simp)) hq dX12_isSo_114
    · exfalso; omega
  · have hn := hN.2.2 i (by omega)
    have en : ∀ j, f 142 j = f0 142 j := fun j => hf 142 j (by omega)
    have ec : f 143 i = bz (C i) := (hf 143 i (by omega)).trans (hC i (by omega))
    refine V_il4 dX12_isSo_3 ?_
    refine V_al0n dX12_isSo_5 ?_
    refine V_callV (as := []) ml_X12_561 im_X12_knownBy se_X12_knownBy kk104 (by decide) (by decide) dX12_isSo_6 rfl rfl (by decide) (by decide) (Nat.le_of_ble_eq_true rfl) (by decide) (by decide) rfl (c_known0 hN hf.km) ?_
    refine pq4 ?_
    refine V_icmp_ge (tgt := 113) dX12_isSo_9 rfl (by first | assumption | (unfold ri at *; omega)) (by first | assumption | (unfold ri at *; omega)) (fun b9 => ?_) (fun b9 => ?_)
    · exfalso; omega
    · refine V_al0n dX12_isSo_12 ?_
      refine V_getR kk104 (by decide) fl_X12_133 (fx_104_93 hρ) dX12_isSo_13 ?_
      refine V_il4 dX12_isSo_16 ?_
      refine V_zald (k := i) kk143 (by decide) (by first | rfl | omega) (by omega) (by first | decide | assumption | omega) ec dX12_isSo_18 ?_
      refine V_bt (tgt := 107) dX12_isSo_19 rfl (fun b19 => ?_) (fun b19 => ?_)
      · refine V_inc4 dX12_isSo_107 (by decide) rfl ?_
        refine V_goto (tgt := 3) dX12_isSo_110 rfl ?_
        exact w_so3 hρ hT0 hk hN hs hsk hr hm hw hl hC hQ (i + 1) (by omega) f g hf hg (fun j hj c1 c2 => by by_cases eq : j = i; (subst eq; rw [b19] at c1; cases c1); exact hb j (by omega) c1 c2)
      · refine V_al0n dX12_isSo_22 ?_
        refine V_getR kk104 (by decide) fl_X12_130 (fx_104_92 hρ) dX12_isSo_23 ?_
        refine V_iconst dX12_isSo_26 ?_
        refine V_il4 dX12_isSo_27 ?_
        refine V_imul dX12_isSo_29 ?_
        refine V_iald (k := 4 * i) kk142 (by decide) (by first | rfl | omega) (by omega) (by first | decide | assumption | omega) (en (4 * i)) dX12_isSo_30 ?_
        refine V_il1n dX12_isSo_31 ?_
        refine V_icmp_eq (tgt := 38) dX12_isSo_32 rfl (by first | assumption | (unfold ri at *; omega)) (by first | assumption | (unfold ri at *; omega)) (fun b32 => ?_) (fun b32 => ?_)
        · obtain ⟨n1, n2, n3, n4⟩ : ((0 ≤ f0 142 (4 * i) ∧ f0 142 (4 * i) < (nMe T : Int)) ∧ (0 ≤ f0 142 (4 * i + 1) ∧ f0 142 (4 * i + 1) < (nPl T : Int)) ∧ (0 ≤ f0 142 (4 * i + 2) ∧ f0 142 (4 * i + 2) < (nLa T : Int)) ∧ (0 ≤ f0 142 (4 * i + 3) ∧ f0 142 (4 * i + 3) ≤ 99999)) := by rcases hn with hn | hn; (exfalso; omega); exact hn
          have ep : f0 142 (4 * i + 1) = (((f0 142 (4 * i + 1)).toNat : Nat) : Int) := by omega
          have ek : f0 142 (4 * i + 2) = (((f0 142 (4 * i + 2)).toNat : Nat) : Int) := by omega
          have hsi : soI T ra sk m (f0 142) w l i = decide ((fitR T ra sk m w l (f0 142 (4 * i + 1)).toNat (f0 142 (4 * i + 2)).toNat).2.2.1 ≠ 0 ∧ (fitR T ra sk m w l (f0 142 (4 * i + 1)).toNat (f0 142 (4 * i + 2)).toNat).1 = f0 142 (4 * i + 3)) := rfl
          unfold fitR at hsi
          generalize eqp : (f0 142 (4 * i + 1)).toNat = p at *
          generalize eqk : (f0 142 (4 * i + 2)).toNat = k at *
          have hpl := (hk.plan (k := p) (by omega)).1
          have hho := hk.ho
          have hrr := rn_rng hk (c := (false, ra, sk, T 115 m, w)) (by unfold CR; simp only; omega) (h := (T 121 p).toNat) (by omega) (pc := pce T p) (fun k => pce_rng hk (by omega)) (s := (0, w, l, 0)) (by unfold SR; simp only; omega) (k + 1) (by omega)
          refine V_al0n dX12_isSo_38 ?_
          refine V_il1n dX12_isSo_39 ?_
          refine V_callV (as := [_]) ml_X12_467 im_X12_begins se_X12_begins kk104 (by decide) (by decide) dX12_isSo_40 rfl rfl (by decide) (by decide) (Nat.le_of_ble_eq_true rfl) (by decide) (by decide) rfl (c_begins1 hρ hT hk hm (ra := ra) ((hf 104 67 (by omega)).trans hs) ((hf 104 68 (by omega)).trans hr)) ?_
          rintro r40 ρ40 f40 g40 ⟨rfl, s40_0, hM, km, hT2, kb, s40_1⟩
          obtain rfl := s40_0.symm
          obtain rfl := s40_1.symm
          have E40 : ∀ k, f40 142 k = f0 142 k := fun k => (kb 142 k (by omega)).trans (en k)
          obtain ⟨m1, m2, m3, m4, m5, m6, m7, m8, m9⟩ := hM
          refine V_al0n dX12_isSo_43 ?_
          refine V_il2n dX12_isSo_44 ?_
          refine V_putI kk104 (by decide) fl_X12_444 rfl dX12_isSo_45 ?_
          refine V_al0n dX12_isSo_48 ?_
          refine V_il2n dX12_isSo_49 ?_
          refine V_putI kk104 (by decide) fl_X12_417 rfl dX12_isSo_50 ?_
          refine V_al0n dX12_isSo_53 ?_
          refine V_il3n dX12_isSo_54 ?_
          refine V_putI kk104 (by decide) fl_X12_420 rfl dX12_isSo_55 ?_
          have hT3 : MT T (u2 (u2 (u2 f40 104 73 w) 104 74 w) 104 75 l) := hT2.km (KM.u2 rfl (KM.u2 rfl (KM.u2 rfl KM.rf)))
          have hM3 : MS (false, ra, sk, T 115 m, w) (0, w, l, 0) (u2 (u2 (u2 f40 104 73 w) 104 74 w) 104 75 l) := ⟨by simp only [u2]; simp; exact m1, by simp only [u2]; simp; exact m2, by simp only [u2]; simp; exact m3, by simp only [u2]; simp; exact m4, by simp [u2], by simp only [u2]; simp; exact m6, by simp [u2], by simp [u2], by simp only [u2]; simp; exact m9⟩
          have kx : KW f (u2 (u2 (u2 f40 104 73 w) 104 74 w) 104 75 l) := fun a k q => by rw [u2_o (by omega), u2_o (by omega), u2_o (by omega)]; exact kb a k (by omega)
          refine V_al0n dX12_isSo_58 ?_
          refine V_al0n dX12_isSo_59 ?_
          refine V_getR kk104 (by decide) fl_X12_130 (fx_104_92 hρ) dX12_isSo_60 ?_
          refine V_iconst dX12_isSo_63 ?_
          refine V_il4 dX12_isSo_64 ?_
          refine V_imul dX12_isSo_66 ?_
          refine V_iconst dX12_isSo_67 ?_
          refine V_iadd dX12_isSo_68 ?_
          refine V_iald (k := 4 * i + 1) kk142 (by decide) (by first | rfl | omega) (by omega) (by first | decide | assumption | omega) (u2_n (by omega) (u2_n (by omega) (u2_n (by omega) ((E40 _).trans ep)))) dX12_isSo_69 ?_
          refine V_al0n dX12_isSo_70 ?_
          refine V_getR kk104 (by decide) fl_X12_130 (fx_104_92 hρ) dX12_isSo_71 ?_
          refine V_iconst dX12_isSo_74 ?_
          refine V_il4 dX12_isSo_75 ?_
          refine V_imul dX12_isSo_77 ?_
          refine V_iconst dX12_isSo_78 ?_
          refine V_iadd dX12_isSo_79 ?_
          refine V_iald (k := 4 * i + 2) kk142 (by decide) (by first | rfl | omega) (by omega) (by first | decide | assumption | omega) (u2_n (by omega) (u2_n (by omega) (u2_n (by omega) ((E40 _).trans ek)))) dX12_isSo_80 ?_
          refine V_callV (as := [_, _]) ml_X12_473 im_X12_runs se_X12_runs kk104 (by decide) (by decide) dX12_isSo_81 rfl rfl (by decide) (by decide) (Nat.le_of_ble_eq_true rfl) (by decide) (by decide) rfl (c_runsE hρ hT3 hk (p := p) (E := k + 1) (by omega) (by omega) (by omega) (by unfold CR; simp only; omega) hM3 (by unfold SR; simp only; omega) (by simp only; omega)) ?_
          rintro r81 ρ81 f81 g81 ⟨bb, rfl, hbb, s81_0, hM4, ks, kg⟩
          obtain rfl := s81_0.symm
          have kf : KW f0 f81 := hf.tr (kx.tr ks.kw)
          have kgg : KG g0 g81 := hg.tr kg
          have E81 : ∀ k, f81 142 k = f0 142 k := fun k => kf 142 k (by omega)
          refine V_bt (tgt := 105) dX12_isSo_84 rfl (fun b84 => ?_) (fun b84 => ?_)
          · have h84 : ¬ (rn T (false, ra, sk, T 115 m, w) (T 117 (T 121 p).toNat) (pce T p) (k + 1) (0, w, l, 0)).2.2.1 ≠ 0 := fun h => by rw [hbb.mpr h] at b84; cases b84
            have hfs : soI T ra sk m (f0 142) w l i = false := by rw [hsi]; simp only [decide_eq_false_iff_not]; exact fun h => h84 h.1
            refine V_iconst dX12_isSo_105 ?_
            exact V_zreturn rfl (by first | exact Or.inl rfl | exact Or.inr rfl | (unfold bz; split <;> simp)) (by have hq := hQ _ _ kf kgg; have : soB T ra sk m (f0 142) C (kB f0) w l = false := (by unfold soB; simp only [decide_eq_false_iff_not]; intro hall; have := hall i (by omega) b19 b32; rw [hfs] at this; cases this); rw [this] at hq; exact hq) dX12_isSo_106
          · have h84 := hbb.mp b84
            refine V_al0n dX12_isSo_87 ?_
            refine V_getI kk104 (by decide) fl_X12_441 hM4.2.2.2.2.2.1 dX12_isSo_88 ?_
            refine V_al0n dX12_isSo_91 ?_
            refine V_getR kk104 (by decide) fl_X12_130 (fx_104_92 hρ) dX12_isSo_92 ?_
            refine V_iconst dX12_isSo_95 ?_
            refine V_il4 dX12_isSo_96 ?_
            refine V_imul dX12_isSo_98 ?_
            refine V_iconst dX12_isSo_99 ?_
            refine V_iadd dX12_isSo_100 ?_
            refine V_iald (k := 4 * i + 3) kk142 (by decide) (by first | rfl | omega) (by omega) (by first | decide | assumption | omega) (E81 _) dX12_isSo_101 ?_
            refine V_icmp_eq (tgt := 107) dX12_isSo_102 rfl (by first | assumption | (unfold ri at *; omega)) (by first | assumption | (unfold ri at *; omega)) (fun b102 => ?_) (fun b102 => ?_)
            · refine V_inc4 dX12_isSo_107 (by decide) rfl ?_
              refine V_goto (tgt := 3) dX12_isSo_110 rfl ?_
              exact w_so3 hρ hT0 hk hN hs hsk hr hm hw hl hC hQ (i + 1) (by omega) f81 g81 kf kgg (fun j hj c1 c2 => by by_cases eq : j = i; (subst eq; rw [hsi]; simp only [decide_eq_true_eq]; exact ⟨h84, b102⟩); exact hb j (by omega) c1 c2)
            · have hfs : soI T ra sk m (f0 142) w l i = false := by rw [hsi]; simp only [decide_eq_false_iff_not]; exact fun h => b102 h.2
              refine V_iconst dX12_isSo_105 ?_
              exact V_zreturn rfl (by first | exact Or.inl rfl | exact Or.inr rfl | (unfold bz; split <;> simp)) (by have hq := hQ _ _ kf kgg; have : soB T ra sk m (f0 142) C (kB f0) w l = false := (by unfold soB; simp only [decide_eq_false_iff_not]; intro hall; have := hall i (by omega) b19 b32; rw [hfs] at this; cases this); rw [this] at hq; exact hq) dX12_isSo_106
        · refine V_goto (tgt := 107) dX12_isSo_35 rfl ?_
          refine V_inc4 dX12_isSo_107 (by decide) rfl ?_
          refine V_goto (tgt := 3) dX12_isSo_110 rfl ?_
          exact w_so3 hρ hT0 hk hN hs hsk hr hm hw hl hC hQ (i + 1) (by omega) f g hf hg (fun j hj c1 c2 => by by_cases eq : j = i; (subst eq; exact absurd c2 b32); exact hb j (by omega) c1 c2)
termination_by kB f0 - i
theorem c_isSo {T : TT} {ρ : RT} {f0 : IT} {g : JT} (hρ : Fx ρ) (hT0 : MT T f0) (hk : TOK T) (hN : NTK T f0) {sk : Int} {ra : Bool} (hs : f0 104 67 = sk) (hsk : 0 ≤ sk ∧ sk ≤ 30) (hr : f0 104 68 = bz ra) {m : Nat} (hm : m < nMe T) {w l : Int} (hw : 1 ≤ w ∧ w ≤ 60) (hl : 1 ≤ l ∧ l ≤ 40) {C : Nat → Bool} (hC : ∀ j, j < kB f0 → f0 143 j = bz (C j)) :
    C_X12_isSo [.ref 104, .int (iz (m : Int)), .int (iz w), .int (iz l)] ρ f0 g (fun r ρ' f' g' => r = some (.int (iz (bz (soB T ra sk m (f0 142) C (kB f0) w l)))) ∧ ρ' = ρ ∧ KW f0 f' ∧ KG g g') := by
  refine Ct.ofV (by decide) rfl (Nat.le_of_ble_eq_true rfl) ?_
  refine V_iconst dX12_isSo_0 ?_
  refine V_is4 dX12_isSo_1 (by decide) rfl ?_
  exact w_so3 hρ hT0 hk hN hs hsk hr hm hw hl hC (fun f' g' a1 a2 => ⟨rfl, rfl, a1, a2⟩) 0 (by omega) f0 g KW.rf KG.rf (fun j hj => by omega)

