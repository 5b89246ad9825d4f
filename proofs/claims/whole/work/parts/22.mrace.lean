theorem c_mled {T : TT} {ρ : RT} {f : IT} {g : JT} (hρ : Fx ρ) (hT : MT T f) (hk : TOK T) {sk : Int} {ra : Bool} (hs : f 104 67 = sk) (hsk : 0 ≤ sk ∧ sk ≤ 30) (hr : f 104 68 = bz ra) {m p n w : Int} (rm : ri m) (rp : ri p) (rn_ : ri n) (rw_ : ri w) :
    C_X12_led [.ref 104, .int (iz m), .int (iz p), .int (iz n), .int (iz w)] ρ f g (fun r ρ' f' g' => r = some (.int (iz (aLed T ra sk m p n w))) ∧ ρ' = ρ ∧ KM f f' ∧ KM g g') := by
  have h6 := hk.la
  have h5 := hk.me
  have h4 := hk.pl
  have hall := allS_rng hk
  have hT1 : MT T (u2 f 104 2 0) := hT.km (KM.u2 rfl KM.rf)
  refine Ct.ofV (by decide) rfl (Nat.le_of_ble_eq_true rfl) ?_
  refine V_al0n dX12_led_0 ?_
  refine V_iconst dX12_led_1 ?_
  refine V_putI kk104 (by decide) fl_X12_154 rfl dX12_led_2 ?_
  refine V_al0n dX12_led_5 ?_
  refine V_il1n dX12_led_6 ?_
  refine V_callV (as := [_]) ml_X12_462 im_X12_isMan se_X12_isMan kk104 (by decide) (by decide) dX12_led_7 rfl rfl (by decide) (by decide) (Nat.le_of_ble_eq_true rfl) (by decide) (by decide) rfl (c_isMan rm ((hT1 104 13 rfl).trans h5.1) (by unfold ri; omega)) ?_
  refine pq4 ?_
  refine V_bt (tgt := 43) dX12_led_10 rfl (fun b10 => ?_) (fun b10 => ?_)
  · refine V_iconst dX12_led_43 ?_
    exact V_ireturn rfl ⟨by unfold aLed okM okP allS; simp only [*]; simp, rfl, KM.u2 rfl KM.rf, KM.rf⟩ dX12_led_44
  · refine V_al0n dX12_led_13 ?_
    refine V_il2n dX12_led_14 ?_
    refine V_callV (as := [_]) ml_X12_456 im_X12_isPlan se_X12_isPlan kk104 (by decide) (by decide) dX12_led_15 rfl rfl (by decide) (by decide) (Nat.le_of_ble_eq_true rfl) (by decide) (by decide) rfl (c_isPlan rp ((hT1 104 15 rfl).trans h4.1) (by unfold ri; omega)) ?_
    refine pq4 ?_
    refine V_bt (tgt := 43) dX12_led_18 rfl (fun b18 => ?_) (fun b18 => ?_)
    · refine V_iconst dX12_led_43 ?_
      exact V_ireturn rfl ⟨by unfold aLed okM okP allS; simp only [*]; simp, rfl, KM.u2 rfl KM.rf, KM.rf⟩ dX12_led_44
    · refine V_il3n dX12_led_21 ?_
      refine V_iconst dX12_led_22 ?_
      refine V_al0n dX12_led_23 ?_
      refine V_callV (as := []) ml_X12_476 im_X12_allSteps se_X12_allSteps kk104 (by decide) (by decide) dX12_led_24 rfl rfl (by decide) (by decide) (Nat.le_of_ble_eq_true rfl) (by decide) (by decide) rfl (c_allSteps hρ h6.2 ((hT1 104 12 rfl).trans h6.1) (s := T 108) (fun k hk => hT1.at rfl (by omega : k < 6))) ?_
      refine pq4 ?_
      refine V_callS (as := [_, _, _]) ml_X12_199 sm_X12_isIn dX12_led_27 rfl rfl (by decide) (by decide) (Nat.le_of_ble_eq_true rfl) (by decide) (by decide) rfl (c_isIn rn_ (by unfold ri; omega) (by unfold allS at hall; unfold ri; omega)) ?_
      refine pq4 ?_
      refine V_bt (tgt := 43) dX12_led_30 rfl (fun b30 => ?_) (fun b30 => ?_)
      · refine V_iconst dX12_led_43 ?_
        exact V_ireturn rfl ⟨by unfold aLed okM okP allS; simp only [*]; simp, rfl, KM.u2 rfl KM.rf, KM.rf⟩ dX12_led_44
      · refine V_il4 dX12_led_33 ?_
        refine V_iconst dX12_led_35 ?_
        refine V_iconst dX12_led_36 ?_
        refine V_callS (as := [_, _, _]) ml_X12_199 sm_X12_isIn dX12_led_37 rfl rfl (by decide) (by decide) (Nat.le_of_ble_eq_true rfl) (by decide) (by decide) rfl (c_isIn rw_ (by unfold ri; omega) (by unfold ri; omega)) ?_
        refine pq4 ?_
        refine V_bf (tgt := 45) dX12_led_40 rfl (fun b40 => ?_) (fun b40 => ?_)
        · have c1 := b10
          have c2 := b18
          have c3 := b30
          unfold zin at c3
          simp only [decide_eq_true_eq] at c1 c2 c3
          obtain ⟨mN, rfl⟩ : ∃ n : Nat, m = n := ⟨m.toNat, by omega⟩
          obtain ⟨pN, rfl⟩ : ∃ n : Nat, p = n := ⟨p.toNat, by omega⟩
          obtain ⟨nN, rfl⟩ : ∃ k : Nat, n = k := ⟨n.toNat, by omega⟩
          obtain ⟨k1, k2, k3⟩ := c0_ok hk (m := mN) (by omega) (ra := ra) hsk
          have ea : aLed T ra sk (mN : Int) (pN : Int) (nN : Int) w = tells (ldd T (c0 T ra sk mN) (T 117 (T 121 pN).toNat) (pce T pN) nN (s0 T mN)) w := by unfold aLed okM okP allS; simp only [b10, b18, b30, b40]; simp
          refine V_al0n dX12_led_45 ?_
          refine V_il1n dX12_led_46 ?_
          refine V_callV (as := [_]) ml_X12_467 im_X12_begins se_X12_begins kk104 (by decide) (by decide) dX12_led_47 rfl rfl (by decide) (by decide) (Nat.le_of_ble_eq_true rfl) (by decide) (by decide) rfl (c_begins1 hρ hT1 hk (m := mN) (by omega) (ra := ra) (u2_n (by omega) hs) (u2_n (by omega) hr)) ?_
          rintro r47 ρ47 f47 g47 ⟨rfl, s47_0, hM, km, hT2, kb, s47_1⟩
          obtain rfl := s47_0.symm
          obtain rfl := s47_1.symm
          exact w_led hρ hk (p := pN) (by omega) k1 (st := s0 T mN) rfl (n := nN) (by unfold allS; omega) rw_ (fun f' g' a1 a2 => ⟨by rw [ea], rfl, (KM.u2 (x := 0) rfl KM.rf).tr (km.tr a1), a2⟩) 0 (by omega) f47 g hT2 hM k2 k3 rfl KM.rf KM.rf _
        · refine V_iconst dX12_led_43 ?_
          exact V_ireturn rfl ⟨by unfold aLed okM okP allS; simp only [*]; simp, rfl, KM.u2 rfl KM.rf, KM.rf⟩ dX12_led_44
theorem lz_and31 (a : Int) : lz a &&& lz 2147483647 = lz (a % 2147483648) := by
  apply Int64.toBitVec_inj.mp
  apply BitVec.eq_of_toNat_eq
  rw [Int64.toBitVec_and, BitVec.toNat_and]
  show (BitVec.ofInt 64 a).toNat &&& (BitVec.ofInt 64 2147483647).toNat = (BitVec.ofInt 64 (a % 2147483648)).toNat
  rw [BitVec.toNat_ofInt, BitVec.toNat_ofInt, BitVec.toNat_ofInt, show ((2147483647 : Int) % ((2 ^ 64 : Nat) : Int)).toNat = 2 ^ 31 - 1 by decide, Nat.and_two_pow_sub_one_eq_mod]
  omega
/-- the next number -/
def nxt (d : Int) : Int := (d * 1103515245 + 12345) % 2147483648
theorem nxt_rng (d : Int) : 0 ≤ nxt d ∧ nxt d < 2147483648 := by unfold nxt; omega
theorem c_drawn1 {ρ : RT} {f : IT} {g : JT} {d : Int} (hd : g 104 69 = d) {n : Int} (hn : 1 ≤ n ∧ n ≤ 1000) : C_X12_drawn1 [.ref 104, .int (iz n)] ρ f g (fun r ρ' f' g' => r = some (.int (iz (nxt d / 65536 % n))) ∧ ρ' = ρ ∧ f' = f ∧ g' = u2 g 104 69 (nxt d)) := by
  have hx := nxt_rng d
  have h1 : 0 ≤ nxt d / 65536 ∧ nxt d / 65536 < 2147483648 := by omega
  refine Ct.ofV (by decide) rfl (Nat.le_of_ble_eq_true rfl) ?_
  refine V_al0n dX12_drawn1_0 ?_
  refine V_al0n dX12_drawn1_1 ?_
  refine V_getJ kk104 (by decide) fl_X12_288 hd dX12_drawn1_2 ?_
  refine V_ldc2_w (a := 1103515245) kl_X12_482 rfl dX12_drawn1_5 ?_
  refine V_lmul dX12_drawn1_8 ?_
  refine V_ldc2_w (a := 12345) kl_X12_484 rfl dX12_drawn1_9 ?_
  refine V_ladd dX12_drawn1_12 ?_
  refine V_ldc2_w (a := 2147483647) kl_X12_486 rfl dX12_drawn1_13 ?_
  refine V_land dX12_drawn1_16 (lz_and31 _) ?_
  refine V_putJ kk104 (by decide) fl_X12_288 rfl dX12_drawn1_17 ?_
  refine V_al0n dX12_drawn1_20 ?_
  refine V_getJ kk104 (by decide) fl_X12_288 u2_s dX12_drawn1_21 ?_
  refine V_ldc2_w (a := 65536) kl_X12_488 rfl dX12_drawn1_24 ?_
  refine V_ldiv dX12_drawn1_27 (lz_ne (by unfold rl; omega) (by omega)) (lz_div (a := nxt d) (by omega) (by omega) (by unfold rl; omega) (by unfold rl; omega)) ?_
  refine V_il1n dX12_drawn1_28 ?_
  refine V_i2l dX12_drawn1_29 (by first | assumption | (unfold ri at *; omega)) ?_
  refine V_lrem dX12_drawn1_30 (lz_ne (by unfold rl; omega) (by omega)) (lz_rem (by omega) (by omega) (by unfold rl; omega) (by unfold rl; omega)) ?_
  refine V_l2i dX12_drawn1_31 ?_
  exact V_ireturn rfl ⟨rfl, rfl, rfl, rfl⟩ dX12_drawn1_32
def dmp (T : TT) (ra : Bool) (k : Nat) : Bool := decide (T 111 k = 1) || ra
def slp (T : TT) (ra : Bool) (k h : Nat) (d : Int) : Bool := decide (nxt d / 65536 % 100 < T 118 h + (if dmp T ra k = true then 10 else 0))
theorem c_slips {T : TT} {ρ : RT} {f : IT} {g : JT} (hρ : Fx ρ) (hT : MT T f) (hk : TOK T) {k h : Nat} (hl : k < nLa T) (hh : h < nHo T) {ra : Bool} (hr : f 104 68 = bz ra) {d : Int} (hd : g 104 69 = d) : C_X12_slips [.ref 104, .int (iz (k : Int)), .int (iz (h : Int))] ρ f g (fun r ρ' f' g' => r = some (.int (iz (bz (slp T ra k h d)))) ∧ ρ' = ρ ∧ f' = f ∧ g' = u2 g 104 69 (nxt d)) := by
  have h3 := hk.ho
  have hho := hk.hold hh
  have hx := nxt_rng d
  refine Ct.ofV (by decide) rfl (Nat.le_of_ble_eq_true rfl) ?_
  refine V_al0n dX12_slips_0 ?_
  refine V_bipush dX12_slips_1 rfl ?_
  refine V_callV (as := [_]) ml_X12_490 im_X12_drawn1 se_X12_drawn1 kk104 (by decide) (by decide) dX12_slips_3 rfl rfl (by decide) (by decide) (Nat.le_of_ble_eq_true rfl) (by decide) (by decide) rfl (c_drawn1 hd (n := 100) (by omega)) ?_
  refine pq4 ?_
  refine V_al0n dX12_slips_6 ?_
  refine V_getR kk104 (by decide) fl_X12_54 (fx_104_41 hρ) dX12_slips_7 ?_
  refine V_il2n dX12_slips_10 ?_
  refine V_iald (k := h) kk118 (by decide) (by first | rfl | omega) (by omega) (by first | decide | assumption | omega) (hT.at rfl (by omega : h < 3)) dX12_slips_11 ?_
  refine V_al0n dX12_slips_12 ?_
  refine V_il1n dX12_slips_13 ?_
  refine V_callV (as := [_]) ml_X12_423 im_X12_isDamp se_X12_isDamp kk104 (by decide) (by decide) dX12_slips_14 rfl rfl (by decide) (by decide) (Nat.le_of_ble_eq_true rfl) (by decide) (by decide) rfl (c_isDamp hρ hT hk hl hr) ?_
  refine pq4 ?_
  refine V_bt (tgt := 25) dX12_slips_17 rfl (fun b17 => ?_) (fun b17 => ?_)
  · refine V_iconst dX12_slips_25 ?_
    refine V_iadd dX12_slips_26 ?_
    refine V_icmp_ge (tgt := 34) dX12_slips_27 rfl (by first | assumption | (unfold ri at *; omega)) (by first | assumption | (unfold ri at *; omega)) (fun b27 => ?_) (fun b27 => ?_)
    · refine V_iconst dX12_slips_34 ?_
      exact V_zreturn rfl (by first | exact Or.inl rfl | exact Or.inr rfl | (unfold bz; split <;> simp)) ⟨by unfold slp dmp; simp only [*, bz, decide_eq_true_eq]; simp; try (split <;> first | rfl | (exfalso; omega)), rfl, rfl, rfl⟩ dX12_slips_35
    · refine V_iconst dX12_slips_30 ?_
      refine V_goto (tgt := 35) dX12_slips_31 rfl ?_
      exact V_zreturn rfl (by first | exact Or.inl rfl | exact Or.inr rfl | (unfold bz; split <;> simp)) ⟨by unfold slp dmp; simp only [*, bz, decide_eq_true_eq]; simp; try (split <;> first | rfl | (exfalso; omega)), rfl, rfl, rfl⟩ dX12_slips_35
  · refine V_bipush dX12_slips_20 rfl ?_
    refine V_goto (tgt := 26) dX12_slips_22 rfl ?_
    refine V_iadd dX12_slips_26 ?_
    refine V_icmp_ge (tgt := 34) dX12_slips_27 rfl (by first | assumption | (unfold ri at *; omega)) (by first | assumption | (unfold ri at *; omega)) (fun b27 => ?_) (fun b27 => ?_)
    · refine V_iconst dX12_slips_34 ?_
      exact V_zreturn rfl (by first | exact Or.inl rfl | exact Or.inr rfl | (unfold bz; split <;> simp)) ⟨by unfold slp dmp; simp only [*, bz, decide_eq_true_eq]; simp; try (split <;> first | rfl | (exfalso; omega)), rfl, rfl, rfl⟩ dX12_slips_35
    · refine V_iconst dX12_slips_30 ?_
      refine V_goto (tgt := 35) dX12_slips_31 rfl ?_
      exact V_zreturn rfl (by first | exact Or.inl rfl | exact Or.inr rfl | (unfold bz; split <;> simp)) ⟨by unfold slp dmp; simp only [*, bz, decide_eq_true_eq]; simp; try (split <;> first | rfl | (exfalso; omega)), rfl, rfl, rfl⟩ dX12_slips_35
/-! a race by chance: the walk and the last number -/
abbrev RS : Type := SS × Int
def onS (T : TT) (c : CC) (k h : Nat) (pa : Int) (x : RS) : RS := (if slp T c.2.1 k h x.2 = true then ((one T c k (T 117 h) pa x.1).1 + T 119 h, (one T c k (T 117 h) pa x.1).2) else one T c k (T 117 h) pa x.1, nxt x.2)
def thS (T : TT) (c : CC) (k h : Nat) (pa : Int) : Nat → RS → RS
  | 0, x => x
  | n + 1, x => if x.1.2.2.1 = 0 then x else thS T c k h pa n (onS T c k h pa x)
theorem thS_out {T : TT} {c : CC} {k h : Nat} {pa : Int} {n : Nat} {x : RS} (hx : x.1.2.2.1 = 0) : thS T c k h pa n x = x := by cases n <;> simp [thS, hx]
def rnS (T : TT) (c : CC) (h : Nat) (pc : Nat → Int) : Nat → RS → RS
  | 0, x => x
  | j + 1, x => thS T c j h (pc j) (T 108 j).toNat (rnS T c h pc j x)
theorem rnS_out {T : TT} {c : CC} {h : Nat} {pc : Nat → Int} {x : RS} {i : Nat} (hx : (rnS T c h pc i x).1.2.2.1 = 0) : ∀ j : Nat, i ≤ j → rnS T c h pc j x = rnS T c h pc i x
  | 0, hj => by rw [show i = 0 by omega]
  | j + 1, hj => by
    by_cases e : i = j + 1
    · rw [e]
    · have h1 := rnS_out hx j (by omega)
      simp only [rnS]
      rw [h1]
      exact thS_out hx
/-- what a race of the reference's may change: the walk, the last number -/
def KR (g g' : JT) : Prop := ∀ a k, ¬ (a = 135 ∨ a = 136 ∨ (a = 104 ∧ k = 69)) → g' a k = g a k
theorem KR.rf {g : JT} : KR g g := fun _ _ _ => rfl
theorem KR.tr {g g' g'' : JT} (h : KR g g') (h' : KR g' g'') : KR g g'' := fun a k q => (h' a k q).trans (h a k q)
theorem KG.kr {g g' : JT} (h : KG g g') : KR g g' := fun a k q => by rw [h a (by omega) (by omega)]
theorem KR.dr {g : JT} {x : Int} : KR g (u2 g 104 69 x) := fun a k q => u2_o (by omega)
theorem KS.te {f : IT} {x : Int} : KS f (u2 f 104 76 x) := fun a k q => u2_o (by omega)
theorem w_races {T : TT} {Q : QT} {ρ : RT} {f0 : IT} {g0 : JT} (hρ : Fx ρ) (hk : TOK T) {p : Nat} (hp : p < nPl T) {c : CC} (hc : CR c) {x0 : RS} {am : Int}
    (hQ : ∀ (f : IT) (g : JT), KS f0 f → KR g0 g → g 104 69 = (rnS T c (T 121 p).toNat (pce T p) (nLa T) x0).2 → Q (some (.int (iz (if (rnS T c (T 121 p).toNat (pce T p) (nLa T) x0).1.2.2.1 = 0 then 99999 else (rnS T c (T 121 p).toNat (pce T p) (nLa T) x0).1.1)))) ρ f g)
    (k : Nat) (hkE : k < nLa T) (hX : ∀ (f : IT) (g : JT) (x : RS) (a5 : Value), MT T f → MS c x.1 f → g 104 69 = x.2 → SR x.1 → x.1.2.2.1 ≠ 0 → KS f0 f → KR g0 g → rnS T c (T 121 p).toNat (pce T p) (k + 1) x0 = x → V_X12_races Q 15 [.ref 104, .int (iz am), .int (iz (p : Int)), .int (iz (((T 121 p).toNat : Nat) : Int)), .int (iz ((k : Int) + 1)), a5] [] ρ f g) (i : Nat) (f : IT) (g : JT) (x : RS) (hT : MT T f) (hM : MS c x.1 f) (hd : g 104 69 = x.2) (hs : SR x.1) (hpos : x.1.2.2.1 ≠ 0) (hf : KS f0 f) (hg : KR g0 g) (hi : (i : Int) ≤ T 108 k) (hr : rnS T c (T 121 p).toNat (pce T p) (k + 1) x0 = thS T c k (T 121 p).toNat (pce T p k) ((T 108 k).toNat - i) x) :
    V_X12_races Q 27 [.ref 104, .int (iz am), .int (iz (p : Int)), .int (iz (((T 121 p).toNat : Nat) : Int)), .int (iz (k : Int)), .int (iz (i : Int))] [] ρ f g := by
  have h6 := hk.la
  have h5 := hk.pl
  have hlk := (hk.lane (k := k) (by omega)).1
  have hpl := (hk.plan hp).1
  have hho := hk.ho
  have hpp := pce_rng hk (k := k) hp
  have hh : (T 121 p).toNat < nHo T := by omega
  generalize eh : (T 121 p).toNat = h at *
  refine V_il5 dX12_races_27 ?_
  refine V_al0n dX12_races_29 ?_
  refine V_getR kk104 (by decide) fl_X12_23 (fx_104_31 hρ) dX12_races_30 ?_
  refine V_il4 dX12_races_33 ?_
  refine V_iald (k := k) kk108 (by decide) (by first | rfl | omega) (by omega) (by first | decide | assumption | omega) (hT.at rfl (by omega : k < 6)) dX12_races_35 ?_
  refine V_icmp_ge (tgt := 94) dX12_races_36 rfl (by first | assumption | (unfold ri at *; omega)) (by first | assumption | (unfold ri at *; omega)) (fun b36 => ?_) (fun b36 => ?_)
  · refine V_inc4 dX12_races_94 (by decide) rfl ?_
    refine V_goto (tgt := 15) dX12_races_97 rfl ?_
    exact hX f g x _ hT hM hd hs hpos hf hg (by rw [hr, show (T 108 k).toNat - i = 0 by omega]; rfl)
  · refine V_al0n dX12_races_39 ?_
    refine V_il4 dX12_races_40 ?_
    refine V_il3n dX12_races_42 ?_
    refine V_al0n dX12_races_43 ?_
    refine V_il2n dX12_races_44 ?_
    refine V_il4 dX12_races_45 ?_
    refine V_callV (as := [_, _]) ml_X12_459 im_X12_paceOf se_X12_paceOf kk104 (by decide) (by decide) dX12_races_47 rfl rfl (by decide) (by decide) (Nat.le_of_ble_eq_true rfl) (by decide) (by decide) rfl (c_paceOf hρ hT hk hp (by omega : k < 6)) ?_
    refine pq4 ?_
    refine V_callV (as := [_, _, _]) ml_X12_470 im_X12_step se_X12_step kk104 (by decide) (by decide) dX12_races_50 rfl rfl (by decide) (by decide) (Nat.le_of_ble_eq_true rfl) (by decide) (by decide) rfl (c_step1 hρ hT hk (by omega) hh hM hc hs hpp) ?_
    rintro r50 ρ50 f50 g50 ⟨rfl, s50_0, hM1, ks1, kg1⟩
    obtain rfl := s50_0.symm
    have hr1 := hr
    rw [show (T 108 k).toNat - i = ((T 108 k).toNat - (i + 1)) + 1 by omega, thS, if_neg hpos] at hr1
    have hs1 := (one_rng hk hc (by omega : k < nLa T) hh hpp hs).1
    have hT1 := ks1.mt hT
    obtain ⟨m1, m2, m3, m4, m5, m6, m7, m8, m9⟩ := hM1
    refine V_al0n dX12_races_53 ?_
    refine V_il4 dX12_races_54 ?_
    refine V_il3n dX12_races_56 ?_
    refine V_callV (as := [_, _]) ml_X12_505 im_X12_slips se_X12_slips kk104 (by decide) (by decide) dX12_races_57 rfl rfl (by decide) (by decide) (Nat.le_of_ble_eq_true rfl) (by decide) (by decide) rfl (c_slips hρ hT1 hk (by omega) hh m2 (d := x.2) (by rw [kg1 104 (by omega) (by omega)]; exact hd)) ?_
    refine pq4 ?_
    refine V_bt (tgt := 78) dX12_races_60 rfl (fun b60 => ?_) (fun b60 => ?_)
    · have hon : onS T c k h (pce T p k) x = (one T c k (T 117 h) (pce T p k) x.1, nxt x.2) := by unfold onS; rw [if_neg (by rw [b60]; exact Bool.false_ne_true)]
      rw [hon] at hr1
      have hMx : MS c (one T c k (T 117 h) (pce T p k) x.1) f50 := ⟨m1, m2, m3, m4, m5, m6, m7, m8, m9⟩
      have hTx := hT1
      have ksx : KS f0 f50 := hf.tr ks1
      have kgx : KR g0 (u2 g50 104 69 (nxt x.2)) := (hg.tr kg1.kr).tr KR.dr
      refine V_al0n dX12_races_78 ?_
      refine V_getI kk104 (by decide) fl_X12_420 (by first | exact m8 | exact u2_n (by omega) m8) dX12_races_79 ?_
      refine V_if_ne (tgt := 88) dX12_races_82 rfl (by have := hs1; unfold SR at this; unfold ri; omega) (fun b82 => ?_) (fun b82 => ?_)
      · refine V_inc5 dX12_races_88 (by decide) rfl ?_
        refine V_goto (tgt := 27) dX12_races_91 rfl ?_
        have := w_races (x0 := x0) (am := am) hρ hk hp hc (by rw [eh]; exact hQ) k hkE (by rw [eh]; exact hX) (i + 1) _ _ (_, nxt x.2) hTx hMx u2_s hs1 b82 ksx kgx (by omega) (by rw [eh]; exact hr1)
        rw [eh] at this
        exact this
      · rw [thS_out b82] at hr1
        have ho := rnS_out (j := nLa T) (by rw [hr1]; exact b82) (by omega)
        refine V_ldc (a := 99999) kc_X12_192 rfl dX12_races_85 ?_
        exact V_ireturn rfl (by have := hQ _ _ ksx kgx (by rw [ho, hr1]; exact u2_s); rw [ho, hr1, if_pos b82] at this; exact this) dX12_races_87
    · have hon : onS T c k h (pce T p k) x = (((one T c k (T 117 h) (pce T p k) x.1).1 + T 119 h, (one T c k (T 117 h) (pce T p k) x.1).2), nxt x.2) := by unfold onS; rw [if_pos b60]
      rw [hon] at hr1
      have hMx : MS c ((one T c k (T 117 h) (pce T p k) x.1).1 + T 119 h, (one T c k (T 117 h) (pce T p k) x.1).2) (u2 f50 104 76 ((one T c k (T 117 h) (pce T p k) x.1).1 + T 119 h)) := ⟨u2_n (by omega) m1, u2_n (by omega) m2, u2_n (by omega) m3, u2_n (by omega) m4, u2_n (by omega) m5, u2_s, u2_n (by omega) m7, u2_n (by omega) m8, u2_n (by omega) m9⟩
      have hTx : MT T (u2 f50 104 76 ((one T c k (T 117 h) (pce T p k) x.1).1 + T 119 h)) := hT1.km (KM.u2 rfl KM.rf)
      have ksx : KS f0 (u2 f50 104 76 ((one T c k (T 117 h) (pce T p k) x.1).1 + T 119 h)) := (hf.tr ks1).tr KS.te
      refine V_al0n dX12_races_63 ?_
      refine V_dup dX12_races_64 rfl ?_
      refine V_getI kk104 (by decide) fl_X12_441 m6 dX12_races_65 ?_
      refine V_al0n dX12_races_68 ?_
      refine V_getR kk104 (by decide) fl_X12_57 (fx_104_42 hρ) dX12_races_69 ?_
      refine V_il3n dX12_races_72 ?_
      refine V_iald (k := h) kk119 (by decide) (by first | rfl | omega) (by omega) (by first | decide | assumption | omega) (hT1.at rfl (by omega : h < 3)) dX12_races_73 ?_
      refine V_iadd dX12_races_74 ?_
      refine V_putI kk104 (by decide) fl_X12_441 rfl dX12_races_75 ?_
      have kgx : KR g0 (u2 g50 104 69 (nxt x.2)) := (hg.tr kg1.kr).tr KR.dr
      refine V_al0n dX12_races_78 ?_
      refine V_getI kk104 (by decide) fl_X12_420 (by first | exact m8 | exact u2_n (by omega) m8) dX12_races_79 ?_
      refine V_if_ne (tgt := 88) dX12_races_82 rfl (by have := hs1; unfold SR at this; unfold ri; omega) (fun b82 => ?_) (fun b82 => ?_)
      · refine V_inc5 dX12_races_88 (by decide) rfl ?_
        refine V_goto (tgt := 27) dX12_races_91 rfl ?_
        have := w_races (x0 := x0) (am := am) hρ hk hp hc (by rw [eh]; exact hQ) k hkE (by rw [eh]; exact hX) (i + 1) _ _ (_, nxt x.2) hTx hMx u2_s hs1 b82 ksx kgx (by omega) (by rw [eh]; exact hr1)
        rw [eh] at this
        exact this
      · rw [thS_out b82] at hr1
        have ho := rnS_out (j := nLa T) (by rw [hr1]; exact b82) (by omega)
        refine V_ldc (a := 99999) kc_X12_192 rfl dX12_races_85 ?_
        exact V_ireturn rfl (by have := hQ _ _ ksx kgx (by rw [ho, hr1]; exact u2_s); rw [ho, hr1, if_pos b82] at this; exact this) dX12_races_87
termination_by (T 108 k).toNat - i
theorem w_races15 {T : TT} {Q : QT} {ρ : RT} {f0 : IT} {g0 : JT} (hρ : Fx ρ) (hk : TOK T) {p : Nat} (hp : p < nPl T) {c : CC} (hc : CR c) {x0 : RS} {am : Int}
    (hQ : ∀ (f : IT) (g : JT), KS f0 f → KR g0 g → g 104 69 = (rnS T c (T 121 p).toNat (pce T p) (nLa T) x0).2 → Q (some (.int (iz (if (rnS T c (T 121 p).toNat (pce T p) (nLa T) x0).1.2.2.1 = 0 then 99999 else (rnS T c (T 121 p).toNat (pce T p) (nLa T) x0).1.1)))) ρ f g)
    (k : Nat) (hkE : k ≤ nLa T) (f : IT) (g : JT) (x : RS) (a5 : Value) (hT : MT T f) (hM : MS c x.1 f) (hd : g 104 69 = x.2) (hs : SR x.1) (hpos : x.1.2.2.1 ≠ 0) (hf : KS f0 f) (hg : KR g0 g) (hr : rnS T c (T 121 p).toNat (pce T p) k x0 = x) :
    V_X12_races Q 15 [.ref 104, .int (iz am), .int (iz (p : Int)), .int (iz (((T 121 p).toNat : Nat) : Int)), .int (iz (k : Int)), a5] [] ρ f g := by
  have h6 := hk.la
  have fl : f 104 12 = ((nLa T : Nat) : Int) := (hT 104 12 rfl).trans h6.1
  refine V_il4 dX12_races_15 ?_
  refine V_al0n dX12_races_17 ?_
  refine V_getI kk104 (by decide) fl_X12_250 fl dX12_races_18 ?_
  refine V_icmp_ge (tgt := 100) dX12_races_21 rfl (by first | assumption | (unfold ri at *; omega)) (by first | assumption | (unfold ri at *; omega)) (fun b21 => ?_) (fun b21 => ?_)
  · have ek : k = nLa T := by omega
    subst ek
    refine V_al0n dX12_races_100 ?_
    refine V_getI kk104 (by decide) fl_X12_441 hM.2.2.2.2.2.1 dX12_races_101 ?_
    exact V_ireturn rfl (by have := hQ f g hf hg (by rw [hr]; exact hd); rw [hr, if_neg hpos] at this; exact this) dX12_races_104
  · refine V_iconst dX12_races_24 ?_
    refine V_is5 dX12_races_25 (by decide) rfl ?_
    exact w_races hρ hk hp hc hQ k (by omega) (fun f1 g1 x1 a5 c1 c2 c3 c4 c5 c6 c7 c8 => w_races15 hρ hk hp hc hQ (k + 1) (by omega) f1 g1 x1 a5 c1 c2 c3 c4 c5 c6 c7 c8) 0 f g x hT hM hd hs hpos hf hg (by have := (hk.lane (k := k) (by omega)).1; omega) (by simp only [rnS]; rw [hr]; rfl)
termination_by nLa T - k
/-- a man's race by chance from the number d on -/
def rcS (T : TT) (ra : Bool) (sk : Int) (m p : Nat) (d : Int) : RS := rnS T (c0 T ra sk m) (T 121 p).toNat (pce T p) (nLa T) (s0 T m, d)
def tenR (x : RS) : Int := if x.1.2.2.1 = 0 then 99999 else x.1.1
theorem c_races {T : TT} {ρ : RT} {f : IT} {g : JT} (hρ : Fx ρ) (hT : MT T f) (hk : TOK T) {sk : Int} {ra : Bool} (hs : f 104 67 = sk) (hsk : 0 ≤ sk ∧ sk ≤ 30) (hr : f 104 68 = bz ra) {m p : Nat} (hm : m < nMe T) (hp : p < nPl T) {d : Int} (hd : g 104 69 = d) :
    C_X12_races [.ref 104, .int (iz (m : Int)), .int (iz (p : Int))] ρ f g (fun r ρ' f' g' => r = some (.int (iz (tenR (rcS T ra sk m p d)))) ∧ ρ' = ρ ∧ KM f f' ∧ KR g g' ∧ g' 104 69 = (rcS T ra sk m p d).2) := by
  have h5 := hk.pl
  have hho := hk.ho
  have hpl := (hk.plan hp).1
  obtain ⟨k1, k2, k3⟩ := c0_ok hk hm (ra := ra) hsk
  have eh : T 121 p = (((T 121 p).toNat : Nat) : Int) := by omega
  refine Ct.ofV (by decide) rfl (Nat.le_of_ble_eq_true rfl) ?_
  refine V_al0n dX12_races_0 ?_
  refine V_il1n dX12_races_1 ?_
  refine V_callV (as := [_]) ml_X12_467 im_X12_begins se_X12_begins kk104 (by decide) (by decide) dX12_races_2 rfl rfl (by decide) (by decide) (Nat.le_of_ble_eq_true rfl) (by decide) (by decide) rfl (c_begins1 hρ hT hk hm (ra := ra) hs hr) ?_
  rintro r2 ρ2 f2 g2 ⟨rfl, s2_0, hM, km, hT2, kb, s2_1⟩
  obtain rfl := s2_0.symm
  obtain rfl := s2_1.symm
  refine V_al0n dX12_races_5 ?_
  refine V_getR kk104 (by decide) fl_X12_63 (fx_104_44 hρ) dX12_races_6 ?_
  refine V_il2n dX12_races_9 ?_
  refine V_iald (k := p) kk121 (by decide) (by first | rfl | omega) (by omega) (by first | decide | assumption | omega) ((hT2.at rfl (by omega : p < 5)).trans eh) dX12_races_10 ?_
  refine V_is3n dX12_races_11 (by decide) rfl ?_
  refine V_iconst dX12_races_12 ?_
  refine V_is4 dX12_races_13 (by decide) rfl ?_
  exact w_races15 hρ hk hp k1 (x0 := (s0 T m, d)) (fun f' g' a1 a2 a3 => ⟨rfl, rfl, km.tr a1.km, a2, a3⟩) 0 (by omega) f2 g (s0 T m, d) _ hT2 hM hd k2 k3 KS.rf KR.rf rfl

