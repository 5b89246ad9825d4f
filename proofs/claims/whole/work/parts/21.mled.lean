theorem c_runsE {T : TT} {ρ : RT} {f : IT} {g : JT} (hρ : Fx ρ) (hT : MT T f) (hk : TOK T) {p E : Nat} {e : Int} (he : e = (E : Int) - 1) (hp : p < nPl T) (hE : E ≤ nLa T) {c : CC} (hc : CR c) {s0 : SS} (hM : MS c s0 f) (hs : SR s0) (hpos : s0.2.2.1 ≠ 0) :
    C_X12_runs [.ref 104, .int (iz (p : Int)), .int (iz e)] ρ f g (fun r ρ' f' g' => ∃ b : Bool, r = some (.int (iz (bz b))) ∧ (b = true ↔ (rn T c (T 117 (T 121 p).toNat) (pce T p) E s0).2.2.1 ≠ 0) ∧ ρ' = ρ ∧ MS c (rn T c (T 117 (T 121 p).toNat) (pce T p) E s0) f' ∧ KS f f' ∧ KG g g') := by
  subst he
  exact c_runs hρ hT hk hp hE hc hM hs hpos
def aSplit (T : TT) (ra : Bool) (sk m p k : Int) : Int := if (okM T m && okP T p && okL T k) = true then tells (rnP T ra sk m.toNat p.toNat (k.toNat + 1)) 0 else -1
theorem c_msplit {T : TT} {ρ : RT} {f : IT} {g : JT} (hρ : Fx ρ) (hT : MT T f) (hk : TOK T) {sk : Int} {ra : Bool} (hs : f 104 67 = sk) (hsk : 0 ≤ sk ∧ sk ≤ 30) (hr : f 104 68 = bz ra) {m p k : Int} (rm : ri m) (rp : ri p) (rk : ri k) :
    C_X12_split [.ref 104, .int (iz m), .int (iz p), .int (iz k)] ρ f g (fun r ρ' f' g' => r = some (.int (iz (aSplit T ra sk m p k))) ∧ ρ' = ρ ∧ KM f f' ∧ KM g g') := by
  have h6 := hk.la
  have h5 := hk.me
  have h4 := hk.pl
  have hT1 : MT T (u2 f 104 2 0) := hT.km (KM.u2 rfl KM.rf)
  refine Ct.ofV (by decide) rfl (Nat.le_of_ble_eq_true rfl) ?_
  refine V_al0n dX12_split_0 ?_
  refine V_iconst dX12_split_1 ?_
  refine V_putI kk104 (by decide) fl_X12_154 rfl dX12_split_2 ?_
  refine V_al0n dX12_split_5 ?_
  refine V_il1n dX12_split_6 ?_
  refine V_callV (as := [_]) ml_X12_462 im_X12_isMan se_X12_isMan kk104 (by decide) (by decide) dX12_split_7 rfl rfl (by decide) (by decide) (Nat.le_of_ble_eq_true rfl) (by decide) (by decide) rfl (c_isMan rm ((hT1 104 13 rfl).trans h5.1) (by unfold ri; omega)) ?_
  refine pq4 ?_
  refine V_bt (tgt := 29) dX12_split_10 rfl (fun b10 => ?_) (fun b10 => ?_)
  · refine V_iconst dX12_split_29 ?_
    exact V_ireturn rfl ⟨by unfold aSplit okM okP okL; simp only [*]; simp, rfl, KM.u2 rfl KM.rf, KM.rf⟩ dX12_split_30
  · refine V_al0n dX12_split_13 ?_
    refine V_il2n dX12_split_14 ?_
    refine V_callV (as := [_]) ml_X12_456 im_X12_isPlan se_X12_isPlan kk104 (by decide) (by decide) dX12_split_15 rfl rfl (by decide) (by decide) (Nat.le_of_ble_eq_true rfl) (by decide) (by decide) rfl (c_isPlan rp ((hT1 104 15 rfl).trans h4.1) (by unfold ri; omega)) ?_
    refine pq4 ?_
    refine V_bt (tgt := 29) dX12_split_18 rfl (fun b18 => ?_) (fun b18 => ?_)
    · refine V_iconst dX12_split_29 ?_
      exact V_ireturn rfl ⟨by unfold aSplit okM okP okL; simp only [*]; simp, rfl, KM.u2 rfl KM.rf, KM.rf⟩ dX12_split_30
    · refine V_al0n dX12_split_21 ?_
      refine V_il3n dX12_split_22 ?_
      refine V_callV (as := [_]) ml_X12_450 im_X12_isLane se_X12_isLane kk104 (by decide) (by decide) dX12_split_23 rfl rfl (by decide) (by decide) (Nat.le_of_ble_eq_true rfl) (by decide) (by decide) rfl (c_isLane rk ((hT1 104 12 rfl).trans h6.1) (by unfold ri; omega)) ?_
      refine pq4 ?_
      refine V_bf (tgt := 31) dX12_split_26 rfl (fun b26 => ?_) (fun b26 => ?_)
      · have c1 := b10
        have c2 := b18
        have c3 := b26
        simp only [decide_eq_true_eq] at c1 c2 c3
        obtain ⟨mN, rfl⟩ : ∃ n : Nat, m = n := ⟨m.toNat, by omega⟩
        obtain ⟨pN, rfl⟩ : ∃ n : Nat, p = n := ⟨p.toNat, by omega⟩
        obtain ⟨kN, rfl⟩ : ∃ n : Nat, k = n := ⟨k.toNat, by omega⟩
        obtain ⟨k1, k2, k3⟩ := c0_ok hk (m := mN) (by omega) (ra := ra) hsk
        refine V_al0n dX12_split_31 ?_
        refine V_il1n dX12_split_32 ?_
        refine V_callV (as := [_]) ml_X12_467 im_X12_begins se_X12_begins kk104 (by decide) (by decide) dX12_split_33 rfl rfl (by decide) (by decide) (Nat.le_of_ble_eq_true rfl) (by decide) (by decide) rfl (c_begins1 hρ hT1 hk (m := mN) (by omega) (ra := ra) (u2_n (by omega) hs) (u2_n (by omega) hr)) ?_
        rintro r33 ρ33 f33 g33 ⟨rfl, s33_0, hM, km, hT2, kb, rfl⟩
        obtain rfl := s33_0.symm
        refine V_al0n dX12_split_36 ?_
        refine V_il2n dX12_split_37 ?_
        refine V_il3n dX12_split_38 ?_
        refine V_callV (as := [_, _]) ml_X12_473 im_X12_runs se_X12_runs kk104 (by decide) (by decide) dX12_split_39 rfl rfl (by decide) (by decide) (Nat.le_of_ble_eq_true rfl) (by decide) (by decide) rfl (c_runsE hρ hT2 hk (p := pN) (E := kN + 1) (by omega) (by omega) (by omega) k1 hM k2 k3) ?_
        rintro r39 ρ39 f39 g39 ⟨bb, rfl, hb, s39_0, hM3, ks, kg⟩
        obtain rfl := s39_0.symm
        have kk : KM f f39 := (KM.u2 (x := 0) rfl KM.rf).tr (km.tr ks.km)
        obtain ⟨m1, m2, m3, m4, m5, m6, m7, m8, m9⟩ := hM3
        have ea : aSplit T ra sk (mN : Int) (pN : Int) (kN : Int) = tells (rnP T ra sk mN pN (kN + 1)) 0 := by unfold aSplit okM okP okL; simp only [b10, b18, b26]; simp
        unfold tells at ea
        unfold rnP at ea
        refine V_bt (tgt := 52) dX12_split_42 rfl (fun b42 => ?_) (fun b42 => ?_)
        · have hb2 : ¬ (rn T (c0 T ra sk mN) (T 117 (T 121 pN).toNat) (pce T pN) (kN + 1) (s0 T mN)).2.2.1 ≠ 0 := fun h => by rw [hb.mpr h] at b42; cases b42
          refine V_bipush dX12_split_52 rfl ?_
          exact V_ireturn rfl ⟨by rw [ea]; first | (rw [if_pos (by omega)]; done) | (rw [if_neg (by omega), if_pos (by omega)]; done), rfl, kk, kg.km⟩ dX12_split_54
        · have hb2 := hb.mp b42
          refine V_al0n dX12_split_45 ?_
          refine V_getI kk104 (by decide) fl_X12_441 m6 dX12_split_46 ?_
          refine V_goto (tgt := 54) dX12_split_49 rfl ?_
          exact V_ireturn rfl ⟨by rw [ea]; first | (rw [if_pos (by omega)]; done) | (rw [if_neg (by omega), if_pos (by omega)]; done), rfl, kk, kg.km⟩ dX12_split_54
      · refine V_iconst dX12_split_29 ?_
        exact V_ireturn rfl ⟨by unfold aSplit okM okP okL; simp only [*]; simp, rfl, KM.u2 rfl KM.rf, KM.rf⟩ dX12_split_30
/-- in which stretch one stands behind so many steps -/
def latR (T : TT) : Nat → Nat → Int → Nat
  | 0, k, _ => k
  | n + 1, k, left => if T 108 k ≤ left then latR T n (k + 1) (left - T 108 k) else k
def lat (T : TT) (n : Int) : Nat := latR T (nLa T) 0 n
theorem w_laneAt {T : TT} {Q : QT} {ρ : RT} {f : IT} {g : JT} (hρ : Fx ρ) (hT : MT T f) (hk : TOK T) {a : Int} {R : Nat} (hQ : Q (some (.int (iz (R : Int)))) ρ f g) (k : Nat) (hkl : k ≤ nLa T) (left : Int) (hl : 0 ≤ left ∧ left ≤ 2147483647) (hR : latR T (nLa T - k) k left = R) : V_X12_laneAt Q 4 [.ref 104, .int (iz a), .int (iz (k : Int)), .int (iz left)] [] ρ f g := by
  have h6 := hk.la
  have fl : f 104 12 = ((nLa T : Nat) : Int) := (hT 104 12 rfl).trans h6.1
  refine V_il2n dX12_laneAt_4 ?_
  refine V_al0n dX12_laneAt_5 ?_
  refine V_getI kk104 (by decide) fl_X12_250 fl dX12_laneAt_6 ?_
  refine V_icmp_ge (tgt := 37) dX12_laneAt_9 rfl (by first | assumption | (unfold ri at *; omega)) (by first | assumption | (unfold ri at *; omega)) (fun b9 => ?_) (fun b9 => ?_)
  · rw [show nLa T - k = 0 by omega] at hR
    simp only [latR] at hR
    subst hR
    refine V_il2n dX12_laneAt_37 ?_
    exact V_ireturn rfl hQ dX12_laneAt_38
  · have hlk := (hk.lane (k := k) (by omega)).1
    rw [show nLa T - k = (nLa T - (k + 1)) + 1 by omega, latR] at hR
    refine V_il3n dX12_laneAt_12 ?_
    refine V_al0n dX12_laneAt_13 ?_
    refine V_getR kk104 (by decide) fl_X12_23 (fx_104_31 hρ) dX12_laneAt_14 ?_
    refine V_il2n dX12_laneAt_17 ?_
    refine V_iald (k := k) kk108 (by decide) (by first | rfl | omega) (by omega) (by first | decide | assumption | omega) (hT.at rfl (by omega : k < 6)) dX12_laneAt_18 ?_
    refine V_icmp_lt (tgt := 37) dX12_laneAt_19 rfl (by first | assumption | (unfold ri at *; omega)) (by first | assumption | (unfold ri at *; omega)) (fun b19 => ?_) (fun b19 => ?_)
    · rw [if_neg (by omega)] at hR
      subst hR
      refine V_il2n dX12_laneAt_37 ?_
      exact V_ireturn rfl hQ dX12_laneAt_38
    · rw [if_pos (by omega)] at hR
      refine V_il3n dX12_laneAt_22 ?_
      refine V_al0n dX12_laneAt_23 ?_
      refine V_getR kk104 (by decide) fl_X12_23 (fx_104_31 hρ) dX12_laneAt_24 ?_
      refine V_il2n dX12_laneAt_27 ?_
      refine V_iald (k := k) kk108 (by decide) (by first | rfl | omega) (by omega) (by first | decide | assumption | omega) (hT.at rfl (by omega : k < 6)) dX12_laneAt_28 ?_
      refine V_isub dX12_laneAt_29 ?_
      refine V_is3n dX12_laneAt_30 (by decide) rfl ?_
      refine V_inc2 dX12_laneAt_31 (by decide) rfl ?_
      refine V_goto (tgt := 4) dX12_laneAt_34 rfl ?_
      exact w_laneAt hρ hT hk hQ (k + 1) (by omega) _ (by omega) hR
termination_by nLa T - k
theorem c_laneAt {T : TT} {ρ : RT} {f : IT} {g : JT} (hρ : Fx ρ) (hT : MT T f) (hk : TOK T) {a : Int} (ha : 0 ≤ a ∧ a ≤ 2147483647) : C_X12_laneAt [.ref 104, .int (iz a)] ρ f g (fun r ρ' f' g' => r = some (.int (iz ((lat T a : Nat) : Int))) ∧ ρ' = ρ ∧ f' = f ∧ g' = g) := by
  refine Ct.ofV (by decide) rfl (Nat.le_of_ble_eq_true rfl) ?_
  refine V_iconst dX12_laneAt_0 ?_
  refine V_is2n dX12_laneAt_1 (by decide) rfl ?_
  refine V_il1n dX12_laneAt_2 ?_
  refine V_is3n dX12_laneAt_3 (by decide) rfl ?_
  exact w_laneAt hρ hT hk ⟨rfl, rfl, rfl, rfl⟩ 0 (by omega) a ha rfl
/-- all steps of the lane -/
def allS (T : TT) : Int := sumTo (T 108) (nLa T)
theorem allS_rng {T : TT} (hk : TOK T) : 0 ≤ allS T ∧ allS T ≤ 120 := by
  have := sumTo_le (s := T 108) (b := 20) (nLa T) (fun k h => by have := (hk.lane h).1; omega)
  have h6 := hk.la
  unfold allS
  omega
theorem latR_lt {T : TT} (hk : TOK T) : ∀ (n k : Nat) (left : Int), k + n = nLa T → 0 ≤ left → left < sumTo (T 108) (nLa T) - sumTo (T 108) k → latR T n k left < nLa T
  | 0, k, left, h, h0, hl => by
    rw [show nLa T = k by omega] at hl
    omega
  | n + 1, k, left, h, h0, hl => by
    have hlk := (hk.lane (k := k) (by omega)).1
    unfold latR
    split
    · exact latR_lt hk n (k + 1) _ (by omega) (by omega) (by simp only [sumTo]; omega)
    · omega
theorem lat_lt {T : TT} (hk : TOK T) {n : Int} (h : 0 ≤ n ∧ n < allS T) : lat T n < nLa T := latR_lt hk (nLa T) 0 n (by omega) h.1 (by simp only [sumTo]; have := h.2; unfold allS at this; omega)
/-- n steps by a plan's paces, one behind another -/
def ldd (T : TT) (c : CC) (hc : Int) (pc : Nat → Int) : Nat → SS → SS
  | 0, s => s
  | n + 1, s => if (ldd T c hc pc n s).2.2.1 = 0 then ldd T c hc pc n s else one T c (lat T n) hc (pc (lat T n)) (ldd T c hc pc n s)
theorem ldd_out {T : TT} {c : CC} {hc : Int} {pc : Nat → Int} {s : SS} {i : Nat} (h : (ldd T c hc pc i s).2.2.1 = 0) : ∀ j : Nat, i ≤ j → ldd T c hc pc j s = ldd T c hc pc i s
  | 0, hj => by rw [show i = 0 by omega]
  | j + 1, hj => by
    by_cases e : i = j + 1
    · rw [e]
    · have h1 := ldd_out h j (by omega)
      simp only [ldd]
      rw [h1, if_pos h]
def aLed (T : TT) (ra : Bool) (sk m p n w : Int) : Int := if (okM T m && okP T p && zin n 0 (allS T) && zin w 0 2) = true then tells (ldd T (c0 T ra sk m.toNat) (T 117 (T 121 p.toNat).toNat) (pce T p.toNat) n.toNat (s0 T m.toNat)) w else -1
theorem w_led {T : TT} {Q : QT} {ρ : RT} {f0 : IT} {g0 : JT} (hρ : Fx ρ) (hk : TOK T) {p : Nat} (hp : p < nPl T) {c : CC} (hc : CR c) {st : SS} (hst : st.2.2.2 = 0) {n : Nat} (hn : (n : Int) ≤ allS T) {am w : Int} (rw_ : ri w)
    (hQ : ∀ (f : IT) (g : JT), KM f0 f → KM g0 g → Q (some (.int (iz (tells (ldd T c (T 117 (T 121 p).toNat) (pce T p) n st) w)))) ρ f g)
    (i : Nat) (hi : i ≤ n) (f : IT) (g : JT) (hT : MT T f) (hM : MS c (ldd T c (T 117 (T 121 p).toNat) (pce T p) i st) f) (hs : SR (ldd T c (T 117 (T 121 p).toNat) (pce T p) i st)) (hpos : (ldd T c (T 117 (T 121 p).toNat) (pce T p) i st).2.2.1 ≠ 0) (hd : (ldd T c (T 117 (T 121 p).toNat) (pce T p) i st).2.2.2 = i) (hf : KM f0 f) (hg : KM g0 g) (a5 : Value) :
    V_X12_led Q 50 [.ref 104, .int (iz am), .int (iz (p : Int)), .int (iz (n : Int)), .int (iz w), a5] [] ρ f g := by
  have h6 := hk.la
  have h5 := hk.pl
  have hall := allS_rng hk
  have hpl := (hk.plan hp).1
  have hho := hk.ho
  have hh : (T 121 p).toNat < nHo T := by omega
  have eh : T 121 p = (((T 121 p).toNat : Nat) : Int) := by omega
  have M9 : f 104 77 = (i : Int) := hM.2.2.2.2.2.2.2.2.trans hd
  obtain ⟨m1, m2, m3, m4, m5, m6, m7, m8, m9⟩ := hM
  by_cases e : i < n
  · have hlat := lat_lt hk (n := (i : Int)) (by omega)
    have hpp := pce_rng hk (k := lat T (i : Int)) hp
    have hstep : ldd T c (T 117 (T 121 p).toNat) (pce T p) (i + 1) st = one T c (lat T (i : Int)) (T 117 (T 121 p).toNat) (pce T p (lat T (i : Int))) (ldd T c (T 117 (T 121 p).toNat) (pce T p) i st) := by simp only [ldd]; rw [if_neg hpos]
    have hrng := one_rng hk hc hlat hh hpp hs
    refine V_al0n dX12_led_50 ?_
    refine V_getI kk104 (by decide) fl_X12_447 M9 dX12_led_51 ?_
    refine V_il3n dX12_led_54 ?_
    refine V_icmp_ge (tgt := 100) dX12_led_55 rfl (by first | assumption | (unfold ri at *; omega)) (by first | assumption | (unfold ri at *; omega)) (fun b55 => ?_) (fun b55 => ?_)
    · exfalso; omega
    · refine V_al0n dX12_led_58 ?_
      refine V_al0n dX12_led_59 ?_
      refine V_getI kk104 (by decide) fl_X12_447 M9 dX12_led_60 ?_
      refine V_callV (as := [_]) ml_X12_479 im_X12_laneAt se_X12_laneAt kk104 (by decide) (by decide) dX12_led_63 rfl rfl (by decide) (by decide) (Nat.le_of_ble_eq_true rfl) (by decide) (by decide) rfl (c_laneAt hρ hT hk (by omega)) ?_
      refine pq4 ?_
      refine V_is5 dX12_led_66 (by decide) rfl ?_
      refine V_al0n dX12_led_68 ?_
      refine V_il5 dX12_led_69 ?_
      refine V_al0n dX12_led_71 ?_
      refine V_getR kk104 (by decide) fl_X12_63 (fx_104_44 hρ) dX12_led_72 ?_
      refine V_il2n dX12_led_75 ?_
      refine V_iald (k := p) kk121 (by decide) (by first | rfl | omega) (by omega) (by first | decide | assumption | omega) ((hT.at rfl (by omega : p < 5)).trans eh) dX12_led_76 ?_
      refine V_al0n dX12_led_77 ?_
      refine V_il2n dX12_led_78 ?_
      refine V_il5 dX12_led_79 ?_
      refine V_callV (as := [_, _]) ml_X12_459 im_X12_paceOf se_X12_paceOf kk104 (by decide) (by decide) dX12_led_81 rfl rfl (by decide) (by decide) (Nat.le_of_ble_eq_true rfl) (by decide) (by decide) rfl (c_paceOf hρ hT hk hp (by omega)) ?_
      refine pq4 ?_
      refine V_callV (as := [_, _, _]) ml_X12_470 im_X12_step se_X12_step kk104 (by decide) (by decide) dX12_led_84 rfl rfl (by decide) (by decide) (Nat.le_of_ble_eq_true rfl) (by decide) (by decide) rfl (c_step1 hρ hT hk hlat hh ⟨m1, m2, m3, m4, m5, m6, m7, m8, m9⟩ hc hs hpp) ?_
      rintro r84 ρ84 f84 g84 ⟨rfl, s84_0, hM1, ks1, kg1⟩
      obtain rfl := s84_0.symm
      rw [← hstep] at hM1 hrng
      refine V_al0n dX12_led_87 ?_
      refine V_getI kk104 (by decide) fl_X12_420 hM1.2.2.2.2.2.2.2.1 dX12_led_88 ?_
      refine V_if_ne (tgt := 97) dX12_led_91 rfl (by have := hrng.1; unfold SR at this; unfold ri; omega) (fun b91 => ?_) (fun b91 => ?_)
      · refine V_goto (tgt := 50) dX12_led_97 rfl ?_
        exact w_led hρ hk hp hc hst hn rw_ hQ (i + 1) (by omega) f84 g84 (ks1.mt hT) hM1 hrng.1 b91 (by rw [hstep]; simp only [one]; omega) (hf.tr ks1.km) (hg.tr kg1.km) _
      · have ho := ldd_out b91 n (by omega)
        refine V_bipush dX12_led_94 rfl ?_
        exact V_ireturn rfl (by have := hQ f84 g84 (hf.tr ks1.km) (hg.tr kg1.km); rw [ho] at this; unfold tells at this; rw [if_pos b91] at this; exact this) dX12_led_96
  · have ei : i = n := by omega
    subst ei
    have hq := hQ f g hf hg
    unfold tells at hq
    rw [if_neg hpos] at hq
    refine V_al0n dX12_led_50 ?_
    refine V_getI kk104 (by decide) fl_X12_447 M9 dX12_led_51 ?_
    refine V_il3n dX12_led_54 ?_
    refine V_icmp_ge (tgt := 100) dX12_led_55 rfl (by first | assumption | (unfold ri at *; omega)) (by first | assumption | (unfold ri at *; omega)) (fun b55 => ?_) (fun b55 => ?_)
    · refine V_il4 dX12_led_100 ?_
      refine V_if_ne (tgt := 112) dX12_led_102 rfl (by first | assumption | (unfold ri at *; omega)) (fun b102 => ?_) (fun b102 => ?_)
      · refine V_il4 dX12_led_112 ?_
        refine V_iconst dX12_led_114 ?_
        refine V_icmp_ne (tgt := 125) dX12_led_115 rfl (by first | assumption | (unfold ri at *; omega)) (by first | assumption | (unfold ri at *; omega)) (fun b115 => ?_) (fun b115 => ?_)
        · refine V_al0n dX12_led_125 ?_
          refine V_getI kk104 (by decide) fl_X12_420 m8 dX12_led_126 ?_
          exact V_ireturn rfl (by first | (rw [if_pos (by omega)] at hq; exact hq) | (rw [if_neg (by omega), if_pos (by omega)] at hq; exact hq) | (rw [if_neg (by omega), if_neg (by omega)] at hq; exact hq)) dX12_led_129
        · refine V_al0n dX12_led_118 ?_
          refine V_getI kk104 (by decide) fl_X12_417 m7 dX12_led_119 ?_
          refine V_goto (tgt := 129) dX12_led_122 rfl ?_
          exact V_ireturn rfl (by first | (rw [if_pos (by omega)] at hq; exact hq) | (rw [if_neg (by omega), if_pos (by omega)] at hq; exact hq) | (rw [if_neg (by omega), if_neg (by omega)] at hq; exact hq)) dX12_led_129
      · refine V_al0n dX12_led_105 ?_
        refine V_getI kk104 (by decide) fl_X12_441 m6 dX12_led_106 ?_
        refine V_goto (tgt := 129) dX12_led_109 rfl ?_
        exact V_ireturn rfl (by first | (rw [if_pos (by omega)] at hq; exact hq) | (rw [if_neg (by omega), if_pos (by omega)] at hq; exact hq) | (rw [if_neg (by omega), if_neg (by omega)] at hq; exact hq)) dX12_led_129
    · exfalso; omega
termination_by n - i

