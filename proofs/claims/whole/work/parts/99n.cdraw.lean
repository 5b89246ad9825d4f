section CDRAW
variable {T : TT} {b : Nat} {ρ : RT} {f : IT} {g : JT}
/-- n steps by chance, one behind another -/
def ldS (T : TT) (c : CC) (h : Nat) (pc : Nat → Int) : Nat → RS → RS
  | 0, x => x
  | n + 1, x => if (ldS T c h pc n x).1.2.2.1 = 0 then ldS T c h pc n x else onS T c (lat T n) h (pc (lat T n)) (ldS T c h pc n x)
theorem ldS_out {c : CC} {h : Nat} {pc : Nat → Int} {x : RS} {i : Nat} (hx : (ldS T c h pc i x).1.2.2.1 = 0) : ∀ j : Nat, i ≤ j → ldS T c h pc j x = ldS T c h pc i x
  | 0, hj => by rw [show i = 0 by omega]
  | j + 1, hj => by
    by_cases e : i = j + 1
    · rw [e]
    · have h1 := ldS_out hx j (by omega)
      rw [ldS, h1, if_pos hx]
theorem thS_tail {c : CC} {k h : Nat} {pa : Int} : ∀ (n : Nat) (x : RS), thS T c k h pa (n + 1) x = if (thS T c k h pa n x).1.2.2.1 = 0 then thS T c k h pa n x else onS T c k h pa (thS T c k h pa n x)
  | 0, x => rfl
  | n + 1, x => by
    rw [thS]
    by_cases e : x.1.2.2.1 = 0
    · rw [if_pos e, thS_out e, if_pos e]
    · rw [if_neg e, thS_tail n (onS T c k h pa x)]
      have e2 : thS T c k h pa (n + 1) x = thS T c k h pa n (onS T c k h pa x) := by rw [thS, if_neg e]
      rw [e2]
theorem thS_ldS (hk : TOK T) {c : CC} {h : Nat} {pc : Nat → Int} {x : RS} {k : Nat} (hl : k < nLa T) : ∀ n : Nat, (n : Int) ≤ T 108 k → thS T c k h (pc k) n (ldS T c h pc (sumTo (T 108) k).toNat x) = ldS T c h pc ((sumTo (T 108) k).toNat + n) x
  | 0, _ => rfl
  | n + 1, hn => by
    have hnn := sumTo_nn hk k (by omega)
    rw [thS_tail, thS_ldS hk hl n (by omega), ← Nat.add_assoc, ldS]
    have : lat T (((sumTo (T 108) k).toNat + n : Nat) : Int) = k := PO.lat hk (v := (n : Int)) ⟨by omega, Or.inl (by omega)⟩
    rw [this]
theorem rnS_ldS (hk : TOK T) {c : CC} {h : Nat} {pc : Nat → Int} {x : RS} : ∀ E : Nat, E ≤ nLa T → rnS T c h pc E x = ldS T c h pc (sumTo (T 108) E).toNat x
  | 0, _ => rfl
  | E + 1, hE => by
    have hnn := sumTo_nn hk E (by omega)
    have hln := hk.lane (k := E) (by omega)
    rw [rnS, rnS_ldS hk E (by omega), thS_ldS hk (by omega) _ (by omega)]
    congr 1
    have e : sumTo (T 108) (E + 1) = sumTo (T 108) E + T 108 E := rfl
    omega
theorem ldS_rng (hk : TOK T) {c : CC} (hc : CR c) {h : Nat} (hh : h < nHo T) {pc : Nat → Int} (hp : ∀ k, 1 ≤ pc k ∧ pc k ≤ 9) {x : RS} (hs : SR x.1) (hs4 : x.1.2.2.1 ≤ 40) : ∀ j : Nat, (j : Int) ≤ allS T → SR (ldS T c h pc j x).1 ∧ (ldS T c h pc j x).1.2.2.1 ≤ 40
  | 0, _ => ⟨hs, hs4⟩
  | j + 1, hj => by
    have ih := ldS_rng hk hc hh hp hs hs4 j (by omega)
    rw [ldS]
    split
    · exact ih
    · have := one_rng hk hc (lat_lt hk (n := (j : Int)) (by omega)) hh (hp (lat T j)) ih.1
      unfold onS
      simp only
      split
      · exact ⟨this.1, by have := ih.2; simp only; omega⟩
      · exact ⟨this.1, by have := ih.2; omega⟩
theorem w_draw {Q : QT} {f0 : IT} {g0 : JT} (hW : TW T b ρ) {c : CC} (hc : CR c) {h p : Nat} (hh : h < nHo T) (hp : p < nPl T) {a1 a2 : Int} {st : RS} (hs : SR st.1) (hs4 : st.1.2.2.1 ≤ 40) (hE0 : ∀ F, (∀ k, F 55 k = f0 55 k) → GE T c F) {R : RS} (hR : R = ldS T c h (pce T p) (allS T).toNat st)
    (hQ : ∀ f' g', CT T b f' → GI T c.1 c.2.1 f' g' → AWf b f0 g0 f' g' → (∀ k, f' 55 k = f0 55 k) → WS 65 c (T 117 h) R.1 f' → g' 65 14 = R.2 → Q (some (.int (iz (bz (decide (R.1.2.2.1 ≠ 0)))))) ρ f' g')
    (i : Nat) (f : IT) (g : JT) (k : Nat) (v : Int) (hC : CT T b f) (hG : GI T c.1 c.2.1 f g) (hA : AWf b f0 g0 f g) (h55 : ∀ k, f 55 k = f0 55 k) (hPO : PO T (i : Int) k v) (h0 : f 65 0 = 1) (hK : WK T 65 c h p k 0 v (ldS T c h (pce T p) i st) f g) :
    V_X11_drawRace Q 20 [.ref 0, .int (iz a1), .int (iz a2), .int (iz (i : Int))] [] ρ f g := by
  have hk := hW.2.2.2.2.1
  have hb := hW.2.1
  have hρ := hW.1
  have h6 := hk.la
  have hall := allS_rng hk
  have hgo := hPO.go hk
  have hpc : ∀ j, 1 ≤ pce T p j ∧ pce T p j ≤ 9 := fun j => pce_rng hk hp
  have hiA : (i : Int) ≤ allS T := by
    rcases hPO.2 with q | q
    · have := hgo.1.mp q.1; omega
    · have e1 := hPO.1; rw [q.1, q.2] at e1; unfold allS; omega
  have hr := ldS_rng hk hc hh hpc hs hs4 i hiA
  have hK0 := hK
  obtain ⟨hWS, k14, k12, k13, k3, k2, k5, k10⟩ := hK
  have hWS0 := hWS
  obtain ⟨w6, w4, w9, w7, w8⟩ := hWS
  have hvr : 0 ≤ v ∧ v ≤ 1000 := by
    rcases hPO.2 with q | q
    · have := hk.lane q.1; omega
    · omega
  have ewg : wgo T 65 f = (decide (0 < (ldS T c h (pce T p) i st).1.2.2.1) && decide (k < nLa T)) := by
    unfold wgo
    rw [h0, w8, k12, h6.1]
    simp
  have hgC : C_X10_isGoing [.ref 65, .ref b] ρ f g (fun r ρ' f' g' => r = some (.int (iz (bz (decide (0 < (ldS T c h (pce T p) i st).1.2.2.1) && decide (k < nLa T))))) ∧ ρ' = ρ ∧ f' = f ∧ g' = g) := by
    have := c_wgoing (w := 65) (g := g) hρ hb hC hk rfl (Or.inr h0) (by rw [w8]; have := hr.1.2; unfold ri; omega) (by rw [k12]; unfold ri; omega)
    rw [ewg] at this
    exact this
  have hoC := c_isOut (w := 65) (ρ := ρ) (f := f) (g := g) rfl (by rw [w8]; have := hr.1.2; unfold ri; omega)
  rw [w8] at hoC
  have fin : (¬ (i : Int) < 120 ∨ (decide (0 < (ldS T c h (pce T p) i st).1.2.2.1) && decide (k < nLa T)) = false) → R = ldS T c h (pce T p) i st := fun hx => by
    rw [hR]
    by_cases c2 : (ldS T c h (pce T p) i st).1.2.2.1 = 0
    · exact ldS_out c2 _ (by omega)
    · have c3 : (i : Int) = allS T := by
        by_cases c4 : (i : Int) < 120
        · rcases hx with q | q
          · exact absurd c4 q
          · have c3 : ¬ k < nLa T := fun c3 => by
              have := hr.1.2
              simp at q
              have := q (by omega)
              omega
            have := hgo.1
            omega
        · omega
      congr 1
      omega
  have nz := hr.1.2.1
  refine V_il3n dX11_drawRace_20 ?_
  refine V_bipush dX11_drawRace_21 rfl ?_
  refine V_icmp_ge (tgt := 58) dX11_drawRace_23 rfl (by unfold ri; omega) (by unfold ri; omega) (fun b23 => ?_) (fun b23 => ?_)
  · refine V_al0n dX11_drawRace_58 ?_
    refine V_getR kk0 (by decide) fl_X11_78 (fx_0_15 hρ) dX11_drawRace_59 ?_
    refine V_callV (as := []) ml_X11_253 im_X10_isOut se_X10_isOut kk65 (by decide) (by decide) dX11_drawRace_62 rfl rfl (by decide) (by decide) (Nat.le_of_ble_eq_true rfl) (by decide) (by decide) rfl (hoC) ?_
    refine pq4 ?_
    refine V_bf (tgt := 72) dX11_drawRace_65 rfl (fun b65 => ?_) (fun b65 => ?_)
    · refine V_iconst dX11_drawRace_72 ?_
      exact V_zreturn rfl (by first | exact Or.inl rfl | exact Or.inr rfl | (unfold bz; split <;> simp)) (by have eR : R = ldS T c h (pce T p) i st := (by first | exact fin (Or.inl (by omega)) | exact fin (Or.inr b37)); have hq := hQ f g hC hG hA h55 (by rw [eR]; exact hWS0) (by rw [eR]; exact k14); rw [eR] at hq; first | (rw [show decide ((ldS T c h (pce T p) i st).1.2.2.1 ≠ 0) = true by simp at b65 ⊢; omega] at hq; exact hq) | (rw [show decide ((ldS T c h (pce T p) i st).1.2.2.1 ≠ 0) = false by simp at b65 ⊢; omega] at hq; exact hq)) dX11_drawRace_73
    · refine V_iconst dX11_drawRace_68 ?_
      refine V_goto (tgt := 73) dX11_drawRace_69 rfl ?_
      exact V_zreturn rfl (by first | exact Or.inl rfl | exact Or.inr rfl | (unfold bz; split <;> simp)) (by have eR : R = ldS T c h (pce T p) i st := (by first | exact fin (Or.inl (by omega)) | exact fin (Or.inr b37)); have hq := hQ f g hC hG hA h55 (by rw [eR]; exact hWS0) (by rw [eR]; exact k14); rw [eR] at hq; first | (rw [show decide ((ldS T c h (pce T p) i st).1.2.2.1 ≠ 0) = true by simp at b65 ⊢; omega] at hq; exact hq) | (rw [show decide ((ldS T c h (pce T p) i st).1.2.2.1 ≠ 0) = false by simp at b65 ⊢; omega] at hq; exact hq)) dX11_drawRace_73
  · refine V_al0n dX11_drawRace_26 ?_
    refine V_getR kk0 (by decide) fl_X11_78 (fx_0_15 hρ) dX11_drawRace_27 ?_
    refine V_al0n dX11_drawRace_30 ?_
    refine V_getR kk0 (by decide) fl_X11_29 hW.2.2.1 dX11_drawRace_31 ?_
    refine V_callV (as := [_]) ml_X11_226 im_X10_isGoing se_X10_isGoing kk65 (by decide) (by decide) dX11_drawRace_34 rfl rfl (by decide) (by decide) (Nat.le_of_ble_eq_true rfl) (by decide) (by decide) rfl (hgC) ?_
    refine pq4 ?_
    refine V_bt (tgt := 58) dX11_drawRace_37 rfl (fun b37 => ?_) (fun b37 => ?_)
    · refine V_al0n dX11_drawRace_58 ?_
      refine V_getR kk0 (by decide) fl_X11_78 (fx_0_15 hρ) dX11_drawRace_59 ?_
      refine V_callV (as := []) ml_X11_253 im_X10_isOut se_X10_isOut kk65 (by decide) (by decide) dX11_drawRace_62 rfl rfl (by decide) (by decide) (Nat.le_of_ble_eq_true rfl) (by decide) (by decide) rfl (hoC) ?_
      refine pq4 ?_
      refine V_bf (tgt := 72) dX11_drawRace_65 rfl (fun b65 => ?_) (fun b65 => ?_)
      · refine V_iconst dX11_drawRace_72 ?_
        exact V_zreturn rfl (by first | exact Or.inl rfl | exact Or.inr rfl | (unfold bz; split <;> simp)) (by have eR : R = ldS T c h (pce T p) i st := (by first | exact fin (Or.inl (by omega)) | exact fin (Or.inr b37)); have hq := hQ f g hC hG hA h55 (by rw [eR]; exact hWS0) (by rw [eR]; exact k14); rw [eR] at hq; first | (rw [show decide ((ldS T c h (pce T p) i st).1.2.2.1 ≠ 0) = true by simp at b65 ⊢; omega] at hq; exact hq) | (rw [show decide ((ldS T c h (pce T p) i st).1.2.2.1 ≠ 0) = false by simp at b65 ⊢; omega] at hq; exact hq)) dX11_drawRace_73
      · refine V_iconst dX11_drawRace_68 ?_
        refine V_goto (tgt := 73) dX11_drawRace_69 rfl ?_
        exact V_zreturn rfl (by first | exact Or.inl rfl | exact Or.inr rfl | (unfold bz; split <;> simp)) (by have eR : R = ldS T c h (pce T p) i st := (by first | exact fin (Or.inl (by omega)) | exact fin (Or.inr b37)); have hq := hQ f g hC hG hA h55 (by rw [eR]; exact hWS0) (by rw [eR]; exact k14); rw [eR] at hq; first | (rw [show decide ((ldS T c h (pce T p) i st).1.2.2.1 ≠ 0) = true by simp at b65 ⊢; omega] at hq; exact hq) | (rw [show decide ((ldS T c h (pce T p) i st).1.2.2.1 ≠ 0) = false by simp at b65 ⊢; omega] at hq; exact hq)) dX11_drawRace_73
    · have bg : 0 < (ldS T c h (pce T p) i st).1.2.2.1 ∧ k < nLa T := by simpa using b37
      refine V_al0n dX11_drawRace_40 ?_
      refine V_getR kk0 (by decide) fl_X11_78 (fx_0_15 hρ) dX11_drawRace_41 ?_
      refine V_al0n dX11_drawRace_44 ?_
      refine V_getR kk0 (by decide) fl_X11_48 (fx_0_7 hρ) dX11_drawRace_45 ?_
      refine V_iconst dX11_drawRace_48 ?_
      refine V_callV (as := [_, _]) ml_X11_233 im_X10_step se_X10_step kk65 (by decide) (by decide) dX11_drawRace_49 rfl rfl (by decide) (by decide) (Nat.le_of_ble_eq_true rfl) (by decide) (by decide) rfl (c_wstep (sl := true) hρ hW.2.2.2.1 hb hk hW.2.2.2.2.2 rfl (by omega) hc bg.2 hh hp (by omega) hvr hC hG (hE0 f h55) hK0 hr.1 hr.2 (by omega)) ?_
      rintro r49 ρ49 f49 g49 ⟨rfl, s49_0, q1, q2, q3, q4, q5, q6⟩
      obtain rfl := s49_0.symm
      refine V_inc3 dX11_drawRace_52 (by decide) rfl ?_
      refine V_goto (tgt := 20) dX11_drawRace_55 rfl ?_
      have hA2 := hA.tr q3.aw
      have h552 : ∀ j, f49 55 j = f0 55 j := fun j => (q3.1 55 j (by omega) (by omega)).trans (h55 j)
      have enx : stX T c k h (wPa T p k 0) true (ldS T c h (pce T p) i st) = ldS T c h (pce T p) (i + 1) st := by
        unfold stX wPa
        rw [ldS, if_neg (show ¬ (ldS T c h (pce T p) i st).1.2.2.1 = 0 by omega), hPO.lat hk]
        simp
      rw [enx] at q4
      have hPO2 := hPO.nx hk bg.2
      refine V_weak (by repeat (first | exact wk_n | refine wk_c (Or.inr rfl) ?_ | refine wk_c (Or.inl rfl) ?_)) (w_draw hW hc hh hp hs hs4 hE0 hR hQ (i + 1) f49 g49 _ _ q1 q2 hA2 h552 ?_ (q6.1.trans h0) q4)
      rw [show (((i + 1 : Nat)) : Int) = (i : Int) + 1 by omega]
      exact hPO2
termination_by 120 - i
theorem c_drawRace (hW : TW T b ρ) (hC : CT T b f) {fl0 ra0 : Bool} (hG : GI T fl0 ra0 f g) (h5 : f 55 5 < 1000000) {m p : Nat} (hm : m < nMe T) (hp : p < nPl T) {sk : Int} {ra : Bool} (hs : f 0 5 = sk) (hsk : 0 ≤ sk ∧ sk ≤ 30) (hr : f 0 6 = bz ra) {d : Int} (hd : g 65 14 = d) :
    C_X11_drawRace [.ref 0, .int (iz (m : Int)), .int (iz (p : Int))] ρ f g (fun r ρ' f' g' => r = some (.int (iz (bz (decide (tenR (rcS T ra sk m p d) ≠ 99999))))) ∧ ρ' = ρ ∧ CT T b f' ∧ (∃ fl ra, GI T fl ra f' g') ∧ AWf b f g f' g' ∧ AG 1 f f' ∧ f' 65 9 = (rcS T ra sk m p d).1.1 ∧ (0 ≤ f' 65 9 ∧ f' 65 9 ≤ 99998) ∧ (tenR (rcS T ra sk m p d) ≠ 99999 → f' 65 9 = tenR (rcS T ra sk m p d)) ∧ g' 65 14 = (rcS T ra sk m p d).2) := by
  have hk := hW.2.2.2.2.1
  have hb := hW.2.1
  have hρ := hW.1
  have h5m := hk.me
  have h5p := hk.pl
  have hpl := hk.plan hp
  have h3 := hk.ho
  have h6 := hk.la
  have hc0 := c0_ok hk hm (ra := ra) hsk
  have hma := hk.man hm
  have hrg := tenR_rng hk hc0.1 (h := (T 121 p).toNat) (by omega) (pc := pce T p) (fun k => pce_rng hk hp) (x0 := (s0 T m, d)) hc0.2.1 (nLa T) (by omega)
  have e0 : (s0 T m, d).1.1 = 0 := rfl
  rw [e0] at hrg
  have ercS : rcS T ra sk m p d = ldS T (c0 T ra sk m) (T 121 p).toNat (pce T p) (allS T).toNat (s0 T m, d) := rnS_ldS hk (nLa T) (Nat.le_refl _)
  have hten : decide (tenR (rcS T ra sk m p d) ≠ 99999) = decide ((rcS T ra sk m p d).1.2.2.1 ≠ 0) := by
    have h1 : (rcS T ra sk m p d).1.1 ≤ 0 + 3960 * nLa T := hrg.2.2
    have h2 : 0 ≤ (rcS T ra sk m p d).1.1 := hrg.2.1
    unfold tenR
    by_cases z : (rcS T ra sk m p d).1.2.2.1 = 0
    · simp [z]
    · rw [if_neg z]
      simp only [z, not_false_eq_true, ne_eq, decide_true, decide_eq_true_eq]
      omega
  have hrg1 : (rcS T ra sk m p d).1.1 ≤ 0 + 3960 * nLa T := hrg.2.2
  have hrg2 : 0 ≤ (rcS T ra sk m p d).1.1 := hrg.2.1
  rw [hten]
  refine Ct.ofV (by decide) rfl (Nat.le_of_ble_eq_true rfl) ?_
  refine V_al0n dX11_drawRace_0 ?_
  refine V_il1n dX11_drawRace_1 ?_
  refine V_callV (as := [_]) ml_X11_186 im_X11_makeReady se_X11_makeReady kk0 (by decide) (by decide) dX11_drawRace_2 rfl rfl (by decide) (by decide) (Nat.le_of_ble_eq_true rfl) (by decide) (by decide) rfl (c_makeReady hW hC hG h5 hm hs hsk hr) ?_
  rintro r2 ρ2 f2 g2 ⟨rfl, s2_0, s2_1, q1⟩
  obtain rfl := s2_0.symm
  obtain rfl := s2_1.symm
  refine V_al0n dX11_drawRace_5 ?_
  refine V_getR kk0 (by decide) fl_X11_78 (fx_0_15 hρ) dX11_drawRace_6 ?_
  refine V_al0n dX11_drawRace_9 ?_
  refine V_getR kk0 (by decide) fl_X11_29 hW.2.2.1 dX11_drawRace_10 ?_
  refine V_il1n dX11_drawRace_13 ?_
  refine V_il2n dX11_drawRace_14 ?_
  refine V_callV (as := [_, _, _]) ml_X11_219 im_X10_begin se_X10_begin kk65 (by decide) (by decide) dX11_drawRace_15 rfl rfl (by decide) (by decide) (Nat.le_of_ble_eq_true rfl) (by decide) (by decide) rfl (c_begin hρ hb (hC.cg hb (fun a k h1 h2 => q1.1 a k (by omega) (by omega))) hk (w := 65) rfl (by omega) (by unfold ri; omega) (by unfold ri; omega)) ?_
  refine pq4 ?_
  refine V_iconst dX11_drawRace_18 ?_
  refine V_is3n dX11_drawRace_19 (by decide) rfl ?_
  have hC2 : CT T b f2 := hC.cg hb (fun a k h1 h2 => q1.1 a k (by omega) (by omega))
  have e5 : ∀ k, begF T 65 (m : Int) (p : Int) f2 55 k = f2 55 k := fun k => begF_o (by omega)
  obtain ⟨bw, bw0, bw1, bw2⟩ := begF_wk (w := 65) (f := f2) (g := g) hk hm hp (ra := ra) (sk := sk) (d := d) hd
  refine w_draw hW hc0.1 (h := (T 121 p).toNat) (by omega) hp (st := (s0 T m, d)) hc0.2.1 (by show T 114 m ≤ 40; omega) (f0 := begF T 65 (m : Int) (p : Int) f2) (g0 := g) (fun F hF => q1.ge.cg (fun k => (hF k).trans (e5 k))) ercS ?_ 0 _ g 0 0 (hC2.cg hb (fun a k h1 h2 => begF_o (by omega))) (q1.2.1.cg (fun a k h1 h2 => begF_o (by omega)) rfl) AWf.rf (fun _ => rfl) ⟨by simp [sumTo], ?_⟩ bw0 bw
  · intro f' g' a1 a2 a3 a4 a5 a6
    have hAb : AWf b f2 g (begF T 65 (m : Int) (p : Int) f2) g := ⟨fun a k _ h2 => begF_o h2, fun _ _ _ _ _ => rfl⟩
    refine ⟨rfl, rfl, a1, ⟨false, ra, a2⟩, (q1.aw.tr hAb).tr a3, (q1.ag.tr (AG.sm (fun k => (a4 k).trans (e5 k)))).wk (by omega), a5.2.2.1, ?_, fun z => ?_, a6⟩
    · rw [a5.2.2.1]; omega
    · rw [a5.2.2.1]; unfold tenR at z ⊢; (split at z <;> first | (exact absurd rfl z) | (rename_i zz; rw [if_neg zz]))
  · by_cases z : nLa T = 0
    · right; omega
    · left; have := hk.lane (k := 0) (by omega); omega
end CDRAW

