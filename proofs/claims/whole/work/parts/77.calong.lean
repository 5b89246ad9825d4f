section ALONG
variable {T : TT} {b : Nat} {ρ : RT} {f : IT} {g : JT}
/-- how many steps are gone of n that are asked for -/
def nMin (T : TT) (n : Int) : Nat := if n < allS T then n.toNat else (allS T).toNat
theorem w_along {Q : QT} {f0 : IT} {g0 : JT} (hW : TW T b ρ) {c : CC} (hc : CR c) {h p : Nat} (hh : h < nHo T) (hp : p < nPl T) {n m1 : Int} (rn_ : ri n) (hn0 : 0 ≤ n) {st : SS} (hs : SR st) (hs4 : st.2.2.1 ≤ 40) (hE0 : ∀ F, (∀ k, F 55 k = f0 55 k) → GE T c F) {d : Int} {R : SS} (hR : R = ldd T c (T 117 h) (pce T p) (nMin T n) st)
    (hQ : ∀ f' g', CT T b f' → GI T c.1 c.2.1 f' g' → AWf b f0 g0 f' g' → (∀ k, f' 55 k = f0 55 k) → WS 65 c (T 117 h) R f' → f' 65 10 = R.2.2.2 → Q none ρ f' g')
    (i : Nat) (f : IT) (g : JT) (k : Nat) (v : Int) (hin : (i : Int) ≤ n) (hC : CT T b f) (hG : GI T c.1 c.2.1 f g) (hA : AWf b f0 g0 f g) (h55 : ∀ k, f 55 k = f0 55 k) (hPO : PO T (i : Int) k v) (h0 : f 65 0 = 1) (hK : WK T 65 c h p k 0 v (ldd T c (T 117 h) (pce T p) i st, d) f g) :
    V_X11_walkAlong Q 21 [.ref 0, .int (iz m1), .int (iz (p : Int)), .int (iz n), .int (iz (i : Int))] [] ρ f g := by
  have hk := hW.2.2.2.2.1
  have hb := hW.2.1
  have hρ := hW.1
  have h6 := hk.la
  have hall := allS_rng hk
  have hgo := hPO.go hk
  have hpc : ∀ j, 1 ≤ pce T p j ∧ pce T p j ≤ 9 := fun j => pce_rng hk hp
  have hr := ldd_rng hk hc hh hpc hs hs4 i (by have h2 := hPO.2; have := hPO.go hk; rcases h2 with q | q; (have := this.1.mp q.1; omega); (have e : (i : Int) = allS T := (by have e1 := hPO.1; rw [q.1, q.2] at e1; unfold allS; omega); omega))
  have hK0 := hK
  obtain ⟨hWS, k14, k12, k13, k3, k2, k5, k10⟩ := hK
  obtain ⟨w6, w4, w9, w7, w8⟩ := hWS
  simp only at w9 w7 w8 k10 k14
  have hvr : 0 ≤ v ∧ v ≤ 1000 := by
    rcases hPO.2 with q | q
    · have := hk.lane q.1; omega
    · omega
  have ewg : wgo T 65 f = (decide (0 < (ldd T c (T 117 h) (pce T p) i st).2.2.1) && decide (k < nLa T)) := by
    unfold wgo
    rw [h0, w8, k12, h6.1]
    simp
  have hgC : C_X10_isGoing [.ref 65, .ref b] ρ f g (fun r ρ' f' g' => r = some (.int (iz (bz (decide (0 < (ldd T c (T 117 h) (pce T p) i st).2.2.1) && decide (k < nLa T))))) ∧ ρ' = ρ ∧ f' = f ∧ g' = g) := by
    have := c_wgoing (w := 65) (g := g) hρ hb hC hk rfl (Or.inr h0) (by rw [w8]; have := hr.1.2; unfold ri; omega) (by rw [k12]; unfold ri; omega)
    rw [ewg] at this
    exact this
  have fin : (¬ (i : Int) < n ∨ (decide (0 < (ldd T c (T 117 h) (pce T p) i st).2.2.1) && decide (k < nLa T)) = false) → Q none ρ f g := fun hx => by
    have eR : R = ldd T c (T 117 h) (pce T p) i st := by
      rw [hR]
      by_cases c1 : (i : Int) < n
      · rcases hx with q | q
        · exact absurd c1 q
        · by_cases c2 : (ldd T c (T 117 h) (pce T p) i st).2.2.1 = 0
          · refine ldd_out c2 _ ?_
            unfold nMin
            split
            · omega
            · have := hgo.2.1
              rcases hPO.2 with z | z
              · have := hgo.1.mp z.1; omega
              · have e1 := hPO.1; rw [z.1, z.2] at e1; unfold allS; omega
          · have c3 : ¬ k < nLa T := fun c3 => by
              have := hr.1.2
              simp at q
              have := q (by omega)
              omega
            have e1 := hPO.1
            rcases hPO.2 with z | z
            · omega
            · rw [z.1, z.2] at e1
              have ea : allS T = (i : Int) := by unfold allS; omega
              congr 1
              unfold nMin
              rw [ea, if_neg (by omega)]
              omega
      · have e1 : n = (i : Int) := by omega
        congr 1
        unfold nMin
        split
        · omega
        · have e2 := hPO.1
          rcases hPO.2 with z | z
          · have := hgo.1.mp z.1; omega
          · rw [z.1, z.2] at e2; unfold allS at *; omega
    exact hQ f g hC hG hA h55 (by rw [eR]; exact ⟨w6, w4, w9, w7, w8⟩) (by rw [eR]; exact k10)
  refine V_il4 dX11_walkAlong_21 ?_
  refine V_il3n dX11_walkAlong_23 ?_
  refine V_icmp_ge (tgt := 59) dX11_walkAlong_24 rfl (by first | assumption | (unfold ri at *; omega)) (by first | assumption | (unfold ri at *; omega)) (fun b24 => ?_) (fun b24 => ?_)
  · exact V_return rfl (by first | exact fin (Or.inl (by omega)) | exact fin (Or.inr b38)) dX11_walkAlong_59
  · refine V_al0n dX11_walkAlong_27 ?_
    refine V_getR kk0 (by decide) fl_X11_78 (fx_0_15 hρ) dX11_walkAlong_28 ?_
    refine V_al0n dX11_walkAlong_31 ?_
    refine V_getR kk0 (by decide) fl_X11_29 hW.2.2.1 dX11_walkAlong_32 ?_
    refine V_callV (as := [_]) ml_X11_226 im_X10_isGoing se_X10_isGoing kk65 (by decide) (by decide) dX11_walkAlong_35 rfl rfl (by decide) (by decide) (Nat.le_of_ble_eq_true rfl) (by decide) (by decide) rfl (hgC) ?_
    refine pq4 ?_
    refine V_bt (tgt := 59) dX11_walkAlong_38 rfl (fun b38 => ?_) (fun b38 => ?_)
    · exact V_return rfl (by first | exact fin (Or.inl (by omega)) | exact fin (Or.inr b38)) dX11_walkAlong_59
    · have bg : 0 < (ldd T c (T 117 h) (pce T p) i st).2.2.1 ∧ k < nLa T := by simpa using b38
      refine V_al0n dX11_walkAlong_41 ?_
      refine V_getR kk0 (by decide) fl_X11_78 (fx_0_15 hρ) dX11_walkAlong_42 ?_
      refine V_al0n dX11_walkAlong_45 ?_
      refine V_getR kk0 (by decide) fl_X11_48 (fx_0_7 hρ) dX11_walkAlong_46 ?_
      refine V_iconst dX11_walkAlong_49 ?_
      refine V_callV (as := [_, _]) ml_X11_233 im_X10_step se_X10_step kk65 (by decide) (by decide) dX11_walkAlong_50 rfl rfl (by decide) (by decide) (Nat.le_of_ble_eq_true rfl) (by decide) (by decide) rfl (c_wstep (sl := false) hρ hW.2.2.2.1 hb hk hW.2.2.2.2.2 rfl (by omega) hc bg.2 hh hp (by omega) hvr hC hG (hE0 f h55) hK0 hr.1 hr.2 (by simp only; omega)) ?_
      rintro r50 ρ50 f50 g50 ⟨rfl, s50_0, q1, q2, q3, q4, q5, q6⟩
      obtain rfl := s50_0.symm
      refine V_inc4 dX11_walkAlong_53 (by decide) rfl ?_
      refine V_goto (tgt := 21) dX11_walkAlong_56 rfl ?_
      have hA2 := hA.tr q3.aw
      have h552 : ∀ j, f50 55 j = f0 55 j := fun j => (q3.1 55 j (by omega) (by omega)).trans (h55 j)
      have enx : stX T c k h (wPa T p k 0) false (ldd T c (T 117 h) (pce T p) i st, d) = (ldd T c (T 117 h) (pce T p) (i + 1) st, d) := by
        unfold stX wPa
        rw [ldd, if_neg (show ¬ (ldd T c (T 117 h) (pce T p) i st).2.2.1 = 0 by omega), hPO.lat hk]
        simp
      rw [enx] at q4
      have hPO2 := hPO.nx hk bg.2
      refine V_weak (by repeat (first | exact wk_n | refine wk_c (Or.inr rfl) ?_ | refine wk_c (Or.inl rfl) ?_)) (w_along hW hc hh hp (m1 := m1) rn_ hn0 hs hs4 hE0 hR hQ (i + 1) f50 g50 _ _ (by omega) q1 q2 hA2 h552 ?_ (q6.1.trans h0) q4)
      rw [show (((i + 1 : Nat)) : Int) = (i : Int) + 1 by omega]
      exact hPO2
termination_by n.toNat - i
theorem c_walkAlong (hW : TW T b ρ) (hC : CT T b f) {fl0 ra0 : Bool} (hG : GI T fl0 ra0 f g) (h5 : f 55 5 < 1000000) {m p : Nat} (hm : m < nMe T) (hp : p < nPl T) {sk : Int} {ra : Bool} (hs : f 0 5 = sk) (hsk : 0 ≤ sk ∧ sk ≤ 30) (hr : f 0 6 = bz ra) {n : Int} (rn_ : ri n) (hn0 : 0 ≤ n) :
    C_X11_walkAlong [.ref 0, .int (iz (m : Int)), .int (iz (p : Int)), .int (iz n)] ρ f g (fun r ρ' f' g' => r = none ∧ ρ' = ρ ∧ CT T b f' ∧ GI T false ra f' g' ∧ AWf b f g f' g' ∧ AG 1 f f' ∧ WS 65 (c0 T ra sk m) (T 117 (T 121 p).toNat) (ldd T (c0 T ra sk m) (T 117 (T 121 p).toNat) (pce T p) (nMin T n) (s0 T m)) f' ∧ f' 65 10 = (ldd T (c0 T ra sk m) (T 117 (T 121 p).toNat) (pce T p) (nMin T n) (s0 T m)).2.2.2) := by
  have hk := hW.2.2.2.2.1
  have hb := hW.2.1
  have hρ := hW.1
  have h5m := hk.me
  have h5p := hk.pl
  have hpl := hk.plan hp
  have h3 := hk.ho
  have h6 := hk.la
  have hc0 := c0_ok hk hm (ra := ra) hsk
  have hma := hk.man hm
  refine Ct.ofV (by decide) rfl (Nat.le_of_ble_eq_true rfl) ?_
  refine V_al0n dX11_walkAlong_0 ?_
  refine V_il1n dX11_walkAlong_1 ?_
  refine V_callV (as := [_]) ml_X11_186 im_X11_makeReady se_X11_makeReady kk0 (by decide) (by decide) dX11_walkAlong_2 rfl rfl (by decide) (by decide) (Nat.le_of_ble_eq_true rfl) (by decide) (by decide) rfl (c_makeReady hW hC hG h5 hm hs hsk hr) ?_
  rintro r2 ρ2 f2 g2 ⟨rfl, s2_0, s2_1, q1⟩
  obtain rfl := s2_0.symm
  obtain rfl := s2_1.symm
  refine V_al0n dX11_walkAlong_5 ?_
  refine V_getR kk0 (by decide) fl_X11_78 (fx_0_15 hρ) dX11_walkAlong_6 ?_
  refine V_al0n dX11_walkAlong_9 ?_
  refine V_getR kk0 (by decide) fl_X11_29 hW.2.2.1 dX11_walkAlong_10 ?_
  refine V_il1n dX11_walkAlong_13 ?_
  refine V_il2n dX11_walkAlong_14 ?_
  refine V_callV (as := [_, _, _]) ml_X11_219 im_X10_begin se_X10_begin kk65 (by decide) (by decide) dX11_walkAlong_15 rfl rfl (by decide) (by decide) (Nat.le_of_ble_eq_true rfl) (by decide) (by decide) rfl (c_begin hρ hb (hC.cg hb (fun a k h1 h2 => q1.1 a k (by omega) (by omega))) hk (w := 65) rfl (by omega) (by unfold ri; omega) (by unfold ri; omega)) ?_
  refine pq4 ?_
  refine V_iconst dX11_walkAlong_18 ?_
  refine V_is4 dX11_walkAlong_19 (by decide) rfl ?_
  have hC2 : CT T b f2 := hC.cg hb (fun a k h1 h2 => q1.1 a k (by omega) (by omega))
  have e5 : ∀ k, begF T 65 (m : Int) (p : Int) f2 55 k = f2 55 k := fun k => begF_o (by omega)
  obtain ⟨bw, bw0, bw1, bw2⟩ := begF_wk (w := 65) (f := f2) (g := g) hk hm hp (ra := ra) (sk := sk) (d := g 65 14) rfl
  refine w_along hW hc0.1 (h := (T 121 p).toNat) (by omega) hp (m1 := (m : Int)) rn_ hn0 hc0.2.1 (by show T 114 m ≤ 40; omega) (f0 := begF T 65 (m : Int) (p : Int) f2) (g0 := g) (fun F hF => q1.ge.cg (fun k => (hF k).trans (e5 k))) rfl ?_ 0 _ g 0 0 (by omega) (hC2.cg hb (fun a k h1 h2 => begF_o (by omega))) (q1.2.1.cg (fun a k h1 h2 => begF_o (by omega)) rfl) AWf.rf (fun _ => rfl) ⟨by simp [sumTo], ?_⟩ bw0 bw
  · intro f' g' a1 a2 a3 a4 a5 a6
    have hAb : AWf b f2 g (begF T 65 (m : Int) (p : Int) f2) g := ⟨fun a k _ h2 => begF_o h2, fun _ _ _ _ _ => rfl⟩
    exact ⟨rfl, rfl, a1, a2, (q1.aw.tr hAb).tr a3, (q1.ag.tr (AG.sm (fun k => (a4 k).trans (e5 k)))).wk (by omega), a5, a6⟩
  · by_cases z : nLa T = 0
    · right; omega
    · left; have := hk.lane (k := 0) (by omega); omega
theorem c_walkTells (hρ : Fx ρ) {c : CC} {hc : Int} {s : SS} (hW : WS 65 c hc s f) (hs : SR s) {n : Int} (rn_ : ri n) : C_X11_walkTells [.ref 0, .int (iz n)] ρ f g (fun r ρ' f' g' => r = some (.int (iz (tells s n))) ∧ ρ' = ρ ∧ f' = f ∧ g' = g) := by
  obtain ⟨w6, w4, w9, w7, w8⟩ := hW
  obtain ⟨s1, s2⟩ := hs
  have ho := c_isOut (w := 65) (ρ := ρ) (f := f) (g := g) rfl (by rw [w8]; unfold ri; omega)
  rw [w8] at ho
  refine Ct.ofV (by decide) rfl (Nat.le_of_ble_eq_true rfl) ?_
  unfold tells
  refine V_al0n dX11_walkTells_0 ?_
  refine V_getR kk0 (by decide) fl_X11_78 (fx_0_15 hρ) dX11_walkTells_1 ?_
  refine V_callV (as := []) ml_X11_253 im_X10_isOut se_X10_isOut kk65 (by decide) (by decide) dX11_walkTells_4 rfl rfl (by decide) (by decide) (Nat.le_of_ble_eq_true rfl) (by decide) (by decide) rfl (ho) ?_
  refine pq4 ?_
  refine V_bt (tgt := 13) dX11_walkTells_7 rfl (fun b7 => ?_) (fun b7 => ?_)
  · refine V_il1n dX11_walkTells_13 ?_
    refine V_if_ne (tgt := 25) dX11_walkTells_14 rfl (by first | assumption | (unfold ri at *; omega)) (fun b14 => ?_) (fun b14 => ?_)
    · refine V_il1n dX11_walkTells_25 ?_
      refine V_iconst dX11_walkTells_26 ?_
      refine V_icmp_ne (tgt := 40) dX11_walkTells_27 rfl (by first | assumption | (unfold ri at *; omega)) (by first | assumption | (unfold ri at *; omega)) (fun b27 => ?_) (fun b27 => ?_)
      · refine V_al0n dX11_walkTells_40 ?_
        refine V_getR kk0 (by decide) fl_X11_78 (fx_0_15 hρ) dX11_walkTells_41 ?_
        refine V_getI kk65 (by decide) fl_X11_247 w8 dX11_walkTells_44 ?_
        exact V_ireturn rfl ⟨by rw [if_neg (by simp at b7; omega), if_neg (by omega)]; first | rw [if_pos (by omega)] | rw [if_neg (by omega)], rfl, rfl, rfl⟩ dX11_walkTells_47
      · refine V_al0n dX11_walkTells_30 ?_
        refine V_getR kk0 (by decide) fl_X11_78 (fx_0_15 hρ) dX11_walkTells_31 ?_
        refine V_getI kk65 (by decide) fl_X11_244 w7 dX11_walkTells_34 ?_
        refine V_goto (tgt := 47) dX11_walkTells_37 rfl ?_
        exact V_ireturn rfl ⟨by rw [if_neg (by simp at b7; omega), if_neg (by omega)]; first | rw [if_pos (by omega)] | rw [if_neg (by omega)], rfl, rfl, rfl⟩ dX11_walkTells_47
    · refine V_al0n dX11_walkTells_17 ?_
      refine V_getR kk0 (by decide) fl_X11_78 (fx_0_15 hρ) dX11_walkTells_18 ?_
      refine V_getI kk65 (by decide) fl_X11_241 w9 dX11_walkTells_21 ?_
      exact V_ireturn rfl ⟨by rw [if_neg (by simp at b7; omega), if_pos (by omega)], rfl, rfl, rfl⟩ dX11_walkTells_24
  · refine V_bipush dX11_walkTells_10 rfl ?_
    exact V_ireturn rfl ⟨by rw [if_pos (by simp at b7; omega)], rfl, rfl, rfl⟩ dX11_walkTells_12
/-- a question that walks: what it leaves -/
def QW (T : TT) (b : Nat) (n : Int) (f : IT) (g : JT) (f' : IT) (g' : JT) : Prop := (∃ fl ra, GI T fl ra f' g') ∧ AWf b f g f' g' ∧ AG n f f'
theorem QW.rf {fl ra : Bool} (h : GI T fl ra f g) {n : Int} (hn : 0 ≤ n) : QW T b n f g f g := ⟨⟨fl, ra, h⟩, AWf.rf, AG.rf.wk hn⟩
theorem rnP_ldd (hk : TOK T) {ra : Bool} {sk : Int} {m p E : Nat} (hE : E ≤ nLa T) : rnP T ra sk m p E = ldd T (c0 T ra sk m) (T 117 (T 121 p).toNat) (pce T p) (sumTo (T 108) E).toNat (s0 T m) := rn_ldd hk E hE
theorem okM_at {m : Int} (h : okM T m = true) : ∃ n : Nat, m = n ∧ n < nMe T := by unfold okM at h; simp at h; exact ⟨m.toNat, by omega, by omega⟩
theorem okP_at {m : Int} (h : okP T m = true) : ∃ n : Nat, m = n ∧ n < nPl T := by unfold okP at h; simp at h; exact ⟨m.toNat, by omega, by omega⟩
theorem okL_at {m : Int} (h : okL T m = true) : ∃ n : Nat, m = n ∧ n < nLa T := by unfold okL at h; simp at h; exact ⟨m.toNat, by omega, by omega⟩
theorem okH_at {m : Int} (h : okH T m = true) : ∃ n : Nat, m = n ∧ n < nHo T := by unfold okH at h; simp at h; exact ⟨m.toNat, by omega, by omega⟩
theorem rnP_rng (hk : TOK T) {ra : Bool} {sk : Int} (hsk : 0 ≤ sk ∧ sk ≤ 30) {m p : Nat} (hm : m < nMe T) (hp : p < nPl T) {j : Nat} (hj : (j : Int) ≤ allS T) : SR (ldd T (c0 T ra sk m) (T 117 (T 121 p).toNat) (pce T p) j (s0 T m)) := by
  have hc0 := c0_ok hk hm (ra := ra) hsk
  have hpl := hk.plan hp
  have h3 := hk.ho
  have hma := hk.man hm
  exact (ldd_rng hk hc0.1 (h := (T 121 p).toNat) (by omega) (fun k => pce_rng hk hp) hc0.2.1 (by show T 114 m ≤ 40; omega) j hj).1
theorem nMin_le (hk : TOK T) {n : Int} (hn : 0 ≤ n) : (nMin T n : Int) ≤ allS T := by have := allS_rng hk; unfold nMin; split <;> omega
theorem c_run (hW : TW T b ρ) (hC : CT T b f) {fl0 ra0 : Bool} (hG : GI T fl0 ra0 f g) (h5 : f 55 5 < 1000000) {sk : Int} {ra : Bool} (hs : f 0 5 = sk) (hsk : 0 ≤ sk ∧ sk ≤ 30) (hr : f 0 6 = bz ra) {m p n : Int} (rm : ri m) (rp : ri p) (rn_ : ri n) :
    C_X11_run [.ref 0, .int (iz m), .int (iz p), .int (iz n)] ρ f g (fun r ρ' f' g' => r = some (.int (iz (aRun T ra sk m p n))) ∧ ρ' = ρ ∧ QW T b 1 f g f' g') := by
  have hk := hW.2.2.2.2.1
  have hρ := hW.1
  have hall := allS_rng hk
  refine Ct.ofV (by decide) rfl (Nat.le_of_ble_eq_true rfl) ?_
  by_cases c1 : (okM T m && okP T p) = true ∧ 0 ≤ n ∧ n ≤ 3
  · have c0_ := c1.1
    rw [Bool.and_eq_true] at c0_
    obtain ⟨mN, rfl, hm⟩ := okM_at c0_.1
    obtain ⟨pN, rfl, hp⟩ := okP_at c0_.2
    have ea : aRun T ra sk (mN : Int) (pN : Int) n = if n = 3 then (ldd T (c0 T ra sk mN) (T 117 (T 121 pN).toNat) (pce T pN) (nMin T 120) (s0 T mN)).2.2.2 else tells (ldd T (c0 T ra sk mN) (T 117 (T 121 pN).toNat) (pce T pN) (nMin T 120) (s0 T mN)) n := by
      have en : nMin T 120 = (sumTo (T 108) (nLa T)).toNat := by unfold nMin; rw [show sumTo (T 108) (nLa T) = allS T from rfl]; split <;> omega
      unfold aRun
      rw [c1.1, show zin n 0 3 = true by unfold zin; simpa using c1.2, Bool.and_true, if_pos rfl, Int.toNat_natCast, Int.toNat_natCast, rnP_ldd hk (Nat.le_refl _), en]
    rw [ea]
    refine V_al0n dX11_run_0 ?_
    refine V_il1n dX11_run_1 ?_
    refine V_il2n dX11_run_2 ?_
    refine V_callV (as := [_, _]) ml_X11_203 im_X11_canRun se_X11_canRun kk0 (by decide) (by decide) dX11_run_3 rfl rfl (by decide) (by decide) (Nat.le_of_ble_eq_true rfl) (by decide) (by decide) rfl (c_canRun hW hC rm rp) ?_
    refine pq4 ?_
    refine V_bt (tgt := 18) dX11_run_6 rfl (fun b6 => ?_) (fun b6 => ?_)
    · rw [c1.1] at b6; cases b6
    · refine V_il3n dX11_run_9 ?_
      refine V_if_lt (tgt := 18) dX11_run_10 rfl (by first | assumption | (unfold ri at *; omega)) (fun b10 => ?_) (fun b10 => ?_)
      · exfalso; omega
      · refine V_il3n dX11_run_13 ?_
        refine V_iconst dX11_run_14 ?_
        refine V_icmp_le (tgt := 20) dX11_run_15 rfl (by first | assumption | (unfold ri at *; omega)) (by first | assumption | (unfold ri at *; omega)) (fun b15 => ?_) (fun b15 => ?_)
        · refine V_al0n dX11_run_20 ?_
          refine V_il1n dX11_run_21 ?_
          refine V_il2n dX11_run_22 ?_
          refine V_bipush dX11_run_23 rfl ?_
          refine V_callV (as := [_, _, _]) ml_X11_206 im_X11_walkAlong se_X11_walkAlong kk0 (by decide) (by decide) dX11_run_25 rfl rfl (by decide) (by decide) (Nat.le_of_ble_eq_true rfl) (by decide) (by decide) rfl (c_walkAlong hW hC hG h5 hm hp hs hsk hr (n := 120) (by unfold ri; omega) (by omega)) ?_
          rintro r25 ρ25 f25 g25 ⟨rfl, s25_0, q1, q2, q3, q4, q5, q6⟩
          obtain rfl := s25_0.symm
          refine V_il3n dX11_run_28 ?_
          refine V_iconst dX11_run_29 ?_
          refine V_icmp_ne (tgt := 43) dX11_run_30 rfl (by first | assumption | (unfold ri at *; omega)) (by first | assumption | (unfold ri at *; omega)) (fun b30 => ?_) (fun b30 => ?_)
          · refine V_al0n dX11_run_43 ?_
            refine V_il3n dX11_run_44 ?_
            refine V_callV (as := [_]) ml_X11_213 im_X11_walkTells se_X11_walkTells kk0 (by decide) (by decide) dX11_run_45 rfl rfl (by decide) (by decide) (Nat.le_of_ble_eq_true rfl) (by decide) (by decide) rfl (c_walkTells hρ q5 (rnP_rng hk hsk hm hp (nMin_le hk (by omega))) rn_) ?_
            refine pq4 ?_
            exact V_ireturn rfl ⟨by first | (rw [if_pos (by omega)]) | (rw [if_neg (by omega)]), rfl, ⟨false, ra, q2⟩, q3, q4⟩ dX11_run_48
          · refine V_al0n dX11_run_33 ?_
            refine V_getR kk0 (by decide) fl_X11_78 (fx_0_15 hρ) dX11_run_34 ?_
            refine V_getI kk65 (by decide) fl_X11_210 q6 dX11_run_37 ?_
            refine V_goto (tgt := 48) dX11_run_40 rfl ?_
            exact V_ireturn rfl ⟨by first | (rw [if_pos (by omega)]) | (rw [if_neg (by omega)]), rfl, ⟨false, ra, q2⟩, q3, q4⟩ dX11_run_48
        · exfalso; omega
  · have ea : aRun T ra sk m p n = -1 := by
      unfold aRun
      rw [if_neg (fun q => c1 ?_)]
      rw [Bool.and_eq_true] at q
      exact ⟨q.1, by have := q.2; unfold zin at this; simpa using this⟩
    rw [ea]
    refine V_al0n dX11_run_0 ?_
    refine V_il1n dX11_run_1 ?_
    refine V_il2n dX11_run_2 ?_
    refine V_callV (as := [_, _]) ml_X11_203 im_X11_canRun se_X11_canRun kk0 (by decide) (by decide) dX11_run_3 rfl rfl (by decide) (by decide) (Nat.le_of_ble_eq_true rfl) (by decide) (by decide) rfl (c_canRun hW hC rm rp) ?_
    refine pq4 ?_
    refine V_bt (tgt := 18) dX11_run_6 rfl (fun b6 => ?_) (fun b6 => ?_)
    · refine V_iconst dX11_run_18 ?_
      exact V_ireturn rfl ⟨rfl, rfl, QW.rf hG (by omega)⟩ dX11_run_19
    · refine V_il3n dX11_run_9 ?_
      refine V_if_lt (tgt := 18) dX11_run_10 rfl (by first | assumption | (unfold ri at *; omega)) (fun b10 => ?_) (fun b10 => ?_)
      · refine V_iconst dX11_run_18 ?_
        exact V_ireturn rfl ⟨rfl, rfl, QW.rf hG (by omega)⟩ dX11_run_19
      · refine V_il3n dX11_run_13 ?_
        refine V_iconst dX11_run_14 ?_
        refine V_icmp_le (tgt := 20) dX11_run_15 rfl (by first | assumption | (unfold ri at *; omega)) (by first | assumption | (unfold ri at *; omega)) (fun b15 => ?_) (fun b15 => ?_)
        · exact absurd ⟨b6, by omega, by omega⟩ c1
        · refine V_iconst dX11_run_18 ?_
          exact V_ireturn rfl ⟨rfl, rfl, QW.rf hG (by omega)⟩ dX11_run_19
theorem c_split (hW : TW T b ρ) (hC : CT T b f) {fl0 ra0 : Bool} (hG : GI T fl0 ra0 f g) (h5 : f 55 5 < 1000000) {sk : Int} {ra : Bool} (hs : f 0 5 = sk) (hsk : 0 ≤ sk ∧ sk ≤ 30) (hr : f 0 6 = bz ra) {m p n : Int} (rm : ri m) (rp : ri p) (rn_ : ri n) :
    C_X11_split [.ref 0, .int (iz m), .int (iz p), .int (iz n)] ρ f g (fun r ρ' f' g' => r = some (.int (iz (aSplit T ra sk m p n))) ∧ ρ' = ρ ∧ QW T b 1 f g f' g') := by
  have hk := hW.2.2.2.2.1
  have hρ := hW.1
  have hb := hW.2.1
  have h6 := hk.la
  have hall := allS_rng hk
  refine Ct.ofV (by decide) rfl (Nat.le_of_ble_eq_true rfl) ?_
  by_cases c1 : (okM T m && okP T p) = true ∧ okL T n = true
  · have c0_ := c1.1
    rw [Bool.and_eq_true] at c0_
    obtain ⟨mN, rfl, hm⟩ := okM_at c0_.1
    obtain ⟨pN, rfl, hp⟩ := okP_at c0_.2
    obtain ⟨k, rfl, hkl⟩ := okL_at c1.2
    have est : stA T ((k : Int) + 1) = sumTo (T 108) (k + 1) := by
      unfold stA
      rw [if_neg (by omega)]
      congr 1
      split <;> omega
    have hsn := sumTo_nn hk (k + 1) (by omega)
    have hsl : sumTo (T 108) (k + 1) ≤ allS T := by
      by_cases e : k + 1 = nLa T
      · rw [e]; exact Int.le_refl _
      · have := (PO.go hk (d := sumTo (T 108) (k + 1)) (k := k + 1) (v := 0) ⟨by omega, Or.inl ⟨by omega, by omega, by have := hk.lane (k := k + 1) (by omega); omega⟩⟩).1.mp (by omega)
        omega
    have en : nMin T (sumTo (T 108) (k + 1)) = (sumTo (T 108) (k + 1)).toNat := by unfold nMin; split <;> omega
    have ea : aSplit T ra sk (mN : Int) (pN : Int) (k : Int) = tells (ldd T (c0 T ra sk mN) (T 117 (T 121 pN).toNat) (pce T pN) (nMin T (sumTo (T 108) (k + 1))) (s0 T mN)) 0 := by
      unfold aSplit
      rw [c1.1, c1.2, Bool.and_true, if_pos rfl, Int.toNat_natCast, Int.toNat_natCast, Int.toNat_natCast, rnP_ldd hk (by omega), en]
    rw [ea]
    have hst := c_stepsAhead (f := f) (g := g) hρ hb hC hk (n := (k : Int) + 1) (by unfold ri; omega)
    rw [est] at hst
    refine V_al0n dX11_split_0 ?_
    refine V_il1n dX11_split_1 ?_
    refine V_il2n dX11_split_2 ?_
    refine V_callV (as := [_, _]) ml_X11_203 im_X11_canRun se_X11_canRun kk0 (by decide) (by decide) dX11_split_3 rfl rfl (by decide) (by decide) (Nat.le_of_ble_eq_true rfl) (by decide) (by decide) rfl (c_canRun hW hC rm rp) ?_
    refine pq4 ?_
    refine V_bt (tgt := 21) dX11_split_6 rfl (fun b6 => ?_) (fun b6 => ?_)
    · rw [c1.1] at b6; cases b6
    · refine V_al0n dX11_split_9 ?_
      refine V_getR kk0 (by decide) fl_X11_29 hW.2.2.1 dX11_split_10 ?_
      refine V_iconst dX11_split_13 ?_
      refine V_il3n dX11_split_14 ?_
      refine V_callV (as := [_, _]) ml_X11_160 im_X7_has se_X7_has (kb_0 hb) (by decide) (kl_0 hb) dX11_split_15 rfl rfl (by decide) (by decide) (Nat.le_of_ble_eq_true rfl) (by decide) (by decide) rfl (c_hasL hW hC rn_) ?_
      refine pq4 ?_
      refine V_bf (tgt := 23) dX11_split_18 rfl (fun b18 => ?_) (fun b18 => ?_)
      · refine V_al0n dX11_split_23 ?_
        refine V_il1n dX11_split_24 ?_
        refine V_il2n dX11_split_25 ?_
        refine V_al0n dX11_split_26 ?_
        refine V_getR kk0 (by decide) fl_X11_29 hW.2.2.1 dX11_split_27 ?_
        refine V_il3n dX11_split_30 ?_
        refine V_iconst dX11_split_31 ?_
        refine V_iadd dX11_split_32 ?_
        refine V_callV (as := [_]) ml_X11_216 im_X7_stepsAhead se_X7_stepsAhead (kb_0 hb) (by decide) (kl_0 hb) dX11_split_33 rfl rfl (by decide) (by decide) (Nat.le_of_ble_eq_true rfl) (by decide) (by decide) rfl (hst) ?_
        refine pq4 ?_
        refine V_callV (as := [_, _, _]) ml_X11_206 im_X11_walkAlong se_X11_walkAlong kk0 (by decide) (by decide) dX11_split_36 rfl rfl (by decide) (by decide) (Nat.le_of_ble_eq_true rfl) (by decide) (by decide) rfl (c_walkAlong hW hC hG h5 hm hp hs hsk hr (by unfold ri; omega) hsn) ?_
        rintro r36 ρ36 f36 g36 ⟨rfl, s36_0, q1, q2, q3, q4, q5, q6⟩
        obtain rfl := s36_0.symm
        refine V_al0n dX11_split_39 ?_
        refine V_iconst dX11_split_40 ?_
        refine V_callV (as := [_]) ml_X11_213 im_X11_walkTells se_X11_walkTells kk0 (by decide) (by decide) dX11_split_41 rfl rfl (by decide) (by decide) (Nat.le_of_ble_eq_true rfl) (by decide) (by decide) rfl (c_walkTells hρ q5 (rnP_rng hk hsk hm hp (nMin_le hk hsn)) (by unfold ri; omega)) ?_
        refine pq4 ?_
        exact V_ireturn rfl ⟨rfl, rfl, ⟨false, ra, q2⟩, q3, q4⟩ dX11_split_44
      · rw [c1.2] at b18; cases b18
  · have ea : aSplit T ra sk m p n = -1 := by
      unfold aSplit
      rw [if_neg (fun q => c1 ?_)]
      rw [Bool.and_eq_true] at q
      exact q
    rw [ea]
    refine V_al0n dX11_split_0 ?_
    refine V_il1n dX11_split_1 ?_
    refine V_il2n dX11_split_2 ?_
    refine V_callV (as := [_, _]) ml_X11_203 im_X11_canRun se_X11_canRun kk0 (by decide) (by decide) dX11_split_3 rfl rfl (by decide) (by decide) (Nat.le_of_ble_eq_true rfl) (by decide) (by decide) rfl (c_canRun hW hC rm rp) ?_
    refine pq4 ?_
    refine V_bt (tgt := 21) dX11_split_6 rfl (fun b6 => ?_) (fun b6 => ?_)
    · refine V_iconst dX11_split_21 ?_
      exact V_ireturn rfl ⟨rfl, rfl, QW.rf hG (by omega)⟩ dX11_split_22
    · refine V_al0n dX11_split_9 ?_
      refine V_getR kk0 (by decide) fl_X11_29 hW.2.2.1 dX11_split_10 ?_
      refine V_iconst dX11_split_13 ?_
      refine V_il3n dX11_split_14 ?_
      refine V_callV (as := [_, _]) ml_X11_160 im_X7_has se_X7_has (kb_0 hb) (by decide) (kl_0 hb) dX11_split_15 rfl rfl (by decide) (by decide) (Nat.le_of_ble_eq_true rfl) (by decide) (by decide) rfl (c_hasL hW hC rn_) ?_
      refine pq4 ?_
      refine V_bf (tgt := 23) dX11_split_18 rfl (fun b18 => ?_) (fun b18 => ?_)
      · exact absurd ⟨b6, b18⟩ c1
      · refine V_iconst dX11_split_21 ?_
        exact V_ireturn rfl ⟨rfl, rfl, QW.rf hG (by omega)⟩ dX11_split_22
theorem c_led (hW : TW T b ρ) (hC : CT T b f) {fl0 ra0 : Bool} (hG : GI T fl0 ra0 f g) (h5 : f 55 5 < 1000000) {sk : Int} {ra : Bool} (hs : f 0 5 = sk) (hsk : 0 ≤ sk ∧ sk ≤ 30) (hr : f 0 6 = bz ra) {m p n w : Int} (rm : ri m) (rp : ri p) (rn_ : ri n) (rw_ : ri w) :
    C_X11_led [.ref 0, .int (iz m), .int (iz p), .int (iz n), .int (iz w)] ρ f g (fun r ρ' f' g' => r = some (.int (iz (aLed T ra sk m p n w))) ∧ ρ' = ρ ∧ QW T b 1 f g f' g') := by
  have hk := hW.2.2.2.2.1
  have hρ := hW.1
  have hb := hW.2.1
  have h6 := hk.la
  have hall := allS_rng hk
  have est : stA T (T 104 (12 + 0)) = allS T := by
    unfold stA allS
    congr 1
    have : T 104 (12 + 0) = T 104 12 := rfl
    rw [this, h6.1]
    (repeat' split) <;> omega
  have hst := c_stepsAhead (f := f) (g := g) hρ hb hC hk (n := T 104 (12 + 0)) (by have : T 104 (12 + 0) = T 104 12 := rfl; unfold ri; omega)
  rw [est] at hst
  refine Ct.ofV (by decide) rfl (Nat.le_of_ble_eq_true rfl) ?_
  by_cases c1 : (okM T m && okP T p) = true ∧ (0 ≤ n ∧ n ≤ allS T) ∧ 0 ≤ w ∧ w ≤ 2
  · have c0_ := c1.1
    rw [Bool.and_eq_true] at c0_
    obtain ⟨mN, rfl, hm⟩ := okM_at c0_.1
    obtain ⟨pN, rfl, hp⟩ := okP_at c0_.2
    have en : nMin T n = n.toNat := by unfold nMin; split <;> omega
    have ea : aLed T ra sk (mN : Int) (pN : Int) n w = tells (ldd T (c0 T ra sk mN) (T 117 (T 121 pN).toNat) (pce T pN) (nMin T n) (s0 T mN)) w := by
      unfold aLed
      rw [c1.1, show zin n 0 (allS T) = true by unfold zin; simpa using c1.2.1, show zin w 0 2 = true by unfold zin; simpa using c1.2.2, Bool.and_true, Bool.and_true, if_pos rfl, Int.toNat_natCast, Int.toNat_natCast, en]
    rw [ea]
    refine V_al0n dX11_led_0 ?_
    refine V_il1n dX11_led_1 ?_
    refine V_il2n dX11_led_2 ?_
    refine V_callV (as := [_, _]) ml_X11_203 im_X11_canRun se_X11_canRun kk0 (by decide) (by decide) dX11_led_3 rfl rfl (by decide) (by decide) (Nat.le_of_ble_eq_true rfl) (by decide) (by decide) rfl (c_canRun hW hC rm rp) ?_
    refine pq4 ?_
    refine V_bt (tgt := 43) dX11_led_6 rfl (fun b6 => ?_) (fun b6 => ?_)
    · rw [c1.1] at b6; cases b6
    · refine V_il3n dX11_led_9 ?_
      refine V_if_lt (tgt := 43) dX11_led_10 rfl (by first | assumption | (unfold ri at *; omega)) (fun b10 => ?_) (fun b10 => ?_)
      · exfalso; omega
      · refine V_il3n dX11_led_13 ?_
        refine V_al0n dX11_led_14 ?_
        refine V_getR kk0 (by decide) fl_X11_29 hW.2.2.1 dX11_led_15 ?_
        refine V_al0n dX11_led_18 ?_
        refine V_getR kk0 (by decide) fl_X11_29 hW.2.2.1 dX11_led_19 ?_
        refine V_iconst dX11_led_22 ?_
        refine V_callV (as := [_]) ml_X11_271 im_X7_size se_X7_size (kb_0 hb) (by decide) (kl_0 hb) dX11_led_23 rfl rfl (by decide) (by decide) (Nat.le_of_ble_eq_true rfl) (by decide) (by decide) rfl (c_size hρ hb hC (i := 0) (by omega)) ?_
        refine pq4 ?_
        refine V_callV (as := [_]) ml_X11_216 im_X7_stepsAhead se_X7_stepsAhead (kb_0 hb) (by decide) (kl_0 hb) dX11_led_26 rfl rfl (by decide) (by decide) (Nat.le_of_ble_eq_true rfl) (by decide) (by decide) rfl (hst) ?_
        refine pq4 ?_
        refine V_icmp_gt (tgt := 43) dX11_led_29 rfl (by first | assumption | (unfold ri; omega)) (by first | assumption | (unfold ri; omega)) (fun b29 => ?_) (fun b29 => ?_)
        · exfalso; omega
        · refine V_il4 dX11_led_32 ?_
          refine V_if_lt (tgt := 43) dX11_led_34 rfl (by first | assumption | (unfold ri at *; omega)) (fun b34 => ?_) (fun b34 => ?_)
          · exfalso; omega
          · refine V_il4 dX11_led_37 ?_
            refine V_iconst dX11_led_39 ?_
            refine V_icmp_le (tgt := 45) dX11_led_40 rfl (by first | assumption | (unfold ri at *; omega)) (by first | assumption | (unfold ri at *; omega)) (fun b40 => ?_) (fun b40 => ?_)
            · refine V_al0n dX11_led_45 ?_
              refine V_il1n dX11_led_46 ?_
              refine V_il2n dX11_led_47 ?_
              refine V_il3n dX11_led_48 ?_
              refine V_callV (as := [_, _, _]) ml_X11_206 im_X11_walkAlong se_X11_walkAlong kk0 (by decide) (by decide) dX11_led_49 rfl rfl (by decide) (by decide) (Nat.le_of_ble_eq_true rfl) (by decide) (by decide) rfl (c_walkAlong hW hC hG h5 hm hp hs hsk hr rn_ c1.2.1.1) ?_
              rintro r49 ρ49 f49 g49 ⟨rfl, s49_0, q1, q2, q3, q4, q5, q6⟩
              obtain rfl := s49_0.symm
              refine V_al0n dX11_led_52 ?_
              refine V_il4 dX11_led_53 ?_
              refine V_callV (as := [_]) ml_X11_213 im_X11_walkTells se_X11_walkTells kk0 (by decide) (by decide) dX11_led_55 rfl rfl (by decide) (by decide) (Nat.le_of_ble_eq_true rfl) (by decide) (by decide) rfl (c_walkTells hρ q5 (rnP_rng hk hsk hm hp (nMin_le hk c1.2.1.1)) rw_) ?_
              refine pq4 ?_
              exact V_ireturn rfl ⟨rfl, rfl, ⟨false, ra, q2⟩, q3, q4⟩ dX11_led_58
            · exfalso; omega
  · have ea : aLed T ra sk m p n w = -1 := by
      unfold aLed
      rw [if_neg (fun q => c1 ?_)]
      rw [Bool.and_eq_true, Bool.and_eq_true] at q
      exact ⟨q.1.1, by have := q.1.2; unfold zin at this; simpa using this, by have := q.2; unfold zin at this; simpa using this⟩
    rw [ea]
    refine V_al0n dX11_led_0 ?_
    refine V_il1n dX11_led_1 ?_
    refine V_il2n dX11_led_2 ?_
    refine V_callV (as := [_, _]) ml_X11_203 im_X11_canRun se_X11_canRun kk0 (by decide) (by decide) dX11_led_3 rfl rfl (by decide) (by decide) (Nat.le_of_ble_eq_true rfl) (by decide) (by decide) rfl (c_canRun hW hC rm rp) ?_
    refine pq4 ?_
    refine V_bt (tgt := 43) dX11_led_6 rfl (fun b6 => ?_) (fun b6 => ?_)
    · refine V_iconst dX11_led_43 ?_
      exact V_ireturn rfl ⟨rfl, rfl, QW.rf hG (by omega)⟩ dX11_led_44
    · refine V_il3n dX11_led_9 ?_
      refine V_if_lt (tgt := 43) dX11_led_10 rfl (by first | assumption | (unfold ri at *; omega)) (fun b10 => ?_) (fun b10 => ?_)
      · refine V_iconst dX11_led_43 ?_
        exact V_ireturn rfl ⟨rfl, rfl, QW.rf hG (by omega)⟩ dX11_led_44
      · refine V_il3n dX11_led_13 ?_
        refine V_al0n dX11_led_14 ?_
        refine V_getR kk0 (by decide) fl_X11_29 hW.2.2.1 dX11_led_15 ?_
        refine V_al0n dX11_led_18 ?_
        refine V_getR kk0 (by decide) fl_X11_29 hW.2.2.1 dX11_led_19 ?_
        refine V_iconst dX11_led_22 ?_
        refine V_callV (as := [_]) ml_X11_271 im_X7_size se_X7_size (kb_0 hb) (by decide) (kl_0 hb) dX11_led_23 rfl rfl (by decide) (by decide) (Nat.le_of_ble_eq_true rfl) (by decide) (by decide) rfl (c_size hρ hb hC (i := 0) (by omega)) ?_
        refine pq4 ?_
        refine V_callV (as := [_]) ml_X11_216 im_X7_stepsAhead se_X7_stepsAhead (kb_0 hb) (by decide) (kl_0 hb) dX11_led_26 rfl rfl (by decide) (by decide) (Nat.le_of_ble_eq_true rfl) (by decide) (by decide) rfl (hst) ?_
        refine pq4 ?_
        refine V_icmp_gt (tgt := 43) dX11_led_29 rfl (by first | assumption | (unfold ri; omega)) (by first | assumption | (unfold ri; omega)) (fun b29 => ?_) (fun b29 => ?_)
        · refine V_iconst dX11_led_43 ?_
          exact V_ireturn rfl ⟨rfl, rfl, QW.rf hG (by omega)⟩ dX11_led_44
        · refine V_il4 dX11_led_32 ?_
          refine V_if_lt (tgt := 43) dX11_led_34 rfl (by first | assumption | (unfold ri at *; omega)) (fun b34 => ?_) (fun b34 => ?_)
          · refine V_iconst dX11_led_43 ?_
            exact V_ireturn rfl ⟨rfl, rfl, QW.rf hG (by omega)⟩ dX11_led_44
          · refine V_il4 dX11_led_37 ?_
            refine V_iconst dX11_led_39 ?_
            refine V_icmp_le (tgt := 45) dX11_led_40 rfl (by first | assumption | (unfold ri at *; omega)) (by first | assumption | (unfold ri at *; omega)) (fun b40 => ?_) (fun b40 => ?_)
            · exact absurd ⟨b6, by omega, by omega, by omega⟩ c1
            · refine V_iconst dX11_led_43 ?_
              exact V_ireturn rfl ⟨rfl, rfl, QW.rf hG (by omega)⟩ dX11_led_44
end ALONG

