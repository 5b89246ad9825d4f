section CSTEADY
variable {T : TT} {b : Nat} {ρ : RT} {f : IT} {g : JT}
theorem thr_leg (hk : TOK T) {c : CC} (hc : CR c) {k : Nat} (hl : k < nLa T) {h : Nat} (hh : h < nHo T) {pa : Int} (hp : 1 ≤ pa ∧ pa ≤ 9) : ∀ (n : Nat) (s : SS), SR s → (thr T c k (T 117 h) pa n s).2.2.1 ≤ s.2.2.1
  | 0, s, _ => by simp [thr]
  | n + 1, s, hs => by
    unfold thr
    split
    · omega
    · have h1 := one_rng hk hc hl hh hp hs
      have h2 := thr_leg hk hc hl hh hp n _ h1.1
      omega
theorem rn_leg (hk : TOK T) {c : CC} (hc : CR c) {h : Nat} (hh : h < nHo T) {pc : Nat → Int} (hp : ∀ k, 1 ≤ pc k ∧ pc k ≤ 9) {s : SS} (hs : SR s) : ∀ j : Nat, j ≤ nLa T → (rn T c (T 117 h) pc j s).2.2.1 ≤ s.2.2.1
  | 0, _ => by simp [rn]
  | j + 1, hj => by
    have h1 := rn_rng hk hc hh hp hs j (by omega)
    have h2 := thr_leg hk hc (k := j) (by omega) hh (hp j) (T 108 j).toNat _ h1.1
    have h3 := rn_leg hk hc hh hp hs j (by omega)
    simp only [rn]
    omega
/-- what a walk by stretches leaves -/
def WLk (b : Nat) (f : IT) (g : JT) (f' : IT) (g' : JT) : Prop := (∀ a k, a ≠ 61 → a ≠ 65 → f' a k = f a k) ∧ ∀ a, a ≠ 60 → a ≠ b + 22 → a ≠ b + 23 → g' a = g a
theorem WLk.rf : WLk b f g f g := ⟨fun _ _ _ _ => rfl, fun _ _ _ _ => rfl⟩
theorem WLk.tr {f' f'' : IT} {g' g'' : JT} (h : WLk b f g f' g') (h' : WLk b f' g' f'' g'') : WLk b f g f'' g'' := ⟨fun a k q r => (h'.1 a k q r).trans (h.1 a k q r), fun a q r s => (h'.2 a q r s).trans (h.2 a q r s)⟩
theorem WLk.aw {f' : IT} {g' : JT} (h : WLk b f g f' g') : AWf b f g f' g' := ⟨fun a k q r => h.1 a k (by omega) r, fun a q r s t => h.2 a q r s⟩
theorem w_csteady {Q : QT} {f0 : IT} {g0 : JT} (hW : TW T b ρ) {c : CC} (hc : CR c) {h : Nat} (hh : h < nHo T) {pa : Int} (hp : 1 ≤ pa ∧ pa ≤ 9) {s : SS} (hs : SR s) (hs4 : s.2.2.1 ≤ 40) {v1 v2 v3 : Value}
    (hQ : ∀ (f : IT) (g : JT), CT T b f → GI T c.1 c.2.1 f g → WLk b f0 g0 f g → Q (some (.int (iz (if (rn T c (T 117 h) (fun _ => pa) (nLa T) s).2.2.1 = 0 then -2 else (rn T c (T 117 h) (fun _ => pa) (nLa T) s).1)))) ρ f g)
    (i : Nat) (hi : i ≤ nLa T) (f : IT) (g : JT) (hCT : CT T b f) (hGI : GI T c.1 c.2.1 f g) (hGE : GE T c f) (hWS : WS 65 c (T 117 h) (rn T c (T 117 h) (fun _ => pa) i s) f) (hK : WLk b f0 g0 f g) :
    V_X11_steadyTenths Q 32 [.ref 0, v1, v2, v3, .int (iz pa), .int (iz (i : Int))] [] ρ f g := by
  have hk := hW.2.2.2.2.1
  have hρ := hW.1
  have hb := hW.2.1
  have h6 := hk.la
  have e12 : T 104 (12 + 0) = (nLa T : Int) := h6.1
  have hr := rn_rng hk hc hh (pc := fun _ => pa) (fun _ => hp) hs i hi
  have hr4 := rn_leg hk hc hh (pc := fun _ => pa) (fun _ => hp) hs i hi
  by_cases e : i = nLa T
  · subst e
    obtain ⟨w6, w4, w9, w7, w8⟩ := hWS
    have ho := c_isOut (w := 65) (ρ := ρ) (f := f) (g := g) rfl (by rw [w8]; have := hr.1.2; unfold ri; omega)
    rw [w8] at ho
    have hq := hQ f g hCT hGI hK
    refine V_il5 dX11_steadyTenths_32 ?_
    refine V_al0n dX11_steadyTenths_34 ?_
    refine V_getR kk0 (by decide) fl_X11_29 hW.2.2.1 dX11_steadyTenths_35 ?_
    refine V_iconst dX11_steadyTenths_38 ?_
    refine V_callV (as := [_]) ml_X11_271 im_X7_size se_X7_size (kb_0 hb) (by decide) (kl_0 hb) dX11_steadyTenths_39 rfl rfl (by decide) (by decide) (Nat.le_of_ble_eq_true rfl) (by decide) (by decide) rfl (c_size hρ hb hCT (i := 0) (by omega)) ?_
    refine pq4 ?_
    refine V_icmp_ge (tgt := 75) dX11_steadyTenths_42 rfl (by unfold ri; omega) (by unfold ri; omega) (fun b42 => ?_) (fun b42 => ?_)
    · refine V_al0n dX11_steadyTenths_75 ?_
      refine V_getR kk0 (by decide) fl_X11_78 (fx_0_15 hρ) dX11_steadyTenths_76 ?_
      refine V_callV (as := []) ml_X11_253 im_X10_isOut se_X10_isOut kk65 (by decide) (by decide) dX11_steadyTenths_79 rfl rfl (by decide) (by decide) (Nat.le_of_ble_eq_true rfl) (by decide) (by decide) rfl (ho) ?_
      refine pq4 ?_
      refine V_bt (tgt := 90) dX11_steadyTenths_82 rfl (fun b82 => ?_) (fun b82 => ?_)
      · refine V_al0n dX11_steadyTenths_90 ?_
        refine V_getR kk0 (by decide) fl_X11_78 (fx_0_15 hρ) dX11_steadyTenths_91 ?_
        refine V_getI kk65 (by decide) fl_X11_241 w9 dX11_steadyTenths_94 ?_
        exact V_ireturn rfl (by have := hr.1.2; first | (rw [if_pos (by simp at b82; omega)] at hq; exact hq) | (rw [if_neg (by simp at b82; omega)] at hq; exact hq)) dX11_steadyTenths_97
      · refine V_bipush dX11_steadyTenths_85 rfl ?_
        refine V_goto (tgt := 97) dX11_steadyTenths_87 rfl ?_
        exact V_ireturn rfl (by have := hr.1.2; first | (rw [if_pos (by simp at b82; omega)] at hq; exact hq) | (rw [if_neg (by simp at b82; omega)] at hq; exact hq)) dX11_steadyTenths_97
    · exfalso; omega
  · have hln := hk.lane (k := i) (by omega)
    have t0 := tat0 hk (i := i) (j := 0) (by omega) (by omega)
    simp [tcl] at t0
    have e56 : f 56 i = T 108 i := ((hGI.2.2.2.2.2.1 i (by omega)).1).trans t0
    obtain ⟨nst, hnst⟩ : ∃ n : Nat, T 108 i = (n : Int) := ⟨(T 108 i).toNat, by omega⟩
    have htr := c_tread (g := g) hρ hW.2.2.2.1 hb hk hW.2.2.2.2.2 (w := 65) rfl (by omega) hc (k := i) (by omega) hh hp (n := nst) (by omega) hCT hGI hGE hWS hr.1 (by omega)
    have ern : thr T c i (T 117 h) pa nst (rn T c (T 117 h) (fun _ => pa) i s) = rn T c (T 117 h) (fun _ => pa) (i + 1) s := by
      rw [rn, hnst, Int.toNat_natCast]
    rw [ern] at htr
    refine V_il5 dX11_steadyTenths_32 ?_
    refine V_al0n dX11_steadyTenths_34 ?_
    refine V_getR kk0 (by decide) fl_X11_29 hW.2.2.1 dX11_steadyTenths_35 ?_
    refine V_iconst dX11_steadyTenths_38 ?_
    refine V_callV (as := [_]) ml_X11_271 im_X7_size se_X7_size (kb_0 hb) (by decide) (kl_0 hb) dX11_steadyTenths_39 rfl rfl (by decide) (by decide) (Nat.le_of_ble_eq_true rfl) (by decide) (by decide) rfl (c_size hρ hb hCT (i := 0) (by omega)) ?_
    refine pq4 ?_
    refine V_icmp_ge (tgt := 75) dX11_steadyTenths_42 rfl (by unfold ri; omega) (by unfold ri; omega) (fun b42 => ?_) (fun b42 => ?_)
    · exfalso; omega
    · refine V_al0n dX11_steadyTenths_45 ?_
      refine V_getR kk0 (by decide) fl_X11_78 (fx_0_15 hρ) dX11_steadyTenths_46 ?_
      refine V_al0n dX11_steadyTenths_49 ?_
      refine V_getR kk0 (by decide) fl_X11_48 (fx_0_7 hρ) dX11_steadyTenths_50 ?_
      refine V_il5 dX11_steadyTenths_53 ?_
      refine V_il4 dX11_steadyTenths_55 ?_
      refine V_al0n dX11_steadyTenths_57 ?_
      refine V_getR kk0 (by decide) fl_X11_48 (fx_0_7 hρ) dX11_steadyTenths_58 ?_
      refine V_il5 dX11_steadyTenths_61 ?_
      refine V_callV (as := [_]) ml_X11_297 im_X0_stepsOf se_X0_stepsOf kk55 (by decide) (by decide) dX11_steadyTenths_63 rfl rfl (by decide) (by decide) (Nat.le_of_ble_eq_true rfl) (by decide) (by decide) rfl (c_stepsOf (g := g) hρ (k := i) (by omega) (e56.trans hnst)) ?_
      refine pq4 ?_
      refine V_callV (as := [_, _, _, _]) ml_X11_300 im_X10_tread se_X10_tread kk65 (by decide) (by decide) dX11_steadyTenths_66 rfl rfl (by decide) (by decide) (Nat.le_of_ble_eq_true rfl) (by decide) (by decide) rfl (htr) ?_
      rintro r66 ρ66 f66 g66 ⟨rfl, s66_0, q1, q2, q3, q4⟩
      obtain rfl := s66_0.symm
      refine V_inc5 dX11_steadyTenths_69 (by decide) rfl ?_
      refine V_goto (tgt := 32) dX11_steadyTenths_72 rfl ?_
      exact w_csteady hW hc hh hp hs hs4 hQ (i + 1) (by omega) f66 g66 q1 q2 (q3.ge (by omega) hGE) q4 (hK.tr ⟨fun a k z1 z2 => q3.1 a k z1 (by omega), q3.2⟩)
termination_by nLa T - i
theorem c_steadyTenths (hW : TW T b ρ) (hC : CT T b f) {ra : Bool} (hG : GI T false ra f g) {m h : Nat} (hm : m < nMe T) (hh : h < nHo T) {sk : Int} (hsk : 0 ≤ sk ∧ sk ≤ 30) {pa top : Int} (hp : 1 ≤ pa ∧ pa ≤ 9) (ht : 1 ≤ top ∧ top ≤ 60) (hE : GE T (c0 T ra sk m) f) :
    C_X11_steadyTenths [.ref 0, .int (iz (m : Int)), .int (iz (h : Int)), .int (iz top), .int (iz pa)] ρ f g (fun r ρ' f' g' => r = some (.int (iz (if tenS (std T ra sk m h pa top) = 99999 then -2 else tenS (std T ra sk m h pa top)))) ∧ ρ' = ρ ∧ CT T b f' ∧ GI T false ra f' g' ∧ WLk b f g f' g') := by
  have hk := hW.2.2.2.2.1
  have hρ := hW.1
  have hb := hW.2.1
  have hma := hk.man hm
  have h5' := hk.me
  have h3' := hk.ho
  have t := tat1 hk (j := 1) hm (by omega)
  simp [tcl] at t
  have t2 := tat2 hk (j := 0) hh (by omega)
  simp [tcl] at t2
  have hat := c_at (f := f) (g := g) hW.1 hW.2.1 hC hk (i := 1) (by omega) (k := (m : Int)) (j := 1) (by unfold ri; omega) (by unfold ri; omega)
  rw [t] at hat
  have hat2 := c_at (f := f) (g := g) hW.1 hW.2.1 hC hk (i := 2) (by omega) (k := (h : Int)) (j := 0) (by unfold ri; omega) (by unfold ri; omega)
  rw [t2] at hat2
  have hten := tenS_rng hk (ra := ra) hsk hm hh hp (w := top) ht
  have hcr : CR (false, ra, sk, T 115 m, top) := by unfold CR; simp only; omega
  have so : ∀ a i, a ≠ 65 → stdF 65 top top (T 114 m) (T 117 h) f a i = f a i := fun a i q1 => stdF_o (by omega)
  have hv : (if (rn T (false, ra, sk, T 115 m, top) (T 117 h) (fun _ => pa) (nLa T) (0, top, T 114 m, 0)).2.2.1 = 0 then (-2 : Int) else (rn T (false, ra, sk, T 115 m, top) (T 117 h) (fun _ => pa) (nLa T) (0, top, T 114 m, 0)).1) = if tenS (std T ra sk m h pa top) = 99999 then -2 else tenS (std T ra sk m h pa top) := by
    have h2 := hten.2.2
    unfold tenS at h2 ⊢
    unfold std at h2 ⊢
    split
    · rw [if_pos rfl]
    · rename_i z
      rw [if_neg z] at h2
      rw [if_neg (by have := h2.mpr z; omega)]
  have hgo := w_csteady (ρ := ρ) (f0 := f) (g0 := g) (v1 := .int (iz (m : Int))) (v2 := .int (iz (h : Int))) (v3 := .int (iz top)) (Q := fun r ρ' f' g' => r = some (.int (iz (if tenS (std T ra sk m h pa top) = 99999 then -2 else tenS (std T ra sk m h pa top)))) ∧ ρ' = ρ ∧ CT T b f' ∧ GI T false ra f' g' ∧ WLk b f g f' g') hW hcr hh hp (s := (0, top, T 114 m, 0)) ⟨by simp only; omega, by simp only; omega⟩ (by simp only; omega) (fun f' g' a1 a2 a3 => ⟨by rw [hv], rfl, a1, a2, a3⟩) 0 (by omega) _ g (hC.cg hb (fun a i q1 q2 => so a i (by omega))) (hG.cg (fun a i q1 q2 => so a i (by omega)) rfl) (GE.cg (c := (false, ra, sk, T 115 m, top)) hE (fun i => so 55 i (by omega))) (stdF_ws (w := 65) (f := f) (c := (false, ra, sk, T 115 m, top)) (wi := top) (le := T 114 m) (hc := T 117 h) (dn := 0)) ⟨fun a k z1 z2 => so a k z2, fun _ _ _ _ => rfl⟩
  refine Ct.ofV (by decide) rfl (Nat.le_of_ble_eq_true rfl) ?_
  refine V_al0n dX11_steadyTenths_0 ?_
  refine V_getR kk0 (by decide) fl_X11_78 (fx_0_15 hρ) dX11_steadyTenths_1 ?_
  refine V_il3n dX11_steadyTenths_4 ?_
  refine V_il3n dX11_steadyTenths_5 ?_
  refine V_al0n dX11_steadyTenths_6 ?_
  refine V_getR kk0 (by decide) fl_X11_29 hW.2.2.1 dX11_steadyTenths_7 ?_
  refine V_iconst dX11_steadyTenths_10 ?_
  refine V_il1n dX11_steadyTenths_11 ?_
  refine V_iconst dX11_steadyTenths_12 ?_
  refine V_callV (as := [_, _, _]) ml_X11_176 im_X7_at se_X7_at (kb_0 hb) (by decide) (kl_0 hb) dX11_steadyTenths_13 rfl rfl (by decide) (by decide) (Nat.le_of_ble_eq_true rfl) (by decide) (by decide) rfl (hat) ?_
  refine pq4 ?_
  refine V_al0n dX11_steadyTenths_16 ?_
  refine V_getR kk0 (by decide) fl_X11_29 hW.2.2.1 dX11_steadyTenths_17 ?_
  refine V_iconst dX11_steadyTenths_20 ?_
  refine V_il2n dX11_steadyTenths_21 ?_
  refine V_iconst dX11_steadyTenths_22 ?_
  refine V_callV (as := [_, _, _]) ml_X11_176 im_X7_at se_X7_at (kb_0 hb) (by decide) (kl_0 hb) dX11_steadyTenths_23 rfl rfl (by decide) (by decide) (Nat.le_of_ble_eq_true rfl) (by decide) (by decide) rfl (hat2) ?_
  refine pq4 ?_
  refine V_callV (as := [_, _, _, _]) ml_X11_294 im_X10_stand se_X10_stand kk65 (by decide) (by decide) dX11_steadyTenths_26 rfl rfl (by decide) (by decide) (Nat.le_of_ble_eq_true rfl) (by decide) (by decide) rfl (c_stand (w := 65) rfl) ?_
  refine pq4 ?_
  refine V_iconst dX11_steadyTenths_29 ?_
  refine V_is5 dX11_steadyTenths_30 (by decide) rfl ?_
  exact hgo
end CSTEADY

