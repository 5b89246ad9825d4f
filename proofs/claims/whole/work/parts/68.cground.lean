/-! the ground: what laws are worth by the names that stand in them -/
theorem us_of {T : TT} {i n : Nat} (hi : (i : Int) < T 104 17) (h1 : T 130 i = 1) (h2 : T 131 i = (n : Int)) : us T n = true := by
  unfold us
  rw [decide_eq_true_eq]
  exact ⟨i, by omega, h1, h2⟩
theorem evs_cgn {T : TT} {nm nm' : Nat → Int} : ∀ (c i : Nat) (val : Nat → Int), (∀ j, i ≤ j → j < i + c → T 130 j = 1 → nm (T 131 j).toNat = nm' (T 131 j).toNat) → evs T nm c i val = evs T nm' c i val
  | 0, i, val, h => rfl
  | c + 1, i, val, h => by
    have e : kv T nm val i = kv T nm' val i := by
      unfold kv
      split
      · rfl
      · split
        · rw [h i (by omega) (by omega) (by assumption)]
        · rfl
    simp only [evs, e]
    cases kv T nm' val i with
    | none => rfl
    | some v => exact evs_cgn c (i + 1) _ (fun j h1 h2 h3 => h j (by omega) (by omega) h3)
theorem lawv_cg {T : TT} (hk : TOK T) (hP : TPF T) {w : Nat} (hw : w < 8) (ht : T 127 w = 1) {nm nm' : Nat → Int} (h : ∀ n, n < 8 → us T n = true → nm n = nm' n) : lawv T nm w = lawv T nm' w := by
  obtain ⟨lo, N, e1, e2, hN, h17, -, -⟩ := hP w hw ht
  obtain ⟨lo', hi', f1, f2, -, -, hkn⟩ := hk.kn hw ht
  unfold lawv
  rw [evs_cgn]
  intro j h1 h2 h3
  rw [e1, Int.toNat_natCast] at h1
  rw [e1, e2, Int.toNat_natCast] at h2
  have hj := hkn j (by omega) (by omega)
  have h5 := hj.2.2.2.2.1 h3
  refine h _ (by omega) (us_of (i := j) (by omega) h3 (by omega))
theorem bl_cg {T : TT} (hk : TOK T) (hP : TPF T) {w : Nat} (hw : w < 8) {nm nm' : Nat → Int} (h : ∀ n, n < 8 → us T n = true → nm n = nm' n) {wo lo hi : Int} : bl T nm w wo lo hi = bl T nm' w wo lo hi := by
  unfold bl
  split
  · rfl
  · rw [lawv_cg hk hP hw (by have := (hk.law hw).1; omega) h]
/-- what doesn't stand in a law counts nothing -/
def ms (T : TT) (n : Nat) (x : Int) : Int := if us T n = true then x else 0
theorem ms_rng {T : TT} {n : Nat} {x B : Int} (h : 0 ≤ x ∧ x ≤ B) : 0 ≤ ms T n x ∧ ms T n x ≤ B := by unfold ms; split <;> omega
def gTi (T : TT) (fl ra : Bool) (sk wt : Int) (k : Nat) (pa wi le : Int) : Int := bl T (nms T k fl ra sk wt wi le pa) 0 (10 - pa) 1 99
def gCo (T : TT) (fl ra : Bool) (sk wt : Int) (k : Nat) (pa wi le : Int) : Int := bl T (nms T k fl ra sk wt wi le pa) 1 (pa + (if fl = true then 0 else T 109 k) - 4) (-20) 20
def gAc (T : TT) (fl ra : Bool) (sk wt : Int) (k : Nat) (pa wi le : Int) : Int := bl T (nms T k fl ra sk wt wi le pa) 2 0 0 20
theorem nms_cg {T : TT} {fl ra : Bool} {sk wt sk' wt' : Int} {k : Nat} {pa wi le wi' le' : Int} (h2 : ms T 2 sk = ms T 2 sk') (h3 : ms T 3 wt = ms T 3 wt') (h4 : ms T 4 wi = ms T 4 wi') (h5 : ms T 5 le = ms T 5 le') : ∀ n, n < 8 → us T n = true → nms T k fl ra sk wt wi le pa n = nms T k fl ra sk' wt' wi' le' pa n := fun n hn hu => by
  unfold ms at *
  rcases (show n = 0 ∨ n = 1 ∨ n = 2 ∨ n = 3 ∨ n = 4 ∨ n = 5 ∨ n = 6 ∨ n = 7 by omega) with rfl | rfl | rfl | rfl | rfl | rfl | rfl | rfl
  · rfl
  · rfl
  · rw [hu] at h2; simpa [nms] using h2
  · rw [hu] at h3; simpa [nms] using h3
  · rw [hu] at h4; simpa [nms] using h4
  · rw [hu] at h5; simpa [nms] using h5
  · rfl
  · rfl
theorem g_cg {T : TT} (hk : TOK T) (hP : TPF T) {fl ra : Bool} {sk wt sk' wt' : Int} {k : Nat} {pa wi le wi' le' : Int} (h2 : ms T 2 sk = ms T 2 sk') (h3 : ms T 3 wt = ms T 3 wt') (h4 : ms T 4 wi = ms T 4 wi') (h5 : ms T 5 le = ms T 5 le') : gTi T fl ra sk wt k pa wi le = gTi T fl ra sk' wt' k pa wi' le' ∧ gCo T fl ra sk wt k pa wi le = gCo T fl ra sk' wt' k pa wi' le' ∧ gAc T fl ra sk wt k pa wi le = gAc T fl ra sk' wt' k pa wi' le' :=
  ⟨bl_cg hk hP (by omega) (nms_cg h2 h3 h4 h5), bl_cg hk hP (by omega) (nms_cg h2 h3 h4 h5), bl_cg hk hP (by omega) (nms_cg h2 h3 h4 h5)⟩
def PKd (t c a : Int) : Int := t + (c + 20) * 128 + a * 8192
def KEY (ag : Int) (k : Nat) (pa ow ol : Int) : Int := (((ag * 6 + k) * 10 + pa) * 61 + ow) * 41 + ol
def PKg (T : TT) (fl ra : Bool) (sk wt : Int) (k : Nat) (pa wi le : Int) : Int := PKd (gTi T fl ra sk wt k pa wi le) (gCo T fl ra sk wt k pa wi le) (gAc T fl ra sk wt k pa wi le)
/-- what is kept of what steps take -/
def GC (T : TT) (fl ra : Bool) (f : IT) (g : JT) : Prop := ∀ s, s < 4096 → (0 ≤ g 60 s ∧ g 60 s < (f 55 5 + 1) * 150060) ∧ ∀ (k : Nat) (pa wi le : Int), k < nLa T → 1 ≤ pa ∧ pa ≤ 9 → 0 ≤ wi ∧ wi ≤ 60 → 0 ≤ le ∧ le ≤ 40 → g 60 s = KEY (f 55 5) k pa (ms T 4 wi) (ms T 5 le) → f 61 s = PKg T fl ra (f 55 2) (f 55 1) k pa wi le
/-- the rows as the lane and the weather have them -/
def GR (T : TT) (fl ra : Bool) (f : IT) : Prop := ∀ i : Nat, i < 6 → f 56 i = tat T 0 i 0 ∧ f 57 i = (if fl = true then 0 else tat T 0 i 1) ∧ f 58 i = (if ra = true then 1 else tat T 0 i 3) ∧ f 59 i = tat T 0 i 2
def GI (T : TT) (fl ra : Bool) (f : IT) (g : JT) : Prop := f 55 4 = bz fl ∧ f 55 3 = bz ra ∧ (0 ≤ f 55 1 ∧ f 55 1 ≤ 30) ∧ (0 ≤ f 55 2 ∧ f 55 2 ≤ 30) ∧ (1 ≤ f 55 5 ∧ f 55 5 ≤ 1000000) ∧ GR T fl ra f ∧ GC T fl ra f g
theorem tat0 {T : TT} (hk : TOK T) {i j : Nat} (hi : i < nLa T) (hj : j < 4) : tat T 0 (i : Int) (j : Int) = tcl T 0 i j := by
  have h6 := hk.la
  unfold tat
  rw [if_pos ⟨⟨by omega, by show (i : Int) < T 104 12; omega⟩, by omega, by have : wdK 0 = 4 := rfl; omega⟩, Int.toNat_natCast, Int.toNat_natCast]
theorem tat0_rng {T : TT} (hk : TOK T) {i : Int} : (0 ≤ tat T 0 i 0 ∧ tat T 0 i 0 ≤ 20) ∧ (0 ≤ tat T 0 i 1 ∧ tat T 0 i 1 ≤ 9) ∧ (0 ≤ tat T 0 i 2 ∧ tat T 0 i 2 ≤ 1) ∧ (0 ≤ tat T 0 i 3 ∧ tat T 0 i 3 ≤ 1) := by
  have h6 := hk.la
  by_cases c : 0 ≤ i ∧ i < T 104 12
  · obtain ⟨n, rfl⟩ : ∃ n : Nat, i = n := ⟨i.toNat, by omega⟩
    have hl := hk.lane (k := n) (by omega)
    have e0 := tat0 hk (i := n) (j := 0) (by omega) (by omega)
    have e1 := tat0 hk (i := n) (j := 1) (by omega) (by omega)
    have e2 := tat0 hk (i := n) (j := 2) (by omega) (by omega)
    have e3 := tat0 hk (i := n) (j := 3) (by omega) (by omega)
    simp [tcl] at e0 e1 e2 e3
    rw [e0, e1, e2, e3]
    omega
  · have : ∀ j, tat T 0 i j = 0 := fun j => by unfold tat; rw [if_neg (fun q => c q.1)]
    rw [this, this, this, this]
    omega
section GROUND
variable {T : TT} {b : Nat} {ρ : RT} {f0 : IT} {g : JT}
/-- the rows up to i laid anew -/
def spF (T : TT) (fl ra : Bool) (f : IT) (i : Nat) : IT := fun a k => if 56 ≤ a ∧ a ≤ 59 ∧ k < i then (if a = 56 then tat T 0 k 0 else if a = 57 then (if fl = true then 0 else tat T 0 k 1) else if a = 58 then (if ra = true then 1 else tat T 0 k 3) else tat T 0 k 2) else f a k
theorem spF_0 {fl ra : Bool} {f : IT} : spF T fl ra f 0 = f := by funext a k; unfold spF; rw [if_neg (by omega)]
theorem spF_s {fl ra : Bool} {f : IT} {i : Nat} {x y z w : Int} (hx : x = tat T 0 i 0) (hy : y = if fl = true then 0 else tat T 0 i 1) (hz : z = if ra = true then 1 else tat T 0 i 3) (hw : w = tat T 0 i 2) : u2 (u2 (u2 (u2 (spF T fl ra f i) 56 i x) 57 i y) 58 i z) 59 i w = spF T fl ra f (i + 1) := by
  funext a k
  unfold u2 spF
  by_cases h : k = i
  · subst h
    by_cases h9 : a = 59
    · subst h9; simp [hw]
    by_cases h8 : a = 58
    · subst h8; simp [hz]
    by_cases h7 : a = 57
    · subst h7; simp [hy]
    by_cases h6 : a = 56
    · subst h6; simp [hx]
    rw [if_neg (by omega), if_neg (by omega), if_neg (by omega), if_neg (by omega), if_neg (by omega), if_neg (by omega)]
  · rw [if_neg (by omega), if_neg (by omega), if_neg (by omega), if_neg (by omega)]
    by_cases c : 56 ≤ a ∧ a ≤ 59 ∧ k < i
    · rw [if_pos c, if_pos (show 56 ≤ a ∧ a ≤ 59 ∧ k < i + 1 by omega)]
    · rw [if_neg c, if_neg (show ¬ (56 ≤ a ∧ a ≤ 59 ∧ k < i + 1) by omega)]
theorem spF_o {fl ra : Bool} {f : IT} {i a k : Nat} (h : ¬ (56 ≤ a ∧ a ≤ 59)) : spF T fl ra f i a k = f a k := by unfold spF; rw [if_neg (by omega)]
theorem CT.cg {f f' : IT} (hb : b = 5 ∨ b = 30) (h : CT T b f) (e : ∀ a k, b ≤ a → a ≤ b + 24 → f' a k = f a k) : CT T b f' := by
  obtain ⟨h1, h2, h3, h4, h5, h6, h7⟩ := h
  refine ⟨fun i hi => ?_, fun i k hi hk => ?_, fun i k j hi hk hj => ?_, ?_, fun w hw => ?_, fun i hi => ?_, fun n hn => ?_⟩
  · rw [e _ _ (by omega) (by omega), e _ _ (by omega) (by omega), e _ _ (by omega) (by omega)]; exact h1 i hi
  · rw [e _ _ (by omega) (by omega)]; exact h2 i k hi hk
  · rw [e _ _ (by omega) (by omega)]; exact h3 i k j hi hk hj
  · rw [e _ _ (by omega) (by omega)]; exact h4
  · rw [e _ _ (by omega) (by omega), e _ _ (by omega) (by omega)]; exact h5 w hw
  · rw [e _ _ (by omega) (by omega), e _ _ (by omega) (by omega)]; exact h6 i hi
  · rw [e _ _ (by omega) (by omega)]; exact h7 n hn
theorem w_spread {Q : QT} {f : IT} (hρ : Fx ρ) (hr : ρ 55 0 = some b) (hb : b = 5 ∨ b = 30) (hC : CT T b f) (hk : TOK T) {fl ra : Bool} (h4 : f 55 4 = bz fl) (h3 : f 55 3 = bz ra) (hQ : Q none ρ (u2 (spF T fl ra f 6) 55 5 (f 55 5 + 1)) g) (i : Nat) (hi : i ≤ 6) : V_X0_spread Q 2 [.ref 55, .int (iz (i : Int))] [] ρ (spF T fl ra f i) g := by
  have e5 : ∀ j, spF T fl ra f i 55 j = f 55 j := fun j => spF_o (by omega)
  have hC0 : CT T b (spF T fl ra f i) := hC.cg hb (fun a k h1 h2 => spF_o (by omega))
  have hC1 : ∀ x, CT T b (u2 (spF T fl ra f i) 56 i x) := fun x => hC0.cg hb (fun a k h1 h2 => u2_o (by omega))
  have hC2 : ∀ x y, CT T b (u2 (u2 (spF T fl ra f i) 56 i x) 57 i y) := fun x y => (hC1 x).cg hb (fun a k h1 h2 => u2_o (by omega))
  have hC3 : ∀ x y z, CT T b (u2 (u2 (u2 (spF T fl ra f i) 56 i x) 57 i y) 58 i z) := fun x y z => (hC2 x y).cg hb (fun a k h1 h2 => u2_o (by omega))
  by_cases e : i = 6
  · subst e
    refine V_il1n dX0_spread_2 ?_
    refine V_bipush dX0_spread_3 rfl ?_
    refine V_icmp_ge (tgt := 100) dX0_spread_5 rfl (by first | assumption | (unfold ri at *; omega)) (by first | assumption | (unfold ri at *; omega)) (fun b5 => ?_) (fun b5 => ?_)
    · refine V_al0n dX0_spread_100 ?_
      refine V_dup dX0_spread_101 rfl ?_
      refine V_getI kk55 (by decide) fl_X0_25 (e5 5) dX0_spread_102 ?_
      refine V_iconst dX0_spread_105 ?_
      refine V_iadd dX0_spread_106 ?_
      refine V_putI kk55 (by decide) fl_X0_25 rfl dX0_spread_107 ?_
      exact V_return rfl hQ dX0_spread_110
    · exfalso; omega
  · refine V_il1n dX0_spread_2 ?_
    refine V_bipush dX0_spread_3 rfl ?_
    refine V_icmp_ge (tgt := 100) dX0_spread_5 rfl (by first | assumption | (unfold ri at *; omega)) (by first | assumption | (unfold ri at *; omega)) (fun b5 => ?_) (fun b5 => ?_)
    · exfalso; omega
    · refine V_al0n dX0_spread_8 ?_
      refine V_getR kk55 (by decide) fl_X0_28 (fx_55_6 hρ) dX0_spread_9 ?_
      refine V_il1n dX0_spread_12 ?_
      refine V_al0n dX0_spread_13 ?_
      refine V_getR kk55 (by decide) fl_X0_48 hr dX0_spread_14 ?_
      refine V_iconst dX0_spread_17 ?_
      refine V_il1n dX0_spread_18 ?_
      refine V_iconst dX0_spread_19 ?_
      refine V_callV (as := [_, _, _]) ml_X0_67 im_X7_at se_X7_at (kb_0 hb) (by decide) (kl_0 hb) dX0_spread_20 rfl rfl (by decide) (by decide) (Nat.le_of_ble_eq_true rfl) (by decide) (by decide) rfl (c_at hρ hb hC0 hk (i := 0) (by omega) (by unfold ri; omega) (by unfold ri; omega)) ?_
      refine pq4 ?_
      refine V_iast (k := i) kk56 (by decide) (by first | rfl | omega) (by omega) (by first | decide | assumption | omega) dX0_spread_23 ?_
      refine V_al0n dX0_spread_24 ?_
      refine V_getR kk55 (by decide) fl_X0_32 (fx_55_7 hρ) dX0_spread_25 ?_
      refine V_il1n dX0_spread_28 ?_
      refine V_al0n dX0_spread_29 ?_
      refine V_getZ kk55 (by decide) fl_X0_22 (u2_n (by omega) ((e5 4).trans h4)) dX0_spread_30 ?_
      refine V_bt (tgt := 40) dX0_spread_33 rfl (fun b33 => ?_) (fun b33 => ?_)
      · refine V_al0n dX0_spread_40 ?_
        refine V_getR kk55 (by decide) fl_X0_48 hr dX0_spread_41 ?_
        refine V_iconst dX0_spread_44 ?_
        refine V_il1n dX0_spread_45 ?_
        refine V_iconst dX0_spread_46 ?_
        refine V_callV (as := [_, _, _]) ml_X0_67 im_X7_at se_X7_at (kb_0 hb) (by decide) (kl_0 hb) dX0_spread_47 rfl rfl (by decide) (by decide) (Nat.le_of_ble_eq_true rfl) (by decide) (by decide) rfl (c_at hρ hb (hC1 _) hk (i := 0) (by omega) (by unfold ri; omega) (by unfold ri; omega)) ?_
        refine pq4 ?_
        refine V_iast (k := i) kk57 (by decide) (by first | rfl | omega) (by omega) (by first | decide | assumption | omega) dX0_spread_50 ?_
        refine V_al0n dX0_spread_51 ?_
        refine V_getR kk55 (by decide) fl_X0_35 (fx_55_8 hρ) dX0_spread_52 ?_
        refine V_il1n dX0_spread_55 ?_
        refine V_al0n dX0_spread_56 ?_
        refine V_getZ kk55 (by decide) fl_X0_18 (u2_n (by omega) (u2_n (by omega) ((e5 3).trans h3))) dX0_spread_57 ?_
        refine V_bt (tgt := 67) dX0_spread_60 rfl (fun b60 => ?_) (fun b60 => ?_)
        · refine V_al0n dX0_spread_67 ?_
          refine V_getR kk55 (by decide) fl_X0_48 hr dX0_spread_68 ?_
          refine V_iconst dX0_spread_71 ?_
          refine V_il1n dX0_spread_72 ?_
          refine V_iconst dX0_spread_73 ?_
          refine V_callV (as := [_, _, _]) ml_X0_67 im_X7_at se_X7_at (kb_0 hb) (by decide) (kl_0 hb) dX0_spread_74 rfl rfl (by decide) (by decide) (Nat.le_of_ble_eq_true rfl) (by decide) (by decide) rfl (c_at hρ hb (hC2 _ _) hk (i := 0) (by omega) (by unfold ri; omega) (by unfold ri; omega)) ?_
          refine pq4 ?_
          refine V_iast (k := i) kk58 (by decide) (by first | rfl | omega) (by omega) (by first | decide | assumption | omega) dX0_spread_77 ?_
          refine V_al0n dX0_spread_78 ?_
          refine V_getR kk55 (by decide) fl_X0_38 (fx_55_9 hρ) dX0_spread_79 ?_
          refine V_il1n dX0_spread_82 ?_
          refine V_al0n dX0_spread_83 ?_
          refine V_getR kk55 (by decide) fl_X0_48 hr dX0_spread_84 ?_
          refine V_iconst dX0_spread_87 ?_
          refine V_il1n dX0_spread_88 ?_
          refine V_iconst dX0_spread_89 ?_
          refine V_callV (as := [_, _, _]) ml_X0_67 im_X7_at se_X7_at (kb_0 hb) (by decide) (kl_0 hb) dX0_spread_90 rfl rfl (by decide) (by decide) (Nat.le_of_ble_eq_true rfl) (by decide) (by decide) rfl (c_at hρ hb (hC3 _ _ _) hk (i := 0) (by omega) (by unfold ri; omega) (by unfold ri; omega)) ?_
          refine pq4 ?_
          refine V_iast (k := i) kk59 (by decide) (by first | rfl | omega) (by omega) (by first | decide | assumption | omega) dX0_spread_93 ?_
          refine V_inc1 dX0_spread_94 (by decide) rfl ?_
          refine V_goto (tgt := 2) dX0_spread_97 rfl ?_
          rw [spF_s rfl (by first | (rw [if_pos b33]) | (rw [b33]; rfl)) (by first | (rw [if_pos b60]) | (rw [b60]; rfl)) rfl]
          exact w_spread hρ hr hb hC hk h4 h3 hQ (i + 1) (by omega)
        · refine V_iconst dX0_spread_63 ?_
          refine V_goto (tgt := 77) dX0_spread_64 rfl ?_
          refine V_iast (k := i) kk58 (by decide) (by first | rfl | omega) (by omega) (by first | decide | assumption | omega) dX0_spread_77 ?_
          refine V_al0n dX0_spread_78 ?_
          refine V_getR kk55 (by decide) fl_X0_38 (fx_55_9 hρ) dX0_spread_79 ?_
          refine V_il1n dX0_spread_82 ?_
          refine V_al0n dX0_spread_83 ?_
          refine V_getR kk55 (by decide) fl_X0_48 hr dX0_spread_84 ?_
          refine V_iconst dX0_spread_87 ?_
          refine V_il1n dX0_spread_88 ?_
          refine V_iconst dX0_spread_89 ?_
          refine V_callV (as := [_, _, _]) ml_X0_67 im_X7_at se_X7_at (kb_0 hb) (by decide) (kl_0 hb) dX0_spread_90 rfl rfl (by decide) (by decide) (Nat.le_of_ble_eq_true rfl) (by decide) (by decide) rfl (c_at hρ hb (hC3 _ _ _) hk (i := 0) (by omega) (by unfold ri; omega) (by unfold ri; omega)) ?_
          refine pq4 ?_
          refine V_iast (k := i) kk59 (by decide) (by first | rfl | omega) (by omega) (by first | decide | assumption | omega) dX0_spread_93 ?_
          refine V_inc1 dX0_spread_94 (by decide) rfl ?_
          refine V_goto (tgt := 2) dX0_spread_97 rfl ?_
          rw [spF_s rfl (by first | (rw [if_pos b33]) | (rw [b33]; rfl)) (by first | (rw [if_pos b60]) | (rw [b60]; rfl)) rfl]
          exact w_spread hρ hr hb hC hk h4 h3 hQ (i + 1) (by omega)
      · refine V_iconst dX0_spread_36 ?_
        refine V_goto (tgt := 50) dX0_spread_37 rfl ?_
        refine V_iast (k := i) kk57 (by decide) (by first | rfl | omega) (by omega) (by first | decide | assumption | omega) dX0_spread_50 ?_
        refine V_al0n dX0_spread_51 ?_
        refine V_getR kk55 (by decide) fl_X0_35 (fx_55_8 hρ) dX0_spread_52 ?_
        refine V_il1n dX0_spread_55 ?_
        refine V_al0n dX0_spread_56 ?_
        refine V_getZ kk55 (by decide) fl_X0_18 (u2_n (by omega) (u2_n (by omega) ((e5 3).trans h3))) dX0_spread_57 ?_
        refine V_bt (tgt := 67) dX0_spread_60 rfl (fun b60 => ?_) (fun b60 => ?_)
        · refine V_al0n dX0_spread_67 ?_
          refine V_getR kk55 (by decide) fl_X0_48 hr dX0_spread_68 ?_
          refine V_iconst dX0_spread_71 ?_
          refine V_il1n dX0_spread_72 ?_
          refine V_iconst dX0_spread_73 ?_
          refine V_callV (as := [_, _, _]) ml_X0_67 im_X7_at se_X7_at (kb_0 hb) (by decide) (kl_0 hb) dX0_spread_74 rfl rfl (by decide) (by decide) (Nat.le_of_ble_eq_true rfl) (by decide) (by decide) rfl (c_at hρ hb (hC2 _ _) hk (i := 0) (by omega) (by unfold ri; omega) (by unfold ri; omega)) ?_
          refine pq4 ?_
          refine V_iast (k := i) kk58 (by decide) (by first | rfl | omega) (by omega) (by first | decide | assumption | omega) dX0_spread_77 ?_
          refine V_al0n dX0_spread_78 ?_
          refine V_getR kk55 (by decide) fl_X0_38 (fx_55_9 hρ) dX0_spread_79 ?_
          refine V_il1n dX0_spread_82 ?_
          refine V_al0n dX0_spread_83 ?_
          refine V_getR kk55 (by decide) fl_X0_48 hr dX0_spread_84 ?_
          refine V_iconst dX0_spread_87 ?_
          refine V_il1n dX0_spread_88 ?_
          refine V_iconst dX0_spread_89 ?_
          refine V_callV (as := [_, _, _]) ml_X0_67 im_X7_at se_X7_at (kb_0 hb) (by decide) (kl_0 hb) dX0_spread_90 rfl rfl (by decide) (by decide) (Nat.le_of_ble_eq_true rfl) (by decide) (by decide) rfl (c_at hρ hb (hC3 _ _ _) hk (i := 0) (by omega) (by unfold ri; omega) (by unfold ri; omega)) ?_
          refine pq4 ?_
          refine V_iast (k := i) kk59 (by decide) (by first | rfl | omega) (by omega) (by first | decide | assumption | omega) dX0_spread_93 ?_
          refine V_inc1 dX0_spread_94 (by decide) rfl ?_
          refine V_goto (tgt := 2) dX0_spread_97 rfl ?_
          rw [spF_s rfl (by first | (rw [if_pos b33]) | (rw [b33]; rfl)) (by first | (rw [if_pos b60]) | (rw [b60]; rfl)) rfl]
          exact w_spread hρ hr hb hC hk h4 h3 hQ (i + 1) (by omega)
        · refine V_iconst dX0_spread_63 ?_
          refine V_goto (tgt := 77) dX0_spread_64 rfl ?_
          refine V_iast (k := i) kk58 (by decide) (by first | rfl | omega) (by omega) (by first | decide | assumption | omega) dX0_spread_77 ?_
          refine V_al0n dX0_spread_78 ?_
          refine V_getR kk55 (by decide) fl_X0_38 (fx_55_9 hρ) dX0_spread_79 ?_
          refine V_il1n dX0_spread_82 ?_
          refine V_al0n dX0_spread_83 ?_
          refine V_getR kk55 (by decide) fl_X0_48 hr dX0_spread_84 ?_
          refine V_iconst dX0_spread_87 ?_
          refine V_il1n dX0_spread_88 ?_
          refine V_iconst dX0_spread_89 ?_
          refine V_callV (as := [_, _, _]) ml_X0_67 im_X7_at se_X7_at (kb_0 hb) (by decide) (kl_0 hb) dX0_spread_90 rfl rfl (by decide) (by decide) (Nat.le_of_ble_eq_true rfl) (by decide) (by decide) rfl (c_at hρ hb (hC3 _ _ _) hk (i := 0) (by omega) (by unfold ri; omega) (by unfold ri; omega)) ?_
          refine pq4 ?_
          refine V_iast (k := i) kk59 (by decide) (by first | rfl | omega) (by omega) (by first | decide | assumption | omega) dX0_spread_93 ?_
          refine V_inc1 dX0_spread_94 (by decide) rfl ?_
          refine V_goto (tgt := 2) dX0_spread_97 rfl ?_
          rw [spF_s rfl (by first | (rw [if_pos b33]) | (rw [b33]; rfl)) (by first | (rw [if_pos b60]) | (rw [b60]; rfl)) rfl]
          exact w_spread hρ hr hb hC hk h4 h3 hQ (i + 1) (by omega)
termination_by 6 - i
theorem c_spread {f : IT} (hρ : Fx ρ) (hr : ρ 55 0 = some b) (hb : b = 5 ∨ b = 30) (hC : CT T b f) (hk : TOK T) {fl ra : Bool} (h4 : f 55 4 = bz fl) (h3 : f 55 3 = bz ra) : C_X0_spread [.ref 55] ρ f g (fun r ρ' f' g' => r = none ∧ ρ' = ρ ∧ f' = u2 (spF T fl ra f 6) 55 5 (f 55 5 + 1) ∧ g' = g) := by
  refine Ct.ofV (by decide) rfl (Nat.le_of_ble_eq_true rfl) ?_
  refine V_iconst dX0_spread_0 ?_
  refine V_is1n dX0_spread_1 (by decide) rfl ?_
  have := w_spread (Q := fun r ρ' f' g' => r = none ∧ ρ' = ρ ∧ f' = u2 (spF T fl ra f 6) 55 5 (f 55 5 + 1) ∧ g' = g) (g := g) hρ hr hb hC hk h4 h3 ⟨rfl, rfl, rfl, rfl⟩ 0 (by omega)
  rw [spF_0] at this
  exact this
end GROUND

