theorem lz_s63 : ∀ b : Nat, b < 64 → (((iz (b : Int)).toInt64 &&& 63).toBitVec.smod 64).toNat = b := by decide
theorem lz_shr {a : Int} {b : Nat} (ha : rl a) (hb : b < 64) : lz a >>> ((iz (b : Int)).toInt64 &&& 63) = lz (a / 2 ^ b) := by
  have h : (lz a >>> ((iz (b : Int)).toInt64 &&& 63)).toInt = (lz a).toInt >>> b := by
    show ((lz a).toBitVec.sshiftRight (((iz (b : Int)).toInt64 &&& 63).toBitVec.smod 64).toNat).toInt = _
    rw [lz_s63 b hb, BitVec.toInt_sshiftRight]
    rfl
  rw [lz_val ha.1 ha.2, Int.shiftRight_eq_div_pow] at h
  rw [← lz_toInt (lz a >>> ((iz (b : Int)).toInt64 &&& 63)), h]
  rfl
theorem lz_shrE {a b' : Int} {b : Nat} {v : Int} (ha : rl a) (e : b' = (b : Int)) (hb : b < 64) (hv : a / 2 ^ b = v) : lz a >>> ((iz b').toInt64 &&& 63) = lz v := by rw [e, lz_shr ha hb, hv]
section WALK
variable {T : TT} {b w : Nat} {ρ : RT} {f : IT} {g : JT}
theorem c_tread (hρ : Fx ρ) (hr : ρ 55 0 = some b) (hb : b = 5 ∨ b = 30) (hk : TOK T) (hP : TPF T) (kw : kd w = (10, 0)) (hw : 62 ≤ w) {c : CC} (hc : CR c) {k h n : Nat} (hl : k < nLa T) (hh : h < nHo T) {pa : Int} (hp : 1 ≤ pa ∧ pa ≤ 9) (hn : n ≤ 1000) {s : SS} (hC : CT T b f) (hG : GI T c.1 c.2.1 f g) (hE : GE T c f) (hW : WS w c (T 117 h) s f) (hs : SR s) (hs4 : s.2.2.1 ≤ 40) :
    C_X10_tread [.ref w, .ref 55, .int (iz (k : Int)), .int (iz pa), .int (iz (n : Int))] ρ f g (fun r ρ' f' g' => r = none ∧ ρ' = ρ ∧ CT T b f' ∧ GI T c.1 c.2.1 f' g' ∧ TRf w b f g f' g' ∧ WS w c (T 117 h) (thr T c k (T 117 h) pa n s) f') := by
  have h6 := hk.la
  refine Ct.ofV (by decide) rfl (Nat.le_of_ble_eq_true rfl) ?_
  refine V_il2n dX10_tread_0 ?_
  refine V_if_lt (tgt := 10) dX10_tread_1 rfl (by first | assumption | (unfold ri at *; omega)) (fun b1 => ?_) (fun b1 => ?_)
  · exfalso; omega
  · refine V_il2n dX10_tread_4 ?_
    refine V_bipush dX10_tread_5 rfl ?_
    refine V_icmp_lt (tgt := 11) dX10_tread_7 rfl (by first | assumption | (unfold ri at *; omega)) (by first | assumption | (unfold ri at *; omega)) (fun b7 => ?_) (fun b7 => ?_)
    · refine V_iconst dX10_tread_11 ?_
      refine V_is5 dX10_tread_12 (by decide) rfl ?_
      exact w_tread hρ hr hb hk hP kw hw hc hl hh hp hn (fun f' g' a1 a2 a3 a4 => ⟨rfl, rfl, a1, a2, a3, a4⟩) 0 (by omega) s f g hC hG hE hW TRf.rf hs hs4 rfl
    · exfalso; omega
def stdF (w : Nat) (top wi le hc : Int) (f : IT) : IT := u2 (u2 (u2 (u2 (u2 f w 6 top) w 7 wi) w 8 le) w 4 hc) w 9 0
theorem c_stand (kw : kd w = (10, 0)) {top wi le hc : Int} : C_X10_stand [.ref w, .int (iz top), .int (iz wi), .int (iz le), .int (iz hc)] ρ f g (fun r ρ' f' g' => r = none ∧ ρ' = ρ ∧ f' = stdF w top wi le hc f ∧ g' = g) := by
  refine Ct.ofV (by decide) rfl (Nat.le_of_ble_eq_true rfl) ?_
  refine V_al0n dX10_stand_0 ?_
  refine V_il1n dX10_stand_1 ?_
  refine V_putI kw (kdlt kw (by decide)) fl_X10_31 rfl dX10_stand_2 ?_
  refine V_al0n dX10_stand_5 ?_
  refine V_il2n dX10_stand_6 ?_
  refine V_putI kw (kdlt kw (by decide)) fl_X10_34 rfl dX10_stand_7 ?_
  refine V_al0n dX10_stand_10 ?_
  refine V_il3n dX10_stand_11 ?_
  refine V_putI kw (kdlt kw (by decide)) fl_X10_37 rfl dX10_stand_12 ?_
  refine V_al0n dX10_stand_15 ?_
  refine V_il4 dX10_stand_16 ?_
  refine V_putI kw (kdlt kw (by decide)) fl_X10_25 rfl dX10_stand_18 ?_
  refine V_al0n dX10_stand_21 ?_
  refine V_iconst dX10_stand_22 ?_
  refine V_putI kw (kdlt kw (by decide)) fl_X10_40 rfl dX10_stand_23 ?_
  exact V_return rfl ⟨rfl, rfl, rfl, rfl⟩ dX10_stand_26
theorem stdF_o {top wi le hc : Int} {a k : Nat} (h : ¬ (a = w ∧ (k = 4 ∨ 6 ≤ k ∧ k ≤ 9))) : stdF w top wi le hc f a k = f a k := by unfold stdF; rw [u2_o (by omega), u2_o (by omega), u2_o (by omega), u2_o (by omega), u2_o (by omega)]
theorem stdF_ws {c : CC} {wi le hc dn : Int} : WS w c hc (0, wi, le, dn) (stdF w c.2.2.2.2 wi le hc f) := by
  unfold stdF WS
  refine ⟨?_, ?_, ?_, ?_, ?_⟩ <;> simp [u2]
theorem GI.cg {fl ra : Bool} {f' : IT} {g' : JT} (h : GI T fl ra f g) (e : ∀ a k, 55 ≤ a → a ≤ 61 → f' a k = f a k) (e2 : g' 60 = g 60) : GI T fl ra f' g' := by
  obtain ⟨a4, a3, a1, a2, a5, aR, aC⟩ := h
  unfold GI GR GC
  rw [e 55 4 (by omega) (by omega), e 55 3 (by omega) (by omega), e 55 1 (by omega) (by omega), e 55 2 (by omega) (by omega), e 55 5 (by omega) (by omega), e2]
  refine ⟨a4, a3, a1, a2, a5, fun j hj => ?_, fun j hj => ?_⟩
  · rw [e 56 j (by omega) (by omega), e 57 j (by omega) (by omega), e 58 j (by omega) (by omega), e 59 j (by omega) (by omega)]; exact aR j hj
  · rw [e 61 j (by omega) (by omega)]; exact aC j hj
theorem GE.cg {c : CC} {f' : IT} (h : GE T c f) (e : ∀ k, f' 55 k = f 55 k) : GE T c f' := ⟨(e 1).trans h.1, (e 2).trans h.2⟩
theorem TRf.ge {c : CC} {f' : IT} {g' : JT} (hw : 62 ≤ w) (h : TRf w b f g f' g') (hE : GE T c f) : GE T c f' := hE.cg (fun k => h.1 55 k (by omega) (by omega))
theorem c_isOut (kw : kd w = (10, 0)) (r8 : ri (f w 8)) : C_X10_isOut [.ref w] ρ f g (fun r ρ' f' g' => r = some (.int (iz (bz (decide (f w 8 ≤ 0))))) ∧ ρ' = ρ ∧ f' = f ∧ g' = g) := by
  refine Ct.ofV (by decide) rfl (Nat.le_of_ble_eq_true rfl) ?_
  refine V_al0n dX10_isOut_0 ?_
  refine V_getI kw (kdlt kw (by decide)) fl_X10_37 rfl dX10_isOut_1 ?_
  refine V_if_gt (tgt := 11) dX10_isOut_4 rfl (by first | assumption | (unfold ri at *; omega)) (fun b4 => ?_) (fun b4 => ?_)
  · refine V_iconst dX10_isOut_11 ?_
    exact V_zreturn rfl (by first | exact Or.inl rfl | exact Or.inr rfl | (unfold bz; split <;> simp)) ⟨by unfold bz; simp only [decide_eq_true_eq]; split <;> first | rfl | (exfalso; omega), rfl, rfl, rfl⟩ dX10_isOut_12
  · refine V_iconst dX10_isOut_7 ?_
    refine V_goto (tgt := 12) dX10_isOut_8 rfl ?_
    exact V_zreturn rfl (by first | exact Or.inl rfl | exact Or.inr rfl | (unfold bz; split <;> simp)) ⟨by unfold bz; simp only [decide_eq_true_eq]; split <;> first | rfl | (exfalso; omega), rfl, rfl, rfl⟩ dX10_isOut_12
def wgo (T : TT) (w : Nat) (f : IT) : Bool := decide (f w 0 = 1) && decide (0 < f w 8) && decide (f w 12 < T 104 12)
theorem c_wgoing (hρ : Fx ρ) (hb : b = 5 ∨ b = 30) (hC : CT T b f) (hk : TOK T) (kw : kd w = (10, 0)) (h0 : f w 0 = 0 ∨ f w 0 = 1) (r8 : ri (f w 8)) (r12 : ri (f w 12)) : C_X10_isGoing [.ref w, .ref b] ρ f g (fun r ρ' f' g' => r = some (.int (iz (bz (wgo T w f)))) ∧ ρ' = ρ ∧ f' = f ∧ g' = g) := by
  have h6 := hk.la
  refine Ct.ofV (by decide) rfl (Nat.le_of_ble_eq_true rfl) ?_
  refine V_al0n dX10_isGoing_0 ?_
  refine V_getZ kw (kdlt kw (by decide)) fl_X10_9 rfl dX10_isGoing_1 ?_
  refine V_if_eq (tgt := 30) dX10_isGoing_4 rfl (by unfold ri; omega) (fun b4 => ?_) (fun b4 => ?_)
  · refine V_iconst dX10_isGoing_30 ?_
    exact V_zreturn rfl (by first | exact Or.inl rfl | exact Or.inr rfl | (unfold bz; split <;> simp)) (by have e : T 104 (12 + 0) = T 104 12 := rfl; refine ⟨?_, rfl, rfl, rfl⟩; unfold wgo bz; simp only [Bool.and_eq_true, decide_eq_true_eq]; congr 3; split <;> omega) dX10_isGoing_31
  · refine V_al0n dX10_isGoing_7 ?_
    refine V_getI kw (kdlt kw (by decide)) fl_X10_37 rfl dX10_isGoing_8 ?_
    refine V_if_le (tgt := 30) dX10_isGoing_11 rfl r8 (fun b11 => ?_) (fun b11 => ?_)
    · refine V_iconst dX10_isGoing_30 ?_
      exact V_zreturn rfl (by first | exact Or.inl rfl | exact Or.inr rfl | (unfold bz; split <;> simp)) (by have e : T 104 (12 + 0) = T 104 12 := rfl; refine ⟨?_, rfl, rfl, rfl⟩; unfold wgo bz; simp only [Bool.and_eq_true, decide_eq_true_eq]; congr 3; split <;> omega) dX10_isGoing_31
    · refine V_al0n dX10_isGoing_14 ?_
      refine V_getI kw (kdlt kw (by decide)) fl_X10_49 rfl dX10_isGoing_15 ?_
      refine V_al1n dX10_isGoing_18 ?_
      refine V_iconst dX10_isGoing_19 ?_
      refine V_callV (as := [_]) ml_X10_73 im_X7_size se_X7_size (kb_0 hb) (by decide) (kl_0 hb) dX10_isGoing_20 rfl rfl (by decide) (by decide) (Nat.le_of_ble_eq_true rfl) (by decide) (by decide) rfl (c_size hρ hb hC (i := 0) (by omega)) ?_
      refine pq4 ?_
      refine V_icmp_ge (tgt := 30) dX10_isGoing_23 rfl r12 (by show ri (T 104 12); unfold ri; omega) (fun b23 => ?_) (fun b23 => ?_)
      · refine V_iconst dX10_isGoing_30 ?_
        exact V_zreturn rfl (by first | exact Or.inl rfl | exact Or.inr rfl | (unfold bz; split <;> simp)) (by have e : T 104 (12 + 0) = T 104 12 := rfl; refine ⟨?_, rfl, rfl, rfl⟩; unfold wgo bz; simp only [Bool.and_eq_true, decide_eq_true_eq]; congr 3; split <;> omega) dX10_isGoing_31
      · refine V_iconst dX10_isGoing_26 ?_
        refine V_goto (tgt := 31) dX10_isGoing_27 rfl ?_
        exact V_zreturn rfl (by first | exact Or.inl rfl | exact Or.inr rfl | (unfold bz; split <;> simp)) (by have e : T 104 (12 + 0) = T 104 12 := rfl; refine ⟨?_, rfl, rfl, rfl⟩; unfold wgo bz; simp only [Bool.and_eq_true, decide_eq_true_eq]; congr 3; split <;> omega) dX10_isGoing_31
def wnp (T : TT) (w : Nat) (f : IT) : Int := if f w 7 = 0 then 1 else if 0 < f w 5 then f w 5 else tat T 3 (f w 2) (1 + f w 12)
theorem c_nextPace (hρ : Fx ρ) (hb : b = 5 ∨ b = 30) (hC : CT T b f) (hk : TOK T) (kw : kd w = (10, 0)) (r7 : ri (f w 7)) (r5 : ri (f w 5)) (r2 : ri (f w 2)) (r12 : ri (1 + f w 12)) : C_X10_nextPace [.ref w, .ref b] ρ f g (fun r ρ' f' g' => r = some (.int (iz (wnp T w f))) ∧ ρ' = ρ ∧ f' = f ∧ g' = g) := by
  refine Ct.ofV (by decide) rfl (Nat.le_of_ble_eq_true rfl) ?_
  unfold wnp
  refine V_al0n dX10_nextPace_0 ?_
  refine V_getI kw (kdlt kw (by decide)) fl_X10_34 rfl dX10_nextPace_1 ?_
  refine V_if_ne (tgt := 9) dX10_nextPace_4 rfl r7 (fun b4 => ?_) (fun b4 => ?_)
  · refine V_al0n dX10_nextPace_9 ?_
    refine V_getI kw (kdlt kw (by decide)) fl_X10_28 rfl dX10_nextPace_10 ?_
    refine V_if_le (tgt := 23) dX10_nextPace_13 rfl r5 (fun b13 => ?_) (fun b13 => ?_)
    · refine V_al1n dX10_nextPace_23 ?_
      refine V_iconst dX10_nextPace_24 ?_
      refine V_al0n dX10_nextPace_25 ?_
      refine V_getI kw (kdlt kw (by decide)) fl_X10_19 rfl dX10_nextPace_26 ?_
      refine V_iconst dX10_nextPace_29 ?_
      refine V_al0n dX10_nextPace_30 ?_
      refine V_getI kw (kdlt kw (by decide)) fl_X10_49 rfl dX10_nextPace_31 ?_
      refine V_iadd dX10_nextPace_34 ?_
      refine V_callV (as := [_, _, _]) ml_X10_59 im_X7_at se_X7_at (kb_0 hb) (by decide) (kl_0 hb) dX10_nextPace_35 rfl rfl (by decide) (by decide) (Nat.le_of_ble_eq_true rfl) (by decide) (by decide) rfl (c_at hρ hb hC hk (i := 3) (by omega) r2 r12) ?_
      refine pq4 ?_
      exact V_ireturn rfl ⟨by first | (rw [if_pos (by omega)]) | (rw [if_neg (by omega), if_pos (by omega)]) | (rw [if_neg (by omega), if_neg (by omega)]), rfl, rfl, rfl⟩ dX10_nextPace_38
    · refine V_al0n dX10_nextPace_16 ?_
      refine V_getI kw (kdlt kw (by decide)) fl_X10_28 rfl dX10_nextPace_17 ?_
      refine V_goto (tgt := 38) dX10_nextPace_20 rfl ?_
      exact V_ireturn rfl ⟨by first | (rw [if_pos (by omega)]) | (rw [if_neg (by omega), if_pos (by omega)]) | (rw [if_neg (by omega), if_neg (by omega)]), rfl, rfl, rfl⟩ dX10_nextPace_38
  · refine V_iconst dX10_nextPace_7 ?_
    exact V_ireturn rfl ⟨by first | (rw [if_pos (by omega)]) | (rw [if_neg (by omega), if_pos (by omega)]) | (rw [if_neg (by omega), if_neg (by omega)]), rfl, rfl, rfl⟩ dX10_nextPace_8
def grpF (T : TT) (w : Nat) (h : Int) (f : IT) : IT := u2 (u2 f w 3 h) w 4 (tat T 2 h 0)
theorem c_grip (hρ : Fx ρ) (hb : b = 5 ∨ b = 30) (hC : CT T b f) (hk : TOK T) (kw : kd w = (10, 0)) (hw : 62 ≤ w) {h : Int} (rh : ri h) : C_X10_grip [.ref w, .ref b, .int (iz h)] ρ f g (fun r ρ' f' g' => r = none ∧ ρ' = ρ ∧ f' = grpF T w h f ∧ g' = g) := by
  refine Ct.ofV (by decide) rfl (Nat.le_of_ble_eq_true rfl) ?_
  refine V_al0n dX10_grip_0 ?_
  refine V_il2n dX10_grip_1 ?_
  refine V_putI kw (kdlt kw (by decide)) fl_X10_22 rfl dX10_grip_2 ?_
  refine V_al0n dX10_grip_5 ?_
  refine V_al1n dX10_grip_6 ?_
  refine V_iconst dX10_grip_7 ?_
  refine V_al0n dX10_grip_8 ?_
  refine V_getI kw (kdlt kw (by decide)) fl_X10_22 u2_s dX10_grip_9 ?_
  refine V_iconst dX10_grip_12 ?_
  refine V_callV (as := [_, _, _]) ml_X10_59 im_X7_at se_X7_at (kb_0 hb) (by decide) (kl_0 hb) dX10_grip_13 rfl rfl (by decide) (by decide) (Nat.le_of_ble_eq_true rfl) (by decide) (by decide) rfl (c_at hρ hb (hC.cg hb (fun a k h1 h2 => u2_o (by omega))) hk (i := 2) (by omega) rh (by unfold ri; omega)) ?_
  refine pq4 ?_
  refine V_putI kw (kdlt kw (by decide)) fl_X10_25 rfl dX10_grip_16 ?_
  exact V_return rfl ⟨rfl, rfl, rfl, rfl⟩ dX10_grip_19
def bg8 (w : Nat) (m p : Int) (f : IT) : IT := u2 (u2 (u2 (u2 (u2 (u2 (u2 (u2 f w 0 1) w 1 m) w 2 p) w 5 0) w 10 0) w 11 0) w 12 0) w 13 0
def begF (T : TT) (w : Nat) (m p : Int) (f : IT) : IT := grpF T w (tat T 3 p 0) (stdF w (tat T 1 m 0) (tat T 1 m 0) (tat T 1 m 1) 0 (bg8 w m p f))
theorem tat_ri (hk : TOK T) {i : Nat} (hi : i < 5) {k j : Int} : -100000 ≤ tat T i k j ∧ tat T i k j ≤ 100000 := by
  have hn := hk.nk hi
  unfold tat
  split
  · rename_i c
    obtain ⟨kN, rfl⟩ : ∃ n : Nat, k = n := ⟨k.toNat, by omega⟩
    obtain ⟨jN, rfl⟩ : ∃ n : Nat, j = n := ⟨j.toNat, by omega⟩
    rw [Int.toNat_natCast, Int.toNat_natCast]
    unfold tcl
    rcases (show i = 0 ∨ i = 1 ∨ i = 2 ∨ i = 3 ∨ i = 4 by omega) with rfl | rfl | rfl | rfl | rfl
    · have := hk.la; have := hk.lane (k := kN) (by have : T 104 (12 + 0) = T 104 12 := rfl; omega); simp; (repeat' split) <;> omega
    · have := hk.me; have := hk.man (k := kN) (by have : T 104 (12 + 1) = T 104 13 := rfl; omega); simp; (repeat' split) <;> omega
    · have := hk.ho; have := hk.hold (k := kN) (by have : T 104 (12 + 2) = T 104 14 := rfl; omega); simp; (repeat' split) <;> omega
    · have h1 := hk.pl; have h0 : kN < nPl T := (by have : T 104 (12 + 3) = T 104 15 := rfl; omega); have h2 := hk.plan h0; have h3 := hk.ho; have h4 := pce_rng hk (k := jN - 1) h0; simp; (repeat' split) <;> omega
    · have := hk.ju; have := hk.judge (k := kN) (by have : T 104 (12 + 4) = T 104 16 := rfl; omega); simp; (repeat' split) <;> omega
  · omega
theorem tat_r (hk : TOK T) {i : Nat} (hi : i < 5) {k j : Int} : ri (tat T i k j) := by have := tat_ri hk hi (k := k) (j := j); unfold ri; omega
theorem c_begin (hρ : Fx ρ) (hb : b = 5 ∨ b = 30) (hC : CT T b f) (hk : TOK T) (kw : kd w = (10, 0)) (hw : 62 ≤ w) {m p : Int} (rm : ri m) (rp : ri p) : C_X10_begin [.ref w, .ref b, .int (iz m), .int (iz p)] ρ f g (fun r ρ' f' g' => r = none ∧ ρ' = ρ ∧ f' = begF T w m p f ∧ g' = g) := by
  have h1 : CT T b (bg8 w m p f) := hC.cg hb (fun a k h1 h2 => by unfold bg8; (repeat rw [u2_o (by omega)]))
  have h2 : CT T b (stdF w (tat T 1 m 0) (tat T 1 m 0) (tat T 1 m 1) 0 (bg8 w m p f)) := h1.cg hb (fun a k h1 h2 => stdF_o (by omega))
  have e2 : stdF w (tat T 1 m 0) (tat T 1 m 0) (tat T 1 m 1) 0 (bg8 w m p f) w 2 = p := by rw [stdF_o (by omega)]; unfold bg8; rw [u2_o (by omega), u2_o (by omega), u2_o (by omega), u2_o (by omega), u2_o (by omega), u2_s]
  refine Ct.ofV (by decide) rfl (Nat.le_of_ble_eq_true rfl) ?_
  refine V_al0n dX10_begin_0 ?_
  refine V_iconst dX10_begin_1 ?_
  refine V_putZ kw (kdlt kw (by decide)) fl_X10_9 rfl (by first | exact Or.inl rfl | exact Or.inr rfl | (unfold bz; split <;> simp)) dX10_begin_2 ?_
  refine V_al0n dX10_begin_5 ?_
  refine V_il2n dX10_begin_6 ?_
  refine V_putI kw (kdlt kw (by decide)) fl_X10_15 rfl dX10_begin_7 ?_
  refine V_al0n dX10_begin_10 ?_
  refine V_il3n dX10_begin_11 ?_
  refine V_putI kw (kdlt kw (by decide)) fl_X10_19 rfl dX10_begin_12 ?_
  refine V_al0n dX10_begin_15 ?_
  refine V_iconst dX10_begin_16 ?_
  refine V_putI kw (kdlt kw (by decide)) fl_X10_28 rfl dX10_begin_17 ?_
  refine V_al0n dX10_begin_20 ?_
  refine V_iconst dX10_begin_21 ?_
  refine V_putI kw (kdlt kw (by decide)) fl_X10_43 rfl dX10_begin_22 ?_
  refine V_al0n dX10_begin_25 ?_
  refine V_iconst dX10_begin_26 ?_
  refine V_putI kw (kdlt kw (by decide)) fl_X10_46 rfl dX10_begin_27 ?_
  refine V_al0n dX10_begin_30 ?_
  refine V_iconst dX10_begin_31 ?_
  refine V_putI kw (kdlt kw (by decide)) fl_X10_49 rfl dX10_begin_32 ?_
  refine V_al0n dX10_begin_35 ?_
  refine V_iconst dX10_begin_36 ?_
  refine V_putI kw (kdlt kw (by decide)) fl_X10_52 rfl dX10_begin_37 ?_
  refine V_al1n dX10_begin_40 ?_
  refine V_iconst dX10_begin_41 ?_
  refine V_al0n dX10_begin_42 ?_
  refine V_getI kw (kdlt kw (by decide)) fl_X10_15 (u2_n (by omega) (u2_n (by omega) (u2_n (by omega) (u2_n (by omega) (u2_n (by omega) (u2_n (by omega) u2_s)))))) dX10_begin_43 ?_
  refine V_iconst dX10_begin_46 ?_
  refine V_callV (as := [_, _, _]) ml_X10_59 im_X7_at se_X7_at (kb_0 hb) (by decide) (kl_0 hb) dX10_begin_47 rfl rfl (by decide) (by decide) (Nat.le_of_ble_eq_true rfl) (by decide) (by decide) rfl (c_at (f := bg8 w m p f) hρ hb h1 hk (i := 1) (by omega) rm (by unfold ri; omega)) ?_
  refine pq4 ?_
  refine V_is4 dX10_begin_50 (by decide) rfl ?_
  refine V_al0n dX10_begin_52 ?_
  refine V_il4 dX10_begin_53 ?_
  refine V_il4 dX10_begin_55 ?_
  refine V_al1n dX10_begin_57 ?_
  refine V_iconst dX10_begin_58 ?_
  refine V_al0n dX10_begin_59 ?_
  refine V_getI kw (kdlt kw (by decide)) fl_X10_15 (u2_n (by omega) (u2_n (by omega) (u2_n (by omega) (u2_n (by omega) (u2_n (by omega) (u2_n (by omega) u2_s)))))) dX10_begin_60 ?_
  refine V_iconst dX10_begin_63 ?_
  refine V_callV (as := [_, _, _]) ml_X10_59 im_X7_at se_X7_at (kb_0 hb) (by decide) (kl_0 hb) dX10_begin_64 rfl rfl (by decide) (by decide) (Nat.le_of_ble_eq_true rfl) (by decide) (by decide) rfl (c_at (f := bg8 w m p f) hρ hb h1 hk (i := 1) (by omega) rm (by unfold ri; omega)) ?_
  refine pq4 ?_
  refine V_iconst dX10_begin_67 ?_
  refine V_callV (as := [_, _, _, _]) ml_X10_65 im_X10_stand se_X10_stand kw (by decide) (kdlt kw (by decide)) dX10_begin_68 rfl rfl (by decide) (by decide) (Nat.le_of_ble_eq_true rfl) (by decide) (by decide) rfl (c_stand (f := bg8 w m p f) kw) ?_
  refine pq4 ?_
  refine V_al0n dX10_begin_71 ?_
  refine V_al1n dX10_begin_72 ?_
  refine V_al1n dX10_begin_73 ?_
  refine V_iconst dX10_begin_74 ?_
  refine V_al0n dX10_begin_75 ?_
  refine V_getI kw (kdlt kw (by decide)) fl_X10_19 e2 dX10_begin_76 ?_
  refine V_iconst dX10_begin_79 ?_
  refine V_callV (as := [_, _, _]) ml_X10_59 im_X7_at se_X7_at (kb_0 hb) (by decide) (kl_0 hb) dX10_begin_80 rfl rfl (by decide) (by decide) (Nat.le_of_ble_eq_true rfl) (by decide) (by decide) rfl (c_at hρ hb h2 hk (i := 3) (by omega) rp (by unfold ri; omega)) ?_
  refine pq4 ?_
  refine V_callV (as := [_, _]) ml_X10_69 im_X10_grip se_X10_grip kw (by decide) (kdlt kw (by decide)) dX10_begin_83 rfl rfl (by decide) (by decide) (Nat.le_of_ble_eq_true rfl) (by decide) (by decide) rfl (c_grip hρ hb h2 hk kw hw (tat_r hk (by omega))) ?_
  refine pq4 ?_
  exact V_return rfl ⟨rfl, rfl, rfl, rfl⟩ dX10_begin_86
end WALK

