/-! a walk over the ground -/
theorem iz_andM {x : Int} {k m : Nat} (hm : U (m : Int) = 2 ^ k - 1) (hk : k ≤ 31) {v : Int} (hv : x % ((2 ^ k : Nat) : Int) = v) : iz x &&& iz (m : Int) = iz v := by
  rw [iz_and, hm, Nat.and_two_pow_sub_one_eq_mod, ← hv]
  congr 1
  unfold U
  have h1 : ((2 ^ k : Nat) : Int) ∣ 4294967296 := by
    have : (4294967296 : Int) = ((2 ^ k : Nat) : Int) * ((2 ^ (32 - k) : Nat) : Int) := by
      rw [← Int.natCast_mul, ← Nat.pow_add, show k + (32 - k) = 32 by omega]
      rfl
    exact ⟨_, this⟩
  rw [Int.natCast_emod, Int.toNat_of_nonneg (Int.emod_nonneg _ (by decide)), Int.emod_emod_of_dvd _ h1]
theorem ms_ms {T : TT} {n : Nat} {x : Int} : ms T n (ms T n x) = ms T n x := by unfold ms; split <;> rfl
def WS (w : Nat) (c : CC) (hc : Int) (s : SS) (f : IT) : Prop := f w 6 = c.2.2.2.2 ∧ f w 4 = hc ∧ f w 9 = s.1 ∧ f w 7 = s.2.1 ∧ f w 8 = s.2.2.1
def GE (T : TT) (c : CC) (f : IT) : Prop := f 55 1 = ms T 3 c.2.2.2.1 ∧ f 55 2 = ms T 2 c.2.2.1
def TRf (w b : Nat) (f : IT) (g : JT) (f' : IT) (g' : JT) : Prop := (∀ a k, a ≠ 61 → ¬ (a = w ∧ 7 ≤ k ∧ k ≤ 9) → f' a k = f a k) ∧ ∀ a, a ≠ 60 → a ≠ b + 22 → a ≠ b + 23 → g' a = g a
theorem TRf.rf {w b : Nat} {f : IT} {g : JT} : TRf w b f g f g := ⟨fun _ _ _ _ => rfl, fun _ _ _ _ => rfl⟩
theorem TRf.tr {w b : Nat} {f f' f'' : IT} {g g' g'' : JT} (h : TRf w b f g f' g') (h' : TRf w b f' g' f'' g'') : TRf w b f g f'' g'' := ⟨fun a k q r => (h'.1 a k q r).trans (h.1 a k q r), fun a q r s => (h'.2 a q r s).trans (h.2 a q r s)⟩
theorem pkd_un {t c a : Int} (ht : 1 ≤ t ∧ t ≤ 99) (hc : -20 ≤ c ∧ c ≤ 20) (ha : 0 ≤ a ∧ a ≤ 20) : PKd t c a % 128 = t ∧ PKd t c a / 128 % 64 = c + 20 ∧ PKd t c a / 8192 % 32 = a ∧ (0 ≤ PKd t c a ∧ PKd t c a ≤ 1000000) := by
  unfold PKd
  omega
/-- what a step takes, by what stands in the ground -/
theorem PKg_s {T : TT} (hk : TOK T) (hP : TPF T) {c : CC} {f : IT} (hE : GE T c f) {k : Nat} {pa wi le : Int} : PKg T c.1 c.2.1 (f 55 2) (f 55 1) k (goP wi pa) wi le = PKd (sTi T k c.1 c.2.1 c.2.2.1 c.2.2.2.1 pa wi le) (sCo T k c.1 c.2.1 c.2.2.1 c.2.2.2.1 pa wi le) (sAc T k c.1 c.2.1 c.2.2.1 c.2.2.2.1 pa wi le) := by
  have h := g_cg hk hP (fl := c.1) (ra := c.2.1) (sk := f 55 2) (wt := f 55 1) (sk' := c.2.2.1) (wt' := c.2.2.2.1) (k := k) (pa := goP wi pa) (wi := wi) (le := le) (wi' := wi) (le' := le) (by rw [hE.2, ms_ms]) (by rw [hE.1, ms_ms]) rfl rfl
  unfold PKg
  rw [h.1, h.2.1, h.2.2]
  rfl
section TREAD
variable {T : TT} {b w : Nat} {ρ : RT}
/-- from what a step takes to where it leads -/
theorem w_tr53 {Q : QT} {w : Nat} {ρ : RT} {f : IT} {g : JT} (kw : kd w = (10, 0)) {a2 a3 a4 a5 te wi le ti co ac top hc : Int} (ht : 1 ≤ ti ∧ ti ≤ 99) (hco : -20 ≤ co ∧ co ≤ 20) (ha : 0 ≤ ac ∧ ac ≤ 20) (hwi : 0 ≤ wi ∧ wi ≤ 60) (hle : 0 ≤ le ∧ le ≤ 40) (htop : 0 ≤ top ∧ top ≤ 60) (hhc : 0 ≤ hc ∧ hc ≤ 9) (x9 : f w 9 = te) (x7 : f w 7 = wi) (x8 : f w 8 = le) (x6 : f w 6 = top) (x4 : f w 4 = hc)
    (go : ∀ y z : Int, y = (if wi - (co + hc) < 0 then 0 else if top < wi - (co + hc) then top else wi - (co + hc)) → z = (if le < ac then 0 else le - ac) → V_X10_tread Q 157 [.ref w, .ref 55, .int (iz a2), .int (iz a3), .int (iz a4), .int (iz a5), .null, .null, .null] [] ρ (u2 (u2 (u2 f w 9 (te + ti)) w 7 y) w 8 z) g) :
    V_X10_tread Q 53 [.ref w, .ref 55, .int (iz a2), .int (iz a3), .int (iz a4), .int (iz a5), .null, .null, .null] [.int (iz (PKd ti co ac))] ρ f g := by
  obtain ⟨u1, u3, u4, u5⟩ := pkd_un ht hco ha
  generalize PKd ti co ac = P at *
  have Y : ∀ y, y = (if wi - (co + hc) < 0 then 0 else if top < wi - (co + hc) then top else wi - (co + hc)) → V_X10_tread Q 120 [.ref w, .ref 55, .int (iz a2), .int (iz a3), .int (iz a4), .int (iz a5), .int (iz P), .null, .null] [.int (iz y), .ref w] ρ (u2 f w 9 (te + ti)) g := fun y hy => by
    refine V_putI kw (kdlt kw (by decide)) fl_X10_34 rfl dX10_tread_120 ?_
    refine V_il6 dX10_tread_123 ?_
    refine V_bipush dX10_tread_125 rfl ?_
    refine V_ishr dX10_tread_127 (iz_shrE (b := 13) (v := P / 8192) (by unfold ri; omega) rfl (by omega) rfl) ?_
    refine V_bipush dX10_tread_128 rfl ?_
    refine V_iand dX10_tread_130 (iz_andM (m := 31) (k := 5) (by decide) (by omega) u4) ?_
    refine V_is8 dX10_tread_131 (by decide) rfl ?_
    refine V_al0n dX10_tread_133 ?_
    refine V_il8 dX10_tread_134 ?_
    refine V_al0n dX10_tread_136 ?_
    refine V_getI kw (kdlt kw (by decide)) fl_X10_37 (u2_n (by omega) (u2_n (by omega) x8)) dX10_tread_137 ?_
    refine V_icmp_ge (tgt := 153) dX10_tread_140 rfl (by unfold ri; omega) (by unfold ri; omega) (fun b140 => ?_) (fun b140 => ?_)
    · refine V_iconst dX10_tread_153 ?_
      refine V_putI kw (kdlt kw (by decide)) fl_X10_37 rfl dX10_tread_154 ?_
      exact V_weak (by repeat (first | exact wk_n | refine wk_c (Or.inr rfl) ?_ | refine wk_c (Or.inl rfl) ?_)) (go y _ hy (by first | (rw [if_pos (by omega)]) | (rw [if_neg (by omega)]) | (split <;> omega)))
    · refine V_al0n dX10_tread_143 ?_
      refine V_getI kw (kdlt kw (by decide)) fl_X10_37 (u2_n (by omega) (u2_n (by omega) x8)) dX10_tread_144 ?_
      refine V_il8 dX10_tread_147 ?_
      refine V_isub dX10_tread_149 ?_
      refine V_goto (tgt := 154) dX10_tread_150 rfl ?_
      refine V_putI kw (kdlt kw (by decide)) fl_X10_37 rfl dX10_tread_154 ?_
      exact V_weak (by repeat (first | exact wk_n | refine wk_c (Or.inr rfl) ?_ | refine wk_c (Or.inl rfl) ?_)) (go y _ hy (by first | (rw [if_pos (by omega)]) | (rw [if_neg (by omega)]) | (split <;> omega)))
  refine V_is6 dX10_tread_53 (by decide) rfl ?_
  refine V_al0n dX10_tread_55 ?_
  refine V_dup dX10_tread_56 rfl ?_
  refine V_getI kw (kdlt kw (by decide)) fl_X10_40 x9 dX10_tread_57 ?_
  refine V_il6 dX10_tread_60 ?_
  refine V_bipush dX10_tread_62 rfl ?_
  refine V_iand dX10_tread_64 (iz_andM (m := 127) (k := 7) (by decide) (by omega) u1) ?_
  refine V_iadd dX10_tread_65 ?_
  refine V_putI kw (kdlt kw (by decide)) fl_X10_40 rfl dX10_tread_66 ?_
  refine V_al0n dX10_tread_69 ?_
  refine V_getI kw (kdlt kw (by decide)) fl_X10_34 (u2_n (by omega) x7) dX10_tread_70 ?_
  refine V_il6 dX10_tread_73 ?_
  refine V_bipush dX10_tread_75 rfl ?_
  refine V_ishr dX10_tread_77 (iz_shrE (b := 7) (v := P / 128) (by unfold ri; omega) rfl (by omega) rfl) ?_
  refine V_bipush dX10_tread_78 rfl ?_
  refine V_iand dX10_tread_80 (iz_andM (m := 63) (k := 6) (by decide) (by omega) u3) ?_
  refine V_bipush dX10_tread_81 rfl ?_
  refine V_isub dX10_tread_83 ?_
  refine V_isub dX10_tread_84 ?_
  refine V_al0n dX10_tread_85 ?_
  refine V_getI kw (kdlt kw (by decide)) fl_X10_25 (u2_n (by omega) x4) dX10_tread_86 ?_
  refine V_isub dX10_tread_89 ?_
  refine V_is7 dX10_tread_90 (by decide) rfl ?_
  refine V_al0n dX10_tread_92 ?_
  refine V_il7 dX10_tread_93 ?_
  refine V_if_ge (tgt := 102) dX10_tread_95 rfl (by unfold ri; omega) (fun b95 => ?_) (fun b95 => ?_)
  · refine V_il7 dX10_tread_102 ?_
    refine V_al0n dX10_tread_104 ?_
    refine V_getI kw (kdlt kw (by decide)) fl_X10_31 (u2_n (by omega) x6) dX10_tread_105 ?_
    refine V_icmp_le (tgt := 118) dX10_tread_108 rfl (by unfold ri; omega) (by unfold ri; omega) (fun b108 => ?_) (fun b108 => ?_)
    · refine V_il7 dX10_tread_118 ?_
      exact V_weak (by repeat (first | exact wk_n | refine wk_c (Or.inr rfl) ?_ | refine wk_c (Or.inl rfl) ?_)) (Y _ (by first | (rw [if_pos (by omega)]) | (rw [if_neg (by omega), if_pos (by omega)]) | (rw [if_neg (by omega), if_neg (by omega)]; omega)))
    · refine V_al0n dX10_tread_111 ?_
      refine V_getI kw (kdlt kw (by decide)) fl_X10_31 (u2_n (by omega) x6) dX10_tread_112 ?_
      refine V_goto (tgt := 120) dX10_tread_115 rfl ?_
      exact V_weak (by repeat (first | exact wk_n | refine wk_c (Or.inr rfl) ?_ | refine wk_c (Or.inl rfl) ?_)) (Y _ (by first | (rw [if_pos (by omega)]) | (rw [if_neg (by omega), if_pos (by omega)]) | (rw [if_neg (by omega), if_neg (by omega)]; omega)))
  · refine V_iconst dX10_tread_98 ?_
    refine V_goto (tgt := 120) dX10_tread_99 rfl ?_
    exact V_weak (by repeat (first | exact wk_n | refine wk_c (Or.inr rfl) ?_ | refine wk_c (Or.inl rfl) ?_)) (Y _ (by first | (rw [if_pos (by omega)]) | (rw [if_neg (by omega), if_pos (by omega)]) | (rw [if_neg (by omega), if_neg (by omega)]; omega)))
theorem w_tread {Q : QT} {f0 : IT} {g0 : JT} (hρ : Fx ρ) (hr : ρ 55 0 = some b) (hb : b = 5 ∨ b = 30) (hk : TOK T) (hP : TPF T) (kw : kd w = (10, 0)) (hw : 62 ≤ w) {c : CC} (hc : CR c) {k h n : Nat} (hl : k < nLa T) (hh : h < nHo T) {pa : Int} (hp : 1 ≤ pa ∧ pa ≤ 9) (hn : n ≤ 1000) {R : SS}
    (hQ : ∀ f g, CT T b f → GI T c.1 c.2.1 f g → TRf w b f0 g0 f g → WS w c (T 117 h) R f → Q none ρ f g)
    (i : Nat) (hi : i ≤ n) (s : SS) (f : IT) (g : JT) (hC : CT T b f) (hG : GI T c.1 c.2.1 f g) (hE : GE T c f) (hW : WS w c (T 117 h) s f) (hT : TRf w b f0 g0 f g) (hs : SR s) (hs4 : s.2.2.1 ≤ 40) (hR : R = thr T c k (T 117 h) pa (n - i) s) :
    V_X10_tread Q 14 [.ref w, .ref 55, .int (iz (k : Int)), .int (iz pa), .int (iz (n : Int)), .int (iz (i : Int)), .null, .null, .null] [] ρ f g := by
  have h6 := hk.la
  obtain ⟨w6, w4, w9, w7, w8⟩ := hW
  obtain ⟨te, wi, le, dn⟩ := s
  simp only at w6 w4 w9 w7 w8 hs4
  obtain ⟨s1, s2⟩ := hs
  simp only at s1 s2
  have end_ : (n - i = 0 ∨ le = 0) → R = (te, wi, le, dn) := fun q => by
    rcases q with q | q
    · rw [hR, q, thr]
    · rw [hR, thr_out q]
  by_cases e : n - i = 0 ∨ le = 0
  · have hRR := end_ e
    have hW' : WS w c (T 117 h) R f := by rw [hRR]; exact ⟨w6, w4, w9, w7, w8⟩
    refine V_il5 dX10_tread_14 ?_
    refine V_il4 dX10_tread_16 ?_
    refine V_icmp_ge (tgt := 163) dX10_tread_18 rfl (by unfold ri; omega) (by unfold ri; omega) (fun b18 => ?_) (fun b18 => ?_)
    · exact V_return rfl (hQ f g hC hG hT hW') dX10_tread_163
    · refine V_al0n dX10_tread_21 ?_
      refine V_getI kw (kdlt kw (by decide)) fl_X10_37 w8 dX10_tread_22 ?_
      refine V_if_le (tgt := 163) dX10_tread_25 rfl (by unfold ri; omega) (fun b25 => ?_) (fun b25 => ?_)
      · exact V_return rfl (hQ f g hC hG hT hW') dX10_tread_163
      · exfalso; omega
  · obtain ⟨m, hm⟩ : ∃ m, n - i = m + 1 := ⟨n - i - 1, by omega⟩
    rw [hm, thr, if_neg (by simp only; omega)] at hR
    have hor := one_rng hk hc hl hh hp (s := (te, wi, le, dn)) ⟨s1, s2⟩
    have sr := s_rng hk hl (fl := c.1) (ra := c.2.1) (sk := c.2.2.1) (wt := c.2.2.2.1) (wi := wi) (le := le) hp
    have hun := pkd_un sr.1 sr.2.1 sr.2.2
    have hho := hk.hold hh
    have hgp : 1 ≤ goP wi pa ∧ goP wi pa ≤ 9 := by unfold goP; split <;> omega
    have hcc := hc.2.2
    unfold one at hR hor
    simp only at hR hor
    have hW2 : sWi T k c.1 c.2.1 c.2.2.1 c.2.2.2.1 c.2.2.2.2 (T 117 h) pa wi le = if wi - (sCo T k c.1 c.2.1 c.2.2.1 c.2.2.2.1 pa wi le + T 117 h) < 0 then 0 else if c.2.2.2.2 < wi - (sCo T k c.1 c.2.1 c.2.2.1 c.2.2.2.1 pa wi le + T 117 h) then c.2.2.2.2 else wi - (sCo T k c.1 c.2.1 c.2.2.1 c.2.2.2.1 pa wi le + T 117 h) := rfl
    have hL2 : sLe T k c.1 c.2.1 c.2.2.1 c.2.2.2.1 pa wi le = if le < sAc T k c.1 c.2.1 c.2.2.1 c.2.2.2.1 pa wi le then 0 else le - sAc T k c.1 c.2.1 c.2.2.1 c.2.2.2.1 pa wi le := rfl
    have hpk := fun (F : IT) (hF : GE T c F) => PKg_s hk hP hF (k := k) (pa := pa) (wi := wi) (le := le)
    generalize sTi T k c.1 c.2.1 c.2.2.1 c.2.2.2.1 pa wi le = ti at *
    generalize sCo T k c.1 c.2.1 c.2.2.1 c.2.2.2.1 pa wi le = co at *
    generalize sAc T k c.1 c.2.1 c.2.2.1 c.2.2.2.1 pa wi le = ac at *
    generalize sWi T k c.1 c.2.1 c.2.2.1 c.2.2.2.1 c.2.2.2.2 (T 117 h) pa wi le = wi2 at *
    generalize sLe T k c.1 c.2.1 c.2.2.1 c.2.2.2.1 pa wi le = le2 at *
    have htk : C_X0_taken [.ref 55, .int (iz (k : Int)), .int (iz (goP wi pa)), .int (iz wi), .int (iz le)] ρ f g (fun r ρ' f' g' => r = some (.int (iz (PKd ti co ac))) ∧ ρ' = ρ ∧ GI T c.1 c.2.1 f' g' ∧ TKf b f g f' g') := by
      have := c_taken hρ hr hb hC hk hP hG hl hgp (wi := wi) (le := le) (by omega) (by omega)
      rw [hpk f hE] at this
      exact this
    have goOn : ∀ (f' : IT) (g' : JT), GI T c.1 c.2.1 f' g' → TKf b f g f' g' → ∀ (y z : Int), y = wi2 → z = le2 → V_X10_tread Q 157 [.ref w, .ref 55, .int (iz (k : Int)), .int (iz pa), .int (iz (n : Int)), .int (iz (i : Int)), .null, .null, .null] [] ρ (u2 (u2 (u2 f' w 9 (te + ti)) w 7 y) w 8 z) g' := fun f' g' hG' hK y z hy hz => by
      subst hy hz
      have hGI : GI T c.1 c.2.1 (u2 (u2 (u2 f' w 9 (te + ti)) w 7 y) w 8 z) g' := by
        obtain ⟨a4, a3, a1, a2, a5, aR, aC⟩ := hG'
        have eo : ∀ a j, a ≠ w → u2 (u2 (u2 f' w 9 (te + ti)) w 7 y) w 8 z a j = f' a j := fun a j q => by rw [u2_o (by omega), u2_o (by omega), u2_o (by omega)]
        unfold GI GR GC
        rw [eo 55 4 (by omega), eo 55 3 (by omega), eo 55 1 (by omega), eo 55 2 (by omega), eo 55 5 (by omega)]
        refine ⟨a4, a3, a1, a2, a5, fun j hj => ?_, fun j hj => ?_⟩
        · rw [eo 56 j (by omega), eo 57 j (by omega), eo 58 j (by omega), eo 59 j (by omega)]; exact aR j hj
        · rw [eo 61 j (by omega)]; exact aC j hj
      have fo : ∀ a j, a ≠ 61 → ¬ (a = w ∧ 7 ≤ j ∧ j ≤ 9) → u2 (u2 (u2 f' w 9 (te + ti)) w 7 y) w 8 z a j = f a j := fun a j q1 q2 => by rw [u2_o (by omega), u2_o (by omega), u2_o (by omega)]; exact hK.1 a j q1
      have hT2 : TRf w b f0 g0 (u2 (u2 (u2 f' w 9 (te + ti)) w 7 y) w 8 z) g' := hT.tr ⟨fo, fun a q1 q2 q3 => hK.2 a q1 q2 q3⟩
      have hC2 : CT T b (u2 (u2 (u2 f' w 9 (te + ti)) w 7 y) w 8 z) := hC.cg hb (fun a j q1 q2 => fo a j (by omega) (by omega))
      have hE2 : GE T c (u2 (u2 (u2 f' w 9 (te + ti)) w 7 y) w 8 z) := ⟨(fo 55 1 (by omega) (by omega)).trans hE.1, (fo 55 2 (by omega) (by omega)).trans hE.2⟩
      have hW3 : WS w c (T 117 h) (te + ti, y, z, dn + 1) (u2 (u2 (u2 f' w 9 (te + ti)) w 7 y) w 8 z) := ⟨(fo w 6 (by omega) (by omega)).trans w6, (fo w 4 (by omega) (by omega)).trans w4, by rw [u2_o (by omega), u2_o (by omega), u2_s], by rw [u2_o (by omega), u2_s], u2_s⟩
      generalize u2 (u2 (u2 f' w 9 (te + ti)) w 7 y) w 8 z = F at *
      refine V_inc5 dX10_tread_157 (by decide) rfl ?_
      refine V_goto (tgt := 14) dX10_tread_160 rfl ?_
      exact w_tread hρ hr hb hk hP kw hw hc hl hh hp hn hQ (i + 1) (by omega) (te + ti, y, z, dn + 1) F g' hC2 hGI hE2 hW3 hT2 hor.1 (by simp only; omega) (by rw [show n - (i + 1) = m by omega]; exact hR)
    have X : ∀ pp, pp = goP wi pa → V_X10_tread Q 42 [.ref w, .ref 55, .int (iz (k : Int)), .int (iz pa), .int (iz (n : Int)), .int (iz (i : Int)), .null, .null, .null] [.int (iz pp), .int (iz (k : Int)), .ref 55] ρ f g := fun pp hpp => by
      subst hpp
      refine V_al0n dX10_tread_42 ?_
      refine V_getI kw (kdlt kw (by decide)) fl_X10_34 w7 dX10_tread_43 ?_
      refine V_al0n dX10_tread_46 ?_
      refine V_getI kw (kdlt kw (by decide)) fl_X10_37 w8 dX10_tread_47 ?_
      refine V_callV (as := [_, _, _, _]) ml_X10_108 im_X0_taken se_X0_taken kk55 (by decide) (by decide) dX10_tread_50 rfl rfl (by decide) (by decide) (Nat.le_of_ble_eq_true rfl) (by decide) (by decide) rfl (htk) ?_
      rintro r50 ρ50 f50 g50 ⟨rfl, s50_0, q1, q2⟩
      obtain rfl := s50_0.symm
      have x9 := (q2.1 w 9 (by omega)).trans w9
      have x7 := (q2.1 w 7 (by omega)).trans w7
      have x8 := (q2.1 w 8 (by omega)).trans w8
      have x6 := (q2.1 w 6 (by omega)).trans w6
      have x4 := (q2.1 w 4 (by omega)).trans w4
      exact w_tr53 kw sr.1 sr.2.1 sr.2.2 (by omega) (by omega) (by omega) (by omega) x9 x7 x8 x6 x4 (fun y z hy hz => goOn f50 g50 q1 q2 y z (hy.trans hW2.symm) (hz.trans hL2.symm))
    refine V_il5 dX10_tread_14 ?_
    refine V_il4 dX10_tread_16 ?_
    refine V_icmp_ge (tgt := 163) dX10_tread_18 rfl (by unfold ri; omega) (by unfold ri; omega) (fun b18 => ?_) (fun b18 => ?_)
    · exfalso; omega
    · refine V_al0n dX10_tread_21 ?_
      refine V_getI kw (kdlt kw (by decide)) fl_X10_37 w8 dX10_tread_22 ?_
      refine V_if_le (tgt := 163) dX10_tread_25 rfl (by unfold ri; omega) (fun b25 => ?_) (fun b25 => ?_)
      · exfalso; omega
      · refine V_al1n dX10_tread_28 ?_
        refine V_il2n dX10_tread_29 ?_
        refine V_al0n dX10_tread_30 ?_
        refine V_getI kw (kdlt kw (by decide)) fl_X10_34 w7 dX10_tread_31 ?_
        refine V_if_ne (tgt := 41) dX10_tread_34 rfl (by unfold ri; omega) (fun b34 => ?_) (fun b34 => ?_)
        · refine V_il3n dX10_tread_41 ?_
          exact X _ (by unfold goP; first | rw [if_pos (by omega)] | rw [if_neg (by omega)])
        · refine V_iconst dX10_tread_37 ?_
          refine V_goto (tgt := 42) dX10_tread_38 rfl ?_
          exact X _ (by unfold goP; first | rw [if_pos (by omega)] | rw [if_neg (by omega)])
termination_by n - i
end TREAD

