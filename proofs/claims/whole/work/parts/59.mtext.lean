/-! a law's line keeps what was read; all lines -/
theorem SF.good {lo : Nat} {f F : IT} (h : SF lo f F) (hg : Good f) (hp : PK F) : Good F := ⟨hp, hg.2.cg (fun a k ha => h a k (by omega) (by omega) (by omega) (by omega)) (fun k hk => h 104 k (by omega) (by omega) (by omega) (by omega))⟩
def PW (a k : Nat) : Prop := (a = 104 ∧ (k = 25 ∨ 58 ≤ k ∧ k ≤ 63)) ∨ (127 ≤ a ∧ a ≤ 129 ∧ 8 ≤ k) ∨ (130 ≤ a ∧ a ≤ 132 ∧ 64 ≤ k) ∨ a = 133 ∨ a = 134
theorem SF.fp {lo : Nat} {f f1 F : IT} (h : SF lo f1 F) (h1 : FP PW f f1) : FP PW f F := fun a k q r => (h a k (by unfold PW at r; omega) (by unfold PW at r; omega) (by unfold PW at r; omega) (by unfold PW at r; omega)).trans (h1 a k q r)
theorem RRW.le {f : IT} (h : RRW f) : ∃ lo : Nat, f 104 25 = (lo : Int) ∧ f 104 61 = (lo : Int) ∧ lo ≤ 64 := ⟨(f 104 25).toNat, by have := h.1; omega, by have := h.1; have := h.2.1; omega, by have := h.1; omega⟩
theorem hls1 {r : Nat → Int} : hls r 1 = [r 0] := rfl
theorem lawF_ok {f : IT} (h : Good f) (hW : RRW f) : Good (lawF f).2 ∧ FP PW f (lawF f).2 ∧ ((lawF f).1 = true → sgnB 59 (lawF f).2 = true ∧ (RD f → RD (lawF f).2)) := by
  have hA := h.tk
  obtain ⟨lo, h25, h61, h64⟩ := hW.le
  have a25 : tkF f 104 25 = (lo : Int) := (tkF_o (by omega)).trans h25
  have a61 : tkF f 104 61 = (lo : Int) := (tkF_o (by omega)).trans h61
  have fA : FP PW f (tkF f) := FP.rf.tk
  have dA : RD f → RD (tkF f) := RD.tk
  unfold lawF
  generalize tkF f = A at *
  split
  · exact ⟨hA.wrg, fA.wrg, fun q => by cases q⟩
  · split
    · exact ⟨hA.wrg, fA.wrg, fun q => by cases q⟩
    · rename_i e1 e2
      obtain ⟨k, hk⟩ : ∃ k : Nat, A 104 9 = (k : Int) + 2 := ⟨(A 104 9 - 2).toNat, by omega⟩
      have hk8 : 8 ≤ k ∧ k ≤ 15 := by omega
      rw [show (A 104 9 - 2).toNat = k by omega] at e2 ⊢
      unfold lawK
      have hG : Good (u2 (tkF (u2 A 127 k 1)) 128 k (tkF (u2 A 127 k 1) 104 25)) := ((hA.fg (k := k) (x := 1) (by omega) (by omega)).tk).up (by omega) (by omega) (by omega)
      have hF : FP PW f (u2 (tkF (u2 A 127 k 1)) 128 k (tkF (u2 A 127 k 1) 104 25)) := ((fA.up (Or.inr (Or.inl (by omega)))).tk).up (Or.inr (Or.inl (by omega)))
      have b25 : u2 (tkF (u2 A 127 k 1)) 128 k (tkF (u2 A 127 k 1) 104 25) 104 25 = (lo : Int) := by rw [u2_o (by omega), tkF_o (by omega), u2_o (by omega)]; exact a25
      have b61 : u2 (tkF (u2 A 127 k 1)) 128 k (tkF (u2 A 127 k 1) 104 25) 104 61 = (lo : Int) := by rw [u2_o (by omega), tkF_o (by omega), u2_o (by omega)]; exact a61
      have b128 : u2 (tkF (u2 A 127 k 1)) 128 k (tkF (u2 A 127 k 1) 104 25) 128 k = (lo : Int) := by rw [u2_s, tkF_o (by omega), u2_o (by omega)]; exact a25
      have bo : ∀ a j, a ≠ 104 → ¬ ((a = 127 ∨ a = 128) ∧ j = k) → u2 (tkF (u2 A 127 k 1)) 128 k (tkF (u2 A 127 k 1) 104 25) a j = A a j := fun a j h1 h2 => by rw [u2_o (by omega), tkF_o (by omega), u2_o (by omega)]
      have bo4 : ∀ j, 20 ≤ j → u2 (tkF (u2 A 127 k 1)) 128 k (tkF (u2 A 127 k 1) 104 25) 104 j = A 104 j := fun j h1 => by rw [u2_o (by omega), tkF_o (by omega), u2_o (by omega)]
      generalize u2 (tkF (u2 A 127 k 1)) 128 k (tkF (u2 A 127 k 1) 104 25) = B at *
      obtain ⟨s1, s2, s3⟩ := sumF_ok hG.1 b25 b61 h64
      cases c : (sumF B).1 with
      | false => rw [thn_f c]; exact ⟨s2.good hG s1, s2.fp hF, fun q => by cases q⟩
      | true =>
        rw [thn_t c]
        obtain ⟨hE, hsg⟩ := s3 c
        generalize (sumF B).2 = C at *
        refine ⟨(s2.good hG s1).up (by omega) (by omega) (by omega), (s2.fp hF).up (Or.inr (Or.inl (by omega))), fun _ => ⟨(sgnB_cg (u2_o (by omega)) (u2_o (by omega))).trans hsg, fun H => ?_⟩⟩
        obtain ⟨-, hj, h58⟩ := hE
        have H := dA H
        obtain ⟨r1, r2, r3, r4, r5, r6, r7, r8⟩ := H
        obtain ⟨j1, j2, j3, j4, j5, j6, j7, j8, j9, j10⟩ := hj
        rw [h58] at j6 j7 j8
        simp only [Int.toNat_zero, cnt] at j6 j7 j8
        obtain ⟨n, hn⟩ : ∃ n : Nat, C 104 25 = (lo : Int) + n := ⟨(C 104 25 - lo).toNat, by omega⟩
        rw [show (C 104 25).toNat - lo = n by omega] at j9 j10
        rw [j8, show ((0 : Int) + 1).toNat = 1 from rfl, hls1] at j10
        have hn0 : 0 < n := by
          rcases Nat.eq_zero_or_pos n with e | e
          · rw [e] at j10; simp [pst] at j10
          · exact e
        have hp1 : pst (fun i => C 130 (64 + i)) lo n = [lo + n - 1] := by
          obtain ⟨m, rfl⟩ : ∃ m, n = m + 1 := ⟨n - 1, by omega⟩
          obtain ⟨s, hs⟩ := pst_hd (K := fun i => C 130 (64 + i)) (lo := lo) (n := m)
          rw [hs] at j10 ⊢
          simp at j10
          rw [j10.2]
          simp
        have eo : ∀ a j, a ≠ 104 → ¬ ((127 ≤ a ∧ a ≤ 129) ∧ j = k) → ¬ (130 ≤ a ∧ a ≤ 134) → u2 C 129 k (C 104 25) a j = A a j := fun a j h1 h2 h3 => by rw [u2_o (by omega), s2 a j (by omega) (by omega) (by omega) (by omega), bo a j h1 (by omega)]
        have eo4 : ∀ j, 20 ≤ j ∧ j ≤ 24 ∨ j = 26 ∨ j = 27 → u2 C 129 k (C 104 25) 104 j = A 104 j := fun j h1 => by rw [u2_o (by omega), s2 104 j (by omega) (by omega) (by omega) (by omega), bo4 j (by omega)]
        unfold RD
        simp only
        rw [eo4 20 (by omega), eo4 21 (by omega), eo4 22 (by omega), eo4 23 (by omega), eo4 24 (by omega), eo4 26 (by omega), eo4 27 (by omega)]
        refine ⟨r1.cg (fun a j _ _ => eo a j (by omega) (by omega) (by omega)), r2.cg (fun a j _ _ => eo a j (by omega) (by omega) (by omega)), r3.cg (fun a j _ _ => eo a j (by omega) (by omega) (by omega)), r4.cg (fun a j _ _ => eo a j (by omega) (by omega) (by omega)) (fun j _ => eo 123 j (by omega) (by omega) (by omega)) (by omega), r5.cg (fun a j _ _ => eo a j (by omega) (by omega) (by omega)), ⟨?_, ?_, fun w hw ht => ?_⟩, r7, r8⟩
        · rw [u2_o (by omega)]; omega
        · rw [u2_o (by omega), u2_o (by omega)]; omega
        · by_cases ew : 8 + w = k
          · refine ⟨lo, n, ?_, ?_, hn0, ?_, ?_, ?_⟩
            · rw [u2_o (by omega), ew, s2 128 k (by omega) (by omega) (by omega) (by omega), b128]
            · rw [ew, u2_s, hn]
            · rw [u2_o (by omega)]; omega
            · exact stV_cg n (fun i hi => ⟨(u2_o (by omega)).symm, (u2_o (by omega)).symm, (u2_o (by omega)).symm⟩) j9
            · rw [← hp1]; exact pst_cg n (fun i hi => u2_o (by omega))
          · rw [u2_o (by omega), s2 127 _ (by omega) (by omega) (by omega) (by omega), bo 127 _ (by omega) (by omega)] at ht
            refine (r6.2.2 w hw ht).cg ?_ ?_ ?_ ?_
            · rw [u2_o (by omega), s2 128 _ (by omega) (by omega) (by omega) (by omega), bo 128 _ (by omega) (by omega)]
            · rw [u2_o (by omega), s2 129 _ (by omega) (by omega) (by omega) (by omega), bo 129 _ (by omega) (by omega)]
            · rw [u2_o (by omega), a25]; omega
            · intro a i ha hi
              rw [a25] at hi
              rw [u2_o (by omega), s2 a _ (by omega) (by omega) (by omega) (by omega), bo a _ (by omega) (by omega)]
def loadF (f : IT) : Bool × IT := ((numF 0 30 (tkF (u2 f 104 28 1))).1, u2 (numF 0 30 (tkF (u2 f 104 28 1))).2 104 26 ((numF 0 30 (tkF (u2 f 104 28 1))).2 104 11))
def seedF (f : IT) : Bool × IT := ((numF 0 99999 (tkF (u2 f 104 29 1))).1, u2 (numF 0 99999 (tkF (u2 f 104 29 1))).2 104 27 ((numF 0 99999 (tkF (u2 f 104 29 1))).2 104 11))
/-- a line without its end -/
def ln0 (f : IT) : Bool × IT :=
  if f 104 9 = 0 then laneF f else if f 104 9 = 1 then manF f else if f 104 9 = 2 then holdF f else if f 104 9 = 3 then planF f else if f 104 9 = 4 then judgF f
  else if f 104 9 = 5 then (if f 104 28 = 1 then (false, wrg 3 f) else loadF f) else if f 104 9 = 6 then (if f 104 29 = 1 then (false, wrg 3 f) else seedF f) else lawF f
def lnE (f : IT) : Bool × IT := if sgnB 59 f = true then (true, tkF f) else (false, wrg 1 f)
def lnF (f : IT) : Bool × IT := if f 104 8 ≠ 1 ∨ 7 < f 104 9 then (false, wrg 1 f) else thn (ln0 f) lnE
theorem loadF_ok {f : IT} (h : Good f) : Good (loadF f).2 ∧ ((loadF f).1 = true → RD f → RD (loadF f).2) := by
  unfold loadF
  have hG : Good (tkF (u2 f 104 28 1)) := (h.cnt (Or.inr (Or.inr (Or.inr (Or.inr (Or.inr ⟨Or.inl rfl, Or.inr rfl⟩)))))).tk
  refine ⟨hG.num.up (by omega) (by omega) (by omega), fun s H => ?_⟩
  have n := numF_t s
  have o := fun a j h => numF_o (f := tkF (u2 f 104 28 1)) (lo := 0) (hi := 30) (b := a) (j := j) h
  simp only
  generalize (numF 0 30 (tkF (u2 f 104 28 1))).2 = A at *
  have e : ∀ a k, a ≠ 104 → u2 A 104 26 (A 104 11) a k = f a k := fun a k h1 => by rw [u2_o (by omega), o a k (by omega), tkF_o (by omega), u2_o (by omega)]
  have e2 : ∀ k, 20 ≤ k → k ≠ 26 → k ≠ 28 → u2 A 104 26 (A 104 11) 104 k = f 104 k := fun k h1 h2 h3 => by rw [u2_o (by omega), o 104 k (by omega), tkF_o (by omega), u2_o (by omega)]
  obtain ⟨h1, h2, h3, h4, h5, h6, h7, h8⟩ := H
  unfold RD
  rw [e2 20 (by omega) (by omega) (by omega), e2 21 (by omega) (by omega) (by omega), e2 22 (by omega) (by omega) (by omega), e2 23 (by omega) (by omega) (by omega), e2 24 (by omega) (by omega) (by omega), e2 27 (by omega) (by omega) (by omega)]
  exact ⟨h1.cg (fun a k _ _ => e a k (by omega)), h2.cg (fun a k _ _ => e a k (by omega)), h3.cg (fun a k _ _ => e a k (by omega)), h4.cg (fun a k _ _ => e a k (by omega)) (fun k _ => e 123 k (by omega)) (by omega), h5.cg (fun a k _ _ => e a k (by omega)), h6.cg (fun a k _ => e a k (by omega)) (e2 25 (by omega) (by omega) (by omega)) (e2 61 (by omega) (by omega) (by omega)), (by rw [u2_s, n.2.2.2]; exact n.2.1), h8⟩
theorem seedF_ok {f : IT} (h : Good f) : Good (seedF f).2 ∧ ((seedF f).1 = true → RD f → RD (seedF f).2) := by
  unfold seedF
  have hG : Good (tkF (u2 f 104 29 1)) := (h.cnt (Or.inr (Or.inr (Or.inr (Or.inr (Or.inr ⟨Or.inr rfl, Or.inr rfl⟩)))))).tk
  refine ⟨hG.num.up (by omega) (by omega) (by omega), fun s H => ?_⟩
  have n := numF_t s
  have o := fun a j h => numF_o (f := tkF (u2 f 104 29 1)) (lo := 0) (hi := 99999) (b := a) (j := j) h
  simp only
  generalize (numF 0 99999 (tkF (u2 f 104 29 1))).2 = A at *
  have e : ∀ a k, a ≠ 104 → u2 A 104 27 (A 104 11) a k = f a k := fun a k h1 => by rw [u2_o (by omega), o a k (by omega), tkF_o (by omega), u2_o (by omega)]
  have e2 : ∀ k, 20 ≤ k → k ≠ 27 → k ≠ 29 → u2 A 104 27 (A 104 11) 104 k = f 104 k := fun k h1 h2 h3 => by rw [u2_o (by omega), o 104 k (by omega), tkF_o (by omega), u2_o (by omega)]
  obtain ⟨h1, h2, h3, h4, h5, h6, h7, h8⟩ := H
  unfold RD
  rw [e2 20 (by omega) (by omega) (by omega), e2 21 (by omega) (by omega) (by omega), e2 22 (by omega) (by omega) (by omega), e2 23 (by omega) (by omega) (by omega), e2 24 (by omega) (by omega) (by omega), e2 26 (by omega) (by omega) (by omega)]
  exact ⟨h1.cg (fun a k _ _ => e a k (by omega)), h2.cg (fun a k _ _ => e a k (by omega)), h3.cg (fun a k _ _ => e a k (by omega)), h4.cg (fun a k _ _ => e a k (by omega)) (fun k _ => e 123 k (by omega)) (by omega), h5.cg (fun a k _ _ => e a k (by omega)), h6.cg (fun a k _ => e a k (by omega)) (e2 25 (by omega) (by omega) (by omega)) (e2 61 (by omega) (by omega) (by omega)), h7, (by rw [u2_s, n.2.2.2]; exact n.2.1)⟩
theorem ln0_ok {f : IT} (h : Good f) (H : RD f) : Good (ln0 f).2 ∧ ((ln0 f).1 = true → RD (ln0 f).2) := by
  unfold ln0
  (repeat' split)
  · exact ⟨(laneF_ok h).1, fun q => ((laneF_ok h).2.2 q).2 H⟩
  · exact ⟨(manF_ok h).1, fun q => ((manF_ok h).2.2 q).2 H⟩
  · exact ⟨(holdF_ok h).1, fun q => ((holdF_ok h).2.2 q).2 H⟩
  · exact ⟨(planF_ok h).1, fun q => ((planF_ok h).2.2 q).2 H⟩
  · exact ⟨(judgF_ok h).1, fun q => ((judgF_ok h).2.2 q).2 H⟩
  · exact ⟨h.wrg, fun q => by cases q⟩
  · exact ⟨(loadF_ok h).1, fun q => (loadF_ok h).2 q H⟩
  · exact ⟨h.wrg, fun q => by cases q⟩
  · exact ⟨(seedF_ok h).1, fun q => (seedF_ok h).2 q H⟩
  · exact ⟨(lawF_ok h H.2.2.2.2.2.1).1, fun q => ((lawF_ok h H.2.2.2.2.2.1).2.2 q).2 H⟩
theorem lnF_ok {f : IT} (h : Good f) (H : RD f) : Good (lnF f).2 ∧ ((lnF f).1 = true → RD (lnF f).2) := by
  unfold lnF
  split
  · exact ⟨h.wrg, fun q => by cases q⟩
  · obtain ⟨g1, g2⟩ := ln0_ok h H
    cases c : (ln0 f).1 with
    | false => rw [thn_f c]; exact ⟨g1, fun q => by cases q⟩
    | true =>
      rw [thn_t c]
      unfold lnE
      split
      · exact ⟨g1.tk, fun _ => (g2 c).tk⟩
      · exact ⟨g1.wrg, fun q => by cases q⟩
theorem w_ln195 {ρ : RT} {g : JT} (hρ : Fx ρ) {R : Bool × IT} (hG : Good R.2) : V_X12_lineRead (fun r ρ' f' g' => r = some (.int (iz (bz (thn R lnE).1))) ∧ ρ' = ρ ∧ f' = (thn R lnE).2 ∧ g' = g) 195 [.ref 104, .int (iz (bz R.1))] [] ρ R.2 g := by
  have h8 := hG.1.r8
  refine V_il1n dX12_lineRead_195 ?_
  refine V_bf (tgt := 201) dX12_lineRead_196 rfl (fun b196 => ?_) (fun b196 => ?_)
  · refine V_al0n dX12_lineRead_201 ?_
    refine V_bipush dX12_lineRead_202 rfl ?_
    refine V_callV (as := [_]) ml_X12_209 im_X12_isSign se_X12_isSign kk104 (by decide) (by decide) dX12_lineRead_204 rfl rfl (by decide) (by decide) (Nat.le_of_ble_eq_true rfl) (by decide) (by decide) rfl (c_isSign (by unfold ri; omega) h8.1 h8.2) ?_
    refine pq4 ?_
    refine V_bf (tgt := 216) dX12_lineRead_207 rfl (fun b207 => ?_) (fun b207 => ?_)
    · refine V_al0n dX12_lineRead_216 ?_
      refine V_callV (as := []) ml_X12_206 im_X12_token se_X12_token kk104 (by decide) (by decide) dX12_lineRead_217 rfl rfl (by decide) (by decide) (Nat.le_of_ble_eq_true rfl) (by decide) (by decide) rfl (c_tok hρ hG.1) ?_
      refine pq4 ?_
      refine V_iconst dX12_lineRead_220 ?_
      exact V_zreturn rfl (by first | exact Or.inl rfl | exact Or.inr rfl | (unfold bz; split <;> simp)) (by rw [thn_t b196]; unfold lnE; rw [if_pos b207]; exact ⟨rfl, rfl, rfl, rfl⟩) dX12_lineRead_221
    · refine V_al0n dX12_lineRead_210 ?_
      refine V_iconst dX12_lineRead_211 ?_
      refine V_callV (as := [_]) ml_X12_196 im_X12_wrong se_X12_wrong kk104 (by decide) (by decide) dX12_lineRead_212 rfl rfl (by decide) (by decide) (Nat.le_of_ble_eq_true rfl) (by decide) (by decide) rfl (c_wrong) ?_
      refine pq4 ?_
      exact V_zreturn rfl (by first | exact Or.inl rfl | exact Or.inr rfl | (unfold bz; split <;> simp)) (by rw [thn_t b196]; unfold lnE; rw [if_neg (by rw [b207]; exact Bool.false_ne_true)]; exact ⟨rfl, rfl, rfl, rfl⟩) dX12_lineRead_215
  · refine V_iconst dX12_lineRead_199 ?_
    exact V_zreturn rfl (by first | exact Or.inl rfl | exact Or.inr rfl | (unfold bz; split <;> simp)) (by rw [thn_f b196]; exact ⟨rfl, rfl, rfl, rfl⟩) dX12_lineRead_200
theorem w_ln195x {ρ : RT} {f : IT} {g : JT} (hρ : Fx ρ) {R : Bool × IT} (e : ln0 f = R) (hG : Good (ln0 f).2) : V_X12_lineRead (fun r ρ' f' g' => r = some (.int (iz (bz (thn (ln0 f) lnE).1))) ∧ ρ' = ρ ∧ f' = (thn (ln0 f) lnE).2 ∧ g' = g) 195 [.ref 104, .int (iz (bz R.1))] [] ρ R.2 g := by
  rw [e] at hG ⊢
  exact w_ln195 hρ hG
theorem c_lineRead {ρ : RT} {f : IT} {g : JT} (hρ : Fx ρ) (h : Good f) (H : RD f) : C_X12_lineRead [.ref 104] ρ f g (fun r ρ' f' g' => r = some (.int (iz (bz (lnF f).1))) ∧ ρ' = ρ ∧ f' = (lnF f).2 ∧ g' = g) := by
  have h8 := h.1.r8
  have hg0 := (ln0_ok h H).1
  obtain ⟨lo, h25, h61, h64⟩ := H.2.2.2.2.2.1.le
  have k9 := h.1.2.2.1
  have c28 := h.2.2.2.2.2.2.2.2.1
  have c29 := h.2.2.2.2.2.2.2.2.2
  refine Ct.ofV (by decide) rfl (Nat.le_of_ble_eq_true rfl) ?_
  have X : (f 104 8 ≠ 1 ∨ 7 < f 104 9) → V_X12_lineRead (fun r ρ' f' g' => r = some (.int (iz (bz (lnF f).1))) ∧ ρ' = ρ ∧ f' = (lnF f).2 ∧ g' = g) 17 [.ref 104, .null] [] ρ f g := fun hx => by
    unfold lnF
    rw [if_pos hx]
    refine V_al0n dX12_lineRead_17 ?_
    refine V_iconst dX12_lineRead_18 ?_
    refine V_callV (as := [_]) ml_X12_196 im_X12_wrong se_X12_wrong kk104 (by decide) (by decide) dX12_lineRead_19 rfl rfl (by decide) (by decide) (Nat.le_of_ble_eq_true rfl) (by decide) (by decide) rfl (c_wrong) ?_
    refine pq4 ?_
    exact V_zreturn rfl (by first | exact Or.inl rfl | exact Or.inr rfl | (unfold bz; split <;> simp)) ⟨rfl, rfl, rfl, rfl⟩ dX12_lineRead_22
  have Y : ¬ (f 104 8 ≠ 1 ∨ 7 < f 104 9) → V_X12_lineRead (fun r ρ' f' g' => r = some (.int (iz (bz (lnF f).1))) ∧ ρ' = ρ ∧ f' = (lnF f).2 ∧ g' = g) 23 [.ref 104, .null] [] ρ f g := fun hx => by
    have hk0 := h.1.2.2.2.1 (by omega)
    unfold lnF
    rw [if_neg hx]
    refine V_al0n dX12_lineRead_23 ?_
    refine V_getI kk104 (by decide) fl_X12_183 rfl dX12_lineRead_24 ?_
    rcases (show f 104 9 = 0 ∨ f 104 9 = 1 ∨ f 104 9 = 2 ∨ f 104 9 = 3 ∨ f 104 9 = 4 ∨ f 104 9 = 5 ∨ f 104 9 = 6 ∨ f 104 9 = 7 by omega) with c9 | c9 | c9 | c9 | c9 | c9 | c9 | c9
    · refine V_tabIn (tgt := 68) (i := 0) dX12_lineRead_27 (by first | rfl | omega) (by decide) (by first | decide | assumption | (unfold ri at *; omega)) rfl rfl ?_
      refine V_al0n dX12_lineRead_68 ?_
      refine V_callV (as := []) ml_X12_319 im_X12_laneLine se_X12_laneLine kk104 (by decide) (by decide) dX12_lineRead_69 rfl rfl (by decide) (by decide) (Nat.le_of_ble_eq_true rfl) (by decide) (by decide) rfl (c_laneLine hρ h.1 h.2) ?_
      refine pq4 ?_
      refine V_is1n dX12_lineRead_72 (by decide) rfl ?_
      refine V_goto (tgt := 195) dX12_lineRead_73 rfl ?_
      exact w_ln195x hρ (by unfold ln0; simp [c9]) hg0
    · refine V_tabIn (tgt := 76) (i := 1) dX12_lineRead_27 (by first | rfl | omega) (by decide) (by first | decide | assumption | (unfold ri at *; omega)) rfl rfl ?_
      refine V_al0n dX12_lineRead_76 ?_
      refine V_callV (as := []) ml_X12_322 im_X12_manLine se_X12_manLine kk104 (by decide) (by decide) dX12_lineRead_77 rfl rfl (by decide) (by decide) (Nat.le_of_ble_eq_true rfl) (by decide) (by decide) rfl (c_manLine hρ h.1 h.2) ?_
      refine pq4 ?_
      refine V_is1n dX12_lineRead_80 (by decide) rfl ?_
      refine V_goto (tgt := 195) dX12_lineRead_81 rfl ?_
      exact w_ln195x hρ (by unfold ln0; simp [c9]) hg0
    · refine V_tabIn (tgt := 84) (i := 2) dX12_lineRead_27 (by first | rfl | omega) (by decide) (by first | decide | assumption | (unfold ri at *; omega)) rfl rfl ?_
      refine V_al0n dX12_lineRead_84 ?_
      refine V_callV (as := []) ml_X12_325 im_X12_holdLine se_X12_holdLine kk104 (by decide) (by decide) dX12_lineRead_85 rfl rfl (by decide) (by decide) (Nat.le_of_ble_eq_true rfl) (by decide) (by decide) rfl (c_holdLine hρ h.1 h.2) ?_
      refine pq4 ?_
      refine V_is1n dX12_lineRead_88 (by decide) rfl ?_
      refine V_goto (tgt := 195) dX12_lineRead_89 rfl ?_
      exact w_ln195x hρ (by unfold ln0; simp [c9]) hg0
    · refine V_tabIn (tgt := 92) (i := 3) dX12_lineRead_27 (by first | rfl | omega) (by decide) (by first | decide | assumption | (unfold ri at *; omega)) rfl rfl ?_
      refine V_al0n dX12_lineRead_92 ?_
      refine V_callV (as := []) ml_X12_328 im_X12_planLine se_X12_planLine kk104 (by decide) (by decide) dX12_lineRead_93 rfl rfl (by decide) (by decide) (Nat.le_of_ble_eq_true rfl) (by decide) (by decide) rfl (c_planLine hρ h.1 h.2) ?_
      refine pq4 ?_
      refine V_is1n dX12_lineRead_96 (by decide) rfl ?_
      refine V_goto (tgt := 195) dX12_lineRead_97 rfl ?_
      exact w_ln195x hρ (by unfold ln0; simp [c9]) hg0
    · refine V_tabIn (tgt := 100) (i := 4) dX12_lineRead_27 (by first | rfl | omega) (by decide) (by first | decide | assumption | (unfold ri at *; omega)) rfl rfl ?_
      refine V_al0n dX12_lineRead_100 ?_
      refine V_callV (as := []) ml_X12_331 im_X12_judgeLine se_X12_judgeLine kk104 (by decide) (by decide) dX12_lineRead_101 rfl rfl (by decide) (by decide) (Nat.le_of_ble_eq_true rfl) (by decide) (by decide) rfl (c_judgeLine hρ h.1 h.2) ?_
      refine pq4 ?_
      refine V_is1n dX12_lineRead_104 (by decide) rfl ?_
      refine V_goto (tgt := 195) dX12_lineRead_105 rfl ?_
      exact w_ln195x hρ (by unfold ln0; simp [c9]) hg0
    · refine V_tabIn (tgt := 108) (i := 5) dX12_lineRead_27 (by first | rfl | omega) (by decide) (by first | decide | assumption | (unfold ri at *; omega)) rfl rfl ?_
      refine V_al0n dX12_lineRead_108 ?_
      refine V_getZ kk104 (by decide) fl_X12_243 rfl dX12_lineRead_109 ?_
      refine V_if_eq (tgt := 121) dX12_lineRead_112 rfl (by unfold ri; omega) (fun b112 => ?_) (fun b112 => ?_)
      · refine V_al0n dX12_lineRead_121 ?_
        refine V_iconst dX12_lineRead_122 ?_
        refine V_putZ kk104 (by decide) fl_X12_243 rfl (by first | exact Or.inl rfl | exact Or.inr rfl | (unfold bz; split <;> simp)) dX12_lineRead_123 ?_
        refine V_al0n dX12_lineRead_126 ?_
        refine V_callV (as := []) ml_X12_206 im_X12_token se_X12_token kk104 (by decide) (by decide) dX12_lineRead_127 rfl rfl (by decide) (by decide) (Nat.le_of_ble_eq_true rfl) (by decide) (by decide) rfl (c_tok hρ (h.1.up (by omega) (by omega) (by omega))) ?_
        refine pq4 ?_
        refine V_al0n dX12_lineRead_130 ?_
        refine V_iconst dX12_lineRead_131 ?_
        refine V_bipush dX12_lineRead_132 rfl ?_
        refine V_callV (as := [_, _]) ml_X12_212 im_X12_number se_X12_number kk104 (by decide) (by decide) dX12_lineRead_134 rfl rfl (by decide) (by decide) (Nat.le_of_ble_eq_true rfl) (by decide) (by decide) rfl (c_number hρ ((h.1.up (by omega) (by omega) (by omega)).tk) (by unfold ri; omega) (by unfold ri; omega)) ?_
        refine pq4 ?_
        refine V_is1n dX12_lineRead_137 (by decide) rfl ?_
        refine V_al0n dX12_lineRead_138 ?_
        refine V_al0n dX12_lineRead_139 ?_
        refine V_getI kk104 (by decide) fl_X12_203 rfl dX12_lineRead_140 ?_
        refine V_putI kk104 (by decide) fl_X12_237 rfl dX12_lineRead_143 ?_
        refine V_goto (tgt := 195) dX12_lineRead_146 rfl ?_
        exact w_ln195x hρ (R := loadF f) (by unfold ln0; simp [c9, show ¬ f 104 28 = 1 by omega]) hg0
      · refine V_al0n dX12_lineRead_115 ?_
        refine V_iconst dX12_lineRead_116 ?_
        refine V_callV (as := [_]) ml_X12_196 im_X12_wrong se_X12_wrong kk104 (by decide) (by decide) dX12_lineRead_117 rfl rfl (by decide) (by decide) (Nat.le_of_ble_eq_true rfl) (by decide) (by decide) rfl (c_wrong) ?_
        refine pq4 ?_
        exact V_zreturn rfl (by first | exact Or.inl rfl | exact Or.inr rfl | (unfold bz; split <;> simp)) (by rw [show ln0 f = (false, wrg 3 f) by unfold ln0; simp [c9, show f 104 28 = 1 by omega]]; exact ⟨rfl, rfl, rfl, rfl⟩) dX12_lineRead_120
    · refine V_tabIn (tgt := 149) (i := 6) dX12_lineRead_27 (by first | rfl | omega) (by decide) (by first | decide | assumption | (unfold ri at *; omega)) rfl rfl ?_
      refine V_al0n dX12_lineRead_149 ?_
      refine V_getZ kk104 (by decide) fl_X12_247 rfl dX12_lineRead_150 ?_
      refine V_if_eq (tgt := 162) dX12_lineRead_153 rfl (by unfold ri; omega) (fun b153 => ?_) (fun b153 => ?_)
      · refine V_al0n dX12_lineRead_162 ?_
        refine V_iconst dX12_lineRead_163 ?_
        refine V_putZ kk104 (by decide) fl_X12_247 rfl (by first | exact Or.inl rfl | exact Or.inr rfl | (unfold bz; split <;> simp)) dX12_lineRead_164 ?_
        refine V_al0n dX12_lineRead_167 ?_
        refine V_callV (as := []) ml_X12_206 im_X12_token se_X12_token kk104 (by decide) (by decide) dX12_lineRead_168 rfl rfl (by decide) (by decide) (Nat.le_of_ble_eq_true rfl) (by decide) (by decide) rfl (c_tok hρ (h.1.up (by omega) (by omega) (by omega))) ?_
        refine pq4 ?_
        refine V_al0n dX12_lineRead_171 ?_
        refine V_iconst dX12_lineRead_172 ?_
        refine V_ldc (a := 99999) kc_X12_192 rfl dX12_lineRead_173 ?_
        refine V_callV (as := [_, _]) ml_X12_212 im_X12_number se_X12_number kk104 (by decide) (by decide) dX12_lineRead_175 rfl rfl (by decide) (by decide) (Nat.le_of_ble_eq_true rfl) (by decide) (by decide) rfl (c_number hρ ((h.1.up (by omega) (by omega) (by omega)).tk) (by unfold ri; omega) (by unfold ri; omega)) ?_
        refine pq4 ?_
        refine V_is1n dX12_lineRead_178 (by decide) rfl ?_
        refine V_al0n dX12_lineRead_179 ?_
        refine V_al0n dX12_lineRead_180 ?_
        refine V_getI kk104 (by decide) fl_X12_203 rfl dX12_lineRead_181 ?_
        refine V_putI kk104 (by decide) fl_X12_240 rfl dX12_lineRead_184 ?_
        refine V_goto (tgt := 195) dX12_lineRead_187 rfl ?_
        exact w_ln195x hρ (R := seedF f) (by unfold ln0; simp [c9, show ¬ f 104 29 = 1 by omega]) hg0
      · refine V_al0n dX12_lineRead_156 ?_
        refine V_iconst dX12_lineRead_157 ?_
        refine V_callV (as := [_]) ml_X12_196 im_X12_wrong se_X12_wrong kk104 (by decide) (by decide) dX12_lineRead_158 rfl rfl (by decide) (by decide) (Nat.le_of_ble_eq_true rfl) (by decide) (by decide) rfl (c_wrong) ?_
        refine pq4 ?_
        exact V_zreturn rfl (by first | exact Or.inl rfl | exact Or.inr rfl | (unfold bz; split <;> simp)) (by rw [show ln0 f = (false, wrg 3 f) by unfold ln0; simp [c9, show f 104 29 = 1 by omega]]; exact ⟨rfl, rfl, rfl, rfl⟩) dX12_lineRead_161
    · refine V_tabOut (tgt := 190) dX12_lineRead_27 (by omega) (by first | assumption | (unfold ri at *; omega)) rfl ?_
      refine V_al0n dX12_lineRead_190 ?_
      refine V_callV (as := []) ml_X12_334 im_X12_lawLine se_X12_lawLine kk104 (by decide) (by decide) dX12_lineRead_191 rfl rfl (by decide) (by decide) (Nat.le_of_ble_eq_true rfl) (by decide) (by decide) rfl (c_lawLine hρ h h25 h61 h64) ?_
      refine pq4 ?_
      refine V_is1n dX12_lineRead_194 (by decide) rfl ?_
      exact w_ln195x hρ (by unfold ln0; simp [c9]) hg0
  refine V_al0n dX12_lineRead_0 ?_
  refine V_getI kk104 (by decide) fl_X12_172 rfl dX12_lineRead_1 ?_
  refine V_iconst dX12_lineRead_4 ?_
  refine V_icmp_ne (tgt := 17) dX12_lineRead_5 rfl (by first | exact h8.1 | (unfold ri; omega)) (by first | exact h8.1 | (unfold ri; omega)) (fun b5 => ?_) (fun b5 => ?_)
  · exact X (by omega)
  · refine V_al0n dX12_lineRead_8 ?_
    refine V_getI kk104 (by decide) fl_X12_183 rfl dX12_lineRead_9 ?_
    refine V_bipush dX12_lineRead_12 rfl ?_
    refine V_icmp_le (tgt := 23) dX12_lineRead_14 rfl (by first | exact h8.2 | (unfold ri; omega)) (by first | exact h8.2 | (unfold ri; omega)) (fun b14 => ?_) (fun b14 => ?_)
    · exact Y (by omega)
    · exact X (by omega)

