/-! each line keeps what was read -/
def PL (n : Nat) (a k : Nat) : Prop := (a = 104 ∧ k = 20) ∨ (107 ≤ a ∧ a ≤ 111 ∧ k = 6 + n)
theorem RD.lane {f F : IT} {n : Nat} (H : RD f) (h20 : f 104 20 = (n : Int)) (fr : FP (PL n) f F) (h20' : F 104 20 = (n : Int) + 1) (r1 : 1 ≤ F 108 (6 + n) ∧ F 108 (6 + n) ≤ 20) (r2 : 0 ≤ F 109 (6 + n) ∧ F 109 (6 + n) ≤ 9) : RD F := by
  obtain ⟨h1, h2, h3, h4, h5, h6, h7, h8⟩ := H
  have e : ∀ a k, 112 ≤ a → F a k = f a k := fun a k ha => fr a k (by omega) (by unfold PL; omega)
  have e2 : ∀ k, 21 ≤ k → F 104 k = f 104 k := fun k ha => fr 104 k (by omega) (by unfold PL; omega)
  unfold RD
  rw [h20', e2 21 (by omega), e2 22 (by omega), e2 23 (by omega), e2 24 (by omega), e2 26 (by omega), e2 27 (by omega)]
  rw [h20, Int.toNat_natCast] at h1
  refine ⟨fun k hk => ?_, h2.cg (fun a k _ _ => e a k (by omega)), h3.cg (fun a k _ _ => e a k (by omega)), h4.cg (fun a k _ _ => e a k (by omega)) (fun k _ => e 123 k (by omega)) (by omega), h5.cg (fun a k _ _ => e a k (by omega)), h6.cg (fun a k _ => e a k (by omega)) (e2 25 (by omega)) (e2 61 (by omega)), h7, h8⟩
  by_cases c : k = n
  · subst c; exact ⟨r1, r2⟩
  · rw [fr 108 _ (by omega) (by unfold PL; omega), fr 109 _ (by omega) (by unfold PL; omega)]
    exact h1 k (by omega)
theorem laneF_ok {f : IT} (h : Good f) : Good (laneF f).2 ∧ FP (PL (f 104 20).toNat) f (laneF f).2 ∧ ((laneF f).1 = true → f 104 20 < 6 ∧ (RD f → RD (laneF f).2)) := by
  have hc := h.2.2.2.1
  unfold laneF
  split
  · exact ⟨h.wrg, FP.rf.wrg, fun q => by cases q⟩
  · rename_i e6
    obtain ⟨n, hn⟩ : ∃ n : Nat, f 104 20 = (n : Int) := ⟨(f 104 20).toNat, by omega⟩
    rw [hn, Int.toNat_natCast]
    have hn6 : n < 6 := by omega
    refine ⟨?_, ?_, fun hs => ⟨by omega, fun H => ?_⟩⟩
    · unfold laneN
      refine thn_p (P := Good) (h.tk.nn (by omega)) (fun _ => thn_p (P := Good) (h.tk.nn (by omega)).num (fun _ => thn_p (P := Good) ((h.tk.nn (by omega)).num.up (by omega) (by omega) (by omega)).num (fun _ => ?_)))
      exact ((((((((h.tk.nn (by omega)).num.up (by omega) (by omega) (by omega)).num.up (by omega) (by omega) (by omega)).fg (by omega) (bz_01 _)).kT).fg (by omega) (bz_01 _)).kT).cnt (Or.inl ⟨rfl, by omega⟩))
    · unfold laneN
      refine thn_p (P := FP (PL n) f) (FP.rf.tk.nn (Or.inr (by omega))) (fun _ => thn_p (P := FP (PL n) f) (FP.rf.tk.nn (Or.inr (by omega))).num (fun _ => thn_p (P := FP (PL n) f) ((FP.rf.tk.nn (Or.inr (by omega))).num.up (Or.inr (by omega))).num (fun _ => ?_)))
      exact (((((((FP.rf.tk.nn (Or.inr (by omega))).num.up (Or.inr (by omega))).num.up (Or.inr (by omega))).up (Or.inr (by omega))).kT).up (Or.inr (by omega))).kT).up (Or.inl ⟨rfl, rfl⟩)
    · have fr : FP (PL n) f (laneN n f).2 := by
        unfold laneN
        refine thn_p (P := FP (PL n) f) (FP.rf.tk.nn (Or.inr (by omega))) (fun _ => thn_p (P := FP (PL n) f) (FP.rf.tk.nn (Or.inr (by omega))).num (fun _ => thn_p (P := FP (PL n) f) ((FP.rf.tk.nn (Or.inr (by omega))).num.up (Or.inr (by omega))).num (fun _ => ?_)))
        exact (((((((FP.rf.tk.nn (Or.inr (by omega))).num.up (Or.inr (by omega))).num.up (Or.inr (by omega))).up (Or.inr (by omega))).kT).up (Or.inr (by omega))).kT).up (Or.inl ⟨rfl, rfl⟩)
      have kt : ∀ (q : Int) (F : IT) (a j : Nat), 107 ≤ a → keyT q F a j = F a j := fun q F a j ha => by unfold keyT; split; exact tkF_o (by omega); rfl
      unfold laneN at hs fr ⊢
      obtain ⟨s1, hs, e1⟩ := thn_s hs
      obtain ⟨s2, hs, e2⟩ := thn_s hs
      obtain ⟨s3, hs, e3⟩ := thn_s hs
      have n2 := numF_t s2
      have n3 := numF_t s3
      rw [e1, e2, e3] at fr ⊢
      generalize (nnF 107 6 n (tkF f)).2 = A at *
      generalize (numF 1 20 A).2 = B at *
      have o3 := fun a j h => numF_o (f := u2 B 108 (6 + n) (B 104 11)) (lo := 0) (hi := 9) (b := a) (j := j) h
      generalize (numF 0 9 (u2 B 108 (6 + n) (B 104 11))).2 = C at *
      refine H.lane hn fr (by simp only; rw [u2_s]) ?_ ?_
      · simp only
        rw [u2_o (by omega), kt _ _ _ _ (by omega), u2_o (by omega), kt _ _ _ _ (by omega), u2_o (by omega), u2_o (by omega), o3 _ _ (by omega), u2_s, n2.2.2.2]
        exact n2.2.1
      · simp only
        rw [u2_o (by omega), kt _ _ _ _ (by omega), u2_o (by omega), kt _ _ _ _ (by omega), u2_o (by omega), u2_s, n3.2.2.2]
        exact n3.2.1
def Pman (n : Nat) (a k : Nat) : Prop := (a = 104 ∧ k = 21) ∨ (112 ≤ a ∧ a ≤ 115 ∧ k = 5 + n)
theorem RD.man {f F : IT} {n : Nat} (H : RD f) (hc : f 104 21 = (n : Int)) (fr : FP (Pman n) f F) (hc2 : F 104 21 = (n : Int) + 1) (r1 : 1 ≤ F 113 (5 + n) ∧ F 113 (5 + n) ≤ 60) (r2 : 1 ≤ F 114 (5 + n) ∧ F 114 (5 + n) ≤ 40) (r3 : 1 ≤ F 115 (5 + n) ∧ F 115 (5 + n) ≤ 30) : RD F := by
  obtain ⟨h1, h2, h3, h4, h5, h6, h7, h8⟩ := H
  have e : ∀ a k, a ≠ 104 → ¬ (112 ≤ a ∧ a ≤ 115) → F a k = f a k := fun a k h1 ha => fr a k (by omega) (by unfold Pman; omega)
  have e2 : ∀ k, 20 ≤ k → k ≠ 21 → F 104 k = f 104 k := fun k h1 ha => fr 104 k (by omega) (by unfold Pman; omega)
  unfold RD
  rw [hc2, e2 20 (by omega) (by omega), e2 22 (by omega) (by omega), e2 23 (by omega) (by omega), e2 24 (by omega) (by omega), e2 26 (by omega) (by omega), e2 27 (by omega) (by omega)]
  rw [hc, Int.toNat_natCast] at h2
  refine ⟨h1.cg (fun a k _ _ => e a k (by omega) (by omega)), fun k hk => ?_, h3.cg (fun a k _ _ => e a k (by omega) (by omega)), h4.cg (fun a k _ _ => e a k (by omega) (by omega)) (fun k _ => e 123 k (by omega) (by omega)) (by omega), h5.cg (fun a k _ _ => e a k (by omega) (by omega)), h6.cg (fun a k _ => e a k (by omega) (by omega)) (e2 25 (by omega) (by omega)) (e2 61 (by omega) (by omega)), h7, h8⟩
  by_cases c : k = n
  · subst c; exact ⟨r1, r2, r3⟩
  · rw [fr 113 _ (by omega) (by unfold Pman; omega), fr 114 _ (by omega) (by unfold Pman; omega), fr 115 _ (by omega) (by unfold Pman; omega)]
    exact h2 k (by omega)
theorem manF_ok {f : IT} (h : Good f) : Good (manF f).2 ∧ FP (Pman (f 104 21).toNat) f (manF f).2 ∧ ((manF f).1 = true → f 104 21 < 5 ∧ (RD f → RD (manF f).2)) := by
  have hc := h.2.2.2.2.1
  unfold manF
  split
  · exact ⟨h.wrg, FP.rf.wrg, fun q => by cases q⟩
  · rename_i e6
    obtain ⟨n, hn⟩ : ∃ n : Nat, f 104 21 = (n : Int) := ⟨(f 104 21).toNat, by omega⟩
    rw [hn, Int.toNat_natCast]
    have hn6 : n < 5 := by omega
    have fr : FP (Pman n) f (manN n f).2 := by
      unfold manN
      refine thn_p (P := FP (Pman n) f) (FP.rf.tk.nn (Or.inr (by omega))) (fun _ => thn_p (P := FP (Pman n) f) (FP.rf.tk.nn (Or.inr (by omega))).num (fun _ => thn_p (P := FP (Pman n) f) ((FP.rf.tk.nn (Or.inr (by omega))).num.up (Or.inr (by omega))).num (fun _ => thn_p (P := FP (Pman n) f) (((FP.rf.tk.nn (Or.inr (by omega))).num.up (Or.inr (by omega))).num.up (Or.inr (by omega))).num (fun _ => ?_))))
      exact (((((FP.rf.tk.nn (Or.inr (by omega))).num.up (Or.inr (by omega))).num.up (Or.inr (by omega))).num.up (Or.inr (by omega))).up (Or.inl ⟨rfl, rfl⟩))
    refine ⟨?_, fr, fun hs => ⟨by omega, fun H => ?_⟩⟩
    · unfold manN
      refine thn_p (P := Good) (h.tk.nn (by omega)) (fun _ => thn_p (P := Good) (h.tk.nn (by omega)).num (fun _ => thn_p (P := Good) ((h.tk.nn (by omega)).num.up (by omega) (by omega) (by omega)).num (fun _ => thn_p (P := Good) (((h.tk.nn (by omega)).num.up (by omega) (by omega) (by omega)).num.up (by omega) (by omega) (by omega)).num (fun _ => ?_))))
      exact (((((h.tk.nn (by omega)).num.up (by omega) (by omega) (by omega)).num.up (by omega) (by omega) (by omega)).num.up (by omega) (by omega) (by omega)).cnt (Or.inr (Or.inl ⟨rfl, by omega⟩)))
    · unfold manN at hs fr ⊢
      obtain ⟨s1, hs, e1⟩ := thn_s hs
      obtain ⟨s2, hs, e2⟩ := thn_s hs
      obtain ⟨s3, hs, e3⟩ := thn_s hs
      obtain ⟨s4, hs, e4⟩ := thn_s hs
      have n2 := numF_t s2
      have n3 := numF_t s3
      have n4 := numF_t s4
      rw [e1, e2, e3, e4] at fr ⊢
      generalize (nnF 112 5 n (tkF f)).2 = A at *
      generalize (numF 1 60 A).2 = B at *
      have o1 := fun a j h => numF_o (f := u2 B 113 (5 + n) (B 104 11)) (lo := 1) (hi := 40) (b := a) (j := j) h
      generalize (numF 1 40 (u2 B 113 (5 + n) (B 104 11))).2 = C at *
      have o2 := fun a j h => numF_o (f := u2 C 114 (5 + n) (C 104 11)) (lo := 1) (hi := 30) (b := a) (j := j) h
      generalize (numF 1 30 (u2 C 114 (5 + n) (C 104 11))).2 = D at *
      refine H.man hn fr (by simp only; rw [u2_s]) ?_ ?_ ?_
      · simp only
        rw [u2_o (by omega), u2_o (by omega), o2 _ _ (by omega), u2_o (by omega), o1 _ _ (by omega), u2_s, n2.2.2.2]
        exact n2.2.1
      · simp only
        rw [u2_o (by omega), u2_o (by omega), o2 _ _ (by omega), u2_s, n3.2.2.2]
        exact n3.2.1
      · simp only
        rw [u2_o (by omega), u2_s, n4.2.2.2]
        exact n4.2.1
def Phold (n : Nat) (a k : Nat) : Prop := (a = 104 ∧ k = 22) ∨ (116 ≤ a ∧ a ≤ 119 ∧ k = 3 + n)
theorem RD.hold {f F : IT} {n : Nat} (H : RD f) (hc : f 104 22 = (n : Int)) (fr : FP (Phold n) f F) (hc2 : F 104 22 = (n : Int) + 1) (r1 : 0 ≤ F 117 (3 + n) ∧ F 117 (3 + n) ≤ 9) (r2 : 0 ≤ F 118 (3 + n) ∧ F 118 (3 + n) ≤ 99) (r3 : 0 ≤ F 119 (3 + n) ∧ F 119 (3 + n) ≤ 99) : RD F := by
  obtain ⟨h1, h2, h3, h4, h5, h6, h7, h8⟩ := H
  have e : ∀ a k, a ≠ 104 → ¬ (116 ≤ a ∧ a ≤ 119) → F a k = f a k := fun a k h1 ha => fr a k (by omega) (by unfold Phold; omega)
  have e2 : ∀ k, 20 ≤ k → k ≠ 22 → F 104 k = f 104 k := fun k h1 ha => fr 104 k (by omega) (by unfold Phold; omega)
  unfold RD
  rw [hc2, e2 20 (by omega) (by omega), e2 21 (by omega) (by omega), e2 23 (by omega) (by omega), e2 24 (by omega) (by omega), e2 26 (by omega) (by omega), e2 27 (by omega) (by omega)]
  rw [hc, Int.toNat_natCast] at h3
  rw [hc] at h4
  refine ⟨h1.cg (fun a k _ _ => e a k (by omega) (by omega)), h2.cg (fun a k _ _ => e a k (by omega) (by omega)), fun k hk => ?_, h4.cg (fun a k _ _ => e a k (by omega) (by omega)) (fun k _ => e 123 k (by omega) (by omega)) (by omega), h5.cg (fun a k _ _ => e a k (by omega) (by omega)), h6.cg (fun a k _ => e a k (by omega) (by omega)) (e2 25 (by omega) (by omega)) (e2 61 (by omega) (by omega)), h7, h8⟩
  by_cases c : k = n
  · subst c; exact ⟨r1, r2, r3⟩
  · rw [fr 117 _ (by omega) (by unfold Phold; omega), fr 118 _ (by omega) (by unfold Phold; omega), fr 119 _ (by omega) (by unfold Phold; omega)]
    exact h3 k (by omega)
theorem holdF_ok {f : IT} (h : Good f) : Good (holdF f).2 ∧ FP (Phold (f 104 22).toNat) f (holdF f).2 ∧ ((holdF f).1 = true → f 104 22 < 3 ∧ (RD f → RD (holdF f).2)) := by
  have hc := h.2.2.2.2.2.1
  unfold holdF
  split
  · exact ⟨h.wrg, FP.rf.wrg, fun q => by cases q⟩
  · rename_i e6
    obtain ⟨n, hn⟩ : ∃ n : Nat, f 104 22 = (n : Int) := ⟨(f 104 22).toNat, by omega⟩
    rw [hn, Int.toNat_natCast]
    have hn6 : n < 3 := by omega
    have fr : FP (Phold n) f (holdN n f).2 := by
      unfold holdN
      refine thn_p (P := FP (Phold n) f) (FP.rf.tk.nn (Or.inr (by omega))) (fun _ => thn_p (P := FP (Phold n) f) (FP.rf.tk.nn (Or.inr (by omega))).num (fun _ => thn_p (P := FP (Phold n) f) ((FP.rf.tk.nn (Or.inr (by omega))).num.up (Or.inr (by omega))).num (fun _ => thn_p (P := FP (Phold n) f) (((FP.rf.tk.nn (Or.inr (by omega))).num.up (Or.inr (by omega))).num.up (Or.inr (by omega))).num (fun _ => ?_))))
      exact (((((FP.rf.tk.nn (Or.inr (by omega))).num.up (Or.inr (by omega))).num.up (Or.inr (by omega))).num.up (Or.inr (by omega))).up (Or.inl ⟨rfl, rfl⟩))
    refine ⟨?_, fr, fun hs => ⟨by omega, fun H => ?_⟩⟩
    · unfold holdN
      refine thn_p (P := Good) (h.tk.nn (by omega)) (fun _ => thn_p (P := Good) (h.tk.nn (by omega)).num (fun _ => thn_p (P := Good) ((h.tk.nn (by omega)).num.up (by omega) (by omega) (by omega)).num (fun _ => thn_p (P := Good) (((h.tk.nn (by omega)).num.up (by omega) (by omega) (by omega)).num.up (by omega) (by omega) (by omega)).num (fun _ => ?_))))
      exact (((((h.tk.nn (by omega)).num.up (by omega) (by omega) (by omega)).num.up (by omega) (by omega) (by omega)).num.up (by omega) (by omega) (by omega)).cnt (Or.inr (Or.inr (Or.inl ⟨rfl, by omega⟩))))
    · unfold holdN at hs fr ⊢
      obtain ⟨s1, hs, e1⟩ := thn_s hs
      obtain ⟨s2, hs, e2⟩ := thn_s hs
      obtain ⟨s3, hs, e3⟩ := thn_s hs
      obtain ⟨s4, hs, e4⟩ := thn_s hs
      have n2 := numF_t s2
      have n3 := numF_t s3
      have n4 := numF_t s4
      rw [e1, e2, e3, e4] at fr ⊢
      generalize (nnF 116 3 n (tkF f)).2 = A at *
      generalize (numF 0 9 A).2 = B at *
      have o1 := fun a j h => numF_o (f := u2 B 117 (3 + n) (B 104 11)) (lo := 0) (hi := 99) (b := a) (j := j) h
      generalize (numF 0 99 (u2 B 117 (3 + n) (B 104 11))).2 = C at *
      have o2 := fun a j h => numF_o (f := u2 C 118 (3 + n) (C 104 11)) (lo := 0) (hi := 99) (b := a) (j := j) h
      generalize (numF 0 99 (u2 C 118 (3 + n) (C 104 11))).2 = D at *
      refine H.hold hn fr (by simp only; rw [u2_s]) ?_ ?_ ?_
      · simp only
        rw [u2_o (by omega), u2_o (by omega), o2 _ _ (by omega), u2_o (by omega), o1 _ _ (by omega), u2_s, n2.2.2.2]
        exact n2.2.1
      · simp only
        rw [u2_o (by omega), u2_o (by omega), o2 _ _ (by omega), u2_s, n3.2.2.2]
        exact n3.2.1
      · simp only
        rw [u2_o (by omega), u2_s, n4.2.2.2]
        exact n4.2.1
def Pjudge (n : Nat) (a k : Nat) : Prop := (a = 104 ∧ k = 24) ∨ (124 ≤ a ∧ a ≤ 126 ∧ k = 4 + n)
theorem RD.judge {f F : IT} {n : Nat} (H : RD f) (hc : f 104 24 = (n : Int)) (fr : FP (Pjudge n) f F) (hc2 : F 104 24 = (n : Int) + 1) (r1 : 0 ≤ F 125 (4 + n) ∧ F 125 (4 + n) ≤ 100) (r2 : 0 ≤ F 126 (4 + n) ∧ F 126 (4 + n) ≤ 100) : RD F := by
  obtain ⟨h1, h2, h3, h4, h5, h6, h7, h8⟩ := H
  have e : ∀ a k, a ≠ 104 → ¬ (124 ≤ a ∧ a ≤ 126) → F a k = f a k := fun a k h1 ha => fr a k (by omega) (by unfold Pjudge; omega)
  have e2 : ∀ k, 20 ≤ k → k ≠ 24 → F 104 k = f 104 k := fun k h1 ha => fr 104 k (by omega) (by unfold Pjudge; omega)
  unfold RD
  rw [hc2, e2 20 (by omega) (by omega), e2 21 (by omega) (by omega), e2 22 (by omega) (by omega), e2 23 (by omega) (by omega), e2 26 (by omega) (by omega), e2 27 (by omega) (by omega)]
  rw [hc, Int.toNat_natCast] at h5
  refine ⟨h1.cg (fun a k _ _ => e a k (by omega) (by omega)), h2.cg (fun a k _ _ => e a k (by omega) (by omega)), h3.cg (fun a k _ _ => e a k (by omega) (by omega)), h4.cg (fun a k _ _ => e a k (by omega) (by omega)) (fun k _ => e 123 k (by omega) (by omega)) (by omega), fun k hk => ?_, h6.cg (fun a k _ => e a k (by omega) (by omega)) (e2 25 (by omega) (by omega)) (e2 61 (by omega) (by omega)), h7, h8⟩
  by_cases c : k = n
  · subst c; exact ⟨r1, r2⟩
  · rw [fr 125 _ (by omega) (by unfold Pjudge; omega), fr 126 _ (by omega) (by unfold Pjudge; omega)]
    exact h5 k (by omega)
theorem judgF_ok {f : IT} (h : Good f) : Good (judgF f).2 ∧ FP (Pjudge (f 104 24).toNat) f (judgF f).2 ∧ ((judgF f).1 = true → f 104 24 < 4 ∧ (RD f → RD (judgF f).2)) := by
  have hc := h.2.2.2.2.2.2.2.1
  unfold judgF
  split
  · exact ⟨h.wrg, FP.rf.wrg, fun q => by cases q⟩
  · rename_i e6
    obtain ⟨n, hn⟩ : ∃ n : Nat, f 104 24 = (n : Int) := ⟨(f 104 24).toNat, by omega⟩
    rw [hn, Int.toNat_natCast]
    have hn6 : n < 4 := by omega
    have fr : FP (Pjudge n) f (judgN n f).2 := by
      unfold judgN
      refine thn_p (P := FP (Pjudge n) f) (FP.rf.tk.nn (Or.inr (by omega))) (fun _ => thn_p (P := FP (Pjudge n) f) (FP.rf.tk.nn (Or.inr (by omega))).num (fun _ => thn_p (P := FP (Pjudge n) f) ((FP.rf.tk.nn (Or.inr (by omega))).num.up (Or.inr (by omega))).num (fun _ => ?_)))
      exact ((((FP.rf.tk.nn (Or.inr (by omega))).num.up (Or.inr (by omega))).num.up (Or.inr (by omega))).up (Or.inl ⟨rfl, rfl⟩))
    refine ⟨?_, fr, fun hs => ⟨by omega, fun H => ?_⟩⟩
    · unfold judgN
      refine thn_p (P := Good) (h.tk.nn (by omega)) (fun _ => thn_p (P := Good) (h.tk.nn (by omega)).num (fun _ => thn_p (P := Good) ((h.tk.nn (by omega)).num.up (by omega) (by omega) (by omega)).num (fun _ => ?_)))
      exact ((((h.tk.nn (by omega)).num.up (by omega) (by omega) (by omega)).num.up (by omega) (by omega) (by omega)).cnt (Or.inr (Or.inr (Or.inr (Or.inr (Or.inl ⟨rfl, by omega⟩))))))
    · unfold judgN at hs fr ⊢
      obtain ⟨s1, hs, e1⟩ := thn_s hs
      obtain ⟨s2, hs, e2⟩ := thn_s hs
      obtain ⟨s3, hs, e3⟩ := thn_s hs
      have n2 := numF_t s2
      have n3 := numF_t s3
      rw [e1, e2, e3] at fr ⊢
      generalize (nnF 124 4 n (tkF f)).2 = A at *
      generalize (numF 0 100 A).2 = B at *
      have o1 := fun a j h => numF_o (f := u2 B 125 (4 + n) (B 104 11)) (lo := 0) (hi := 100) (b := a) (j := j) h
      generalize (numF 0 100 (u2 B 125 (4 + n) (B 104 11))).2 = C at *
      refine H.judge hn fr (by simp only; rw [u2_s]) ?_ ?_
      · simp only
        rw [u2_o (by omega), u2_o (by omega), o1 _ _ (by omega), u2_s, n2.2.2.2]
        exact n2.2.1
      · simp only
        rw [u2_o (by omega), u2_s, n3.2.2.2]
        exact n3.2.1

