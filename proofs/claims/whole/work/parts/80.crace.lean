/-! the race: the class's racer against the reference's row -/
/-- the walk w is the race of man m by plan p with the row r and the number d -/
def WR (T : TT) (w : Nat) (on m p : Int) (r : Nat → Int) (d : Int) (f : IT) (g : JT) : Prop :=
  f w 0 = on ∧ g w 14 = d ∧ (on = 0 ∨ on = 1) ∧ (0 ≤ d ∧ d < 2147483648) ∧ (on = 1 → RWf T m p r ∧ f w 1 = m ∧ f w 2 = p ∧ f w 3 = r 6 ∧ f w 4 = T 117 (r 6).toNat ∧ f w 5 = r 5 ∧ f w 6 = T 113 m.toNat ∧ f w 7 = r 2 ∧ f w 8 = r 3 ∧ f w 9 = r 1 ∧ f w 10 = r 0 ∧ f w 11 = r 4 ∧ ∃ (k : Nat) (v : Int), PO T (r 0) k v ∧ f w 12 = (k : Int) ∧ f w 13 = v)
theorem WR.cg {T : TT} {w : Nat} {on m p d : Int} {r : Nat → Int} {f f' : IT} {g g' : JT} (h : WR T w on m p r d f g) (e : ∀ k, f' w k = f w k) (e2 : g' w 14 = g w 14) : WR T w on m p r d f' g' := by
  unfold WR at *
  rw [e2]
  simp only [e]
  exact h
theorem RWf.cg {T : TT} {m p : Int} {r r' : Nat → Int} (h : RWf T m p r) (e : ∀ i, i < 7 → r' i = r i) : RWf T m p r' := by
  unfold RWf at *
  rw [e 0 (by omega), e 2 (by omega), e 3 (by omega), e 5 (by omega), e 6 (by omega)]
  exact h
theorem WR.cr {T : TT} {w : Nat} {on m p d : Int} {r r' : Nat → Int} {f : IT} {g : JT} (h : WR T w on m p r d f g) (e : ∀ i, i < 7 → r' i = r i) : WR T w on m p r' d f g := by
  obtain ⟨h1, h2, h3, h4, h5⟩ := h
  refine ⟨h1, h2, h3, h4, fun ho => ?_⟩
  obtain ⟨q1, q2, q3, q4, q5, q6, q7, q8, q9, q10, q11, q12, q13⟩ := h5 ho
  rw [e 0 (by omega), e 1 (by omega), e 2 (by omega), e 3 (by omega), e 4 (by omega), e 5 (by omega), e 6 (by omega)]
  exact ⟨q1.cg e, q2, q3, q4, q5, q6, q7, q8, q9, q10, q11, q12, q13⟩
/-- the walk v taken over into w -/
theorem WR.tak {T : TT} {w v : Nat} {on m p d : Int} {r : Nat → Int} {f : IT} {g : JT} (h : WR T v on m p r d f g) (hg : ∀ k, k < 14 → takF w v f w k = f v k) : WR T w on m p r d (takF w v f) (u2 g w 14 (g v 14)) := by
  obtain ⟨h1, h2, h3, h4, h5⟩ := h
  unfold WR
  rw [hg 0 (by omega), hg 1 (by omega), hg 2 (by omega), hg 3 (by omega), hg 4 (by omega), hg 5 (by omega), hg 6 (by omega), hg 7 (by omega), hg 8 (by omega), hg 9 (by omega), hg 10 (by omega), hg 11 (by omega), hg 12 (by omega), hg 13 (by omega), u2_s]
  exact ⟨h1, h2, h3, h4, h5⟩
theorem takF_w {w v k : Nat} {f : IT} (hk : k < 14) : takF w v f w k = f v k := by unfold takF; rw [if_pos ⟨rfl, hk⟩]
theorem takF_o {w v a k : Nat} {f : IT} (h : a ≠ w) : takF w v f a k = f a k := by unfold takF; rw [if_neg (fun q => h q.1)]
/-- the past walks: all different -/
def PI (ρ : RT) : Prop := (∀ i, i < 20 → ∃ a, ρ 63 i = some a ∧ 84 ≤ a ∧ a ≤ 103) ∧ ∀ i j a, i < 20 → j < 20 → ρ 63 i = some a → ρ 63 j = some a → i = j
/-- racer, past and image of the class against the reference's φ, γ -/
def RSm (T : TT) (ρ : RT) (f : IT) (g : JT) (φ : IT) (γ : JT) : Prop :=
  WR T 62 (φ 104 78) (φ 104 79) (φ 104 80) (φ 137) (γ 104 69) f g ∧
  (f 0 10 = φ 104 82 ∧ (0 ≤ φ 104 82 ∧ φ 104 82 ≤ 20) ∧ (0 < φ 104 82 → φ 104 78 = 1)) ∧ PI ρ ∧
  (∀ u : Nat, (u : Int) < φ 104 82 → ∀ a, ρ 63 u = some a → WR T a 1 (φ 104 79) (φ 104 80) (fun i => φ 138 (8 * u + i)) (φ 138 (8 * u + 7)) f g) ∧
  (f 0 12 = φ 104 97 ∧ (φ 104 97 = 0 ∨ φ 104 97 = 1)) ∧
  (φ 104 97 = 1 → WR T 64 (φ 104 98) (φ 104 99) (φ 104 100) (φ 147) (γ 104 102) f g ∧ f 0 13 = φ 104 103 ∧ (0 ≤ φ 104 103 ∧ φ 104 103 ≤ 30) ∧ f 0 14 = φ 104 104 ∧ (φ 104 104 = 0 ∨ φ 104 104 = 1)) ∧
  (f 0 5 = φ 104 67 ∧ (0 ≤ φ 104 67 ∧ φ 104 67 ≤ 30)) ∧ (f 0 6 = φ 104 68 ∧ (φ 104 68 = 0 ∨ φ 104 68 = 1))
theorem kdW {a : Nat} (h : 84 ≤ a ∧ a ≤ 103 ∨ a = 62 ∨ a = 64 ∨ a = 65 ∨ a = 67) : kd a = (10, 0) := by
  rcases h with h | rfl | rfl | rfl | rfl
  · rcases (show a = 84 ∨ a = 85 ∨ a = 86 ∨ a = 87 ∨ a = 88 ∨ a = 89 ∨ a = 90 ∨ a = 91 ∨ a = 92 ∨ a = 93 ∨ a = 94 ∨ a = 95 ∨ a = 96 ∨ a = 97 ∨ a = 98 ∨ a = 99 ∨ a = 100 ∨ a = 101 ∨ a = 102 ∨ a = 103 by omega) with rfl | rfl | rfl | rfl | rfl | rfl | rfl | rfl | rfl | rfl | rfl | rfl | rfl | rfl | rfl | rfl | rfl | rfl | rfl | rfl <;> rfl
  all_goals rfl
/-- the racer's cells -/
def rcC (a k : Nat) : Prop := (62 ≤ a ∧ a ≤ 64) ∨ (84 ≤ a ∧ a ≤ 103) ∨ (a = 0 ∧ (k = 5 ∨ k = 6 ∨ k = 10 ∨ 12 ≤ k ∧ k ≤ 14))
theorem RSm.cg {T : TT} {ρ ρ' : RT} {f f' : IT} {g g' : JT} {φ : IT} {γ : JT} (h : RSm T ρ f g φ γ) (e : ∀ a k, rcC a k → f' a k = f a k) (e2 : ∀ a k, rcC a k → g' a k = g a k) (e3 : ∀ k, ρ' 63 k = ρ 63 k) : RSm T ρ' f' g' φ γ := by
  obtain ⟨h1, h2, h3, h4, h5, h6, h7, h8⟩ := h
  have hw : ∀ {a on m p d r}, (62 ≤ a ∧ a ≤ 64) ∨ (84 ≤ a ∧ a ≤ 103) → WR T a on m p r d f g → WR T a on m p r d f' g' := fun ha hw => hw.cg (fun k => e _ k (by unfold rcC; omega)) (e2 _ 14 (by unfold rcC; omega))
  refine ⟨hw (by omega) h1, ?_, ⟨fun i hi => ?_, fun i j a hi hj => ?_⟩, fun u hu a ha => ?_, ?_, fun hi => ?_, ?_, ?_⟩
  · rw [e 0 10 (by unfold rcC; omega)]; exact h2
  · rw [e3]; exact h3.1 i hi
  · rw [e3, e3]; exact h3.2 i j a hi hj
  · rw [e3] at ha
    obtain ⟨a', ha', hr⟩ := h3.1 u (by omega)
    rw [ha] at ha'
    cases ha'
    exact hw (by omega) (h4 u hu a ha)
  · rw [e 0 12 (by unfold rcC; omega)]; exact h5
  · rw [e 0 13 (by unfold rcC; omega), e 0 14 (by unfold rcC; omega)]
    exact ⟨hw (by omega) (h6 hi).1, (h6 hi).2⟩
  · rw [e 0 5 (by unfold rcC; omega)]; exact h7
  · rw [e 0 6 (by unfold rcC; omega)]; exact h8
/-- the reference's cells that the race's likeness speaks of -/
theorem RSm.cp {T : TT} {ρ : RT} {f : IT} {g : JT} {φ φ' : IT} {γ γ' : JT} (h : RSm T ρ f g φ γ) (e : ∀ k, k = 67 ∨ k = 68 ∨ 78 ≤ k ∧ k ≤ 82 ∨ 97 ≤ k ∧ k ≤ 104 → φ' 104 k = φ 104 k) (e1 : φ' 137 = φ 137) (e2 : φ' 138 = φ 138) (e3 : φ' 147 = φ 147) (e4 : γ' 104 69 = γ 104 69) (e5 : γ' 104 102 = γ 104 102) : RSm T ρ f g φ' γ' := by
  unfold RSm at *
  rw [e 67 (by omega), e 68 (by omega), e 78 (by omega), e 79 (by omega), e 80 (by omega), e 82 (by omega), e 97 (by omega), e 98 (by omega), e 99 (by omega), e 100 (by omega), e 103 (by omega), e 104 (by omega), e1, e2, e3, e4, e5]
  exact h

