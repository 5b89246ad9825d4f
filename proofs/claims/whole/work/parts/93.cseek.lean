section SEEK
variable {T : TT} {c : CC} {q : Int} {st : Nat} {b : Nat}
def bwV (T : TT) (c : CC) (hc q : Int) (st : Nat) : Int := if (vst T c hc q (nLa T) 0 st).1 = 99999 then -1 else BB T c hc q (nLa T) 0 st
/-- what a search leaves -/
def SKf (b : Nat) (ρ : RT) (f : IT) (g : JT) (ρ' : RT) (f' : IT) (g' : JT) : Prop := (∀ a k, ¬ (a = 66 ∧ 2 ≤ k) → ρ' a k = ρ a k) ∧ (∀ a k, a ≠ 61 → a ≠ 66 → a ≠ 67 → a ≠ 70 → a ≠ 71 → f' a k = f a k) ∧ (∀ k, 8 ≤ k → k ≤ 14 → f' 66 k = f 66 k) ∧ (∀ a, a ≠ 60 → a ≠ b + 22 → a ≠ b + 23 → a ≠ 66 → a ≠ 68 → a ≠ 69 → g' a = g a)
theorem SKf.tr {b : Nat} {ρ ρ' ρ'' : RT} {f f' f'' : IT} {g g' g'' : JT} (h : SKf b ρ f g ρ' f' g') (h' : SKf b ρ' f' g' ρ'' f'' g'') : SKf b ρ f g ρ'' f'' g'' := ⟨fun a k q => (h'.1 a k q).trans (h.1 a k q), fun a k q1 q2 q3 q4 q5 => (h'.2.1 a k q1 q2 q3 q4 q5).trans (h.2.1 a k q1 q2 q3 q4 q5), fun k q1 q2 => (h'.2.2.1 k q1 q2).trans (h.2.2.1 k q1 q2), fun a q1 q2 q3 q4 q5 q6 => (h'.2.2.2 a q1 q2 q3 q4 q5 q6).trans (h.2.2.2 a q1 q2 q3 q4 q5 q6)⟩
theorem SKf.rf {ρ : RT} {f : IT} {g : JT} : SKf b ρ f g ρ f g := ⟨fun _ _ _ => rfl, fun _ _ _ _ _ _ _ => rfl, fun _ _ _ => rfl, fun _ _ _ _ _ _ _ => rfl⟩
theorem ext_mono {t p x y : Int} (hx : 0 ≤ x % 16777216 ∧ x % 16777216 < 1048576) (hp : 1 ≤ p ∧ p ≤ 9) (h : x ≤ y) : ext t p x ≤ ext t p y := by unfold ext; omega
/-- the next states have their least ways -/
theorem LV.next (hk : TOK T) (hC : CR c) {h : Nat} (hh : h < nHo T) (hst : st < 2501) {k : Nat} (hl : k < nLa T) {rA wA rB wB n ns : Nat} {f f' : IT} {g g' : JT} (hL : LV T c (T 117 h) q st k rA wA n f g) (hN : NX T c (T 117 h) q st k rB wB ns f' g') (hD : ∀ i, i < n → ∀ j x : Nat, f rA i = (j : Int) → g wA j = (x : Int) → ∀ p, dnP T c (T 117 h) q k p j (x : Int) wB g') : LV T c (T 117 h) q st (k + 1) rB wB ns f' g' := by
  have h6 := hk.la
  obtain ⟨l1, l2, l3, l4, l5⟩ := hL
  obtain ⟨n1, n2, n3, n4⟩ := hN
  have key : ∀ j y, Pf T c (T 117 h) q st (k + 1) j y → g' wB j ≠ 0 ∧ g' wB j ≤ y := fun j y hy => by
    obtain ⟨j0, x0, p, g1, g2, g3, rfl⟩ := hy
    obtain ⟨i, hi, hij⟩ := l2 j0 x0 g1
    obtain ⟨j1, x1, a1, a2, a3, a4, a5⟩ := l1 i hi
    have ej : j1 = j0 := by rw [hij] at a2; omega
    subst ej
    have hd := hD i hi j1 x1 a2 a3 p g2
    rw [g3] at hd
    have hr := Pf_rng hk hC hh hst k j1 _ (by omega) a4
    have h5 : (16 : Int) ^ k ≤ 16 ^ 5 := p16_le (by omega)
    have e5 : (16 : Int) ^ 5 = 1048576 := by decide
    rw [e5] at h5
    have := ext_mono (t := (tq T c (T 117 h) k p j1).1) (p := (p : Int)) (by have := hr.2.1; omega) (by have := g2.1; omega) (a5 x0 g1)
    exact ⟨hd.1, by omega⟩
  refine ⟨fun i hi => ?_, fun j y hy => ?_, fun j hj hne => (n1 j hj hne).2, by rw [n3]; exact cntz_le 2501, n4⟩
  · obtain ⟨j, a1, a2, a3⟩ := n2 i hi
    obtain ⟨b1, -⟩ := n1 j a1 a3
    have hr := Pf_rng hk hC hh hst (k + 1) j _ (by omega) b1
    refine ⟨j, (g' wB j).toNat, a1, a2, by omega, ?_, fun y hy => ?_⟩
    · rw [show (((g' wB j).toNat : Nat) : Int) = g' wB j by omega]; exact b1
    · have := (key j y hy).2; omega
  · have hr := Pf_rng hk hC hh hst (k + 1) j _ (by omega) hy
    exact (n1 j hr.1 (key j y hy).1).2
theorem mnB_min {rA wA : Nat} {f : IT} {g : JT} : ∀ n : Nat, (∀ i, i < n → ∃ j x : Nat, f rA i = (j : Int) ∧ g wA j = (x : Int)) → (n = 0 ∧ mnB rA wA f g n (-1) = -1) ∨ (0 < n ∧ (∃ i, i < n ∧ mnB rA wA f g n (-1) = g wA (f rA i).toNat) ∧ ∀ i, i < n → mnB rA wA f g n (-1) ≤ g wA (f rA i).toNat)
  | 0, _ => Or.inl ⟨rfl, rfl⟩
  | n + 1, h => by
    right
    have ih := mnB_min n (fun i hi => h i (by omega))
    obtain ⟨j, x, hj, hx⟩ := h n (by omega)
    have ev : g wA (f rA n).toNat = (x : Int) := by rw [hj, Int.toNat_natCast, hx]
    simp only [mnB]
    rw [ev]
    rcases ih with ⟨rfl, e⟩ | ⟨h0, ⟨i, hi, e⟩, hmin⟩
    · rw [e, if_pos (by omega)]
      exact ⟨by omega, ⟨0, by omega, ev.symm⟩, fun i hi => by rw [show i = 0 by omega, ev]; omega⟩
    · obtain ⟨ji, xi, hji, hxi⟩ := h i (by omega)
      have ei : g wA (f rA i).toNat = (xi : Int) := by rw [hji, Int.toNat_natCast, hxi]
      rw [ei] at e
      by_cases z : mnB rA wA f g n (-1) = -1 ∨ (x : Int) < mnB rA wA f g n (-1)
      · rw [if_pos z]
        exact ⟨by omega, ⟨n, by omega, ev.symm⟩, fun i' hi' => by
          by_cases e2 : i' = n
          · rw [e2, ev]; omega
          · have := hmin i' (by omega); omega⟩
      · rw [if_neg z]
        exact ⟨by omega, ⟨i, by omega, by rw [e, ei]⟩, fun i' hi' => by
          by_cases e2 : i' = n
          · rw [e2, ev]; omega
          · exact hmin i' (by omega)⟩
theorem mnB_bw (hk : TOK T) (hC : CR c) {h : Nat} (hh : h < nHo T) (hst : st < 2501) {rA wA n : Nat} {f : IT} {g : JT} (hL : LV T c (T 117 h) q st (nLa T) rA wA n f g) : mnB rA wA f g n (-1) = bwV T c (T 117 h) q st := by
  obtain ⟨l1, l2, l3, l4, l5⟩ := hL
  have hv := vst_way hk hC hh (q := q) (nLa T) 0 st (by omega) hst
  have hm := mnB_min (rA := rA) (wA := wA) (f := f) (g := g) n (fun i hi => by obtain ⟨j, x, a1, a2, a3, -⟩ := l1 i hi; exact ⟨j, x, a2, a3⟩)
  have val : ∀ i, i < n → ∃ x : Nat, g wA (f rA i).toNat = (x : Int) ∧ Sf T c (T 117 h) q (nLa T) 0 st (x : Int) := fun i hi => by
    obtain ⟨j, x, a1, a2, a3, a4, a5⟩ := l1 i hi
    exact ⟨x, by rw [a2, Int.toNat_natCast, a3], (ways_iff hk hC hh hst).mp ⟨j, a4⟩⟩
  unfold bwV
  by_cases z : (vst T c (T 117 h) q (nLa T) 0 st).1 = 99999
  · rw [if_pos z]
    rcases hm with ⟨-, e⟩ | ⟨h0, -, -⟩
    · exact e
    · obtain ⟨x, -, hx⟩ := val 0 h0
      exact absurd hx (hv.2 z _)
  · rw [if_neg z]
    obtain ⟨v1, v2, v3⟩ := hv.1 z
    obtain ⟨j, hj⟩ := (ways_iff hk hC hh hst).mpr v1
    obtain ⟨i, hi, hij⟩ := l2 j _ hj
    obtain ⟨j1, x1, a1, a2, a3, a4, a5⟩ := l1 i hi
    have ej : j1 = j := by rw [hij] at a2; omega
    subst ej
    have hle := a5 _ hj
    rcases hm with ⟨e0, -⟩ | ⟨h0, ⟨i2, hi2, e⟩, hmin⟩
    · omega
    · obtain ⟨x2, e2, hx2⟩ := val i2 hi2
      have h3 := v3 _ hx2
      have h4 := hmin i hi
      have e5 : g wA (f rA i).toNat = (x1 : Int) := by rw [a2, Int.toNat_natCast, a3]
      omega
end SEEK

