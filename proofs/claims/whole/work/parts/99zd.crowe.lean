theorem thn_as {x : Bool × IT} {k k' : IT → Bool × IT} : thn (thn x k) k' = thn x (fun y => thn (k y) k') := by
  cases h : x.1 with
  | true => rw [thn_t h, thn_t h]
  | false => rw [thn_f h, thn_f h, thn_f rfl]
theorem thn_tt {y : IT} {k : IT → Bool × IT} : thn (true, y) k = k y := thn_t rfl
theorem rwK_ne {i j d : Nat} (hi : i < 5) (hj : j < 5) (hne : j ≠ i) (h : nmR j + d < nmR (j + 1) ∨ (j = 4 ∧ d < 3)) : ¬ rwK i (nmR j + d) := by
  unfold rwK
  have e0 : nmR 0 = 107 := rfl
  have e1 : nmR 1 = 112 := rfl
  have e2 : nmR 2 = 116 := rfl
  have e3 : nmR 3 = 120 := rfl
  have e4 : nmR 4 = 124 := rfl
  have e5 : nmR 5 = 124 := rfl
  rcases (show i = 0 ∨ i = 1 ∨ i = 2 ∨ i = 3 ∨ i = 4 by omega) with rfl | rfl | rfl | rfl | rfl <;> rcases (show j = 0 ∨ j = 1 ∨ j = 2 ∨ j = 3 ∨ j = 4 by omega) with rfl | rfl | rfl | rfl | rfl <;> simp only [Nat.zero_add, Nat.reduceAdd, e0, e1, e2, e3, e4, e5] at h ⊢ <;> omega
theorem nm_lt : ∀ j : Nat, j < 5 → (nmR j + 0 < nmR (j + 1) ∨ (j = 4 ∧ 0 < 3)) := by decide
section CROWE
variable {ρ : RT} {g : JT} {b i n : Nat}
/-- a row more: the class's spare is again what the reference has read -/
theorem CT_close {φ φ' f f' : IT} (hb : b = 5 ∨ b = 30) (hi : i < 5) (hC : CT (rdT φ) b f) (hn : φ 104 (20 + i) = (n : Int)) (e104 : ∀ j, j < 5 → j ≠ i → φ' 104 (20 + j) = φ 104 (20 + j)) (ei : φ' 104 (20 + i) = (n : Int) + 1) (e25 : φ' 104 25 = φ 104 25)
    (eR : ∀ a k, 107 ≤ a → a ≤ 132 → ¬ (rwK i a ∧ half a + n * (if a = 123 then 6 else 1) ≤ k) → φ' a k = φ a k) (h122 : i = 3 → ∀ k, k < n → φ 122 (5 + k) ≤ 6)
    (ef : ∀ a k, b ≤ a → a ≤ b + 24 → ¬ (a = b + 2 + 3 * i ∧ k = 4) → ¬ (a = b + 3 + 3 * i ∧ k = n) → ¬ (a = b + 4 + 3 * i ∧ n * wdK i ≤ k) → f' a k = f a k) (s4 : f' (b + 2 + 3 * i) 4 = (n : Int) + 1) (nm : f' (b + 3 + 3 * i) n = φ' (nmR i) (mxK i + n)) (cl : ∀ j, j < wdK i → f' (b + 4 + 3 * i) (n * wdK i + j) = tcl (rdT φ') i n j) : CT (rdT φ') b f' := by
  obtain ⟨c1, c2, c3, c4⟩ := hC
  have hE : ∀ a k, 107 ≤ a → a ≤ 132 → ¬ (rwK i a ∧ n * (if a = 123 then 6 else 1) ≤ k) → rdT φ' a k = rdT φ a k := fun a k h1 h2 h3 => by
    unfold rdT
    rw [if_neg (by omega), if_neg (by omega)]
    exact eR a _ h1 h2 (fun z => h3 ⟨z.1, by have := z.2; omega⟩)
  have hne : ∀ j d : Nat, j < 5 → j ≠ i → d < 5 → (nmR j + d < nmR (j + 1) ∨ (j = 4 ∧ d < 3)) → ¬ rwK i (nmR j + d) := fun j d h1 h2 h3 h4 => rwK_ne hi h1 h2 h4
  have hrow : ∀ (j d k : Nat), j < 5 → d < 5 → (nmR j + d < nmR (j + 1) ∨ (j = 4 ∧ d < 3)) → nmR j + d ≠ 123 → (j = i → k < n) → rdT φ' (nmR j + d) k = rdT φ (nmR j + d) k := fun j d k h1 h2 h3 h4 h5 => by
    have hr := nmR_r j h1
    refine hE _ _ (by omega) (by omega) (fun z => ?_)
    rw [if_neg h4] at z
    by_cases e : j = i
    · have := h5 e; omega
    · exact hne j d h1 e h2 h3 z.1
  have htcl : ∀ (j k c : Nat), j < 5 → (j = i → k < n) → c < wdK j → tcl (rdT φ') j k c = tcl (rdT φ) j k c := fun j k c h1 h5 hc => by
    rcases (show j = 0 ∨ j = 1 ∨ j = 2 ∨ j = 3 ∨ j = 4 by omega) with rfl | rfl | rfl | rfl | rfl
    · have a1 := hrow 0 1 k (by omega) (by omega) (by decide) (by decide) h5
      have a2 := hrow 0 2 k (by omega) (by omega) (by decide) (by decide) h5
      have a3 := hrow 0 3 k (by omega) (by omega) (by decide) (by decide) h5
      have a4 := hrow 0 4 k (by omega) (by omega) (by decide) (by decide) h5
      change rdT φ' 108 k = rdT φ 108 k at a1
      change rdT φ' 109 k = rdT φ 109 k at a2
      change rdT φ' 110 k = rdT φ 110 k at a3
      change rdT φ' 111 k = rdT φ 111 k at a4
      simp only [tcl, if_true, a1, a2, a3, a4]
    · have a1 := hrow 1 1 k (by omega) (by omega) (by decide) (by decide) h5
      have a2 := hrow 1 2 k (by omega) (by omega) (by decide) (by decide) h5
      have a3 := hrow 1 3 k (by omega) (by omega) (by decide) (by decide) h5
      change rdT φ' 113 k = rdT φ 113 k at a1
      change rdT φ' 114 k = rdT φ 114 k at a2
      change rdT φ' 115 k = rdT φ 115 k at a3
      simp [tcl, a1, a2, a3]
    · have a1 := hrow 2 1 k (by omega) (by omega) (by decide) (by decide) h5
      have a2 := hrow 2 2 k (by omega) (by omega) (by decide) (by decide) h5
      have a3 := hrow 2 3 k (by omega) (by omega) (by decide) (by decide) h5
      change rdT φ' 117 k = rdT φ 117 k at a1
      change rdT φ' 118 k = rdT φ 118 k at a2
      change rdT φ' 119 k = rdT φ 119 k at a3
      simp [tcl, a1, a2, a3]
    · have a1 := hrow 3 1 k (by omega) (by omega) (by decide) (by decide) h5
      have a2 := hrow 3 2 k (by omega) (by omega) (by decide) (by decide) h5
      change rdT φ' 121 k = rdT φ 121 k at a1
      change rdT φ' 122 k = rdT φ 122 k at a2
      have hw : wdK 3 = 7 := rfl
      have e122 : rdT φ 122 k = φ 122 (5 + k) := rfl
      have a3 : ∀ c', c' ≤ 5 → pce (rdT φ') k c' = pce (rdT φ) k c' := fun c' hc' => by
        unfold pce
        rw [a2]
        refine hE 123 _ (by omega) (by omega) (fun z => ?_)
        rw [if_pos rfl] at z
        by_cases e : 3 = i
        · have h6 := h122 e.symm k (h5 e)
          have := h5 e
          have z2 := z.2
          split at z2 <;> omega
        · exact absurd z.1 (hne 3 3 (by omega) e (by omega) (by decide))
      simp only [tcl]
      rw [a1]
      simp only [show (3 : Nat) ≠ 0 from by decide, show (3 : Nat) ≠ 1 from by decide, show (3 : Nat) ≠ 2 from by decide, if_false, if_true]
      by_cases c0 : c = 0
      · rw [if_pos c0, if_pos c0]
      · rw [if_neg c0, if_neg c0]; exact a3 _ (by omega)
    · have a1 := hrow 4 1 k (by omega) (by omega) (by decide) (by decide) h5
      have a2 := hrow 4 2 k (by omega) (by omega) (by decide) (by decide) h5
      change rdT φ' 125 k = rdT φ 125 k at a1
      change rdT φ' 126 k = rdT φ 126 k at a2
      simp [tcl, a1, a2]
  refine ⟨fun j hj => ?_, fun j k hj hk => ?_, fun j k c hj hk hc => ?_, ?_⟩
  · have := c1 j hj
    rw [rdT_n] at this ⊢
    by_cases e : j = i
    · subst e
      rw [ei]
      exact ⟨s4, by rw [ef _ _ (by omega) (by omega) (by omega) (by omega) (by omega)]; exact this.2.1, by rw [ef _ _ (by omega) (by omega) (by omega) (by omega) (by omega)]; exact this.2.2⟩
    · rw [e104 j hj e, ef _ 4 (by omega) (by omega) (by omega) (by omega) (by omega), ef _ 0 (by omega) (by omega) (by omega) (by omega) (by omega), ef _ 1 (by omega) (by omega) (by omega) (by omega) (by omega)]
      exact this
  · rw [rdT_n] at hk
    have old := c2 j k hj
    rw [rdT_n, namT_r j hj] at old
    rw [namT_r j hj]
    have hro := nmR_r j hj
    by_cases e : j = i
    · subst e
      rw [ei] at hk
      by_cases ek : k = n
      · rw [ek]; exact nm
      · rw [ef _ _ (by omega) (by omega) (by omega) (by omega) (by omega), old (by omega)]
        exact (eR _ _ (by omega) (by omega) (fun z => by have := z.2; rw [half_nm j hj] at this; split at this <;> omega)).symm
    · rw [e104 j hj e] at hk
      rw [ef _ _ (by omega) (by omega) (by omega) (by omega) (by omega), old hk]
      exact (eR _ _ (by omega) (by omega) (fun z => hne j 0 hj e (by omega) (nm_lt j hj) z.1)).symm
  · rw [rdT_n] at hk
    have hm := mw_r j hj
    by_cases e : j = i
    · subst e
      rw [ei] at hk
      by_cases ek : k = n
      · rw [ek]; exact cl c hc
      · have hlt : k * wdK j + c < n * wdK j := cix (by omega) hc
        rw [ef _ _ (by omega) (by omega) (by omega) (by omega) (by omega), c3 j k c hj (by rw [rdT_n]; omega) hc]
        exact (htcl j k c hj (fun _ => by omega) hc).symm
    · rw [e104 j hj e] at hk
      rw [ef _ _ (by omega) (by omega) (by omega) (by omega) (by omega), c3 j k c hj (by rw [rdT_n]; exact hk) hc]
      exact (htcl j k c hj (fun z => absurd z e) hc).symm
  · have r17 : rdT φ' 104 17 = rdT φ 104 17 := e25
    have nr : ∀ a, 127 ≤ a → a ≤ 132 → ¬ rwK i a := fun a h1 h2 z => by
      have : ∀ i : Nat, i < 5 → nmR (i + 1) ≤ 124 := by decide
      have := this i hi
      unfold rwK at z
      omega
    have rr : ∀ a, 127 ≤ a → a ≤ 132 → rdT φ' a = rdT φ a := fun a h1 h2 => funext (fun k => hE a k (by omega) h2 (fun z => nr a h1 h2 z.1))
    unfold CL us at *
    rw [r17, rr 127 (by omega) (by omega), rr 128 (by omega) (by omega), rr 129 (by omega) (by omega), rr 130 (by omega) (by omega), rr 131 (by omega) (by omega)]
    refine ⟨?_, fun w hw => ?_, fun q hq => ?_, fun m hm => ?_⟩
    · rw [ef _ _ (by omega) (by omega) (by omega) (by omega) (by omega)]; exact c4.1
    · rw [ef _ _ (by omega) (by omega) (by omega) (by omega) (by omega), ef _ _ (by omega) (by omega) (by omega) (by omega) (by omega)]; exact c4.2.1 w hw
    · rw [ef _ _ (by omega) (by omega) (by omega) (by omega) (by omega), ef _ _ (by omega) (by omega) (by omega) (by omega) (by omega)]; exact c4.2.2.1 q hq
    · rw [ef _ _ (by omega) (by omega) (by omega) (by omega) (by omega)]; exact c4.2.2.2 m hm
end CROWE

