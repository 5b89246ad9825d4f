/-! walks along a plan -/
def AG (n : Int) (f f' : IT) : Prop := ((∀ k, f' 55 k = f 55 k) ∨ f 55 5 < f' 55 5) ∧ f' 55 5 ≤ f 55 5 + n
theorem AG.rf {f : IT} : AG 0 f f := ⟨Or.inl (fun _ => rfl), by omega⟩
theorem AG.wk {n m : Int} {f f' : IT} (h : AG n f f') (hm : n ≤ m) : AG m f f' := ⟨h.1, by have := h.2; omega⟩
theorem AG.tr {n m : Int} {f f' f'' : IT} (h : AG n f f') (h' : AG m f' f'') : AG (n + m) f f'' := by
  refine ⟨?_, by have := h.2; have := h'.2; omega⟩
  rcases h.1 with a | a <;> rcases h'.1 with b | b
  · left; intro k; rw [b, a]
  · right; rw [a] at b; exact b
  · right; rw [b]; exact a
  · right; omega
theorem AG.sm {f f' : IT} (h : ∀ k, f' 55 k = f 55 k) : AG 0 f f' := ⟨Or.inl h, by rw [h]; omega⟩
theorem LU.ag {T : TT} {fl ra : Bool} {sk wt : Int} {f f' : IT} {g : JT} (h : LU T fl ra sk wt f g f') : AG 1 f f' := by
  rcases h.2.2.2.2 with e | e
  · rw [e]; exact AG.rf.wk (by omega)
  · exact ⟨Or.inr (by omega), by omega⟩
theorem LU.ge {T : TT} {fl ra : Bool} {sk wt top : Int} {f f' : IT} {g : JT} (h : LU T fl ra sk wt f g f') : GE T (fl, ra, sk, wt, top) f' := ⟨h.2.2.1, h.2.2.2.1⟩
def AWf (b : Nat) (f : IT) (g : JT) (f' : IT) (g' : JT) : Prop := (∀ a k, ¬ (55 ≤ a ∧ a ≤ 61) → a ≠ 65 → f' a k = f a k) ∧ ∀ a, a ≠ 60 → a ≠ b + 22 → a ≠ b + 23 → a ≠ 65 → g' a = g a
theorem AWf.rf {b : Nat} {f : IT} {g : JT} : AWf b f g f g := ⟨fun _ _ _ _ => rfl, fun _ _ _ _ _ => rfl⟩
theorem AWf.tr {b : Nat} {f f' f'' : IT} {g g' g'' : JT} (h : AWf b f g f' g') (h' : AWf b f' g' f'' g'') : AWf b f g f'' g'' := ⟨fun a k q r => (h'.1 a k q r).trans (h.1 a k q r), fun a q r s t => (h'.2 a q r s t).trans (h.2 a q r s t)⟩
theorem SWf.aw {b : Nat} {f f' : IT} {g g' : JT} (h : SWf 65 b f g f' g') : AWf b f g f' g' := ⟨fun a k q r => h.1 a k (by omega) r, h.2⟩
theorem LU.aw {T : TT} {b : Nat} {fl ra : Bool} {sk wt : Int} {f f' : IT} {g : JT} (h : LU T fl ra sk wt f g f') : AWf b f g f' g := ⟨fun a k q r => h.1 a k (by omega) (by omega), fun _ _ _ _ _ => rfl⟩
section RUNS
variable {T : TT} {b w : Nat} {ρ : RT} {f : IT} {g : JT}
theorem thr_tail {c : CC} {k : Nat} {hc pa : Int} : ∀ (n : Nat) (s : SS), thr T c k hc pa (n + 1) s = if (thr T c k hc pa n s).2.2.1 = 0 then thr T c k hc pa n s else one T c k hc pa (thr T c k hc pa n s)
  | 0, s => rfl
  | n + 1, s => by
    rw [thr]
    by_cases e : s.2.2.1 = 0
    · rw [if_pos e, thr_out e, if_pos e]
    · rw [if_neg e, thr_tail n (one T c k hc pa s)]
      have e2 : thr T c k hc pa (n + 1) s = thr T c k hc pa n (one T c k hc pa s) := by rw [thr, if_neg e]
      rw [e2]
theorem sumTo_nn (hk : TOK T) : ∀ j, j ≤ nLa T → 0 ≤ sumTo (T 108) j := fun j hj => (sumTo_rng (B := 20) (by omega) j (fun i hi => by have := hk.lane (k := i) (by omega); omega)).1
theorem thr_ldd (hk : TOK T) {c : CC} {hc : Int} {pc : Nat → Int} {s : SS} {k : Nat} (hl : k < nLa T) : ∀ n : Nat, (n : Int) ≤ T 108 k → thr T c k hc (pc k) n (ldd T c hc pc (sumTo (T 108) k).toNat s) = ldd T c hc pc ((sumTo (T 108) k).toNat + n) s
  | 0, _ => rfl
  | n + 1, hn => by
    have hnn := sumTo_nn hk k (by omega)
    rw [thr_tail, thr_ldd hk hl n (by omega), ← Nat.add_assoc, ldd]
    have : lat T (((sumTo (T 108) k).toNat + n : Nat) : Int) = k := PO.lat hk (v := (n : Int)) ⟨by omega, Or.inl (by omega)⟩
    rw [this]
theorem rn_ldd (hk : TOK T) {c : CC} {hc : Int} {pc : Nat → Int} {s : SS} : ∀ E : Nat, E ≤ nLa T → rn T c hc pc E s = ldd T c hc pc (sumTo (T 108) E).toNat s
  | 0, _ => rfl
  | E + 1, hE => by
    have hnn := sumTo_nn hk E (by omega)
    have hln := hk.lane (k := E) (by omega)
    rw [rn, rn_ldd hk E (by omega), thr_ldd hk (by omega) _ (by omega)]
    congr 1
    have e : sumTo (T 108) (E + 1) = sumTo (T 108) E + T 108 E := rfl
    omega
theorem ldd_rng (hk : TOK T) {c : CC} (hc : CR c) {h : Nat} (hh : h < nHo T) {pc : Nat → Int} (hp : ∀ k, 1 ≤ pc k ∧ pc k ≤ 9) {s : SS} (hs : SR s) (hs4 : s.2.2.1 ≤ 40) : ∀ j : Nat, (j : Int) ≤ allS T → SR (ldd T c (T 117 h) pc j s) ∧ (ldd T c (T 117 h) pc j s).2.2.1 ≤ 40
  | 0, _ => ⟨hs, hs4⟩
  | j + 1, hj => by
    have ih := ldd_rng hk hc hh hp hs hs4 j (by omega)
    rw [ldd]
    split
    · exact ih
    · have := one_rng hk hc (lat_lt hk (n := (j : Int)) (by omega)) hh (hp (lat T j)) ih.1
      exact ⟨this.1, by have := ih.2; omega⟩
theorem begF_o {m p : Int} {a k : Nat} (h : a ≠ w) : begF T w m p f a k = f a k := by
  unfold begF grpF bg8
  rw [u2_o (by omega), u2_o (by omega), stdF_o (by omega)]
  (repeat rw [u2_o (by omega)])
theorem begF_wk (hk : TOK T) {m p : Nat} (hm : m < nMe T) (hp : p < nPl T) {ra : Bool} {sk d : Int} (hd : g w 14 = d) : WK T w (c0 T ra sk m) (T 121 p).toNat p 0 0 0 (s0 T m, d) (begF T w (m : Int) (p : Int) f) g ∧ begF T w (m : Int) (p : Int) f w 0 = 1 ∧ begF T w (m : Int) (p : Int) f w 1 = (m : Int) ∧ begF T w (m : Int) (p : Int) f w 11 = 0 := by
  have t0 := tat1 hk (j := 0) hm (by omega)
  have t1 := tat1 hk (j := 1) hm (by omega)
  have t3 := tat30 hk hp
  have hpl := hk.plan hp
  have h3 := hk.ho
  have t2 := tat2 hk (h := (T 121 p).toNat) (j := 0) (by omega) (by omega)
  simp [tcl] at t0 t1 t2
  have e121 : (((T 121 p).toNat : Nat) : Int) = T 121 p := by omega
  have t2' : tat T 2 (T 121 p) 0 = T 117 (T 121 p).toNat := by
    have hmx : max (T 121 p) 0 = T 121 p := by omega
    first | (rw [← e121]; rw [Int.toNat_natCast]; simpa [e121] using t2) | (rw [hmx] at t2; exact t2)
  unfold begF grpF stdF bg8
  rw [t0, t1, t3, t2']
  unfold WK WS c0 s0
  simp [u2]
  omega
end RUNS

