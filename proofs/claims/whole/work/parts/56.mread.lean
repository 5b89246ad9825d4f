/-! what has been read so far -/
theorem thn_p {P : IT → Prop} {x : Bool × IT} {k : IT → Bool × IT} (h0 : P x.2) (h1 : x.1 = true → P (k x.2).2) : P (thn x k).2 := by
  cases c : x.1 with
  | false => rw [thn_f c]; exact h0
  | true => rw [thn_t c]; exact h1 c
theorem thn_s {x : Bool × IT} {k : IT → Bool × IT} (h : (thn x k).1 = true) : x.1 = true ∧ (k x.2).1 = true ∧ thn x k = k x.2 := by
  cases c : x.1 with
  | false => rw [thn_f c] at h; cases h
  | true => rw [thn_t c] at h; exact ⟨rfl, h, thn_t c⟩
theorem numF_t {lo hi : Int} {f : IT} (h : (numF lo hi f).1 = true) : f 104 8 = 3 ∧ (lo ≤ f 104 9 ∧ f 104 9 ≤ hi) ∧ (numF lo hi f).2 = tkF (u2 f 104 11 (f 104 9)) ∧ (numF lo hi f).2 104 11 = f 104 9 := by
  unfold numF at *
  split at h
  · cases h
  · rename_i e
    split at h
    · rename_i e2
      rw [if_neg e, if_pos e2]
      unfold zin at e2
      simp only [decide_eq_true_eq] at e2
      exact ⟨by omega, e2, rfl, by simp only; rw [tkF_o (by omega), u2_s]⟩
    · cases h
theorem nnF_t {a o n : Nat} {f : IT} (h : (nnF a o n f).1 = true) : f 104 8 = 2 ∧ fnd (f a) o n (f 104 9) < 0 ∧ (nnF a o n f).2 = tkF (u2 f a (o + n) (f 104 9)) := by
  unfold nnF at *
  split at h
  · cases h
  · rename_i e
    split at h
    · cases h
    · rename_i e2
      rw [if_neg e, if_neg e2]
      exact ⟨by omega, by omega, rfl⟩
def Good (f : IT) : Prop := PK f ∧ RwK f
theorem RwK.cg {f F : IT} (h : RwK f) (h1 : ∀ a k, a = 107 ∨ a = 112 ∨ a = 116 ∨ a = 120 ∨ a = 124 ∨ a = 110 ∨ a = 111 ∨ a = 127 → F a k = f a k) (h2 : ∀ k, 20 ≤ k ∧ k ≤ 24 ∨ k = 28 ∨ k = 29 → F 104 k = f 104 k) : RwK F := by
  unfold RwK at *
  rw [h2 20 (by omega), h2 21 (by omega), h2 22 (by omega), h2 23 (by omega), h2 24 (by omega), h2 28 (by omega), h2 29 (by omega)]
  refine ⟨fun k => ?_, fun k => ?_, h.2.2⟩
  · rw [h1 107 k (by omega), h1 112 k (by omega), h1 116 k (by omega), h1 120 k (by omega), h1 124 k (by omega)]; exact h.1 k
  · rw [h1 110 k (by omega), h1 111 k (by omega), h1 127 k (by omega)]; exact h.2.1 k
theorem RwK.up {f : IT} (h : RwK f) {a k : Nat} {x : Int} (h1 : ¬ (a = 107 ∨ a = 112 ∨ a = 116 ∨ a = 120 ∨ a = 124 ∨ a = 110 ∨ a = 111 ∨ a = 127)) (h2 : a = 104 → ¬ (20 ≤ k ∧ k ≤ 24 ∨ k = 28 ∨ k = 29)) : RwK (u2 f a k x) :=
  h.cg (fun b j hb => u2_o (by omega)) (fun j hj => u2_o (by omega))
theorem RwK.tk {f : IT} (h : RwK f) : RwK (tkF f) := h.cg (fun b j hb => tkF_o (by omega)) (fun j hj => tkF_o (by omega))
theorem RwK.nm {f : IT} (h : RwK f) {a k : Nat} {x : Int} (ha : a = 107 ∨ a = 112 ∨ a = 116 ∨ a = 120 ∨ a = 124) (hx : ri x) : RwK (u2 f a k x) := by
  have one : ∀ b j, ri (f b j) → ri (u2 f a k x b j) := fun b j hb => by
    unfold u2
    split
    · exact hx
    · exact hb
  unfold RwK at *
  rw [u2_o (by omega), u2_o (by omega), u2_o (by omega), u2_o (by omega), u2_o (by omega), u2_o (by omega), u2_o (by omega)]
  refine ⟨fun j => ⟨one _ _ (h.1 j).1, one _ _ (h.1 j).2.1, one _ _ (h.1 j).2.2.1, one _ _ (h.1 j).2.2.2.1, one _ _ (h.1 j).2.2.2.2⟩, fun j => ?_, h.2.2⟩
  rw [u2_o (by omega), u2_o (by omega), u2_o (by omega)]
  exact h.2.1 j
theorem RwK.fg {f : IT} (h : RwK f) {a k : Nat} {x : Int} (ha : a = 110 ∨ a = 111 ∨ a = 127) (hx : x = 0 ∨ x = 1) : RwK (u2 f a k x) := by
  have one : ∀ b j, (f b j = 0 ∨ f b j = 1) → (u2 f a k x b j = 0 ∨ u2 f a k x b j = 1) := fun b j hb => by
    unfold u2
    split
    · exact hx
    · exact hb
  unfold RwK at *
  rw [u2_o (by omega), u2_o (by omega), u2_o (by omega), u2_o (by omega), u2_o (by omega), u2_o (by omega), u2_o (by omega)]
  refine ⟨fun j => ?_, fun j => ⟨one _ _ (h.2.1 j).1, one _ _ (h.2.1 j).2.1, one _ _ (h.2.1 j).2.2⟩, h.2.2⟩
  rw [u2_o (by omega), u2_o (by omega), u2_o (by omega), u2_o (by omega), u2_o (by omega)]
  exact h.1 j
theorem Good.tk {f : IT} (h : Good f) : Good (tkF f) := ⟨h.1.tk, h.2.tk⟩
theorem Good.up {f : IT} (h : Good f) {a k : Nat} {x : Int} (h0 : a ≠ 105 ∧ a ≠ 106) (h1 : ¬ (a = 107 ∨ a = 112 ∨ a = 116 ∨ a = 120 ∨ a = 124 ∨ a = 110 ∨ a = 111 ∨ a = 127)) (h2 : a = 104 → (k < 6 ∨ 9 < k) ∧ ¬ (20 ≤ k ∧ k ≤ 24 ∨ k = 28 ∨ k = 29)) : Good (u2 f a k x) := ⟨h.1.up h0.1 h0.2 (fun e => (h2 e).1), h.2.up h1 (fun e => (h2 e).2)⟩
theorem Good.wrg {f : IT} (h : Good f) {w : Int} : Good (wrg w f) := (h.up (by omega) (by omega) (by omega)).up (by omega) (by omega) (by omega)
theorem Good.num {f : IT} (h : Good f) {lo hi : Int} : Good (numF lo hi f).2 := by
  unfold numF
  (repeat' split)
  · exact h.wrg
  · exact (h.up (by omega) (by omega) (by omega)).tk
  · exact h.wrg
theorem Good.nn {f : IT} (h : Good f) {a o n : Nat} (ha : a = 107 ∨ a = 112 ∨ a = 116 ∨ a = 120 ∨ a = 124) : Good (nnF a o n f).2 := by
  unfold nnF
  (repeat' split)
  · exact h.wrg
  · exact h.wrg
  · exact Good.tk ⟨h.1.up (by omega) (by omega) (by omega), h.2.nm ha h.1.r8.2⟩
theorem Good.fg {f : IT} (h : Good f) {a k : Nat} {x : Int} (ha : a = 110 ∨ a = 111 ∨ a = 127) (hx : x = 0 ∨ x = 1) : Good (u2 f a k x) := ⟨h.1.up (by omega) (by omega) (by omega), h.2.fg ha hx⟩
theorem Good.kT {f : IT} (h : Good f) {k : Int} : Good (keyT k f) := by unfold keyT; split; exact h.tk; exact h
theorem bz_01 (b : Bool) : bz b = 0 ∨ bz b = 1 := by cases b; exact Or.inl rfl; exact Or.inr rfl
theorem RwK.cnt {f : IT} (h : RwK f) {k : Nat} {x : Int} (hx : (k = 20 ∧ 0 ≤ x ∧ x ≤ 6) ∨ (k = 21 ∧ 0 ≤ x ∧ x ≤ 5) ∨ (k = 22 ∧ 0 ≤ x ∧ x ≤ 3) ∨ (k = 23 ∧ 0 ≤ x ∧ x ≤ 5) ∨ (k = 24 ∧ 0 ≤ x ∧ x ≤ 4) ∨ ((k = 28 ∨ k = 29) ∧ (x = 0 ∨ x = 1))) : RwK (u2 f 104 k x) := by
  unfold RwK at *
  refine ⟨fun j => ?_, fun j => ?_, ?_⟩
  · rw [u2_o (by omega), u2_o (by omega), u2_o (by omega), u2_o (by omega), u2_o (by omega)]; exact h.1 j
  · rw [u2_o (by omega), u2_o (by omega), u2_o (by omega)]; exact h.2.1 j
  · obtain ⟨-, -, h⟩ := h
    unfold u2
    rcases hx with hx | hx | hx | hx | hx | ⟨hx | hx, hy⟩
    all_goals (simp [hx]; first | omega | (simp [hy]; omega))
theorem Good.cnt {f : IT} (h : Good f) {k : Nat} {x : Int} (hx : (k = 20 ∧ 0 ≤ x ∧ x ≤ 6) ∨ (k = 21 ∧ 0 ≤ x ∧ x ≤ 5) ∨ (k = 22 ∧ 0 ≤ x ∧ x ≤ 3) ∨ (k = 23 ∧ 0 ≤ x ∧ x ≤ 5) ∨ (k = 24 ∧ 0 ≤ x ∧ x ≤ 4) ∨ ((k = 28 ∨ k = 29) ∧ (x = 0 ∨ x = 1))) : Good (u2 f 104 k x) := ⟨h.1.up (by omega) (by omega) (by omega), h.2.cnt hx⟩
/-- beside the token and some cells P nothing changes -/
def FP (P : Nat → Nat → Prop) (f F : IT) : Prop := ∀ a k, ¬ (a = 104 ∧ (k = 4 ∨ k = 5 ∨ 7 ≤ k ∧ k ≤ 11)) → ¬ P a k → F a k = f a k
section FPS
variable {P : Nat → Nat → Prop} {f F : IT}
theorem FP.rf : FP P f f := fun _ _ _ _ => rfl
theorem FP.tk (h : FP P f F) : FP P f (tkF F) := fun a k q r => (tkF_o (by omega)).trans (h a k q r)
theorem FP.up (h : FP P f F) {a k : Nat} {x : Int} (hP : P a k) : FP P f (u2 F a k x) := fun b j q r => (u2_o (fun e => r (by rw [e.1, e.2]; exact hP))).trans (h b j q r)
theorem FP.u4 (h : FP P f F) {k : Nat} {x : Int} (hk : k = 4 ∨ k = 5 ∨ 7 ≤ k ∧ k ≤ 11) : FP P f (u2 F 104 k x) := fun b j q r => (u2_o (by omega)).trans (h b j q r)
theorem FP.wrg (h : FP P f F) {w : Int} : FP P f (wrg w F) := (h.u4 (by omega)).u4 (by omega)
theorem FP.num (h : FP P f F) {lo hi : Int} : FP P f (numF lo hi F).2 := fun a k q r => (numF_o q).trans (h a k q r)
theorem FP.nn (h : FP P f F) {b o n : Nat} (hP : P b (o + n)) : FP P f (nnF b o n F).2 := fun a k q r => (nnF_o q (fun e => r (by rw [e.1, e.2]; exact hP))).trans (h a k q r)
theorem FP.kT (h : FP P f F) {k : Int} : FP P f (keyT k F) := by unfold keyT; split; exact h.tk; exact h
end FPS
def RRL (f : IT) (n : Nat) : Prop := ∀ k, k < n → (1 ≤ f 108 (6 + k) ∧ f 108 (6 + k) ≤ 20) ∧ (0 ≤ f 109 (6 + k) ∧ f 109 (6 + k) ≤ 9)
def RRM (f : IT) (n : Nat) : Prop := ∀ k, k < n → (1 ≤ f 113 (5 + k) ∧ f 113 (5 + k) ≤ 60) ∧ (1 ≤ f 114 (5 + k) ∧ f 114 (5 + k) ≤ 40) ∧ (1 ≤ f 115 (5 + k) ∧ f 115 (5 + k) ≤ 30)
def RRH (f : IT) (n : Nat) : Prop := ∀ k, k < n → (0 ≤ f 117 (3 + k) ∧ f 117 (3 + k) ≤ 9) ∧ (0 ≤ f 118 (3 + k) ∧ f 118 (3 + k) ≤ 99) ∧ (0 ≤ f 119 (3 + k) ∧ f 119 (3 + k) ≤ 99)
def RRP (f : IT) (h : Int) (n : Nat) : Prop := ∀ k, k < n → (0 ≤ f 121 (5 + k) ∧ f 121 (5 + k) < h) ∧ (1 ≤ f 122 (5 + k) ∧ f 122 (5 + k) ≤ 6) ∧ ∀ j : Nat, (j : Int) < f 122 (5 + k) → 1 ≤ f 123 (6 * (5 + k) + j) ∧ f 123 (6 * (5 + k) + j) ≤ 9
def RRJ (f : IT) (n : Nat) : Prop := ∀ k, k < n → (0 ≤ f 125 (4 + k) ∧ f 125 (4 + k) ≤ 100) ∧ (0 ≤ f 126 (4 + k) ∧ f 126 (4 + k) ≤ 100)
def LW1 (f : IT) (w : Nat) : Prop := ∃ lo n : Nat, f 128 (8 + w) = (lo : Int) ∧ f 129 (8 + w) = (lo : Int) + n ∧ 0 < n ∧ (lo : Int) + n ≤ f 104 25 ∧ stV (fun i => f 130 (64 + i)) (fun i => f 131 (64 + i)) (fun i => f 132 (64 + i)) lo n ∧ pst (fun i => f 130 (64 + i)) lo n = [lo + n - 1]
def RRW (f : IT) : Prop := (0 ≤ f 104 25 ∧ f 104 25 ≤ 64) ∧ f 104 61 = f 104 25 ∧ ∀ w, w < 8 → f 127 (8 + w) = 1 → LW1 f w
def RD (f : IT) : Prop := RRL f (f 104 20).toNat ∧ RRM f (f 104 21).toNat ∧ RRH f (f 104 22).toNat ∧ RRP f (f 104 22) (f 104 23).toNat ∧ RRJ f (f 104 24).toNat ∧ RRW f ∧ (0 ≤ f 104 26 ∧ f 104 26 ≤ 30) ∧ (0 ≤ f 104 27 ∧ f 104 27 ≤ 99999)
section RDS
variable {f F : IT}
theorem RRL.cg {n : Nat} (h : RRL f n) (e : ∀ a k, k < 6 + n → 108 ≤ a ∧ a ≤ 109 → F a k = f a k) : RRL F n := fun k hk => by rw [e 108 _ (by omega) (by omega), e 109 _ (by omega) (by omega)]; exact h k hk
theorem RRM.cg {n : Nat} (h : RRM f n) (e : ∀ a k, k < 5 + n → 113 ≤ a ∧ a ≤ 115 → F a k = f a k) : RRM F n := fun k hk => by rw [e 113 _ (by omega) (by omega), e 114 _ (by omega) (by omega), e 115 _ (by omega) (by omega)]; exact h k hk
theorem RRH.cg {n : Nat} (h : RRH f n) (e : ∀ a k, k < 3 + n → 117 ≤ a ∧ a ≤ 119 → F a k = f a k) : RRH F n := fun k hk => by rw [e 117 _ (by omega) (by omega), e 118 _ (by omega) (by omega), e 119 _ (by omega) (by omega)]; exact h k hk
theorem RRP.cg {n : Nat} {q : Int} (h : RRP f q n) (e : ∀ a k, k < 5 + n → 121 ≤ a ∧ a ≤ 122 → F a k = f a k) (e2 : ∀ k, k < 30 + 6 * n → F 123 k = f 123 k) {q' : Int} (hq : q ≤ q') : RRP F q' n := fun k hk => by
  rw [e 121 _ (by omega) (by omega), e 122 _ (by omega) (by omega)]
  obtain ⟨h1, h2, h3⟩ := h k hk
  exact ⟨by omega, h2, fun j hj => by rw [e2 _ (by omega)]; exact h3 j hj⟩
theorem RRJ.cg {n : Nat} (h : RRJ f n) (e : ∀ a k, k < 4 + n → 125 ≤ a ∧ a ≤ 126 → F a k = f a k) : RRJ F n := fun k hk => by rw [e 125 _ (by omega) (by omega), e 126 _ (by omega) (by omega)]; exact h k hk
theorem LW1.cg {w : Nat} (h : LW1 f w) (e1 : F 128 (8 + w) = f 128 (8 + w)) (e2 : F 129 (8 + w) = f 129 (8 + w)) (e3 : f 104 25 ≤ F 104 25) (e4 : ∀ a (i : Nat), 130 ≤ a ∧ a ≤ 132 → (i : Int) < f 104 25 → F a (64 + i) = f a (64 + i)) : LW1 F w := by
  obtain ⟨lo, n, h1, h2, h3, h4, h5, h6⟩ := h
  refine ⟨lo, n, e1.trans h1, e2.trans h2, h3, by omega, stV_cg n (fun i hi => ⟨(e4 130 _ (by omega) (by omega)).symm, (e4 131 _ (by omega) (by omega)).symm, (e4 132 _ (by omega) (by omega)).symm⟩) h5, ?_⟩
  rw [← h6]
  exact pst_cg n (fun i hi => e4 130 _ (by omega) (by omega))
theorem RRW.cg (h : RRW f) (e1 : ∀ a k, 127 ≤ a ∧ a ≤ 132 → F a k = f a k) (e2 : F 104 25 = f 104 25) (e3 : F 104 61 = f 104 61) : RRW F := by
  obtain ⟨h1, h2, h3⟩ := h
  refine ⟨by rw [e2]; exact h1, by rw [e2, e3]; exact h2, fun w hw ht => ?_⟩
  rw [e1 127 _ (by omega)] at ht
  exact (h3 w hw ht).cg (e1 128 _ (by omega)) (e1 129 _ (by omega)) (by omega) (fun a i ha _ => e1 a _ (by omega))
/-- all but some rows -/
theorem RD.cg (h : RD f) (e : ∀ a k, a ≠ 104 → 107 ≤ a → F a k = f a k) (e2 : ∀ k, 20 ≤ k ∧ k ≤ 27 ∨ k = 61 → F 104 k = f 104 k) : RD F := by
  obtain ⟨h1, h2, h3, h4, h5, h6, h7, h8⟩ := h
  unfold RD
  rw [e2 20 (by omega), e2 21 (by omega), e2 22 (by omega), e2 23 (by omega), e2 24 (by omega), e2 26 (by omega), e2 27 (by omega)]
  exact ⟨h1.cg (fun a k _ _ => e a k (by omega) (by omega)), h2.cg (fun a k _ _ => e a k (by omega) (by omega)), h3.cg (fun a k _ _ => e a k (by omega) (by omega)), h4.cg (fun a k _ _ => e a k (by omega) (by omega)) (fun k _ => e 123 k (by omega) (by omega)) (by omega), h5.cg (fun a k _ _ => e a k (by omega) (by omega)), h6.cg (fun a k _ => e a k (by omega) (by omega)) (e2 25 (by omega)) (e2 61 (by omega)), h7, h8⟩
end RDS
theorem RD.tk {f : IT} (h : RD f) : RD (tkF f) := h.cg (fun a k h1 _ => tkF_o (by omega)) (fun k hk => tkF_o (by omega))

