/-! what a text tells, as the reference's rows have it: T a k -/
abbrev TT : Type := Nat → Nat → Int
/-- how many places of a row are the told text's (the rest is the one being read) -/
def half (a : Nat) : Nat := if a < 107 then 0 else if a < 112 then 6 else if a < 116 then 5 else if a < 120 then 3 else if a < 123 then 5 else if a < 124 then 30 else if a < 127 then 4 else if a < 130 then 8 else if a < 133 then 64 else 0
def tx (a k : Nat) : Bool := (decide (a = 104) && decide (12 ≤ k) && decide (k < 20)) || decide (k < half a)
/-- the reference holds the text T -/
def MT (T : TT) (f : IT) : Prop := ∀ a k, tx a k = true → f a k = T a k
def nLa (T : TT) : Nat := (T 104 12).toNat
def nMe (T : TT) : Nat := (T 104 13).toNat
def nHo (T : TT) : Nat := (T 104 14).toNat
def nPl (T : TT) : Nat := (T 104 15).toNat
def nJu (T : TT) : Nat := (T 104 16).toNat
/-- the ranges of what is told -/
def TOK (T : TT) : Prop :=
  (0 ≤ T 104 12 ∧ T 104 12 ≤ 6) ∧ (0 ≤ T 104 13 ∧ T 104 13 ≤ 5) ∧ (0 ≤ T 104 14 ∧ T 104 14 ≤ 3) ∧ (0 ≤ T 104 15 ∧ T 104 15 ≤ 5) ∧ (0 ≤ T 104 16 ∧ T 104 16 ≤ 4) ∧ (0 ≤ T 104 17 ∧ T 104 17 ≤ 64) ∧ (0 ≤ T 104 18 ∧ T 104 18 ≤ 30) ∧ (0 ≤ T 104 19 ∧ T 104 19 ≤ 99999) ∧
  (∀ k, k < nLa T → (1 ≤ T 108 k ∧ T 108 k ≤ 20) ∧ (0 ≤ T 109 k ∧ T 109 k ≤ 9) ∧ (T 110 k = 0 ∨ T 110 k = 1) ∧ (T 111 k = 0 ∨ T 111 k = 1)) ∧
  (∀ k, k < nMe T → (1 ≤ T 113 k ∧ T 113 k ≤ 60) ∧ (1 ≤ T 114 k ∧ T 114 k ≤ 40) ∧ (1 ≤ T 115 k ∧ T 115 k ≤ 30)) ∧
  (∀ k, k < nHo T → (0 ≤ T 117 k ∧ T 117 k ≤ 9) ∧ (0 ≤ T 118 k ∧ T 118 k ≤ 99) ∧ (0 ≤ T 119 k ∧ T 119 k ≤ 99)) ∧
  (∀ k, k < nPl T → (0 ≤ T 121 k ∧ T 121 k < T 104 14) ∧ (1 ≤ T 122 k ∧ T 122 k ≤ 6) ∧ ∀ j : Nat, (j : Int) < T 122 k → 1 ≤ T 123 (6 * k + j) ∧ T 123 (6 * k + j) ≤ 9) ∧
  (∀ k, k < nJu T → (0 ≤ T 125 k ∧ T 125 k ≤ 100) ∧ (0 ≤ T 126 k ∧ T 126 k ≤ 100)) ∧
  (∀ w, w < 8 → (T 127 w = 0 ∨ T 127 w = 1) ∧ (T 127 w = 1 → 0 ≤ T 128 w ∧ T 128 w < T 129 w ∧ T 129 w ≤ 64 ∧ ∀ i : Nat, T 128 w ≤ (i : Int) → (i : Int) < T 129 w → (0 ≤ T 130 i ∧ T 130 i ≤ 14) ∧ (T 130 i = 0 → 0 ≤ T 131 i ∧ T 131 i ≤ 9999) ∧ (T 130 i = 1 → 0 ≤ T 131 i ∧ T 131 i ≤ 7) ∧ (2 ≤ T 130 i → T 128 w ≤ T 131 i ∧ T 131 i < i) ∧ (3 ≤ T 130 i → T 128 w ≤ T 132 i ∧ T 132 i < i)))
section TOKS
variable {T : TT}
theorem TOK.la (h : TOK T) : T 104 12 = (nLa T : Int) ∧ nLa T ≤ 6 := by have := h.1; unfold nLa; omega
theorem TOK.me (h : TOK T) : T 104 13 = (nMe T : Int) ∧ nMe T ≤ 5 := by have := h.2.1; unfold nMe; omega
theorem TOK.ho (h : TOK T) : T 104 14 = (nHo T : Int) ∧ nHo T ≤ 3 := by have := h.2.2.1; unfold nHo; omega
theorem TOK.pl (h : TOK T) : T 104 15 = (nPl T : Int) ∧ nPl T ≤ 5 := by have := h.2.2.2.1; unfold nPl; omega
theorem TOK.ju (h : TOK T) : T 104 16 = (nJu T : Int) ∧ nJu T ≤ 4 := by have := h.2.2.2.2.1; unfold nJu; omega
theorem TOK.lane (h : TOK T) {k : Nat} (hk : k < nLa T) : (1 ≤ T 108 k ∧ T 108 k ≤ 20) ∧ (0 ≤ T 109 k ∧ T 109 k ≤ 9) ∧ (T 110 k = 0 ∨ T 110 k = 1) ∧ (T 111 k = 0 ∨ T 111 k = 1) := h.2.2.2.2.2.2.2.2.1 k hk
theorem TOK.man (h : TOK T) {k : Nat} (hk : k < nMe T) : (1 ≤ T 113 k ∧ T 113 k ≤ 60) ∧ (1 ≤ T 114 k ∧ T 114 k ≤ 40) ∧ (1 ≤ T 115 k ∧ T 115 k ≤ 30) := h.2.2.2.2.2.2.2.2.2.1 k hk
theorem TOK.hold (h : TOK T) {k : Nat} (hk : k < nHo T) : (0 ≤ T 117 k ∧ T 117 k ≤ 9) ∧ (0 ≤ T 118 k ∧ T 118 k ≤ 99) ∧ (0 ≤ T 119 k ∧ T 119 k ≤ 99) := h.2.2.2.2.2.2.2.2.2.2.1 k hk
theorem TOK.plan (h : TOK T) {k : Nat} (hk : k < nPl T) : (0 ≤ T 121 k ∧ T 121 k < T 104 14) ∧ (1 ≤ T 122 k ∧ T 122 k ≤ 6) ∧ ∀ j : Nat, (j : Int) < T 122 k → 1 ≤ T 123 (6 * k + j) ∧ T 123 (6 * k + j) ≤ 9 := h.2.2.2.2.2.2.2.2.2.2.2.1 k hk
theorem TOK.judge (h : TOK T) {k : Nat} (hk : k < nJu T) : (0 ≤ T 125 k ∧ T 125 k ≤ 100) ∧ (0 ≤ T 126 k ∧ T 126 k ≤ 100) := h.2.2.2.2.2.2.2.2.2.2.2.2.1 k hk
theorem TOK.law (h : TOK T) {w : Nat} (hw : w < 8) : (T 127 w = 0 ∨ T 127 w = 1) ∧ (T 127 w = 1 → 0 ≤ T 128 w ∧ T 128 w < T 129 w ∧ T 129 w ≤ 64 ∧ ∀ i : Nat, T 128 w ≤ (i : Int) → (i : Int) < T 129 w → (0 ≤ T 130 i ∧ T 130 i ≤ 14) ∧ (T 130 i = 0 → 0 ≤ T 131 i ∧ T 131 i ≤ 9999) ∧ (T 130 i = 1 → 0 ≤ T 131 i ∧ T 131 i ≤ 7) ∧ (2 ≤ T 130 i → T 128 w ≤ T 131 i ∧ T 131 i < i) ∧ (3 ≤ T 130 i → T 128 w ≤ T 132 i ∧ T 132 i < i)) := h.2.2.2.2.2.2.2.2.2.2.2.2.2 w hw
end TOKS
theorem tx_of {a k n : Nat} (hn : half a = n) (h : k < n) : tx a k = true := by simp [tx, hn, h]
theorem MT.at {T : TT} {f : IT} (h : MT T f) {a k n : Nat} (hn : half a = n) (hk : k < n) : f a k = T a k := h a k (tx_of hn hk)
/-- the pace of a plan in a stretch -/
def pce (T : TT) (p k : Nat) : Int := T 123 (6 * p + (if (k : Int) < T 122 p then k else (T 122 p - 1).toNat))
theorem pce_rng {T : TT} (h : TOK T) {p k : Nat} (hp : p < nPl T) : 1 ≤ pce T p k ∧ pce T p k ≤ 9 := by
  obtain ⟨-, h2, h3⟩ := h.plan hp
  unfold pce
  split
  · exact h3 k (by assumption)
  · exact h3 (T 122 p - 1).toNat (by omega)
/-- the reference's scratch: what its questions may write -/
def scM (a k : Nat) : Bool := (decide (a = 104) && (decide (k = 2) || decide (k = 66) || (decide (70 ≤ k) && decide (k < 78)) || (decide (87 ≤ k) && decide (k < 90)))) || decide (a = 135) || decide (a = 136) || decide (a = 139) || decide (a = 140) || decide (a = 141) || decide (a = 143) || decide (a = 144) || decide (a = 145) || decide (a = 146)
def KM {α : Type} (f f' : Nat → Nat → α) : Prop := ∀ a k, scM a k = false → f' a k = f a k
theorem KM.rf {α : Type} {f : Nat → Nat → α} : KM f f := fun _ _ _ => rfl
theorem KM.tr {α : Type} {f f' f'' : Nat → Nat → α} (h : KM f f') (h' : KM f' f'') : KM f f'' := fun a k hs => (h' a k hs).trans (h a k hs)
theorem KM.u2 {α : Type} {f f' : Nat → Nat → α} {a k : Nat} {x : α} (hs : scM a k = true) (h : KM f f') : KM f (u2 f' a k x) := fun b j hb => by
  rw [u2_o (fun q => by rw [q.1, q.2, hs] at hb; cases hb)]
  exact h b j hb
theorem scM_tx {a k : Nat} (h : tx a k = true) : scM a k = false := by
  unfold tx half at h
  unfold scM
  simp only [Bool.or_eq_true, Bool.and_eq_true, decide_eq_true_eq] at h
  simp only [Bool.or_eq_false_iff, Bool.and_eq_false_imp, decide_eq_false_iff_not, decide_eq_true_eq]
  split at h <;> (try omega)
  all_goals (repeat' split at h) <;> omega
theorem MT.km {T : TT} {f f' : IT} (h : MT T f) (hk : KM f f') : MT T f' := fun a k ht => (hk a k (scM_tx ht)).trans (h a k ht)

