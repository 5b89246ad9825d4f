/-! the heap by numbers: cell a's place k holds ρ a k (references), f a k (ints, booleans), g a k (longs) -/
abbrev RT : Type := Nat → Nat → Option Nat
abbrev IT : Type := Nat → Nat → Int
abbrev JT : Type := Nat → Nat → Int
/-- ints and longs by whole numbers (of any size; what lies within the range is told apart) -/
def iz (z : Int) : Int32 := Int32.ofInt z
def lz (z : Int) : Int64 := Int64.ofInt z
abbrev QT : Type := Option Value → RT → IT → JT → Prop
/-- the cells in the order in which the law's opening makes them: class or kind of array, length -/
def shapes : List (Nat × Nat) := [(11, 0), (13, 700), (2, 0), (13, 72), (6, 0), (7, 0), (16, 5), (3, 0), (13, 6), (13, 24), (3, 0), (13, 5), (13, 15), (3, 0), (13, 3), (13, 9), (3, 0), (13, 5), (13, 35), (3, 0), (13, 4), (13, 8), (1, 0), (13, 64), (13, 64), (13, 8), (13, 8), (14, 64), (14, 8), (15, 8), (7, 0), (16, 5), (3, 0), (13, 6), (13, 24), (3, 0), (13, 5), (13, 15), (3, 0), (13, 3), (13, 9), (3, 0), (13, 5), (13, 35), (3, 0), (13, 4), (13, 8), (1, 0), (13, 64), (13, 64), (13, 8), (13, 8), (14, 64), (14, 8), (15, 8), (0, 0), (13, 6), (13, 6), (13, 6), (13, 6), (14, 4096), (13, 4096), (10, 0), (17, 20), (10, 0), (10, 0), (4, 0), (10, 0), (14, 2501), (14, 2501), (13, 2501), (13, 2501), (8, 0), (5, 0), (13, 24), (13, 24), (13, 24), (15, 24), (13, 30), (13, 5), (13, 4), (9, 0), (13, 5), (13, 5), (10, 0), (10, 0), (10, 0), (10, 0), (10, 0), (10, 0), (10, 0), (10, 0), (10, 0), (10, 0), (10, 0), (10, 0), (10, 0), (10, 0), (10, 0), (10, 0), (10, 0), (10, 0), (10, 0), (10, 0), (12, 0), (13, 700), (13, 143), (13, 12), (13, 12), (13, 12), (15, 12), (15, 12), (13, 10), (13, 10), (13, 10), (13, 10), (13, 6), (13, 6), (13, 6), (13, 6), (13, 10), (13, 10), (13, 10), (13, 60), (13, 8), (13, 8), (13, 8), (15, 16), (13, 16), (13, 16), (13, 128), (13, 128), (13, 128), (13, 96), (13, 96), (14, 8), (14, 64), (13, 7), (13, 160), (15, 17507), (13, 17507), (13, 17507), (13, 96), (15, 24), (13, 5), (13, 5), (13, 5), (13, 7), (14, 1)]
def kd (a : Nat) : Nat × Nat := shapes.getD a (99, 0)
def NF : Nat := 149
/-- the fields of a class: 0 int, 1 long, 2 a reference, 3 boolean -/
def ftab : Nat → List Nat
  | 0 => [2, 0, 0, 3, 3, 0, 2, 2, 2, 2, 2, 2]
  | 1 => [2, 2, 0, 2, 2, 2, 2, 2, 0]
  | 2 => [2, 2, 0, 0, 3, 3, 0, 0]
  | 3 => [0, 0, 2, 2, 0]
  | 4 => [2, 2, 2, 2, 2, 2, 0, 0, 0, 0, 0, 0, 1, 0, 0]
  | 5 => [2, 2, 2, 2, 0, 0, 2, 2, 3, 0, 0, 0, 2]
  | 6 => [2, 0, 0, 0, 0, 0, 0]
  | 7 => [2, 2, 0, 0, 0]
  | 8 => [0, 0, 0, 3, 0, 0, 0]
  | 9 => [0, 2, 2]
  | 10 => [3, 0, 0, 0, 0, 0, 0, 0, 0, 0, 0, 0, 0, 0, 1]
  | 11 => [2, 0, 2, 2, 2, 0, 3, 2, 2, 2, 0, 2, 3, 0, 3, 2, 2, 2, 2, 2]
  | 12 => [2, 0, 0, 2, 0, 0, 0, 0, 0, 0, 0, 0, 0, 0, 0, 0, 0, 0, 0, 0, 0, 0, 0, 0, 0, 0, 0, 0, 3, 3, 2, 2, 2, 2, 2, 2, 2, 2, 2, 2, 2, 2, 2, 2, 2, 2, 2, 2, 2, 2, 2, 2, 2, 2, 2, 2, 2, 2, 0, 0, 0, 0, 3, 3, 2, 2, 3, 0, 3, 1, 0, 0, 3, 0, 0, 0, 0, 0, 3, 0, 0, 2, 0, 2, 2, 2, 2, 0, 0, 0, 0, 0, 2, 2, 2, 2, 2, 3, 3, 0, 0, 2, 1, 0, 3]
  | _ => []

theorem kk0 : kd 0 = (11, 0) := rfl
theorem kk1 : kd 1 = (13, 700) := rfl
theorem kk2 : kd 2 = (2, 0) := rfl
theorem kk3 : kd 3 = (13, 72) := rfl
theorem kk4 : kd 4 = (6, 0) := rfl
theorem kk5 : kd 5 = (7, 0) := rfl
theorem kk6 : kd 6 = (16, 5) := rfl
theorem kk7 : kd 7 = (3, 0) := rfl
theorem kk8 : kd 8 = (13, 6) := rfl
theorem kk9 : kd 9 = (13, 24) := rfl
theorem kk10 : kd 10 = (3, 0) := rfl
theorem kk11 : kd 11 = (13, 5) := rfl
theorem kk12 : kd 12 = (13, 15) := rfl
theorem kk13 : kd 13 = (3, 0) := rfl
theorem kk14 : kd 14 = (13, 3) := rfl
theorem kk15 : kd 15 = (13, 9) := rfl
theorem kk16 : kd 16 = (3, 0) := rfl
theorem kk17 : kd 17 = (13, 5) := rfl
theorem kk18 : kd 18 = (13, 35) := rfl
theorem kk19 : kd 19 = (3, 0) := rfl
theorem kk20 : kd 20 = (13, 4) := rfl
theorem kk21 : kd 21 = (13, 8) := rfl
theorem kk22 : kd 22 = (1, 0) := rfl
theorem kk23 : kd 23 = (13, 64) := rfl
theorem kk24 : kd 24 = (13, 64) := rfl
theorem kk25 : kd 25 = (13, 8) := rfl
theorem kk26 : kd 26 = (13, 8) := rfl
theorem kk27 : kd 27 = (14, 64) := rfl
theorem kk28 : kd 28 = (14, 8) := rfl
theorem kk29 : kd 29 = (15, 8) := rfl
theorem kk30 : kd 30 = (7, 0) := rfl
theorem kk31 : kd 31 = (16, 5) := rfl
theorem kk32 : kd 32 = (3, 0) := rfl
theorem kk33 : kd 33 = (13, 6) := rfl
theorem kk34 : kd 34 = (13, 24) := rfl
theorem kk35 : kd 35 = (3, 0) := rfl
theorem kk36 : kd 36 = (13, 5) := rfl
theorem kk37 : kd 37 = (13, 15) := rfl
theorem kk38 : kd 38 = (3, 0) := rfl
theorem kk39 : kd 39 = (13, 3) := rfl
theorem kk40 : kd 40 = (13, 9) := rfl
theorem kk41 : kd 41 = (3, 0) := rfl
theorem kk42 : kd 42 = (13, 5) := rfl
theorem kk43 : kd 43 = (13, 35) := rfl
theorem kk44 : kd 44 = (3, 0) := rfl
theorem kk45 : kd 45 = (13, 4) := rfl
theorem kk46 : kd 46 = (13, 8) := rfl
theorem kk47 : kd 47 = (1, 0) := rfl
theorem kk48 : kd 48 = (13, 64) := rfl
theorem kk49 : kd 49 = (13, 64) := rfl
theorem kk50 : kd 50 = (13, 8) := rfl
theorem kk51 : kd 51 = (13, 8) := rfl
theorem kk52 : kd 52 = (14, 64) := rfl
theorem kk53 : kd 53 = (14, 8) := rfl
theorem kk54 : kd 54 = (15, 8) := rfl
theorem kk55 : kd 55 = (0, 0) := rfl
theorem kk56 : kd 56 = (13, 6) := rfl
theorem kk57 : kd 57 = (13, 6) := rfl
theorem kk58 : kd 58 = (13, 6) := rfl
theorem kk59 : kd 59 = (13, 6) := rfl
theorem kk60 : kd 60 = (14, 4096) := rfl
theorem kk61 : kd 61 = (13, 4096) := rfl
theorem kk62 : kd 62 = (10, 0) := rfl
theorem kk63 : kd 63 = (17, 20) := rfl
theorem kk64 : kd 64 = (10, 0) := rfl
theorem kk65 : kd 65 = (10, 0) := rfl
theorem kk66 : kd 66 = (4, 0) := rfl
theorem kk67 : kd 67 = (10, 0) := rfl
theorem kk68 : kd 68 = (14, 2501) := rfl
theorem kk69 : kd 69 = (14, 2501) := rfl
theorem kk70 : kd 70 = (13, 2501) := rfl
theorem kk71 : kd 71 = (13, 2501) := rfl
theorem kk72 : kd 72 = (8, 0) := rfl
theorem kk73 : kd 73 = (5, 0) := rfl
theorem kk74 : kd 74 = (13, 24) := rfl
theorem kk75 : kd 75 = (13, 24) := rfl
theorem kk76 : kd 76 = (13, 24) := rfl
theorem kk77 : kd 77 = (15, 24) := rfl
theorem kk78 : kd 78 = (13, 30) := rfl
theorem kk79 : kd 79 = (13, 5) := rfl
theorem kk80 : kd 80 = (13, 4) := rfl
theorem kk81 : kd 81 = (9, 0) := rfl
theorem kk82 : kd 82 = (13, 5) := rfl
theorem kk83 : kd 83 = (13, 5) := rfl
theorem kk84 : kd 84 = (10, 0) := rfl
theorem kk85 : kd 85 = (10, 0) := rfl
theorem kk86 : kd 86 = (10, 0) := rfl
theorem kk87 : kd 87 = (10, 0) := rfl
theorem kk88 : kd 88 = (10, 0) := rfl
theorem kk89 : kd 89 = (10, 0) := rfl
theorem kk90 : kd 90 = (10, 0) := rfl
theorem kk91 : kd 91 = (10, 0) := rfl
theorem kk92 : kd 92 = (10, 0) := rfl
theorem kk93 : kd 93 = (10, 0) := rfl
theorem kk94 : kd 94 = (10, 0) := rfl
theorem kk95 : kd 95 = (10, 0) := rfl
theorem kk96 : kd 96 = (10, 0) := rfl
theorem kk97 : kd 97 = (10, 0) := rfl
theorem kk98 : kd 98 = (10, 0) := rfl
theorem kk99 : kd 99 = (10, 0) := rfl
theorem kk100 : kd 100 = (10, 0) := rfl
theorem kk101 : kd 101 = (10, 0) := rfl
theorem kk102 : kd 102 = (10, 0) := rfl
theorem kk103 : kd 103 = (10, 0) := rfl
theorem kk104 : kd 104 = (12, 0) := rfl
theorem kk105 : kd 105 = (13, 700) := rfl
theorem kk106 : kd 106 = (13, 143) := rfl
theorem kk107 : kd 107 = (13, 12) := rfl
theorem kk108 : kd 108 = (13, 12) := rfl
theorem kk109 : kd 109 = (13, 12) := rfl
theorem kk110 : kd 110 = (15, 12) := rfl
theorem kk111 : kd 111 = (15, 12) := rfl
theorem kk112 : kd 112 = (13, 10) := rfl
theorem kk113 : kd 113 = (13, 10) := rfl
theorem kk114 : kd 114 = (13, 10) := rfl
theorem kk115 : kd 115 = (13, 10) := rfl
theorem kk116 : kd 116 = (13, 6) := rfl
theorem kk117 : kd 117 = (13, 6) := rfl
theorem kk118 : kd 118 = (13, 6) := rfl
theorem kk119 : kd 119 = (13, 6) := rfl
theorem kk120 : kd 120 = (13, 10) := rfl
theorem kk121 : kd 121 = (13, 10) := rfl
theorem kk122 : kd 122 = (13, 10) := rfl
theorem kk123 : kd 123 = (13, 60) := rfl
theorem kk124 : kd 124 = (13, 8) := rfl
theorem kk125 : kd 125 = (13, 8) := rfl
theorem kk126 : kd 126 = (13, 8) := rfl
theorem kk127 : kd 127 = (15, 16) := rfl
theorem kk128 : kd 128 = (13, 16) := rfl
theorem kk129 : kd 129 = (13, 16) := rfl
theorem kk130 : kd 130 = (13, 128) := rfl
theorem kk131 : kd 131 = (13, 128) := rfl
theorem kk132 : kd 132 = (13, 128) := rfl
theorem kk133 : kd 133 = (13, 96) := rfl
theorem kk134 : kd 134 = (13, 96) := rfl
theorem kk135 : kd 135 = (14, 8) := rfl
theorem kk136 : kd 136 = (14, 64) := rfl
theorem kk137 : kd 137 = (13, 7) := rfl
theorem kk138 : kd 138 = (13, 160) := rfl
theorem kk139 : kd 139 = (15, 17507) := rfl
theorem kk140 : kd 140 = (13, 17507) := rfl
theorem kk141 : kd 141 = (13, 17507) := rfl
theorem kk142 : kd 142 = (13, 96) := rfl
theorem kk143 : kd 143 = (15, 24) := rfl
theorem kk144 : kd 144 = (13, 5) := rfl
theorem kk145 : kd 145 = (13, 5) := rfl
theorem kk146 : kd 146 = (13, 5) := rfl
theorem kk147 : kd 147 = (13, 7) := rfl
theorem kk148 : kd 148 = (14, 1) := rfl
theorem kdlt {a c n : Nat} (h : kd a = (c, n)) (hc : c < 99) : a < NF := by
  apply Nat.lt_of_not_le
  intro hle
  have e : kd a = (99, 0) := by
    have h1 : shapes.length ≤ a := hle
    simp [kd, List.getD, List.getElem?_eq_none h1]
  rw [e] at h
  cases h
  omega
/-- the words that a callee may ask for -/
def tblG : List Cond := lw_tbl.filter goodWord
theorem tblG_good : ∀ w ∈ tblG, (w.onTables && w.keeps) = true ∨ ∃ ty, w = .arrayClass ty := fun w h => good_of_word (List.mem_filter.mp h).2
theorem tblG_in {w : Cond} (h : w ∈ lw_tbl) (hg : goodWord w = true) : w ∈ tblG := List.mem_filter.mpr ⟨h, hg⟩
theorem tblG_at {w : Cond} (i : Nat) (h : tables_1[i]? = some w) (hg : goodWord w = true) : w ∈ tblG := tblG_in (List.mem_append_right _ (List.mem_of_getElem? h)) hg
theorem tblG_pr {w : Cond} (i : Nat) (h : (k2_sels lw_privs)[i]? = some w) (hg : goodWord w = true) : w ∈ tblG := tblG_in (List.mem_append_left _ (List.mem_of_getElem? h)) hg
def cv (ad : Nat → Nat) : Value → Value
  | .ref a => .ref (ad a)
  | v => v
theorem cv_cat (ad : Nat → Nat) (v : Value) : (cv ad v).category = v.category := by cases v <;> rfl
def nul : Value → Bool
  | .null => true
  | _ => false
def lvL (ad : Nat → Nat) (L : List Value) : List (Nat × Value) := (List.range L.length).filterMap (fun i => match L[i]? with
  | some v => if nul v = true then none else some (i, cv ad v)
  | none => none)
theorem lvL_mem {ad : Nat → Nat} {L : List Value} {q : Nat × Value} : q ∈ lvL ad L ↔ ∃ v, L[q.1]? = some v ∧ nul v = false ∧ q.2 = cv ad v := by
  obtain ⟨i, w⟩ := q
  simp only [lvL, List.mem_filterMap, List.mem_range]
  constructor
  · rintro ⟨j, hj, h⟩
    cases hL : L[j]? with
    | none => rw [hL] at h; cases h
    | some v =>
      rw [hL] at h
      dsimp only at h
      split at h
      · cases h
      · rename_i hn
        cases h
        exact ⟨v, hL, by simpa using hn, rfl⟩
  · rintro ⟨v, h1, h2, h3⟩
    refine ⟨i, (List.getElem?_eq_some_iff.mp h1).1, ?_⟩
    try dsimp only at h1 h3
    rw [h1]
    dsimp only
    rw [h2, h3]
    rfl
def lk (ad : Nat → Nat) (ls : Array Slot) (nL : Nat) (L : List Value) : Prop := lv_has ls nL (lvL ad L)
theorem lk_at {ad : Nat → Nat} {ls : Array Slot} {nL : Nat} {L : List Value} (h : lk ad ls nL L) {i : Nat} {v : Value} (hv : L[i]? = some v) (hn : nul v = false) : ls[i]? = some (.val (cv ad v)) := h.2.2 (i, cv ad v) (lvL_mem.mpr ⟨v, hv, hn, rfl⟩)
theorem lk_sub {ad : Nat → Nat} {ls : Array Slot} {nL : Nat} {L : List Value} {l : List (Nat × Value)} (h : lv_has ls nL l) (hs : ∀ q ∈ lvL ad L, q ∈ l) : lk ad ls nL L := ⟨h.1, h.2.1, fun q hq => h.2.2 q (hs q hq)⟩
def st1 : List Value → Nat → Value → List Value
  | [], _, _ => []
  | _ :: l, 0, v => v :: l
  | a :: l, i + 1, v => (if i = 0 ∧ a.category = 2 then .null else a) :: st1 l i v
theorem st1_spec : ∀ (L : List Value) (i : Nat) (v : Value) (j : Nat) (w : Value), (st1 L i v)[j]? = some w → w = .null ∨ (j = i ∧ w = v) ∨ (j ≠ i ∧ L[j]? = some w ∧ ¬ (j + 1 = i ∧ w.category = 2))
  | [], i, v, j, w, h => by simp [st1] at h
  | a :: l, 0, v, j, w, h => by
    cases j with
    | zero => simp [st1] at h; exact Or.inr (Or.inl ⟨rfl, h.symm⟩)
    | succ j => simp [st1] at h; exact Or.inr (Or.inr ⟨by omega, by simpa using h, by omega⟩)
  | a :: l, i + 1, v, j, w, h => by
    cases j with
    | zero =>
      simp only [st1, List.getElem?_cons_zero, Option.some.injEq] at h
      split at h
      · exact Or.inl h.symm
      · rename_i hn
        refine Or.inr (Or.inr ⟨by omega, by simpa using h, fun hc => hn ⟨by omega, by rw [h]; exact hc.2⟩⟩)
    | succ j =>
      simp only [st1, List.getElem?_cons_succ] at h
      rcases st1_spec l i v j w h with h1 | ⟨h1, h2⟩ | ⟨h1, h2, h3⟩
      · exact Or.inl h1
      · exact Or.inr (Or.inl ⟨by omega, h2⟩)
      · exact Or.inr (Or.inr ⟨by omega, by simpa using h2, fun hc => h3 ⟨by omega, hc.2⟩⟩)
def st2 (L : List Value) (i : Nat) (v : Value) : List Value := st1 (st1 L (i + 1) .null) i v
theorem st2_spec (L : List Value) (i : Nat) (v : Value) (j : Nat) (w : Value) (h : (st2 L i v)[j]? = some w) : w = .null ∨ (j = i ∧ w = v) ∨ (j ≠ i ∧ j ≠ i + 1 ∧ L[j]? = some w ∧ ¬ (j + 1 = i ∧ w.category = 2)) := by
  rcases st1_spec _ i v j w h with h1 | h1 | ⟨h1, h2, h3⟩
  · exact Or.inl h1
  · exact Or.inr (Or.inl h1)
  · rcases st1_spec _ (i + 1) _ j w h2 with h4 | h4 | ⟨h4, h5, h6⟩
    · exact Or.inl h4
    · exact Or.inl h4.2
    · exact Or.inr (Or.inr ⟨h1, h4, h5, h3⟩)
/-! the world -/
def fv (ad : Nat → Nat) (t : Nat) (ρ : RT) (f : IT) (g : JT) (a k : Nat) : Value := if t = 1 then .long (lz (g a k)) else if t = 2 then va_rf ((ρ a k).map ad) else .int (iz (f a k))
def ce (ad : Nat → Nat) (cy : Nat → ClassId) (ρ : RT) (f : IT) (g : JT) (a : Nat) : va_E :=
  if (kd a).1 < 13 then .inr ((kd a).1, (ftab (kd a).1).mapIdx (fun k t => fv ad t ρ f g a k))
  else if (kd a).1 = 14 then .inl (cy 1, (kd a).2, .inr (.inl (fun i => lz (g a i))))
  else if (kd a).1 < 16 then .inl (cy ((kd a).1 - 13), (kd a).2, .inl (fun i => iz (f a i)))
  else .inl (cy ((kd a).1 - 13), (kd a).2, .inr (.inr (.inr (.inr (fun i => (ρ a i).map ad)))))
def tys (cy : Nat → ClassId) : List (ClassId × FieldType) := [(cy 0, .int), (cy 1, .long), (cy 2, .boolean), (cy 3, .object RX3), (cy 4, .object RX10)]
def wl (ad : Nat → Nat) (cy : Nat → ClassId) (n : Nat) (ρ : RT) (f : IT) (g : JT) : va_W := (List.range n).map (fun a => (ad a, ce ad cy ρ f g a))
section WL
variable {ad : Nat → Nat} {cy : Nat → ClassId} {n a k z : Nat} {ρ ρ' : RT} {f f' : IT} {g g' : JT}
theorem wl_get (h : a < n) : (wl ad cy n ρ f g)[a]? = some (ad a, ce ad cy ρ f g a) := by simp [wl, h]
theorem wl_set {e : va_E} (h : a < n) (he : ce ad cy ρ' f' g' a = e) (ho : ∀ b, b ≠ a → ce ad cy ρ' f' g' b = ce ad cy ρ f g b) : (wl ad cy n ρ f g).set a (ad a, e) = wl ad cy n ρ' f' g' := by
  apply List.ext_getElem?
  intro b
  by_cases hb : b = a
  · subst hb
    rw [List.getElem?_set_self (by simpa [wl] using h), wl_get h, he]
  · rw [List.getElem?_set_ne (Ne.symm hb)]
    by_cases hl : b < n
    · rw [wl_get hl, wl_get hl, ho b hb]
    · rw [List.getElem?_eq_none (by simp [wl]; omega), List.getElem?_eq_none (by simp [wl]; omega)]
theorem wl_push : wl ad cy (n + 1) ρ f g = wl ad cy n ρ f g ++ [(ad n, ce ad cy ρ f g n)] := by simp [wl, List.range_succ]
theorem wl_D (hz : ∀ k, k < NF → ad k = z + k) (hn : n ≤ NF) : va_D (fun q => z ≤ q) (wl ad cy n ρ f g) := by
  have key : ∀ (i : Nat) (p : Nat × va_E), (wl ad cy n ρ f g)[i]? = some p → i < NF ∧ p.1 = z + i := by
    intro i p hp
    have hi : i < n := by simpa [wl] using (List.getElem?_eq_some_iff.mp hp).1
    rw [wl_get hi] at hp
    cases hp
    exact ⟨by omega, hz i (by omega)⟩
  refine ⟨fun i j p q hi hj h => ?_, fun k q hk => ?_⟩
  · have h1 := key i p hi
    have h2 := key j q hj
    omega
  · have h1 := key k q hk
    show z ≤ q.1
    omega
theorem ce_obj {c l : Nat} (h : kd a = (c, l)) (hc : c < 13) : ce ad cy ρ f g a = .inr (c, (ftab c).mapIdx (fun k t => fv ad t ρ f g a k)) := by simp [ce, h, hc]
theorem ce_int {l : Nat} (h : kd a = (13, l)) : ce ad cy ρ f g a = .inl (cy 0, l, .inl (fun i => iz (f a i))) := by simp [ce, h]
theorem ce_long {l : Nat} (h : kd a = (14, l)) : ce ad cy ρ f g a = .inl (cy 1, l, .inr (.inl (fun i => lz (g a i)))) := by simp [ce, h]
theorem ce_bool {l : Nat} (h : kd a = (15, l)) : ce ad cy ρ f g a = .inl (cy 2, l, .inl (fun i => iz (f a i))) := by simp [ce, h]
theorem ce_rows {l : Nat} (h : kd a = (16, l)) : ce ad cy ρ f g a = .inl (cy 3, l, .inr (.inr (.inr (.inr (fun i => (ρ a i).map ad))))) := by simp [ce, h]
theorem ce_walk {l : Nat} (h : kd a = (17, l)) : ce ad cy ρ f g a = .inl (cy 4, l, .inr (.inr (.inr (.inr (fun i => (ρ a i).map ad))))) := by simp [ce, h]
theorem ce_eq (hρ : ρ' a = ρ a) (hf : f' a = f a) (hg : g' a = g a) : ce ad cy ρ' f' g' a = ce ad cy ρ f g a := by
  have e : ∀ (k t : Nat), fv ad t ρ' f' g' a k = fv ad t ρ f g a k := fun k t => by simp [fv, hρ, hf, hg]
  simp [ce, hρ, hf, hg, e]
end WL
def u2 {α : Type} (f : Nat → Nat → α) (a k : Nat) (x : α) : Nat → Nat → α := fun b j => if b = a ∧ j = k then x else f b j
theorem u2_s {α : Type} {f : Nat → Nat → α} {a k : Nat} {x : α} : u2 f a k x a k = x := by simp [u2]
theorem u2_n {α : Type} {f : Nat → Nat → α} {a k b j : Nat} {x y : α} (h : ¬ (b = a ∧ j = k)) (hy : f b j = y) : u2 f a k x b j = y := by simp [u2, h, hy]
theorem u2_row {α : Type} {f : Nat → Nat → α} {a k b : Nat} {x : α} (h : b ≠ a) : u2 f a k x b = f b := by funext j; simp [u2, h]
theorem u2_self {α : Type} {f : Nat → Nat → α} {a k : Nat} {x : α} : u2 f a k x a = fun j => if j = k then x else f a j := by funext j; simp [u2]
/-! what goes with a method: the class files' words, statics, the script -/
def sC : Nat → String
  | 0 => "SackRace$Tokens"
  | _ => "SackRace$Parser"
def sN : Nat → String
  | 0 => "LANGUAGE"
  | 1 => "NUMBERS"
  | 2 => "LOWS"
  | 3 => "HIGHS"
  | _ => "LEVELS"
def sT : Nat → List Int32
  | 0 => [680956928, 117035008, 36967424, 236238848, 681120768, 270087168, 337018880, 781325312, 538022912, 650625184, 273734432, 777297172, 781651968, 408144896, 135708672, 123295904, 404165632, 437714944, 284561408, 549500928, 357702816, 418418688, 642945024, 404455424, 72814592, 777650176, 522190848, 48365568, 486146048]
  | 1 => [2, 3, 3, 0, 2]
  | 2 => [1, 0, 0, 1, 1, 1, 0, 0, 0, 0, 0, 0, 0, 0, 0]
  | 3 => [20, 9, 0, 60, 40, 30, 9, 99, 99, 0, 0, 0, 100, 100, 0]
  | _ => [0, 0, 3, 1, 2, 4, 4, 4, 4, 4, 4, 5, 5, 6, 6, 0]
def SG (ad : Nat → Nat) (z sl : Nat) (xs : Nat → Int32) (U : State) (H : Heap) : Prop :=
  (∀ j, j < 5 → va_Z (sC j) (sN j) "[I" (.ref (ad (1000 + j))) (fun q => z ≤ q) U H ∧ va_T .int (ad (1000 + j)) (sT j).length (fun i => .int ((sT j).getD i 0)) (fun q => z ≤ q) U H) ∧ va_X (ad 1005) sl xs U H ∧ ad 1005 < z ∧ z ≤ H.size ∧ va_AO RX3 U ∧ va_AO RX10 U ∧ ∀ (a : String) (i : Nat) (x : MethodName) (h : String), .methodLinkNest a i x h ∈ tables_1 → va_Nw (.methodLinkNest a i x h) U
theorem SG.warm {ad : Nat → Nat} {z sl : Nat} {xs : Nat → Int32} {u U : State} {H : Heap} (hW : u.WarmedH U.vm) (h : SG ad z sl xs u H) : SG ad z sl xs U H := by
  have hvm := hW.alike
  obtain ⟨h1, h2, h3, h4, h5, h6, h7⟩ := h
  exact ⟨fun j hj => ⟨(h1 j hj).1.moved hvm, (h1 j hj).2.moved hvm⟩, h2.moved hvm, h3, h4, h5.moved hvm, h6.moved hvm, fun a i x hh hm => (h7 a i x hh hm).warmM hW⟩
theorem SG.same {ad : Nat → Nat} {z sl : Nat} {xs : Nat → Int32} {u U : State} {H : Heap} (hvm : u.vm = U.vm) (h : SG ad z sl xs u H) : SG ad z sl xs U H := by
  have ha : u.vm.Alike U.vm := hvm ▸ Vm.Alike.refl u.vm
  obtain ⟨h1, h2, h3, h4, h5, h6, h7⟩ := h
  exact ⟨fun j hj => ⟨(h1 j hj).1.moved ha, (h1 j hj).2.moved ha⟩, h2.moved ha, h3, h4, h5.moved ha, h6.moved ha, fun a i x hh hm => (h7 a i x hh hm).same rfl hvm⟩
theorem SG.kept {ad : Nat → Nat} {z sl : Nat} {xs : Nat → Int32} {U : State} {H H1 : Heap} (h : SG ad z sl xs U H) (hz : H.size ≤ H1.size) (hq : ∀ a : Nat, a < H.size → ¬ (fun q => z ≤ q) a → H1[a]? = H[a]?) : SG ad z sl xs U H1 := by
  obtain ⟨h1, h2, h3, h4, h5, h6, h7⟩ := h
  exact ⟨fun j hj => ⟨(h1 j hj).1.kept hq, (h1 j hj).2.kept hq⟩, h2.kept (hq _ (Nat.lt_of_lt_of_le h3 h4) (Nat.not_le_of_lt h3)), h3, Nat.le_trans h4 hz, h5, h6, h7⟩
/-- the world in a heap: n cells made -/
def Wd (ad : Nat → Nat) (z : Nat) (D : va_G) (cy : Nat → ClassId) (sl : Nat) (xs : Nat → Int32) (n : Nat) (ρ : RT) (f : IT) (g : JT) (H : Heap) : Prop := va_P D vwCl (wl ad cy n ρ f g) H ∧ n ≤ NF ∧ (∀ k, xs k = iz (f 1005 k)) ∧ (sl : Int) = g 1005 0
def WU (ad : Nat → Nat) (z : Nat) (D : va_G) (cy : Nat → ClassId) (sl : Nat) (xs : Nat → Int32) (n : Nat) (ρ : RT) (f : IT) (g : JT) (U : State) : Prop := Wd ad z D cy sl xs n ρ f g U.heap ∧ va_K D vwCl (tys cy) U ∧ SG ad z sl xs U U.heap ∧ (n < NF → U.heap.size = z + n)
def QQ (ad : Nat → Nat) (z : Nat) (D : va_G) (cy : Nat → ClassId) (sl : Nat) (xs : Nat → Int32) (n : Nat) (Q : QT) : Array Value → State → Outcome → State → Prop := fun _ st o t =>
  (∃ (r : Option Value) (ρ : RT) (f : IT) (g : JT), o = .returned (r.map (cv ad)) ∧ Q r ρ f g ∧ Wd ad z D cy sl xs n ρ f g t.heap) ∧ va_F (fun q => z ≤ q) st t
def Rm (d mc ms : Nat) : Room := { frames := d, cells := mc, slots := ms, locals := 60 * d }
/-- what holds of the machine inside a method's body -/
def CX (y : MethodName) (cc : ByteArray) (nL : Nat) (rt : Option FieldType) (d mc ms : Nat) (fl : Bool) (Q : QT) (n' : Nat) (ad : Nat → Nat) (z : Nat) (D : va_G) (cy : Nat → ClassId) (sl : Nat) (xs : Nat → Int32)
    (p : Program) (l : Launch) (R : Room) (s : State) (m : MethodId) (args : Array Value) (below : List Frame) (meth : Method) (c : Code) (Z : State → Prop) : Prop :=
  p.tables.exec = Jvm.exec ∧ c.code = cc ∧ c.maxLocals = nL ∧ s.vm.findClass y.cls = some m.cls ∧ (∀ w ∈ tblG, w.before args s = true) ∧ va_K D vwCl (tys cy) s ∧ SG ad z sl xs s s.heap ∧ (∀ k, k < NF → ad k = z + k) ∧
  (d ≤ R.frames ∧ 60 * d ≤ R.locals ∧ mc ≤ R.cells ∧ ms ≤ R.slots) ∧ meth.locks = false ∧ meth.sig.returnType = rt ∧ (fl = false → meth.name = y.name ∧ Z = MQ below (QQ ad z D cy sl xs n' Q) args s mc ms (fun q => z ≤ q)) ∧ (fl = true → (y.name = "law" → R = room_1 ∧ args = #[Value.ref (ad 1005)] ∧ z = s.heap.size ∧ l.flags = flags0 ∧ Z = lw_Z below args s ∧ (Jvm.Cond.and given_1 narrow_1).before args s = true ∧ ∀ w ∈ lw_tbl, w.before args s = true) ∧ (y.name ≠ "law" → ∀ (e : Env) (H : Heap) (locs : List Loc) (ls : Array Slot) (pc : Nat) (L : List Value) (ρ : RT) (f : IT) (g : JT), Q (some (.ref (1000000 + pc))) ρ f g → Wd ad z D cy sl xs NF ρ f g H → va_S (fun q => z ≤ q) s.heap H locs → lk ad ls nL L → W p l e R s m args below meth c H locs 0 0 Z (F0 m pc ls [])))
/-- from here the method comes to its end with Q -/
def V (y : MethodName) (cc : ByteArray) (nL : Nat) (rt : Option FieldType) (d mc ms : Nat) (fl : Bool) (Q : QT) (n' n kc ks pc : Nat) (L st : List Value) (ρ : RT) (f : IT) (g : JT) : Prop :=
  ∀ (ad : Nat → Nat) (z : Nat) (D : va_G) (cy : Nat → ClassId) (sl : Nat) (xs : Nat → Int32) (p : Program) (l : Launch) (e : Env) (R : Room) (s : State) (m : MethodId) (args : Array Value) (below : List Frame) (meth : Method) (c : Code) (Z : State → Prop) (H : Heap) (locs : List Loc) (ls : Array Slot),
    CX y cc nL rt d mc ms fl Q n' ad z D cy sl xs p l R s m args below meth c Z → (Wd ad z D cy sl xs n ρ f g H ∧ (n < NF → s.heap.size + kc = z + n)) → va_S (fun q => z ≤ q) s.heap H locs → lk ad ls nL L →
    W p l e R s m args below meth c H locs kc ks Z (F0 m pc ls (st.map (cv ad)))
/-- a method's contract: called so, in this world, it returns with Q -/
def Ct (y : MethodName) (cc : ByteArray) (nL : Nat) (rt : Option FieldType) (d mc ms : Nat) (n n' : Nat) (as : List Value) (ρ : RT) (f : IT) (g : JT) (Q : QT) : Prop :=
  ∀ (l : Launch) (ad : Nat → Nat) (z : Nat) (D : va_G) (cy : Nat → ClassId) (sl : Nat) (xs : Nat → Int32), (∀ k, k < NF → ad k = z + k) →
    Met l y (Cond.code y cc nL rt :: tblG) (Rm d mc ms) (va_Pc (as.map (cv ad)) (WU ad z D cy sl xs n ρ f g)) (QQ ad z D cy sl xs n' Q) mc ms (fun q => z ≤ q)
/-! a contract out of a walk -/
def layA : List Value → List Value
  | [] => []
  | v :: l => if v.category = 2 then v :: .null :: layA l else v :: layA l
theorem layA_len (ad : Nat → Nat) : ∀ as : List Value, (lg_sl (as.map (cv ad))).length = (layA as).length
  | [] => rfl
  | v :: l => by
    have ih := layA_len ad l
    simp only [lg_sl] at ih
    simp only [lg_sl, List.map_cons, List.flatMap_cons, List.length_append, cv_cat, layA, ih]
    split <;> simp <;> omega
theorem layA_mem (ad : Nat → Nat) (k : Nat) : ∀ (as : List Value) (off i : Nat) (v : Value), (layA as ++ List.replicate k .null)[i]? = some v → nul v = false → (off + i, cv ad v) ∈ lv_args off (as.map (cv ad))
  | [], off, i, v, h, hn => by
    simp only [layA, List.nil_append] at h
    have := List.mem_of_getElem? h
    rw [List.mem_replicate] at this
    rw [this.2] at hn
    cases hn
  | w :: l, off, i, v, h, hn => by
    simp only [List.map_cons, lv_args, cv_cat, List.mem_cons]
    by_cases hc : w.category = 2
    · simp only [layA, hc, if_true, List.cons_append] at h ⊢
      match i with
      | 0 => simp at h; subst h; exact Or.inl rfl
      | 1 => simp at h; subst h; cases hn
      | j + 2 =>
        simp only [List.getElem?_cons_succ] at h
        have := layA_mem ad k l (off + 2) j v h hn
        rw [show off + 2 + j = off + (j + 2) by omega] at this
        exact Or.inr this
    · simp only [layA, hc, if_false, List.cons_append] at h ⊢
      match i with
      | 0 => simp at h; subst h; exact Or.inl rfl
      | j + 1 =>
        simp only [List.getElem?_cons_succ] at h
        have := layA_mem ad k l (off + 1) j v h hn
        rw [show off + 1 + j = off + (j + 1) by omega] at this
        exact Or.inr this
section CT
variable {y : MethodName} {cc : ByteArray} {nL : Nat} {rt : Option FieldType} {d mc ms : Nat} {fl : Bool} {Q : QT} {n' n kc ks pc : Nat} {L st : List Value} {ρ : RT} {f : IT} {g : JT}
theorem Ct.ofV {as : List Value} (hy : plainName y.cls = true) (hL : layA as ++ List.replicate (nL - (layA as).length) .null = L) (hl : (layA as).length ≤ nL) (h : V y cc nL rt d mc ms false Q n' n 0 0 0 L [] ρ f g) : Ct y cc nL rt d mc ms n n' as ρ f g Q := by
  intro l ad z D cy sl xs hz
  refine Met.ofW (cc := cc) (maxL := nL) (ret := rt) hy rfl ?_
  intro p e s m args below meth c s₁ B hml hv
  obtain ⟨rfl, hW, hK, hG, hsz⟩ := hv
  have hts := atoms_spec (ws := Cond.code y cc nL rt :: tblG) B.pre
  rw [lg_entry_eq]
  refine h ad z D cy sl xs p l e _ s m _ below meth c _ s.heap [] _ ⟨B.exec, B.bytes, hml, findClass_of_methodNamed B.named, fun w hw => hts w (List.mem_cons_of_mem _ hw), hK, hG, hz, ⟨Nat.le_refl _, Nat.le_refl _, Nat.le_refl _, Nat.le_refl _⟩, B.notSynchronized, B.returns, fun _ => ⟨(name_of_methodNamed B.named B.method).1, rfl⟩, fun h => by cases h⟩ ⟨hW, fun h => hsz h⟩ va_S.rf ?_
  refine lk_sub (lv_entry (as.map (cv ad)) (by rw [layA_len]; exact hl)) ?_
  intro q hq
  obtain ⟨v, h1, h2, h3⟩ := lvL_mem.mp hq
  subst hL
  have := layA_mem ad _ as 0 q.1 v h1 h2
  rw [Nat.zero_add, ← h3] at this
  exact this
theorem Ct.mono {as : List Value} {Q' : QT} (h : Ct y cc nL rt d mc ms n n' as ρ f g Q') (hQ : ∀ r ρ f g, Q' r ρ f g → Q r ρ f g) : Ct y cc nL rt d mc ms n n' as ρ f g Q := by
  intro l ad z D cy sl xs hz p e ha hc hk s m args below hf hw hP hT
  obtain ⟨k, o, h1, h2, h3, h4⟩ := h l ad z D cy sl xs hz p e ha hc hk s m args below hf hw hP hT
  obtain ⟨⟨⟨r, ρ1, f1, g1, e1, q1, w1⟩, hF⟩, h5⟩ := h4
  exact ⟨k, o, h1, h2, h3, ⟨⟨r, ρ1, f1, g1, e1, hQ _ _ _ _ q1, w1⟩, hF⟩, h5⟩
/-- behind a call -/
theorem vcall {p : Program} {l : Launch} {e : Env} {R : Room} {s : State} {m : MethodId} {args : Array Value} {below : List Frame} {meth : Method} {c : Code} {Z : State → Prop} {H : Heap} {locs : List Loc} {ls : Array Slot} {ad : Nat → Nat} {z : Nat} {D : va_G} {cy : Nat → ClassId} {sl : Nat} {xs : Nat → Int32} {cells slots mc1 ms1 n1 : Nat} {st0 rest : List Value} {a : Array Value} {Q1 : QT}
    (hr : va_Run p l e R s m args below meth c H locs cells slots mc1 ms1 (F0 m pc ls st0) rest (QQ ad z D cy sl xs n1 Q1 a) (fun q => z ≤ q)) (hS : va_S (fun q => z ≤ q) s.heap H locs)
    (kk : ∀ (r : Option Value) (ρ1 : RT) (f1 : IT) (g1 : JT) (H1 : Heap) (locs1 : List Loc), Q1 r ρ1 f1 g1 → Wd ad z D cy sl xs n1 ρ1 f1 g1 H1 → va_S (fun q => z ≤ q) s.heap H1 locs1 → W p l e R s m args below meth c H1 locs1 (cells + mc1) (slots + ms1) Z (F0 m (pc + 3) ls ((r.map (cv ad)).toList ++ rest))) :
    W p l e R s m args below meth c H locs cells slots Z (F0 m pc ls st0) := by
  intro T hT X
  obtain ⟨v, st₀, t, T', Lc, h0, X', hL, e1, e2, ⟨⟨r, ρ1, f1, g1, hv, hq, hw⟩, hz, hk⟩, stp⟩ := hr T hT X
  cases hv
  rw [h0] at hz hk
  obtain ⟨t2, a1, b1⟩ := kk r ρ1 f1 g1 T'.heap (locs ++ Lc) hq (by rw [e1]; exact hw)
    ⟨Nat.le_trans hS.1 (by rw [e1]; exact hz), fun q h1 h2 => by rw [e1, hk q (Nat.lt_of_lt_of_le h1 hS.1) h2]; exact hS.2.1 q h1 h2, fun q hq => by
      rcases List.mem_append.mp hq with h | h
      · exact hS.2.2 q h
      · exact hL q h⟩ T' rfl X'
  exact ⟨t2, stp t2 a1, b1⟩
theorem WU.blind {ad : Nat → Nat} {z sl : Nat} {xs : Nat → Int32} {D : va_G} {cy : Nat → ClassId} {as : List Value} : FrameBlind (va_Pc as (WU ad z D cy sl xs n ρ f g)) := fun a U gg mk q => by
  obtain ⟨q0, q1, q2, q3, q4⟩ := q
  exact ⟨q0, q1, va_K.moved (u := U) (U := U.calling gg mk a) (Vm.Alike.refl U.vm) q2, SG.same (u := U) (U := U.calling gg mk a) rfl q3, q4⟩
/-- a callee's facts: code, link, class -/
def MLs (own : String) (idx : Nat) (y1 : MethodName) (cc1 : ByteArray) (nL1 : Nat) (rt1 : Option FieldType) (na : Nat) : Prop :=
  Cond.code y1 cc1 nL1 rt1 ∈ tblG ∧ Cond.initialized y1.cls ∈ tblG ∧ Cond.methodLink own idx y1 ∈ tblG ∧ (y1.cls ≠ "java/lang/invoke/MethodHandle" ∧ y1.cls ≠ "java/lang/invoke/VarHandle") ∧ (parseMethodDescriptor y1.desc).map (fun d => d.parameters.length) = some na
theorem MLs.callB {own : String} {idx : Nat} {y1 : MethodName} {cc1 : ByteArray} {nL1 : Nat} {rt1 : Option FieldType} {na d1 mc1 ms1 : Nat} {R : Room} {s : State} {args : Array Value} (h : MLs own idx y1 cc1 nL1 rt1 na) (hts : ∀ w ∈ tblG, w.before args s = true) (hf : d1 + 1 ≤ R.frames) (hl : 8 + (nL1 + 11) + 60 * d1 ≤ R.locals) :
    CallB R s args own idx y1 cc1 nL1 rt1 (Cond.code y1 cc1 nL1 rt1 :: tblG) (Rm d1 mc1 ms1) mc1 ms1 na := by
  obtain ⟨h1, h2, h3, h4, h5⟩ := h
  refine ⟨rfl, rfl, hf, hl, fun w hw a' U hW => ?_, List.mem_cons_self, hts _ h1, hts _ h2, h4, fun sig hs => ?_, hts _ h3⟩
  · have hm : w ∈ tblG := by
      rcases List.mem_cons.mp hw with h | h
      · rw [h]; exact h1
      · exact h
    exact word_at hW (tblG_good w hm) (hts w hm)
  · rw [hs] at h5
    simpa using h5.symm
/-- the callee's start -/
theorem WU.pre {ad : Nat → Nat} {z sl : Nat} {xs : Nat → Int32} {D : va_G} {cy : Nat → ClassId} {s U : State} {H : Heap} {locs : List Loc} (hW : Wd ad z D cy sl xs n ρ f g H) (hK : va_K D vwCl (tys cy) s) (hG : SG ad z sl xs s s.heap) (hS : va_S (fun q => z ≤ q) s.heap H locs) (hsz : n < NF → H.size = z + n) (hU : U.heap = H) (hw : s.WarmedH U.vm) : WU ad z D cy sl xs n ρ f g U := by
  subst hU
  exact ⟨hW, va_K.moved hw.alike hK, (hG.kept hS.1 hS.2.1).warm hw, hsz⟩
theorem map_rev (ad : Nat → Nat) (as rest : List Value) : (as.reverse ++ rest).map (cv ad) = (as.map (cv ad)).reverse ++ rest.map (cv ad) := by simp
theorem cat_sum (ad : Nat → Nat) (st : List Value) : ((st.map (cv ad)).map fun v => v.category).sum = (st.map fun v => v.category).sum := by
  congr 1
  rw [List.map_map]
  exact List.map_congr_left (fun v _ => cv_cat ad v)
theorem W.sz {p : Program} {l : Launch} {e : Env} {R : Room} {s : State} {m : MethodId} {args : Array Value} {below : List Frame} {meth : Method} {c : Code} {Z : State → Prop} {H : Heap} {locs : List Loc} {cells slots : Nat} {gf : JFrame} (h : H.size ≤ s.heap.size + cells → W p l e R s m args below meth c H locs cells slots Z gf) : W p l e R s m args below meth c H locs cells slots Z gf :=
  fun T hT X => h (by subst hT; exact X.same.2.2.1) T hT X
theorem Wd.low {ad : Nat → Nat} {z sl : Nat} {xs : Nat → Int32} {D : va_G} {cy : Nat → ClassId} {H : Heap} (hW : Wd ad z D cy sl xs n ρ f g H) (hz : ∀ k, k < NF → ad k = z + k) (h0 : z ≤ H.size) : z + n ≤ H.size := by
  cases n with
  | zero => exact h0
  | succ k =>
    have hlt : k < k + 1 := Nat.lt_succ_self k
    have h1 := (hW.1 k _ (wl_get hlt)).lt
    have h2 := hW.2.1
    rw [hz k (by omega)] at h1
    omega
theorem Wd.size {ad : Nat → Nat} {z sl : Nat} {xs : Nat → Int32} {D : va_G} {cy : Nat → ClassId} {s : State} {H : Heap} {locs : List Loc} (hW : Wd ad z D cy sl xs n ρ f g H ∧ (n < NF → s.heap.size + kc = z + n)) (hz : ∀ k, k < NF → ad k = z + k) (hG : SG ad z sl xs s s.heap) (hS : va_S (fun q => z ≤ q) s.heap H locs) (hsz : H.size ≤ s.heap.size + kc) : n < NF → H.size = z + n := by
  intro hn
  have h1 := hW.1.low hz (Nat.le_trans hG.2.2.2.1 hS.1)
  have h2 := hW.2 hn
  omega
/-- a call, however it is run -/
theorem V_callX {d1 : Nat} {y1 : MethodName} {cc1 : ByteArray} {nL1 : Nat} {rt1 : Option FieldType} {mc1 ms1 n1 : Nat} {as rest : List Value} {Q1 : QT} (hs : st = as.reverse ++ rest) (hnn : n1 = n + mc1)
    (hC : Ct y1 cc1 nL1 rt1 d1 mc1 ms1 n n1 as ρ f g Q1)
    (run : ∀ (ad : Nat → Nat) (z : Nat) (D : va_G) (cy : Nat → ClassId) (sl : Nat) (xs : Nat → Int32) (p : Program) (l : Launch) (e : Env) (R : Room) (s : State) (m : MethodId) (args : Array Value) (below : List Frame) (meth : Method) (c : Code) (Z : State → Prop) (H : Heap) (locs : List Loc) (ls : Array Slot),
      CX y cc nL rt d mc ms fl Q n' ad z D cy sl xs p l R s m args below meth c Z → Wd ad z D cy sl xs n ρ f g H → va_S (fun q => z ≤ q) s.heap H locs → lk ad ls nL L → (∀ U : State, U.heap = H → s.WarmedH U.vm → WU ad z D cy sl xs n ρ f g U) →
      Met l y1 (Cond.code y1 cc1 nL1 rt1 :: tblG) (Rm d1 mc1 ms1) (va_Pc (as.map (cv ad)) (WU ad z D cy sl xs n ρ f g)) (QQ ad z D cy sl xs n1 Q1) mc1 ms1 (fun q => z ≤ q) →
      va_Run p l e R s m args below meth c H locs kc ks mc1 ms1 (F0 m pc ls ((as.map (cv ad)).reverse ++ rest.map (cv ad))) (rest.map (cv ad)) (QQ ad z D cy sl xs n1 Q1 (as.map (cv ad)).toArray) (fun q => z ≤ q))
    (h : ∀ r ρ1 f1 g1, Q1 r ρ1 f1 g1 → V y cc nL rt d mc ms fl Q n' n1 (kc + mc1) (ks + ms1) (pc + 3) L (r.toList ++ rest) ρ1 f1 g1) : V y cc nL rt d mc ms fl Q n' n kc ks pc L st ρ f g := by
  intro ad z D cy sl xs p l e R s m args below meth c Z H locs ls C hW hS hL
  refine W.sz (fun hsz => ?_)
  have C0 := C
  obtain ⟨hx, hb, hml, hown, hts, hK, hG, hz, -⟩ := C
  subst hs
  rw [map_rev]
  have hsize := Wd.size hW hz hG hS hsz
  refine vcall (run ad z D cy sl xs p l e R s m args below meth c Z H locs ls C0 hW.1 hS hL (fun U hU hw => WU.pre hW.1 hK hG hS hsize hU hw) (hC l ad z D cy sl xs hz)) hS ?_
  intro r ρ1 f1 g1 H1 locs1 hq hW1 hS1
  have := h r ρ1 f1 g1 hq ad z D cy sl xs p l e R s m args below meth c Z H1 locs1 ls C0 ⟨hW1, fun hlt => by have := hW.2 (by omega); omega⟩ hS1 hL
  rw [List.map_append] at this
  cases r <;> exact this
theorem V_callS {idx na d1 : Nat} {y1 : MethodName} {cc1 : ByteArray} {nL1 : Nat} {rt1 : Option FieldType} {mc1 ms1 n1 : Nat} {as rest : List Value} {Q1 : QT} (hM : MLs y.cls idx y1 cc1 nL1 rt1 na) (hst : Cond.static y1 ∈ tblG) (hd : decode cc pc = .ok (.invokestatic idx, 3)) (hs : st = as.reverse ++ rest) (hna : as.length = na) (hdd : d1 + 1 ≤ d) (hln : nL1 ≤ 41) (hr8 : (rest.map fun v => v.category).sum ≤ 8) (hmc : kc + mc1 ≤ mc) (hms : ks + ms1 ≤ ms) (hnn : n1 = n + mc1)
    (hC : Ct y1 cc1 nL1 rt1 d1 mc1 ms1 n n1 as ρ f g Q1) (h : ∀ r ρ1 f1 g1, Q1 r ρ1 f1 g1 → V y cc nL rt d mc ms fl Q n' n1 (kc + mc1) (ks + ms1) (pc + 3) L (r.toList ++ rest) ρ1 f1 g1) : V y cc nL rt d mc ms fl Q n' n kc ks pc L st ρ f g := by
  refine V_callX hs hnn hC (fun ad z D cy sl xs p l e R s m args below meth c Z H locs ls C hW hS hL hU hM1 => ?_) h
  obtain ⟨hx, hb, hml, hown, hts, hK, hG, hz, ⟨hR1, hR2, hR3, hR4⟩, -⟩ := C
  exact va_runS (As := as.map (cv ad)) (rest := rest.map (cv ad)) ⟨hx, hb, hml, hown, hts⟩ hM1 ⟨hM.callB hts (by omega) (by omega), hts _ hst⟩ ⟨WU.blind, fun U h1 h2 => ⟨rfl, hU U h1 h2⟩⟩ rfl (by rw [List.length_map]; exact hna) hL.1 rfl (by rw [cat_sum]; exact lv_room (m := m) (pc := pc) (ls := ls) (rest := rest) hr8) hd ⟨by omega, by omega⟩
end CT

