section WEAK
variable {y : MethodName} {cc : ByteArray} {nL : Nat} {rt : Option FieldType} {d mc ms : Nat} {fl : Bool} {Q : QT} {n' n kc ks pc : Nat} {L L' st : List Value} {ρ : RT} {f : IT} {g : JT}
/-- locals that are no longer wanted -/
def wk : List Value → List Value → Prop
  | [], _ => True
  | _ :: _, [] => False
  | v :: l', w :: l => (v = .null ∨ v = w) ∧ wk l' l
theorem wk_at : ∀ (L' L : List Value), wk L' L → ∀ (i : Nat) (v : Value), L'[i]? = some v → nul v = false → L[i]? = some v
  | [], _, _, i, v, hi, _ => by simp at hi
  | _ :: _, [], h, _, _, _, _ => by cases h
  | a :: l', b :: l, h, i, v, hi, hn => by
    cases i with
    | zero =>
      simp at hi
      subst hi
      rcases h.1 with e | e
      · rw [e] at hn; cases hn
      · simp [e]
    | succ i =>
      simp at hi ⊢
      exact wk_at l' l h.2 i v hi hn
theorem V_weak (hw : wk L' L) (h : V y cc nL rt d mc ms fl Q n' n kc ks pc L' st ρ f g) : V y cc nL rt d mc ms fl Q n' n kc ks pc L st ρ f g := by
  intro ad z D cy sl xs p l e R s m args below meth c Z H locs ls C hW hS hL
  refine h ad z D cy sl xs p l e R s m args below meth c Z H locs ls C hW hS (lk_sub hL (fun q hq => ?_))
  obtain ⟨v, h1, h2, h3⟩ := lvL_mem.mp hq
  exact lvL_mem.mpr ⟨v, wk_at L' L hw q.1 v h1 h2, h2, h3⟩
theorem wk_c {v w : Value} {l' l : List Value} (h : v = .null ∨ v = w) (h2 : wk l' l) : wk (v :: l') (w :: l) := ⟨h, h2⟩
theorem wk_n {l : List Value} : wk [] l := by cases l <;> exact True.intro
end WEAK
