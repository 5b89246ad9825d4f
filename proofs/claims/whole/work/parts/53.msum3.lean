/-! what binding keeps -/
theorem SJ.cg {lo : Nat} {h c : Int} {f f' : IT} (H : SJ lo h c f) (h1 : ∀ k, k = 25 ∨ 58 ≤ k ∧ k ≤ 61 → f' 104 k = f 104 k) (h2 : ∀ a, 130 ≤ a ∧ a ≤ 134 → f' a = f a) : SJ lo h c f' := by
  unfold SJ at *
  rw [h1 25 (by omega), h1 58 (by omega), h1 59 (by omega), h1 60 (by omega), h1 61 (by omega), h2 130 (by omega), h2 131 (by omega), h2 132 (by omega), h2 133 (by omega), h2 134 (by omega)]
  exact H
theorem SJ.up {lo : Nat} {h c : Int} {f : IT} (H : SJ lo h c f) {a k : Nat} {x : Int} (h1 : ¬ (130 ≤ a ∧ a ≤ 134)) (h2 : ¬ (a = 104 ∧ (k = 25 ∨ 58 ≤ k ∧ k ≤ 61))) : SJ lo h c (u2 f a k x) :=
  H.cg (fun j hj => u2_o (by omega)) (fun b hb => funext (fun j => u2_o (by omega)))
theorem SJ.tk {lo : Nat} {h c : Int} {f : IT} (H : SJ lo h c f) : SJ lo h c (tkF f) := H.cg (fun j hj => tkF_o (by omega)) (fun b hb => tkF_r (by omega))
theorem SJ.ct {lo : Nat} {h : Int} {f : IT} (H : SJ lo h 0 f) (hc : (ctdF f).1 = true) : SJ lo h 1 (ctdF f).2 := by
  unfold ctdF at *
  split at hc
  · cases hc
  · rename_i e
    rw [if_neg e]
    obtain ⟨s1, s2, s3, s4, s5, s6, s7, s8, s9⟩ := H
    unfold SJ
    simp only
    rw [u2_o (by omega), u2_o (by omega), u2_s, u2_o (by omega), u2_o (by omega)]
    have e133 : u2 f 104 61 (f 104 61 + 1) 133 = f 133 := funext (fun j => u2_o (by omega))
    have e134 : u2 f 104 61 (f 104 61 + 1) 134 = f 134 := funext (fun j => u2_o (by omega))
    have e130 : u2 f 104 61 (f 104 61 + 1) 130 = f 130 := funext (fun j => u2_o (by omega))
    have e131 : u2 f 104 61 (f 104 61 + 1) 131 = f 131 := funext (fun j => u2_o (by omega))
    have e132 : u2 f 104 61 (f 104 61 + 1) 132 = f 132 := funext (fun j => u2_o (by omega))
    rw [e133, e134, e130, e131, e132]
    exact ⟨s1, s2, by omega, s4, s5, s6, by omega, s8, s9⟩
theorem cnt_s {P : Int → Bool} {r : Nat → Int} {n : Nat} : cnt P r (n + 1) = cnt P r n + (if P (r n) = true then 1 else 0) := rfl
/-- one more that waits -/
theorem SJ.push {lo : Nat} {h c h' c' z : Int} {f : IT} (H : SJ lo h c f) {k : Int} (hk : k = 0 ∨ 2 ≤ k ∧ k ≤ 14) (hz : z = f 104 60 + (if isZ k = true then 1 else 0)) (hz8 : z ≤ 8) (hc : c = c' + (if isO k = true then 1 else 0)) (hh : h = h' + (if isB k = true then 1 else 0)) : SJ lo h' c' (wtsF k (u2 f 104 60 z)) := by
  obtain ⟨s1, s2, s3, s4, s5, s6, s7, s8, s9, s10⟩ := H
  obtain ⟨w, hw⟩ : ∃ w : Nat, f 104 58 = (w : Int) := ⟨(f 104 58).toNat, by omega⟩
  have G : ∀ x y, wtsF k (u2 f 104 60 z) x y = if x = 104 ∧ y = 58 then (w : Int) + 1 else if x = 133 ∧ y = w then k else if x = 104 ∧ y = 60 then z else f x y := fun x y => by
    unfold wtsF
    have e1 : u2 f 104 60 z 104 58 = (w : Int) := (u2_o (by omega)).trans hw
    rw [e1, Int.toNat_natCast]
    rfl
  generalize wtsF k (u2 f 104 60 z) = F at G
  have g58 : F 104 58 = (w : Int) + 1 := by rw [G]; simp
  have g60 : F 104 60 = z := by rw [G]; simp
  have g61 : F 104 61 = f 104 61 := by rw [G]; simp
  have g59 : F 104 59 = f 104 59 := by rw [G]; simp
  have g25 : F 104 25 = f 104 25 := by rw [G]; simp
  have row : ∀ a, a ≠ 104 → a ≠ 133 → F a = f a := fun a h1 h2 => funext (fun y => by rw [G]; simp [h1, h2])
  have low : ∀ i, i < w → F 133 i = f 133 i := fun i hi => by rw [G]; simp [show ¬ i = w by omega]
  have top : F 133 w = k := by rw [G]; simp
  rw [hw, Int.toNat_natCast] at s5 s6 s7 s8
  unfold SJ
  rw [g58, g60, g61, g59, g25, row 134 (by omega) (by omega), row 130 (by omega) (by omega), row 131 (by omega) (by omega), row 132 (by omega) (by omega), show ((w : Int) + 1).toNat = w + 1 by omega, cnt_s, cnt_s, cnt_s, top, cnt_cg w low, cnt_cg w low, cnt_cg w low]
  refine ⟨by omega, ⟨?_, hz8⟩, s3, s4, fun i hi => ?_, by omega, by omega, by omega, s9, s10⟩
  · rw [hz]; split <;> omega
  · by_cases e : i = w
    · rw [e, top]; exact hk
    · rw [low i (by omega)]; exact s5 i (by omega)
theorem wts60 {k : Int} {f : IT} : wtsF k (u2 f 104 60 (f 104 60)) = wtsF k f := by rw [u2_id]
theorem SJ.pushN {lo : Nat} {f : IT} (H : SJ lo 0 1 f) : SJ lo 0 0 (wtsF 2 f) := by
  rw [← wts60]
  exact H.push (Or.inr (by omega)) (by simp [isZ]) H.2.1.2 (by simp [isO]) (by simp [isB])
theorem SJ.pushB {lo : Nat} {f : IT} (H : SJ lo 1 1 f) {k : Int} (hk : 3 ≤ k ∧ k ≤ 14) : SJ lo 0 0 (wtsF k f) := by
  rw [← wts60]
  have b1 : isZ k = false := by unfold isZ; simp; omega
  have b2 : isO k = true := by unfold isO; simp; omega
  have b3 : isB k = true := by unfold isB; simp; omega
  exact H.push (Or.inr (by omega)) (by rw [b1]; simp) H.2.1.2 (by rw [b2]; simp) (by rw [b3]; simp)
theorem SJ.push0 {lo : Nat} {f : IT} (H : SJ lo 0 0 f) (h8 : f 104 60 < 8) : SJ lo 0 0 (wtsF 0 (u2 f 104 60 (f 104 60 + 1))) :=
  H.push (Or.inl rfl) (by simp [isZ]) (by omega) (by simp [isO]) (by simp [isB])
theorem SJ.leaf {lo : Nat} {f : IT} (H : SJ lo 0 1 f) {k a b : Int} (hk : 0 ≤ k ∧ k ≤ 1) (h1 : k = 0 → 0 ≤ a ∧ a ≤ 9999) (h2 : k = 1 → 0 ≤ a ∧ a ≤ 7) : SJ lo 1 0 (grwF k a b f) := by
  have hr := H.rng (by omega)
  have key := H.grw (k := k) (a := a) (b := b) (by omega) (m := 0) (by rw [if_pos (by omega)]) (by omega) h1 h2 (fun h => by omega) (fun h => by omega)
  rw [show f 104 59 - ((0 : Nat) : Int) = f 104 59 by omega, u2_id] at key
  exact key
/-- a bracket taken away -/
theorem SJ.zero {lo : Nat} {f : IT} (H : SJ lo 1 0 f) (hW : 0 < f 104 58) (hk : f 133 (f 104 58 - 1).toNat = 0) : SJ lo 1 0 (u2 (u2 f 104 58 (f 104 58 - 1)) 104 60 (f 104 60 - 1)) := by
  obtain ⟨s1, s2, s3, s4, s5, s6, s7, s8, s9, s10⟩ := H
  obtain ⟨w, hw⟩ : ∃ w : Nat, f 104 58 = (w : Int) + 1 := ⟨(f 104 58 - 1).toNat, by omega⟩
  have ew : (f 104 58 - 1).toNat = w := by omega
  rw [ew] at hk
  rw [show (f 104 58).toNat = w + 1 by omega] at s5 s6 s7 s8
  rw [cnt_s, hk] at s6 s7 s8
  have c1 := cnt_rng (P := isZ) (r := f 133) w
  simp [isZ] at s6
  simp [isO] at s7
  simp [isB] at s8
  have G : ∀ x y, u2 (u2 f 104 58 (f 104 58 - 1)) 104 60 (f 104 60 - 1) x y = if x = 104 ∧ y = 60 then f 104 60 - 1 else if x = 104 ∧ y = 58 then (w : Int) else f x y := fun x y => by
    rw [show f 104 58 - 1 = (w : Int) by omega]; rfl
  generalize u2 (u2 f 104 58 (f 104 58 - 1)) 104 60 (f 104 60 - 1) = F at G
  have row : ∀ a, a ≠ 104 → F a = f a := fun a h1 => funext (fun y => by rw [G]; simp [h1])
  have g58 : F 104 58 = (w : Int) := by rw [G]; simp
  have g60 : F 104 60 = f 104 60 - 1 := by rw [G]; simp
  have g61 : F 104 61 = f 104 61 := by rw [G]; simp
  have g59 : F 104 59 = f 104 59 := by rw [G]; simp
  have g25 : F 104 25 = f 104 25 := by rw [G]; simp
  unfold SJ
  rw [g58, g60, g61, g59, g25, row 133 (by omega), row 134 (by omega), row 130 (by omega), row 131 (by omega), row 132 (by omega), Int.toNat_natCast]

  exact ⟨by omega, by omega, s3, s4, fun i hi => s5 i (by omega), by omega, by omega, by omega, s9, s10⟩
/-- what a sum's reading may change -/
def SF (lo : Nat) (f f' : IT) : Prop := ∀ a k, ¬ (a = 104 ∧ (k = 4 ∨ k = 5 ∨ 7 ≤ k ∧ k ≤ 11 ∨ k = 25 ∨ 58 ≤ k ∧ k ≤ 63)) → a ≠ 133 → a ≠ 134 → ¬ ((a = 130 ∨ a = 131 ∨ a = 132) ∧ 64 + lo ≤ k) → f' a k = f a k
theorem SF.rf {lo : Nat} {f : IT} : SF lo f f := fun _ _ _ _ _ _ => rfl
theorem SF.tr {lo : Nat} {f f' f'' : IT} (h : SF lo f f') (h' : SF lo f' f'') : SF lo f f'' := fun a k q r s t => (h' a k q r s t).trans (h a k q r s t)
theorem SF.up {lo : Nat} {f f' : IT} {a k : Nat} {x : Int} (hP : (a = 104 ∧ (k = 4 ∨ k = 5 ∨ 7 ≤ k ∧ k ≤ 11 ∨ k = 25 ∨ 58 ≤ k ∧ k ≤ 63)) ∨ a = 133 ∨ a = 134 ∨ ((a = 130 ∨ a = 131 ∨ a = 132) ∧ 64 + lo ≤ k)) (h : SF lo f f') : SF lo f (u2 f' a k x) := fun b j q r s t => (u2_o (fun e => by
  obtain ⟨rfl, rfl⟩ := e
  rcases hP with h | h | h | h
  · exact q h
  · exact r h
  · exact s h
  · exact t h)).trans (h b j q r s t)
theorem SF.tk {lo : Nat} {f f' : IT} (h : SF lo f f') : SF lo f (tkF f') := fun b j q r s t => (tkF_o (by omega)).trans (h b j q r s t)
theorem SF.wrg {lo : Nat} {f f' : IT} (h : SF lo f f') {w : Int} : SF lo f (wrg w f') := (h.up (Or.inl ⟨rfl, by omega⟩)).up (Or.inl ⟨rfl, by omega⟩)
theorem SF.wts {lo : Nat} {f f' : IT} (h : SF lo f f') {k : Int} : SF lo f (wtsF k f') := (h.up (Or.inr (Or.inl rfl))).up (Or.inl ⟨rfl, by omega⟩)
theorem SF.ct {lo : Nat} {f f' : IT} (h : SF lo f f') : SF lo f (ctdF f').2 := by
  unfold ctdF
  split
  · exact h.wrg
  · exact h.up (Or.inl ⟨rfl, by omega⟩)
theorem SF.grw {lo : Nat} {f f' : IT} (h : SF lo f f') {k a b : Int} (hl : (lo : Int) ≤ f' 104 25) : SF lo f (grwF k a b f') := by
  unfold grwF
  exact (((((h.up (Or.inr (Or.inr (Or.inr ⟨by omega, by omega⟩)))).up (Or.inr (Or.inr (Or.inr ⟨by omega, by omega⟩)))).up (Or.inr (Or.inr (Or.inr ⟨by omega, by omega⟩)))).up (Or.inr (Or.inr (Or.inl rfl)))).up (Or.inl ⟨rfl, by omega⟩)).up (Or.inl ⟨rfl, by omega⟩)
theorem SF.bd1 {lo : Nat} {f f' : IT} (h : SF lo f f') (hl : (lo : Int) ≤ f' 104 25) : SF lo f (bnd1 f') := by
  unfold bnd1 drpF
  split
  · exact ((h.up (Or.inl ⟨rfl, by omega⟩)).up (Or.inl ⟨rfl, by omega⟩)).grw (by rw [u2_o (by omega), u2_o (by omega)]; exact hl)
  · exact (((h.up (Or.inl ⟨rfl, by omega⟩)).up (Or.inl ⟨rfl, by omega⟩)).up (Or.inl ⟨rfl, by omega⟩)).grw (by rw [u2_o (by omega), u2_o (by omega), u2_o (by omega)]; exact hl)
theorem PK.cg {f f' : IT} (h : PK f) (h1 : ∀ k, 6 ≤ k ∧ k ≤ 9 → f' 104 k = f 104 k) (h2 : f' 105 = f 105) (h3 : f' 106 = f 106) : PK f' := by
  obtain ⟨⟨k1, k2, ht, hW⟩, kk⟩ := h
  refine ⟨⟨?_, ?_, ?_, ?_⟩, ?_⟩
  · rw [h1 6 (by omega)]; exact k1
  · rw [h1 6 (by omega), h1 7 (by omega)]; exact k2
  · rw [h2]; exact ht
  · rw [h3]; exact hW
  · unfold KwK; rw [h1 8 (by omega), h1 9 (by omega)]; exact kk
/-- beside the sum's own cells, binding changes nothing -/
def BK (f f' : IT) : Prop := ∀ a k, ¬ (a = 104 ∧ (k = 25 ∨ k = 58 ∨ k = 59)) → ¬ (130 ≤ a ∧ a ≤ 132) → a ≠ 134 → f' a k = f a k
theorem BK.up {f f' : IT} {a k : Nat} {x : Int} (hP : (a = 104 ∧ (k = 25 ∨ k = 58 ∨ k = 59)) ∨ (130 ≤ a ∧ a ≤ 132) ∨ a = 134) (h : BK f f') : BK f (u2 f' a k x) := fun b j q r s => (u2_o (fun e => by
  obtain ⟨rfl, rfl⟩ := e
  rcases hP with h | h | h
  · exact q h
  · exact r h
  · exact s h)).trans (h b j q r s)
theorem BK.rf {f : IT} : BK f f := fun _ _ _ _ _ => rfl
theorem BK.grw {f f' : IT} (h : BK f f') {k a b : Int} : BK f (grwF k a b f') := by
  unfold grwF
  exact (((((h.up (Or.inr (Or.inl (by omega)))).up (Or.inr (Or.inl (by omega)))).up (Or.inr (Or.inl (by omega)))).up (Or.inr (Or.inr rfl))).up (Or.inl ⟨rfl, by omega⟩)).up (Or.inl ⟨rfl, by omega⟩)
theorem BK.bd1 {f f' : IT} (h : BK f f') : BK f (bnd1 f') := by
  unfold bnd1 drpF
  split
  · exact ((h.up (Or.inl ⟨rfl, by omega⟩)).up (Or.inl ⟨rfl, by omega⟩)).grw
  · exact (((h.up (Or.inl ⟨rfl, by omega⟩)).up (Or.inl ⟨rfl, by omega⟩)).up (Or.inl ⟨rfl, by omega⟩)).grw
theorem BK.pk {f f' : IT} (h : BK f f') (hK : PK f) : PK f' := hK.cg (fun k hk => h 104 k (by omega) (by omega) (by omega)) (funext (fun j => h 105 j (by omega) (by omega) (by omega))) (funext (fun j => h 106 j (by omega) (by omega) (by omega)))
theorem bndR_ok {lo : Nat} {le : Int} (hle : 1 ≤ le) {f0 f00 : IT} : ∀ (n : Nat) (f : IT), SJ lo 1 0 f → (f 104 58).toNat = n → BK f0 f → SF lo f00 f → SJ lo 1 0 (bndR le n f) ∧ BK f0 (bndR le n f) ∧ SF lo f00 (bndR le n f) ∧ (bndR le n f 104 58 = 0 ∨ (0 < bndR le n f 104 58 ∧ rnk (bndR le n f 133 (bndR le n f 104 58 - 1).toNat) < le))
  | 0, f, H, hn, hb, hs => ⟨H, hb, hs, Or.inl (by have := H.1; simp only [bndR]; omega)⟩
  | n + 1, f, H, hn, hb, hs => by
    rw [bndR]
    by_cases e : 0 < f 104 58 ∧ le ≤ rnk (f 133 (f 104 58 - 1).toNat)
    · rw [if_pos e]
      have hp := H.pop e.1 (fun h => by rw [h] at e; simp [rnk] at e; omega)
      exact bndR_ok hle n (bnd1 f) hp.1 (by rw [hp.2.1]; omega) hb.bd1 (hs.bd1 H.2.2.2.1)
    · rw [if_neg e]
      exact ⟨H, hb, hs, Or.inr ⟨by omega, by omega⟩⟩
theorem bndF_ok {lo : Nat} {le : Int} (hle : 1 ≤ le) {f : IT} (H : SJ lo 1 0 f) : SJ lo 1 0 (bndF le f) ∧ BK f (bndF le f) ∧ SF lo f (bndF le f) ∧ (bndF le f 104 58 = 0 ∨ (0 < bndF le f 104 58 ∧ rnk (bndF le f 133 (bndF le f 104 58 - 1).toNat) < le)) := bndR_ok hle _ f H rfl BK.rf SF.rf
theorem rnk_1 {k : Int} (hk : k = 0 ∨ 2 ≤ k ∧ k ≤ 14) (h : rnk k < 1) : k = 0 := by
  unfold rnk at h
  (repeat' split at h) <;> omega
/-- how much text is left -/
def mu (f : IT) : Nat := (f 104 6 - f 104 7).toNat + (if f 104 8 = 0 then 0 else 1)
theorem mu_tk {f : IT} (h : PK f) (h8 : f 104 8 ≠ 0) : mu (tkF f) < mu f := by
  obtain ⟨⟨k1, k2, ht, hW⟩, kk⟩ := h
  have hr := tokT_rng (tp := f 105) (s := (f 104 6).toNat) (p := (f 104 7).toNat) (w0 := f 104 9) (by omega) (by omega) ht kk.2.1
  have e6 : tkF f 104 6 = f 104 6 := tkF_o (by omega)
  have e7 : tkF f 104 7 = ((tokT (f 105) (f 104 6).toNat (f 104 7).toNat (f 104 9)).2.1 : Int) := by unfold tkF st4; rw [u2_o (by omega), u2_o (by omega), u2_s]
  have e8 : tkF f 104 8 = (tokT (f 105) (f 104 6).toNat (f 104 7).toNat (f 104 9)).2.2.1 := by unfold tkF st4; rw [u2_o (by omega), u2_s]
  unfold mu
  rw [e6, e7, e8, if_neg h8]
  obtain ⟨⟨r1, r2, r3⟩, r4, -⟩ := hr
  generalize (tokT (f 105) (f 104 6).toNat (f 104 7).toNat (f 104 9)) = t at *
  by_cases e : t.2.2.1 = 0
  · rw [if_pos e]; omega
  · rw [if_neg e]; have := r4 e; omega
theorem mu_cg {f f' : IT} (h1 : f' 104 6 = f 104 6) (h2 : f' 104 7 = f 104 7) (h3 : f' 104 8 = f 104 8) : mu f' = mu f := by unfold mu; rw [h1, h2, h3]

