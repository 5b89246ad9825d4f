/-! look, as the law calls it -/
section LOOK4
variable {ρ : RT} {f : IT} {g : JT} {kc ks : Nat}
theorem no_trace {l : Launch} (h : l.flags = flags0) : l.stackTraces = false := by
  unfold Launch.stackTraces
  rw [h]
  decide +kernel
theorem sx_of {s : State} {args : Array Value} (ht : ∀ w ∈ lw_tbl, w.before args s = true) (hg : (Jvm.Cond.and given_1 narrow_1).before args s = true) : SX s.heap.size s s.heap := by
  have hA : ∀ a : Nat, a < s.heap.size → ¬ s.heap.size ≤ a := fun a h => Nat.not_le.mpr h
  have tb : ∀ (i : Nat) {w : Cond}, tables_1[i]? = some w → w.before args s = true := fun i w h => ht w (List.mem_append_right _ (List.mem_of_getElem? h))
  have nr := flat_of_before _ hg
  obtain ⟨a1, c1, d1, k1, e1, -⟩ := Cond.exactly_spec (nr (.exactly (.string "SackRace" 166) "java/lang/String") (by decide +kernel))
  obtain ⟨a2, c2, d2, k2, e2, -⟩ := Cond.exactly_spec (nr (.exactly (.string "SackRace" 173) "java/lang/String") (by decide +kernel))
  refine ⟨⟨vx_Zqof (tb 1229 (by decide +kernel)) (tb 15 (by decide +kernel)) (nr _ (by decide +kernel)) hA, vx_Zqof (tb 1231 (by decide +kernel)) (tb 15 (by decide +kernel)) (nr _ (by decide +kernel)) hA⟩, ⟨⟨a1, vk_R.of (tb 1242 (by decide +kernel)) e1⟩, a2, vk_R.of (tb 1278 (by decide +kernel)) e2⟩, ⟨va_Nw.of rfl (tb 1206 (by decide +kernel)), va_Nw.of rfl (tb 1208 (by decide +kernel)), va_Nw.of rfl (tb 1210 (by decide +kernel))⟩, ⟨va_Nw.of rfl (tb 1204 (by decide +kernel)), va_Nw.of rfl (tb 1271 (by decide +kernel))⟩, va_Nc.of (nr _ (by decide +kernel))⟩
theorem w_l398 {T : TT} {b : Nat} (hW : TW T b ρ) (hC : CT T b f) {ra : Bool} (hr : f 0 6 = bz ra) {k w : Int} (rk : ri k) (rw_ : ri w) {L : List Value} (hk : kc + 1 ≤ 601024) (hs : ks + 6 ≤ 7293034)
    (H : ∀ g' : JT, g' = (if tLook T k w = 0 then u2 g 148 0 (aLook T ra k w) else g) → V_LW (kc + 1) (ks + 6) 401 L [.int (iz (tLook T k w))] ρ f g') : V_LW kc ks 398 L [.ref 148, .int (iz w), .int (iz k), .ref 0] ρ f g := by
  intro ad z D cy sl xs p l e R s m args below meth c Z H0 locs ls C hW0 hS hL
  have C0 := C
  obtain ⟨hx, hb, hml, hown, hts, hK, hG, hz, ⟨hR1, hR2, hR3, hR4⟩, hlocks, hr9, -, hT⟩ := C
  obtain ⟨e1, e2, e3, hfl, e4, hgv, htb⟩ := (hT rfl).1 rfl
  have hSX : SX z s s.heap := by rw [e3]; exact sx_of htb hgv
  have hSXH := hSX.kept hS.2.1
  have hin : Cond.codeWith yL_look cL_look 5 (some .int) hhL ∈ tblG := tblG_c5 235 rfl rfl
  have h5 : (parseMethodDescriptor yL_look.desc).map (fun d => d.parameters.length) = some 4 := by decide +kernel
  have cw : vx_CSW R s args RL 39 yL_look cL_look 5 (some .int) hhL (Cond.codeWith yL_look cL_look 5 (some .int) hhL :: tblG) (Rm 12 1 6) 1 6 4 := by
    refine ⟨⟨rfl, rfl, ?_, ?_, fun w hw a' U hWm => ?_, List.mem_cons_self⟩, hts _ hin, hts _ (tblG_c1 0 rfl rfl), by decide, fun sig hs9 => ?_, hts _ (tblG_c5 233 rfl rfl), hts _ (tblG_c5 234 rfl rfl)⟩
    · show 12 + 1 ≤ R.frames
      omega
    · show 8 + (5 + 11) + 60 * 12 ≤ R.locals
      omega
    · have hm : w ∈ tblG := by
        rcases List.mem_cons.mp hw with h | h
        · rw [h]; exact hin
        · exact h
      exact word_at hWm (tblG_good w hm) (hts w hm)
    · rw [hs9] at h5
      simpa using h5.symm
  have hrun := vx_runSW (p := p) (l := l) (e := e) (R := R) (s := s) (m := m) (below := below) (meth := meth) (c := c) (H := H0) (locs := locs) (cells := kc) (slots := ks) (As := ([.ref 0, .int (iz k), .int (iz w), .ref 148] : List Value).map (cv ad)) (rest := []) (g := F0 m 398 ls (([.ref 148, .int (iz w), .int (iz k), .ref 0] : List Value).map (cv ad)))
    ⟨hx, hb, hml, hown, hts⟩ (m_llook hW hC hr rk rw_ (no_trace hfl) hz) cw ⟨WX.blind, fun U h1 h2 => ⟨rfl, WU.pre hW0.1 hK hG hS (fun h => absurd h (Nat.lt_irrefl _)) h1 h2, by rw [h1]; exact hSXH.warm h2⟩⟩ rfl rfl hL.1 rfl (Nat.le_of_ble_eq_true rfl) dL_law_398 ⟨by omega, by omega⟩
  refine vcall hrun hS (fun r ρ1 f1 g1 H1 locs1 hq hW1 hS1 => ?_)
  obtain ⟨rfl, rfl, rfl, hg⟩ := hq
  exact H g1 hg ad z D cy sl xs p l e R s m args below meth c Z H1 locs1 ls C0 ⟨hW1, fun h => absurd h (Nat.lt_irrefl _)⟩ hS1 hL
theorem V_less {y : MethodName} {cc : ByteArray} {nL : Nat} {rt : Option FieldType} {d mc ms : Nat} {fl : Bool} {Q : QT} {n' n pc : Nat} {L L' st : List Value} (hs : ∀ (i : Nat) (v : Value), L'[i]? = some v → nul v = false → L[i]? = some v) (h : V y cc nL rt d mc ms fl Q n' n kc ks pc L' st ρ f g) : V y cc nL rt d mc ms fl Q n' n kc ks pc L st ρ f g := by
  intro ad z D cy sl xs p l e R s m args below meth c Z H locs ls C hW hS hL
  refine h ad z D cy sl xs p l e R s m args below meth c Z H locs ls C hW hS (lk_sub hL (fun q hq => ?_))
  obtain ⟨v, h1, h2, h3⟩ := lvL_mem.mp hq
  exact lvL_mem.mpr ⟨v, hs _ _ h1 h2, h2, h3⟩
theorem w_l432 {i tl al : Int} (rtl : ri tl) (ral : ri al) (h0 : tl = 0 → g 148 0 = al) (H : V_LW kc ks 1935 [.ref 1005, .ref 0, .ref 104, .ref 148, .int (iz i), .null, .null] [] ρ f g) : V_LW kc ks 432 [.ref 1005, .ref 0, .ref 104, .ref 148, .int (iz i), .int (iz tl), .int (iz al)] [] ρ f g := by
  have H9 : V_LW kc ks 449 [.ref 1005, .ref 0, .ref 104, .ref 148, .int (iz i), .int (iz tl), .int (iz al)] [] ρ f g := by
    refine V_goto (tgt := 1935) dL_law_449 rfl (V_less (fun n v h1 h2 => ?_) H)
    match n, h1 with
    | 0, h1 => exact h1
    | 1, h1 => exact h1
    | 2, h1 => exact h1
    | 3, h1 => exact h1
    | 4, h1 => exact h1
    | 5, h1 =>
      have e : v = .null := by simpa using h1.symm
      subst e
      cases h2
    | 6, h1 =>
      have e : v = .null := by simpa using h1.symm
      subst e
      cases h2
    | n + 7, h1 => simp at h1
  refine V_il5 dL_law_432 ?_
  refine V_if_ne (tgt := 449) dL_law_434 rfl rtl (fun b434 => ?_) (fun b434 => ?_)
  · exact H9
  · refine V_al3n dL_law_437 ?_
    refine V_iconst dL_law_438 ?_
    refine V_lald (k := 0) kk148 (by decide) (by first | rfl | omega) (by omega) (by first | decide | assumption | omega) (h0 b434) dL_law_439 ?_
    refine V_il6 dL_law_440 ?_
    refine V_i2l dL_law_442 ral ?_
    refine V_leqs (tgt := 449) dL_law_443 dL_law_444 rfl ?_
    exact H9
theorem w_l401 {N j : Nat} {i : Int} {T : TT} {b : Nat} {tl al : Int} (h : ICl T b ρ f g f g) (hX : IRf T f) (hI : LWI N j ρ f g) (hj : 6 * j + 6 ≤ N) (hN : N ≤ 3072) (hi : i = 6 * (j : Int)) (hk : kc ≤ 601024) (hs : ks ≤ 7293034) {g' : JT} (etl : tLook T (f 1005 (6 * j + 1)) (f 1005 (6 * j + 2)) = tl) (eal : aLook T (raF f) (f 1005 (6 * j + 1)) (f 1005 (6 * j + 2)) = al) (hg : g' = (if tl = 0 then u2 g 148 0 al else g)) (H : LHC N j kc ks i) : V_LW kc ks 401 [.ref 1005, .ref 0, .ref 104, .ref 148, .int (iz i), .null, .null] [.int (iz tl)] ρ f g' := by
  obtain ⟨i1, i2, i3, ⟨fl0, ra0, i4⟩, i5, i6, i7, i8, i9, i10, i11, i12⟩ := id h
  obtain ⟨-, hag, hri, hN0⟩ := id hI
  have hρ := i1.1
  have hTK := i1.2.2.2.2.1
  have go : ∀ a k, ¬ (a = 148 ∧ k = 0) → g' a k = g a k := fun a k hne => by
    rw [hg]
    split
    · exact u2_o hne
    · rfl
  have gv : tl = 0 → g' 148 0 = al := fun q => by rw [hg, if_pos q]; exact u2_s
  have g5 : g' 1005 0 = (N : Int) := (go 1005 0 (by omega)).trans hN0
  have rtl : ri tl := by
    rw [← etl]
    have := tLook_r (T := T) (k := f 1005 (6 * j + 1)) (w := f 1005 (6 * j + 2))
    unfold ri
    omega
  have ral : ri al := by rw [← eal]; exact aLook_ri hTK
  have hm := c_mlook (ρ := ρ) (f := f) (g := g') hρ hX.1 hTK h.ra.2 (hri (6 * j + 1)) (hri (6 * j + 2))
  rw [eal, etl] at hm
  refine V_is5 dL_law_401 (by decide) rfl ?_
  refine V_al2n dL_law_403 ?_
  refine V_al0n dL_law_404 ?_
  refine V_il4 dL_law_405 ?_
  refine V_iconst dL_law_407 ?_
  refine V_iadd dL_law_408 ?_
  refine V_sld (k := 6 * j + 1) (by omega) (by rw [g5]; omega) (by rw [g5]; omega) rfl dL_law_409 ?_
  refine V_al0n dL_law_410 ?_
  refine V_il4 dL_law_411 ?_
  refine V_iconst dL_law_413 ?_
  refine V_iadd dL_law_414 ?_
  refine V_sld (k := 6 * j + 2) (by omega) (by rw [g5]; omega) (by rw [g5]; omega) rfl dL_law_415 ?_
  refine V_callV (as := [_, _]) ml_L_44 im_X12_look se_X12_look kk104 (by decide) (by decide) dL_law_416 rfl rfl (by decide) (by decide) (Nat.le_of_ble_eq_true rfl) (by omega) (by omega) rfl (hm) ?_
  rintro r416 ρ416 f416 g416 ⟨rfl, s416_0, k1, k2, k3⟩
  obtain rfl := s416_0.symm
  refine V_is6 dL_law_419 (by decide) rfl ?_
  refine V_al2n dL_law_421 ?_
  refine V_callV (as := []) ml_L_45 im_X12_thrown se_X12_thrown kk104 (by decide) (by decide) dL_law_422 rfl rfl (by decide) (by decide) (Nat.le_of_ble_eq_true rfl) (by omega) (by omega) rfl (c_thrown) ?_
  refine pq4 ?_
  refine V_il5 dL_law_425 ?_
  rw [k3]
  refine V_ieqs (tgt := 432) dL_law_427 rfl ?_
  refine w_l432 rtl ral (fun q => (k2 148 0 (scM_out (by omega))).trans (gv q)) (H _ _ _ ?_)
  refine ⟨⟨T, b, h.mv (fun a k z => k1 a k (scM_out (by omega))) (fun a k z => (k2 a k (scM_out (by omega))).trans (go a k (by omega))) (fun a k _ _ z => k1 a k z) (fun a k _ z2 z => (k2 a k z).trans (go a k (by omega))), hX.mv (fun a k z1 z2 z3 z4 => k1 a k ?_)⟩, ?_, fun k => ?_, ?_⟩
  · unfold scM
    simp
    omega
  · rw [k1 55 5 (scM_out (by omega))]; omega
  · rw [k1 1005 k (scM_out (by omega))]; exact hri k
  · rw [k2 1005 0 (scM_out (by omega))]; exact g5
theorem lookCase : LookCase := by
  intro ρ f g kc ks N j i hI hj hN hi hk hs H
  obtain ⟨⟨T, b, h, hX⟩, hag, hri, hN0⟩ := id hI
  obtain ⟨i1, i2, i3, i4⟩ := id h
  refine V_al1n dL_law_384 ?_
  refine V_al0n dL_law_385 ?_
  refine V_il4 dL_law_386 ?_
  refine V_iconst dL_law_388 ?_
  refine V_iadd dL_law_389 ?_
  refine V_sld (k := 6 * j + 1) (by omega) (by omega) (by omega) rfl dL_law_390 ?_
  refine V_al0n dL_law_391 ?_
  refine V_il4 dL_law_392 ?_
  refine V_iconst dL_law_394 ?_
  refine V_iadd dL_law_395 ?_
  refine V_sld (k := 6 * j + 2) (by omega) (by omega) (by omega) rfl dL_law_396 ?_
  refine V_al3n dL_law_397 ?_
  refine w_l398 i1 i3 h.ra.1 (hri _) (hri _) hk hs (fun g' hg' => ?_)
  exact w_l401 h hX hI hj hN hi hk hs rfl rfl hg' H
end LOOK4

