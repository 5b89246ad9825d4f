/-! look met: the class's own, then the law's, which catches -/
section MEET
variable {T : TT} {b : Nat} {ρ : RT} {f : IT} {g : JT}
def XCl (ad : Nat → Nat) (z : Nat) (D : va_G) (cy : Nat → ClassId) (sl : Nat) (xs : Nat → Int32) (ρ : RT) (f : IT) (g : JT) (tl : Int) : String → State → State → Prop := fun E st t => ((E = eIob ∧ tl = 1) ∨ (E = eNse ∧ tl = 2)) ∧ Wd ad z D cy sl xs NF ρ f g t.heap ∧ va_F (fun q => z ≤ q) st t
def WX (ad : Nat → Nat) (z : Nat) (D : va_G) (cy : Nat → ClassId) (sl : Nat) (xs : Nat → Int32) (ρ : RT) (f : IT) (g : JT) (U : State) : Prop := WU ad z D cy sl xs NF ρ f g U ∧ SX z U U.heap
theorem WX.blind {ad : Nat → Nat} {z sl : Nat} {xs : Nat → Int32} {D : va_G} {cy : Nat → ClassId} {as : List Value} : FrameBlind (va_Pc as (WX ad z D cy sl xs ρ f g)) := fun a U gg mk q => by
  obtain ⟨q0, ⟨q1, q2, q3, q4⟩, q5⟩ := q
  exact ⟨q0, ⟨q1, va_K.moved (u := U) (U := U.calling gg mk a) (Vm.Alike.refl U.vm) q2, SG.same (u := U) (U := U.calling gg mk a) rfl q3, q4⟩, SX.warm (u := U) (U := U.calling gg mk a) (State.WarmedH.refl U) q5⟩
theorem ent_lk {ad : Nat → Nat} {as L : List Value} {nL : Nat} (hL : layA as ++ List.replicate (nL - (layA as).length) .null = L) (hl : (layA as).length ≤ nL) : lk ad ((lg_sl (as.map (cv ad)) ++ List.replicate (nL - (lg_sl (as.map (cv ad))).length) Slot.unset).toArray) nL L := by
  refine lk_sub (lv_entry (as.map (cv ad)) (by rw [layA_len]; exact hl)) ?_
  intro q hq
  obtain ⟨v, h1, h2, h3⟩ := lvL_mem.mp hq
  subst hL
  have := layA_mem ad _ as 0 q.1 v h1 h2
  rw [Nat.zero_add, ← h3] at this
  exact this
def QL1 (T : TT) (ra : Bool) (k w : Int) (ρ : RT) (f : IT) (g : JT) : QT := fun r ρ' f' g' => r = some (.int (iz (aLook T ra k w))) ∧ tLook T k w = 0 ∧ ρ' = ρ ∧ f' = f ∧ g' = g
theorem m_look (hW : TW T b ρ) (hC : CT T b f) {ra : Bool} (hr : f 0 6 = bz ra) {k w : Int} (rk : ri k) (rw_ : ri w) {l : Launch} (hl : l.stackTraces = false) {ad : Nat → Nat} {z : Nat} {D : va_G} {cy : Nat → ClassId} {sl : Nat} {xs : Nat → Int32} (hz : ∀ k, k < NF → ad k = z + k) :
    vx_Met l yX11_look (Cond.code yX11_look cX11_look 3 (some .int) :: tblG) (Rm 10 1 6) (va_Pc (([.ref 0, .int (iz k), .int (iz w)] : List Value).map (cv ad)) (WX ad z D cy sl xs ρ f g)) (QQ ad z D cy sl xs NF (QL1 T ra k w ρ f g)) (XCl ad z D cy sl xs ρ f g (tLook T k w)) 1 6 (fun q => z ≤ q) := by
  refine vx_ofW (cc := cX11_look) (maxL := 3) (ret := some .int) (by decide) rfl ?_
  intro p e s m args below meth c s₁ B hml htab hP
  obtain ⟨rfl, ⟨hWd, hK, hG, hsz⟩, hX⟩ := hP
  have hts := atoms_spec (ws := Cond.code yX11_look cX11_look 3 (some .int) :: tblG) B.pre
  have hts' := fun w hw => hts w (List.mem_cons_of_mem _ hw)
  have hown := findClass_of_methodNamed B.named
  have hlk := ent_lk (ad := ad) (as := [.ref 0, .int (iz k), .int (iz w)]) (nL := 3) rfl (Nat.le_of_ble_eq_true rfl)
  rw [lg_entry_eq]
  obtain ⟨⟨hu, hn⟩, ⟨⟨a1, hs1⟩, a2, hs2⟩, ⟨n5, n6, n7⟩, ⟨n8, n9⟩, -⟩ := hX
  have hR : 10 ≤ (headSpec (Cond.code yX11_look cX11_look 3 (some .int) :: tblG) (Rm 10 1 6)).room.frames ∧ 60 * 10 ≤ (headSpec (Cond.code yX11_look cX11_look 3 (some .int) :: tblG) (Rm 10 1 6)).room.locals ∧ 1 ≤ (headSpec (Cond.code yX11_look cX11_look 3 (some .int) :: tblG) (Rm 10 1 6)).room.cells ∧ 6 ≤ (headSpec (Cond.code yX11_look cX11_look 3 (some .int) :: tblG) (Rm 10 1 6)).room.slots := ⟨Nat.le_refl _, Nat.le_refl _, Nat.le_refl _, Nat.le_refl _⟩
  rcases tLook_r (T := T) (k := k) (w := w) with h0 | h0 | h0
  · refine vx_ret ?_
    exact w_look0 hW hC hr rk rw_ h0 ad z D cy sl xs p l e _ s m _ below meth c _ s.heap [] _ ⟨B.exec, B.bytes, hml, hown, hts', hK, hG, hz, hR, B.notSynchronized, B.returns, fun _ => ⟨(name_of_methodNamed B.named B.method).1, rfl⟩, fun h => by cases h⟩ ⟨hWd, fun h => absurd h (Nat.lt_irrefl _)⟩ va_S.rf hlk
  · refine w_look1 (w := w) hW hC rk h0 ad z D cy sl xs p l e _ s m _ below meth c _ s.heap [] _ ⟨B.exec, B.bytes, hml, hown, hts', hK, hG, hz, hR, B.notSynchronized, B.returns, fun h => (by cases h), fun _ => ⟨fun h => absurd h (by decide), fun _ => ?_⟩⟩ ⟨hWd, fun h => absurd h (Nat.lt_irrefl _)⟩ va_S.rf hlk
    intro e' H locs ls pc L ρ' f' g' hq hW' hS' hL'
    obtain ⟨hp, rfl, rfl, rfl⟩ := hq
    have e9 : (1000000 + pc : Nat) = 1000012 := Value.ref.inj (Option.some.inj hp)
    have epc : pc = 12 := by omega
    subst epc
    have hat := vx_hat (fun w hw => hts' w (lk_in lkI_good w hw)) lkI_bad (vx_c (va_Nw.use rfl n5) (vx_c (va_Nw.use rfl n6) (vx_c (va_Nw.use rfl n7) (vx_c (va_Nw.use rfl n8) vx_n))))
    exact cx_throw (A := fun q => z ≤ q) B.exec B.bytes hl Bundle.six_0 Bundle.six_1 Bundle.six_2 Bundle.six_5 hown (by decide) (by decide) (by decide) (hts' _ (tblG_c6 2 rfl rfl)) (hts' _ (tblG_c1 18 rfl rfl)) hs1 hat lkI_ot hu hn hS' (hL'.1.trans hml.symm) dX11_look_12 dX11_look_15 dX11_look_16 dX11_look_18 dX11_look_21 (fun x hx => (htab x hx).elim) (Nat.le_of_ble_eq_true rfl) (Nat.le_of_ble_eq_true rfl) (Nat.le_refl _) (Nat.le_refl _) B.notSynchronized
      (fun t hvm hs9 hk9 => ⟨Or.inl ⟨rfl, h0⟩, ⟨hW'.1.kept (fun k q hq => hk9 _ (vx_lt hW'.1 hq)), hW'.2⟩, Nat.le_trans hS'.1 hs9, fun q h1 h2 => (hk9 q (Nat.lt_of_lt_of_le h1 hS'.1)).trans (hS'.2.1 q h1 h2)⟩) (fun z' hz' => hS'.2.2 z' hz') (Nat.le_refl _) (Nat.le_refl _)
  · refine w_look2 hW hC rk rw_ h0 ad z D cy sl xs p l e _ s m _ below meth c _ s.heap [] _ ⟨B.exec, B.bytes, hml, hown, hts', hK, hG, hz, hR, B.notSynchronized, B.returns, fun h => (by cases h), fun _ => ⟨fun h => absurd h (by decide), fun _ => ?_⟩⟩ ⟨hWd, fun h => absurd h (Nat.lt_irrefl _)⟩ va_S.rf hlk
    intro e' H locs ls pc L ρ' f' g' hq hW' hS' hL'
    obtain ⟨hp, rfl, rfl, rfl⟩ := hq
    have e9 : (1000000 + pc : Nat) = 1000031 := Value.ref.inj (Option.some.inj hp)
    have epc : pc = 31 := by omega
    subst epc
    have hat := vx_hat (fun w hw => hts' w (lk_in lkN_good w hw)) lkN_bad (vx_c (va_Nw.use rfl n5) (vx_c (va_Nw.use rfl n6) (vx_c (va_Nw.use rfl n7) (vx_c (va_Nw.use rfl n9) vx_n))))
    exact cx_throw (A := fun q => z ≤ q) B.exec B.bytes hl th_0 th_1 th_2 th_5 hown (by decide) (by decide) (by decide) (hts' _ (tblG_c6 69 rfl rfl)) (hts' _ (tblG_c1 19 rfl rfl)) hs2 hat lkN_ot hu hn hS' (hL'.1.trans hml.symm) dX11_look_31 dX11_look_34 dX11_look_35 dX11_look_37 dX11_look_40 (fun x hx => (htab x hx).elim) (Nat.le_of_ble_eq_true rfl) (Nat.le_of_ble_eq_true rfl) (Nat.le_refl _) (Nat.le_refl _) B.notSynchronized
      (fun t hvm hs9 hk9 => ⟨Or.inr ⟨rfl, h0⟩, ⟨hW'.1.kept (fun k q hq => hk9 _ (vx_lt hW'.1 hq)), hW'.2⟩, Nat.le_trans hS'.1 hs9, fun q h1 h2 => (hk9 q (Nat.lt_of_lt_of_le h1 hS'.1)).trans (hS'.2.1 q h1 h2)⟩) (fun z' hz' => hS'.2.2 z' hz') (Nat.le_refl _) (Nat.le_refl _)
/-- a callee that never throws, told by rows of one that may -/
theorem met_of_vx {l : Launch} {y : MethodName} {ws : List Cond} {rm : Room} {Pc : Array Value → State → Prop} {Qc : Array Value → State → Outcome → State → Prop} {mc ms : Nat} {free : Addr → Prop} (h : vx_Met l y ws rm Pc Qc (fun _ _ _ => False) mc ms free) : Met l y ws rm Pc Qc mc ms free := by
  intro p e ha hc hk s m args below hf hw hP hT
  obtain ⟨k, o, h1, h2, h3, h4⟩ := h p e ha hc hk s m args below hf hw hP hT
  rcases h4 with h4 | ⟨q, -, E, ce, L, hF, -⟩
  · exact ⟨k, o, h1, h2, h3, h4⟩
  · exact hF.elim
theorem vcallx {p : Program} {l : Launch} {e : Env} {R : Room} {s : State} {m : MethodId} {args : Array Value} {below : List Frame} {meth : Method} {c : Code} {Z : State → Prop} {H : Heap} {locs : List Loc} {ls : Array Slot} {ad : Nat → Nat} {z : Nat} {D : va_G} {cy : Nat → ClassId} {sl : Nat} {xs : Nat → Int32} {cells slots mc1 ms1 pc : Nat} {st0 rest : List Value} {a : Array Value} {Q1 : QT} {tl : Int}
    (hr : vx_Run p l e R s m args below meth c H locs cells slots mc1 ms1 (F0 m pc ls st0) rest (QQ ad z D cy sl xs NF Q1 a) (XCl ad z D cy sl xs ρ f g tl) (fun q => z ≤ q)) (hS : va_S (fun q => z ≤ q) s.heap H locs)
    (kx : ∀ (E : String) (ce : Cell) (q9 : Addr) (H1 : Heap) (locs1 : List Loc), ((E = eIob ∧ tl = 1) ∨ (E = eNse ∧ tl = 2)) → Wd ad z D cy sl xs NF ρ f g H1 → va_S (fun q => z ≤ q) s.heap H1 locs1 → H1[q9]? = some ce → ce.vm = .none → s.vm.findClass E = some ce.cls → vx_W p l e R s m args below meth c H1 locs1 (cells + mc1) (slots + ms1) Z (F0 m pc ls rest) q9)
    (kk : ∀ (r : Option Value) (ρ1 : RT) (f1 : IT) (g1 : JT) (H1 : Heap) (locs1 : List Loc), Q1 r ρ1 f1 g1 → Wd ad z D cy sl xs NF ρ1 f1 g1 H1 → va_S (fun q => z ≤ q) s.heap H1 locs1 → W p l e R s m args below meth c H1 locs1 (cells + mc1) (slots + ms1) Z (F0 m (pc + 3) ls ((r.map (cv ad)).toList ++ rest))) :
    W p l e R s m args below meth c H locs cells slots Z (F0 m pc ls st0) := by
  intro T hT X
  have keep : ∀ (st₀ t T' : State) (Lc : List Loc), st₀.heap = H → T'.heap = t.heap → (∀ q ∈ Lc, z ≤ q.base) → va_F (fun q => z ≤ q) st₀ t → va_S (fun q => z ≤ q) s.heap T'.heap (locs ++ Lc) := fun st₀ t T' Lc h0 e1 hL hF => by
    obtain ⟨hz, hk⟩ := hF
    rw [h0] at hz hk
    exact ⟨Nat.le_trans hS.1 (by rw [e1]; exact hz), fun q h1 h2 => by rw [e1, hk q (Nat.lt_of_lt_of_le h1 hS.1) h2]; exact hS.2.1 q h1 h2, fun q hq => by
      rcases List.mem_append.mp hq with h | h
      · exact hS.2.2 q h
      · exact hL q h⟩
  rcases hr T hT X with ⟨v, st₀, t, T', Lc, h0, X', hL, e1, e2, ⟨⟨r, ρ1, f1, g1, hv, hq, hw⟩, hF⟩, stp⟩ | ⟨q, st₀, t, T', Lc, E, ce, h0, X', hL, e1, e2, ⟨hE, hw, hF⟩, hce, hcv, hcl, stp⟩
  · cases hv
    obtain ⟨t2, a1, b1⟩ := kk r ρ1 f1 g1 T'.heap (locs ++ Lc) hq (by rw [e1]; exact hw) (keep st₀ t T' Lc h0 e1 hL hF) T' rfl X'
    exact ⟨t2, stp t2 a1, b1⟩
  · obtain ⟨t2, a1, b1⟩ := kx E ce q T'.heap (locs ++ Lc) hE (by rw [e1]; exact hw) (keep st₀ t T' Lc h0 e1 hL hF) (by rw [e1]; exact hce) hcv hcl T' rfl X'
    exact ⟨t2, stp.trans a1, b1⟩
def QL2 (T : TT) (ra : Bool) (k w : Int) (ρ : RT) (f : IT) (g : JT) : QT := fun r ρ' f' g' => r = some (.int (iz (tLook T k w))) ∧ ρ' = ρ ∧ f' = f ∧ g' = (if tLook T k w = 0 then u2 g 148 0 (aLook T ra k w) else g)
theorem aLook_ri (hk : TOK T) {ra : Bool} {k w : Int} : ri (aLook T ra k w) := by
  unfold aLook ri
  split
  · rename_i o1
    obtain ⟨n, rfl, hn⟩ := okL_at o1
    have := hk.lane hn
    rw [Int.toNat_natCast]
    (repeat' split) <;> first | omega | (have := bz_01 (dmp T ra n); omega)
  · omega
abbrev V_LL (Q : QT) (kc ks pc : Nat) (L st : List Value) (ρ : RT) (f : IT) (g : JT) : Prop := V yL_look cL_look 5 (some .int) 12 1 6 false Q NF NF kc ks pc L st ρ f g
theorem w_ll8 {Q : QT} {x : Int} (rx : ri x) (hQ : Q (some (.int (iz 0))) ρ f (u2 g 148 0 x)) {L : List Value} : V_LL Q 1 6 8 L [.int (iz x), .int (iz 0), .ref 148] ρ f g := by
  refine V_i2l dL_look_8 rx ?_
  refine V_last (k := 0) kk148 (by decide) rfl (by decide) (by decide) dL_look_9 ?_
  refine V_goto (tgt := 21) dL_look_10 rfl ?_
  refine V_iconst dL_look_21 ?_
  exact V_ireturn rfl hQ dL_look_22
theorem w_ll15 {Q : QT} (hQ : Q (some (.int (iz 1))) ρ f g) {L : List Value} : V_LL Q 1 6 15 L [] ρ f g := V_iconst dL_look_15 (V_ireturn rfl hQ dL_look_16)
theorem w_ll19 {Q : QT} (hQ : Q (some (.int (iz 2))) ρ f g) {L : List Value} : V_LL Q 1 6 19 L [] ρ f g := V_iconst dL_look_19 (V_ireturn rfl hQ dL_look_20)
def hhL : List (Nat × Nat × Nat × Nat) := [(0, 10, 13, 13), (0, 10, 17, 15)]
theorem m_llook (hW : TW T b ρ) (hC : CT T b f) {ra : Bool} (hr : f 0 6 = bz ra) {k w : Int} (rk : ri k) (rw_ : ri w) {l : Launch} (hl : l.stackTraces = false) {ad : Nat → Nat} {z : Nat} {D : va_G} {cy : Nat → ClassId} {sl : Nat} {xs : Nat → Int32} (hz : ∀ k, k < NF → ad k = z + k) :
    Met l yL_look (Cond.codeWith yL_look cL_look 5 (some .int) hhL :: tblG) (Rm 12 1 6) (va_Pc (([.ref 0, .int (iz k), .int (iz w), .ref 148] : List Value).map (cv ad)) (WX ad z D cy sl xs ρ f g)) (QQ ad z D cy sl xs NF (QL2 T ra k w ρ f g)) 1 6 (fun q => z ≤ q) := by
  refine met_of_vx (vx_ofWH (cc := cL_look) (maxL := 5) (ret := some .int) (hh := hhL) (by decide) rfl ?_)
  intro p e s m args below meth c s₁ B hml hP
  obtain ⟨rfl, ⟨hWd, hK, hG, hsz⟩, hX⟩ := hP
  have hts := atoms_spec (ws := Cond.codeWith yL_look cL_look 5 (some .int) hhL :: tblG) B.pre
  have hts' := fun w hw => hts w (List.mem_cons_of_mem _ hw)
  have hown := findClass_of_methodNamed B.named
  have htab := vx_table (x := yL_look) B (hts _ List.mem_cons_self)
  have hlk := ent_lk (ad := ad) (as := [.ref 0, .int (iz k), .int (iz w), .ref 148]) (nL := 5) (L := [.ref 0, .int (iz k), .int (iz w), .ref 148, .null]) rfl (Nat.le_of_ble_eq_true rfl)
  rw [lg_entry_eq]
  generalize (lg_sl (([.ref 0, .int (iz k), .int (iz w), .ref 148] : List Value).map (cv ad)) ++ List.replicate (5 - (lg_sl (([.ref 0, .int (iz k), .int (iz w), .ref 148] : List Value).map (cv ad))).length) Slot.unset).toArray = ls at hlk ⊢
  have hX0 := hX
  obtain ⟨-, -, -, ⟨n8, n9⟩, n10⟩ := hX
  have hCX : ∀ (Z : State → Prop), Z = MQ below (QQ ad z D cy sl xs NF (QL2 T ra k w ρ f g)) (([.ref 0, .int (iz k), .int (iz w), .ref 148] : List Value).map (cv ad)).toArray s 1 6 (fun q => z ≤ q) → CX yL_look cL_look 5 (some .int) 12 1 6 false (QL2 T ra k w ρ f g) NF ad z D cy sl xs p l (headSpec (Cond.codeWith yL_look cL_look 5 (some .int) hhL :: tblG) (Rm 12 1 6)).room s m _ below meth c Z := fun Z hZ => ⟨B.exec, B.bytes, hml, hown, hts', hK, hG, hz, ⟨Nat.le_refl _, Nat.le_refl _, Nat.le_refl _, Nat.le_refl _⟩, B.notSynchronized, B.returns, fun _ => ⟨(name_of_methodNamed B.named B.method).1, hZ⟩, fun h => by cases h⟩
  have nul5 : ∀ (ls' : Array Slot) (lv : List (Nat × Value)), lv_has ls' 5 lv → lk ad ls' 5 [.null, .null, .null, .null, .null] := fun ls' lv h => lk_sub h (fun q hq => by
    obtain ⟨v, h1, h2, -⟩ := lvL_mem.mp hq
    exfalso
    have : v = .null := by
      have hm := List.mem_of_getElem? h1
      simp at hm
      exact hm
    rw [this] at h2
    cases h2)
  refine lv_aload_n B.exec B.bytes dL_look_0 rfl (lk_at hlk (i := 3) (v := .ref 148) rfl rfl) ?_
  refine lv_iconst B.exec B.bytes dL_look_1 rfl ?_
  refine lv_aload_n B.exec B.bytes dL_look_2 rfl (lk_at hlk (i := 0) (v := .ref 0) rfl rfl) ?_
  refine lv_iload_n B.exec B.bytes dL_look_3 rfl (lk_at hlk (i := 1) (v := .int (iz k)) rfl rfl) ?_
  refine lv_iload_n B.exec B.bytes dL_look_4 rfl (lk_at hlk (i := 2) (v := .int (iz w)) rfl rfl) ?_
  have he : (wl ad cy NF ρ f g)[0]? = some (ad 0, .inr (11, (ftab 11).mapIdx (fun k t => fv ad t ρ f g 0 k))) := by rw [wl_get (by decide), ce_obj kk0 (by decide)]
  have hrecv := va_recv hK hWd.1 (cls_at 11 (by decide)) he
  have hrun := vx_runV (p := p) (l := l) (e := e) (R := (headSpec (Cond.codeWith yL_look cL_look 5 (some .int) hhL :: tblG) (Rm 12 1 6)).room) (s := s) (m := m) (below := below) (meth := meth) (c := c) (H := s.heap) (locs := []) (cells := 0) (slots := 0) (C := cR 11) (b := ad 0) (As := [.int (iz k), .int (iz w)]) (rest := [.int 0, .ref (ad 148)]) (g := F0 m 5 ls [.int (iz w), .int (iz k), .ref (ad 0), .int 0, .ref (ad 148)])
    ⟨B.exec, B.bytes, hml, hown, hts'⟩ (m_look hW hC hr rk rw_ hl hz) ⟨ml_L_7.callB hts' (Nat.le_of_ble_eq_true rfl) (Nat.le_of_ble_eq_true rfl), hts' _ im_X11_look, hts' _ se_X11_look⟩ ⟨WX.blind, hrecv, fun U h1 h2 => ⟨rfl, WU.pre hWd hK hG va_S.rf (fun h => absurd h (Nat.lt_irrefl _)) h1 h2, by rw [h1]; exact hX0.warm h2⟩⟩ rfl rfl hlk.1 rfl (Nat.le_of_ble_eq_true rfl) dL_look_5 ⟨Nat.le_refl _, Nat.le_refl _⟩
  refine vcallx hrun va_S.rf ?_ ?_
  · intro E ce q9 H1 locs1 hE hW1 hS1 hc9 hv9 hcl9
    have d1 : (⟨0, 10, 13, 13⟩ : ExceptionTableEntry).handlerPc = 13 := rfl
    rcases hE with ⟨rfl, ht⟩ | ⟨rfl, ht⟩
    · refine vx_catch (own := RL) (name := eIob) hown [] ⟨0, 10, 13, 13⟩ [⟨0, 10, 17, 15⟩] htab (fun z hz => nomatch hz) rfl (by decide) (hts' _ (tblG_c5 236 rfl rfl)) (va_Nw.use rfl n8) hc9 hv9 hcl9 ?_
      refine lv_astore B.exec B.bytes dL_look_13 hlk (by decide) rfl (fun ls' h' => ?_)
      refine vx_ret ?_
      exact w_ll15 (Q := QL2 T ra k w ρ f g) ⟨by rw [ht], rfl, rfl, by rw [if_neg (by omega)]⟩ ad z D cy sl xs p l e _ s m _ below meth c _ H1 locs1 ls' (hCX _ rfl) ⟨hW1, fun h => absurd h (Nat.lt_irrefl _)⟩ hS1 (nul5 ls' _ h')
    · refine vx_catch (own := RL) (name := eNse) hown [⟨0, 10, 13, 13⟩] ⟨0, 10, 17, 15⟩ [] htab (fun z hz => ?_) rfl (by decide) (hts' _ (tblG_c5 237 rfl rfl)) (va_Nw.use rfl n9) hc9 hv9 hcl9 ?_
      · rw [List.mem_singleton] at hz
        subst hz
        exact Or.inr ⟨by decide, eIob, hts' _ (tblG_c5 236 rfl rfl), n10⟩
      · refine lv_astore B.exec B.bytes dL_look_17 hlk (by decide) rfl (fun ls' h' => ?_)
        refine vx_ret ?_
        exact w_ll19 (Q := QL2 T ra k w ρ f g) ⟨by rw [ht], rfl, rfl, by rw [if_neg (by omega)]⟩ ad z D cy sl xs p l e _ s m _ below meth c _ H1 locs1 ls' (hCX _ rfl) ⟨hW1, fun h => absurd h (Nat.lt_irrefl _)⟩ hS1 (nul5 ls' _ h')
  · intro r ρ1 f1 g1 H1 locs1 hq hW1 hS1
    obtain ⟨rfl, h0, rfl, rfl, rfl⟩ := hq
    refine vx_ret ?_
    exact w_ll8 (Q := QL2 T ra k w ρ1 f1 g1) (x := aLook T ra k w) (aLook_ri hW.2.2.2.2.1) ⟨by rw [h0], rfl, rfl, by rw [if_pos h0]⟩ (L := [.null, .null, .null, .null, .null]) ad z D cy sl xs p l e _ s m _ below meth c _ H1 locs1 ls (hCX _ rfl) ⟨hW1, fun h => absurd h (Nat.lt_irrefl _)⟩ hS1 (nul5 ls _ hlk)
end MEET

