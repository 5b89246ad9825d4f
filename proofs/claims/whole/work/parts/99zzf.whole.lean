/-! the law from its entry -/
section OPEN
theorem tab_of {s : State} {args : Array Value} {C n : String} {vs : List Int32} (hn : ∀ c ∈ flatC (Jvm.Cond.and given_1 narrow_1), c.before args s = true) (hlt : vs.length < 2 ^ 31)
    (h1 : Cond.arrayOf (.static C n "[I") .int ∈ flatC (Jvm.Cond.and given_1 narrow_1)) (h2 : Cond.eq (.length (.static C n "[I")) (.int (Int32.ofNat vs.length)) ∈ flatC (Jvm.Cond.and given_1 narrow_1))
    (h3 : (List.range vs.length).all (fun j => decide (Cond.eq (.elem (.static C n "[I") (.int (Int32.ofNat j))) (.int (vs.getD j 0)) ∈ flatC (Jvm.Cond.and given_1 narrow_1))) = true)
    (hl : (Cond.laysStatic C n "[I").before args s = true) (hini : (Cond.initialized C).before args s = true) :
    ∃ t : Nat, va_Z C n "[I" (.ref t) (fun q => s.heap.size ≤ q) s s.heap ∧ va_T .int t vs.length (fun i => .int (vs.getD i 0)) (fun q => s.heap.size ≤ q) s s.heap := by
  have hA : ∀ a : Nat, a < s.heap.size → ¬ s.heap.size ≤ a := fun a h => Nat.not_le.mpr h
  obtain ⟨t, ht, hT⟩ := va_Tof (A := fun q => s.heap.size ≤ q) (f := fun i => .int (vs.getD i 0)) hlt (hn _ h1) (va_eqt (hn _ h2)) (fun j hj => va_eqt (hn _ (of_decide_eq_true (List.all_eq_true.mp h3 j (List.mem_range.mpr hj))))) hA
  exact ⟨t, va_Zof hl hini ht hA, hT⟩
theorem tabs {s : State} {args : Array Value} (ht : ∀ w ∈ lw_tbl, w.before args s = true) (hg : (Jvm.Cond.and given_1 narrow_1).before args s = true) : ∃ t : Nat → Nat, ∀ j, j < 5 → va_Z (sC j) (sN j) "[I" (.ref (t j)) (fun q => s.heap.size ≤ q) s s.heap ∧ va_T .int (t j) (sT j).length (fun i => .int ((sT j).getD i 0)) (fun q => s.heap.size ≤ q) s s.heap := by
  have tb : ∀ (i : Nat) {w : Cond}, tables_1[i]? = some w → w.before args s = true := fun i w h => ht w (List.mem_append_right _ (List.mem_of_getElem? h))
  have nr := flat_of_before _ hg
  obtain ⟨t0, h0⟩ := tab_of (C := sC 0) (n := sN 0) (vs := sT 0) nr (by decide +kernel) (by decide +kernel) (by decide +kernel) (by decide +kernel) (tb 572 (by decide +kernel)) (tb 3 (by decide +kernel))
  obtain ⟨t1, h1⟩ := tab_of (C := sC 1) (n := sN 1) (vs := sT 1) nr (by decide +kernel) (by decide +kernel) (by decide +kernel) (by decide +kernel) (tb 614 (by decide +kernel)) (tb 2 (by decide +kernel))
  obtain ⟨t2, h2⟩ := tab_of (C := sC 2) (n := sN 2) (vs := sT 2) nr (by decide +kernel) (by decide +kernel) (by decide +kernel) (by decide +kernel) (tb 616 (by decide +kernel)) (tb 2 (by decide +kernel))
  obtain ⟨t3, h3⟩ := tab_of (C := sC 3) (n := sN 3) (vs := sT 3) nr (by decide +kernel) (by decide +kernel) (by decide +kernel) (by decide +kernel) (tb 618 (by decide +kernel)) (tb 2 (by decide +kernel))
  obtain ⟨t4, h4⟩ := tab_of (C := sC 4) (n := sN 4) (vs := sT 4) nr (by decide +kernel) (by decide +kernel) (by decide +kernel) (by decide +kernel) (tb 673 (by decide +kernel)) (tb 2 (by decide +kernel))
  refine ⟨fun j => if j = 0 then t0 else if j = 1 then t1 else if j = 2 then t2 else if j = 3 then t3 else t4, fun j hj => ?_⟩
  rcases (show j = 0 ∨ j = 1 ∨ j = 2 ∨ j = 3 ∨ j = 4 by omega) with rfl | rfl | rfl | rfl | rfl
  · exact h0
  · exact h1
  · exact h2
  · exact h3
  · exact h4
theorem arr_prim {s : State} {args : Array Value} {ty : FieldType} (h : (Cond.arrayClass ty).before args s = true) : ∃ cA : ClassId, ArrOfT s cA ty ∧ s.vm.findClass ("[" ++ ty.toString) = some cA := by
  obtain ⟨c, k, comp, h1, h2, h3⟩ := Cond.arrayClass_spec h
  exact ⟨c, fun n z => ⟨fun k h => (by cases h), k, h2, comp, h3⟩, h1⟩
theorem arr_obj {s : State} {args : Array Value} {C : String} (h : (Cond.arrayOver (.object C)).before args s = true) : ∃ cA : ClassId, ArrOfT s cA (.object C) ∧ va_RA s cA (.object C) := by
  obtain ⟨comp, c, k, h1, h2, h3, h4, h5⟩ := Cond.arrayOver_spec h
  exact ⟨c, fun n z => ⟨fun k h => (by cases h), k, h3, comp, h4⟩, k, comp, h3, h4, h1, h5⟩
theorem known {s : State} {args : Array Value} (hts : ∀ w ∈ tblG, w.before args s = true) (c : Nat) (hc : c < 13) : ∃ (cC : ClassId) (iS : Nat → Nat), u_Kn s (cR c) (cT c) (cN c) cC iS := by
  refine u_known (n := cN c) hts (cls_in c hc) (hts _ ?_)
  rcases (show c = 0 ∨ c = 1 ∨ c = 2 ∨ c = 3 ∨ c = 4 ∨ c = 5 ∨ c = 6 ∨ c = 7 ∨ c = 8 ∨ c = 9 ∨ c = 10 ∨ c = 11 ∨ c = 12 by omega) with rfl | rfl | rfl | rfl | rfl | rfl | rfl | rfl | rfl | rfl | rfl | rfl | rfl
  · exact it_0
  · exact it_1
  · exact it_2
  · exact it_3
  · exact it_4
  · exact it_5
  · exact it_6
  · exact it_7
  · exact it_8
  · exact it_9
  · exact it_10
  · exact it_11
  · exact it_12
theorem known_all {s : State} {args : Array Value} (hts : ∀ w ∈ tblG, w.before args s = true) : ∃ (dC : Nat → ClassId) (dI : Nat → Nat → Nat), ∀ c, c < 13 → u_Kn s (cR c) (cT c) (cN c) (dC c) (dI c) := by
  have h : ∀ c : Nat, ∃ q : ClassId × (Nat → Nat), c < 13 → u_Kn s (cR c) (cT c) (cN c) q.1 q.2 := fun c => by
    by_cases hc : c < 13
    · obtain ⟨a, b, q⟩ := known hts c hc
      exact ⟨(a, b), fun _ => q⟩
    · obtain ⟨a, b, q⟩ := known hts 0 (by decide)
      exact ⟨(a, b), fun h => absurd h hc⟩
  obtain ⟨F, hF⟩ := Classical.axiomOfChoice h
  exact ⟨fun c => (F c).1, fun c => (F c).2, hF⟩
def cyf (a b c d e : ClassId) : Nat → ClassId
  | 0 => a
  | 1 => b
  | 2 => c
  | 3 => d
  | _ => e
def adf (z b : Nat) (t : Nat → Nat) (k : Nat) : Nat := if k < NF then z + k else if k = 1005 then b else t (k - 1000)
theorem nf_eq : NF = 149 := rfl
theorem adf_lo {z b k : Nat} {t : Nat → Nat} (h : k < NF) : adf z b t k = z + k := if_pos h
theorem adf_b {z b : Nat} {t : Nat → Nat} : adf z b t 1005 = b := by
  unfold adf
  rw [if_neg (by rw [nf_eq]; omega), if_pos rfl]
theorem adf_st {z b j : Nat} {t : Nat → Nat} (h : j < 5) : adf z b t (1000 + j) = t j := by
  unfold adf
  rw [if_neg (by rw [nf_eq]; omega), if_neg (by omega), show 1000 + j - 1000 = j by omega]
theorem k_of {s : State} {dC : Nat → ClassId} {dI : Nat → Nat → Nat} {c0 c1 c2 c3 c4 : ClassId} (hKn : ∀ c, c < 13 → u_Kn s (cR c) (cT c) (cN c) (dC c) (dI c))
    (h0 : ArrOfT s c0 .int ∧ va_RA s c0 .int) (h1 : ArrOfT s c1 .long ∧ va_RA s c1 .long) (h2 : ArrOfT s c2 .boolean ∧ va_RA s c2 .boolean) (h3 : ArrOfT s c3 (.object RX3) ∧ va_RA s c3 (.object RX3)) (h4 : ArrOfT s c4 (.object RX10) ∧ va_RA s c4 (.object RX10)) : va_K (dC, dI) vwCl (tys (cyf c0 c1 c2 c3 c4)) s := by
  refine ⟨fun c q hq => ?_, fun k q hq => ?_⟩
  · have hc : c < 13 := (List.getElem?_eq_some_iff.mp hq).1
    obtain rfl := Option.some.inj ((cls_at c hc).symm.trans hq)
    exact hKn c hc
  · match k, hq with
    | 0, hq => cases hq; exact h0
    | 1, hq => cases hq; exact h1
    | 2, hq => cases hq; exact h2
    | 3, hq => cases hq; exact h3
    | 4, hq => cases hq; exact h4
    | k + 5, hq => simp [tys] at hq
end OPEN
/-- from the entry, for every script of at most 3072 ints, the law comes to its end with true -/
theorem whole_start {p : Program} {e : Env} {s : State} {m : MethodId} {below : List Frame} {meth : Method} {c : Code} (l : Launch) (hflags : l.flags = flags0) {b L : Nat} {xs : Nat → Int32} (hL : L ≤ 3072) (C0 : lw_At p s m meth c b L xs) : W p l e room_1 s m #[Value.ref b] below meth c s.heap [] 0 0 (lw_Z below #[Value.ref b] s) (entryFrame m ([Value.ref b] : List Value).toArray 7) := by
  obtain ⟨hx, hb, hr, hml, hown, hts, hX, hbl, hlocks, hgv⟩ := id C0
  have htG : ∀ w ∈ tblG, w.before #[Value.ref b] s = true := fun w h => hts w (List.mem_filter.mp h).1
  have tb : ∀ (i : Nat) {w : Cond}, tables_1[i]? = some w → w.before #[Value.ref b] s = true := fun i w h => hts w (List.mem_append_right _ (List.mem_of_getElem? h))
  obtain ⟨dC, dI, hKn⟩ := known_all htG
  obtain ⟨t, ht⟩ := tabs hts hgv
  obtain ⟨c0, h0⟩ := arr_prim (ty := .int) (htG _ ac_int)
  obtain ⟨c1, h1⟩ := arr_prim (ty := .long) (htG _ ac_long)
  obtain ⟨c2, h2⟩ := arr_prim (ty := .boolean) (htG _ ac_boolean)
  have o3 : (Cond.arrayOver (.object RX3)).before #[Value.ref b] s = true := tb 102 (by decide +kernel)
  have o4 : (Cond.arrayOver (.object RX10)).before #[Value.ref b] s = true := tb 310 (by decide +kernel)
  obtain ⟨c3, h3⟩ := arr_obj o3
  obtain ⟨c4, h4⟩ := arr_obj o4
  have hK : va_K (dC, dI) vwCl (tys (cyf c0 c1 c2 c3 c4)) s := k_of hKn h0 h1 h2 h3 h4
  have hG : SG (adf s.heap.size b t) s.heap.size L xs s s.heap := ⟨fun j hj => by rw [adf_st hj]; exact ht j hj, by rw [adf_b]; exact hX, by rw [adf_b]; exact hbl, Nat.le_refl _, va_AO.of o3, va_AO.of o4, fun a i x h hm => va_Nw.of rfl (hts _ (List.mem_append_right _ hm))⟩
  have hz : ∀ k, k < NF → adf s.heap.size b t k = s.heap.size + k := fun k h => adf_lo h
  have e0 : ([.ref 1005] : List Value).map (cv (adf s.heap.size b t)) = [Value.ref b] := by
    show [Value.ref (adf s.heap.size b t 1005)] = [Value.ref b]
    rw [adf_b]
  have hl := ent_lk (ad := adf s.heap.size b t) (as := [.ref 1005]) (nL := 7) (L := [.ref 1005, .null, .null, .null, .null, .null, .null]) rfl (Nat.le_of_ble_eq_true rfl)
  rw [e0] at hl
  rw [lg_entry_eq]
  generalize (lg_sl ([Value.ref b]) ++ List.replicate (7 - (lg_sl ([Value.ref b])).length) Slot.unset).toArray = ls at hl ⊢
  have hW : Wd (adf s.heap.size b t) s.heap.size (dC, dI) (cyf c0 c1 c2 c3 c4) L xs 0 r00 (f00 fun k => (xs k).toInt) (g00 L) s.heap := by
    refine ⟨fun k q h => by simp [wl] at h, Nat.zero_le _, fun k => ?_, ?_⟩
    · show xs k = iz (if (1005 : Nat) = 1005 then (xs k).toInt else 0)
      rw [if_pos rfl, iz_toInt]
    · show (L : Int) = if (1005 : Nat) = 1005 then (L : Int) else 0
      rw [if_pos rfl]
  exact w_law0 lookCase hL (fun k => iz_rng (xs k)) (adf s.heap.size b t) s.heap.size (dC, dI) (cyf c0 c1 c2 c3 c4) L xs p l e room_1 s m #[Value.ref b] below meth c (lw_Z below #[Value.ref b] s) s.heap [] ls
    ⟨hx, hb, hml, hown, htG, hK, hG, hz, ⟨Nat.le_of_ble_eq_true rfl, Nat.le_of_ble_eq_true rfl, Nat.le_of_ble_eq_true rfl, Nat.le_of_ble_eq_true rfl⟩, hlocks, hr, fun h => (by cases h), fun _ => ⟨fun _ => ⟨rfl, by rw [adf_b], rfl, hflags, rfl, hgv, hts⟩, fun h => absurd rfl h⟩⟩ ⟨hW, fun _ => rfl⟩ va_S.rf hl
set_option maxHeartbeats 4000000 in
theorem lw_walk (l : Launch) (hflags : l.flags = flags0) (b : Addr) (xs : List Int32) : MetFree l x (headSpec (Jvm.Cond.code x code maxLocals ret :: tables_1) room_1) (lw_P b xs) (fun _ _ _ _ _ => True) lw_Q := by
  refine MetFree.of_bodyS (code := code) (maxLocals := maxLocals) (ret := ret) (by decide) ?_ ?_
  · intro args s m h hn
    obtain ⟨meth, c, h1, h2, h3, h4, h5, h6, -, -⟩ := Cond.code_spec hn (atoms_spec (ws := Jvm.Cond.code x code maxLocals ret :: tables_1) h _ List.mem_cons_self)
    exact ⟨meth, c, h1, h2, h3, h4, h5, h6⟩
  · intro p e s m args below meth c s₁ B hml0 hP _
    obtain ⟨rfl, hx, hbd, hgv⟩ := hP
    obtain ⟨scr, harrAt, hlist, hof, hsmall⟩ := hx
    obtain ⟨hcb, hkn, -, -⟩ := State.arrayAt?_spec harrAt
    have hown : s.vm.findClass R_law = some m.cls := findClass_of_methodNamed B.named
    have hts0 : ∀ c ∈ (Jvm.Cond.code x code maxLocals ret :: tables_1), c.before #[Value.ref b] s = true := atoms_spec (ws := Jvm.Cond.code x code maxLocals ret :: tables_1) B.pre
    have hts : ∀ w ∈ lw_tbl, w.before #[Value.ref b] s = true := k2_hts_sels lw_privs (fun w hw => hts0 w (List.mem_cons_of_mem _ hw)) lw_privs_ok
    have hml : c.maxLocals = 7 := B.maxLocals_eq (hts0 _ List.mem_cons_self)
    have X₀ : Stand p l e room_1 s m #[Value.ref b] below meth c s₁ [] 0 0 := Stand.of_body B
    have hh0 : s₁.heap = s.heap := by rw [B.state]; rfl
    have hsz : scr.slots.size = xs.length := by rw [← Array.length_toList, hlist, List.length_map]
    have hval : ∀ j : Nat, j < xs.length → scr.slots[j]? = some (.int (xs.getD j 0)) := fun j hj => by
      rw [← Array.getElem?_toList, hlist]
      simp [hj]
    have hbl : b < s.heap.size := (Array.getElem?_eq_some_iff.mp hcb).1
    have hX : va_X b xs.length (fun j => xs.getD j 0) s s.heap := ⟨scr, hcb, hof, hkn, hsz, hval⟩
    have K : W p l e room_1 s m #[Value.ref b] below meth c s₁.heap [] 0 0 (lw_Z below #[Value.ref b] s) (entryFrame m ([Value.ref b] : List Value).toArray 7) := by
      rw [hh0]
      exact whole_start l hflags hbd ⟨B.exec, B.bytes, B.returns, hml, hown, hts, hX, hbl, B.notSynchronized, hgv⟩
    obtain ⟨t, a1, o, b1, b2, b3⟩ := K s₁ rfl X₀
    exact ⟨t, o, a1, b1, b2, b3⟩
theorem lw_pre_spec {args : Array Value} {s : State} (h : (Jvm.Cond.and given_1 narrow_1).before args s = true) (hr : rest_1_c.before args s = true) : ∃ (b : Addr) (xs : List Int32), lw_P b xs args s := by
  have hs := flat_of_before _ h
  have hq := flat_of_before _ hr
  have hc : (Cond.count 1).before args s = true := hs _ (by decide +kernel)
  have harr : (Cond.arrayOf (.arg 0) .int).before args s = true := hs _ (by decide +kernel)
  have hle : (Cond.le (.length (.arg 0)) (.int 3072)).before args s = true := hs _ (by decide +kernel)
  have hlen : (Cond.isInt (.length (.arg 0))).before args s = true := hq _ (by decide +kernel)
  have hall : (Cond.all (.arg 0) (.isInt (.elem (.arg 0) (.index 0)))).before args s = true := hq _ (by decide +kernel)
  obtain ⟨b, xs, hb, hx⟩ := State.ints_of_pre rfl harr hlen hall
  have hsm : xs.length < 2 ^ 31 := hx.choose_spec.2.2.2
  have hev : (Term.length (.arg 0)).eval args s none [] s = some (.int xs.length.toInt32) := hx.length_eval hb
  have hv := Cond.le_ints hev (show (Term.int 3072).eval args s none [] s = some (.int 3072) from rfl)
  have hd : xs.length.toInt32 ≤ 3072 := by
    simpa [Cond.before, Cond.holds, hv] using hle
  have hN : xs.length ≤ 3072 := (Int32.ofNat_le_ofNat hsm (by decide)).mp (show Int32.ofNat xs.length ≤ Int32.ofNat 3072 from hd)
  exact ⟨b, xs, Cond.one_arg hc (show args[0]? = some (.ref b) from hb), hx, hN, h⟩
theorem lw_comes (l : Launch) (hflags : l.flags = flags0) : Comes l x (Jvm.Cond.code x code maxLocals ret :: tables_1) room_1 (fun tb e args s => Calls_1 tb e args s ∧ rest_1 tb e args s ∧ Pre_1 tb e args s)
    (fun _ _ args s o t => lw_Q args s o t) := by
  intro p e ha hc hk s m args below hf hfit hheap happ hpre
  obtain ⟨b, xs, hP⟩ := lw_pre_spec hpre.2.2 hpre.2.1
  obtain ⟨k, o, h1, h2, h3, hQ⟩ := lw_walk l hflags b xs p e ha hc hk s m args below hf ((Spec.applies_iff_loose hf).mp happ).1 hP trivial
  exact ⟨k, o, h1, h2, h3, hQ⟩
theorem lw_frame {s t : State} {o : Outcome} {args : Array Value} (h : Framed s o t [] 601024 7293034) :
    Framed s o t (fieldLocs frame_1_writes args s ++ arrayLocs frame_1_arrays args s ++ staticLocs frame_1_statics s) 601024 7293034 := h
theorem lw_limb (L : Cond) (hL : ∀ (args : Array Value) (s t : State), L.after args s (.returned (some (.int 1))) t = true) :
    ArmFor flags0 classFile x code maxLocals ret World_1 tables_1 room_1 Calls_1 rest_1 Pre_1
      (fun tb e a s o t => postC L tb e a s o t ∧ Framed s o t (fieldLocs frame_1_writes a s ++ arrayLocs frame_1_arrays a s ++ staticLocs frame_1_statics s) 601024 7293034) := by
  intro l hflags _ _ p e ha hc hk s m args below hf hfit hheap happ hpre
  obtain ⟨k, o, h1, h2, h3, rfl, hF⟩ := lw_comes l hflags p e ha hc hk s m args below hf hfit hheap happ hpre
  exact ⟨k, _, h1, h2, h3, hL args s _, lw_frame hF⟩
theorem i_vc : Claimed_1_1 ∧ Claimed_1_2 := ⟨lw_limb limb_1_1 (fun args s t => by simp [limb_1_1, Cond.after, Cond.holds, Cond.value]), lw_limb limb_1_2 (fun args s t => Cond.after_iff.mpr (by
  first | (rw [show limb_1_2 = Cond.eq .result (.int 1) from rfl, Cond.eq_ints (x := 1) (y := 1) rfl rfl]; simp; done) | (simp [limb_1_2, Cond.value, Term.eval]; done)))⟩
