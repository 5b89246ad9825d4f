section NEW
variable {y : MethodName} {cc : ByteArray} {nL : Nat} {rt : Option FieldType} {d mc ms : Nat} {fl : Bool} {Q : QT} {n' n kc ks pc : Nat} {L st : List Value} {ρ : RT} {f : IT} {g : JT}
/-! cells that are made: the next of the shapes, its places 0 or null -/
def u1 {α : Type} (f : Nat → Nat → α) (a : Nat) (x : α) : Nat → Nat → α := fun b j => if b = a then x else f b j
theorem u1_s {α : Type} {f : Nat → Nat → α} {a j : Nat} {x : α} : u1 f a x a j = x := by simp [u1]
theorem u1_n {α : Type} {f : Nat → Nat → α} {a b j : Nat} {x y : α} (h : ¬ b = a) (hy : f b j = y) : u1 f a x b j = y := by simp [u1, h, hy]
theorem u1_row {α : Type} {f : Nat → Nat → α} {a b : Nat} {x : α} (h : b ≠ a) : u1 f a x b = f b := by funext j; simp [u1, h]
theorem u1_self {α : Type} {f : Nat → Nat → α} {a : Nat} {x : α} : u1 f a x a = fun _ => x := by funext j; simp [u1]
theorem wd_push {ad : Nat → Nat} {z : Nat} {D : va_G} {cy : Nat → ClassId} {sl : Nat} {xs : Nat → Int32} {H H1 : Heap} (hW : Wd ad z D cy sl xs n ρ f g H) (hn : n < NF) (hq : ∀ q, q < H.size → H1[q]? = H[q]?) (hat : va_at D vwCl (ad n, ce ad cy (u1 ρ n none) (u1 f n 0) (u1 g n 0) n) H1) : Wd ad z D cy sl xs (n + 1) (u1 ρ n none) (u1 f n 0) (u1 g n 0) H1 := by
  obtain ⟨hP, h2, h5, h6⟩ := hW
  have hn9 : n < 149 := hn
  have h5' : (1005 : Nat) ≠ n := by omega
  refine ⟨?_, by omega, fun k => by rw [u1_row h5']; exact h5 k, by rw [u1_row h5']; exact h6⟩
  rw [wl_push]
  have e : wl ad cy n (u1 ρ n none) (u1 f n 0) (u1 g n 0) = wl ad cy n ρ f g := by
    apply List.map_congr_left
    intro a ha
    have : a ≠ n := by have := List.mem_range.mp ha; omega
    rw [ce_eq (u1_row this) (u1_row this) (u1_row this)]
  rw [e]
  refine va_P.app (hP.kept (fun k q hk => hq q.1 (hP k q hk).lt)) (fun k q hk => ?_)
  have hz : k < 1 := (List.getElem?_eq_some_iff.mp hk).1
  rw [show k = 0 by omega] at hk
  cases hk
  exact hat
theorem vp_idx {ad : Nat → Nat} {c k a : Nat} (hc : c < 13) (hk : k < cN c) : defaultValue (cY c k) = vp_V ((ftab c).mapIdx (fun k t => fv ad t (u1 ρ a none) (u1 f a 0) (u1 g a 0) a k)) k := by
  have h := (cls_code c hc).2 k hk
  have key : ∀ t, (ftab c)[k]? = some t → vp_V ((ftab c).mapIdx (fun k t => fv ad t (u1 ρ a none) (u1 f a 0) (u1 g a 0) a k)) k = fv ad t (u1 ρ a none) (u1 f a 0) (u1 g a 0) a k := by
    intro t ht
    unfold vp_V
    rw [List.getD_eq_getElem?_getD, fs_at ht]
    rfl
  rcases h with ⟨h1, h2⟩ | ⟨h1, h2⟩ | ⟨h1, h2⟩ | ⟨h1, h2⟩
  · rw [key _ h1, h2]; simp [fv, u1]; rfl
  · rw [key _ h1, h2]; simp [fv, u1]; rfl
  · rw [key _ h1, h2]; simp [fv, u1]; rfl
  · rw [key _ h1]
    simp only [fv, u1_s, Option.map_none]
    generalize cY c k = ty at h2
    cases ty <;> first | rfl | (simp at h2)
theorem V_new {idx c : Nat} (hk : kd n = (c, 0)) (hc : c < 13) (hn : n < NF) (hcl : Cond.classLink y.cls idx (cR c) ∈ tblG) (hins : Cond.instantiable (cR c) (cN c) ∈ tblG) (hini : Cond.initialized (cR c) ∈ tblG) (hmc : kc + 1 ≤ mc) (hms : ks + cN c ≤ ms) (hd : decode cc pc = .ok (.new idx, 3))
    (h : V y cc nL rt d mc ms fl Q n' (n + 1) (kc + 1) (ks + cN c) (pc + 3) L (.ref n :: st) (u1 ρ n none) (u1 f n 0) (u1 g n 0)) : V y cc nL rt d mc ms fl Q n' n kc ks pc L st ρ f g := by
  intro ad z D cy sl xs p l e0 R s m args below meth c0 Z H locs ls C hW hS hL
  refine W.sz (fun hsz => ?_)
  have C0 := C
  obtain ⟨hx, hb, hml, hown, hts, hK, hG, hz, ⟨hR1, hR2, hR3, hR4⟩, -⟩ := C
  have hsize := Wd.size hW hz hG hS hsz hn
  have hKn := hK.1 c _ (cls_at c hc)
  have had : ad n = H.size := by rw [hz n hn, hsize]
  refine W.newcK hx hb hown (hts _ hcl) (hts _ hins) (hts _ hini) rfl hd (by omega) (by omega) hKn.2.1 rfl (fun H1 kC hkC e1 z1 o1 => ?_)
  have hW1 : Wd ad z D cy sl xs (n + 1) (u1 ρ n none) (u1 f n 0) (u1 g n 0) H1 := by
    refine wd_push hW.1 hn o1 ?_
    rw [ce_obj hk hc, had]
    exact ⟨_, cls_at c hc, (u_born (cY c) hts (cls_in c hc) hKn hkC e1 (cls_ty c hc)).to (fun k hk => vp_idx hc hk)⟩
  have := h ad z D cy sl xs p l e0 R s m args below meth c0 Z H1 locs ls C0 ⟨hW1, fun hlt => by have := hW.2 hn; omega⟩ ⟨Nat.le_trans hS.1 (by omega), fun x h1 h2 => (o1 x (Nat.lt_of_lt_of_le h1 hS.1)).trans (hS.2.1 x h1 h2), hS.2.2⟩ hL
  rw [List.map_cons] at this
  simp only [cv, had] at this
  exact this
theorem V_newarr {N c : Nat} {aty : ArrayType} {ty : FieldType} {e : Int} (hk : kd n = (c, N)) (hcase : (c = 13 ∧ aty = .int) ∨ (c = 14 ∧ aty = .long) ∨ (c = 15 ∧ aty = .boolean)) (hn : n < NF) (harr : Cond.arrayClass (newarray.typeOf aty) ∈ tblG) (he : e = (N : Int)) (hN : N ≤ 60000000) (hmc : kc + 1 ≤ mc) (hms : ks + N ≤ ms) (hd : decode cc pc = .ok (.newarray aty, 2))
    (h : V y cc nL rt d mc ms fl Q n' (n + 1) (kc + 1) (ks + N) (pc + 2) L (.ref n :: st) (u1 ρ n none) (u1 f n 0) (u1 g n 0)) : V y cc nL rt d mc ms fl Q n' n kc ks pc L (.int (iz e) :: st) ρ f g := by
  intro ad z D cy sl xs p l e0 R s m args below meth c0 Z H locs ls C hW hS hL
  refine W.sz (fun hsz => ?_)
  have C0 := C
  obtain ⟨hx, hb, hml, hown, hts, hK, hG, hz, ⟨hR1, hR2, hR3, hR4⟩, -⟩ := C
  have hsize := Wd.size hW hz hG hS hsz hn
  have had : ad n = H.size := by rw [hz n hn, hsize]
  subst he
  have ev : (iz (N : Int)).toInt = N := iz_val (by omega) (by omega)
  have hneg : ¬ iz (N : Int) < 0 := by
    have := (iz_ltz (a := (N : Int)) (by unfold ri; omega))
    rw [this]; omega
  have hcl : (iz (N : Int)).toNatClampNeg = N := by rw [Int32.toNatClampNeg, ev]; rfl
  have hby : N * componentBytes (newarray.typeOf aty) ≤ 536870912 := by
    rcases hcase with ⟨-, rfl⟩ | ⟨-, rfl⟩ | ⟨-, rfl⟩
    · show N * 4 ≤ _; omega
    · show N * 8 ≤ _; omega
    · show N * 1 ≤ _; omega
  refine va_newaK hx hb (hts _ harr) (g := F0 m pc ls (.int (iz (N : Int)) :: st.map (cv ad))) rfl hd rfl hneg hcl hby (by omega) (by omega) rfl (fun H1 cA e1 z1 o1 hAr hNm => ?_)
  have hW1 : Wd ad z D cy sl xs (n + 1) (u1 ρ n none) (u1 f n 0) (u1 g n 0) H1 := by
    refine wd_push hW.1 hn o1 ?_
    rw [had]
    rcases hcase with ⟨rfl, rfl⟩ | ⟨rfl, rfl⟩ | ⟨rfl, rfl⟩
    · have hcy : cy 0 = cA := Option.some.inj ((hK.2 0 _ rfl).2.symm.trans hNm)
      rw [ce_int hk, hcy]
      show H1[H.size]? = some (vp_cell cA _)
      rw [e1]
      simp only [u1_s]
      rfl
    · have hcy : cy 1 = cA := Option.some.inj ((hK.2 1 _ rfl).2.symm.trans hNm)
      rw [ce_long hk, hcy]
      show H1[H.size]? = some (vp_cell cA _)
      rw [e1]
      simp only [u1_s]
      rfl
    · have hcy : cy 2 = cA := Option.some.inj ((hK.2 2 _ rfl).2.symm.trans hNm)
      rw [ce_bool hk, hcy]
      show H1[H.size]? = some (vp_cell cA _)
      rw [e1]
      simp only [u1_s]
      rfl
  have := h ad z D cy sl xs p l e0 R s m args below meth c0 Z H1 locs ls C0 ⟨hW1, fun hlt => by have := hW.2 hn; omega⟩ ⟨Nat.le_trans hS.1 (by omega), fun x h1 h2 => (o1 x (Nat.lt_of_lt_of_le h1 hS.1)).trans (hS.2.1 x h1 h2), hS.2.2⟩ hL
  rw [List.map_cons] at this
  simp only [cv, had] at this
  exact this
theorem V_anew {N c c2 idx : Nat} {e : Int} (hk : kd n = (c, N)) (hcase : (c = 16 ∧ c2 = 3) ∨ (c = 17 ∧ c2 = 10)) (hn : n < NF) (hcl2 : Cond.classLink y.cls idx (cR c2) ∈ tblG) (he : e = (N : Int)) (hN : N ≤ 60000000) (hmc : kc + 1 ≤ mc) (hms : ks + N ≤ ms) (hd : decode cc pc = .ok (.anewarray idx, 3))
    (h : V y cc nL rt d mc ms fl Q n' (n + 1) (kc + 1) (ks + N) (pc + 3) L (.ref n :: st) (u1 ρ n none) (u1 f n 0) (u1 g n 0)) : V y cc nL rt d mc ms fl Q n' n kc ks pc L (.int (iz e) :: st) ρ f g := by
  intro ad z D cy sl xs p l e0 R s m args below meth c0 Z H locs ls C hW hS hL
  refine W.sz (fun hsz => ?_)
  have C0 := C
  obtain ⟨hx, hb, hml, hown, hts, hK, hG, hz, ⟨hR1, hR2, hR3, hR4⟩, -⟩ := C
  have hsize := Wd.size hW hz hG hS hsz hn
  have had : ad n = H.size := by rw [hz n hn, hsize]
  subst he
  have ev : (iz (N : Int)).toInt = N := iz_val (by omega) (by omega)
  have hneg : ¬ iz (N : Int) < 0 := by
    have := (iz_ltz (a := (N : Int)) (by unfold ri; omega))
    rw [this]; omega
  have hcl : (iz (N : Int)).toNatClampNeg = N := by rw [Int32.toNatClampNeg, ev]; rfl
  have hover : (Cond.arrayOver (.object (cR c2))).before args s = true := by
    rcases hcase with ⟨-, rfl⟩ | ⟨-, rfl⟩
    · exact va_AO.use hG.2.2.2.2.1
    · exact va_AO.use hG.2.2.2.2.2.1
  refine W.anew hx hb hown (hts _ hcl2) hover (g := F0 m pc ls (.int (iz (N : Int)) :: st.map (cv ad))) rfl hd rfl hneg (by rw [hcl]; omega) (by omega) (by rw [hcl]; omega) (fun cA kA comp f1 f2 f3 f4 => ?_)
  rw [hcl]
  generalize hH1 : H.push ({ cls := cA, slots := Array.replicate N .null, vm := .none } : Cell) = H1
  have z1 : H1.size = H.size + 1 := by rw [← hH1, Array.size_push]
  have e1 : H1[H.size]? = some (arrV cA N (fun _ => .null)) := by rw [← hH1, Array.getElem?_push_size, ← arrV_new]
  have o1 : ∀ q : Nat, q < H.size → H1[q]? = H[q]? := fun q hq => by rw [← hH1, Array.getElem?_push, if_neg (Nat.ne_of_lt hq)]
  have hW1 : Wd ad z D cy sl xs (n + 1) (u1 ρ n none) (u1 f n 0) (u1 g n 0) H1 := by
    refine wd_push hW.1 hn o1 ?_
    rw [had]
    rcases hcase with ⟨rfl, rfl⟩ | ⟨rfl, rfl⟩
    · obtain ⟨kA', comp', h1', h2', h3', h4'⟩ := (hK.2 3 _ rfl).2
      have hcy : cy 3 = cA := Option.some.inj (h4'.symm.trans f1)
      rw [ce_rows hk, hcy]
      show H1[H.size]? = some (vp_cell cA _)
      rw [e1]
      simp only [u1_s]
      rfl
    · obtain ⟨kA', comp', h1', h2', h3', h4'⟩ := (hK.2 4 _ rfl).2
      have hcy : cy 4 = cA := Option.some.inj (h4'.symm.trans f1)
      rw [ce_walk hk, hcy]
      show H1[H.size]? = some (vp_cell cA _)
      rw [e1]
      simp only [u1_s]
      rfl
  have := h ad z D cy sl xs p l e0 R s m args below meth c0 Z H1 locs ls C0 ⟨hW1, fun hlt => by have := hW.2 hn; omega⟩ ⟨Nat.le_trans hS.1 (by omega), fun x h1 h2 => (o1 x (Nat.lt_of_lt_of_le h1 hS.1)).trans (hS.2.1 x h1 h2), hS.2.2⟩ hL
  rw [List.map_cons] at this
  simp only [cv, had] at this
  exact this
theorem V_objInit {idx a : Nat} (hl : Cond.methodLink y.cls idx objectInit ∈ tblG) (hi : Cond.instanceMethod objectInit ∈ tblG) (hco : Cond.code objectInit ⟨#[0xb1]⟩ 1 none ∈ tblG) (hd1 : 1 ≤ d) (hr8 : (st.map fun v => v.category).sum ≤ 8) (hd : decode cc pc = .ok (.invokespecial idx, 3)) (h : V y cc nL rt d mc ms fl Q n' n kc ks (pc + 3) L st ρ f g) : V y cc nL rt d mc ms fl Q n' n kc ks pc L (.ref a :: st) ρ f g := by
  intro ad z D cy sl xs p l e0 R s m args below meth c0 Z H locs ls C hW hS hL
  have h1 := h ad z D cy sl xs p l e0 R s m args below meth c0 Z H locs ls C hW hS hL
  obtain ⟨hx, hb, hml, hown, hts, hK, hG, hz, ⟨hR1, hR2, hR3, hR4⟩, -⟩ := C
  have hroom := lv_room (m := m) (pc := pc) (ls := ls) (rest := st) hr8
  exact W.objInit hx hb hown (hts _ hl) (hts _ hi) (hts _ hco) (g := F0 m pc ls (.ref (ad a) :: st.map (cv ad))) rfl (hL.1.trans hml.symm) rfl hd (by omega) (by rw [cat_sum]; have : (F0 m pc ls (.ref (ad a) :: st.map (cv ad))).monitorRoom = (F0 m pc ls st).monitorRoom := rfl; omega) h1
/-! switches -/
theorem V_tabIn {dflt lo hi off : Int} {offs : Array Int} {len i tgt : Nat} {e : Int} (hd : decode cc pc = .ok (.tableswitch dflt lo hi offs, len)) (he : e = lo + (i : Int)) (hle : lo + (i : Int) ≤ hi) (hr : ri e) (ho : offs[i]? = some off) (ht : (pc : Int) + off = (tgt : Int)) (h : V y cc nL rt d mc ms fl Q n' n kc ks tgt L st ρ f g) : V y cc nL rt d mc ms fl Q n' n kc ks pc L (.int (iz e) :: st) ρ f g := by
  intro ad z D cy sl xs p l e0 R s m args below meth c0 Z H locs ls C hW hS hL
  have h1 := h ad z D cy sl xs p l e0 R s m args below meth c0 Z H locs ls C hW hS hL
  have ev : (iz e).toInt = e := iz_val hr.1 hr.2
  exact lv_tableIn C.1 C.2.1 hd (by rw [ev]; omega) (by rw [ev]; omega) (by rw [ev, show (e - lo).toNat = i by omega]; exact ho) ht h1
theorem V_tabOut {dflt lo hi : Int} {offs : Array Int} {len tgt : Nat} {e : Int} (hd : decode cc pc = .ok (.tableswitch dflt lo hi offs, len)) (he : e < lo ∨ hi < e) (hr : ri e) (ht : (pc : Int) + dflt = (tgt : Int)) (h : V y cc nL rt d mc ms fl Q n' n kc ks tgt L st ρ f g) : V y cc nL rt d mc ms fl Q n' n kc ks pc L (.int (iz e) :: st) ρ f g := by
  intro ad z D cy sl xs p l e0 R s m args below meth c0 Z H locs ls C hW hS hL
  have h1 := h ad z D cy sl xs p l e0 R s m args below meth c0 Z H locs ls C hW hS hL
  have ev : (iz e).toInt = e := iz_val hr.1 hr.2
  exact lv_tableOut C.1 C.2.1 hd (by rw [ev]; exact he) ht h1
theorem V_lookup {dflt : Int} {ps : Array (Int × Int)} {len tgt : Nat} {e off : Int} (hd : decode cc pc = .ok (.lookupswitch dflt ps, len)) (hp : (ps.toList.zip (ps.toList.drop 1)).all (fun (a, next) => a.1 < next.1) = true) (hr : ri e) (ho : Op.lookupswitch.offset ps.toList dflt e = off) (ht : (pc : Int) + off = (tgt : Int)) (h : V y cc nL rt d mc ms fl Q n' n kc ks tgt L st ρ f g) : V y cc nL rt d mc ms fl Q n' n kc ks pc L (.int (iz e) :: st) ρ f g := by
  intro ad z D cy sl xs p l e0 R s m args below meth c0 Z H locs ls C hW hS hL
  have h1 := h ad z D cy sl xs p l e0 R s m args below meth c0 Z H locs ls C hW hS hL
  exact lv_lookup C.1 C.2.1 hd hp (by rw [iz_val hr.1 hr.2]; exact ho) ht h1
end NEW
