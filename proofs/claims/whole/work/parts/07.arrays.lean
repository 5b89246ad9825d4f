section ARR
variable {y : MethodName} {cc : ByteArray} {nL : Nat} {rt : Option FieldType} {d mc ms : Nat} {fl : Bool} {Q : QT} {n' n kc ks pc : Nat} {L st : List Value} {ρ : RT} {f : IT} {g : JT}
/-! arrays -/
theorem V_iald {a len k : Nat} {e x : Int} (hk : kd a = (13, len)) (hn : a < n) (hi : e = (k : Int)) (hlt : k < len) (hll : len ≤ 2147483647) (hv : f a k = x) (hd : decode cc pc = .ok (.iaload, 1)) (h : V y cc nL rt d mc ms fl Q n' n kc ks (pc + 1) L (.int (iz x) :: st) ρ f g) : V y cc nL rt d mc ms fl Q n' n kc ks pc L (.int (iz e) :: .ref a :: st) ρ f g := by
  intro ad z D cy sl xs p l e0 R s m args below meth c0 Z H locs ls C hW hS hL
  have h1 := h ad z D cy sl xs p l e0 R s m args below meth c0 Z H locs ls C hW hS hL
  obtain ⟨hx, hb, hml, hown, hts, hK, -⟩ := C
  subst hi hv
  obtain ⟨i1, i2⟩ := iz_ix hlt hll
  refine va_iald (D := D) (cl := vwCl) hx hb hK hW.1.1 a 0 (by rw [wl_get hn, ce_int hk]) rfl i1 hd ?_
  rw [i2]
  exact h1
theorem V_zald {a len k : Nat} {e x : Int} (hk : kd a = (15, len)) (hn : a < n) (hi : e = (k : Int)) (hlt : k < len) (hll : len ≤ 2147483647) (hv : f a k = x) (hd : decode cc pc = .ok (.baload, 1)) (h : V y cc nL rt d mc ms fl Q n' n kc ks (pc + 1) L (.int (iz x) :: st) ρ f g) : V y cc nL rt d mc ms fl Q n' n kc ks pc L (.int (iz e) :: .ref a :: st) ρ f g := by
  intro ad z D cy sl xs p l e0 R s m args below meth c0 Z H locs ls C hW hS hL
  have h1 := h ad z D cy sl xs p l e0 R s m args below meth c0 Z H locs ls C hW hS hL
  obtain ⟨hx, hb, hml, hown, hts, hK, -⟩ := C
  subst hi hv
  obtain ⟨i1, i2⟩ := iz_ix hlt hll
  refine va_zald (D := D) (cl := vwCl) hx hb hK hW.1.1 a 2 (by rw [wl_get hn, ce_bool hk]) rfl i1 hd ?_
  rw [i2]
  exact h1
theorem V_lald {a len k : Nat} {e x : Int} (hk : kd a = (14, len)) (hn : a < n) (hi : e = (k : Int)) (hlt : k < len) (hll : len ≤ 2147483647) (hv : g a k = x) (hd : decode cc pc = .ok (.laload, 1)) (h : V y cc nL rt d mc ms fl Q n' n kc ks (pc + 1) L (.long (lz x) :: st) ρ f g) : V y cc nL rt d mc ms fl Q n' n kc ks pc L (.int (iz e) :: .ref a :: st) ρ f g := by
  intro ad z D cy sl xs p l e0 R s m args below meth c0 Z H locs ls C hW hS hL
  have h1 := h ad z D cy sl xs p l e0 R s m args below meth c0 Z H locs ls C hW hS hL
  obtain ⟨hx, hb, hml, hown, hts, hK, -⟩ := C
  subst hi hv
  obtain ⟨i1, i2⟩ := iz_ix hlt hll
  refine va_lald (D := D) (cl := vwCl) hx hb hK hW.1.1 a 1 (by rw [wl_get hn, ce_long hk]) rfl i1 hd ?_
  rw [i2]
  exact h1
theorem V_aald {a c len k b : Nat} {e : Int} (hk : kd a = (c, len)) (hc : c = 16 ∨ c = 17) (hn : a < n) (hi : e = (k : Int)) (hlt : k < len) (hll : len ≤ 2147483647) (hv : ρ a k = some b) (hd : decode cc pc = .ok (.aaload, 1)) (h : V y cc nL rt d mc ms fl Q n' n kc ks (pc + 1) L (.ref b :: st) ρ f g) : V y cc nL rt d mc ms fl Q n' n kc ks pc L (.int (iz e) :: .ref a :: st) ρ f g := by
  intro ad z D cy sl xs p l e0 R s m args below meth c0 Z H locs ls C hW hS hL
  have h1 := h ad z D cy sl xs p l e0 R s m args below meth c0 Z H locs ls C hW hS hL
  obtain ⟨hx, hb, hml, hown, hts, hK, -⟩ := C
  subst hi
  obtain ⟨i1, i2⟩ := iz_ix hlt hll
  rcases hc with rfl | rfl
  · refine va_aldq (D := D) (cl := vwCl) hx hb hK hW.1.1 a 3 (by rw [wl_get hn, ce_rows hk]) rfl i1 hd ?_
    rw [i2, hv]
    exact h1
  · refine va_aldq (D := D) (cl := vwCl) hx hb hK hW.1.1 a 4 (by rw [wl_get hn, ce_walk hk]) rfl i1 hd ?_
    rw [i2, hv]
    exact h1
theorem V_iast {a len k : Nat} {e x : Int} (hk : kd a = (13, len)) (hn : a < n) (hi : e = (k : Int)) (hlt : k < len) (hll : len ≤ 2147483647) (hd : decode cc pc = .ok (.iastore, 1)) (h : V y cc nL rt d mc ms fl Q n' n kc ks (pc + 1) L st ρ (u2 f a k x) g) : V y cc nL rt d mc ms fl Q n' n kc ks pc L (.int (iz x) :: .int (iz e) :: .ref a :: st) ρ f g := by
  intro ad z D cy sl xs p l e0 R s m args below meth c0 Z H locs ls C hW hS hL
  have h1 := h ad z D cy sl xs p l e0 R s m args below meth c0 Z
  have C0 := C
  obtain ⟨hx, hb, hml, hown, hts, hK, hG, hz, -⟩ := C
  subst hi
  obtain ⟨i1, i2⟩ := iz_ix hlt hll
  refine va_iast (D := D) (cl := vwCl) hx hb hK hW.1.1 (wl_D hz hW.1.2.1) hS a 0 (by rw [wl_get hn, ce_int hk]) rfl i1 hd (fun H1 locs1 hP1 hD1 hS1 => ?_)
  refine h1 H1 locs1 ls C0 ⟨wd_set hW.1 hn ?_ (fun b hb => ⟨rfl, u2_row hb, rfl⟩) hP1, hW.2⟩ hS1 hL
  rw [ce_int hk, i2]
  congr 4
  funext j
  simp only [u2_self, upd]
  by_cases hj : j = k <;> simp [hj]
theorem V_zast {a len k : Nat} {e x : Int} (hk : kd a = (15, len)) (hn : a < n) (hi : e = (k : Int)) (hlt : k < len) (hll : len ≤ 2147483647) (hb01 : x = 0 ∨ x = 1) (hd : decode cc pc = .ok (.bastore, 1)) (h : V y cc nL rt d mc ms fl Q n' n kc ks (pc + 1) L st ρ (u2 f a k x) g) : V y cc nL rt d mc ms fl Q n' n kc ks pc L (.int (iz x) :: .int (iz e) :: .ref a :: st) ρ f g := by
  intro ad z D cy sl xs p l e0 R s m args below meth c0 Z H locs ls C hW hS hL
  have h1 := h ad z D cy sl xs p l e0 R s m args below meth c0 Z
  have C0 := C
  obtain ⟨hx, hb, hml, hown, hts, hK, hG, hz, -⟩ := C
  subst hi
  obtain ⟨i1, i2⟩ := iz_ix hlt hll
  refine va_zast (D := D) (cl := vwCl) hx hb hK hW.1.1 (wl_D hz hW.1.2.1) hS a 2 (by rw [wl_get hn, ce_bool hk]) rfl i1 hd (fun H1 locs1 hP1 hD1 hS1 => ?_)
  refine h1 H1 locs1 ls C0 ⟨wd_set hW.1 hn ?_ (fun b hb => ⟨rfl, u2_row hb, rfl⟩) hP1, hW.2⟩ hS1 hL
  have e1 : vp_nar .boolean (iz x) = iz x := by rcases hb01 with rfl | rfl <;> decide
  rw [ce_bool hk, i2, e1]
  congr 4
  funext j
  simp only [u2_self, upd]
  by_cases hj : j = k <;> simp [hj]
theorem V_last {a len k : Nat} {e x : Int} (hk : kd a = (14, len)) (hn : a < n) (hi : e = (k : Int)) (hlt : k < len) (hll : len ≤ 2147483647) (hd : decode cc pc = .ok (.lastore, 1)) (h : V y cc nL rt d mc ms fl Q n' n kc ks (pc + 1) L st ρ f (u2 g a k x)) : V y cc nL rt d mc ms fl Q n' n kc ks pc L (.long (lz x) :: .int (iz e) :: .ref a :: st) ρ f g := by
  intro ad z D cy sl xs p l e0 R s m args below meth c0 Z H locs ls C hW hS hL
  have h1 := h ad z D cy sl xs p l e0 R s m args below meth c0 Z
  have C0 := C
  obtain ⟨hx, hb, hml, hown, hts, hK, hG, hz, -⟩ := C
  subst hi
  obtain ⟨i1, i2⟩ := iz_ix hlt hll
  refine va_last (D := D) (cl := vwCl) hx hb hK hW.1.1 (wl_D hz hW.1.2.1) hS a 1 (by rw [wl_get hn, ce_long hk]) rfl i1 hd (fun H1 locs1 hP1 hD1 hS1 => ?_)
  refine h1 H1 locs1 ls C0 ⟨wd_set hW.1 hn ?_ (fun b hb => ⟨rfl, rfl, u2_row hb⟩) hP1, hW.2⟩ hS1 hL
  rw [ce_long hk, i2]
  congr 5
  funext j
  simp only [u2_self, vp_updL]
  by_cases hj : j = k <;> simp [hj]
theorem V_aast {a c c2 len len2 k b : Nat} {e : Int} (hk : kd a = (c, len)) (hc : (c = 16 ∧ c2 = 3) ∨ (c = 17 ∧ c2 = 10)) (hk2 : kd b = (c2, len2)) (hn : a < n) (hn2 : b < n) (hi : e = (k : Int)) (hlt : k < len) (hll : len ≤ 2147483647) (hd : decode cc pc = .ok (.aastore, 1)) (h : V y cc nL rt d mc ms fl Q n' n kc ks (pc + 1) L st (u2 ρ a k (some b)) f g) : V y cc nL rt d mc ms fl Q n' n kc ks pc L (.ref b :: .int (iz e) :: .ref a :: st) ρ f g := by
  intro ad z D cy sl xs p l e0 R s m args below meth c0 Z H locs ls C hW hS hL
  have h1 := h ad z D cy sl xs p l e0 R s m args below meth c0 Z
  have C0 := C
  obtain ⟨hx, hb, hml, hown, hts, hK, hG, hz, -⟩ := C
  subst hi
  obtain ⟨i1, i2⟩ := iz_ix hlt hll
  have row : (fun i => (u2 ρ a k (some b) a i).map ad) = va_up (fun i => (ρ a i).map ad) k (some (ad b)) := by
    funext j
    simp only [u2_self, va_up]
    by_cases hj : j = k <;> simp [hj]
  rcases hc with ⟨rfl, rfl⟩ | ⟨rfl, rfl⟩
  · refine va_astq (D := D) (cl := vwCl) (r := (RX3, TX3, 5)) hx hb hK hW.1.1 (wl_D hz hW.1.2.1) hS a 3 b 3 (by rw [wl_get hn, ce_rows hk]) rfl (by rw [wl_get hn2, ce_obj hk2 (by omega)]) rfl i1 hd (fun H1 locs1 hP1 hD1 hS1 => ?_)
    refine h1 H1 locs1 ls C0 ⟨wd_set hW.1 hn ?_ (fun b hb => ⟨u2_row hb, rfl, rfl⟩) hP1, hW.2⟩ hS1 hL
    rw [ce_rows hk, i2, row]
  · refine va_astq (D := D) (cl := vwCl) (r := (RX10, TX10, 15)) hx hb hK hW.1.1 (wl_D hz hW.1.2.1) hS a 4 b 10 (by rw [wl_get hn, ce_walk hk]) rfl (by rw [wl_get hn2, ce_obj hk2 (by omega)]) rfl i1 hd (fun H1 locs1 hP1 hD1 hS1 => ?_)
    refine h1 H1 locs1 ls C0 ⟨wd_set hW.1 hn ?_ (fun b hb => ⟨u2_row hb, rfl, rfl⟩) hP1, hW.2⟩ hS1 hL
    rw [ce_walk hk, i2, row]
theorem V_alen {a c len : Nat} (hk : kd a = (c, len)) (hc : 13 ≤ c ∧ c ≤ 17) (hn : a < n) (hd : decode cc pc = .ok (.arraylength, 1)) (h : V y cc nL rt d mc ms fl Q n' n kc ks (pc + 1) L (.int (iz (len : Int)) :: st) ρ f g) : V y cc nL rt d mc ms fl Q n' n kc ks pc L (.ref a :: st) ρ f g := by
  intro ad z D cy sl xs p l e0 R s m args below meth c0 Z H locs ls C hW hS hL
  have h1 := h ad z D cy sl xs p l e0 R s m args below meth c0 Z H locs ls C hW hS hL
  obtain ⟨hx, hb, hml, hown, hts, hK, -⟩ := C
  have e1 : Int32.ofNat len = iz (len : Int) := by unfold iz; exact (Int32.ofInt_eq_ofNat).symm
  have hc5 : c = 13 ∨ c = 14 ∨ c = 15 ∨ c = 16 ∨ c = 17 := by omega
  rcases hc5 with rfl | rfl | rfl | rfl | rfl
  · exact va_alen (D := D) (cl := vwCl) hx hb hK hW.1.1 a 0 (by rw [wl_get hn, ce_int hk]) rfl e1 hd h1
  · exact va_alen (D := D) (cl := vwCl) hx hb hK hW.1.1 a 1 (by rw [wl_get hn, ce_long hk]) rfl e1 hd h1
  · exact va_alen (D := D) (cl := vwCl) hx hb hK hW.1.1 a 2 (by rw [wl_get hn, ce_bool hk]) rfl e1 hd h1
  · exact va_alen (D := D) (cl := vwCl) hx hb hK hW.1.1 a 3 (by rw [wl_get hn, ce_rows hk]) rfl e1 hd h1
  · exact va_alen (D := D) (cl := vwCl) hx hb hK hW.1.1 a 4 (by rw [wl_get hn, ce_walk hk]) rfl e1 hd h1
/-! the static rows, the script -/
theorem V_gets {j idx : Nat} (hj : j < 5) (hlink : Cond.fieldLink y.cls idx (sC j) (sN j) "[I" ∈ tblG) (hd : decode cc pc = .ok (.getstatic idx, 3)) (h : V y cc nL rt d mc ms fl Q n' n kc ks (pc + 3) L (.ref (1000 + j) :: st) ρ f g) : V y cc nL rt d mc ms fl Q n' n kc ks pc L st ρ f g := by
  intro ad z D cy sl xs p l e0 R s m args below meth c0 Z H locs ls C hW hS hL
  have h1 := h ad z D cy sl xs p l e0 R s m args below meth c0 Z H locs ls C hW hS hL
  obtain ⟨hx, hb, hml, hown, hts, hK, hG, -⟩ := C
  exact va_gets hx hb (hG.1 j hj).1 hS hown (hts _ hlink) (fun _ h9 => h9) hd h1
theorem V_stld {j k : Nat} {e x : Int} (hj : j < 5) (hi : e = (k : Int)) (hlt : k < (sT j).length) (hv : (sT j).getD k 0 = iz x) (hd : decode cc pc = .ok (.iaload, 1)) (h : V y cc nL rt d mc ms fl Q n' n kc ks (pc + 1) L (.int (iz x) :: st) ρ f g) : V y cc nL rt d mc ms fl Q n' n kc ks pc L (.int (iz e) :: .ref (1000 + j) :: st) ρ f g := by
  intro ad z D cy sl xs p l e0 R s m args below meth c0 Z H locs ls C hW hS hL
  have h1 := h ad z D cy sl xs p l e0 R s m args below meth c0 Z H locs ls C hW hS hL
  obtain ⟨hx, hb, hml, hown, hts, hK, hG, -⟩ := C
  subst hi
  have hl5 : (sT j).length ≤ 2147483647 := by
    have : j = 0 ∨ j = 1 ∨ j = 2 ∨ j = 3 ∨ j = 4 := by omega
    rcases this with rfl | rfl | rfl | rfl | rfl <;> decide
  obtain ⟨i1, i2⟩ := iz_ix hlt hl5
  exact va_ti hx hb (hG.1 j hj).2 hS i1 (v := .int (iz x)) (by rw [i2, hv]) hd h1
theorem V_stlen {j : Nat} {x : Int} (hj : j < 5) (hv : ((sT j).length : Int) = x) (hd : decode cc pc = .ok (.arraylength, 1)) (h : V y cc nL rt d mc ms fl Q n' n kc ks (pc + 1) L (.int (iz x) :: st) ρ f g) : V y cc nL rt d mc ms fl Q n' n kc ks pc L (.ref (1000 + j) :: st) ρ f g := by
  intro ad z D cy sl xs p l e0 R s m args below meth c0 Z H locs ls C hW hS hL
  have h1 := h ad z D cy sl xs p l e0 R s m args below meth c0 Z H locs ls C hW hS hL
  obtain ⟨hx, hb, hml, hown, hts, hK, hG, -⟩ := C
  subst hv
  exact va_tlen hx hb (hG.1 j hj).2 hS (v := iz ((sT j).length : Int)) (by unfold iz; exact (Int32.ofInt_eq_ofNat).symm) hd h1
theorem V_sld {k : Nat} {e x : Int} (hi : e = (k : Int)) (hlt : (k : Int) < g 1005 0) (hll : g 1005 0 ≤ 2147483647) (hv : f 1005 k = x) (hd : decode cc pc = .ok (.iaload, 1)) (h : V y cc nL rt d mc ms fl Q n' n kc ks (pc + 1) L (.int (iz x) :: st) ρ f g) : V y cc nL rt d mc ms fl Q n' n kc ks pc L (.int (iz e) :: .ref 1005 :: st) ρ f g := by
  intro ad z D cy sl xs p l e0 R s m args below meth c0 Z H locs ls C hW hS hL
  have h1 := h ad z D cy sl xs p l e0 R s m args below meth c0 Z H locs ls C hW hS hL
  obtain ⟨hx, hb, hml, hown, hts, hK, hG, -⟩ := C
  obtain ⟨⟨-, -, hxs, hsl⟩, -⟩ := hW
  subst hi hv
  obtain ⟨i1, i2⟩ := iz_ix (k := k) (n := sl) (by omega) (by omega)
  refine va_sld hx hb hG.2.1 (Nat.lt_of_lt_of_le hG.2.2.1 hG.2.2.2.1) (Nat.not_le_of_lt hG.2.2.1) hS i1 hd ?_
  rw [i2, hxs k]
  exact h1
theorem V_slen {x : Int} (hv : g 1005 0 = x) (hd : decode cc pc = .ok (.arraylength, 1)) (h : V y cc nL rt d mc ms fl Q n' n kc ks (pc + 1) L (.int (iz x) :: st) ρ f g) : V y cc nL rt d mc ms fl Q n' n kc ks pc L (.ref 1005 :: st) ρ f g := by
  intro ad z D cy sl xs p l e0 R s m args below meth c0 Z H locs ls C hW hS hL
  have h1 := h ad z D cy sl xs p l e0 R s m args below meth c0 Z H locs ls C hW hS hL
  obtain ⟨hx, hb, hml, hown, hts, hK, hG, -⟩ := C
  obtain ⟨⟨-, -, hxs, hsl⟩, -⟩ := hW
  subst hv
  refine va_slen hx hb hG.2.1 (Nat.lt_of_lt_of_le hG.2.2.1 hG.2.2.2.1) (Nat.not_le_of_lt hG.2.2.1) hS hd ?_
  rw [show Int32.ofNat sl = iz (g 1005 0) by rw [← hsl]; unfold iz; exact (Int32.ofInt_eq_ofNat).symm]
  exact h1
/-! returns -/
theorem ret_q {ad : Nat → Nat} {z : Nat} {D : va_G} {cy : Nat → ClassId} {sl : Nat} {xs : Nat → Int32} {s t : State} {args : Array Value} {H : Heap} {locs : List Loc} {r : Option Value} (hW : Wd ad z D cy sl xs n ρ f g H) (hS : va_S (fun q => z ≤ q) s.heap H locs) (ht : t.heap = H) (hQ : Q r ρ f g) : QQ ad z D cy sl xs n Q args s (.returned (r.map (cv ad))) t :=
  ⟨⟨r, ρ, f, g, rfl, hQ, by rw [ht]; exact hW⟩, hS.F ht⟩
theorem V_ireturn {x : Int} (hrt : rt = some .int) (hQ : Q (some (.int (iz x))) ρ f g) (hd : decode cc pc = .ok (.ireturn, 1)) : V y cc nL rt d mc ms false Q n n mc ms pc L [.int (iz x)] ρ f g := by
  intro ad z D cy sl xs p l e0 R s m args below meth c0 Z H locs ls C hW hS hL
  obtain ⟨hx, hb, hml, hown, hts, hK, hG, hz, -, hlocks, hr, hZ, -⟩ := C
  rw [(hZ rfl).2]
  subst hrt
  exact W.iret (v := iz x) hx hb hr (fun t ht hw => ret_q (r := some (.int (iz x))) hW.1 hS ht hQ) hS.2.2 hd hlocks
theorem V_zreturn {x : Int} (hrt : rt = some .boolean) (h01 : x = 0 ∨ x = 1) (hQ : Q (some (.int (iz x))) ρ f g) (hd : decode cc pc = .ok (.ireturn, 1)) : V y cc nL rt d mc ms false Q n n mc ms pc L [.int (iz x)] ρ f g := by
  intro ad z D cy sl xs p l e0 R s m args below meth c0 Z H locs ls C hW hS hL
  obtain ⟨hx, hb, hml, hown, hts, hK, hG, hz, -, hlocks, hr, hZ, -⟩ := C
  rw [(hZ rfl).2]
  subst hrt
  exact W.zret (v := iz x) hx hb hr (by rcases h01 with rfl | rfl <;> decide) (fun t ht hw => ret_q (r := some (.int (iz x))) hW.1 hS ht hQ) hS.2.2 hd hlocks
theorem V_lreturn {x : Int} (hrt : rt = some .long) (hQ : Q (some (.long (lz x))) ρ f g) (hd : decode cc pc = .ok (.lreturn, 1)) : V y cc nL rt d mc ms false Q n n mc ms pc L [.long (lz x)] ρ f g := by
  intro ad z D cy sl xs p l e0 R s m args below meth c0 Z H locs ls C hW hS hL
  obtain ⟨hx, hb, hml, hown, hts, hK, hG, hz, -, hlocks, hr, hZ, -⟩ := C
  rw [(hZ rfl).2]
  subst hrt
  exact W.lret (v := lz x) hx hb hr (fun t ht hw => ret_q (r := some (.long (lz x))) hW.1 hS ht hQ) hS.2.2 hd hlocks
theorem V_return (hrt : rt = none) (hQ : Q none ρ f g) (hd : decode cc pc = .ok (.return_, 1)) : V y cc nL rt d mc ms false Q n n mc ms pc L [] ρ f g := by
  intro ad z D cy sl xs p l e0 R s m args below meth c0 Z H locs ls C hW hS hL
  obtain ⟨hx, hb, hml, hown, hts, hK, hG, hz, -, hlocks, hr, hZ, -⟩ := C
  rw [(hZ rfl).2]
  subst hrt
  exact W.vret hx hb hr (fun t ht hw => ret_q (r := none) hW.1 hS ht hQ) hS.2.2 hd hlocks
/-! calls of objects' methods -/
theorem V_callV {idx na d1 : Nat} {y1 : MethodName} {cc1 : ByteArray} {nL1 : Nat} {rt1 : Option FieldType} {mc1 ms1 n1 a c len : Nat} {as rest : List Value} {Q1 : QT} (hM : MLs y.cls idx y1 cc1 nL1 rt1 na) (hin : Cond.instanceMethod y1 ∈ tblG) (hse : Cond.selects (cR c) y1 y1 ∈ tblG) (hk : kd a = (c, len)) (hc : c < 13) (hn : a < n) (hd : decode cc pc = .ok (.invokevirtual idx, 3)) (hs : st = as.reverse ++ .ref a :: rest) (hna : as.length = na) (hdd : d1 + 1 ≤ d) (hln : nL1 ≤ 41) (hr8 : (rest.map fun v => v.category).sum ≤ 8) (hmc : kc + mc1 ≤ mc) (hms : ks + ms1 ≤ ms) (hnn : n1 = n + mc1)
    (hC : Ct y1 cc1 nL1 rt1 d1 mc1 ms1 n n1 (.ref a :: as) ρ f g Q1) (h : ∀ r ρ1 f1 g1, Q1 r ρ1 f1 g1 → V y cc nL rt d mc ms fl Q n' n1 (kc + mc1) (ks + ms1) (pc + 3) L (r.toList ++ rest) ρ1 f1 g1) : V y cc nL rt d mc ms fl Q n' n kc ks pc L st ρ f g := by
  refine V_callX (as := .ref a :: as) (rest := rest) (by rw [hs]; simp) hnn hC (fun ad z D cy sl xs p l e R s m args below meth c0 Z H locs ls C hW hS hL hU hM1 => ?_) h
  obtain ⟨hx, hb, hml, hown, hts, hK, hG, hz, ⟨hR1, hR2, hR3, hR4⟩, -⟩ := C
  have he : (wl ad cy n ρ f g)[a]? = some (ad a, .inr (c, (ftab c).mapIdx (fun k t => fv ad t ρ f g a k))) := by rw [wl_get hn, ce_obj hk hc]
  have hrecv := va_recv hK hW.1 (cls_at c hc) he
  exact va_runV (C := cR c) (b := ad a) (As := as.map (cv ad)) (rest := rest.map (cv ad)) ⟨hx, hb, hml, hown, hts⟩ hM1 ⟨hM.callB hts (by omega) (by omega), hts _ hin, hts _ hse⟩ ⟨WU.blind, hrecv, fun U h1 h2 => ⟨rfl, hU U h1 h2⟩⟩ rfl (by rw [List.length_map]; exact hna) hL.1 (by simp [cv]) (by rw [cat_sum]; exact lv_room (m := m) (pc := pc) (ls := ls) (rest := rest) hr8) hd ⟨by omega, by omega⟩
/-- a constructor of one's own class's or of another's -/
theorem V_callI {idx na d1 : Nat} {y1 : MethodName} {cc1 : ByteArray} {nL1 : Nat} {mc1 ms1 n1 a : Nat} {as rest : List Value} {Q1 : QT} (hM : MLs y.cls idx y1 cc1 nL1 none na) (hin : Cond.instanceMethod y1 ∈ tblG) (hy1 : y1.name = "<init>") (hd : decode cc pc = .ok (.invokespecial idx, 3)) (hs : st = as.reverse ++ .ref a :: rest) (hna : as.length = na) (hdd : d1 + 1 ≤ d) (hln : nL1 ≤ 41) (hr8 : (rest.map fun v => v.category).sum ≤ 8) (hmc : kc + mc1 ≤ mc) (hms : ks + ms1 ≤ ms) (hnn : n1 = n + mc1)
    (hC : Ct y1 cc1 nL1 none d1 mc1 ms1 n n1 (.ref a :: as) ρ f g Q1) (h : ∀ r ρ1 f1 g1, Q1 r ρ1 f1 g1 → V y cc nL rt d mc ms fl Q n' n1 (kc + mc1) (ks + ms1) (pc + 3) L (r.toList ++ rest) ρ1 f1 g1) : V y cc nL rt d mc ms fl Q n' n kc ks pc L st ρ f g := by
  refine V_callX (as := .ref a :: as) (rest := rest) (by rw [hs]; simp) hnn hC (fun ad z D cy sl xs p l e R s m args below meth c0 Z H locs ls C hW hS hL hU hM1 => ?_) h
  obtain ⟨hx, hb, hml, hown, hts, hK, hG, hz, ⟨hR1, hR2, hR3, hR4⟩, -⟩ := C
  exact va_runI (b := ad a) (As := as.map (cv ad)) (rest := rest.map (cv ad)) ⟨hx, hb, hml, hown, hts⟩ hM1 ⟨hM.callB hts (by omega) (by omega), hy1, hts _ hin⟩ ⟨WU.blind, fun U h1 h2 => ⟨rfl, hU U h1 h2⟩⟩ rfl (by rw [List.length_map]; exact hna) hL.1 (by simp [cv]) (by rw [cat_sum]; exact lv_room (m := m) (pc := pc) (ls := ls) (rest := rest) hr8) hd ⟨by omega, by omega⟩
/-- .. a nest mate's private one -/
theorem V_callN {idx na d1 : Nat} {y1 : MethodName} {host : String} {cc1 : ByteArray} {nL1 : Nat} {mc1 ms1 n1 a : Nat} {as rest : List Value} {Q1 : QT} (hcode : Cond.code y1 cc1 nL1 none ∈ tblG) (hini : Cond.initialized y1.cls ∈ tblG) (hnest : Cond.methodLinkNest y.cls idx y1 host ∈ tables_1) (hpl : (y1.cls ≠ "java/lang/invoke/MethodHandle" ∧ y1.cls ≠ "java/lang/invoke/VarHandle") ∧ (parseMethodDescriptor y1.desc).map (fun d => d.parameters.length) = some na) (hin : Cond.instanceMethod y1 ∈ tblG) (hy1 : y1.name = "<init>") (hd : decode cc pc = .ok (.invokespecial idx, 3)) (hs : st = as.reverse ++ .ref a :: rest) (hna : as.length = na) (hdd : d1 + 1 ≤ d) (hln : nL1 ≤ 41) (hr8 : (rest.map fun v => v.category).sum ≤ 8) (hmc : kc + mc1 ≤ mc) (hms : ks + ms1 ≤ ms) (hnn : n1 = n + mc1)
    (hC : Ct y1 cc1 nL1 none d1 mc1 ms1 n n1 (.ref a :: as) ρ f g Q1) (h : ∀ r ρ1 f1 g1, Q1 r ρ1 f1 g1 → V y cc nL rt d mc ms fl Q n' n1 (kc + mc1) (ks + ms1) (pc + 3) L (r.toList ++ rest) ρ1 f1 g1) : V y cc nL rt d mc ms fl Q n' n kc ks pc L st ρ f g := by
  refine V_callX (as := .ref a :: as) (rest := rest) (by rw [hs]; simp) hnn hC (fun ad z D cy sl xs p l e R s m args below meth c0 Z H locs ls C hW hS hL hU hM1 => ?_) h
  obtain ⟨hx, hb, hml, hown, hts, hK, hG, hz, ⟨hR1, hR2, hR3, hR4⟩, -⟩ := C
  obtain ⟨-, -, -, -, -, -, hN⟩ := hG
  have hG2 : GoodIn tblG (Cond.code y1 cc1 nL1 none :: tblG) := fun w hw => by
    have hm : w ∈ tblG := by
      rcases List.mem_cons.mp hw with h | h
      · rw [h]; exact hcode
      · exact h
    exact ⟨hm, tblG_good w hm⟩
  exact va_runIN (b := ad a) (As := as.map (cv ad)) (rest := rest.map (cv ad)) ⟨hx, hb, hml, hown, hts⟩ hM1 ⟨va_cnB na hts hG2 rfl rfl rfl (hN _ _ _ _ hnest) (hts _ hini) ⟨hpl.1.1, hpl.1.2, hpl.2⟩ ⟨by show d1 + 1 ≤ _; omega, by show 8 + (nL1 + 11) + 60 * d1 ≤ _; omega⟩, hy1, hts _ hin⟩ ⟨WU.blind, fun U h1 h2 => ⟨rfl, hU U h1 h2⟩⟩ rfl (by rw [List.length_map]; exact hna) hL.1 (by simp [cv]) (by rw [cat_sum]; exact lv_room (m := m) (pc := pc) (ls := ls) (rest := rest) hr8) hd ⟨by omega, by omega⟩
end ARR
