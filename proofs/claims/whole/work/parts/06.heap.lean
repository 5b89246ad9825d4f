/-! the classes by their numbers -/
def cR (c : Nat) : String := (vwCl.getD c ("", TX0, 0)).1
def cT (c : Nat) : u_T := (vwCl.getD c ("", TX0, 0)).2.1
def cN (c : Nat) : Nat := (vwCl.getD c ("", TX0, 0)).2.2
def cY : Nat → Nat → FieldType
  | 0 => tyX0
  | 1 => tyX1
  | 2 => tyX2
  | 3 => tyX3
  | 4 => tyX4
  | 5 => tyX5
  | 6 => tyX6
  | 7 => tyX7
  | 8 => tyX8
  | 9 => tyX9
  | 10 => tyX10
  | 11 => tyX11
  | 12 => tyX12
  | _ => tyX0
theorem mem_places {ws : List Cond} (ps : List Nat) (h : ps.map (fun i => tables_1[i]?) = ws.map some) (hg : ws.all goodWord = true) : ∀ w ∈ ws, w ∈ tblG := by
  intro w hw
  have h1 : some w ∈ ws.map some := List.mem_map.mpr ⟨w, hw, rfl⟩
  rw [← h] at h1
  obtain ⟨i, -, hi⟩ := List.mem_map.mp h1
  exact tblG_at i hi (List.all_eq_true.mp hg w hw)
set_option maxRecDepth 20000 in
theorem inG0 : ∀ w ∈ u_ws RX0 TX0 12, w ∈ tblG := mem_places [219, 221, 223, 225, 227, 229, 231, 233, 235, 237, 239, 241] (by decide +kernel) (by decide +kernel)
set_option maxRecDepth 20000 in
theorem inG1 : ∀ w ∈ u_ws RX1 TX1 9, w ∈ tblG := mem_places [146, 148, 150, 152, 154, 156, 158, 160, 162] (by decide +kernel) (by decide +kernel)
set_option maxRecDepth 20000 in
theorem inG2 : ∀ w ∈ u_ws RX2 TX2 8, w ∈ tblG := mem_places [78, 80, 82, 84, 86, 88, 90, 92] (by decide +kernel) (by decide +kernel)
set_option maxRecDepth 20000 in
theorem inG3 : ∀ w ∈ u_ws RX3 TX3 5, w ∈ tblG := mem_places [116, 118, 120, 122, 124] (by decide +kernel) (by decide +kernel)
set_option maxRecDepth 20000 in
theorem inG4 : ∀ w ∈ u_ws RX4 TX4 15, w ∈ tblG := mem_places [335, 337, 339, 341, 343, 345, 347, 349, 351, 353, 355, 357, 359, 361, 363] (by decide +kernel) (by decide +kernel)
set_option maxRecDepth 20000 in
theorem inG5 : ∀ w ∈ u_ws RX5 TX5 13, w ∈ tblG := mem_places [418, 420, 422, 424, 426, 428, 430, 432, 434, 436, 438, 440, 442] (by decide +kernel) (by decide +kernel)
set_option maxRecDepth 20000 in
theorem inG6 : ∀ w ∈ u_ws RX6 TX6 7, w ∈ tblG := mem_places [52, 54, 56, 58, 60, 62, 64] (by decide +kernel) (by decide +kernel)
set_option maxRecDepth 20000 in
theorem inG7 : ∀ w ∈ u_ws RX7 TX7 5, w ∈ tblG := mem_places [183, 185, 187, 189, 191] (by decide +kernel) (by decide +kernel)
set_option maxRecDepth 20000 in
theorem inG8 : ∀ w ∈ u_ws RX8 TX8 7, w ∈ tblG := mem_places [383, 385, 387, 389, 391, 393, 395] (by decide +kernel) (by decide +kernel)
set_option maxRecDepth 20000 in
theorem inG9 : ∀ w ∈ u_ws RX9 TX9 3, w ∈ tblG := mem_places [457, 459, 461] (by decide +kernel) (by decide +kernel)
set_option maxRecDepth 20000 in
theorem inG10 : ∀ w ∈ u_ws RX10 TX10 15, w ∈ tblG := mem_places [279, 281, 283, 285, 287, 289, 291, 293, 295, 297, 299, 301, 303, 305, 307] (by decide +kernel) (by decide +kernel)
set_option maxRecDepth 20000 in
theorem inG11 : ∀ w ∈ u_ws RX11 TX11 20, w ∈ tblG := mem_places [484, 486, 488, 490, 492, 494, 496, 498, 500, 502, 504, 506, 508, 510, 512, 514, 516, 518, 520, 522] (by decide +kernel) (by decide +kernel)
set_option maxRecDepth 20000 in
theorem inG12 : ∀ w ∈ u_ws RX12 TX12 105, w ∈ tblG := mem_places [1410, 1412, 1414, 1416, 1418, 1420, 1422, 1424, 1426, 1428, 1430, 1432, 1434, 1436, 1438, 1440, 1442, 1444, 1446, 1448, 1450, 1452, 1454, 1456, 1458, 1460, 1462, 1464, 1466, 1468, 1470, 1472, 1474, 1476, 1478, 1480, 1482, 1484, 1486, 1488, 1490, 1492, 1494, 1496, 1498, 1500, 1502, 1504, 1506, 1508, 1510, 1512, 1514, 1516, 1518, 1520, 1522, 1524, 1526, 1528, 1530, 1532, 1534, 1536, 1538, 1540, 1542, 1544, 1546, 1548, 1550, 1552, 1554, 1556, 1558, 1560, 1562, 1564, 1566, 1568, 1570, 1572, 1574, 1576, 1578, 1580, 1582, 1584, 1586, 1588, 1590, 1592, 1594, 1596, 1598, 1600, 1602, 1604, 1606, 1608, 1610, 1612, 1614, 1616, 1618] (by decide +kernel) (by decide +kernel)
theorem cls_in : ∀ c, c < 13 → ∀ w ∈ u_ws (cR c) (cT c) (cN c), w ∈ tblG
  | 0, _ => inG0
  | 1, _ => inG1
  | 2, _ => inG2
  | 3, _ => inG3
  | 4, _ => inG4
  | 5, _ => inG5
  | 6, _ => inG6
  | 7, _ => inG7
  | 8, _ => inG8
  | 9, _ => inG9
  | 10, _ => inG10
  | 11, _ => inG11
  | 12, _ => inG12
  | c + 13, h => absurd h (by omega)
theorem cls_at : ∀ c, c < 13 → vwCl[c]? = some (cR c, cT c, cN c)
  | 0, _ => rfl
  | 1, _ => rfl
  | 2, _ => rfl
  | 3, _ => rfl
  | 4, _ => rfl
  | 5, _ => rfl
  | 6, _ => rfl
  | 7, _ => rfl
  | 8, _ => rfl
  | 9, _ => rfl
  | 10, _ => rfl
  | 11, _ => rfl
  | 12, _ => rfl
  | c + 13, h => absurd h (by omega)
theorem cls_ty : ∀ c, c < 13 → ∀ k, k < cN c → parseFieldDescriptor (cT c k).2.2.1 = some (cY c k)
  | 0, _ => tyX0_ok
  | 1, _ => tyX1_ok
  | 2, _ => tyX2_ok
  | 3, _ => tyX3_ok
  | 4, _ => tyX4_ok
  | 5, _ => tyX5_ok
  | 6, _ => tyX6_ok
  | 7, _ => tyX7_ok
  | 8, _ => tyX8_ok
  | 9, _ => tyX9_ok
  | 10, _ => tyX10_ok
  | 11, _ => tyX11_ok
  | 12, _ => tyX12_ok
  | c + 13, h => absurd h (by omega)
theorem cls_nm : ∀ c, c < 13 → ∀ a, a < cN c → ∀ b, b < cN c → a ≠ b → (cT c a).2.1 ≠ (cT c b).2.1
  | 0, _ => nmX0
  | 1, _ => nmX1
  | 2, _ => nmX2
  | 3, _ => nmX3
  | 4, _ => nmX4
  | 5, _ => nmX5
  | 6, _ => nmX6
  | 7, _ => nmX7
  | 8, _ => nmX8
  | 9, _ => nmX9
  | 10, _ => nmX10
  | 11, _ => nmX11
  | 12, _ => nmX12
  | c + 13, h => absurd h (by omega)
set_option maxRecDepth 20000 in
theorem cls_code : ∀ c, c < 13 → (ftab c).length = cN c ∧ ∀ k, k < cN c → ((ftab c)[k]? = some 0 ∧ cY c k = .int) ∨ ((ftab c)[k]? = some 1 ∧ cY c k = .long) ∨ ((ftab c)[k]? = some 3 ∧ cY c k = .boolean) ∨ ((ftab c)[k]? = some 2 ∧ (match cY c k with | .object _ => true | .array _ => true | _ => false) = true) := by decide +kernel
/-- a field's facts: class c, place k, kind t, by the pool's row idx of the class own -/
def FL (own : String) (idx c k t : Nat) : Prop := c < 13 ∧ k < cN c ∧ (ftab c)[k]? = some t ∧ Cond.fieldLink own idx (cT c k).1 (cT c k).2.1 (cT c k).2.2.1 ∈ tblG
theorem fs_at {ad : Nat → Nat} {ρ : RT} {f : IT} {g : JT} {a c k t : Nat} (h : (ftab c)[k]? = some t) : ((ftab c).mapIdx (fun k t => fv ad t ρ f g a k))[k]? = some (fv ad t ρ f g a k) := by
  rw [List.getElem?_mapIdx, h]
  rfl
theorem fs_set {ad : Nat → Nat} {ρ ρ' : RT} {f f' : IT} {g g' : JT} {a c k t : Nat} (h : (ftab c)[k]? = some t) (ho : ∀ j, j ≠ k → ρ' a j = ρ a j ∧ f' a j = f a j ∧ g' a j = g a j) :
    ((ftab c).mapIdx (fun k t => fv ad t ρ f g a k)).set k (fv ad t ρ' f' g' a k) = (ftab c).mapIdx (fun k t => fv ad t ρ' f' g' a k) := by
  apply List.ext_getElem?
  intro j
  by_cases hj : j = k
  · subst hj
    have hl : j < ((ftab c).mapIdx (fun k t => fv ad t ρ f g a k)).length := by rw [List.length_mapIdx]; exact (List.getElem?_eq_some_iff.mp h).1
    rw [List.getElem?_set_self hl, fs_at h]
  · rw [List.getElem?_set_ne (Ne.symm hj), List.getElem?_mapIdx, List.getElem?_mapIdx]
    obtain ⟨h1, h2, h3⟩ := ho j hj
    have e : ∀ t, fv ad t ρ f g a j = fv ad t ρ' f' g' a j := fun t => by simp [fv, h1, h2, h3]
    congr 1
    funext t
    exact e t
theorem wd_set {ad : Nat → Nat} {z : Nat} {D : va_G} {cy : Nat → ClassId} {sl : Nat} {xs : Nat → Int32} {n a : Nat} {ρ ρ' : RT} {f f' : IT} {g g' : JT} {H H1 : Heap} {e : va_E} (hW : Wd ad z D cy sl xs n ρ f g H) (ha : a < n) (he : ce ad cy ρ' f' g' a = e)
    (ho : ∀ b, b ≠ a → ρ' b = ρ b ∧ f' b = f b ∧ g' b = g b) (hP : va_P D vwCl ((wl ad cy n ρ f g).set a (ad a, e)) H1) : Wd ad z D cy sl xs n ρ' f' g' H1 := by
  obtain ⟨-, h2, h5, h6⟩ := hW
  have hb : (1005 : Nat) ≠ a := by
    have : n ≤ 149 := h2
    omega
  refine ⟨?_, h2, fun k => by rw [(ho _ hb).2.1]; exact h5 k, by rw [(ho _ hb).2.2]; exact h6⟩
  rw [← wl_set ha he (fun b hb => ce_eq (ho b hb).1 (ho b hb).2.1 (ho b hb).2.2)]
  exact hP
section HEAP
variable {y : MethodName} {cc : ByteArray} {nL : Nat} {rt : Option FieldType} {d mc ms : Nat} {fl : Bool} {Q : QT} {n' n kc ks pc : Nat} {L st : List Value} {ρ : RT} {f : IT} {g : JT}
theorem V_get {a c len k idx t : Nat} {v : Value} (hk : kd a = (c, len)) (hn : a < n) (hF : FL y.cls idx c k t) (hv : ∀ ad : Nat → Nat, fv ad t ρ f g a k = cv ad v) (hd : decode cc pc = .ok (.getfield idx, 3)) (h : V y cc nL rt d mc ms fl Q n' n kc ks (pc + 3) L (v :: st) ρ f g) : V y cc nL rt d mc ms fl Q n' n kc ks pc L (.ref a :: st) ρ f g := by
  intro ad z D cy sl xs p l e R s m args below meth c0 Z H locs ls C hW hS hL
  have h1 := h ad z D cy sl xs p l e R s m args below meth c0 Z H locs ls C hW hS hL
  obtain ⟨hc, hkN, hft, hlink⟩ := hF
  obtain ⟨hx, hb, hml, hown, hts, hK, -⟩ := C
  have he : (wl ad cy n ρ f g)[a]? = some (ad a, .inr (c, (ftab c).mapIdx (fun k t => fv ad t ρ f g a k))) := by rw [wl_get hn, ce_obj hk hc]
  exact va_get (D := D) (cl := vwCl) (C := cR c) (T := cT c) (N := cN c) hx hb hts (cls_in c hc) hown hK hW.1.1 a he (cls_at c hc) k hkN (hts _ hlink) (fun _ h9 => h9) (by rw [fs_at hft, hv ad]) hd h1
theorem V_getI {a c len k idx : Nat} {x : Int} (hk : kd a = (c, len)) (hn : a < n) (hF : FL y.cls idx c k 0) (hv : f a k = x) (hd : decode cc pc = .ok (.getfield idx, 3)) (h : V y cc nL rt d mc ms fl Q n' n kc ks (pc + 3) L (.int (iz x) :: st) ρ f g) : V y cc nL rt d mc ms fl Q n' n kc ks pc L (.ref a :: st) ρ f g :=
  V_get hk hn hF (fun ad => by subst hv; rfl) hd h
theorem V_getZ {a c len k idx : Nat} {x : Int} (hk : kd a = (c, len)) (hn : a < n) (hF : FL y.cls idx c k 3) (hv : f a k = x) (hd : decode cc pc = .ok (.getfield idx, 3)) (h : V y cc nL rt d mc ms fl Q n' n kc ks (pc + 3) L (.int (iz x) :: st) ρ f g) : V y cc nL rt d mc ms fl Q n' n kc ks pc L (.ref a :: st) ρ f g :=
  V_get hk hn hF (fun ad => by subst hv; rfl) hd h
theorem V_getJ {a c len k idx : Nat} {x : Int} (hk : kd a = (c, len)) (hn : a < n) (hF : FL y.cls idx c k 1) (hv : g a k = x) (hd : decode cc pc = .ok (.getfield idx, 3)) (h : V y cc nL rt d mc ms fl Q n' n kc ks (pc + 3) L (.long (lz x) :: st) ρ f g) : V y cc nL rt d mc ms fl Q n' n kc ks pc L (.ref a :: st) ρ f g :=
  V_get hk hn hF (fun ad => by subst hv; rfl) hd h
theorem V_getR {a c len k idx b : Nat} (hk : kd a = (c, len)) (hn : a < n) (hF : FL y.cls idx c k 2) (hv : ρ a k = some b) (hd : decode cc pc = .ok (.getfield idx, 3)) (h : V y cc nL rt d mc ms fl Q n' n kc ks (pc + 3) L (.ref b :: st) ρ f g) : V y cc nL rt d mc ms fl Q n' n kc ks pc L (.ref a :: st) ρ f g :=
  V_get hk hn hF (fun ad => by simp [fv, hv, cv, va_rf]) hd h
theorem fit_of {c k t : Nat} {v : Value} (hc : c < 13) (hk : k < cN c) (hft : (ftab c)[k]? = some t) (hv : (t = 0 ∧ ∃ x, v = .int x) ∨ (t = 1 ∧ ∃ x, v = .long x) ∨ (t = 3 ∧ (v = .int 0 ∨ v = .int 1)) ∨ (t = 2 ∧ ∃ a, v = .ref a)) : narrow (cY c k) v = v ∧ fits (cY c k) v = true := by
  have h := ((cls_code c hc).2 k hk)
  rw [hft] at h
  rcases h with ⟨e, h⟩ | ⟨e, h⟩ | ⟨e, h⟩ | ⟨e, h⟩ <;> cases e <;> rcases hv with ⟨e1, x, rfl⟩ | ⟨e1, x, rfl⟩ | ⟨e1, rfl | rfl⟩ | ⟨e1, x, rfl⟩ <;> cases e1
  · rw [h]; exact ⟨rfl, rfl⟩
  · rw [h]; exact ⟨rfl, rfl⟩
  · rw [h]; decide
  · rw [h]; decide
  · generalize cY c k = ty at h ⊢
    cases ty <;> first | exact ⟨rfl, rfl⟩ | (simp at h)
theorem V_put {a c len k idx t : Nat} {v : Value} {ρ1 : RT} {f1 : IT} {g1 : JT} (hk : kd a = (c, len)) (hn : a < n) (hF : FL y.cls idx c k t) (hfin : (cT c k).2.2.2 = false ∨ (fl = false ∧ (cT c k).2.2.2 = true ∧ y.name = "<init>" ∧ (cT c k).1 = y.cls))
    (hv : ∀ ad : Nat → Nat, fv ad t ρ1 f1 g1 a k = cv ad v) (hty : (t = 0 ∧ ∃ x, v = .int x) ∨ (t = 1 ∧ ∃ x, v = .long x) ∨ (t = 3 ∧ (v = .int 0 ∨ v = .int 1)) ∨ (t = 2 ∧ ∃ a, v = .ref a)) (hs : ∀ b j, ¬ (b = a ∧ j = k) → ρ1 b j = ρ b j ∧ f1 b j = f b j ∧ g1 b j = g b j)
    (hd : decode cc pc = .ok (.putfield idx, 3)) (h : V y cc nL rt d mc ms fl Q n' n kc ks (pc + 3) L st ρ1 f1 g1) : V y cc nL rt d mc ms fl Q n' n kc ks pc L (v :: .ref a :: st) ρ f g := by
  intro ad z D cy sl xs p l e R s m args below meth c0 Z H locs ls C hW hS hL
  have h1 := h ad z D cy sl xs p l e R s m args below meth c0 Z
  have C0 := C
  obtain ⟨hc, hkN, hft, hlink⟩ := hF
  obtain ⟨hx, hb, hml, hown, hts, hK, hG, hz, -, -, -, hnm, -⟩ := C
  have he : (wl ad cy n ρ f g)[a]? = some (ad a, .inr (c, (ftab c).mapIdx (fun k t => fv ad t ρ f g a k))) := by rw [wl_get hn, ce_obj hk hc]
  have hty' : narrow (cY c k) (cv ad v) = cv ad v ∧ fits (cY c k) (cv ad v) = true := by
    refine fit_of hc hkN hft ?_
    rcases hty with ⟨e1, x, rfl⟩ | ⟨e1, x, rfl⟩ | ⟨e1, rfl | rfl⟩ | ⟨e1, x, rfl⟩
    · exact Or.inl ⟨e1, x, rfl⟩
    · exact Or.inr (Or.inl ⟨e1, x, rfl⟩)
    · exact Or.inr (Or.inr (Or.inl ⟨e1, Or.inl rfl⟩))
    · exact Or.inr (Or.inr (Or.inl ⟨e1, Or.inr rfl⟩))
    · exact Or.inr (Or.inr (Or.inr ⟨e1, ad x, rfl⟩))
  have hlen : k < ((ftab c).mapIdx (fun k t => fv ad t ρ f g a k)).length := by rw [List.length_mapIdx]; exact (List.getElem?_eq_some_iff.mp hft).1
  have fin : ∀ (H1 : Heap) (locs1 : List Loc), va_P D vwCl ((wl ad cy n ρ f g).set a (ad a, .inr (c, ((ftab c).mapIdx (fun k t => fv ad t ρ f g a k)).set k (cv ad v)))) H1 → va_D (fun q => z ≤ q) ((wl ad cy n ρ f g).set a (ad a, .inr (c, ((ftab c).mapIdx (fun k t => fv ad t ρ f g a k)).set k (cv ad v)))) → va_S (fun q => z ≤ q) s.heap H1 locs1 → W p l e R s m args below meth c0 H1 locs1 kc ks Z (F0 m (pc + 3) ls (st.map (cv ad))) := by
    intro H1 locs1 hP1 hD1 hS1
    refine h1 H1 locs1 ls C0 ⟨wd_set hW.1 hn ?_ (fun b hb => ⟨funext fun j => (hs b j (fun q => hb q.1)).1, funext fun j => (hs b j (fun q => hb q.1)).2.1, funext fun j => (hs b j (fun q => hb q.1)).2.2⟩) hP1, hW.2⟩ hS1 hL
    rw [ce_obj hk hc, ← hv ad, fs_set hft (fun j hj => hs a j (fun q => hj q.2))]
  have hD := wl_D (cy := cy) (ρ := ρ) (f := f) (g := g) hz hW.1.2.1
  rcases hfin with hfin | ⟨hfl, hfin, hinit, hdecl⟩
  · exact va_put (D := D) (cl := vwCl) (C := cR c) (T := cT c) (N := cN c) (ty := cY c k) hx hb hts (cls_in c hc) (cY c) (cls_ty c hc) (cls_nm c hc) hown hK hW.1.1 hD hS a he (cls_at c hc) k hkN (hts _ hlink) (fun _ h9 => h9) hfin (cls_ty c hc k hkN) hty'.1 hty'.2 hlen hd fin
  · exact va_putF (D := D) (cl := vwCl) (C := cR c) (T := cT c) (N := cN c) (ty := cY c k) hx hb hts (cls_in c hc) (cY c) (cls_ty c hc) (cls_nm c hc) hown hK hW.1.1 hD hS a he (cls_at c hc) k hkN (hts _ hlink) (fun _ h9 => h9) hfin ((hnm hfl).1.trans hinit) hdecl (cls_ty c hc k hkN) hty'.1 hty'.2 hlen hd fin
theorem u2_o {α : Type} {f : Nat → Nat → α} {a k b j : Nat} {x : α} (h : ¬ (b = a ∧ j = k)) : u2 f a k x b j = f b j := by simp [u2, h]
theorem V_putI {a c len k idx : Nat} {x : Int} (hk : kd a = (c, len)) (hn : a < n) (hF : FL y.cls idx c k 0) (hfin : (cT c k).2.2.2 = false) (hd : decode cc pc = .ok (.putfield idx, 3)) (h : V y cc nL rt d mc ms fl Q n' n kc ks (pc + 3) L st ρ (u2 f a k x) g) : V y cc nL rt d mc ms fl Q n' n kc ks pc L (.int (iz x) :: .ref a :: st) ρ f g :=
  V_put hk hn hF (Or.inl hfin) (fun ad => by simp [fv, u2, cv]) (Or.inl ⟨rfl, _, rfl⟩) (fun b j hb => ⟨rfl, u2_o hb, rfl⟩) hd h
theorem V_putZ {a c len k idx : Nat} {x : Int} (hk : kd a = (c, len)) (hn : a < n) (hF : FL y.cls idx c k 3) (hfin : (cT c k).2.2.2 = false) (hx : x = 0 ∨ x = 1) (hd : decode cc pc = .ok (.putfield idx, 3)) (h : V y cc nL rt d mc ms fl Q n' n kc ks (pc + 3) L st ρ (u2 f a k x) g) : V y cc nL rt d mc ms fl Q n' n kc ks pc L (.int (iz x) :: .ref a :: st) ρ f g :=
  V_put hk hn hF (Or.inl hfin) (fun ad => by simp [fv, u2, cv]) (Or.inr (Or.inr (Or.inl ⟨rfl, by rcases hx with rfl | rfl; exact Or.inl rfl; exact Or.inr rfl⟩))) (fun b j hb => ⟨rfl, u2_o hb, rfl⟩) hd h
theorem V_putJ {a c len k idx : Nat} {x : Int} (hk : kd a = (c, len)) (hn : a < n) (hF : FL y.cls idx c k 1) (hfin : (cT c k).2.2.2 = false) (hd : decode cc pc = .ok (.putfield idx, 3)) (h : V y cc nL rt d mc ms fl Q n' n kc ks (pc + 3) L st ρ f (u2 g a k x)) : V y cc nL rt d mc ms fl Q n' n kc ks pc L (.long (lz x) :: .ref a :: st) ρ f g :=
  V_put hk hn hF (Or.inl hfin) (fun ad => by simp [fv, u2, cv]) (Or.inr (Or.inl ⟨rfl, _, rfl⟩)) (fun b j hb => ⟨rfl, rfl, u2_o hb⟩) hd h
theorem V_putR {a c len k idx b : Nat} (hk : kd a = (c, len)) (hn : a < n) (hF : FL y.cls idx c k 2) (hfin : (cT c k).2.2.2 = false) (hd : decode cc pc = .ok (.putfield idx, 3)) (h : V y cc nL rt d mc ms fl Q n' n kc ks (pc + 3) L st (u2 ρ a k (some b)) f g) : V y cc nL rt d mc ms fl Q n' n kc ks pc L (.ref b :: .ref a :: st) ρ f g :=
  V_put hk hn hF (Or.inl hfin) (fun ad => by simp [fv, u2, cv, va_rf]) (Or.inr (Or.inr (Or.inr ⟨rfl, _, rfl⟩))) (fun b j hb => ⟨u2_o hb, rfl, rfl⟩) hd h
/-- final fields, in a constructor -/
theorem V_putFR {a c len k idx b : Nat} (hk : kd a = (c, len)) (hn : a < n) (hF : FL y.cls idx c k 2) (hfl : fl = false) (hfin : (cT c k).2.2.2 = true ∧ y.name = "<init>" ∧ (cT c k).1 = y.cls) (hd : decode cc pc = .ok (.putfield idx, 3)) (h : V y cc nL rt d mc ms fl Q n' n kc ks (pc + 3) L st (u2 ρ a k (some b)) f g) : V y cc nL rt d mc ms fl Q n' n kc ks pc L (.ref b :: .ref a :: st) ρ f g :=
  V_put hk hn hF (Or.inr ⟨hfl, hfin⟩) (fun ad => by simp [fv, u2, cv, va_rf]) (Or.inr (Or.inr (Or.inr ⟨rfl, _, rfl⟩))) (fun b j hb => ⟨u2_o hb, rfl, rfl⟩) hd h
theorem V_putFI {a c len k idx : Nat} {x : Int} (hk : kd a = (c, len)) (hn : a < n) (hF : FL y.cls idx c k 0) (hfl : fl = false) (hfin : (cT c k).2.2.2 = true ∧ y.name = "<init>" ∧ (cT c k).1 = y.cls) (hd : decode cc pc = .ok (.putfield idx, 3)) (h : V y cc nL rt d mc ms fl Q n' n kc ks (pc + 3) L st ρ (u2 f a k x) g) : V y cc nL rt d mc ms fl Q n' n kc ks pc L (.int (iz x) :: .ref a :: st) ρ f g :=
  V_put hk hn hF (Or.inr ⟨hfl, hfin⟩) (fun ad => by simp [fv, u2, cv]) (Or.inl ⟨rfl, _, rfl⟩) (fun b j hb => ⟨rfl, u2_o hb, rfl⟩) hd h
end HEAP

