/-! look: it answers, or throws -/
section LOOK
variable {T : TT} {b : Nat} {ρ : RT} {f : IT} {g : JT}
theorem V_exit {y : MethodName} {cc : ByteArray} {nL : Nat} {rt : Option FieldType} {d mc ms : Nat} {Q : QT} {n' pc : Nat} {L : List Value} (hy : y.name ≠ "law") (hQ : Q (some (.ref (1000000 + pc))) ρ f g) : V y cc nL rt d mc ms true Q n' NF 0 0 pc L [] ρ f g := by
  intro ad z D cy sl xs p l e R s m args below meth c Z H locs ls C hW hS hL
  obtain ⟨-, -, -, -, -, -, -, -, -, -, -, -, hT⟩ := C
  exact (hT rfl).2 hy e H locs ls pc L ρ f g hQ hW.1 hS hL
theorem V_widen {y : MethodName} {cc : ByteArray} {nL : Nat} {rt : Option FieldType} {d mc ms : Nat} {fl : Bool} {Q : QT} {n' kc ks kc' ks' pc : Nat} {L st : List Value} (h1 : kc ≤ kc') (h2 : ks ≤ ks') (h : V y cc nL rt d mc ms fl Q n' NF kc' ks' pc L st ρ f g) : V y cc nL rt d mc ms fl Q n' NF kc ks pc L st ρ f g := by
  intro ad z D cy sl xs p l e R s m args below meth c Z H locs ls C hW hS hL
  exact W.widen (k := kc') (n := ks') h1 h2 (h ad z D cy sl xs p l e R s m args below meth c Z H locs ls C ⟨hW.1, fun q => absurd q (Nat.lt_irrefl _)⟩ hS hL)
theorem tLook_0 {k w : Int} (h : tLook T k w = 0) : okL T k = true ∧ 0 ≤ w ∧ w ≤ 3 := by
  unfold tLook at h
  split at h
  · rename_i e
    split at h
    · rename_i e2; exact ⟨e, e2⟩
    · omega
  · omega
theorem tLook_1 {k w : Int} (h : tLook T k w = 1) : okL T k = false := by
  unfold tLook at h
  split at h
  · split at h <;> omega
  · rename_i e; simpa using e
theorem tLook_2 {k w : Int} (h : tLook T k w = 2) : okL T k = true ∧ ¬ (0 ≤ w ∧ w ≤ 3) := by
  unfold tLook at h
  split at h
  · rename_i e
    split at h
    · omega
    · rename_i e2; exact ⟨e, e2⟩
  · omega
theorem tLook_r {k w : Int} : tLook T k w = 0 ∨ tLook T k w = 1 ∨ tLook T k w = 2 := by
  unfold tLook
  split
  · split
    · exact Or.inl rfl
    · exact Or.inr (Or.inr rfl)
  · exact Or.inr (Or.inl rfl)
theorem w_look0 (hW : TW T b ρ) (hC : CT T b f) {ra : Bool} (hr : f 0 6 = bz ra) {k w : Int} (rk : ri k) (rw_ : ri w) (h0 : tLook T k w = 0) : V yX11_look cX11_look 3 (some .int) 10 1 6 false (fun r ρ' f' g' => r = some (.int (iz (aLook T ra k w))) ∧ tLook T k w = 0 ∧ ρ' = ρ ∧ f' = f ∧ g' = g) NF NF 0 0 0 [.ref 0, .int (iz k), .int (iz w)] [] ρ f g := by
  obtain ⟨o1, o2, o3⟩ := tLook_0 h0
  have hρ := hW.1
  have hb := hW.2.1
  have hk := hW.2.2.2.2.1
  obtain ⟨n, rfl, hn⟩ := okL_at o1
  have hla := hk.lane hn
  have e3 : w = 3 → ra = true → aLook T ra (n : Int) w = 1 := fun e1 e2 => by
    unfold aLook
    rw [if_pos o1, e1, if_neg (by omega), if_neg (by omega), if_neg (by omega), if_pos rfl, e2]
    unfold dmp bz
    simp
  have e4 : ¬ (w = 3 ∧ ra = true) → tat T 0 (n : Int) w = aLook T ra (n : Int) w := fun hne => by
    have h1 := hk.la.1
    unfold tat aLook
    rw [if_pos o1, if_pos ⟨⟨by omega, by rw [show T 104 (12 + 0) = T 104 12 from rfl]; omega⟩, by omega, by show w < 4; omega⟩, Int.toNat_natCast]
    rcases (show w = 0 ∨ w = 1 ∨ w = 2 ∨ w = 3 by omega) with e | e | e | e
    · rw [e]; rfl
    · rw [e]; rfl
    · rw [e]; rfl
    · rw [e, if_neg (by omega), if_neg (by omega), if_neg (by omega), if_pos rfl]
      have hrf : ra = false := by
        cases ra with
        | false => rfl
        | true => exact absurd ⟨e, rfl⟩ hne
      rw [hrf]
      show T 111 n = _
      unfold dmp bz
      rcases hla.2.2.2 with q | q <;> rw [q] <;> rfl
  have fin : ∀ x : Int, x = aLook T ra (n : Int) w → V yX11_look cX11_look 3 (some .int) 10 1 6 false (fun r ρ' f' g' => r = some (.int (iz (aLook T ra (n : Int) w))) ∧ tLook T (n : Int) w = 0 ∧ ρ' = ρ ∧ f' = f ∧ g' = g) NF NF 0 0 65 [.ref 0, .int (iz (n : Int)), .int (iz w)] [.int (iz x)] ρ f g := fun x hx => V_widen (kc' := 1) (ks' := 6) (by omega) (by omega) (V_ireturn rfl ⟨by rw [hx], h0, rfl, rfl, rfl⟩ dX11_look_65)
  refine V_al0n dX11_look_0 ?_
  refine V_getR kk0 (by decide) fl_X11_29 hW.2.2.1 dX11_look_1 ?_
  refine V_iconst dX11_look_4 ?_
  refine V_il1n dX11_look_5 ?_
  refine V_callV (as := [_, _]) ml_X11_160 im_X7_has se_X7_has (kb_0 hb) (by decide) (kl_0 hb) dX11_look_6 rfl rfl (by decide) (by decide) (Nat.le_of_ble_eq_true rfl) (by decide) (by decide) rfl (c_hasL hW hC rk) ?_
  refine pq4 ?_
  refine V_bf (tgt := 22) dX11_look_9 rfl (fun b9 => ?_) (fun b9 => ?_)
  · refine V_il2n dX11_look_22 ?_
    refine V_if_lt (tgt := 31) dX11_look_23 rfl (by exact rw_) (fun b23 => ?_) (fun b23 => ?_)
    · exfalso; omega
    · refine V_il2n dX11_look_26 ?_
      refine V_iconst dX11_look_27 ?_
      refine V_icmp_le (tgt := 41) dX11_look_28 rfl (by exact rw_) (by unfold ri; omega) (fun b28 => ?_) (fun b28 => ?_)
      · refine V_il2n dX11_look_41 ?_
        refine V_iconst dX11_look_42 ?_
        refine V_icmp_ne (tgt := 55) dX11_look_43 rfl (by exact rw_) (by unfold ri; omega) (fun b43 => ?_) (fun b43 => ?_)
        · refine V_al0n dX11_look_55 ?_
          refine V_getR kk0 (by decide) fl_X11_29 hW.2.2.1 dX11_look_56 ?_
          refine V_iconst dX11_look_59 ?_
          refine V_il1n dX11_look_60 ?_
          refine V_il2n dX11_look_61 ?_
          refine V_callV (as := [_, _, _]) ml_X11_176 im_X7_at se_X7_at (kb_0 hb) (by decide) (kl_0 hb) dX11_look_62 rfl rfl (by decide) (by decide) (Nat.le_of_ble_eq_true rfl) (by decide) (by decide) rfl (c_at hρ hb hC hk (i := 0) (by omega) rk rw_) ?_
          refine pq4 ?_
          refine fin _ (e4 ?_)
          first | (exact fun q => by have q1 := q.1; omega) | (exact fun q => by rw [q.2] at b50; cases b50)
        · refine V_al0n dX11_look_46 ?_
          refine V_getZ kk0 (by decide) fl_X11_39 hr dX11_look_47 ?_
          refine V_bt (tgt := 55) dX11_look_50 rfl (fun b50 => ?_) (fun b50 => ?_)
          · refine V_al0n dX11_look_55 ?_
            refine V_getR kk0 (by decide) fl_X11_29 hW.2.2.1 dX11_look_56 ?_
            refine V_iconst dX11_look_59 ?_
            refine V_il1n dX11_look_60 ?_
            refine V_il2n dX11_look_61 ?_
            refine V_callV (as := [_, _, _]) ml_X11_176 im_X7_at se_X7_at (kb_0 hb) (by decide) (kl_0 hb) dX11_look_62 rfl rfl (by decide) (by decide) (Nat.le_of_ble_eq_true rfl) (by decide) (by decide) rfl (c_at hρ hb hC hk (i := 0) (by omega) rk rw_) ?_
            refine pq4 ?_
            refine fin _ (e4 ?_)
            first | (exact fun q => by have q1 := q.1; omega) | (exact fun q => by rw [q.2] at b50; cases b50)
          · refine V_iconst dX11_look_53 ?_
            exact V_widen (kc' := 1) (ks' := 6) (by omega) (by omega) (V_ireturn rfl ⟨by rw [e3 (by omega) b50], h0, rfl, rfl, rfl⟩ dX11_look_54)
      · exfalso; omega
  · rw [o1] at b9; cases b9
theorem w_look1 (hW : TW T b ρ) (hC : CT T b f) {k w : Int} (rk : ri k) (h1 : tLook T k w = 1) : V yX11_look cX11_look 3 (some .int) 10 1 6 true (fun r ρ' f' g' => r = some (.ref 1000012) ∧ ρ' = ρ ∧ f' = f ∧ g' = g) NF NF 0 0 0 [.ref 0, .int (iz k), .int (iz w)] [] ρ f g := by
  have o1 := tLook_1 h1
  have hρ := hW.1
  have hb := hW.2.1
  refine V_al0n dX11_look_0 ?_
  refine V_getR kk0 (by decide) fl_X11_29 hW.2.2.1 dX11_look_1 ?_
  refine V_iconst dX11_look_4 ?_
  refine V_il1n dX11_look_5 ?_
  refine V_callV (as := [_, _]) ml_X11_160 im_X7_has se_X7_has (kb_0 hb) (by decide) (kl_0 hb) dX11_look_6 rfl rfl (by decide) (by decide) (Nat.le_of_ble_eq_true rfl) (by decide) (by decide) rfl (c_hasL hW hC rk) ?_
  refine pq4 ?_
  refine V_bf (tgt := 22) dX11_look_9 rfl (fun b9 => ?_) (fun b9 => ?_)
  · rw [o1] at b9; cases b9
  · exact V_exit (by decide) ⟨rfl, rfl, rfl, rfl⟩
theorem w_look2 (hW : TW T b ρ) (hC : CT T b f) {k w : Int} (rk : ri k) (rw_ : ri w) (h2 : tLook T k w = 2) : V yX11_look cX11_look 3 (some .int) 10 1 6 true (fun r ρ' f' g' => r = some (.ref 1000031) ∧ ρ' = ρ ∧ f' = f ∧ g' = g) NF NF 0 0 0 [.ref 0, .int (iz k), .int (iz w)] [] ρ f g := by
  obtain ⟨o1, o2⟩ := tLook_2 h2
  have hρ := hW.1
  have hb := hW.2.1
  refine V_al0n dX11_look_0 ?_
  refine V_getR kk0 (by decide) fl_X11_29 hW.2.2.1 dX11_look_1 ?_
  refine V_iconst dX11_look_4 ?_
  refine V_il1n dX11_look_5 ?_
  refine V_callV (as := [_, _]) ml_X11_160 im_X7_has se_X7_has (kb_0 hb) (by decide) (kl_0 hb) dX11_look_6 rfl rfl (by decide) (by decide) (Nat.le_of_ble_eq_true rfl) (by decide) (by decide) rfl (c_hasL hW hC rk) ?_
  refine pq4 ?_
  refine V_bf (tgt := 22) dX11_look_9 rfl (fun b9 => ?_) (fun b9 => ?_)
  · refine V_il2n dX11_look_22 ?_
    refine V_if_lt (tgt := 31) dX11_look_23 rfl (by exact rw_) (fun b23 => ?_) (fun b23 => ?_)
    · exact V_exit (by decide) ⟨rfl, rfl, rfl, rfl⟩
    · refine V_il2n dX11_look_26 ?_
      refine V_iconst dX11_look_27 ?_
      refine V_icmp_le (tgt := 41) dX11_look_28 rfl (by exact rw_) (by unfold ri; omega) (fun b28 => ?_) (fun b28 => ?_)
      · exfalso; omega
      · exact V_exit (by decide) ⟨rfl, rfl, rfl, rfl⟩
  · rw [o1] at b9; cases b9
end LOOK
section LOOKX
def eIob : String := "java/lang/IndexOutOfBoundsException"
def eNse : String := "java/util/NoSuchElementException"
def eRun : String := "java/lang/RuntimeException"
def eExc : String := "java/lang/Exception"
def thirteen : ByteArray := ⟨#[0x2a, 0x2b, 0xb7, 0x00, 0x0d, 0xb1]⟩
theorem th_0 : decode thirteen 0 = .ok (.aload_n 0, 1) := by decide +kernel
theorem th_1 : decode thirteen 1 = .ok (.aload_n 1, 1) := by decide +kernel
theorem th_2 : decode thirteen 2 = .ok (.invokespecial 13, 3) := by decide +kernel
theorem th_5 : decode thirteen 5 = .ok (.return_, 1) := by decide +kernel
def lkI : List Cond := (cxAt RX11 168 eIob eRun 7 Bundle.six [eExc]).filter vx_no
def lkN : List Cond := (cxAt RX11 175 eNse eRun 13 thirteen [eExc]).filter vx_no
theorem lkI_good : lkI.filter goodWord = ([15, 1224, 1233, 1236, 1239, 1241, 1225, 1226, 27, 28, 1227, 1232, 1237, 1257, 1214, 1258, 1216, 1259, 1218, 1228, 1230, 1220, 1253, 1254, 1256, 1220, 1244, 1245, 1246, 1247, 1247, 1248, 1249, 1250, 1250, 1251, 1252, 1253, 1243, 1203, 1211, 1212, 1213, 1215, 1217, 1219, 1223, 1222, 1221] : List Nat).filterMap (fun i => tables_1[i]?) := by decide +kernel
theorem lkN_good : lkN.filter goodWord = ([15, 1224, 1233, 1236, 1239, 1241, 1225, 1226, 27, 28, 1227, 1232, 1237, 1257, 1214, 1258, 1216, 1259, 1218, 1228, 1230, 1220, 1253, 1254, 1256, 1220, 1280, 1281, 1282, 1247, 1247, 1248, 1249, 1250, 1250, 1251, 1252, 1253, 1279, 1270, 1272, 1235, 1273, 1274, 1275, 1276, 1223, 1222, 1277] : List Nat).filterMap (fun i => tables_1[i]?) := by decide +kernel
def lkB (X : String) : List Cond := [.declares (Bundle.initS eRun), .declares (Bundle.initS eExc), .declares (Bundle.initS Bundle.tN), .castable X X]
theorem lkI_bad : ∀ w ∈ lkI.filter (fun w => !goodWord w), w ∈ lkB eIob := by decide +kernel
theorem lkN_bad : ∀ w ∈ lkN.filter (fun w => !goodWord w), w ∈ lkB eNse := by decide +kernel
theorem lkI_ot : ∀ w ∈ Cond.classLink RX11 164 eIob :: Cond.initialized eIob :: lkI, vx_ot w = true := by decide +kernel
theorem lkN_ot : ∀ w ∈ Cond.classLink RX11 171 eNse :: Cond.initialized eNse :: lkN, vx_ot w = true := by decide +kernel
theorem lk_in {ps : List Nat} {L : List Cond} (h : L.filter goodWord = ps.filterMap (fun i => tables_1[i]?)) : ∀ w ∈ L.filter goodWord, w ∈ tblG := fun w hw => by
  have hg := (List.mem_filter.mp hw).2
  rw [h] at hw
  obtain ⟨i, -, hi⟩ := List.mem_filterMap.mp hw
  exact tblG_in (List.mem_append_right _ (List.mem_of_getElem? hi)) hg
/-- what throwing wants of the state -/
def SX (z : Nat) (U : State) (H : Heap) : Prop :=
  (vx_Zq Bundle.tN "UNASSIGNED_STACK" Bundle.steD (fun q => z ≤ q) U H ∧ vx_Zq Bundle.tN "SUPPRESSED_SENTINEL" Bundle.listD (fun q => z ≤ q) U H) ∧
  ((∃ a, vk_R RX11 166 "no such stretch" a U) ∧ ∃ a, vk_R RX11 173 "no such what" a U) ∧
  (va_Nw (.declares (Bundle.initS eRun)) U ∧ va_Nw (.declares (Bundle.initS eExc)) U ∧ va_Nw (.declares (Bundle.initS Bundle.tN)) U) ∧
  (va_Nw (.castable eIob eIob) U ∧ va_Nw (.castable eNse eNse) U) ∧ va_Nc eNse eIob U
theorem SX.warm {z : Nat} {u U : State} {H : Heap} (hW : u.WarmedH U.vm) (h : SX z u H) : SX z U H := by
  obtain ⟨⟨h1, h2⟩, ⟨⟨a1, h3⟩, a2, h4⟩, ⟨h5, h6, h7⟩, ⟨h8, h9⟩, h10⟩ := h
  exact ⟨⟨h1.moved hW.alike, h2.moved hW.alike⟩, ⟨⟨a1, h3.warm hW⟩, a2, h4.warm hW⟩, ⟨h5.warmD hW, h6.warmD hW, h7.warmD hW⟩, ⟨h8.warmC hW, h9.warmC hW⟩, h10.moved hW.alike⟩
theorem SX.kept {z : Nat} {U : State} {H H1 : Heap} (h : SX z U H) (hq : ∀ a : Nat, a < H.size → ¬ z ≤ a → H1[a]? = H[a]?) : SX z U H1 := by
  obtain ⟨⟨h1, h2⟩, h3⟩ := h
  exact ⟨⟨h1.kept hq, h2.kept hq⟩, h3⟩
end LOOKX

