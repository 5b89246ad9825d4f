/-! the law: its end, its loop's cases -/
section LAW
variable {ρ : RT} {f : IT} {g : JT} {kc ks pc : Nat} {L st : List Value}
abbrev V_LW (kc ks pc : Nat) (L st : List Value) (ρ : RT) (f : IT) (g : JT) : Prop := V yL_law cL_law 7 (some .boolean) 40 601024 7293034 true (fun _ _ _ _ => True) NF NF kc ks pc L st ρ f g
theorem V_lwret (hd : decode cL_law pc = .ok (.ireturn, 1)) (hk : kc ≤ 601024) (hs : ks ≤ 7293034) : V_LW kc ks pc L [.int (iz 1)] ρ f g := by
  intro ad z D cy sl xs p l e R s m args below meth c Z H locs ls C hW hS hL
  obtain ⟨hx, hb, hml, hown, hts, hK, hG, hz, hR, hlocks, hr, -, hT⟩ := C
  obtain ⟨rfl, rfl, rfl, hfl, rfl, -⟩ := (hT rfl).1 rfl
  refine va_forget (fun q hq => hS.2.2 q hq) ?_
  refine W.widen (k := 601024) (n := 7293034) hk hs ?_
  exact lw_ret hx hb hr hlocks hd
theorem V_ieqs {y : MethodName} {cc : ByteArray} {nL : Nat} {rt : Option FieldType} {d mc ms : Nat} {fl : Bool} {Q : QT} {n' n : Nat} {a : Int} {off : Int} {tgt : Nat} (hd : decode cc pc = .ok (.if_icmp .eq off, 3)) (hg : (pc : Int) + off = (tgt : Int)) (h : V y cc nL rt d mc ms fl Q n' n kc ks tgt L st ρ f g) : V y cc nL rt d mc ms fl Q n' n kc ks pc L (.int (iz a) :: .int (iz a) :: st) ρ f g := by
  intro ad z D cy sl xs p l e R s m args below meth c Z H locs ls C hW hS hL
  exact lv_icmp_eq C.1 C.2.1 hd hg (fun h0 => h ad z D cy sl xs p l e R s m args below meth c Z H locs ls C hW hS hL) (fun h0 => absurd rfl h0)
theorem V_leqs {y : MethodName} {cc : ByteArray} {nL : Nat} {rt : Option FieldType} {d mc ms : Nat} {fl : Bool} {Q : QT} {n' n : Nat} {a : Int} {off : Int} {tgt : Nat} (hd : decode cc pc = .ok (.lcmp, 1)) (hd2 : decode cc (pc + 1) = .ok (.ifCond .eq off, 3)) (hg : ((pc + 1 : Nat) : Int) + off = (tgt : Int)) (h : V y cc nL rt d mc ms fl Q n' n kc ks tgt L st ρ f g) : V y cc nL rt d mc ms fl Q n' n kc ks pc L (.long (lz a) :: .long (lz a) :: st) ρ f g := by
  have h1 : V y cc nL rt d mc ms fl Q n' n kc ks (pc + 1) L (.int (iz 0) :: st) ρ f g := V_if_eq hd2 hg (by unfold ri; omega) (fun _ => h) (fun q => absurd rfl q)
  intro ad z D cy sl xs p l e R s m args below meth c Z H locs ls C hW hS hL
  have h2 := h1 ad z D cy sl xs p l e R s m args below meth c Z H locs ls C hW hS hL
  have e0 : lg_cmp (lz a) (lz a) = iz 0 := by
    unfold lg_cmp
    rw [if_neg (by intro q; exact Int64.lt_irrefl q), if_pos rfl]
    rfl
  rw [← e0] at h2
  exact W.lcmp C.1 C.2.1 hd h2
/-- what holds as the law's loop comes round the j-th time -/
def LWI (N j : Nat) (ρ : RT) (f : IT) (g : JT) : Prop := (∃ (T : TT) (b : Nat), ICl T b ρ f g f g ∧ IRf T f) ∧ f 55 5 ≤ 1 + 61 * (j : Int) ∧ (∀ k, ri (f 1005 k)) ∧ g 1005 0 = (N : Int)
theorem LWI.nx {N j : Nat} {ρ1 : RT} {f1 f2 : IT} {g1 g2 : JT} {φ' : IT} {γ' : JT} (h : LWI N j ρ f g) (c : CP φ' γ' f g ρ1 f1 g1) (r : RP φ' γ' f1 g1 f2 g2) : LWI N (j + 1) ρ1 f2 g2 := by
  obtain ⟨q1, q2, q3, q4⟩ := c.glue r
  refine ⟨q1, ?_, fun k => by rw [q3]; exact h.2.2.1 k, by rw [q4]; exact h.2.2.2⟩
  have := h.2.1
  omega
theorem CP.fx {ρ1 : RT} {f1 : IT} {g1 : JT} {φ' : IT} {γ' : JT} (c : CP φ' γ' f g ρ1 f1 g1) : Fx ρ1 := by
  obtain ⟨⟨T, b, z, -⟩, -⟩ := c
  exact z.1.1
def LHC (N j kc ks : Nat) (i : Int) : Prop := ∀ (ρ : RT) (f : IT) (g : JT), LWI N (j + 1) ρ f g → V_LW kc ks 1935 [.ref 1005, .ref 0, .ref 104, .ref 148, .int (iz i), .null, .null] [] ρ f g

theorem w_l_feed {N j : Nat} {i : Int} (hI : LWI N j ρ f g) (hj : 6 * j + 6 ≤ N) (hN : N ≤ 3072) (hi : i = 6 * (j : Int)) (hk : kc ≤ 601024) (hs : ks ≤ 7293034) (H : LHC N j kc ks i) : V_LW kc ks 224 [.ref 1005, .ref 0, .ref 104, .ref 148, .int (iz i), .null, .null] [] ρ f g := by
  obtain ⟨⟨T, b, h, hX⟩, hag, hri, hN0⟩ := id hI
  have h5 : f 55 5 < 999000 := by omega
  have hu := uu_feed h hX h5 (x1 := f 1005 (6 * j + 1)) (x2 := f 1005 (6 * j + 2)) (x3 := f 1005 (6 * j + 3)) (x4 := f 1005 (6 * j + 4)) (x5 := f 1005 (6 * j + 5)) 
  refine V_al1n dL_law_224 ?_
  refine V_al0n dL_law_225 ?_
  refine V_il4 dL_law_226 ?_
  refine V_iconst dL_law_228 ?_
  refine V_iadd dL_law_229 ?_
  refine V_sld (k := 6 * j + 1) (by omega) (by omega) (by omega) rfl dL_law_230 ?_
  refine V_al0n dL_law_231 ?_
  refine V_il4 dL_law_232 ?_
  refine V_iconst dL_law_234 ?_
  refine V_iadd dL_law_235 ?_
  refine V_sld (k := 6 * j + 2) (by omega) (by omega) (by omega) rfl dL_law_236 ?_
  refine V_al0n dL_law_237 ?_
  refine V_il4 dL_law_238 ?_
  refine V_iconst dL_law_240 ?_
  refine V_iadd dL_law_241 ?_
  refine V_sld (k := 6 * j + 3) (by omega) (by omega) (by omega) rfl dL_law_242 ?_
  refine V_al0n dL_law_243 ?_
  refine V_il4 dL_law_244 ?_
  refine V_iconst dL_law_246 ?_
  refine V_iadd dL_law_247 ?_
  refine V_sld (k := 6 * j + 4) (by omega) (by omega) (by omega) rfl dL_law_248 ?_
  refine V_al0n dL_law_249 ?_
  refine V_il4 dL_law_250 ?_
  refine V_iconst dL_law_252 ?_
  refine V_iadd dL_law_253 ?_
  refine V_sld (k := 6 * j + 5) (by omega) (by omega) (by omega) rfl dL_law_254 ?_
  refine V_callV (as := [_, _, _, _, _]) ml_L_21 im_X11_feed se_X11_feed kk0 (by decide) (by decide) dL_law_255 rfl rfl (by decide) (by decide) (Nat.le_of_ble_eq_true rfl) (by omega) (by omega) rfl (hu) ?_
  rintro r255 ρ255 f255 g255 ⟨rfl, q1⟩
  have E : HI f g f255 g255 := ⟨q1.2.2.1, q1.2.2.2⟩
  have hv := vv_feed h hX h5 q1.fx E (x1 := f 1005 (6 * j + 1)) (x2 := f 1005 (6 * j + 2)) (x3 := f 1005 (6 * j + 3)) (x4 := f 1005 (6 * j + 4)) (x5 := f 1005 (6 * j + 5)) (hri (6 * j + 1)) (hri (6 * j + 2)) (hri (6 * j + 3)) (hri (6 * j + 4)) (hri (6 * j + 5))
  refine V_al2n dL_law_258 ?_
  refine V_al0n dL_law_259 ?_
  refine V_il4 dL_law_260 ?_
  refine V_iconst dL_law_262 ?_
  refine V_iadd dL_law_263 ?_
  refine V_sld (k := 6 * j + 1) (by omega) (by rw [E.2 1005 0 (by omega)]; omega) (by rw [E.2 1005 0 (by omega)]; omega) (E.1 1005 _ (by omega)) dL_law_264 ?_
  refine V_al0n dL_law_265 ?_
  refine V_il4 dL_law_266 ?_
  refine V_iconst dL_law_268 ?_
  refine V_iadd dL_law_269 ?_
  refine V_sld (k := 6 * j + 2) (by omega) (by rw [E.2 1005 0 (by omega)]; omega) (by rw [E.2 1005 0 (by omega)]; omega) (E.1 1005 _ (by omega)) dL_law_270 ?_
  refine V_al0n dL_law_271 ?_
  refine V_il4 dL_law_272 ?_
  refine V_iconst dL_law_274 ?_
  refine V_iadd dL_law_275 ?_
  refine V_sld (k := 6 * j + 3) (by omega) (by rw [E.2 1005 0 (by omega)]; omega) (by rw [E.2 1005 0 (by omega)]; omega) (E.1 1005 _ (by omega)) dL_law_276 ?_
  refine V_al0n dL_law_277 ?_
  refine V_il4 dL_law_278 ?_
  refine V_iconst dL_law_280 ?_
  refine V_iadd dL_law_281 ?_
  refine V_sld (k := 6 * j + 4) (by omega) (by rw [E.2 1005 0 (by omega)]; omega) (by rw [E.2 1005 0 (by omega)]; omega) (E.1 1005 _ (by omega)) dL_law_282 ?_
  refine V_al0n dL_law_283 ?_
  refine V_il4 dL_law_284 ?_
  refine V_iconst dL_law_286 ?_
  refine V_iadd dL_law_287 ?_
  refine V_sld (k := 6 * j + 5) (by omega) (by rw [E.2 1005 0 (by omega)]; omega) (by rw [E.2 1005 0 (by omega)]; omega) (E.1 1005 _ (by omega)) dL_law_288 ?_
  refine V_callV (as := [_, _, _, _, _]) ml_L_25 im_X12_feed se_X12_feed kk104 (by decide) (by decide) dL_law_289 rfl rfl (by decide) (by decide) (Nat.le_of_ble_eq_true rfl) (by omega) (by omega) rfl (hv) ?_
  rintro r289 ρ289 f289 g289 ⟨rfl, s289_0, q2⟩
  obtain rfl := s289_0.symm
  refine V_ieqs (tgt := 1935) dL_law_292 rfl ?_
  exact H _ _ _ (hI.nx q1 q2)
theorem w_l_text {N j : Nat} {i : Int} (hI : LWI N j ρ f g) (hj : 6 * j + 6 ≤ N) (hN : N ≤ 3072) (hi : i = 6 * (j : Int)) (hk : kc ≤ 601024) (hs : ks ≤ 7293034) (H : LHC N j kc ks i) : V_LW kc ks 297 [.ref 1005, .ref 0, .ref 104, .ref 148, .int (iz i), .null, .null] [] ρ f g := by
  obtain ⟨⟨T, b, h, hX⟩, hag, hri, hN0⟩ := id hI
  have h5 : f 55 5 < 999000 := by omega
  have hu := uu_text h hX h5 (x1 := f 1005 (6 * j + 1)) (hri (6 * j + 1))
  refine V_al1n dL_law_297 ?_
  refine V_al0n dL_law_298 ?_
  refine V_il4 dL_law_299 ?_
  refine V_iconst dL_law_301 ?_
  refine V_iadd dL_law_302 ?_
  refine V_sld (k := 6 * j + 1) (by omega) (by omega) (by omega) rfl dL_law_303 ?_
  refine V_callV (as := [_]) ml_L_26 im_X11_text se_X11_text kk0 (by decide) (by decide) dL_law_304 rfl rfl (by decide) (by decide) (Nat.le_of_ble_eq_true rfl) (by omega) (by omega) rfl (hu) ?_
  rintro r304 ρ304 f304 g304 ⟨rfl, q1⟩
  have E : HI f g f304 g304 := ⟨q1.2.2.1, q1.2.2.2⟩
  have hv := vv_text h hX h5 q1.fx E (x1 := f 1005 (6 * j + 1)) (hri (6 * j + 1))
  refine V_al2n dL_law_307 ?_
  refine V_al0n dL_law_308 ?_
  refine V_il4 dL_law_309 ?_
  refine V_iconst dL_law_311 ?_
  refine V_iadd dL_law_312 ?_
  refine V_sld (k := 6 * j + 1) (by omega) (by rw [E.2 1005 0 (by omega)]; omega) (by rw [E.2 1005 0 (by omega)]; omega) (E.1 1005 _ (by omega)) dL_law_313 ?_
  refine V_callV (as := [_]) ml_L_30 im_X12_text se_X12_text kk104 (by decide) (by decide) dL_law_314 rfl rfl (by decide) (by decide) (Nat.le_of_ble_eq_true rfl) (by omega) (by omega) rfl (hv) ?_
  rintro r314 ρ314 f314 g314 ⟨rfl, s314_0, q2⟩
  obtain rfl := s314_0.symm
  refine V_ieqs (tgt := 1935) dL_law_317 rfl ?_
  exact H _ _ _ (hI.nx q1 q2)
theorem w_l_fault {N j : Nat} {i : Int} (hI : LWI N j ρ f g) (hj : 6 * j + 6 ≤ N) (hN : N ≤ 3072) (hi : i = 6 * (j : Int)) (hk : kc ≤ 601024) (hs : ks ≤ 7293034) (H : LHC N j kc ks i) : V_LW kc ks 322 [.ref 1005, .ref 0, .ref 104, .ref 148, .int (iz i), .null, .null] [] ρ f g := by
  obtain ⟨⟨T, b, h, hX⟩, hag, hri, hN0⟩ := id hI
  have h5 : f 55 5 < 999000 := by omega
  have hu := uu_fault h hX h5 (x1 := f 1005 (6 * j + 1)) (hri (6 * j + 1))
  refine V_al1n dL_law_322 ?_
  refine V_al0n dL_law_323 ?_
  refine V_il4 dL_law_324 ?_
  refine V_iconst dL_law_326 ?_
  refine V_iadd dL_law_327 ?_
  refine V_sld (k := 6 * j + 1) (by omega) (by omega) (by omega) rfl dL_law_328 ?_
  refine V_callV (as := [_]) ml_L_31 im_X11_fault se_X11_fault kk0 (by decide) (by decide) dL_law_329 rfl rfl (by decide) (by decide) (Nat.le_of_ble_eq_true rfl) (by omega) (by omega) rfl (hu) ?_
  rintro r329 ρ329 f329 g329 ⟨rfl, q1⟩
  have E : HI f g f329 g329 := ⟨q1.2.2.1, q1.2.2.2⟩
  have hv := vv_fault h hX h5 (ρ1 := ρ329) E (x1 := f 1005 (6 * j + 1)) (hri (6 * j + 1))
  refine V_al2n dL_law_332 ?_
  refine V_al0n dL_law_333 ?_
  refine V_il4 dL_law_334 ?_
  refine V_iconst dL_law_336 ?_
  refine V_iadd dL_law_337 ?_
  refine V_sld (k := 6 * j + 1) (by omega) (by rw [E.2 1005 0 (by omega)]; omega) (by rw [E.2 1005 0 (by omega)]; omega) (E.1 1005 _ (by omega)) dL_law_338 ?_
  refine V_callV (as := [_]) ml_L_34 im_X12_fault se_X12_fault kk104 (by decide) (by decide) dL_law_339 rfl rfl (by decide) (by decide) (Nat.le_of_ble_eq_true rfl) (by omega) (by omega) rfl (hv) ?_
  rintro r339 ρ339 f339 g339 ⟨rfl, s339_0, q2⟩
  obtain rfl := s339_0.symm
  refine V_ieqs (tgt := 1935) dL_law_342 rfl ?_
  exact H _ _ _ (hI.nx q1 q2)
theorem w_l_named {N j : Nat} {i : Int} (hI : LWI N j ρ f g) (hj : 6 * j + 6 ≤ N) (hN : N ≤ 3072) (hi : i = 6 * (j : Int)) (hk : kc ≤ 601024) (hs : ks ≤ 7293034) (H : LHC N j kc ks i) : V_LW kc ks 347 [.ref 1005, .ref 0, .ref 104, .ref 148, .int (iz i), .null, .null] [] ρ f g := by
  obtain ⟨⟨T, b, h, hX⟩, hag, hri, hN0⟩ := id hI
  have h5 : f 55 5 < 999000 := by omega
  have hu := uu_named h hX h5 (x1 := f 1005 (6 * j + 1)) (x2 := f 1005 (6 * j + 2)) (hri (6 * j + 1)) (hri (6 * j + 2))
  refine V_al1n dL_law_347 ?_
  refine V_al0n dL_law_348 ?_
  refine V_il4 dL_law_349 ?_
  refine V_iconst dL_law_351 ?_
  refine V_iadd dL_law_352 ?_
  refine V_sld (k := 6 * j + 1) (by omega) (by omega) (by omega) rfl dL_law_353 ?_
  refine V_al0n dL_law_354 ?_
  refine V_il4 dL_law_355 ?_
  refine V_iconst dL_law_357 ?_
  refine V_iadd dL_law_358 ?_
  refine V_sld (k := 6 * j + 2) (by omega) (by omega) (by omega) rfl dL_law_359 ?_
  refine V_callV (as := [_, _]) ml_L_35 im_X11_named se_X11_named kk0 (by decide) (by decide) dL_law_360 rfl rfl (by decide) (by decide) (Nat.le_of_ble_eq_true rfl) (by omega) (by omega) rfl (hu) ?_
  rintro r360 ρ360 f360 g360 ⟨rfl, q1⟩
  have E : HI f g f360 g360 := ⟨q1.2.2.1, q1.2.2.2⟩
  have hv := vv_named h hX h5 q1.fx E (x1 := f 1005 (6 * j + 1)) (x2 := f 1005 (6 * j + 2)) (hri (6 * j + 1)) (hri (6 * j + 2))
  refine V_al2n dL_law_363 ?_
  refine V_al0n dL_law_364 ?_
  refine V_il4 dL_law_365 ?_
  refine V_iconst dL_law_367 ?_
  refine V_iadd dL_law_368 ?_
  refine V_sld (k := 6 * j + 1) (by omega) (by rw [E.2 1005 0 (by omega)]; omega) (by rw [E.2 1005 0 (by omega)]; omega) (E.1 1005 _ (by omega)) dL_law_369 ?_
  refine V_al0n dL_law_370 ?_
  refine V_il4 dL_law_371 ?_
  refine V_iconst dL_law_373 ?_
  refine V_iadd dL_law_374 ?_
  refine V_sld (k := 6 * j + 2) (by omega) (by rw [E.2 1005 0 (by omega)]; omega) (by rw [E.2 1005 0 (by omega)]; omega) (E.1 1005 _ (by omega)) dL_law_375 ?_
  refine V_callV (as := [_, _]) ml_L_38 im_X12_named se_X12_named kk104 (by decide) (by decide) dL_law_376 rfl rfl (by decide) (by decide) (Nat.le_of_ble_eq_true rfl) (by omega) (by omega) rfl (hv) ?_
  rintro r376 ρ376 f376 g376 ⟨rfl, s376_0, q2⟩
  obtain rfl := s376_0.symm
  refine V_ieqs (tgt := 1935) dL_law_379 rfl ?_
  exact H _ _ _ (hI.nx q1 q2)
theorem w_l_pace {N j : Nat} {i : Int} (hI : LWI N j ρ f g) (hj : 6 * j + 6 ≤ N) (hN : N ≤ 3072) (hi : i = 6 * (j : Int)) (hk : kc ≤ 601024) (hs : ks ≤ 7293034) (H : LHC N j kc ks i) : V_LW kc ks 452 [.ref 1005, .ref 0, .ref 104, .ref 148, .int (iz i), .null, .null] [] ρ f g := by
  obtain ⟨⟨T, b, h, hX⟩, hag, hri, hN0⟩ := id hI
  have h5 : f 55 5 < 999000 := by omega
  have hu := uu_pace h hX h5 (x1 := f 1005 (6 * j + 1)) (x2 := f 1005 (6 * j + 2)) (hri (6 * j + 1)) (hri (6 * j + 2))
  refine V_al1n dL_law_452 ?_
  refine V_al0n dL_law_453 ?_
  refine V_il4 dL_law_454 ?_
  refine V_iconst dL_law_456 ?_
  refine V_iadd dL_law_457 ?_
  refine V_sld (k := 6 * j + 1) (by omega) (by omega) (by omega) rfl dL_law_458 ?_
  refine V_al0n dL_law_459 ?_
  refine V_il4 dL_law_460 ?_
  refine V_iconst dL_law_462 ?_
  refine V_iadd dL_law_463 ?_
  refine V_sld (k := 6 * j + 2) (by omega) (by omega) (by omega) rfl dL_law_464 ?_
  refine V_callV (as := [_, _]) ml_L_49 im_X11_pace se_X11_pace kk0 (by decide) (by decide) dL_law_465 rfl rfl (by decide) (by decide) (Nat.le_of_ble_eq_true rfl) (by omega) (by omega) rfl (hu) ?_
  rintro r465 ρ465 f465 g465 ⟨rfl, q1⟩
  have E : HI f g f465 g465 := ⟨q1.2.2.1, q1.2.2.2⟩
  have hv := vv_pace h hX h5 q1.fx E (x1 := f 1005 (6 * j + 1)) (x2 := f 1005 (6 * j + 2)) (hri (6 * j + 1)) (hri (6 * j + 2))
  refine V_al2n dL_law_468 ?_
  refine V_al0n dL_law_469 ?_
  refine V_il4 dL_law_470 ?_
  refine V_iconst dL_law_472 ?_
  refine V_iadd dL_law_473 ?_
  refine V_sld (k := 6 * j + 1) (by omega) (by rw [E.2 1005 0 (by omega)]; omega) (by rw [E.2 1005 0 (by omega)]; omega) (E.1 1005 _ (by omega)) dL_law_474 ?_
  refine V_al0n dL_law_475 ?_
  refine V_il4 dL_law_476 ?_
  refine V_iconst dL_law_478 ?_
  refine V_iadd dL_law_479 ?_
  refine V_sld (k := 6 * j + 2) (by omega) (by rw [E.2 1005 0 (by omega)]; omega) (by rw [E.2 1005 0 (by omega)]; omega) (E.1 1005 _ (by omega)) dL_law_480 ?_
  refine V_callV (as := [_, _]) ml_L_52 im_X12_pace se_X12_pace kk104 (by decide) (by decide) dL_law_481 rfl rfl (by decide) (by decide) (Nat.le_of_ble_eq_true rfl) (by omega) (by omega) rfl (hv) ?_
  rintro r481 ρ481 f481 g481 ⟨rfl, s481_0, q2⟩
  obtain rfl := s481_0.symm
  refine V_ieqs (tgt := 1935) dL_law_484 rfl ?_
  exact H _ _ _ (hI.nx q1 q2)
theorem w_l_law {N j : Nat} {i : Int} (hI : LWI N j ρ f g) (hj : 6 * j + 6 ≤ N) (hN : N ≤ 3072) (hi : i = 6 * (j : Int)) (hk : kc ≤ 601024) (hs : ks ≤ 7293034) (H : LHC N j kc ks i) : V_LW kc ks 489 [.ref 1005, .ref 0, .ref 104, .ref 148, .int (iz i), .null, .null] [] ρ f g := by
  obtain ⟨⟨T, b, h, hX⟩, hag, hri, hN0⟩ := id hI
  have h5 : f 55 5 < 999000 := by omega
  have hu := uu_law h hX h5 (x1 := f 1005 (6 * j + 1)) (x2 := f 1005 (6 * j + 2)) (x3 := f 1005 (6 * j + 3)) (x4 := f 1005 (6 * j + 4)) (hri (6 * j + 1)) (hri (6 * j + 2)) (hri (6 * j + 3)) (hri (6 * j + 4))
  refine V_al1n dL_law_489 ?_
  refine V_al0n dL_law_490 ?_
  refine V_il4 dL_law_491 ?_
  refine V_iconst dL_law_493 ?_
  refine V_iadd dL_law_494 ?_
  refine V_sld (k := 6 * j + 1) (by omega) (by omega) (by omega) rfl dL_law_495 ?_
  refine V_al0n dL_law_496 ?_
  refine V_il4 dL_law_497 ?_
  refine V_iconst dL_law_499 ?_
  refine V_iadd dL_law_500 ?_
  refine V_sld (k := 6 * j + 2) (by omega) (by omega) (by omega) rfl dL_law_501 ?_
  refine V_al0n dL_law_502 ?_
  refine V_il4 dL_law_503 ?_
  refine V_iconst dL_law_505 ?_
  refine V_iadd dL_law_506 ?_
  refine V_sld (k := 6 * j + 3) (by omega) (by omega) (by omega) rfl dL_law_507 ?_
  refine V_al0n dL_law_508 ?_
  refine V_il4 dL_law_509 ?_
  refine V_iconst dL_law_511 ?_
  refine V_iadd dL_law_512 ?_
  refine V_sld (k := 6 * j + 4) (by omega) (by omega) (by omega) rfl dL_law_513 ?_
  refine V_callV (as := [_, _, _, _]) ml_L_53 im_X11_law se_X11_law kk0 (by decide) (by decide) dL_law_514 rfl rfl (by decide) (by decide) (Nat.le_of_ble_eq_true rfl) (by omega) (by omega) rfl (hu) ?_
  rintro r514 ρ514 f514 g514 ⟨rfl, q1⟩
  have E : HI f g f514 g514 := ⟨q1.2.2.1, q1.2.2.2⟩
  have hv := vv_law h hX h5 q1.fx E (x1 := f 1005 (6 * j + 1)) (x2 := f 1005 (6 * j + 2)) (x3 := f 1005 (6 * j + 3)) (x4 := f 1005 (6 * j + 4)) (hri (6 * j + 1)) (hri (6 * j + 2)) (hri (6 * j + 3)) (hri (6 * j + 4))
  refine V_al2n dL_law_517 ?_
  refine V_al0n dL_law_518 ?_
  refine V_il4 dL_law_519 ?_
  refine V_iconst dL_law_521 ?_
  refine V_iadd dL_law_522 ?_
  refine V_sld (k := 6 * j + 1) (by omega) (by rw [E.2 1005 0 (by omega)]; omega) (by rw [E.2 1005 0 (by omega)]; omega) (E.1 1005 _ (by omega)) dL_law_523 ?_
  refine V_al0n dL_law_524 ?_
  refine V_il4 dL_law_525 ?_
  refine V_iconst dL_law_527 ?_
  refine V_iadd dL_law_528 ?_
  refine V_sld (k := 6 * j + 2) (by omega) (by rw [E.2 1005 0 (by omega)]; omega) (by rw [E.2 1005 0 (by omega)]; omega) (E.1 1005 _ (by omega)) dL_law_529 ?_
  refine V_al0n dL_law_530 ?_
  refine V_il4 dL_law_531 ?_
  refine V_iconst dL_law_533 ?_
  refine V_iadd dL_law_534 ?_
  refine V_sld (k := 6 * j + 3) (by omega) (by rw [E.2 1005 0 (by omega)]; omega) (by rw [E.2 1005 0 (by omega)]; omega) (E.1 1005 _ (by omega)) dL_law_535 ?_
  refine V_al0n dL_law_536 ?_
  refine V_il4 dL_law_537 ?_
  refine V_iconst dL_law_539 ?_
  refine V_iadd dL_law_540 ?_
  refine V_sld (k := 6 * j + 4) (by omega) (by rw [E.2 1005 0 (by omega)]; omega) (by rw [E.2 1005 0 (by omega)]; omega) (E.1 1005 _ (by omega)) dL_law_541 ?_
  refine V_callV (as := [_, _, _, _]) ml_L_57 im_X12_law se_X12_law kk104 (by decide) (by decide) dL_law_542 rfl rfl (by decide) (by decide) (Nat.le_of_ble_eq_true rfl) (by omega) (by omega) rfl (hv) ?_
  rintro r542 ρ542 f542 g542 ⟨rfl, s542_0, q2⟩
  obtain rfl := s542_0.symm
  refine V_leqs (tgt := 1935) dL_law_545 dL_law_546 rfl ?_
  exact H _ _ _ (hI.nx q1 q2)
theorem w_l_run {N j : Nat} {i : Int} (hI : LWI N j ρ f g) (hj : 6 * j + 6 ≤ N) (hN : N ≤ 3072) (hi : i = 6 * (j : Int)) (hk : kc ≤ 601024) (hs : ks ≤ 7293034) (H : LHC N j kc ks i) : V_LW kc ks 551 [.ref 1005, .ref 0, .ref 104, .ref 148, .int (iz i), .null, .null] [] ρ f g := by
  obtain ⟨⟨T, b, h, hX⟩, hag, hri, hN0⟩ := id hI
  have h5 : f 55 5 < 999000 := by omega
  have hu := uu_run h hX h5 (x1 := f 1005 (6 * j + 1)) (x2 := f 1005 (6 * j + 2)) (x3 := f 1005 (6 * j + 3)) (hri (6 * j + 1)) (hri (6 * j + 2)) (hri (6 * j + 3))
  refine V_al1n dL_law_551 ?_
  refine V_al0n dL_law_552 ?_
  refine V_il4 dL_law_553 ?_
  refine V_iconst dL_law_555 ?_
  refine V_iadd dL_law_556 ?_
  refine V_sld (k := 6 * j + 1) (by omega) (by omega) (by omega) rfl dL_law_557 ?_
  refine V_al0n dL_law_558 ?_
  refine V_il4 dL_law_559 ?_
  refine V_iconst dL_law_561 ?_
  refine V_iadd dL_law_562 ?_
  refine V_sld (k := 6 * j + 2) (by omega) (by omega) (by omega) rfl dL_law_563 ?_
  refine V_al0n dL_law_564 ?_
  refine V_il4 dL_law_565 ?_
  refine V_iconst dL_law_567 ?_
  refine V_iadd dL_law_568 ?_
  refine V_sld (k := 6 * j + 3) (by omega) (by omega) (by omega) rfl dL_law_569 ?_
  refine V_callV (as := [_, _, _]) ml_L_58 im_X11_run se_X11_run kk0 (by decide) (by decide) dL_law_570 rfl rfl (by decide) (by decide) (Nat.le_of_ble_eq_true rfl) (by omega) (by omega) rfl (hu) ?_
  rintro r570 ρ570 f570 g570 ⟨rfl, q1⟩
  have E : HI f g f570 g570 := ⟨q1.2.2.1, q1.2.2.2⟩
  have hv := vv_run h hX h5 q1.fx E (x1 := f 1005 (6 * j + 1)) (x2 := f 1005 (6 * j + 2)) (x3 := f 1005 (6 * j + 3)) (hri (6 * j + 1)) (hri (6 * j + 2)) (hri (6 * j + 3))
  refine V_al2n dL_law_573 ?_
  refine V_al0n dL_law_574 ?_
  refine V_il4 dL_law_575 ?_
  refine V_iconst dL_law_577 ?_
  refine V_iadd dL_law_578 ?_
  refine V_sld (k := 6 * j + 1) (by omega) (by rw [E.2 1005 0 (by omega)]; omega) (by rw [E.2 1005 0 (by omega)]; omega) (E.1 1005 _ (by omega)) dL_law_579 ?_
  refine V_al0n dL_law_580 ?_
  refine V_il4 dL_law_581 ?_
  refine V_iconst dL_law_583 ?_
  refine V_iadd dL_law_584 ?_
  refine V_sld (k := 6 * j + 2) (by omega) (by rw [E.2 1005 0 (by omega)]; omega) (by rw [E.2 1005 0 (by omega)]; omega) (E.1 1005 _ (by omega)) dL_law_585 ?_
  refine V_al0n dL_law_586 ?_
  refine V_il4 dL_law_587 ?_
  refine V_iconst dL_law_589 ?_
  refine V_iadd dL_law_590 ?_
  refine V_sld (k := 6 * j + 3) (by omega) (by rw [E.2 1005 0 (by omega)]; omega) (by rw [E.2 1005 0 (by omega)]; omega) (E.1 1005 _ (by omega)) dL_law_591 ?_
  refine V_callV (as := [_, _, _]) ml_L_62 im_X12_run se_X12_run kk104 (by decide) (by decide) dL_law_592 rfl rfl (by decide) (by decide) (Nat.le_of_ble_eq_true rfl) (by omega) (by omega) rfl (hv) ?_
  rintro r592 ρ592 f592 g592 ⟨rfl, s592_0, q2⟩
  obtain rfl := s592_0.symm
  refine V_ieqs (tgt := 1935) dL_law_595 rfl ?_
  exact H _ _ _ (hI.nx q1 q2)
theorem w_l_split {N j : Nat} {i : Int} (hI : LWI N j ρ f g) (hj : 6 * j + 6 ≤ N) (hN : N ≤ 3072) (hi : i = 6 * (j : Int)) (hk : kc ≤ 601024) (hs : ks ≤ 7293034) (H : LHC N j kc ks i) : V_LW kc ks 600 [.ref 1005, .ref 0, .ref 104, .ref 148, .int (iz i), .null, .null] [] ρ f g := by
  obtain ⟨⟨T, b, h, hX⟩, hag, hri, hN0⟩ := id hI
  have h5 : f 55 5 < 999000 := by omega
  have hu := uu_split h hX h5 (x1 := f 1005 (6 * j + 1)) (x2 := f 1005 (6 * j + 2)) (x3 := f 1005 (6 * j + 3)) (hri (6 * j + 1)) (hri (6 * j + 2)) (hri (6 * j + 3))
  refine V_al1n dL_law_600 ?_
  refine V_al0n dL_law_601 ?_
  refine V_il4 dL_law_602 ?_
  refine V_iconst dL_law_604 ?_
  refine V_iadd dL_law_605 ?_
  refine V_sld (k := 6 * j + 1) (by omega) (by omega) (by omega) rfl dL_law_606 ?_
  refine V_al0n dL_law_607 ?_
  refine V_il4 dL_law_608 ?_
  refine V_iconst dL_law_610 ?_
  refine V_iadd dL_law_611 ?_
  refine V_sld (k := 6 * j + 2) (by omega) (by omega) (by omega) rfl dL_law_612 ?_
  refine V_al0n dL_law_613 ?_
  refine V_il4 dL_law_614 ?_
  refine V_iconst dL_law_616 ?_
  refine V_iadd dL_law_617 ?_
  refine V_sld (k := 6 * j + 3) (by omega) (by omega) (by omega) rfl dL_law_618 ?_
  refine V_callV (as := [_, _, _]) ml_L_63 im_X11_split se_X11_split kk0 (by decide) (by decide) dL_law_619 rfl rfl (by decide) (by decide) (Nat.le_of_ble_eq_true rfl) (by omega) (by omega) rfl (hu) ?_
  rintro r619 ρ619 f619 g619 ⟨rfl, q1⟩
  have E : HI f g f619 g619 := ⟨q1.2.2.1, q1.2.2.2⟩
  have hv := vv_split h hX h5 q1.fx E (x1 := f 1005 (6 * j + 1)) (x2 := f 1005 (6 * j + 2)) (x3 := f 1005 (6 * j + 3)) (hri (6 * j + 1)) (hri (6 * j + 2)) (hri (6 * j + 3))
  refine V_al2n dL_law_622 ?_
  refine V_al0n dL_law_623 ?_
  refine V_il4 dL_law_624 ?_
  refine V_iconst dL_law_626 ?_
  refine V_iadd dL_law_627 ?_
  refine V_sld (k := 6 * j + 1) (by omega) (by rw [E.2 1005 0 (by omega)]; omega) (by rw [E.2 1005 0 (by omega)]; omega) (E.1 1005 _ (by omega)) dL_law_628 ?_
  refine V_al0n dL_law_629 ?_
  refine V_il4 dL_law_630 ?_
  refine V_iconst dL_law_632 ?_
  refine V_iadd dL_law_633 ?_
  refine V_sld (k := 6 * j + 2) (by omega) (by rw [E.2 1005 0 (by omega)]; omega) (by rw [E.2 1005 0 (by omega)]; omega) (E.1 1005 _ (by omega)) dL_law_634 ?_
  refine V_al0n dL_law_635 ?_
  refine V_il4 dL_law_636 ?_
  refine V_iconst dL_law_638 ?_
  refine V_iadd dL_law_639 ?_
  refine V_sld (k := 6 * j + 3) (by omega) (by rw [E.2 1005 0 (by omega)]; omega) (by rw [E.2 1005 0 (by omega)]; omega) (E.1 1005 _ (by omega)) dL_law_640 ?_
  refine V_callV (as := [_, _, _]) ml_L_66 im_X12_split se_X12_split kk104 (by decide) (by decide) dL_law_641 rfl rfl (by decide) (by decide) (Nat.le_of_ble_eq_true rfl) (by omega) (by omega) rfl (hv) ?_
  rintro r641 ρ641 f641 g641 ⟨rfl, s641_0, q2⟩
  obtain rfl := s641_0.symm
  refine V_ieqs (tgt := 1935) dL_law_644 rfl ?_
  exact H _ _ _ (hI.nx q1 q2)
theorem w_l_race {N j : Nat} {i : Int} (hI : LWI N j ρ f g) (hj : 6 * j + 6 ≤ N) (hN : N ≤ 3072) (hi : i = 6 * (j : Int)) (hk : kc ≤ 601024) (hs : ks ≤ 7293034) (H : LHC N j kc ks i) : V_LW kc ks 649 [.ref 1005, .ref 0, .ref 104, .ref 148, .int (iz i), .null, .null] [] ρ f g := by
  obtain ⟨⟨T, b, h, hX⟩, hag, hri, hN0⟩ := id hI
  have h5 : f 55 5 < 999000 := by omega
  have hu := uu_race h hX h5 (x1 := f 1005 (6 * j + 1)) (x2 := f 1005 (6 * j + 2)) (hri (6 * j + 1)) (hri (6 * j + 2))
  refine V_al1n dL_law_649 ?_
  refine V_al0n dL_law_650 ?_
  refine V_il4 dL_law_651 ?_
  refine V_iconst dL_law_653 ?_
  refine V_iadd dL_law_654 ?_
  refine V_sld (k := 6 * j + 1) (by omega) (by omega) (by omega) rfl dL_law_655 ?_
  refine V_al0n dL_law_656 ?_
  refine V_il4 dL_law_657 ?_
  refine V_iconst dL_law_659 ?_
  refine V_iadd dL_law_660 ?_
  refine V_sld (k := 6 * j + 2) (by omega) (by omega) (by omega) rfl dL_law_661 ?_
  refine V_callV (as := [_, _]) ml_L_67 im_X11_race se_X11_race kk0 (by decide) (by decide) dL_law_662 rfl rfl (by decide) (by decide) (Nat.le_of_ble_eq_true rfl) (by omega) (by omega) rfl (hu) ?_
  rintro r662 ρ662 f662 g662 ⟨rfl, q1⟩
  have E : HI f g f662 g662 := ⟨q1.2.2.1, q1.2.2.2⟩
  have hv := vv_race h hX h5 q1.fx E (x1 := f 1005 (6 * j + 1)) (x2 := f 1005 (6 * j + 2)) (hri (6 * j + 1)) (hri (6 * j + 2))
  refine V_al2n dL_law_665 ?_
  refine V_al0n dL_law_666 ?_
  refine V_il4 dL_law_667 ?_
  refine V_iconst dL_law_669 ?_
  refine V_iadd dL_law_670 ?_
  refine V_sld (k := 6 * j + 1) (by omega) (by rw [E.2 1005 0 (by omega)]; omega) (by rw [E.2 1005 0 (by omega)]; omega) (E.1 1005 _ (by omega)) dL_law_671 ?_
  refine V_al0n dL_law_672 ?_
  refine V_il4 dL_law_673 ?_
  refine V_iconst dL_law_675 ?_
  refine V_iadd dL_law_676 ?_
  refine V_sld (k := 6 * j + 2) (by omega) (by rw [E.2 1005 0 (by omega)]; omega) (by rw [E.2 1005 0 (by omega)]; omega) (E.1 1005 _ (by omega)) dL_law_677 ?_
  refine V_callV (as := [_, _]) ml_L_71 im_X12_race se_X12_race kk104 (by decide) (by decide) dL_law_678 rfl rfl (by decide) (by decide) (Nat.le_of_ble_eq_true rfl) (by omega) (by omega) rfl (hv) ?_
  rintro r678 ρ678 f678 g678 ⟨rfl, s678_0, q2⟩
  obtain rfl := s678_0.symm
  refine V_ieqs (tgt := 1935) dL_law_681 rfl ?_
  exact H _ _ _ (hI.nx q1 q2)
theorem w_l_go {N j : Nat} {i : Int} (hI : LWI N j ρ f g) (hj : 6 * j + 6 ≤ N) (hN : N ≤ 3072) (hi : i = 6 * (j : Int)) (hk : kc ≤ 601024) (hs : ks ≤ 7293034) (H : LHC N j kc ks i) : V_LW kc ks 686 [.ref 1005, .ref 0, .ref 104, .ref 148, .int (iz i), .null, .null] [] ρ f g := by
  obtain ⟨⟨T, b, h, hX⟩, hag, hri, hN0⟩ := id hI
  have h5 : f 55 5 < 999000 := by omega
  have hu := uu_go h hX h5 (x1 := f 1005 (6 * j + 1)) (hri (6 * j + 1))
  refine V_al1n dL_law_686 ?_
  refine V_al0n dL_law_687 ?_
  refine V_il4 dL_law_688 ?_
  refine V_iconst dL_law_690 ?_
  refine V_iadd dL_law_691 ?_
  refine V_sld (k := 6 * j + 1) (by omega) (by omega) (by omega) rfl dL_law_692 ?_
  refine V_callV (as := [_]) ml_L_72 im_X11_go se_X11_go kk0 (by decide) (by decide) dL_law_693 rfl rfl (by decide) (by decide) (Nat.le_of_ble_eq_true rfl) (by omega) (by omega) rfl (hu) ?_
  rintro r693 ρ693 f693 g693 ⟨rfl, q1⟩
  have E : HI f g f693 g693 := ⟨q1.2.2.1, q1.2.2.2⟩
  have hv := vv_go h hX h5 q1.fx E (x1 := f 1005 (6 * j + 1)) (hri (6 * j + 1))
  refine V_al2n dL_law_696 ?_
  refine V_al0n dL_law_697 ?_
  refine V_il4 dL_law_698 ?_
  refine V_iconst dL_law_700 ?_
  refine V_iadd dL_law_701 ?_
  refine V_sld (k := 6 * j + 1) (by omega) (by rw [E.2 1005 0 (by omega)]; omega) (by rw [E.2 1005 0 (by omega)]; omega) (E.1 1005 _ (by omega)) dL_law_702 ?_
  refine V_callV (as := [_]) ml_L_75 im_X12_go se_X12_go kk104 (by decide) (by decide) dL_law_703 rfl rfl (by decide) (by decide) (Nat.le_of_ble_eq_true rfl) (by omega) (by omega) rfl (hv) ?_
  rintro r703 ρ703 f703 g703 ⟨rfl, s703_0, q2⟩
  obtain rfl := s703_0.symm
  refine V_ieqs (tgt := 1935) dL_law_706 rfl ?_
  exact H _ _ _ (hI.nx q1 q2)
theorem w_l_now {N j : Nat} {i : Int} (hI : LWI N j ρ f g) (hj : 6 * j + 6 ≤ N) (hN : N ≤ 3072) (hi : i = 6 * (j : Int)) (hk : kc ≤ 601024) (hs : ks ≤ 7293034) (H : LHC N j kc ks i) : V_LW kc ks 711 [.ref 1005, .ref 0, .ref 104, .ref 148, .int (iz i), .null, .null] [] ρ f g := by
  obtain ⟨⟨T, b, h, hX⟩, hag, hri, hN0⟩ := id hI
  have h5 : f 55 5 < 999000 := by omega
  have hu := uu_now h hX h5 (x1 := f 1005 (6 * j + 1)) (hri (6 * j + 1))
  refine V_al1n dL_law_711 ?_
  refine V_al0n dL_law_712 ?_
  refine V_il4 dL_law_713 ?_
  refine V_iconst dL_law_715 ?_
  refine V_iadd dL_law_716 ?_
  refine V_sld (k := 6 * j + 1) (by omega) (by omega) (by omega) rfl dL_law_717 ?_
  refine V_callV (as := [_]) ml_L_76 im_X11_now se_X11_now kk0 (by decide) (by decide) dL_law_718 rfl rfl (by decide) (by decide) (Nat.le_of_ble_eq_true rfl) (by omega) (by omega) rfl (hu) ?_
  rintro r718 ρ718 f718 g718 ⟨rfl, q1⟩
  have E : HI f g f718 g718 := ⟨q1.2.2.1, q1.2.2.2⟩
  have hv := vv_now h hX h5 q1.fx E (x1 := f 1005 (6 * j + 1)) (hri (6 * j + 1))
  refine V_al2n dL_law_721 ?_
  refine V_al0n dL_law_722 ?_
  refine V_il4 dL_law_723 ?_
  refine V_iconst dL_law_725 ?_
  refine V_iadd dL_law_726 ?_
  refine V_sld (k := 6 * j + 1) (by omega) (by rw [E.2 1005 0 (by omega)]; omega) (by rw [E.2 1005 0 (by omega)]; omega) (E.1 1005 _ (by omega)) dL_law_727 ?_
  refine V_callV (as := [_]) ml_L_79 im_X12_now se_X12_now kk104 (by decide) (by decide) dL_law_728 rfl rfl (by decide) (by decide) (Nat.le_of_ble_eq_true rfl) (by omega) (by omega) rfl (hv) ?_
  rintro r728 ρ728 f728 g728 ⟨rfl, s728_0, q2⟩
  obtain rfl := s728_0.symm
  refine V_ieqs (tgt := 1935) dL_law_731 rfl ?_
  exact H _ _ _ (hI.nx q1 q2)
theorem w_l_paced {N j : Nat} {i : Int} (hI : LWI N j ρ f g) (hj : 6 * j + 6 ≤ N) (hN : N ≤ 3072) (hi : i = 6 * (j : Int)) (hk : kc ≤ 601024) (hs : ks ≤ 7293034) (H : LHC N j kc ks i) : V_LW kc ks 736 [.ref 1005, .ref 0, .ref 104, .ref 148, .int (iz i), .null, .null] [] ρ f g := by
  obtain ⟨⟨T, b, h, hX⟩, hag, hri, hN0⟩ := id hI
  have h5 : f 55 5 < 999000 := by omega
  have hu := uu_paced h hX h5 (x1 := f 1005 (6 * j + 1)) (hri (6 * j + 1))
  refine V_al1n dL_law_736 ?_
  refine V_al0n dL_law_737 ?_
  refine V_il4 dL_law_738 ?_
  refine V_iconst dL_law_740 ?_
  refine V_iadd dL_law_741 ?_
  refine V_sld (k := 6 * j + 1) (by omega) (by omega) (by omega) rfl dL_law_742 ?_
  refine V_callV (as := [_]) ml_L_80 im_X11_paced se_X11_paced kk0 (by decide) (by decide) dL_law_743 rfl rfl (by decide) (by decide) (Nat.le_of_ble_eq_true rfl) (by omega) (by omega) rfl (hu) ?_
  rintro r743 ρ743 f743 g743 ⟨rfl, q1⟩
  have E : HI f g f743 g743 := ⟨q1.2.2.1, q1.2.2.2⟩
  have hv := vv_paced h hX h5 q1.fx E (x1 := f 1005 (6 * j + 1)) (hri (6 * j + 1))
  refine V_al2n dL_law_746 ?_
  refine V_al0n dL_law_747 ?_
  refine V_il4 dL_law_748 ?_
  refine V_iconst dL_law_750 ?_
  refine V_iadd dL_law_751 ?_
  refine V_sld (k := 6 * j + 1) (by omega) (by rw [E.2 1005 0 (by omega)]; omega) (by rw [E.2 1005 0 (by omega)]; omega) (E.1 1005 _ (by omega)) dL_law_752 ?_
  refine V_callV (as := [_]) ml_L_84 im_X12_paced se_X12_paced kk104 (by decide) (by decide) dL_law_753 rfl rfl (by decide) (by decide) (Nat.le_of_ble_eq_true rfl) (by omega) (by omega) rfl (hv) ?_
  rintro r753 ρ753 f753 g753 ⟨rfl, s753_0, q2⟩
  obtain rfl := s753_0.symm
  refine V_ieqs (tgt := 1935) dL_law_756 rfl ?_
  exact H _ _ _ (hI.nx q1 q2)
theorem w_l_shift {N j : Nat} {i : Int} (hI : LWI N j ρ f g) (hj : 6 * j + 6 ≤ N) (hN : N ≤ 3072) (hi : i = 6 * (j : Int)) (hk : kc ≤ 601024) (hs : ks ≤ 7293034) (H : LHC N j kc ks i) : V_LW kc ks 761 [.ref 1005, .ref 0, .ref 104, .ref 148, .int (iz i), .null, .null] [] ρ f g := by
  obtain ⟨⟨T, b, h, hX⟩, hag, hri, hN0⟩ := id hI
  have h5 : f 55 5 < 999000 := by omega
  have hu := uu_shift h hX h5 (x1 := f 1005 (6 * j + 1)) (hri (6 * j + 1))
  refine V_al1n dL_law_761 ?_
  refine V_al0n dL_law_762 ?_
  refine V_il4 dL_law_763 ?_
  refine V_iconst dL_law_765 ?_
  refine V_iadd dL_law_766 ?_
  refine V_sld (k := 6 * j + 1) (by omega) (by omega) (by omega) rfl dL_law_767 ?_
  refine V_callV (as := [_]) ml_L_85 im_X11_shift se_X11_shift kk0 (by decide) (by decide) dL_law_768 rfl rfl (by decide) (by decide) (Nat.le_of_ble_eq_true rfl) (by omega) (by omega) rfl (hu) ?_
  rintro r768 ρ768 f768 g768 ⟨rfl, q1⟩
  have E : HI f g f768 g768 := ⟨q1.2.2.1, q1.2.2.2⟩
  have hv := vv_shift h hX h5 q1.fx E (x1 := f 1005 (6 * j + 1)) (hri (6 * j + 1))
  refine V_al2n dL_law_771 ?_
  refine V_al0n dL_law_772 ?_
  refine V_il4 dL_law_773 ?_
  refine V_iconst dL_law_775 ?_
  refine V_iadd dL_law_776 ?_
  refine V_sld (k := 6 * j + 1) (by omega) (by rw [E.2 1005 0 (by omega)]; omega) (by rw [E.2 1005 0 (by omega)]; omega) (E.1 1005 _ (by omega)) dL_law_777 ?_
  refine V_callV (as := [_]) ml_L_88 im_X12_shift se_X12_shift kk104 (by decide) (by decide) dL_law_778 rfl rfl (by decide) (by decide) (Nat.le_of_ble_eq_true rfl) (by omega) (by omega) rfl (hv) ?_
  rintro r778 ρ778 f778 g778 ⟨rfl, s778_0, q2⟩
  obtain rfl := s778_0.symm
  refine V_ieqs (tgt := 1935) dL_law_781 rfl ?_
  exact H _ _ _ (hI.nx q1 q2)
theorem w_l_undo {N j : Nat} {i : Int} (hI : LWI N j ρ f g) (hj : 6 * j + 6 ≤ N) (hN : N ≤ 3072) (hi : i = 6 * (j : Int)) (hk : kc ≤ 601024) (hs : ks ≤ 7293034) (H : LHC N j kc ks i) : V_LW kc ks 786 [.ref 1005, .ref 0, .ref 104, .ref 148, .int (iz i), .null, .null] [] ρ f g := by
  obtain ⟨⟨T, b, h, hX⟩, hag, hri, hN0⟩ := id hI
  have h5 : f 55 5 < 999000 := by omega
  have hu := uu_undo h hX h5  
  refine V_al1n dL_law_786 ?_
  refine V_callV (as := []) ml_L_89 im_X11_undo se_X11_undo kk0 (by decide) (by decide) dL_law_787 rfl rfl (by decide) (by decide) (Nat.le_of_ble_eq_true rfl) (by omega) (by omega) rfl (hu) ?_
  rintro r787 ρ787 f787 g787 ⟨rfl, q1⟩
  have E : HI f g f787 g787 := ⟨q1.2.2.1, q1.2.2.2⟩
  have hv := vv_undo h hX h5 q1.fx E
  refine V_al2n dL_law_790 ?_
  refine V_callV (as := []) ml_L_92 im_X12_undo se_X12_undo kk104 (by decide) (by decide) dL_law_791 rfl rfl (by decide) (by decide) (Nat.le_of_ble_eq_true rfl) (by omega) (by omega) rfl (hv) ?_
  rintro r791 ρ791 f791 g791 ⟨rfl, s791_0, q2⟩
  obtain rfl := s791_0.symm
  refine V_ieqs (tgt := 1935) dL_law_794 rfl ?_
  exact H _ _ _ (hI.nx q1 q2)
theorem w_l_sack {N j : Nat} {i : Int} (hI : LWI N j ρ f g) (hj : 6 * j + 6 ≤ N) (hN : N ≤ 3072) (hi : i = 6 * (j : Int)) (hk : kc ≤ 601024) (hs : ks ≤ 7293034) (H : LHC N j kc ks i) : V_LW kc ks 799 [.ref 1005, .ref 0, .ref 104, .ref 148, .int (iz i), .null, .null] [] ρ f g := by
  obtain ⟨⟨T, b, h, hX⟩, hag, hri, hN0⟩ := id hI
  have h5 : f 55 5 < 999000 := by omega
  have hu := uu_sack h hX h5 (x1 := f 1005 (6 * j + 1)) (hri (6 * j + 1))
  refine V_al1n dL_law_799 ?_
  refine V_al0n dL_law_800 ?_
  refine V_il4 dL_law_801 ?_
  refine V_iconst dL_law_803 ?_
  refine V_iadd dL_law_804 ?_
  refine V_sld (k := 6 * j + 1) (by omega) (by omega) (by omega) rfl dL_law_805 ?_
  refine V_callV (as := [_]) ml_L_93 im_X11_sack se_X11_sack kk0 (by decide) (by decide) dL_law_806 rfl rfl (by decide) (by decide) (Nat.le_of_ble_eq_true rfl) (by omega) (by omega) rfl (hu) ?_
  rintro r806 ρ806 f806 g806 ⟨rfl, q1⟩
  have E : HI f g f806 g806 := ⟨q1.2.2.1, q1.2.2.2⟩
  have hv := vv_sack h hX h5 q1.fx E (x1 := f 1005 (6 * j + 1)) (hri (6 * j + 1))
  refine V_al2n dL_law_809 ?_
  refine V_al0n dL_law_810 ?_
  refine V_il4 dL_law_811 ?_
  refine V_iconst dL_law_813 ?_
  refine V_iadd dL_law_814 ?_
  refine V_sld (k := 6 * j + 1) (by omega) (by rw [E.2 1005 0 (by omega)]; omega) (by rw [E.2 1005 0 (by omega)]; omega) (E.1 1005 _ (by omega)) dL_law_815 ?_
  refine V_callV (as := [_]) ml_L_96 im_X12_sack se_X12_sack kk104 (by decide) (by decide) dL_law_816 rfl rfl (by decide) (by decide) (Nat.le_of_ble_eq_true rfl) (by omega) (by omega) rfl (hv) ?_
  rintro r816 ρ816 f816 g816 ⟨rfl, s816_0, q2⟩
  obtain rfl := s816_0.symm
  refine V_ieqs (tgt := 1935) dL_law_819 rfl ?_
  exact H _ _ _ (hI.nx q1 q2)
theorem w_l_best {N j : Nat} {i : Int} (hI : LWI N j ρ f g) (hj : 6 * j + 6 ≤ N) (hN : N ≤ 3072) (hi : i = 6 * (j : Int)) (hk : kc ≤ 601024) (hs : ks ≤ 7293034) (H : LHC N j kc ks i) : V_LW kc ks 865 [.ref 1005, .ref 0, .ref 104, .ref 148, .int (iz i), .null, .null] [] ρ f g := by
  obtain ⟨⟨T, b, h, hX⟩, hag, hri, hN0⟩ := id hI
  have h5 : f 55 5 < 999000 := by omega
  have hu := uu_best h hX h5 (x1 := f 1005 (6 * j + 1)) (x2 := f 1005 (6 * j + 2)) (hri (6 * j + 1)) (hri (6 * j + 2))
  refine V_al1n dL_law_865 ?_
  refine V_al0n dL_law_866 ?_
  refine V_il4 dL_law_867 ?_
  refine V_iconst dL_law_869 ?_
  refine V_iadd dL_law_870 ?_
  refine V_sld (k := 6 * j + 1) (by omega) (by omega) (by omega) rfl dL_law_871 ?_
  refine V_al0n dL_law_872 ?_
  refine V_il4 dL_law_873 ?_
  refine V_iconst dL_law_875 ?_
  refine V_iadd dL_law_876 ?_
  refine V_sld (k := 6 * j + 2) (by omega) (by omega) (by omega) rfl dL_law_877 ?_
  refine V_callV (as := [_, _]) ml_L_102 im_X11_best se_X11_best kk0 (by decide) (by decide) dL_law_878 rfl rfl (by decide) (by decide) (Nat.le_of_ble_eq_true rfl) (by omega) (by omega) rfl (hu) ?_
  rintro r878 ρ878 f878 g878 ⟨rfl, q1⟩
  have E : HI f g f878 g878 := ⟨q1.2.2.1, q1.2.2.2⟩
  have hv := vv_best h hX h5 q1.fx E (x1 := f 1005 (6 * j + 1)) (x2 := f 1005 (6 * j + 2)) (hri (6 * j + 1)) (hri (6 * j + 2))
  refine V_al2n dL_law_881 ?_
  refine V_al0n dL_law_882 ?_
  refine V_il4 dL_law_883 ?_
  refine V_iconst dL_law_885 ?_
  refine V_iadd dL_law_886 ?_
  refine V_sld (k := 6 * j + 1) (by omega) (by rw [E.2 1005 0 (by omega)]; omega) (by rw [E.2 1005 0 (by omega)]; omega) (E.1 1005 _ (by omega)) dL_law_887 ?_
  refine V_al0n dL_law_888 ?_
  refine V_il4 dL_law_889 ?_
  refine V_iconst dL_law_891 ?_
  refine V_iadd dL_law_892 ?_
  refine V_sld (k := 6 * j + 2) (by omega) (by rw [E.2 1005 0 (by omega)]; omega) (by rw [E.2 1005 0 (by omega)]; omega) (E.1 1005 _ (by omega)) dL_law_893 ?_
  refine V_callV (as := [_, _]) ml_L_105 im_X12_best se_X12_best kk104 (by decide) (by decide) dL_law_894 rfl rfl (by decide) (by decide) (Nat.le_of_ble_eq_true rfl) (by omega) (by omega) rfl (hv) ?_
  rintro r894 ρ894 f894 g894 ⟨rfl, s894_0, q2⟩
  obtain rfl := s894_0.symm
  refine V_ieqs (tgt := 1935) dL_law_897 rfl ?_
  exact H _ _ _ (hI.nx q1 q2)
theorem w_l_paces {N j : Nat} {i : Int} (hI : LWI N j ρ f g) (hj : 6 * j + 6 ≤ N) (hN : N ≤ 3072) (hi : i = 6 * (j : Int)) (hk : kc ≤ 601024) (hs : ks ≤ 7293034) (H : LHC N j kc ks i) : V_LW kc ks 902 [.ref 1005, .ref 0, .ref 104, .ref 148, .int (iz i), .null, .null] [] ρ f g := by
  obtain ⟨⟨T, b, h, hX⟩, hag, hri, hN0⟩ := id hI
  have h5 : f 55 5 < 999000 := by omega
  have hu := uu_paces h hX h5 (x1 := f 1005 (6 * j + 1)) (x2 := f 1005 (6 * j + 2)) (x3 := f 1005 (6 * j + 3)) (hri (6 * j + 1)) (hri (6 * j + 2)) (hri (6 * j + 3))
  refine V_al1n dL_law_902 ?_
  refine V_al0n dL_law_903 ?_
  refine V_il4 dL_law_904 ?_
  refine V_iconst dL_law_906 ?_
  refine V_iadd dL_law_907 ?_
  refine V_sld (k := 6 * j + 1) (by omega) (by omega) (by omega) rfl dL_law_908 ?_
  refine V_al0n dL_law_909 ?_
  refine V_il4 dL_law_910 ?_
  refine V_iconst dL_law_912 ?_
  refine V_iadd dL_law_913 ?_
  refine V_sld (k := 6 * j + 2) (by omega) (by omega) (by omega) rfl dL_law_914 ?_
  refine V_al0n dL_law_915 ?_
  refine V_il4 dL_law_916 ?_
  refine V_iconst dL_law_918 ?_
  refine V_iadd dL_law_919 ?_
  refine V_sld (k := 6 * j + 3) (by omega) (by omega) (by omega) rfl dL_law_920 ?_
  refine V_callV (as := [_, _, _]) ml_L_106 im_X11_paces se_X11_paces kk0 (by decide) (by decide) dL_law_921 rfl rfl (by decide) (by decide) (Nat.le_of_ble_eq_true rfl) (by omega) (by omega) rfl (hu) ?_
  rintro r921 ρ921 f921 g921 ⟨rfl, q1⟩
  have E : HI f g f921 g921 := ⟨q1.2.2.1, q1.2.2.2⟩
  have hv := vv_paces h hX h5 q1.fx E (x1 := f 1005 (6 * j + 1)) (x2 := f 1005 (6 * j + 2)) (x3 := f 1005 (6 * j + 3)) (hri (6 * j + 1)) (hri (6 * j + 2)) (hri (6 * j + 3))
  refine V_al2n dL_law_924 ?_
  refine V_al0n dL_law_925 ?_
  refine V_il4 dL_law_926 ?_
  refine V_iconst dL_law_928 ?_
  refine V_iadd dL_law_929 ?_
  refine V_sld (k := 6 * j + 1) (by omega) (by rw [E.2 1005 0 (by omega)]; omega) (by rw [E.2 1005 0 (by omega)]; omega) (E.1 1005 _ (by omega)) dL_law_930 ?_
  refine V_al0n dL_law_931 ?_
  refine V_il4 dL_law_932 ?_
  refine V_iconst dL_law_934 ?_
  refine V_iadd dL_law_935 ?_
  refine V_sld (k := 6 * j + 2) (by omega) (by rw [E.2 1005 0 (by omega)]; omega) (by rw [E.2 1005 0 (by omega)]; omega) (E.1 1005 _ (by omega)) dL_law_936 ?_
  refine V_al0n dL_law_937 ?_
  refine V_il4 dL_law_938 ?_
  refine V_iconst dL_law_940 ?_
  refine V_iadd dL_law_941 ?_
  refine V_sld (k := 6 * j + 3) (by omega) (by rw [E.2 1005 0 (by omega)]; omega) (by rw [E.2 1005 0 (by omega)]; omega) (E.1 1005 _ (by omega)) dL_law_942 ?_
  refine V_callV (as := [_, _, _]) ml_L_109 im_X12_paces se_X12_paces kk104 (by decide) (by decide) dL_law_943 rfl rfl (by decide) (by decide) (Nat.le_of_ble_eq_true rfl) (by omega) (by omega) rfl (hv) ?_
  rintro r943 ρ943 f943 g943 ⟨rfl, s943_0, q2⟩
  obtain rfl := s943_0.symm
  refine V_ieqs (tgt := 1935) dL_law_946 rfl ?_
  exact H _ _ _ (hI.nx q1 q2)
theorem w_l_quick {N j : Nat} {i : Int} (hI : LWI N j ρ f g) (hj : 6 * j + 6 ≤ N) (hN : N ≤ 3072) (hi : i = 6 * (j : Int)) (hk : kc ≤ 601024) (hs : ks ≤ 7293034) (H : LHC N j kc ks i) : V_LW kc ks 951 [.ref 1005, .ref 0, .ref 104, .ref 148, .int (iz i), .null, .null] [] ρ f g := by
  obtain ⟨⟨T, b, h, hX⟩, hag, hri, hN0⟩ := id hI
  have h5 : f 55 5 < 999000 := by omega
  have hu := uu_quick h hX h5 (x1 := f 1005 (6 * j + 1)) (x2 := f 1005 (6 * j + 2)) (x3 := f 1005 (6 * j + 3)) (hri (6 * j + 1)) (hri (6 * j + 2)) (hri (6 * j + 3))
  refine V_al1n dL_law_951 ?_
  refine V_al0n dL_law_952 ?_
  refine V_il4 dL_law_953 ?_
  refine V_iconst dL_law_955 ?_
  refine V_iadd dL_law_956 ?_
  refine V_sld (k := 6 * j + 1) (by omega) (by omega) (by omega) rfl dL_law_957 ?_
  refine V_al0n dL_law_958 ?_
  refine V_il4 dL_law_959 ?_
  refine V_iconst dL_law_961 ?_
  refine V_iadd dL_law_962 ?_
  refine V_sld (k := 6 * j + 2) (by omega) (by omega) (by omega) rfl dL_law_963 ?_
  refine V_al0n dL_law_964 ?_
  refine V_il4 dL_law_965 ?_
  refine V_iconst dL_law_967 ?_
  refine V_iadd dL_law_968 ?_
  refine V_sld (k := 6 * j + 3) (by omega) (by omega) (by omega) rfl dL_law_969 ?_
  refine V_callV (as := [_, _, _]) ml_L_110 im_X11_quick se_X11_quick kk0 (by decide) (by decide) dL_law_970 rfl rfl (by decide) (by decide) (Nat.le_of_ble_eq_true rfl) (by omega) (by omega) rfl (hu) ?_
  rintro r970 ρ970 f970 g970 ⟨rfl, q1⟩
  have E : HI f g f970 g970 := ⟨q1.2.2.1, q1.2.2.2⟩
  have hv := vv_quick h hX h5 q1.fx E (x1 := f 1005 (6 * j + 1)) (x2 := f 1005 (6 * j + 2)) (x3 := f 1005 (6 * j + 3)) (hri (6 * j + 1)) (hri (6 * j + 2)) (hri (6 * j + 3))
  refine V_al2n dL_law_973 ?_
  refine V_al0n dL_law_974 ?_
  refine V_il4 dL_law_975 ?_
  refine V_iconst dL_law_977 ?_
  refine V_iadd dL_law_978 ?_
  refine V_sld (k := 6 * j + 1) (by omega) (by rw [E.2 1005 0 (by omega)]; omega) (by rw [E.2 1005 0 (by omega)]; omega) (E.1 1005 _ (by omega)) dL_law_979 ?_
  refine V_al0n dL_law_980 ?_
  refine V_il4 dL_law_981 ?_
  refine V_iconst dL_law_983 ?_
  refine V_iadd dL_law_984 ?_
  refine V_sld (k := 6 * j + 2) (by omega) (by rw [E.2 1005 0 (by omega)]; omega) (by rw [E.2 1005 0 (by omega)]; omega) (E.1 1005 _ (by omega)) dL_law_985 ?_
  refine V_al0n dL_law_986 ?_
  refine V_il4 dL_law_987 ?_
  refine V_iconst dL_law_989 ?_
  refine V_iadd dL_law_990 ?_
  refine V_sld (k := 6 * j + 3) (by omega) (by rw [E.2 1005 0 (by omega)]; omega) (by rw [E.2 1005 0 (by omega)]; omega) (E.1 1005 _ (by omega)) dL_law_991 ?_
  refine V_callV (as := [_, _, _]) ml_L_113 im_X12_quick se_X12_quick kk104 (by decide) (by decide) dL_law_992 rfl rfl (by decide) (by decide) (Nat.le_of_ble_eq_true rfl) (by omega) (by omega) rfl (hv) ?_
  rintro r992 ρ992 f992 g992 ⟨rfl, s992_0, q2⟩
  obtain rfl := s992_0.symm
  refine V_ieqs (tgt := 1935) dL_law_995 rfl ?_
  exact H _ _ _ (hI.nx q1 q2)
theorem w_l_safe {N j : Nat} {i : Int} (hI : LWI N j ρ f g) (hj : 6 * j + 6 ≤ N) (hN : N ≤ 3072) (hi : i = 6 * (j : Int)) (hk : kc ≤ 601024) (hs : ks ≤ 7293034) (H : LHC N j kc ks i) : V_LW kc ks 1000 [.ref 1005, .ref 0, .ref 104, .ref 148, .int (iz i), .null, .null] [] ρ f g := by
  obtain ⟨⟨T, b, h, hX⟩, hag, hri, hN0⟩ := id hI
  have h5 : f 55 5 < 999000 := by omega
  have hu := uu_safe h hX h5 (x1 := f 1005 (6 * j + 1)) (x2 := f 1005 (6 * j + 2)) (x3 := f 1005 (6 * j + 3)) (x4 := f 1005 (6 * j + 4)) (hri (6 * j + 1)) (hri (6 * j + 2)) (hri (6 * j + 3)) (hri (6 * j + 4))
  refine V_al1n dL_law_1000 ?_
  refine V_al0n dL_law_1001 ?_
  refine V_il4 dL_law_1002 ?_
  refine V_iconst dL_law_1004 ?_
  refine V_iadd dL_law_1005 ?_
  refine V_sld (k := 6 * j + 1) (by omega) (by omega) (by omega) rfl dL_law_1006 ?_
  refine V_al0n dL_law_1007 ?_
  refine V_il4 dL_law_1008 ?_
  refine V_iconst dL_law_1010 ?_
  refine V_iadd dL_law_1011 ?_
  refine V_sld (k := 6 * j + 2) (by omega) (by omega) (by omega) rfl dL_law_1012 ?_
  refine V_al0n dL_law_1013 ?_
  refine V_il4 dL_law_1014 ?_
  refine V_iconst dL_law_1016 ?_
  refine V_iadd dL_law_1017 ?_
  refine V_sld (k := 6 * j + 3) (by omega) (by omega) (by omega) rfl dL_law_1018 ?_
  refine V_al0n dL_law_1019 ?_
  refine V_il4 dL_law_1020 ?_
  refine V_iconst dL_law_1022 ?_
  refine V_iadd dL_law_1023 ?_
  refine V_sld (k := 6 * j + 4) (by omega) (by omega) (by omega) rfl dL_law_1024 ?_
  refine V_callV (as := [_, _, _, _]) ml_L_114 im_X11_safe se_X11_safe kk0 (by decide) (by decide) dL_law_1025 rfl rfl (by decide) (by decide) (Nat.le_of_ble_eq_true rfl) (by omega) (by omega) rfl (hu) ?_
  rintro r1025 ρ1025 f1025 g1025 ⟨rfl, q1⟩
  have E : HI f g f1025 g1025 := ⟨q1.2.2.1, q1.2.2.2⟩
  have hv := vv_safe h hX h5 q1.fx E (x1 := f 1005 (6 * j + 1)) (x2 := f 1005 (6 * j + 2)) (x3 := f 1005 (6 * j + 3)) (x4 := f 1005 (6 * j + 4)) (hri (6 * j + 1)) (hri (6 * j + 2)) (hri (6 * j + 3)) (hri (6 * j + 4))
  refine V_al2n dL_law_1028 ?_
  refine V_al0n dL_law_1029 ?_
  refine V_il4 dL_law_1030 ?_
  refine V_iconst dL_law_1032 ?_
  refine V_iadd dL_law_1033 ?_
  refine V_sld (k := 6 * j + 1) (by omega) (by rw [E.2 1005 0 (by omega)]; omega) (by rw [E.2 1005 0 (by omega)]; omega) (E.1 1005 _ (by omega)) dL_law_1034 ?_
  refine V_al0n dL_law_1035 ?_
  refine V_il4 dL_law_1036 ?_
  refine V_iconst dL_law_1038 ?_
  refine V_iadd dL_law_1039 ?_
  refine V_sld (k := 6 * j + 2) (by omega) (by rw [E.2 1005 0 (by omega)]; omega) (by rw [E.2 1005 0 (by omega)]; omega) (E.1 1005 _ (by omega)) dL_law_1040 ?_
  refine V_al0n dL_law_1041 ?_
  refine V_il4 dL_law_1042 ?_
  refine V_iconst dL_law_1044 ?_
  refine V_iadd dL_law_1045 ?_
  refine V_sld (k := 6 * j + 3) (by omega) (by rw [E.2 1005 0 (by omega)]; omega) (by rw [E.2 1005 0 (by omega)]; omega) (E.1 1005 _ (by omega)) dL_law_1046 ?_
  refine V_al0n dL_law_1047 ?_
  refine V_il4 dL_law_1048 ?_
  refine V_iconst dL_law_1050 ?_
  refine V_iadd dL_law_1051 ?_
  refine V_sld (k := 6 * j + 4) (by omega) (by rw [E.2 1005 0 (by omega)]; omega) (by rw [E.2 1005 0 (by omega)]; omega) (E.1 1005 _ (by omega)) dL_law_1052 ?_
  refine V_callV (as := [_, _, _, _]) ml_L_118 im_X12_safe se_X12_safe kk104 (by decide) (by decide) dL_law_1053 rfl rfl (by decide) (by decide) (Nat.le_of_ble_eq_true rfl) (by omega) (by omega) rfl (hv) ?_
  rintro r1053 ρ1053 f1053 g1053 ⟨rfl, s1053_0, q2⟩
  obtain rfl := s1053_0.symm
  refine V_ieqs (tgt := 1935) dL_law_1056 rfl ?_
  exact H _ _ _ (hI.nx q1 q2)
theorem w_l_held {N j : Nat} {i : Int} (hI : LWI N j ρ f g) (hj : 6 * j + 6 ≤ N) (hN : N ≤ 3072) (hi : i = 6 * (j : Int)) (hk : kc ≤ 601024) (hs : ks ≤ 7293034) (H : LHC N j kc ks i) : V_LW kc ks 1061 [.ref 1005, .ref 0, .ref 104, .ref 148, .int (iz i), .null, .null] [] ρ f g := by
  obtain ⟨⟨T, b, h, hX⟩, hag, hri, hN0⟩ := id hI
  have h5 : f 55 5 < 999000 := by omega
  have hu := uu_held h hX h5 (x1 := f 1005 (6 * j + 1)) (x2 := f 1005 (6 * j + 2)) (hri (6 * j + 1)) (hri (6 * j + 2))
  refine V_al1n dL_law_1061 ?_
  refine V_al0n dL_law_1062 ?_
  refine V_il4 dL_law_1063 ?_
  refine V_iconst dL_law_1065 ?_
  refine V_iadd dL_law_1066 ?_
  refine V_sld (k := 6 * j + 1) (by omega) (by omega) (by omega) rfl dL_law_1067 ?_
  refine V_al0n dL_law_1068 ?_
  refine V_il4 dL_law_1069 ?_
  refine V_iconst dL_law_1071 ?_
  refine V_iadd dL_law_1072 ?_
  refine V_sld (k := 6 * j + 2) (by omega) (by omega) (by omega) rfl dL_law_1073 ?_
  refine V_callV (as := [_, _]) ml_L_119 im_X11_held se_X11_held kk0 (by decide) (by decide) dL_law_1074 rfl rfl (by decide) (by decide) (Nat.le_of_ble_eq_true rfl) (by omega) (by omega) rfl (hu) ?_
  rintro r1074 ρ1074 f1074 g1074 ⟨rfl, q1⟩
  have E : HI f g f1074 g1074 := ⟨q1.2.2.1, q1.2.2.2⟩
  have hv := vv_held h hX h5 q1.fx E (x1 := f 1005 (6 * j + 1)) (x2 := f 1005 (6 * j + 2)) (hri (6 * j + 1)) (hri (6 * j + 2))
  refine V_al2n dL_law_1077 ?_
  refine V_al0n dL_law_1078 ?_
  refine V_il4 dL_law_1079 ?_
  refine V_iconst dL_law_1081 ?_
  refine V_iadd dL_law_1082 ?_
  refine V_sld (k := 6 * j + 1) (by omega) (by rw [E.2 1005 0 (by omega)]; omega) (by rw [E.2 1005 0 (by omega)]; omega) (E.1 1005 _ (by omega)) dL_law_1083 ?_
  refine V_al0n dL_law_1084 ?_
  refine V_il4 dL_law_1085 ?_
  refine V_iconst dL_law_1087 ?_
  refine V_iadd dL_law_1088 ?_
  refine V_sld (k := 6 * j + 2) (by omega) (by rw [E.2 1005 0 (by omega)]; omega) (by rw [E.2 1005 0 (by omega)]; omega) (E.1 1005 _ (by omega)) dL_law_1089 ?_
  refine V_callV (as := [_, _]) ml_L_122 im_X12_held se_X12_held kk104 (by decide) (by decide) dL_law_1090 rfl rfl (by decide) (by decide) (Nat.le_of_ble_eq_true rfl) (by omega) (by omega) rfl (hv) ?_
  rintro r1090 ρ1090 f1090 g1090 ⟨rfl, s1090_0, q2⟩
  obtain rfl := s1090_0.symm
  refine V_ieqs (tgt := 1935) dL_law_1093 rfl ?_
  exact H _ _ _ (hI.nx q1 q2)
theorem w_l_weighed {N j : Nat} {i : Int} (hI : LWI N j ρ f g) (hj : 6 * j + 6 ≤ N) (hN : N ≤ 3072) (hi : i = 6 * (j : Int)) (hk : kc ≤ 601024) (hs : ks ≤ 7293034) (H : LHC N j kc ks i) : V_LW kc ks 1098 [.ref 1005, .ref 0, .ref 104, .ref 148, .int (iz i), .null, .null] [] ρ f g := by
  obtain ⟨⟨T, b, h, hX⟩, hag, hri, hN0⟩ := id hI
  have h5 : f 55 5 < 999000 := by omega
  have hu := uu_weighed h hX h5 (x1 := f 1005 (6 * j + 1)) (x2 := f 1005 (6 * j + 2)) (x3 := f 1005 (6 * j + 3)) (x4 := f 1005 (6 * j + 4)) (hri (6 * j + 1)) (hri (6 * j + 2)) (hri (6 * j + 3)) (hri (6 * j + 4))
  refine V_al1n dL_law_1098 ?_
  refine V_al0n dL_law_1099 ?_
  refine V_il4 dL_law_1100 ?_
  refine V_iconst dL_law_1102 ?_
  refine V_iadd dL_law_1103 ?_
  refine V_sld (k := 6 * j + 1) (by omega) (by omega) (by omega) rfl dL_law_1104 ?_
  refine V_al0n dL_law_1105 ?_
  refine V_il4 dL_law_1106 ?_
  refine V_iconst dL_law_1108 ?_
  refine V_iadd dL_law_1109 ?_
  refine V_sld (k := 6 * j + 2) (by omega) (by omega) (by omega) rfl dL_law_1110 ?_
  refine V_al0n dL_law_1111 ?_
  refine V_il4 dL_law_1112 ?_
  refine V_iconst dL_law_1114 ?_
  refine V_iadd dL_law_1115 ?_
  refine V_sld (k := 6 * j + 3) (by omega) (by omega) (by omega) rfl dL_law_1116 ?_
  refine V_al0n dL_law_1117 ?_
  refine V_il4 dL_law_1118 ?_
  refine V_iconst dL_law_1120 ?_
  refine V_iadd dL_law_1121 ?_
  refine V_sld (k := 6 * j + 4) (by omega) (by omega) (by omega) rfl dL_law_1122 ?_
  refine V_callV (as := [_, _, _, _]) ml_L_123 im_X11_weighed se_X11_weighed kk0 (by decide) (by decide) dL_law_1123 rfl rfl (by decide) (by decide) (Nat.le_of_ble_eq_true rfl) (by omega) (by omega) rfl (hu) ?_
  rintro r1123 ρ1123 f1123 g1123 ⟨rfl, q1⟩
  have E : HI f g f1123 g1123 := ⟨q1.2.2.1, q1.2.2.2⟩
  have hv := vv_weighed h hX h5 q1.fx E (x1 := f 1005 (6 * j + 1)) (x2 := f 1005 (6 * j + 2)) (x3 := f 1005 (6 * j + 3)) (x4 := f 1005 (6 * j + 4)) (hri (6 * j + 1)) (hri (6 * j + 2)) (hri (6 * j + 3)) (hri (6 * j + 4))
  refine V_al2n dL_law_1126 ?_
  refine V_al0n dL_law_1127 ?_
  refine V_il4 dL_law_1128 ?_
  refine V_iconst dL_law_1130 ?_
  refine V_iadd dL_law_1131 ?_
  refine V_sld (k := 6 * j + 1) (by omega) (by rw [E.2 1005 0 (by omega)]; omega) (by rw [E.2 1005 0 (by omega)]; omega) (E.1 1005 _ (by omega)) dL_law_1132 ?_
  refine V_al0n dL_law_1133 ?_
  refine V_il4 dL_law_1134 ?_
  refine V_iconst dL_law_1136 ?_
  refine V_iadd dL_law_1137 ?_
  refine V_sld (k := 6 * j + 2) (by omega) (by rw [E.2 1005 0 (by omega)]; omega) (by rw [E.2 1005 0 (by omega)]; omega) (E.1 1005 _ (by omega)) dL_law_1138 ?_
  refine V_al0n dL_law_1139 ?_
  refine V_il4 dL_law_1140 ?_
  refine V_iconst dL_law_1142 ?_
  refine V_iadd dL_law_1143 ?_
  refine V_sld (k := 6 * j + 3) (by omega) (by rw [E.2 1005 0 (by omega)]; omega) (by rw [E.2 1005 0 (by omega)]; omega) (E.1 1005 _ (by omega)) dL_law_1144 ?_
  refine V_al0n dL_law_1145 ?_
  refine V_il4 dL_law_1146 ?_
  refine V_iconst dL_law_1148 ?_
  refine V_iadd dL_law_1149 ?_
  refine V_sld (k := 6 * j + 4) (by omega) (by rw [E.2 1005 0 (by omega)]; omega) (by rw [E.2 1005 0 (by omega)]; omega) (E.1 1005 _ (by omega)) dL_law_1150 ?_
  refine V_callV (as := [_, _, _, _]) ml_L_126 im_X12_weighed se_X12_weighed kk104 (by decide) (by decide) dL_law_1151 rfl rfl (by decide) (by decide) (Nat.le_of_ble_eq_true rfl) (by omega) (by omega) rfl (hv) ?_
  rintro r1151 ρ1151 f1151 g1151 ⟨rfl, s1151_0, q2⟩
  obtain rfl := s1151_0.symm
  refine V_ieqs (tgt := 1935) dL_law_1154 rfl ?_
  exact H _ _ _ (hI.nx q1 q2)
theorem w_l_flat {N j : Nat} {i : Int} (hI : LWI N j ρ f g) (hj : 6 * j + 6 ≤ N) (hN : N ≤ 3072) (hi : i = 6 * (j : Int)) (hk : kc ≤ 601024) (hs : ks ≤ 7293034) (H : LHC N j kc ks i) : V_LW kc ks 1159 [.ref 1005, .ref 0, .ref 104, .ref 148, .int (iz i), .null, .null] [] ρ f g := by
  obtain ⟨⟨T, b, h, hX⟩, hag, hri, hN0⟩ := id hI
  have h5 : f 55 5 < 999000 := by omega
  have hu := uu_flat h hX h5 (x1 := f 1005 (6 * j + 1)) (x2 := f 1005 (6 * j + 2)) (hri (6 * j + 1)) (hri (6 * j + 2))
  refine V_al1n dL_law_1159 ?_
  refine V_al0n dL_law_1160 ?_
  refine V_il4 dL_law_1161 ?_
  refine V_iconst dL_law_1163 ?_
  refine V_iadd dL_law_1164 ?_
  refine V_sld (k := 6 * j + 1) (by omega) (by omega) (by omega) rfl dL_law_1165 ?_
  refine V_al0n dL_law_1166 ?_
  refine V_il4 dL_law_1167 ?_
  refine V_iconst dL_law_1169 ?_
  refine V_iadd dL_law_1170 ?_
  refine V_sld (k := 6 * j + 2) (by omega) (by omega) (by omega) rfl dL_law_1171 ?_
  refine V_callV (as := [_, _]) ml_L_127 im_X11_flat se_X11_flat kk0 (by decide) (by decide) dL_law_1172 rfl rfl (by decide) (by decide) (Nat.le_of_ble_eq_true rfl) (by omega) (by omega) rfl (hu) ?_
  rintro r1172 ρ1172 f1172 g1172 ⟨rfl, q1⟩
  have E : HI f g f1172 g1172 := ⟨q1.2.2.1, q1.2.2.2⟩
  have hv := vv_flat h hX h5 q1.fx E (x1 := f 1005 (6 * j + 1)) (x2 := f 1005 (6 * j + 2)) (hri (6 * j + 1)) (hri (6 * j + 2))
  refine V_al2n dL_law_1175 ?_
  refine V_al0n dL_law_1176 ?_
  refine V_il4 dL_law_1177 ?_
  refine V_iconst dL_law_1179 ?_
  refine V_iadd dL_law_1180 ?_
  refine V_sld (k := 6 * j + 1) (by omega) (by rw [E.2 1005 0 (by omega)]; omega) (by rw [E.2 1005 0 (by omega)]; omega) (E.1 1005 _ (by omega)) dL_law_1181 ?_
  refine V_al0n dL_law_1182 ?_
  refine V_il4 dL_law_1183 ?_
  refine V_iconst dL_law_1185 ?_
  refine V_iadd dL_law_1186 ?_
  refine V_sld (k := 6 * j + 2) (by omega) (by rw [E.2 1005 0 (by omega)]; omega) (by rw [E.2 1005 0 (by omega)]; omega) (E.1 1005 _ (by omega)) dL_law_1187 ?_
  refine V_callV (as := [_, _]) ml_L_130 im_X12_flat se_X12_flat kk104 (by decide) (by decide) dL_law_1188 rfl rfl (by decide) (by decide) (Nat.le_of_ble_eq_true rfl) (by omega) (by omega) rfl (hv) ?_
  rintro r1188 ρ1188 f1188 g1188 ⟨rfl, s1188_0, q2⟩
  obtain rfl := s1188_0.symm
  refine V_ieqs (tgt := 1935) dL_law_1191 rfl ?_
  exact H _ _ _ (hI.nx q1 q2)
theorem w_l_alike {N j : Nat} {i : Int} (hI : LWI N j ρ f g) (hj : 6 * j + 6 ≤ N) (hN : N ≤ 3072) (hi : i = 6 * (j : Int)) (hk : kc ≤ 601024) (hs : ks ≤ 7293034) (H : LHC N j kc ks i) : V_LW kc ks 1196 [.ref 1005, .ref 0, .ref 104, .ref 148, .int (iz i), .null, .null] [] ρ f g := by
  obtain ⟨⟨T, b, h, hX⟩, hag, hri, hN0⟩ := id hI
  have h5 : f 55 5 < 999000 := by omega
  have hu := uu_alike h hX h5 (x1 := f 1005 (6 * j + 1)) (x2 := f 1005 (6 * j + 2)) (x3 := f 1005 (6 * j + 3)) (hri (6 * j + 1)) (hri (6 * j + 2)) (hri (6 * j + 3))
  refine V_al1n dL_law_1196 ?_
  refine V_al0n dL_law_1197 ?_
  refine V_il4 dL_law_1198 ?_
  refine V_iconst dL_law_1200 ?_
  refine V_iadd dL_law_1201 ?_
  refine V_sld (k := 6 * j + 1) (by omega) (by omega) (by omega) rfl dL_law_1202 ?_
  refine V_al0n dL_law_1203 ?_
  refine V_il4 dL_law_1204 ?_
  refine V_iconst dL_law_1206 ?_
  refine V_iadd dL_law_1207 ?_
  refine V_sld (k := 6 * j + 2) (by omega) (by omega) (by omega) rfl dL_law_1208 ?_
  refine V_al0n dL_law_1209 ?_
  refine V_il4 dL_law_1210 ?_
  refine V_iconst dL_law_1212 ?_
  refine V_iadd dL_law_1213 ?_
  refine V_sld (k := 6 * j + 3) (by omega) (by omega) (by omega) rfl dL_law_1214 ?_
  refine V_callV (as := [_, _, _]) ml_L_131 im_X11_alike se_X11_alike kk0 (by decide) (by decide) dL_law_1215 rfl rfl (by decide) (by decide) (Nat.le_of_ble_eq_true rfl) (by omega) (by omega) rfl (hu) ?_
  rintro r1215 ρ1215 f1215 g1215 ⟨rfl, q1⟩
  have E : HI f g f1215 g1215 := ⟨q1.2.2.1, q1.2.2.2⟩
  have hv := vv_alike h hX h5 q1.fx E (x1 := f 1005 (6 * j + 1)) (x2 := f 1005 (6 * j + 2)) (x3 := f 1005 (6 * j + 3)) (hri (6 * j + 1)) (hri (6 * j + 2)) (hri (6 * j + 3))
  refine V_al2n dL_law_1218 ?_
  refine V_al0n dL_law_1219 ?_
  refine V_il4 dL_law_1220 ?_
  refine V_iconst dL_law_1222 ?_
  refine V_iadd dL_law_1223 ?_
  refine V_sld (k := 6 * j + 1) (by omega) (by rw [E.2 1005 0 (by omega)]; omega) (by rw [E.2 1005 0 (by omega)]; omega) (E.1 1005 _ (by omega)) dL_law_1224 ?_
  refine V_al0n dL_law_1225 ?_
  refine V_il4 dL_law_1226 ?_
  refine V_iconst dL_law_1228 ?_
  refine V_iadd dL_law_1229 ?_
  refine V_sld (k := 6 * j + 2) (by omega) (by rw [E.2 1005 0 (by omega)]; omega) (by rw [E.2 1005 0 (by omega)]; omega) (E.1 1005 _ (by omega)) dL_law_1230 ?_
  refine V_al0n dL_law_1231 ?_
  refine V_il4 dL_law_1232 ?_
  refine V_iconst dL_law_1234 ?_
  refine V_iadd dL_law_1235 ?_
  refine V_sld (k := 6 * j + 3) (by omega) (by rw [E.2 1005 0 (by omega)]; omega) (by rw [E.2 1005 0 (by omega)]; omega) (E.1 1005 _ (by omega)) dL_law_1236 ?_
  refine V_callV (as := [_, _, _]) ml_L_134 im_X12_alike se_X12_alike kk104 (by decide) (by decide) dL_law_1237 rfl rfl (by decide) (by decide) (Nat.le_of_ble_eq_true rfl) (by omega) (by omega) rfl (hv) ?_
  rintro r1237 ρ1237 f1237 g1237 ⟨rfl, s1237_0, q2⟩
  obtain rfl := s1237_0.symm
  refine V_ieqs (tgt := 1935) dL_law_1240 rfl ?_
  exact H _ _ _ (hI.nx q1 q2)
theorem w_l_trained {N j : Nat} {i : Int} (hI : LWI N j ρ f g) (hj : 6 * j + 6 ≤ N) (hN : N ≤ 3072) (hi : i = 6 * (j : Int)) (hk : kc ≤ 601024) (hs : ks ≤ 7293034) (H : LHC N j kc ks i) : V_LW kc ks 1245 [.ref 1005, .ref 0, .ref 104, .ref 148, .int (iz i), .null, .null] [] ρ f g := by
  obtain ⟨⟨T, b, h, hX⟩, hag, hri, hN0⟩ := id hI
  have h5 : f 55 5 < 999000 := by omega
  have hu := uu_trained h hX h5 (x1 := f 1005 (6 * j + 1)) (x2 := f 1005 (6 * j + 2)) (x3 := f 1005 (6 * j + 3)) (x4 := f 1005 (6 * j + 4)) (hri (6 * j + 1)) (hri (6 * j + 2)) (hri (6 * j + 3)) (hri (6 * j + 4))
  refine V_al1n dL_law_1245 ?_
  refine V_al0n dL_law_1246 ?_
  refine V_il4 dL_law_1247 ?_
  refine V_iconst dL_law_1249 ?_
  refine V_iadd dL_law_1250 ?_
  refine V_sld (k := 6 * j + 1) (by omega) (by omega) (by omega) rfl dL_law_1251 ?_
  refine V_al0n dL_law_1252 ?_
  refine V_il4 dL_law_1253 ?_
  refine V_iconst dL_law_1255 ?_
  refine V_iadd dL_law_1256 ?_
  refine V_sld (k := 6 * j + 2) (by omega) (by omega) (by omega) rfl dL_law_1257 ?_
  refine V_al0n dL_law_1258 ?_
  refine V_il4 dL_law_1259 ?_
  refine V_iconst dL_law_1261 ?_
  refine V_iadd dL_law_1262 ?_
  refine V_sld (k := 6 * j + 3) (by omega) (by omega) (by omega) rfl dL_law_1263 ?_
  refine V_al0n dL_law_1264 ?_
  refine V_il4 dL_law_1265 ?_
  refine V_iconst dL_law_1267 ?_
  refine V_iadd dL_law_1268 ?_
  refine V_sld (k := 6 * j + 4) (by omega) (by omega) (by omega) rfl dL_law_1269 ?_
  refine V_callV (as := [_, _, _, _]) ml_L_135 im_X11_trained se_X11_trained kk0 (by decide) (by decide) dL_law_1270 rfl rfl (by decide) (by decide) (Nat.le_of_ble_eq_true rfl) (by omega) (by omega) rfl (hu) ?_
  rintro r1270 ρ1270 f1270 g1270 ⟨rfl, q1⟩
  have E : HI f g f1270 g1270 := ⟨q1.2.2.1, q1.2.2.2⟩
  have hv := vv_trained h hX h5 q1.fx E (x1 := f 1005 (6 * j + 1)) (x2 := f 1005 (6 * j + 2)) (x3 := f 1005 (6 * j + 3)) (x4 := f 1005 (6 * j + 4)) (hri (6 * j + 1)) (hri (6 * j + 2)) (hri (6 * j + 3)) (hri (6 * j + 4))
  refine V_al2n dL_law_1273 ?_
  refine V_al0n dL_law_1274 ?_
  refine V_il4 dL_law_1275 ?_
  refine V_iconst dL_law_1277 ?_
  refine V_iadd dL_law_1278 ?_
  refine V_sld (k := 6 * j + 1) (by omega) (by rw [E.2 1005 0 (by omega)]; omega) (by rw [E.2 1005 0 (by omega)]; omega) (E.1 1005 _ (by omega)) dL_law_1279 ?_
  refine V_al0n dL_law_1280 ?_
  refine V_il4 dL_law_1281 ?_
  refine V_iconst dL_law_1283 ?_
  refine V_iadd dL_law_1284 ?_
  refine V_sld (k := 6 * j + 2) (by omega) (by rw [E.2 1005 0 (by omega)]; omega) (by rw [E.2 1005 0 (by omega)]; omega) (E.1 1005 _ (by omega)) dL_law_1285 ?_
  refine V_al0n dL_law_1286 ?_
  refine V_il4 dL_law_1287 ?_
  refine V_iconst dL_law_1289 ?_
  refine V_iadd dL_law_1290 ?_
  refine V_sld (k := 6 * j + 3) (by omega) (by rw [E.2 1005 0 (by omega)]; omega) (by rw [E.2 1005 0 (by omega)]; omega) (E.1 1005 _ (by omega)) dL_law_1291 ?_
  refine V_al0n dL_law_1292 ?_
  refine V_il4 dL_law_1293 ?_
  refine V_iconst dL_law_1295 ?_
  refine V_iadd dL_law_1296 ?_
  refine V_sld (k := 6 * j + 4) (by omega) (by rw [E.2 1005 0 (by omega)]; omega) (by rw [E.2 1005 0 (by omega)]; omega) (E.1 1005 _ (by omega)) dL_law_1297 ?_
  refine V_callV (as := [_, _, _, _]) ml_L_138 im_X12_trained se_X12_trained kk104 (by decide) (by decide) dL_law_1298 rfl rfl (by decide) (by decide) (Nat.le_of_ble_eq_true rfl) (by omega) (by omega) rfl (hv) ?_
  rintro r1298 ρ1298 f1298 g1298 ⟨rfl, s1298_0, q2⟩
  obtain rfl := s1298_0.symm
  refine V_ieqs (tgt := 1935) dL_law_1301 rfl ?_
  exact H _ _ _ (hI.nx q1 q2)
theorem w_l_note {N j : Nat} {i : Int} (hI : LWI N j ρ f g) (hj : 6 * j + 6 ≤ N) (hN : N ≤ 3072) (hi : i = 6 * (j : Int)) (hk : kc ≤ 601024) (hs : ks ≤ 7293034) (H : LHC N j kc ks i) : V_LW kc ks 1306 [.ref 1005, .ref 0, .ref 104, .ref 148, .int (iz i), .null, .null] [] ρ f g := by
  obtain ⟨⟨T, b, h, hX⟩, hag, hri, hN0⟩ := id hI
  have h5 : f 55 5 < 999000 := by omega
  have hu := uu_note h hX h5 (x1 := f 1005 (6 * j + 1)) (x2 := f 1005 (6 * j + 2)) (x3 := f 1005 (6 * j + 3)) (x4 := f 1005 (6 * j + 4)) (hri (6 * j + 1)) (hri (6 * j + 2)) (hri (6 * j + 3)) (hri (6 * j + 4))
  refine V_al1n dL_law_1306 ?_
  refine V_al0n dL_law_1307 ?_
  refine V_il4 dL_law_1308 ?_
  refine V_iconst dL_law_1310 ?_
  refine V_iadd dL_law_1311 ?_
  refine V_sld (k := 6 * j + 1) (by omega) (by omega) (by omega) rfl dL_law_1312 ?_
  refine V_al0n dL_law_1313 ?_
  refine V_il4 dL_law_1314 ?_
  refine V_iconst dL_law_1316 ?_
  refine V_iadd dL_law_1317 ?_
  refine V_sld (k := 6 * j + 2) (by omega) (by omega) (by omega) rfl dL_law_1318 ?_
  refine V_al0n dL_law_1319 ?_
  refine V_il4 dL_law_1320 ?_
  refine V_iconst dL_law_1322 ?_
  refine V_iadd dL_law_1323 ?_
  refine V_sld (k := 6 * j + 3) (by omega) (by omega) (by omega) rfl dL_law_1324 ?_
  refine V_al0n dL_law_1325 ?_
  refine V_il4 dL_law_1326 ?_
  refine V_iconst dL_law_1328 ?_
  refine V_iadd dL_law_1329 ?_
  refine V_sld (k := 6 * j + 4) (by omega) (by omega) (by omega) rfl dL_law_1330 ?_
  refine V_callV (as := [_, _, _, _]) ml_L_139 im_X11_note se_X11_note kk0 (by decide) (by decide) dL_law_1331 rfl rfl (by decide) (by decide) (Nat.le_of_ble_eq_true rfl) (by omega) (by omega) rfl (hu) ?_
  rintro r1331 ρ1331 f1331 g1331 ⟨rfl, q1⟩
  have E : HI f g f1331 g1331 := ⟨q1.2.2.1, q1.2.2.2⟩
  have hv := vv_note h hX h5 q1.fx E (x1 := f 1005 (6 * j + 1)) (x2 := f 1005 (6 * j + 2)) (x3 := f 1005 (6 * j + 3)) (x4 := f 1005 (6 * j + 4)) (hri (6 * j + 1)) (hri (6 * j + 2)) (hri (6 * j + 3)) (hri (6 * j + 4))
  refine V_al2n dL_law_1334 ?_
  refine V_al0n dL_law_1335 ?_
  refine V_il4 dL_law_1336 ?_
  refine V_iconst dL_law_1338 ?_
  refine V_iadd dL_law_1339 ?_
  refine V_sld (k := 6 * j + 1) (by omega) (by rw [E.2 1005 0 (by omega)]; omega) (by rw [E.2 1005 0 (by omega)]; omega) (E.1 1005 _ (by omega)) dL_law_1340 ?_
  refine V_al0n dL_law_1341 ?_
  refine V_il4 dL_law_1342 ?_
  refine V_iconst dL_law_1344 ?_
  refine V_iadd dL_law_1345 ?_
  refine V_sld (k := 6 * j + 2) (by omega) (by rw [E.2 1005 0 (by omega)]; omega) (by rw [E.2 1005 0 (by omega)]; omega) (E.1 1005 _ (by omega)) dL_law_1346 ?_
  refine V_al0n dL_law_1347 ?_
  refine V_il4 dL_law_1348 ?_
  refine V_iconst dL_law_1350 ?_
  refine V_iadd dL_law_1351 ?_
  refine V_sld (k := 6 * j + 3) (by omega) (by rw [E.2 1005 0 (by omega)]; omega) (by rw [E.2 1005 0 (by omega)]; omega) (E.1 1005 _ (by omega)) dL_law_1352 ?_
  refine V_al0n dL_law_1353 ?_
  refine V_il4 dL_law_1354 ?_
  refine V_iconst dL_law_1356 ?_
  refine V_iadd dL_law_1357 ?_
  refine V_sld (k := 6 * j + 4) (by omega) (by rw [E.2 1005 0 (by omega)]; omega) (by rw [E.2 1005 0 (by omega)]; omega) (E.1 1005 _ (by omega)) dL_law_1358 ?_
  refine V_callV (as := [_, _, _, _]) ml_L_142 im_X12_note se_X12_note kk104 (by decide) (by decide) dL_law_1359 rfl rfl (by decide) (by decide) (Nat.le_of_ble_eq_true rfl) (by omega) (by omega) rfl (hv) ?_
  rintro r1359 ρ1359 f1359 g1359 ⟨rfl, s1359_0, q2⟩
  obtain rfl := s1359_0.symm
  refine V_ieqs (tgt := 1935) dL_law_1362 rfl ?_
  exact H _ _ _ (hI.nx q1 q2)
theorem w_l_strike {N j : Nat} {i : Int} (hI : LWI N j ρ f g) (hj : 6 * j + 6 ≤ N) (hN : N ≤ 3072) (hi : i = 6 * (j : Int)) (hk : kc ≤ 601024) (hs : ks ≤ 7293034) (H : LHC N j kc ks i) : V_LW kc ks 1367 [.ref 1005, .ref 0, .ref 104, .ref 148, .int (iz i), .null, .null] [] ρ f g := by
  obtain ⟨⟨T, b, h, hX⟩, hag, hri, hN0⟩ := id hI
  have h5 : f 55 5 < 999000 := by omega
  have hu := uu_strike h hX h5 (x1 := f 1005 (6 * j + 1)) (hri (6 * j + 1))
  refine V_al1n dL_law_1367 ?_
  refine V_al0n dL_law_1368 ?_
  refine V_il4 dL_law_1369 ?_
  refine V_iconst dL_law_1371 ?_
  refine V_iadd dL_law_1372 ?_
  refine V_sld (k := 6 * j + 1) (by omega) (by omega) (by omega) rfl dL_law_1373 ?_
  refine V_callV (as := [_]) ml_L_143 im_X11_strike se_X11_strike kk0 (by decide) (by decide) dL_law_1374 rfl rfl (by decide) (by decide) (Nat.le_of_ble_eq_true rfl) (by omega) (by omega) rfl (hu) ?_
  rintro r1374 ρ1374 f1374 g1374 ⟨rfl, q1⟩
  have E : HI f g f1374 g1374 := ⟨q1.2.2.1, q1.2.2.2⟩
  have hv := vv_strike h hX h5 q1.fx E (x1 := f 1005 (6 * j + 1)) (hri (6 * j + 1))
  refine V_al2n dL_law_1377 ?_
  refine V_al0n dL_law_1378 ?_
  refine V_il4 dL_law_1379 ?_
  refine V_iconst dL_law_1381 ?_
  refine V_iadd dL_law_1382 ?_
  refine V_sld (k := 6 * j + 1) (by omega) (by rw [E.2 1005 0 (by omega)]; omega) (by rw [E.2 1005 0 (by omega)]; omega) (E.1 1005 _ (by omega)) dL_law_1383 ?_
  refine V_callV (as := [_]) ml_L_146 im_X12_strike se_X12_strike kk104 (by decide) (by decide) dL_law_1384 rfl rfl (by decide) (by decide) (Nat.le_of_ble_eq_true rfl) (by omega) (by omega) rfl (hv) ?_
  rintro r1384 ρ1384 f1384 g1384 ⟨rfl, s1384_0, q2⟩
  obtain rfl := s1384_0.symm
  refine V_ieqs (tgt := 1935) dL_law_1387 rfl ?_
  exact H _ _ _ (hI.nx q1 q2)
theorem w_l_known {N j : Nat} {i : Int} (hI : LWI N j ρ f g) (hj : 6 * j + 6 ≤ N) (hN : N ≤ 3072) (hi : i = 6 * (j : Int)) (hk : kc ≤ 601024) (hs : ks ≤ 7293034) (H : LHC N j kc ks i) : V_LW kc ks 1392 [.ref 1005, .ref 0, .ref 104, .ref 148, .int (iz i), .null, .null] [] ρ f g := by
  obtain ⟨⟨T, b, h, hX⟩, hag, hri, hN0⟩ := id hI
  have h5 : f 55 5 < 999000 := by omega
  have hu := uu_known h hX h5 (x1 := f 1005 (6 * j + 1)) (hri (6 * j + 1))
  refine V_al1n dL_law_1392 ?_
  refine V_al0n dL_law_1393 ?_
  refine V_il4 dL_law_1394 ?_
  refine V_iconst dL_law_1396 ?_
  refine V_iadd dL_law_1397 ?_
  refine V_sld (k := 6 * j + 1) (by omega) (by omega) (by omega) rfl dL_law_1398 ?_
  refine V_callV (as := [_]) ml_L_147 im_X11_known se_X11_known kk0 (by decide) (by decide) dL_law_1399 rfl rfl (by decide) (by decide) (Nat.le_of_ble_eq_true rfl) (by omega) (by omega) rfl (hu) ?_
  rintro r1399 ρ1399 f1399 g1399 ⟨rfl, q1⟩
  have E : HI f g f1399 g1399 := ⟨q1.2.2.1, q1.2.2.2⟩
  have hv := vv_known h hX h5 q1.fx E (x1 := f 1005 (6 * j + 1)) (hri (6 * j + 1))
  refine V_al2n dL_law_1402 ?_
  refine V_al0n dL_law_1403 ?_
  refine V_il4 dL_law_1404 ?_
  refine V_iconst dL_law_1406 ?_
  refine V_iadd dL_law_1407 ?_
  refine V_sld (k := 6 * j + 1) (by omega) (by rw [E.2 1005 0 (by omega)]; omega) (by rw [E.2 1005 0 (by omega)]; omega) (E.1 1005 _ (by omega)) dL_law_1408 ?_
  refine V_callV (as := [_]) ml_L_150 im_X12_known se_X12_known kk104 (by decide) (by decide) dL_law_1409 rfl rfl (by decide) (by decide) (Nat.le_of_ble_eq_true rfl) (by omega) (by omega) rfl (hv) ?_
  rintro r1409 ρ1409 f1409 g1409 ⟨rfl, s1409_0, q2⟩
  obtain rfl := s1409_0.symm
  refine V_ieqs (tgt := 1935) dL_law_1412 rfl ?_
  exact H _ _ _ (hI.nx q1 q2)
theorem w_l_fits {N j : Nat} {i : Int} (hI : LWI N j ρ f g) (hj : 6 * j + 6 ≤ N) (hN : N ≤ 3072) (hi : i = 6 * (j : Int)) (hk : kc ≤ 601024) (hs : ks ≤ 7293034) (H : LHC N j kc ks i) : V_LW kc ks 1417 [.ref 1005, .ref 0, .ref 104, .ref 148, .int (iz i), .null, .null] [] ρ f g := by
  obtain ⟨⟨T, b, h, hX⟩, hag, hri, hN0⟩ := id hI
  have h5 : f 55 5 < 999000 := by omega
  have hu := uu_fits h hX h5 (x1 := f 1005 (6 * j + 1)) (x2 := f 1005 (6 * j + 2)) (hri (6 * j + 1)) (hri (6 * j + 2))
  refine V_al1n dL_law_1417 ?_
  refine V_al0n dL_law_1418 ?_
  refine V_il4 dL_law_1419 ?_
  refine V_iconst dL_law_1421 ?_
  refine V_iadd dL_law_1422 ?_
  refine V_sld (k := 6 * j + 1) (by omega) (by omega) (by omega) rfl dL_law_1423 ?_
  refine V_al0n dL_law_1424 ?_
  refine V_il4 dL_law_1425 ?_
  refine V_iconst dL_law_1427 ?_
  refine V_iadd dL_law_1428 ?_
  refine V_sld (k := 6 * j + 2) (by omega) (by omega) (by omega) rfl dL_law_1429 ?_
  refine V_callV (as := [_, _]) ml_L_151 im_X11_fits se_X11_fits kk0 (by decide) (by decide) dL_law_1430 rfl rfl (by decide) (by decide) (Nat.le_of_ble_eq_true rfl) (by omega) (by omega) rfl (hu) ?_
  rintro r1430 ρ1430 f1430 g1430 ⟨rfl, q1⟩
  have E : HI f g f1430 g1430 := ⟨q1.2.2.1, q1.2.2.2⟩
  have hv := vv_fits h hX h5 q1.fx E (x1 := f 1005 (6 * j + 1)) (x2 := f 1005 (6 * j + 2)) (hri (6 * j + 1)) (hri (6 * j + 2))
  refine V_al2n dL_law_1433 ?_
  refine V_al0n dL_law_1434 ?_
  refine V_il4 dL_law_1435 ?_
  refine V_iconst dL_law_1437 ?_
  refine V_iadd dL_law_1438 ?_
  refine V_sld (k := 6 * j + 1) (by omega) (by rw [E.2 1005 0 (by omega)]; omega) (by rw [E.2 1005 0 (by omega)]; omega) (E.1 1005 _ (by omega)) dL_law_1439 ?_
  refine V_al0n dL_law_1440 ?_
  refine V_il4 dL_law_1441 ?_
  refine V_iconst dL_law_1443 ?_
  refine V_iadd dL_law_1444 ?_
  refine V_sld (k := 6 * j + 2) (by omega) (by rw [E.2 1005 0 (by omega)]; omega) (by rw [E.2 1005 0 (by omega)]; omega) (E.1 1005 _ (by omega)) dL_law_1445 ?_
  refine V_callV (as := [_, _]) ml_L_154 im_X12_fits se_X12_fits kk104 (by decide) (by decide) dL_law_1446 rfl rfl (by decide) (by decide) (Nat.le_of_ble_eq_true rfl) (by omega) (by omega) rfl (hv) ?_
  rintro r1446 ρ1446 f1446 g1446 ⟨rfl, s1446_0, q2⟩
  obtain rfl := s1446_0.symm
  refine V_ieqs (tgt := 1935) dL_law_1449 rfl ?_
  exact H _ _ _ (hI.nx q1 q2)
theorem w_l_wins {N j : Nat} {i : Int} (hI : LWI N j ρ f g) (hj : 6 * j + 6 ≤ N) (hN : N ≤ 3072) (hi : i = 6 * (j : Int)) (hk : kc ≤ 601024) (hs : ks ≤ 7293034) (H : LHC N j kc ks i) : V_LW kc ks 1454 [.ref 1005, .ref 0, .ref 104, .ref 148, .int (iz i), .null, .null] [] ρ f g := by
  obtain ⟨⟨T, b, h, hX⟩, hag, hri, hN0⟩ := id hI
  have h5 : f 55 5 < 999000 := by omega
  have hu := uu_wins h hX h5 (x1 := f 1005 (6 * j + 1)) (x2 := f 1005 (6 * j + 2)) (x3 := f 1005 (6 * j + 3)) (x4 := f 1005 (6 * j + 4)) (hri (6 * j + 1)) (hri (6 * j + 2)) (hri (6 * j + 3)) (hri (6 * j + 4))
  refine V_al1n dL_law_1454 ?_
  refine V_al0n dL_law_1455 ?_
  refine V_il4 dL_law_1456 ?_
  refine V_iconst dL_law_1458 ?_
  refine V_iadd dL_law_1459 ?_
  refine V_sld (k := 6 * j + 1) (by omega) (by omega) (by omega) rfl dL_law_1460 ?_
  refine V_al0n dL_law_1461 ?_
  refine V_il4 dL_law_1462 ?_
  refine V_iconst dL_law_1464 ?_
  refine V_iadd dL_law_1465 ?_
  refine V_sld (k := 6 * j + 2) (by omega) (by omega) (by omega) rfl dL_law_1466 ?_
  refine V_al0n dL_law_1467 ?_
  refine V_il4 dL_law_1468 ?_
  refine V_iconst dL_law_1470 ?_
  refine V_iadd dL_law_1471 ?_
  refine V_sld (k := 6 * j + 3) (by omega) (by omega) (by omega) rfl dL_law_1472 ?_
  refine V_al0n dL_law_1473 ?_
  refine V_il4 dL_law_1474 ?_
  refine V_iconst dL_law_1476 ?_
  refine V_iadd dL_law_1477 ?_
  refine V_sld (k := 6 * j + 4) (by omega) (by omega) (by omega) rfl dL_law_1478 ?_
  refine V_callV (as := [_, _, _, _]) ml_L_155 im_X11_wins se_X11_wins kk0 (by decide) (by decide) dL_law_1479 rfl rfl (by decide) (by decide) (Nat.le_of_ble_eq_true rfl) (by omega) (by omega) rfl (hu) ?_
  rintro r1479 ρ1479 f1479 g1479 ⟨rfl, q1⟩
  have E : HI f g f1479 g1479 := ⟨q1.2.2.1, q1.2.2.2⟩
  have hv := vv_wins h hX h5 q1.fx E (x1 := f 1005 (6 * j + 1)) (x2 := f 1005 (6 * j + 2)) (x3 := f 1005 (6 * j + 3)) (x4 := f 1005 (6 * j + 4)) (hri (6 * j + 1)) (hri (6 * j + 2)) (hri (6 * j + 3)) (hri (6 * j + 4))
  refine V_al2n dL_law_1482 ?_
  refine V_al0n dL_law_1483 ?_
  refine V_il4 dL_law_1484 ?_
  refine V_iconst dL_law_1486 ?_
  refine V_iadd dL_law_1487 ?_
  refine V_sld (k := 6 * j + 1) (by omega) (by rw [E.2 1005 0 (by omega)]; omega) (by rw [E.2 1005 0 (by omega)]; omega) (E.1 1005 _ (by omega)) dL_law_1488 ?_
  refine V_al0n dL_law_1489 ?_
  refine V_il4 dL_law_1490 ?_
  refine V_iconst dL_law_1492 ?_
  refine V_iadd dL_law_1493 ?_
  refine V_sld (k := 6 * j + 2) (by omega) (by rw [E.2 1005 0 (by omega)]; omega) (by rw [E.2 1005 0 (by omega)]; omega) (E.1 1005 _ (by omega)) dL_law_1494 ?_
  refine V_al0n dL_law_1495 ?_
  refine V_il4 dL_law_1496 ?_
  refine V_iconst dL_law_1498 ?_
  refine V_iadd dL_law_1499 ?_
  refine V_sld (k := 6 * j + 3) (by omega) (by rw [E.2 1005 0 (by omega)]; omega) (by rw [E.2 1005 0 (by omega)]; omega) (E.1 1005 _ (by omega)) dL_law_1500 ?_
  refine V_al0n dL_law_1501 ?_
  refine V_il4 dL_law_1502 ?_
  refine V_iconst dL_law_1504 ?_
  refine V_iadd dL_law_1505 ?_
  refine V_sld (k := 6 * j + 4) (by omega) (by rw [E.2 1005 0 (by omega)]; omega) (by rw [E.2 1005 0 (by omega)]; omega) (E.1 1005 _ (by omega)) dL_law_1506 ?_
  refine V_callV (as := [_, _, _, _]) ml_L_158 im_X12_wins se_X12_wins kk104 (by decide) (by decide) dL_law_1507 rfl rfl (by decide) (by decide) (Nat.le_of_ble_eq_true rfl) (by omega) (by omega) rfl (hv) ?_
  rintro r1507 ρ1507 f1507 g1507 ⟨rfl, s1507_0, q2⟩
  obtain rfl := s1507_0.symm
  refine V_ieqs (tgt := 1935) dL_law_1510 rfl ?_
  exact H _ _ _ (hI.nx q1 q2)
theorem w_l_beats {N j : Nat} {i : Int} (hI : LWI N j ρ f g) (hj : 6 * j + 6 ≤ N) (hN : N ≤ 3072) (hi : i = 6 * (j : Int)) (hk : kc ≤ 601024) (hs : ks ≤ 7293034) (H : LHC N j kc ks i) : V_LW kc ks 1515 [.ref 1005, .ref 0, .ref 104, .ref 148, .int (iz i), .null, .null] [] ρ f g := by
  obtain ⟨⟨T, b, h, hX⟩, hag, hri, hN0⟩ := id hI
  have h5 : f 55 5 < 999000 := by omega
  have hu := uu_beats h hX h5 (x1 := f 1005 (6 * j + 1)) (x2 := f 1005 (6 * j + 2)) (x3 := f 1005 (6 * j + 3)) (x4 := f 1005 (6 * j + 4)) (hri (6 * j + 1)) (hri (6 * j + 2)) (hri (6 * j + 3)) (hri (6 * j + 4))
  refine V_al1n dL_law_1515 ?_
  refine V_al0n dL_law_1516 ?_
  refine V_il4 dL_law_1517 ?_
  refine V_iconst dL_law_1519 ?_
  refine V_iadd dL_law_1520 ?_
  refine V_sld (k := 6 * j + 1) (by omega) (by omega) (by omega) rfl dL_law_1521 ?_
  refine V_al0n dL_law_1522 ?_
  refine V_il4 dL_law_1523 ?_
  refine V_iconst dL_law_1525 ?_
  refine V_iadd dL_law_1526 ?_
  refine V_sld (k := 6 * j + 2) (by omega) (by omega) (by omega) rfl dL_law_1527 ?_
  refine V_al0n dL_law_1528 ?_
  refine V_il4 dL_law_1529 ?_
  refine V_iconst dL_law_1531 ?_
  refine V_iadd dL_law_1532 ?_
  refine V_sld (k := 6 * j + 3) (by omega) (by omega) (by omega) rfl dL_law_1533 ?_
  refine V_al0n dL_law_1534 ?_
  refine V_il4 dL_law_1535 ?_
  refine V_iconst dL_law_1537 ?_
  refine V_iadd dL_law_1538 ?_
  refine V_sld (k := 6 * j + 4) (by omega) (by omega) (by omega) rfl dL_law_1539 ?_
  refine V_callV (as := [_, _, _, _]) ml_L_159 im_X11_beats se_X11_beats kk0 (by decide) (by decide) dL_law_1540 rfl rfl (by decide) (by decide) (Nat.le_of_ble_eq_true rfl) (by omega) (by omega) rfl (hu) ?_
  rintro r1540 ρ1540 f1540 g1540 ⟨rfl, q1⟩
  have E : HI f g f1540 g1540 := ⟨q1.2.2.1, q1.2.2.2⟩
  have hv := vv_beats h hX h5 q1.fx E (x1 := f 1005 (6 * j + 1)) (x2 := f 1005 (6 * j + 2)) (x3 := f 1005 (6 * j + 3)) (x4 := f 1005 (6 * j + 4)) (hri (6 * j + 1)) (hri (6 * j + 2)) (hri (6 * j + 3)) (hri (6 * j + 4))
  refine V_al2n dL_law_1543 ?_
  refine V_al0n dL_law_1544 ?_
  refine V_il4 dL_law_1545 ?_
  refine V_iconst dL_law_1547 ?_
  refine V_iadd dL_law_1548 ?_
  refine V_sld (k := 6 * j + 1) (by omega) (by rw [E.2 1005 0 (by omega)]; omega) (by rw [E.2 1005 0 (by omega)]; omega) (E.1 1005 _ (by omega)) dL_law_1549 ?_
  refine V_al0n dL_law_1550 ?_
  refine V_il4 dL_law_1551 ?_
  refine V_iconst dL_law_1553 ?_
  refine V_iadd dL_law_1554 ?_
  refine V_sld (k := 6 * j + 2) (by omega) (by rw [E.2 1005 0 (by omega)]; omega) (by rw [E.2 1005 0 (by omega)]; omega) (E.1 1005 _ (by omega)) dL_law_1555 ?_
  refine V_al0n dL_law_1556 ?_
  refine V_il4 dL_law_1557 ?_
  refine V_iconst dL_law_1559 ?_
  refine V_iadd dL_law_1560 ?_
  refine V_sld (k := 6 * j + 3) (by omega) (by rw [E.2 1005 0 (by omega)]; omega) (by rw [E.2 1005 0 (by omega)]; omega) (E.1 1005 _ (by omega)) dL_law_1561 ?_
  refine V_al0n dL_law_1562 ?_
  refine V_il4 dL_law_1563 ?_
  refine V_iconst dL_law_1565 ?_
  refine V_iadd dL_law_1566 ?_
  refine V_sld (k := 6 * j + 4) (by omega) (by rw [E.2 1005 0 (by omega)]; omega) (by rw [E.2 1005 0 (by omega)]; omega) (E.1 1005 _ (by omega)) dL_law_1567 ?_
  refine V_callV (as := [_, _, _, _]) ml_L_162 im_X12_beats se_X12_beats kk104 (by decide) (by decide) dL_law_1568 rfl rfl (by decide) (by decide) (Nat.le_of_ble_eq_true rfl) (by omega) (by omega) rfl (hv) ?_
  rintro r1568 ρ1568 f1568 g1568 ⟨rfl, s1568_0, q2⟩
  obtain rfl := s1568_0.symm
  refine V_ieqs (tgt := 1935) dL_law_1571 rfl ?_
  exact H _ _ _ (hI.nx q1 q2)
theorem w_l_led {N j : Nat} {i : Int} (hI : LWI N j ρ f g) (hj : 6 * j + 6 ≤ N) (hN : N ≤ 3072) (hi : i = 6 * (j : Int)) (hk : kc ≤ 601024) (hs : ks ≤ 7293034) (H : LHC N j kc ks i) : V_LW kc ks 1576 [.ref 1005, .ref 0, .ref 104, .ref 148, .int (iz i), .null, .null] [] ρ f g := by
  obtain ⟨⟨T, b, h, hX⟩, hag, hri, hN0⟩ := id hI
  have h5 : f 55 5 < 999000 := by omega
  have hu := uu_led h hX h5 (x1 := f 1005 (6 * j + 1)) (x2 := f 1005 (6 * j + 2)) (x3 := f 1005 (6 * j + 3)) (x4 := f 1005 (6 * j + 4)) (hri (6 * j + 1)) (hri (6 * j + 2)) (hri (6 * j + 3)) (hri (6 * j + 4))
  refine V_al1n dL_law_1576 ?_
  refine V_al0n dL_law_1577 ?_
  refine V_il4 dL_law_1578 ?_
  refine V_iconst dL_law_1580 ?_
  refine V_iadd dL_law_1581 ?_
  refine V_sld (k := 6 * j + 1) (by omega) (by omega) (by omega) rfl dL_law_1582 ?_
  refine V_al0n dL_law_1583 ?_
  refine V_il4 dL_law_1584 ?_
  refine V_iconst dL_law_1586 ?_
  refine V_iadd dL_law_1587 ?_
  refine V_sld (k := 6 * j + 2) (by omega) (by omega) (by omega) rfl dL_law_1588 ?_
  refine V_al0n dL_law_1589 ?_
  refine V_il4 dL_law_1590 ?_
  refine V_iconst dL_law_1592 ?_
  refine V_iadd dL_law_1593 ?_
  refine V_sld (k := 6 * j + 3) (by omega) (by omega) (by omega) rfl dL_law_1594 ?_
  refine V_al0n dL_law_1595 ?_
  refine V_il4 dL_law_1596 ?_
  refine V_iconst dL_law_1598 ?_
  refine V_iadd dL_law_1599 ?_
  refine V_sld (k := 6 * j + 4) (by omega) (by omega) (by omega) rfl dL_law_1600 ?_
  refine V_callV (as := [_, _, _, _]) ml_L_163 im_X11_led se_X11_led kk0 (by decide) (by decide) dL_law_1601 rfl rfl (by decide) (by decide) (Nat.le_of_ble_eq_true rfl) (by omega) (by omega) rfl (hu) ?_
  rintro r1601 ρ1601 f1601 g1601 ⟨rfl, q1⟩
  have E : HI f g f1601 g1601 := ⟨q1.2.2.1, q1.2.2.2⟩
  have hv := vv_led h hX h5 q1.fx E (x1 := f 1005 (6 * j + 1)) (x2 := f 1005 (6 * j + 2)) (x3 := f 1005 (6 * j + 3)) (x4 := f 1005 (6 * j + 4)) (hri (6 * j + 1)) (hri (6 * j + 2)) (hri (6 * j + 3)) (hri (6 * j + 4))
  refine V_al2n dL_law_1604 ?_
  refine V_al0n dL_law_1605 ?_
  refine V_il4 dL_law_1606 ?_
  refine V_iconst dL_law_1608 ?_
  refine V_iadd dL_law_1609 ?_
  refine V_sld (k := 6 * j + 1) (by omega) (by rw [E.2 1005 0 (by omega)]; omega) (by rw [E.2 1005 0 (by omega)]; omega) (E.1 1005 _ (by omega)) dL_law_1610 ?_
  refine V_al0n dL_law_1611 ?_
  refine V_il4 dL_law_1612 ?_
  refine V_iconst dL_law_1614 ?_
  refine V_iadd dL_law_1615 ?_
  refine V_sld (k := 6 * j + 2) (by omega) (by rw [E.2 1005 0 (by omega)]; omega) (by rw [E.2 1005 0 (by omega)]; omega) (E.1 1005 _ (by omega)) dL_law_1616 ?_
  refine V_al0n dL_law_1617 ?_
  refine V_il4 dL_law_1618 ?_
  refine V_iconst dL_law_1620 ?_
  refine V_iadd dL_law_1621 ?_
  refine V_sld (k := 6 * j + 3) (by omega) (by rw [E.2 1005 0 (by omega)]; omega) (by rw [E.2 1005 0 (by omega)]; omega) (E.1 1005 _ (by omega)) dL_law_1622 ?_
  refine V_al0n dL_law_1623 ?_
  refine V_il4 dL_law_1624 ?_
  refine V_iconst dL_law_1626 ?_
  refine V_iadd dL_law_1627 ?_
  refine V_sld (k := 6 * j + 4) (by omega) (by rw [E.2 1005 0 (by omega)]; omega) (by rw [E.2 1005 0 (by omega)]; omega) (E.1 1005 _ (by omega)) dL_law_1628 ?_
  refine V_callV (as := [_, _, _, _]) ml_L_166 im_X12_led se_X12_led kk104 (by decide) (by decide) dL_law_1629 rfl rfl (by decide) (by decide) (Nat.le_of_ble_eq_true rfl) (by omega) (by omega) rfl (hv) ?_
  rintro r1629 ρ1629 f1629 g1629 ⟨rfl, s1629_0, q2⟩
  obtain rfl := s1629_0.symm
  refine V_ieqs (tgt := 1935) dL_law_1632 rfl ?_
  exact H _ _ _ (hI.nx q1 q2)
theorem w_l_rests {N j : Nat} {i : Int} (hI : LWI N j ρ f g) (hj : 6 * j + 6 ≤ N) (hN : N ≤ 3072) (hi : i = 6 * (j : Int)) (hk : kc ≤ 601024) (hs : ks ≤ 7293034) (H : LHC N j kc ks i) : V_LW kc ks 1637 [.ref 1005, .ref 0, .ref 104, .ref 148, .int (iz i), .null, .null] [] ρ f g := by
  obtain ⟨⟨T, b, h, hX⟩, hag, hri, hN0⟩ := id hI
  have h5 : f 55 5 < 999000 := by omega
  have hu := uu_rests h hX h5 (x1 := f 1005 (6 * j + 1)) (x2 := f 1005 (6 * j + 2)) (hri (6 * j + 1)) (hri (6 * j + 2))
  refine V_al1n dL_law_1637 ?_
  refine V_al0n dL_law_1638 ?_
  refine V_il4 dL_law_1639 ?_
  refine V_iconst dL_law_1641 ?_
  refine V_iadd dL_law_1642 ?_
  refine V_sld (k := 6 * j + 1) (by omega) (by omega) (by omega) rfl dL_law_1643 ?_
  refine V_al0n dL_law_1644 ?_
  refine V_il4 dL_law_1645 ?_
  refine V_iconst dL_law_1647 ?_
  refine V_iadd dL_law_1648 ?_
  refine V_sld (k := 6 * j + 2) (by omega) (by omega) (by omega) rfl dL_law_1649 ?_
  refine V_callV (as := [_, _]) ml_L_167 im_X11_rests se_X11_rests kk0 (by decide) (by decide) dL_law_1650 rfl rfl (by decide) (by decide) (Nat.le_of_ble_eq_true rfl) (by omega) (by omega) rfl (hu) ?_
  rintro r1650 ρ1650 f1650 g1650 ⟨rfl, q1⟩
  have E : HI f g f1650 g1650 := ⟨q1.2.2.1, q1.2.2.2⟩
  have hv := vv_rests h hX h5 q1.fx E (x1 := f 1005 (6 * j + 1)) (x2 := f 1005 (6 * j + 2)) (hri (6 * j + 1)) (hri (6 * j + 2))
  refine V_al2n dL_law_1653 ?_
  refine V_al0n dL_law_1654 ?_
  refine V_il4 dL_law_1655 ?_
  refine V_iconst dL_law_1657 ?_
  refine V_iadd dL_law_1658 ?_
  refine V_sld (k := 6 * j + 1) (by omega) (by rw [E.2 1005 0 (by omega)]; omega) (by rw [E.2 1005 0 (by omega)]; omega) (E.1 1005 _ (by omega)) dL_law_1659 ?_
  refine V_al0n dL_law_1660 ?_
  refine V_il4 dL_law_1661 ?_
  refine V_iconst dL_law_1663 ?_
  refine V_iadd dL_law_1664 ?_
  refine V_sld (k := 6 * j + 2) (by omega) (by rw [E.2 1005 0 (by omega)]; omega) (by rw [E.2 1005 0 (by omega)]; omega) (E.1 1005 _ (by omega)) dL_law_1665 ?_
  refine V_callV (as := [_, _]) ml_L_170 im_X12_rests se_X12_rests kk104 (by decide) (by decide) dL_law_1666 rfl rfl (by decide) (by decide) (Nat.le_of_ble_eq_true rfl) (by omega) (by omega) rfl (hv) ?_
  rintro r1666 ρ1666 f1666 g1666 ⟨rfl, s1666_0, q2⟩
  obtain rfl := s1666_0.symm
  refine V_ieqs (tgt := 1935) dL_law_1669 rfl ?_
  exact H _ _ _ (hI.nx q1 q2)
theorem w_l_rest {N j : Nat} {i : Int} (hI : LWI N j ρ f g) (hj : 6 * j + 6 ≤ N) (hN : N ≤ 3072) (hi : i = 6 * (j : Int)) (hk : kc ≤ 601024) (hs : ks ≤ 7293034) (H : LHC N j kc ks i) : V_LW kc ks 1674 [.ref 1005, .ref 0, .ref 104, .ref 148, .int (iz i), .null, .null] [] ρ f g := by
  obtain ⟨⟨T, b, h, hX⟩, hag, hri, hN0⟩ := id hI
  have h5 : f 55 5 < 999000 := by omega
  have hu := uu_rest h hX h5 (x1 := f 1005 (6 * j + 1)) (x2 := f 1005 (6 * j + 2)) (x3 := f 1005 (6 * j + 3)) (hri (6 * j + 1)) (hri (6 * j + 2)) (hri (6 * j + 3))
  refine V_al1n dL_law_1674 ?_
  refine V_al0n dL_law_1675 ?_
  refine V_il4 dL_law_1676 ?_
  refine V_iconst dL_law_1678 ?_
  refine V_iadd dL_law_1679 ?_
  refine V_sld (k := 6 * j + 1) (by omega) (by omega) (by omega) rfl dL_law_1680 ?_
  refine V_al0n dL_law_1681 ?_
  refine V_il4 dL_law_1682 ?_
  refine V_iconst dL_law_1684 ?_
  refine V_iadd dL_law_1685 ?_
  refine V_sld (k := 6 * j + 2) (by omega) (by omega) (by omega) rfl dL_law_1686 ?_
  refine V_al0n dL_law_1687 ?_
  refine V_il4 dL_law_1688 ?_
  refine V_iconst dL_law_1690 ?_
  refine V_iadd dL_law_1691 ?_
  refine V_sld (k := 6 * j + 3) (by omega) (by omega) (by omega) rfl dL_law_1692 ?_
  refine V_callV (as := [_, _, _]) ml_L_171 im_X11_rest se_X11_rest kk0 (by decide) (by decide) dL_law_1693 rfl rfl (by decide) (by decide) (Nat.le_of_ble_eq_true rfl) (by omega) (by omega) rfl (hu) ?_
  rintro r1693 ρ1693 f1693 g1693 ⟨rfl, q1⟩
  have E : HI f g f1693 g1693 := ⟨q1.2.2.1, q1.2.2.2⟩
  have hv := vv_rest h hX h5 q1.fx E (x1 := f 1005 (6 * j + 1)) (x2 := f 1005 (6 * j + 2)) (x3 := f 1005 (6 * j + 3)) (hri (6 * j + 1)) (hri (6 * j + 2)) (hri (6 * j + 3))
  refine V_al2n dL_law_1696 ?_
  refine V_al0n dL_law_1697 ?_
  refine V_il4 dL_law_1698 ?_
  refine V_iconst dL_law_1700 ?_
  refine V_iadd dL_law_1701 ?_
  refine V_sld (k := 6 * j + 1) (by omega) (by rw [E.2 1005 0 (by omega)]; omega) (by rw [E.2 1005 0 (by omega)]; omega) (E.1 1005 _ (by omega)) dL_law_1702 ?_
  refine V_al0n dL_law_1703 ?_
  refine V_il4 dL_law_1704 ?_
  refine V_iconst dL_law_1706 ?_
  refine V_iadd dL_law_1707 ?_
  refine V_sld (k := 6 * j + 2) (by omega) (by rw [E.2 1005 0 (by omega)]; omega) (by rw [E.2 1005 0 (by omega)]; omega) (E.1 1005 _ (by omega)) dL_law_1708 ?_
  refine V_al0n dL_law_1709 ?_
  refine V_il4 dL_law_1710 ?_
  refine V_iconst dL_law_1712 ?_
  refine V_iadd dL_law_1713 ?_
  refine V_sld (k := 6 * j + 3) (by omega) (by rw [E.2 1005 0 (by omega)]; omega) (by rw [E.2 1005 0 (by omega)]; omega) (E.1 1005 _ (by omega)) dL_law_1714 ?_
  refine V_callV (as := [_, _, _]) ml_L_174 im_X12_rest se_X12_rest kk104 (by decide) (by decide) dL_law_1715 rfl rfl (by decide) (by decide) (Nat.le_of_ble_eq_true rfl) (by omega) (by omega) rfl (hv) ?_
  rintro r1715 ρ1715 f1715 g1715 ⟨rfl, s1715_0, q2⟩
  obtain rfl := s1715_0.symm
  refine V_ieqs (tgt := 1935) dL_law_1718 rfl ?_
  exact H _ _ _ (hI.nx q1 q2)
theorem w_l_corner {N j : Nat} {i : Int} (hI : LWI N j ρ f g) (hj : 6 * j + 6 ≤ N) (hN : N ≤ 3072) (hi : i = 6 * (j : Int)) (hk : kc ≤ 601024) (hs : ks ≤ 7293034) (H : LHC N j kc ks i) : V_LW kc ks 1723 [.ref 1005, .ref 0, .ref 104, .ref 148, .int (iz i), .null, .null] [] ρ f g := by
  obtain ⟨⟨T, b, h, hX⟩, hag, hri, hN0⟩ := id hI
  have h5 : f 55 5 < 999000 := by omega
  have hu := uu_corner h hX h5 (x1 := f 1005 (6 * j + 1)) (x2 := f 1005 (6 * j + 2)) (x3 := f 1005 (6 * j + 3)) (hri (6 * j + 1)) (hri (6 * j + 2)) (hri (6 * j + 3))
  refine V_al1n dL_law_1723 ?_
  refine V_al0n dL_law_1724 ?_
  refine V_il4 dL_law_1725 ?_
  refine V_iconst dL_law_1727 ?_
  refine V_iadd dL_law_1728 ?_
  refine V_sld (k := 6 * j + 1) (by omega) (by omega) (by omega) rfl dL_law_1729 ?_
  refine V_al0n dL_law_1730 ?_
  refine V_il4 dL_law_1731 ?_
  refine V_iconst dL_law_1733 ?_
  refine V_iadd dL_law_1734 ?_
  refine V_sld (k := 6 * j + 2) (by omega) (by omega) (by omega) rfl dL_law_1735 ?_
  refine V_al0n dL_law_1736 ?_
  refine V_il4 dL_law_1737 ?_
  refine V_iconst dL_law_1739 ?_
  refine V_iadd dL_law_1740 ?_
  refine V_sld (k := 6 * j + 3) (by omega) (by omega) (by omega) rfl dL_law_1741 ?_
  refine V_callV (as := [_, _, _]) ml_L_175 im_X11_corner se_X11_corner kk0 (by decide) (by decide) dL_law_1742 rfl rfl (by decide) (by decide) (Nat.le_of_ble_eq_true rfl) (by omega) (by omega) rfl (hu) ?_
  rintro r1742 ρ1742 f1742 g1742 ⟨rfl, q1⟩
  have E : HI f g f1742 g1742 := ⟨q1.2.2.1, q1.2.2.2⟩
  have hv := vv_corner h hX h5 q1.fx E (x1 := f 1005 (6 * j + 1)) (x2 := f 1005 (6 * j + 2)) (x3 := f 1005 (6 * j + 3)) (hri (6 * j + 1)) (hri (6 * j + 2)) (hri (6 * j + 3))
  refine V_al2n dL_law_1745 ?_
  refine V_al0n dL_law_1746 ?_
  refine V_il4 dL_law_1747 ?_
  refine V_iconst dL_law_1749 ?_
  refine V_iadd dL_law_1750 ?_
  refine V_sld (k := 6 * j + 1) (by omega) (by rw [E.2 1005 0 (by omega)]; omega) (by rw [E.2 1005 0 (by omega)]; omega) (E.1 1005 _ (by omega)) dL_law_1751 ?_
  refine V_al0n dL_law_1752 ?_
  refine V_il4 dL_law_1753 ?_
  refine V_iconst dL_law_1755 ?_
  refine V_iadd dL_law_1756 ?_
  refine V_sld (k := 6 * j + 2) (by omega) (by rw [E.2 1005 0 (by omega)]; omega) (by rw [E.2 1005 0 (by omega)]; omega) (E.1 1005 _ (by omega)) dL_law_1757 ?_
  refine V_al0n dL_law_1758 ?_
  refine V_il4 dL_law_1759 ?_
  refine V_iconst dL_law_1761 ?_
  refine V_iadd dL_law_1762 ?_
  refine V_sld (k := 6 * j + 3) (by omega) (by rw [E.2 1005 0 (by omega)]; omega) (by rw [E.2 1005 0 (by omega)]; omega) (E.1 1005 _ (by omega)) dL_law_1763 ?_
  refine V_callV (as := [_, _, _]) ml_L_178 im_X12_corner se_X12_corner kk104 (by decide) (by decide) dL_law_1764 rfl rfl (by decide) (by decide) (Nat.le_of_ble_eq_true rfl) (by omega) (by omega) rfl (hv) ?_
  rintro r1764 ρ1764 f1764 g1764 ⟨rfl, s1764_0, q2⟩
  obtain rfl := s1764_0.symm
  refine V_ieqs (tgt := 1935) dL_law_1767 rfl ?_
  exact H _ _ _ (hI.nx q1 q2)
theorem w_l_down {N j : Nat} {i : Int} (hI : LWI N j ρ f g) (hj : 6 * j + 6 ≤ N) (hN : N ≤ 3072) (hi : i = 6 * (j : Int)) (hk : kc ≤ 601024) (hs : ks ≤ 7293034) (H : LHC N j kc ks i) : V_LW kc ks 1772 [.ref 1005, .ref 0, .ref 104, .ref 148, .int (iz i), .null, .null] [] ρ f g := by
  obtain ⟨⟨T, b, h, hX⟩, hag, hri, hN0⟩ := id hI
  have h5 : f 55 5 < 999000 := by omega
  have hu := uu_down h hX h5 (x1 := f 1005 (6 * j + 1)) (x2 := f 1005 (6 * j + 2)) (x3 := f 1005 (6 * j + 3)) (x4 := f 1005 (6 * j + 4)) (hri (6 * j + 1)) (hri (6 * j + 2)) (hri (6 * j + 3)) (hri (6 * j + 4))
  refine V_al1n dL_law_1772 ?_
  refine V_al0n dL_law_1773 ?_
  refine V_il4 dL_law_1774 ?_
  refine V_iconst dL_law_1776 ?_
  refine V_iadd dL_law_1777 ?_
  refine V_sld (k := 6 * j + 1) (by omega) (by omega) (by omega) rfl dL_law_1778 ?_
  refine V_al0n dL_law_1779 ?_
  refine V_il4 dL_law_1780 ?_
  refine V_iconst dL_law_1782 ?_
  refine V_iadd dL_law_1783 ?_
  refine V_sld (k := 6 * j + 2) (by omega) (by omega) (by omega) rfl dL_law_1784 ?_
  refine V_al0n dL_law_1785 ?_
  refine V_il4 dL_law_1786 ?_
  refine V_iconst dL_law_1788 ?_
  refine V_iadd dL_law_1789 ?_
  refine V_sld (k := 6 * j + 3) (by omega) (by omega) (by omega) rfl dL_law_1790 ?_
  refine V_al0n dL_law_1791 ?_
  refine V_il4 dL_law_1792 ?_
  refine V_iconst dL_law_1794 ?_
  refine V_iadd dL_law_1795 ?_
  refine V_sld (k := 6 * j + 4) (by omega) (by omega) (by omega) rfl dL_law_1796 ?_
  refine V_callV (as := [_, _, _, _]) ml_L_179 im_X11_down se_X11_down kk0 (by decide) (by decide) dL_law_1797 rfl rfl (by decide) (by decide) (Nat.le_of_ble_eq_true rfl) (by omega) (by omega) rfl (hu) ?_
  rintro r1797 ρ1797 f1797 g1797 ⟨rfl, q1⟩
  have E : HI f g f1797 g1797 := ⟨q1.2.2.1, q1.2.2.2⟩
  have hv := vv_down h hX h5 q1.fx E (x1 := f 1005 (6 * j + 1)) (x2 := f 1005 (6 * j + 2)) (x3 := f 1005 (6 * j + 3)) (x4 := f 1005 (6 * j + 4)) (hri (6 * j + 1)) (hri (6 * j + 2)) (hri (6 * j + 3)) (hri (6 * j + 4))
  refine V_al2n dL_law_1800 ?_
  refine V_al0n dL_law_1801 ?_
  refine V_il4 dL_law_1802 ?_
  refine V_iconst dL_law_1804 ?_
  refine V_iadd dL_law_1805 ?_
  refine V_sld (k := 6 * j + 1) (by omega) (by rw [E.2 1005 0 (by omega)]; omega) (by rw [E.2 1005 0 (by omega)]; omega) (E.1 1005 _ (by omega)) dL_law_1806 ?_
  refine V_al0n dL_law_1807 ?_
  refine V_il4 dL_law_1808 ?_
  refine V_iconst dL_law_1810 ?_
  refine V_iadd dL_law_1811 ?_
  refine V_sld (k := 6 * j + 2) (by omega) (by rw [E.2 1005 0 (by omega)]; omega) (by rw [E.2 1005 0 (by omega)]; omega) (E.1 1005 _ (by omega)) dL_law_1812 ?_
  refine V_al0n dL_law_1813 ?_
  refine V_il4 dL_law_1814 ?_
  refine V_iconst dL_law_1816 ?_
  refine V_iadd dL_law_1817 ?_
  refine V_sld (k := 6 * j + 3) (by omega) (by rw [E.2 1005 0 (by omega)]; omega) (by rw [E.2 1005 0 (by omega)]; omega) (E.1 1005 _ (by omega)) dL_law_1818 ?_
  refine V_al0n dL_law_1819 ?_
  refine V_il4 dL_law_1820 ?_
  refine V_iconst dL_law_1822 ?_
  refine V_iadd dL_law_1823 ?_
  refine V_sld (k := 6 * j + 4) (by omega) (by rw [E.2 1005 0 (by omega)]; omega) (by rw [E.2 1005 0 (by omega)]; omega) (E.1 1005 _ (by omega)) dL_law_1824 ?_
  refine V_callV (as := [_, _, _, _]) ml_L_182 im_X12_down se_X12_down kk104 (by decide) (by decide) dL_law_1825 rfl rfl (by decide) (by decide) (Nat.le_of_ble_eq_true rfl) (by omega) (by omega) rfl (hv) ?_
  rintro r1825 ρ1825 f1825 g1825 ⟨rfl, s1825_0, q2⟩
  obtain rfl := s1825_0.symm
  refine V_leqs (tgt := 1935) dL_law_1828 dL_law_1829 rfl ?_
  exact H _ _ _ (hI.nx q1 q2)
theorem w_l_errors {N j : Nat} {i : Int} (hI : LWI N j ρ f g) (hj : 6 * j + 6 ≤ N) (hN : N ≤ 3072) (hi : i = 6 * (j : Int)) (hk : kc ≤ 601024) (hs : ks ≤ 7293034) (H : LHC N j kc ks i) : V_LW kc ks 1834 [.ref 1005, .ref 0, .ref 104, .ref 148, .int (iz i), .null, .null] [] ρ f g := by
  obtain ⟨⟨T, b, h, hX⟩, hag, hri, hN0⟩ := id hI
  have h5 : f 55 5 < 999000 := by omega
  have hu := uu_errors h hX h5 (x1 := f 1005 (6 * j + 1)) (x2 := f 1005 (6 * j + 2)) (hri (6 * j + 1)) (hri (6 * j + 2))
  refine V_al1n dL_law_1834 ?_
  refine V_al0n dL_law_1835 ?_
  refine V_il4 dL_law_1836 ?_
  refine V_iconst dL_law_1838 ?_
  refine V_iadd dL_law_1839 ?_
  refine V_sld (k := 6 * j + 1) (by omega) (by omega) (by omega) rfl dL_law_1840 ?_
  refine V_al0n dL_law_1841 ?_
  refine V_il4 dL_law_1842 ?_
  refine V_iconst dL_law_1844 ?_
  refine V_iadd dL_law_1845 ?_
  refine V_sld (k := 6 * j + 2) (by omega) (by omega) (by omega) rfl dL_law_1846 ?_
  refine V_callV (as := [_, _]) ml_L_183 im_X11_errors se_X11_errors kk0 (by decide) (by decide) dL_law_1847 rfl rfl (by decide) (by decide) (Nat.le_of_ble_eq_true rfl) (by omega) (by omega) rfl (hu) ?_
  rintro r1847 ρ1847 f1847 g1847 ⟨rfl, q1⟩
  have E : HI f g f1847 g1847 := ⟨q1.2.2.1, q1.2.2.2⟩
  have hv := vv_errors h hX h5 q1.fx E (x1 := f 1005 (6 * j + 1)) (x2 := f 1005 (6 * j + 2)) (hri (6 * j + 1)) (hri (6 * j + 2))
  refine V_al2n dL_law_1850 ?_
  refine V_al0n dL_law_1851 ?_
  refine V_il4 dL_law_1852 ?_
  refine V_iconst dL_law_1854 ?_
  refine V_iadd dL_law_1855 ?_
  refine V_sld (k := 6 * j + 1) (by omega) (by rw [E.2 1005 0 (by omega)]; omega) (by rw [E.2 1005 0 (by omega)]; omega) (E.1 1005 _ (by omega)) dL_law_1856 ?_
  refine V_al0n dL_law_1857 ?_
  refine V_il4 dL_law_1858 ?_
  refine V_iconst dL_law_1860 ?_
  refine V_iadd dL_law_1861 ?_
  refine V_sld (k := 6 * j + 2) (by omega) (by rw [E.2 1005 0 (by omega)]; omega) (by rw [E.2 1005 0 (by omega)]; omega) (E.1 1005 _ (by omega)) dL_law_1862 ?_
  refine V_callV (as := [_, _]) ml_L_186 im_X12_errors se_X12_errors kk104 (by decide) (by decide) dL_law_1863 rfl rfl (by decide) (by decide) (Nat.le_of_ble_eq_true rfl) (by omega) (by omega) rfl (hv) ?_
  rintro r1863 ρ1863 f1863 g1863 ⟨rfl, s1863_0, q2⟩
  obtain rfl := s1863_0.symm
  refine V_ieqs (tgt := 1935) dL_law_1866 rfl ?_
  exact H _ _ _ (hI.nx q1 q2)
theorem w_l_rule {N j : Nat} {i : Int} (hI : LWI N j ρ f g) (hj : 6 * j + 6 ≤ N) (hN : N ≤ 3072) (hi : i = 6 * (j : Int)) (hk : kc ≤ 601024) (hs : ks ≤ 7293034) (H : LHC N j kc ks i) : V_LW kc ks 1871 [.ref 1005, .ref 0, .ref 104, .ref 148, .int (iz i), .null, .null] [] ρ f g := by
  obtain ⟨⟨T, b, h, hX⟩, hag, hri, hN0⟩ := id hI
  have h5 : f 55 5 < 999000 := by omega
  have hu := uu_rule h hX h5  
  refine V_al1n dL_law_1871 ?_
  refine V_callV (as := []) ml_L_187 im_X11_rule se_X11_rule kk0 (by decide) (by decide) dL_law_1872 rfl rfl (by decide) (by decide) (Nat.le_of_ble_eq_true rfl) (by omega) (by omega) rfl (hu) ?_
  rintro r1872 ρ1872 f1872 g1872 ⟨rfl, q1⟩
  have E : HI f g f1872 g1872 := ⟨q1.2.2.1, q1.2.2.2⟩
  have hv := vv_rule h hX h5 q1.fx E
  refine V_al2n dL_law_1875 ?_
  refine V_callV (as := []) ml_L_190 im_X12_rule se_X12_rule kk104 (by decide) (by decide) dL_law_1876 rfl rfl (by decide) (by decide) (Nat.le_of_ble_eq_true rfl) (by omega) (by omega) rfl (hv) ?_
  rintro r1876 ρ1876 f1876 g1876 ⟨rfl, s1876_0, q2⟩
  obtain rfl := s1876_0.symm
  refine V_ieqs (tgt := 1935) dL_law_1879 rfl ?_
  exact H _ _ _ (hI.nx q1 q2)
theorem w_l_keep {N j : Nat} {i : Int} (hI : LWI N j ρ f g) (hj : 6 * j + 6 ≤ N) (hN : N ≤ 3072) (hi : i = 6 * (j : Int)) (hk : kc ≤ 601024) (hs : ks ≤ 7293034) (H : LHC N j kc ks i) : V_LW kc ks 1884 [.ref 1005, .ref 0, .ref 104, .ref 148, .int (iz i), .null, .null] [] ρ f g := by
  obtain ⟨⟨T, b, h, hX⟩, hag, hri, hN0⟩ := id hI
  have h5 : f 55 5 < 999000 := by omega
  have hu := uu_keep h hX h5  
  refine V_al1n dL_law_1884 ?_
  refine V_callV (as := []) ml_L_191 im_X11_keep se_X11_keep kk0 (by decide) (by decide) dL_law_1885 rfl rfl (by decide) (by decide) (Nat.le_of_ble_eq_true rfl) (by omega) (by omega) rfl (hu) ?_
  rintro r1885 ρ1885 f1885 g1885 ⟨rfl, q1⟩
  have E : HI f g f1885 g1885 := ⟨q1.2.2.1, q1.2.2.2⟩
  have hv := vv_keep h hX h5 q1.fx E
  refine V_al2n dL_law_1888 ?_
  refine V_callV (as := []) ml_L_194 im_X12_keep se_X12_keep kk104 (by decide) (by decide) dL_law_1889 rfl rfl (by decide) (by decide) (Nat.le_of_ble_eq_true rfl) (by omega) (by omega) rfl (hv) ?_
  rintro r1889 ρ1889 f1889 g1889 ⟨rfl, s1889_0, q2⟩
  obtain rfl := s1889_0.symm
  refine V_ieqs (tgt := 1935) dL_law_1892 rfl ?_
  exact H _ _ _ (hI.nx q1 q2)
theorem w_l_back {N j : Nat} {i : Int} (hI : LWI N j ρ f g) (hj : 6 * j + 6 ≤ N) (hN : N ≤ 3072) (hi : i = 6 * (j : Int)) (hk : kc ≤ 601024) (hs : ks ≤ 7293034) (H : LHC N j kc ks i) : V_LW kc ks 1897 [.ref 1005, .ref 0, .ref 104, .ref 148, .int (iz i), .null, .null] [] ρ f g := by
  obtain ⟨⟨T, b, h, hX⟩, hag, hri, hN0⟩ := id hI
  have h5 : f 55 5 < 999000 := by omega
  have hu := uu_back h hX h5  
  refine V_al1n dL_law_1897 ?_
  refine V_callV (as := []) ml_L_195 im_X11_back se_X11_back kk0 (by decide) (by decide) dL_law_1898 rfl rfl (by decide) (by decide) (Nat.le_of_ble_eq_true rfl) (by omega) (by omega) rfl (hu) ?_
  rintro r1898 ρ1898 f1898 g1898 ⟨rfl, q1⟩
  have E : HI f g f1898 g1898 := ⟨q1.2.2.1, q1.2.2.2⟩
  have hv := vv_back h hX h5 q1.fx E
  refine V_al2n dL_law_1901 ?_
  refine V_callV (as := []) ml_L_198 im_X12_back se_X12_back kk104 (by decide) (by decide) dL_law_1902 rfl rfl (by decide) (by decide) (Nat.le_of_ble_eq_true rfl) (by omega) (by omega) rfl (hv) ?_
  rintro r1902 ρ1902 f1902 g1902 ⟨rfl, s1902_0, q2⟩
  obtain rfl := s1902_0.symm
  refine V_ieqs (tgt := 1935) dL_law_1905 rfl ?_
  exact H _ _ _ (hI.nx q1 q2)
theorem w_l_count {N j : Nat} {i : Int} (hI : LWI N j ρ f g) (hj : 6 * j + 6 ≤ N) (hN : N ≤ 3072) (hi : i = 6 * (j : Int)) (hk : kc ≤ 601024) (hs : ks ≤ 7293034) (H : LHC N j kc ks i) : V_LW kc ks 1910 [.ref 1005, .ref 0, .ref 104, .ref 148, .int (iz i), .null, .null] [] ρ f g := by
  obtain ⟨⟨T, b, h, hX⟩, hag, hri, hN0⟩ := id hI
  have h5 : f 55 5 < 999000 := by omega
  have hu := uu_count h hX h5 (x1 := f 1005 (6 * j + 1)) (hri (6 * j + 1))
  refine V_al1n dL_law_1910 ?_
  refine V_al0n dL_law_1911 ?_
  refine V_il4 dL_law_1912 ?_
  refine V_iconst dL_law_1914 ?_
  refine V_iadd dL_law_1915 ?_
  refine V_sld (k := 6 * j + 1) (by omega) (by omega) (by omega) rfl dL_law_1916 ?_
  refine V_callV (as := [_]) ml_L_199 im_X11_count se_X11_count kk0 (by decide) (by decide) dL_law_1917 rfl rfl (by decide) (by decide) (Nat.le_of_ble_eq_true rfl) (by omega) (by omega) rfl (hu) ?_
  rintro r1917 ρ1917 f1917 g1917 ⟨rfl, q1⟩
  have E : HI f g f1917 g1917 := ⟨q1.2.2.1, q1.2.2.2⟩
  have hv := vv_count h hX h5 q1.fx E (x1 := f 1005 (6 * j + 1)) (hri (6 * j + 1))
  refine V_al2n dL_law_1920 ?_
  refine V_al0n dL_law_1921 ?_
  refine V_il4 dL_law_1922 ?_
  refine V_iconst dL_law_1924 ?_
  refine V_iadd dL_law_1925 ?_
  refine V_sld (k := 6 * j + 1) (by omega) (by rw [E.2 1005 0 (by omega)]; omega) (by rw [E.2 1005 0 (by omega)]; omega) (E.1 1005 _ (by omega)) dL_law_1926 ?_
  refine V_callV (as := [_]) ml_L_202 im_X12_count se_X12_count kk104 (by decide) (by decide) dL_law_1927 rfl rfl (by decide) (by decide) (Nat.le_of_ble_eq_true rfl) (by omega) (by omega) rfl (hv) ?_
  rintro r1927 ρ1927 f1927 g1927 ⟨rfl, s1927_0, q2⟩
  obtain rfl := s1927_0.symm
  refine V_ieqs (tgt := 1935) dL_law_1930 rfl ?_
  exact H _ _ _ (hI.nx q1 q2)
end LAW

