/-! rain, and the law's loop -/
section LOOP
variable {ρ : RT} {f : IT} {g : JT} {kc ks : Nat}
theorem w_l_rain {N j : Nat} {i : Int} (hI : LWI N j ρ f g) (hj : 6 * j + 6 ≤ N) (hN : N ≤ 3072) (hi : i = 6 * (j : Int)) (hk : kc ≤ 601024) (hs : ks ≤ 7293034) (H : LHC N j kc ks i) : V_LW kc ks 824 [.ref 1005, .ref 0, .ref 104, .ref 148, .int (iz i), .null, .null] [] ρ f g := by
  obtain ⟨⟨T, b, h, hX⟩, hag, hri, hN0⟩ := id hI
  have h5 : f 55 5 < 999000 := by omega
  have rx := hri (6 * j + 1)
  by_cases c : f 1005 (6 * j + 1) = 0
  · have hu := uu_rain h hX h5 (ra := false)
    refine V_al1n dL_law_824 ?_
    refine V_al0n dL_law_825 ?_
    refine V_il4 dL_law_826 ?_
    refine V_iconst dL_law_828 ?_
    refine V_iadd dL_law_829 ?_
    refine V_sld (k := 6 * j + 1) (by omega) (by omega) (by omega) rfl dL_law_830 ?_
    refine V_if_eq (tgt := 838) dL_law_831 rfl rx (fun b831 => ?_) (fun b831 => ?_)
    · refine V_iconst dL_law_838 ?_
      refine V_callV (as := [_]) ml_L_97 im_X11_rain se_X11_rain kk0 (by decide) (by decide) dL_law_839 rfl rfl (by decide) (by decide) (Nat.le_of_ble_eq_true rfl) (by omega) (by omega) rfl (hu) ?_
      rintro r839 ρ839 f839 g839 ⟨rfl, q1⟩
      have E : HI f g f839 g839 := ⟨q1.2.2.1, q1.2.2.2⟩
      have hv := vv_rain h hX h5 q1.fx E (ra := false)
      refine V_al2n dL_law_842 ?_
      refine V_al0n dL_law_843 ?_
      refine V_il4 dL_law_844 ?_
      refine V_iconst dL_law_846 ?_
      refine V_iadd dL_law_847 ?_
      refine V_sld (k := 6 * j + 1) (by omega) (by rw [E.2 1005 0 (by omega)]; omega) (by rw [E.2 1005 0 (by omega)]; omega) (E.1 1005 _ (by omega)) dL_law_848 ?_
      refine V_if_eq (tgt := 856) dL_law_849 rfl rx (fun b849 => ?_) (fun b849 => ?_)
      · refine V_iconst dL_law_856 ?_
        refine V_callV (as := [_]) ml_L_101 im_X12_rain se_X12_rain kk104 (by decide) (by decide) dL_law_857 rfl rfl (by decide) (by decide) (Nat.le_of_ble_eq_true rfl) (by omega) (by omega) rfl (hv) ?_
        rintro r857 ρ857 f857 g857 ⟨rfl, s857_0, q2⟩
        obtain rfl := s857_0.symm
        refine V_ieqs (tgt := 1935) dL_law_860 rfl ?_
        exact H _ _ _ (hI.nx q1 q2)
      · exfalso; omega
    · exfalso; omega
  · have hu := uu_rain h hX h5 (ra := true)
    refine V_al1n dL_law_824 ?_
    refine V_al0n dL_law_825 ?_
    refine V_il4 dL_law_826 ?_
    refine V_iconst dL_law_828 ?_
    refine V_iadd dL_law_829 ?_
    refine V_sld (k := 6 * j + 1) (by omega) (by omega) (by omega) rfl dL_law_830 ?_
    refine V_if_eq (tgt := 838) dL_law_831 rfl rx (fun b831 => ?_) (fun b831 => ?_)
    · exfalso; omega
    · refine V_iconst dL_law_834 ?_
      refine V_goto (tgt := 839) dL_law_835 rfl ?_
      refine V_callV (as := [_]) ml_L_97 im_X11_rain se_X11_rain kk0 (by decide) (by decide) dL_law_839 rfl rfl (by decide) (by decide) (Nat.le_of_ble_eq_true rfl) (by omega) (by omega) rfl (hu) ?_
      rintro r839 ρ839 f839 g839 ⟨rfl, q1⟩
      have E : HI f g f839 g839 := ⟨q1.2.2.1, q1.2.2.2⟩
      have hv := vv_rain h hX h5 q1.fx E (ra := true)
      refine V_al2n dL_law_842 ?_
      refine V_al0n dL_law_843 ?_
      refine V_il4 dL_law_844 ?_
      refine V_iconst dL_law_846 ?_
      refine V_iadd dL_law_847 ?_
      refine V_sld (k := 6 * j + 1) (by omega) (by rw [E.2 1005 0 (by omega)]; omega) (by rw [E.2 1005 0 (by omega)]; omega) (E.1 1005 _ (by omega)) dL_law_848 ?_
      refine V_if_eq (tgt := 856) dL_law_849 rfl rx (fun b849 => ?_) (fun b849 => ?_)
      · exfalso; omega
      · refine V_iconst dL_law_852 ?_
        refine V_goto (tgt := 857) dL_law_853 rfl ?_
        refine V_callV (as := [_]) ml_L_101 im_X12_rain se_X12_rain kk104 (by decide) (by decide) dL_law_857 rfl rfl (by decide) (by decide) (Nat.le_of_ble_eq_true rfl) (by omega) (by omega) rfl (hv) ?_
        rintro r857 ρ857 f857 g857 ⟨rfl, s857_0, q2⟩
        obtain rfl := s857_0.symm
        refine V_ieqs (tgt := 1935) dL_law_860 rfl ?_
        exact H _ _ _ (hI.nx q1 q2)
theorem iz_and63 (a : Int) : iz a &&& iz 63 = iz (a % 64) := by
  rw [iz_and]
  congr 1
  have e : U a &&& U 63 = U a % 64 := by
    show U a &&& (2 ^ 6 - 1) = _
    rw [Nat.and_two_pow_sub_one_eq_mod]
  rw [e]
  unfold U
  omega
/-- the case of look -/
def LookCase : Prop := ∀ (ρ : RT) (f : IT) (g : JT) (kc ks N j : Nat) (i : Int), LWI N j ρ f g → 6 * j + 6 ≤ N → N ≤ 3072 → i = 6 * (j : Int) → kc + 1 ≤ 601024 → ks + 6 ≤ 7293034 → LHC N j (kc + 1) (ks + 6) i → V_LW kc ks 384 [.ref 1005, .ref 0, .ref 104, .ref 148, .int (iz i), .null, .null] [] ρ f g
theorem w_lw23 (hlook : LookCase) {N : Nat} (hN : N ≤ 3072) (r j : Nat) (hr : r + j = 513) (i : Int) (hi : i = 6 * (j : Int)) (hj : 6 * j ≤ N + 5) (kc ks : Nat) (hk : kc + r ≤ 601024) (hs : ks + 6 * r ≤ 7293034) (ρ : RT) (f : IT) (g : JT) (hI : LWI N j ρ f g) : V_LW kc ks 23 [.ref 1005, .ref 0, .ref 104, .ref 148, .int (iz i), .null, .null] [] ρ f g := by
  have hN0 := hI.2.2.2
  have hri := hI.2.2.1
  have c1 : 6 * j + 6 ≤ N → ∀ kc' ks' : Nat, kc' ≤ kc + 1 → ks' ≤ ks + 6 → LHC N j kc' ks' i := fun h6 kc' ks' hk' hs' ρ' f' g' hI' => by
    refine V_inc4 dL_law_1935 (by decide) rfl ?_
    refine V_goto (tgt := 23) dL_law_1938 rfl ?_
    exact w_lw23 hlook hN (r - 1) (j + 1) (by omega) (i + 6) (by omega) (by omega) kc' ks' (by omega) (by omega) ρ' f' g' hI'
  refine V_il4 dL_law_23 ?_
  refine V_al0n dL_law_25 ?_
  refine V_slen rfl dL_law_26 ?_
  refine V_bipush dL_law_27 rfl ?_
  refine V_isub dL_law_29 ?_
  refine V_icmp_gt (tgt := 1941) dL_law_30 rfl (by unfold ri; omega) (by unfold ri; omega) (fun b30 => ?_) (fun b30 => ?_)
  · refine V_iconst dL_law_1941 ?_
    exact V_lwret dL_law_1942 (by omega) (by omega)
  · refine V_al0n dL_law_33 ?_
    refine V_il4 dL_law_34 ?_
    refine V_sld (k := 6 * j) (by omega) (by omega) (by omega) rfl dL_law_36 ?_
    refine V_bipush dL_law_37 rfl ?_
    refine V_iand dL_law_39 (iz_and63 _) ?_
    have H := c1 (by omega) kc ks (by omega) (by omega)
    rcases (show f 1005 (6 * j) % 64 = 0 ∨ f 1005 (6 * j) % 64 = 1 ∨ f 1005 (6 * j) % 64 = 2 ∨ f 1005 (6 * j) % 64 = 3 ∨ f 1005 (6 * j) % 64 = 4 ∨ f 1005 (6 * j) % 64 = 5 ∨ f 1005 (6 * j) % 64 = 6 ∨ f 1005 (6 * j) % 64 = 7 ∨ f 1005 (6 * j) % 64 = 8 ∨ f 1005 (6 * j) % 64 = 9 ∨ f 1005 (6 * j) % 64 = 10 ∨ f 1005 (6 * j) % 64 = 11 ∨ f 1005 (6 * j) % 64 = 12 ∨ f 1005 (6 * j) % 64 = 13 ∨ f 1005 (6 * j) % 64 = 14 ∨ f 1005 (6 * j) % 64 = 15 ∨ f 1005 (6 * j) % 64 = 16 ∨ f 1005 (6 * j) % 64 = 17 ∨ f 1005 (6 * j) % 64 = 18 ∨ f 1005 (6 * j) % 64 = 19 ∨ f 1005 (6 * j) % 64 = 20 ∨ f 1005 (6 * j) % 64 = 21 ∨ f 1005 (6 * j) % 64 = 22 ∨ f 1005 (6 * j) % 64 = 23 ∨ f 1005 (6 * j) % 64 = 24 ∨ f 1005 (6 * j) % 64 = 25 ∨ f 1005 (6 * j) % 64 = 26 ∨ f 1005 (6 * j) % 64 = 27 ∨ f 1005 (6 * j) % 64 = 28 ∨ f 1005 (6 * j) % 64 = 29 ∨ f 1005 (6 * j) % 64 = 30 ∨ f 1005 (6 * j) % 64 = 31 ∨ f 1005 (6 * j) % 64 = 32 ∨ f 1005 (6 * j) % 64 = 33 ∨ f 1005 (6 * j) % 64 = 34 ∨ f 1005 (6 * j) % 64 = 35 ∨ f 1005 (6 * j) % 64 = 36 ∨ f 1005 (6 * j) % 64 = 37 ∨ f 1005 (6 * j) % 64 = 38 ∨ f 1005 (6 * j) % 64 = 39 ∨ f 1005 (6 * j) % 64 = 40 ∨ f 1005 (6 * j) % 64 = 41 ∨ 41 < f 1005 (6 * j) % 64 by omega) with e0 | e1 | e2 | e3 | e4 | e5 | e6 | e7 | e8 | e9 | e10 | e11 | e12 | e13 | e14 | e15 | e16 | e17 | e18 | e19 | e20 | e21 | e22 | e23 | e24 | e25 | e26 | e27 | e28 | e29 | e30 | e31 | e32 | e33 | e34 | e35 | e36 | e37 | e38 | e39 | e40 | e41 | ed
    · refine V_tabIn (tgt := 224) (i := 0) dL_law_40 (by first | rfl | omega) (by decide) (by first | decide | assumption | (unfold ri at *; omega)) rfl rfl ?_
      exact w_l_feed hI (by omega) hN hi (by omega) (by omega) H
    · refine V_tabIn (tgt := 297) (i := 1) dL_law_40 (by first | rfl | omega) (by decide) (by first | decide | assumption | (unfold ri at *; omega)) rfl rfl ?_
      exact w_l_text hI (by omega) hN hi (by omega) (by omega) H
    · refine V_tabIn (tgt := 322) (i := 2) dL_law_40 (by first | rfl | omega) (by decide) (by first | decide | assumption | (unfold ri at *; omega)) rfl rfl ?_
      exact w_l_fault hI (by omega) hN hi (by omega) (by omega) H
    · refine V_tabIn (tgt := 347) (i := 3) dL_law_40 (by first | rfl | omega) (by decide) (by first | decide | assumption | (unfold ri at *; omega)) rfl rfl ?_
      exact w_l_named hI (by omega) hN hi (by omega) (by omega) H
    · refine V_tabIn (tgt := 384) (i := 4) dL_law_40 (by first | rfl | omega) (by decide) (by first | decide | assumption | (unfold ri at *; omega)) rfl rfl ?_
      exact hlook ρ f g kc ks N j i hI (by omega) hN hi (by omega) (by omega) (c1 (by omega) (kc + 1) (ks + 6) (by omega) (by omega))
    · refine V_tabIn (tgt := 452) (i := 5) dL_law_40 (by first | rfl | omega) (by decide) (by first | decide | assumption | (unfold ri at *; omega)) rfl rfl ?_
      exact w_l_pace hI (by omega) hN hi (by omega) (by omega) H
    · refine V_tabIn (tgt := 489) (i := 6) dL_law_40 (by first | rfl | omega) (by decide) (by first | decide | assumption | (unfold ri at *; omega)) rfl rfl ?_
      exact w_l_law hI (by omega) hN hi (by omega) (by omega) H
    · refine V_tabIn (tgt := 551) (i := 7) dL_law_40 (by first | rfl | omega) (by decide) (by first | decide | assumption | (unfold ri at *; omega)) rfl rfl ?_
      exact w_l_run hI (by omega) hN hi (by omega) (by omega) H
    · refine V_tabIn (tgt := 600) (i := 8) dL_law_40 (by first | rfl | omega) (by decide) (by first | decide | assumption | (unfold ri at *; omega)) rfl rfl ?_
      exact w_l_split hI (by omega) hN hi (by omega) (by omega) H
    · refine V_tabIn (tgt := 649) (i := 9) dL_law_40 (by first | rfl | omega) (by decide) (by first | decide | assumption | (unfold ri at *; omega)) rfl rfl ?_
      exact w_l_race hI (by omega) hN hi (by omega) (by omega) H
    · refine V_tabIn (tgt := 686) (i := 10) dL_law_40 (by first | rfl | omega) (by decide) (by first | decide | assumption | (unfold ri at *; omega)) rfl rfl ?_
      exact w_l_go hI (by omega) hN hi (by omega) (by omega) H
    · refine V_tabIn (tgt := 711) (i := 11) dL_law_40 (by first | rfl | omega) (by decide) (by first | decide | assumption | (unfold ri at *; omega)) rfl rfl ?_
      exact w_l_now hI (by omega) hN hi (by omega) (by omega) H
    · refine V_tabIn (tgt := 736) (i := 12) dL_law_40 (by first | rfl | omega) (by decide) (by first | decide | assumption | (unfold ri at *; omega)) rfl rfl ?_
      exact w_l_paced hI (by omega) hN hi (by omega) (by omega) H
    · refine V_tabIn (tgt := 761) (i := 13) dL_law_40 (by first | rfl | omega) (by decide) (by first | decide | assumption | (unfold ri at *; omega)) rfl rfl ?_
      exact w_l_shift hI (by omega) hN hi (by omega) (by omega) H
    · refine V_tabIn (tgt := 786) (i := 14) dL_law_40 (by first | rfl | omega) (by decide) (by first | decide | assumption | (unfold ri at *; omega)) rfl rfl ?_
      exact w_l_undo hI (by omega) hN hi (by omega) (by omega) H
    · refine V_tabIn (tgt := 799) (i := 15) dL_law_40 (by first | rfl | omega) (by decide) (by first | decide | assumption | (unfold ri at *; omega)) rfl rfl ?_
      exact w_l_sack hI (by omega) hN hi (by omega) (by omega) H
    · refine V_tabIn (tgt := 824) (i := 16) dL_law_40 (by first | rfl | omega) (by decide) (by first | decide | assumption | (unfold ri at *; omega)) rfl rfl ?_
      exact w_l_rain hI (by omega) hN hi (by omega) (by omega) H
    · refine V_tabIn (tgt := 865) (i := 17) dL_law_40 (by first | rfl | omega) (by decide) (by first | decide | assumption | (unfold ri at *; omega)) rfl rfl ?_
      exact w_l_best hI (by omega) hN hi (by omega) (by omega) H
    · refine V_tabIn (tgt := 902) (i := 18) dL_law_40 (by first | rfl | omega) (by decide) (by first | decide | assumption | (unfold ri at *; omega)) rfl rfl ?_
      exact w_l_paces hI (by omega) hN hi (by omega) (by omega) H
    · refine V_tabIn (tgt := 951) (i := 19) dL_law_40 (by first | rfl | omega) (by decide) (by first | decide | assumption | (unfold ri at *; omega)) rfl rfl ?_
      exact w_l_quick hI (by omega) hN hi (by omega) (by omega) H
    · refine V_tabIn (tgt := 1000) (i := 20) dL_law_40 (by first | rfl | omega) (by decide) (by first | decide | assumption | (unfold ri at *; omega)) rfl rfl ?_
      exact w_l_safe hI (by omega) hN hi (by omega) (by omega) H
    · refine V_tabIn (tgt := 1061) (i := 21) dL_law_40 (by first | rfl | omega) (by decide) (by first | decide | assumption | (unfold ri at *; omega)) rfl rfl ?_
      exact w_l_held hI (by omega) hN hi (by omega) (by omega) H
    · refine V_tabIn (tgt := 1098) (i := 22) dL_law_40 (by first | rfl | omega) (by decide) (by first | decide | assumption | (unfold ri at *; omega)) rfl rfl ?_
      exact w_l_weighed hI (by omega) hN hi (by omega) (by omega) H
    · refine V_tabIn (tgt := 1159) (i := 23) dL_law_40 (by first | rfl | omega) (by decide) (by first | decide | assumption | (unfold ri at *; omega)) rfl rfl ?_
      exact w_l_flat hI (by omega) hN hi (by omega) (by omega) H
    · refine V_tabIn (tgt := 1196) (i := 24) dL_law_40 (by first | rfl | omega) (by decide) (by first | decide | assumption | (unfold ri at *; omega)) rfl rfl ?_
      exact w_l_alike hI (by omega) hN hi (by omega) (by omega) H
    · refine V_tabIn (tgt := 1245) (i := 25) dL_law_40 (by first | rfl | omega) (by decide) (by first | decide | assumption | (unfold ri at *; omega)) rfl rfl ?_
      exact w_l_trained hI (by omega) hN hi (by omega) (by omega) H
    · refine V_tabIn (tgt := 1306) (i := 26) dL_law_40 (by first | rfl | omega) (by decide) (by first | decide | assumption | (unfold ri at *; omega)) rfl rfl ?_
      exact w_l_note hI (by omega) hN hi (by omega) (by omega) H
    · refine V_tabIn (tgt := 1367) (i := 27) dL_law_40 (by first | rfl | omega) (by decide) (by first | decide | assumption | (unfold ri at *; omega)) rfl rfl ?_
      exact w_l_strike hI (by omega) hN hi (by omega) (by omega) H
    · refine V_tabIn (tgt := 1392) (i := 28) dL_law_40 (by first | rfl | omega) (by decide) (by first | decide | assumption | (unfold ri at *; omega)) rfl rfl ?_
      exact w_l_known hI (by omega) hN hi (by omega) (by omega) H
    · refine V_tabIn (tgt := 1417) (i := 29) dL_law_40 (by first | rfl | omega) (by decide) (by first | decide | assumption | (unfold ri at *; omega)) rfl rfl ?_
      exact w_l_fits hI (by omega) hN hi (by omega) (by omega) H
    · refine V_tabIn (tgt := 1454) (i := 30) dL_law_40 (by first | rfl | omega) (by decide) (by first | decide | assumption | (unfold ri at *; omega)) rfl rfl ?_
      exact w_l_wins hI (by omega) hN hi (by omega) (by omega) H
    · refine V_tabIn (tgt := 1515) (i := 31) dL_law_40 (by first | rfl | omega) (by decide) (by first | decide | assumption | (unfold ri at *; omega)) rfl rfl ?_
      exact w_l_beats hI (by omega) hN hi (by omega) (by omega) H
    · refine V_tabIn (tgt := 1576) (i := 32) dL_law_40 (by first | rfl | omega) (by decide) (by first | decide | assumption | (unfold ri at *; omega)) rfl rfl ?_
      exact w_l_led hI (by omega) hN hi (by omega) (by omega) H
    · refine V_tabIn (tgt := 1637) (i := 33) dL_law_40 (by first | rfl | omega) (by decide) (by first | decide | assumption | (unfold ri at *; omega)) rfl rfl ?_
      exact w_l_rests hI (by omega) hN hi (by omega) (by omega) H
    · refine V_tabIn (tgt := 1674) (i := 34) dL_law_40 (by first | rfl | omega) (by decide) (by first | decide | assumption | (unfold ri at *; omega)) rfl rfl ?_
      exact w_l_rest hI (by omega) hN hi (by omega) (by omega) H
    · refine V_tabIn (tgt := 1723) (i := 35) dL_law_40 (by first | rfl | omega) (by decide) (by first | decide | assumption | (unfold ri at *; omega)) rfl rfl ?_
      exact w_l_corner hI (by omega) hN hi (by omega) (by omega) H
    · refine V_tabIn (tgt := 1772) (i := 36) dL_law_40 (by first | rfl | omega) (by decide) (by first | decide | assumption | (unfold ri at *; omega)) rfl rfl ?_
      exact w_l_down hI (by omega) hN hi (by omega) (by omega) H
    · refine V_tabIn (tgt := 1834) (i := 37) dL_law_40 (by first | rfl | omega) (by decide) (by first | decide | assumption | (unfold ri at *; omega)) rfl rfl ?_
      exact w_l_errors hI (by omega) hN hi (by omega) (by omega) H
    · refine V_tabIn (tgt := 1871) (i := 38) dL_law_40 (by first | rfl | omega) (by decide) (by first | decide | assumption | (unfold ri at *; omega)) rfl rfl ?_
      exact w_l_rule hI (by omega) hN hi (by omega) (by omega) H
    · refine V_tabIn (tgt := 1884) (i := 39) dL_law_40 (by first | rfl | omega) (by decide) (by first | decide | assumption | (unfold ri at *; omega)) rfl rfl ?_
      exact w_l_keep hI (by omega) hN hi (by omega) (by omega) H
    · refine V_tabIn (tgt := 1897) (i := 40) dL_law_40 (by first | rfl | omega) (by decide) (by first | decide | assumption | (unfold ri at *; omega)) rfl rfl ?_
      exact w_l_back hI (by omega) hN hi (by omega) (by omega) H
    · refine V_tabIn (tgt := 1910) (i := 41) dL_law_40 (by first | rfl | omega) (by decide) (by first | decide | assumption | (unfold ri at *; omega)) rfl rfl ?_
      exact w_l_count hI (by omega) hN hi (by omega) (by omega) H
    · refine V_tabOut (tgt := 1935) dL_law_40 (by omega) (by first | assumption | (unfold ri at *; omega)) rfl ?_
      exact c1 (by omega) kc ks (by omega) (by omega) ρ f g ⟨hI.1, by have := hI.2.1; omega, hri, hN0⟩
termination_by r
end LOOP

