theorem lz_and4095 (a : Int) : lz a &&& lz 4095 = lz (a % 4096) := by
  apply Int64.toBitVec_inj.mp
  show BitVec.ofInt 64 a &&& BitVec.ofInt 64 4095 = BitVec.ofInt 64 (a % 4096)
  apply BitVec.eq_of_toNat_eq
  rw [BitVec.toNat_and, BitVec.toNat_ofInt, BitVec.toNat_ofInt, BitVec.toNat_ofInt]
  have : (((4095 : Int) % ((2 ^ 64 : Nat) : Int)).toNat) = 2 ^ 12 - 1 := by decide
  rw [this, Nat.and_two_pow_sub_one_eq_mod]
  show (a % 18446744073709551616).toNat % 4096 = (a % 4096 % 18446744073709551616).toNat
  omega
theorem KEY_inj {ag : Int} {k k' : Nat} {pa pa' ow ow' ol ol' : Int} (h : KEY ag k pa ow ol = KEY ag k' pa' ow' ol') (hk : k < 6) (hk' : k' < 6) (hp : 0 ≤ pa ∧ pa ≤ 9) (hp' : 0 ≤ pa' ∧ pa' ≤ 9) (hw : 0 ≤ ow ∧ ow ≤ 60) (hw' : 0 ≤ ow' ∧ ow' ≤ 60) (hl : 0 ≤ ol ∧ ol ≤ 40) (hl' : 0 ≤ ol' ∧ ol' ≤ 40) : k = k' ∧ pa = pa' ∧ ow = ow' ∧ ol = ol' := by
  unfold KEY at h
  omega
theorem KEY_rng {ag : Int} {k : Nat} {pa ow ol : Int} (hk : k < 6) (hp : 0 ≤ pa ∧ pa ≤ 9) (hw : 0 ≤ ow ∧ ow ≤ 60) (hl : 0 ≤ ol ∧ ol ≤ 40) : ag * 150060 ≤ KEY ag k pa ow ol ∧ KEY ag k pa ow ol < (ag + 1) * 150060 := by
  unfold KEY
  omega
/-- what lieUnder leaves -/
def LU (T : TT) (fl ra : Bool) (sk wt : Int) (f : IT) (g : JT) (f' : IT) : Prop := (∀ a k, ¬ (a = 55 ∧ 1 ≤ k ∧ k ≤ 5) → ¬ (56 ≤ a ∧ a ≤ 59) → f' a k = f a k) ∧ GI T fl ra f' g ∧ f' 55 1 = ms T 3 wt ∧ f' 55 2 = ms T 2 sk ∧ (f' = f ∨ f' 55 5 = f 55 5 + 1)
section GROUND2
variable {T : TT} {b : Nat} {ρ : RT} {f : IT} {g : JT}
/-- laid anew: nothing kept counts -/
theorem GI.anew (hk : TOK T) {F : IT} {fl ra : Bool} (hG : ∀ s, s < 4096 → 0 ≤ g 60 s ∧ g 60 s < (F 55 5 + 1) * 150060) (h4 : F 55 4 = bz fl) (h3 : F 55 3 = bz ra) (h1 : 0 ≤ F 55 1 ∧ F 55 1 ≤ 30) (h2 : 0 ≤ F 55 2 ∧ F 55 2 ≤ 30) (h5 : 0 ≤ F 55 5 ∧ F 55 5 < 1000000) : GI T fl ra (u2 (spF T fl ra F 6) 55 5 (F 55 5 + 1)) g := by
  have h6 := hk.la
  have e : ∀ k, k ≠ 5 → u2 (spF T fl ra F 6) 55 5 (F 55 5 + 1) 55 k = F 55 k := fun k h => by rw [u2_o (by omega), spF_o (by omega)]
  have e5 : u2 (spF T fl ra F 6) 55 5 (F 55 5 + 1) 55 5 = F 55 5 + 1 := u2_s
  unfold GI GC
  rw [e 4 (by omega), e 3 (by omega), e 1 (by omega), e 2 (by omega), e5]
  refine ⟨h4, h3, h1, h2, by omega, fun i hi => ?_, fun s hs => ⟨by have := hG s hs; omega, fun k pa wi le hkl hp hw hl he => ?_⟩⟩
  · rw [u2_o (by omega), u2_o (by omega), u2_o (by omega), u2_o (by omega)]
    unfold spF
    simp [hi]
  · exfalso
    have := KEY_rng (ag := F 55 5 + 1) (k := k) (pa := pa) (ow := ms T 4 wi) (ol := ms T 5 le) (by omega) (by omega) (ms_rng hw) (ms_rng hl)
    have := hG s hs
    omega
theorem c_lieUnder (hρ : Fx ρ) (hr : ρ 55 0 = some b) (hb : b = 5 ∨ b = 30) (hC : CT T b f) (hk : TOK T) {fl0 ra0 : Bool} (hG : GI T fl0 ra0 f g) (h5 : f 55 5 < 1000000) {wt sk : Int} {ra fl : Bool} (hw : 0 ≤ wt ∧ wt ≤ 30) (hs : 0 ≤ sk ∧ sk ≤ 30) :
    C_X0_lieUnder [.ref 55, .int (iz wt), .int (iz sk), .int (iz (bz ra)), .int (iz (bz fl))] ρ f g (fun r ρ' f' g' => r = none ∧ ρ' = ρ ∧ g' = g ∧ LU T fl ra sk wt f g f') := by
  have hu := hC.2.2.2.2.2.2
  have hG0 := hG
  obtain ⟨g4, g3, g1, g2, g5, gR, gC⟩ := hG
  have m3 := ms_rng (T := T) (n := 3) hw
  have m2 := ms_rng (T := T) (n := 2) hs
  refine Ct.ofV (by decide) rfl (Nat.le_of_ble_eq_true rfl) ?_
  have Y : V_X0_lieUnder (fun r ρ' f' g' => r = none ∧ ρ' = ρ ∧ g' = g ∧ LU T fl ra sk wt f g f') 80 [.ref 55, .int (iz wt), .int (iz sk), .int (iz (bz ra)), .int (iz (bz fl)), .int (iz (ms T 3 wt)), .int (iz (ms T 2 sk))] [] ρ f g := by
    have hC4 : CT T b (u2 (u2 (u2 (u2 f 55 1 (ms T 3 wt)) 55 2 (ms T 2 sk)) 55 3 (bz ra)) 55 4 (bz fl)) := hC.cg hb (fun a k h1 h2 => by rw [u2_o (by omega), u2_o (by omega), u2_o (by omega), u2_o (by omega)])
    have x1 : u2 (u2 (u2 (u2 f 55 1 (ms T 3 wt)) 55 2 (ms T 2 sk)) 55 3 (bz ra)) 55 4 (bz fl) 55 1 = ms T 3 wt := by rw [u2_o (by omega), u2_o (by omega), u2_o (by omega), u2_s]
    have x2 : u2 (u2 (u2 (u2 f 55 1 (ms T 3 wt)) 55 2 (ms T 2 sk)) 55 3 (bz ra)) 55 4 (bz fl) 55 2 = ms T 2 sk := by rw [u2_o (by omega), u2_o (by omega), u2_s]
    have x3 : u2 (u2 (u2 (u2 f 55 1 (ms T 3 wt)) 55 2 (ms T 2 sk)) 55 3 (bz ra)) 55 4 (bz fl) 55 3 = bz ra := by rw [u2_o (by omega), u2_s]
    have x4 : u2 (u2 (u2 (u2 f 55 1 (ms T 3 wt)) 55 2 (ms T 2 sk)) 55 3 (bz ra)) 55 4 (bz fl) 55 4 = bz fl := u2_s
    have x5 : u2 (u2 (u2 (u2 f 55 1 (ms T 3 wt)) 55 2 (ms T 2 sk)) 55 3 (bz ra)) 55 4 (bz fl) 55 5 = f 55 5 := by rw [u2_o (by omega), u2_o (by omega), u2_o (by omega), u2_o (by omega)]
    have xo : ∀ a k, ¬ (a = 55 ∧ 1 ≤ k ∧ k ≤ 5) → u2 (u2 (u2 (u2 f 55 1 (ms T 3 wt)) 55 2 (ms T 2 sk)) 55 3 (bz ra)) 55 4 (bz fl) a k = f a k := fun a k h => by rw [u2_o (by omega), u2_o (by omega), u2_o (by omega), u2_o (by omega)]
    refine V_al0n dX0_lieUnder_80 ?_
    refine V_il5 dX0_lieUnder_81 ?_
    refine V_putI kk55 (by decide) fl_X0_9 rfl dX0_lieUnder_83 ?_
    refine V_al0n dX0_lieUnder_86 ?_
    refine V_il6 dX0_lieUnder_87 ?_
    refine V_putI kk55 (by decide) fl_X0_15 rfl dX0_lieUnder_89 ?_
    refine V_al0n dX0_lieUnder_92 ?_
    refine V_il3n dX0_lieUnder_93 ?_
    refine V_putZ kk55 (by decide) fl_X0_18 rfl (bz_01 _) dX0_lieUnder_94 ?_
    refine V_al0n dX0_lieUnder_97 ?_
    refine V_il4 dX0_lieUnder_98 ?_
    refine V_putZ kk55 (by decide) fl_X0_22 rfl (bz_01 _) dX0_lieUnder_100 ?_
    refine V_al0n dX0_lieUnder_103 ?_
    refine V_callV (as := []) ml_X0_52 im_X0_spread se_X0_spread kk55 (by decide) (by decide) dX0_lieUnder_104 rfl rfl (by decide) (by decide) (Nat.le_of_ble_eq_true rfl) (by decide) (by decide) rfl (c_spread hρ hr hb hC4 hk x4 x3) ?_
    refine pq4 ?_
    generalize u2 (u2 (u2 (u2 f 55 1 (ms T 3 wt)) 55 2 (ms T 2 sk)) 55 3 (bz ra)) 55 4 (bz fl) = F at *
    refine V_return rfl ⟨rfl, rfl, rfl, fun a k q1 q2 => ?_, GI.anew hk (fun s hs => by rw [x5]; exact (gC s hs).1) x4 x3 (by rw [x1]; exact m3) (by rw [x2]; exact m2) (by rw [x5]; omega), ?_, ?_, Or.inr ?_⟩ dX0_lieUnder_107
    · rw [u2_o (by omega), spF_o (by omega)]; exact xo a k q1
    · rw [u2_o (by omega), spF_o (by omega)]; exact x1
    · rw [u2_o (by omega), spF_o (by omega)]; exact x2
    · rw [u2_s, x5]
  have X : ∀ x y, x = ms T 3 wt → y = ms T 2 sk → V_X0_lieUnder (fun r ρ' f' g' => r = none ∧ ρ' = ρ ∧ g' = g ∧ LU T fl ra sk wt f g f') 44 [.ref 55, .int (iz wt), .int (iz sk), .int (iz (bz ra)), .int (iz (bz fl)), .int (iz x), .int (iz y)] [] ρ f g := fun x y hx hy => by
    subst hx hy
    refine V_il5 dX0_lieUnder_44 ?_
    refine V_al0n dX0_lieUnder_46 ?_
    refine V_getI kk55 (by decide) fl_X0_9 rfl dX0_lieUnder_47 ?_
    refine V_icmp_ne (tgt := 80) dX0_lieUnder_50 rfl (by unfold ri; omega) (by unfold ri; omega) (fun b50 => ?_) (fun b50 => ?_)
    · exact Y
    · refine V_il6 dX0_lieUnder_53 ?_
      refine V_al0n dX0_lieUnder_55 ?_
      refine V_getI kk55 (by decide) fl_X0_15 rfl dX0_lieUnder_56 ?_
      refine V_icmp_ne (tgt := 80) dX0_lieUnder_59 rfl (by unfold ri; omega) (by unfold ri; omega) (fun b59 => ?_) (fun b59 => ?_)
      · exact Y
      · refine V_il3n dX0_lieUnder_62 ?_
        refine V_al0n dX0_lieUnder_63 ?_
        refine V_getZ kk55 (by decide) fl_X0_18 g3 dX0_lieUnder_64 ?_
        refine V_icmp_ne (tgt := 80) dX0_lieUnder_67 rfl (bz_ri _) (bz_ri _) (fun b67 => ?_) (fun b67 => ?_)
        · exact Y
        · refine V_il4 dX0_lieUnder_70 ?_
          refine V_al0n dX0_lieUnder_72 ?_
          refine V_getZ kk55 (by decide) fl_X0_22 g4 dX0_lieUnder_73 ?_
          refine V_icmp_ne (tgt := 80) dX0_lieUnder_76 rfl (bz_ri _) (bz_ri _) (fun b76 => ?_) (fun b76 => ?_)
          · exact Y
          · exact V_return rfl (by have e1 : ra = ra0 := (by cases ra <;> cases ra0 <;> simp_all [bz]); have e2 : fl = fl0 := (by cases fl <;> cases fl0 <;> simp_all [bz]); subst e1 e2; exact ⟨rfl, rfl, rfl, fun _ _ _ _ => rfl, hG0, by omega, by omega, Or.inl rfl⟩) dX0_lieUnder_79
  refine V_al0n dX0_lieUnder_0 ?_
  refine V_getR kk55 (by decide) fl_X0_48 hr dX0_lieUnder_1 ?_
  refine V_getR (kb_0 hb) (kl_0 hb) fl_X0_55 (fb_0_1 hρ hb) dX0_lieUnder_4 ?_
  refine V_getR (kb_17 hb) (kl_17 hb) fl_X0_61 (fb_17_7 hρ hb) dX0_lieUnder_7 ?_
  refine V_iconst dX0_lieUnder_10 ?_
  refine V_zald (k := 3) (kb_24 hb) (kl_24 hb) (by first | rfl | omega) (by omega) (by first | decide | assumption | omega) (hu 3 (by omega)) dX0_lieUnder_11 ?_
  refine V_bt (tgt := 19) dX0_lieUnder_12 rfl (fun b12 => ?_) (fun b12 => ?_)
  · refine V_iconst dX0_lieUnder_19 ?_
    refine V_is5 dX0_lieUnder_20 (by decide) rfl ?_
    refine V_al0n dX0_lieUnder_22 ?_
    refine V_getR kk55 (by decide) fl_X0_48 hr dX0_lieUnder_23 ?_
    refine V_getR (kb_0 hb) (kl_0 hb) fl_X0_55 (fb_0_1 hρ hb) dX0_lieUnder_26 ?_
    refine V_getR (kb_17 hb) (kl_17 hb) fl_X0_61 (fb_17_7 hρ hb) dX0_lieUnder_29 ?_
    refine V_iconst dX0_lieUnder_32 ?_
    refine V_zald (k := 2) (kb_24 hb) (kl_24 hb) (by first | rfl | omega) (by omega) (by first | decide | assumption | omega) (hu 2 (by omega)) dX0_lieUnder_33 ?_
    refine V_bt (tgt := 41) dX0_lieUnder_34 rfl (fun b34 => ?_) (fun b34 => ?_)
    · refine V_iconst dX0_lieUnder_41 ?_
      refine V_is6 dX0_lieUnder_42 (by decide) rfl ?_
      exact X _ _ (by unfold ms; simp [b12]) (by unfold ms; simp [b34])
    · refine V_il2n dX0_lieUnder_37 ?_
      refine V_goto (tgt := 42) dX0_lieUnder_38 rfl ?_
      refine V_is6 dX0_lieUnder_42 (by decide) rfl ?_
      exact X _ _ (by unfold ms; simp [b12]) (by unfold ms; simp [b34])
  · refine V_il1n dX0_lieUnder_15 ?_
    refine V_goto (tgt := 20) dX0_lieUnder_16 rfl ?_
    refine V_is5 dX0_lieUnder_20 (by decide) rfl ?_
    refine V_al0n dX0_lieUnder_22 ?_
    refine V_getR kk55 (by decide) fl_X0_48 hr dX0_lieUnder_23 ?_
    refine V_getR (kb_0 hb) (kl_0 hb) fl_X0_55 (fb_0_1 hρ hb) dX0_lieUnder_26 ?_
    refine V_getR (kb_17 hb) (kl_17 hb) fl_X0_61 (fb_17_7 hρ hb) dX0_lieUnder_29 ?_
    refine V_iconst dX0_lieUnder_32 ?_
    refine V_zald (k := 2) (kb_24 hb) (kl_24 hb) (by first | rfl | omega) (by omega) (by first | decide | assumption | omega) (hu 2 (by omega)) dX0_lieUnder_33 ?_
    refine V_bt (tgt := 41) dX0_lieUnder_34 rfl (fun b34 => ?_) (fun b34 => ?_)
    · refine V_iconst dX0_lieUnder_41 ?_
      refine V_is6 dX0_lieUnder_42 (by decide) rfl ?_
      exact X _ _ (by unfold ms; simp [b12]) (by unfold ms; simp [b34])
    · refine V_il2n dX0_lieUnder_37 ?_
      refine V_goto (tgt := 42) dX0_lieUnder_38 rfl ?_
      refine V_is6 dX0_lieUnder_42 (by decide) rfl ?_
      exact X _ _ (by unfold ms; simp [b12]) (by unfold ms; simp [b34])
end GROUND2

