/-! where the law's loop begins -/
section START
variable {f : IT} {g : JT}
def T0 : TT := fun a k => if a = 104 ∧ k = 18 then 8 else 0
theorem T0_ok : TOK T0 ∧ TPF T0 ∧ NMK T0 := by
  refine ⟨⟨by decide, by decide, by decide, by decide, by decide, by decide, by decide, by decide, fun k (hk : k < 0) => absurd hk (Nat.not_lt_zero _), fun k (hk : k < 0) => absurd hk (Nat.not_lt_zero _), fun k (hk : k < 0) => absurd hk (Nat.not_lt_zero _), fun k (hk : k < 0) => absurd hk (Nat.not_lt_zero _), fun k (hk : k < 0) => absurd hk (Nat.not_lt_zero _), fun w hw => ⟨Or.inl rfl, fun (ht : (0 : Int) = 1) => by exfalso; omega⟩⟩, fun w hw (ht : (0 : Int) = 1) => by exfalso; omega, fun k => ?_⟩
  have z : ri 0 := by unfold ri; omega
  exact ⟨z, z, z, z, z⟩
def r00 : RT := fun _ _ => none
def f00 (xs : Nat → Int) : IT := fun a k => if a = 1005 then xs k else 0
def g00 (N : Nat) : JT := fun a _ => if a = 1005 then (N : Int) else 0
theorem zr00 {xs : Nat → Int} {N : Nat} : Zr 0 r00 (f00 xs) (g00 N) := fun a k _ h => ⟨rfl, by unfold f00; rw [if_neg (by omega)], by unfold g00; rw [if_neg (by omega)]⟩
theorem fx00 : Fx (mR2 (mR1 (oR_0 r00))) := by
  unfold Fx
  decide +kernel
theorem mI1_o {a k : Nat} (h1 : a ≠ 104) (h2 : a ≠ 106) : mI1 f a k = f a k := by unfold mI1; simp only [u2, h1, h2, false_and, if_false]
theorem mI2_o {a k : Nat} (h1 : a ≠ 104) : mI2 f a k = f a k := by unfold mI2; simp only [u2, h1, false_and, if_false]
theorem plnF_o {a k : Nat} (h1 : a ≠ 104) (h2 : a ≠ 127) : plnF f a k = f a k := by unfold plnF clL; simp only [u2, h1, h2, false_and, if_false]
def fE (f : IT) : IT := plnF (mI2 (mI1 f))
theorem fE_o {a k : Nat} (h1 : a ≠ 104) (h2 : a ≠ 106) (h3 : a ≠ 127) : fE f a k = f a k := by unfold fE; rw [plnF_o h1 h3, mI2_o h1, mI1_o h1 h2]
theorem fE_z (h : ∀ a k, 107 ≤ a → a ≤ 147 → f a k = 0) {a k : Nat} (h1 : 107 ≤ a) (h2 : a ≤ 147) : fE f a k = 0 := by
  by_cases e : a = 127
  · subst e
    unfold fE plnF clL
    split
    · rfl
    · simp only [u2, show ¬ ((127 : Nat) = 104) by omega, false_and, if_false]
      rw [mI2_o (by omega), mI1_o (by omega) (by omega)]; exact h _ _ (by omega) (by omega)
  · rw [fE_o (by omega) (by omega) e]; exact h a k h1 h2
theorem kE_lo {a k : Nat} (h : a < 104 ∨ 133 ≤ a) : kpF (fE f) a k = f a k := by rw [kpF_o (by omega) (by omega), fE_o (by omega) (by omega) (by omega)]
theorem wd_0 : mI1 f 106 0 = WRD 0 := rfl
theorem wd_1 : mI1 f 106 1 = WRD 1 := rfl
theorem wd_2 : mI1 f 106 2 = WRD 2 := rfl
theorem wd_3 : mI1 f 106 3 = WRD 3 := rfl
theorem wd_4 : mI1 f 106 4 = WRD 4 := rfl
theorem wd_5 : mI1 f 106 5 = WRD 5 := rfl
theorem wd_6 : mI1 f 106 6 = WRD 6 := rfl
theorem wd_7 : mI1 f 106 7 = WRD 7 := rfl
theorem wd_8 : mI1 f 106 8 = WRD 8 := rfl
theorem wd_9 : mI1 f 106 9 = WRD 9 := rfl
theorem wd_10 : mI1 f 106 10 = WRD 10 := rfl
theorem wd_11 : mI1 f 106 11 = WRD 11 := rfl
theorem wd_12 : mI1 f 106 12 = WRD 12 := rfl
theorem wd_13 : mI1 f 106 13 = WRD 13 := rfl
theorem wd_14 : mI1 f 106 14 = WRD 14 := rfl
theorem wd_15 : mI1 f 106 15 = WRD 15 := rfl
theorem wd_16 : mI1 f 106 16 = WRD 16 := rfl
theorem wd_17 : mI1 f 106 17 = WRD 17 := rfl
theorem wd_18 : mI1 f 106 18 = WRD 18 := rfl
theorem wd_19 : mI1 f 106 19 = WRD 19 := rfl
theorem wd_20 : mI1 f 106 20 = WRD 20 := rfl
theorem wd_21 : mI1 f 106 21 = WRD 21 := rfl
theorem wd_22 : mI1 f 106 22 = WRD 22 := rfl
theorem wd_23 : mI1 f 106 23 = WRD 23 := rfl
theorem wd_24 : mI1 f 106 24 = WRD 24 := rfl
theorem wd_25 : mI1 f 106 25 = WRD 25 := rfl
theorem wd_26 : mI1 f 106 26 = WRD 26 := rfl
theorem wd_27 : mI1 f 106 27 = WRD 27 := rfl
theorem wd_28 : mI1 f 106 28 = WRD 28 := rfl
theorem wd_29 : mI1 f 106 29 = WRD 29 := rfl
theorem wd_30 : mI1 f 106 30 = WRD 30 := rfl
theorem wd_31 : mI1 f 106 31 = WRD 31 := rfl
theorem wd_32 : mI1 f 106 32 = WRD 32 := rfl
theorem wd_33 : mI1 f 106 33 = WRD 33 := rfl
theorem wd_34 : mI1 f 106 34 = WRD 34 := rfl
theorem wd_35 : mI1 f 106 35 = WRD 35 := rfl
theorem wd_36 : mI1 f 106 36 = WRD 36 := rfl
theorem wd_37 : mI1 f 106 37 = WRD 37 := rfl
theorem wd_38 : mI1 f 106 38 = WRD 38 := rfl
theorem wd_39 : mI1 f 106 39 = WRD 39 := rfl
theorem wd_40 : mI1 f 106 40 = WRD 40 := rfl
theorem wd_41 : mI1 f 106 41 = WRD 41 := rfl
theorem wd_42 : mI1 f 106 42 = WRD 42 := rfl
theorem wd_43 : mI1 f 106 43 = WRD 43 := rfl
theorem wd_44 : mI1 f 106 44 = WRD 44 := rfl
theorem wd_45 : mI1 f 106 45 = WRD 45 := rfl
theorem wd_46 : mI1 f 106 46 = WRD 46 := rfl
theorem wd_47 : mI1 f 106 47 = WRD 47 := rfl
theorem wd_48 : mI1 f 106 48 = WRD 48 := rfl
theorem wd_49 : mI1 f 106 49 = WRD 49 := rfl
theorem wd_50 : mI1 f 106 50 = WRD 50 := rfl
theorem wd_51 : mI1 f 106 51 = WRD 51 := rfl
theorem wd_52 : mI1 f 106 52 = WRD 52 := rfl
theorem wd_53 : mI1 f 106 53 = WRD 53 := rfl
theorem wd_54 : mI1 f 106 54 = WRD 54 := rfl
theorem wd_55 : mI1 f 106 55 = WRD 55 := rfl
theorem wd_56 : mI1 f 106 56 = WRD 56 := rfl
theorem wd_57 : mI1 f 106 57 = WRD 57 := rfl
theorem wd_58 : mI1 f 106 58 = WRD 58 := rfl
theorem wd_59 : mI1 f 106 59 = WRD 59 := rfl
theorem wd_60 : mI1 f 106 60 = WRD 60 := rfl
theorem wd_61 : mI1 f 106 61 = WRD 61 := rfl
theorem wd_62 : mI1 f 106 62 = WRD 62 := rfl
theorem wd_63 : mI1 f 106 63 = WRD 63 := rfl
theorem wd_64 : mI1 f 106 64 = WRD 64 := rfl
theorem wd_65 : mI1 f 106 65 = WRD 65 := rfl
theorem wd_66 : mI1 f 106 66 = WRD 66 := rfl
theorem wd_67 : mI1 f 106 67 = WRD 67 := rfl
theorem wd_68 : mI1 f 106 68 = WRD 68 := rfl
theorem wd_69 : mI1 f 106 69 = WRD 69 := rfl
theorem wd_70 : mI1 f 106 70 = WRD 70 := rfl
theorem wd_71 : mI1 f 106 71 = WRD 71 := rfl
theorem wd_72 : mI1 f 106 72 = WRD 72 := rfl
theorem wd_73 : mI1 f 106 73 = WRD 73 := rfl
theorem wd_74 : mI1 f 106 74 = WRD 74 := rfl
theorem wd_75 : mI1 f 106 75 = WRD 75 := rfl
theorem wd_76 : mI1 f 106 76 = WRD 76 := rfl
theorem wd_77 : mI1 f 106 77 = WRD 77 := rfl
theorem wd_78 : mI1 f 106 78 = WRD 78 := rfl
theorem wd_79 : mI1 f 106 79 = WRD 79 := rfl
theorem wd_80 : mI1 f 106 80 = WRD 80 := rfl
theorem wd_81 : mI1 f 106 81 = WRD 81 := rfl
theorem wd_82 : mI1 f 106 82 = WRD 82 := rfl
theorem wd_83 : mI1 f 106 83 = WRD 83 := rfl
theorem wd_84 : mI1 f 106 84 = WRD 84 := rfl
theorem wd_85 : mI1 f 106 85 = WRD 85 := rfl
theorem wd_86 : mI1 f 106 86 = WRD 86 := rfl
theorem wd_87 : mI1 f 106 87 = WRD 87 := rfl
theorem wd_88 : mI1 f 106 88 = WRD 88 := rfl
theorem wd_89 : mI1 f 106 89 = WRD 89 := rfl
theorem wd_90 : mI1 f 106 90 = WRD 90 := rfl
theorem wd_91 : mI1 f 106 91 = WRD 91 := rfl
theorem wd_92 : mI1 f 106 92 = WRD 92 := rfl
theorem wd_93 : mI1 f 106 93 = WRD 93 := rfl
theorem wd_94 : mI1 f 106 94 = WRD 94 := rfl
theorem wd_95 : mI1 f 106 95 = WRD 95 := rfl
theorem wd_96 : mI1 f 106 96 = WRD 96 := rfl
theorem wd_97 : mI1 f 106 97 = WRD 97 := rfl
theorem wd_98 : mI1 f 106 98 = WRD 98 := rfl
theorem wd_99 : mI1 f 106 99 = WRD 99 := rfl
theorem wd_100 : mI1 f 106 100 = WRD 100 := rfl
theorem wd_101 : mI1 f 106 101 = WRD 101 := rfl
theorem wd_102 : mI1 f 106 102 = WRD 102 := rfl
theorem wd_103 : mI1 f 106 103 = WRD 103 := rfl
theorem wd_104 : mI1 f 106 104 = WRD 104 := rfl
theorem wd_105 : mI1 f 106 105 = WRD 105 := rfl
theorem wd_106 : mI1 f 106 106 = WRD 106 := rfl
theorem wd_107 : mI1 f 106 107 = WRD 107 := rfl
theorem wd_108 : mI1 f 106 108 = WRD 108 := rfl
theorem wd_109 : mI1 f 106 109 = WRD 109 := rfl
theorem wd_110 : mI1 f 106 110 = WRD 110 := rfl
theorem wd_111 : mI1 f 106 111 = WRD 111 := rfl
theorem wd_112 : mI1 f 106 112 = WRD 112 := rfl
theorem wd_113 : mI1 f 106 113 = WRD 113 := rfl
theorem wd_114 : mI1 f 106 114 = WRD 114 := rfl
theorem wd_115 : mI1 f 106 115 = WRD 115 := rfl
theorem wd_116 : mI1 f 106 116 = WRD 116 := rfl
theorem wd_117 : mI1 f 106 117 = WRD 117 := rfl
theorem wd_118 : mI1 f 106 118 = WRD 118 := rfl
theorem wd_119 : mI1 f 106 119 = WRD 119 := rfl
theorem wd_120 : mI1 f 106 120 = WRD 120 := rfl
theorem wd_121 : mI1 f 106 121 = WRD 121 := rfl
theorem wd_122 : mI1 f 106 122 = WRD 122 := rfl
theorem wd_123 : mI1 f 106 123 = WRD 123 := rfl
theorem wd_124 : mI1 f 106 124 = WRD 124 := rfl
theorem wd_125 : mI1 f 106 125 = WRD 125 := rfl
theorem wd_126 : mI1 f 106 126 = WRD 126 := rfl
theorem wd_127 : mI1 f 106 127 = WRD 127 := rfl
theorem wd_128 : mI1 f 106 128 = WRD 128 := rfl
theorem wd_129 : mI1 f 106 129 = WRD 129 := rfl
theorem wd_130 : mI1 f 106 130 = WRD 130 := rfl
theorem wd_131 : mI1 f 106 131 = WRD 131 := rfl
theorem wd_132 : mI1 f 106 132 = WRD 132 := rfl
theorem wd_133 : mI1 f 106 133 = WRD 133 := rfl
theorem wd_134 : mI1 f 106 134 = WRD 134 := rfl
theorem wd_135 : mI1 f 106 135 = WRD 135 := rfl
theorem wd_136 : mI1 f 106 136 = WRD 136 := rfl
theorem wd_137 : mI1 f 106 137 = WRD 137 := rfl
theorem wd_138 : mI1 f 106 138 = WRD 138 := rfl
theorem wd_139 : mI1 f 106 139 = WRD 139 := rfl
theorem wd_140 : mI1 f 106 140 = WRD 140 := rfl
theorem wd_141 : mI1 f 106 141 = WRD 141 := rfl
theorem wd_142 : mI1 f 106 142 = WRD 142 := rfl
theorem wd_all {k : Nat} (hk : k < 143) : mI1 f 106 k = WRD k := by
  rcases (show (0 ≤ k ∧ k < 12) ∨ (12 ≤ k ∧ k < 24) ∨ (24 ≤ k ∧ k < 36) ∨ (36 ≤ k ∧ k < 48) ∨ (48 ≤ k ∧ k < 60) ∨ (60 ≤ k ∧ k < 72) ∨ (72 ≤ k ∧ k < 84) ∨ (84 ≤ k ∧ k < 96) ∨ (96 ≤ k ∧ k < 108) ∨ (108 ≤ k ∧ k < 120) ∨ (120 ≤ k ∧ k < 132) ∨ (132 ≤ k ∧ k < 143) by omega) with c0 | c1 | c2 | c3 | c4 | c5 | c6 | c7 | c8 | c9 | c10 | c11
  · rcases (show k = 0 ∨ k = 1 ∨ k = 2 ∨ k = 3 ∨ k = 4 ∨ k = 5 ∨ k = 6 ∨ k = 7 ∨ k = 8 ∨ k = 9 ∨ k = 10 ∨ k = 11 by omega) with rfl | rfl | rfl | rfl | rfl | rfl | rfl | rfl | rfl | rfl | rfl | rfl
    · exact wd_0
    · exact wd_1
    · exact wd_2
    · exact wd_3
    · exact wd_4
    · exact wd_5
    · exact wd_6
    · exact wd_7
    · exact wd_8
    · exact wd_9
    · exact wd_10
    · exact wd_11
  · rcases (show k = 12 ∨ k = 13 ∨ k = 14 ∨ k = 15 ∨ k = 16 ∨ k = 17 ∨ k = 18 ∨ k = 19 ∨ k = 20 ∨ k = 21 ∨ k = 22 ∨ k = 23 by omega) with rfl | rfl | rfl | rfl | rfl | rfl | rfl | rfl | rfl | rfl | rfl | rfl
    · exact wd_12
    · exact wd_13
    · exact wd_14
    · exact wd_15
    · exact wd_16
    · exact wd_17
    · exact wd_18
    · exact wd_19
    · exact wd_20
    · exact wd_21
    · exact wd_22
    · exact wd_23
  · rcases (show k = 24 ∨ k = 25 ∨ k = 26 ∨ k = 27 ∨ k = 28 ∨ k = 29 ∨ k = 30 ∨ k = 31 ∨ k = 32 ∨ k = 33 ∨ k = 34 ∨ k = 35 by omega) with rfl | rfl | rfl | rfl | rfl | rfl | rfl | rfl | rfl | rfl | rfl | rfl
    · exact wd_24
    · exact wd_25
    · exact wd_26
    · exact wd_27
    · exact wd_28
    · exact wd_29
    · exact wd_30
    · exact wd_31
    · exact wd_32
    · exact wd_33
    · exact wd_34
    · exact wd_35
  · rcases (show k = 36 ∨ k = 37 ∨ k = 38 ∨ k = 39 ∨ k = 40 ∨ k = 41 ∨ k = 42 ∨ k = 43 ∨ k = 44 ∨ k = 45 ∨ k = 46 ∨ k = 47 by omega) with rfl | rfl | rfl | rfl | rfl | rfl | rfl | rfl | rfl | rfl | rfl | rfl
    · exact wd_36
    · exact wd_37
    · exact wd_38
    · exact wd_39
    · exact wd_40
    · exact wd_41
    · exact wd_42
    · exact wd_43
    · exact wd_44
    · exact wd_45
    · exact wd_46
    · exact wd_47
  · rcases (show k = 48 ∨ k = 49 ∨ k = 50 ∨ k = 51 ∨ k = 52 ∨ k = 53 ∨ k = 54 ∨ k = 55 ∨ k = 56 ∨ k = 57 ∨ k = 58 ∨ k = 59 by omega) with rfl | rfl | rfl | rfl | rfl | rfl | rfl | rfl | rfl | rfl | rfl | rfl
    · exact wd_48
    · exact wd_49
    · exact wd_50
    · exact wd_51
    · exact wd_52
    · exact wd_53
    · exact wd_54
    · exact wd_55
    · exact wd_56
    · exact wd_57
    · exact wd_58
    · exact wd_59
  · rcases (show k = 60 ∨ k = 61 ∨ k = 62 ∨ k = 63 ∨ k = 64 ∨ k = 65 ∨ k = 66 ∨ k = 67 ∨ k = 68 ∨ k = 69 ∨ k = 70 ∨ k = 71 by omega) with rfl | rfl | rfl | rfl | rfl | rfl | rfl | rfl | rfl | rfl | rfl | rfl
    · exact wd_60
    · exact wd_61
    · exact wd_62
    · exact wd_63
    · exact wd_64
    · exact wd_65
    · exact wd_66
    · exact wd_67
    · exact wd_68
    · exact wd_69
    · exact wd_70
    · exact wd_71
  · rcases (show k = 72 ∨ k = 73 ∨ k = 74 ∨ k = 75 ∨ k = 76 ∨ k = 77 ∨ k = 78 ∨ k = 79 ∨ k = 80 ∨ k = 81 ∨ k = 82 ∨ k = 83 by omega) with rfl | rfl | rfl | rfl | rfl | rfl | rfl | rfl | rfl | rfl | rfl | rfl
    · exact wd_72
    · exact wd_73
    · exact wd_74
    · exact wd_75
    · exact wd_76
    · exact wd_77
    · exact wd_78
    · exact wd_79
    · exact wd_80
    · exact wd_81
    · exact wd_82
    · exact wd_83
  · rcases (show k = 84 ∨ k = 85 ∨ k = 86 ∨ k = 87 ∨ k = 88 ∨ k = 89 ∨ k = 90 ∨ k = 91 ∨ k = 92 ∨ k = 93 ∨ k = 94 ∨ k = 95 by omega) with rfl | rfl | rfl | rfl | rfl | rfl | rfl | rfl | rfl | rfl | rfl | rfl
    · exact wd_84
    · exact wd_85
    · exact wd_86
    · exact wd_87
    · exact wd_88
    · exact wd_89
    · exact wd_90
    · exact wd_91
    · exact wd_92
    · exact wd_93
    · exact wd_94
    · exact wd_95
  · rcases (show k = 96 ∨ k = 97 ∨ k = 98 ∨ k = 99 ∨ k = 100 ∨ k = 101 ∨ k = 102 ∨ k = 103 ∨ k = 104 ∨ k = 105 ∨ k = 106 ∨ k = 107 by omega) with rfl | rfl | rfl | rfl | rfl | rfl | rfl | rfl | rfl | rfl | rfl | rfl
    · exact wd_96
    · exact wd_97
    · exact wd_98
    · exact wd_99
    · exact wd_100
    · exact wd_101
    · exact wd_102
    · exact wd_103
    · exact wd_104
    · exact wd_105
    · exact wd_106
    · exact wd_107
  · rcases (show k = 108 ∨ k = 109 ∨ k = 110 ∨ k = 111 ∨ k = 112 ∨ k = 113 ∨ k = 114 ∨ k = 115 ∨ k = 116 ∨ k = 117 ∨ k = 118 ∨ k = 119 by omega) with rfl | rfl | rfl | rfl | rfl | rfl | rfl | rfl | rfl | rfl | rfl | rfl
    · exact wd_108
    · exact wd_109
    · exact wd_110
    · exact wd_111
    · exact wd_112
    · exact wd_113
    · exact wd_114
    · exact wd_115
    · exact wd_116
    · exact wd_117
    · exact wd_118
    · exact wd_119
  · rcases (show k = 120 ∨ k = 121 ∨ k = 122 ∨ k = 123 ∨ k = 124 ∨ k = 125 ∨ k = 126 ∨ k = 127 ∨ k = 128 ∨ k = 129 ∨ k = 130 ∨ k = 131 by omega) with rfl | rfl | rfl | rfl | rfl | rfl | rfl | rfl | rfl | rfl | rfl | rfl
    · exact wd_120
    · exact wd_121
    · exact wd_122
    · exact wd_123
    · exact wd_124
    · exact wd_125
    · exact wd_126
    · exact wd_127
    · exact wd_128
    · exact wd_129
    · exact wd_130
    · exact wd_131
  · rcases (show k = 132 ∨ k = 133 ∨ k = 134 ∨ k = 135 ∨ k = 136 ∨ k = 137 ∨ k = 138 ∨ k = 139 ∨ k = 140 ∨ k = 141 ∨ k = 142 by omega) with rfl | rfl | rfl | rfl | rfl | rfl | rfl | rfl | rfl | rfl | rfl
    · exact wd_132
    · exact wd_133
    · exact wd_134
    · exact wd_135
    · exact wd_136
    · exact wd_137
    · exact wd_138
    · exact wd_139
    · exact wd_140
    · exact wd_141
    · exact wd_142
theorem start_m (h0 : ∀ a k, 104 ≤ a → a ≤ 147 → f a k = 0) : IRf T0 (kpF (fE f)) := by
  have z : ∀ a k, 107 ≤ a → a ≤ 147 → fE f a k = 0 := fun a k => fE_z (fun a k h1 h2 => h0 a k (by omega) h2)
  have r0 : ri 0 := by unfold ri; omega
  have f4 : ∀ k, fE f 104 k = plnF (mI2 (mI1 f)) 104 k := fun _ => rfl
  refine ⟨fun a k ht => ?_, ?_⟩
  · rw [kpF_mt a k ht]
    unfold tx at ht
    simp only [Bool.or_eq_true, Bool.and_eq_true, decide_eq_true_eq] at ht
    rcases ht with ⟨⟨rfl, h1⟩, h2⟩ | ht
    · rcases (show k = 12 ∨ k = 13 ∨ k = 14 ∨ k = 15 ∨ k = 16 ∨ k = 17 ∨ k = 18 ∨ k = 19 by omega) with rfl | rfl | rfl | rfl | rfl | rfl | rfl | rfl <;> rfl
    · have hr : 107 ≤ a ∧ a ≤ 132 := by
        unfold half at ht
        (repeat' split at ht) <;> omega
      unfold rdT T0
      rw [if_neg (by omega), if_neg (by omega)]
      exact z _ _ hr.1 (by omega)
  · have e1 : fE f 104 1 = f 104 1 := rfl
    have e8 : fE f 104 8 = f 104 8 := rfl
    have e9 : fE f 104 9 = f 104 9 := rfl
    have K : TxK (fE f) := by
      refine ⟨?_, fun k hk => ?_, fun k hk => ?_, ?_, fun k => ?_, fun k => ?_⟩
      · rw [e1, h0 _ _ (by omega) (by omega)]; omega
      · rw [fE_o (by omega) (by omega) (by omega), h0 _ _ (by omega) (by omega)]; omega
      · unfold fE
        rw [plnF_o (by omega) (by omega), mI2_o (by omega)]; exact wd_all hk
      · unfold KwK
        rw [e8, e9, h0 _ _ (by omega) (by omega), h0 _ _ (by omega) (by omega)]; omega
      · rw [z 107 _ (by omega) (by omega), z 112 _ (by omega) (by omega), z 116 _ (by omega) (by omega), z 120 _ (by omega) (by omega), z 124 _ (by omega) (by omega)]; exact ⟨r0, r0, r0, r0, r0⟩
      · rw [z 110 _ (by omega) (by omega), z 111 _ (by omega) (by omega), z 127 _ (by omega) (by omega)]; omega
    exact K.kp
theorem pasR_at {ρ : RT} : ∀ n i, i < n → pasR n ρ 63 i = some (84 + i)
  | n + 1, i, h => by
    rw [pasR]
    by_cases e : i = n
    · subst e; rw [u2_s]
    · rw [u2_o (by omega)]; exact pasR_at n i (by omega)
theorem fe_1 : fE f 104 1 = f 104 1 := rfl
theorem fe_4 : fE f 104 4 = f 104 4 := rfl
set_option maxRecDepth 100000 in
set_option maxHeartbeats 4000000 in
theorem start_c {xs : Nat → Int} {N : Nat} (h0 : ∀ a k, 104 ≤ a → a ≤ 147 → oI_0 (f00 xs) a k = 0) : ICl T0 5 (mR2 (mR1 (oR_0 r00))) (kpF (fE (oI_0 (f00 xs)))) (kpG (fE (oI_0 (f00 xs))) (oG_0 (g00 N))) (kpF (fE (oI_0 (f00 xs)))) (kpG (fE (oI_0 (f00 xs))) (oG_0 (g00 N))) := by
  obtain ⟨t1, t2, t3⟩ := T0_ok
  have lo : ∀ a k, a < 104 → kpF (fE (oI_0 (f00 xs))) a k = oI_0 (f00 xs) a k := fun a k h => kE_lo (Or.inl h)
  have gl : ∀ a k, a < 104 → kpG (fE (oI_0 (f00 xs))) (oG_0 (g00 N)) a k = oG_0 (g00 N) a k := fun a k h => by unfold kpG; rw [u2_o (by omega)]
  have g69 : kpG (fE (oI_0 (f00 xs))) (oG_0 (g00 N)) 104 69 = 0 := by unfold kpG; rw [u2_s]; rfl
  obtain ⟨v67, v68, v78, v82, v90, v91, v97⟩ := kpF_v (φ := fE (oI_0 (f00 xs)))
  have v26 : fE (oI_0 (f00 xs)) 104 26 = 8 := rfl
  have w1 : kpF (fE (oI_0 (f00 xs))) 104 1 = 0 := by rw [kpF_o (by omega) (by omega), fe_1]; exact h0 104 1 (by omega) (by omega)
  have w4 : kpF (fE (oI_0 (f00 xs))) 104 4 = 0 := by rw [kpF_o (by omega) (by omega), fe_4]; exact h0 104 4 (by omega) (by omega)
  have w5 : kpF (fE (oI_0 (f00 xs))) 104 5 = -1 := by rw [kpF_o (by omega) (by omega)]; rfl
  have hrow : ∀ i, i < 5 → (oI_0 (f00 xs) (5 + 2 + 3 * i) 4 = 0 ∧ oI_0 (f00 xs) (5 + 2 + 3 * i) 0 = (mxK i : Int) ∧ oI_0 (f00 xs) (5 + 2 + 3 * i) 1 = (wdK i : Int)) ∧ oI_0 (f00 xs) (30 + 2 + 3 * i) 0 = (mxK i : Int) ∧ oI_0 (f00 xs) (30 + 2 + 3 * i) 1 = (wdK i : Int) := fun i hi => by
    rcases (show i = 0 ∨ i = 1 ∨ i = 2 ∨ i = 3 ∨ i = 4 by omega) with rfl | rfl | rfl | rfl | rfl <;> exact ⟨⟨rfl, rfl, rfl⟩, rfl, rfl⟩
  have a55 : oI_0 (f00 xs) 55 5 = 1 := rfl
  refine ⟨⟨fx00, Or.inl rfl, rfl, rfl, t1, t2⟩, ⟨rfl, fun i hi => ?_⟩, ?_, ⟨false, false, ?_⟩, ?_, ?_, ?_, ?_, ?_, ?_, ?_, t3⟩
  · show kpF (fE (oI_0 (f00 xs))) (30 + 2 + 3 * i) 0 = _ ∧ kpF (fE (oI_0 (f00 xs))) (30 + 2 + 3 * i) 1 = _
    rw [lo _ _ (by omega), lo _ _ (by omega)]; exact (hrow i hi).2
  · refine CT.zero (fun i hi => ?_) (fun i hi => ?_) (fun w hw => rfl) ?_ (fun w hw => ?_)
    · rw [lo _ _ (by omega), lo _ _ (by omega), lo _ _ (by omega)]; exact (hrow i hi).1
    · unfold T0; rw [if_neg (by omega)]
    · rw [lo _ _ (by omega)]; rfl
    · rw [lo _ _ (by omega), lo _ _ (by omega), lo _ _ (by omega)]; exact ⟨rfl, rfl, rfl⟩
  · have tz : ∀ (i : Nat) (k : Int), tat T0 0 i k = 0 := fun i k => by
      unfold tat
      rw [if_neg]
      intro z
      have : (i : Int) < T0 104 12 := z.1.2
      have e : T0 104 12 = 0 := rfl
      omega
    refine ⟨?_, ?_, ?_, ?_, ?_, fun i hi => ?_, fun s hs => ⟨?_, fun k pa wi le (hk : k < 0) => absurd hk (Nat.not_lt_zero _)⟩⟩
    · rw [lo _ _ (by omega)]; rfl
    · rw [lo _ _ (by omega)]; rfl
    · rw [lo _ _ (by omega)]; show (0 : Int) ≤ 0 ∧ (0 : Int) ≤ 30; omega
    · rw [lo _ _ (by omega)]; show (0 : Int) ≤ 0 ∧ (0 : Int) ≤ 30; omega
    · rw [lo _ _ (by omega), a55]; omega
    · rw [lo _ _ (by omega), lo _ _ (by omega), lo _ _ (by omega), lo _ _ (by omega), tz, tz, tz, tz]; exact ⟨rfl, rfl, rfl, rfl⟩
    · rw [gl _ _ (by omega), lo _ _ (by omega), a55]; show (0 : Int) ≤ 0 ∧ (0 : Int) < (1 + 1) * 150060; omega
  · refine ⟨⟨68, 69, 70, 71, ⟨rfl, rfl, rfl, rfl⟩, Or.inl ⟨rfl, rfl⟩, Or.inl ⟨rfl, rfl⟩⟩, fun j hj => ?_, ?_, ?_, ?_, ?_, ?_, ?_, ?_⟩
    · rw [gl _ _ (by omega), gl _ _ (by omega)]; exact ⟨rfl, rfl⟩
    · rw [lo _ _ (by omega)]; rfl
    · rw [lo _ _ (by omega), lo _ _ (by omega), a55]; show (0 : Int) ≤ 0 ∧ (0 : Int) ≤ 1; omega
    · rw [lo _ _ (by omega)]; show ri (-1); unfold ri; omega
    · rw [lo _ _ (by omega)]; show ri (-1); unfold ri; omega
    · rw [lo _ _ (by omega)]; show ri 0; unfold ri; omega
    · rw [gl _ _ (by omega)]; show rl (-1); unfold rl; omega
    · rw [lo _ _ (by omega), lo _ _ (by omega), a55]
      intro (z : (0 : Int) = 1)
      exfalso; omega
  · refine ⟨?_, ?_, ?_, ?_⟩
    · rw [lo _ _ (by omega)]; show ri (-1); unfold ri; omega
    · rw [lo _ _ (by omega)]; show ri 0; unfold ri; omega
    · rw [lo _ _ (by omega)]; show ri 0; unfold ri; omega
    · rw [lo _ _ (by omega)]
      intro n (z : (1 : Int) ≤ -1)
      exfalso; omega
  · refine ⟨⟨by rw [v90]; omega, by rw [v90, v91]; omega, fun i hi => by rw [v90] at hi; exfalso; omega⟩, ?_, ?_, fun i hi => by rw [v90] at hi; exfalso; omega⟩
    · rw [lo _ _ (by omega), v90]; rfl
    · rw [lo _ _ (by omega), v91]; rfl
  · refine SpI.no ?_ ?_
    · rw [lo _ _ (by omega)]; rfl
    · rw [lo _ _ (by omega), lo _ _ (by omega), a55]; show (0 : Int) ≤ 0 ∧ (0 : Int) ≤ 1; omega
  · unfold RSm
    rw [v67, v68, v78, v82, v97, g69, v26]
    refine ⟨⟨?_, ?_, Or.inl rfl, by omega, fun z => by exfalso; omega⟩, ⟨?_, by omega, fun z => by exfalso; omega⟩, ⟨fun i hi => ⟨84 + i, ?_, by omega⟩, fun i j a hi hj h1 h2 => ?_⟩, fun u hu => by exfalso; omega, ⟨?_, Or.inl rfl⟩, fun z => by exfalso; omega, ⟨?_, by omega⟩, ⟨?_, Or.inl rfl⟩⟩
    · rw [lo _ _ (by omega)]; rfl
    · rw [gl _ _ (by omega)]; rfl
    · rw [lo _ _ (by omega)]; rfl
    · exact pasR_at 20 i hi
    · have q1 : some (84 + i) = some a := (pasR_at 20 i hi).symm.trans h1
      have q2 : some (84 + j) = some a := (pasR_at 20 j hj).symm.trans h2
      have q3 := Option.some.inj (q1.trans q2.symm)
      omega
    · rw [lo _ _ (by omega)]; rfl
    · rw [lo _ _ (by omega)]; rfl
    · rw [lo _ _ (by omega)]; rfl
  · refine ⟨?_, by omega, fun k hk => by exfalso; omega⟩
    rw [lo _ _ (by omega), w1]; rfl
  · unfold FLm
    rw [w4, w5, lo 2 6 (by omega), lo 2 7 (by omega)]; exact ⟨rfl, rfl⟩
set_option maxRecDepth 100000 in
set_option maxHeartbeats 4000000 in
theorem w_law0 (hlook : LookCase) {N : Nat} (hN : N ≤ 3072) {xs : Nat → Int} (hx : ∀ k, ri (xs k)) : V yL_law cL_law 7 (some .boolean) 40 601024 7293034 true (fun _ _ _ _ => True) NF 0 0 0 0 [.ref 1005, .null, .null, .null, .null, .null, .null] [] r00 (f00 xs) (g00 N) := by
  have hZ : Zr 0 r00 (f00 xs) (g00 N) := zr00
  refine V_newZ kk0 (by decide) (by decide) cl_L_8 it_11 in_11 (by first | decide | omega) (by first | decide | omega) dL_law_0 (Zr.mono hZ (by first | decide | omega)) ?_
  refine V_dup dL_law_3 rfl ?_
  refine V_callI (as := []) ml_L_17 im_X11_init rfl dL_law_4 rfl rfl (by decide) (by decide) (Nat.le_of_ble_eq_true rfl) (by decide) (by decide) rfl (cn_0 (Zr.mono hZ (by first | decide | omega))) ?_
  rintro r4 ρ4 f4 g4 ⟨rfl, rfl, rfl, rfl, z4⟩
  refine V_as1n dL_law_7 (by decide) rfl ?_
  refine V_newZ kk104 (by decide) (by decide) cl_L_18 it_12 in_12 (by first | decide | omega) (by first | decide | omega) dL_law_8 (Zr.mono z4 (by first | decide | omega)) ?_
  refine V_dup dL_law_11 rfl ?_
  refine V_callI (as := []) ml_L_20 im_X12_init rfl dL_law_12 rfl rfl (by decide) (by decide) (Nat.le_of_ble_eq_true rfl) (by decide) (by decide) rfl (cn_104 fx00 (Zr.mono z4 (by first | decide | omega))) ?_
  rintro r12 ρ12 f12 g12 ⟨rfl, rfl, rfl, rfl, z12⟩
  refine V_as2n dL_law_15 (by decide) rfl ?_
  refine V_iconst dL_law_16 ?_
  refine V_newarrZ (ty := .int) kk148 (by decide) (by decide) ac_long rfl (by decide) (by decide) (by decide) dL_law_17 (Zr.mono z12 (by first | decide | omega)) ?_
  refine V_as3n dL_law_19 (by decide) rfl ?_
  refine V_iconst dL_law_20 ?_
  refine V_is4 dL_law_21 (by decide) rfl ?_
  have h0 : ∀ a k, 104 ≤ a → a ≤ 147 → oI_0 (f00 xs) a k = 0 := fun a k h1 h2 => (z4 a k h1 (by omega)).2.1
  refine w_lw23 hlook hN 513 0 (by omega) 0 (by omega) (by omega) _ _ (Nat.le_of_ble_eq_true rfl) (Nat.le_of_ble_eq_true rfl) _ _ _ ⟨⟨T0, 5, start_c h0, start_m h0⟩, ?_, fun k => ?_, ?_⟩
  · show kpF (fE (oI_0 (f00 xs))) 55 5 ≤ _
    rw [kE_lo (Or.inl (by omega))]
    show (1 : Int) ≤ 1 + 61 * ((0 : Nat) : Int)
    omega
  · show ri (kpF (fE (oI_0 (f00 xs))) 1005 k)
    rw [kE_lo (Or.inr (by omega))]
    exact hx k
  · rfl
end START

