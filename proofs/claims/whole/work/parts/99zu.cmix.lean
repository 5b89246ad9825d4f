/-! the reference's functions look at, and change, the reference's own cells alone -/
section MIX
variable {x φ : IT} {T : TT}
def mx (x φ : IT) : IT := fun a => if 104 ≤ a ∧ a ≤ 147 then φ a else x a
theorem mx_r {a : Nat} (h : 104 ≤ a ∧ a ≤ 147) : mx x φ a = φ a := by unfold mx; rw [if_pos h]
theorem mx_n {a : Nat} (h : ¬ (104 ≤ a ∧ a ≤ 147)) : mx x φ a = x a := by unfold mx; rw [if_neg h]
theorem mx_u {a k : Nat} {v : Int} (h : 104 ≤ a ∧ a ≤ 147) : u2 (mx x φ) a k v = mx x (u2 φ a k v) := by
  funext c j
  by_cases z : 104 ≤ c ∧ c ≤ 147
  · rw [mx_r z]
    unfold u2
    rw [mx_r z]
  · rw [mx_n z]
    unfold u2
    rw [if_neg (by omega), mx_n z]
theorem mx_e {f1 f : IT} (h : ∀ a k, 104 ≤ a → a ≤ 147 → f1 a k = f a k) : f1 = mx f1 f := by
  funext a k
  by_cases z : 104 ≤ a ∧ a ≤ 147
  · rw [mx_r z]; exact h a k z.1 z.2
  · rw [mx_n z]
def mxP (x : IT) (P : Bool × IT) : Bool × IT := (P.1, mx x P.2)
theorem mxP_mk {c : Bool} : mxP x (c, φ) = (c, mx x φ) := rfl
theorem mxP_ite {c : Prop} [Decidable c] {P P' : Bool × IT} : mxP x (if c then P else P') = if c then mxP x P else mxP x P' := by split <;> rfl
theorem mx_ite {c : Prop} [Decidable c] {P P' : IT} : mx x (if c then P else P') = if c then mx x P else mx x P' := by split <;> rfl
theorem thn_mx {P P' : Bool × IT} {K K' : IT → Bool × IT} (hP : P' = mxP x P) (hK : ∀ ψ, K' (mx x ψ) = mxP x (K ψ)) : thn P' K' = mxP x (thn P K) := by
  rw [hP]
  unfold thn
  show (if P.1 = true then K' (mx x P.2) else (false, mx x P.2)) = _
  by_cases c : P.1 = true
  · rw [if_pos c, if_pos c]; exact hK _
  · rw [if_neg c, if_neg c]; rfl
theorem mxr_104 : mx x φ 104 = φ 104 := mx_r (by omega)
theorem mxr_105 : mx x φ 105 = φ 105 := mx_r (by omega)
theorem mxr_106 : mx x φ 106 = φ 106 := mx_r (by omega)
theorem mxr_107 : mx x φ 107 = φ 107 := mx_r (by omega)
theorem mxr_108 : mx x φ 108 = φ 108 := mx_r (by omega)
theorem mxr_109 : mx x φ 109 = φ 109 := mx_r (by omega)
theorem mxr_110 : mx x φ 110 = φ 110 := mx_r (by omega)
theorem mxr_111 : mx x φ 111 = φ 111 := mx_r (by omega)
theorem mxr_112 : mx x φ 112 = φ 112 := mx_r (by omega)
theorem mxr_113 : mx x φ 113 = φ 113 := mx_r (by omega)
theorem mxr_114 : mx x φ 114 = φ 114 := mx_r (by omega)
theorem mxr_115 : mx x φ 115 = φ 115 := mx_r (by omega)
theorem mxr_116 : mx x φ 116 = φ 116 := mx_r (by omega)
theorem mxr_117 : mx x φ 117 = φ 117 := mx_r (by omega)
theorem mxr_118 : mx x φ 118 = φ 118 := mx_r (by omega)
theorem mxr_119 : mx x φ 119 = φ 119 := mx_r (by omega)
theorem mxr_120 : mx x φ 120 = φ 120 := mx_r (by omega)
theorem mxr_121 : mx x φ 121 = φ 121 := mx_r (by omega)
theorem mxr_122 : mx x φ 122 = φ 122 := mx_r (by omega)
theorem mxr_123 : mx x φ 123 = φ 123 := mx_r (by omega)
theorem mxr_124 : mx x φ 124 = φ 124 := mx_r (by omega)
theorem mxr_125 : mx x φ 125 = φ 125 := mx_r (by omega)
theorem mxr_126 : mx x φ 126 = φ 126 := mx_r (by omega)
theorem mxr_127 : mx x φ 127 = φ 127 := mx_r (by omega)
theorem mxr_128 : mx x φ 128 = φ 128 := mx_r (by omega)
theorem mxr_129 : mx x φ 129 = φ 129 := mx_r (by omega)
theorem mxr_130 : mx x φ 130 = φ 130 := mx_r (by omega)
theorem mxr_131 : mx x φ 131 = φ 131 := mx_r (by omega)
theorem mxr_132 : mx x φ 132 = φ 132 := mx_r (by omega)
theorem mxr_133 : mx x φ 133 = φ 133 := mx_r (by omega)
theorem mxr_134 : mx x φ 134 = φ 134 := mx_r (by omega)
theorem mxr_137 : mx x φ 137 = φ 137 := mx_r (by omega)
theorem mxr_138 : mx x φ 138 = φ 138 := mx_r (by omega)
theorem mxr_142 : mx x φ 142 = φ 142 := mx_r (by omega)
theorem mxr_147 : mx x φ 147 = φ 147 := mx_r (by omega)
theorem mxu_104 {k : Nat} {v : Int} : u2 (mx x φ) 104 k v = mx x (u2 φ 104 k v) := mx_u (by omega)
theorem mxu_105 {k : Nat} {v : Int} : u2 (mx x φ) 105 k v = mx x (u2 φ 105 k v) := mx_u (by omega)
theorem mxu_106 {k : Nat} {v : Int} : u2 (mx x φ) 106 k v = mx x (u2 φ 106 k v) := mx_u (by omega)
theorem mxu_107 {k : Nat} {v : Int} : u2 (mx x φ) 107 k v = mx x (u2 φ 107 k v) := mx_u (by omega)
theorem mxu_108 {k : Nat} {v : Int} : u2 (mx x φ) 108 k v = mx x (u2 φ 108 k v) := mx_u (by omega)
theorem mxu_109 {k : Nat} {v : Int} : u2 (mx x φ) 109 k v = mx x (u2 φ 109 k v) := mx_u (by omega)
theorem mxu_110 {k : Nat} {v : Int} : u2 (mx x φ) 110 k v = mx x (u2 φ 110 k v) := mx_u (by omega)
theorem mxu_111 {k : Nat} {v : Int} : u2 (mx x φ) 111 k v = mx x (u2 φ 111 k v) := mx_u (by omega)
theorem mxu_112 {k : Nat} {v : Int} : u2 (mx x φ) 112 k v = mx x (u2 φ 112 k v) := mx_u (by omega)
theorem mxu_113 {k : Nat} {v : Int} : u2 (mx x φ) 113 k v = mx x (u2 φ 113 k v) := mx_u (by omega)
theorem mxu_114 {k : Nat} {v : Int} : u2 (mx x φ) 114 k v = mx x (u2 φ 114 k v) := mx_u (by omega)
theorem mxu_115 {k : Nat} {v : Int} : u2 (mx x φ) 115 k v = mx x (u2 φ 115 k v) := mx_u (by omega)
theorem mxu_116 {k : Nat} {v : Int} : u2 (mx x φ) 116 k v = mx x (u2 φ 116 k v) := mx_u (by omega)
theorem mxu_117 {k : Nat} {v : Int} : u2 (mx x φ) 117 k v = mx x (u2 φ 117 k v) := mx_u (by omega)
theorem mxu_118 {k : Nat} {v : Int} : u2 (mx x φ) 118 k v = mx x (u2 φ 118 k v) := mx_u (by omega)
theorem mxu_119 {k : Nat} {v : Int} : u2 (mx x φ) 119 k v = mx x (u2 φ 119 k v) := mx_u (by omega)
theorem mxu_120 {k : Nat} {v : Int} : u2 (mx x φ) 120 k v = mx x (u2 φ 120 k v) := mx_u (by omega)
theorem mxu_121 {k : Nat} {v : Int} : u2 (mx x φ) 121 k v = mx x (u2 φ 121 k v) := mx_u (by omega)
theorem mxu_122 {k : Nat} {v : Int} : u2 (mx x φ) 122 k v = mx x (u2 φ 122 k v) := mx_u (by omega)
theorem mxu_123 {k : Nat} {v : Int} : u2 (mx x φ) 123 k v = mx x (u2 φ 123 k v) := mx_u (by omega)
theorem mxu_124 {k : Nat} {v : Int} : u2 (mx x φ) 124 k v = mx x (u2 φ 124 k v) := mx_u (by omega)
theorem mxu_125 {k : Nat} {v : Int} : u2 (mx x φ) 125 k v = mx x (u2 φ 125 k v) := mx_u (by omega)
theorem mxu_126 {k : Nat} {v : Int} : u2 (mx x φ) 126 k v = mx x (u2 φ 126 k v) := mx_u (by omega)
theorem mxu_127 {k : Nat} {v : Int} : u2 (mx x φ) 127 k v = mx x (u2 φ 127 k v) := mx_u (by omega)
theorem mxu_128 {k : Nat} {v : Int} : u2 (mx x φ) 128 k v = mx x (u2 φ 128 k v) := mx_u (by omega)
theorem mxu_129 {k : Nat} {v : Int} : u2 (mx x φ) 129 k v = mx x (u2 φ 129 k v) := mx_u (by omega)
theorem mxu_130 {k : Nat} {v : Int} : u2 (mx x φ) 130 k v = mx x (u2 φ 130 k v) := mx_u (by omega)
theorem mxu_131 {k : Nat} {v : Int} : u2 (mx x φ) 131 k v = mx x (u2 φ 131 k v) := mx_u (by omega)
theorem mxu_132 {k : Nat} {v : Int} : u2 (mx x φ) 132 k v = mx x (u2 φ 132 k v) := mx_u (by omega)
theorem mxu_133 {k : Nat} {v : Int} : u2 (mx x φ) 133 k v = mx x (u2 φ 133 k v) := mx_u (by omega)
theorem mxu_134 {k : Nat} {v : Int} : u2 (mx x φ) 134 k v = mx x (u2 φ 134 k v) := mx_u (by omega)
theorem mxu_137 {k : Nat} {v : Int} : u2 (mx x φ) 137 k v = mx x (u2 φ 137 k v) := mx_u (by omega)
theorem mxu_138 {k : Nat} {v : Int} : u2 (mx x φ) 138 k v = mx x (u2 φ 138 k v) := mx_u (by omega)
theorem mxu_142 {k : Nat} {v : Int} : u2 (mx x φ) 142 k v = mx x (u2 φ 142 k v) := mx_u (by omega)
theorem mxu_147 {k : Nat} {v : Int} : u2 (mx x φ) 147 k v = mx x (u2 φ 147 k v) := mx_u (by omega)
theorem keyB_mx {k : Int} : keyB k (mx x φ) = keyB k φ := by
  unfold keyB
  simp only [mxP_mk, mxP_ite, mx_ite, mxr_104, mxr_105, mxr_106, mxr_107, mxr_108, mxr_109, mxr_110, mxr_111, mxr_112, mxr_113, mxr_114, mxr_115, mxr_116, mxr_117, mxr_118, mxr_119, mxr_120, mxr_121, mxr_122, mxr_123, mxr_124, mxr_125, mxr_126, mxr_127, mxr_128, mxr_129, mxr_130, mxr_131, mxr_132, mxr_133, mxr_134, mxr_137, mxr_138, mxr_142, mxr_147, mxu_104, mxu_105, mxu_106, mxu_107, mxu_108, mxu_109, mxu_110, mxu_111, mxu_112, mxu_113, mxu_114, mxu_115, mxu_116, mxu_117, mxu_118, mxu_119, mxu_120, mxu_121, mxu_122, mxu_123, mxu_124, mxu_125, mxu_126, mxu_127, mxu_128, mxu_129, mxu_130, mxu_131, mxu_132, mxu_133, mxu_134, mxu_137, mxu_138, mxu_142, mxu_147]
theorem sgnB_mx {k : Int} : sgnB k (mx x φ) = sgnB k φ := by
  unfold sgnB
  simp only [mxP_mk, mxP_ite, mx_ite, mxr_104, mxr_105, mxr_106, mxr_107, mxr_108, mxr_109, mxr_110, mxr_111, mxr_112, mxr_113, mxr_114, mxr_115, mxr_116, mxr_117, mxr_118, mxr_119, mxr_120, mxr_121, mxr_122, mxr_123, mxr_124, mxr_125, mxr_126, mxr_127, mxr_128, mxr_129, mxr_130, mxr_131, mxr_132, mxr_133, mxr_134, mxr_137, mxr_138, mxr_142, mxr_147, mxu_104, mxu_105, mxu_106, mxu_107, mxu_108, mxu_109, mxu_110, mxu_111, mxu_112, mxu_113, mxu_114, mxu_115, mxu_116, mxu_117, mxu_118, mxu_119, mxu_120, mxu_121, mxu_122, mxu_123, mxu_124, mxu_125, mxu_126, mxu_127, mxu_128, mxu_129, mxu_130, mxu_131, mxu_132, mxu_133, mxu_134, mxu_137, mxu_138, mxu_142, mxu_147, keyB_mx]
theorem st4_mx {t : T4} : st4 (mx x φ) t = mx x (st4 φ t) := by
  unfold st4
  simp only [mxP_mk, mxP_ite, mx_ite, mxr_104, mxr_105, mxr_106, mxr_107, mxr_108, mxr_109, mxr_110, mxr_111, mxr_112, mxr_113, mxr_114, mxr_115, mxr_116, mxr_117, mxr_118, mxr_119, mxr_120, mxr_121, mxr_122, mxr_123, mxr_124, mxr_125, mxr_126, mxr_127, mxr_128, mxr_129, mxr_130, mxr_131, mxr_132, mxr_133, mxr_134, mxr_137, mxr_138, mxr_142, mxr_147, mxu_104, mxu_105, mxu_106, mxu_107, mxu_108, mxu_109, mxu_110, mxu_111, mxu_112, mxu_113, mxu_114, mxu_115, mxu_116, mxu_117, mxu_118, mxu_119, mxu_120, mxu_121, mxu_122, mxu_123, mxu_124, mxu_125, mxu_126, mxu_127, mxu_128, mxu_129, mxu_130, mxu_131, mxu_132, mxu_133, mxu_134, mxu_137, mxu_138, mxu_142, mxu_147, keyB_mx, sgnB_mx]
theorem tkF_mx  : tkF (mx x φ) = mx x (tkF φ) := by
  unfold tkF
  simp only [mxP_mk, mxP_ite, mx_ite, mxr_104, mxr_105, mxr_106, mxr_107, mxr_108, mxr_109, mxr_110, mxr_111, mxr_112, mxr_113, mxr_114, mxr_115, mxr_116, mxr_117, mxr_118, mxr_119, mxr_120, mxr_121, mxr_122, mxr_123, mxr_124, mxr_125, mxr_126, mxr_127, mxr_128, mxr_129, mxr_130, mxr_131, mxr_132, mxr_133, mxr_134, mxr_137, mxr_138, mxr_142, mxr_147, mxu_104, mxu_105, mxu_106, mxu_107, mxu_108, mxu_109, mxu_110, mxu_111, mxu_112, mxu_113, mxu_114, mxu_115, mxu_116, mxu_117, mxu_118, mxu_119, mxu_120, mxu_121, mxu_122, mxu_123, mxu_124, mxu_125, mxu_126, mxu_127, mxu_128, mxu_129, mxu_130, mxu_131, mxu_132, mxu_133, mxu_134, mxu_137, mxu_138, mxu_142, mxu_147, keyB_mx, sgnB_mx, st4_mx]
theorem wrg_mx {w : Int} : wrg w (mx x φ) = mx x (wrg w φ) := by
  unfold wrg
  simp only [mxP_mk, mxP_ite, mx_ite, mxr_104, mxr_105, mxr_106, mxr_107, mxr_108, mxr_109, mxr_110, mxr_111, mxr_112, mxr_113, mxr_114, mxr_115, mxr_116, mxr_117, mxr_118, mxr_119, mxr_120, mxr_121, mxr_122, mxr_123, mxr_124, mxr_125, mxr_126, mxr_127, mxr_128, mxr_129, mxr_130, mxr_131, mxr_132, mxr_133, mxr_134, mxr_137, mxr_138, mxr_142, mxr_147, mxu_104, mxu_105, mxu_106, mxu_107, mxu_108, mxu_109, mxu_110, mxu_111, mxu_112, mxu_113, mxu_114, mxu_115, mxu_116, mxu_117, mxu_118, mxu_119, mxu_120, mxu_121, mxu_122, mxu_123, mxu_124, mxu_125, mxu_126, mxu_127, mxu_128, mxu_129, mxu_130, mxu_131, mxu_132, mxu_133, mxu_134, mxu_137, mxu_138, mxu_142, mxu_147, keyB_mx, sgnB_mx, st4_mx, tkF_mx]
theorem keyT_mx {k : Int} : keyT k (mx x φ) = mx x (keyT k φ) := by
  unfold keyT
  simp only [mxP_mk, mxP_ite, mx_ite, mxr_104, mxr_105, mxr_106, mxr_107, mxr_108, mxr_109, mxr_110, mxr_111, mxr_112, mxr_113, mxr_114, mxr_115, mxr_116, mxr_117, mxr_118, mxr_119, mxr_120, mxr_121, mxr_122, mxr_123, mxr_124, mxr_125, mxr_126, mxr_127, mxr_128, mxr_129, mxr_130, mxr_131, mxr_132, mxr_133, mxr_134, mxr_137, mxr_138, mxr_142, mxr_147, mxu_104, mxu_105, mxu_106, mxu_107, mxu_108, mxu_109, mxu_110, mxu_111, mxu_112, mxu_113, mxu_114, mxu_115, mxu_116, mxu_117, mxu_118, mxu_119, mxu_120, mxu_121, mxu_122, mxu_123, mxu_124, mxu_125, mxu_126, mxu_127, mxu_128, mxu_129, mxu_130, mxu_131, mxu_132, mxu_133, mxu_134, mxu_137, mxu_138, mxu_142, mxu_147, keyB_mx, sgnB_mx, st4_mx, tkF_mx, wrg_mx]
theorem numF_mx {lo hi : Int} : numF lo hi (mx x φ) = mxP x (numF lo hi φ) := by
  unfold numF
  simp only [mxP_mk, mxP_ite, mx_ite, mxr_104, mxr_105, mxr_106, mxr_107, mxr_108, mxr_109, mxr_110, mxr_111, mxr_112, mxr_113, mxr_114, mxr_115, mxr_116, mxr_117, mxr_118, mxr_119, mxr_120, mxr_121, mxr_122, mxr_123, mxr_124, mxr_125, mxr_126, mxr_127, mxr_128, mxr_129, mxr_130, mxr_131, mxr_132, mxr_133, mxr_134, mxr_137, mxr_138, mxr_142, mxr_147, mxu_104, mxu_105, mxu_106, mxu_107, mxu_108, mxu_109, mxu_110, mxu_111, mxu_112, mxu_113, mxu_114, mxu_115, mxu_116, mxu_117, mxu_118, mxu_119, mxu_120, mxu_121, mxu_122, mxu_123, mxu_124, mxu_125, mxu_126, mxu_127, mxu_128, mxu_129, mxu_130, mxu_131, mxu_132, mxu_133, mxu_134, mxu_137, mxu_138, mxu_142, mxu_147, keyB_mx, sgnB_mx, st4_mx, tkF_mx, wrg_mx, keyT_mx]
theorem nnF107_mx {o n : Nat} : nnF 107 o n (mx x φ) = mxP x (nnF 107 o n φ) := by
  unfold nnF
  simp only [mxP_mk, mxP_ite, mx_ite, mxr_104, mxr_105, mxr_106, mxr_107, mxr_108, mxr_109, mxr_110, mxr_111, mxr_112, mxr_113, mxr_114, mxr_115, mxr_116, mxr_117, mxr_118, mxr_119, mxr_120, mxr_121, mxr_122, mxr_123, mxr_124, mxr_125, mxr_126, mxr_127, mxr_128, mxr_129, mxr_130, mxr_131, mxr_132, mxr_133, mxr_134, mxr_137, mxr_138, mxr_142, mxr_147, mxu_104, mxu_105, mxu_106, mxu_107, mxu_108, mxu_109, mxu_110, mxu_111, mxu_112, mxu_113, mxu_114, mxu_115, mxu_116, mxu_117, mxu_118, mxu_119, mxu_120, mxu_121, mxu_122, mxu_123, mxu_124, mxu_125, mxu_126, mxu_127, mxu_128, mxu_129, mxu_130, mxu_131, mxu_132, mxu_133, mxu_134, mxu_137, mxu_138, mxu_142, mxu_147, keyB_mx, sgnB_mx, st4_mx, tkF_mx, wrg_mx, keyT_mx, numF_mx]
theorem nnF112_mx {o n : Nat} : nnF 112 o n (mx x φ) = mxP x (nnF 112 o n φ) := by
  unfold nnF
  simp only [mxP_mk, mxP_ite, mx_ite, mxr_104, mxr_105, mxr_106, mxr_107, mxr_108, mxr_109, mxr_110, mxr_111, mxr_112, mxr_113, mxr_114, mxr_115, mxr_116, mxr_117, mxr_118, mxr_119, mxr_120, mxr_121, mxr_122, mxr_123, mxr_124, mxr_125, mxr_126, mxr_127, mxr_128, mxr_129, mxr_130, mxr_131, mxr_132, mxr_133, mxr_134, mxr_137, mxr_138, mxr_142, mxr_147, mxu_104, mxu_105, mxu_106, mxu_107, mxu_108, mxu_109, mxu_110, mxu_111, mxu_112, mxu_113, mxu_114, mxu_115, mxu_116, mxu_117, mxu_118, mxu_119, mxu_120, mxu_121, mxu_122, mxu_123, mxu_124, mxu_125, mxu_126, mxu_127, mxu_128, mxu_129, mxu_130, mxu_131, mxu_132, mxu_133, mxu_134, mxu_137, mxu_138, mxu_142, mxu_147, keyB_mx, sgnB_mx, st4_mx, tkF_mx, wrg_mx, keyT_mx, numF_mx, nnF107_mx]
theorem nnF116_mx {o n : Nat} : nnF 116 o n (mx x φ) = mxP x (nnF 116 o n φ) := by
  unfold nnF
  simp only [mxP_mk, mxP_ite, mx_ite, mxr_104, mxr_105, mxr_106, mxr_107, mxr_108, mxr_109, mxr_110, mxr_111, mxr_112, mxr_113, mxr_114, mxr_115, mxr_116, mxr_117, mxr_118, mxr_119, mxr_120, mxr_121, mxr_122, mxr_123, mxr_124, mxr_125, mxr_126, mxr_127, mxr_128, mxr_129, mxr_130, mxr_131, mxr_132, mxr_133, mxr_134, mxr_137, mxr_138, mxr_142, mxr_147, mxu_104, mxu_105, mxu_106, mxu_107, mxu_108, mxu_109, mxu_110, mxu_111, mxu_112, mxu_113, mxu_114, mxu_115, mxu_116, mxu_117, mxu_118, mxu_119, mxu_120, mxu_121, mxu_122, mxu_123, mxu_124, mxu_125, mxu_126, mxu_127, mxu_128, mxu_129, mxu_130, mxu_131, mxu_132, mxu_133, mxu_134, mxu_137, mxu_138, mxu_142, mxu_147, keyB_mx, sgnB_mx, st4_mx, tkF_mx, wrg_mx, keyT_mx, numF_mx, nnF107_mx, nnF112_mx]
theorem nnF120_mx {o n : Nat} : nnF 120 o n (mx x φ) = mxP x (nnF 120 o n φ) := by
  unfold nnF
  simp only [mxP_mk, mxP_ite, mx_ite, mxr_104, mxr_105, mxr_106, mxr_107, mxr_108, mxr_109, mxr_110, mxr_111, mxr_112, mxr_113, mxr_114, mxr_115, mxr_116, mxr_117, mxr_118, mxr_119, mxr_120, mxr_121, mxr_122, mxr_123, mxr_124, mxr_125, mxr_126, mxr_127, mxr_128, mxr_129, mxr_130, mxr_131, mxr_132, mxr_133, mxr_134, mxr_137, mxr_138, mxr_142, mxr_147, mxu_104, mxu_105, mxu_106, mxu_107, mxu_108, mxu_109, mxu_110, mxu_111, mxu_112, mxu_113, mxu_114, mxu_115, mxu_116, mxu_117, mxu_118, mxu_119, mxu_120, mxu_121, mxu_122, mxu_123, mxu_124, mxu_125, mxu_126, mxu_127, mxu_128, mxu_129, mxu_130, mxu_131, mxu_132, mxu_133, mxu_134, mxu_137, mxu_138, mxu_142, mxu_147, keyB_mx, sgnB_mx, st4_mx, tkF_mx, wrg_mx, keyT_mx, numF_mx, nnF107_mx, nnF112_mx, nnF116_mx]
theorem nnF124_mx {o n : Nat} : nnF 124 o n (mx x φ) = mxP x (nnF 124 o n φ) := by
  unfold nnF
  simp only [mxP_mk, mxP_ite, mx_ite, mxr_104, mxr_105, mxr_106, mxr_107, mxr_108, mxr_109, mxr_110, mxr_111, mxr_112, mxr_113, mxr_114, mxr_115, mxr_116, mxr_117, mxr_118, mxr_119, mxr_120, mxr_121, mxr_122, mxr_123, mxr_124, mxr_125, mxr_126, mxr_127, mxr_128, mxr_129, mxr_130, mxr_131, mxr_132, mxr_133, mxr_134, mxr_137, mxr_138, mxr_142, mxr_147, mxu_104, mxu_105, mxu_106, mxu_107, mxu_108, mxu_109, mxu_110, mxu_111, mxu_112, mxu_113, mxu_114, mxu_115, mxu_116, mxu_117, mxu_118, mxu_119, mxu_120, mxu_121, mxu_122, mxu_123, mxu_124, mxu_125, mxu_126, mxu_127, mxu_128, mxu_129, mxu_130, mxu_131, mxu_132, mxu_133, mxu_134, mxu_137, mxu_138, mxu_142, mxu_147, keyB_mx, sgnB_mx, st4_mx, tkF_mx, wrg_mx, keyT_mx, numF_mx, nnF107_mx, nnF112_mx, nnF116_mx, nnF120_mx]
theorem laneN_mx {n : Nat} : laneN n (mx x φ) = mxP x (laneN n φ) := by
  unfold laneN
  refine thn_mx (by simp only [mxP_mk, mxP_ite, mx_ite, mxr_104, mxr_105, mxr_106, mxr_107, mxr_108, mxr_109, mxr_110, mxr_111, mxr_112, mxr_113, mxr_114, mxr_115, mxr_116, mxr_117, mxr_118, mxr_119, mxr_120, mxr_121, mxr_122, mxr_123, mxr_124, mxr_125, mxr_126, mxr_127, mxr_128, mxr_129, mxr_130, mxr_131, mxr_132, mxr_133, mxr_134, mxr_137, mxr_138, mxr_142, mxr_147, mxu_104, mxu_105, mxu_106, mxu_107, mxu_108, mxu_109, mxu_110, mxu_111, mxu_112, mxu_113, mxu_114, mxu_115, mxu_116, mxu_117, mxu_118, mxu_119, mxu_120, mxu_121, mxu_122, mxu_123, mxu_124, mxu_125, mxu_126, mxu_127, mxu_128, mxu_129, mxu_130, mxu_131, mxu_132, mxu_133, mxu_134, mxu_137, mxu_138, mxu_142, mxu_147, keyB_mx, sgnB_mx, st4_mx, tkF_mx, wrg_mx, keyT_mx, numF_mx, nnF107_mx, nnF112_mx, nnF116_mx, nnF120_mx, nnF124_mx]) fun f1 => ?_
  refine thn_mx (by simp only [mxP_mk, mxP_ite, mx_ite, mxr_104, mxr_105, mxr_106, mxr_107, mxr_108, mxr_109, mxr_110, mxr_111, mxr_112, mxr_113, mxr_114, mxr_115, mxr_116, mxr_117, mxr_118, mxr_119, mxr_120, mxr_121, mxr_122, mxr_123, mxr_124, mxr_125, mxr_126, mxr_127, mxr_128, mxr_129, mxr_130, mxr_131, mxr_132, mxr_133, mxr_134, mxr_137, mxr_138, mxr_142, mxr_147, mxu_104, mxu_105, mxu_106, mxu_107, mxu_108, mxu_109, mxu_110, mxu_111, mxu_112, mxu_113, mxu_114, mxu_115, mxu_116, mxu_117, mxu_118, mxu_119, mxu_120, mxu_121, mxu_122, mxu_123, mxu_124, mxu_125, mxu_126, mxu_127, mxu_128, mxu_129, mxu_130, mxu_131, mxu_132, mxu_133, mxu_134, mxu_137, mxu_138, mxu_142, mxu_147, keyB_mx, sgnB_mx, st4_mx, tkF_mx, wrg_mx, keyT_mx, numF_mx, nnF107_mx, nnF112_mx, nnF116_mx, nnF120_mx, nnF124_mx]) fun f2 => ?_
  refine thn_mx (by simp only [mxP_mk, mxP_ite, mx_ite, mxr_104, mxr_105, mxr_106, mxr_107, mxr_108, mxr_109, mxr_110, mxr_111, mxr_112, mxr_113, mxr_114, mxr_115, mxr_116, mxr_117, mxr_118, mxr_119, mxr_120, mxr_121, mxr_122, mxr_123, mxr_124, mxr_125, mxr_126, mxr_127, mxr_128, mxr_129, mxr_130, mxr_131, mxr_132, mxr_133, mxr_134, mxr_137, mxr_138, mxr_142, mxr_147, mxu_104, mxu_105, mxu_106, mxu_107, mxu_108, mxu_109, mxu_110, mxu_111, mxu_112, mxu_113, mxu_114, mxu_115, mxu_116, mxu_117, mxu_118, mxu_119, mxu_120, mxu_121, mxu_122, mxu_123, mxu_124, mxu_125, mxu_126, mxu_127, mxu_128, mxu_129, mxu_130, mxu_131, mxu_132, mxu_133, mxu_134, mxu_137, mxu_138, mxu_142, mxu_147, keyB_mx, sgnB_mx, st4_mx, tkF_mx, wrg_mx, keyT_mx, numF_mx, nnF107_mx, nnF112_mx, nnF116_mx, nnF120_mx, nnF124_mx]) fun f3 => ?_
  simp only [mxP_mk, mxP_ite, mx_ite, mxr_104, mxr_105, mxr_106, mxr_107, mxr_108, mxr_109, mxr_110, mxr_111, mxr_112, mxr_113, mxr_114, mxr_115, mxr_116, mxr_117, mxr_118, mxr_119, mxr_120, mxr_121, mxr_122, mxr_123, mxr_124, mxr_125, mxr_126, mxr_127, mxr_128, mxr_129, mxr_130, mxr_131, mxr_132, mxr_133, mxr_134, mxr_137, mxr_138, mxr_142, mxr_147, mxu_104, mxu_105, mxu_106, mxu_107, mxu_108, mxu_109, mxu_110, mxu_111, mxu_112, mxu_113, mxu_114, mxu_115, mxu_116, mxu_117, mxu_118, mxu_119, mxu_120, mxu_121, mxu_122, mxu_123, mxu_124, mxu_125, mxu_126, mxu_127, mxu_128, mxu_129, mxu_130, mxu_131, mxu_132, mxu_133, mxu_134, mxu_137, mxu_138, mxu_142, mxu_147, keyB_mx, sgnB_mx, st4_mx, tkF_mx, wrg_mx, keyT_mx, numF_mx, nnF107_mx, nnF112_mx, nnF116_mx, nnF120_mx, nnF124_mx]
theorem laneF_mx  : laneF (mx x φ) = mxP x (laneF φ) := by
  unfold laneF
  simp only [mxP_mk, mxP_ite, mx_ite, mxr_104, mxr_105, mxr_106, mxr_107, mxr_108, mxr_109, mxr_110, mxr_111, mxr_112, mxr_113, mxr_114, mxr_115, mxr_116, mxr_117, mxr_118, mxr_119, mxr_120, mxr_121, mxr_122, mxr_123, mxr_124, mxr_125, mxr_126, mxr_127, mxr_128, mxr_129, mxr_130, mxr_131, mxr_132, mxr_133, mxr_134, mxr_137, mxr_138, mxr_142, mxr_147, mxu_104, mxu_105, mxu_106, mxu_107, mxu_108, mxu_109, mxu_110, mxu_111, mxu_112, mxu_113, mxu_114, mxu_115, mxu_116, mxu_117, mxu_118, mxu_119, mxu_120, mxu_121, mxu_122, mxu_123, mxu_124, mxu_125, mxu_126, mxu_127, mxu_128, mxu_129, mxu_130, mxu_131, mxu_132, mxu_133, mxu_134, mxu_137, mxu_138, mxu_142, mxu_147, keyB_mx, sgnB_mx, st4_mx, tkF_mx, wrg_mx, keyT_mx, numF_mx, nnF107_mx, nnF112_mx, nnF116_mx, nnF120_mx, nnF124_mx, laneN_mx]
theorem manN_mx {n : Nat} : manN n (mx x φ) = mxP x (manN n φ) := by
  unfold manN
  refine thn_mx (by simp only [mxP_mk, mxP_ite, mx_ite, mxr_104, mxr_105, mxr_106, mxr_107, mxr_108, mxr_109, mxr_110, mxr_111, mxr_112, mxr_113, mxr_114, mxr_115, mxr_116, mxr_117, mxr_118, mxr_119, mxr_120, mxr_121, mxr_122, mxr_123, mxr_124, mxr_125, mxr_126, mxr_127, mxr_128, mxr_129, mxr_130, mxr_131, mxr_132, mxr_133, mxr_134, mxr_137, mxr_138, mxr_142, mxr_147, mxu_104, mxu_105, mxu_106, mxu_107, mxu_108, mxu_109, mxu_110, mxu_111, mxu_112, mxu_113, mxu_114, mxu_115, mxu_116, mxu_117, mxu_118, mxu_119, mxu_120, mxu_121, mxu_122, mxu_123, mxu_124, mxu_125, mxu_126, mxu_127, mxu_128, mxu_129, mxu_130, mxu_131, mxu_132, mxu_133, mxu_134, mxu_137, mxu_138, mxu_142, mxu_147, keyB_mx, sgnB_mx, st4_mx, tkF_mx, wrg_mx, keyT_mx, numF_mx, nnF107_mx, nnF112_mx, nnF116_mx, nnF120_mx, nnF124_mx, laneN_mx, laneF_mx]) fun f1 => ?_
  refine thn_mx (by simp only [mxP_mk, mxP_ite, mx_ite, mxr_104, mxr_105, mxr_106, mxr_107, mxr_108, mxr_109, mxr_110, mxr_111, mxr_112, mxr_113, mxr_114, mxr_115, mxr_116, mxr_117, mxr_118, mxr_119, mxr_120, mxr_121, mxr_122, mxr_123, mxr_124, mxr_125, mxr_126, mxr_127, mxr_128, mxr_129, mxr_130, mxr_131, mxr_132, mxr_133, mxr_134, mxr_137, mxr_138, mxr_142, mxr_147, mxu_104, mxu_105, mxu_106, mxu_107, mxu_108, mxu_109, mxu_110, mxu_111, mxu_112, mxu_113, mxu_114, mxu_115, mxu_116, mxu_117, mxu_118, mxu_119, mxu_120, mxu_121, mxu_122, mxu_123, mxu_124, mxu_125, mxu_126, mxu_127, mxu_128, mxu_129, mxu_130, mxu_131, mxu_132, mxu_133, mxu_134, mxu_137, mxu_138, mxu_142, mxu_147, keyB_mx, sgnB_mx, st4_mx, tkF_mx, wrg_mx, keyT_mx, numF_mx, nnF107_mx, nnF112_mx, nnF116_mx, nnF120_mx, nnF124_mx, laneN_mx, laneF_mx]) fun f2 => ?_
  refine thn_mx (by simp only [mxP_mk, mxP_ite, mx_ite, mxr_104, mxr_105, mxr_106, mxr_107, mxr_108, mxr_109, mxr_110, mxr_111, mxr_112, mxr_113, mxr_114, mxr_115, mxr_116, mxr_117, mxr_118, mxr_119, mxr_120, mxr_121, mxr_122, mxr_123, mxr_124, mxr_125, mxr_126, mxr_127, mxr_128, mxr_129, mxr_130, mxr_131, mxr_132, mxr_133, mxr_134, mxr_137, mxr_138, mxr_142, mxr_147, mxu_104, mxu_105, mxu_106, mxu_107, mxu_108, mxu_109, mxu_110, mxu_111, mxu_112, mxu_113, mxu_114, mxu_115, mxu_116, mxu_117, mxu_118, mxu_119, mxu_120, mxu_121, mxu_122, mxu_123, mxu_124, mxu_125, mxu_126, mxu_127, mxu_128, mxu_129, mxu_130, mxu_131, mxu_132, mxu_133, mxu_134, mxu_137, mxu_138, mxu_142, mxu_147, keyB_mx, sgnB_mx, st4_mx, tkF_mx, wrg_mx, keyT_mx, numF_mx, nnF107_mx, nnF112_mx, nnF116_mx, nnF120_mx, nnF124_mx, laneN_mx, laneF_mx]) fun f3 => ?_
  refine thn_mx (by simp only [mxP_mk, mxP_ite, mx_ite, mxr_104, mxr_105, mxr_106, mxr_107, mxr_108, mxr_109, mxr_110, mxr_111, mxr_112, mxr_113, mxr_114, mxr_115, mxr_116, mxr_117, mxr_118, mxr_119, mxr_120, mxr_121, mxr_122, mxr_123, mxr_124, mxr_125, mxr_126, mxr_127, mxr_128, mxr_129, mxr_130, mxr_131, mxr_132, mxr_133, mxr_134, mxr_137, mxr_138, mxr_142, mxr_147, mxu_104, mxu_105, mxu_106, mxu_107, mxu_108, mxu_109, mxu_110, mxu_111, mxu_112, mxu_113, mxu_114, mxu_115, mxu_116, mxu_117, mxu_118, mxu_119, mxu_120, mxu_121, mxu_122, mxu_123, mxu_124, mxu_125, mxu_126, mxu_127, mxu_128, mxu_129, mxu_130, mxu_131, mxu_132, mxu_133, mxu_134, mxu_137, mxu_138, mxu_142, mxu_147, keyB_mx, sgnB_mx, st4_mx, tkF_mx, wrg_mx, keyT_mx, numF_mx, nnF107_mx, nnF112_mx, nnF116_mx, nnF120_mx, nnF124_mx, laneN_mx, laneF_mx]) fun f4 => ?_
  simp only [mxP_mk, mxP_ite, mx_ite, mxr_104, mxr_105, mxr_106, mxr_107, mxr_108, mxr_109, mxr_110, mxr_111, mxr_112, mxr_113, mxr_114, mxr_115, mxr_116, mxr_117, mxr_118, mxr_119, mxr_120, mxr_121, mxr_122, mxr_123, mxr_124, mxr_125, mxr_126, mxr_127, mxr_128, mxr_129, mxr_130, mxr_131, mxr_132, mxr_133, mxr_134, mxr_137, mxr_138, mxr_142, mxr_147, mxu_104, mxu_105, mxu_106, mxu_107, mxu_108, mxu_109, mxu_110, mxu_111, mxu_112, mxu_113, mxu_114, mxu_115, mxu_116, mxu_117, mxu_118, mxu_119, mxu_120, mxu_121, mxu_122, mxu_123, mxu_124, mxu_125, mxu_126, mxu_127, mxu_128, mxu_129, mxu_130, mxu_131, mxu_132, mxu_133, mxu_134, mxu_137, mxu_138, mxu_142, mxu_147, keyB_mx, sgnB_mx, st4_mx, tkF_mx, wrg_mx, keyT_mx, numF_mx, nnF107_mx, nnF112_mx, nnF116_mx, nnF120_mx, nnF124_mx, laneN_mx, laneF_mx]
theorem manF_mx  : manF (mx x φ) = mxP x (manF φ) := by
  unfold manF
  simp only [mxP_mk, mxP_ite, mx_ite, mxr_104, mxr_105, mxr_106, mxr_107, mxr_108, mxr_109, mxr_110, mxr_111, mxr_112, mxr_113, mxr_114, mxr_115, mxr_116, mxr_117, mxr_118, mxr_119, mxr_120, mxr_121, mxr_122, mxr_123, mxr_124, mxr_125, mxr_126, mxr_127, mxr_128, mxr_129, mxr_130, mxr_131, mxr_132, mxr_133, mxr_134, mxr_137, mxr_138, mxr_142, mxr_147, mxu_104, mxu_105, mxu_106, mxu_107, mxu_108, mxu_109, mxu_110, mxu_111, mxu_112, mxu_113, mxu_114, mxu_115, mxu_116, mxu_117, mxu_118, mxu_119, mxu_120, mxu_121, mxu_122, mxu_123, mxu_124, mxu_125, mxu_126, mxu_127, mxu_128, mxu_129, mxu_130, mxu_131, mxu_132, mxu_133, mxu_134, mxu_137, mxu_138, mxu_142, mxu_147, keyB_mx, sgnB_mx, st4_mx, tkF_mx, wrg_mx, keyT_mx, numF_mx, nnF107_mx, nnF112_mx, nnF116_mx, nnF120_mx, nnF124_mx, laneN_mx, laneF_mx, manN_mx]
theorem holdN_mx {n : Nat} : holdN n (mx x φ) = mxP x (holdN n φ) := by
  unfold holdN
  refine thn_mx (by simp only [mxP_mk, mxP_ite, mx_ite, mxr_104, mxr_105, mxr_106, mxr_107, mxr_108, mxr_109, mxr_110, mxr_111, mxr_112, mxr_113, mxr_114, mxr_115, mxr_116, mxr_117, mxr_118, mxr_119, mxr_120, mxr_121, mxr_122, mxr_123, mxr_124, mxr_125, mxr_126, mxr_127, mxr_128, mxr_129, mxr_130, mxr_131, mxr_132, mxr_133, mxr_134, mxr_137, mxr_138, mxr_142, mxr_147, mxu_104, mxu_105, mxu_106, mxu_107, mxu_108, mxu_109, mxu_110, mxu_111, mxu_112, mxu_113, mxu_114, mxu_115, mxu_116, mxu_117, mxu_118, mxu_119, mxu_120, mxu_121, mxu_122, mxu_123, mxu_124, mxu_125, mxu_126, mxu_127, mxu_128, mxu_129, mxu_130, mxu_131, mxu_132, mxu_133, mxu_134, mxu_137, mxu_138, mxu_142, mxu_147, keyB_mx, sgnB_mx, st4_mx, tkF_mx, wrg_mx, keyT_mx, numF_mx, nnF107_mx, nnF112_mx, nnF116_mx, nnF120_mx, nnF124_mx, laneN_mx, laneF_mx, manN_mx, manF_mx]) fun f1 => ?_
  refine thn_mx (by simp only [mxP_mk, mxP_ite, mx_ite, mxr_104, mxr_105, mxr_106, mxr_107, mxr_108, mxr_109, mxr_110, mxr_111, mxr_112, mxr_113, mxr_114, mxr_115, mxr_116, mxr_117, mxr_118, mxr_119, mxr_120, mxr_121, mxr_122, mxr_123, mxr_124, mxr_125, mxr_126, mxr_127, mxr_128, mxr_129, mxr_130, mxr_131, mxr_132, mxr_133, mxr_134, mxr_137, mxr_138, mxr_142, mxr_147, mxu_104, mxu_105, mxu_106, mxu_107, mxu_108, mxu_109, mxu_110, mxu_111, mxu_112, mxu_113, mxu_114, mxu_115, mxu_116, mxu_117, mxu_118, mxu_119, mxu_120, mxu_121, mxu_122, mxu_123, mxu_124, mxu_125, mxu_126, mxu_127, mxu_128, mxu_129, mxu_130, mxu_131, mxu_132, mxu_133, mxu_134, mxu_137, mxu_138, mxu_142, mxu_147, keyB_mx, sgnB_mx, st4_mx, tkF_mx, wrg_mx, keyT_mx, numF_mx, nnF107_mx, nnF112_mx, nnF116_mx, nnF120_mx, nnF124_mx, laneN_mx, laneF_mx, manN_mx, manF_mx]) fun f2 => ?_
  refine thn_mx (by simp only [mxP_mk, mxP_ite, mx_ite, mxr_104, mxr_105, mxr_106, mxr_107, mxr_108, mxr_109, mxr_110, mxr_111, mxr_112, mxr_113, mxr_114, mxr_115, mxr_116, mxr_117, mxr_118, mxr_119, mxr_120, mxr_121, mxr_122, mxr_123, mxr_124, mxr_125, mxr_126, mxr_127, mxr_128, mxr_129, mxr_130, mxr_131, mxr_132, mxr_133, mxr_134, mxr_137, mxr_138, mxr_142, mxr_147, mxu_104, mxu_105, mxu_106, mxu_107, mxu_108, mxu_109, mxu_110, mxu_111, mxu_112, mxu_113, mxu_114, mxu_115, mxu_116, mxu_117, mxu_118, mxu_119, mxu_120, mxu_121, mxu_122, mxu_123, mxu_124, mxu_125, mxu_126, mxu_127, mxu_128, mxu_129, mxu_130, mxu_131, mxu_132, mxu_133, mxu_134, mxu_137, mxu_138, mxu_142, mxu_147, keyB_mx, sgnB_mx, st4_mx, tkF_mx, wrg_mx, keyT_mx, numF_mx, nnF107_mx, nnF112_mx, nnF116_mx, nnF120_mx, nnF124_mx, laneN_mx, laneF_mx, manN_mx, manF_mx]) fun f3 => ?_
  refine thn_mx (by simp only [mxP_mk, mxP_ite, mx_ite, mxr_104, mxr_105, mxr_106, mxr_107, mxr_108, mxr_109, mxr_110, mxr_111, mxr_112, mxr_113, mxr_114, mxr_115, mxr_116, mxr_117, mxr_118, mxr_119, mxr_120, mxr_121, mxr_122, mxr_123, mxr_124, mxr_125, mxr_126, mxr_127, mxr_128, mxr_129, mxr_130, mxr_131, mxr_132, mxr_133, mxr_134, mxr_137, mxr_138, mxr_142, mxr_147, mxu_104, mxu_105, mxu_106, mxu_107, mxu_108, mxu_109, mxu_110, mxu_111, mxu_112, mxu_113, mxu_114, mxu_115, mxu_116, mxu_117, mxu_118, mxu_119, mxu_120, mxu_121, mxu_122, mxu_123, mxu_124, mxu_125, mxu_126, mxu_127, mxu_128, mxu_129, mxu_130, mxu_131, mxu_132, mxu_133, mxu_134, mxu_137, mxu_138, mxu_142, mxu_147, keyB_mx, sgnB_mx, st4_mx, tkF_mx, wrg_mx, keyT_mx, numF_mx, nnF107_mx, nnF112_mx, nnF116_mx, nnF120_mx, nnF124_mx, laneN_mx, laneF_mx, manN_mx, manF_mx]) fun f4 => ?_
  simp only [mxP_mk, mxP_ite, mx_ite, mxr_104, mxr_105, mxr_106, mxr_107, mxr_108, mxr_109, mxr_110, mxr_111, mxr_112, mxr_113, mxr_114, mxr_115, mxr_116, mxr_117, mxr_118, mxr_119, mxr_120, mxr_121, mxr_122, mxr_123, mxr_124, mxr_125, mxr_126, mxr_127, mxr_128, mxr_129, mxr_130, mxr_131, mxr_132, mxr_133, mxr_134, mxr_137, mxr_138, mxr_142, mxr_147, mxu_104, mxu_105, mxu_106, mxu_107, mxu_108, mxu_109, mxu_110, mxu_111, mxu_112, mxu_113, mxu_114, mxu_115, mxu_116, mxu_117, mxu_118, mxu_119, mxu_120, mxu_121, mxu_122, mxu_123, mxu_124, mxu_125, mxu_126, mxu_127, mxu_128, mxu_129, mxu_130, mxu_131, mxu_132, mxu_133, mxu_134, mxu_137, mxu_138, mxu_142, mxu_147, keyB_mx, sgnB_mx, st4_mx, tkF_mx, wrg_mx, keyT_mx, numF_mx, nnF107_mx, nnF112_mx, nnF116_mx, nnF120_mx, nnF124_mx, laneN_mx, laneF_mx, manN_mx, manF_mx]
theorem holdF_mx  : holdF (mx x φ) = mxP x (holdF φ) := by
  unfold holdF
  simp only [mxP_mk, mxP_ite, mx_ite, mxr_104, mxr_105, mxr_106, mxr_107, mxr_108, mxr_109, mxr_110, mxr_111, mxr_112, mxr_113, mxr_114, mxr_115, mxr_116, mxr_117, mxr_118, mxr_119, mxr_120, mxr_121, mxr_122, mxr_123, mxr_124, mxr_125, mxr_126, mxr_127, mxr_128, mxr_129, mxr_130, mxr_131, mxr_132, mxr_133, mxr_134, mxr_137, mxr_138, mxr_142, mxr_147, mxu_104, mxu_105, mxu_106, mxu_107, mxu_108, mxu_109, mxu_110, mxu_111, mxu_112, mxu_113, mxu_114, mxu_115, mxu_116, mxu_117, mxu_118, mxu_119, mxu_120, mxu_121, mxu_122, mxu_123, mxu_124, mxu_125, mxu_126, mxu_127, mxu_128, mxu_129, mxu_130, mxu_131, mxu_132, mxu_133, mxu_134, mxu_137, mxu_138, mxu_142, mxu_147, keyB_mx, sgnB_mx, st4_mx, tkF_mx, wrg_mx, keyT_mx, numF_mx, nnF107_mx, nnF112_mx, nnF116_mx, nnF120_mx, nnF124_mx, laneN_mx, laneF_mx, manN_mx, manF_mx, holdN_mx]
theorem judgN_mx {n : Nat} : judgN n (mx x φ) = mxP x (judgN n φ) := by
  unfold judgN
  refine thn_mx (by simp only [mxP_mk, mxP_ite, mx_ite, mxr_104, mxr_105, mxr_106, mxr_107, mxr_108, mxr_109, mxr_110, mxr_111, mxr_112, mxr_113, mxr_114, mxr_115, mxr_116, mxr_117, mxr_118, mxr_119, mxr_120, mxr_121, mxr_122, mxr_123, mxr_124, mxr_125, mxr_126, mxr_127, mxr_128, mxr_129, mxr_130, mxr_131, mxr_132, mxr_133, mxr_134, mxr_137, mxr_138, mxr_142, mxr_147, mxu_104, mxu_105, mxu_106, mxu_107, mxu_108, mxu_109, mxu_110, mxu_111, mxu_112, mxu_113, mxu_114, mxu_115, mxu_116, mxu_117, mxu_118, mxu_119, mxu_120, mxu_121, mxu_122, mxu_123, mxu_124, mxu_125, mxu_126, mxu_127, mxu_128, mxu_129, mxu_130, mxu_131, mxu_132, mxu_133, mxu_134, mxu_137, mxu_138, mxu_142, mxu_147, keyB_mx, sgnB_mx, st4_mx, tkF_mx, wrg_mx, keyT_mx, numF_mx, nnF107_mx, nnF112_mx, nnF116_mx, nnF120_mx, nnF124_mx, laneN_mx, laneF_mx, manN_mx, manF_mx, holdN_mx, holdF_mx]) fun f1 => ?_
  refine thn_mx (by simp only [mxP_mk, mxP_ite, mx_ite, mxr_104, mxr_105, mxr_106, mxr_107, mxr_108, mxr_109, mxr_110, mxr_111, mxr_112, mxr_113, mxr_114, mxr_115, mxr_116, mxr_117, mxr_118, mxr_119, mxr_120, mxr_121, mxr_122, mxr_123, mxr_124, mxr_125, mxr_126, mxr_127, mxr_128, mxr_129, mxr_130, mxr_131, mxr_132, mxr_133, mxr_134, mxr_137, mxr_138, mxr_142, mxr_147, mxu_104, mxu_105, mxu_106, mxu_107, mxu_108, mxu_109, mxu_110, mxu_111, mxu_112, mxu_113, mxu_114, mxu_115, mxu_116, mxu_117, mxu_118, mxu_119, mxu_120, mxu_121, mxu_122, mxu_123, mxu_124, mxu_125, mxu_126, mxu_127, mxu_128, mxu_129, mxu_130, mxu_131, mxu_132, mxu_133, mxu_134, mxu_137, mxu_138, mxu_142, mxu_147, keyB_mx, sgnB_mx, st4_mx, tkF_mx, wrg_mx, keyT_mx, numF_mx, nnF107_mx, nnF112_mx, nnF116_mx, nnF120_mx, nnF124_mx, laneN_mx, laneF_mx, manN_mx, manF_mx, holdN_mx, holdF_mx]) fun f2 => ?_
  refine thn_mx (by simp only [mxP_mk, mxP_ite, mx_ite, mxr_104, mxr_105, mxr_106, mxr_107, mxr_108, mxr_109, mxr_110, mxr_111, mxr_112, mxr_113, mxr_114, mxr_115, mxr_116, mxr_117, mxr_118, mxr_119, mxr_120, mxr_121, mxr_122, mxr_123, mxr_124, mxr_125, mxr_126, mxr_127, mxr_128, mxr_129, mxr_130, mxr_131, mxr_132, mxr_133, mxr_134, mxr_137, mxr_138, mxr_142, mxr_147, mxu_104, mxu_105, mxu_106, mxu_107, mxu_108, mxu_109, mxu_110, mxu_111, mxu_112, mxu_113, mxu_114, mxu_115, mxu_116, mxu_117, mxu_118, mxu_119, mxu_120, mxu_121, mxu_122, mxu_123, mxu_124, mxu_125, mxu_126, mxu_127, mxu_128, mxu_129, mxu_130, mxu_131, mxu_132, mxu_133, mxu_134, mxu_137, mxu_138, mxu_142, mxu_147, keyB_mx, sgnB_mx, st4_mx, tkF_mx, wrg_mx, keyT_mx, numF_mx, nnF107_mx, nnF112_mx, nnF116_mx, nnF120_mx, nnF124_mx, laneN_mx, laneF_mx, manN_mx, manF_mx, holdN_mx, holdF_mx]) fun f3 => ?_
  simp only [mxP_mk, mxP_ite, mx_ite, mxr_104, mxr_105, mxr_106, mxr_107, mxr_108, mxr_109, mxr_110, mxr_111, mxr_112, mxr_113, mxr_114, mxr_115, mxr_116, mxr_117, mxr_118, mxr_119, mxr_120, mxr_121, mxr_122, mxr_123, mxr_124, mxr_125, mxr_126, mxr_127, mxr_128, mxr_129, mxr_130, mxr_131, mxr_132, mxr_133, mxr_134, mxr_137, mxr_138, mxr_142, mxr_147, mxu_104, mxu_105, mxu_106, mxu_107, mxu_108, mxu_109, mxu_110, mxu_111, mxu_112, mxu_113, mxu_114, mxu_115, mxu_116, mxu_117, mxu_118, mxu_119, mxu_120, mxu_121, mxu_122, mxu_123, mxu_124, mxu_125, mxu_126, mxu_127, mxu_128, mxu_129, mxu_130, mxu_131, mxu_132, mxu_133, mxu_134, mxu_137, mxu_138, mxu_142, mxu_147, keyB_mx, sgnB_mx, st4_mx, tkF_mx, wrg_mx, keyT_mx, numF_mx, nnF107_mx, nnF112_mx, nnF116_mx, nnF120_mx, nnF124_mx, laneN_mx, laneF_mx, manN_mx, manF_mx, holdN_mx, holdF_mx]
theorem judgF_mx  : judgF (mx x φ) = mxP x (judgF φ) := by
  unfold judgF
  simp only [mxP_mk, mxP_ite, mx_ite, mxr_104, mxr_105, mxr_106, mxr_107, mxr_108, mxr_109, mxr_110, mxr_111, mxr_112, mxr_113, mxr_114, mxr_115, mxr_116, mxr_117, mxr_118, mxr_119, mxr_120, mxr_121, mxr_122, mxr_123, mxr_124, mxr_125, mxr_126, mxr_127, mxr_128, mxr_129, mxr_130, mxr_131, mxr_132, mxr_133, mxr_134, mxr_137, mxr_138, mxr_142, mxr_147, mxu_104, mxu_105, mxu_106, mxu_107, mxu_108, mxu_109, mxu_110, mxu_111, mxu_112, mxu_113, mxu_114, mxu_115, mxu_116, mxu_117, mxu_118, mxu_119, mxu_120, mxu_121, mxu_122, mxu_123, mxu_124, mxu_125, mxu_126, mxu_127, mxu_128, mxu_129, mxu_130, mxu_131, mxu_132, mxu_133, mxu_134, mxu_137, mxu_138, mxu_142, mxu_147, keyB_mx, sgnB_mx, st4_mx, tkF_mx, wrg_mx, keyT_mx, numF_mx, nnF107_mx, nnF112_mx, nnF116_mx, nnF120_mx, nnF124_mx, laneN_mx, laneF_mx, manN_mx, manF_mx, holdN_mx, holdF_mx, judgN_mx]
theorem plnL_mx {n : Nat} : ∀ (k : Nat) (φ : IT), plnL n k (mx x φ) = mxP x (plnL n k φ)
  | 0, φ => rfl
  | k + 1, φ => by
    rw [plnL, plnL]
    by_cases c : φ 104 8 = 3 ∧ φ 122 (5 + n) = 6
    · rw [if_pos (by simp only [mxr_104, mxr_122]; exact c), if_pos c]
      simp only [mxP_mk, mxP_ite, mx_ite, mxr_104, mxr_105, mxr_106, mxr_107, mxr_108, mxr_109, mxr_110, mxr_111, mxr_112, mxr_113, mxr_114, mxr_115, mxr_116, mxr_117, mxr_118, mxr_119, mxr_120, mxr_121, mxr_122, mxr_123, mxr_124, mxr_125, mxr_126, mxr_127, mxr_128, mxr_129, mxr_130, mxr_131, mxr_132, mxr_133, mxr_134, mxr_137, mxr_138, mxr_142, mxr_147, mxu_104, mxu_105, mxu_106, mxu_107, mxu_108, mxu_109, mxu_110, mxu_111, mxu_112, mxu_113, mxu_114, mxu_115, mxu_116, mxu_117, mxu_118, mxu_119, mxu_120, mxu_121, mxu_122, mxu_123, mxu_124, mxu_125, mxu_126, mxu_127, mxu_128, mxu_129, mxu_130, mxu_131, mxu_132, mxu_133, mxu_134, mxu_137, mxu_138, mxu_142, mxu_147, keyB_mx, sgnB_mx, st4_mx, tkF_mx, wrg_mx, keyT_mx, numF_mx, nnF107_mx, nnF112_mx, nnF116_mx, nnF120_mx, nnF124_mx, laneN_mx, laneF_mx, manN_mx, manF_mx, holdN_mx, holdF_mx, judgN_mx, judgF_mx]
    · rw [if_neg (by simp only [mxr_104, mxr_122]; exact c), if_neg c]
      refine thn_mx numF_mx fun f1 => ?_
      simp only [mxP_mk, mxP_ite, mx_ite, mxr_104, mxr_105, mxr_106, mxr_107, mxr_108, mxr_109, mxr_110, mxr_111, mxr_112, mxr_113, mxr_114, mxr_115, mxr_116, mxr_117, mxr_118, mxr_119, mxr_120, mxr_121, mxr_122, mxr_123, mxr_124, mxr_125, mxr_126, mxr_127, mxr_128, mxr_129, mxr_130, mxr_131, mxr_132, mxr_133, mxr_134, mxr_137, mxr_138, mxr_142, mxr_147, mxu_104, mxu_105, mxu_106, mxu_107, mxu_108, mxu_109, mxu_110, mxu_111, mxu_112, mxu_113, mxu_114, mxu_115, mxu_116, mxu_117, mxu_118, mxu_119, mxu_120, mxu_121, mxu_122, mxu_123, mxu_124, mxu_125, mxu_126, mxu_127, mxu_128, mxu_129, mxu_130, mxu_131, mxu_132, mxu_133, mxu_134, mxu_137, mxu_138, mxu_142, mxu_147, keyB_mx, sgnB_mx, st4_mx, tkF_mx, wrg_mx, keyT_mx, numF_mx, nnF107_mx, nnF112_mx, nnF116_mx, nnF120_mx, nnF124_mx, laneN_mx, laneF_mx, manN_mx, manF_mx, holdN_mx, holdF_mx, judgN_mx, judgF_mx]
      by_cases d : f1 104 8 = 3
      · rw [if_pos d, if_pos d]; exact plnL_mx k _
      · rw [if_neg d, if_neg d]
theorem planN_mx {n : Nat} : planN n (mx x φ) = mxP x (planN n φ) := by
  unfold planN
  refine thn_mx (by simp only [mxP_mk, mxP_ite, mx_ite, mxr_104, mxr_105, mxr_106, mxr_107, mxr_108, mxr_109, mxr_110, mxr_111, mxr_112, mxr_113, mxr_114, mxr_115, mxr_116, mxr_117, mxr_118, mxr_119, mxr_120, mxr_121, mxr_122, mxr_123, mxr_124, mxr_125, mxr_126, mxr_127, mxr_128, mxr_129, mxr_130, mxr_131, mxr_132, mxr_133, mxr_134, mxr_137, mxr_138, mxr_142, mxr_147, mxu_104, mxu_105, mxu_106, mxu_107, mxu_108, mxu_109, mxu_110, mxu_111, mxu_112, mxu_113, mxu_114, mxu_115, mxu_116, mxu_117, mxu_118, mxu_119, mxu_120, mxu_121, mxu_122, mxu_123, mxu_124, mxu_125, mxu_126, mxu_127, mxu_128, mxu_129, mxu_130, mxu_131, mxu_132, mxu_133, mxu_134, mxu_137, mxu_138, mxu_142, mxu_147, keyB_mx, sgnB_mx, st4_mx, tkF_mx, wrg_mx, keyT_mx, numF_mx, nnF107_mx, nnF112_mx, nnF116_mx, nnF120_mx, nnF124_mx, laneN_mx, laneF_mx, manN_mx, manF_mx, holdN_mx, holdF_mx, judgN_mx, judgF_mx, plnL_mx]) fun f1 => ?_
  simp only [mxP_mk, mxP_ite, mx_ite, mxr_104, mxr_105, mxr_106, mxr_107, mxr_108, mxr_109, mxr_110, mxr_111, mxr_112, mxr_113, mxr_114, mxr_115, mxr_116, mxr_117, mxr_118, mxr_119, mxr_120, mxr_121, mxr_122, mxr_123, mxr_124, mxr_125, mxr_126, mxr_127, mxr_128, mxr_129, mxr_130, mxr_131, mxr_132, mxr_133, mxr_134, mxr_137, mxr_138, mxr_142, mxr_147, mxu_104, mxu_105, mxu_106, mxu_107, mxu_108, mxu_109, mxu_110, mxu_111, mxu_112, mxu_113, mxu_114, mxu_115, mxu_116, mxu_117, mxu_118, mxu_119, mxu_120, mxu_121, mxu_122, mxu_123, mxu_124, mxu_125, mxu_126, mxu_127, mxu_128, mxu_129, mxu_130, mxu_131, mxu_132, mxu_133, mxu_134, mxu_137, mxu_138, mxu_142, mxu_147, keyB_mx, sgnB_mx, st4_mx, tkF_mx, wrg_mx, keyT_mx, numF_mx, nnF107_mx, nnF112_mx, nnF116_mx, nnF120_mx, nnF124_mx, laneN_mx, laneF_mx, manN_mx, manF_mx, holdN_mx, holdF_mx, judgN_mx, judgF_mx, plnL_mx]
theorem planF_mx  : planF (mx x φ) = mxP x (planF φ) := by
  unfold planF
  simp only [mxP_mk, mxP_ite, mx_ite, mxr_104, mxr_105, mxr_106, mxr_107, mxr_108, mxr_109, mxr_110, mxr_111, mxr_112, mxr_113, mxr_114, mxr_115, mxr_116, mxr_117, mxr_118, mxr_119, mxr_120, mxr_121, mxr_122, mxr_123, mxr_124, mxr_125, mxr_126, mxr_127, mxr_128, mxr_129, mxr_130, mxr_131, mxr_132, mxr_133, mxr_134, mxr_137, mxr_138, mxr_142, mxr_147, mxu_104, mxu_105, mxu_106, mxu_107, mxu_108, mxu_109, mxu_110, mxu_111, mxu_112, mxu_113, mxu_114, mxu_115, mxu_116, mxu_117, mxu_118, mxu_119, mxu_120, mxu_121, mxu_122, mxu_123, mxu_124, mxu_125, mxu_126, mxu_127, mxu_128, mxu_129, mxu_130, mxu_131, mxu_132, mxu_133, mxu_134, mxu_137, mxu_138, mxu_142, mxu_147, keyB_mx, sgnB_mx, st4_mx, tkF_mx, wrg_mx, keyT_mx, numF_mx, nnF107_mx, nnF112_mx, nnF116_mx, nnF120_mx, nnF124_mx, laneN_mx, laneF_mx, manN_mx, manF_mx, holdN_mx, holdF_mx, judgN_mx, judgF_mx, plnL_mx, planN_mx]
theorem loadF_mx : loadF (mx x φ) = mxP x (loadF φ) := by
  unfold loadF
  simp only [mxu_104, tkF_mx, numF_mx]
  unfold mxP
  simp only [mxr_104, mxu_104]
theorem seedF_mx : seedF (mx x φ) = mxP x (seedF φ) := by
  unfold seedF
  simp only [mxu_104, tkF_mx, numF_mx]
  unfold mxP
  simp only [mxr_104, mxu_104]
theorem ctdF_mx  : ctdF (mx x φ) = mxP x (ctdF φ) := by
  unfold ctdF
  simp only [mxP_mk, mxP_ite, mx_ite, mxr_104, mxr_105, mxr_106, mxr_107, mxr_108, mxr_109, mxr_110, mxr_111, mxr_112, mxr_113, mxr_114, mxr_115, mxr_116, mxr_117, mxr_118, mxr_119, mxr_120, mxr_121, mxr_122, mxr_123, mxr_124, mxr_125, mxr_126, mxr_127, mxr_128, mxr_129, mxr_130, mxr_131, mxr_132, mxr_133, mxr_134, mxr_137, mxr_138, mxr_142, mxr_147, mxu_104, mxu_105, mxu_106, mxu_107, mxu_108, mxu_109, mxu_110, mxu_111, mxu_112, mxu_113, mxu_114, mxu_115, mxu_116, mxu_117, mxu_118, mxu_119, mxu_120, mxu_121, mxu_122, mxu_123, mxu_124, mxu_125, mxu_126, mxu_127, mxu_128, mxu_129, mxu_130, mxu_131, mxu_132, mxu_133, mxu_134, mxu_137, mxu_138, mxu_142, mxu_147, keyB_mx, sgnB_mx, st4_mx, tkF_mx, wrg_mx, keyT_mx, numF_mx, nnF107_mx, nnF112_mx, nnF116_mx, nnF120_mx, nnF124_mx, laneN_mx, laneF_mx, manN_mx, manF_mx, holdN_mx, holdF_mx, judgN_mx, judgF_mx, plnL_mx, planN_mx, planF_mx, loadF_mx, seedF_mx]
theorem nmtV_mx  : nmtV (mx x φ) = nmtV φ := by
  unfold nmtV
  simp only [mxP_mk, mxP_ite, mx_ite, mxr_104, mxr_105, mxr_106, mxr_107, mxr_108, mxr_109, mxr_110, mxr_111, mxr_112, mxr_113, mxr_114, mxr_115, mxr_116, mxr_117, mxr_118, mxr_119, mxr_120, mxr_121, mxr_122, mxr_123, mxr_124, mxr_125, mxr_126, mxr_127, mxr_128, mxr_129, mxr_130, mxr_131, mxr_132, mxr_133, mxr_134, mxr_137, mxr_138, mxr_142, mxr_147, mxu_104, mxu_105, mxu_106, mxu_107, mxu_108, mxu_109, mxu_110, mxu_111, mxu_112, mxu_113, mxu_114, mxu_115, mxu_116, mxu_117, mxu_118, mxu_119, mxu_120, mxu_121, mxu_122, mxu_123, mxu_124, mxu_125, mxu_126, mxu_127, mxu_128, mxu_129, mxu_130, mxu_131, mxu_132, mxu_133, mxu_134, mxu_137, mxu_138, mxu_142, mxu_147, keyB_mx, sgnB_mx, st4_mx, tkF_mx, wrg_mx, keyT_mx, numF_mx, nnF107_mx, nnF112_mx, nnF116_mx, nnF120_mx, nnF124_mx, laneN_mx, laneF_mx, manN_mx, manF_mx, holdN_mx, holdF_mx, judgN_mx, judgF_mx, plnL_mx, planN_mx, planF_mx, loadF_mx, seedF_mx, ctdF_mx]
theorem drpV_mx  : drpV (mx x φ) = drpV φ := by
  unfold drpV
  simp only [mxP_mk, mxP_ite, mx_ite, mxr_104, mxr_105, mxr_106, mxr_107, mxr_108, mxr_109, mxr_110, mxr_111, mxr_112, mxr_113, mxr_114, mxr_115, mxr_116, mxr_117, mxr_118, mxr_119, mxr_120, mxr_121, mxr_122, mxr_123, mxr_124, mxr_125, mxr_126, mxr_127, mxr_128, mxr_129, mxr_130, mxr_131, mxr_132, mxr_133, mxr_134, mxr_137, mxr_138, mxr_142, mxr_147, mxu_104, mxu_105, mxu_106, mxu_107, mxu_108, mxu_109, mxu_110, mxu_111, mxu_112, mxu_113, mxu_114, mxu_115, mxu_116, mxu_117, mxu_118, mxu_119, mxu_120, mxu_121, mxu_122, mxu_123, mxu_124, mxu_125, mxu_126, mxu_127, mxu_128, mxu_129, mxu_130, mxu_131, mxu_132, mxu_133, mxu_134, mxu_137, mxu_138, mxu_142, mxu_147, keyB_mx, sgnB_mx, st4_mx, tkF_mx, wrg_mx, keyT_mx, numF_mx, nnF107_mx, nnF112_mx, nnF116_mx, nnF120_mx, nnF124_mx, laneN_mx, laneF_mx, manN_mx, manF_mx, holdN_mx, holdF_mx, judgN_mx, judgF_mx, plnL_mx, planN_mx, planF_mx, loadF_mx, seedF_mx, ctdF_mx, nmtV_mx]
theorem drpF_mx  : drpF (mx x φ) = mx x (drpF φ) := by
  unfold drpF
  simp only [mxP_mk, mxP_ite, mx_ite, mxr_104, mxr_105, mxr_106, mxr_107, mxr_108, mxr_109, mxr_110, mxr_111, mxr_112, mxr_113, mxr_114, mxr_115, mxr_116, mxr_117, mxr_118, mxr_119, mxr_120, mxr_121, mxr_122, mxr_123, mxr_124, mxr_125, mxr_126, mxr_127, mxr_128, mxr_129, mxr_130, mxr_131, mxr_132, mxr_133, mxr_134, mxr_137, mxr_138, mxr_142, mxr_147, mxu_104, mxu_105, mxu_106, mxu_107, mxu_108, mxu_109, mxu_110, mxu_111, mxu_112, mxu_113, mxu_114, mxu_115, mxu_116, mxu_117, mxu_118, mxu_119, mxu_120, mxu_121, mxu_122, mxu_123, mxu_124, mxu_125, mxu_126, mxu_127, mxu_128, mxu_129, mxu_130, mxu_131, mxu_132, mxu_133, mxu_134, mxu_137, mxu_138, mxu_142, mxu_147, keyB_mx, sgnB_mx, st4_mx, tkF_mx, wrg_mx, keyT_mx, numF_mx, nnF107_mx, nnF112_mx, nnF116_mx, nnF120_mx, nnF124_mx, laneN_mx, laneF_mx, manN_mx, manF_mx, holdN_mx, holdF_mx, judgN_mx, judgF_mx, plnL_mx, planN_mx, planF_mx, loadF_mx, seedF_mx, ctdF_mx, nmtV_mx, drpV_mx]
theorem wtsF_mx {k : Int} : wtsF k (mx x φ) = mx x (wtsF k φ) := by
  unfold wtsF
  simp only [mxP_mk, mxP_ite, mx_ite, mxr_104, mxr_105, mxr_106, mxr_107, mxr_108, mxr_109, mxr_110, mxr_111, mxr_112, mxr_113, mxr_114, mxr_115, mxr_116, mxr_117, mxr_118, mxr_119, mxr_120, mxr_121, mxr_122, mxr_123, mxr_124, mxr_125, mxr_126, mxr_127, mxr_128, mxr_129, mxr_130, mxr_131, mxr_132, mxr_133, mxr_134, mxr_137, mxr_138, mxr_142, mxr_147, mxu_104, mxu_105, mxu_106, mxu_107, mxu_108, mxu_109, mxu_110, mxu_111, mxu_112, mxu_113, mxu_114, mxu_115, mxu_116, mxu_117, mxu_118, mxu_119, mxu_120, mxu_121, mxu_122, mxu_123, mxu_124, mxu_125, mxu_126, mxu_127, mxu_128, mxu_129, mxu_130, mxu_131, mxu_132, mxu_133, mxu_134, mxu_137, mxu_138, mxu_142, mxu_147, keyB_mx, sgnB_mx, st4_mx, tkF_mx, wrg_mx, keyT_mx, numF_mx, nnF107_mx, nnF112_mx, nnF116_mx, nnF120_mx, nnF124_mx, laneN_mx, laneF_mx, manN_mx, manF_mx, holdN_mx, holdF_mx, judgN_mx, judgF_mx, plnL_mx, planN_mx, planF_mx, loadF_mx, seedF_mx, ctdF_mx, nmtV_mx, drpV_mx, drpF_mx]
theorem grwF_mx {k a c : Int} : grwF k a c (mx x φ) = mx x (grwF k a c φ) := by
  unfold grwF
  simp only [mxP_mk, mxP_ite, mx_ite, mxr_104, mxr_105, mxr_106, mxr_107, mxr_108, mxr_109, mxr_110, mxr_111, mxr_112, mxr_113, mxr_114, mxr_115, mxr_116, mxr_117, mxr_118, mxr_119, mxr_120, mxr_121, mxr_122, mxr_123, mxr_124, mxr_125, mxr_126, mxr_127, mxr_128, mxr_129, mxr_130, mxr_131, mxr_132, mxr_133, mxr_134, mxr_137, mxr_138, mxr_142, mxr_147, mxu_104, mxu_105, mxu_106, mxu_107, mxu_108, mxu_109, mxu_110, mxu_111, mxu_112, mxu_113, mxu_114, mxu_115, mxu_116, mxu_117, mxu_118, mxu_119, mxu_120, mxu_121, mxu_122, mxu_123, mxu_124, mxu_125, mxu_126, mxu_127, mxu_128, mxu_129, mxu_130, mxu_131, mxu_132, mxu_133, mxu_134, mxu_137, mxu_138, mxu_142, mxu_147, keyB_mx, sgnB_mx, st4_mx, tkF_mx, wrg_mx, keyT_mx, numF_mx, nnF107_mx, nnF112_mx, nnF116_mx, nnF120_mx, nnF124_mx, laneN_mx, laneF_mx, manN_mx, manF_mx, holdN_mx, holdF_mx, judgN_mx, judgF_mx, plnL_mx, planN_mx, planF_mx, loadF_mx, seedF_mx, ctdF_mx, nmtV_mx, drpV_mx, drpF_mx, wtsF_mx]
theorem bnd1_mx  : bnd1 (mx x φ) = mx x (bnd1 φ) := by
  unfold bnd1
  simp only [mxP_mk, mxP_ite, mx_ite, mxr_104, mxr_105, mxr_106, mxr_107, mxr_108, mxr_109, mxr_110, mxr_111, mxr_112, mxr_113, mxr_114, mxr_115, mxr_116, mxr_117, mxr_118, mxr_119, mxr_120, mxr_121, mxr_122, mxr_123, mxr_124, mxr_125, mxr_126, mxr_127, mxr_128, mxr_129, mxr_130, mxr_131, mxr_132, mxr_133, mxr_134, mxr_137, mxr_138, mxr_142, mxr_147, mxu_104, mxu_105, mxu_106, mxu_107, mxu_108, mxu_109, mxu_110, mxu_111, mxu_112, mxu_113, mxu_114, mxu_115, mxu_116, mxu_117, mxu_118, mxu_119, mxu_120, mxu_121, mxu_122, mxu_123, mxu_124, mxu_125, mxu_126, mxu_127, mxu_128, mxu_129, mxu_130, mxu_131, mxu_132, mxu_133, mxu_134, mxu_137, mxu_138, mxu_142, mxu_147, keyB_mx, sgnB_mx, st4_mx, tkF_mx, wrg_mx, keyT_mx, numF_mx, nnF107_mx, nnF112_mx, nnF116_mx, nnF120_mx, nnF124_mx, laneN_mx, laneF_mx, manN_mx, manF_mx, holdN_mx, holdF_mx, judgN_mx, judgF_mx, plnL_mx, planN_mx, planF_mx, loadF_mx, seedF_mx, ctdF_mx, nmtV_mx, drpV_mx, drpF_mx, wtsF_mx, grwF_mx]
theorem bndR_mx {le : Int} : ∀ (n : Nat) (φ : IT), bndR le n (mx x φ) = mx x (bndR le n φ)
  | 0, φ => rfl
  | n + 1, φ => by
    rw [bndR, bndR]
    simp only [mxr_104, mxr_133, bnd1_mx]
    by_cases c : 0 < φ 104 58 ∧ le ≤ rnk (φ 133 (φ 104 58 - 1).toNat)
    · rw [if_pos c, if_pos c]; exact bndR_mx n _
    · rw [if_neg c, if_neg c]
theorem bndF_mx {le : Int} : bndF le (mx x φ) = mx x (bndF le φ) := by
  unfold bndF
  simp only [mxP_mk, mxP_ite, mx_ite, mxr_104, mxr_105, mxr_106, mxr_107, mxr_108, mxr_109, mxr_110, mxr_111, mxr_112, mxr_113, mxr_114, mxr_115, mxr_116, mxr_117, mxr_118, mxr_119, mxr_120, mxr_121, mxr_122, mxr_123, mxr_124, mxr_125, mxr_126, mxr_127, mxr_128, mxr_129, mxr_130, mxr_131, mxr_132, mxr_133, mxr_134, mxr_137, mxr_138, mxr_142, mxr_147, mxu_104, mxu_105, mxu_106, mxu_107, mxu_108, mxu_109, mxu_110, mxu_111, mxu_112, mxu_113, mxu_114, mxu_115, mxu_116, mxu_117, mxu_118, mxu_119, mxu_120, mxu_121, mxu_122, mxu_123, mxu_124, mxu_125, mxu_126, mxu_127, mxu_128, mxu_129, mxu_130, mxu_131, mxu_132, mxu_133, mxu_134, mxu_137, mxu_138, mxu_142, mxu_147, keyB_mx, sgnB_mx, st4_mx, tkF_mx, wrg_mx, keyT_mx, numF_mx, nnF107_mx, nnF112_mx, nnF116_mx, nnF120_mx, nnF124_mx, laneN_mx, laneF_mx, manN_mx, manF_mx, holdN_mx, holdF_mx, judgN_mx, judgF_mx, plnL_mx, planN_mx, planF_mx, loadF_mx, seedF_mx, ctdF_mx, nmtV_mx, drpV_mx, drpF_mx, wtsF_mx, grwF_mx, bnd1_mx, bndR_mx]
theorem sgK_mx  : sgK (mx x φ) = sgK φ := by
  unfold sgK
  simp only [mxP_mk, mxP_ite, mx_ite, mxr_104, mxr_105, mxr_106, mxr_107, mxr_108, mxr_109, mxr_110, mxr_111, mxr_112, mxr_113, mxr_114, mxr_115, mxr_116, mxr_117, mxr_118, mxr_119, mxr_120, mxr_121, mxr_122, mxr_123, mxr_124, mxr_125, mxr_126, mxr_127, mxr_128, mxr_129, mxr_130, mxr_131, mxr_132, mxr_133, mxr_134, mxr_137, mxr_138, mxr_142, mxr_147, mxu_104, mxu_105, mxu_106, mxu_107, mxu_108, mxu_109, mxu_110, mxu_111, mxu_112, mxu_113, mxu_114, mxu_115, mxu_116, mxu_117, mxu_118, mxu_119, mxu_120, mxu_121, mxu_122, mxu_123, mxu_124, mxu_125, mxu_126, mxu_127, mxu_128, mxu_129, mxu_130, mxu_131, mxu_132, mxu_133, mxu_134, mxu_137, mxu_138, mxu_142, mxu_147, keyB_mx, sgnB_mx, st4_mx, tkF_mx, wrg_mx, keyT_mx, numF_mx, nnF107_mx, nnF112_mx, nnF116_mx, nnF120_mx, nnF124_mx, laneN_mx, laneF_mx, manN_mx, manF_mx, holdN_mx, holdF_mx, judgN_mx, judgF_mx, plnL_mx, planN_mx, planF_mx, loadF_mx, seedF_mx, ctdF_mx, nmtV_mx, drpV_mx, drpF_mx, wtsF_mx, grwF_mx, bnd1_mx, bndR_mx, bndF_mx]
theorem leafF_mx : leafF (mx x φ) = mxP x (leafF φ) := by
  unfold leafF
  simp only [mxP_mk, mxP_ite, mx_ite, mxr_104, mxr_105, mxr_106, mxr_107, mxr_108, mxr_109, mxr_110, mxr_111, mxr_112, mxr_113, mxr_114, mxr_115, mxr_116, mxr_117, mxr_118, mxr_119, mxr_120, mxr_121, mxr_122, mxr_123, mxr_124, mxr_125, mxr_126, mxr_127, mxr_128, mxr_129, mxr_130, mxr_131, mxr_132, mxr_133, mxr_134, mxr_137, mxr_138, mxr_142, mxr_147, mxu_104, mxu_105, mxu_106, mxu_107, mxu_108, mxu_109, mxu_110, mxu_111, mxu_112, mxu_113, mxu_114, mxu_115, mxu_116, mxu_117, mxu_118, mxu_119, mxu_120, mxu_121, mxu_122, mxu_123, mxu_124, mxu_125, mxu_126, mxu_127, mxu_128, mxu_129, mxu_130, mxu_131, mxu_132, mxu_133, mxu_134, mxu_137, mxu_138, mxu_142, mxu_147, keyB_mx, sgnB_mx, st4_mx, tkF_mx, wrg_mx, keyT_mx, numF_mx, nnF107_mx, nnF112_mx, nnF116_mx, nnF120_mx, nnF124_mx, laneN_mx, laneF_mx, manN_mx, manF_mx, holdN_mx, holdF_mx, judgN_mx, judgF_mx, plnL_mx, planN_mx, planF_mx, loadF_mx, seedF_mx, ctdF_mx, nmtV_mx, drpV_mx, drpF_mx, wtsF_mx, grwF_mx, bnd1_mx, bndR_mx, bndF_mx, sgK_mx]
  by_cases c1 : sgnB 40 φ = true
  · simp only [if_pos c1]
  · simp only [if_neg c1]
    by_cases c2 : keyB 20 φ = true ∧ φ 104 63 = 1
    · simp only [if_pos c2]
      exact thn_mx rfl fun f1 => by simp only [mxP_mk, mxP_ite, mx_ite, mxr_104, mxr_105, mxr_106, mxr_107, mxr_108, mxr_109, mxr_110, mxr_111, mxr_112, mxr_113, mxr_114, mxr_115, mxr_116, mxr_117, mxr_118, mxr_119, mxr_120, mxr_121, mxr_122, mxr_123, mxr_124, mxr_125, mxr_126, mxr_127, mxr_128, mxr_129, mxr_130, mxr_131, mxr_132, mxr_133, mxr_134, mxr_137, mxr_138, mxr_142, mxr_147, mxu_104, mxu_105, mxu_106, mxu_107, mxu_108, mxu_109, mxu_110, mxu_111, mxu_112, mxu_113, mxu_114, mxu_115, mxu_116, mxu_117, mxu_118, mxu_119, mxu_120, mxu_121, mxu_122, mxu_123, mxu_124, mxu_125, mxu_126, mxu_127, mxu_128, mxu_129, mxu_130, mxu_131, mxu_132, mxu_133, mxu_134, mxu_137, mxu_138, mxu_142, mxu_147, keyB_mx, sgnB_mx, st4_mx, tkF_mx, wrg_mx, keyT_mx, numF_mx, nnF107_mx, nnF112_mx, nnF116_mx, nnF120_mx, nnF124_mx, laneN_mx, laneF_mx, manN_mx, manF_mx, holdN_mx, holdF_mx, judgN_mx, judgF_mx, plnL_mx, planN_mx, planF_mx, loadF_mx, seedF_mx, ctdF_mx, nmtV_mx, drpV_mx, drpF_mx, wtsF_mx, grwF_mx, bnd1_mx, bndR_mx, bndF_mx, sgK_mx]
    · simp only [if_neg c2]
      by_cases c3 : nmtV φ < 0 ∧ φ 104 8 ≠ 3
      · simp only [if_pos c3]
      · simp only [if_neg c3]
        by_cases c4 : nmtV φ < 0 ∧ 9999 < φ 104 9
        · simp only [if_pos c4]
        · simp only [if_neg c4]
          exact thn_mx rfl fun f1 => by simp only [mxP_mk, mxP_ite, mx_ite, mxr_104, mxr_105, mxr_106, mxr_107, mxr_108, mxr_109, mxr_110, mxr_111, mxr_112, mxr_113, mxr_114, mxr_115, mxr_116, mxr_117, mxr_118, mxr_119, mxr_120, mxr_121, mxr_122, mxr_123, mxr_124, mxr_125, mxr_126, mxr_127, mxr_128, mxr_129, mxr_130, mxr_131, mxr_132, mxr_133, mxr_134, mxr_137, mxr_138, mxr_142, mxr_147, mxu_104, mxu_105, mxu_106, mxu_107, mxu_108, mxu_109, mxu_110, mxu_111, mxu_112, mxu_113, mxu_114, mxu_115, mxu_116, mxu_117, mxu_118, mxu_119, mxu_120, mxu_121, mxu_122, mxu_123, mxu_124, mxu_125, mxu_126, mxu_127, mxu_128, mxu_129, mxu_130, mxu_131, mxu_132, mxu_133, mxu_134, mxu_137, mxu_138, mxu_142, mxu_147, keyB_mx, sgnB_mx, st4_mx, tkF_mx, wrg_mx, keyT_mx, numF_mx, nnF107_mx, nnF112_mx, nnF116_mx, nnF120_mx, nnF124_mx, laneN_mx, laneF_mx, manN_mx, manF_mx, holdN_mx, holdF_mx, judgN_mx, judgF_mx, plnL_mx, planN_mx, planF_mx, loadF_mx, seedF_mx, ctdF_mx, nmtV_mx, drpV_mx, drpF_mx, wtsF_mx, grwF_mx, bnd1_mx, bndR_mx, bndF_mx, sgK_mx]
theorem sgnK_mx {k : Int} : sgnK k (mx x φ) = mxP x (sgnK k φ) := by
  unfold sgnK
  simp only [mxP_mk, mxP_ite, mx_ite, mxr_104, mxr_105, mxr_106, mxr_107, mxr_108, mxr_109, mxr_110, mxr_111, mxr_112, mxr_113, mxr_114, mxr_115, mxr_116, mxr_117, mxr_118, mxr_119, mxr_120, mxr_121, mxr_122, mxr_123, mxr_124, mxr_125, mxr_126, mxr_127, mxr_128, mxr_129, mxr_130, mxr_131, mxr_132, mxr_133, mxr_134, mxr_137, mxr_138, mxr_142, mxr_147, mxu_104, mxu_105, mxu_106, mxu_107, mxu_108, mxu_109, mxu_110, mxu_111, mxu_112, mxu_113, mxu_114, mxu_115, mxu_116, mxu_117, mxu_118, mxu_119, mxu_120, mxu_121, mxu_122, mxu_123, mxu_124, mxu_125, mxu_126, mxu_127, mxu_128, mxu_129, mxu_130, mxu_131, mxu_132, mxu_133, mxu_134, mxu_137, mxu_138, mxu_142, mxu_147, keyB_mx, sgnB_mx, st4_mx, tkF_mx, wrg_mx, keyT_mx, numF_mx, nnF107_mx, nnF112_mx, nnF116_mx, nnF120_mx, nnF124_mx, laneN_mx, laneF_mx, manN_mx, manF_mx, holdN_mx, holdF_mx, judgN_mx, judgF_mx, plnL_mx, planN_mx, planF_mx, loadF_mx, seedF_mx, ctdF_mx, nmtV_mx, drpV_mx, drpF_mx, wtsF_mx, grwF_mx, bnd1_mx, bndR_mx, bndF_mx, sgK_mx, leafF_mx]
  by_cases c1 : rnk k = 4 ∧ 0 < φ 104 58 ∧ rnk (φ 133 (φ 104 58 - 1).toNat) = 4
  · simp only [if_pos c1]
  · simp only [if_neg c1]
    exact thn_mx rfl fun f1 => by simp only [mxP_mk, mxP_ite, mx_ite, mxr_104, mxr_105, mxr_106, mxr_107, mxr_108, mxr_109, mxr_110, mxr_111, mxr_112, mxr_113, mxr_114, mxr_115, mxr_116, mxr_117, mxr_118, mxr_119, mxr_120, mxr_121, mxr_122, mxr_123, mxr_124, mxr_125, mxr_126, mxr_127, mxr_128, mxr_129, mxr_130, mxr_131, mxr_132, mxr_133, mxr_134, mxr_137, mxr_138, mxr_142, mxr_147, mxu_104, mxu_105, mxu_106, mxu_107, mxu_108, mxu_109, mxu_110, mxu_111, mxu_112, mxu_113, mxu_114, mxu_115, mxu_116, mxu_117, mxu_118, mxu_119, mxu_120, mxu_121, mxu_122, mxu_123, mxu_124, mxu_125, mxu_126, mxu_127, mxu_128, mxu_129, mxu_130, mxu_131, mxu_132, mxu_133, mxu_134, mxu_137, mxu_138, mxu_142, mxu_147, keyB_mx, sgnB_mx, st4_mx, tkF_mx, wrg_mx, keyT_mx, numF_mx, nnF107_mx, nnF112_mx, nnF116_mx, nnF120_mx, nnF124_mx, laneN_mx, laneF_mx, manN_mx, manF_mx, holdN_mx, holdF_mx, judgN_mx, judgF_mx, plnL_mx, planN_mx, planF_mx, loadF_mx, seedF_mx, ctdF_mx, nmtV_mx, drpV_mx, drpF_mx, wtsF_mx, grwF_mx, bnd1_mx, bndR_mx, bndF_mx, sgK_mx, leafF_mx]
theorem sgnF_mx  : sgnF (mx x φ) = mxP x (sgnF φ) := by
  unfold sgnF
  simp only [mxP_mk, mxP_ite, mx_ite, mxr_104, mxr_105, mxr_106, mxr_107, mxr_108, mxr_109, mxr_110, mxr_111, mxr_112, mxr_113, mxr_114, mxr_115, mxr_116, mxr_117, mxr_118, mxr_119, mxr_120, mxr_121, mxr_122, mxr_123, mxr_124, mxr_125, mxr_126, mxr_127, mxr_128, mxr_129, mxr_130, mxr_131, mxr_132, mxr_133, mxr_134, mxr_137, mxr_138, mxr_142, mxr_147, mxu_104, mxu_105, mxu_106, mxu_107, mxu_108, mxu_109, mxu_110, mxu_111, mxu_112, mxu_113, mxu_114, mxu_115, mxu_116, mxu_117, mxu_118, mxu_119, mxu_120, mxu_121, mxu_122, mxu_123, mxu_124, mxu_125, mxu_126, mxu_127, mxu_128, mxu_129, mxu_130, mxu_131, mxu_132, mxu_133, mxu_134, mxu_137, mxu_138, mxu_142, mxu_147, keyB_mx, sgnB_mx, st4_mx, tkF_mx, wrg_mx, keyT_mx, numF_mx, nnF107_mx, nnF112_mx, nnF116_mx, nnF120_mx, nnF124_mx, laneN_mx, laneF_mx, manN_mx, manF_mx, holdN_mx, holdF_mx, judgN_mx, judgF_mx, plnL_mx, planN_mx, planF_mx, loadF_mx, seedF_mx, ctdF_mx, nmtV_mx, drpV_mx, drpF_mx, wtsF_mx, grwF_mx, bnd1_mx, bndR_mx, bndF_mx, sgK_mx, leafF_mx, sgnK_mx]
theorem mu_mx  : mu (mx x φ) = mu φ := by
  unfold mu
  simp only [mxP_mk, mxP_ite, mx_ite, mxr_104, mxr_105, mxr_106, mxr_107, mxr_108, mxr_109, mxr_110, mxr_111, mxr_112, mxr_113, mxr_114, mxr_115, mxr_116, mxr_117, mxr_118, mxr_119, mxr_120, mxr_121, mxr_122, mxr_123, mxr_124, mxr_125, mxr_126, mxr_127, mxr_128, mxr_129, mxr_130, mxr_131, mxr_132, mxr_133, mxr_134, mxr_137, mxr_138, mxr_142, mxr_147, mxu_104, mxu_105, mxu_106, mxu_107, mxu_108, mxu_109, mxu_110, mxu_111, mxu_112, mxu_113, mxu_114, mxu_115, mxu_116, mxu_117, mxu_118, mxu_119, mxu_120, mxu_121, mxu_122, mxu_123, mxu_124, mxu_125, mxu_126, mxu_127, mxu_128, mxu_129, mxu_130, mxu_131, mxu_132, mxu_133, mxu_134, mxu_137, mxu_138, mxu_142, mxu_147, keyB_mx, sgnB_mx, st4_mx, tkF_mx, wrg_mx, keyT_mx, numF_mx, nnF107_mx, nnF112_mx, nnF116_mx, nnF120_mx, nnF124_mx, laneN_mx, laneF_mx, manN_mx, manF_mx, holdN_mx, holdF_mx, judgN_mx, judgF_mx, plnL_mx, planN_mx, planF_mx, loadF_mx, seedF_mx, ctdF_mx, nmtV_mx, drpV_mx, drpF_mx, wtsF_mx, grwF_mx, bnd1_mx, bndR_mx, bndF_mx, sgK_mx, leafF_mx, sgnK_mx, sgnF_mx]
theorem sumI_mx  : sumI (mx x φ) = mx x (sumI φ) := by
  unfold sumI
  simp only [mxP_mk, mxP_ite, mx_ite, mxr_104, mxr_105, mxr_106, mxr_107, mxr_108, mxr_109, mxr_110, mxr_111, mxr_112, mxr_113, mxr_114, mxr_115, mxr_116, mxr_117, mxr_118, mxr_119, mxr_120, mxr_121, mxr_122, mxr_123, mxr_124, mxr_125, mxr_126, mxr_127, mxr_128, mxr_129, mxr_130, mxr_131, mxr_132, mxr_133, mxr_134, mxr_137, mxr_138, mxr_142, mxr_147, mxu_104, mxu_105, mxu_106, mxu_107, mxu_108, mxu_109, mxu_110, mxu_111, mxu_112, mxu_113, mxu_114, mxu_115, mxu_116, mxu_117, mxu_118, mxu_119, mxu_120, mxu_121, mxu_122, mxu_123, mxu_124, mxu_125, mxu_126, mxu_127, mxu_128, mxu_129, mxu_130, mxu_131, mxu_132, mxu_133, mxu_134, mxu_137, mxu_138, mxu_142, mxu_147, keyB_mx, sgnB_mx, st4_mx, tkF_mx, wrg_mx, keyT_mx, numF_mx, nnF107_mx, nnF112_mx, nnF116_mx, nnF120_mx, nnF124_mx, laneN_mx, laneF_mx, manN_mx, manF_mx, holdN_mx, holdF_mx, judgN_mx, judgF_mx, plnL_mx, planN_mx, planF_mx, loadF_mx, seedF_mx, ctdF_mx, nmtV_mx, drpV_mx, drpF_mx, wtsF_mx, grwF_mx, bnd1_mx, bndR_mx, bndF_mx, sgK_mx, leafF_mx, sgnK_mx, sgnF_mx, mu_mx]
theorem sumR_mx : ∀ (n : Nat) (φ : IT), sumR n (mx x φ) = mxP x (sumR n φ)
  | 0, φ => rfl
  | n + 1, φ => by
    rw [sumR, sumR]
    simp only [mxr_104, sgnB_mx, bndF_mx, mxP_ite, mxP_mk]
    by_cases c : sgnB 59 φ = true ∧ φ 104 62 = 0 ∧ φ 104 60 ≤ 0
    · rw [if_pos c, if_pos c]
    · rw [if_neg c, if_neg c]
      refine thn_mx ?_ fun f1 => sumR_mx n f1
      simp only [leafF_mx, sgnF_mx, mxP_ite]
theorem sumF_mx  : sumF (mx x φ) = mxP x (sumF φ) := by
  unfold sumF
  simp only [mxP_mk, mxP_ite, mx_ite, mxr_104, mxr_105, mxr_106, mxr_107, mxr_108, mxr_109, mxr_110, mxr_111, mxr_112, mxr_113, mxr_114, mxr_115, mxr_116, mxr_117, mxr_118, mxr_119, mxr_120, mxr_121, mxr_122, mxr_123, mxr_124, mxr_125, mxr_126, mxr_127, mxr_128, mxr_129, mxr_130, mxr_131, mxr_132, mxr_133, mxr_134, mxr_137, mxr_138, mxr_142, mxr_147, mxu_104, mxu_105, mxu_106, mxu_107, mxu_108, mxu_109, mxu_110, mxu_111, mxu_112, mxu_113, mxu_114, mxu_115, mxu_116, mxu_117, mxu_118, mxu_119, mxu_120, mxu_121, mxu_122, mxu_123, mxu_124, mxu_125, mxu_126, mxu_127, mxu_128, mxu_129, mxu_130, mxu_131, mxu_132, mxu_133, mxu_134, mxu_137, mxu_138, mxu_142, mxu_147, keyB_mx, sgnB_mx, st4_mx, tkF_mx, wrg_mx, keyT_mx, numF_mx, nnF107_mx, nnF112_mx, nnF116_mx, nnF120_mx, nnF124_mx, laneN_mx, laneF_mx, manN_mx, manF_mx, holdN_mx, holdF_mx, judgN_mx, judgF_mx, plnL_mx, planN_mx, planF_mx, loadF_mx, seedF_mx, ctdF_mx, nmtV_mx, drpV_mx, drpF_mx, wtsF_mx, grwF_mx, bnd1_mx, bndR_mx, bndF_mx, sgK_mx, leafF_mx, sgnK_mx, sgnF_mx, mu_mx, sumI_mx, sumR_mx]
theorem lawK_mx {k : Nat} : lawK k (mx x φ) = mxP x (lawK k φ) := by
  unfold lawK
  refine thn_mx (by simp only [mxP_mk, mxP_ite, mx_ite, mxr_104, mxr_105, mxr_106, mxr_107, mxr_108, mxr_109, mxr_110, mxr_111, mxr_112, mxr_113, mxr_114, mxr_115, mxr_116, mxr_117, mxr_118, mxr_119, mxr_120, mxr_121, mxr_122, mxr_123, mxr_124, mxr_125, mxr_126, mxr_127, mxr_128, mxr_129, mxr_130, mxr_131, mxr_132, mxr_133, mxr_134, mxr_137, mxr_138, mxr_142, mxr_147, mxu_104, mxu_105, mxu_106, mxu_107, mxu_108, mxu_109, mxu_110, mxu_111, mxu_112, mxu_113, mxu_114, mxu_115, mxu_116, mxu_117, mxu_118, mxu_119, mxu_120, mxu_121, mxu_122, mxu_123, mxu_124, mxu_125, mxu_126, mxu_127, mxu_128, mxu_129, mxu_130, mxu_131, mxu_132, mxu_133, mxu_134, mxu_137, mxu_138, mxu_142, mxu_147, keyB_mx, sgnB_mx, st4_mx, tkF_mx, wrg_mx, keyT_mx, numF_mx, nnF107_mx, nnF112_mx, nnF116_mx, nnF120_mx, nnF124_mx, laneN_mx, laneF_mx, manN_mx, manF_mx, holdN_mx, holdF_mx, judgN_mx, judgF_mx, plnL_mx, planN_mx, planF_mx, loadF_mx, seedF_mx, ctdF_mx, nmtV_mx, drpV_mx, drpF_mx, wtsF_mx, grwF_mx, bnd1_mx, bndR_mx, bndF_mx, sgK_mx, leafF_mx, sgnK_mx, sgnF_mx, mu_mx, sumI_mx, sumR_mx, sumF_mx]) fun f1 => ?_
  simp only [mxP_mk, mxP_ite, mx_ite, mxr_104, mxr_105, mxr_106, mxr_107, mxr_108, mxr_109, mxr_110, mxr_111, mxr_112, mxr_113, mxr_114, mxr_115, mxr_116, mxr_117, mxr_118, mxr_119, mxr_120, mxr_121, mxr_122, mxr_123, mxr_124, mxr_125, mxr_126, mxr_127, mxr_128, mxr_129, mxr_130, mxr_131, mxr_132, mxr_133, mxr_134, mxr_137, mxr_138, mxr_142, mxr_147, mxu_104, mxu_105, mxu_106, mxu_107, mxu_108, mxu_109, mxu_110, mxu_111, mxu_112, mxu_113, mxu_114, mxu_115, mxu_116, mxu_117, mxu_118, mxu_119, mxu_120, mxu_121, mxu_122, mxu_123, mxu_124, mxu_125, mxu_126, mxu_127, mxu_128, mxu_129, mxu_130, mxu_131, mxu_132, mxu_133, mxu_134, mxu_137, mxu_138, mxu_142, mxu_147, keyB_mx, sgnB_mx, st4_mx, tkF_mx, wrg_mx, keyT_mx, numF_mx, nnF107_mx, nnF112_mx, nnF116_mx, nnF120_mx, nnF124_mx, laneN_mx, laneF_mx, manN_mx, manF_mx, holdN_mx, holdF_mx, judgN_mx, judgF_mx, plnL_mx, planN_mx, planF_mx, loadF_mx, seedF_mx, ctdF_mx, nmtV_mx, drpV_mx, drpF_mx, wtsF_mx, grwF_mx, bnd1_mx, bndR_mx, bndF_mx, sgK_mx, leafF_mx, sgnK_mx, sgnF_mx, mu_mx, sumI_mx, sumR_mx, sumF_mx]
theorem lawF_mx  : lawF (mx x φ) = mxP x (lawF φ) := by
  unfold lawF
  simp only [mxP_mk, mxP_ite, mx_ite, mxr_104, mxr_105, mxr_106, mxr_107, mxr_108, mxr_109, mxr_110, mxr_111, mxr_112, mxr_113, mxr_114, mxr_115, mxr_116, mxr_117, mxr_118, mxr_119, mxr_120, mxr_121, mxr_122, mxr_123, mxr_124, mxr_125, mxr_126, mxr_127, mxr_128, mxr_129, mxr_130, mxr_131, mxr_132, mxr_133, mxr_134, mxr_137, mxr_138, mxr_142, mxr_147, mxu_104, mxu_105, mxu_106, mxu_107, mxu_108, mxu_109, mxu_110, mxu_111, mxu_112, mxu_113, mxu_114, mxu_115, mxu_116, mxu_117, mxu_118, mxu_119, mxu_120, mxu_121, mxu_122, mxu_123, mxu_124, mxu_125, mxu_126, mxu_127, mxu_128, mxu_129, mxu_130, mxu_131, mxu_132, mxu_133, mxu_134, mxu_137, mxu_138, mxu_142, mxu_147, keyB_mx, sgnB_mx, st4_mx, tkF_mx, wrg_mx, keyT_mx, numF_mx, nnF107_mx, nnF112_mx, nnF116_mx, nnF120_mx, nnF124_mx, laneN_mx, laneF_mx, manN_mx, manF_mx, holdN_mx, holdF_mx, judgN_mx, judgF_mx, plnL_mx, planN_mx, planF_mx, loadF_mx, seedF_mx, ctdF_mx, nmtV_mx, drpV_mx, drpF_mx, wtsF_mx, grwF_mx, bnd1_mx, bndR_mx, bndF_mx, sgK_mx, leafF_mx, sgnK_mx, sgnF_mx, mu_mx, sumI_mx, sumR_mx, sumF_mx, lawK_mx]
theorem ln0_mx  : ln0 (mx x φ) = mxP x (ln0 φ) := by
  unfold ln0
  simp only [mxP_mk, mxP_ite, mx_ite, mxr_104, mxr_105, mxr_106, mxr_107, mxr_108, mxr_109, mxr_110, mxr_111, mxr_112, mxr_113, mxr_114, mxr_115, mxr_116, mxr_117, mxr_118, mxr_119, mxr_120, mxr_121, mxr_122, mxr_123, mxr_124, mxr_125, mxr_126, mxr_127, mxr_128, mxr_129, mxr_130, mxr_131, mxr_132, mxr_133, mxr_134, mxr_137, mxr_138, mxr_142, mxr_147, mxu_104, mxu_105, mxu_106, mxu_107, mxu_108, mxu_109, mxu_110, mxu_111, mxu_112, mxu_113, mxu_114, mxu_115, mxu_116, mxu_117, mxu_118, mxu_119, mxu_120, mxu_121, mxu_122, mxu_123, mxu_124, mxu_125, mxu_126, mxu_127, mxu_128, mxu_129, mxu_130, mxu_131, mxu_132, mxu_133, mxu_134, mxu_137, mxu_138, mxu_142, mxu_147, keyB_mx, sgnB_mx, st4_mx, tkF_mx, wrg_mx, keyT_mx, numF_mx, nnF107_mx, nnF112_mx, nnF116_mx, nnF120_mx, nnF124_mx, laneN_mx, laneF_mx, manN_mx, manF_mx, holdN_mx, holdF_mx, judgN_mx, judgF_mx, plnL_mx, planN_mx, planF_mx, loadF_mx, seedF_mx, ctdF_mx, nmtV_mx, drpV_mx, drpF_mx, wtsF_mx, grwF_mx, bnd1_mx, bndR_mx, bndF_mx, sgK_mx, leafF_mx, sgnK_mx, sgnF_mx, mu_mx, sumI_mx, sumR_mx, sumF_mx, lawK_mx, lawF_mx]
theorem lnE_mx  : lnE (mx x φ) = mxP x (lnE φ) := by
  unfold lnE
  simp only [mxP_mk, mxP_ite, mx_ite, mxr_104, mxr_105, mxr_106, mxr_107, mxr_108, mxr_109, mxr_110, mxr_111, mxr_112, mxr_113, mxr_114, mxr_115, mxr_116, mxr_117, mxr_118, mxr_119, mxr_120, mxr_121, mxr_122, mxr_123, mxr_124, mxr_125, mxr_126, mxr_127, mxr_128, mxr_129, mxr_130, mxr_131, mxr_132, mxr_133, mxr_134, mxr_137, mxr_138, mxr_142, mxr_147, mxu_104, mxu_105, mxu_106, mxu_107, mxu_108, mxu_109, mxu_110, mxu_111, mxu_112, mxu_113, mxu_114, mxu_115, mxu_116, mxu_117, mxu_118, mxu_119, mxu_120, mxu_121, mxu_122, mxu_123, mxu_124, mxu_125, mxu_126, mxu_127, mxu_128, mxu_129, mxu_130, mxu_131, mxu_132, mxu_133, mxu_134, mxu_137, mxu_138, mxu_142, mxu_147, keyB_mx, sgnB_mx, st4_mx, tkF_mx, wrg_mx, keyT_mx, numF_mx, nnF107_mx, nnF112_mx, nnF116_mx, nnF120_mx, nnF124_mx, laneN_mx, laneF_mx, manN_mx, manF_mx, holdN_mx, holdF_mx, judgN_mx, judgF_mx, plnL_mx, planN_mx, planF_mx, loadF_mx, seedF_mx, ctdF_mx, nmtV_mx, drpV_mx, drpF_mx, wtsF_mx, grwF_mx, bnd1_mx, bndR_mx, bndF_mx, sgK_mx, leafF_mx, sgnK_mx, sgnF_mx, mu_mx, sumI_mx, sumR_mx, sumF_mx, lawK_mx, lawF_mx, ln0_mx]
theorem lnF_mx : lnF (mx x φ) = mxP x (lnF φ) := by
  unfold lnF
  simp only [mxr_104, mxP_ite, mxP_mk, wrg_mx, ln0_mx]
  by_cases c : φ 104 8 ≠ 1 ∨ 7 < φ 104 9
  · rw [if_pos c, if_pos c]
  · rw [if_neg c, if_neg c]
    exact thn_mx rfl fun f1 => lnE_mx
theorem lnsR_mx : ∀ (n l : Nat) (φ : IT), lnsR n l (mx x φ) = ((lnsR n l φ).1, mx x (lnsR n l φ).2)
  | 0, l, φ => rfl
  | n + 1, l, φ => by
    rw [lnsR, lnsR]
    simp only [mxr_104, lnF_mx]
    by_cases c : φ 104 8 = 0
    · rw [if_pos c, if_pos c]
    · rw [if_neg c, if_neg c]
      show (if (lnF φ).1 = true then lnsR n (l + 1) (mx x (lnF φ).2) else (none, mx x (lnF φ).2)) = _
      by_cases d : (lnF φ).1 = true
      · rw [if_pos d, if_pos d]; exact lnsR_mx n (l + 1) _
      · rw [if_neg d, if_neg d]
theorem clL_mx {i : Nat} : clL (mx x φ) i = mx x (clL φ i) := by
  funext a k
  by_cases z : 104 ≤ a ∧ a ≤ 147
  · rw [mx_r z]
    unfold clL
    rw [mx_r z]
  · rw [mx_n z]
    unfold clL
    rw [if_neg (by omega), mx_n z]
theorem plnF_mx : plnF (mx x φ) = mx x (plnF φ) := by
  unfold plnF
  simp only [mxu_104, clL_mx]
theorem tx0_mx {n : Int} : tx0 n (mx x φ) = mx x (tx0 n φ) := by
  unfold tx0
  simp only [mxu_104, plnF_mx, tkF_mx]
theorem txR_mx {n : Int} : txR n (mx x φ) = ((txR n φ).1, mx x (txR n φ).2) := by
  unfold txR
  rw [tx0_mx, mu_mx, lnsR_mx]
theorem kp8_mx : kp8 (mx x φ) = mx x (kp8 φ) := by
  unfold kp8
  simp only [mxr_104, mxu_104]
theorem kpN_mx : kpN (mx x φ) 26 = mx x (kpN φ 26) := by
  funext a k
  by_cases z : 104 ≤ a ∧ a ≤ 147
  · rw [mx_r z]
    unfold kpN
    rw [mx_r z]
  · rw [mx_n z]
    unfold kpN
    rw [if_neg (by omega), mx_n z]
theorem kpF_mx : kpF (mx x φ) = mx x (kpF φ) := by
  unfold kpF
  simp only [mxr_104, mxu_104, kp8_mx, kpN_mx]
theorem txO_mx {n : Int} : txO n (mx x φ) = txO n φ := by
  unfold txO
  simp only [mxr_104]
theorem txA_mx {n : Int} : txA n (mx x φ) = txA n φ := by
  unfold txA
  rw [txO_mx, txR_mx]
theorem txF_mx {n : Int} : txF n (mx x φ) = mx x (txF n φ) := by
  unfold txF
  rw [txO_mx, txR_mx]
  by_cases c : txO n φ = true
  · rw [if_pos c, if_pos c]
    cases (txR n φ).1 with
    | none => rfl
    | some l => exact kpF_mx
  · rw [if_neg c, if_neg c]
    exact mxu_104
theorem txG_mx {n : Int} {y γ : JT} : txG n (mx x φ) (mx y γ) = mx y (txG n φ γ) := by
  unfold txG
  rw [txO_mx, txR_mx]
  by_cases c : txO n φ = true
  · rw [if_pos c, if_pos c]
    cases (txR n φ).1 with
    | none => rfl
    | some l =>
      show kpG (mx x (txR n φ).2) (mx y γ) = mx y (kpG (txR n φ).2 γ)
      unfold kpG
      simp only [mxr_104, mxu_104]
  · rw [if_neg c, if_neg c]
/-! the other calls -/
theorem fdR_mx {a b c d e : Int} {s i : Nat} : fdR a b c d e s i 105 (mx x φ) = mx x (fdR a b c d e s i 105 φ) := by
  funext q k
  by_cases z : 104 ≤ q ∧ q ≤ 147
  · rw [mx_r z]
    unfold fdR
    rw [mx_r z]
  · rw [mx_n z]
    unfold fdR
    rw [if_neg (by omega), mx_n z]
theorem fdA_mx : fdA (mx x φ) = fdA φ := by unfold fdA; simp only [mxr_104]
theorem fdF_mx {a b c d e : Int} : fdF a b c d e (mx x φ) = mx x (fdF a b c d e φ) := by
  unfold fdF
  simp only [mxr_104, mxu_104, fdR_mx, mx_ite]
theorem cpR_mx {a b o i : Nat} (ha : 104 ≤ a ∧ a ≤ 147) (hb : 104 ≤ b ∧ b ≤ 147) : cpR (mx x φ) a b o i = mx x (cpR φ a b o i) := by
  funext q k
  by_cases z : 104 ≤ q ∧ q ≤ 147
  · rw [mx_r z]
    unfold cpR
    rw [mx_r z, mx_r hb]
  · rw [mx_n z]
    unfold cpR
    rw [if_neg (by omega), mx_n z]
theorem shU_mx {i : Nat} : shU (mx x φ) i = mx x (shU φ i) := by
  funext q k
  by_cases z : 104 ≤ q ∧ q ≤ 147
  · rw [mx_r z]
    unfold shU
    rw [mx_r z, mxr_138]
  · rw [mx_n z]
    unfold shU
    rw [if_neg (by omega), mx_n z]
theorem cpU_mx {u i : Nat} : cpU (mx x φ) u i = mx x (cpU φ u i) := by
  funext q k
  by_cases z : 104 ≤ q ∧ q ≤ 147
  · rw [mx_r z]
    unfold cpU
    rw [mx_r z, mxr_137]
  · rw [mx_n z]
    unfold cpU
    rw [if_neg (by omega), mx_n z]
theorem cpR_mx1 {o i : Nat} : cpR (mx x φ) 137 138 o i = mx x (cpR φ 137 138 o i) := cpR_mx (by omega) (by omega)
theorem cpR_mx2 {o i : Nat} : cpR (mx x φ) 147 137 o i = mx x (cpR φ 147 137 o i) := cpR_mx (by omega) (by omega)
theorem cpR_mx3 {o i : Nat} : cpR (mx x φ) 137 147 o i = mx x (cpR φ 137 147 o i) := cpR_mx (by omega) (by omega)
theorem raceF_mx {m p : Int} : raceF T m p (mx x φ) = mx x (raceF T m p φ) := by unfold raceF; simp only [mxu_104, mxu_137, mx_ite]
theorem going_mx : going T (mx x φ) = going T φ := by unfold going; simp only [mxr_104, mxr_137]
theorem rpF_mx : rpF T (mx x φ) = rpF T φ := by unfold rpF; simp only [mxr_104, mxr_137]
theorem raF_mx : raF (mx x φ) = raF φ := by unfold raF; simp only [mxr_104]
theorem remF_mx {d : Int} : remF d (mx x φ) = mx x (remF d φ) := by unfold remF; simp only [mxr_104, mxu_104, mxu_138, shU_mx, cpU_mx, mx_ite]
theorem xsF_mx {y γ : JT} : xsF T (mx x φ) (mx y γ) = xsF T φ γ := by unfold xsF; simp only [mxr_104, mxr_137, raF_mx, rpF_mx]
theorem stF_mx {y γ : JT} : stF T (mx x φ) (mx y γ) = mx x (stF T φ γ) := by unfold stF; simp only [mxr_104, mxr_137, mxu_137, raF_mx, remF_mx, xsF_mx]; split <;> simp only [mxu_137]
theorem stG_mx {y γ : JT} : stG (mx y γ) = mx y (stG γ) := by unfold stG; simp only [mxr_104, mxu_104]
theorem goN_mx {y : JT} : ∀ (n : Nat) (φ : IT) (γ : JT), goN T n (mx x φ) (mx y γ) = ((goN T n φ γ).1, mx x (goN T n φ γ).2.1, mx y (goN T n φ γ).2.2)
  | 0, φ, γ => rfl
  | n + 1, φ, γ => by
    rw [goN, goN]
    simp only [going_mx, stF_mx, stG_mx]
    rw [goN_mx n]
    split <;> rfl
theorem goA_mx {n : Int} {y γ : JT} : goA T n (mx x φ) (mx y γ) = goA T n φ γ := by unfold goA; simp only [mxr_104, goN_mx]
theorem goF_mx {n : Int} {y γ : JT} : goF T n (mx x φ) (mx y γ) = mx x (goF T n φ γ) := by unfold goF; simp only [mxr_104, goN_mx, mx_ite]
theorem goG_mx {n : Int} {y γ : JT} : goG T n (mx x φ) (mx y γ) = mx y (goG T n φ γ) := by unfold goG; simp only [mxr_104, goN_mx, mx_ite]
theorem aNow_mx {w : Int} : aNow T w (mx x φ) = aNow T w φ := by unfold aNow; simp only [mxr_104, mxr_137, going_mx, rpF_mx]
theorem pcdO_mx {n : Int} : pcdO T n (mx x φ) = pcdO T n φ := by unfold pcdO; simp only [going_mx]
theorem pcdF_mx {n : Int} : pcdF T n (mx x φ) = mx x (pcdF T n φ) := by unfold pcdF; simp only [pcdO_mx, mxu_137, mx_ite]
theorem shfO_mx {h : Int} : shfO T h (mx x φ) = shfO T h φ := by unfold shfO; simp only [going_mx, mxr_137]
theorem shfF_mx {h : Int} : shfF T h (mx x φ) = mx x (shfF T h φ) := by unfold shfF; simp only [shfO_mx, mxr_137, mxu_137, mx_ite]
theorem undF_mx : undF (mx x φ) = mx x (undF φ) := by unfold undF; simp only [mxr_104, mxu_104, cpR_mx1, mx_ite]
theorem undG_mx {y γ : JT} : undG (mx x φ) (mx y γ) = mx y (undG φ γ) := by unfold undG; simp only [mxr_104, mxr_138, mxu_104, mx_ite]
theorem sackF_mx {n : Int} : sackF n (mx x φ) = mx x (sackF n φ) := by unfold sackF; simp only [mxu_104, mx_ite]
theorem keepF_mx : keepF (mx x φ) = mx x (keepF φ) := by unfold keepF; simp only [mxr_104, mxu_104, cpR_mx2]
theorem keepG_mx {y γ : JT} : keepG (mx y γ) = mx y (keepG γ) := by unfold keepG; simp only [mxr_104, mxu_104]
theorem backF_mx : backF (mx x φ) = mx x (backF φ) := by unfold backF; simp only [mxr_104, mxu_104, cpR_mx3, mx_ite]
theorem backG_mx {y γ : JT} : backG (mx x φ) (mx y γ) = mx y (backG φ γ) := by unfold backG; simp only [mxr_104, mxu_104, mx_ite]
theorem backA_mx : backA (mx x φ) = backA φ := by unfold backA; simp only [mxr_104, mxr_147]
theorem aCount_mx {w : Int} : aCount T w (mx x φ) = aCount T w φ := by unfold aCount; simp only [mxr_104]
theorem ntdF_mx {m p k v : Int} : ntdF m p k v (mx x φ) = mx x (ntdF m p k v φ) := by unfold ntdF; simp only [mxr_104, mxu_104, mxu_142]
theorem notO_mx {m p k v : Int} : notO T m p k v (mx x φ) = notO T m p k v φ := by unfold notO; simp only [mxr_104]
theorem notA_mx {m p k v : Int} : notA T m p k v (mx x φ) = notA T m p k v φ := by unfold notA; simp only [mxr_104, notO_mx]
theorem notF_mx {m p k v : Int} : notF T m p k v (mx x φ) = mx x (notF T m p k v φ) := by unfold notF; simp only [notO_mx, ntdF_mx, mx_ite]
theorem strO_mx {n : Int} : strO n (mx x φ) = strO n φ := by unfold strO; simp only [mxr_104]
theorem strA_mx {n : Int} : strA n (mx x φ) = strA n φ := by unfold strA; simp only [mxr_104, strO_mx]
theorem strF_mx {n : Int} : strF n (mx x φ) = mx x (strF n φ) := by unfold strF; simp only [strO_mx, ntdF_mx, mx_ite]
theorem knoF_mx {n : Int} : knoF n (mx x φ) = mx x (knoF n φ) := by unfold knoF; simp only [mxr_104, mxu_104, mx_ite]
theorem kB_mx : kB (mx x φ) = kB φ := by unfold kB; simp only [mxr_104]
theorem aFits_mx {ra : Bool} {sk m w : Int} : aFits T ra sk m w (mx x φ) = aFits T ra sk m w φ := by unfold aFits; simp only [mxr_142, kB_mx]
end MIX

