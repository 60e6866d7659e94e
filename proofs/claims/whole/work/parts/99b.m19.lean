/-! the reference: shapes -/
section M19
variable {l : Launch} {E : AbE} {m : Nat} {A : Nat → Nat} {s0 : Nat → Int} {F0 : Nat → Int → Int} {h0 : AbH}
theorem m_stands_123 {q : Int} (q0 : 0 ≤ q) (q1 : q < 12) (n1 : 1 ≤ F0 11 q) (n6 : F0 11 q ≤ 6) (le : ∀ i : Int, 0 ≤ i → i < F0 11 q → 0 ≤ F0 12 (80 * q + i) ∧ F0 12 (80 * q + i) ≤ 2) {k n : Int} (eN : n = zL (nU (shL F0 q))) (n0 : 0 ≤ n) (n7 : n ≤ 7) {a : Int} (hG : ab_G l E) (a0 : 0 ≤ a) (a1 : a < n) (hC : ∀ (x5 : Option AbV) (h : AbH) (s : Nat → Int) (F : Nat → Int → Int), mW h0 m A s0 F0 [] [14, 15, 47] h s F → (∀ j : Int, 0 ≤ j → j < n → F 47 j = zim j) → (∀ a' u : Int, 0 ≤ a' → a' < a + 1 → a' < u → u ≤ n → ¬ Comes (F0 12) (80 * q) (F0 11 q) zim a' u) → ab_T l E Y_X10_stands 2 0 0 111 [some (vR m), some (vI q), some (vI k), some (vI n), some (vI (a + 1)), x5] [] h (mC h0 m A s0 F0 [] [14, 15, 47] (fun r s' F' => (r = some (vI 1) ∧ StZ (F0 12) (80 * q) (F0 11 q) (zL (nU (shL F0 q)))) ∨ (r = some (vI 0) ∧ ¬ StZ (F0 12) (80 * q) (F0 11 q) (zL (nU (shL F0 q))))))) (fu : Nat) : ∀ (u : Int) (h : AbH) (s : Nat → Int) (F : Nat → Int → Int), mW h0 m A s0 F0 [] [14, 15, 47] h s F → (n + 1 - u).toNat < fu → (a < u) → (u ≤ n + 1) → (∀ j : Int, 0 ≤ j → j < n → F 47 j = zim j) → (∀ a' u : Int, 0 ≤ a' → a' < a → a' < u → u ≤ n → ¬ Comes (F0 12) (80 * q) (F0 11 q) zim a' u) → (∀ u' : Int, a < u' → u' < u → ¬ Comes (F0 12) (80 * q) (F0 11 q) zim a u') → ab_T l E Y_X10_stands 2 0 0 123 [some (vR m), some (vI q), some (vI k), some (vI n), some (vI a), some (vI u)] [] h (mC h0 m A s0 F0 [] [14, 15, 47] (fun r s' F' => (r = some (vI 1) ∧ StZ (F0 12) (80 * q) (F0 11 q) (zL (nU (shL F0 q)))) ∨ (r = some (vI 0) ∧ ¬ StZ (F0 12) (80 * q) (F0 11 q) (zL (nU (shL F0 q)))))) := by
  induction fu with
  | zero => intro u h s F hW hm; exact absurd hm (Nat.not_lt_zero _)
  | succ fu ih =>
    intro u h s F hW hm u0 u1 Z I J
    have hW0 := hW
    refine ab_iload (pc := 123) dX10_stands_123 rfl ?_
    refine ab_iload_n (pc := 125) dX10_stands_125 rfl ?_
    refine ab_icmp_gt (pc := 126) 166 dX10_stands_126 (by decide) (fun c126 => ?_) (fun c126 => ?_)
    · refine ab_iinc (pc := 166) dX10_stands_166 rfl rfl (by decide) (by omega) (by omega) ?_
      refine ab_goto (pc := 169) 111 dX10_stands_169 (by decide) ?_
      exact hC _ _ _ _ hW Z (fun a' u' b0 b1 b2 b3 => by by_cases e : a' = a; (rw [e]; exact J u' (by omega) (by omega)); exact I a' u' b0 (by omega) b2 b3)
    · refine ab_aload_n (pc := 129) dX10_stands_129 rfl ?_
      refine ab_aload_n (pc := 130) dX10_stands_130 rfl ?_
      refine ab_get (pc := 131) (k := 12) (x := vR (A 12)) okX10 hW.obj rfl w1067 rfl dX10_stands_131 ?_
      refine ab_bipush (pc := 134) dX10_stands_134 (by decide) ?_
      refine ab_iload_n (pc := 136) dX10_stands_136 rfl ?_
      refine ab_imul (pc := 137) dX10_stands_137 (by omega) (by omega) ?_
      refine ab_aload_n (pc := 138) dX10_stands_138 rfl ?_
      refine ab_get (pc := 139) (k := 11) (x := vR (A 11)) okX10 hW.obj rfl w1066 rfl dX10_stands_139 ?_
      refine ab_iload_n (pc := 142) dX10_stands_142 rfl ?_
      refine ab_iald (pc := 143) (n := 12) (f := F0 11) (hW.arr 11 rfl (hW.Fv 11 (by decide))) (by omega) (by omega) dX10_stands_143 ?_
      refine ab_aload_n (pc := 144) dX10_stands_144 rfl ?_
      refine ab_get (pc := 145) (k := 47) (x := vR (A 47)) okX10 hW.obj rfl w1102 rfl dX10_stands_145 ?_
      refine ab_iload (pc := 148) dX10_stands_148 rfl ?_
      refine ab_iload (pc := 150) dX10_stands_150 rfl ?_
      refine ab_callV (pc := 152) (m_comesOf hG hW.1 (K := 47) (Or.inr (Or.inr (Or.inr rfl))) (by omega) (by omega) (by omega) (by omega) a0 (by omega) (by show u ≤ (8 : Int); omega) (fun k k0 k1 => by rw [hW.Fv 12 (by decide)]; exact le k k0 k1)) hW.obj rfl ⟨w1293, w5, w1296, by decide, pd76⟩ w1295 sp34 rfl (by decide) (by decide) (Nat.le_of_ble_eq_true rfl) rfl dX10_stands_152 (fun _ _ hx => absurd hx mC_no) ?_
      rintro _ h ⟨_, s1, F1, e9, hc1, hp1⟩
      cases e9
      replace hW := hW.call hc1 (by decide) (by decide)
      rw [hW0.Fv 12 (by decide)] at hp1
      rcases hp1 with ⟨rfl, ft⟩ | ⟨rfl, ft⟩
      · refine ab_if_eq (pc := 155) 160 dX10_stands_155 (by decide) (fun c155 => absurd c155 (by omega)) (fun c155 => ?_)
        refine ab_iconst (pc := 158) dX10_stands_158 (by decide) ?_
        refine ab_zret (pc := 159) dX10_stands_159 rfl (by omega) ?_
        exact ⟨_, _, _, rfl, hW, Or.inl ⟨rfl, a, u, a0, u0, by omega, Comes_congr (fun j j0 j1 => Z j (by omega) (by omega)) ft⟩⟩
      · refine ab_if_eq (pc := 155) 160 dX10_stands_155 (by decide) (fun c155 => ?_) (fun c155 => absurd c155 (by omega))
        refine ab_iinc (pc := 160) dX10_stands_160 rfl rfl (by decide) (by omega) (by omega) ?_
        refine ab_goto (pc := 163) 123 dX10_stands_163 (by decide) ?_
        exact ih (u + 1) _ _ _ hW (by omega) (by omega) (by omega) (fun j j0 j1 => by rw [(hc1.Fv 47 (by decide))]; exact Z j j0 j1) I (fun u' u0' u1' => by by_cases e : u' = u; (rw [e]; exact fun k => ft (Comes_congr (fun j j0 j1 => (Z j (by omega) (by omega)).symm) k)); exact J u' u0' (by omega))
theorem m_stands_111 {q : Int} (q0 : 0 ≤ q) (q1 : q < 12) (n1 : 1 ≤ F0 11 q) (n6 : F0 11 q ≤ 6) (le : ∀ i : Int, 0 ≤ i → i < F0 11 q → 0 ≤ F0 12 (80 * q + i) ∧ F0 12 (80 * q + i) ≤ 2) {k n : Int} (eN : n = zL (nU (shL F0 q))) (n0 : 0 ≤ n) (n7 : n ≤ 7) (hG : ab_G l E) (fu : Nat) : ∀ (a : Int) (x5 : Option AbV) (h : AbH) (s : Nat → Int) (F : Nat → Int → Int), mW h0 m A s0 F0 [] [14, 15, 47] h s F → (n - a).toNat < fu → (0 ≤ a) → (a ≤ n) → (∀ j : Int, 0 ≤ j → j < n → F 47 j = zim j) → (∀ a' u : Int, 0 ≤ a' → a' < a → a' < u → u ≤ n → ¬ Comes (F0 12) (80 * q) (F0 11 q) zim a' u) → ab_T l E Y_X10_stands 2 0 0 111 [some (vR m), some (vI q), some (vI k), some (vI n), some (vI a), x5] [] h (mC h0 m A s0 F0 [] [14, 15, 47] (fun r s' F' => (r = some (vI 1) ∧ StZ (F0 12) (80 * q) (F0 11 q) (zL (nU (shL F0 q)))) ∨ (r = some (vI 0) ∧ ¬ StZ (F0 12) (80 * q) (F0 11 q) (zL (nU (shL F0 q)))))) := by
  induction fu with
  | zero => intro a x5 h s F hW hm; exact absurd hm (Nat.not_lt_zero _)
  | succ fu ih =>
    intro a x5 h s F hW hm a0 a1 Z I
    refine ab_iload (pc := 111) dX10_stands_111 rfl ?_
    refine ab_iload_n (pc := 113) dX10_stands_113 rfl ?_
    refine ab_icmp_ge (pc := 114) 172 dX10_stands_114 (by decide) (fun c114 => ?_) (fun c114 => ?_)
    · refine ab_iconst (pc := 172) dX10_stands_172 (by decide) ?_
      refine ab_zret (pc := 173) dX10_stands_173 rfl (by omega) ?_
      exact ⟨_, _, _, rfl, hW, Or.inr ⟨rfl, fun ⟨a', u, b0, b1, b2, b3⟩ => I a' u b0 (by omega) b1 (by omega) b3⟩⟩
    · refine ab_iload (pc := 117) dX10_stands_117 rfl ?_
      refine ab_iconst (pc := 119) dX10_stands_119 (by decide) ?_
      refine ab_iadd (pc := 120) dX10_stands_120 (by omega) (by omega) ?_
      refine ab_istore (pc := 121) dX10_stands_121 rfl (Nat.le_of_ble_eq_true rfl) ?_
      exact m_stands_123 q0 q1 n1 n6 le eN n0 n7 hG a0 (by omega) (fun x5 h s F hW Z I => ih (a + 1) x5 h s F hW (by omega) (by omega) (by omega) Z I) _ (a + 1) _ _ _ hW (Nat.lt_succ_self _) (by omega) (by omega) Z I (fun u' b0 b1 => absurd b1 (by omega))
theorem m_stands_66 {q k n x : Int} (z9 : zn x n) (x2 : x ≤ 2) (hC : ∀ (x5 : Option AbV) (h : AbH) (s : Nat → Int) (F : Nat → Int → Int), mW h0 m A s0 F0 [] [14, 15, 47] h s F → (∀ j : Int, 0 ≤ j → j < 2 * n + 1 → F 47 j = zim j) → ab_T l E Y_X10_stands 2 0 0 49 [some (vR m), some (vI q), some (vI k), some (vI (2 * n + 1)), some (vI (x + 1)), x5] [] h (mC h0 m A s0 F0 [] [14, 15, 47] (fun r s' F' => (r = some (vI 1) ∧ StZ (F0 12) (80 * q) (F0 11 q) (zL (nU (shL F0 q)))) ∨ (r = some (vI 0) ∧ ¬ StZ (F0 12) (80 * q) (F0 11 q) (zL (nU (shL F0 q))))))) (fu : Nat) : ∀ (i : Int) (h : AbH) (s : Nat → Int) (F : Nat → Int → Int), mW h0 m A s0 F0 [] [14, 15, 47] h s F → (n - i).toNat < fu → (0 ≤ i) → (i ≤ n) → (∀ j : Int, 0 ≤ j → j < n + 1 + i → F 47 j = zim j) → ab_T l E Y_X10_stands 2 0 0 66 [some (vR m), some (vI q), some (vI k), some (vI n), some (vI x), some (vI i)] [] h (mC h0 m A s0 F0 [] [14, 15, 47] (fun r s' F' => (r = some (vI 1) ∧ StZ (F0 12) (80 * q) (F0 11 q) (zL (nU (shL F0 q)))) ∨ (r = some (vI 0) ∧ ¬ StZ (F0 12) (80 * q) (F0 11 q) (zL (nU (shL F0 q)))))) := by
  induction fu with
  | zero => intro i h s F hW hm; exact absurd hm (Nat.not_lt_zero _)
  | succ fu ih =>
    intro i h s F hW hm i0 i1 Z
    have zb := zn_b z9
    have n3 := zb.2.2 x2
    have Zi := Z i
    have x0 : 0 ≤ x := by unfold zn at z9; omega
    refine ab_iload (pc := 66) dX10_stands_66 rfl ?_
    refine ab_iload_n (pc := 68) dX10_stands_68 rfl ?_
    refine ab_icmp_ge (pc := 69) 96 dX10_stands_69 (by decide) (fun c69 => ?_) (fun c69 => ?_)
    · refine ab_iconst (pc := 96) dX10_stands_96 (by decide) ?_
      refine ab_iload_n (pc := 97) dX10_stands_97 rfl ?_
      refine ab_imul (pc := 98) dX10_stands_98 (by omega) (by omega) ?_
      refine ab_iconst (pc := 99) dX10_stands_99 (by decide) ?_
      refine ab_iadd (pc := 100) dX10_stands_100 (by omega) (by omega) ?_
      refine ab_istore_n (pc := 101) dX10_stands_101 rfl (Nat.le_of_ble_eq_true rfl) ?_
      refine ab_iinc (pc := 102) dX10_stands_102 rfl rfl (by decide) (by omega) (by omega) ?_
      refine ab_goto (pc := 105) 49 dX10_stands_105 (by decide) ?_
      exact hC _ _ _ _ hW (fun j j0 j1 => Z j j0 (by omega))
    · refine ab_aload_n (pc := 72) dX10_stands_72 rfl ?_
      refine ab_get (pc := 73) (k := 47) (x := vR (A 47)) okX10 hW.obj rfl w1102 rfl dX10_stands_73 ?_
      refine ab_iload_n (pc := 76) dX10_stands_76 rfl ?_
      refine ab_iconst (pc := 77) dX10_stands_77 (by decide) ?_
      refine ab_iadd (pc := 78) dX10_stands_78 (by omega) (by omega) ?_
      refine ab_iload (pc := 79) dX10_stands_79 rfl ?_
      refine ab_iadd (pc := 81) dX10_stands_81 (by omega) (by omega) ?_
      refine ab_aload_n (pc := 82) dX10_stands_82 rfl ?_
      refine ab_get (pc := 83) (k := 47) (x := vR (A 47)) okX10 hW.obj rfl w1102 rfl dX10_stands_83 ?_
      refine ab_iload (pc := 86) dX10_stands_86 rfl ?_
      refine ab_iald (pc := 88) (n := 8) (f := F 47) (hW.arr 47 rfl rfl) (by omega) (by omega) dX10_stands_88 ?_
      refine ab_iastG (pc := 89) (n := 8) (f := F 47) (hW.arr 47 rfl rfl) (by decide) (by omega) (by omega) dX10_stands_89 (fun h e9 n9 => ?_)
      replace hW := hW.wr (k := 47) rfl e9 n9 (by decide)
      clear e9 n9
      refine ab_iinc (pc := 90) dX10_stands_90 rfl rfl (by decide) (by omega) (by omega) ?_
      refine ab_goto (pc := 93) 66 dX10_stands_93 (by decide) ?_
      refine ih (i + 1) _ _ _ hW (by omega) (by omega) (by omega) ?_
      rw [← Int.add_assoc]
      exact upto_P (R := fun j z => z = zim j) Z (by rw [zim_c z9 x2 i0 (by omega)]; exact Zi i0 (by omega))
theorem m_stands_49 {q : Int} (q0 : 0 ≤ q) (q1 : q < 12) (n1 : 1 ≤ F0 11 q) (n6 : F0 11 q ≤ 6) (le : ∀ i : Int, 0 ≤ i → i < F0 11 q → 0 ≤ F0 12 (80 * q + i) ∧ F0 12 (80 * q + i) ≤ 2) {k : Int} (hG : ab_G l E) (hk : k = ((nU (shL F0 q) : Nat) : Int)) (fu : Nat) : ∀ (n x : Int) (x5 : Option AbV) (h : AbH) (s : Nat → Int) (F : Nat → Int → Int), mW h0 m A s0 F0 [] [14, 15, 47] h s F → (k - x).toNat < fu → (zn x n) → (x ≤ k) → (∀ j : Int, 0 ≤ j → j < n → F 47 j = zim j) → ab_T l E Y_X10_stands 2 0 0 49 [some (vR m), some (vI q), some (vI k), some (vI n), some (vI x), x5] [] h (mC h0 m A s0 F0 [] [14, 15, 47] (fun r s' F' => (r = some (vI 1) ∧ StZ (F0 12) (80 * q) (F0 11 q) (zL (nU (shL F0 q)))) ∨ (r = some (vI 0) ∧ ¬ StZ (F0 12) (80 * q) (F0 11 q) (zL (nU (shL F0 q)))))) := by
  induction fu with
  | zero => intro n x x5 h s F hW hm; exact absurd hm (Nat.not_lt_zero _)
  | succ fu ih =>
    intro n x x5 h s F hW hm z9 xk Z
    have zb := zn_b z9
    have k3 := nU_3 (l := shL F0 q)
    have x0 : 0 ≤ x := by unfold zn at z9; omega
    refine ab_iload (pc := 49) dX10_stands_49 rfl ?_
    refine ab_iload_n (pc := 51) dX10_stands_51 rfl ?_
    refine ab_icmp_ge (pc := 52) 108 dX10_stands_52 (by decide) (fun c52 => ?_) (fun c52 => ?_)
    · refine ab_iconst (pc := 108) dX10_stands_108 (by decide) ?_
      refine ab_istore (pc := 109) dX10_stands_109 rfl (Nat.le_of_ble_eq_true rfl) ?_
      exact m_stands_111 q0 q1 n1 n6 le (zn_L (by rw [← hk, show k = x by omega]; exact z9)) zb.1 zb.2.1 hG _ 0 _ _ _ _ hW (Nat.lt_succ_self _) (by omega) (by omega) Z (fun a u b0 b1 => absurd b1 (by omega))
    · refine ab_aload_n (pc := 55) dX10_stands_55 rfl ?_
      refine ab_get (pc := 56) (k := 47) (x := vR (A 47)) okX10 hW.obj rfl w1102 rfl dX10_stands_56 ?_
      refine ab_iload_n (pc := 59) dX10_stands_59 rfl ?_
      refine ab_iload (pc := 60) dX10_stands_60 rfl ?_
      refine ab_iastG (pc := 62) (n := 8) (f := F 47) (hW.arr 47 rfl rfl) (by decide) (by omega) (by have := zb.2.2 (by omega); omega) dX10_stands_62 (fun h e9 n9 => ?_)
      replace hW := hW.wr (k := 47) rfl e9 n9 (by decide)
      clear e9 n9
      refine ab_iconst (pc := 63) dX10_stands_63 (by decide) ?_
      refine ab_istore (pc := 64) dX10_stands_64 rfl (Nat.le_of_ble_eq_true rfl) ?_
      exact m_stands_66 z9 (by omega) (fun x5 h s F hW Z => ih (2 * n + 1) (x + 1) x5 h s F hW (by omega) (zn_s z9 (by omega)) (by omega) Z) _ 0 _ _ _ hW (Nat.lt_succ_self _) (by omega) (by omega) (by rw [Int.add_zero]; exact upto_P (R := fun j z => z = zim j) Z (zim_n z9 (by omega)).symm)
theorem m_stands_4 {q : Int} (q0 : 0 ≤ q) (q1 : q < 12) (n1 : 1 ≤ F0 11 q) (n6 : F0 11 q ≤ 6) (le : ∀ i : Int, 0 ≤ i → i < F0 11 q → 0 ≤ F0 12 (80 * q + i) ∧ F0 12 (80 * q + i) ≤ 2) (hG : ab_G l E) (fu : Nat) : ∀ (k x : Int) (h : AbH) (s : Nat → Int) (F : Nat → Int → Int), mW h0 m A s0 F0 [] [14, 15, 47] h s F → (3 - x).toNat < fu → (0 ≤ x) → (x ≤ 3) → (k = ((nUx (shL F0 q) x.toNat : Nat) : Int)) → (k ≤ x) → ab_T l E Y_X10_stands 2 0 0 4 [some (vR m), some (vI q), some (vI k), some (vI x), none, none] [] h (mC h0 m A s0 F0 [] [14, 15, 47] (fun r s' F' => (r = some (vI 1) ∧ StZ (F0 12) (80 * q) (F0 11 q) (zL (nU (shL F0 q)))) ∨ (r = some (vI 0) ∧ ¬ StZ (F0 12) (80 * q) (F0 11 q) (zL (nU (shL F0 q)))))) := by
  induction fu with
  | zero => intro k x h s F hW hm; exact absurd hm (Nat.not_lt_zero _)
  | succ fu ih =>
    intro k x h s F hW hm x0 x1 hk k3
    refine ab_iload_n (pc := 4) dX10_stands_4 rfl ?_
    refine ab_iconst (pc := 5) dX10_stands_5 (by decide) ?_
    refine ab_icmp_ge (pc := 6) 44 dX10_stands_6 (by decide) (fun c6 => ?_) (fun c6 => ?_)
    · refine ab_iconst (pc := 44) dX10_stands_44 (by decide) ?_
      refine ab_istore_n (pc := 45) dX10_stands_45 rfl (Nat.le_of_ble_eq_true rfl) ?_
      refine ab_iconst (pc := 46) dX10_stands_46 (by decide) ?_
      refine ab_istore (pc := 47) dX10_stands_47 rfl (Nat.le_of_ble_eq_true rfl) ?_
      exact m_stands_49 q0 q1 n1 n6 le hG (by rw [hk, show x = 3 by omega]; show ((nUx (shL F0 q) 3 : Nat) : Int) = _; rw [nUx_3]) _ 0 0 _ _ _ _ hW (Nat.lt_succ_self _) (Or.inl ⟨rfl, rfl⟩) (by omega) (fun j j0 j1 => absurd j1 (by omega))
    · refine ab_iload_n (pc := 9) dX10_stands_9 rfl ?_
      refine ab_aload_n (pc := 10) dX10_stands_10 rfl ?_
      refine ab_get (pc := 11) (k := 12) (x := vR (A 12)) okX10 hW.obj rfl w1067 rfl dX10_stands_11 ?_
      refine ab_bipush (pc := 14) dX10_stands_14 (by decide) ?_
      refine ab_iload_n (pc := 16) dX10_stands_16 rfl ?_
      refine ab_imul (pc := 17) dX10_stands_17 (by omega) (by omega) ?_
      refine ab_aload_n (pc := 18) dX10_stands_18 rfl ?_
      refine ab_get (pc := 19) (k := 11) (x := vR (A 11)) okX10 hW.obj rfl w1066 rfl dX10_stands_19 ?_
      refine ab_iload_n (pc := 22) dX10_stands_22 rfl ?_
      refine ab_iald (pc := 23) (n := 12) (f := F0 11) (hW.arr 11 rfl (hW.Fv 11 (by decide))) (by omega) (by omega) dX10_stands_23 ?_
      refine ab_iload_n (pc := 24) dX10_stands_24 rfl ?_
      refine ab_callS (pc := 25) (m_has hG (hW.arr 12 rfl (hW.Fv 12 (by decide))) (by decide) (by omega) (by show _ ≤ (960 : Int); omega)) ⟨w1301, w5, w1303, by decide, pd56⟩ w1302 rfl (by decide) (by decide) (Nat.le_of_ble_eq_true rfl) rfl dX10_stands_25 (fun _ _ hx => absurd hx pC_no) ?_
      rintro _ _ ⟨hv, e9, rfl, hv9⟩
      cases e9
      have mm := hasU_mem (sh := F0 12) (q := 80 * q) (n := F0 11 q) x0 (by omega) (fun i i0 i1 => (le i i0 i1).1)
      have ns : nUx (shL F0 q) (x + 1).toNat = nUx (shL F0 q) x.toNat + if x.toNat ∈ shL F0 q then 1 else 0 := by rw [show (x + 1).toNat = x.toNat + 1 by omega]; rfl
      refine ab_if_eq (pc := 28) 35 dX10_stands_28 (by decide) (fun c28 => ?_) (fun c28 => ?_)
      · have e9 : ¬ x.toNat ∈ shL F0 q := fun k => by rcases hv9 with ⟨a, _⟩ | ⟨_, a⟩; (omega); exact a (mm.mpr k)
        rw [if_neg e9] at ns
        refine ab_iconst (pc := 35) dX10_stands_35 (by decide) ?_
        refine ab_iadd (pc := 36) dX10_stands_36 (by omega) (by omega) ?_
        refine ab_istore_n (pc := 37) dX10_stands_37 rfl (Nat.le_of_ble_eq_true rfl) ?_
        refine ab_iinc (pc := 38) dX10_stands_38 rfl rfl (by decide) (by omega) (by omega) ?_
        refine ab_goto (pc := 41) 4 dX10_stands_41 (by decide) ?_
        exact ih _ (x + 1) _ _ _ hW (by omega) (by omega) (by omega) (by omega) (by omega)
      · have e9 : x.toNat ∈ shL F0 q := mm.mp (by rcases hv9 with ⟨_, a⟩ | ⟨a, _⟩; (exact a); omega)
        rw [if_pos e9] at ns
        refine ab_iconst (pc := 31) dX10_stands_31 (by decide) ?_
        refine ab_goto (pc := 32) 36 dX10_stands_32 (by decide) ?_
        refine ab_iadd (pc := 36) dX10_stands_36 (by omega) (by omega) ?_
        refine ab_istore_n (pc := 37) dX10_stands_37 rfl (Nat.le_of_ble_eq_true rfl) ?_
        refine ab_iinc (pc := 38) dX10_stands_38 rfl rfl (by decide) (by omega) (by omega) ?_
        refine ab_goto (pc := 41) 4 dX10_stands_41 (by decide) ?_
        exact ih _ (x + 1) _ _ _ hW (by omega) (by omega) (by omega) (by omega) (by omega)
theorem m_stands (hG : ab_G l E) (hM : mR h0 m A s0 F0) {q : Int} (q0 : 0 ≤ q) (q1 : q < 12) (n1 : 1 ≤ F0 11 q) (n6 : F0 11 q ≤ 6) (le : ∀ i : Int, 0 ≤ i → i < F0 11 q → 0 ≤ F0 12 (80 * q + i) ∧ F0 12 (80 * q + i) ≤ 2) : ab_M l E Y_X10_stands 6 2 0 0 [vR m, vI q] h0 (mC h0 m A s0 F0 [] [14, 15, 47] (fun r s' F' => (r = some (vI 1) ∧ StZ (F0 12) (80 * q) (F0 11 q) (zL (nU (shL F0 q)))) ∨ (r = some (vI 0) ∧ ¬ StZ (F0 12) (80 * q) (F0 11 q) (zL (nU (shL F0 q)))))) := by
  refine ab_M.of (L0 := [some (vR m), some (vI q), none, none, none, none]) hG rfl rfl (Nat.le_of_ble_eq_true rfl) rfl ?_
  have hW : mW h0 m A s0 F0 [] [14, 15, 47] h0 s0 F0 := mW.start hM
  refine ab_iconst (pc := 0) dX10_stands_0 (by decide) ?_
  refine ab_istore_n (pc := 1) dX10_stands_1 rfl (Nat.le_of_ble_eq_true rfl) ?_
  refine ab_iconst (pc := 2) dX10_stands_2 (by decide) ?_
  refine ab_istore_n (pc := 3) dX10_stands_3 rfl (Nat.le_of_ble_eq_true rfl) ?_
  exact m_stands_4 q0 q1 n1 n6 le hG _ 0 0 _ _ _ hW (Nat.lt_succ_self _) (by omega) (by omega) rfl (by omega)
theorem m_findStepsG (hG : ab_G l E) (hM : mR h0 m A s0 F0) {G : Nat → Int → Int} {q : Int} (e11 : F0 11 = G 11) (e12 : F0 12 = G 12) (q0 : 0 ≤ q) (q1 : q < 12) (n1 : 1 ≤ G 11 q) (n6 : G 11 q ≤ 6) (le : ∀ i : Int, 0 ≤ i → i < G 11 q → 0 ≤ G 12 (80 * q + i) ∧ G 12 (80 * q + i) ≤ 2) : ab_M l E Y_X10_findSteps 6 1 0 0 [vR m, vI q] h0 (mC h0 m A s0 F0 [46] [42, 43, 44, 45] (fun r s' F' => fRes (stepsOf (fun i => G 12 (80 * q + i)) (G 11 q).toNat) r s' F')) := by
  rw [← e11] at n1 n6 le ⊢
  rw [← e12] at le ⊢
  exact m_findSteps hG hM q0 q1 n1 n6 le
theorem m_standsG (hG : ab_G l E) (hM : mR h0 m A s0 F0) {G : Nat → Int → Int} {q : Int} (e11 : F0 11 = G 11) (e12 : F0 12 = G 12) (q0 : 0 ≤ q) (q1 : q < 12) (n1 : 1 ≤ G 11 q) (n6 : G 11 q ≤ 6) (le : ∀ i : Int, 0 ≤ i → i < G 11 q → 0 ≤ G 12 (80 * q + i) ∧ G 12 (80 * q + i) ≤ 2) : ab_M l E Y_X10_stands 6 2 0 0 [vR m, vI q] h0 (mC h0 m A s0 F0 [] [14, 15, 47] (fun r s' F' => (r = some (vI 1) ∧ StZ (G 12) (80 * q) (G 11 q) (zL (nU (shL G q)))) ∨ (r = some (vI 0) ∧ ¬ StZ (G 12) (80 * q) (G 11 q) (zL (nU (shL G q)))))) := by
  unfold shL
  rw [← e11] at n1 n6 le ⊢
  rw [← e12] at le ⊢
  exact m_stands hG hM q0 q1 n1 n6 le
theorem m_shape (hG : ab_G l E) (hM : mR h0 m A s0 F0) {q w : Int} (w1 : w < 2147483648) (c7 : s0 7 ≤ 12) (lb : ∀ q : Int, 0 ≤ q → q < s0 7 → lawB F0 q) : ab_M l E Y_X10_shape 4 4 0 0 [vR m, vI q, vI w] h0 (mC h0 m A s0 F0 [0, 46] [14, 15, 42, 43, 44, 45, 47] (fun r s' F' => ∃ c r9 : Int, r = some (vI r9) ∧ s' 0 = c ∧ shSp s0 F0 q w c r9)) := by
  refine ab_M.of (L0 := [some (vR m), some (vI q), some (vI w), none]) hG rfl rfl (Nat.le_of_ble_eq_true rfl) rfl ?_
  have hW : mW h0 m A s0 F0 [0, 46] [14, 15, 42, 43, 44, 45, 47] h0 s0 F0 := mW.start hM
  refine ab_aload_n (pc := 0) dX10_shape_0 rfl ?_
  refine ab_iconst (pc := 1) dX10_shape_1 (by decide) ?_
  refine ab_putG (pc := 2) (k := 0) okX10 hW.obj (by decide) (by decide) trivial w1055 rfl (Or.inl rfl) dX10_shape_2 (fun h e9 n9 => ?_)
  replace hW := hW.put e9 n9 rfl (by decide)
  clear e9 n9
  refine ab_aload_n (pc := 5) dX10_shape_5 rfl ?_
  refine ab_via (S := [vR m]) 23 (fun v : Int => (v = 1 ∧ 0 ≤ q ∧ q < s0 7) ∨ (v = 0 ∧ ¬ (0 ≤ q ∧ q < s0 7))) (fun v hv => ?_) (fun J23 => ?_)
  · refine ab_iconst (pc := 23) dX10_shape_23 (by decide) ?_
    refine ab_callV (pc := 24) (m_may hG hW.1 (by omega) rfl (by omega)) hW.obj rfl ⟨w1205, w5, w1208, by decide, pd74⟩ w1207 sp25 rfl (by decide) (by decide) (Nat.le_of_ble_eq_true rfl) rfl dX10_shape_24 (fun _ _ hx => absurd hx mC_no) ?_
    rintro _ h ⟨_, s1, F1, e9, hc1, hp1⟩
    cases e9
    replace hW := hW.call hc1 (by decide) (by decide)
    rcases hp1 with ⟨g1, rfl, t1⟩ | ⟨g1, rfl, t1⟩
    · refine ab_if_eq (pc := 27) 47 dX10_shape_27 (by decide) (fun c27 => absurd c27 (by omega)) (fun c27 => ?_)
      refine ab_aload_n (pc := 30) dX10_shape_30 rfl ?_
      refine ab_via (S := [vR m]) 40 (fun v : Int => (v = 1 ∧ 0 ≤ w) ∨ (v = 0 ∧ w < 0)) (fun v hv => ?_) (fun J40 => ?_)
      · refine ab_iconst (pc := 40) dX10_shape_40 (by decide) ?_
        refine ab_callV (pc := 41) (m_may hG hW.1 (by omega) t1 (by omega)) hW.obj rfl ⟨w1205, w5, w1208, by decide, pd74⟩ w1207 sp25 rfl (by decide) (by decide) (Nat.le_of_ble_eq_true rfl) rfl dX10_shape_41 (fun _ _ hx => absurd hx mC_no) ?_
        rintro _ h ⟨_, s2, F2, e9, hc2, hp2⟩
        cases e9
        replace hW := hW.call hc2 (by decide) (by decide)
        rcases hp2 with ⟨g2, rfl, t2⟩ | ⟨g2, rfl, t2⟩
        · refine ab_if_ne (pc := 44) 49 dX10_shape_44 (by decide) (fun c44 => ?_) (fun c44 => absurd c44 (by omega))
          have q0 : 0 ≤ q := by omega
          refine ab_aload_n (pc := 49) dX10_shape_49 rfl ?_
          refine ab_get (pc := 50) (k := 8) (x := vR (A 8)) okX10 hW.obj rfl w1063 rfl dX10_shape_50 ?_
          refine ab_iload_n (pc := 53) dX10_shape_53 rfl ?_
          refine ab_iald (pc := 54) (n := 12) (f := F0 8) (hW.arr 8 rfl (hW.Fv 8 (by decide))) (by omega) (by omega) dX10_shape_54 ?_
          refine ab_iconst (pc := 55) dX10_shape_55 (by decide) ?_
          refine ab_icmp_eq (pc := 56) 61 dX10_shape_56 (by decide) (fun c56 => ?_) (fun c56 => ?_)
          · obtain ⟨n1, n6, le⟩ : 1 ≤ F0 11 q ∧ F0 11 q ≤ 6 ∧ ∀ i : Int, 0 ≤ i → i < F0 11 q → 0 ≤ F0 12 (80 * q + i) ∧ F0 12 (80 * q + i) ≤ 2 := by
              rcases lb q q0 (by omega) with ⟨k, _⟩ | ⟨k, _⟩ | ⟨k, _⟩ | ⟨k, _⟩ | k | ⟨k, k1, k2, k3⟩
              · omega
              · omega
              · omega
              · omega
              · omega
              · exact ⟨k1, k2, k3⟩
            refine ab_iload_n (pc := 61) dX10_shape_61 rfl ?_
            refine ab_iconst (pc := 62) dX10_shape_62 (by decide) ?_
            refine ab_icmp_ne (pc := 63) 80 dX10_shape_63 (by decide) (fun c63 => ?_) (fun c63 => ?_)
            · refine ab_aload_n (pc := 80) dX10_shape_80 rfl ?_
              refine ab_iload_n (pc := 81) dX10_shape_81 rfl ?_
              refine ab_callV (pc := 82) (m_findStepsG hG hW.1 (hW.Fv 11 (by decide)) (hW.Fv 12 (by decide)) q0 (by omega) n1 n6 le) hW.obj rfl ⟨w1384, w5, w1387, by decide, pd71⟩ w1386 sp47 rfl (by decide) (by decide) (Nat.le_of_ble_eq_true rfl) rfl dX10_shape_82 (fun _ _ hx => absurd hx mC_no) ?_
              rintro _ h ⟨_, s3, F3, e9, hc3, hp3⟩
              cases e9
              replace hW := hW.call hc3 (by decide) (by decide)
              rcases hp3 with ⟨p, eo, rfl, l46, st9⟩ | ⟨eo, rfl, l46⟩
              · have pl9 := tk_len _ _ _ eo
                refine ab_istore_n (pc := 85) dX10_shape_85 rfl (Nat.le_of_ble_eq_true rfl) ?_
                refine ab_iload_n (pc := 86) dX10_shape_86 rfl ?_
                refine ab_if_ne (pc := 87) 100 dX10_shape_87 (by decide) (fun c87 => ?_) (fun c87 => ?_)
                · refine ab_iload_n (pc := 100) dX10_shape_100 rfl ?_
                  refine ab_iconst (pc := 101) dX10_shape_101 (by decide) ?_
                  refine ab_icmp_ne (pc := 102) 110 dX10_shape_102 (by decide) (fun c102 => ?_) (fun c102 => ?_)
                  · refine ab_iload_n (pc := 110) dX10_shape_110 rfl ?_
                    refine ab_iconst (pc := 111) dX10_shape_111 (by decide) ?_
                    refine ab_isub (pc := 112) dX10_shape_112 (by omega) (by omega) ?_
                    refine ab_aload_n (pc := 113) dX10_shape_113 rfl ?_
                    refine ab_get (pc := 114) (k := 46) (x := vI (s3 46)) okX10 hW.obj (mg rfl rfl) w1101 rfl dX10_shape_114 ?_
                    refine ab_icmp_ge (pc := 117) 131 dX10_shape_117 (by decide) (fun c117 => ?_) (fun c117 => ?_)
                    · refine ab_iconst (pc := 131) dX10_shape_131 (by decide) ?_
                      refine ab_iret (pc := 132) dX10_shape_132 rfl ?_
                      first | (exfalso; omega) | exact ⟨_, _, _, rfl, hW, 0, 0, rfl, ((hc3.sv 0 (by decide)).trans t2), Or.inr (Or.inr ⟨q0, by omega, by omega, rfl, Or.inr (Or.inr ⟨c56, by omega, by rw [eo]; exact (stA_hi (by omega) (by omega) (by omega)).symm⟩)⟩)⟩ | exact ⟨_, _, _, rfl, hW, 0, 0, rfl, ((hc3.sv 0 (by decide)).trans t2), Or.inr (Or.inr ⟨q0, by omega, by omega, rfl, Or.inr (Or.inr ⟨c56, by omega, by rw [eo]; rfl⟩)⟩)⟩ | exact ⟨_, _, _, rfl, hW, 0, _, rfl, ((hc3.sv 0 (by decide)).trans t2), Or.inr (Or.inr ⟨q0, by omega, by omega, rfl, Or.inr (Or.inr ⟨c56, by omega, by rw [eo, stA_in (by omega) (by omega) (by omega), ← st9 _ (by omega), show (((w - 3).toNat : Nat) : Int) = w - 3 by omega]⟩)⟩)⟩
                    · refine ab_aload_n (pc := 120) dX10_shape_120 rfl ?_
                      refine ab_get (pc := 121) (k := 44) (x := vR (A 44)) okX10 hW.obj rfl w1099 rfl dX10_shape_121 ?_
                      refine ab_iload_n (pc := 124) dX10_shape_124 rfl ?_
                      refine ab_iconst (pc := 125) dX10_shape_125 (by decide) ?_
                      refine ab_isub (pc := 126) dX10_shape_126 (by omega) (by omega) ?_
                      refine ab_iald (pc := 127) (n := 10) (f := F3 44) (hW.arr 44 rfl rfl) (by omega) (by omega) dX10_shape_127 ?_
                      refine ab_goto (pc := 128) 132 dX10_shape_128 (by decide) ?_
                      refine ab_iret (pc := 132) dX10_shape_132 rfl ?_
                      first | (exfalso; omega) | exact ⟨_, _, _, rfl, hW, 0, 0, rfl, ((hc3.sv 0 (by decide)).trans t2), Or.inr (Or.inr ⟨q0, by omega, by omega, rfl, Or.inr (Or.inr ⟨c56, by omega, by rw [eo]; exact (stA_hi (by omega) (by omega) (by omega)).symm⟩)⟩)⟩ | exact ⟨_, _, _, rfl, hW, 0, 0, rfl, ((hc3.sv 0 (by decide)).trans t2), Or.inr (Or.inr ⟨q0, by omega, by omega, rfl, Or.inr (Or.inr ⟨c56, by omega, by rw [eo]; rfl⟩)⟩)⟩ | exact ⟨_, _, _, rfl, hW, 0, _, rfl, ((hc3.sv 0 (by decide)).trans t2), Or.inr (Or.inr ⟨q0, by omega, by omega, rfl, Or.inr (Or.inr ⟨c56, by omega, by rw [eo, stA_in (by omega) (by omega) (by omega), ← st9 _ (by omega), show (((w - 3).toNat : Nat) : Int) = w - 3 by omega]⟩)⟩)⟩
                  · refine ab_aload_n (pc := 105) dX10_shape_105 rfl ?_
                    refine ab_get (pc := 106) (k := 46) (x := vI (s3 46)) okX10 hW.obj (mg rfl rfl) w1101 rfl dX10_shape_106 ?_
                    refine ab_iret (pc := 109) dX10_shape_109 rfl ?_
                    exact ⟨_, _, _, rfl, hW, 0, _, rfl, ((hc3.sv 0 (by decide)).trans t2), Or.inr (Or.inr ⟨q0, by omega, by omega, rfl, Or.inr (Or.inr ⟨c56, by omega, by rw [l46, eo, show w = 2 by omega]; rfl⟩)⟩)⟩
                · refine ab_iload_n (pc := 90) dX10_shape_90 rfl ?_
                  refine ab_if_eq (pc := 91) 98 dX10_shape_91 (by decide) (fun c91 => absurd c91 (by omega)) (fun c91 => ?_)
                  refine ab_iconst (pc := 94) dX10_shape_94 (by decide) ?_
                  refine ab_goto (pc := 95) 99 dX10_shape_95 (by decide) ?_
                  refine ab_iret (pc := 99) dX10_shape_99 rfl ?_
                  exact ⟨_, _, _, rfl, hW, 0, _, rfl, ((hc3.sv 0 (by decide)).trans t2), Or.inr (Or.inr ⟨q0, by omega, by omega, rfl, Or.inr (Or.inr ⟨c56, by omega, by rw [eo, show w = 0 by omega]; rfl⟩)⟩)⟩
              · refine ab_istore_n (pc := 85) dX10_shape_85 rfl (Nat.le_of_ble_eq_true rfl) ?_
                refine ab_iload_n (pc := 86) dX10_shape_86 rfl ?_
                refine ab_if_ne (pc := 87) 100 dX10_shape_87 (by decide) (fun c87 => ?_) (fun c87 => ?_)
                · refine ab_iload_n (pc := 100) dX10_shape_100 rfl ?_
                  refine ab_iconst (pc := 101) dX10_shape_101 (by decide) ?_
                  refine ab_icmp_ne (pc := 102) 110 dX10_shape_102 (by decide) (fun c102 => ?_) (fun c102 => ?_)
                  · refine ab_iload_n (pc := 110) dX10_shape_110 rfl ?_
                    refine ab_iconst (pc := 111) dX10_shape_111 (by decide) ?_
                    refine ab_isub (pc := 112) dX10_shape_112 (by omega) (by omega) ?_
                    refine ab_aload_n (pc := 113) dX10_shape_113 rfl ?_
                    refine ab_get (pc := 114) (k := 46) (x := vI (s3 46)) okX10 hW.obj (mg rfl rfl) w1101 rfl dX10_shape_114 ?_
                    refine ab_icmp_ge (pc := 117) 131 dX10_shape_117 (by decide) (fun c117 => ?_) (fun c117 => ?_)
                    · refine ab_iconst (pc := 131) dX10_shape_131 (by decide) ?_
                      refine ab_iret (pc := 132) dX10_shape_132 rfl ?_
                      first | (exfalso; omega) | exact ⟨_, _, _, rfl, hW, 0, 0, rfl, ((hc3.sv 0 (by decide)).trans t2), Or.inr (Or.inr ⟨q0, by omega, by omega, rfl, Or.inr (Or.inr ⟨c56, by omega, by rw [eo]; exact (stA_hi (by omega) (by omega) (by omega)).symm⟩)⟩)⟩ | exact ⟨_, _, _, rfl, hW, 0, 0, rfl, ((hc3.sv 0 (by decide)).trans t2), Or.inr (Or.inr ⟨q0, by omega, by omega, rfl, Or.inr (Or.inr ⟨c56, by omega, by rw [eo]; rfl⟩)⟩)⟩ | exact ⟨_, _, _, rfl, hW, 0, _, rfl, ((hc3.sv 0 (by decide)).trans t2), Or.inr (Or.inr ⟨q0, by omega, by omega, rfl, Or.inr (Or.inr ⟨c56, by omega, by rw [eo, stA_in (by omega) (by omega) (by omega), ← st9 _ (by omega), show (((w - 3).toNat : Nat) : Int) = w - 3 by omega]⟩)⟩)⟩
                    · refine ab_aload_n (pc := 120) dX10_shape_120 rfl ?_
                      refine ab_get (pc := 121) (k := 44) (x := vR (A 44)) okX10 hW.obj rfl w1099 rfl dX10_shape_121 ?_
                      refine ab_iload_n (pc := 124) dX10_shape_124 rfl ?_
                      refine ab_iconst (pc := 125) dX10_shape_125 (by decide) ?_
                      refine ab_isub (pc := 126) dX10_shape_126 (by omega) (by omega) ?_
                      refine ab_iald (pc := 127) (n := 10) (f := F3 44) (hW.arr 44 rfl rfl) (by omega) (by omega) dX10_shape_127 ?_
                      refine ab_goto (pc := 128) 132 dX10_shape_128 (by decide) ?_
                      refine ab_iret (pc := 132) dX10_shape_132 rfl ?_
                      first | (exfalso; omega) | exact ⟨_, _, _, rfl, hW, 0, 0, rfl, ((hc3.sv 0 (by decide)).trans t2), Or.inr (Or.inr ⟨q0, by omega, by omega, rfl, Or.inr (Or.inr ⟨c56, by omega, by rw [eo]; exact (stA_hi (by omega) (by omega) (by omega)).symm⟩)⟩)⟩ | exact ⟨_, _, _, rfl, hW, 0, 0, rfl, ((hc3.sv 0 (by decide)).trans t2), Or.inr (Or.inr ⟨q0, by omega, by omega, rfl, Or.inr (Or.inr ⟨c56, by omega, by rw [eo]; rfl⟩)⟩)⟩ | exact ⟨_, _, _, rfl, hW, 0, _, rfl, ((hc3.sv 0 (by decide)).trans t2), Or.inr (Or.inr ⟨q0, by omega, by omega, rfl, Or.inr (Or.inr ⟨c56, by omega, by rw [eo, stA_in (by omega) (by omega) (by omega), ← st9 _ (by omega), show (((w - 3).toNat : Nat) : Int) = w - 3 by omega]⟩)⟩)⟩
                  · refine ab_aload_n (pc := 105) dX10_shape_105 rfl ?_
                    refine ab_get (pc := 106) (k := 46) (x := vI (s3 46)) okX10 hW.obj (mg rfl rfl) w1101 rfl dX10_shape_106 ?_
                    refine ab_iret (pc := 109) dX10_shape_109 rfl ?_
                    exact ⟨_, _, _, rfl, hW, 0, _, rfl, ((hc3.sv 0 (by decide)).trans t2), Or.inr (Or.inr ⟨q0, by omega, by omega, rfl, Or.inr (Or.inr ⟨c56, by omega, by rw [l46, eo, show w = 2 by omega]; rfl⟩)⟩)⟩
                · refine ab_iload_n (pc := 90) dX10_shape_90 rfl ?_
                  refine ab_if_eq (pc := 91) 98 dX10_shape_91 (by decide) (fun c91 => ?_) (fun c91 => absurd c91 (by omega))
                  refine ab_iconst (pc := 98) dX10_shape_98 (by decide) ?_
                  refine ab_iret (pc := 99) dX10_shape_99 rfl ?_
                  exact ⟨_, _, _, rfl, hW, 0, _, rfl, ((hc3.sv 0 (by decide)).trans t2), Or.inr (Or.inr ⟨q0, by omega, by omega, rfl, Or.inr (Or.inr ⟨c56, by omega, by rw [eo, show w = 0 by omega]; rfl⟩)⟩)⟩
            · refine ab_aload_n (pc := 66) dX10_shape_66 rfl ?_
              refine ab_iload_n (pc := 67) dX10_shape_67 rfl ?_
              refine ab_callV (pc := 68) (m_standsG hG hW.1 (hW.Fv 11 (by decide)) (hW.Fv 12 (by decide)) q0 (by omega) n1 n6 le) hW.obj rfl ⟨w1380, w5, w1383, by decide, pd71⟩ w1382 sp46 rfl (by decide) (by decide) (Nat.le_of_ble_eq_true rfl) rfl dX10_shape_68 (fun _ _ hx => absurd hx mC_no) ?_
              rintro _ h ⟨_, s4, F4, e9, hc4, hp4⟩
              cases e9
              replace hW := hW.call hc4 (by decide) (by decide)
              rcases hp4 with ⟨rfl, ft⟩ | ⟨rfl, ft⟩
              · refine ab_if_eq (pc := 71) 78 dX10_shape_71 (by decide) (fun c71 => absurd c71 (by omega)) (fun c71 => ?_)
                refine ab_iconst (pc := 74) dX10_shape_74 (by decide) ?_
                refine ab_goto (pc := 75) 79 dX10_shape_75 (by decide) ?_
                refine ab_iret (pc := 79) dX10_shape_79 rfl ?_
                first | exact ⟨_, _, _, rfl, hW, 0, 1, rfl, ((hc4.sv 0 (by decide)).trans t2), Or.inr (Or.inr ⟨q0, by omega, by omega, rfl, Or.inr (Or.inl ⟨c56, by omega, Or.inl ⟨rfl, ft⟩⟩)⟩)⟩ | exact ⟨_, _, _, rfl, hW, 0, 0, rfl, ((hc4.sv 0 (by decide)).trans t2), Or.inr (Or.inr ⟨q0, by omega, by omega, rfl, Or.inr (Or.inl ⟨c56, by omega, Or.inr ⟨rfl, ft⟩⟩)⟩)⟩
              · refine ab_if_eq (pc := 71) 78 dX10_shape_71 (by decide) (fun c71 => ?_) (fun c71 => absurd c71 (by omega))
                refine ab_iconst (pc := 78) dX10_shape_78 (by decide) ?_
                refine ab_iret (pc := 79) dX10_shape_79 rfl ?_
                first | exact ⟨_, _, _, rfl, hW, 0, 1, rfl, ((hc4.sv 0 (by decide)).trans t2), Or.inr (Or.inr ⟨q0, by omega, by omega, rfl, Or.inr (Or.inl ⟨c56, by omega, Or.inl ⟨rfl, ft⟩⟩)⟩)⟩ | exact ⟨_, _, _, rfl, hW, 0, 0, rfl, ((hc4.sv 0 (by decide)).trans t2), Or.inr (Or.inr ⟨q0, by omega, by omega, rfl, Or.inr (Or.inl ⟨c56, by omega, Or.inr ⟨rfl, ft⟩⟩)⟩)⟩
          · refine ab_iconst (pc := 59) dX10_shape_59 (by decide) ?_
            refine ab_iret (pc := 60) dX10_shape_60 rfl ?_
            exact ⟨_, _, _, rfl, hW, 0, (-1), rfl, t2, Or.inr (Or.inr ⟨q0, by omega, by omega, rfl, Or.inl ⟨c56, rfl⟩⟩)⟩
        · refine ab_if_ne (pc := 44) 49 dX10_shape_44 (by decide) (fun c44 => absurd c44 (by omega)) (fun c44 => ?_)
          refine ab_iconst (pc := 47) dX10_shape_47 (by decide) ?_
          refine ab_iret (pc := 48) dX10_shape_48 rfl ?_
          first | exact ⟨_, _, _, rfl, hW, 1, 0, rfl, t1, Or.inl ⟨by omega, rfl⟩⟩ | exact ⟨_, _, _, rfl, hW, 2, 0, rfl, t2, Or.inr (Or.inl ⟨by omega, by omega, by omega, rfl⟩)⟩
      · refine ab_iload_n (pc := 31) dX10_shape_31 rfl ?_
        refine ab_if_lt (pc := 32) 39 dX10_shape_32 (by decide) (fun c32 => ?_) (fun c32 => ?_)
        · refine ab_iconst (pc := 39) dX10_shape_39 (by decide) ?_
          exact J40 (0) (by omega)
        · refine ab_iconst (pc := 35) dX10_shape_35 (by decide) ?_
          refine ab_goto (pc := 36) 40 dX10_shape_36 (by decide) ?_
          exact J40 (1) (by omega)
    · refine ab_if_eq (pc := 27) 47 dX10_shape_27 (by decide) (fun c27 => ?_) (fun c27 => absurd c27 (by omega))
      refine ab_iconst (pc := 47) dX10_shape_47 (by decide) ?_
      refine ab_iret (pc := 48) dX10_shape_48 rfl ?_
      first | exact ⟨_, _, _, rfl, hW, 1, 0, rfl, t1, Or.inl ⟨by omega, rfl⟩⟩ | exact ⟨_, _, _, rfl, hW, 2, 0, rfl, t2, Or.inr (Or.inl ⟨by omega, by omega, by omega, rfl⟩)⟩
  · refine ab_iload_n (pc := 6) dX10_shape_6 rfl ?_
    refine ab_if_lt (pc := 7) 22 dX10_shape_7 (by decide) (fun c7 => ?_) (fun c7 => ?_)
    · refine ab_iconst (pc := 22) dX10_shape_22 (by decide) ?_
      exact J23 (0) (by omega)
    · refine ab_iload_n (pc := 10) dX10_shape_10 rfl ?_
      refine ab_aload_n (pc := 11) dX10_shape_11 rfl ?_
      refine ab_get (pc := 12) (k := 7) (x := vI (s0 7)) okX10 hW.obj (mg rfl (hW.sv 7 (by decide))) w1062 rfl dX10_shape_12 ?_
      refine ab_icmp_ge (pc := 15) 22 dX10_shape_15 (by decide) (fun c15 => ?_) (fun c15 => ?_)
      · refine ab_iconst (pc := 22) dX10_shape_22 (by decide) ?_
        exact J23 (0) (by omega)
      · refine ab_iconst (pc := 18) dX10_shape_18 (by decide) ?_
        refine ab_goto (pc := 19) 23 dX10_shape_19 (by decide) ?_
        exact J23 (1) (by omega)
end M19
