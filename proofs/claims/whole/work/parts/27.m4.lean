/-! the reference: shapes, spans that are barred -/
section M4
variable {l : Launch} {E : AbE} {m : Nat} {A : Nat → Nat} {s0 : Nat → Int} {F0 : Nat → Int → Int} {h0 : AbH}
theorem pl_addr {z sh : Int → Int} {q k a : Int} (hk : 0 ≤ k) : a + pl z sh q (k + 1) = a + pl z sh q k + z (sh (q + k)) := by rw [pl_step hk]; omega
theorem m_fits_76 {K : Nat} (hK : wK K) {q n a b : Int} (q0 : 0 ≤ q) (q1 : q + n ≤ 960) (n0 : 0 ≤ n) (n6 : n ≤ 6) (a0 : 0 ≤ a) (ab : a ≤ b) (bN : b ≤ mLen K) (sl : ∀ k : Int, 0 ≤ k → k < n → 0 ≤ F0 12 (q + k) ∧ F0 12 (q + k) ≤ 2) (sz : ∀ x : Int, 0 ≤ x → x ≤ 2 → 1 ≤ F0 15 x ∧ F0 15 x ≤ 100) {y7 : Int} (tot : pl (F0 15) (F0 12) q n = b - a) (fu : Nat) : ∀ (k : Int) (x10 x11 : Option AbV) (h : AbH) (s : Nat → Int) (F : Nat → Int → Int), mW h0 m A s0 F0 [] [14] h s F → (n - k).toNat < fu → (0 ≤ k) → (k ≤ n) → (fitB (F0 15) (F0 12) q k a (F 14)) → (fitA (F0 15) (F0 12) q k (F0 K) a) → ab_T l E Y_X10_fits 0 0 0 76 [some (vR m), some (vR (A 12)), some (vI q), some (vI n), some (vR (A K)), some (vI a), some (vI b), some (vI y7), some (vI (a + pl (F0 15) (F0 12) q k)), some (vI k), x10, x11] [] h (mC h0 m A s0 F0 [] [14] (fun r s' F' => (r = some (vI 1) ∧ Fit (F0 15) (F0 12) q n (F0 K) a b) ∨ (r = some (vI 0) ∧ ¬ Fit (F0 15) (F0 12) q n (F0 K) a b))) := by
  induction fu with
  | zero => intro k x10 x11 h s F hW hm; exact absurd hm (Nat.not_lt_zero _)
  | succ fu ih =>
    intro k x10 x11 h s F hW hm k0 k1 hB hA
    have hk8 := wK_le hK
    have gz : ∀ k : Int, 0 ≤ k → k < n → 1 ≤ F0 15 (F0 12 (q + k)) := fun k k0 k1 => (sz _ (sl k k0 k1).1 (sl k k0 k1).2).1
    have lz : ∀ k : Int, 0 ≤ k → k < n → F0 15 (F0 12 (q + k)) ≤ 100 := fun k k0 k1 => (sz _ (sl k k0 k1).1 (sl k k0 k1).2).2
    have p1 := pl_ge gz k k0 k1
    have p5 := pl_le lz k k0 k1
    have p3 := pl_mono gz k0 n n0 (Int.le_refl _) k1
    refine ab_iload (pc := 76) dX10_fits_76 rfl ?_
    refine ab_iload_n (pc := 78) dX10_fits_78 rfl ?_
    refine ab_icmp_ge (pc := 79) 175 dX10_fits_79 (by decide) (fun c79 => ?_) (fun c79 => ?_)
    · refine ab_iconst (pc := 175) dX10_fits_175 (by decide) ?_
      refine ab_zret (pc := 176) dX10_fits_176 rfl (by omega) ?_
      obtain rfl : k = n := by omega
      exact ⟨_, _, _, rfl, hW, Or.inl ⟨rfl, tot, hA⟩⟩
    · refine ab_aload_n (pc := 82) dX10_fits_82 rfl ?_
      refine ab_iload_n (pc := 83) dX10_fits_83 rfl ?_
      refine ab_iload (pc := 84) dX10_fits_84 rfl ?_
      refine ab_iadd (pc := 86) dX10_fits_86 (by omega) (by omega) ?_
      have x1 := sl k k0 (by omega)
      refine ab_iald (pc := 87) (n := 960) (f := F0 12) (hW.arr 12 rfl (hW.Fv 12 (by decide))) (by omega) (by omega) dX10_fits_87 ?_
      refine ab_istore (pc := 88) dX10_fits_88 rfl (Nat.le_of_ble_eq_true rfl) ?_
      refine ab_aload_n (pc := 90) dX10_fits_90 rfl ?_
      refine ab_get (pc := 91) (k := 14) (x := vR (A 14)) okX10 hW.obj rfl w1069 rfl dX10_fits_91 ?_
      refine ab_iload (pc := 94) dX10_fits_94 rfl ?_
      refine ab_iald (pc := 96) (n := 3) (f := F 14) (hW.arr 14 rfl rfl) (by omega) (by omega) dX10_fits_96 ?_
      have b9 := hB (F0 12 (q + k)) x1.1 x1.2
      refine ab_iconst (pc := 97) dX10_fits_97 (by decide) ?_
      refine ab_icmp_ne (pc := 98) 110 dX10_fits_98 (by decide) (fun c98 => ?_) (fun c98 => ?_)
      · refine ab_iconst (pc := 110) dX10_fits_110 (by decide) ?_
        refine ab_istore (pc := 111) dX10_fits_111 rfl (Nat.le_of_ble_eq_true rfl) ?_
        obtain ⟨j, b1, b2, b3, b4⟩ : ∃ j : Int, 0 ≤ j ∧ j < k ∧ F0 12 (q + j) = F0 12 (q + k) ∧ F 14 (F0 12 (q + k)) = a + pl (F0 15) (F0 12) q j := by rcases b9 with e | e; exact absurd e.1 c98; exact e
        clear b9
        refine m_fits_113 hW hK q0 q1 n0 n6 a0 ab bN sl sz (j0 := j) k0 (by omega) b4 b1 (by omega) b3 tot (fun i hi => ?_) _ 0 (Nat.lt_succ_self _) (by omega) (fun t t0 t1 => absurd t1 (by omega))
        have y1 := lz k k0 (by omega)
        have y2 := gz k k0 (by omega)
        refine ab_iload (pc := 157) dX10_fits_157 rfl ?_
        refine ab_aload_n (pc := 159) dX10_fits_159 rfl ?_
        refine ab_get (pc := 160) (k := 15) (x := vR (A 15)) okX10 hW.obj rfl w1070 rfl dX10_fits_160 ?_
        refine ab_iload (pc := 163) dX10_fits_163 rfl ?_
        refine ab_iald (pc := 165) (n := 3) (f := F0 15) (hW.arr 15 rfl (hW.Fv 15 (by decide))) (by omega) (by omega) dX10_fits_165 ?_
        refine ab_iadd (pc := 166) dX10_fits_166 (by omega) (by omega) ?_
        refine ab_istore (pc := 167) dX10_fits_167 rfl (Nat.le_of_ble_eq_true rfl) ?_
        refine ab_iinc (pc := 169) dX10_fits_169 rfl rfl (by decide) (by omega) (by omega) ?_
        refine ab_goto (pc := 172) 76 dX10_fits_172 (by decide) ?_
        rw [← pl_addr k0]
        exact ih (k + 1) _ _ _ _ _ hW (by omega) (by omega) (by omega) (fitB_step hB k0 b1 (by omega) b3 b4) (fitA_step hA b1 (by omega) b3 (fun e => absurd e (by omega)) hi)
      · refine ab_aload_n (pc := 101) dX10_fits_101 rfl ?_
        refine ab_get (pc := 102) (k := 14) (x := vR (A 14)) okX10 hW.obj rfl w1069 rfl dX10_fits_102 ?_
        refine ab_iload (pc := 105) dX10_fits_105 rfl ?_
        refine ab_iload (pc := 107) dX10_fits_107 rfl ?_
        refine ab_iastG (pc := 109) (n := 3) (f := F 14) (hW.arr 14 rfl rfl) (by decide) (by omega) (by omega) dX10_fits_109 (fun h e9 n9 => ?_)
        replace hW := hW.wr (k := 14) rfl e9 n9 (by decide)
        clear e9 n9
        refine ab_iconst (pc := 110) dX10_fits_110 (by decide) ?_
        refine ab_istore (pc := 111) dX10_fits_111 rfl (Nat.le_of_ble_eq_true rfl) ?_
        have b10 : ∀ j : Int, 0 ≤ j → j < k → F0 12 (q + j) ≠ F0 12 (q + k) := by rcases b9 with e | ⟨j, e1, e2, e3, e4⟩; exact e.2; have := pl_ge gz j e1 (by omega); omega
        clear b9
        refine m_fits_113 hW hK q0 q1 n0 n6 a0 ab bN sl sz (j0 := k) k0 (by omega) (ab_f_eq rfl) k0 (Int.le_refl _) rfl tot (fun i hi => ?_) _ 0 (Nat.lt_succ_self _) (by omega) (fun t t0 t1 => absurd t1 (by omega))
        have y1 := lz k k0 (by omega)
        have y2 := gz k k0 (by omega)
        refine ab_iload (pc := 157) dX10_fits_157 rfl ?_
        refine ab_aload_n (pc := 159) dX10_fits_159 rfl ?_
        refine ab_get (pc := 160) (k := 15) (x := vR (A 15)) okX10 hW.obj rfl w1070 rfl dX10_fits_160 ?_
        refine ab_iload (pc := 163) dX10_fits_163 rfl ?_
        refine ab_iald (pc := 165) (n := 3) (f := F0 15) (hW.arr 15 rfl (hW.Fv 15 (by decide))) (by omega) (by omega) dX10_fits_165 ?_
        refine ab_iadd (pc := 166) dX10_fits_166 (by omega) (by omega) ?_
        refine ab_istore (pc := 167) dX10_fits_167 rfl (Nat.le_of_ble_eq_true rfl) ?_
        refine ab_iinc (pc := 169) dX10_fits_169 rfl rfl (by decide) (by omega) (by omega) ?_
        refine ab_goto (pc := 172) 76 dX10_fits_172 (by decide) ?_
        rw [← pl_addr k0]
        exact ih (k + 1) _ _ _ _ _ hW (by omega) (by omega) (by omega) (fitB_put hB k0) (fitA_step hA k0 (Int.le_refl _) rfl (fun _ => b10) hi)
theorem m_fits_49 {K : Nat} (hK : wK K) {q n a b : Int} (q0 : 0 ≤ q) (q1 : q + n ≤ 960) (n0 : 0 ≤ n) (n6 : n ≤ 6) (a0 : 0 ≤ a) (ab : a ≤ b) (bN : b ≤ mLen K) (sl : ∀ k : Int, 0 ≤ k → k < n → 0 ≤ F0 12 (q + k) ∧ F0 12 (q + k) ≤ 2) (sz : ∀ x : Int, 0 ≤ x → x ≤ 2 → 1 ≤ F0 15 x ∧ F0 15 x ≤ 100) {y7 : Int} {x9 x10 x11 : Option AbV} (tot : pl (F0 15) (F0 12) q n = b - a) (fu : Nat) : ∀ (k : Int) (h : AbH) (s : Nat → Int) (F : Nat → Int → Int), mW h0 m A s0 F0 [] [14] h s F → (3 - k).toNat < fu → (0 ≤ k) → (k ≤ 3) → (∀ j : Int, 0 ≤ j → j < k → F 14 j = -1) → ab_T l E Y_X10_fits 0 0 0 49 [some (vR m), some (vR (A 12)), some (vI q), some (vI n), some (vR (A K)), some (vI a), some (vI b), some (vI y7), some (vI k), x9, x10, x11] [] h (mC h0 m A s0 F0 [] [14] (fun r s' F' => (r = some (vI 1) ∧ Fit (F0 15) (F0 12) q n (F0 K) a b) ∨ (r = some (vI 0) ∧ ¬ Fit (F0 15) (F0 12) q n (F0 K) a b))) := by
  induction fu with
  | zero => intro k h s F hW hm; exact absurd hm (Nat.not_lt_zero _)
  | succ fu ih =>
    intro k h s F hW hm k0 k1 I
    refine ab_iload (pc := 49) dX10_fits_49 rfl ?_
    refine ab_iconst (pc := 51) dX10_fits_51 (by decide) ?_
    refine ab_icmp_ge (pc := 52) 69 dX10_fits_52 (by decide) (fun c52 => ?_) (fun c52 => ?_)
    · refine ab_iload (pc := 69) dX10_fits_69 rfl ?_
      refine ab_istore (pc := 71) dX10_fits_71 rfl (Nat.le_of_ble_eq_true rfl) ?_
      refine ab_iconst (pc := 73) dX10_fits_73 (by decide) ?_
      refine ab_istore (pc := 74) dX10_fits_74 rfl (Nat.le_of_ble_eq_true rfl) ?_
      have e9 : a = a + pl (F0 15) (F0 12) q 0 := by rw [pl0]; omega
      have g9 := m_fits_76 (l := l) (E := E) (y7 := y7) hK q0 q1 n0 n6 a0 ab bN sl sz tot _ 0 x10 x11 _ _ _ hW (Nat.lt_succ_self _) (by omega) n0 (fun x x0 x1 => Or.inl ⟨I x x0 (by omega), fun j j0 j1 => absurd j1 (by omega)⟩) (fun k1 k2 a0 a1 => absurd a1 (by omega))
      rw [← e9] at g9
      exact g9
    · refine ab_aload_n (pc := 55) dX10_fits_55 rfl ?_
      refine ab_get (pc := 56) (k := 14) (x := vR (A 14)) okX10 hW.obj rfl w1069 rfl dX10_fits_56 ?_
      refine ab_iload (pc := 59) dX10_fits_59 rfl ?_
      refine ab_iconst (pc := 61) dX10_fits_61 (by decide) ?_
      refine ab_iastG (pc := 62) (n := 3) (f := F 14) (hW.arr 14 rfl rfl) (by decide) (by omega) (by omega) dX10_fits_62 (fun h e9 n9 => ?_)
      replace hW := hW.wr (k := 14) rfl e9 n9 (by decide)
      clear e9 n9
      refine ab_iinc (pc := 63) dX10_fits_63 rfl rfl (by decide) (by omega) (by omega) ?_
      refine ab_goto (pc := 66) 49 dX10_fits_66 (by decide) ?_
      exact ih (k + 1) _ _ _ hW (by omega) (by omega) (by omega) (upto_P (R := fun _ z => z = -1) I rfl)
theorem m_fits_6 {K : Nat} (hK : wK K) {q n a b : Int} (q0 : 0 ≤ q) (q1 : q + n ≤ 960) (n0 : 0 ≤ n) (n6 : n ≤ 6) (a0 : 0 ≤ a) (ab : a ≤ b) (bN : b ≤ mLen K) (sl : ∀ k : Int, 0 ≤ k → k < n → 0 ≤ F0 12 (q + k) ∧ F0 12 (q + k) ≤ 2) (sz : ∀ x : Int, 0 ≤ x → x ≤ 2 → 1 ≤ F0 15 x ∧ F0 15 x ≤ 100) (fu : Nat) : ∀ (k : Int) (h : AbH) (s : Nat → Int) (F : Nat → Int → Int), mW h0 m A s0 F0 [] [14] h s F → (n - k).toNat < fu → (0 ≤ k) → (k ≤ n) → ab_T l E Y_X10_fits 0 0 0 6 [some (vR m), some (vR (A 12)), some (vI q), some (vI n), some (vR (A K)), some (vI a), some (vI b), some (vI (pl (F0 15) (F0 12) q k)), some (vI k), none, none, none] [] h (mC h0 m A s0 F0 [] [14] (fun r s' F' => (r = some (vI 1) ∧ Fit (F0 15) (F0 12) q n (F0 K) a b) ∨ (r = some (vI 0) ∧ ¬ Fit (F0 15) (F0 12) q n (F0 K) a b))) := by
  induction fu with
  | zero => intro k h s F hW hm; exact absurd hm (Nat.not_lt_zero _)
  | succ fu ih =>
    intro k h s F hW hm k0 k1
    have hk8 := wK_le hK
    have gz : ∀ k : Int, 0 ≤ k → k < n → 1 ≤ F0 15 (F0 12 (q + k)) := fun k k0 k1 => (sz _ (sl k k0 k1).1 (sl k k0 k1).2).1
    have lz : ∀ k : Int, 0 ≤ k → k < n → F0 15 (F0 12 (q + k)) ≤ 100 := fun k k0 k1 => (sz _ (sl k k0 k1).1 (sl k k0 k1).2).2
    have p1 := pl_ge gz k k0 k1
    have p5 := pl_le lz k k0 k1
    refine ab_iload (pc := 6) dX10_fits_6 rfl ?_
    refine ab_iload_n (pc := 8) dX10_fits_8 rfl ?_
    refine ab_icmp_ge (pc := 9) 34 dX10_fits_9 (by decide) (fun c9 => ?_) (fun c9 => ?_)
    · refine ab_iload (pc := 34) dX10_fits_34 rfl ?_
      refine ab_iload (pc := 36) dX10_fits_36 rfl ?_
      refine ab_iload (pc := 38) dX10_fits_38 rfl ?_
      refine ab_isub (pc := 40) dX10_fits_40 (by omega) (by omega) ?_
      refine ab_icmp_eq (pc := 41) 46 dX10_fits_41 (by decide) (fun c41 => ?_) (fun c41 => ?_)
      · refine ab_iconst (pc := 46) dX10_fits_46 (by decide) ?_
        refine ab_istore (pc := 47) dX10_fits_47 rfl (Nat.le_of_ble_eq_true rfl) ?_
        obtain rfl : k = n := by omega
        exact m_fits_49 hK q0 q1 n0 n6 a0 ab bN sl sz (by omega) _ 0 _ _ _ hW (Nat.lt_succ_self _) (by omega) (by omega) (fun j j0 j1 => absurd j1 (by omega))
      · refine ab_iconst (pc := 44) dX10_fits_44 (by decide) ?_
        refine ab_zret (pc := 45) dX10_fits_45 rfl (by omega) ?_
        obtain rfl : k = n := by omega
        exact ⟨_, _, _, rfl, hW, Or.inr ⟨rfl, fun e => absurd e.1 (by omega)⟩⟩
    · refine ab_iload (pc := 12) dX10_fits_12 rfl ?_
      refine ab_aload_n (pc := 14) dX10_fits_14 rfl ?_
      refine ab_get (pc := 15) (k := 15) (x := vR (A 15)) okX10 hW.obj rfl w1070 rfl dX10_fits_15 ?_
      refine ab_aload_n (pc := 18) dX10_fits_18 rfl ?_
      refine ab_iload_n (pc := 19) dX10_fits_19 rfl ?_
      refine ab_iload (pc := 20) dX10_fits_20 rfl ?_
      refine ab_iadd (pc := 22) dX10_fits_22 (by omega) (by omega) ?_
      refine ab_iald (pc := 23) (n := 960) (f := F0 12) (hW.arr 12 rfl (hW.Fv 12 (by decide))) (by omega) (by omega) dX10_fits_23 ?_
      have x1 := sl k k0 (by omega)
      refine ab_iald (pc := 24) (n := 3) (f := F0 15) (hW.arr 15 rfl (hW.Fv 15 (by decide))) (by omega) (by omega) dX10_fits_24 ?_
      have y1 := lz k k0 (by omega)
      have y2 := gz k k0 (by omega)
      refine ab_iadd (pc := 25) dX10_fits_25 (by omega) (by omega) ?_
      refine ab_istore (pc := 26) dX10_fits_26 rfl (Nat.le_of_ble_eq_true rfl) ?_
      refine ab_iinc (pc := 28) dX10_fits_28 rfl rfl (by decide) (by omega) (by omega) ?_
      refine ab_goto (pc := 31) 6 dX10_fits_31 (by decide) ?_
      rw [← pl_step k0]
      exact ih (k + 1) _ _ _ hW (by omega) (by omega) (by omega)
theorem m_fits (hG : ab_G l E) (hM : mR h0 m A s0 F0) {K : Nat} (hK : wK K) {q n a b : Int} (q0 : 0 ≤ q) (q1 : q + n ≤ 960) (n0 : 0 ≤ n) (n6 : n ≤ 6) (a0 : 0 ≤ a) (ab : a ≤ b) (bN : b ≤ mLen K) (sl : ∀ k : Int, 0 ≤ k → k < n → 0 ≤ F0 12 (q + k) ∧ F0 12 (q + k) ≤ 2) (sz : ∀ x : Int, 0 ≤ x → x ≤ 2 → 1 ≤ F0 15 x ∧ F0 15 x ≤ 100) : ab_M l E Y_X10_fits 12 0 0 0 [vR m, vR (A 12), vI q, vI n, vR (A K), vI a, vI b] h0 (mC h0 m A s0 F0 [] [14] (fun r s' F' => (r = some (vI 1) ∧ Fit (F0 15) (F0 12) q n (F0 K) a b) ∨ (r = some (vI 0) ∧ ¬ Fit (F0 15) (F0 12) q n (F0 K) a b))) := by
  refine ab_M.of (L0 := [some (vR m), some (vR (A 12)), some (vI q), some (vI n), some (vR (A K)), some (vI a), some (vI b), none, none, none, none, none]) hG rfl rfl (Nat.le_of_ble_eq_true rfl) rfl ?_
  have hW : mW h0 m A s0 F0 [] [14] h0 s0 F0 := mW.start hM
  refine ab_iconst (pc := 0) dX10_fits_0 (by decide) ?_
  refine ab_istore (pc := 1) dX10_fits_1 rfl (Nat.le_of_ble_eq_true rfl) ?_
  refine ab_iconst (pc := 3) dX10_fits_3 (by decide) ?_
  refine ab_istore (pc := 4) dX10_fits_4 rfl (Nat.le_of_ble_eq_true rfl) ?_
  exact m_fits_6 hK q0 q1 n0 n6 a0 ab bN sl sz _ 0 _ _ _ hW (Nat.lt_succ_self _) (by omega) n0
end M4
