/-! the class: letters far out; a new map -/
section C12
variable {l : Launch} {E : AbE} {h0 : AbH}
theorem c_far_24 {a b1 b2 b3 g : Nat} {al : Int} {z t : Int → Int} {gz : Int → Int} {x1 p : Int} {x rs lv : Int} (hB : mpB al z t) (gr : grOk gz z t al 31) (a0 : 0 ≤ x1) (a1 : x1 < al) (l0 : 0 ≤ lv) (l1 : lv ≤ 30) (x0 : 0 ≤ x) (xl : x < al) (r0 : 0 ≤ rs) (r1 : rs < 2147483648) (r2 : rs < pl (hsz z (tW t) lv.toNat) (tW t x) 0 (z x)) (hC : ∀ (i : Int), 0 ≤ i → i < z x → pl (hsz z (tW t) lv.toNat) (tW t x) 0 i ≤ rs → rs < pl (hsz z (tW t) lv.toNat) (tW t x) 0 (i + 1) → ab_T l E Y_X1_letterFarOut 0 0 0 96 [some (vR a), some (vI x1), some (vI p), some (vI x), some (vL (rs - pl (hsz z (tW t) lv.toNat) (tW t x) 0 i)), none, some (vI lv), some (vI (x * 20)), some (vI i)] [] h0 (pC h0 (fun v => LT z (tW t) 31 x1 p v ∧ 0 ≤ v ∧ v < al))) (ha : h0 a = some (kO g 0 [vI al, vR b1, vR b2, vR b3])) (hz : h0 b1 = some (kI (g + 1) 8 z)) (ht : h0 b2 = some (kI (g + 2) 160 t)) (hg : h0 b3 = some (kJ (g + 3) 248 gz))  (fu : Nat) : ∀ (i : Int), (z x - i).toNat < fu → (0 ≤ i) → (i < z x) → (pl (hsz z (tW t) lv.toNat) (tW t x) 0 i ≤ rs) → ab_T l E Y_X1_letterFarOut 0 0 0 24 [some (vR a), some (vI x1), some (vI p), some (vI x), some (vL (rs - pl (hsz z (tW t) lv.toNat) (tW t x) 0 i)), none, some (vI lv), some (vI (x * 20)), some (vI i)] [] h0 (pC h0 (fun v => LT z (tW t) 31 x1 p v ∧ 0 ≤ v ∧ v < al)) := by
  induction fu with
  | zero => intro i hms9; exact absurd hms9 (Nat.not_lt_zero _)
  | succ fu ih =>
    intro i hms9 i0 i1 I
    have al8 := hB.2.1
    obtain ⟨zx1, zx2, tx⟩ := hB.2.2 x x0 xl
    have w9 := tx i i0 i1
    have v9 : gz (8 * lv + t (20 * x + i)) = cap (hsz z (tW t) lv.toNat (t (20 * x + i))) := by have q := gr lv.toNat (by omega) _ w9.1 w9.2; rw [show 8 * ((lv.toNat : Nat) : Int) + t (20 * x + i) = 8 * lv + t (20 * x + i) by omega] at q; exact q
    have st : pl (hsz z (tW t) lv.toNat) (tW t x) 0 (i + 1) = pl (hsz z (tW t) lv.toNat) (tW t x) 0 i + hsz z (tW t) lv.toNat (t (20 * x + i)) := pl0q i0
    have ps := hsz_1 hB lv.toNat _ w9.1 w9.2
    have pz := pl_ge (z := hsz z (tW t) lv.toNat) (sh := tW t x) (q := 0) (n := z x) (fun k k0 k1 => hsz_1 hB lv.toNat _ (by rw [Int.zero_add]; exact (tx k k0 k1).1) (by rw [Int.zero_add]; exact (tx k k0 k1).2)) i i0 (by omega)
    have e1 : t (x * 20 + i) = t (20 * x + i) := by rw [Int.mul_comm x 20]
    have e2 : gz (lv * 8 + t (20 * x + i)) = cap (hsz z (tW t) lv.toNat (t (20 * x + i))) := by rw [Int.mul_comm lv 8]; exact v9
    have c9 := cap_lt (x := (rs - pl (hsz z (tW t) lv.toNat) (tW t x) 0 i)) (y := hsz z (tW t) lv.toNat (t (20 * x + i))) (by omega)
    refine ab_iload (pc := 24) dX1_letterFarOut_24 rfl ?_
    refine ab_aload_n (pc := 26) dX1_letterFarOut_26 rfl ?_
    refine ab_get (pc := 27) (k := 1) okX1 ha rfl w888 rfl dX1_letterFarOut_27 ?_
    refine ab_iload_n (pc := 30) dX1_letterFarOut_30 rfl ?_
    refine ab_iald (pc := 31) hz (by omega) (by omega) dX1_letterFarOut_31 ?_
    refine ab_iconst (pc := 32) dX1_letterFarOut_32 (by decide) ?_
    refine ab_isub (pc := 33) dX1_letterFarOut_33 (by omega) (by omega) ?_
    refine ab_icmp_ge (pc := 34) 96 dX1_letterFarOut_34 (by decide) (fun c34 => ?_) (fun c34 => ?_)
    · refine hC i i0 i1 I ?_
      first | (have e5 : i + 1 = z x := by omega
               rw [e5]; exact r2) | omega
    · refine ab_lload (pc := 37) dX1_letterFarOut_37 rfl ?_
      refine ab_aload_n (pc := 39) dX1_letterFarOut_39 rfl ?_
      refine ab_get (pc := 40) (k := 3) okX1 ha rfl w890 rfl dX1_letterFarOut_40 ?_
      refine ab_iload (pc := 43) dX1_letterFarOut_43 rfl ?_
      refine ab_bipush (pc := 45) dX1_letterFarOut_45 (by decide) ?_
      refine ab_imul (pc := 47) dX1_letterFarOut_47 (by omega) (by omega) ?_
      refine ab_aload_n (pc := 48) dX1_letterFarOut_48 rfl ?_
      refine ab_get (pc := 49) (k := 2) okX1 ha rfl w889 rfl dX1_letterFarOut_49 ?_
      refine ab_iload (pc := 52) dX1_letterFarOut_52 rfl ?_
      refine ab_iload (pc := 54) dX1_letterFarOut_54 rfl ?_
      refine ab_iadd (pc := 56) dX1_letterFarOut_56 (by omega) (by omega) ?_
      refine ab_iald (pc := 57) ht (by omega) (by omega) dX1_letterFarOut_57 ?_
      rw [e1]
      refine ab_iadd (pc := 58) dX1_letterFarOut_58 (by omega) (by omega) ?_
      refine ab_lald (pc := 59) hg (by omega) (by omega) dX1_letterFarOut_59 ?_
      refine ab_lcm (pc := 60) dX1_letterFarOut_60 ?_
      refine ab_if_lt (pc := 61) 96 dX1_letterFarOut_61 (by decide) (fun c61 => ?_) (fun c61 => ?_)
      · rw [lcmp_neg, e2] at c61
        refine hC i i0 i1 I ?_
        first | (have e5 : i + 1 = z x := by omega
                 rw [e5]; exact r2) | omega
      · rw [lcmp_neg, e2] at c61
        refine ab_lload (pc := 64) dX1_letterFarOut_64 rfl ?_
        refine ab_aload_n (pc := 66) dX1_letterFarOut_66 rfl ?_
        refine ab_get (pc := 67) (k := 3) okX1 ha rfl w890 rfl dX1_letterFarOut_67 ?_
        refine ab_iload (pc := 70) dX1_letterFarOut_70 rfl ?_
        refine ab_bipush (pc := 72) dX1_letterFarOut_72 (by decide) ?_
        refine ab_imul (pc := 74) dX1_letterFarOut_74 (by omega) (by omega) ?_
        refine ab_aload_n (pc := 75) dX1_letterFarOut_75 rfl ?_
        refine ab_get (pc := 76) (k := 2) okX1 ha rfl w889 rfl dX1_letterFarOut_76 ?_
        refine ab_iload (pc := 79) dX1_letterFarOut_79 rfl ?_
        refine ab_iload (pc := 81) dX1_letterFarOut_81 rfl ?_
        refine ab_iadd (pc := 83) dX1_letterFarOut_83 (by omega) (by omega) ?_
        refine ab_iald (pc := 84) ht (by omega) (by omega) dX1_letterFarOut_84 ?_
        rw [e1]
        refine ab_iadd (pc := 85) dX1_letterFarOut_85 (by omega) (by omega) ?_
        refine ab_lald (pc := 86) hg (by omega) (by omega) dX1_letterFarOut_86 ?_
        refine ab_lsub (pc := 87) dX1_letterFarOut_87 ?_
        rw [e2, show ab_w64 ((rs - pl (hsz z (tW t) lv.toNat) (tW t x) 0 i) - cap (hsz z (tW t) lv.toNat (t (20 * x + i)))) = rs - pl (hsz z (tW t) lv.toNat) (tW t x) 0 (i + 1) by (have : cap (hsz z (tW t) lv.toNat (t (20 * x + i))) = hsz z (tW t) lv.toNat (t (20 * x + i)) := by unfold cap; unfold cap at c61 c9; split <;> omega); rw [this, st, w64_id (by omega) (by omega)]; omega]
        refine ab_lstore (pc := 88) dX1_letterFarOut_88 rfl (Nat.le_of_ble_eq_true rfl) ?_
        refine ab_iinc (pc := 90) dX1_letterFarOut_90 rfl rfl (by decide) (by omega) (by omega) ?_
        refine ab_goto (pc := 93) 24 dX1_letterFarOut_93 (by decide) ?_
        exact ih (i + 1) (by omega) (by omega) (by omega) (by omega)
theorem c_far_10 {a b1 b2 b3 g : Nat} {al : Int} {z t : Int → Int} {gz : Int → Int} {x1 p : Int} (hB : mpB al z t) (gr : grOk gz z t al 31) (a0 : 0 ≤ x1) (a1 : x1 < al) (ha : h0 a = some (kO g 0 [vI al, vR b1, vR b2, vR b3])) (hz : h0 b1 = some (kI (g + 1) 8 z)) (ht : h0 b2 = some (kI (g + 2) 160 t)) (hg : h0 b3 = some (kJ (g + 3) 248 gz))  (fu : Nat) : ∀ (x rs lv : Int) (x7 x8 : Option AbV), (lv + 1).toNat < fu → (-1 ≤ lv) → (lv ≤ 30) → (0 ≤ x) → (x < al) → (0 ≤ rs) → (rs < 2147483648) → (rs < hsz z (tW t) (lv + 1).toNat x) → (∀ y : Int, LT z (tW t) (lv + 1).toNat x rs y → LT z (tW t) 31 x1 p y) → ab_T l E Y_X1_letterFarOut 0 0 0 10 [some (vR a), some (vI x1), some (vI p), some (vI x), some (vL rs), none, some (vI lv), x7, x8] [] h0 (pC h0 (fun v => LT z (tW t) 31 x1 p v ∧ 0 ≤ v ∧ v < al)) := by
  induction fu with
  | zero => intro x rs lv x7 x8 hms9; exact absurd hms9 (Nat.not_lt_zero _)
  | succ fu ih =>
    intro x rs lv x7 x8 hms9 l0 l1 x0 xl r0 r1 r2 I
    have al8 := hB.2.1
    obtain ⟨zx1, zx2, tx⟩ := hB.2.2 x x0 xl
    refine ab_iload (pc := 10) dX1_letterFarOut_10 rfl ?_
    refine ab_if_lt (pc := 12) 113 dX1_letterFarOut_12 (by decide) (fun c12 => ?_) (fun c12 => ?_)
    · refine ab_iload_n (pc := 113) dX1_letterFarOut_113 rfl ?_
      refine ab_iret (pc := 114) dX1_letterFarOut_114 rfl ?_
      refine ⟨_, rfl, rfl, I x ?_, x0, xl⟩
      rw [show (lv + 1).toNat = 0 by omega]
      rfl
    · have tot : rs < pl (hsz z (tW t) lv.toNat) (tW t x) 0 (z x) := by rw [show (lv + 1).toNat = lv.toNat + 1 by omega] at r2; exact r2
      refine ab_iload_n (pc := 15) dX1_letterFarOut_15 rfl ?_
      refine ab_bipush (pc := 16) dX1_letterFarOut_16 (by decide) ?_
      refine ab_imul (pc := 18) dX1_letterFarOut_18 (by omega) (by omega) ?_
      refine ab_istore (pc := 19) dX1_letterFarOut_19 rfl (Nat.le_of_ble_eq_true rfl) ?_
      refine ab_iconst (pc := 21) dX1_letterFarOut_21 (by decide) ?_
      refine ab_istore (pc := 22) dX1_letterFarOut_22 rfl (Nat.le_of_ble_eq_true rfl) ?_
      have g24 := fun hC => c_far_24 (l := l) (E := E) (p := p) (x1 := x1) hB gr a0 a1 (by omega) (by omega) x0 xl r0 r1 tot hC ha hz ht hg _ 0 (Nat.lt_succ_self _) (by omega) (by omega) (by rw [pl0]; omega)
      rw [show rs - pl (hsz z (tW t) lv.toNat) (tW t x) 0 0 = rs by rw [pl0]; omega] at g24
      refine g24 (fun i i0 i1 q1 q2 => ?_)
      have e1 : t (x * 20 + i) = t (20 * x + i) := by rw [Int.mul_comm x 20]
      have w9 := tx i i0 i1
      have pz := pl_ge (z := hsz z (tW t) lv.toNat) (sh := tW t x) (q := 0) (n := z x) (fun k k0 k1 => hsz_1 hB lv.toNat _ (by rw [Int.zero_add]; exact (tx k k0 k1).1) (by rw [Int.zero_add]; exact (tx k k0 k1).2)) i i0 (by omega)
      refine ab_aload_n (pc := 96) dX1_letterFarOut_96 rfl ?_
      refine ab_get (pc := 97) (k := 2) okX1 ha rfl w889 rfl dX1_letterFarOut_97 ?_
      refine ab_iload (pc := 100) dX1_letterFarOut_100 rfl ?_
      refine ab_iload (pc := 102) dX1_letterFarOut_102 rfl ?_
      refine ab_iadd (pc := 104) dX1_letterFarOut_104 (by omega) (by omega) ?_
      refine ab_iald (pc := 105) ht (by omega) (by omega) dX1_letterFarOut_105 ?_
      rw [e1]
      refine ab_istore_n (pc := 106) dX1_letterFarOut_106 rfl (Nat.le_of_ble_eq_true rfl) ?_
      refine ab_iinc (pc := 107) dX1_letterFarOut_107 rfl rfl (by decide) (by omega) (by omega) ?_
      refine ab_goto (pc := 110) 10 dX1_letterFarOut_110 (by decide) ?_
      refine ih _ (rs - pl (hsz z (tW t) lv.toNat) (tW t x) 0 i) (lv - 1) _ _ (by omega) (by omega) (by omega) w9.1 w9.2 (by omega) (by omega) ?_ (fun y hy => I y ?_)
      · have st : pl (hsz z (tW t) lv.toNat) (tW t x) 0 (i + 1) = pl (hsz z (tW t) lv.toNat) (tW t x) 0 i + hsz z (tW t) lv.toNat (t (20 * x + i)) := pl0q i0
        rw [show lv - 1 + 1 = lv by omega]
        omega
      · rw [show lv - 1 + 1 = lv by omega] at hy
        rw [show (lv + 1).toNat = lv.toNat + 1 by omega]
        exact ⟨i, i0, i1, q1, q2, hy⟩
theorem c_far (hG : ab_G l E) {a b1 b2 b3 g : Nat} {al : Int} {z t : Int → Int} {gz : Int → Int} {x1 p : Int} (ha : h0 a = some (kO g 0 [vI al, vR b1, vR b2, vR b3])) (hz : h0 b1 = some (kI (g + 1) 8 z)) (ht : h0 b2 = some (kI (g + 2) 160 t)) (hg : h0 b3 = some (kJ (g + 3) 248 gz)) (hB : mpB al z t) (gr : grOk gz z t al 31) (a0 : 0 ≤ x1) (a1 : x1 < al) (p0 : 0 ≤ p) (p1 : p < 2147483648) (p2 : p < hsz z (tW t) 31 x1) : ab_M l E Y_X1_letterFarOut 9 0 0 0 [vR a, vI x1, vI p] h0 (pC h0 (fun v => LT z (tW t) 31 x1 p v ∧ 0 ≤ v ∧ v < al)) := by
  refine ab_M.of (L0 := [some (vR a), some (vI x1), some (vI p), none, none, none, none, none, none]) hG rfl rfl (Nat.le_of_ble_eq_true rfl) rfl ?_
  refine ab_iload_n (pc := 0) dX1_letterFarOut_0 rfl ?_
  refine ab_istore_n (pc := 1) dX1_letterFarOut_1 rfl (Nat.le_of_ble_eq_true rfl) ?_
  refine ab_iload_n (pc := 2) dX1_letterFarOut_2 rfl ?_
  refine ab_i2l (pc := 3) dX1_letterFarOut_3 ?_
  refine ab_lstore (pc := 4) dX1_letterFarOut_4 rfl (Nat.le_of_ble_eq_true rfl) ?_
  refine ab_bipush (pc := 6) dX1_letterFarOut_6 (by decide) ?_
  refine ab_istore (pc := 8) dX1_letterFarOut_8 rfl (Nat.le_of_ble_eq_true rfl) ?_
  exact c_far_10 hB gr a0 a1 ha hz ht hg _ x1 p 30 _ _ (Nat.lt_succ_self _) (by omega) (by omega) a0 a1 p0 p1 p2 (fun y hy => hy)
theorem c_newMap (hG : ab_G l E) {a : Nat} (g : Nat) (ha : h0 a = some (kO g 0 [vI 0, vN, vN, vN])) (g0 : 400 ≤ g) : ab_M l E Y_X1_init 1 1 3 416 [vR a] h0 (cC h0 [g] (fun r h' => r = none ∧ ∃ b1 b2 b3 : Nat, h' a = some (kO g 0 [vI 0, vR b1, vR b2, vR b3]) ∧ h' b1 = some (kI (g + 1) 8 (fun _ => 0)) ∧ h' b2 = some (kI (g + 2) 160 (fun _ => 0)) ∧ h' b3 = some (kJ (g + 3) 248 (fun _ => 0)))) := by
  refine ab_M.of (L0 := [some (vR a)]) hG rfl rfl (Nat.le_of_ble_eq_true rfl) rfl ?_
  have kp : ab_kp (cP [g]) h0 h0 := ab_kp0
  refine ab_aload_n (pc := 0) dX1_init_0 rfl ?_
  refine ab_obj (pc := 1) w885 w37 w38 (by decide) (Nat.le_of_ble_eq_true rfl) dX1_init_1 ?_
  refine ab_aload_n (pc := 4) dX1_init_4 rfl ?_
  refine ab_bipush (pc := 5) dX1_init_5 (by decide) ?_
  refine ab_newIG (pc := 7) (g + 1) (8) rfl (by decide) dX1_init_7 w111 (fun a_hz h z9 e9 n9 => ?_)
  replace ha := (n9 _ (ab_nn ha z9)).trans ha
  replace kp := kp.new z9 n9
  have hz := e9
  clear e9 n9
  refine ab_putG (pc := 9) (k := 1) okX1 ha (by omega) (by decide) trivial w888 rfl (Or.inr ⟨rfl, rfl, rfl⟩) dX1_init_9 (fun h e9 n9 => ?_)
  replace hz := (n9 _ (ab_ne hz ha (by first | (simp; done) | (simp; omega)))).trans hz
  replace kp := kp.wr ha (cP_no (by simp)) n9
  replace ha := e9
  clear e9 n9
  refine ab_aload_n (pc := 12) dX1_init_12 rfl ?_
  refine ab_sipush (pc := 13) dX1_init_13 (by decide) ?_
  refine ab_newIG (pc := 16) (g + 2) (160) rfl (by decide) dX1_init_16 w111 (fun a_ht h z9 e9 n9 => ?_)
  replace ha := (n9 _ (ab_nn ha z9)).trans ha
  replace hz := (n9 _ (ab_nn hz z9)).trans hz
  replace kp := kp.new z9 n9
  have ht := e9
  clear e9 n9
  refine ab_putG (pc := 18) (k := 2) okX1 ha (by omega) (by decide) trivial w889 rfl (Or.inr ⟨rfl, rfl, rfl⟩) dX1_init_18 (fun h e9 n9 => ?_)
  replace hz := (n9 _ (ab_ne hz ha (by first | (simp; done) | (simp; omega)))).trans hz
  replace ht := (n9 _ (ab_ne ht ha (by first | (simp; done) | (simp; omega)))).trans ht
  replace kp := kp.wr ha (cP_no (by simp)) n9
  replace ha := e9
  clear e9 n9
  refine ab_aload_n (pc := 21) dX1_init_21 rfl ?_
  refine ab_sipush (pc := 22) dX1_init_22 (by decide) ?_
  refine ab_newJG (pc := 25) (g + 3) (248) rfl (by decide) dX1_init_25 w900 (fun a_hg h z9 e9 n9 => ?_)
  replace ha := (n9 _ (ab_nn ha z9)).trans ha
  replace hz := (n9 _ (ab_nn hz z9)).trans hz
  replace ht := (n9 _ (ab_nn ht z9)).trans ht
  replace kp := kp.new z9 n9
  have hg := e9
  clear e9 n9
  refine ab_putG (pc := 27) (k := 3) okX1 ha (by omega) (by decide) trivial w890 rfl (Or.inr ⟨rfl, rfl, rfl⟩) dX1_init_27 (fun h e9 n9 => ?_)
  replace hz := (n9 _ (ab_ne hz ha (by first | (simp; done) | (simp; omega)))).trans hz
  replace ht := (n9 _ (ab_ne ht ha (by first | (simp; done) | (simp; omega)))).trans ht
  replace hg := (n9 _ (ab_ne hg ha (by first | (simp; done) | (simp; omega)))).trans hg
  replace kp := kp.wr ha (cP_no (by simp)) n9
  replace ha := e9
  clear e9 n9
  refine ab_vret (pc := 30) dX1_init_30 rfl ?_
  exact ⟨_, rfl, kp, rfl, _, _, _, ha, hz, ht, hg⟩
end C12
