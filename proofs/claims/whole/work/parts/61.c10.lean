/-! the class: maps -/
section C10
variable {l : Launch} {E : AbE} {h0 : AbH}
theorem c_minJ (hG : ab_G l E) {a b : Int}  : ab_M l E Y_J9_min_f86c9 4 0 0 0 [vL a, vL b] h0 (pJ h0 (fun v => (v = a ∧ a ≤ b) ∨ (v = b ∧ b < a))) := by
  refine ab_M.ofF (L0 := [some (vL a), none, some (vL b), none]) hG (by decide +kernel) rfl (Nat.le_of_ble_eq_true rfl) rfl ?_
  refine ab_lload_n (pc := 0) dJ9_min_f86c9_0 rfl ?_
  refine ab_lload_n (pc := 1) dJ9_min_f86c9_1 rfl ?_
  refine ab_lcm (pc := 2) dJ9_min_f86c9_2 ?_
  refine ab_if_gt (pc := 3) 10 dJ9_min_f86c9_3 (by decide) (fun c3 => ?_) (fun c3 => ?_)
  · rw [lcmp_pos] at c3
    refine ab_lload_n (pc := 10) dJ9_min_f86c9_10 rfl ?_
    refine ab_lret (pc := 11) dJ9_min_f86c9_11 rfl ?_
    exact ⟨_, rfl, rfl, by omega⟩
  · rw [lcmp_pos] at c3
    refine ab_lload_n (pc := 6) dJ9_min_f86c9_6 rfl ?_
    refine ab_goto (pc := 7) 11 dJ9_min_f86c9_7 (by decide) ?_
    refine ab_lret (pc := 11) dJ9_min_f86c9_11 rfl ?_
    exact ⟨_, rfl, rfl, by omega⟩
theorem c_fillJ_10 {w g N : Nat} {f : Int → Int} {a b x : Int} {d : Nat} (m2 : 2 ≤ g) (h1 : a ≤ b) (h2 : 0 ≤ a) (h3 : b ≤ N) (hN : N < 100000)   (fu : Nat) : ∀ (i : Int) (h : AbH), (b - a - i).toNat < fu → h w = some (kJ g N (fil f a i (fun _ => x))) → ab_kp (cP [g]) h0 h → (0 ≤ i) → (i ≤ b - a) → ab_T l E Y_J7_fill_bad5a d 0 0 10 [some (vR w), some (vI a), some (vI b), some (vL x), none, some (vI (a + i))] [] h (cC h0 [g] (fun r h' => r = none ∧ h' w = some (kJ g N (fil f a (b - a) (fun _ => x))))) := by
  induction fu with
  | zero => intro i h hms9; exact absurd hms9 (Nat.not_lt_zero _)
  | succ fu ih =>
    intro i h hms9 hw kp i0 i1
    refine ab_iload (pc := 10) dJ7_fill_bad5a_10 rfl ?_
    refine ab_iload_n (pc := 12) dJ7_fill_bad5a_12 rfl ?_
    refine ab_icmp_ge (pc := 13) 27 dJ7_fill_bad5a_13 (by decide) (fun c13 => ?_) (fun c13 => ?_)
    · refine ab_vret (pc := 27) dJ7_fill_bad5a_27 rfl ?_
      obtain rfl : i = b - a := by omega
      exact ⟨_, rfl, kp, rfl, hw⟩
    · refine ab_aload_n (pc := 16) dJ7_fill_bad5a_16 rfl ?_
      refine ab_iload (pc := 17) dJ7_fill_bad5a_17 rfl ?_
      refine ab_lload_n (pc := 19) dJ7_fill_bad5a_19 rfl ?_
      refine ab_lastG (pc := 20) hw m2 (by omega) (by omega) dJ7_fill_bad5a_20 (fun h e9 n9 => ?_)
      replace kp := kp.wr hw (cP_no (by simp)) n9
      replace hw := e9
      clear e9 n9
      have e8 := hw
      refine ab_iinc (pc := 21) dJ7_fill_bad5a_21 rfl rfl (by decide) (by omega) (by omega) ?_
      refine ab_goto (pc := 24) 10 dJ7_fill_bad5a_24 (by decide) ?_
      have g9 := ih (i + 1) _ (by omega) (e8.trans (by rw [fil_step i0 rfl])) kp (by omega) (by omega)
      rw [show a + (i + 1) = a + i + 1 by omega] at g9
      exact g9
theorem c_fillJ (hG : ab_G l E) {w g N : Nat} {f : Int → Int} {a b x : Int} (m2 : 2 ≤ g) (h1 : a ≤ b) (h2 : 0 ≤ a) (h3 : b ≤ N) (hN : N < 100000) (hw : h0 w = some (kJ g N f)) : ab_M l E Y_J7_fill_bad5a 6 1 0 0 [vR w, vI a, vI b, vL x] h0 (cC h0 [g] (fun r h' => r = none ∧ h' w = some (kJ g N (fil f a (b - a) (fun _ => x))))) := by
  refine ab_M.of (L0 := [some (vR w), some (vI a), some (vI b), some (vL x), none, none]) hG rfl rfl (Nat.le_of_ble_eq_true rfl) rfl ?_
  have kp : ab_kp (cP [g]) h0 h0 := ab_kp0
  refine ab_aload_n (pc := 0) dJ7_fill_bad5a_0 rfl ?_
  refine ab_alenJ (pc := 1) hw dJ7_fill_bad5a_1 ?_
  refine ab_iload_n (pc := 2) dJ7_fill_bad5a_2 rfl ?_
  refine ab_iload_n (pc := 3) dJ7_fill_bad5a_3 rfl ?_
  refine ab_callS (pc := 4) (c_rangeCheck hG (by omega) (by omega) (by omega)) ⟨w300, w12, w302, by decide, pd13⟩ w301 rfl (by decide) (by decide) (Nat.le_of_ble_eq_true rfl) rfl dJ7_fill_bad5a_4 (fun _ _ hx => absurd hx pV_no) ?_
  rintro _ _ ⟨e9, rfl⟩
  cases e9
  refine ab_iload_n (pc := 7) dJ7_fill_bad5a_7 rfl ?_
  refine ab_istore (pc := 8) dJ7_fill_bad5a_8 rfl (Nat.le_of_ble_eq_true rfl) ?_
  have g9 := c_fillJ_10 (l := l) (E := E) (f := f) (a := a) (b := b) (x := x) (d := 1) m2 h1 h2 h3 hN _ 0 _ (Nat.lt_succ_self _) (hw.trans (by rw [← fil0])) kp (by omega) (by omega)
  rw [Int.add_zero] at g9
  exact g9
theorem c_tell (hG : ab_G l E) {a b1 b2 b3 g : Nat} {al : Int} {z t : Int → Int} {w : Nat} {f : Int → Int} {x n : Int} (ha : h0 a = some (kO g 0 [vI al, vR b1, vR b2, vR b3])) (hz : h0 b1 = some (kI (g + 1) 8 z)) (ht : h0 b2 = some (kI (g + 2) 160 t)) (hw : h0 w = some (kI 10 60 f)) (g0 : 400 ≤ g) (x0 : 0 ≤ x) (x1 : x < 8) (n0 : 0 ≤ n) (n1 : n ≤ 20) : ab_M l E Y_X1_tell 4 2 0 0 [vR a, vI x, vR w, vI n] h0 (cC h0 [g + 1, g + 2] (fun r h' => r = none ∧ h' b1 = some (kI (g + 1) 8 (ab_f z x n)) ∧ h' b2 = some (kI (g + 2) 160 (fil t (20 * x) n f)))) := by
  refine ab_M.of (L0 := [some (vR a), some (vI x), some (vR w), some (vI n)]) hG rfl rfl (Nat.le_of_ble_eq_true rfl) rfl ?_
  have kp : ab_kp (cP [g + 1, g + 2]) h0 h0 := ab_kp0
  refine ab_aload_n (pc := 0) dX1_tell_0 rfl ?_
  refine ab_iconst (pc := 1) dX1_tell_1 (by decide) ?_
  refine ab_aload_n (pc := 2) dX1_tell_2 rfl ?_
  refine ab_get (pc := 3) (k := 2) okX1 ha rfl w889 rfl dX1_tell_3 ?_
  refine ab_iload_n (pc := 6) dX1_tell_6 rfl ?_
  refine ab_bipush (pc := 7) dX1_tell_7 (by decide) ?_
  refine ab_imul (pc := 9) dX1_tell_9 (by omega) (by omega) ?_
  refine ab_iload_n (pc := 10) dX1_tell_10 rfl ?_
  refine ab_copyG (pc := 11) hw ht (by omega) (by omega) (by omega) (by omega) (by omega) (by omega) w909 w381 w380 w20 (by decide) (Nat.le_of_ble_eq_true rfl) dX1_tell_11 (fun h e9 n9 => ?_)
  replace ha := (n9 _ (ab_ne ha ht (by first | (simp; done) | (simp; omega)))).trans ha
  replace hz := (n9 _ (ab_ne hz ht (by first | (simp; done) | (simp; omega)))).trans hz
  replace hw := (n9 _ (ab_ne hw ht (by first | (simp; done) | (simp; omega)))).trans hw
  replace kp := kp.wr ht (cP_no (by simp)) n9
  replace ht := e9
  clear e9 n9
  refine ab_aload_n (pc := 14) dX1_tell_14 rfl ?_
  refine ab_get (pc := 15) (k := 1) okX1 ha rfl w888 rfl dX1_tell_15 ?_
  refine ab_iload_n (pc := 18) dX1_tell_18 rfl ?_
  refine ab_iload_n (pc := 19) dX1_tell_19 rfl ?_
  refine ab_iastG (pc := 20) hz (by omega) (by omega) (by omega) dX1_tell_20 (fun h e9 n9 => ?_)
  replace ha := (n9 _ (ab_ne ha hz (by first | (simp; done) | (simp; omega)))).trans ha
  replace ht := (n9 _ (ab_ne ht hz (by first | (simp; done) | (simp; omega)))).trans ht
  replace hw := (n9 _ (ab_ne hw hz (by first | (simp; done) | (simp; omega)))).trans hw
  replace kp := kp.wr hz (cP_no (by simp)) n9
  replace hz := e9
  clear e9 n9
  refine ab_vret (pc := 21) dX1_tell_21 rfl ?_
  have e9 : ab_cpy f t 0 (x * 20) n = fil t (20 * x) n f := by funext j; unfold ab_cpy fil; rw [show x * 20 = 20 * x by omega, Int.zero_add]
  rw [e9] at ht
  exact ⟨_, rfl, kp, rfl, hz, ht⟩
theorem c_sizeFor (hG : ab_G l E) {a b1 b2 b3 g : Nat} {al : Int} {z t : Int → Int} {x : Int} (ha : h0 a = some (kO g 0 [vI al, vR b1, vR b2, vR b3])) (hz : h0 b1 = some (kI (g + 1) 8 z)) (x0 : 0 ≤ x) (x1 : x < 8) : ab_M l E Y_X1_sizeFor 2 0 0 0 [vR a, vI x] h0 (pC h0 (fun v => v = z x)) := by
  refine ab_M.of (L0 := [some (vR a), some (vI x)]) hG rfl rfl (Nat.le_of_ble_eq_true rfl) rfl ?_
  refine ab_aload_n (pc := 0) dX1_sizeFor_0 rfl ?_
  refine ab_get (pc := 1) (k := 1) okX1 ha rfl w888 rfl dX1_sizeFor_1 ?_
  refine ab_iload_n (pc := 4) dX1_sizeFor_4 rfl ?_
  refine ab_iald (pc := 5) hz (by omega) (by omega) dX1_sizeFor_5 ?_
  refine ab_iret (pc := 6) dX1_sizeFor_6 rfl ?_
  exact ⟨_, rfl, rfl, rfl⟩
theorem c_imgSize_5 {a b1 b2 b3 g : Nat} {al : Int} {z t : Int → Int} {gz : Int → Int} {lv x : Int} (hB : mpB al z t) (l0 : 0 ≤ lv) (l1 : lv < 30) (x0 : 0 ≤ x) (x1 : x < al) (gb : ∀ y : Int, 0 ≤ y → y < al → 0 ≤ gz (8 * lv + y) ∧ gz (8 * lv + y) ≤ 2147483648) (ha : h0 a = some (kO g 0 [vI al, vR b1, vR b2, vR b3])) (hz : h0 b1 = some (kI (g + 1) 8 z)) (ht : h0 b2 = some (kI (g + 2) 160 t)) (hg : h0 b3 = some (kJ (g + 3) 248 gz))  (fu : Nat) : ∀ (i : Int), (z x - i).toNat < fu → (0 ≤ i) → (i ≤ z x) → (0 ≤ pl (fun y => gz (8 * lv + y)) (tW t x) 0 i ∧ pl (fun y => gz (8 * lv + y)) (tW t x) 0 i ≤ 2147483648 * i) → ab_T l E Y_X1_imageSize 0 0 0 5 [some (vR a), some (vI lv), some (vI x), some (vL (pl (fun y => gz (8 * lv + y)) (tW t x) 0 i)), none, some (vI i)] [] h0 (pJ h0 (fun v => v = pl (fun y => gz (8 * lv + y)) (tW t x) 0 (z x))) := by
  induction fu with
  | zero => intro i hms9; exact absurd hms9 (Nat.not_lt_zero _)
  | succ fu ih =>
    intro i hms9 i0 i1 sb
    have al8 := hB.2.1
    obtain ⟨zx1, zx2, tx⟩ := hB.2.2 x x0 x1
    refine ab_iload (pc := 5) dX1_imageSize_5 rfl ?_
    refine ab_aload_n (pc := 7) dX1_imageSize_7 rfl ?_
    refine ab_get (pc := 8) (k := 1) okX1 ha rfl w888 rfl dX1_imageSize_8 ?_
    refine ab_iload_n (pc := 11) dX1_imageSize_11 rfl ?_
    refine ab_iald (pc := 12) hz (by omega) (by omega) dX1_imageSize_12 ?_
    refine ab_icmp_ge (pc := 13) 47 dX1_imageSize_13 (by decide) (fun c13 => ?_) (fun c13 => ?_)
    · refine ab_lload_n (pc := 47) dX1_imageSize_47 rfl ?_
      refine ab_lret (pc := 48) dX1_imageSize_48 rfl ?_
      obtain rfl : i = z x := by omega
      exact ⟨_, rfl, rfl, rfl⟩
    · have w9 := tx i i0 (by omega)
      have v9 := gb _ w9.1 w9.2
      have st : pl (fun y => gz (8 * lv + y)) (tW t x) 0 (i + 1) = pl (fun y => gz (8 * lv + y)) (tW t x) 0 i + gz (8 * lv + t (20 * x + i)) := pl0q (z := fun y => gz (8 * lv + y)) (sh := tW t x) i0
      have e1 : t (x * 20 + i) = t (20 * x + i) := by rw [Int.mul_comm x 20]
      refine ab_lload_n (pc := 16) dX1_imageSize_16 rfl ?_
      refine ab_aload_n (pc := 17) dX1_imageSize_17 rfl ?_
      refine ab_get (pc := 18) (k := 3) okX1 ha rfl w890 rfl dX1_imageSize_18 ?_
      refine ab_iload_n (pc := 21) dX1_imageSize_21 rfl ?_
      refine ab_bipush (pc := 22) dX1_imageSize_22 (by decide) ?_
      refine ab_imul (pc := 24) dX1_imageSize_24 (by omega) (by omega) ?_
      refine ab_aload_n (pc := 25) dX1_imageSize_25 rfl ?_
      refine ab_get (pc := 26) (k := 2) okX1 ha rfl w889 rfl dX1_imageSize_26 ?_
      refine ab_iload_n (pc := 29) dX1_imageSize_29 rfl ?_
      refine ab_bipush (pc := 30) dX1_imageSize_30 (by decide) ?_
      refine ab_imul (pc := 32) dX1_imageSize_32 (by omega) (by omega) ?_
      refine ab_iload (pc := 33) dX1_imageSize_33 rfl ?_
      refine ab_iadd (pc := 35) dX1_imageSize_35 (by omega) (by omega) ?_
      refine ab_iald (pc := 36) ht (by omega) (by omega) dX1_imageSize_36 ?_
      rw [e1]
      refine ab_iadd (pc := 37) dX1_imageSize_37 (by omega) (by omega) ?_
      refine ab_lald (pc := 38) hg (by omega) (by omega) dX1_imageSize_38 ?_
      refine ab_ladd (pc := 39) dX1_imageSize_39 ?_
      rw [show ab_w64 (pl (fun y => gz (8 * lv + y)) (tW t x) 0 i + gz (lv * 8 + t (20 * x + i))) = pl (fun y => gz (8 * lv + y)) (tW t x) 0 (i + 1) by rw [Int.mul_comm lv 8, st, w64_id (by omega) (by omega)]]
      refine ab_lstore_n (pc := 40) dX1_imageSize_40 rfl (Nat.le_of_ble_eq_true rfl) ?_
      refine ab_iinc (pc := 41) dX1_imageSize_41 rfl rfl (by decide) (by omega) (by omega) ?_
      refine ab_goto (pc := 44) 5 dX1_imageSize_44 (by decide) ?_
      exact ih (i + 1) (by omega) (by omega) (by omega) (by rw [st]; omega)
theorem c_imgSize (hG : ab_G l E) {a b1 b2 b3 g : Nat} {al : Int} {z t : Int → Int} {gz : Int → Int} {lv x : Int} (ha : h0 a = some (kO g 0 [vI al, vR b1, vR b2, vR b3])) (hz : h0 b1 = some (kI (g + 1) 8 z)) (ht : h0 b2 = some (kI (g + 2) 160 t)) (hg : h0 b3 = some (kJ (g + 3) 248 gz)) (hB : mpB al z t) (l0 : 0 ≤ lv) (l1 : lv < 30) (x0 : 0 ≤ x) (x1 : x < al) (gb : ∀ y : Int, 0 ≤ y → y < al → 0 ≤ gz (8 * lv + y) ∧ gz (8 * lv + y) ≤ 2147483648) : ab_M l E Y_X1_imageSize 6 0 0 0 [vR a, vI lv, vI x] h0 (pJ h0 (fun v => v = pl (fun y => gz (8 * lv + y)) (tW t x) 0 (z x))) := by
  refine ab_M.of (L0 := [some (vR a), some (vI lv), some (vI x), none, none, none]) hG rfl rfl (Nat.le_of_ble_eq_true rfl) rfl ?_
  refine ab_lconst (pc := 0) dX1_imageSize_0 0 rfl ?_
  refine ab_lstore_n (pc := 1) dX1_imageSize_1 rfl (Nat.le_of_ble_eq_true rfl) ?_
  refine ab_iconst (pc := 2) dX1_imageSize_2 (by decide) ?_
  refine ab_istore (pc := 3) dX1_imageSize_3 rfl (Nat.le_of_ble_eq_true rfl) ?_
  exact c_imgSize_5 hB l0 l1 x0 x1 gb ha hz ht hg _ 0 (Nat.lt_succ_self _) (by omega) (by have := (hB.2.2 x x0 x1).1; omega) (by rw [pl0]; omega)
theorem c_measure_21 {a b1 b2 b3 g : Nat} {al : Int} {z t : Int → Int} {lv : Int} (hG : ab_G l E) (hB : mpB al z t) (g0 : 400 ≤ g) (l0 : 1 ≤ lv) (l1 : lv < 31) (hC : ∀ (h : AbH) (gz : Int → Int), h a = some (kO g 0 [vI al, vR b1, vR b2, vR b3]) → h b1 = some (kI (g + 1) 8 z) → h b2 = some (kI (g + 2) 160 t) → h b3 = some (kJ (g + 3) 248 gz) → ab_kp (cP [g + 3]) h0 h → grOk gz z t al (lv + 1) → ab_T l E Y_X1_measure 2 0 0 60 [some (vR a), some (vI lv), some (vI al)] [] h (cC h0 [g + 3] (fun r h' => r = none ∧ ∃ gz : Int → Int, h' b3 = some (kJ (g + 3) 248 gz) ∧ grOk gz z t al 31)))   (fu : Nat) : ∀ (x : Int) (gz : Int → Int) (h : AbH), (al - x).toNat < fu → h a = some (kO g 0 [vI al, vR b1, vR b2, vR b3]) → h b1 = some (kI (g + 1) 8 z) → h b2 = some (kI (g + 2) 160 t) → h b3 = some (kJ (g + 3) 248 gz) → ab_kp (cP [g + 3]) h0 h → (0 ≤ x) → (x ≤ al) → (grOk gz z t al lv) → (∀ y : Int, 0 ≤ y → y < x → gz (8 * lv + y) = cap (hsz z (tW t) lv.toNat y)) → ab_T l E Y_X1_measure 2 0 0 21 [some (vR a), some (vI lv), some (vI x)] [] h (cC h0 [g + 3] (fun r h' => r = none ∧ ∃ gz : Int → Int, h' b3 = some (kJ (g + 3) 248 gz) ∧ grOk gz z t al 31)) := by
  induction fu with
  | zero => intro x gz h hms9; exact absurd hms9 (Nat.not_lt_zero _)
  | succ fu ih =>
    intro x gz h hms9 ha hz ht hg kp x0 x1 I I2
    have al8 := hB.2.1
    refine ab_iload_n (pc := 21) dX1_measure_21 rfl ?_
    refine ab_aload_n (pc := 22) dX1_measure_22 rfl ?_
    refine ab_get (pc := 23) (k := 0) okX1 ha rfl w886 rfl dX1_measure_23 ?_
    refine ab_icmp_ge (pc := 26) 60 dX1_measure_26 (by decide) (fun c26 => ?_) (fun c26 => ?_)
    · obtain rfl : x = al := by omega
      refine hC _ gz ha hz ht hg kp (fun r r1 y y0 y1 => ?_)
      by_cases e : (r : Int) = lv
      · have q := I2 y y0 y1
        rw [← e] at q
        rw [show (r : Int).toNat = r by omega] at q
        exact q
      · exact I r (by omega) y y0 y1
    · refine ab_aload_n (pc := 29) dX1_measure_29 rfl ?_
      refine ab_get (pc := 30) (k := 3) okX1 ha rfl w890 rfl dX1_measure_30 ?_
      refine ab_iload_n (pc := 33) dX1_measure_33 rfl ?_
      refine ab_bipush (pc := 34) dX1_measure_34 (by decide) ?_
      refine ab_imul (pc := 36) dX1_measure_36 (by omega) (by omega) ?_
      refine ab_iload_n (pc := 37) dX1_measure_37 rfl ?_
      refine ab_iadd (pc := 38) dX1_measure_38 (by omega) (by omega) ?_
      refine ab_ldc2 (pc := 39) dX1_measure_39 w917 ?_
      refine ab_aload_n (pc := 42) dX1_measure_42 rfl ?_
      refine ab_iload_n (pc := 43) dX1_measure_43 rfl ?_
      refine ab_iconst (pc := 44) dX1_measure_44 (by decide) ?_
      refine ab_isub (pc := 45) dX1_measure_45 (by omega) (by omega) ?_
      refine ab_iload_n (pc := 46) dX1_measure_46 rfl ?_
      refine ab_callV (pc := 47) (c_imgSize hG ha hz ht hg hB (by omega) (by omega) x0 (by omega) (fun y y0 y1 => by have q := I (lv - 1).toNat (by omega) y y0 y1; rw [show 8 * (((lv - 1).toNat : Nat) : Int) + y = 8 * (lv - 1) + y by omega] at q; rw [q]; have := hsz_1 hB (lv - 1).toNat y y0 y1; have := cap_le (hsz z (tW t) (lv - 1).toNat y); unfold cap at *; split <;> omega)) ha rfl ⟨w918, w29, w921, by decide, pd65⟩ w920 sp17 rfl (by decide) (by decide) (Nat.le_of_ble_eq_true rfl) rfl dX1_measure_47 (fun _ _ hx => absurd hx pJ_no) ?_
      rintro _ _ ⟨iv, e9, rfl, hiv⟩
      cases e9
      refine ab_callS (pc := 50) (c_minJ hG) ⟨w922, w19, w924, by decide, pd66⟩ w923 rfl (by decide) (by decide) (Nat.le_of_ble_eq_true rfl) rfl dX1_measure_50 (fun _ _ hx => absurd hx pJ_no) ?_
      rintro _ _ ⟨mv, e9, rfl, hmv⟩
      cases e9
      have ec : mv = cap (hsz z (tW t) lv.toNat x) := by
        obtain ⟨zx1, zx2, tx⟩ := hB.2.2 x x0 (by omega)
        have cp := cap_pl (h := hsz z (tW t) (lv - 1).toNat) (h' := fun y => gz (8 * (lv - 1) + y)) (sh := tW t x) (n := z x) (fun k k0 k1 => ⟨by have q : 1 ≤ hsz z (tW t) (lv - 1).toNat (tW t x k) := hsz_1 hB (lv - 1).toNat _ (tx k k0 k1).1 (tx k k0 k1).2; omega, by have q := I (lv - 1).toNat (by omega) _ (tx k k0 k1).1 (tx k k0 k1).2; rw [show 8 * (((lv - 1).toNat : Nat) : Int) + t (20 * x + k) = 8 * (lv - 1) + t (20 * x + k) by omega] at q; exact q⟩) (z x) (by omega) (Int.le_refl _)
        have e1 : hsz z (tW t) lv.toNat x = pl (hsz z (tW t) (lv - 1).toNat) (tW t x) 0 (z x) := by rw [show lv.toNat = (lv - 1).toNat + 1 by omega]; rfl
        rw [e1, ← cp.2.2, ← hiv]
        rw [show Int64.toInt 2147483648 = 2147483648 by decide] at hmv
        unfold cap; split <;> omega
      rw [ec]
      refine ab_lastG (pc := 53) hg (by omega) (by omega) (by omega) dX1_measure_53 (fun h e9 n9 => ?_)
      replace ha := (n9 _ (ab_ne ha hg (by first | (simp; done) | (simp; omega)))).trans ha
      replace hz := (n9 _ (ab_ne hz hg (by first | (simp; done) | (simp; omega)))).trans hz
      replace ht := (n9 _ (ab_ne ht hg (by first | (simp; done) | (simp; omega)))).trans ht
      replace kp := kp.wr hg (cP_no (by simp)) n9
      replace hg := e9
      clear e9 n9
      rw [Int.mul_comm lv 8] at hg
      refine ab_iinc (pc := 54) dX1_measure_54 rfl rfl (by decide) (by omega) (by omega) ?_
      refine ab_goto (pc := 57) 21 dX1_measure_57 (by decide) ?_
      refine ih (x + 1) _ _ (by omega) ha hz ht hg kp (by omega) (by omega) (fun r r1 y y0 y1 => ?_) (fun y y0 y1 => ?_)
      · rw [ab_f_ne (by omega)]; exact I r r1 y y0 y1
      · by_cases e : y = x
        · rw [e, ab_f_eq rfl]
        · rw [ab_f_ne (by omega)]; exact I2 y y0 (by omega)
theorem c_measure_13 {a b1 b2 b3 g : Nat} {al : Int} {z t : Int → Int} (hG : ab_G l E) (hB : mpB al z t) (g0 : 400 ≤ g)   (fu : Nat) : ∀ (lv : Int) (x9 : Option AbV) (gz : Int → Int) (h : AbH), (31 - lv).toNat < fu → h a = some (kO g 0 [vI al, vR b1, vR b2, vR b3]) → h b1 = some (kI (g + 1) 8 z) → h b2 = some (kI (g + 2) 160 t) → h b3 = some (kJ (g + 3) 248 gz) → ab_kp (cP [g + 3]) h0 h → (1 ≤ lv) → (lv ≤ 31) → (grOk gz z t al lv) → ab_T l E Y_X1_measure 2 0 0 13 [some (vR a), some (vI lv), x9] [] h (cC h0 [g + 3] (fun r h' => r = none ∧ ∃ gz : Int → Int, h' b3 = some (kJ (g + 3) 248 gz) ∧ grOk gz z t al 31)) := by
  induction fu with
  | zero => intro lv x9 gz h hms9; exact absurd hms9 (Nat.not_lt_zero _)
  | succ fu ih =>
    intro lv x9 gz h hms9 ha hz ht hg kp l0 l1 I
    refine ab_iload_n (pc := 13) dX1_measure_13 rfl ?_
    refine ab_bipush (pc := 14) dX1_measure_14 (by decide) ?_
    refine ab_icmp_ge (pc := 16) 66 dX1_measure_16 (by decide) (fun c16 => ?_) (fun c16 => ?_)
    · refine ab_vret (pc := 66) dX1_measure_66 rfl ?_
      obtain rfl : lv = 31 := by omega
      exact ⟨_, rfl, kp, rfl, _, hg, I⟩
    · refine ab_iconst (pc := 19) dX1_measure_19 (by decide) ?_
      refine ab_istore_n (pc := 20) dX1_measure_20 rfl (Nat.le_of_ble_eq_true rfl) ?_
      refine c_measure_21 hG hB g0 l0 (by omega) ?_ _ 0 _ _ (Nat.lt_succ_self _) ha hz ht hg kp (by omega) (by have := hB.1; omega) I (fun y y0 y1 => absurd y1 (by omega))
      intro h gz ha hz ht hg kp I
      refine ab_iinc (pc := 60) dX1_measure_60 rfl rfl (by decide) (by omega) (by omega) ?_
      refine ab_goto (pc := 63) 13 dX1_measure_63 (by decide) ?_
      exact ih (lv + 1) _ _ _ (by omega) ha hz ht hg kp (by omega) (by omega) I
theorem c_measure (hG : ab_G l E) {a b1 b2 b3 g : Nat} {al : Int} {z t : Int → Int} {gz : Int → Int} (ha : h0 a = some (kO g 0 [vI al, vR b1, vR b2, vR b3])) (hz : h0 b1 = some (kI (g + 1) 8 z)) (ht : h0 b2 = some (kI (g + 2) 160 t)) (hg : h0 b3 = some (kJ (g + 3) 248 gz)) (hB : mpB al z t) (g0 : 400 ≤ g) : ab_M l E Y_X1_measure 3 2 0 0 [vR a] h0 (cC h0 [g + 3] (fun r h' => r = none ∧ ∃ gz : Int → Int, h' b3 = some (kJ (g + 3) 248 gz) ∧ grOk gz z t al 31)) := by
  refine ab_M.of (L0 := [some (vR a), none, none]) hG rfl rfl (Nat.le_of_ble_eq_true rfl) rfl ?_
  have kp : ab_kp (cP [g + 3]) h0 h0 := ab_kp0
  refine ab_aload_n (pc := 0) dX1_measure_0 rfl ?_
  refine ab_get (pc := 1) (k := 3) okX1 ha rfl w890 rfl dX1_measure_1 ?_
  refine ab_iconst (pc := 4) dX1_measure_4 (by decide) ?_
  refine ab_bipush (pc := 5) dX1_measure_5 (by decide) ?_
  refine ab_lconst (pc := 7) dX1_measure_7 1 rfl ?_
  refine ab_callS (pc := 8) (c_fillJ hG (by omega) (by omega) (by omega) (by decide) (by decide) hg) ⟨w914, w12, w916, by decide, pd64⟩ w915 rfl (by decide) (by decide) (Nat.le_of_ble_eq_true rfl) rfl dX1_measure_8 (fun _ _ hx => absurd hx cC_no) ?_
  rintro _ h ⟨_, e9, kq, rfl, hg9⟩
  cases e9
  replace ha := kq _ _ ha (by unfold cP; first | (simp; done) | (simp; omega))
  replace hz := kq _ _ hz (by unfold cP; first | (simp; done) | (simp; omega))
  replace ht := kq _ _ ht (by unfold cP; first | (simp; done) | (simp; omega))
  replace kp := kp.cal kq (by first | (simp; done) | (simp; omega))
  replace hg := hg9
  refine ab_iconst (pc := 11) dX1_measure_11 (by decide) ?_
  refine ab_istore_n (pc := 12) dX1_measure_12 rfl (Nat.le_of_ble_eq_true rfl) ?_
  refine c_measure_13 hG hB g0 _ 1 _ _ _ (Nat.lt_succ_self _) ha hz ht hg kp (by omega) (by omega) (fun r r1 y y0 y1 => ?_)
  obtain rfl : r = 0 := by omega
  have := hB.2.1
  rw [fil_in (by omega) (by omega)]
  rfl
end C10
