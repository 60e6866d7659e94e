/-! the class: images, letters far out -/
section C11
variable {l : Launch} {E : AbE} {h0 : AbH}
theorem c_into_6 {a b1 b2 b3 g : Nat} {al : Int} {z t : Int → Int} {w gw N b : Nat} {f : Int → Int} {n : Int} (g0 : 400 ≤ g) (gw0 : gw = 9 ∨ gw = 10) (hB : mpB al z t) (n0 : 0 ≤ n) (n1 : n ≤ N) (N6 : N ≤ 60) (hf : ∀ j : Int, 0 ≤ j → j < n → 0 ≤ f j ∧ f j < al)   (fu : Nat) : ∀ (i : Int) (u : Int → Int) (x6 : Option AbV) (h : AbH), (n - i).toNat < fu → h a = some (kO g 0 [vI al, vR b1, vR b2, vR b3]) → h b1 = some (kI (g + 1) 8 z) → h b2 = some (kI (g + 2) 160 t) → h w = some (kI gw N f) → h b = some (kI 11 360 u) → ab_kp (cP [11]) h0 h → (0 ≤ i) → (i ≤ n) → (0 ≤ pl z f 0 i ∧ pl z f 0 i ≤ 360) → (Img z (tW t) f i u) → ab_T l E Y_X1_imageInto 2 0 0 6 [some (vR a), some (vR w), some (vI n), some (vR b), some (vI (pl z f 0 i)), some (vI i), x6] [] h (cC h0 [11] (fun r h' => ∃ (v : Int) (u : Int → Int), r = some (vI v) ∧ h' b = some (kI 11 360 u) ∧ ((v = -1 ∧ 360 < pl z f 0 n) ∨ (v = pl z f 0 n ∧ pl z f 0 n ≤ 360 ∧ Img z (tW t) f n u)))) := by
  induction fu with
  | zero => intro i u x6 h hms9; exact absurd hms9 (Nat.not_lt_zero _)
  | succ fu ih =>
    intro i u x6 h hms9 ha hz ht hw hi kp i0 i1 sb I
    have al8 := hB.2.1
    have hz1 : ∀ k : Int, 0 ≤ k → k < n → 1 ≤ z (f (0 + k)) := fun k k0 k1 => by rw [Int.zero_add]; exact (hB.2.2 _ (hf k k0 k1).1 (hf k k0 k1).2).1
    refine ab_iload (pc := 6) dX1_imageInto_6 rfl ?_
    refine ab_iload_n (pc := 8) dX1_imageInto_8 rfl ?_
    refine ab_icmp_ge (pc := 9) 75 dX1_imageInto_9 (by decide) (fun c9 => ?_) (fun c9 => ?_)
    · refine ab_iload (pc := 75) dX1_imageInto_75 rfl ?_
      refine ab_iret (pc := 77) dX1_imageInto_77 rfl ?_
      obtain rfl : i = n := by omega
      exact ⟨_, rfl, kp, _, _, rfl, hi, Or.inr ⟨rfl, by omega, I⟩⟩
    · have fi := hf i i0 (by omega)
      have zi := hB.2.2 _ fi.1 fi.2
      have st := pl0q (z := z) (sh := f) i0
      have mo := pl_mono (z := z) (sh := f) (q := 0) (n := n) (j := i + 1) hz1 (by omega) n (by omega) (Int.le_refl _) (by omega)
      refine ab_aload_n (pc := 12) dX1_imageInto_12 rfl ?_
      refine ab_iload (pc := 13) dX1_imageInto_13 rfl ?_
      refine ab_iald (pc := 15) hw (by omega) (by omega) dX1_imageInto_15 ?_
      refine ab_istore (pc := 16) dX1_imageInto_16 rfl (Nat.le_of_ble_eq_true rfl) ?_
      refine ab_iload (pc := 18) dX1_imageInto_18 rfl ?_
      refine ab_aload_n (pc := 20) dX1_imageInto_20 rfl ?_
      refine ab_get (pc := 21) (k := 1) okX1 ha rfl w888 rfl dX1_imageInto_21 ?_
      refine ab_iload (pc := 24) dX1_imageInto_24 rfl ?_
      refine ab_iald (pc := 26) hz (by omega) (by omega) dX1_imageInto_26 ?_
      refine ab_iadd (pc := 27) dX1_imageInto_27 (by omega) (by omega) ?_
      refine ab_aload_n (pc := 28) dX1_imageInto_28 rfl ?_
      refine ab_alen (pc := 29) hi dX1_imageInto_29 ?_
      refine ab_icmp_le (pc := 30) 35 dX1_imageInto_30 (by decide) (fun c30 => ?_) (fun c30 => ?_)
      · refine ab_aload_n (pc := 35) dX1_imageInto_35 rfl ?_
        refine ab_get (pc := 36) (k := 2) okX1 ha rfl w889 rfl dX1_imageInto_36 ?_
        refine ab_iload (pc := 39) dX1_imageInto_39 rfl ?_
        refine ab_bipush (pc := 41) dX1_imageInto_41 (by decide) ?_
        refine ab_imul (pc := 43) dX1_imageInto_43 (by omega) (by omega) ?_
        refine ab_aload_n (pc := 44) dX1_imageInto_44 rfl ?_
        refine ab_iload (pc := 45) dX1_imageInto_45 rfl ?_
        refine ab_aload_n (pc := 47) dX1_imageInto_47 rfl ?_
        refine ab_get (pc := 48) (k := 1) okX1 ha rfl w888 rfl dX1_imageInto_48 ?_
        refine ab_iload (pc := 51) dX1_imageInto_51 rfl ?_
        refine ab_iald (pc := 53) hz (by omega) (by omega) dX1_imageInto_53 ?_
        refine ab_copyG (pc := 54) ht hi (by decide) (by omega) (by omega) (by omega) (by omega) (by omega) w909 w381 w380 w20 (by decide) (Nat.le_of_ble_eq_true rfl) dX1_imageInto_54 (fun h e9 n9 => ?_)
        replace ha := (n9 _ (ab_ne ha hi (by first | (simp; done) | (simp; omega)))).trans ha
        replace hz := (n9 _ (ab_ne hz hi (by first | (simp; done) | (simp; omega)))).trans hz
        replace ht := (n9 _ (ab_ne ht hi (by first | (simp; done) | (simp; omega)))).trans ht
        replace hw := (n9 _ (ab_ne hw hi (by first | (simp; done) | (simp; omega)))).trans hw
        replace kp := kp.wr hi (cP_no (by simp)) n9
        replace hi := e9
        clear e9 n9
        rw [Int.mul_comm (f i) 20] at hi
        refine ab_iload (pc := 57) dX1_imageInto_57 rfl ?_
        refine ab_aload_n (pc := 59) dX1_imageInto_59 rfl ?_
        refine ab_get (pc := 60) (k := 1) okX1 ha rfl w888 rfl dX1_imageInto_60 ?_
        refine ab_iload (pc := 63) dX1_imageInto_63 rfl ?_
        refine ab_iald (pc := 65) hz (by omega) (by omega) dX1_imageInto_65 ?_
        refine ab_iadd (pc := 66) dX1_imageInto_66 (by omega) (by omega) ?_
        rw [← st]
        refine ab_istore (pc := 67) dX1_imageInto_67 rfl (Nat.le_of_ble_eq_true rfl) ?_
        refine ab_iinc (pc := 69) dX1_imageInto_69 rfl rfl (by decide) (by omega) (by omega) ?_
        refine ab_goto (pc := 72) 6 dX1_imageInto_72 (by decide) ?_
        exact ih (i + 1) _ _ _ (by omega) ha hz ht hw hi kp (by omega) (by omega) (by omega) (Img_step i0 (fun k k0 k1 => (hB.2.2 _ (hf k k0 (by omega)).1 (hf k k0 (by omega)).2).1) I)
      · refine ab_iconst (pc := 33) dX1_imageInto_33 (by decide) ?_
        refine ab_iret (pc := 34) dX1_imageInto_34 rfl ?_
        exact ⟨_, rfl, kp, _, _, rfl, hi, Or.inl ⟨rfl, by omega⟩⟩
theorem c_into (hG : ab_G l E) {a b1 b2 b3 g : Nat} {al : Int} {z t : Int → Int} {w gw N b : Nat} {f : Int → Int} {n : Int} {u : Int → Int} (ha : h0 a = some (kO g 0 [vI al, vR b1, vR b2, vR b3])) (hz : h0 b1 = some (kI (g + 1) 8 z)) (ht : h0 b2 = some (kI (g + 2) 160 t)) (hw : h0 w = some (kI gw N f)) (hi : h0 b = some (kI 11 360 u)) (g0 : 400 ≤ g) (gw0 : gw = 9 ∨ gw = 10) (hB : mpB al z t) (n0 : 0 ≤ n) (n1 : n ≤ N) (N6 : N ≤ 60) (hf : ∀ j : Int, 0 ≤ j → j < n → 0 ≤ f j ∧ f j < al) : ab_M l E Y_X1_imageInto 7 2 0 0 [vR a, vR w, vI n, vR b] h0 (cC h0 [11] (fun r h' => ∃ (v : Int) (u : Int → Int), r = some (vI v) ∧ h' b = some (kI 11 360 u) ∧ ((v = -1 ∧ 360 < pl z f 0 n) ∨ (v = pl z f 0 n ∧ pl z f 0 n ≤ 360 ∧ Img z (tW t) f n u)))) := by
  refine ab_M.of (L0 := [some (vR a), some (vR w), some (vI n), some (vR b), none, none, none]) hG rfl rfl (Nat.le_of_ble_eq_true rfl) rfl ?_
  have kp : ab_kp (cP [11]) h0 h0 := ab_kp0
  refine ab_iconst (pc := 0) dX1_imageInto_0 (by decide) ?_
  refine ab_istore (pc := 1) dX1_imageInto_1 rfl (Nat.le_of_ble_eq_true rfl) ?_
  refine ab_iconst (pc := 3) dX1_imageInto_3 (by decide) ?_
  refine ab_istore (pc := 4) dX1_imageInto_4 rfl (Nat.le_of_ble_eq_true rfl) ?_
  exact c_into_6 g0 gw0 hB n0 n1 N6 hf _ 0 u _ _ (Nat.lt_succ_self _) ha hz ht hw hi kp (by omega) (by omega) (by rw [pl0]; omega) (fun k k0 k1 => absurd k1 (by omega))
def lenS (al : Int) (z : Int → Int) (v : Int) : Prop := ∃ mo fe : Int, (∀ x : Int, 0 ≤ x → x < al → z x ≤ mo ∧ fe ≤ z x) ∧ (∃ x : Int, 0 ≤ x ∧ x < al ∧ z x = mo) ∧ (∃ x : Int, 0 ≤ x ∧ x < al ∧ z x = fe) ∧ v = (if (if 3 < mo then 1 + (mo - 3 + fe - 1) / fe else 1) < 3 then 3 else (if 3 < mo then 1 + (mo - 3 + fe - 1) / fe else 1))
theorem len_eq {mo fe m9 : Int} (f1 : 1 ≤ fe) (fm : fe ≤ mo) (hm : (m9 = 3 ∧ 1 + (mo - 3 + fe - 1).tdiv fe ≤ 3) ∨ (m9 = 1 + (mo - 3 + fe - 1).tdiv fe ∧ 3 < 1 + (mo - 3 + fe - 1).tdiv fe)) : m9 = (if (if 3 < mo then 1 + (mo - 3 + fe - 1) / fe else 1) < 3 then 3 else (if 3 < mo then 1 + (mo - 3 + fe - 1) / fe else 1)) := by
  by_cases g : 3 < mo
  · rw [if_pos g]
    rw [Int.tdiv_eq_ediv_of_nonneg (by omega)] at hm
    generalize 1 + (mo - 3 + fe - 1) / fe = q at *
    split <;> omega
  · rw [if_neg g, if_pos (by omega)]
    have : (mo - 3 + fe - 1).tdiv fe ≤ 0 := by
      by_cases g2 : 0 ≤ mo - 3 + fe - 1
      · rw [Int.tdiv_eq_ediv_of_nonneg g2, Int.ediv_eq_zero_of_lt g2 (by omega)]
        omega
      · have h9 : 0 ≤ (-(mo - 3 + fe - 1)).tdiv fe := Int.tdiv_nonneg (by omega) (by omega)
        rw [Int.neg_tdiv] at h9
        omega
    omega
theorem tdiv_bd {x fe : Int} (f1 : 1 ≤ fe) (h1 : -30 ≤ x) (h2 : x ≤ 60) : -30 ≤ x.tdiv fe ∧ x.tdiv fe ≤ 60 := by
  by_cases g : 0 ≤ x
  · rw [Int.tdiv_eq_ediv_of_nonneg g]
    have := Int.ediv_le_self fe g
    have := Int.ediv_nonneg g (show 0 ≤ fe by omega)
    omega
  · have e : x.tdiv fe = - ((-x).tdiv fe) := by rw [Int.neg_tdiv]; omega
    rw [e, Int.tdiv_eq_ediv_of_nonneg (by omega)]
    have := Int.ediv_le_self fe (show 0 ≤ -x by omega)
    have := Int.ediv_nonneg (show 0 ≤ -x by omega) (show 0 ≤ fe by omega)
    omega
def lenI (z : Int → Int) (x mo fe : Int) : Prop := (x = 0 ∧ mo = 1 ∧ fe = 20) ∨ ((∃ y : Int, 0 ≤ y ∧ y < x ∧ z y = mo) ∧ (∃ y : Int, 0 ≤ y ∧ y < x ∧ z y = fe))
theorem lenI_step {z : Int → Int} {x mo fe m9 f9 : Int} (x0 : 0 ≤ x) (h : lenI z x mo fe) (z1 : 1 ≤ z x) (z2 : z x ≤ 20) (hm : (m9 = mo ∧ z x ≤ mo) ∨ (m9 = z x ∧ mo < z x)) (hf : (f9 = fe ∧ fe ≤ z x) ∨ (f9 = z x ∧ z x < fe)) : lenI z (x + 1) m9 f9 := by
  refine Or.inr ?_
  rcases h with ⟨a, b, c⟩ | ⟨⟨y, y0, y1, y2⟩, ⟨u, u0, u1, u2⟩⟩
  · exact ⟨⟨x, x0, by omega, by omega⟩, ⟨x, x0, by omega, by omega⟩⟩
  · constructor
    · rcases hm with ⟨e, _⟩ | ⟨e, _⟩
      · exact ⟨y, y0, by omega, by omega⟩
      · exact ⟨x, x0, by omega, by omega⟩
    · rcases hf with ⟨e, _⟩ | ⟨e, _⟩
      · exact ⟨u, u0, by omega, by omega⟩
      · exact ⟨x, x0, by omega, by omega⟩
theorem c_len_7 {a b1 b2 b3 g : Nat} {al : Int} {z t : Int → Int} (hG : ab_G l E) (hB : mpB al z t) (ha : h0 a = some (kO g 0 [vI al, vR b1, vR b2, vR b3])) (hz : h0 b1 = some (kI (g + 1) 8 z))  (fu : Nat) : ∀ (mo fe x : Int), (al - x).toNat < fu → (0 ≤ x) → (x ≤ al) → (1 ≤ mo) → (mo ≤ 20) → (1 ≤ fe) → (fe ≤ 20) → (∀ y : Int, 0 ≤ y → y < x → z y ≤ mo ∧ fe ≤ z y) → (lenI z x mo fe) → ab_T l E Y_X1_lengthsToLookAt 1 0 0 7 [some (vR a), some (vI mo), some (vI fe), some (vI x)] [] h0 (pC h0 (fun v => lenS al z v)) := by
  induction fu with
  | zero => intro mo fe x hms9; exact absurd hms9 (Nat.not_lt_zero _)
  | succ fu ih =>
    intro mo fe x hms9 x0 x1 m0 m1 f0 f1 I I2
    have al1 := hB.1
    have al8 := hB.2.1
    refine ab_iload_n (pc := 7) dX1_lengthsToLookAt_7 rfl ?_
    refine ab_aload_n (pc := 8) dX1_lengthsToLookAt_8 rfl ?_
    refine ab_get (pc := 9) (k := 0) okX1 ha rfl w886 rfl dX1_lengthsToLookAt_9 ?_
    refine ab_icmp_ge (pc := 12) 43 dX1_lengthsToLookAt_12 (by decide) (fun c12 => ?_) (fun c12 => ?_)
    · refine ab_iload_n (pc := 43) dX1_lengthsToLookAt_43 rfl ?_
      refine ab_iconst (pc := 44) dX1_lengthsToLookAt_44 (by decide) ?_
      refine ab_icmp_ge (pc := 45) 52 dX1_lengthsToLookAt_45 (by decide) (fun c45 => ?_) (fun c45 => absurd c45 (by omega))
      refine ab_iconst (pc := 52) dX1_lengthsToLookAt_52 (by decide) ?_
      refine ab_iconst (pc := 53) dX1_lengthsToLookAt_53 (by decide) ?_
      refine ab_iload_n (pc := 54) dX1_lengthsToLookAt_54 rfl ?_
      refine ab_iconst (pc := 55) dX1_lengthsToLookAt_55 (by decide) ?_
      refine ab_isub (pc := 56) dX1_lengthsToLookAt_56 (by omega) (by omega) ?_
      refine ab_iload_n (pc := 57) dX1_lengthsToLookAt_57 rfl ?_
      refine ab_iadd (pc := 58) dX1_lengthsToLookAt_58 (by omega) (by omega) ?_
      refine ab_iconst (pc := 59) dX1_lengthsToLookAt_59 (by decide) ?_
      refine ab_isub (pc := 60) dX1_lengthsToLookAt_60 (by omega) (by omega) ?_
      refine ab_iload_n (pc := 61) dX1_lengthsToLookAt_61 rfl ?_
      have td := tdiv_bd (x := mo - 3 + fe - 1) f0 (by omega) (by omega)
      refine ab_idiv (pc := 62) dX1_lengthsToLookAt_62 (by omega) ?_
      refine ab_iadd (pc := 63) dX1_lengthsToLookAt_63 (by omega) (by omega) ?_
      refine ab_callS (pc := 64) (c_max hG) ⟨w968, w19, w360, by decide, pd18⟩ w359 rfl (by decide) (by decide) (Nat.le_of_ble_eq_true rfl) rfl dX1_lengthsToLookAt_64 (fun _ _ hx => absurd hx pC_no) ?_
      rintro _ _ ⟨lv, e9, rfl, hlv⟩
      cases e9
      refine ab_iret (pc := 67) dX1_lengthsToLookAt_67 rfl ?_
      obtain rfl : x = al := by omega
      rcases I2 with ⟨e, _⟩ | ⟨⟨y, y0, y1, y2⟩, ⟨u, u0, u1, u2⟩⟩
      · omega
      · exact ⟨_, rfl, rfl, mo, fe, I, ⟨y, y0, y1, y2⟩, ⟨u, u0, u1, u2⟩, len_eq f0 (by have := (I y y0 y1).2; omega) (by omega)⟩
    · have zx := (hB.2.2 x x0 (by omega))
      refine ab_iload_n (pc := 15) dX1_lengthsToLookAt_15 rfl ?_
      refine ab_aload_n (pc := 16) dX1_lengthsToLookAt_16 rfl ?_
      refine ab_get (pc := 17) (k := 1) okX1 ha rfl w888 rfl dX1_lengthsToLookAt_17 ?_
      refine ab_iload_n (pc := 20) dX1_lengthsToLookAt_20 rfl ?_
      refine ab_iald (pc := 21) hz (by omega) (by omega) dX1_lengthsToLookAt_21 ?_
      refine ab_callS (pc := 22) (c_max hG) ⟨w968, w19, w360, by decide, pd18⟩ w359 rfl (by decide) (by decide) (Nat.le_of_ble_eq_true rfl) rfl dX1_lengthsToLookAt_22 (fun _ _ hx => absurd hx pC_no) ?_
      rintro _ _ ⟨mv, e9, rfl, hmv⟩
      cases e9
      refine ab_istore_n (pc := 25) dX1_lengthsToLookAt_25 rfl (Nat.le_of_ble_eq_true rfl) ?_
      refine ab_iload_n (pc := 26) dX1_lengthsToLookAt_26 rfl ?_
      refine ab_aload_n (pc := 27) dX1_lengthsToLookAt_27 rfl ?_
      refine ab_get (pc := 28) (k := 1) okX1 ha rfl w888 rfl dX1_lengthsToLookAt_28 ?_
      refine ab_iload_n (pc := 31) dX1_lengthsToLookAt_31 rfl ?_
      refine ab_iald (pc := 32) hz (by omega) (by omega) dX1_lengthsToLookAt_32 ?_
      refine ab_callS (pc := 33) (c_min hG) ⟨w969, w19, w378, by decide, pd18⟩ w377 rfl (by decide) (by decide) (Nat.le_of_ble_eq_true rfl) rfl dX1_lengthsToLookAt_33 (fun _ _ hx => absurd hx pC_no) ?_
      rintro _ _ ⟨nv, e9, rfl, hnv⟩
      cases e9
      refine ab_istore_n (pc := 36) dX1_lengthsToLookAt_36 rfl (Nat.le_of_ble_eq_true rfl) ?_
      refine ab_iinc (pc := 37) dX1_lengthsToLookAt_37 rfl rfl (by decide) (by omega) (by omega) ?_
      refine ab_goto (pc := 40) 7 dX1_lengthsToLookAt_40 (by decide) ?_
      refine ih mv nv (x + 1) (by omega) (by omega) (by omega) (by omega) (by omega) (by omega) (by omega) (fun y y0 y1 => ?_) (lenI_step x0 I2 zx.1 zx.2.1 (by omega) (by omega))
      by_cases e : y = x
      · rw [e]; omega
      · have := I y y0 (by omega); omega
theorem c_len (hG : ab_G l E) {a b1 b2 b3 g : Nat} {al : Int} {z t : Int → Int} (ha : h0 a = some (kO g 0 [vI al, vR b1, vR b2, vR b3])) (hz : h0 b1 = some (kI (g + 1) 8 z)) (hB : mpB al z t) : ab_M l E Y_X1_lengthsToLookAt 4 1 0 0 [vR a] h0 (pC h0 (fun v => lenS al z v)) := by
  refine ab_M.of (L0 := [some (vR a), none, none, none]) hG rfl rfl (Nat.le_of_ble_eq_true rfl) rfl ?_
  refine ab_iconst (pc := 0) dX1_lengthsToLookAt_0 (by decide) ?_
  refine ab_istore_n (pc := 1) dX1_lengthsToLookAt_1 rfl (Nat.le_of_ble_eq_true rfl) ?_
  refine ab_bipush (pc := 2) dX1_lengthsToLookAt_2 (by decide) ?_
  refine ab_istore_n (pc := 4) dX1_lengthsToLookAt_4 rfl (Nat.le_of_ble_eq_true rfl) ?_
  refine ab_iconst (pc := 5) dX1_lengthsToLookAt_5 (by decide) ?_
  refine ab_istore_n (pc := 6) dX1_lengthsToLookAt_6 rfl (Nat.le_of_ble_eq_true rfl) ?_
  exact c_len_7 hG hB ha hz _ 1 20 0 (Nat.lt_succ_self _) (by omega) (by have := hB.1; omega) (by omega) (by omega) (by omega) (by omega) (fun y y0 y1 => absurd y1 (by omega)) (Or.inl ⟨rfl, rfl, rfl⟩)
theorem c_grows_29 {a b1 b2 b3 g : Nat} {al : Int} {z t : Int → Int} {x : Int} (hB : mpB al z t) (x0 : 0 ≤ x) (x1 : x < al) (xt : t (20 * x) = x) (ha : h0 a = some (kO g 0 [vI al, vR b1, vR b2, vR b3])) (hz : h0 b1 = some (kI (g + 1) 8 z)) (ht : h0 b2 = some (kI (g + 2) 160 t))  (fu : Nat) : ∀ (y : Int), (al - y).toNat < fu → (0 ≤ y) → (y ≤ al) → (∀ u : Int, 0 ≤ u → u < y → 2 ≤ z u) → ab_T l E Y_X1_growsFrom 0 0 0 29 [some (vR a), some (vI x), some (vI y)] [] h0 (pC h0 (fun v => (v = 1 ∧ 0 ≤ x ∧ x < al ∧ t (20 * x) = x ∧ ∀ y : Int, 0 ≤ y → y < al → 2 ≤ z y) ∨ (v = 0 ∧ ¬ (0 ≤ x ∧ x < al ∧ t (20 * x) = x ∧ ∀ y : Int, 0 ≤ y → y < al → 2 ≤ z y)))) := by
  induction fu with
  | zero => intro y hms9; exact absurd hms9 (Nat.not_lt_zero _)
  | succ fu ih =>
    intro y hms9 y0 y1 I
    have al8 := hB.2.1
    refine ab_iload_n (pc := 29) dX1_growsFrom_29 rfl ?_
    refine ab_aload_n (pc := 30) dX1_growsFrom_30 rfl ?_
    refine ab_get (pc := 31) (k := 0) okX1 ha rfl w886 rfl dX1_growsFrom_31 ?_
    refine ab_icmp_ge (pc := 34) 55 dX1_growsFrom_34 (by decide) (fun c34 => ?_) (fun c34 => ?_)
    · refine ab_iconst (pc := 55) dX1_growsFrom_55 (by decide) ?_
      refine ab_zret (pc := 56) dX1_growsFrom_56 rfl (by omega) ?_
      exact ⟨_, rfl, rfl, Or.inl ⟨rfl, x0, x1, xt, fun u u0 u1 => I u u0 (by omega)⟩⟩
    · refine ab_aload_n (pc := 37) dX1_growsFrom_37 rfl ?_
      refine ab_get (pc := 38) (k := 1) okX1 ha rfl w888 rfl dX1_growsFrom_38 ?_
      refine ab_iload_n (pc := 41) dX1_growsFrom_41 rfl ?_
      refine ab_iald (pc := 42) hz (by omega) (by omega) dX1_growsFrom_42 ?_
      refine ab_iconst (pc := 43) dX1_growsFrom_43 (by decide) ?_
      refine ab_icmp_ge (pc := 44) 49 dX1_growsFrom_44 (by decide) (fun c44 => ?_) (fun c44 => ?_)
      · refine ab_iinc (pc := 49) dX1_growsFrom_49 rfl rfl (by decide) (by omega) (by omega) ?_
        refine ab_goto (pc := 52) 29 dX1_growsFrom_52 (by decide) ?_
        refine ih (y + 1) (by omega) (by omega) (by omega) (fun u u0 u1 => ?_)
        by_cases e : u = y
        · rw [e]; exact c44
        · exact I u u0 (by omega)
      · refine ab_iconst (pc := 47) dX1_growsFrom_47 (by decide) ?_
        refine ab_zret (pc := 48) dX1_growsFrom_48 rfl (by omega) ?_
        exact ⟨_, rfl, rfl, Or.inr ⟨rfl, fun k => by have := k.2.2.2 y y0 (by omega); omega⟩⟩
theorem c_grows (hG : ab_G l E) {a b1 b2 b3 g : Nat} {al : Int} {z t : Int → Int} {x : Int} (ha : h0 a = some (kO g 0 [vI al, vR b1, vR b2, vR b3])) (hz : h0 b1 = some (kI (g + 1) 8 z)) (ht : h0 b2 = some (kI (g + 2) 160 t)) (hB : mpB al z t) : ab_M l E Y_X1_growsFrom 3 0 0 0 [vR a, vI x] h0 (pC h0 (fun v => (v = 1 ∧ 0 ≤ x ∧ x < al ∧ t (20 * x) = x ∧ ∀ y : Int, 0 ≤ y → y < al → 2 ≤ z y) ∨ (v = 0 ∧ ¬ (0 ≤ x ∧ x < al ∧ t (20 * x) = x ∧ ∀ y : Int, 0 ≤ y → y < al → 2 ≤ z y)))) := by
  refine ab_M.of (L0 := [some (vR a), some (vI x), none]) hG rfl rfl (Nat.le_of_ble_eq_true rfl) rfl ?_
  have al8 := hB.2.1
  refine ab_iload_n (pc := 0) dX1_growsFrom_0 rfl ?_
  refine ab_if_lt (pc := 1) 25 dX1_growsFrom_1 (by decide) (fun c1 => ?_) (fun c1 => ?_)
  · refine ab_iconst (pc := 25) dX1_growsFrom_25 (by decide) ?_
    refine ab_zret (pc := 26) dX1_growsFrom_26 rfl (by omega) ?_
    first | exact ⟨_, rfl, rfl, Or.inr ⟨rfl, fun k => by have := k.1; have := k.2.1; omega⟩⟩ | exact ⟨_, rfl, rfl, Or.inr ⟨rfl, fun k => c22 k.2.2.1⟩⟩
  · refine ab_iload_n (pc := 4) dX1_growsFrom_4 rfl ?_
    refine ab_aload_n (pc := 5) dX1_growsFrom_5 rfl ?_
    refine ab_get (pc := 6) (k := 0) okX1 ha rfl w886 rfl dX1_growsFrom_6 ?_
    refine ab_icmp_ge (pc := 9) 25 dX1_growsFrom_9 (by decide) (fun c9 => ?_) (fun c9 => ?_)
    · refine ab_iconst (pc := 25) dX1_growsFrom_25 (by decide) ?_
      refine ab_zret (pc := 26) dX1_growsFrom_26 rfl (by omega) ?_
      first | exact ⟨_, rfl, rfl, Or.inr ⟨rfl, fun k => by have := k.1; have := k.2.1; omega⟩⟩ | exact ⟨_, rfl, rfl, Or.inr ⟨rfl, fun k => c22 k.2.2.1⟩⟩
    · refine ab_aload_n (pc := 12) dX1_growsFrom_12 rfl ?_
      refine ab_get (pc := 13) (k := 2) okX1 ha rfl w889 rfl dX1_growsFrom_13 ?_
      refine ab_iload_n (pc := 16) dX1_growsFrom_16 rfl ?_
      refine ab_bipush (pc := 17) dX1_growsFrom_17 (by decide) ?_
      refine ab_imul (pc := 19) dX1_growsFrom_19 (by omega) (by omega) ?_
      refine ab_iald (pc := 20) ht (by omega) (by omega) dX1_growsFrom_20 ?_
      refine ab_iload_n (pc := 21) dX1_growsFrom_21 rfl ?_
      refine ab_icmp_eq (pc := 22) 27 dX1_growsFrom_22 (by decide) (fun c22 => ?_) (fun c22 => ?_)
      · rw [Int.mul_comm x 20] at c22
        refine ab_iconst (pc := 27) dX1_growsFrom_27 (by decide) ?_
        refine ab_istore_n (pc := 28) dX1_growsFrom_28 rfl (Nat.le_of_ble_eq_true rfl) ?_
        exact c_grows_29 hB (by omega) (by omega) c22 ha hz ht _ 0 (Nat.lt_succ_self _) (by omega) (by omega) (fun u u0 u1 => absurd u1 (by omega))
      · rw [Int.mul_comm x 20] at c22
        refine ab_iconst (pc := 25) dX1_growsFrom_25 (by decide) ?_
        refine ab_zret (pc := 26) dX1_growsFrom_26 rfl (by omega) ?_
        first | exact ⟨_, rfl, rfl, Or.inr ⟨rfl, fun k => by have := k.1; have := k.2.1; omega⟩⟩ | exact ⟨_, rfl, rfl, Or.inr ⟨rfl, fun k => c22 k.2.2.1⟩⟩
end C11
