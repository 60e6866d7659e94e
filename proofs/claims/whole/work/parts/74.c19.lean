/-! the class: law -/
section C19
variable {l : Launch} {E : AbE} {h0 : AbH}
theorem c_numsFor (hG : ab_G l E) {t a b : Int}  (tt : t = 1 ∨ t = 2 ∨ t = 3 ∨ t = 4) : ab_M l E Y_X9_areNumbersFor 3 0 0 0 [vI t, vI a, vI b] h0 (pC h0 (fun v => (v = 1 ∧ lawOk t a b) ∨ (v = 0 ∧ ¬ lawOk t a b))) := by
  refine ab_M.of (L0 := [some (vI t), some (vI a), some (vI b)]) hG rfl rfl (Nat.le_of_ble_eq_true rfl) rfl ?_
  rcases tt with cw | cw | cw | cw
  · refine ab_iload_n (pc := 0) dX9_areNumbersFor_0 rfl ?_
    refine ab_tableIn (pc := 1) (off := 31) 32 dX9_areNumbersFor_1 (by omega) (by omega) (by rw [cw]; rfl) (by decide) ?_
    refine ab_iload_n (pc := 32) dX9_areNumbersFor_32 rfl ?_
    refine ab_iconst (pc := 33) dX9_areNumbersFor_33 (by decide) ?_
    refine ab_icmp_lt (pc := 34) 52 dX9_areNumbersFor_34 (by decide) (fun c34 => ?_) (fun c34 => ?_)
    · refine ab_iconst (pc := 52) dX9_areNumbersFor_52 (by decide) ?_
      refine ab_zret (pc := 53) dX9_areNumbersFor_53 rfl (by omega) ?_
      unfold lawOk
      exact ⟨_, rfl, rfl, by omega⟩
    · refine ab_iload_n (pc := 37) dX9_areNumbersFor_37 rfl ?_
      refine ab_iload_n (pc := 38) dX9_areNumbersFor_38 rfl ?_
      refine ab_icmp_le (pc := 39) 52 dX9_areNumbersFor_39 (by decide) (fun c39 => ?_) (fun c39 => ?_)
      · refine ab_iconst (pc := 52) dX9_areNumbersFor_52 (by decide) ?_
        refine ab_zret (pc := 53) dX9_areNumbersFor_53 rfl (by omega) ?_
        unfold lawOk
        exact ⟨_, rfl, rfl, by omega⟩
      · refine ab_iload_n (pc := 42) dX9_areNumbersFor_42 rfl ?_
        refine ab_bipush (pc := 43) dX9_areNumbersFor_43 (by decide) ?_
        refine ab_icmp_gt (pc := 45) 52 dX9_areNumbersFor_45 (by decide) (fun c45 => ?_) (fun c45 => ?_)
        · refine ab_iconst (pc := 52) dX9_areNumbersFor_52 (by decide) ?_
          refine ab_zret (pc := 53) dX9_areNumbersFor_53 rfl (by omega) ?_
          unfold lawOk
          exact ⟨_, rfl, rfl, by omega⟩
        · refine ab_iconst (pc := 48) dX9_areNumbersFor_48 (by decide) ?_
          refine ab_goto (pc := 49) 53 dX9_areNumbersFor_49 (by decide) ?_
          refine ab_zret (pc := 53) dX9_areNumbersFor_53 rfl (by omega) ?_
          unfold lawOk
          exact ⟨_, rfl, rfl, by omega⟩
  · refine ab_iload_n (pc := 0) dX9_areNumbersFor_0 rfl ?_
    refine ab_tableIn (pc := 1) (off := 53) 54 dX9_areNumbersFor_1 (by omega) (by omega) (by rw [cw]; rfl) (by decide) ?_
    refine ab_iload_n (pc := 54) dX9_areNumbersFor_54 rfl ?_
    refine ab_iconst (pc := 55) dX9_areNumbersFor_55 (by decide) ?_
    refine ab_icmp_lt (pc := 56) 74 dX9_areNumbersFor_56 (by decide) (fun c56 => ?_) (fun c56 => ?_)
    · refine ab_iconst (pc := 74) dX9_areNumbersFor_74 (by decide) ?_
      refine ab_zret (pc := 75) dX9_areNumbersFor_75 rfl (by omega) ?_
      unfold lawOk
      exact ⟨_, rfl, rfl, by omega⟩
    · refine ab_iload_n (pc := 59) dX9_areNumbersFor_59 rfl ?_
      refine ab_iload_n (pc := 60) dX9_areNumbersFor_60 rfl ?_
      refine ab_icmp_lt (pc := 61) 74 dX9_areNumbersFor_61 (by decide) (fun c61 => ?_) (fun c61 => ?_)
      · refine ab_iconst (pc := 74) dX9_areNumbersFor_74 (by decide) ?_
        refine ab_zret (pc := 75) dX9_areNumbersFor_75 rfl (by omega) ?_
        unfold lawOk
        exact ⟨_, rfl, rfl, by omega⟩
      · refine ab_iload_n (pc := 64) dX9_areNumbersFor_64 rfl ?_
        refine ab_bipush (pc := 65) dX9_areNumbersFor_65 (by decide) ?_
        refine ab_icmp_gt (pc := 67) 74 dX9_areNumbersFor_67 (by decide) (fun c67 => ?_) (fun c67 => ?_)
        · refine ab_iconst (pc := 74) dX9_areNumbersFor_74 (by decide) ?_
          refine ab_zret (pc := 75) dX9_areNumbersFor_75 rfl (by omega) ?_
          unfold lawOk
          exact ⟨_, rfl, rfl, by omega⟩
        · refine ab_iconst (pc := 70) dX9_areNumbersFor_70 (by decide) ?_
          refine ab_goto (pc := 71) 75 dX9_areNumbersFor_71 (by decide) ?_
          refine ab_zret (pc := 75) dX9_areNumbersFor_75 rfl (by omega) ?_
          unfold lawOk
          exact ⟨_, rfl, rfl, by omega⟩
  · refine ab_iload_n (pc := 0) dX9_areNumbersFor_0 rfl ?_
    refine ab_tableIn (pc := 1) (off := 75) 76 dX9_areNumbersFor_1 (by omega) (by omega) (by rw [cw]; rfl) (by decide) ?_
    refine ab_iload_n (pc := 76) dX9_areNumbersFor_76 rfl ?_
    refine ab_if_lt (pc := 77) 94 dX9_areNumbersFor_77 (by decide) (fun c77 => ?_) (fun c77 => ?_)
    · refine ab_iconst (pc := 94) dX9_areNumbersFor_94 (by decide) ?_
      refine ab_zret (pc := 95) dX9_areNumbersFor_95 rfl (by omega) ?_
      unfold lawOk
      exact ⟨_, rfl, rfl, by omega⟩
    · refine ab_iload_n (pc := 80) dX9_areNumbersFor_80 rfl ?_
      refine ab_bipush (pc := 81) dX9_areNumbersFor_81 (by decide) ?_
      refine ab_icmp_gt (pc := 83) 94 dX9_areNumbersFor_83 (by decide) (fun c83 => ?_) (fun c83 => ?_)
      · refine ab_iconst (pc := 94) dX9_areNumbersFor_94 (by decide) ?_
        refine ab_zret (pc := 95) dX9_areNumbersFor_95 rfl (by omega) ?_
        unfold lawOk
        exact ⟨_, rfl, rfl, by omega⟩
      · refine ab_iload_n (pc := 86) dX9_areNumbersFor_86 rfl ?_
        refine ab_if_ne (pc := 87) 94 dX9_areNumbersFor_87 (by decide) (fun c87 => ?_) (fun c87 => ?_)
        · refine ab_iconst (pc := 94) dX9_areNumbersFor_94 (by decide) ?_
          refine ab_zret (pc := 95) dX9_areNumbersFor_95 rfl (by omega) ?_
          unfold lawOk
          exact ⟨_, rfl, rfl, by omega⟩
        · refine ab_iconst (pc := 90) dX9_areNumbersFor_90 (by decide) ?_
          refine ab_goto (pc := 91) 95 dX9_areNumbersFor_91 (by decide) ?_
          refine ab_zret (pc := 95) dX9_areNumbersFor_95 rfl (by omega) ?_
          unfold lawOk
          exact ⟨_, rfl, rfl, by omega⟩
  · refine ab_iload_n (pc := 0) dX9_areNumbersFor_0 rfl ?_
    refine ab_tableIn (pc := 1) (off := 95) 96 dX9_areNumbersFor_1 (by omega) (by omega) (by rw [cw]; rfl) (by decide) ?_
    refine ab_iload_n (pc := 96) dX9_areNumbersFor_96 rfl ?_
    refine ab_if_ne (pc := 97) 108 dX9_areNumbersFor_97 (by decide) (fun c97 => ?_) (fun c97 => ?_)
    · refine ab_iconst (pc := 108) dX9_areNumbersFor_108 (by decide) ?_
      refine ab_zret (pc := 109) dX9_areNumbersFor_109 rfl (by omega) ?_
      unfold lawOk
      exact ⟨_, rfl, rfl, by omega⟩
    · refine ab_iload_n (pc := 100) dX9_areNumbersFor_100 rfl ?_
      refine ab_if_ne (pc := 101) 108 dX9_areNumbersFor_101 (by decide) (fun c101 => ?_) (fun c101 => ?_)
      · refine ab_iconst (pc := 108) dX9_areNumbersFor_108 (by decide) ?_
        refine ab_zret (pc := 109) dX9_areNumbersFor_109 rfl (by omega) ?_
        unfold lawOk
        exact ⟨_, rfl, rfl, by omega⟩
      · refine ab_iconst (pc := 104) dX9_areNumbersFor_104 (by decide) ?_
        refine ab_goto (pc := 105) 109 dX9_areNumbersFor_105 (by decide) ?_
        refine ab_zret (pc := 109) dX9_areNumbersFor_109 rfl (by omega) ?_
        unfold lawOk
        exact ⟨_, rfl, rfl, by omega⟩
def lnQ (h0 : AbH) (m9 : Nat) (t a b : Int) (w9 : Int → Int) : AbO → AbH → Prop := fun o h' => (¬ lawOk t a b ∧ o = .inr "java/lang/IllegalArgumentException" ∧ h' = h0) ∨ (lawOk t a b ∧ ab_kp (cP [208 + 8 * m9]) h0 h' ∧ ∃ a9 : Nat, o = .inl (some (vR a9)) ∧ mkL h' (208 + 8 * m9) a9 t a b 0 w9)
theorem c_lawNum (hG : ab_G l E) {t a b : Int} {w9 : Int → Int} (m9 : Nat)  (tt : t = 1 ∨ t = 2 ∨ t = 3 ∨ t = 4) : ab_M l E Y_X9_lawOfNumbers 3 6 1 6 [vI t, vI a, vI b] h0 (lnQ h0 m9 t a b w9) := by
  refine ab_M.of (L0 := [some (vI t), some (vI a), some (vI b)]) hG rfl rfl (Nat.le_of_ble_eq_true rfl) rfl ?_
  have kp : ab_kp (cP [208 + 8 * m9]) h0 h0 := ab_kp0
  have tt9 := tt
  rcases tt9 with cw | cw | cw | cw
  · refine ab_iload_n (pc := 0) dX9_lawOfNumbers_0 rfl ?_
    refine ab_iload_n (pc := 1) dX9_lawOfNumbers_1 rfl ?_
    refine ab_iload_n (pc := 2) dX9_lawOfNumbers_2 rfl ?_
    refine ab_callS (pc := 3) (c_numsFor hG tt) ⟨w681, w1, w683, by decide, pd51⟩ w682 rfl (by omega) (by decide) (Nat.le_of_ble_eq_true rfl) rfl dX9_lawOfNumbers_3 (fun _ _ hx => absurd hx pC_no) ?_
    rintro _ _ ⟨nv, e9, rfl, hnv⟩
    cases e9
    refine ab_if_ne (pc := 6) 20 dX9_lawOfNumbers_6 (by decide) (fun c6 => ?_) (fun c6 => ?_)
    · refine ab_iload_n (pc := 20) dX9_lawOfNumbers_20 rfl ?_
      refine ab_tableIn (pc := 21) (off := 27) 48 dX9_lawOfNumbers_21 (by omega) (by omega) (by rw [cw]; rfl) (by decide) ?_
      refine ab_newG (pc := 48) (208 + 8 * m9) okX3 rfl rfl w45 w46 w3 dX9_lawOfNumbers_48 (fun a_ho h z9 e9 n9 => ?_)
      replace kp := kp.new z9 n9
      have ho := e9
      clear e9 n9
      refine ab_dup (pc := 51) dX9_lawOfNumbers_51 rfl ?_
      refine ab_iload_n (pc := 52) dX9_lawOfNumbers_52 rfl ?_
      refine ab_iload_n (pc := 53) dX9_lawOfNumbers_53 rfl ?_
      refine ab_iconst (pc := 54) dX9_lawOfNumbers_54 (by decide) ?_
      refine ab_callI (pc := 55) (c_newPower hG ho (by omega) (Or.inl rfl)) (fun _ _ hx => absurd hx cC_no) ⟨w47, w3, w49, by decide, pd1⟩ w48 ⟨rfl, rfl⟩ rfl (by omega) (by decide) (Nat.le_of_ble_eq_true rfl) dX9_lawOfNumbers_55 ?_
      rintro _ h ⟨_, e9, kq, rfl, ho9⟩
      cases e9
      replace kp := kp.cal kq (by first | (simp; done) | (simp; omega))
      replace ho := ho9
      refine ab_aret (pc := 58) dX9_lawOfNumbers_58 rfl (Or.inl ⟨_, rfl⟩) ?_
      exact Or.inr ⟨(by rcases hnv with ⟨_, q⟩ | ⟨q, _⟩; exact q; exact absurd q c6), kp, _, rfl, Or.inr (Or.inl ⟨cw, ho⟩)⟩
    · refine ab_throwW (pc := 9) tw_IAE w684 (by decide) (Nat.le_of_ble_eq_true rfl) rfl dX9_lawOfNumbers_9 dX9_lawOfNumbers_12 dX9_lawOfNumbers_13 dX9_lawOfNumbers_16 dX9_lawOfNumbers_19 ?_
      exact Or.inl ⟨by rcases hnv with ⟨q, _⟩ | ⟨_, q⟩; exact absurd q (by omega); exact q, rfl, rfl⟩
  · refine ab_iload_n (pc := 0) dX9_lawOfNumbers_0 rfl ?_
    refine ab_iload_n (pc := 1) dX9_lawOfNumbers_1 rfl ?_
    refine ab_iload_n (pc := 2) dX9_lawOfNumbers_2 rfl ?_
    refine ab_callS (pc := 3) (c_numsFor hG tt) ⟨w681, w1, w683, by decide, pd51⟩ w682 rfl (by omega) (by decide) (Nat.le_of_ble_eq_true rfl) rfl dX9_lawOfNumbers_3 (fun _ _ hx => absurd hx pC_no) ?_
    rintro _ _ ⟨nv, e9, rfl, hnv⟩
    cases e9
    refine ab_if_ne (pc := 6) 20 dX9_lawOfNumbers_6 (by decide) (fun c6 => ?_) (fun c6 => ?_)
    · refine ab_iload_n (pc := 20) dX9_lawOfNumbers_20 rfl ?_
      refine ab_tableIn (pc := 21) (off := 38) 59 dX9_lawOfNumbers_21 (by omega) (by omega) (by rw [cw]; rfl) (by decide) ?_
      refine ab_newG (pc := 59) (208 + 8 * m9) okX3 rfl rfl w45 w46 w3 dX9_lawOfNumbers_59 (fun a_ho h z9 e9 n9 => ?_)
      replace kp := kp.new z9 n9
      have ho := e9
      clear e9 n9
      refine ab_dup (pc := 62) dX9_lawOfNumbers_62 rfl ?_
      refine ab_iload_n (pc := 63) dX9_lawOfNumbers_63 rfl ?_
      refine ab_iload_n (pc := 64) dX9_lawOfNumbers_64 rfl ?_
      refine ab_iconst (pc := 65) dX9_lawOfNumbers_65 (by decide) ?_
      refine ab_callI (pc := 66) (c_newPower hG ho (by omega) (Or.inr rfl)) (fun _ _ hx => absurd hx cC_no) ⟨w47, w3, w49, by decide, pd1⟩ w48 ⟨rfl, rfl⟩ rfl (by omega) (by decide) (Nat.le_of_ble_eq_true rfl) dX9_lawOfNumbers_66 ?_
      rintro _ h ⟨_, e9, kq, rfl, ho9⟩
      cases e9
      replace kp := kp.cal kq (by first | (simp; done) | (simp; omega))
      replace ho := ho9
      refine ab_aret (pc := 69) dX9_lawOfNumbers_69 rfl (Or.inl ⟨_, rfl⟩) ?_
      exact Or.inr ⟨(by rcases hnv with ⟨_, q⟩ | ⟨q, _⟩; exact q; exact absurd q c6), kp, _, rfl, Or.inr (Or.inr (Or.inl ⟨cw, ho⟩))⟩
    · refine ab_throwW (pc := 9) tw_IAE w684 (by decide) (Nat.le_of_ble_eq_true rfl) rfl dX9_lawOfNumbers_9 dX9_lawOfNumbers_12 dX9_lawOfNumbers_13 dX9_lawOfNumbers_16 dX9_lawOfNumbers_19 ?_
      exact Or.inl ⟨by rcases hnv with ⟨q, _⟩ | ⟨_, q⟩; exact absurd q (by omega); exact q, rfl, rfl⟩
  · refine ab_iload_n (pc := 0) dX9_lawOfNumbers_0 rfl ?_
    refine ab_iload_n (pc := 1) dX9_lawOfNumbers_1 rfl ?_
    refine ab_iload_n (pc := 2) dX9_lawOfNumbers_2 rfl ?_
    refine ab_callS (pc := 3) (c_numsFor hG tt) ⟨w681, w1, w683, by decide, pd51⟩ w682 rfl (by omega) (by decide) (Nat.le_of_ble_eq_true rfl) rfl dX9_lawOfNumbers_3 (fun _ _ hx => absurd hx pC_no) ?_
    rintro _ _ ⟨nv, e9, rfl, hnv⟩
    cases e9
    refine ab_if_ne (pc := 6) 20 dX9_lawOfNumbers_6 (by decide) (fun c6 => ?_) (fun c6 => ?_)
    · refine ab_iload_n (pc := 20) dX9_lawOfNumbers_20 rfl ?_
      refine ab_tableIn (pc := 21) (off := 49) 70 dX9_lawOfNumbers_21 (by omega) (by omega) (by rw [cw]; rfl) (by decide) ?_
      refine ab_newG (pc := 70) (208 + 8 * m9) okX2 rfl rfl w685 w686 w27 dX9_lawOfNumbers_70 (fun a_ho h z9 e9 n9 => ?_)
      replace kp := kp.new z9 n9
      have ho := e9
      clear e9 n9
      refine ab_dup (pc := 73) dX9_lawOfNumbers_73 rfl ?_
      refine ab_iload_n (pc := 74) dX9_lawOfNumbers_74 rfl ?_
      refine ab_callI (pc := 75) (c_newNear hG ho (by omega)) (fun _ _ hx => absurd hx cC_no) ⟨w687, w27, w689, by decide, pd5⟩ w688 ⟨rfl, rfl⟩ rfl (by omega) (by decide) (Nat.le_of_ble_eq_true rfl) dX9_lawOfNumbers_75 ?_
      rintro _ h ⟨_, e9, kq, rfl, ho9⟩
      cases e9
      replace kp := kp.cal kq (by first | (simp; done) | (simp; omega))
      replace ho := ho9
      refine ab_aret (pc := 78) dX9_lawOfNumbers_78 rfl (Or.inl ⟨_, rfl⟩) ?_
      exact Or.inr ⟨(by rcases hnv with ⟨_, q⟩ | ⟨q, _⟩; exact q; exact absurd q c6), kp, _, rfl, Or.inr (Or.inr (Or.inr (Or.inl ⟨cw, ho⟩)))⟩
    · refine ab_throwW (pc := 9) tw_IAE w684 (by decide) (Nat.le_of_ble_eq_true rfl) rfl dX9_lawOfNumbers_9 dX9_lawOfNumbers_12 dX9_lawOfNumbers_13 dX9_lawOfNumbers_16 dX9_lawOfNumbers_19 ?_
      exact Or.inl ⟨by rcases hnv with ⟨q, _⟩ | ⟨_, q⟩; exact absurd q (by omega); exact q, rfl, rfl⟩
  · refine ab_iload_n (pc := 0) dX9_lawOfNumbers_0 rfl ?_
    refine ab_iload_n (pc := 1) dX9_lawOfNumbers_1 rfl ?_
    refine ab_iload_n (pc := 2) dX9_lawOfNumbers_2 rfl ?_
    refine ab_callS (pc := 3) (c_numsFor hG tt) ⟨w681, w1, w683, by decide, pd51⟩ w682 rfl (by omega) (by decide) (Nat.le_of_ble_eq_true rfl) rfl dX9_lawOfNumbers_3 (fun _ _ hx => absurd hx pC_no) ?_
    rintro _ _ ⟨nv, e9, rfl, hnv⟩
    cases e9
    refine ab_if_ne (pc := 6) 20 dX9_lawOfNumbers_6 (by decide) (fun c6 => ?_) (fun c6 => ?_)
    · refine ab_iload_n (pc := 20) dX9_lawOfNumbers_20 rfl ?_
      refine ab_tableOut (pc := 21) 79 dX9_lawOfNumbers_21 (by omega) (by decide) ?_
      refine ab_newG (pc := 79) (208 + 8 * m9) okX8 rfl rfl w695 w696 w28 dX9_lawOfNumbers_79 (fun a_ho h z9 e9 n9 => ?_)
      replace kp := kp.new z9 n9
      have ho := e9
      clear e9 n9
      refine ab_dup (pc := 82) dX9_lawOfNumbers_82 rfl ?_
      refine ab_callIN (pc := 83) (c_newTurned hG ho) (fun _ _ hx => absurd hx pV_no) ⟨w697, w28, w699, by decide, pd0⟩ w698 ⟨rfl, rfl⟩ rfl (by omega) (by decide) (Nat.le_of_ble_eq_true rfl) dX9_lawOfNumbers_83 ?_
      rintro _ _ ⟨e9, rfl⟩
      cases e9
      refine ab_aret (pc := 86) dX9_lawOfNumbers_86 rfl (Or.inl ⟨_, rfl⟩) ?_
      exact Or.inr ⟨(by rcases hnv with ⟨_, q⟩ | ⟨q, _⟩; exact q; exact absurd q c6), kp, _, rfl, Or.inr (Or.inr (Or.inr (Or.inr (Or.inl ⟨cw, ho⟩))))⟩
    · refine ab_throwW (pc := 9) tw_IAE w684 (by decide) (Nat.le_of_ble_eq_true rfl) rfl dX9_lawOfNumbers_9 dX9_lawOfNumbers_12 dX9_lawOfNumbers_13 dX9_lawOfNumbers_16 dX9_lawOfNumbers_19 ?_
      exact Or.inl ⟨by rcases hnv with ⟨q, _⟩ | ⟨_, q⟩; exact absurd q (by omega); exact q, rfl, rfl⟩
def lrQ (h0 : AbH) (x : Nat) (B : Nat → Nat) (s : Nat → Int) (F : Nat → Int → Int) (SA : Nat → Int → Option Nat) (la : Option Nat) (q : Nat → Int) (t i k : Int) : AbO → AbH → Prop := fun o h' => (¬ isRow s i k ∧ o = .inr "java/lang/IndexOutOfBoundsException" ∧ h' = h0) ∨ (isRow s i k ∧ ab_kp (cP [10, 208 + 8 * (s 7).toNat, 208 + 8 * (s 7).toNat + 1, 208 + 8 * (s 7).toNat + 2]) h0 h' ∧ (∃ C' : Nat → Int → Int, RCx h' x B s F C' SA la q) ∧ ((o = .inl (some vN) ∧ ¬ ∃ n, lawW F t i k n) ∨ ∃ (a9 : Nat) (n : Int), o = .inl (some (vR a9)) ∧ lawW F t i k n ∧ mkL h' (208 + 8 * (s 7).toNat) a9 t i k n (rdL F i k)))
theorem c_lawRow (hG : ab_G l E) {x : Nat} {B : Nat → Nat} {s : Nat → Int} {F C : Nat → Int → Int} {SA : Nat → Int → Option Nat} {la : Option Nat} {q : Nat → Int} {t i k : Int} (rc : RCx h0 x B s F C SA la q) (b3 : ∀ j, 0 ≤ j → j < 160 → -1 ≤ F 3 j ∧ F 3 j ≤ 80) (s16 : s 1 ≤ 16) (tt : t = 0 ∨ t = 5) (c70 : 0 ≤ s 7) (c71 : s 7 ≤ 12) : ab_M l E Y_X9_lawOfRow 5 9 8 91 [vR x, vI t, vI i, vI k] h0 (lrQ h0 x B s F SA la q t i k) := by
  refine ab_M.of (L0 := [some (vR x), some (vI t), some (vI i), some (vI k), none]) hG rfl rfl (Nat.le_of_ble_eq_true rfl) rfl ?_
  have kp : ab_kp (cP [10, 208 + 8 * (s 7).toNat, 208 + 8 * (s 7).toNat + 1, 208 + 8 * (s 7).toNat + 2]) h0 h0 := ab_kp0
  refine ab_aload_n (pc := 0) dX9_lawOfRow_0 rfl ?_
  refine ab_iload_n (pc := 1) dX9_lawOfRow_1 rfl ?_
  refine ab_iload_n (pc := 2) dX9_lawOfRow_2 rfl ?_
  refine ab_callV (pc := 3) (c_readWord hG rc b3 s16) rc.o rfl ⟨w601, w1, w604, by decide, pd18⟩ w603 sp3 rfl (by omega) (by decide) (Nat.le_of_ble_eq_true rfl) rfl dX9_lawOfRow_3 (fun X9 h9 hx9 => by rcases hx9 with ⟨r9, nr, rfl⟩ | ⟨_, _, _, r9, _⟩; cases r9; exact Or.inl ⟨nr, rfl, rfl⟩; cases r9) ?_
  rintro r9 h9 hr9
  rcases hr9 with ⟨r9, _⟩ | ⟨ir, v, fl, r9, kq, hl9, rd, rl⟩
  · cases r9
  cases r9
  replace kp := kp.cal kq (by simp)
  replace rc := rc.let kq hl9
  refine ab_istore (pc := 6) dX9_lawOfRow_6 rfl (Nat.le_of_ble_eq_true rfl) ?_
  refine ab_iload (pc := 8) dX9_lawOfRow_8 rfl ?_
  refine ab_iconst (pc := 10) dX9_lawOfRow_10 (by decide) ?_
  refine ab_icmp_ge (pc := 11) 16 dX9_lawOfRow_11 (by decide) (fun c11 => ?_) (fun c11 => ?_)
  · refine ab_iload_n (pc := 16) dX9_lawOfRow_16 rfl ?_
    refine ab_if_ne (pc := 17) 37 dX9_lawOfRow_17 (by decide) (fun c17 => ?_) (fun c17 => ?_)
    · refine ab_iload (pc := 37) dX9_lawOfRow_37 rfl ?_
      refine ab_bipush (pc := 39) dX9_lawOfRow_39 (by decide) ?_
      refine ab_icmp_gt (pc := 41) 57 dX9_lawOfRow_41 (by decide) (fun c41 => ?_) (fun c41 => ?_)
      · refine ab_null (pc := 57) dX9_lawOfRow_57 ?_
        refine ab_goto (pc := 58) 77 dX9_lawOfRow_58 (by decide) ?_
        refine ab_aret (pc := 77) dX9_lawOfRow_77 rfl (Or.inl ⟨_, rfl⟩) ?_
        first | exact Or.inr ⟨ir, kp, ⟨_, rc⟩, Or.inl ⟨rfl, lawW_no rd (fun k9 => by have := (k9.2 (by omega)).1; omega)⟩⟩ | exact Or.inr ⟨ir, kp, ⟨_, rc⟩, Or.inl ⟨rfl, lawW_no rd (fun k9 => by rcases hbv with ⟨b1, _⟩ | ⟨_, b2⟩; (exact absurd c54 (by omega)); exact b2 (fun j j0 j1 => by have := (k9.2 (by omega)).2 j j0 j1; rw [rl j j0 j1]; omega))⟩⟩ | skip
        all_goals exact Or.inr ⟨ir, kp, ⟨_, rc⟩, Or.inr ⟨_, v, rfl, ⟨rd, by omega, fun _ => ⟨by omega, fun j j0 j1 => by have q1 := (sh2 j j0 (by omega)).2; rw [ht9 j j0 j1, rl j j0 j1] at q1; exact q1⟩⟩, Or.inr (Or.inr (Or.inr (Or.inr (Or.inr ⟨by omega, _, sc9, fun j j0 j1 => (ht9 j j0 j1).trans (rl j j0 j1)⟩))))⟩⟩
      · refine ab_aload_n (pc := 44) dX9_lawOfRow_44 rfl ?_
        refine ab_get (pc := 45) (k := 7) okX9 rc.o rfl w119 rfl dX9_lawOfRow_45 ?_
        refine ab_iload (pc := 48) dX9_lawOfRow_48 rfl ?_
        refine ab_iconst (pc := 50) dX9_lawOfRow_50 (by decide) ?_
        refine ab_callS (pc := 51) (c_below hG rc.lt (by decide) (by have := rd.len; show v ≤ (60 : Int); omega)) ⟨w647, w1, w649, by decide, pd50⟩ w648 rfl (by omega) (by decide) (Nat.le_of_ble_eq_true rfl) rfl dX9_lawOfRow_51 (fun _ _ hx => absurd hx pC_no) ?_
        rintro _ _ ⟨bv, e9, rfl, hbv⟩
        cases e9
        rw [show ab_u C 10 fl 10 = fl from ab_u_eq] at hbv
        refine ab_if_ne (pc := 54) 61 dX9_lawOfRow_54 (by decide) (fun c54 => ?_) (fun c54 => ?_)
        · refine ab_newG (pc := 61) (208 + 8 * (s 7).toNat) okX5 rfl rfl w650 w651 w26 dX9_lawOfRow_61 (fun a_ho h z9 e9 n9 => ?_)
          replace rc := rc.fr (ab_kp.new (P := cP []) ab_kp0 z9 n9) (fun j hj => by unfold cOwn at hj; exact (by unfold cP; simp))
          replace kp := kp.new z9 n9
          have ho := e9
          clear e9 n9
          refine ab_dup (pc := 64) dX9_lawOfRow_64 rfl ?_
          refine ab_aload_n (pc := 65) dX9_lawOfRow_65 rfl ?_
          refine ab_get (pc := 66) (k := 7) okX9 rc.o rfl w119 rfl dX9_lawOfRow_66 ?_
          refine ab_iload (pc := 69) dX9_lawOfRow_69 rfl ?_
          refine ab_callS (pc := 71) (c_copyOf hG (208 + 8 * (s 7).toNat + 1) rc.lt (by omega) (by omega) (by have := rd.len; omega)) ⟨w631, w12, w633, by decide, pd48⟩ w632 rfl (by omega) (by decide) (Nat.le_of_ble_eq_true rfl) rfl dX9_lawOfRow_71 (fun _ _ hx => absurd hx cC_no) ?_
          rintro _ h ⟨_, e9, kq, b9, t9, rfl, hb9, ht9⟩
          cases e9
          replace rc := rc.fr kq (fun j hj => by unfold cOwn at hj; exact (by unfold cP; first | (simp; done) | (simp; omega)))
          replace ho := kq _ _ ho (by unfold cP; first | (simp; done) | (simp; omega))
          replace kp := kp.cal kq (by first | (simp; done) | (simp; omega))
          have hb := hb9
          rw [show ab_u C 10 fl 10 = fl from ab_u_eq] at ht9
          have e74 : ((v.toNat : Nat) : Int) = v := by omega
          have sh2 : ∀ j : Int, 0 ≤ j → j < ((v.toNat : Nat) : Int) → 0 ≤ t9 j ∧ t9 j ≤ 2 := fun j j0 j1 => by
            rw [e74] at j1
            rw [ht9 j j0 j1]
            rcases hbv with ⟨_, b2⟩ | ⟨b1, _⟩
            · have q1 := b2 j j0 j1; have q2 := ((rd.len).2.2 (by omega)).2 j j0 j1; rw [← rl j j0 j1] at q2; omega
            · exact absurd b1 c54
          refine ab_callI (pc := 74) (c_newShape hG ho hb (by omega) (by omega) (by omega) sh2) (fun _ _ hx => absurd hx cC_no) ⟨w652, w26, w654, by decide, pd49⟩ w653 ⟨rfl, rfl⟩ rfl (by omega) (by decide) (Nat.le_of_ble_eq_true rfl) dX9_lawOfRow_74 ?_
          rintro _ h ⟨_, e9, kq, rfl, sc9⟩
          cases e9
          replace rc := rc.fr kq (fun j hj => by unfold cOwn at hj; exact (by unfold cP; first | (simp; done) | (simp; omega)))
          replace kp := kp.cal kq (by first | (simp; done) | (simp; omega))
          refine ab_aret (pc := 77) dX9_lawOfRow_77 rfl (Or.inl ⟨_, rfl⟩) ?_
          first | exact Or.inr ⟨ir, kp, ⟨_, rc⟩, Or.inl ⟨rfl, lawW_no rd (fun k9 => by have := (k9.2 (by omega)).1; omega)⟩⟩ | exact Or.inr ⟨ir, kp, ⟨_, rc⟩, Or.inl ⟨rfl, lawW_no rd (fun k9 => by rcases hbv with ⟨b1, _⟩ | ⟨_, b2⟩; (exact absurd c54 (by omega)); exact b2 (fun j j0 j1 => by have := (k9.2 (by omega)).2 j j0 j1; rw [rl j j0 j1]; omega))⟩⟩ | skip
          all_goals exact Or.inr ⟨ir, kp, ⟨_, rc⟩, Or.inr ⟨_, v, rfl, ⟨rd, by omega, fun _ => ⟨by omega, fun j j0 j1 => by have q1 := (sh2 j j0 (by omega)).2; rw [ht9 j j0 j1, rl j j0 j1] at q1; exact q1⟩⟩, Or.inr (Or.inr (Or.inr (Or.inr (Or.inr ⟨by omega, _, sc9, fun j j0 j1 => (ht9 j j0 j1).trans (rl j j0 j1)⟩))))⟩⟩
        · refine ab_null (pc := 57) dX9_lawOfRow_57 ?_
          refine ab_goto (pc := 58) 77 dX9_lawOfRow_58 (by decide) ?_
          refine ab_aret (pc := 77) dX9_lawOfRow_77 rfl (Or.inl ⟨_, rfl⟩) ?_
          first | exact Or.inr ⟨ir, kp, ⟨_, rc⟩, Or.inl ⟨rfl, lawW_no rd (fun k9 => by have := (k9.2 (by omega)).1; omega)⟩⟩ | exact Or.inr ⟨ir, kp, ⟨_, rc⟩, Or.inl ⟨rfl, lawW_no rd (fun k9 => by rcases hbv with ⟨b1, _⟩ | ⟨_, b2⟩; (exact absurd c54 (by omega)); exact b2 (fun j j0 j1 => by have := (k9.2 (by omega)).2 j j0 j1; rw [rl j j0 j1]; omega))⟩⟩ | skip
          all_goals exact Or.inr ⟨ir, kp, ⟨_, rc⟩, Or.inr ⟨_, v, rfl, ⟨rd, by omega, fun _ => ⟨by omega, fun j j0 j1 => by have q1 := (sh2 j j0 (by omega)).2; rw [ht9 j j0 j1, rl j j0 j1] at q1; exact q1⟩⟩, Or.inr (Or.inr (Or.inr (Or.inr (Or.inr ⟨by omega, _, sc9, fun j j0 j1 => (ht9 j j0 j1).trans (rl j j0 j1)⟩))))⟩⟩
    · refine ab_newG (pc := 20) (208 + 8 * (s 7).toNat) okX7 rfl rfl w629 w630 w25 dX9_lawOfRow_20 (fun a_ho h z9 e9 n9 => ?_)
      replace rc := rc.fr (ab_kp.new (P := cP []) ab_kp0 z9 n9) (fun j hj => by unfold cOwn at hj; exact (by unfold cP; simp))
      replace kp := kp.new z9 n9
      have ho := e9
      clear e9 n9
      refine ab_dup (pc := 23) dX9_lawOfRow_23 rfl ?_
      refine ab_aload_n (pc := 24) dX9_lawOfRow_24 rfl ?_
      refine ab_get (pc := 25) (k := 7) okX9 rc.o rfl w119 rfl dX9_lawOfRow_25 ?_
      refine ab_iload (pc := 28) dX9_lawOfRow_28 rfl ?_
      refine ab_callS (pc := 30) (c_copyOf hG (208 + 8 * (s 7).toNat + 1) rc.lt (by omega) (by omega) (by have := rd.len; omega)) ⟨w631, w12, w633, by decide, pd48⟩ w632 rfl (by omega) (by decide) (Nat.le_of_ble_eq_true rfl) rfl dX9_lawOfRow_30 (fun _ _ hx => absurd hx cC_no) ?_
      rintro _ h ⟨_, e9, kq, b9, t9, rfl, hb9, ht9⟩
      cases e9
      replace rc := rc.fr kq (fun j hj => by unfold cOwn at hj; exact (by unfold cP; first | (simp; done) | (simp; omega)))
      replace ho := kq _ _ ho (by unfold cP; first | (simp; done) | (simp; omega))
      replace kp := kp.cal kq (by first | (simp; done) | (simp; omega))
      have hb := hb9
      refine ab_callI (pc := 33) (c_newTold hG ho hb (by omega)) (fun _ _ hx => absurd hx cC_no) ⟨w639, w25, w641, by decide, pd49⟩ w640 ⟨rfl, rfl⟩ rfl (by omega) (by decide) (Nat.le_of_ble_eq_true rfl) dX9_lawOfRow_33 ?_
      rintro _ h ⟨_, e9, kq, rfl, ho9, hb8⟩
      cases e9
      replace rc := rc.fr kq (fun j hj => by unfold cOwn at hj; exact (by unfold cP; first | (simp; done) | (simp; omega)))
      replace kp := kp.cal kq (by first | (simp; done) | (simp; omega))
      replace ho := ho9
      replace hb := hb8
      rw [show ab_u C 10 fl 10 = fl from ab_u_eq] at ht9
      refine ab_aret (pc := 36) dX9_lawOfRow_36 rfl (Or.inl ⟨_, rfl⟩) ?_
      exact Or.inr ⟨ir, kp, ⟨_, rc⟩, Or.inr ⟨_, v, rfl, ⟨rd, by omega, fun t5 => by omega⟩, Or.inl ⟨by omega, _, _, ho, hb, fun j j0 j1 => (ht9 j j0 j1).trans (rl j j0 j1)⟩⟩⟩
  · refine ab_null (pc := 14) dX9_lawOfRow_14 ?_
    refine ab_aret (pc := 15) dX9_lawOfRow_15 rfl (Or.inl ⟨_, rfl⟩) ?_
    exact Or.inr ⟨ir, kp, ⟨_, rc⟩, Or.inl ⟨rfl, lawW_no rd (fun k9 => by have := k9.1; omega)⟩⟩
end C19
