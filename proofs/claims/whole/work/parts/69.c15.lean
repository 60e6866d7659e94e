/-! the class: sheets and rows, called -/
section C15
variable {l : Launch} {E : AbE} {h0 : AbH}
theorem c_row (hG : ab_G l E) {x : Nat} {B : Nat → Nat} {s : Nat → Int} {F C : Nat → Int → Int} {SA : Nat → Int → Option Nat} {la : Option Nat} {q : Nat → Int} {i k n : Int} (rc : RCx h0 x B s F C SA la q) (b3 : ∀ j, 0 ≤ j → j < 160 → -1 ≤ F 3 j ∧ F 3 j ≤ 80) (s16 : s 1 ≤ 16) : ab_M l E Y_X9_row 5 8 2 12 [vR x, vI i, vI k, vI n] h0 (cW h0 [101 + 3 * i.toNat, 102 + 3 * i.toNat] x B (fun o s' F' => (¬ isRow s i k ∧ o = .inr "java/lang/IndexOutOfBoundsException" ∧ s' = s ∧ F' = F) ∨ (isRow s i k ∧ ((¬ (0 ≤ n ∧ n ≤ 80) ∧ o = .inl (some (vI (-1))) ∧ s' = s ∧ F' = F) ∨ (0 ≤ n ∧ n ≤ 80 ∧ o = .inl (some (vI n)) ∧ s' = s ∧ F' = (rowF F i k n (fil (F 4) (80 * (10 * i + k)) 80 (fun _ => 0)))))))) := by
  refine ab_M.of (L0 := [some (vR x), some (vI i), some (vI k), some (vI n), none]) hG rfl rfl (Nat.le_of_ble_eq_true rfl) rfl ?_
  have kp : ab_kp (cP [101 + 3 * i.toNat, 102 + 3 * i.toNat]) h0 h0 := ab_kp0
  refine ab_aload_n (pc := 0) dX9_row_0 rfl ?_
  refine ab_iload_n (pc := 1) dX9_row_1 rfl ?_
  refine ab_iload_n (pc := 2) dX9_row_2 rfl ?_
  refine ab_callV (pc := 3) (c_sheetRow hG rc.o rc.ss) rc.o rfl ⟨w265, w1, w268, by decide, pd9⟩ w267 sp1 rfl (by omega) (by decide) (Nat.le_of_ble_eq_true rfl) rfl dX9_row_3 (fun X9 h9 hx9 => by obtain ⟨rfl, ⟨_, r9, _⟩ | ⟨r9, n9⟩⟩ := hx9; cases r9; cases r9; exact ⟨kp, _, _, _, _, _, _, rc, Or.inl ⟨fun kk => n9 ⟨kk.1, by have := kk.2.1; omega, fun e => by have := rc.sh.nn kk.1 (by have := kk.2.1; omega) e; have := kk.2.1; omega, kk.2.2.1, kk.2.2.2⟩, rfl, rfl, rfl⟩⟩) ?_
  rintro r9 h9 ⟨rfl, hr9⟩
  rcases hr9 with ⟨v9, r9, a9, e9, rfl, i0, i1, k0, k1⟩ | ⟨r9, _⟩
  rotate_left
  · cases r9
  cases r9
  obtain ⟨b9, c9, g9, z9, hc9⟩ := rc.sh.yes i0 i1 e9
  have iG := rc.sh.no i0 i1 e9
  refine ab_astore (pc := 6) dX9_row_6 rfl (Nat.le_of_ble_eq_true rfl) ?_
  refine ab_iload_n (pc := 8) dX9_row_8 rfl ?_
  refine ab_if_lt (pc := 9) 18 dX9_row_9 (by decide) (fun c9 => ?_) (fun c9 => ?_)
  · refine ab_iconst (pc := 18) dX9_row_18 (by decide) ?_
    refine ab_iret (pc := 19) dX9_row_19 rfl ?_
    exact ⟨kp, _, _, _, _, _, _, rc, Or.inr ⟨⟨i0, iG, k0, k1⟩, Or.inl ⟨by omega, rfl, rfl, rfl⟩⟩⟩
  · refine ab_iload_n (pc := 12) dX9_row_12 rfl ?_
    refine ab_bipush (pc := 13) dX9_row_13 (by decide) ?_
    refine ab_icmp_le (pc := 15) 20 dX9_row_15 (by decide) (fun c15 => ?_) (fun c15 => ?_)
    · refine ab_aload (pc := 20) dX9_row_20 rfl ?_
      refine ab_iload_n (pc := 22) dX9_row_22 rfl ?_
      refine ab_iload_n (pc := 23) dX9_row_23 rfl ?_
      refine ab_callV (pc := 24) (c_renew hG hc9.1 hc9.2.1 hc9.2.2.1 (by omega) k0 k1 (by omega) (by omega)) hc9.1 rfl ⟨w293, w11, w296, by decide, pd11⟩ w294 w295 rfl (by omega) (by decide) (Nat.le_of_ble_eq_true rfl) rfl dX9_row_24 (fun _ _ hx => absurd hx cC_no) ?_
      rintro _ h ⟨_, e9, kq, rfl, hb9, hcc9⟩
      cases e9
      replace kp := kp.cal kq (by first | (simp; done) | (simp; omega))
      replace rc := rc.row (G4 := fil (F 4) (80 * (10 * i + k)) 80 (fun _ => 0)) kq i0 i1 iG e9 hc9 k0 k1 (by omega) hb9 hcc9 (fun j j0 j1 => fil_at j0 (by omega)) (fun j hj => fil_out hj) b3
      refine ab_iload_n (pc := 27) dX9_row_27 rfl ?_
      refine ab_iret (pc := 28) dX9_row_28 rfl ?_
      exact ⟨kp, _, _, _, _, _, _, rc, Or.inr ⟨⟨i0, iG, k0, k1⟩, Or.inr ⟨by omega, by omega, rfl, rfl, rfl⟩⟩⟩
    · refine ab_iconst (pc := 18) dX9_row_18 (by decide) ?_
      refine ab_iret (pc := 19) dX9_row_19 rfl ?_
      exact ⟨kp, _, _, _, _, _, _, rc, Or.inr ⟨⟨i0, iG, k0, k1⟩, Or.inl ⟨by omega, rfl, rfl, rfl⟩⟩⟩
theorem c_put (hG : ab_G l E) {x : Nat} {B : Nat → Nat} {s : Nat → Int} {F C : Nat → Int → Int} {SA : Nat → Int → Option Nat} {la : Option Nat} {q : Nat → Int} {i k u v : Int} (rc : RCx h0 x B s F C SA la q) (b3 : ∀ j, 0 ≤ j → j < 160 → -1 ≤ F 3 j ∧ F 3 j ≤ 80) (s16 : s 1 ≤ 16) : ab_M l E Y_X9_put 7 8 2 12 [vR x, vI i, vI k, vI u, vI v] h0 (cW h0 [101 + 3 * i.toNat] x B (fun o s' F' => (¬ isRow s i k ∧ o = .inr "java/lang/IndexOutOfBoundsException" ∧ s' = s ∧ F' = F) ∨ (isRow s i k ∧ ((F 3 (10 * i + k) = -1 ∧ o = .inl (some (vI (-1))) ∧ s' = s ∧ F' = F) ∨ (F 3 (10 * i + k) ≠ -1 ∧ ¬ (0 ≤ u ∧ u < F 3 (10 * i + k)) ∧ o = .inl (some (vI (-2))) ∧ s' = s ∧ F' = F) ∨ (F 3 (10 * i + k) ≠ -1 ∧ 0 ≤ u ∧ u < F 3 (10 * i + k) ∧ o = .inl (some (vI 1)) ∧ s' = s ∧ F' = ab_u F 4 (ab_f (F 4) (80 * (10 * i + k) + u) (cutW (F 2 i) v))))))) := by
  refine ab_M.of (L0 := [some (vR x), some (vI i), some (vI k), some (vI u), some (vI v), none, none]) hG rfl rfl (Nat.le_of_ble_eq_true rfl) rfl ?_
  have kp : ab_kp (cP [101 + 3 * i.toNat]) h0 h0 := ab_kp0
  refine ab_aload_n (pc := 0) dX9_put_0 rfl ?_
  refine ab_iload_n (pc := 1) dX9_put_1 rfl ?_
  refine ab_iload_n (pc := 2) dX9_put_2 rfl ?_
  refine ab_callV (pc := 3) (c_sheetRow hG rc.o rc.ss) rc.o rfl ⟨w265, w1, w268, by decide, pd9⟩ w267 sp1 rfl (by omega) (by decide) (Nat.le_of_ble_eq_true rfl) rfl dX9_put_3 (fun X9 h9 hx9 => by obtain ⟨rfl, ⟨_, r9, _⟩ | ⟨r9, n9⟩⟩ := hx9; cases r9; cases r9; exact ⟨kp, _, _, _, _, _, _, rc, Or.inl ⟨fun kk => n9 ⟨kk.1, by have := kk.2.1; omega, fun e => by have := rc.sh.nn kk.1 (by have := kk.2.1; omega) e; have := kk.2.1; omega, kk.2.2.1, kk.2.2.2⟩, rfl, rfl, rfl⟩⟩) ?_
  rintro r9 h9 ⟨rfl, hr9⟩
  rcases hr9 with ⟨v9, r9, a9, e9, rfl, i0, i1, k0, k1⟩ | ⟨r9, _⟩
  rotate_left
  · cases r9
  cases r9
  obtain ⟨b9, c9, g9, z9, hc9⟩ := rc.sh.yes i0 i1 e9
  have iG := rc.sh.no i0 i1 e9
  refine ab_astore (pc := 6) dX9_put_6 rfl (Nat.le_of_ble_eq_true rfl) ?_
  refine ab_aload (pc := 8) dX9_put_8 rfl ?_
  refine ab_iload_n (pc := 10) dX9_put_10 rfl ?_
  refine ab_callV (pc := 11) (c_sizeOf hG hc9.1 hc9.2.1 hc9.2.2.1 k0 k1) hc9.1 rfl ⟨w575, w11, w578, by decide, pd2⟩ w576 w577 rfl (by omega) (by decide) (Nat.le_of_ble_eq_true rfl) rfl dX9_put_11 (fun _ _ hx => absurd hx pC_no) ?_
  rintro _ _ ⟨zv, e9, rfl, hzv⟩
  cases e9
  have ez : z9 k = F 3 (10 * i + k) := (hc9.zI i0).1 k k0 k1
  rw [ez] at hzv
  have b39 := b3 (10 * i + k) (by omega) (by omega)
  refine ab_istore (pc := 14) dX9_put_14 rfl (Nat.le_of_ble_eq_true rfl) ?_
  refine ab_iload (pc := 16) dX9_put_16 rfl ?_
  refine ab_iconst (pc := 18) dX9_put_18 (by decide) ?_
  refine ab_icmp_ne (pc := 19) 24 dX9_put_19 (by decide) (fun c19 => ?_) (fun c19 => ?_)
  · refine ab_iload_n (pc := 24) dX9_put_24 rfl ?_
    refine ab_if_lt (pc := 25) 34 dX9_put_25 (by decide) (fun c25 => ?_) (fun c25 => ?_)
    · refine ab_bipush (pc := 34) dX9_put_34 (by decide) ?_
      refine ab_iret (pc := 36) dX9_put_36 rfl ?_
      exact ⟨kp, _, _, _, _, _, _, rc, Or.inr ⟨⟨i0, iG, k0, k1⟩, Or.inr (Or.inl ⟨by omega, by omega, rfl, rfl, rfl⟩)⟩⟩
    · refine ab_iload_n (pc := 28) dX9_put_28 rfl ?_
      refine ab_iload (pc := 29) dX9_put_29 rfl ?_
      refine ab_icmp_lt (pc := 31) 37 dX9_put_31 (by decide) (fun c31 => ?_) (fun c31 => ?_)
      · refine ab_aload (pc := 37) dX9_put_37 rfl ?_
        refine ab_iload_n (pc := 39) dX9_put_39 rfl ?_
        refine ab_iload_n (pc := 40) dX9_put_40 rfl ?_
        refine ab_iload (pc := 41) dX9_put_41 rfl ?_
        refine ab_callV (pc := 43) (c_write hG hc9.1 hc9.2.1 hc9.2.2.1 (by omega) k0 k1 (by omega) (by omega)) hc9.1 rfl ⟨w579, w11, w582, by decide, pd13⟩ w580 w581 rfl (by omega) (by decide) (Nat.le_of_ble_eq_true rfl) rfl dX9_put_43 (fun _ _ hx => absurd hx cC_no) ?_
        rintro _ h ⟨_, e9, kq, rfl, hb9⟩
        cases e9
        replace kp := kp.cal kq (by first | (simp; done) | (simp; omega))
        replace rc := rc.put kq i0 i1 iG e9 hc9 k0 k1 (by omega) (by omega) hb9 b3
        rw [show ((i.toNat : Nat) : Int) = i by omega] at rc
        refine ab_iconst (pc := 46) dX9_put_46 (by decide) ?_
        refine ab_iret (pc := 47) dX9_put_47 rfl ?_
        exact ⟨kp, _, _, _, _, _, _, rc, Or.inr ⟨⟨i0, iG, k0, k1⟩, Or.inr (Or.inr ⟨by omega, by omega, by omega, rfl, rfl, rfl⟩)⟩⟩
      · refine ab_bipush (pc := 34) dX9_put_34 (by decide) ?_
        refine ab_iret (pc := 36) dX9_put_36 rfl ?_
        exact ⟨kp, _, _, _, _, _, _, rc, Or.inr ⟨⟨i0, iG, k0, k1⟩, Or.inr (Or.inl ⟨by omega, by omega, rfl, rfl, rfl⟩)⟩⟩
  · refine ab_iconst (pc := 22) dX9_put_22 (by decide) ?_
    refine ab_iret (pc := 23) dX9_put_23 rfl ?_
    exact ⟨kp, _, _, _, _, _, _, rc, Or.inr ⟨⟨i0, iG, k0, k1⟩, Or.inl ⟨by omega, rfl, rfl, rfl⟩⟩⟩
theorem c_tear (hG : ab_G l E) {x : Nat} {B : Nat → Nat} {s : Nat → Int} {F C : Nat → Int → Int} {SA : Nat → Int → Option Nat} {la : Option Nat} {q : Nat → Int} {i k : Int} (rc : RCx h0 x B s F C SA la q) (b3 : ∀ j, 0 ≤ j → j < 160 → -1 ≤ F 3 j ∧ F 3 j ≤ 80) (s16 : s 1 ≤ 16) : ab_M l E Y_X9_tear 3 8 2 12 [vR x, vI i, vI k] h0 (cW h0 [102 + 3 * i.toNat] x B (fun o s' F' => (¬ isRow s i k ∧ o = .inr "java/lang/IndexOutOfBoundsException" ∧ s' = s ∧ F' = F) ∨ (isRow s i k ∧ o = .inl (some (vI (F 3 (10 * i + k)))) ∧ s' = s ∧ F' = ab_u F 3 (ab_f (F 3) (10 * i + k) (-1))))) := by
  refine ab_M.of (L0 := [some (vR x), some (vI i), some (vI k)]) hG rfl rfl (Nat.le_of_ble_eq_true rfl) rfl ?_
  have kp : ab_kp (cP [102 + 3 * i.toNat]) h0 h0 := ab_kp0
  refine ab_aload_n (pc := 0) dX9_tear_0 rfl ?_
  refine ab_iload_n (pc := 1) dX9_tear_1 rfl ?_
  refine ab_iload_n (pc := 2) dX9_tear_2 rfl ?_
  refine ab_callV (pc := 3) (c_sheetRow hG rc.o rc.ss) rc.o rfl ⟨w265, w1, w268, by decide, pd9⟩ w267 sp1 rfl (by omega) (by decide) (Nat.le_of_ble_eq_true rfl) rfl dX9_tear_3 (fun X9 h9 hx9 => by obtain ⟨rfl, ⟨_, r9, _⟩ | ⟨r9, n9⟩⟩ := hx9; cases r9; cases r9; exact ⟨kp, _, _, _, _, _, _, rc, Or.inl ⟨fun kk => n9 ⟨kk.1, by have := kk.2.1; omega, fun e => by have := rc.sh.nn kk.1 (by have := kk.2.1; omega) e; have := kk.2.1; omega, kk.2.2.1, kk.2.2.2⟩, rfl, rfl, rfl⟩⟩) ?_
  rintro r9 h9 ⟨rfl, hr9⟩
  rcases hr9 with ⟨v9, r9, a9, e9, rfl, i0, i1, k0, k1⟩ | ⟨r9, _⟩
  rotate_left
  · cases r9
  cases r9
  obtain ⟨b9, c9, g9, z9, hc9⟩ := rc.sh.yes i0 i1 e9
  have iG := rc.sh.no i0 i1 e9
  refine ab_iload_n (pc := 6) dX9_tear_6 rfl ?_
  refine ab_callV (pc := 7) (c_drop hG hc9.1 hc9.2.1 hc9.2.2.1 (by omega) k0 k1) hc9.1 rfl ⟨w590, w11, w593, by decide, pd2⟩ w591 w592 rfl (by omega) (by decide) (Nat.le_of_ble_eq_true rfl) rfl dX9_tear_7 (fun _ _ hx => absurd hx cC_no) ?_
  rintro _ h ⟨_, e9, kq, rfl, hcc9⟩
  cases e9
  replace kp := kp.cal kq (by first | (simp; done) | (simp; omega))
  replace rc := rc.tear kq i0 i1 iG e9 hc9 k0 k1 hcc9 b3
  have ez : z9 k = F 3 (10 * i + k) := (hc9.zI i0).1 k k0 k1
  refine ab_iret (pc := 10) dX9_tear_10 rfl ?_
  rw [ez]
  exact ⟨kp, _, _, _, _, _, _, rc, Or.inr ⟨⟨i0, iG, k0, k1⟩, rfl, rfl, rfl⟩⟩
theorem c_word (hG : ab_G l E) {x : Nat} {B : Nat → Nat} {s : Nat → Int} {F C : Nat → Int → Int} {SA : Nat → Int → Option Nat} {la : Option Nat} {q : Nat → Int} {i k : Int} (rc : RCx h0 x B s F C SA la q) (b3 : ∀ j, 0 ≤ j → j < 160 → -1 ≤ F 3 j ∧ F 3 j ≤ 80) (s16 : s 1 ≤ 16) : ab_M l E Y_X9_word 3 9 2 12 [vR x, vI i, vI k] h0 (cW h0 [10] x B (fun o s' F' => (¬ isRow s i k ∧ o = .inr "java/lang/IndexOutOfBoundsException" ∧ s' = s ∧ F' = F) ∨ (isRow s i k ∧ ∃ n : Int, o = .inl (some (vI n)) ∧ isRd F i k n ∧ s' = s ∧ F' = F))) := by
  refine ab_M.of (L0 := [some (vR x), some (vI i), some (vI k)]) hG rfl rfl (Nat.le_of_ble_eq_true rfl) rfl ?_
  have kp : ab_kp (cP [10]) h0 h0 := ab_kp0
  refine ab_aload_n (pc := 0) dX9_word_0 rfl ?_
  refine ab_iload_n (pc := 1) dX9_word_1 rfl ?_
  refine ab_iload_n (pc := 2) dX9_word_2 rfl ?_
  refine ab_callV (pc := 3) (c_readWord hG rc b3 s16) rc.o rfl ⟨w601, w1, w604, by decide, pd18⟩ w603 sp3 rfl (by omega) (by decide) (Nat.le_of_ble_eq_true rfl) rfl dX9_word_3 (fun X9 h9 hx9 => by rcases hx9 with ⟨r9, nr, rfl⟩ | ⟨_, _, _, r9, _⟩; cases r9; exact ⟨kp, _, _, _, _, _, _, rc, Or.inl ⟨nr, rfl, rfl, rfl⟩⟩; cases r9) ?_
  rintro r9 h9 hr9
  rcases hr9 with ⟨r9, _⟩ | ⟨ir, v, fl, r9, kq, hl9, rd, rl⟩
  · cases r9
  cases r9
  replace kp := kp.cal kq (by simp)
  replace rc := rc.let kq hl9
  refine ab_iret (pc := 6) dX9_word_6 rfl ?_
  exact ⟨kp, _, _, _, _, _, _, rc, Or.inr ⟨ir, v, rfl, rd, rfl, rfl⟩⟩
theorem c_letter (hG : ab_G l E) {x : Nat} {B : Nat → Nat} {s : Nat → Int} {F C : Nat → Int → Int} {SA : Nat → Int → Option Nat} {la : Option Nat} {q : Nat → Int} {i k u : Int} (rc : RCx h0 x B s F C SA la q) (b3 : ∀ j, 0 ≤ j → j < 160 → -1 ≤ F 3 j ∧ F 3 j ≤ 80) (s16 : s 1 ≤ 16) : ab_M l E Y_X9_letter 5 9 2 12 [vR x, vI i, vI k, vI u] h0 (cW h0 [10] x B (fun o s' F' => (¬ isRow s i k ∧ o = .inr "java/lang/IndexOutOfBoundsException" ∧ s' = s ∧ F' = F) ∨ (isRow s i k ∧ ∃ n : Int, isRd F i k n ∧ s' = s ∧ F' = F ∧ ((0 ≤ u ∧ u < n ∧ o = .inl (some (vI (rdL F i k u)))) ∨ (¬ (0 ≤ u ∧ u < n) ∧ o = .inl (some (vI (-1)))))))) := by
  refine ab_M.of (L0 := [some (vR x), some (vI i), some (vI k), some (vI u), none]) hG rfl rfl (Nat.le_of_ble_eq_true rfl) rfl ?_
  have kp : ab_kp (cP [10]) h0 h0 := ab_kp0
  refine ab_aload_n (pc := 0) dX9_letter_0 rfl ?_
  refine ab_iload_n (pc := 1) dX9_letter_1 rfl ?_
  refine ab_iload_n (pc := 2) dX9_letter_2 rfl ?_
  refine ab_callV (pc := 3) (c_readWord hG rc b3 s16) rc.o rfl ⟨w601, w1, w604, by decide, pd18⟩ w603 sp3 rfl (by omega) (by decide) (Nat.le_of_ble_eq_true rfl) rfl dX9_letter_3 (fun X9 h9 hx9 => by rcases hx9 with ⟨r9, nr, rfl⟩ | ⟨_, _, _, r9, _⟩; cases r9; exact ⟨kp, _, _, _, _, _, _, rc, Or.inl ⟨nr, rfl, rfl, rfl⟩⟩; cases r9) ?_
  rintro r9 h9 hr9
  rcases hr9 with ⟨r9, _⟩ | ⟨ir, v, fl, r9, kq, hl9, rd, rl⟩
  · cases r9
  cases r9
  replace kp := kp.cal kq (by simp)
  replace rc := rc.let kq hl9
  refine ab_istore (pc := 6) dX9_letter_6 rfl (Nat.le_of_ble_eq_true rfl) ?_
  refine ab_iload_n (pc := 8) dX9_letter_8 rfl ?_
  refine ab_if_lt (pc := 9) 27 dX9_letter_9 (by decide) (fun c9 => ?_) (fun c9 => ?_)
  · refine ab_iconst (pc := 27) dX9_letter_27 (by decide) ?_
    refine ab_iret (pc := 28) dX9_letter_28 rfl ?_
    exact ⟨kp, _, _, _, _, _, _, rc, Or.inr ⟨ir, v, rd, rfl, rfl, by first | exact Or.inl ⟨by omega, by omega, rfl⟩ | exact Or.inr ⟨by omega, rfl⟩⟩⟩
  · refine ab_iload_n (pc := 12) dX9_letter_12 rfl ?_
    refine ab_iload (pc := 13) dX9_letter_13 rfl ?_
    refine ab_icmp_ge (pc := 15) 27 dX9_letter_15 (by decide) (fun c15 => ?_) (fun c15 => ?_)
    · refine ab_iconst (pc := 27) dX9_letter_27 (by decide) ?_
      refine ab_iret (pc := 28) dX9_letter_28 rfl ?_
      exact ⟨kp, _, _, _, _, _, _, rc, Or.inr ⟨ir, v, rd, rfl, rfl, by first | exact Or.inl ⟨by omega, by omega, rfl⟩ | exact Or.inr ⟨by omega, rfl⟩⟩⟩
    · have ln := rd.len
      refine ab_aload_n (pc := 18) dX9_letter_18 rfl ?_
      refine ab_get (pc := 19) (k := 7) okX9 rc.o rfl w119 rfl dX9_letter_19 ?_
      refine ab_iload_n (pc := 22) dX9_letter_22 rfl ?_
      refine ab_iald (pc := 23) rc.lt (by omega) (by omega) dX9_letter_23 ?_
      rw [ab_u_eq, rl u (by omega) (by omega)]
      refine ab_goto (pc := 24) 28 dX9_letter_24 (by decide) ?_
      refine ab_iret (pc := 28) dX9_letter_28 rfl ?_
      exact ⟨kp, _, _, _, _, _, _, rc, Or.inr ⟨ir, v, rd, rfl, rfl, by first | exact Or.inl ⟨by omega, by omega, rfl⟩ | exact Or.inr ⟨by omega, rfl⟩⟩⟩
theorem c_count (hG : ab_G l E) {x : Nat} {B : Nat → Nat} {s : Nat → Int} {F C : Nat → Int → Int} {SA : Nat → Int → Option Nat} {la : Option Nat} {q : Nat → Int} {w : Int} (rc : RCx h0 x B s F C SA la q) : ab_M l E Y_X9_count 2 0 0 0 [vR x, vI w] h0 (cW h0 [] x B (fun o s' F' => s' = s ∧ F' = F ∧ ((w = 0 ∧ o = .inl (some (vI (s 1)))) ∨ (w = 1 ∧ o = .inl (some (vI (s 7)))) ∨ (w = 2 ∧ o = .inl (some (vI (s 23)))) ∨ (w ≠ 0 ∧ w ≠ 1 ∧ w ≠ 2 ∧ o = .inl (some (vI (-1))))))) := by
  refine ab_M.of (L0 := [some (vR x), some (vI w)]) hG rfl rfl (Nat.le_of_ble_eq_true rfl) rfl ?_
  have kp : ab_kp (cP []) h0 h0 := ab_kp0
  by_cases cw : w = 0
  · refine ab_iload_n (pc := 0) dX9_count_0 rfl ?_
    refine ab_tableIn (pc := 1) (off := 27) 28 dX9_count_1 (by omega) (by omega) (by rw [cw]; rfl) (by decide) ?_
    refine ab_aload_n (pc := 28) dX9_count_28 rfl ?_
    refine ab_get (pc := 29) (k := 1) okX9 rc.o rfl w113 rfl dX9_count_29 ?_
    refine ab_iret (pc := 32) dX9_count_32 rfl ?_
    exact ⟨kp, _, _, _, _, _, _, rc, rfl, rfl, Or.inl ⟨cw, rfl⟩⟩
  have c0 := cw
  clear cw
  by_cases cw : w = 1
  · refine ab_iload_n (pc := 0) dX9_count_0 rfl ?_
    refine ab_tableIn (pc := 1) (off := 32) 33 dX9_count_1 (by omega) (by omega) (by rw [cw]; rfl) (by decide) ?_
    refine ab_aload_n (pc := 33) dX9_count_33 rfl ?_
    refine ab_get (pc := 34) (k := 3) okX9 rc.o rfl w115 rfl dX9_count_34 ?_
    refine ab_iret (pc := 37) dX9_count_37 rfl ?_
    exact ⟨kp, _, _, _, _, _, _, rc, rfl, rfl, Or.inr (Or.inl ⟨cw, rfl⟩)⟩
  have c1 := cw
  clear cw
  by_cases cw : w = 2
  · refine ab_iload_n (pc := 0) dX9_count_0 rfl ?_
    refine ab_tableIn (pc := 1) (off := 37) 38 dX9_count_1 (by omega) (by omega) (by rw [cw]; rfl) (by decide) ?_
    refine ab_aload_n (pc := 38) dX9_count_38 rfl ?_
    refine ab_get (pc := 39) (k := 6) okX9 rc.o rfl w118 rfl dX9_count_39 ?_
    refine ab_getN (pc := 42) (k := 6) okX4 rc.sr rfl w78 rfl dX9_count_42 ?_
    refine ab_iret (pc := 45) dX9_count_45 rfl ?_
    exact ⟨kp, _, _, _, _, _, _, rc, rfl, rfl, Or.inr (Or.inr (Or.inl ⟨cw, rfl⟩))⟩
  have c2 := cw
  clear cw
  refine ab_iload_n (pc := 0) dX9_count_0 rfl ?_
  refine ab_tableOut (pc := 1) 46 dX9_count_1 (by omega) (by decide) ?_
  refine ab_iconst (pc := 46) dX9_count_46 (by decide) ?_
  refine ab_iret (pc := 47) dX9_count_47 rfl ?_
  exact ⟨kp, _, _, _, _, _, _, rc, rfl, rfl, Or.inr (Or.inr (Or.inr ⟨c0, c1, c2, rfl⟩))⟩
theorem c_sheet (hG : ab_G l E) {x : Nat} {B : Nat → Nat} {s : Nat → Int} {F C : Nat → Int → Int} {SA : Nat → Int → Option Nat} {la : Option Nat} {q : Nat → Int} {w : Int} (rc : RCx h0 x B s F C SA la q) (s0 : 0 ≤ s 1) (b9 : ∀ j, 10 * s 1 ≤ j → j < 160 → F 3 j = -1) : ab_M l E Y_X9_sheet 2 6 3 813 [vR x, vI w] h0 (cW h0 [2, 3, 100 + 3 * (s 1).toNat, 102 + 3 * (s 1).toNat] x B (fun o s' F' => (¬ (0 ≤ w ∧ w ≤ 2) ∧ o = .inr "java/lang/IllegalArgumentException" ∧ s' = s ∧ F' = F) ∨ (0 ≤ w ∧ w ≤ 2 ∧ 16 ≤ s 1 ∧ o = .inr "java/lang/IllegalStateException" ∧ s' = s ∧ F' = F) ∨ (0 ≤ w ∧ w ≤ 2 ∧ s 1 < 16 ∧ o = .inl (some (vI (s 1))) ∧ s' = ab_u s 1 (s 1 + 1) ∧ F' = ab_u F 2 (ab_f (F 2) (s 1) w)))) := by
  refine ab_M.of (L0 := [some (vR x), some (vI w)]) hG rfl rfl (Nat.le_of_ble_eq_true rfl) rfl ?_
  have kp : ab_kp (cP [2, 3, 100 + 3 * (s 1).toNat, 102 + 3 * (s 1).toNat]) h0 h0 := ab_kp0
  have hx := rc.o
  have hS := rc.ss
  refine ab_iload_n (pc := 0) dX9_sheet_0 rfl ?_
  refine ab_if_lt (pc := 1) 9 dX9_sheet_1 (by decide) (fun c1 => ?_) (fun c1 => ?_)
  · refine ab_throw (pc := 9) tw_IAE w196 (by decide) (Nat.le_of_ble_eq_true rfl) rfl dX9_sheet_9 dX9_sheet_12 dX9_sheet_13 dX9_sheet_15 dX9_sheet_18 ?_
    exact ⟨kp, _, _, _, _, _, _, rc, Or.inl ⟨by omega, rfl, rfl, rfl⟩⟩
  · refine ab_iload_n (pc := 4) dX9_sheet_4 rfl ?_
    refine ab_iconst (pc := 5) dX9_sheet_5 (by decide) ?_
    refine ab_icmp_lt (pc := 6) 19 dX9_sheet_6 (by decide) (fun c6 => ?_) (fun c6 => ?_)
    · refine ab_aload_n (pc := 19) dX9_sheet_19 rfl ?_
      refine ab_get (pc := 20) (k := 1) okX9 hx rfl w113 rfl dX9_sheet_20 ?_
      refine ab_aload_n (pc := 23) dX9_sheet_23 rfl ?_
      refine ab_get (pc := 24) (k := 0) okX9 hx rfl w112 rfl dX9_sheet_24 ?_
      refine ab_alenA (pc := 27) hS dX9_sheet_27 ?_
      refine ab_icmp_lt (pc := 28) 41 dX9_sheet_28 (by decide) (fun c28 => ?_) (fun c28 => ?_)
      · refine ab_aload_n (pc := 41) dX9_sheet_41 rfl ?_
        refine ab_get (pc := 42) (k := 0) okX9 hx rfl w112 rfl dX9_sheet_42 ?_
        refine ab_aload_n (pc := 45) dX9_sheet_45 rfl ?_
        refine ab_get (pc := 46) (k := 1) okX9 hx rfl w113 rfl dX9_sheet_46 ?_
        refine ab_newG (pc := 49) (100 + 3 * (s 1).toNat) okX6 rfl rfl w39 w239 w11 dX9_sheet_49 (fun a_ha h z9 e9 n9 => ?_)
        replace hx := (n9 _ (ab_nn hx z9)).trans hx
        replace hS := (n9 _ (ab_nn hS z9)).trans hS
        replace kp := kp.new z9 n9
        have ha := e9
        clear e9 n9
        refine ab_dup (pc := 52) dX9_sheet_52 rfl ?_
        refine ab_iload_n (pc := 53) dX9_sheet_53 rfl ?_
        refine ab_callI (pc := 54) (c_newSheet hG (s 1).toNat ha (by omega)) (fun _ _ hx => absurd hx cC_no) ⟨w240, w11, w242, by decide, pd5⟩ w241 ⟨rfl, rfl⟩ rfl (by omega) (by decide) (Nat.le_of_ble_eq_true rfl) dX9_sheet_54 ?_
        rintro _ h ⟨_, e9, kq, rfl, b9_, c9_, ha9, hb9, z9, hc9, hz9⟩
        cases e9
        replace hx := kq _ _ hx (by unfold cP; first | (simp; done) | (simp; omega))
        replace hS := kq _ _ hS (by unfold cP; first | (simp; done) | (simp; omega))
        replace kp := kp.cal kq (by first | (simp; done) | (simp; omega))
        replace ha := ha9
        have hb := hb9
        have hc := hc9
        refine ab_aastG (pc := 57) hS (by decide) ha rfl (Or.inr rfl) (by omega) (by omega) dX9_sheet_57 (fun h e9 n9 => ?_)
        replace hx := (n9 _ (ab_ne hx hS (by first | (simp; done) | (simp; omega)))).trans hx
        replace ha := (n9 _ (ab_ne ha hS (by first | (simp; done) | (simp; omega)))).trans ha
        replace hb := (n9 _ (ab_ne hb hS (by first | (simp; done) | (simp; omega)))).trans hb
        replace hc := (n9 _ (ab_ne hc hS (by first | (simp; done) | (simp; omega)))).trans hc
        replace kp := kp.wr hS (cP_no (by simp)) n9
        replace hS := e9
        clear e9 n9
        refine ab_aload_n (pc := 58) dX9_sheet_58 rfl ?_
        refine ab_dup (pc := 59) dX9_sheet_59 rfl ?_
        refine ab_get (pc := 60) (k := 1) okX9 hx rfl w113 rfl dX9_sheet_60 ?_
        refine ab_iconst (pc := 63) dX9_sheet_63 (by decide) ?_
        refine ab_iadd (pc := 64) dX9_sheet_64 (by omega) (by omega) ?_
        refine ab_putG (pc := 65) (k := 1) okX9 hx (by decide) (by decide) trivial w113 rfl (Or.inl rfl) dX9_sheet_65 (fun h e9 n9 => ?_)
        replace hS := (n9 _ (ab_ne hS hx (by first | (simp; done) | (simp; omega)))).trans hS
        replace ha := (n9 _ (ab_ne ha hx (by first | (simp; done) | (simp; omega)))).trans ha
        replace hb := (n9 _ (ab_ne hb hx (by first | (simp; done) | (simp; omega)))).trans hb
        replace hc := (n9 _ (ab_ne hc hx (by first | (simp; done) | (simp; omega)))).trans hc
        replace kp := kp.wr hx (cP_no (by simp)) n9
        replace hx := e9
        clear e9 n9
        refine ab_aload_n (pc := 68) dX9_sheet_68 rfl ?_
        refine ab_get (pc := 69) (k := 1) okX9 hx rfl w113 rfl dX9_sheet_69 ?_
        refine ab_iconst (pc := 72) dX9_sheet_72 (by decide) ?_
        refine ab_isub (pc := 73) dX9_sheet_73 (by omega) (by omega) ?_
        refine ab_iret (pc := 74) dX9_sheet_74 rfl ?_
        rw [show s 1 + 1 - 1 = s 1 by omega]
        exact ⟨kp, _, _, _, _, _, _, rc.sheet kp s0 (by omega) hx hS ha hb hc hz9 b9, Or.inr (Or.inr ⟨by omega, by omega, by omega, rfl, rfl, rfl⟩)⟩
      · refine ab_throw (pc := 31) tw_ISE w232 (by decide) (Nat.le_of_ble_eq_true rfl) rfl dX9_sheet_31 dX9_sheet_34 dX9_sheet_35 dX9_sheet_37 dX9_sheet_40 ?_
        exact ⟨kp, _, _, _, _, _, _, rc, Or.inr (Or.inl ⟨by omega, by omega, by omega, rfl, rfl, rfl⟩)⟩
    · refine ab_throw (pc := 9) tw_IAE w196 (by decide) (Nat.le_of_ble_eq_true rfl) rfl dX9_sheet_9 dX9_sheet_12 dX9_sheet_13 dX9_sheet_15 dX9_sheet_18 ?_
      exact ⟨kp, _, _, _, _, _, _, rc, Or.inl ⟨by omega, rfl, rfl, rfl⟩⟩
end C15
