/-! the class: at, image -/
section C24
variable {l : Launch} {E : AbE} {h0 : AbH}
theorem RCx.gro {h h' : AbH} {x : Nat} {B : Nat → Nat} {s : Nat → Int} {F : Nat → Int → Int} {C : Nat → Int → Int} {SA : Nat → Int → Option Nat} {la : Option Nat} {q : Nat → Int} (r : RCx h x B s F C SA la q) (k : ab_kp (cP [11]) h h') {f : Int → Int} (a4 : h' (B 8) = some (kI 11 360 f)) : RCx h' x B s F (ab_u C 11 f) SA la q := r.mix k (by simp) (fun _ _ _ => rfl) (k _ _ r.sr (by unfold cP; simp)) (by rw [ab_u_ne (by decide)]; exact k _ _ r.mk (by unfold cP; simp)) (by rw [ab_u_ne (by decide)]; exact k _ _ r.lt (by unfold cP; simp)) (by rw [ab_u_eq]; exact a4) (r.lw.kp k (fun j j0 j1 => by unfold cP; simp; omega))
theorem c_mapOf (hG : ab_G l E) {x : Nat} {B : Nat → Nat} {s : Nat → Int} {SM : Int → Option Nat} {i : Int} (hx : h0 x = some (kO 2 8 [vR (B 0), vI (s 1), vR (B 2), vI (s 7), vR (B 4), vR (B 5), vR (B 6), vR (B 7), vR (B 8)])) (hM : h0 (B 4) = some (kA 5 "WordBench$LetterMap" 8 SM)) : ab_M l E Y_X9_mapOf 3 6 1 6 [vR x, vI i] h0 (pX h0 (fun v => ∃ a : Nat, SM i = some a ∧ v = vR a ∧ 0 ≤ i ∧ i < 8) "java/util/NoSuchElementException" (¬ (0 ≤ i ∧ i < 8 ∧ SM i ≠ none))) := by
  refine ab_M.of (L0 := [some (vR x), some (vI i), none]) hG rfl rfl (Nat.le_of_ble_eq_true rfl) rfl ?_
  refine ab_iload_n (pc := 0) dX9_mapOf_0 rfl ?_
  refine ab_if_lt (pc := 1) 22 dX9_mapOf_1 (by decide) (fun c1 => ?_) (fun c1 => ?_)
  · refine ab_null (pc := 22) dX9_mapOf_22 ?_
    refine ab_astoO (pc := 23) dX9_mapOf_23 rfl (Nat.le_of_ble_eq_true rfl) ?_
    refine ab_aloO (pc := 24) dX9_mapOf_24 rfl ?_
    refine ab_nonnull (pc := 25) 38 dX9_mapOf_25 (by decide) (fun a9 c9 => by cases c9) (fun c9 => ?_)
    refine ab_throwN (pc := 28) tw_NSE w946 (by decide) (Nat.le_of_ble_eq_true rfl) rfl dX9_mapOf_28 dX9_mapOf_31 dX9_mapOf_32 dX9_mapOf_34 dX9_mapOf_37 ?_
    first | exact ⟨rfl, Or.inr ⟨rfl, fun k9 => k9.2.2 c25⟩⟩ | exact ⟨rfl, Or.inr ⟨rfl, fun k9 => by have := k9.1; have := k9.2.1; omega⟩⟩
  · refine ab_iload_n (pc := 4) dX9_mapOf_4 rfl ?_
    refine ab_aload_n (pc := 5) dX9_mapOf_5 rfl ?_
    refine ab_get (pc := 6) (k := 4) okX9 hx rfl w116 rfl dX9_mapOf_6 ?_
    refine ab_alenA (pc := 9) hM dX9_mapOf_9 ?_
    refine ab_icmp_ge (pc := 10) 22 dX9_mapOf_10 (by decide) (fun c10 => ?_) (fun c10 => ?_)
    · refine ab_null (pc := 22) dX9_mapOf_22 ?_
      refine ab_astoO (pc := 23) dX9_mapOf_23 rfl (Nat.le_of_ble_eq_true rfl) ?_
      refine ab_aloO (pc := 24) dX9_mapOf_24 rfl ?_
      refine ab_nonnull (pc := 25) 38 dX9_mapOf_25 (by decide) (fun a9 c9 => by cases c9) (fun c9 => ?_)
      refine ab_throwN (pc := 28) tw_NSE w946 (by decide) (Nat.le_of_ble_eq_true rfl) rfl dX9_mapOf_28 dX9_mapOf_31 dX9_mapOf_32 dX9_mapOf_34 dX9_mapOf_37 ?_
      first | exact ⟨rfl, Or.inr ⟨rfl, fun k9 => k9.2.2 c25⟩⟩ | exact ⟨rfl, Or.inr ⟨rfl, fun k9 => by have := k9.1; have := k9.2.1; omega⟩⟩
    · refine ab_aload_n (pc := 13) dX9_mapOf_13 rfl ?_
      refine ab_get (pc := 14) (k := 4) okX9 hx rfl w116 rfl dX9_mapOf_14 ?_
      refine ab_iload_n (pc := 17) dX9_mapOf_17 rfl ?_
      refine ab_aald (pc := 18) hM (by omega) (by omega) dX9_mapOf_18 ?_
      refine ab_goto (pc := 19) 23 dX9_mapOf_19 (by decide) ?_
      refine ab_astoO (pc := 23) dX9_mapOf_23 rfl (Nat.le_of_ble_eq_true rfl) ?_
      refine ab_aloO (pc := 24) dX9_mapOf_24 rfl ?_
      refine ab_nonnull (pc := 25) 38 dX9_mapOf_25 (by decide) (fun a25 c25 => ?_) (fun c25 => ?_)
      · refine ab_aloO (pc := 38) dX9_mapOf_38 rfl ?_
        rw [c25]
        refine ab_aret (pc := 39) dX9_mapOf_39 rfl (Or.inl ⟨_, rfl⟩) ?_
        exact ⟨rfl, Or.inl ⟨_, rfl, _, rfl, rfl, by omega, by omega⟩⟩
      · refine ab_throwN (pc := 28) tw_NSE w946 (by decide) (Nat.le_of_ble_eq_true rfl) rfl dX9_mapOf_28 dX9_mapOf_31 dX9_mapOf_32 dX9_mapOf_34 dX9_mapOf_37 ?_
        first | exact ⟨rfl, Or.inr ⟨rfl, fun k9 => k9.2.2 c25⟩⟩ | exact ⟨rfl, Or.inr ⟨rfl, fun k9 => by have := k9.1; have := k9.2.1; omega⟩⟩
theorem c_at (hG : ab_G l E) {x : Nat} {B : Nat → Nat} {s : Nat → Int} {F C : Nat → Int → Int} {SA : Nat → Int → Option Nat} {la : Option Nat} {q : Nat → Int} {b a p : Int} (rc : RCx h0 x B s F C SA la q) (mbs : ∀ b : Int, mkOk F b → mapB F b) (p1 : p < 2147483648) : ab_M l E Y_X9_at 5 7 1 6 [vR x, vI b, vI a, vI p] h0 (cW h0 [] x B (fun o s' F' => ∃ c r9 : Int, atSp F b a p c r9 ∧ s' = s ∧ F' = F ∧ ((c = 0 ∧ o = .inl (some (vI r9))) ∨ (c = 1 ∧ o = .inr "java/util/NoSuchElementException")))) := by
  refine ab_M.of (L0 := [some (vR x), some (vI b), some (vI a), some (vI p), none]) hG rfl rfl (Nat.le_of_ble_eq_true rfl) rfl ?_
  have kp : ab_kp (cP []) h0 h0 := ab_kp0
  refine ab_aload_n (pc := 0) dX9_at_0 rfl ?_
  refine ab_iload_n (pc := 1) dX9_at_1 rfl ?_
  refine ab_callV (pc := 2) (c_mapOf hG rc.o rc.ms) rc.o rfl ⟨w933, w1, w936, by decide, pd67⟩ w935 sp18 rfl (by omega) (by decide) (Nat.le_of_ble_eq_true rfl) rfl dX9_at_2 (fun X9 h9 hx9 => by obtain ⟨rfl, ⟨_, r9, _⟩ | ⟨r9, n9⟩⟩ := hx9; cases r9; cases r9; exact ⟨kp, _, _, _, _, _, _, rc, 1, 0, Or.inl ⟨fun kk => n9 ⟨kk.1, kk.2.1, fun e => rc.mp.nn e kk⟩, rfl, rfl⟩, rfl, rfl, Or.inr ⟨rfl, rfl⟩⟩) ?_
  rintro r9 h9 ⟨rfl, hr9⟩
  rcases hr9 with ⟨v9, r9, a9m, em, rfl, m0, m1⟩ | ⟨r9, _⟩
  rotate_left
  · cases r9
  cases r9
  have mk9 := (rc.mp.no m0 m1 em).1
  refine ab_astore (pc := 5) dX9_at_5 rfl (Nat.le_of_ble_eq_true rfl) ?_
  refine ab_iload_n (pc := 7) dX9_at_7 rfl ?_
  refine ab_if_lt (pc := 8) 20 dX9_at_8 (by decide) (fun c8 => ?_) (fun c8 => ?_)
  · refine ab_iconst (pc := 20) dX9_at_20 (by decide) ?_
    refine ab_goto (pc := 21) 31 dX9_at_21 (by decide) ?_
    refine ab_iret (pc := 31) dX9_at_31 rfl ?_
    first | exact ⟨kp, _, _, _, _, _, _, rc, 0, -1, Or.inr ⟨mk9, rfl, Or.inl ⟨fun kk => by have := kk.2.2.1; omega, rfl⟩⟩, rfl, rfl, Or.inl ⟨rfl, rfl⟩⟩ | exact ⟨kp, _, _, _, _, _, _, rc, 0, lv, Or.inr ⟨mk9, rfl, Or.inr ⟨gq.1, gq.2.1, by omega, g3, g2, 31, by have q9 := hsz_two ((mbs _ mk9).v g2) 31 a gq.1 gq.2.1; omega, mEq_LT hE hB.cl 31 _ _ _ gq.1 gq.2.1 hlv.1⟩⟩, rfl, rfl, Or.inl ⟨rfl, rfl⟩⟩ | exact ⟨kp, _, _, _, _, _, _, rc, 0, -1, Or.inr ⟨mk9, rfl, Or.inl ⟨fun kk => by rcases hgv with ⟨q, _⟩ | ⟨_, q⟩; (exact absurd q (by omega)); exact q ⟨kk.1, kk.2.1, by have q1 := (hE a kk.1 kk.2.1).2 0 (by omega) (by have := kk.2.2.2.2 a kk.1 kk.2.1; omega); rw [kk.2.2.2.1] at q1; have q2 : t (20 * a + 0) = a := q1; rw [Int.add_zero] at q2; exact q2, fun y y0 y1 => by rw [(hE y y0 y1).1]; exact kk.2.2.2.2 y y0 y1⟩, rfl⟩⟩, rfl, rfl, Or.inl ⟨rfl, rfl⟩⟩
  · obtain ⟨b1, b2, b3_, z, t, gz, ha, hz, ht2, hg2, hB, hE, hgr⟩ := (rc.mp.no m0 m1 em).2.b (mbs _ mk9)
    refine ab_aload (pc := 11) dX9_at_11 rfl ?_
    refine ab_iload_n (pc := 13) dX9_at_13 rfl ?_
    refine ab_callV (pc := 14) (c_grows hG ha hz ht2 hB) ha rfl ⟨w989, w29, w992, by decide, pd71⟩ w990 w991 rfl (by omega) (by decide) (Nat.le_of_ble_eq_true rfl) rfl dX9_at_14 (fun _ _ hx => absurd hx pC_no) ?_
    rintro _ _ ⟨gv, e9, rfl, hgv⟩
    cases e9
    refine ab_if_ne (pc := 17) 24 dX9_at_17 (by decide) (fun c17 => ?_) (fun c17 => ?_)
    · have gq : 0 ≤ a ∧ a < F 36 b ∧ t (20 * a) = a ∧ ∀ y : Int, 0 ≤ y → y < F 36 b → 2 ≤ z y := by rcases hgv with ⟨_, q⟩ | ⟨q, _⟩; exact q; exact absurd q c17
      have g2 : ∀ x : Int, 0 ≤ x → x < F 36 b → 2 ≤ mSz F b x := fun x x0 x1 => by rw [← (hE x x0 x1).1]; exact gq.2.2.2 x x0 x1
      have g3 : mWd F b a 0 = a := by rw [← (hE a gq.1 gq.2.1).2 0 (by omega) (by have := g2 a gq.1 gq.2.1; omega)]; show t (20 * a + 0) = a; rw [Int.add_zero]; exact gq.2.2.1
      refine ab_aload (pc := 24) dX9_at_24 rfl ?_
      refine ab_iload_n (pc := 26) dX9_at_26 rfl ?_
      refine ab_iload_n (pc := 27) dX9_at_27 rfl ?_
      refine ab_callV (pc := 28) (c_far hG ha hz ht2 hg2 hB hgr gq.1 gq.2.1 (by omega) p1 (by rw [mEq_hz hE hB.cl 31 _ gq.1 gq.2.1]; have q9 := hsz_two ((mbs _ mk9).v g2) 31 a gq.1 gq.2.1; omega)) ha rfl ⟨w993, w29, w996, by decide, pd18⟩ w994 w995 rfl (by omega) (by decide) (Nat.le_of_ble_eq_true rfl) rfl dX9_at_28 (fun _ _ hx => absurd hx pC_no) ?_
      rintro _ _ ⟨lv, e9, rfl, hlv⟩
      cases e9
      refine ab_iret (pc := 31) dX9_at_31 rfl ?_
      first | exact ⟨kp, _, _, _, _, _, _, rc, 0, -1, Or.inr ⟨mk9, rfl, Or.inl ⟨fun kk => by have := kk.2.2.1; omega, rfl⟩⟩, rfl, rfl, Or.inl ⟨rfl, rfl⟩⟩ | exact ⟨kp, _, _, _, _, _, _, rc, 0, lv, Or.inr ⟨mk9, rfl, Or.inr ⟨gq.1, gq.2.1, by omega, g3, g2, 31, by have q9 := hsz_two ((mbs _ mk9).v g2) 31 a gq.1 gq.2.1; omega, mEq_LT hE hB.cl 31 _ _ _ gq.1 gq.2.1 hlv.1⟩⟩, rfl, rfl, Or.inl ⟨rfl, rfl⟩⟩ | exact ⟨kp, _, _, _, _, _, _, rc, 0, -1, Or.inr ⟨mk9, rfl, Or.inl ⟨fun kk => by rcases hgv with ⟨q, _⟩ | ⟨_, q⟩; (exact absurd q (by omega)); exact q ⟨kk.1, kk.2.1, by have q1 := (hE a kk.1 kk.2.1).2 0 (by omega) (by have := kk.2.2.2.2 a kk.1 kk.2.1; omega); rw [kk.2.2.2.1] at q1; have q2 : t (20 * a + 0) = a := q1; rw [Int.add_zero] at q2; exact q2, fun y y0 y1 => by rw [(hE y y0 y1).1]; exact kk.2.2.2.2 y y0 y1⟩, rfl⟩⟩, rfl, rfl, Or.inl ⟨rfl, rfl⟩⟩
    · refine ab_iconst (pc := 20) dX9_at_20 (by decide) ?_
      refine ab_goto (pc := 21) 31 dX9_at_21 (by decide) ?_
      refine ab_iret (pc := 31) dX9_at_31 rfl ?_
      first | exact ⟨kp, _, _, _, _, _, _, rc, 0, -1, Or.inr ⟨mk9, rfl, Or.inl ⟨fun kk => by have := kk.2.2.1; omega, rfl⟩⟩, rfl, rfl, Or.inl ⟨rfl, rfl⟩⟩ | exact ⟨kp, _, _, _, _, _, _, rc, 0, lv, Or.inr ⟨mk9, rfl, Or.inr ⟨gq.1, gq.2.1, by omega, g3, g2, 31, by have q9 := hsz_two ((mbs _ mk9).v g2) 31 a gq.1 gq.2.1; omega, mEq_LT hE hB.cl 31 _ _ _ gq.1 gq.2.1 hlv.1⟩⟩, rfl, rfl, Or.inl ⟨rfl, rfl⟩⟩ | exact ⟨kp, _, _, _, _, _, _, rc, 0, -1, Or.inr ⟨mk9, rfl, Or.inl ⟨fun kk => by rcases hgv with ⟨q, _⟩ | ⟨_, q⟩; (exact absurd q (by omega)); exact q ⟨kk.1, kk.2.1, by have q1 := (hE a kk.1 kk.2.1).2 0 (by omega) (by have := kk.2.2.2.2 a kk.1 kk.2.1; omega); rw [kk.2.2.2.1] at q1; have q2 : t (20 * a + 0) = a := q1; rw [Int.add_zero] at q2; exact q2, fun y y0 y1 => by rw [(hE y y0 y1).1]; exact kk.2.2.2.2 y y0 y1⟩, rfl⟩⟩, rfl, rfl, Or.inl ⟨rfl, rfl⟩⟩
theorem c_image (hG : ab_G l E) {x : Nat} {B : Nat → Nat} {s : Nat → Int} {F C : Nat → Int → Int} {SA : Nat → Int → Option Nat} {la : Option Nat} {q : Nat → Int} {b i k d : Int} (rc : RCx h0 x B s F C SA la q) (b3 : ∀ j, 0 ≤ j → j < 160 → -1 ≤ F 3 j ∧ F 3 j ≤ 80) (s16 : s 1 ≤ 16) (mbs : ∀ b : Int, mkOk F b → mapB F b) : ab_M l E Y_X9_image 9 9 4 24 [vR x, vI b, vI i, vI k, vI d] h0 (cW h0 [10, 11, 101 + 3 * d.toNat, 102 + 3 * d.toNat] x B (fun o s' F' => ∃ (c r9 : Int) (g : Int → Int), imgSp s F b i k d c r9 g ∧ s' = s ∧ ((c = 0 ∧ 0 ≤ r9 ∧ F' = rowF F d 0 r9 (fil (F 4) (80 * (10 * d + 0)) 80 (fun j => if j < r9 then g j else 0))) ∨ (¬ (c = 0 ∧ 0 ≤ r9) ∧ F' = F)) ∧ ((c = 0 ∧ o = .inl (some (vI r9))) ∨ (c = 1 ∧ o = .inr "java/util/NoSuchElementException") ∨ (c = 2 ∧ o = .inr "java/lang/IndexOutOfBoundsException")))) := by
  refine ab_M.of (L0 := [some (vR x), some (vI b), some (vI i), some (vI k), some (vI d), none, none, none, none]) hG rfl rfl (Nat.le_of_ble_eq_true rfl) rfl ?_
  have kp : ab_kp (cP [10, 11, 101 + 3 * d.toNat, 102 + 3 * d.toNat]) h0 h0 := ab_kp0
  refine ab_aload_n (pc := 0) dX9_image_0 rfl ?_
  refine ab_iload_n (pc := 1) dX9_image_1 rfl ?_
  refine ab_callV (pc := 2) (c_mapOf hG rc.o rc.ms) rc.o rfl ⟨w933, w1, w936, by decide, pd67⟩ w935 sp18 rfl (by omega) (by decide) (Nat.le_of_ble_eq_true rfl) rfl dX9_image_2 (fun X9 h9 hx9 => by obtain ⟨rfl, ⟨_, r9, _⟩ | ⟨r9, n9⟩⟩ := hx9; cases r9; cases r9; exact ⟨kp, _, _, _, _, _, _, rc, 1, 0, F 0, Or.inl ⟨fun kk => n9 ⟨kk.1, kk.2.1, fun e => rc.mp.nn e kk⟩, rfl, rfl⟩, rfl, Or.inr ⟨by omega, rfl⟩, Or.inr (Or.inl ⟨rfl, rfl⟩)⟩) ?_
  rintro r9 h9 ⟨rfl, hr9⟩
  rcases hr9 with ⟨v9, r9, a9m, em, rfl, m0, m1⟩ | ⟨r9, _⟩
  rotate_left
  · cases r9
  cases r9
  have mk9 := (rc.mp.no m0 m1 em).1
  refine ab_astore (pc := 5) dX9_image_5 rfl (Nat.le_of_ble_eq_true rfl) ?_
  refine ab_aload_n (pc := 7) dX9_image_7 rfl ?_
  refine ab_iload_n (pc := 8) dX9_image_8 rfl ?_
  refine ab_iload_n (pc := 9) dX9_image_9 rfl ?_
  refine ab_callV (pc := 10) (c_readWord hG rc b3 s16) rc.o rfl ⟨w601, w1, w604, by decide, pd18⟩ w603 sp3 rfl (by omega) (by decide) (Nat.le_of_ble_eq_true rfl) rfl dX9_image_10 (fun X9 h9 hx9 => by rcases hx9 with ⟨r9, nr, rfl⟩ | ⟨_, _, _, r9, _⟩; cases r9; exact ⟨kp, _, _, _, _, _, _, rc, 2, 0, F 0, Or.inr (Or.inl ⟨mk9, fun kk => nr kk.1, rfl, rfl⟩), rfl, Or.inr ⟨by omega, rfl⟩, Or.inr (Or.inr ⟨rfl, rfl⟩)⟩; cases r9) ?_
  rintro r9 h9 hr9
  rcases hr9 with ⟨r9, _⟩ | ⟨ir, v, fl, r9, kq, hl9, rd, rl⟩
  · cases r9
  cases r9
  replace kp := kp.cal kq (by simp)
  replace rc := rc.let kq hl9
  refine ab_istore (pc := 13) dX9_image_13 rfl (Nat.le_of_ble_eq_true rfl) ?_
  refine ab_aload_n (pc := 15) dX9_image_15 rfl ?_
  refine ab_iload (pc := 16) dX9_image_16 rfl ?_
  refine ab_callV (pc := 18) (c_sheetOf hG rc.o rc.ss) rc.o rfl ⟨w269, w1, w272, by decide, pd10⟩ w271 sp2 rfl (by omega) (by decide) (Nat.le_of_ble_eq_true rfl) rfl dX9_image_18 (fun X9 h9 hx9 => by obtain ⟨rfl, ⟨_, r9, _⟩ | ⟨r9, n9⟩⟩ := hx9; cases r9; cases r9; exact ⟨kp, _, _, _, _, _, _, rc, 2, 0, F 0, Or.inr (Or.inl ⟨mk9, fun kk => n9 ⟨kk.2.1, by have := kk.2.2; omega, fun e => by have := rc.sh.nn kk.2.1 (by have := kk.2.2; omega) e; have := kk.2.2; omega⟩, rfl, rfl⟩), rfl, Or.inr ⟨by omega, rfl⟩, Or.inr (Or.inr ⟨rfl, rfl⟩)⟩) ?_
  rintro r9 h9 ⟨rfl, hr9⟩
  rcases hr9 with ⟨v9, r9, a9, e9, rfl, i0, i1⟩ | ⟨r9, _⟩
  rotate_left
  · cases r9
  cases r9
  obtain ⟨b9, c9, g9, z9, hc9⟩ := rc.sh.yes i0 i1 e9
  have iG := rc.sh.no i0 i1 e9
  refine ab_astore (pc := 21) dX9_image_21 rfl (Nat.le_of_ble_eq_true rfl) ?_
  refine ab_iload (pc := 23) dX9_image_23 rfl ?_
  refine ab_if_lt (pc := 25) 45 dX9_image_25 (by decide) (fun c25 => ?_) (fun c25 => ?_)
  · refine ab_iconst (pc := 45) dX9_image_45 (by decide) ?_
    refine ab_iret (pc := 46) dX9_image_46 rfl ?_
    have ln := rd.len
    by_cases gv : v = -1
    · subst gv; exact ⟨kp, _, _, _, _, _, _, rc, 0, -1, F 0, Or.inr (Or.inr ⟨mk9, ir, i0, iG, rfl, Or.inl ⟨rd, rfl⟩⟩), rfl, Or.inr ⟨by omega, rfl⟩, Or.inl ⟨rfl, rfl⟩⟩
    · first | (exfalso; omega) | (rcases hbv2 with ⟨q, _⟩ | ⟨_, q⟩; (exact absurd q (by omega)); exact ⟨kp, _, _, _, _, _, _, rc, 0, -1, F 0, Or.inr (Or.inr ⟨mk9, ir, i0, iG, rfl, Or.inr ⟨v, by omega, rd, Or.inl ⟨q, rfl⟩⟩⟩), rfl, Or.inr ⟨by omega, rfl⟩, Or.inl ⟨rfl, rfl⟩⟩)
  · obtain ⟨b1, b2, b3_, z, t, gz, ha, hz, ht2, hg2, hB, hE, hgr⟩ := (rc.mp.no m0 m1 em).2.b (mbs _ mk9)
    refine ab_aload_n (pc := 28) dX9_image_28 rfl ?_
    refine ab_get (pc := 29) (k := 7) okX9 rc.o rfl w119 rfl dX9_image_29 ?_
    refine ab_iload (pc := 32) dX9_image_32 rfl ?_
    refine ab_aload (pc := 34) dX9_image_34 rfl ?_
    refine ab_getN (pc := 36) (k := 0) okX1 ha rfl w887 rfl dX9_image_36 ?_
    refine ab_callS (pc := 39) (c_below hG rc.lt (by decide) (by have := rd.len; show v ≤ (60 : Int); omega)) ⟨w647, w1, w649, by decide, pd50⟩ w648 rfl (by omega) (by decide) (Nat.le_of_ble_eq_true rfl) rfl dX9_image_39 (fun _ _ hx => absurd hx pC_no) ?_
    rintro _ _ ⟨bv, e9, rfl, hbv⟩
    cases e9
    have ln := rd.len
    have u10 : ab_u C 10 fl 10 = fl := ab_u_eq
    have hbv2 : (bv = 1 ∧ ∀ j : Int, 0 ≤ j → j < v → rdL F i k j < F 36 b) ∨ (bv = 0 ∧ ¬ ∀ j : Int, 0 ≤ j → j < v → rdL F i k j < F 36 b) := by
      rw [u10] at hbv
      rcases hbv with ⟨b, b2⟩ | ⟨b, b2⟩
      · exact Or.inl ⟨b, fun j j0 j1 => by rw [← rl j j0 j1]; exact b2 j j0 j1⟩
      · exact Or.inr ⟨b, fun b3 => b2 (fun j j0 j1 => by rw [rl j j0 j1]; exact b3 j j0 j1)⟩
    refine ab_if_ne (pc := 42) 47 dX9_image_42 (by decide) (fun c42 => ?_) (fun c42 => ?_)
    · have bl : ∀ j : Int, 0 ≤ j → j < v → rdL F i k j < F 36 b := by rcases hbv2 with ⟨_, q⟩ | ⟨q, _⟩; exact q; exact absurd q c42
      have lf0 : ∀ j : Int, 0 ≤ j → j < v → 0 ≤ rdL F i k j ∧ rdL F i k j < F 36 b := fun j j0 j1 => ⟨((ln.2.2 (by omega)).2 j j0 j1).1, bl j j0 j1⟩
      have lf : ∀ j : Int, 0 ≤ j → j < v → 0 ≤ ab_u C 10 fl 10 j ∧ ab_u C 10 fl 10 j < F 36 b := fun j j0 j1 => by rw [u10, rl j j0 j1]; exact lf0 j j0 j1
      refine ab_aload (pc := 47) dX9_image_47 rfl ?_
      refine ab_aload_n (pc := 49) dX9_image_49 rfl ?_
      refine ab_get (pc := 50) (k := 7) okX9 rc.o rfl w119 rfl dX9_image_50 ?_
      refine ab_iload (pc := 53) dX9_image_53 rfl ?_
      refine ab_aload_n (pc := 55) dX9_image_55 rfl ?_
      refine ab_get (pc := 56) (k := 8) okX9 rc.o rfl w120 rfl dX9_image_56 ?_
      refine ab_callV (pc := 59) (c_into hG ha hz ht2 rc.lt rc.gr (by omega) (Or.inr rfl) hB (by omega) (by have := rd.len; show v ≤ (60 : Int); omega) (by decide) lf) ha rfl ⟨w953, w29, w956, by decide, pd68⟩ w954 w955 rfl (by omega) (by decide) (Nat.le_of_ble_eq_true rfl) rfl dX9_image_59 (fun _ _ hx => absurd hx cC_no) ?_
      rintro _ h ⟨_, e9, kq, iv, u9, rfl, hu9, hi9⟩
      cases e9
      replace kp := kp.cal kq (by first | (simp; done) | (simp; omega))
      replace rc := rc.gro kq hu9
      replace hc9 := hc9.kp kq (fun j hj => by unfold cP; simp; omega)
      refine ab_istore (pc := 62) dX9_image_62 rfl (Nat.le_of_ble_eq_true rfl) ?_
      have pe1 : pl z (ab_u C 10 fl 10) 0 v = pl (mSz F b) (rdL F i k) 0 v := by rw [u10, pl_f_congr rl v (by omega) (Int.le_refl _)]; exact mEq_pl hE lf0 v (by omega) (Int.le_refl _)
      rw [pe1] at hi9
      have pn := pl_ge (z := mSz F b) (sh := rdL F i k) (q := 0) (n := v) (fun j j0 j1 => by rw [Int.zero_add]; exact ((mbs _ mk9).2.2 _ (lf0 j j0 j1).1 (lf0 j j0 j1).2).1) v (by omega) (Int.le_refl _)
      refine ab_iload (pc := 64) dX9_image_64 rfl ?_
      refine ab_iconst (pc := 66) dX9_image_66 (by decide) ?_
      refine ab_icmp_eq (pc := 67) 77 dX9_image_67 (by decide) (fun c67 => ?_) (fun c67 => ?_)
      · refine ab_bipush (pc := 77) dX9_image_77 (by decide) ?_
        refine ab_iret (pc := 79) dX9_image_79 rfl ?_
        exact ⟨kp, _, _, _, _, _, _, rc, 0, -2, F 0, Or.inr (Or.inr ⟨mk9, ir, i0, iG, rfl, Or.inr ⟨v, by omega, rd, Or.inr ⟨bl, Or.inl ⟨by omega, rfl⟩⟩⟩⟩), rfl, Or.inr ⟨by omega, rfl⟩, Or.inl ⟨rfl, rfl⟩⟩
      · refine ab_iload (pc := 70) dX9_image_70 rfl ?_
        refine ab_bipush (pc := 72) dX9_image_72 (by decide) ?_
        refine ab_icmp_le (pc := 74) 80 dX9_image_74 (by decide) (fun c74 => ?_) (fun c74 => ?_)
        · refine ab_aload (pc := 80) dX9_image_80 rfl ?_
          refine ab_iconst (pc := 82) dX9_image_82 (by decide) ?_
          refine ab_aload_n (pc := 83) dX9_image_83 rfl ?_
          refine ab_get (pc := 84) (k := 8) okX9 rc.o rfl w120 rfl dX9_image_84 ?_
          refine ab_iload (pc := 87) dX9_image_87 rfl ?_
          refine ab_callV (pc := 89) (c_copyIn hG hc9.1 hc9.2.1 hc9.2.2.1 rc.gr (by omega) (by omega) (by omega) (Or.inr rfl) (by omega) (by omega) (by show iv ≤ (360 : Int); omega)) hc9.1 rfl ⟨w850, w11, w853, by decide, pd61⟩ w851 w852 rfl (by omega) (by decide) (Nat.le_of_ble_eq_true rfl) rfl dX9_image_89 (fun _ _ hx => absurd hx cC_no) ?_
          rintro _ h ⟨_, e9_, kq, rfl, hb9, hcc9⟩
          cases e9_
          replace kp := kp.cal kq (by simp)
          replace rc := rc.row (G4 := fil (F 4) (80 * (10 * d + 0)) 80 (fun j => if j < iv then u9 j else 0)) kq i0 i1 iG e9 hc9 (by omega) (by omega) (by omega) hb9 hcc9 (fun j j0 j1 => by rw [fil_at j0 (by omega), if_pos j1, ab_u_eq]) (fun j hj => fil_out hj) b3
          refine ab_iload (pc := 92) dX9_image_92 rfl ?_
          refine ab_iret (pc := 94) dX9_image_94 rfl ?_
          rcases hi9 with ⟨q, _⟩ | ⟨q1, q2, q3⟩
          · exact absurd q c67
          · exact ⟨kp, _, _, _, _, _, _, rc, 0, iv, u9, Or.inr (Or.inr ⟨mk9, ir, i0, iG, rfl, Or.inr ⟨v, by omega, rd, Or.inr ⟨bl, Or.inr ⟨by omega, q1, by rw [u10] at q3; exact mEq_img hE lf0 (Img_congr rl q3)⟩⟩⟩⟩), rfl, Or.inl ⟨rfl, by omega, rfl⟩, Or.inl ⟨rfl, rfl⟩⟩
        · refine ab_bipush (pc := 77) dX9_image_77 (by decide) ?_
          refine ab_iret (pc := 79) dX9_image_79 rfl ?_
          exact ⟨kp, _, _, _, _, _, _, rc, 0, -2, F 0, Or.inr (Or.inr ⟨mk9, ir, i0, iG, rfl, Or.inr ⟨v, by omega, rd, Or.inr ⟨bl, Or.inl ⟨by omega, rfl⟩⟩⟩⟩), rfl, Or.inr ⟨by omega, rfl⟩, Or.inl ⟨rfl, rfl⟩⟩
    · refine ab_iconst (pc := 45) dX9_image_45 (by decide) ?_
      refine ab_iret (pc := 46) dX9_image_46 rfl ?_
      have ln := rd.len
      by_cases gv : v = -1
      · subst gv; exact ⟨kp, _, _, _, _, _, _, rc, 0, -1, F 0, Or.inr (Or.inr ⟨mk9, ir, i0, iG, rfl, Or.inl ⟨rd, rfl⟩⟩), rfl, Or.inr ⟨by omega, rfl⟩, Or.inl ⟨rfl, rfl⟩⟩
      · first | (exfalso; omega) | (rcases hbv2 with ⟨q, _⟩ | ⟨_, q⟩; (exact absurd q (by omega)); exact ⟨kp, _, _, _, _, _, _, rc, 0, -1, F 0, Or.inr (Or.inr ⟨mk9, ir, i0, iG, rfl, Or.inr ⟨v, by omega, rd, Or.inl ⟨q, rfl⟩⟩⟩), rfl, Or.inr ⟨by omega, rfl⟩, Or.inl ⟨rfl, rfl⟩⟩)
end C24
