/-! the reference: images -/
section M14
variable {l : Launch} {E : AbE} {m : Nat} {A : Nat → Nat} {s0 : Nat → Int} {F0 : Nat → Int → Int} {h0 : AbH}
def ImgP (sz : Int → Int) (wd : Int → Int → Int) (f : Int → Int) (k i : Int) (g : Int → Int) : Prop := Img sz wd f k g ∧ ∀ t : Int, 0 ≤ t → t < i → g (pl sz f 0 k + t) = wd (f k) t
theorem ImgP_step {sz : Int → Int} {wd : Int → Int → Int} {f : Int → Int} {k i n : Int} {g : Int → Int} (h : ImgP sz wd f k i g) (hs : ∀ k : Int, 0 ≤ k → k < n → 1 ≤ sz (f k)) (k0 : 0 ≤ k) (k1 : k < n) (i0 : 0 ≤ i) : ImgP sz wd f k (i + 1) (ab_f g (pl sz f 0 k + i) (wd (f k) i)) := by
  refine ⟨fun j j0 j1 t t0 t1 => ?_, fun t t0 t1 => ?_⟩
  · have m1 := pl_mono (sh := f) (q := 0) (n := n) (j := j + 1) (z := sz) (fun k k0 k1 => by rw [Int.zero_add]; exact hs k k0 k1) (by omega) k k0 (by omega) (by omega)
    rw [pl0q j0] at m1
    rw [ab_f_ne (by omega)]
    exact h.1 j j0 j1 t t0 t1
  · by_cases e : t = i
    · rw [e, ab_f_eq rfl]
    · rw [ab_f_ne (by omega)]
      exact h.2 t t0 (by omega)
theorem ImgP_end {sz : Int → Int} {wd : Int → Int → Int} {f : Int → Int} {k : Int} {g : Int → Int} (h : ImgP sz wd f k (sz (f k)) g) (k0 : 0 ≤ k) : Img sz wd f (k + 1) g := by
  intro j j0 j1 t t0 t1
  by_cases e : j = k
  · subst e
    exact h.2 t t0 t1
  · exact h.1 j j0 (by omega) t t0 t1
theorem m_findImage_28 {K : Nat} (hK : wK K) {b n : Int} (b0 : 0 ≤ b) (b8 : b < 8) (n0 : 0 ≤ n) (n6 : n ≤ 60) (nN : n ≤ mLen K) (mb : mapB F0 b) (le : ∀ k : Int, 0 ≤ k → k < n → 0 ≤ F0 K k ∧ F0 K k < F0 36 b) {k : Int} (k0 : 0 ≤ k) (k1 : k < n) (hC : ∀ (i : Int) (h : AbH) (s : Nat → Int) (F : Nat → Int → Int), mW h0 m A s0 F0 [40] [39] h s F → s 40 = pl (mSz F0 b) (F0 K) 0 (k + 1) → Img (mSz F0 b) (mWd F0 b) (F0 K) (k + 1) (F 39) → ab_T l E Y_X10_findImage 0 0 0 78 [some (vR m), some (vI b), some (vR (A K)), some (vI n), some (vI k), some (vI (8 * b + F0 K k)), some (vI i)] [] h (mC h0 m A s0 F0 [40] [39] (fun r s' F' => r = none ∧ s' 40 = pl (mSz F0 b) (F0 K) 0 n ∧ Img (mSz F0 b) (mWd F0 b) (F0 K) n (F' 39)))) (fu : Nat) : ∀ (i : Int) (h : AbH) (s : Nat → Int) (F : Nat → Int → Int), mW h0 m A s0 F0 [40] [39] h s F → (mSz F0 b (F0 K k) - i).toNat < fu → (0 ≤ i) → (i ≤ mSz F0 b (F0 K k)) → (s 40 = pl (mSz F0 b) (F0 K) 0 k + i) → (ImgP (mSz F0 b) (mWd F0 b) (F0 K) k i (F 39)) → ab_T l E Y_X10_findImage 0 0 0 28 [some (vR m), some (vI b), some (vR (A K)), some (vI n), some (vI k), some (vI (8 * b + F0 K k)), some (vI i)] [] h (mC h0 m A s0 F0 [40] [39] (fun r s' F' => r = none ∧ s' 40 = pl (mSz F0 b) (F0 K) 0 n ∧ Img (mSz F0 b) (mWd F0 b) (F0 K) n (F' 39))) := by
  induction fu with
  | zero => intro i h s F hW hm; exact absurd hm (Nat.not_lt_zero _)
  | succ fu ih =>
    intro i h s F hW hm i0 i1 e40 I
    have hk8 := wK_le hK
    have hs : ∀ k : Int, 0 ≤ k → k < n → 1 ≤ mSz F0 b (F0 K k) := fun k k0 k1 => (mb.2.2 _ (le k k0 k1).1 (le k k0 k1).2).1
    have hs2 : ∀ k : Int, 0 ≤ k → k < n → mSz F0 b (F0 K (0 + k)) ≤ 20 := fun k k0 k1 => by rw [Int.zero_add]; exact (mb.2.2 _ (le k k0 k1).1 (le k k0 k1).2).2.1
    have hs1 : ∀ k : Int, 0 ≤ k → k < n → 1 ≤ mSz F0 b (F0 K (0 + k)) := fun k k0 k1 => by rw [Int.zero_add]; exact hs k k0 k1
    have p2 := pl_le hs2 k k0 (by omega)
    have p1 := pl_ge hs1 k k0 (by omega)
    have al8 := mb.2.1
    have l1 := le k k0 k1
    have l2 := mb.2.2 _ l1.1 l1.2
    have l3 : F0 37 (8 * b + F0 K k) = mSz F0 b (F0 K k) := rfl
    refine ab_iload (pc := 28) dX10_findImage_28 rfl ?_
    refine ab_aload_n (pc := 30) dX10_findImage_30 rfl ?_
    refine ab_get (pc := 31) (k := 37) (x := vR (A 37)) okX10 hW.obj rfl w1092 rfl dX10_findImage_31 ?_
    refine ab_iload (pc := 34) dX10_findImage_34 rfl ?_
    refine ab_iald (pc := 36) (n := 64) (f := F0 37) (hW.arr 37 rfl (hW.Fv 37 (by decide))) (by omega) (by omega) dX10_findImage_36 ?_
    refine ab_icmp_ge (pc := 37) 78 dX10_findImage_37 (by decide) (fun c37 => ?_) (fun c37 => ?_)
    · have e9 : i = mSz F0 b (F0 K k) := by omega
      rw [e9] at I
      exact hC _ _ _ _ hW (e40.trans (by rw [pl0q k0]; omega)) (ImgP_end I k0)
    · refine ab_aload_n (pc := 40) dX10_findImage_40 rfl ?_
      refine ab_get (pc := 41) (k := 39) (x := vR (A 39)) okX10 hW.obj rfl w1094 rfl dX10_findImage_41 ?_
      refine ab_aload_n (pc := 44) dX10_findImage_44 rfl ?_
      refine ab_get (pc := 45) (k := 40) (x := vI ((pl (mSz F0 b) (F0 K) 0 k + i))) okX10 hW.obj (mg rfl e40) w1095 rfl dX10_findImage_45 ?_
      refine ab_aload_n (pc := 48) dX10_findImage_48 rfl ?_
      refine ab_get (pc := 49) (k := 38) (x := vR (A 38)) okX10 hW.obj rfl w1093 rfl dX10_findImage_49 ?_
      refine ab_bipush (pc := 52) dX10_findImage_52 (by decide) ?_
      refine ab_iload (pc := 54) dX10_findImage_54 rfl ?_
      refine ab_imul (pc := 56) dX10_findImage_56 (by omega) (by omega) ?_
      refine ab_iload (pc := 57) dX10_findImage_57 rfl ?_
      refine ab_iadd (pc := 59) dX10_findImage_59 (by omega) (by omega) ?_
      refine ab_iald (pc := 60) (n := 1280) (f := F0 38) (hW.arr 38 rfl (hW.Fv 38 (by decide))) (by omega) (by omega) dX10_findImage_60 ?_
      refine ab_iastG (pc := 61) (n := 1300) (f := F 39) (hW.arr 39 rfl rfl) (by decide) (by omega) (by omega) dX10_findImage_61 (fun h e9 n9 => ?_)
      replace hW := hW.wr (k := 39) rfl e9 n9 (by decide)
      clear e9 n9
      refine ab_aload_n (pc := 62) dX10_findImage_62 rfl ?_
      refine ab_dup (pc := 63) dX10_findImage_63 rfl ?_
      refine ab_get (pc := 64) (k := 40) (x := vI ((pl (mSz F0 b) (F0 K) 0 k + i))) okX10 hW.obj (mg rfl e40) w1095 rfl dX10_findImage_64 ?_
      refine ab_iconst (pc := 67) dX10_findImage_67 (by decide) ?_
      refine ab_iadd (pc := 68) dX10_findImage_68 (by omega) (by omega) ?_
      refine ab_putG (pc := 69) (k := 40) okX10 hW.obj (by decide) (by decide) trivial w1095 rfl (Or.inl rfl) dX10_findImage_69 (fun h e9 n9 => ?_)
      replace hW := hW.put e9 n9 rfl (by decide)
      clear e9 n9
      refine ab_iinc (pc := 72) dX10_findImage_72 rfl rfl (by decide) (by omega) (by omega) ?_
      refine ab_goto (pc := 75) 28 dX10_findImage_75 (by decide) ?_
      exact ih (i + 1) _ _ _ hW (by omega) (by omega) (by omega) (rfl.trans (Int.add_assoc _ _ _)) (ImgP_step I hs k0 k1 i0)
theorem m_findImage_8 {K : Nat} (hK : wK K) {b n : Int} (b0 : 0 ≤ b) (b8 : b < 8) (n0 : 0 ≤ n) (n6 : n ≤ 60) (nN : n ≤ mLen K) (mb : mapB F0 b) (le : ∀ k : Int, 0 ≤ k → k < n → 0 ≤ F0 K k ∧ F0 K k < F0 36 b) (fu : Nat) : ∀ (k : Int) (x5 x6 : Option AbV) (h : AbH) (s : Nat → Int) (F : Nat → Int → Int), mW h0 m A s0 F0 [40] [39] h s F → (n - k).toNat < fu → (0 ≤ k) → (k ≤ n) → (s 40 = pl (mSz F0 b) (F0 K) 0 k) → (Img (mSz F0 b) (mWd F0 b) (F0 K) k (F 39)) → ab_T l E Y_X10_findImage 0 0 0 8 [some (vR m), some (vI b), some (vR (A K)), some (vI n), some (vI k), x5, x6] [] h (mC h0 m A s0 F0 [40] [39] (fun r s' F' => r = none ∧ s' 40 = pl (mSz F0 b) (F0 K) 0 n ∧ Img (mSz F0 b) (mWd F0 b) (F0 K) n (F' 39))) := by
  induction fu with
  | zero => intro k x5 x6 h s F hW hm; exact absurd hm (Nat.not_lt_zero _)
  | succ fu ih =>
    intro k x5 x6 h s F hW hm k0 k1 e40 I
    have hk8 := wK_le hK
    have hs : ∀ k : Int, 0 ≤ k → k < n → 1 ≤ mSz F0 b (F0 K k) := fun k k0 k1 => (mb.2.2 _ (le k k0 k1).1 (le k k0 k1).2).1
    have hs2 : ∀ k : Int, 0 ≤ k → k < n → mSz F0 b (F0 K (0 + k)) ≤ 20 := fun k k0 k1 => by rw [Int.zero_add]; exact (mb.2.2 _ (le k k0 k1).1 (le k k0 k1).2).2.1
    have hs1 : ∀ k : Int, 0 ≤ k → k < n → 1 ≤ mSz F0 b (F0 K (0 + k)) := fun k k0 k1 => by rw [Int.zero_add]; exact hs k k0 k1
    have p2 := pl_le hs2 k k0 (by omega)
    have p1 := pl_ge hs1 k k0 (by omega)
    have al8 := mb.2.1
    refine ab_iload (pc := 8) dX10_findImage_8 rfl ?_
    refine ab_iload_n (pc := 10) dX10_findImage_10 rfl ?_
    refine ab_icmp_ge (pc := 11) 84 dX10_findImage_11 (by decide) (fun c11 => ?_) (fun c11 => ?_)
    · refine ab_vret (pc := 84) dX10_findImage_84 rfl ?_
      obtain rfl : k = n := by omega
      exact ⟨_, _, _, rfl, hW, rfl, e40, I⟩
    · refine ab_bipush (pc := 14) dX10_findImage_14 (by decide) ?_
      refine ab_iload_n (pc := 16) dX10_findImage_16 rfl ?_
      refine ab_imul (pc := 17) dX10_findImage_17 (by omega) (by omega) ?_
      refine ab_aload_n (pc := 18) dX10_findImage_18 rfl ?_
      refine ab_iload (pc := 19) dX10_findImage_19 rfl ?_
      have l1 := le k k0 (by omega)
      have l2 := (mb.2.2 _ l1.1 l1.2).1
      refine ab_iald (pc := 21) (n := mLen K) (f := F0 K) (hW.arrK hK (by decide)) (by omega) (by omega) dX10_findImage_21 ?_
      refine ab_iadd (pc := 22) dX10_findImage_22 (by omega) (by omega) ?_
      refine ab_istore (pc := 23) dX10_findImage_23 rfl (Nat.le_of_ble_eq_true rfl) ?_
      refine ab_iconst (pc := 25) dX10_findImage_25 (by decide) ?_
      refine ab_istore (pc := 26) dX10_findImage_26 rfl (Nat.le_of_ble_eq_true rfl) ?_
      refine m_findImage_28 hK b0 b8 n0 n6 nN mb le k0 (by omega) (fun i h s F hW e40 I => ?_) _ 0 _ _ _ hW (Nat.lt_succ_self _) (by omega) (by omega) (e40.trans (Int.add_zero _).symm) ⟨I, fun t t0 t1 => absurd t1 (by omega)⟩
      refine ab_iinc (pc := 78) dX10_findImage_78 rfl rfl (by decide) (by omega) (by omega) ?_
      refine ab_goto (pc := 81) 8 dX10_findImage_81 (by decide) ?_
      exact ih (k + 1) _ _ _ _ _ hW (by omega) (by omega) (by omega) e40 I
theorem m_findImage (hG : ab_G l E) (hM : mR h0 m A s0 F0) {K : Nat} (hK : wK K) {b n : Int} (b0 : 0 ≤ b) (b8 : b < 8) (n0 : 0 ≤ n) (n6 : n ≤ 60) (nN : n ≤ mLen K) (mb : mapB F0 b) (le : ∀ k : Int, 0 ≤ k → k < n → 0 ≤ F0 K k ∧ F0 K k < F0 36 b) : ab_M l E Y_X10_findImage 7 0 0 0 [vR m, vI b, vR (A K), vI n] h0 (mC h0 m A s0 F0 [40] [39] (fun r s' F' => r = none ∧ s' 40 = pl (mSz F0 b) (F0 K) 0 n ∧ Img (mSz F0 b) (mWd F0 b) (F0 K) n (F' 39))) := by
  refine ab_M.of (L0 := [some (vR m), some (vI b), some (vR (A K)), some (vI n), none, none, none]) hG rfl rfl (Nat.le_of_ble_eq_true rfl) rfl ?_
  have hW : mW h0 m A s0 F0 [40] [39] h0 s0 F0 := mW.start hM
  refine ab_aload_n (pc := 0) dX10_findImage_0 rfl ?_
  refine ab_iconst (pc := 1) dX10_findImage_1 (by decide) ?_
  refine ab_putG (pc := 2) (k := 40) okX10 hW.obj (by decide) (by decide) trivial w1095 rfl (Or.inl rfl) dX10_findImage_2 (fun h e9 n9 => ?_)
  replace hW := hW.put e9 n9 rfl (by decide)
  clear e9 n9
  refine ab_iconst (pc := 5) dX10_findImage_5 (by decide) ?_
  refine ab_istore (pc := 6) dX10_findImage_6 rfl (Nat.le_of_ble_eq_true rfl) ?_
  exact m_findImage_8 hK b0 b8 n0 n6 nN mb le _ 0 _ _ _ _ _ hW (Nat.lt_succ_self _) (by omega) n0 rfl (fun j j0 j1 => absurd j1 (by omega))
def mapEq (F G : Nat → Int → Int) : Prop := F 36 = G 36 ∧ F 37 = G 37 ∧ F 38 = G 38
theorem m_findImageG (hG : ab_G l E) (hM : mR h0 m A s0 F0) {K : Nat} (hK : wK K) {G : Nat → Int → Int} {f : Int → Int} {b n : Int} (eM : mapEq F0 G) (eK : F0 K = f) (b0 : 0 ≤ b) (b8 : b < 8) (n0 : 0 ≤ n) (n6 : n ≤ 60) (nN : n ≤ mLen K) (mb : mapB G b) (le : ∀ k : Int, 0 ≤ k → k < n → 0 ≤ f k ∧ f k < G 36 b) : ab_M l E Y_X10_findImage 7 0 0 0 [vR m, vI b, vR (A K), vI n] h0 (mC h0 m A s0 F0 [40] [39] (fun r s' F' => r = none ∧ s' 40 = pl (mSz G b) f 0 n ∧ Img (mSz G b) (mWd G b) f n (F' 39))) := by
  subst eK
  obtain ⟨e6, e7, e8⟩ := eM
  have z1 : mSz F0 b = mSz G b := by unfold mSz; rw [e7]
  have z2 : mWd F0 b = mWd G b := by unfold mWd; rw [e8]
  have z3 : mapB F0 b := by unfold mapB; rw [e6, z1, z2]; exact mb
  have g := m_findImage hG hM hK b0 b8 n0 n6 nN z3 (by rw [e6]; exact le)
  rw [z1, z2] at g
  exact g
theorem mW.map {h0 h : AbH} {m : Nat} {A : Nat → Nat} {s0 s : Nat → Int} {F0 F : Nat → Int → Int} {ks kF : List Nat} (hW : mW h0 m A s0 F0 ks kF h s F) (hn : ∀ j ∈ kF, j < 36 ∨ 38 < j) : mapEq F F0 := by
  have k : ∀ j : Nat, 36 ≤ j → j ≤ 38 → F j = F0 j := fun j j0 j1 => hW.Fv j (fun e => by have := hn j e; omega)
  exact ⟨k 36 (by omega) (by omega), k 37 (by omega) (by omega), k 38 (by omega) (by omega)⟩
theorem m_hasSquare_12 (hG : ab_G l E) (hW : mW h0 m A s0 F0 [] [] h0 s0 F0) {N : Int} {g : Int → Int} (e40 : s0 40 = N) (e39 : F0 39 = g) (N0 : N ≤ 1300) {t : Int} (t0 : 2 ≤ t) (t1 : t ≤ N) (hC : NS g t → ∀ z : Int, ab_T l E Y_X10_hasSquare 1 0 0 44 [some (vR m), some (vI t), some (vI z)] [] h0 (pC h0 (fun v => (v = 1 ∧ ¬ NSq g N) ∨ (v = 0 ∧ NSq g N)))) (fu : Nat) : ∀ (z : Int), (t - z).toNat < fu → (1 ≤ z) → (2 * (z - 1) ≤ t) → (∀ y : Int, 1 ≤ y → y < z → ¬ isP g (t - 2 * y) t y) → ab_T l E Y_X10_hasSquare 1 0 0 12 [some (vR m), some (vI t), some (vI z)] [] h0 (pC h0 (fun v => (v = 1 ∧ ¬ NSq g N) ∨ (v = 0 ∧ NSq g N))) := by
  induction fu with
  | zero => intro z hm; exact absurd hm (Nat.not_lt_zero _)
  | succ fu ih =>
    intro z hm z0 z1 I
    subst e40 e39
    refine ab_iconst (pc := 12) dX10_hasSquare_12 (by decide) ?_
    refine ab_iload_n (pc := 13) dX10_hasSquare_13 rfl ?_
    refine ab_imul (pc := 14) dX10_hasSquare_14 (by omega) (by omega) ?_
    refine ab_iload_n (pc := 15) dX10_hasSquare_15 rfl ?_
    refine ab_icmp_gt (pc := 16) 44 dX10_hasSquare_16 (by decide) (fun c16 => ?_) (fun c16 => ?_)
    · exact hC (fun y y0 y1 => I y y0 (by omega)) _
    · refine ab_aload_n (pc := 19) dX10_hasSquare_19 rfl ?_
      refine ab_get (pc := 20) (k := 39) (x := vR (A 39)) okX10 hW.obj rfl w1094 rfl dX10_hasSquare_20 ?_
      refine ab_iload_n (pc := 23) dX10_hasSquare_23 rfl ?_
      refine ab_iconst (pc := 24) dX10_hasSquare_24 (by decide) ?_
      refine ab_iload_n (pc := 25) dX10_hasSquare_25 rfl ?_
      refine ab_imul (pc := 26) dX10_hasSquare_26 (by omega) (by omega) ?_
      refine ab_isub (pc := 27) dX10_hasSquare_27 (by omega) (by omega) ?_
      refine ab_iload_n (pc := 28) dX10_hasSquare_28 rfl ?_
      refine ab_iload_n (pc := 29) dX10_hasSquare_29 rfl ?_
      refine ab_callS (pc := 30) (m_isPeriod hG (hW.arr 39 rfl rfl) (by decide) (by omega) (by show _ ≤ (1300 : Int); omega) (by show _ ≤ (1300 : Int); omega) (by omega) (by omega)) ⟨w1256, w5, w1258, by decide, pd56⟩ w1257 rfl (by decide) (by decide) (Nat.le_of_ble_eq_true rfl) rfl dX10_hasSquare_30 (fun _ _ hx => absurd hx pC_no) ?_
      rintro _ _ ⟨v1, e9, rfl, hp1⟩
      cases e9
      refine ab_if_eq (pc := 33) 38 dX10_hasSquare_33 (by decide) (fun c33 => ?_) (fun c33 => ?_)
      · refine ab_iinc (pc := 38) dX10_hasSquare_38 rfl rfl (by decide) (by omega) (by omega) ?_
        refine ab_goto (pc := 41) 12 dX10_hasSquare_41 (by decide) ?_
        refine ih (z + 1) (by omega) (by omega) (by omega) (fun y y0 y1 => ?_)
        by_cases e9 : y = z
        · rw [e9]; rcases hp1 with g | g; omega; exact g.2
        · exact I y y0 (by omega)
      · refine ab_iconst (pc := 36) dX10_hasSquare_36 (by decide) ?_
        refine ab_zret (pc := 37) dX10_hasSquare_37 rfl (by omega) ?_
        refine ⟨_, rfl, rfl, Or.inl ⟨rfl, fun q => q t (by omega) t1 z z0 (by omega) ?_⟩⟩
        rcases hp1 with g | g; exact g.2; omega
theorem m_hasSquare_2 (hG : ab_G l E) (hW : mW h0 m A s0 F0 [] [] h0 s0 F0) {N : Int} {g : Int → Int} (e40 : s0 40 = N) (e39 : F0 39 = g) (N0 : N ≤ 1300) (fu : Nat) : ∀ (t : Int) (x5 : Option AbV), (N + 1 - t).toNat < fu → (2 ≤ t) → (∀ u : Int, 1 ≤ u → u < t → NS g u) → ab_T l E Y_X10_hasSquare 1 0 0 2 [some (vR m), some (vI t), x5] [] h0 (pC h0 (fun v => (v = 1 ∧ ¬ NSq g N) ∨ (v = 0 ∧ NSq g N))) := by
  induction fu with
  | zero => intro t x5 hm; exact absurd hm (Nat.not_lt_zero _)
  | succ fu ih =>
    intro t x5 hm t0 I
    refine ab_iload_n (pc := 2) dX10_hasSquare_2 rfl ?_
    refine ab_aload_n (pc := 3) dX10_hasSquare_3 rfl ?_
    refine ab_get (pc := 4) (k := 40) (x := vI (s0 40)) okX10 hW.obj (mg rfl (hW.sv 40 (by decide))) w1095 rfl dX10_hasSquare_4 ?_
    refine ab_icmp_gt (pc := 7) 50 dX10_hasSquare_7 (by decide) (fun c7 => ?_) (fun c7 => ?_)
    · refine ab_iconst (pc := 50) dX10_hasSquare_50 (by decide) ?_
      refine ab_zret (pc := 51) dX10_hasSquare_51 rfl (by omega) ?_
      exact ⟨_, rfl, rfl, Or.inr ⟨rfl, fun u u0 u1 => I u u0 (by omega)⟩⟩
    · refine ab_iconst (pc := 10) dX10_hasSquare_10 (by decide) ?_
      refine ab_istore_n (pc := 11) dX10_hasSquare_11 rfl (Nat.le_of_ble_eq_true rfl) ?_
      refine m_hasSquare_12 hG hW e40 e39 N0 t0 (by omega) (fun ft z => ?_) _ 1 (Nat.lt_succ_self _) (by omega) (by omega) (fun y y0 y1 => absurd y1 (by omega))
      refine ab_iinc (pc := 44) dX10_hasSquare_44 rfl rfl (by decide) (by omega) (by omega) ?_
      refine ab_goto (pc := 47) 2 dX10_hasSquare_47 (by decide) ?_
      refine ih (t + 1) _ (by omega) (by omega) (fun u u0 u1 => ?_)
      by_cases e9 : u = t
      · rw [e9]; exact ft
      · exact I u u0 (by omega)
theorem m_hasSquare (hG : ab_G l E) (hM : mR h0 m A s0 F0) {N : Int} {g : Int → Int} (e40 : s0 40 = N) (e39 : F0 39 = g) (N0 : N ≤ 1300) : ab_M l E Y_X10_hasSquare 3 1 0 0 [vR m] h0 (pC h0 (fun v => (v = 1 ∧ ¬ NSq g N) ∨ (v = 0 ∧ NSq g N))) := by
  refine ab_M.of (L0 := [some (vR m), none, none]) hG rfl rfl (Nat.le_of_ble_eq_true rfl) rfl ?_
  have hW : mW h0 m A s0 F0 [] [] h0 s0 F0 := mW.start hM
  refine ab_iconst (pc := 0) dX10_hasSquare_0 (by decide) ?_
  refine ab_istore_n (pc := 1) dX10_hasSquare_1 rfl (Nat.le_of_ble_eq_true rfl) ?_
  exact m_hasSquare_2 hG hW e40 e39 N0 _ 2 _ (Nat.lt_succ_self _) (by omega) (fun u u0 u1 z z0 z1 => absurd z1 (by omega))
abbrev mkOk (F : Nat → Int → Int) (b : Int) : Prop := 0 ≤ b ∧ b < 8 ∧ F 35 b ≠ 0
def imgSp (s : Nat → Int) (F : Nat → Int → Int) (b x k o c r : Int) (g : Int → Int) : Prop := (¬ mkOk F b ∧ c = 1 ∧ r = 0) ∨ (mkOk F b ∧ ¬ (isRow s x k ∧ 0 ≤ o ∧ o < s 1) ∧ c = 2 ∧ r = 0) ∨ (mkOk F b ∧ isRow s x k ∧ 0 ≤ o ∧ o < s 1 ∧ c = 0 ∧ ((isRd F x k (-1) ∧ r = -1) ∨ ∃ n : Int, 0 ≤ n ∧ isRd F x k n ∧ (((¬ ∀ j : Int, 0 ≤ j → j < n → rdL F x k j < F 36 b) ∧ r = -1) ∨ ((∀ j : Int, 0 ≤ j → j < n → rdL F x k j < F 36 b) ∧ ((60 < pl (mSz F b) (rdL F x k) 0 n ∧ r = -2) ∨ (pl (mSz F b) (rdL F x k) 0 n ≤ 60 ∧ r = pl (mSz F b) (rdL F x k) 0 n ∧ Img (mSz F b) (mWd F b) (rdL F x k) n g))))))
theorem m_image_53 {h : AbH} {s : Nat → Int} {F : Nat → Int → Int} (hW : mW h0 m A s0 F0 [0, 6, 40] [3, 4, 5, 39] h s F) {b x k o n : Int} (mk : mkOk F0 b) (hrow : isRow s0 x k) (o0 : 0 ≤ o) (o1 : o < s0 1) (n6 : n ≤ 60) (hr : isRd F0 x k n) (n0 : 0 ≤ n) (t0 : s 0 = 0) (e6 : s 6 = n) (e3 : F 3 = F0 3) (e4 : F 4 = F0 4) (rd : ∀ j : Int, 0 ≤ j → j < n → F 5 j = rdL F0 x k j) (hC : (∀ j : Int, 0 ≤ j → j < n → rdL F0 x k j < F0 36 b) → ∀ i : Int, ab_T l E Y_X10_image 5 0 0 86 [some (vR m), some (vI b), some (vI x), some (vI k), some (vI o), some (vI i)] [] h (mC h0 m A s0 F0 [0, 6, 40] [3, 4, 5, 39] (fun r s' F' => ∃ (c r9 : Int) (g : Int → Int), r = some (vI r9) ∧ s' 0 = c ∧ imgSp s0 F0 b x k o c r9 g ∧ ((c = 0 ∧ 0 ≤ r9 ∧ F' 3 = ab_f (F0 3) (10 * o) r9 ∧ F' 4 = fil (F0 4) (80 * (10 * o)) 80 (fun i => if i < r9 then g i else 0)) ∨ (¬ (c = 0 ∧ 0 ≤ r9) ∧ F' 3 = F0 3 ∧ F' 4 = F0 4))))) (fu : Nat) : ∀ (i : Int), (n - i).toNat < fu → (0 ≤ i) → (∀ j : Int, 0 ≤ j → j < i → rdL F0 x k j < F0 36 b) → ab_T l E Y_X10_image 5 0 0 53 [some (vR m), some (vI b), some (vI x), some (vI k), some (vI o), some (vI i)] [] h (mC h0 m A s0 F0 [0, 6, 40] [3, 4, 5, 39] (fun r s' F' => ∃ (c r9 : Int) (g : Int → Int), r = some (vI r9) ∧ s' 0 = c ∧ imgSp s0 F0 b x k o c r9 g ∧ ((c = 0 ∧ 0 ≤ r9 ∧ F' 3 = ab_f (F0 3) (10 * o) r9 ∧ F' 4 = fil (F0 4) (80 * (10 * o)) 80 (fun i => if i < r9 then g i else 0)) ∨ (¬ (c = 0 ∧ 0 ≤ r9) ∧ F' 3 = F0 3 ∧ F' 4 = F0 4)))) := by
  induction fu with
  | zero => intro i hm; exact absurd hm (Nat.not_lt_zero _)
  | succ fu ih =>
    intro i hm i0 I
    refine ab_iload (pc := 53) dX10_image_53 rfl ?_
    refine ab_aload_n (pc := 55) dX10_image_55 rfl ?_
    refine ab_get (pc := 56) (k := 6) (x := vI (n)) okX10 hW.obj (mg rfl e6) w1061 rfl dX10_image_56 ?_
    refine ab_icmp_ge (pc := 59) 86 dX10_image_59 (by decide) (fun c59 => ?_) (fun c59 => ?_)
    · exact hC (fun j j0 j1 => I j j0 (by omega)) _
    · refine ab_aload_n (pc := 62) dX10_image_62 rfl ?_
      refine ab_get (pc := 63) (k := 5) (x := vR (A 5)) okX10 hW.obj rfl w1060 rfl dX10_image_63 ?_
      refine ab_iload (pc := 66) dX10_image_66 rfl ?_
      refine ab_iald (pc := 68) (n := 80) (f := F 5) (hW.arr 5 rfl rfl) (by omega) (by omega) dX10_image_68 ?_
      refine ab_aload_n (pc := 69) dX10_image_69 rfl ?_
      refine ab_get (pc := 70) (k := 36) (x := vR (A 36)) okX10 hW.obj rfl w1091 rfl dX10_image_70 ?_
      refine ab_iload_n (pc := 73) dX10_image_73 rfl ?_
      refine ab_iald (pc := 74) (n := 8) (f := F0 36) (hW.arr 36 rfl (hW.Fv 36 (by decide))) (by omega) (by omega) dX10_image_74 ?_
      refine ab_icmp_lt (pc := 75) 80 dX10_image_75 (by decide) (fun c75 => ?_) (fun c75 => ?_)
      · refine ab_iinc (pc := 80) dX10_image_80 rfl rfl (by decide) (by omega) (by omega) ?_
        refine ab_goto (pc := 83) 53 dX10_image_83 (by decide) ?_
        refine ih (i + 1) (by omega) (by omega) (fun j j0 j1 => ?_)
        by_cases e9 : j = i
        · have := rd i i0 (by omega); rw [e9]; omega
        · exact I j j0 (by omega)
      · refine ab_iconst (pc := 78) dX10_image_78 (by decide) ?_
        refine ab_iret (pc := 79) dX10_image_79 rfl ?_
        have r9 := rd i i0 (by omega)
        exact ⟨_, _, _, rfl, hW, 0, -1, F0 5, rfl, t0, Or.inr (Or.inr ⟨mk, hrow, o0, o1, rfl, Or.inr ⟨n, n0, hr, Or.inl ⟨fun g => absurd (g i i0 (by omega)) (by omega), rfl⟩⟩⟩), Or.inr ⟨by decide, e3, e4⟩⟩
theorem m_image (hG : ab_G l E) (hM : mR h0 m A s0 F0) {b x k o : Int} (n1 : s0 1 ≤ 16) (b3 : ∀ j, 0 ≤ j → j < 160 → -1 ≤ F0 3 j ∧ F0 3 j ≤ 80) (mbs : ∀ b : Int, mkOk F0 b → mapB F0 b) : ab_M l E Y_X10_image 6 5 0 0 [vR m, vI b, vI x, vI k, vI o] h0 (mC h0 m A s0 F0 [0, 6, 40] [3, 4, 5, 39] (fun r s' F' => ∃ (c r9 : Int) (g : Int → Int), r = some (vI r9) ∧ s' 0 = c ∧ imgSp s0 F0 b x k o c r9 g ∧ ((c = 0 ∧ 0 ≤ r9 ∧ F' 3 = ab_f (F0 3) (10 * o) r9 ∧ F' 4 = fil (F0 4) (80 * (10 * o)) 80 (fun i => if i < r9 then g i else 0)) ∨ (¬ (c = 0 ∧ 0 ≤ r9) ∧ F' 3 = F0 3 ∧ F' 4 = F0 4)))) := by
  refine ab_M.of (L0 := [some (vR m), some (vI b), some (vI x), some (vI k), some (vI o), none]) hG rfl rfl (Nat.le_of_ble_eq_true rfl) rfl ?_
  have hW : mW h0 m A s0 F0 [0, 6, 40] [3, 4, 5, 39] h0 s0 F0 := mW.start hM
  refine ab_aload_n (pc := 0) dX10_image_0 rfl ?_
  refine ab_iconst (pc := 1) dX10_image_1 (by decide) ?_
  refine ab_putG (pc := 2) (k := 0) okX10 hW.obj (by decide) (by decide) trivial w1055 rfl (Or.inl rfl) dX10_image_2 (fun h e9 n9 => ?_)
  replace hW := hW.put e9 n9 rfl (by decide)
  clear e9 n9
  refine ab_aload_n (pc := 5) dX10_image_5 rfl ?_
  refine ab_iload_n (pc := 6) dX10_image_6 rfl ?_
  refine ab_callV (pc := 7) (m_isMap (g := F0 35) hG hW.1 rfl (hW.Fv 35 (by decide))) hW.obj rfl ⟨w1356, w5, w1359, by decide, pd71⟩ w1358 sp43 rfl (by decide) (by decide) (Nat.le_of_ble_eq_true rfl) rfl dX10_image_7 (fun _ _ hx => absurd hx mC_no) ?_
  rintro _ h ⟨_, s1, F1, e9, hc1, hp1⟩
  cases e9
  replace hW := hW.call hc1 (by decide) (by decide)
  rcases hp1 with ⟨mk1, mk2, mk3, rfl, t1⟩ | ⟨mk1, rfl, t1⟩
  · refine ab_if_eq (pc := 10) 37 dX10_image_10 (by decide) (fun c10 => absurd c10 (by omega)) (fun c10 => ?_)
    have mb := mbs b ⟨mk1, mk2, mk3⟩
    refine ab_aload_n (pc := 13) dX10_image_13 rfl ?_
    refine ab_iload_n (pc := 14) dX10_image_14 rfl ?_
    refine ab_iload_n (pc := 15) dX10_image_15 rfl ?_
    refine ab_iconst (pc := 16) dX10_image_16 (by decide) ?_
    refine ab_callV (pc := 17) (m_isRow (n := s0 1) hG hW.1 t1 (by decide) (hW.sv 1 (by decide))) hW.obj rfl ⟨w1213, w5, w1216, by decide, pd51⟩ w1215 sp26 rfl (by decide) (by decide) (Nat.le_of_ble_eq_true rfl) rfl dX10_image_17 (fun _ _ hx => absurd hx mC_no) ?_
    rintro _ h ⟨_, s2, F2, e9, hc2, hp2⟩
    cases e9
    replace hW := hW.call hc2 (by decide) (by decide)
    rcases hp2 with ⟨a1, a2, a3, a4, rfl, t2⟩ | ⟨a1, rfl, t2⟩
    · refine ab_if_eq (pc := 20) 37 dX10_image_20 (by decide) (fun c20 => absurd c20 (by omega)) (fun c20 => ?_)
      refine ab_aload_n (pc := 23) dX10_image_23 rfl ?_
      refine ab_aload_n (pc := 24) dX10_image_24 rfl ?_
      refine ab_iload (pc := 25) dX10_image_25 rfl ?_
      refine ab_callV (pc := 27) (m_isSheet (n := s0 1) hG hW.1 (hW.sv 1 (by decide))) hW.obj rfl ⟨w1217, w5, w1220, by decide, pd71⟩ w1219 sp27 rfl (by decide) (by decide) (Nat.le_of_ble_eq_true rfl) rfl dX10_image_27 (fun _ _ hx => absurd hx pC_no) ?_
      rintro _ _ ⟨iv, e9, rfl, hiv⟩
      cases e9
      refine ab_iconst (pc := 30) dX10_image_30 (by decide) ?_
      refine ab_callV (pc := 31) (m_may hG hW.1 (by omega) t2 (by omega)) hW.obj rfl ⟨w1205, w5, w1208, by decide, pd74⟩ w1207 sp25 rfl (by decide) (by decide) (Nat.le_of_ble_eq_true rfl) rfl dX10_image_31 (fun _ _ hx => absurd hx mC_no) ?_
      rintro _ h ⟨_, s4, F4, e9, hc4, hp4⟩
      cases e9
      replace hW := hW.call hc4 (by decide) (by decide)
      rcases hp4 with ⟨g4, rfl, t4⟩ | ⟨g4, rfl, t4⟩
      · refine ab_if_ne (pc := 34) 39 dX10_image_34 (by decide) (fun c34 => ?_) (fun c34 => absurd c34 (by omega))
        refine ab_aload_n (pc := 39) dX10_image_39 rfl ?_
        refine ab_iload_n (pc := 40) dX10_image_40 rfl ?_
        refine ab_iload_n (pc := 41) dX10_image_41 rfl ?_
        refine ab_callV (pc := 42) (m_readsG (G := F0) hG hW.1 ((hc4.Fv 3 (by decide)).trans ((hc2.Fv 3 (by decide)).trans (hc1.Fv 3 (by decide)))) ((hc4.Fv 4 (by decide)).trans ((hc2.Fv 4 (by decide)).trans (hc1.Fv 4 (by decide)))) (by omega) (by omega) (by omega) (by omega) b3) hW.obj rfl ⟨w1233, w5, w1236, by decide, pd73⟩ w1235 sp28 rfl (by decide) (by decide) (Nat.le_of_ble_eq_true rfl) rfl dX10_image_42 (fun _ _ hx => absurd hx mC_no) ?_
        rintro _ h ⟨_, s5, F5, e9, hc5, hp5⟩
        cases e9
        replace hW := hW.call hc5 (by decide) (by decide)
        rcases hp5 with ⟨rfl, d1, d2, d3, d4, d5⟩ | ⟨rfl, d1, d2⟩
        · refine ab_if_ne (pc := 45) 50 dX10_image_45 (by decide) (fun c45 => ?_) (fun c45 => absurd c45 (by omega))
          refine ab_iconst (pc := 50) dX10_image_50 (by decide) ?_
          refine ab_istore (pc := 51) dX10_image_51 rfl (Nat.le_of_ble_eq_true rfl) ?_
          refine m_image_53 hW ⟨mk1, mk2, mk3⟩ ⟨a1, a2, a3, a4⟩ (by omega) (by omega) d3 d1 d2 ((hc5.sv 0 (by decide)).trans t4) rfl ((hc5.Fv 3 (by decide)).trans ((hc4.Fv 3 (by decide)).trans ((hc2.Fv 3 (by decide)).trans (hc1.Fv 3 (by decide))))) ((hc5.Fv 4 (by decide)).trans ((hc4.Fv 4 (by decide)).trans ((hc2.Fv 4 (by decide)).trans (hc1.Fv 4 (by decide))))) d4 (fun hlt i => ?_) _ 0 (Nat.lt_succ_self _) (by omega) (fun j j0 j1 => absurd j1 (by omega))
          refine ab_aload_n (pc := 86) dX10_image_86 rfl ?_
          refine ab_iload_n (pc := 87) dX10_image_87 rfl ?_
          refine ab_aload_n (pc := 88) dX10_image_88 rfl ?_
          refine ab_get (pc := 89) (k := 5) (x := vR (A 5)) okX10 hW.obj rfl w1060 rfl dX10_image_89 ?_
          refine ab_aload_n (pc := 92) dX10_image_92 rfl ?_
          refine ab_get (pc := 93) (k := 6) (x := vI (s5 6)) okX10 hW.obj (mg rfl rfl) w1061 rfl dX10_image_93 ?_
          refine ab_callV (pc := 96) (m_findImageG (K := 5) (G := F0) hG hW.1 (by unfold wK; decide) (hW.map (by decide)) rfl mk1 mk2 d2 d3 (by show _ ≤ (80 : Int); omega) mb (fun j j0 j1 => ⟨(d5 j j0 j1).1, by rw [d4 j j0 j1]; exact hlt j j0 j1⟩)) hW.obj rfl ⟨w1360, w5, w1363, by decide, pd61⟩ w1362 sp44 rfl (by decide) (by decide) (Nat.le_of_ble_eq_true rfl) rfl dX10_image_96 (fun _ _ hx => absurd hx mC_no) ?_
          rintro _ h ⟨_, s6, F6, e9, hc6, rfl, q40, hI⟩
          cases e9
          replace hW := hW.call hc6 (by decide) (by decide)
          rw [pl_f_congr d4 _ d2 (Int.le_refl _)] at q40
          replace hI := Img_congr d4 hI
          have hp0 := pl_ge (z := mSz F0 b) (sh := rdL F0 x k) (q := 0) (n := s5 6) (fun j j0 j1 => by rw [Int.zero_add]; exact (mb.2.2 _ (by rw [← d4 j j0 j1]; exact (d5 j j0 j1).1) (hlt j j0 j1)).1) _ d2 (Int.le_refl _)
          refine ab_aload_n (pc := 99) dX10_image_99 rfl ?_
          refine ab_get (pc := 100) (k := 40) (x := vI (s6 40)) okX10 hW.obj (mg rfl rfl) w1095 rfl dX10_image_100 ?_
          refine ab_bipush (pc := 103) dX10_image_103 (by decide) ?_
          refine ab_icmp_le (pc := 105) 111 dX10_image_105 (by decide) (fun c105 => ?_) (fun c105 => ?_)
          · have o3 := ((hc6.Fv 3 (by decide)).trans ((hc5.Fv 3 (by decide)).trans ((hc4.Fv 3 (by decide)).trans ((hc2.Fv 3 (by decide)).trans (hc1.Fv 3 (by decide))))))
            have o4 := ((hc6.Fv 4 (by decide)).trans ((hc5.Fv 4 (by decide)).trans ((hc4.Fv 4 (by decide)).trans ((hc2.Fv 4 (by decide)).trans (hc1.Fv 4 (by decide))))))
            refine ab_aload_n (pc := 111) dX10_image_111 rfl ?_
            refine ab_iload (pc := 112) dX10_image_112 rfl ?_
            refine ab_aload_n (pc := 114) dX10_image_114 rfl ?_
            refine ab_get (pc := 115) (k := 39) (x := vR (A 39)) okX10 hW.obj rfl w1094 rfl dX10_image_115 ?_
            refine ab_aload_n (pc := 118) dX10_image_118 rfl ?_
            refine ab_get (pc := 119) (k := 40) (x := vI (s6 40)) okX10 hW.obj (mg rfl rfl) w1095 rfl dX10_image_119 ?_
            refine ab_callV (pc := 122) (m_write39 hG hW.1 (by omega) (by omega) (by omega)) hW.obj rfl ⟨w1336, w5, w1339, by decide, pd61⟩ w1338 sp42 rfl (by decide) (by decide) (Nat.le_of_ble_eq_true rfl) rfl dX10_image_122 (fun _ _ hx => absurd hx mC_no) ?_
            rintro _ h ⟨_, s7, F7, e9, hc7, y3, y4, rfl⟩
            cases e9
            replace hW := hW.call hc7 (by decide) (by decide)
            refine ab_aload_n (pc := 125) dX10_image_125 rfl ?_
            refine ab_get (pc := 126) (k := 40) (x := vI (s6 40)) okX10 hW.obj (mg rfl (hc7.sv 40 (by decide))) w1095 rfl dX10_image_126 ?_
            refine ab_iret (pc := 129) dX10_image_129 rfl ?_
            refine ⟨_, _, _, rfl, hW, 0, _, _, rfl, ((hc7.sv 0 (by decide)).trans ((hc6.sv 0 (by decide)).trans ((hc5.sv 0 (by decide)).trans t4))), Or.inr (Or.inr ⟨⟨mk1, mk2, mk3⟩, ⟨a1, a2, a3, a4⟩, by omega, by omega, rfl, Or.inr ⟨_, d2, d1, Or.inr ⟨hlt, Or.inr ⟨by omega, q40, hI⟩⟩⟩⟩), Or.inl ⟨rfl, by omega, ?_, ?_⟩⟩
            · exact y3.trans (by rw [o3])
            · exact y4.trans (by rw [o4])
          · refine ab_bipush (pc := 108) dX10_image_108 (by decide) ?_
            refine ab_iret (pc := 110) dX10_image_110 rfl ?_
            exact ⟨_, _, _, rfl, hW, 0, -2, F0 5, rfl, ((hc6.sv 0 (by decide)).trans ((hc5.sv 0 (by decide)).trans t4)), Or.inr (Or.inr ⟨⟨mk1, mk2, mk3⟩, ⟨a1, a2, a3, a4⟩, by omega, by omega, rfl, Or.inr ⟨_, d2, d1, Or.inr ⟨hlt, Or.inl ⟨by omega, rfl⟩⟩⟩⟩), Or.inr ⟨by decide, ((hc6.Fv 3 (by decide)).trans ((hc5.Fv 3 (by decide)).trans ((hc4.Fv 3 (by decide)).trans ((hc2.Fv 3 (by decide)).trans (hc1.Fv 3 (by decide)))))), ((hc6.Fv 4 (by decide)).trans ((hc5.Fv 4 (by decide)).trans ((hc4.Fv 4 (by decide)).trans ((hc2.Fv 4 (by decide)).trans (hc1.Fv 4 (by decide))))))⟩⟩
        · refine ab_if_ne (pc := 45) 50 dX10_image_45 (by decide) (fun c45 => absurd c45 (by omega)) (fun c45 => ?_)
          refine ab_iconst (pc := 48) dX10_image_48 (by decide) ?_
          refine ab_iret (pc := 49) dX10_image_49 rfl ?_
          exact ⟨_, _, _, rfl, hW, 0, -1, F0 5, rfl, ((hc5.sv 0 (by decide)).trans t4), Or.inr (Or.inr ⟨⟨mk1, mk2, mk3⟩, ⟨a1, a2, a3, a4⟩, by omega, by omega, rfl, Or.inl ⟨d1, rfl⟩⟩), Or.inr ⟨by decide, ((hc5.Fv 3 (by decide)).trans ((hc4.Fv 3 (by decide)).trans ((hc2.Fv 3 (by decide)).trans (hc1.Fv 3 (by decide))))), ((hc5.Fv 4 (by decide)).trans ((hc4.Fv 4 (by decide)).trans ((hc2.Fv 4 (by decide)).trans (hc1.Fv 4 (by decide)))))⟩⟩
      · refine ab_if_ne (pc := 34) 39 dX10_image_34 (by decide) (fun c34 => absurd c34 (by omega)) (fun c34 => ?_)
        refine ab_iconst (pc := 37) dX10_image_37 (by decide) ?_
        refine ab_iret (pc := 38) dX10_image_38 rfl ?_
        first
        | (exact ⟨_, _, _, rfl, hW, 1, 0, F0 5, rfl, t4, Or.inl ⟨by omega, rfl, rfl⟩, Or.inr ⟨by decide, ((hc4.Fv 3 (by decide)).trans ((hc2.Fv 3 (by decide)).trans (hc1.Fv 3 (by decide)))), ((hc4.Fv 4 (by decide)).trans ((hc2.Fv 4 (by decide)).trans (hc1.Fv 4 (by decide))))⟩⟩)
        | (exact ⟨_, _, _, rfl, hW, 2, 0, F0 5, rfl, t4, Or.inr (Or.inl ⟨⟨mk1, mk2, mk3⟩, by omega, rfl, rfl⟩), Or.inr ⟨by decide, ((hc4.Fv 3 (by decide)).trans ((hc2.Fv 3 (by decide)).trans (hc1.Fv 3 (by decide)))), ((hc4.Fv 4 (by decide)).trans ((hc2.Fv 4 (by decide)).trans (hc1.Fv 4 (by decide))))⟩⟩)
    · refine ab_if_eq (pc := 20) 37 dX10_image_20 (by decide) (fun c20 => ?_) (fun c20 => absurd c20 (by omega))
      refine ab_iconst (pc := 37) dX10_image_37 (by decide) ?_
      refine ab_iret (pc := 38) dX10_image_38 rfl ?_
      first
      | (exact ⟨_, _, _, rfl, hW, 1, 0, F0 5, rfl, t2, Or.inl ⟨by omega, rfl, rfl⟩, Or.inr ⟨by decide, ((hc2.Fv 3 (by decide)).trans (hc1.Fv 3 (by decide))), ((hc2.Fv 4 (by decide)).trans (hc1.Fv 4 (by decide)))⟩⟩)
      | (exact ⟨_, _, _, rfl, hW, 2, 0, F0 5, rfl, t2, Or.inr (Or.inl ⟨⟨mk1, mk2, mk3⟩, by omega, rfl, rfl⟩), Or.inr ⟨by decide, ((hc2.Fv 3 (by decide)).trans (hc1.Fv 3 (by decide))), ((hc2.Fv 4 (by decide)).trans (hc1.Fv 4 (by decide)))⟩⟩)
  · refine ab_if_eq (pc := 10) 37 dX10_image_10 (by decide) (fun c10 => ?_) (fun c10 => absurd c10 (by omega))
    refine ab_iconst (pc := 37) dX10_image_37 (by decide) ?_
    refine ab_iret (pc := 38) dX10_image_38 rfl ?_
    first
    | (exact ⟨_, _, _, rfl, hW, 1, 0, F0 5, rfl, t1, Or.inl ⟨by omega, rfl, rfl⟩, Or.inr ⟨by decide, (hc1.Fv 3 (by decide)), (hc1.Fv 4 (by decide))⟩⟩)
    | (exact ⟨_, _, _, rfl, hW, 2, 0, F0 5, rfl, t1, Or.inr (Or.inl ⟨⟨mk1, mk2, mk3⟩, by omega, rfl, rfl⟩), Or.inr ⟨by decide, (hc1.Fv 3 (by decide)), (hc1.Fv 4 (by decide))⟩⟩)
end M14
