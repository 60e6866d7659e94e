/-! the reference: at -/
section M16
variable {l : Launch} {E : AbE} {m : Nat} {A : Nat → Nat} {s0 : Nat → Int} {F0 : Nat → Int → Int} {h0 : AbH}
theorem lcmp_pos {a b : Int} : 0 < ab_lcmp a b ↔ b < a := by
  unfold ab_lcmp
  split
  · constructor <;> intro _ <;> omega
  · split <;> constructor <;> intro _ <;> omega
theorem lcmp_neg {a b : Int} : ab_lcmp a b < 0 ↔ a < b := by
  unfold ab_lcmp
  split
  · constructor <;> intro _ <;> omega
  · split <;> constructor <;> intro _ <;> omega
theorem w64_id {x : Int} (h1 : -9223372036854775808 ≤ x) (h2 : x < 9223372036854775808) : ab_w64 x = x := ab_bm64 h1 h2
theorem w64_add {x y : Int} : ab_w64 (ab_w64 x + ab_w64 y) = ab_w64 (x + y) := by
  unfold ab_w64
  rw [Int.bmod_add_bmod, Int.add_bmod_bmod]
theorem m_at_60 {h : AbH} {s : Nat → Int} {F : Nat → Int → Int} (hW : mW h0 m A s0 F0 [0] [41] h s F) {b a p : Int} (mk : mkOk F0 b) (mb : mapB F0 b) (a0 : 0 ≤ a) (a1 : a < F0 36 b) (p0 : 0 ≤ p) (p1 : p < 2147483648) (ha : mWd F0 b a 0 = a) (t0 : s 0 = 0) (hC : (∀ x : Int, 0 ≤ x → x < F0 36 b → 2 ≤ mSz F0 b x) → ∀ u : Int, ab_T l E Y_X10_at 4 0 0 91 [some (vR m), some (vI b), some (vI a), some (vI p), some (vI (F0 36 b)), some (vI u), none, none, none, none, none, none] [] h (mC h0 m A s0 F0 [0] [41] (fun r s' F' => ∃ c r9 : Int, r = some (vI r9) ∧ s' 0 = c ∧ atSp F0 b a p c r9))) (fu : Nat) : ∀ (u : Int), (F0 36 b - u).toNat < fu → (0 ≤ u) → (∀ x : Int, 0 ≤ x → x < u → 2 ≤ mSz F0 b x) → ab_T l E Y_X10_at 4 0 0 60 [some (vR m), some (vI b), some (vI a), some (vI p), some (vI (F0 36 b)), some (vI u), none, none, none, none, none, none] [] h (mC h0 m A s0 F0 [0] [41] (fun r s' F' => ∃ c r9 : Int, r = some (vI r9) ∧ s' 0 = c ∧ atSp F0 b a p c r9)) := by
  induction fu with
  | zero => intro u hm; exact absurd hm (Nat.not_lt_zero _)
  | succ fu ih =>
    intro u hm u0 I
    obtain ⟨mk1, mk2, mk3⟩ := id mk
    have al8 := mb.2.1
    have z9 : F0 37 (8 * b + u) = mSz F0 b u := rfl
    refine ab_iload (pc := 60) dX10_at_60 rfl ?_
    refine ab_iload (pc := 62) dX10_at_62 rfl ?_
    refine ab_icmp_ge (pc := 64) 91 dX10_at_64 (by decide) (fun c64 => ?_) (fun c64 => ?_)
    · exact hC (fun x x0 x1 => I x x0 (by omega)) _
    · refine ab_aload_n (pc := 67) dX10_at_67 rfl ?_
      refine ab_get (pc := 68) (k := 37) (x := vR (A 37)) okX10 hW.obj rfl w1092 rfl dX10_at_68 ?_
      refine ab_bipush (pc := 71) dX10_at_71 (by decide) ?_
      refine ab_iload_n (pc := 73) dX10_at_73 rfl ?_
      refine ab_imul (pc := 74) dX10_at_74 (by omega) (by omega) ?_
      refine ab_iload (pc := 75) dX10_at_75 rfl ?_
      refine ab_iadd (pc := 77) dX10_at_77 (by omega) (by omega) ?_
      refine ab_iald (pc := 78) (n := 64) (f := F0 37) (hW.arr 37 rfl (hW.Fv 37 (by decide))) (by omega) (by omega) dX10_at_78 ?_
      refine ab_iconst (pc := 79) dX10_at_79 (by decide) ?_
      refine ab_icmp_ge (pc := 80) 85 dX10_at_80 (by decide) (fun c80 => ?_) (fun c80 => ?_)
      · refine ab_iinc (pc := 85) dX10_at_85 rfl rfl (by decide) (by omega) (by omega) ?_
        refine ab_goto (pc := 88) 60 dX10_at_88 (by decide) ?_
        refine ih (u + 1) (by omega) (by omega) (fun x x0 x1 => ?_)
        by_cases e9 : x = u
        · rw [e9]; omega
        · exact I x x0 (by omega)
      · refine ab_iconst (pc := 83) dX10_at_83 (by decide) ?_
        refine ab_iret (pc := 84) dX10_at_84 rfl ?_
        exact ⟨_, _, _, rfl, hW, 0, -1, rfl, t0, Or.inr ⟨mk, rfl, Or.inl ⟨fun g => absurd (g.2.2.2.2 u u0 (by omega)) (by omega), rfl⟩⟩⟩
theorem m_at_272 {h : AbH} {s : Nat → Int} {F : Nat → Int → Int} (hW : mW h0 m A s0 F0 [0] [41] h s F) {b a p : Int} (mk : mkOk F0 b) (mb : mapB F0 b) (a0 : 0 ≤ a) (a1 : a < F0 36 b) (p0 : 0 ≤ p) (p1 : p < 2147483648) (ha : mWd F0 b a 0 = a) (two : ∀ x : Int, 0 ≤ x → x < F0 36 b → 2 ≤ mSz F0 b x) {R : Nat} (R31 : R ≤ 31) (t0 : s 0 = 0) (g41 : (∀ r : Nat, r ≤ R → ∀ x : Int, 0 ≤ x → x < F0 36 b → F 41 (8 * r + x) = ab_w64 (hsz (mSz F0 b) (mWd F0 b) r x))) {k : Nat} {now lf : Int} (kR : k < R) (w0 : 0 ≤ now) (w1 : now < F0 36 b) (l0 : 0 ≤ lf) (l1 : lf < hsz (mSz F0 b) (mWd F0 b) (k + 1) now) (l2 : hsz (mSz F0 b) (mWd F0 b) (k + 1) now ≤ 100000000000) (hC : ∀ i : Int, 0 ≤ i → i < mSz F0 b now → pl (hsz (mSz F0 b) (mWd F0 b) k) (mWd F0 b now) 0 i ≤ lf → lf < pl (hsz (mSz F0 b) (mWd F0 b) k) (mWd F0 b now) 0 (i + 1) → ab_T l E Y_X10_at 4 0 0 331 [some (vR m), some (vI b), some (vI a), some (vI p), some (vI (F0 36 b)), some (vI (R : Int)), some (vI now), some (vL (lf - pl (hsz (mSz F0 b) (mWd F0 b) k) (mWd F0 b now) 0 i)), none, some (vI (k : Int)), some (vI (20 * (8 * b + now))), some (vI i)] [] h (mC h0 m A s0 F0 [0] [41] (fun r s' F' => ∃ c r9 : Int, r = some (vI r9) ∧ s' 0 = c ∧ atSp F0 b a p c r9))) (fu : Nat) : ∀ (i : Int), (mSz F0 b now - i).toNat < fu → (0 ≤ i) → (i ≤ mSz F0 b now) → (pl (hsz (mSz F0 b) (mWd F0 b) k) (mWd F0 b now) 0 i ≤ lf) → ab_T l E Y_X10_at 4 0 0 272 [some (vR m), some (vI b), some (vI a), some (vI p), some (vI (F0 36 b)), some (vI (R : Int)), some (vI now), some (vL (lf - pl (hsz (mSz F0 b) (mWd F0 b) k) (mWd F0 b now) 0 i)), none, some (vI (k : Int)), some (vI (20 * (8 * b + now))), some (vI i)] [] h (mC h0 m A s0 F0 [0] [41] (fun r s' F' => ∃ c r9 : Int, r = some (vI r9) ∧ s' 0 = c ∧ atSp F0 b a p c r9)) := by
  induction fu with
  | zero => intro i hm; exact absurd hm (Nat.not_lt_zero _)
  | succ fu ih =>
    intro i hm i0 i1 I
    obtain ⟨mk1, mk2, mk3⟩ := id mk
    have al8 := mb.2.1
    have hV := mb.v two
    obtain ⟨s2, s20, swd⟩ := hV now w0 w1
    have gz : ∀ j : Int, 0 ≤ j → j < mSz F0 b now → 1 ≤ hsz (mSz F0 b) (mWd F0 b) k (mWd F0 b now (0 + j)) := fun j j0 j1 => by rw [Int.zero_add]; exact hsz_pos hV k _ (swd j j0 j1).1 (swd j j0 j1).2
    have top : hsz (mSz F0 b) (mWd F0 b) (k + 1) now = pl (hsz (mSz F0 b) (mWd F0 b) k) (mWd F0 b now) 0 (mSz F0 b now) := rfl
    have i2 : i < mSz F0 b now := by rcases Int.lt_or_le i (mSz F0 b now) with g | g; exact g; (rw [show i = mSz F0 b now by omega] at I; omega)
    have w9 := swd i i0 i2
    have st := pl0q (z := hsz (mSz F0 b) (mWd F0 b) k) (sh := mWd F0 b now) i0
    have mo := pl_mono (z := hsz (mSz F0 b) (mWd F0 b) k) (sh := mWd F0 b now) (q := 0) (n := mSz F0 b now) (j := i + 1) gz (by omega) _ (by omega) (Int.le_refl _) (by omega)
    have ps := hsz_pos hV k _ w9.1 w9.2
    have pz := pl_ge gz i i0 i1
    have v9 : F 41 (8 * (k : Int) + mWd F0 b now i) = hsz (mSz F0 b) (mWd F0 b) k (mWd F0 b now i) := by rw [g41 k (by omega) _ w9.1 w9.2]; exact w64_id (by omega) (by omega)
    have z9 : F0 38 (20 * (8 * b + now) + i) = mWd F0 b now i := rfl
    refine ab_lload (pc := 272) dX10_at_272 rfl ?_
    refine ab_aload_n (pc := 274) dX10_at_274 rfl ?_
    refine ab_get (pc := 275) (k := 41) (x := vR (A 41)) okX10 hW.obj rfl w1096 rfl dX10_at_275 ?_
    refine ab_bipush (pc := 278) dX10_at_278 (by decide) ?_
    refine ab_iload (pc := 280) dX10_at_280 rfl ?_
    refine ab_imul (pc := 282) dX10_at_282 (by omega) (by omega) ?_
    refine ab_aload_n (pc := 283) dX10_at_283 rfl ?_
    refine ab_get (pc := 284) (k := 38) (x := vR (A 38)) okX10 hW.obj rfl w1093 rfl dX10_at_284 ?_
    refine ab_iload (pc := 287) dX10_at_287 rfl ?_
    refine ab_iload (pc := 289) dX10_at_289 rfl ?_
    refine ab_iadd (pc := 291) dX10_at_291 (by omega) (by omega) ?_
    refine ab_iald (pc := 292) (n := 1280) (f := F0 38) (hW.arr 38 rfl (hW.Fv 38 (by decide))) (by omega) (by omega) dX10_at_292 ?_
    refine ab_iadd (pc := 293) dX10_at_293 (by omega) (by omega) ?_
    refine ab_lald (pc := 294) (n := 320) (f := F 41) (hW.arrJ rfl) (by omega) (by omega) dX10_at_294 ?_
    refine ab_lcm (pc := 295) dX10_at_295 ?_
    refine ab_if_lt (pc := 296) 331 dX10_at_296 (by decide) (fun c296 => ?_) (fun c296 => ?_)
    · rw [lcmp_neg] at c296
      simp only [z9, v9] at c296
      exact hC i i0 i2 I (by rw [st]; omega)
    · rw [lcmp_neg] at c296
      simp only [z9, v9] at c296
      refine ab_lload (pc := 299) dX10_at_299 rfl ?_
      refine ab_aload_n (pc := 301) dX10_at_301 rfl ?_
      refine ab_get (pc := 302) (k := 41) (x := vR (A 41)) okX10 hW.obj rfl w1096 rfl dX10_at_302 ?_
      refine ab_bipush (pc := 305) dX10_at_305 (by decide) ?_
      refine ab_iload (pc := 307) dX10_at_307 rfl ?_
      refine ab_imul (pc := 309) dX10_at_309 (by omega) (by omega) ?_
      refine ab_aload_n (pc := 310) dX10_at_310 rfl ?_
      refine ab_get (pc := 311) (k := 38) (x := vR (A 38)) okX10 hW.obj rfl w1093 rfl dX10_at_311 ?_
      refine ab_iload (pc := 314) dX10_at_314 rfl ?_
      refine ab_iload (pc := 316) dX10_at_316 rfl ?_
      refine ab_iadd (pc := 318) dX10_at_318 (by omega) (by omega) ?_
      refine ab_iald (pc := 319) (n := 1280) (f := F0 38) (hW.arr 38 rfl (hW.Fv 38 (by decide))) (by omega) (by omega) dX10_at_319 ?_
      refine ab_iadd (pc := 320) dX10_at_320 (by omega) (by omega) ?_
      refine ab_lald (pc := 321) (n := 320) (f := F 41) (hW.arrJ rfl) (by omega) (by omega) dX10_at_321 ?_
      refine ab_lsub (pc := 322) dX10_at_322 ?_
      rw [show ab_w64 (lf - pl (hsz (mSz F0 b) (mWd F0 b) k) (mWd F0 b now) 0 i - F 41 (8 * (k : Int) + F0 38 (20 * (8 * b + now) + i))) = lf - pl (hsz (mSz F0 b) (mWd F0 b) k) (mWd F0 b now) 0 (i + 1) by rw [z9, v9, st, w64_id (by omega) (by omega)]; omega]
      refine ab_lstore (pc := 323) dX10_at_323 rfl (Nat.le_of_ble_eq_true rfl) ?_
      refine ab_iinc (pc := 325) dX10_at_325 rfl rfl (by decide) (by omega) (by omega) ?_
      refine ab_goto (pc := 328) 272 dX10_at_328 (by decide) ?_
      exact ih (i + 1) (by omega) (by omega) (by omega) (by rw [st]; omega)
theorem m_at_252 {h : AbH} {s : Nat → Int} {F : Nat → Int → Int} (hW : mW h0 m A s0 F0 [0] [41] h s F) {b a p : Int} (mk : mkOk F0 b) (mb : mapB F0 b) (a0 : 0 ≤ a) (a1 : a < F0 36 b) (p0 : 0 ≤ p) (p1 : p < 2147483648) (ha : mWd F0 b a 0 = a) (two : ∀ x : Int, 0 ≤ x → x < F0 36 b → 2 ≤ mSz F0 b x) {R : Nat} (R31 : R ≤ 31) (t0 : s 0 = 0) (g41 : (∀ r : Nat, r ≤ R → ∀ x : Int, 0 ≤ x → x < F0 36 b → F 41 (8 * r + x) = ab_w64 (hsz (mSz F0 b) (mWd F0 b) r x))) (fu : Nat) : ∀ (k : Nat) (now lf : Int) (x10 x11 : Option AbV), ((k : Int)).toNat < fu → (k ≤ R) → (0 ≤ now) → (now < F0 36 b) → (0 ≤ lf) → (lf < hsz (mSz F0 b) (mWd F0 b) k now) → (hsz (mSz F0 b) (mWd F0 b) k now ≤ 100000000000) → (∀ y : Int, LT (mSz F0 b) (mWd F0 b) k now lf y → LT (mSz F0 b) (mWd F0 b) R a p y) → (p < hsz (mSz F0 b) (mWd F0 b) R a) → ab_T l E Y_X10_at 4 0 0 252 [some (vR m), some (vI b), some (vI a), some (vI p), some (vI (F0 36 b)), some (vI (R : Int)), some (vI now), some (vL lf), none, some (vI ((k : Int) - 1)), x10, x11] [] h (mC h0 m A s0 F0 [0] [41] (fun r s' F' => ∃ c r9 : Int, r = some (vI r9) ∧ s' 0 = c ∧ atSp F0 b a p c r9)) := by
  induction fu with
  | zero => intro k now lf x10 x11 hm; exact absurd hm (Nat.not_lt_zero _)
  | succ fu ih =>
    intro k now lf x10 x11 hm kR w0 w1 l0 l1 l2 I pR
    obtain ⟨mk1, mk2, mk3⟩ := id mk
    have al8 := mb.2.1
    refine ab_iload (pc := 252) dX10_at_252 rfl ?_
    refine ab_if_lt (pc := 254) 349 dX10_at_254 (by decide) (fun c254 => ?_) (fun c254 => ?_)
    · refine ab_iload (pc := 349) dX10_at_349 rfl ?_
      refine ab_iret (pc := 351) dX10_at_351 rfl ?_
      obtain rfl : k = 0 := by omega
      exact ⟨_, _, _, rfl, hW, 0, now, rfl, t0, Or.inr ⟨mk, rfl, Or.inr ⟨a0, a1, p0, ha, two, R, pR, I now rfl⟩⟩⟩
    · refine ab_bipush (pc := 257) dX10_at_257 (by decide) ?_
      refine ab_bipush (pc := 259) dX10_at_259 (by decide) ?_
      refine ab_iload_n (pc := 261) dX10_at_261 rfl ?_
      refine ab_imul (pc := 262) dX10_at_262 (by omega) (by omega) ?_
      refine ab_iload (pc := 263) dX10_at_263 rfl ?_
      refine ab_iadd (pc := 265) dX10_at_265 (by omega) (by omega) ?_
      refine ab_imul (pc := 266) dX10_at_266 (by omega) (by omega) ?_
      refine ab_istore (pc := 267) dX10_at_267 rfl (Nat.le_of_ble_eq_true rfl) ?_
      refine ab_iconst (pc := 269) dX10_at_269 (by decide) ?_
      refine ab_istore (pc := 270) dX10_at_270 rfl (Nat.le_of_ble_eq_true rfl) ?_
      obtain ⟨k9, rfl⟩ : ∃ k9 : Nat, k = k9 + 1 := ⟨k - 1, by omega⟩
      rw [show (((k9 + 1 : Nat) : Int) - 1) = (k9 : Int) by omega]
      have g9 := m_at_272 (l := l) (E := E) hW mk mb a0 a1 p0 p1 ha two R31 t0 g41 (k := k9) (now := now) (lf := lf) (by omega) w0 w1 l0 l1 l2 (fun i i0 i1 i2 i3 => ?_) _ 0 (Nat.lt_succ_self _) (by omega) (by have := two now w0 w1; omega) (by rw [pl0]; exact l0)
      · rw [pl0, Int.sub_zero] at g9; exact g9
      have hV := mb.v two
      obtain ⟨s2, s20, swd⟩ := hV now w0 w1
      have z8 := swd i i0 i1
      have z9 : F0 38 (20 * (8 * b + now) + i) = mWd F0 b now i := rfl
      refine ab_aload_n (pc := 331) dX10_at_331 rfl ?_
      refine ab_get (pc := 332) (k := 38) (x := vR (A 38)) okX10 hW.obj rfl w1093 rfl dX10_at_332 ?_
      refine ab_iload (pc := 335) dX10_at_335 rfl ?_
      refine ab_iload (pc := 337) dX10_at_337 rfl ?_
      refine ab_iadd (pc := 339) dX10_at_339 (by omega) (by omega) ?_
      refine ab_iald (pc := 340) (n := 1280) (f := F0 38) (hW.arr 38 rfl (hW.Fv 38 (by decide))) (by omega) (by omega) dX10_at_340 ?_
      refine ab_istore (pc := 341) dX10_at_341 rfl (Nat.le_of_ble_eq_true rfl) ?_
      refine ab_iinc (pc := 343) dX10_at_343 rfl rfl (by decide) (by omega) (by omega) ?_
      refine ab_goto (pc := 346) 252 dX10_at_346 (by decide) ?_
      rw [z9]
      have gz : ∀ j : Int, 0 ≤ j → j < mSz F0 b now → 1 ≤ hsz (mSz F0 b) (mWd F0 b) k9 (mWd F0 b now (0 + j)) := fun j j0 j1 => by rw [Int.zero_add]; exact hsz_pos hV k9 _ (swd j j0 j1).1 (swd j j0 j1).2
      have st := pl0q (z := hsz (mSz F0 b) (mWd F0 b) k9) (sh := mWd F0 b now) i0
      have mo := pl_part (z := hsz (mSz F0 b) (mWd F0 b) k9) (sh := mWd F0 b now) (q := 0) (n := mSz F0 b now) gz i0 i1
      rw [Int.zero_add] at mo
      have top : hsz (mSz F0 b) (mWd F0 b) (k9 + 1) now = pl (hsz (mSz F0 b) (mWd F0 b) k9) (mWd F0 b now) 0 (mSz F0 b now) := rfl
      have i4 := i3
      rw [st] at i4
      rw [show (k9 : Int) + -1 = (k9 : Int) - 1 by omega]
      exact ih k9 _ _ _ _ (by omega) (by omega) z8.1 z8.2 (by omega) (by omega) (by omega) (fun y hy => I y ⟨i, i0, i1, i2, i3, hy⟩) pR
theorem m_at_152 {h : AbH} {s : Nat → Int} {F : Nat → Int → Int} (hW : mW h0 m A s0 F0 [0] [41] h s F) {b a p : Int} (mk : mkOk F0 b) (mb : mapB F0 b) (a0 : 0 ≤ a) (a1 : a < F0 36 b) (p0 : 0 ≤ p) (p1 : p < 2147483648) (ha : mWd F0 b a 0 = a) (two : ∀ x : Int, 0 ≤ x → x < F0 36 b → 2 ≤ mSz F0 b x) {R : Nat} (R31 : R < 31) (t0 : s 0 = 0) (g41 : (∀ r : Nat, r ≤ R → ∀ x : Int, 0 ≤ x → x < F0 36 b → F 41 (8 * r + x) = ab_w64 (hsz (mSz F0 b) (mWd F0 b) r x))) {u : Int} {x10 x11 : Option AbV} (u0 : 0 ≤ u) (u1 : u < F0 36 b) (hC : ∀ i : Int, ab_T l E Y_X10_at 4 0 0 209 [some (vR m), some (vI b), some (vI a), some (vI p), some (vI (F0 36 b)), some (vI (R : Int)), some (vI u), some (vL (ab_w64 (hsz (mSz F0 b) (mWd F0 b) (R + 1) u))), none, some (vI i), x10, x11] [] h (mC h0 m A s0 F0 [0] [41] (fun r s' F' => ∃ c r9 : Int, r = some (vI r9) ∧ s' 0 = c ∧ atSp F0 b a p c r9))) (fu : Nat) : ∀ (i : Int), (mSz F0 b u - i).toNat < fu → (0 ≤ i) → (i ≤ mSz F0 b u) → ab_T l E Y_X10_at 4 0 0 152 [some (vR m), some (vI b), some (vI a), some (vI p), some (vI (F0 36 b)), some (vI (R : Int)), some (vI u), some (vL (ab_w64 (pl (hsz (mSz F0 b) (mWd F0 b) R) (mWd F0 b u) 0 i))), none, some (vI i), x10, x11] [] h (mC h0 m A s0 F0 [0] [41] (fun r s' F' => ∃ c r9 : Int, r = some (vI r9) ∧ s' 0 = c ∧ atSp F0 b a p c r9)) := by
  induction fu with
  | zero => intro i hm; exact absurd hm (Nat.not_lt_zero _)
  | succ fu ih =>
    intro i hm i0 i1
    obtain ⟨mk1, mk2, mk3⟩ := id mk
    have al8 := mb.2.1
    have hV := mb.v two
    obtain ⟨s2, s20, swd⟩ := hV u u0 u1
    have z8 : F0 37 (8 * b + u) = mSz F0 b u := rfl
    have z9 : F0 38 (20 * (8 * b + u) + i) = mWd F0 b u i := rfl
    refine ab_iload (pc := 152) dX10_at_152 rfl ?_
    refine ab_aload_n (pc := 154) dX10_at_154 rfl ?_
    refine ab_get (pc := 155) (k := 37) (x := vR (A 37)) okX10 hW.obj rfl w1092 rfl dX10_at_155 ?_
    refine ab_bipush (pc := 158) dX10_at_158 (by decide) ?_
    refine ab_iload_n (pc := 160) dX10_at_160 rfl ?_
    refine ab_imul (pc := 161) dX10_at_161 (by omega) (by omega) ?_
    refine ab_iload (pc := 162) dX10_at_162 rfl ?_
    refine ab_iadd (pc := 164) dX10_at_164 (by omega) (by omega) ?_
    refine ab_iald (pc := 165) (n := 64) (f := F0 37) (hW.arr 37 rfl (hW.Fv 37 (by decide))) (by omega) (by omega) dX10_at_165 ?_
    refine ab_icmp_ge (pc := 166) 209 dX10_at_166 (by decide) (fun c166 => ?_) (fun c166 => ?_)
    · have e9 : i = mSz F0 b u := by omega
      subst e9
      exact hC _
    · have w9 := swd i i0 (by omega)
      have v9 := g41 R (Nat.le_refl _) _ w9.1 w9.2
      have st := pl0q (z := hsz (mSz F0 b) (mWd F0 b) R) (sh := mWd F0 b u) i0
      refine ab_lload (pc := 169) dX10_at_169 rfl ?_
      refine ab_aload_n (pc := 171) dX10_at_171 rfl ?_
      refine ab_get (pc := 172) (k := 41) (x := vR (A 41)) okX10 hW.obj rfl w1096 rfl dX10_at_172 ?_
      refine ab_bipush (pc := 175) dX10_at_175 (by decide) ?_
      refine ab_iload (pc := 177) dX10_at_177 rfl ?_
      refine ab_imul (pc := 179) dX10_at_179 (by omega) (by omega) ?_
      refine ab_aload_n (pc := 180) dX10_at_180 rfl ?_
      refine ab_get (pc := 181) (k := 38) (x := vR (A 38)) okX10 hW.obj rfl w1093 rfl dX10_at_181 ?_
      refine ab_bipush (pc := 184) dX10_at_184 (by decide) ?_
      refine ab_bipush (pc := 186) dX10_at_186 (by decide) ?_
      refine ab_iload_n (pc := 188) dX10_at_188 rfl ?_
      refine ab_imul (pc := 189) dX10_at_189 (by omega) (by omega) ?_
      refine ab_iload (pc := 190) dX10_at_190 rfl ?_
      refine ab_iadd (pc := 192) dX10_at_192 (by omega) (by omega) ?_
      refine ab_imul (pc := 193) dX10_at_193 (by omega) (by omega) ?_
      refine ab_iload (pc := 194) dX10_at_194 rfl ?_
      refine ab_iadd (pc := 196) dX10_at_196 (by omega) (by omega) ?_
      refine ab_iald (pc := 197) (n := 1280) (f := F0 38) (hW.arr 38 rfl (hW.Fv 38 (by decide))) (by omega) (by omega) dX10_at_197 ?_
      refine ab_iadd (pc := 198) dX10_at_198 (by omega) (by omega) ?_
      refine ab_lald (pc := 199) (n := 320) (f := F 41) (hW.arrJ rfl) (by omega) (by omega) dX10_at_199 ?_
      refine ab_ladd (pc := 200) dX10_at_200 ?_
      rw [show ab_w64 (ab_w64 (pl (hsz (mSz F0 b) (mWd F0 b) R) (mWd F0 b u) 0 i) + F 41 (8 * (R : Int) + F0 38 (20 * (8 * b + u) + i))) = ab_w64 (pl (hsz (mSz F0 b) (mWd F0 b) R) (mWd F0 b u) 0 (i + 1)) by rw [z9, v9, w64_add, st]]
      refine ab_lstore (pc := 201) dX10_at_201 rfl (Nat.le_of_ble_eq_true rfl) ?_
      refine ab_iinc (pc := 203) dX10_at_203 rfl rfl (by decide) (by omega) (by omega) ?_
      refine ab_goto (pc := 206) 152 dX10_at_206 (by decide) ?_
      exact ih (i + 1) (by omega) (by omega) (by omega)
theorem m_at_139 {b a p : Int} (mk : mkOk F0 b) (mb : mapB F0 b) (a0 : 0 ≤ a) (a1 : a < F0 36 b) (p0 : 0 ≤ p) (p1 : p < 2147483648) (ha : mWd F0 b a 0 = a) (two : ∀ x : Int, 0 ≤ x → x < F0 36 b → 2 ≤ mSz F0 b x) {R : Nat} {x10 x11 : Option AbV} (R31 : R < 31) (hC : ∀ (x6 x7 x8 x9 : Option AbV) (h : AbH) (s : Nat → Int) (F : Nat → Int → Int), mW h0 m A s0 F0 [0] [41] h s F → s 0 = 0 → (∀ r : Nat, r ≤ R + 1 → ∀ x : Int, 0 ≤ x → x < F0 36 b → F 41 (8 * r + x) = ab_w64 (hsz (mSz F0 b) (mWd F0 b) r x)) → ab_T l E Y_X10_at 4 0 0 233 [some (vR m), some (vI b), some (vI a), some (vI p), some (vI (F0 36 b)), some (vI (R : Int)), x6, x7, x8, x9, x10, x11] [] h (mC h0 m A s0 F0 [0] [41] (fun r s' F' => ∃ c r9 : Int, r = some (vI r9) ∧ s' 0 = c ∧ atSp F0 b a p c r9))) (fu : Nat) : ∀ (u : Int) (x7 x8 x9 : Option AbV) (h : AbH) (s : Nat → Int) (F : Nat → Int → Int), mW h0 m A s0 F0 [0] [41] h s F → (F0 36 b - u).toNat < fu → (0 ≤ u) → (u ≤ F0 36 b) → (s 0 = 0) → (∀ r : Nat, r ≤ R → ∀ x : Int, 0 ≤ x → x < F0 36 b → F 41 (8 * r + x) = ab_w64 (hsz (mSz F0 b) (mWd F0 b) r x)) → (∀ x : Int, 0 ≤ x → x < u → F 41 (8 * (R : Int) + 8 + x) = ab_w64 (hsz (mSz F0 b) (mWd F0 b) (R + 1) x)) → ab_T l E Y_X10_at 4 0 0 139 [some (vR m), some (vI b), some (vI a), some (vI p), some (vI (F0 36 b)), some (vI (R : Int)), some (vI u), x7, x8, x9, x10, x11] [] h (mC h0 m A s0 F0 [0] [41] (fun r s' F' => ∃ c r9 : Int, r = some (vI r9) ∧ s' 0 = c ∧ atSp F0 b a p c r9)) := by
  induction fu with
  | zero => intro u x7 x8 x9 h s F hW hm; exact absurd hm (Nat.not_lt_zero _)
  | succ fu ih =>
    intro u x7 x8 x9 h s F hW hm u0 u1 t0 g41 I
    obtain ⟨mk1, mk2, mk3⟩ := id mk
    have al8 := mb.2.1
    refine ab_iload (pc := 139) dX10_at_139 rfl ?_
    refine ab_iload (pc := 141) dX10_at_141 rfl ?_
    refine ab_icmp_ge (pc := 143) 233 dX10_at_143 (by decide) (fun c143 => ?_) (fun c143 => ?_)
    · refine hC _ _ _ _ _ _ _ hW t0 (fun r hr x x0 x1 => ?_)
      by_cases e9 : r = R + 1
      · subst e9; rw [show (8 * ((R + 1 : Nat) : Int) + x) = 8 * (R : Int) + 8 + x by omega]; exact I x x0 (by omega)
      · exact g41 r (by omega) x x0 x1
    · refine ab_lconst (pc := 146) dX10_at_146 0 rfl ?_
      refine ab_lstore (pc := 147) dX10_at_147 rfl (Nat.le_of_ble_eq_true rfl) ?_
      refine ab_iconst (pc := 149) dX10_at_149 (by decide) ?_
      refine ab_istore (pc := 150) dX10_at_150 rfl (Nat.le_of_ble_eq_true rfl) ?_
      refine m_at_152 hW mk mb a0 a1 p0 p1 ha two R31 t0 g41 u0 (by omega) (fun i => ?_) _ 0 (Nat.lt_succ_self _) (by omega) (by have := two u u0 (by omega); omega)
      refine ab_aload_n (pc := 209) dX10_at_209 rfl ?_
      refine ab_get (pc := 210) (k := 41) (x := vR (A 41)) okX10 hW.obj rfl w1096 rfl dX10_at_210 ?_
      refine ab_bipush (pc := 213) dX10_at_213 (by decide) ?_
      refine ab_iload (pc := 215) dX10_at_215 rfl ?_
      refine ab_imul (pc := 217) dX10_at_217 (by omega) (by omega) ?_
      refine ab_bipush (pc := 218) dX10_at_218 (by decide) ?_
      refine ab_iadd (pc := 220) dX10_at_220 (by omega) (by omega) ?_
      refine ab_iload (pc := 221) dX10_at_221 rfl ?_
      refine ab_iadd (pc := 223) dX10_at_223 (by omega) (by omega) ?_
      refine ab_lload (pc := 224) dX10_at_224 rfl ?_
      refine ab_lastG (pc := 226) (n := 320) (f := F 41) (hW.arrJ rfl) (by decide) (by omega) (by omega) dX10_at_226 (fun h e9 n9 => ?_)
      replace hW := hW.wrJ e9 n9 (by decide)
      clear e9 n9
      refine ab_iinc (pc := 227) dX10_at_227 rfl rfl (by decide) (by omega) (by omega) ?_
      refine ab_goto (pc := 230) 139 dX10_at_230 (by decide) ?_
      refine ih (u + 1) _ _ _ _ _ _ hW (by omega) (by omega) (by omega) t0 (fun r hr x x0 x1 => ?_) (fun x x0 x1 => ?_)
      · exact (ab_f_ne (by omega)).trans (g41 r hr x x0 x1)
      · by_cases e9 : x = u
        · subst e9; exact ab_f_eq rfl
        · exact (ab_f_ne (by omega)).trans (I x x0 (by omega))
theorem m_at_118 {b a p : Int} (mk : mkOk F0 b) (mb : mapB F0 b) (a0 : 0 ≤ a) (a1 : a < F0 36 b) (p0 : 0 ≤ p) (p1 : p < 2147483648) (ha : mWd F0 b a 0 = a) (two : ∀ x : Int, 0 ≤ x → x < F0 36 b → 2 ≤ mSz F0 b x) (fu : Nat) : ∀ (R : Nat) (x6 x7 x8 x9 x10 x11 : Option AbV) (h : AbH) (s : Nat → Int) (F : Nat → Int → Int), mW h0 m A s0 F0 [0] [41] h s F → (31 - (R : Int)).toNat < fu → (R ≤ 31) → (s 0 = 0) → (∀ r : Nat, r ≤ R → ∀ x : Int, 0 ≤ x → x < F0 36 b → F 41 (8 * r + x) = ab_w64 (hsz (mSz F0 b) (mWd F0 b) r x)) → (∀ r : Nat, r < R → hsz (mSz F0 b) (mWd F0 b) r a ≤ p) → ab_T l E Y_X10_at 4 0 0 118 [some (vR m), some (vI b), some (vI a), some (vI p), some (vI (F0 36 b)), some (vI (R : Int)), x6, x7, x8, x9, x10, x11] [] h (mC h0 m A s0 F0 [0] [41] (fun r s' F' => ∃ c r9 : Int, r = some (vI r9) ∧ s' 0 = c ∧ atSp F0 b a p c r9)) := by
  induction fu with
  | zero => intro R x6 x7 x8 x9 x10 x11 h s F hW hm; exact absurd hm (Nat.not_lt_zero _)
  | succ fu ih =>
    intro R x6 x7 x8 x9 x10 x11 h s F hW hm R31 t0 g41 hR
    obtain ⟨mk1, mk2, mk3⟩ := id mk
    have al8 := mb.2.1
    have hV := mb.v two
    have hb : hsz (mSz F0 b) (mWd F0 b) R a ≤ 100000000000 := by
      cases R with
      | zero => show (1 : Int) ≤ _; omega
      | succ R => have q1 := hR R (Nat.lt_succ_self _); have q2 := (hsz_up hV R a a0 a1).1; omega
    have ps := hsz_pos hV R a a0 a1
    have v9 := g41 R (Nat.le_refl _) a a0 a1
    rw [w64_id (by omega) (by omega)] at v9
    refine ab_aload_n (pc := 118) dX10_at_118 rfl ?_
    refine ab_get (pc := 119) (k := 41) (x := vR (A 41)) okX10 hW.obj rfl w1096 rfl dX10_at_119 ?_
    refine ab_bipush (pc := 122) dX10_at_122 (by decide) ?_
    refine ab_iload (pc := 124) dX10_at_124 rfl ?_
    refine ab_imul (pc := 126) dX10_at_126 (by omega) (by omega) ?_
    refine ab_iload_n (pc := 127) dX10_at_127 rfl ?_
    refine ab_iadd (pc := 128) dX10_at_128 (by omega) (by omega) ?_
    refine ab_lald (pc := 129) (n := 320) (f := F 41) (hW.arrJ rfl) (by omega) (by omega) dX10_at_129 ?_
    refine ab_iload_n (pc := 130) dX10_at_130 rfl ?_
    refine ab_i2l (pc := 131) dX10_at_131 ?_
    refine ab_lcm (pc := 132) dX10_at_132 ?_
    refine ab_if_gt (pc := 133) 239 dX10_at_133 (by decide) (fun c133 => ?_) (fun c133 => ?_)
    · rw [lcmp_pos, v9] at c133
      refine ab_iload_n (pc := 239) dX10_at_239 rfl ?_
      refine ab_istore (pc := 240) dX10_at_240 rfl (Nat.le_of_ble_eq_true rfl) ?_
      refine ab_iload_n (pc := 242) dX10_at_242 rfl ?_
      refine ab_i2l (pc := 243) dX10_at_243 ?_
      refine ab_lstore (pc := 244) dX10_at_244 rfl (Nat.le_of_ble_eq_true rfl) ?_
      refine ab_iload (pc := 246) dX10_at_246 rfl ?_
      refine ab_iconst (pc := 248) dX10_at_248 (by decide) ?_
      refine ab_isub (pc := 249) dX10_at_249 (by omega) (by omega) ?_
      refine ab_istore (pc := 250) dX10_at_250 rfl (Nat.le_of_ble_eq_true rfl) ?_
      exact m_at_252 hW mk mb a0 a1 p0 p1 ha two R31 t0 g41 _ R a p _ _ (Nat.lt_succ_self _) (Nat.le_refl _) a0 a1 p0 (by omega) hb (fun y hy => hy) (by omega)
    · rw [lcmp_pos, v9] at c133
      refine ab_iconst (pc := 136) dX10_at_136 (by decide) ?_
      refine ab_istore (pc := 137) dX10_at_137 rfl (Nat.le_of_ble_eq_true rfl) ?_
      have R3 : R < 31 := by
        rcases Nat.lt_or_ge R 31 with g | g
        · exact g
        · exfalso
          obtain rfl : R = 31 := by omega
          have := hsz_two hV 31 a a0 a1
          omega
      refine m_at_139 mk mb a0 a1 p0 p1 ha two R3 (fun x6 x7 x8 x9 h s F hW t0 g41 => ?_) _ 0 _ _ _ _ _ _ hW (Nat.lt_succ_self _) (by omega) (by omega) t0 g41 (fun x x0 x1 => absurd x1 (by omega))
      refine ab_iinc (pc := 233) dX10_at_233 rfl rfl (by decide) (by omega) (by omega) ?_
      refine ab_goto (pc := 236) 118 dX10_at_236 (by decide) ?_
      rw [show (R : Int) + 1 = ((R + 1 : Nat) : Int) by omega]
      refine ih (R + 1) _ _ _ _ _ _ _ _ _ hW (by omega) (by omega) t0 g41 (fun r hr => ?_)
      by_cases e9 : r = R
      · rw [e9]; omega
      · exact hR r (by omega)
theorem m_at_94 {b a p : Int} (mk : mkOk F0 b) (mb : mapB F0 b) (a0 : 0 ≤ a) (a1 : a < F0 36 b) (p0 : 0 ≤ p) (p1 : p < 2147483648) (ha : mWd F0 b a 0 = a) (two : ∀ x : Int, 0 ≤ x → x < F0 36 b → 2 ≤ mSz F0 b x) (fu : Nat) : ∀ (u : Int) (h : AbH) (s : Nat → Int) (F : Nat → Int → Int), mW h0 m A s0 F0 [0] [41] h s F → (F0 36 b - u).toNat < fu → (0 ≤ u) → (u ≤ F0 36 b) → (s 0 = 0) → (∀ x : Int, 0 ≤ x → x < u → F 41 x = 1) → ab_T l E Y_X10_at 4 0 0 94 [some (vR m), some (vI b), some (vI a), some (vI p), some (vI (F0 36 b)), some (vI u), none, none, none, none, none, none] [] h (mC h0 m A s0 F0 [0] [41] (fun r s' F' => ∃ c r9 : Int, r = some (vI r9) ∧ s' 0 = c ∧ atSp F0 b a p c r9)) := by
  induction fu with
  | zero => intro u h s F hW hm; exact absurd hm (Nat.not_lt_zero _)
  | succ fu ih =>
    intro u h s F hW hm u0 u1 t0 I
    obtain ⟨mk1, mk2, mk3⟩ := id mk
    have al8 := mb.2.1
    refine ab_iload (pc := 94) dX10_at_94 rfl ?_
    refine ab_iload (pc := 96) dX10_at_96 rfl ?_
    refine ab_icmp_ge (pc := 98) 115 dX10_at_98 (by decide) (fun c98 => ?_) (fun c98 => ?_)
    · refine ab_iconst (pc := 115) dX10_at_115 (by decide) ?_
      refine ab_istore (pc := 116) dX10_at_116 rfl (Nat.le_of_ble_eq_true rfl) ?_
      refine m_at_118 mk mb a0 a1 p0 p1 ha two _ 0 _ _ _ _ _ _ _ _ _ hW (Nat.lt_succ_self _) (by omega) t0 (fun r hr x x0 x1 => ?_) (fun r hr => absurd hr (Nat.not_lt_zero _))
      obtain rfl : r = 0 := by omega
      rw [show (8 * ((0 : Nat) : Int) + x) = x by omega, I x x0 (by omega)]
      rfl
    · refine ab_aload_n (pc := 101) dX10_at_101 rfl ?_
      refine ab_get (pc := 102) (k := 41) (x := vR (A 41)) okX10 hW.obj rfl w1096 rfl dX10_at_102 ?_
      refine ab_iload (pc := 105) dX10_at_105 rfl ?_
      refine ab_lconst (pc := 107) dX10_at_107 1 rfl ?_
      refine ab_lastG (pc := 108) (n := 320) (f := F 41) (hW.arrJ rfl) (by decide) (by omega) (by omega) dX10_at_108 (fun h e9 n9 => ?_)
      replace hW := hW.wrJ e9 n9 (by decide)
      clear e9 n9
      refine ab_iinc (pc := 109) dX10_at_109 rfl rfl (by decide) (by omega) (by omega) ?_
      refine ab_goto (pc := 112) 94 dX10_at_112 (by decide) ?_
      exact ih (u + 1) _ _ _ hW (by omega) (by omega) (by omega) t0 (upto_P (R := fun _ z => z = 1) I rfl)
theorem m_at (hG : ab_G l E) (hM : mR h0 m A s0 F0) {b a p : Int} (p1 : p < 2147483648) (mbs : ∀ b : Int, mkOk F0 b → mapB F0 b) : ab_M l E Y_X10_at 12 4 0 0 [vR m, vI b, vI a, vI p] h0 (mC h0 m A s0 F0 [0] [41] (fun r s' F' => ∃ c r9 : Int, r = some (vI r9) ∧ s' 0 = c ∧ atSp F0 b a p c r9)) := by
  refine ab_M.of (L0 := [some (vR m), some (vI b), some (vI a), some (vI p), none, none, none, none, none, none, none, none]) hG rfl rfl (Nat.le_of_ble_eq_true rfl) rfl ?_
  have hW : mW h0 m A s0 F0 [0] [41] h0 s0 F0 := mW.start hM
  refine ab_aload_n (pc := 0) dX10_at_0 rfl ?_
  refine ab_iconst (pc := 1) dX10_at_1 (by decide) ?_
  refine ab_putG (pc := 2) (k := 0) okX10 hW.obj (by decide) (by decide) trivial w1055 rfl (Or.inl rfl) dX10_at_2 (fun h e9 n9 => ?_)
  replace hW := hW.put e9 n9 rfl (by decide)
  clear e9 n9
  refine ab_aload_n (pc := 5) dX10_at_5 rfl ?_
  refine ab_iload_n (pc := 6) dX10_at_6 rfl ?_
  refine ab_callV (pc := 7) (m_isMap (g := F0 35) hG hW.1 rfl (hW.Fv 35 (by decide))) hW.obj rfl ⟨w1356, w5, w1359, by decide, pd71⟩ w1358 sp43 rfl (by decide) (by decide) (Nat.le_of_ble_eq_true rfl) rfl dX10_at_7 (fun _ _ hx => absurd hx mC_no) ?_
  rintro _ h ⟨_, s1, F1, e9, hc1, hp1⟩
  cases e9
  replace hW := hW.call hc1 (by decide) (by decide)
  rcases hp1 with ⟨mk1, mk2, mk3, rfl, t1⟩ | ⟨mk1, rfl, t1⟩
  · refine ab_if_ne (pc := 10) 15 dX10_at_10 (by decide) (fun c10 => ?_) (fun c10 => absurd c10 (by omega))
    have mb := mbs b ⟨mk1, mk2, mk3⟩
    have al8 := mb.2.1
    refine ab_aload_n (pc := 15) dX10_at_15 rfl ?_
    refine ab_get (pc := 16) (k := 36) (x := vR (A 36)) okX10 hW.obj rfl w1091 rfl dX10_at_16 ?_
    refine ab_iload_n (pc := 19) dX10_at_19 rfl ?_
    refine ab_iald (pc := 20) (n := 8) (f := F0 36) (hW.arr 36 rfl (hW.Fv 36 (by decide))) (by omega) (by omega) dX10_at_20 ?_
    refine ab_istore (pc := 21) dX10_at_21 rfl (Nat.le_of_ble_eq_true rfl) ?_
    refine ab_iload_n (pc := 23) dX10_at_23 rfl ?_
    refine ab_if_lt (pc := 24) 55 dX10_at_24 (by decide) (fun c24 => ?_) (fun c24 => ?_)
    · refine ab_iconst (pc := 55) dX10_at_55 (by decide) ?_
      refine ab_iret (pc := 56) dX10_at_56 rfl ?_
      refine ⟨_, _, _, rfl, hW, 0, -1, rfl, t1, Or.inr ⟨⟨mk1, mk2, mk3⟩, rfl, Or.inl ⟨fun g => ?_, rfl⟩⟩⟩
      have g4 := g.2.2.2.1
      rw [show mWd F0 b a 0 = F0 38 (20 * (8 * b + a) + 0) from rfl, Int.add_zero] at g4
      omega
    · refine ab_iload_n (pc := 27) dX10_at_27 rfl ?_
      refine ab_iload (pc := 28) dX10_at_28 rfl ?_
      refine ab_icmp_ge (pc := 30) 55 dX10_at_30 (by decide) (fun c30 => ?_) (fun c30 => ?_)
      · refine ab_iconst (pc := 55) dX10_at_55 (by decide) ?_
        refine ab_iret (pc := 56) dX10_at_56 rfl ?_
        refine ⟨_, _, _, rfl, hW, 0, -1, rfl, t1, Or.inr ⟨⟨mk1, mk2, mk3⟩, rfl, Or.inl ⟨fun g => ?_, rfl⟩⟩⟩
        have g4 := g.2.2.2.1
        rw [show mWd F0 b a 0 = F0 38 (20 * (8 * b + a) + 0) from rfl, Int.add_zero] at g4
        omega
      · refine ab_iload_n (pc := 33) dX10_at_33 rfl ?_
        refine ab_if_lt (pc := 34) 55 dX10_at_34 (by decide) (fun c34 => ?_) (fun c34 => ?_)
        · refine ab_iconst (pc := 55) dX10_at_55 (by decide) ?_
          refine ab_iret (pc := 56) dX10_at_56 rfl ?_
          refine ⟨_, _, _, rfl, hW, 0, -1, rfl, t1, Or.inr ⟨⟨mk1, mk2, mk3⟩, rfl, Or.inl ⟨fun g => ?_, rfl⟩⟩⟩
          have g4 := g.2.2.2.1
          rw [show mWd F0 b a 0 = F0 38 (20 * (8 * b + a) + 0) from rfl, Int.add_zero] at g4
          omega
        · refine ab_aload_n (pc := 37) dX10_at_37 rfl ?_
          refine ab_get (pc := 38) (k := 38) (x := vR (A 38)) okX10 hW.obj rfl w1093 rfl dX10_at_38 ?_
          refine ab_bipush (pc := 41) dX10_at_41 (by decide) ?_
          refine ab_bipush (pc := 43) dX10_at_43 (by decide) ?_
          refine ab_iload_n (pc := 45) dX10_at_45 rfl ?_
          refine ab_imul (pc := 46) dX10_at_46 (by omega) (by omega) ?_
          refine ab_iload_n (pc := 47) dX10_at_47 rfl ?_
          refine ab_iadd (pc := 48) dX10_at_48 (by omega) (by omega) ?_
          refine ab_imul (pc := 49) dX10_at_49 (by omega) (by omega) ?_
          refine ab_iald (pc := 50) (n := 1280) (f := F0 38) (hW.arr 38 rfl (hW.Fv 38 (by decide))) (by omega) (by omega) dX10_at_50 ?_
          refine ab_iload_n (pc := 51) dX10_at_51 rfl ?_
          refine ab_icmp_eq (pc := 52) 57 dX10_at_52 (by decide) (fun c52 => ?_) (fun c52 => ?_)
          · have hw0 : mWd F0 b a 0 = a := by show F0 38 (20 * (8 * b + a) + 0) = a; rw [Int.add_zero]; exact c52
            refine ab_iconst (pc := 57) dX10_at_57 (by decide) ?_
            refine ab_istore (pc := 58) dX10_at_58 rfl (Nat.le_of_ble_eq_true rfl) ?_
            refine m_at_60 hW ⟨mk1, mk2, mk3⟩ mb (by omega) (by omega) (by omega) p1 hw0 t1 (fun two u => ?_) _ 0 (Nat.lt_succ_self _) (by omega) (fun x x0 x1 => absurd x1 (by omega))
            refine ab_iconst (pc := 91) dX10_at_91 (by decide) ?_
            refine ab_istore (pc := 92) dX10_at_92 rfl (Nat.le_of_ble_eq_true rfl) ?_
            exact m_at_94 ⟨mk1, mk2, mk3⟩ mb (by omega) (by omega) (by omega) p1 hw0 two _ 0 _ _ _ hW (Nat.lt_succ_self _) (by omega) (by have := mb.1; omega) t1 (fun x x0 x1 => absurd x1 (by omega))
          · refine ab_iconst (pc := 55) dX10_at_55 (by decide) ?_
            refine ab_iret (pc := 56) dX10_at_56 rfl ?_
            refine ⟨_, _, _, rfl, hW, 0, -1, rfl, t1, Or.inr ⟨⟨mk1, mk2, mk3⟩, rfl, Or.inl ⟨fun g => ?_, rfl⟩⟩⟩
            have g4 := g.2.2.2.1
            rw [show mWd F0 b a 0 = F0 38 (20 * (8 * b + a) + 0) from rfl, Int.add_zero] at g4
            omega
  · refine ab_if_ne (pc := 10) 15 dX10_at_10 (by decide) (fun c10 => absurd c10 (by omega)) (fun c10 => ?_)
    refine ab_iconst (pc := 13) dX10_at_13 (by decide) ?_
    refine ab_iret (pc := 14) dX10_at_14 rfl ?_
    exact ⟨_, _, _, rfl, hW, 1, 0, rfl, t1, Or.inl ⟨by omega, rfl, rfl⟩⟩
end M16
