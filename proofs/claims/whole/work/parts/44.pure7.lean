/-! pure words: letters far out -/
section PU7
def hsz (sz : Int → Int) (wd : Int → Int → Int) : Nat → Int → Int
  | 0 => fun _ => 1
  | r + 1 => fun x => pl (hsz sz wd r) (wd x) 0 (sz x)
/-- letter y stands at place p of the r-th image of x -/
def LT (sz : Int → Int) (wd : Int → Int → Int) : Nat → Int → Int → Int → Prop
  | 0 => fun x _ y => y = x
  | r + 1 => fun x p y => ∃ i : Int, 0 ≤ i ∧ i < sz x ∧ pl (hsz sz wd r) (wd x) 0 i ≤ p ∧ p < pl (hsz sz wd r) (wd x) 0 (i + 1) ∧ LT sz wd r (wd x i) (p - pl (hsz sz wd r) (wd x) 0 i) y
variable {sz : Int → Int} {wd : Int → Int → Int} {al : Int}
def mV (sz : Int → Int) (wd : Int → Int → Int) (al : Int) : Prop := ∀ x : Int, 0 ≤ x → x < al → 2 ≤ sz x ∧ sz x ≤ 20 ∧ ∀ i : Int, 0 ≤ i → i < sz x → 0 ≤ wd x i ∧ wd x i < al
theorem pl_mul_le {z z' sh : Int → Int} {q n C : Int} (h : ∀ k : Int, 0 ≤ k → k < n → z (sh (q + k)) ≤ C * z' (sh (q + k))) : ∀ k : Int, 0 ≤ k → k ≤ n → pl z sh q k ≤ C * pl z' sh q k := pl_ind (by rw [pl0, pl0]; omega) (fun k k0 k1 e => by
  rw [pl_step k0, pl_step k0, Int.mul_add]
  have := h k k0 k1
  omega)
theorem pl_mul_ge {z z' sh : Int → Int} {q n C : Int} (h : ∀ k : Int, 0 ≤ k → k < n → C * z' (sh (q + k)) ≤ z (sh (q + k))) : ∀ k : Int, 0 ≤ k → k ≤ n → C * pl z' sh q k ≤ pl z sh q k := pl_ind (by rw [pl0, pl0]; omega) (fun k k0 k1 e => by
  rw [pl_step k0, pl_step k0, Int.mul_add]
  have := h k k0 k1
  omega)
theorem pl_one {sh : Int → Int} {q : Int} : ∀ k : Int, 0 ≤ k → k ≤ 100 → pl (fun _ => 1) sh q k = k := pl_ind (by rw [pl0]) (fun k k0 k1 e => by rw [pl_step k0, e])
theorem hsz_pos (hV : mV sz wd al) : ∀ (r : Nat) (x : Int), 0 ≤ x → x < al → 1 ≤ hsz sz wd r x
  | 0, _, _, _ => Int.le_refl _
  | r + 1, x, x0, x1 => by
    obtain ⟨h1, h2, h3⟩ := hV x x0 x1
    have := pl_ge (z := hsz sz wd r) (sh := wd x) (q := 0) (n := sz x) (fun k k0 k1 => by rw [Int.zero_add]; exact hsz_pos hV r _ (h3 k k0 k1).1 (h3 k k0 k1).2) (sz x) (by omega) (Int.le_refl _)
    show 1 ≤ pl (hsz sz wd r) (wd x) 0 (sz x)
    omega
theorem hsz_up (hV : mV sz wd al) : ∀ (r : Nat) (x : Int), 0 ≤ x → x < al → hsz sz wd (r + 1) x ≤ 20 * hsz sz wd r x ∧ 2 * hsz sz wd r x ≤ hsz sz wd (r + 1) x
  | 0, x, x0, x1 => by
    obtain ⟨h1, h2, h3⟩ := hV x x0 x1
    show pl (fun _ => 1) (wd x) 0 (sz x) ≤ 20 * 1 ∧ 2 * 1 ≤ pl (fun _ => 1) (wd x) 0 (sz x)
    rw [pl_one _ (by omega) (by omega)]
    omega
  | r + 1, x, x0, x1 => by
    obtain ⟨h1, h2, h3⟩ := hV x x0 x1
    show pl (hsz sz wd (r + 1)) (wd x) 0 (sz x) ≤ 20 * pl (hsz sz wd r) (wd x) 0 (sz x) ∧ 2 * pl (hsz sz wd r) (wd x) 0 (sz x) ≤ pl (hsz sz wd (r + 1)) (wd x) 0 (sz x)
    have ih := hsz_up hV r
    constructor
    · exact pl_mul_le (n := sz x) (fun k k0 k1 => by rw [Int.zero_add]; exact (ih _ (h3 k k0 k1).1 (h3 k k0 k1).2).1) _ (by omega) (Int.le_refl _)
    · exact pl_mul_ge (n := sz x) (fun k k0 k1 => by rw [Int.zero_add]; exact (ih _ (h3 k k0 k1).1 (h3 k k0 k1).2).2) _ (by omega) (Int.le_refl _)
theorem hsz_two (hV : mV sz wd al) : ∀ (r : Nat) (x : Int), 0 ≤ x → x < al → (2 : Int) ^ r ≤ hsz sz wd r x
  | 0, _, _, _ => Int.le_refl _
  | r + 1, x, x0, x1 => by
    have h1 := hsz_two hV r x x0 x1
    have h2 := (hsz_up hV r x x0 x1).2
    rw [Int.pow_succ]
    omega
theorem LT_uniq (hV : mV sz wd al) : ∀ (r : Nat) (x p y y' : Int), 0 ≤ x → x < al → LT sz wd r x p y → LT sz wd r x p y' → y = y'
  | 0, _, _, _, _, _, _, h, h' => Eq.trans h (Eq.symm h')
  | r + 1, x, p, y, y', x0, x1, ⟨i, i0, i1, i2, i3, i4⟩, ⟨j, j0, j1, j2, j3, j4⟩ => by
    obtain ⟨h1, h2, h3⟩ := hV x x0 x1
    have gz : ∀ k : Int, 0 ≤ k → k < sz x → 1 ≤ hsz sz wd r (wd x (0 + k)) := fun k k0 k1 => by rw [Int.zero_add]; exact hsz_pos hV r _ (h3 k k0 k1).1 (h3 k k0 k1).2
    have e : i = j := by
      rcases Int.lt_trichotomy i j with g | g | g
      · have := pl_mono (z := hsz sz wd r) (sh := wd x) (q := 0) (n := sz x) (j := i + 1) gz (by omega) j j0 (by omega) (by omega)
        omega
      · exact g
      · have := pl_mono (z := hsz sz wd r) (sh := wd x) (q := 0) (n := sz x) (j := j + 1) gz (by omega) i i0 (by omega) (by omega)
        omega
    subst e
    exact LT_uniq hV r _ _ y y' (h3 i i0 i1).1 (h3 i i0 i1).2 i4 j4
theorem LT_more (hV : mV sz wd al) {a : Int} (a0 : 0 ≤ a) (a1 : a < al) (ha : wd a 0 = a) {r : Nat} {p y : Int} (p0 : 0 ≤ p) (hp : p < hsz sz wd r a) (h : LT sz wd r a p y) : p < hsz sz wd (r + 1) a ∧ LT sz wd (r + 1) a p y := by
  obtain ⟨h1, h2, h3⟩ := hV a a0 a1
  refine ⟨by have := (hsz_up hV r a a0 a1).2; have := hsz_pos hV r a a0 a1; omega, 0, by omega, by omega, by rw [pl0]; exact p0, ?_, ?_⟩
  · rw [pl0q (by omega), pl0, ha]
    omega
  · rw [pl0, ha, Int.sub_zero]
    exact h
theorem LT_far (hV : mV sz wd al) {a : Int} (a0 : 0 ≤ a) (a1 : a < al) (ha : wd a 0 = a) {r : Nat} {p y : Int} (p0 : 0 ≤ p) (hp : p < hsz sz wd r a) (h : LT sz wd r a p y) (k : Nat) : p < hsz sz wd (r + k) a ∧ LT sz wd (r + k) a p y := by
  induction k with
  | zero => exact ⟨hp, h⟩
  | succ k ih => exact LT_more hV a0 a1 ha p0 ih.1 ih.2
def atSp (F : Nat → Int → Int) (b a p c r : Int) : Prop := (¬ mkOk F b ∧ c = 1 ∧ r = 0) ∨ (mkOk F b ∧ c = 0 ∧ ((¬ (0 ≤ a ∧ a < F 36 b ∧ 0 ≤ p ∧ mWd F b a 0 = a ∧ ∀ x : Int, 0 ≤ x → x < F 36 b → 2 ≤ mSz F b x) ∧ r = -1) ∨ (0 ≤ a ∧ a < F 36 b ∧ 0 ≤ p ∧ mWd F b a 0 = a ∧ (∀ x : Int, 0 ≤ x → x < F 36 b → 2 ≤ mSz F b x) ∧ ∃ k : Nat, p < hsz (mSz F b) (mWd F b) k a ∧ LT (mSz F b) (mWd F b) k a p r)))
theorem mapB.v {F : Nat → Int → Int} {b : Int} (mb : mapB F b) (h : ∀ x : Int, 0 ≤ x → x < F 36 b → 2 ≤ mSz F b x) : mV (mSz F b) (mWd F b) (F 36 b) := fun x x0 x1 => ⟨h x x0 x1, (mb.2.2 x x0 x1).2.1, (mb.2.2 x x0 x1).2.2⟩
theorem atSp_uniq {F : Nat → Int → Int} {b a p c r c' r' : Int} (mb : mkOk F b → mapB F b) (h : atSp F b a p c r) (h' : atSp F b a p c' r') : c = c' ∧ r = r' := by
  rcases h with ⟨a1, a2, a3⟩ | ⟨a1, a2, a3⟩ <;> rcases h' with ⟨b1, b2, b3⟩ | ⟨b1, b2, b3⟩
  · exact ⟨by omega, by omega⟩
  · exact absurd b1 a1
  · exact absurd a1 b1
  · refine ⟨by omega, ?_⟩
    rcases a3 with ⟨a3, a4⟩ | ⟨a3, a4, a5, a6, a7, k, a8, a9⟩ <;> rcases b3 with ⟨b3, b4⟩ | ⟨b3, b4, b5, b6, b7, j, b8, b9⟩
    · omega
    · exact absurd ⟨b3, b4, b5, b6, b7⟩ a3
    · exact absurd ⟨a3, a4, a5, a6, a7⟩ b3
    · have hV := (mb a1).v a7
      have e1 := (LT_far hV a3 a4 a6 a5 a8 a9 j).2
      have e2 := (LT_far hV a3 a4 a6 a5 b8 b9 k).2
      rw [Nat.add_comm] at e2
      exact LT_uniq hV _ _ _ _ _ a3 a4 e1 e2
end PU7
