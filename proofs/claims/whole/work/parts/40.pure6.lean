/-! pure words: maps, images, what keeps answers -/
section PU6
/-- how long the word for letter x of map m is; its letters -/
abbrev mSz (F : Nat → Int → Int) (m : Int) : Int → Int := fun x => F 37 (8 * m + x)
abbrev mWd (F : Nat → Int → Int) (m : Int) : Int → Int → Int := fun x i => F 38 (20 * (8 * m + x) + i)
/-- a map as it may be -/
def mapB (F : Nat → Int → Int) (m : Int) : Prop := 1 ≤ F 36 m ∧ F 36 m ≤ 8 ∧ ∀ x : Int, 0 ≤ x → x < F 36 m → 1 ≤ mSz F m x ∧ mSz F m x ≤ 20 ∧ ∀ i : Int, 0 ≤ i → i < mSz F m x → 0 ≤ mWd F m x i ∧ mWd F m x i < F 36 m
/-- g is the image of the first n letters of f -/
def Img (sz : Int → Int) (wd : Int → Int → Int) (f : Int → Int) (n : Int) (g : Int → Int) : Prop := ∀ k : Int, 0 ≤ k → k < n → ∀ i : Int, 0 ≤ i → i < sz (f k) → g (pl sz f 0 k + i) = wd (f k) i
theorem pl0q {z sh : Int → Int} {k : Int} (hk : 0 ≤ k) : pl z sh 0 (k + 1) = pl z sh 0 k + z (sh k) := by
  rw [pl_step hk, Int.zero_add]
theorem pl_in {sz f : Int → Int} {n : Int} (hs : ∀ k : Int, 0 ≤ k → k < n → 1 ≤ sz (f k)) {p : Int} (p0 : 0 ≤ p) (h : p < pl sz f 0 n) (n0 : 0 ≤ n) : ∃ k i : Int, 0 ≤ k ∧ k < n ∧ 0 ≤ i ∧ i < sz (f k) ∧ p = pl sz f 0 k + i := by
  have key : ∀ j : Int, 0 ≤ j → j ≤ n → p < pl sz f 0 j → ∃ k i : Int, 0 ≤ k ∧ k < n ∧ 0 ≤ i ∧ i < sz (f k) ∧ p = pl sz f 0 k + i := by
    refine pl_ind (P := fun j => p < pl sz f 0 j → ∃ k i : Int, 0 ≤ k ∧ k < n ∧ 0 ≤ i ∧ i < sz (f k) ∧ p = pl sz f 0 k + i) (fun h => ?_) (fun k k0 k1 ih h => ?_)
    · rw [pl0] at h
      omega
    · by_cases e : p < pl sz f 0 k
      · exact ih e
      · rw [pl0q k0] at h
        exact ⟨k, p - pl sz f 0 k, k0, k1, by omega, by omega, by omega⟩
  exact key n n0 (Int.le_refl _) h
theorem Img_uniq {sz : Int → Int} {wd : Int → Int → Int} {f : Int → Int} {n : Int} {g g' : Int → Int} (hs : ∀ k : Int, 0 ≤ k → k < n → 1 ≤ sz (f k)) (n0 : 0 ≤ n) (h : Img sz wd f n g) (h' : Img sz wd f n g') : ∀ p : Int, 0 ≤ p → p < pl sz f 0 n → g p = g' p := by
  intro p p0 p1
  obtain ⟨k, i, k0, k1, i0, i1, e⟩ := pl_in hs p0 p1 n0
  rw [e, h k k0 k1 i i0 i1, h' k k0 k1 i i0 i1]
theorem pl_f_congr {sz f g : Int → Int} {n : Int} (h : ∀ k : Int, 0 ≤ k → k < n → f k = g k) : ∀ k : Int, 0 ≤ k → k ≤ n → pl sz f 0 k = pl sz g 0 k := pl_ind rfl (fun k k0 k1 e => by rw [pl0q k0, pl0q k0, e, h k k0 k1])
theorem Img_congr {sz : Int → Int} {wd : Int → Int → Int} {f f' : Int → Int} {n : Int} {g : Int → Int} (h : ∀ k : Int, 0 ≤ k → k < n → f k = f' k) (k : Img sz wd f n g) : Img sz wd f' n g := by
  intro q q0 q1 i i0 i1
  rw [← h q q0 q1, ← pl_f_congr h q q0 (by omega)]
  exact k q q0 q1 i i0 (by rw [h q q0 q1]; exact i1)
/-- no square in the first n letters -/
def NSq (g : Int → Int) (n : Int) : Prop := ∀ t : Int, 1 ≤ t → t ≤ n → NS g t
theorem NS_congr {f g : Int → Int} {d : Int} (h : ∀ j : Int, 0 ≤ j → j < d → f j = g j) (k : NS f d) : NS g d := fun z z0 z1 hp => k z z0 z1 (isP_congr (fun j j0 j1 => (h j (by omega) j1).symm) (by omega) hp)
theorem NSq_congr {f g : Int → Int} {n : Int} (h : ∀ j : Int, 0 ≤ j → j < n → f j = g j) (k : NSq f n) : NSq g n := fun t t0 t1 => NS_congr (fun j j0 j1 => h j j0 (by omega)) (k t t0 t1)
/-- the image of the first n letters of f has no square -/
def ImOk (sz : Int → Int) (wd : Int → Int → Int) (f : Int → Int) (n : Int) : Prop := ∀ g : Int → Int, Img sz wd f n g → NSq g (pl sz f 0 n)
theorem ImOk_of {sz : Int → Int} {wd : Int → Int → Int} {f : Int → Int} {n : Int} {g : Int → Int} (hs : ∀ k : Int, 0 ≤ k → k < n → 1 ≤ sz (f k)) (n0 : 0 ≤ n) (h : Img sz wd f n g) : ImOk sz wd f n ↔ NSq g (pl sz f 0 n) := ⟨fun k => k g h, fun k _ h' => NSq_congr (Img_uniq hs n0 h h') k⟩
theorem ImOk_congr {sz : Int → Int} {wd : Int → Int → Int} {f f' : Int → Int} {n : Int} (n0 : 0 ≤ n) (h : ∀ k : Int, 0 ≤ k → k < n → f k = f' k) (k : ImOk sz wd f n) : ImOk sz wd f' n := fun g hg => by
  rw [← pl_f_congr h n n0 (Int.le_refl _)]
  exact k g (Img_congr (fun j j0 j1 => (h j j0 j1).symm) hg)
/-- the letters that the look goes to -/
def kLast (F : Nat → Int → Int) (m last : Int) : Prop := ∃ mo fe : Int, (∀ x : Int, 0 ≤ x → x < F 36 m → mSz F m x ≤ mo ∧ fe ≤ mSz F m x) ∧ (∃ x : Int, 0 ≤ x ∧ x < F 36 m ∧ mSz F m x = mo) ∧ (∃ x : Int, 0 ≤ x ∧ x < F 36 m ∧ mSz F m x = fe) ∧ last = (if (if 3 < mo then 1 + (mo - 3 + fe - 1) / fe else 1) < 3 then 3 else (if 3 < mo then 1 + (mo - 3 + fe - 1) / fe else 1))
theorem kLast_uniq {F : Nat → Int → Int} {m l1 l2 : Int} (h1 : kLast F m l1) (h2 : kLast F m l2) : l1 = l2 := by
  obtain ⟨a, b, c1, ⟨x, x0, x1, x2⟩, ⟨y, y0, y1, y2⟩, e⟩ := h1
  obtain ⟨a', b', c1', ⟨x', x0', x1', x2'⟩, ⟨y', y0', y1', y2'⟩, e'⟩ := h2
  have q1 := c1 x' x0' x1'
  have q2 := c1' x x0 x1
  have q3 := c1 y' y0' y1'
  have q4 := c1' y y0 y1
  obtain rfl : a = a' := by omega
  obtain rfl : b = b' := by omega
  rw [e, e']
/-- a stage of keeps: words of n letters; t of them were good, then y -/
def kStage (sz : Int → Int) (wd : Int → Int → Int) (al n : Int) (w0 : Int → Int) (lk0 : Int) (t : Nat) (y : SR) : Prop := sEnd NS al n 1 w0 0 lk0 0 t y ∧ ∀ (t' : Nat) (z : SR), t' < t → sEnd NS al n 1 w0 0 lk0 0 t' z → ImOk sz wd z.2.1 n
/-- j stages are over, all good -/
def kPass (sz : Int → Int) (wd : Int → Int → Int) (al : Int) (w0 : Int → Int) : Nat → (Int → Int) → Int → Prop
  | 0, w, lk => w = w0 ∧ lk = 0
  | j + 1, w, lk => ∃ (w1 : Int → Int) (lk1 : Int) (t : Nat) (y : SR), kPass sz wd al w0 j w1 lk1 ∧ kStage sz wd al (j + 1) w1 lk1 t y ∧ y.1 = 0 ∧ w = y.2.1 ∧ lk = y.2.2.2.1
/-- how keeps ends: r 1 all good, 0 a failure y's word of n letters, -2 spent -/
def kEnd (sz : Int → Int) (wd : Int → Int → Int) (al last : Int) (w0 : Int → Int) (r lk n : Int) (g : Int → Int) : Prop :=
  (r = 1 ∧ n = 0 ∧ ∃ w : Int → Int, kPass sz wd al w0 last.toNat w lk) ∨
  ∃ (j : Nat) (w1 : Int → Int) (lk1 : Int) (t : Nat) (y : SR), (j : Int) < last ∧ n = j + 1 ∧ kPass sz wd al w0 j w1 lk1 ∧ kStage sz wd al (j + 1) w1 lk1 t y ∧ lk = y.2.2.2.1 ∧ ((r = 0 ∧ y.1 = 1 ∧ ¬ ImOk sz wd y.2.1 (j + 1) ∧ ∀ i : Int, 0 ≤ i → i < j + 1 → g i = y.2.1 i) ∨ (r = -2 ∧ y.1 = -2))
theorem kStage_uniq {sz : Int → Int} {wd : Int → Int → Int} {al n : Int} {w0 : Int → Int} {lk0 : Int} {t t' : Nat} {y y' : SR} (h : kStage sz wd al n w0 lk0 t y) (h' : kStage sz wd al n w0 lk0 t' y') (hy : y.1 ≠ 1 ∨ ¬ ImOk sz wd y.2.1 n) (hy' : y'.1 ≠ 1 ∨ ¬ ImOk sz wd y'.2.1 n) : t = t' ∧ y = y' := by
  have one : ∀ {t t' : Nat} {y y' : SR}, kStage sz wd al n w0 lk0 t y → kStage sz wd al n w0 lk0 t' y' → (y.1 ≠ 1 ∨ ¬ ImOk sz wd y.2.1 n) → ¬ t < t' := by
    intro t t' y y' h h' hy ht
    rcases hy with e | e
    · obtain ⟨w, d, lk, lg, c1, c2⟩ := h.1
      obtain ⟨w', d', lk', lg', c3, _⟩ := h'.1
      obtain ⟨w2, d2, lk2, lg2, c4⟩ := sChain_less t' c3 t ht
      rw [sEnd_fun h.1 c4] at e
      exact e rfl
    · exact e (h'.2 t y ht h.1)
  have e : t = t' := by
    have g1 := one h h' hy
    have g2 := one h' h hy'
    omega
  subst e
  exact ⟨rfl, sEnd_fun h.1 h'.1⟩
theorem kPass_uniq {sz : Int → Int} {wd : Int → Int → Int} {al : Int} {w0 : Int → Int} : ∀ (j : Nat) {w w' : Int → Int} {lk lk' : Int}, kPass sz wd al w0 j w lk → kPass sz wd al w0 j w' lk' → w = w' ∧ lk = lk'
  | 0, _, _, _, _, h, h' => ⟨h.1.trans h'.1.symm, h.2.trans h'.2.symm⟩
  | j + 1, _, _, _, _, ⟨w1, lk1, t, y, a1, a2, a3, a4, a5⟩, ⟨w1', lk1', t', y', b1, b2, b3, b4, b5⟩ => by
    obtain ⟨e1, e2⟩ := kPass_uniq j a1 b1
    subst e1 e2
    obtain ⟨-, e⟩ := kStage_uniq a2 b2 (Or.inl (by omega)) (Or.inl (by omega))
    subst e
    exact ⟨a4.trans b4.symm, a5.trans b5.symm⟩
theorem kPass_less {sz : Int → Int} {wd : Int → Int → Int} {al : Int} {w0 : Int → Int} : ∀ (k : Nat) {w : Int → Int} {lk : Int}, kPass sz wd al w0 k w lk → ∀ j : Nat, j < k → ∃ (w1 : Int → Int) (lk1 : Int) (t : Nat) (y : SR), kPass sz wd al w0 j w1 lk1 ∧ kStage sz wd al (j + 1) w1 lk1 t y ∧ y.1 = 0
  | 0, _, _, _, _, h => absurd h (Nat.not_lt_zero _)
  | k + 1, _, _, ⟨w1, lk1, t, y, a1, a2, a3, _⟩, j, hj => by
    by_cases e : j = k
    · subst e
      exact ⟨w1, lk1, t, y, a1, a2, a3⟩
    · exact kPass_less k a1 j (by omega)
theorem kEnd_uniq {sz : Int → Int} {wd : Int → Int → Int} {al last : Int} {w0 : Int → Int} {r lk n r' lk' n' : Int} {g g' : Int → Int} (l0 : 0 ≤ last) (h : kEnd sz wd al last w0 r lk n g) (h' : kEnd sz wd al last w0 r' lk' n' g') : r = r' ∧ lk = lk' ∧ n = n' ∧ (r = 0 → ∀ i : Int, 0 ≤ i → i < n → g i = g' i) := by
  have stop : ∀ {j : Nat} {w1 : Int → Int} {lk1 : Int} {t : Nat} {y : SR} {k : Nat} {w : Int → Int} {lk9 : Int}, kPass sz wd al w0 j w1 lk1 → kStage sz wd al (j + 1) w1 lk1 t y → (y.1 = 1 ∧ ¬ ImOk sz wd y.2.1 (j + 1) ∨ y.1 = -2) → kPass sz wd al w0 k w lk9 → ¬ j < k := by
    intro j w1 lk1 t y k w lk9 a1 a2 a3 a4 hj
    obtain ⟨w2, lk2, t2, y2, b1, b2, b3⟩ := kPass_less k a4 j hj
    obtain ⟨e1, e2⟩ := kPass_uniq j a1 b1
    subst e1 e2
    obtain ⟨-, e⟩ := kStage_uniq a2 b2 (by rcases a3 with a3 | a3; exact Or.inr a3.2; exact Or.inl (by omega)) (Or.inl (by omega))
    subst e
    omega
  rcases h with ⟨a1, a2, w, a3⟩ | ⟨j, w1, lk1, t, y, a1, a2, a3, a4, a5, a6⟩ <;> rcases h' with ⟨b1, b2, w', b3⟩ | ⟨j', w1', lk1', t', y', b1, b2, b3, b4, b5, b6⟩
  · exact ⟨by omega, (kPass_uniq _ a3 b3).2, by omega, fun e => by omega⟩
  · exact absurd (show j' < last.toNat by omega) (stop b3 b4 (by rcases b6 with b6 | b6; exact Or.inl ⟨b6.2.1, b6.2.2.1⟩; exact Or.inr b6.2) a3)
  · exact absurd (show j < last.toNat by omega) (stop a3 a4 (by rcases a6 with a6 | a6; exact Or.inl ⟨a6.2.1, a6.2.2.1⟩; exact Or.inr a6.2) b3)
  · have ha : y.1 = 1 ∧ ¬ ImOk sz wd y.2.1 (j + 1) ∨ y.1 = -2 := by rcases a6 with a6 | a6; exact Or.inl ⟨a6.2.1, a6.2.2.1⟩; exact Or.inr a6.2
    have hb : y'.1 = 1 ∧ ¬ ImOk sz wd y'.2.1 (j' + 1) ∨ y'.1 = -2 := by rcases b6 with b6 | b6; exact Or.inl ⟨b6.2.1, b6.2.2.1⟩; exact Or.inr b6.2
    have g1 := stop a3 a4 ha b3
    have g2 := stop b3 b4 hb a3
    obtain rfl : j = j' := by omega
    obtain ⟨e1, e2⟩ := kPass_uniq j a3 b3
    subst e1 e2
    obtain ⟨-, e⟩ := kStage_uniq a4 b4 (by rcases ha with a | a; exact Or.inr a.2; exact Or.inl (by omega)) (by rcases hb with a | a; exact Or.inr a.2; exact Or.inl (by omega))
    subst e
    refine ⟨by omega, by omega, by omega, fun e i i0 i1 => ?_⟩
    rcases a6 with a6 | a6
    · rcases b6 with b6 | b6
      · rw [a6.2.2.2 i i0 (by omega), b6.2.2.2 i i0 (by omega)]
      · omega
    · omega
end PU6
