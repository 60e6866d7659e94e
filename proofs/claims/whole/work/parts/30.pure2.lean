/-! pure words: bars look at their own letters alone; kept, clashes -/
section PU2
theorem cntN_congr {f g : Int → Int} {c a : Int} : ∀ k : Nat, (∀ j : Int, a ≤ j → j < a + k → f j = g j) → cntN f c a k = cntN g c a k
  | 0, _ => rfl
  | k + 1, h => by
    show cntN f c a k + (if f (a + k) = c then 1 else 0) = cntN g c a k + (if g (a + k) = c then 1 else 0)
    rw [cntN_congr k (fun j j0 j1 => h j j0 (by omega)), h (a + k) (by omega) (by omega)]
theorem cnt_congr {f g : Int → Int} {c a n : Int} (h : ∀ j : Int, a ≤ j → j < a + n → f j = g j) : cnt f c a n = cnt g c a n := cntN_congr _ (fun j j0 j1 => h j j0 (by omega))
theorem difN_congr {f g : Int → Int} {a b : Int} : ∀ k : Nat, (∀ j : Int, a ≤ j → j < a + k → f j = g j) → (∀ j : Int, b ≤ j → j < b + k → f j = g j) → difN f a b k = difN g a b k
  | 0, _, _ => rfl
  | k + 1, h, h2 => by
    show difN f a b k + (if f (a + k) = f (b + k) then 0 else 1) = difN g a b k + (if g (a + k) = g (b + k) then 0 else 1)
    rw [difN_congr k (fun j j0 j1 => h j j0 (by omega)) (fun j j0 j1 => h2 j j0 (by omega)), h (a + k) (by omega) (by omega), h2 (b + k) (by omega) (by omega)]
theorem dif_congr {f g : Int → Int} {a b n : Int} (h : ∀ j : Int, a ≤ j → j < a + n → f j = g j) (h2 : ∀ j : Int, b ≤ j → j < b + n → f j = g j) : dif f a b n = dif g a b n := difN_congr _ (fun j j0 j1 => h j j0 (by omega)) (fun j j0 j1 => h2 j j0 (by omega))
theorem isP_congr {f g : Int → Int} {a b p : Int} (h : ∀ j : Int, a ≤ j → j < b → f j = g j) (hp : 0 ≤ p) (k : isP f a b p) : isP g a b p := fun i i0 i1 => by
  rw [← h i i0 (by omega), ← h (i + p) (by omega) i1]
  exact k i i0 i1
theorem Comes_congr {sh f g : Int → Int} {q n a b : Int} (h : ∀ j : Int, a ≤ j → j < b → f j = g j) (k : Comes sh q n f a b) : Comes sh q n g a b := by
  obtain ⟨z, z1, e1, e2⟩ := k
  refine ⟨z, z1, e1, fun k1 k2 a0 a1 b0 b1 e i i0 i1 => ?_⟩
  have gz : ∀ k : Int, 0 ≤ k → k < n → 1 ≤ z (sh (q + k)) := fun k _ _ => z1 _
  have p1 := pl_ge gz k1 a0 (by omega)
  have p2 := pl_ge gz k2 b0 (by omega)
  have p3 := pl_mono gz (j := k1 + 1) (by omega) n (by omega) (Int.le_refl _) (by omega)
  have p4 := pl_mono gz (j := k2 + 1) (by omega) n (by omega) (Int.le_refl _) (by omega)
  rw [pl_step a0] at p3
  rw [pl_step b0, ← e] at p4
  rw [← h _ (by omega) (by omega), ← h _ (by omega) (by omega)]
  exact e2 k1 k2 a0 a1 b0 b1 e i i0 i1
theorem Bar.congr {F : Nat → Int → Int} {q : Int} {f g : Int → Int} {a b : Int} (h : ∀ j : Int, a ≤ j → j < b → f j = g j) (k : Bar F q f a b) : Bar F q g a b := by
  rcases k with ⟨k, k1, k2⟩ | ⟨k, p, k1, k2, k3⟩ | ⟨k, p, k1, k2, k3⟩ | ⟨k, d, k1, k2⟩ | ⟨k, d, k1, k2⟩ | ⟨k, k1⟩
  · exact Or.inl ⟨k, k1, fun i i0 i1 => by rw [← h _ (by omega) (by omega)]; exact k2 i i0 i1⟩
  · exact Or.inr (Or.inl ⟨k, p, k1, isP_congr h (by omega) k2, k3⟩)
  · exact Or.inr (Or.inr (Or.inl ⟨k, p, k1, isP_congr h (by omega) k2, k3⟩))
  · refine Or.inr (Or.inr (Or.inr (Or.inl ⟨k, d, k1, ?_⟩)))
    rw [← dif_congr (f := f) (fun j j0 j1 => h j j0 (by omega)) (fun j j0 j1 => h j (by omega) (by omega))]
    exact k2
  · refine Or.inr (Or.inr (Or.inr (Or.inr (Or.inl ⟨k, d, k1, fun c c0 c1 => ?_⟩))))
    rw [← cnt_congr (f := f) (fun j j0 j1 => h j j0 (by omega)), ← cnt_congr (f := f) (a := a + d) (fun j j0 j1 => h j (by omega) (by omega))]
    exact k2 c c0 c1
  · exact Or.inr (Or.inr (Or.inr (Or.inr (Or.inr ⟨k, Comes_congr h k1⟩))))
/-- laws alike -/
def lawEq (F G : Nat → Int → Int) : Prop := F 8 = G 8 ∧ F 9 = G 9 ∧ F 10 = G 10 ∧ F 11 = G 11 ∧ F 12 = G 12
theorem lawEq.bar {F G : Nat → Int → Int} (h : lawEq F G) : Bar F = Bar G := by
  obtain ⟨h1, h2, h3, h4, h5⟩ := h
  unfold Bar
  rw [h1, h2, h3, h4, h5]
theorem lawEq.lawB {F G : Nat → Int → Int} (h : lawEq F G) : lawB F = lawB G := by
  obtain ⟨h1, h2, h3, h4, h5⟩ := h
  unfold Jvm.Pilot.CWordBenchLaw_law_r8870_334242.lawB
  rw [h1, h2, h3, h4, h5]
/-- the last of the first n letters makes no bar -/
def KL (F : Nat → Int → Int) (L e : Int) (f : Int → Int) (n : Int) : Prop := ∀ q : Int, 0 ≤ q → q < L → inS e q → ∀ a : Int, 0 ≤ a → a < n → ¬ Bar F q f a n
theorem KL.congr {F : Nat → Int → Int} {L e : Int} {f g : Int → Int} {n : Int} (h : ∀ j : Int, 0 ≤ j → j < n → f j = g j) (k : KL F L e f n) : KL F L e g n := fun q q0 q1 q2 a a0 a1 b => k q q0 q1 q2 a a0 a1 (Bar.congr (fun j j0 j1 => (h j (by omega) j1).symm) b)
/-- the first clash: its letters, its law, its span -/
def Cl (F : Nat → Int → Int) (L e : Int) (f : Int → Int) (n c q z : Int) : Prop := (c = -1 ∧ ∀ u : Int, 1 ≤ u → u ≤ n → KL F L e f u) ∨ (1 ≤ c ∧ c ≤ n ∧ (∀ u : Int, 1 ≤ u → u < c → KL F L e f u) ∧ 0 ≤ q ∧ q < L ∧ inS e q ∧ (∀ p : Int, 0 ≤ p → p < q → inS e p → ∀ a : Int, 0 ≤ a → a < c → ¬ Bar F p f a c) ∧ 1 ≤ z ∧ z ≤ c ∧ Bar F q f (c - z) c ∧ ∀ a : Int, c - z < a → a < c → ¬ Bar F q f a c)
theorem Cl.congr {F : Nat → Int → Int} {L e : Int} {f g : Int → Int} {n c q z : Int} (h : ∀ j : Int, 0 ≤ j → j < n → f j = g j) (k : Cl F L e f n c q z) : Cl F L e g n c q z := by
  rcases k with ⟨k1, k2⟩ | ⟨k1, k2, k3, k4, k5, k6, k7, k8, k9, k10, k11⟩
  · exact Or.inl ⟨k1, fun u u0 u1 => (k2 u u0 u1).congr (fun j j0 j1 => h j j0 (by omega))⟩
  · refine Or.inr ⟨k1, k2, fun u u0 u1 => (k3 u u0 u1).congr (fun j j0 j1 => h j j0 (by omega)), k4, k5, k6, fun p p0 p1 p2 a a0 a1 b => k7 p p0 p1 p2 a a0 a1 (b.congr (fun j j0 j1 => (h j (by omega) (by omega)).symm)), k8, k9, k10.congr (fun j j0 j1 => h j (by omega) (by omega)), fun a a0 a1 b => k11 a a0 a1 (b.congr (fun j j0 j1 => (h j (by omega) (by omega)).symm))⟩
theorem Cl.unique {F : Nat → Int → Int} {L e : Int} {f : Int → Int} {n c q z c' q' z' : Int} (h : Cl F L e f n c q z) (k : Cl F L e f n c' q' z') : c = c' ∧ (1 ≤ c → q = q' ∧ z = z') := by
  rcases h with ⟨h1, h2⟩ | ⟨h1, h2, h3, h4, h5, h6, h7, h8, h9, h10, h11⟩ <;> rcases k with ⟨k1, k2⟩ | ⟨k1, k2, k3, k4, k5, k6, k7, k8, k9, k10, k11⟩
  · exact ⟨by omega, fun e => absurd e (by omega)⟩
  · exact absurd k10 (h2 c' k1 k2 q' k4 k5 k6 _ (by omega) (by omega))
  · exact absurd h10 (k2 c h1 h2 q h4 h5 h6 _ (by omega) (by omega))
  · have ec : c = c' := by
      rcases Int.lt_trichotomy c c' with g | g | g
      · exact absurd h10 (k3 c h1 g q h4 h5 h6 _ (by omega) (by omega))
      · exact g
      · exact absurd k10 (h3 c' k1 g q' k4 k5 k6 _ (by omega) (by omega))
    subst ec
    have eq : q = q' := by
      rcases Int.lt_trichotomy q q' with g | g | g
      · exact absurd h10 (k7 q h4 g h6 _ (by omega) (by omega))
      · exact g
      · exact absurd k10 (h7 q' k4 g k6 _ (by omega) (by omega))
    subst eq
    refine ⟨rfl, fun _ => ⟨rfl, ?_⟩⟩
    rcases Int.lt_trichotomy z z' with g | g | g
    · exact absurd h10 (k11 _ (by omega) (by omega))
    · exact g
    · exact absurd k10 (h11 _ (by omega) (by omega))
end PU2
