/-! pure words: the search, a step at a time. w: letters, d: how deep, lk: looks, lg: longest kept -/
section PU4
abbrev SR : Type := Int × (Int → Int) × Int × Int × Int
noncomputable def sRun (kp : (Int → Int) → Int → Prop) (a n c : Int) : Nat → (Int → Int) → Int → Int → Int → Option SR
  | 0, _, _, _, _ => none
  | k + 1, w, d, lk, lg => if d ≤ 0 then some (0, w, d, lk, lg) else
    if w (d - 1) + 1 = a then sRun kp a n c k (ab_f w (d - 1) (w (d - 1) + 1)) (d - 1) lk lg else
    if 20000 < lk + c then some (-2, ab_f w (d - 1) (w (d - 1) + 1), d, lk, lg) else
    @ite _ (kp (ab_f w (d - 1) (w (d - 1) + 1)) d) (Classical.propDecidable _)
      (if d = n then some (1, ab_f w (d - 1) (w (d - 1) + 1), d, lk + c, if lg < d then d else lg) else sRun kp a n c k (ab_f (ab_f w (d - 1) (w (d - 1) + 1)) d (-1)) (d + 1) (lk + c) (if lg < d then d else lg))
      (sRun kp a n c k (ab_f w (d - 1) (w (d - 1) + 1)) d (lk + c) lg)
variable {kp : (Int → Int) → Int → Prop} {a n c : Int} {k : Nat} {w : Int → Int} {d lk lg : Int}
theorem sRun_over (h : d ≤ 0) : sRun kp a n c (k + 1) w d lk lg = some (0, w, d, lk, lg) := if_pos h
theorem sRun_back (h : ¬ d ≤ 0) (h1 : w (d - 1) + 1 = a) : sRun kp a n c (k + 1) w d lk lg = sRun kp a n c k (ab_f w (d - 1) (w (d - 1) + 1)) (d - 1) lk lg := (if_neg h).trans (if_pos h1)
theorem sRun_spent (h : ¬ d ≤ 0) (h1 : ¬ w (d - 1) + 1 = a) (h2 : 20000 < lk + c) : sRun kp a n c (k + 1) w d lk lg = some (-2, ab_f w (d - 1) (w (d - 1) + 1), d, lk, lg) := (if_neg h).trans ((if_neg h1).trans (if_pos h2))
theorem sRun_bar (h : ¬ d ≤ 0) (h1 : ¬ w (d - 1) + 1 = a) (h2 : ¬ 20000 < lk + c) (h3 : ¬ kp (ab_f w (d - 1) (w (d - 1) + 1)) d) : sRun kp a n c (k + 1) w d lk lg = sRun kp a n c k (ab_f w (d - 1) (w (d - 1) + 1)) d (lk + c) lg := (if_neg h).trans ((if_neg h1).trans ((if_neg h2).trans (if_neg h3)))
theorem sRun_found (h : ¬ d ≤ 0) (h1 : ¬ w (d - 1) + 1 = a) (h2 : ¬ 20000 < lk + c) (h3 : kp (ab_f w (d - 1) (w (d - 1) + 1)) d) (h4 : d = n) : sRun kp a n c (k + 1) w d lk lg = some (1, ab_f w (d - 1) (w (d - 1) + 1), d, lk + c, if lg < d then d else lg) := (if_neg h).trans ((if_neg h1).trans ((if_neg h2).trans ((if_pos h3).trans (if_pos h4))))
theorem sRun_deep (h : ¬ d ≤ 0) (h1 : ¬ w (d - 1) + 1 = a) (h2 : ¬ 20000 < lk + c) (h3 : kp (ab_f w (d - 1) (w (d - 1) + 1)) d) (h4 : ¬ d = n) : sRun kp a n c (k + 1) w d lk lg = sRun kp a n c k (ab_f (ab_f w (d - 1) (w (d - 1) + 1)) d (-1)) (d + 1) (lk + c) (if lg < d then d else lg) := (if_neg h).trans ((if_neg h1).trans ((if_neg h2).trans ((if_pos h3).trans (if_neg h4))))
theorem sRun_mono : ∀ (k : Nat) (w : Int → Int) (d lk lg : Int) (x : SR), sRun kp a n c k w d lk lg = some x → sRun kp a n c (k + 1) w d lk lg = some x
  | 0, _, _, _, _, _, h => by cases h
  | k + 1, w, d, lk, lg, x, h => by
    by_cases h0 : d ≤ 0
    · rw [sRun_over h0] at h ⊢
      exact h
    by_cases h1 : w (d - 1) + 1 = a
    · rw [sRun_back h0 h1] at h ⊢
      exact sRun_mono k _ _ _ _ x h
    by_cases h2 : 20000 < lk + c
    · rw [sRun_spent h0 h1 h2] at h ⊢
      exact h
    by_cases h3 : kp (ab_f w (d - 1) (w (d - 1) + 1)) d
    · by_cases h4 : d = n
      · rw [sRun_found h0 h1 h2 h3 h4] at h ⊢
        exact h
      · rw [sRun_deep h0 h1 h2 h3 h4] at h ⊢
        exact sRun_mono k _ _ _ _ x h
    · rw [sRun_bar h0 h1 h2 h3] at h ⊢
      exact sRun_mono k _ _ _ _ x h
theorem sRun_add (j : Nat) {x : SR} (h : sRun kp a n c k w d lk lg = some x) : sRun kp a n c (k + j) w d lk lg = some x := by
  induction j with
  | zero => exact h
  | succ j ih => exact sRun_mono _ _ _ _ _ x ih
theorem sRun_uniq {k j : Nat} {x y : SR} (h1 : sRun kp a n c k w d lk lg = some x) (h2 : sRun kp a n c j w d lk lg = some y) : x = y := by
  have e1 := sRun_add j h1
  have e2 := sRun_add k h2
  rw [Nat.add_comm] at e2
  exact Option.some.inj (e1.symm.trans e2)
/-- what holds of a search on its way -/
def sInv (a n : Int) (w : Int → Int) (d lk lg : Int) : Prop := 0 ≤ d ∧ d ≤ n ∧ (∀ j : Int, 0 ≤ j → j < d - 1 → 0 ≤ w j ∧ w j < a) ∧ (1 ≤ d → -1 ≤ w (d - 1) ∧ w (d - 1) < a) ∧ 0 ≤ lk ∧ lk ≤ 20000 ∧ 0 ≤ lg ∧ lg ≤ 60
/-- next: b: it has begun; o: 1 found, 0 over, -2 spent -/
def sNext (kp : (Int → Int) → Int → Prop) (a n c b : Int) (w : Int → Int) (d lk lg : Int) (x : SR) : Prop :=
  (b = 0 ∧ 20000 < lk + c ∧ x = (-2, w, d, lk, lg)) ∨
  (b = 0 ∧ ¬ 20000 < lk + c ∧ n = 0 ∧ x = (1, w, d, lk + c, lg)) ∨
  (b = 0 ∧ ¬ 20000 < lk + c ∧ n ≠ 0 ∧ ∃ k : Nat, sRun kp a n c k (ab_f w 0 (-1)) 1 (lk + c) lg = some x) ∨
  (b ≠ 0 ∧ n = 0 ∧ x = (0, w, d, lk, lg)) ∨
  (b ≠ 0 ∧ n ≠ 0 ∧ ∃ k : Nat, sRun kp a n c k w d lk lg = some x)
theorem sNext_uniq {b : Int} {x y : SR} (h1 : sNext kp a n c b w d lk lg x) (h2 : sNext kp a n c b w d lk lg y) : x = y := by
  rcases h1 with ⟨a1, a2, a3⟩ | ⟨a1, a2, a3, a4⟩ | ⟨a1, a2, a3, k, a4⟩ | ⟨a1, a2, a3⟩ | ⟨a1, a2, k, a3⟩ <;> rcases h2 with ⟨b1, b2, b3⟩ | ⟨b1, b2, b3, b4⟩ | ⟨b1, b2, b3, j, b4⟩ | ⟨b1, b2, b3⟩ | ⟨b1, b2, j, b3⟩ <;> first | exact a3.trans b3.symm | exact a4.trans b4.symm | exact sRun_uniq a4 b4 | exact sRun_uniq a3 b3 | (exfalso; omega)
/-- t words found one after another -/
def sChain (kp : (Int → Int) → Int → Prop) (a n c : Int) (w0 : Int → Int) (d0 lk0 lg0 : Int) : Nat → (Int → Int) → Int → Int → Int → Prop
  | 0, w, d, lk, lg => w = w0 ∧ d = d0 ∧ lk = lk0 ∧ lg = lg0
  | t + 1, w, d, lk, lg => ∃ (w1 : Int → Int) (d1 lk1 lg1 : Int), sChain kp a n c w0 d0 lk0 lg0 t w1 d1 lk1 lg1 ∧ sNext kp a n c (if t = 0 then 0 else 1) w1 d1 lk1 lg1 (1, w, d, lk, lg)
abbrev sB (t : Nat) : Int := if t = 0 then 0 else 1
theorem sChain_uniq {w0 : Int → Int} {d0 lk0 lg0 : Int} : ∀ (t : Nat) {w w' : Int → Int} {d d' lk lk' lg lg' : Int}, sChain kp a n c w0 d0 lk0 lg0 t w d lk lg → sChain kp a n c w0 d0 lk0 lg0 t w' d' lk' lg' → w = w' ∧ d = d' ∧ lk = lk' ∧ lg = lg'
  | 0, _, _, _, _, _, _, _, _, h1, h2 => ⟨h1.1.trans h2.1.symm, h1.2.1.trans h2.2.1.symm, h1.2.2.1.trans h2.2.2.1.symm, h1.2.2.2.trans h2.2.2.2.symm⟩
  | t + 1, _, _, _, _, _, _, _, _, ⟨w1, d1, lk1, lg1, h1, h2⟩, ⟨w2, d2, lk2, lg2, k1, k2⟩ => by
    obtain ⟨e1, e2, e3, e4⟩ := sChain_uniq t h1 k1
    subst e1 e2 e3 e4
    have e := sNext_uniq h2 k2
    simp only [Prod.mk.injEq] at e
    exact ⟨e.2.1, e.2.2.1, e.2.2.2.1, e.2.2.2.2⟩
/-- a search that ended: after t words, with o -/
def sEnd (kp : (Int → Int) → Int → Prop) (a n c : Int) (w0 : Int → Int) (d0 lk0 lg0 : Int) (t : Nat) (x : SR) : Prop := ∃ (w : Int → Int) (d lk lg : Int), sChain kp a n c w0 d0 lk0 lg0 t w d lk lg ∧ sNext kp a n c (sB t) w d lk lg x
theorem sChain_less {w0 : Int → Int} {d0 lk0 lg0 : Int} : ∀ (t : Nat) {w : Int → Int} {d lk lg : Int}, sChain kp a n c w0 d0 lk0 lg0 t w d lk lg → ∀ t' : Nat, t' < t → ∃ (w' : Int → Int) (d' lk' lg' : Int), sEnd kp a n c w0 d0 lk0 lg0 t' (1, w', d', lk', lg')
  | 0, _, _, _, _, _, _, h => absurd h (Nat.not_lt_zero _)
  | t + 1, w, d, lk, lg, ⟨w1, d1, lk1, lg1, h1, h2⟩, t', ht => by
    by_cases e : t' = t
    · subst e
      exact ⟨w, d, lk, lg, w1, d1, lk1, lg1, h1, h2⟩
    · exact sChain_less t h1 t' (by omega)
theorem sEnd_uniq {w0 : Int → Int} {d0 lk0 lg0 : Int} {t t' : Nat} {x y : SR} (h1 : sEnd kp a n c w0 d0 lk0 lg0 t x) (h2 : sEnd kp a n c w0 d0 lk0 lg0 t' y) (hx : x.1 ≠ 1) (hy : y.1 ≠ 1) : t = t' ∧ x = y := by
  have one : ∀ {t t' : Nat} {x y : SR}, sEnd kp a n c w0 d0 lk0 lg0 t x → sEnd kp a n c w0 d0 lk0 lg0 t' y → x.1 ≠ 1 → ¬ t < t' := by
    intro t t' x y h1 h2 hx ht
    obtain ⟨w, d, lk, lg, c1, c2⟩ := h1
    obtain ⟨w', d', lk', lg', c3, _⟩ := h2
    obtain ⟨w2, d2, lk2, lg2, w3, d3, lk3, lg3, c4, c5⟩ := sChain_less t' c3 t ht
    obtain ⟨e1, e2, e3, e4⟩ := sChain_uniq t c1 c4
    subst e1 e2 e3 e4
    rw [sNext_uniq c2 c5] at hx
    exact hx rfl
  have e : t = t' := by
    have g1 := one h1 h2 hx
    have g2 := one h2 h1 hy
    omega
  subst e
  refine ⟨rfl, ?_⟩
  obtain ⟨w, d, lk, lg, c1, c2⟩ := h1
  obtain ⟨w', d', lk', lg', c3, c4⟩ := h2
  obtain ⟨e1, e2, e3, e4⟩ := sChain_uniq t c1 c3
  subst e1 e2 e3 e4
  exact sNext_uniq c2 c4
/-- no square ends with letter d -/
def NS (w : Int → Int) (d : Int) : Prop := ∀ z : Int, 1 ≤ z → 2 * z ≤ d → ¬ isP w (d - 2 * z) d z
end PU4
