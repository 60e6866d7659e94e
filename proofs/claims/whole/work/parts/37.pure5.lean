/-! pure words: looks grow; what the searching calls answer -/
section PU5
variable {kp : (Int → Int) → Int → Prop} {a n c : Int}
theorem sRun_lk (c0 : 0 ≤ c) : ∀ (k : Nat) (w : Int → Int) (d lk lg : Int) (o : Int) (w' : Int → Int) (d' lk' lg' : Int), sRun kp a n c k w d lk lg = some (o, w', d', lk', lg') → lk ≤ lk' ∧ (o = 1 → lk + c ≤ lk')
  | 0, _, _, _, _, _, _, _, _, _, h => by cases h
  | k + 1, w, d, lk, lg, o, w', d', lk', lg', h => by
    by_cases h0 : d ≤ 0
    · rw [sRun_over h0] at h
      simp only [Option.some.injEq, Prod.mk.injEq] at h
      obtain ⟨h1, -, -, h2, -⟩ := h
      exact ⟨by omega, fun e => absurd e (by omega)⟩
    by_cases h1 : w (d - 1) + 1 = a
    · rw [sRun_back h0 h1] at h
      exact sRun_lk c0 k _ _ _ _ _ _ _ _ _ h
    by_cases h2 : 20000 < lk + c
    · rw [sRun_spent h0 h1 h2] at h
      simp only [Option.some.injEq, Prod.mk.injEq] at h
      obtain ⟨h3, -, -, h4, -⟩ := h
      exact ⟨by omega, fun e => absurd e (by omega)⟩
    by_cases h3 : kp (ab_f w (d - 1) (w (d - 1) + 1)) d
    · by_cases h4 : d = n
      · rw [sRun_found h0 h1 h2 h3 h4] at h
        simp only [Option.some.injEq, Prod.mk.injEq] at h
        obtain ⟨h5, -, -, h6, -⟩ := h
        exact ⟨by omega, fun e => by omega⟩
      · rw [sRun_deep h0 h1 h2 h3 h4] at h
        have := sRun_lk c0 k _ _ _ _ _ _ _ _ _ h
        exact ⟨by omega, fun e => by omega⟩
    · rw [sRun_bar h0 h1 h2 h3] at h
      have := sRun_lk c0 k _ _ _ _ _ _ _ _ _ h
      exact ⟨by omega, fun e => by omega⟩
theorem sNext_lk (c0 : 0 ≤ c) {b : Int} {w : Int → Int} {d lk lg o : Int} {w' : Int → Int} {d' lk' lg' : Int} (h : sNext kp a n c b w d lk lg (o, w', d', lk', lg')) : lk ≤ lk' ∧ (o = 1 → lk + c ≤ lk') := by
  rcases h with ⟨a1, a2, a3⟩ | ⟨a1, a2, a3, a4⟩ | ⟨a1, a2, a3, k, a4⟩ | ⟨a1, a2, a3⟩ | ⟨a1, a2, k, a3⟩
  · simp only [Prod.mk.injEq] at a3
    exact ⟨by omega, fun e => by omega⟩
  · simp only [Prod.mk.injEq] at a4
    exact ⟨by omega, fun e => by omega⟩
  · have := sRun_lk c0 k _ _ _ _ _ _ _ _ _ a4
    exact ⟨by omega, fun e => by omega⟩
  · simp only [Prod.mk.injEq] at a3
    exact ⟨by omega, fun e => by omega⟩
  · exact sRun_lk c0 k _ _ _ _ _ _ _ _ _ a3
theorem sChain_lk (c0 : 0 ≤ c) {w0 : Int → Int} {d0 lk0 lg0 : Int} : ∀ (t : Nat) {w : Int → Int} {d lk lg : Int}, sChain kp a n c w0 d0 lk0 lg0 t w d lk lg → lk0 + c * t ≤ lk
  | 0, _, _, _, _, h => by
    have := h.2.2.1
    simp
    omega
  | t + 1, _, _, _, _, ⟨w1, d1, lk1, lg1, h1, h2⟩ => by
    have e1 := sChain_lk c0 t h1
    have e2 := (sNext_lk c0 h2).2 rfl
    rw [show ((t + 1 : Nat) : Int) = (t : Int) + 1 by omega, Int.mul_add]
    omega
theorem sEnd_fun {w0 : Int → Int} {d0 lk0 lg0 : Int} {t : Nat} {x y : SR} (h1 : sEnd kp a n c w0 d0 lk0 lg0 t x) (h2 : sEnd kp a n c w0 d0 lk0 lg0 t y) : x = y := by
  obtain ⟨w, d, lk, lg, c1, c2⟩ := h1
  obtain ⟨w', d', lk', lg', c3, c4⟩ := h2
  obtain ⟨e1, e2, e3, e4⟩ := sChain_uniq t c1 c3
  subst e1 e2 e3 e4
  exact sNext_uniq c2 c4
abbrev msOk (s : Nat → Int) (e a : Int) : Prop := setOk s e ∧ 1 ≤ a ∧ a ≤ 8
/-- a search by laws, of words of n letters; w0: what lies where the letters will -/
abbrev sFrom (s : Nat → Int) (F : Nat → Int → Int) (w0 : Int → Int) (e a n co : Int) (t : Nat) (x : SR) : Prop := costUp F e (s 7) co ∧ sEnd (KL F (s 7) e) a n co w0 0 0 0 t x
def manySp (s : Nat → Int) (F : Nat → Int → Int) (w0 : Int → Int) (e a n c r lk : Int) : Prop := (¬ (msOk s e a ∧ 0 ≤ n ∧ n ≤ 60) ∧ c = 1 ∧ r = 0 ∧ lk = s 23) ∨ (msOk s e a ∧ 0 ≤ n ∧ n ≤ 60 ∧ c = 0 ∧ ∃ (co : Int) (t : Nat) (x : SR), sFrom s F w0 e a n co t x ∧ x.1 ≠ 1 ∧ lk = x.2.2.2.1 ∧ ((x.1 = -2 ∧ r = -2) ∨ (x.1 ≠ -2 ∧ r = t)))
/-- g: what is written, if r is 1 -/
def findSp (s : Nat → Int) (F : Nat → Int → Int) (w0 : Int → Int) (e a n k x c r lk : Int) (g : Int → Int) : Prop := (¬ (msOk s e a ∧ 0 ≤ n ∧ n ≤ 60) ∧ c = 1 ∧ r = 0 ∧ lk = s 23) ∨ (msOk s e a ∧ 0 ≤ n ∧ n ≤ 60 ∧ ¬ (0 ≤ x ∧ x < s 1) ∧ c = 2 ∧ r = 0 ∧ lk = s 23) ∨ (msOk s e a ∧ 0 ≤ n ∧ n ≤ 60 ∧ 0 ≤ x ∧ x < s 1 ∧ c = 0 ∧ ((k < 0 ∧ r = 0 ∧ lk = s 23) ∨ (0 ≤ k ∧ ∃ (co : Int) (t : Nat) (y : SR), sFrom s F w0 e a n co t y ∧ lk = y.2.2.2.1 ∧ ((y.1 = 1 ∧ k = t ∧ r = 1 ∧ ∀ j : Int, 0 ≤ j → j < n → g j = y.2.1 j) ∨ (y.1 = -2 ∧ (t : Int) ≤ k ∧ r = -2) ∨ (y.1 ≠ 1 ∧ y.1 ≠ -2 ∧ (t : Int) ≤ k ∧ r = 0)))))
def alike (f g : Int → Int) (n : Int) : Prop := ∀ j : Int, 0 ≤ j → j < n → f j = g j
def rankSp (s : Nat → Int) (F : Nat → Int → Int) (w0 : Int → Int) (e a x k c r lk : Int) : Prop := (¬ msOk s e a ∧ c = 1 ∧ r = 0 ∧ lk = s 23) ∨ (msOk s e a ∧ ¬ isRow s x k ∧ c = 2 ∧ r = 0 ∧ lk = s 23) ∨ (msOk s e a ∧ isRow s x k ∧ c = 0 ∧ ((isRd F x k (-1) ∧ r = -1 ∧ lk = s 23) ∨ ∃ n : Int, 0 ≤ n ∧ isRd F x k n ∧ (((¬ ∀ j : Int, 0 ≤ j → j < n → rdL F x k j < a) ∧ r = -1 ∧ lk = s 23) ∨ ((∀ j : Int, 0 ≤ j → j < n → rdL F x k j < a) ∧ (¬ ∀ u : Int, 1 ≤ u → u ≤ n → KL F (s 7) e (rdL F x k) u) ∧ r = -1 ∧ lk = s 23) ∨ ((∀ j : Int, 0 ≤ j → j < n → rdL F x k j < a) ∧ (∀ u : Int, 1 ≤ u → u ≤ n → KL F (s 7) e (rdL F x k) u) ∧ ∃ (co : Int) (t : Nat) (y : SR), sFrom s F w0 e a n co t y ∧ lk = y.2.2.2.1 ∧ (∀ (t' : Nat) (z : SR), t' < t → sEnd (KL F (s 7) e) a n co w0 0 0 0 t' z → ¬ alike z.2.1 (rdL F x k) n) ∧ ((y.1 = 1 ∧ alike y.2.1 (rdL F x k) n ∧ r = t) ∨ (y.1 ≠ 1 ∧ r = -2))))))
def longSp (s : Nat → Int) (F : Nat → Int → Int) (w0 : Int → Int) (e a c r lk : Int) : Prop := (¬ msOk s e a ∧ c = 1 ∧ r = 0 ∧ lk = s 23) ∨ (msOk s e a ∧ c = 0 ∧ ∃ (co : Int) (x : SR), costUp F e (s 7) co ∧ sNext (KL F (s 7) e) a 60 co 0 w0 0 0 0 x ∧ lk = x.2.2.2.1 ∧ ((x.1 = 1 ∧ r = -1) ∨ (x.1 = -2 ∧ r = -2) ∨ (x.1 ≠ 1 ∧ x.1 ≠ -2 ∧ r = x.2.2.2.2)))
end PU5
