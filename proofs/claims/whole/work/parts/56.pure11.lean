/-! pure words: the class's search beside the reference's -/
section PU11
def sI (F : Nat → Int → Int) (G e al n : Int) (f9 : Int → Int) (sz nx : Int) (w : Int → Int) (d lk lg : Int) : Prop := d = sz + 1 ∧ 0 ≤ sz ∧ sz < n ∧ n ≤ 60 ∧ 0 ≤ nx ∧ nx ≤ al ∧ w sz = nx - 1 ∧ (∀ j : Int, 0 ≤ j → j < sz → w j = f9 j ∧ 0 ≤ f9 j ∧ f9 j < al) ∧ (∀ u : Int, 1 ≤ u → u ≤ sz → KL F G e f9 u) ∧ 0 ≤ lk ∧ lk ≤ 20000 ∧ 0 ≤ lg ∧ lg ≤ 60
def sStep (F : Nat → Int → Int) (G e al n co : Int) (w : Int → Int) (d lk lg : Int) (w' : Int → Int) (d' lk' lg' : Int) : Prop := ∀ (k : Nat) (x : SR), sRun (KL F G e) al n co k w' d' lk' lg' = some x → sRun (KL F G e) al n co (k + 1) w d lk lg = some x
/-- a word is in the row -/
def sFd (F : Nat → Int → Int) (G e al n : Int) (f w : Int → Int) : Prop := (∀ j : Int, 0 ≤ j → j < n → f j = w j ∧ 0 ≤ f j ∧ f j < al) ∧ ∀ u : Int, 1 ≤ u → u ≤ n → KL F G e f u
variable {F : Nat → Int → Int} {G e al n co : Int} {f9 : Int → Int} {sz nx : Int} {w : Int → Int} {d lk lg : Int}
theorem sI.pos (h : sI F G e al n f9 sz nx w d lk lg) : ¬ d ≤ 0 ∧ w (d - 1) + 1 = nx := by
  obtain ⟨h1, h2, h3, h4, h5, h6, h7, _⟩ := h
  rw [show d - 1 = sz by omega, h7]
  omega
theorem sI.same (h : sI F G e al n f9 sz nx w d lk lg) : (∀ u : Int, 1 ≤ u → u ≤ sz → KL F G e (ab_f f9 sz nx) u) ∧ (∀ j : Int, 0 ≤ j → j < sz + 1 → ab_f w (d - 1) nx j = ab_f f9 sz nx j) := by
  obtain ⟨h1, h2, h3, h4, h5, h6, h7, h8, h9, _⟩ := h
  refine ⟨fun u u0 u1 => (h9 u u0 u1).congr (fun j j0 j1 => (ab_f_ne (by omega)).symm), fun j j0 j1 => ?_⟩
  by_cases g : j = sz
  · rw [ab_f_eq g, ab_f_eq (by omega)]
  · rw [ab_f_ne g, ab_f_ne (by omega)]
    exact (h8 j j0 (by omega)).1
theorem sI.keq (h : sI F G e al n f9 sz nx w d lk lg) : KL F G e (ab_f w (d - 1) (w (d - 1) + 1)) d ↔ KL F G e (ab_f f9 sz nx) (sz + 1) := by
  have hp := h.pos
  have hs := h.same.2
  rw [hp.2, h.1] at *
  exact ⟨fun k => k.congr hs, fun k => k.congr (fun j j0 j1 => (hs j j0 j1).symm)⟩
theorem sI.bar (h : sI F G e al n f9 sz nx w d lk lg) (hx : nx < al) (c0 : 1 ≤ co) (hl : ¬ 20000 < lk + co) (hk : ¬ KL F G e (ab_f f9 sz nx) (sz + 1)) : sI F G e al n (ab_f f9 sz nx) sz (nx + 1) (ab_f w (d - 1) nx) d (lk + co) lg ∧ sStep F G e al n co w d lk lg (ab_f w (d - 1) nx) d (lk + co) lg := by
  have hp := h.pos
  have ke := h.keq
  have sa := h.same
  refine ⟨?_, fun k x hr => ?_⟩
  · obtain ⟨h1, h2, h3, h4, h5, h6, h7, h8, h9, h10, h11, h12, h13⟩ := h
    refine ⟨h1, h2, h3, h4, by omega, by omega, by rw [ab_f_eq (by omega)]; omega, fun j j0 j1 => ?_, sa.1, by omega, by omega, h12, h13⟩
    rw [sa.2 j j0 (by omega), ab_f_ne (by omega)]
    exact ⟨rfl, (h8 j j0 j1).2⟩
  · rw [sRun_bar hp.1 (by omega) hl (fun k => hk (ke.mp k)), hp.2]
    exact hr
theorem sI.deep (h : sI F G e al n f9 sz nx w d lk lg) (hx : nx < al) (c0 : 1 ≤ co) (hl : ¬ 20000 < lk + co) (hk : KL F G e (ab_f f9 sz nx) (sz + 1)) (hn : sz + 1 < n) : sI F G e al n (ab_f f9 sz nx) (sz + 1) 0 (ab_f (ab_f w (d - 1) nx) d (-1)) (d + 1) (lk + co) (if lg < sz + 1 then sz + 1 else lg) ∧ sStep F G e al n co w d lk lg (ab_f (ab_f w (d - 1) nx) d (-1)) (d + 1) (lk + co) (if lg < sz + 1 then sz + 1 else lg) := by
  have hp := h.pos
  have ke := h.keq
  have sa := h.same
  have h1 := h.1
  refine ⟨?_, fun k x hr => ?_⟩
  · obtain ⟨h1, h2, h3, h4, h5, h6, h7, h8, h9, h10, h11, h12, h13⟩ := h
    refine ⟨by omega, by omega, hn, h4, by omega, by omega, by rw [ab_f_eq (by omega)]; omega, fun j j0 j1 => ?_, fun u u0 u1 => ?_, by omega, by omega, by split <;> omega, by split <;> omega⟩
    · rw [ab_f_ne (show ¬ j = d by omega), sa.2 j j0 j1]
      refine ⟨rfl, ?_⟩
      by_cases g : j = sz
      · rw [ab_f_eq g]; omega
      · rw [ab_f_ne g]; exact (h8 j j0 (by omega)).2
    · by_cases g : u = sz + 1
      · rw [g]; exact hk
      · exact sa.1 u u0 (by omega)
  · rw [sRun_deep hp.1 (by omega) hl (ke.mpr hk) (by omega), hp.2, h1]
    rw [h1] at hr
    exact hr
theorem sI.found (h : sI F G e al n f9 sz nx w d lk lg) (hx : nx < al) (c0 : 1 ≤ co) (hl : ¬ 20000 < lk + co) (hk : KL F G e (ab_f f9 sz nx) (sz + 1)) (hn : n ≤ sz + 1) : sI F G e al n (ab_f f9 sz nx) sz (nx + 1) (ab_f w (d - 1) nx) d (lk + co) (if lg < sz + 1 then sz + 1 else lg) ∧ sRun (KL F G e) al n co 1 w d lk lg = some (1, ab_f w (d - 1) nx, d, lk + co, if lg < sz + 1 then sz + 1 else lg) ∧ sFd F G e al n (ab_f f9 sz nx) (ab_f w (d - 1) nx) := by
  have hp := h.pos
  have ke := h.keq
  have sa := h.same
  have h1 := h.1
  have h3 := h.2.2.1
  refine ⟨?_, ?_, ?_, ?_⟩
  · obtain ⟨h1, h2, h3, h4, h5, h6, h7, h8, h9, h10, h11, h12, h13⟩ := h
    refine ⟨h1, h2, h3, h4, by omega, by omega, by rw [ab_f_eq (by omega)]; omega, fun j j0 j1 => ?_, sa.1, by omega, by omega, by split <;> omega, by split <;> omega⟩
    rw [sa.2 j j0 (by omega), ab_f_ne (by omega)]
    exact ⟨rfl, (h8 j j0 j1).2⟩
  · rw [sRun_found hp.1 (by omega) hl (ke.mpr hk) (by omega), hp.2, h1]
  · intro j j0 j1
    refine ⟨(sa.2 j j0 (by omega)).symm, ?_⟩
    by_cases g : j = sz
    · rw [ab_f_eq g]
      have := h.2.2.2.2.1
      omega
    · rw [ab_f_ne g]
      exact (h.2.2.2.2.2.2.2.1 j j0 (by omega)).2
  · intro u u0 u1
    by_cases g : u = sz + 1
    · rw [g]; exact hk
    · exact sa.1 u u0 (by omega)
theorem sI.back (h : sI F G e al n f9 sz nx w d lk lg) (hx : nx = al) (hz : 0 < sz) : sI F G e al n f9 (sz - 1) (f9 (sz - 1) + 1) (ab_f w (d - 1) al) (d - 1) lk lg ∧ sStep F G e al n co w d lk lg (ab_f w (d - 1) al) (d - 1) lk lg := by
  have hp := h.pos
  refine ⟨?_, fun k x hr => ?_⟩
  · obtain ⟨h1, h2, h3, h4, h5, h6, h7, h8, h9, h10, h11, h12, h13⟩ := h
    have q := h8 (sz - 1) (by omega) (by omega)
    refine ⟨by omega, by omega, by omega, h4, by omega, by omega, by rw [ab_f_ne (by omega)]; omega, fun j j0 j1 => ?_, fun u u0 u1 => h9 u u0 (by omega), h10, h11, h12, h13⟩
    rw [ab_f_ne (by omega)]
    exact h8 j j0 (by omega)
  · rw [sRun_back hp.1 (by omega), hp.2, hx]
    exact hr
theorem sI.over (h : sI F G e al n f9 sz nx w d lk lg) (hx : nx = al) (hz : sz ≤ 0) : sRun (KL F G e) al n co 2 w d lk lg = some (0, ab_f w (d - 1) al, d - 1, lk, lg) := by
  have hp := h.pos
  have h1 := h.1
  have h2 := h.2.1
  rw [sRun_back hp.1 (by omega), sRun_over (by omega), hp.2, hx]
theorem sI.spent (h : sI F G e al n f9 sz nx w d lk lg) (hx : nx < al) (hl : 20000 < lk + co) : sRun (KL F G e) al n co 1 w d lk lg = some (-2, ab_f w (d - 1) nx, d, lk, lg) := by
  have hp := h.pos
  rw [sRun_spent hp.1 (by omega) hl, hp.2]
/-- how the class's search stands -/
def sS (F : Nat → Int → Int) (G e al n bg : Int) (f9 : Int → Int) (sz nx : Int) (w : Int → Int) (d lk lg : Int) : Prop := (bg = 0 ∧ sz = 0 ∧ nx = 0 ∧ 0 ≤ lk ∧ lk ≤ 20000 ∧ 0 ≤ lg ∧ lg ≤ 60) ∨ (bg = 1 ∧ n = 0 ∧ sz = 0 ∧ nx = al ∧ 0 ≤ lk ∧ lk ≤ 20000 ∧ 0 ≤ lg ∧ lg ≤ 60) ∨ (bg = 1 ∧ n ≠ 0 ∧ sI F G e al n f9 sz nx w d lk lg)
theorem sI.start {c : Int} (n0 : 1 ≤ n) (n6 : n ≤ 60) (a1 : 1 ≤ al) (l0 : 0 ≤ lk) (l1 : lk + c ≤ 20000) (c0 : 0 ≤ c) (g0 : 0 ≤ lg) (g1 : lg ≤ 60) : sI F G e al n f9 0 0 (ab_f w 0 (-1)) 1 (lk + c) lg := ⟨by omega, by omega, by omega, n6, by omega, by omega, by rw [ab_f_eq rfl]; omega, fun j j0 j1 => absurd j1 (by omega), fun u u0 u1 => absurd u1 (by omega), by omega, by omega, g0, g1⟩
end PU11
