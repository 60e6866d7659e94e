/-! pure words: a search that is over has found all; squares by the law of squares; failures -/
section PU13
theorem Bar_sq {f : Int → Int} {a d : Int} : Bar Fsq 0 f a d ↔ ∃ p : Int, 1 ≤ p ∧ isP f a d p ∧ 2 * p ≤ d - a := by
  have e8 : Fsq 8 0 = 1 := rfl
  have e9 : Fsq 9 0 = 2 := rfl
  have e10 : Fsq 10 0 = 1 := rfl
  rw [Bar_pw (al := 0) (Or.inl ⟨e8, rfl⟩), e9, e10]
  constructor
  · rintro ⟨p, p1, p2, p3⟩
    exact ⟨p, p1, p2, by omega⟩
  · rintro ⟨p, p1, p2, p3⟩
    exact ⟨p, p1, p2, by omega⟩
theorem KLsq : KL Fsq 1 1 = NS := by
  funext f d
  apply propext
  constructor
  · intro k z z0 z1 hp
    exact k 0 (by omega) (by omega) (by unfold inS; decide) (d - 2 * z) (by omega) (by omega) (Bar_sq.mpr ⟨z, z0, hp, by omega⟩)
  · intro k q q0 q1 _ a a0 a1 hb
    obtain rfl : q = 0 := by omega
    obtain ⟨p, p1, p2, p3⟩ := Bar_sq.mp hb
    exact k p p1 (by omega) (fun i i0 i1 => p2 i (by omega) i1)
theorem lawB_sq : ∀ q : Int, 0 ≤ q → q < 1 → lawB Fsq q := fun q q0 q1 => Or.inr (Or.inl ⟨rfl, show (1 : Int) ≤ 1 by decide, show (1 : Int) < 2 by decide, show (2 : Int) ≤ 30 by decide⟩)
/-- ahead of where the search stands -/
def bef (u w : Int → Int) (d : Int) : Prop := d ≤ 0 ∨ ∃ j : Int, 0 ≤ j ∧ j < d ∧ (∀ i : Int, 0 ≤ i → i < j → u i = w i) ∧ ((j < d - 1 ∧ u j < w j) ∨ (j = d - 1 ∧ u j ≤ w j))
def kpC (kp : (Int → Int) → Int → Prop) : Prop := ∀ (f g : Int → Int) (d : Int), (∀ j : Int, 0 ≤ j → j < d → f j = g j) → kp f d → kp g d
def kWord (kp : (Int → Int) → Int → Prop) (a n : Int) (u : Int → Int) : Prop := (∀ j : Int, 0 ≤ j → j < n → 0 ≤ u j ∧ u j < a) ∧ ∀ e : Int, 1 ≤ e → e ≤ n → kp u e
variable {kp : (Int → Int) → Int → Prop} {a n c : Int}
theorem sRun_all (hC : kpC kp) : ∀ (k : Nat) (w : Int → Int) (d lk lg : Int) (o : Int) (w' : Int → Int) (d' lk' lg' : Int), d ≤ n → sRun kp a n c k w d lk lg = some (o, w', d', lk', lg') → ∀ u : Int → Int, kWord kp a n u → (o = 1 → bef u w' d' → bef u w d ∨ ∀ j : Int, 0 ≤ j → j < n → u j = w' j) ∧ (o = 0 → bef u w d)
  | 0, w, d, lk, lg, o, w', d', lk', lg', _, h => by cases h
  | k + 1, w, d, lk, lg, o, w', d', lk', lg', hdn, h => by
    intro u hu
    by_cases h1 : d ≤ 0
    · rw [sRun_over h1] at h
      cases h
      exact ⟨fun e => absurd e (by decide), fun _ => Or.inl h1⟩
    · by_cases h2 : w (d - 1) + 1 = a
      · rw [sRun_back h1 h2] at h
        have ih := sRun_all hC k _ _ _ _ _ _ _ _ _ (by omega) h u hu
        have key : bef u (ab_f w (d - 1) (w (d - 1) + 1)) (d - 1) → bef u w d := by
          intro b
          have ua := hu.1 (d - 1) (by omega) (by omega)
          rcases b with b | ⟨j, j0, j1, j2, j3⟩
          · exact Or.inr ⟨d - 1, by omega, by omega, fun i i0 i1 => by omega, Or.inr ⟨rfl, by omega⟩⟩
          · have j2' : ∀ i : Int, 0 ≤ i → i < j → u i = w i := fun i i0 i1 => by have := j2 i i0 i1; rw [ab_f_ne (by omega)] at this; exact this
            rw [ab_f_ne (by omega)] at j3
            by_cases g : u j < w j
            · exact Or.inr ⟨j, j0, by omega, j2', Or.inl ⟨by omega, g⟩⟩
            · refine Or.inr ⟨d - 1, by omega, by omega, fun i i0 i1 => ?_, Or.inr ⟨rfl, by omega⟩⟩
              by_cases e : i = j
              · rw [e]; omega
              · exact j2' i i0 (by omega)
        refine ⟨fun e b => ?_, fun e => key (ih.2 e)⟩
        rcases ih.1 e b with q | q
        · exact Or.inl (key q)
        · exact Or.inr q
      · by_cases h3 : 20000 < lk + c
        · rw [sRun_spent h1 h2 h3] at h
          cases h
          exact ⟨fun e => absurd e (by decide), fun e => absurd e (by decide)⟩
        · -- words with the new letter, and those ahead
          have near : ∀ u : Int → Int, bef u (ab_f w (d - 1) (w (d - 1) + 1)) d → bef u w d ∨ ∀ j : Int, 0 ≤ j → j < d → u j = ab_f w (d - 1) (w (d - 1) + 1) j := by
            intro u b
            rcases b with b | ⟨j, j0, j1, j2, j3⟩
            · exact absurd b h1
            · have j2' : ∀ i : Int, 0 ≤ i → i < j → u i = w i := fun i i0 i1 => by have := j2 i i0 i1; rw [ab_f_ne (by omega)] at this; exact this
              rcases j3 with ⟨g1, g2⟩ | ⟨g1, g2⟩
              · rw [ab_f_ne (by omega)] at g2
                exact Or.inl (Or.inr ⟨j, j0, j1, j2', Or.inl ⟨g1, g2⟩⟩)
              · rw [ab_f_eq g1] at g2
                by_cases g : u j ≤ w j
                · exact Or.inl (Or.inr ⟨j, j0, j1, j2', Or.inr ⟨g1, g⟩⟩)
                · refine Or.inr (fun i i0 i1 => ?_)
                  by_cases e : i = d - 1
                  · rw [ab_f_eq e, e, ← g1]; rw [← g1] at g2; omega
                  · rw [ab_f_ne e]; exact j2' i i0 (by omega)
          by_cases h4 : kp (ab_f w (d - 1) (w (d - 1) + 1)) d
          · by_cases h5 : d = n
            · rw [sRun_found h1 h2 h3 h4 h5] at h
              cases h
              refine ⟨fun _ b => ?_, fun e => absurd e (by decide)⟩
              rcases near u b with q | q
              · exact Or.inl q
              · exact Or.inr (fun j j0 j1 => q j j0 (by omega))
            · rw [sRun_deep h1 h2 h3 h4 h5] at h
              have ih := sRun_all hC k _ _ _ _ _ _ _ _ _ (by omega) h u hu
              have key : bef u (ab_f (ab_f w (d - 1) (w (d - 1) + 1)) d (-1)) (d + 1) → bef u w d := by
                intro b
                rcases b with b | ⟨j, j0, j1, j2, j3⟩
                · omega
                · have j2' : ∀ i : Int, 0 ≤ i → i < j → i < d → u i = ab_f w (d - 1) (w (d - 1) + 1) i := fun i i0 i1 i2 => by have := j2 i i0 i1; rw [ab_f_ne (show ¬ i = d by omega)] at this; exact this
                  rcases j3 with ⟨g1, g2⟩ | ⟨g1, g2⟩
                  · rw [ab_f_ne (show ¬ j = d by omega)] at g2
                    have j4 : ∀ i : Int, 0 ≤ i → i < j → u i = w i := fun i i0 i1 => by have := j2' i i0 i1 (by omega); rw [ab_f_ne (by omega)] at this; exact this
                    by_cases e : j = d - 1
                    · rw [ab_f_eq e] at g2
                      exact Or.inr ⟨j, j0, by omega, j4, Or.inr ⟨e, by rw [e]; rw [e] at g2; omega⟩⟩
                    · rw [ab_f_ne e] at g2
                      exact Or.inr ⟨j, j0, by omega, j4, Or.inl ⟨by omega, g2⟩⟩
                  · rw [ab_f_eq (by omega)] at g2
                    have := hu.1 j j0 (by omega)
                    omega
              refine ⟨fun e b => ?_, fun e => key (ih.2 e)⟩
              rcases ih.1 e b with q | q
              · exact Or.inl (key q)
              · exact Or.inr q
          · rw [sRun_bar h1 h2 h3 h4] at h
            have ih := sRun_all hC k _ _ _ _ _ _ _ _ _ hdn h u hu
            have key : bef u (ab_f w (d - 1) (w (d - 1) + 1)) d → bef u w d := by
              intro b
              rcases near u b with q | q
              · exact q
              · exact absurd (hC _ _ d q (hu.2 d (by omega) hdn)) h4
            refine ⟨fun e b => ?_, fun e => key (ih.2 e)⟩
            rcases ih.1 e b with q | q
            · exact Or.inl (key q)
            · exact Or.inr q
theorem sRun_d : ∀ (k : Nat) (w : Int → Int) (d lk lg : Int) (o : Int) (w' : Int → Int) (d' lk' lg' : Int), d ≤ n → sRun kp a n c k w d lk lg = some (o, w', d', lk', lg') → d' ≤ n
  | 0, _, _, _, _, _, _, _, _, _, _, h => by cases h
  | k + 1, w, d, lk, lg, o, w', d', lk', lg', hdn, h => by
    by_cases h1 : d ≤ 0
    · rw [sRun_over h1] at h; cases h; exact hdn
    · by_cases h2 : w (d - 1) + 1 = a
      · rw [sRun_back h1 h2] at h; exact sRun_d k _ _ _ _ _ _ _ _ _ (by omega) h
      · by_cases h3 : 20000 < lk + c
        · rw [sRun_spent h1 h2 h3] at h; cases h; exact hdn
        · by_cases h4 : kp (ab_f w (d - 1) (w (d - 1) + 1)) d
          · by_cases h5 : d = n
            · rw [sRun_found h1 h2 h3 h4 h5] at h; cases h; exact hdn
            · rw [sRun_deep h1 h2 h3 h4 h5] at h; exact sRun_d k _ _ _ _ _ _ _ _ _ (by omega) h
          · rw [sRun_bar h1 h2 h3 h4] at h; exact sRun_d k _ _ _ _ _ _ _ _ _ hdn h
theorem sChain_all (hC : kpC kp) (n1 : 1 ≤ n) {w0 : Int → Int} {lk0 : Int} : ∀ (t : Nat) {w : Int → Int} {d lk lg : Int}, sChain kp a n c w0 0 lk0 0 (t + 1) w d lk lg → d ≤ n ∧ ∀ u : Int → Int, kWord kp a n u → bef u w d → ∃ (t' : Nat) (z : SR), t' < t + 1 ∧ sEnd kp a n c w0 0 lk0 0 t' z ∧ ∀ j : Int, 0 ≤ j → j < n → u j = z.2.1 j
  | 0, w, d, lk, lg, h => by
    have h0 := h
    obtain ⟨w1, d1, lk1, lg1, ⟨rfl, rfl, rfl, rfl⟩, hN⟩ := h
    have hE : sEnd kp a n c w1 0 lk1 0 0 (1, w, d, lk, lg) := ⟨w1, 0, lk1, 0, ⟨rfl, rfl, rfl, rfl⟩, hN⟩
    rcases hN with ⟨_, _, e⟩ | ⟨_, _, e, _⟩ | ⟨_, _, _, k, hr⟩ | ⟨e, _⟩ | ⟨e, _⟩
    · cases e
    · omega
    · refine ⟨sRun_d k _ _ _ _ _ _ _ _ _ n1 hr, fun u hu b => ?_⟩
      rcases (sRun_all hC k _ _ _ _ _ _ _ _ _ n1 hr u hu).1 rfl b with q | q
      · rcases q with q | ⟨j, j0, j1, _, j3⟩
        · omega
        · obtain rfl : j = 0 := by omega
          rw [ab_f_eq rfl] at j3
          have := hu.1 0 (by omega) (by omega)
          omega
      · exact ⟨0, _, Nat.lt_succ_self _, hE, q⟩
    · exact absurd rfl e
    · exact absurd rfl e
  | t + 1, w, d, lk, lg, h => by
    obtain ⟨w1, d1, lk1, lg1, hC1, hN⟩ := h
    have hE : sEnd kp a n c w0 0 lk0 0 (t + 1) (1, w, d, lk, lg) := ⟨w1, d1, lk1, lg1, hC1, hN⟩
    obtain ⟨hd1, ih⟩ := sChain_all hC n1 t hC1
    rw [if_neg (by omega)] at hN
    rcases hN with ⟨e, _⟩ | ⟨e, _⟩ | ⟨e, _⟩ | ⟨_, e, _⟩ | ⟨_, _, k, hr⟩
    · exact absurd e (by decide)
    · exact absurd e (by decide)
    · exact absurd e (by decide)
    · omega
    · refine ⟨sRun_d k _ _ _ _ _ _ _ _ _ hd1 hr, fun u hu b => ?_⟩
      rcases (sRun_all hC k _ _ _ _ _ _ _ _ _ hd1 hr u hu).1 rfl b with q | q
      · obtain ⟨t', z, a1, a2, a3⟩ := ih u hu q
        exact ⟨t', z, by omega, a2, a3⟩
      · exact ⟨t + 1, _, by omega, hE, q⟩
/-- all words that are kept were found -/
theorem sEnd_all (hC : kpC kp) (n1 : 1 ≤ n) {w0 : Int → Int} {lk0 : Int} {t : Nat} {y : SR} (h : sEnd kp a n c w0 0 lk0 0 t y) (hy : y.1 = 0) (u : Int → Int) (hu : kWord kp a n u) : ∃ (t' : Nat) (z : SR), t' < t ∧ sEnd kp a n c w0 0 lk0 0 t' z ∧ ∀ j : Int, 0 ≤ j → j < n → u j = z.2.1 j := by
  obtain ⟨w, d, lk, lg, hCh, hN⟩ := h
  obtain ⟨o, w', d', lk', lg'⟩ := y
  have ho : o = 0 := hy
  cases t with
  | zero =>
    obtain ⟨rfl, rfl, rfl, rfl⟩ := hCh
    rcases hN with ⟨_, _, e⟩ | ⟨_, _, e, _⟩ | ⟨_, _, _, k, hr⟩ | ⟨e, _⟩ | ⟨e, _⟩
    · cases e; omega
    · omega
    · rcases (sRun_all hC k _ _ _ _ _ _ _ _ _ n1 hr u hu).2 ho with q | ⟨j, j0, j1, _, j3⟩
      · omega
      · obtain rfl : j = 0 := by omega
        rw [ab_f_eq rfl] at j3
        have := hu.1 0 (by omega) (by omega)
        omega
    · exact absurd rfl e
    · exact absurd rfl e
  | succ t =>
    obtain ⟨hd1, ih⟩ := sChain_all hC n1 t hCh
    rw [show sB (t + 1) = 1 from sB_s] at hN
    rcases hN with ⟨e, _⟩ | ⟨e, _⟩ | ⟨e, _⟩ | ⟨_, e, _⟩ | ⟨_, _, k, hr⟩
    · exact absurd e (by decide)
    · exact absurd e (by decide)
    · exact absurd e (by decide)
    · omega
    · exact ih u hu ((sRun_all hC k _ _ _ _ _ _ _ _ _ hd1 hr u hu).2 ho)
theorem NS_C : kpC NS := fun _ _ _ h k => NS_congr h k
/-- shorter words are all good -/
def preOk (sz : Int → Int) (wd : Int → Int → Int) (al n : Int) : Prop := ∀ u : Int → Int, kWord NS al n u → ImOk sz wd u n
theorem preOk_0 {sz : Int → Int} {wd : Int → Int → Int} {al : Int} : preOk sz wd al 0 := fun u _ g _ t t0 t1 => by rw [pl0] at t1; omega
theorem kStage.pre {sz : Int → Int} {wd : Int → Int → Int} {al : Int} {w0 : Int → Int} {lk0 : Int} {t : Nat} {y : SR} (n1 : 1 ≤ n) (h : kStage sz wd al n w0 lk0 t y) (hy : y.1 = 0) : preOk sz wd al n := fun u hu => by
  obtain ⟨t', z, a1, a2, a3⟩ := sEnd_all NS_C n1 h.1 hy u hu
  exact ImOk_congr (by omega) (fun j j0 j1 => (a3 j j0 j1).symm) (h.2 t' z a1 a2)
/-- a square in the image ends in the last letter's word -/
theorem fail_iff {sz : Int → Int} {wd : Int → Int → Int} {al : Int} {f g : Int → Int} (n1 : 1 ≤ n) (hs : ∀ x : Int, 0 ≤ x → x < al → 1 ≤ sz x) (hf : kWord NS al n f) (hp : preOk sz wd al (n - 1)) (hi : Img sz wd f n g) : ImOk sz wd f n ↔ ∀ t : Int, pl sz f 0 (n - 1) < t → t ≤ pl sz f 0 n → NS g t := by
  have hs' : ∀ k : Int, 0 ≤ k → k < n → 1 ≤ sz (f k) := fun k k0 k1 => hs _ (hf.1 k k0 k1).1 (hf.1 k k0 k1).2
  rw [ImOk_of hs' (by omega) hi]
  have p0 := pl_ge (z := sz) (sh := f) (q := 0) (n := n) (fun k k0 k1 => by rw [Int.zero_add]; exact hs' k k0 k1) (n - 1) (by omega) (by omega)
  constructor
  · intro k t t0 t1
    exact k t (by omega) t1
  · intro k t t0 t1
    by_cases e : pl sz f 0 (n - 1) < t
    · exact k t e t1
    · exact hp f ⟨fun j j0 j1 => hf.1 j j0 (by omega), fun d d0 d1 => hf.2 d d0 (by omega)⟩ g (fun u u0 u1 => hi u u0 (by omega)) t t0 (by omega)
theorem mEq_ok {al : Int} {z z' : Int → Int} {wd wd' : Int → Int → Int} (h : mEq al z wd z' wd') {f : Int → Int} (n0 : 0 ≤ n) (hf : ∀ j : Int, 0 ≤ j → j < n → 0 ≤ f j ∧ f j < al) (k : ImOk z wd f n) : ImOk z' wd' f n := fun g hg => by
  rw [← mEq_pl h hf n n0 (Int.le_refl _)]
  exact k g (mEq_img (mEq_symm h) hf hg)
end PU13
