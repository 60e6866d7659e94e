/-! pure words: letters that are found are letters; stages of alike maps -/
section PU14
variable {kp : (Int → Int) → Int → Prop} {a n c : Int}
def wayOk (a n : Int) (w : Int → Int) (d : Int) : Prop := d ≤ n ∧ (∀ j : Int, 0 ≤ j → j < d - 1 → 0 ≤ w j ∧ w j < a) ∧ (1 ≤ d → -1 ≤ w (d - 1) ∧ w (d - 1) < a)
theorem sRun_rng : ∀ (k : Nat) (w : Int → Int) (d lk lg : Int) (o : Int) (w' : Int → Int) (d' lk' lg' : Int), wayOk a n w d → sRun kp a n c k w d lk lg = some (o, w', d', lk', lg') → o = 1 → d' = n ∧ ∀ j : Int, 0 ≤ j → j < n → 0 ≤ w' j ∧ w' j < a
  | 0, _, _, _, _, _, _, _, _, _, _, h, _ => by cases h
  | k + 1, w, d, lk, lg, o, w', d', lk', lg', ⟨q1, q2, q3⟩, h, ho => by
    by_cases h1 : d ≤ 0
    · rw [sRun_over h1] at h; cases h; exact absurd ho (by decide)
    · have q4 := q3 (by omega)
      by_cases h2 : w (d - 1) + 1 = a
      · rw [sRun_back h1 h2] at h
        refine sRun_rng k _ _ _ _ _ _ _ _ _ ⟨by omega, fun j j0 j1 => ?_, fun g => ?_⟩ h ho
        · rw [ab_f_ne (by omega)]; exact q2 j j0 (by omega)
        · rw [ab_f_ne (by omega)]; have := q2 (d - 1 - 1) (by omega) (by omega); omega
      · by_cases h3 : 20000 < lk + c
        · rw [sRun_spent h1 h2 h3] at h; cases h; exact absurd ho (by decide)
        · by_cases h4 : kp (ab_f w (d - 1) (w (d - 1) + 1)) d
          · by_cases h5 : d = n
            · rw [sRun_found h1 h2 h3 h4 h5] at h; cases h
              refine ⟨h5, fun j j0 j1 => ?_⟩
              by_cases e : j = d - 1
              · rw [ab_f_eq e]; omega
              · rw [ab_f_ne e]; exact q2 j j0 (by omega)
            · rw [sRun_deep h1 h2 h3 h4 h5] at h
              refine sRun_rng k _ _ _ _ _ _ _ _ _ ⟨by omega, fun j j0 j1 => ?_, fun g => ?_⟩ h ho
              · rw [ab_f_ne (show ¬ j = d by omega)]
                by_cases e : j = d - 1
                · rw [ab_f_eq e]; omega
                · rw [ab_f_ne e]; exact q2 j j0 (by omega)
              · rw [ab_f_eq (by omega)]; omega
          · rw [sRun_bar h1 h2 h3 h4] at h
            refine sRun_rng k _ _ _ _ _ _ _ _ _ ⟨q1, fun j j0 j1 => ?_, fun g => ?_⟩ h ho
            · rw [ab_f_ne (by omega)]; exact q2 j j0 j1
            · rw [ab_f_eq rfl]; omega
theorem sNext_rng (n1 : 1 ≤ n) (a1 : 1 ≤ a) {b : Int} {w : Int → Int} {d lk lg : Int} {z : SR} (hw : b ≠ 0 → wayOk a n w d) (h : sNext kp a n c b w d lk lg z) (hz : z.1 = 1) : z.2.2.1 = n ∧ ∀ j : Int, 0 ≤ j → j < n → 0 ≤ z.2.1 j ∧ z.2.1 j < a := by
  obtain ⟨o, w', d', lk', lg'⟩ := z
  have ho : o = 1 := hz
  rcases h with ⟨_, _, e⟩ | ⟨_, _, e, _⟩ | ⟨_, _, _, k, hr⟩ | ⟨_, e, _⟩ | ⟨e, _, k, hr⟩
  · cases e; exact absurd ho (by decide)
  · omega
  · exact sRun_rng k _ _ _ _ _ _ _ _ _ ⟨n1, fun j j0 j1 => by omega, fun _ => by rw [ab_f_eq (by omega)]; omega⟩ hr ho
  · omega
  · exact sRun_rng k _ _ _ _ _ _ _ _ _ (hw e) hr ho
theorem sChain_rng (n1 : 1 ≤ n) (a1 : 1 ≤ a) {w0 : Int → Int} {lk0 : Int} : ∀ (t : Nat) {w : Int → Int} {d lk lg : Int}, sChain kp a n c w0 0 lk0 0 (t + 1) w d lk lg → d = n ∧ ∀ j : Int, 0 ≤ j → j < n → 0 ≤ w j ∧ w j < a
  | 0, w, d, lk, lg, ⟨w1, d1, lk1, lg1, _, hN⟩ => sNext_rng n1 a1 (fun e => absurd rfl e) hN rfl
  | t + 1, w, d, lk, lg, ⟨w1, d1, lk1, lg1, hC, hN⟩ => by
    obtain ⟨e, k⟩ := sChain_rng n1 a1 t hC
    exact sNext_rng n1 a1 (fun _ => ⟨by omega, fun j j0 j1 => k j j0 (by omega), fun g => by have := k (d1 - 1) (by omega) (by omega); omega⟩) hN rfl
theorem sEnd_rng (n1 : 1 ≤ n) (a1 : 1 ≤ a) {w0 : Int → Int} {lk0 : Int} {t : Nat} {z : SR} (h : sEnd kp a n c w0 0 lk0 0 t z) (hz : z.1 = 1) : ∀ j : Int, 0 ≤ j → j < n → 0 ≤ z.2.1 j ∧ z.2.1 j < a := by
  obtain ⟨w, d, lk, lg, hC, hN⟩ := h
  cases t with
  | zero => exact (sNext_rng n1 a1 (fun e => absurd rfl e) hN hz).2
  | succ t =>
    obtain ⟨e, k⟩ := sChain_rng n1 a1 t hC
    exact (sNext_rng n1 a1 (fun _ => ⟨by omega, fun j j0 j1 => k j j0 (by omega), fun g => by have := k (d - 1) (by omega) (by omega); omega⟩) hN hz).2
theorem kStage_eq {al : Int} {z z' : Int → Int} {wd wd' : Int → Int → Int} (h : mEq al z wd z' wd') (n1 : 1 ≤ n) (a1 : 1 ≤ al) {w0 : Int → Int} {lk0 : Int} {t : Nat} {y : SR} (k : kStage z wd al n w0 lk0 t y) : kStage z' wd' al n w0 lk0 t y := by
  refine ⟨k.1, fun t' u ht hu => ?_⟩
  obtain ⟨w, d, lk, lg, hC, _⟩ := k.1
  obtain ⟨w', d', lk', lg', hE⟩ := sChain_less t hC t' ht
  have e := sEnd_fun hu hE
  have rg := sEnd_rng n1 a1 hE rfl
  rw [e]
  have k2 := k.2 t' u ht hu
  rw [e] at k2
  exact mEq_ok h (by omega) rg k2
theorem lenS_bd {al v : Int} {z t : Int → Int} (hB : mpB al z t) (h : lenS al z v) : 3 ≤ v ∧ v ≤ 18 := by
  obtain ⟨mo, fe, k1, ⟨x, x0, x1, x2⟩, ⟨y, y0, y1, y2⟩, k4⟩ := h
  have a := hB.2.2 x x0 x1
  have b := hB.2.2 y y0 y1
  have c : (mo - 3 + fe - 1) / fe < 18 := (Int.ediv_lt_iff_lt_mul (by omega)).mpr (by omega)
  rw [k4]
  generalize (mo - 3 + fe - 1) / fe = q at *
  by_cases g : 3 < mo
  · rw [if_pos g]; split <;> omega
  · rw [if_neg g]; split <;> omega
end PU14
