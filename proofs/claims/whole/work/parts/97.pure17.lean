/-! pure words: the reference's stack of steps -/
section PU17
def csF (c : Int → Int) : Nat → Nat := fun i => (c (i : Int)).toNat
def lw (a b : Int → Int) (d : Nat) : List Nat := ls (fun j => a (7 * (d : Int) + j)) (b (d : Int)).toNat
def wdOk (a b : Int → Int) (i : Nat) : Prop := 0 ≤ b (i : Int) ∧ b (i : Int) ≤ 6 ∧ ∀ j : Int, 0 ≤ j → j < b (i : Int) → 0 ≤ a (7 * (i : Int) + j) ∧ a (7 * (i : Int) + j) ≤ 2
def stN (a b c : Int → Int) (o : Option (List Nat)) (d : Nat) : Prop := (∀ i : Nat, i ≤ d → wdOk a b i ∧ 0 ≤ c (i : Int) ∧ c (i : Int) ≤ 7 ∧ i + nU (lw a b i) ≤ 3) ∧ o = cont (lw a b) (csF c) d (atD d (lw a b d) (csF c d)) ∧ ∀ i : Nat, i < d → b (i : Int) ≠ 0
def stI (a b c : Int → Int) (o : Option (List Nat)) (e : Int) : Prop := (e = -1 ∧ o = none) ∨ ∃ d : Nat, e = (d : Int) ∧ stN a b c o d
/-- a measure -/
def muB (cs : Nat → Nat) : Nat → Nat
  | 0 => 0
  | d + 1 => muB cs d + (8 - cs d) * 9 ^ (3 - d)
def muI (c : Int → Int) (e : Int) : Nat := muB (csF c) (e + 1).toNat
theorem muB_congr {cs cs' : Nat → Nat} : ∀ d : Nat, (∀ i : Nat, i < d → cs i = cs' i) → muB cs d = muB cs' d
  | 0, _ => rfl
  | d + 1, h => by unfold muB; rw [muB_congr d (fun i hi => h i (by omega)), h d (by omega)]
theorem lw_3 {a b : Int → Int} {i : Nat} (h : wdOk a b i) : ∀ x ∈ lw a b i, x < 3 := ls_mem (fun j j0 j1 => h.2.2 j j0 (by have := h.1; omega))
theorem lw_nil {a b : Int → Int} {i : Nat} (h : wdOk a b i) : lw a b i = [] ↔ b (i : Int) = 0 := by
  have e : (lw a b i).length = (b (i : Int)).toNat := ls_len
  have h0 := h.1
  constructor
  · intro k
    rw [k] at e
    have : (0 : Nat) = (b (i : Int)).toNat := e
    omega
  · intro k
    exact List.length_eq_zero_iff.mp (by omega)
theorem csF_eq {c : Int → Int} {d : Nat} {x : Int} : csF (ab_f c (d : Int) x) d = x.toNat := by unfold csF; rw [ab_f_eq rfl]
theorem csF_ne {c : Int → Int} {d i : Nat} {x : Int} (h : i ≠ d) : csF (ab_f c (d : Int) x) i = csF c i := by unfold csF; rw [ab_f_ne (by omega)]
variable {a b c : Int → Int} {o : Option (List Nat)} {d : Nat}
theorem stN.pop (h : stN a b c o d) (b0 : b (d : Int) ≠ 0) (c7 : c (d : Int) = 7) {x : Int} : stI a b (ab_f c (d : Int) x) o ((d : Int) + -1) := by
  obtain ⟨h1, h2, h3⟩ := h
  have e1 : atD d (lw a b d) (csF c d) = none := by
    unfold atD
    rw [if_neg (fun k => b0 ((lw_nil (h1 d (Nat.le_refl _)).1).mp k))]
    unfold csF
    rw [c7]
    rfl
  rw [e1] at h2
  cases d with
  | zero => exact Or.inl ⟨by omega, h2⟩
  | succ d =>
    refine Or.inr ⟨d, by omega, fun i hi => ?_, ?_, fun i hi => h3 i (by omega)⟩
    · have q := h1 i (by omega)
      rw [ab_f_ne (by omega)]
      exact q
    · rw [h2]
      have e2 : atD d (lw a b d) (csF c d) = tks (tk (2 - d)) (lw a b d) (cand (csF c d)) := by
        unfold atD
        rw [if_neg (fun k => h3 d (by omega) ((lw_nil (h1 d (by omega)).1).mp k))]
      rw [csF_ne (by omega), e2]
      show cont (lw a b) (csF c) d (tks (tk (2 - d)) (lw a b d) (cand (csF c d))) = _
      exact cont_congr d _ (fun i hi => ⟨rfl, (csF_ne (by omega)).symm⟩)
theorem stN.no (h : stN a b c o d) (b0 : b (d : Int) ≠ 0) (c7 : c (d : Int) < 7) (hl : loM (lw a b d) (csF c d + 1) = false) : stI a b (ab_f c (d : Int) (c (d : Int) + 1)) o (d : Int) := by
  obtain ⟨h1, h2, h3⟩ := h
  have q := h1 d (Nat.le_refl _)
  refine Or.inr ⟨d, rfl, fun i hi => ?_, ?_, h3⟩
  · by_cases e : i = d
    · subst e
      rw [ab_f_eq rfl]
      exact ⟨q.1, by omega, by omega, q.2.2.2⟩
    · rw [ab_f_ne (by omega)]
      exact h1 i hi
  · have e1 : csF c d < 7 := by unfold csF; omega
    have e2 : (c (d : Int) + 1).toNat = csF c d + 1 := by unfold csF; omega
    have nn : ¬ lw a b d = [] := fun k => b0 ((lw_nil q.1).mp k)
    rw [csF_eq, e2, h2]
    unfold atD
    rw [if_neg nn, if_neg nn, tks_no e1 hl]
    exact cont_congr d _ (fun i hi => ⟨rfl, (csF_ne (by omega)).symm⟩)
theorem lw_congr {a a' b b' : Int → Int} {i : Nat} (hb : b (i : Int) = b' (i : Int)) (ha : ∀ j : Int, j < 7 * (i : Int) + 7 → a j = a' j) (h6 : b (i : Int) ≤ 6) : lw a b i = lw a' b' i := by
  unfold lw
  rw [← hb]
  exact ls_congr (fun j j0 j1 => ha _ (by omega))
theorem stN.push {a' b' c' : Int → Int} (h : stN a b c o d) (b0 : b (d : Int) ≠ 0) (c7 : c (d : Int) < 7) (hl : loM (lw a b d) (csF c d + 1) = true) (ea : ∀ j : Int, j < 7 * (d : Int) + 7 → a' j = a j) (eb : ∀ i : Nat, i ≤ d → b' (i : Int) = b (i : Int)) (ec : ∀ i : Nat, i < d → c' (i : Int) = c (i : Int)) (ec1 : c' (d : Int) = c (d : Int) + 1) (ec2 : c' ((d + 1 : Nat) : Int) = 0) (el : lw a' b' (d + 1) = rem (lw a b d) (csF c d + 1)) (b1 : 0 ≤ b' ((d + 1 : Nat) : Int)) (b6 : b' ((d + 1 : Nat) : Int) ≤ 6) (ha : ∀ j : Int, 0 ≤ j → j < b' ((d + 1 : Nat) : Int) → 0 ≤ a' (7 * ((d + 1 : Nat) : Int) + j) ∧ a' (7 * ((d + 1 : Nat) : Int) + j) ≤ 2) : stI a' b' c' o ((d : Int) + 1) := by
  obtain ⟨h1, h2, h3⟩ := h
  have q := h1 d (Nat.le_refl _)
  have l3 := lw_3 q.1
  have c8 : csF c d + 1 < 8 := by unfold csF; omega
  have nl := nU_rem l3 c8 hl
  have lwe : ∀ i : Nat, i ≤ d → lw a' b' i = lw a b i := fun i hi => lw_congr (eb i hi) (fun j hj => ea j (by omega)) (by rw [eb i hi]; exact (h1 i hi).1.2.1)
  have nn : ¬ lw a b d = [] := fun k => b0 ((lw_nil q.1).mp k)
  refine Or.inr ⟨d + 1, by omega, fun i hi => ?_, ?_, fun i hi => by rw [eb i (by omega)]; by_cases e : i = d; (rw [e]; exact b0); exact h3 i (by omega)⟩
  · by_cases e : i = d + 1
    · subst e
      rw [el, ec2]
      exact ⟨⟨b1, b6, ha⟩, by omega, by omega, by omega⟩
    · have hi9 : i ≤ d := by omega
      have q9 := h1 i hi9
      rw [lwe i hi9]
      refine ⟨⟨by rw [eb i hi9]; exact q9.1.1, by rw [eb i hi9]; exact q9.1.2.1, fun j j0 j1 => ?_⟩, ?_, ?_, q9.2.2.2⟩
      · rw [eb i hi9] at j1
        have b9 := q9.1.2.1
        rw [ea _ (by omega)]
        exact q9.1.2.2 j j0 j1
      · by_cases e2 : i = d
        · rw [e2, ec1]; omega
        · rw [ec i (by omega)]; exact q9.2.1
      · by_cases e2 : i = d
        · rw [e2, ec1]; omega
        · rw [ec i (by omega)]; exact q9.2.2.1
  · have e1 : csF c d < 7 := by unfold csF; omega
    have e2 : csF c' d = csF c d + 1 := by unfold csF; rw [ec1]; omega
    have e3 : csF c' (d + 1) = 0 := by unfold csF; rw [ec2]; rfl
    have e4 : ∀ i : Nat, i < d → csF c i = csF c' i := fun i hi => by unfold csF; rw [ec i hi]
    have nd : d ≤ 2 := by omega
    rw [h2, e3, el, ← atD_tk nd (rem_3 l3) (by omega)]
    have e5 : atD d (lw a b d) (csF c d) = tks (tk (2 - d)) (lw a b d) (cand (csF c d)) := by
      unfold atD
      rw [if_neg nn]
    rw [e5, tks_yes e1 hl]
    show _ = cont (lw a' b') (csF c') d (match tk (2 - d) (rem (lw a b d) (csF c d + 1)) with
      | some p => some (csF c' d :: p)
      | none => tks (tk (2 - d)) (lw a' b' d) (cand (csF c' d)))
    rw [e2, lwe d (Nat.le_refl _)]
    exact cont_congr d _ (fun i hi => ⟨(lwe i (by omega)).symm, e4 i hi⟩)
theorem stN.done (h : stN a b c o d) (b0 : b (d : Int) = 0) : ∃ p : List Nat, o = some p ∧ p.length = d ∧ ∀ i : Nat, i < d → c (i : Int) = ((p.getD i 0 : Nat) : Int) := by
  obtain ⟨h1, h2, h3⟩ := h
  have q := h1 d (Nat.le_refl _)
  have e1 : atD d (lw a b d) (csF c d) = some [] := by
    unfold atD
    rw [if_pos ((lw_nil q.1).mpr b0)]
  rw [e1, cont_some, List.append_nil] at h2
  refine ⟨_, h2, by simp, fun i hi => ?_⟩
  have c0 := (h1 i (by omega)).2.1
  rw [List.getD_eq_getElem?_getD, List.getElem?_map, List.getElem?_range hi]
  show c (i : Int) = ((csF c i : Nat) : Int)
  unfold csF
  omega
theorem mu_pop (c7 : c (d : Int) = 7) {x : Int} : muI (ab_f c (d : Int) x) ((d : Int) + -1) < muI c (d : Int) := by
  unfold muI
  rw [show ((d : Int) + -1 + 1).toNat = d by omega, show ((d : Int) + 1).toNat = d + 1 by omega]
  have e1 : muB (csF (ab_f c (d : Int) x)) d = muB (csF c) d := muB_congr d (fun i hi => csF_ne (by omega))
  have e2 : csF c d = 7 := by unfold csF; rw [c7]; rfl
  have p := Nat.pow_pos (n := 3 - d) (show 0 < 9 by decide)
  rw [e1]
  show _ < muB (csF c) d + (8 - csF c d) * 9 ^ (3 - d)
  rw [e2]
  omega
theorem mu_no (c0 : 0 ≤ c (d : Int)) (c7 : c (d : Int) < 7) : muI (ab_f c (d : Int) (c (d : Int) + 1)) (d : Int) < muI c (d : Int) := by
  unfold muI
  rw [show ((d : Int) + 1).toNat = d + 1 by omega]
  have e1 : muB (csF (ab_f c (d : Int) (c (d : Int) + 1))) d = muB (csF c) d := muB_congr d (fun i hi => csF_ne (by omega))
  have p := Nat.pow_pos (n := 3 - d) (show 0 < 9 by decide)
  show muB (csF (ab_f c (d : Int) (c (d : Int) + 1))) d + (8 - csF (ab_f c (d : Int) (c (d : Int) + 1)) d) * 9 ^ (3 - d) < muB (csF c) d + (8 - csF c d) * 9 ^ (3 - d)
  rw [e1, csF_eq]
  refine Nat.add_lt_add_left (Nat.mul_lt_mul_of_pos_right ?_ p) _
  unfold csF
  omega
theorem mu_push {c' : Int → Int} (d2 : d ≤ 2) (c0 : 0 ≤ c (d : Int)) (c7 : c (d : Int) < 7) (ec : ∀ i : Nat, i < d → c' (i : Int) = c (i : Int)) (ec1 : c' (d : Int) = c (d : Int) + 1) (ec2 : c' ((d + 1 : Nat) : Int) = 0) : muI c' ((d : Int) + 1) < muI c (d : Int) := by
  unfold muI
  rw [show ((d : Int) + 1 + 1).toNat = d + 1 + 1 by omega, show ((d : Int) + 1).toNat = d + 1 by omega]
  have e1 : muB (csF c') d = muB (csF c) d := muB_congr d (fun i hi => by unfold csF; rw [ec i hi])
  show muB (csF c') d + (8 - csF c' d) * 9 ^ (3 - d) + (8 - csF c' (d + 1)) * 9 ^ (3 - (d + 1)) < muB (csF c) d + (8 - csF c d) * 9 ^ (3 - d)
  have e2 : csF c' d = csF c d + 1 := by unfold csF; rw [ec1]; omega
  have e3 : csF c' (d + 1) = 0 := by unfold csF; rw [ec2]; rfl
  have e4 : csF c d < 7 := by unfold csF; omega
  rw [e1, e2, e3, show 3 - d = (3 - (d + 1)) + 1 by omega, Nat.pow_succ]
  have p := Nat.pow_pos (n := 3 - (d + 1)) (show 0 < 9 by decide)
  generalize 9 ^ (3 - (d + 1)) = P at p ⊢
  obtain ⟨u, hu⟩ : ∃ u : Nat, 8 - csF c d = u + 1 := ⟨7 - csF c d, by omega⟩
  rw [hu, show 8 - (csF c d + 1) = u by omega, Nat.add_mul, Nat.one_mul]
  omega
/-- sides -/
def sdR (f : Int → Int) (sd : List Nat) : Prop := sd.length = 6 ∧ ∀ k : Int, 0 ≤ k → k < 6 → f k = ((sd.getD k.toNat 0 : Nat) : Int)
def okA (sd : List Nat) (set a b : Nat) : Prop := ¬ (has set a = true ∧ has set b = true ∧ sd.getD (3 + a) 0 = sd.getD b 0)
theorem apart_iff {sd : List Nat} {set : Nat} : apart sd set = true ↔ ∀ a b : Nat, a < 3 → b < 3 → okA sd set a b := by
  unfold apart
  constructor
  · intro h a b ha hb k
    rw [List.all_eq_true] at h
    have h1 := h a (List.mem_range.mpr ha)
    rw [List.all_eq_true] at h1
    have h2 := h1 b (List.mem_range.mpr hb)
    rw [k.1, k.2.1, k.2.2] at h2
    simp at h2
  · intro h
    rw [List.all_eq_true]
    intro a ha
    rw [List.all_eq_true]
    intro b hb
    have h9 := h a b (List.mem_range.mp ha) (List.mem_range.mp hb)
    cases e : (has set a && has set b && (sd.getD (3 + a) 0 == sd.getD b 0)) with
    | false => rfl
    | true =>
      rw [Bool.and_eq_true, Bool.and_eq_true, beq_iff_eq] at e
      exact absurd ⟨e.1.1, e.1.2, e.2⟩ h9
theorem mrg_len {sd : List Nat} {x y : Nat} : (mrg sd x y).length = sd.length := by unfold mrg; simp
theorem mrg_get {sd : List Nat} {x y j : Nat} (h : j < sd.length) : (mrg sd x y).getD j 0 = if sd.getD j 0 = sd.getD (3 + x) 0 then sd.getD y 0 else sd.getD j 0 := by
  unfold mrg
  rw [List.getD_eq_getElem?_getD, List.getElem?_map, List.getElem?_eq_getElem h]
  have e : sd.getD j 0 = sd[j] := by rw [List.getD_eq_getElem?_getD, List.getElem?_eq_getElem h]; rfl
  rw [e]
  rfl
theorem sdL_1 {sd l : List Nat} (h : l.length ≤ 1) : sdL sd l = sd := by
  match l, h with
  | [], _ => rfl
  | [_], _ => rfl
  | x :: y :: r, h => simp at h
theorem ls_drop {t : Int → Int} {L i : Nat} (h : i < L) : (ls t L).drop i = (t (i : Int)).toNat :: (ls t L).drop (i + 1) := by
  have e : i < (ls t L).length := by rw [ls_len]; exact h
  rw [List.drop_eq_getElem_cons e]
  congr 1
  simp [ls]
theorem sd_step {sd : List Nat} {t : Int → Int} {L i : Nat} (h : i + 1 < L) : sdL sd ((ls t L).drop i) = sdL (mrg sd (t (i : Int)).toNat (t ((i + 1 : Nat) : Int)).toNat) ((ls t L).drop (i + 1)) := by
  rw [ls_drop (show i < L by omega), ls_drop h]
  rfl
theorem sdR_mrg {f g : Int → Int} {sd : List Nat} {x y : Int} (h : sdR g sd) (x0 : 0 ≤ x) (x2 : x ≤ 2) (y0 : 0 ≤ y) (y2 : y ≤ 2) (hf : ∀ j : Int, 0 ≤ j → j < 6 → f j = if g j = g (3 + x) then g y else g j) : sdR f (mrg sd x.toNat y.toNat) := by
  refine ⟨mrg_len.trans h.1, fun k k0 k1 => ?_⟩
  have e1 := h.2 k k0 k1
  have e2 := h.2 (3 + x) (by omega) (by omega)
  have e3 := h.2 y y0 (by omega)
  rw [show (3 + x).toNat = 3 + x.toNat by omega] at e2
  rw [hf k k0 k1, mrg_get (by rw [h.1]; omega)]
  by_cases e : sd.getD k.toNat 0 = sd.getD (3 + x.toNat) 0
  · rw [if_pos (by rw [e1, e2, e]), if_pos e]; exact e3
  · rw [if_neg (fun k9 => e (by rw [e1, e2] at k9; omega)), if_neg e]; exact e1
theorem sdR_0 {f : Int → Int} (h : ∀ j : Int, 0 ≤ j → j < 6 → f j = j) : sdR f [0, 1, 2, 3, 4, 5] := by
  refine ⟨rfl, fun k k0 k1 => ?_⟩
  rw [h k k0 k1]
  have : k = 0 ∨ k = 1 ∨ k = 2 ∨ k = 3 ∨ k = 4 ∨ k = 5 := by omega
  rcases this with e | e | e | e | e | e <;> (subst e; rfl)
theorem loM_0 {l : List Nat} : loM l 0 = false := by unfold loM; simp
theorem loM_ns {l : List Nat} {s : Nat} (h : sub s (unkN l) = false) : loM l s = false := by unfold loM; rw [h]; simp
theorem loM_ap {l : List Nat} {s : Nat} (h : s ≠ 0) (hs : sub s (unkN l) = true) : loM l s = apart (sdL [0, 1, 2, 3, 4, 5] l) s := by unfold loM; rw [hs]; simp [h]
theorem rem_snoc {l : List Nat} {s x : Nat} : rem (l ++ [x]) s = if has s x then rem l s else rem l s ++ [x] := by
  unfold rem
  rw [List.filter_append]
  cases g : has s x with
  | true => simp [g]
  | false => simp [g]
end PU17
