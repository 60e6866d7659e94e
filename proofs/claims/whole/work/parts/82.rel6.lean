/-! maps: what the class holds is what the reference holds -/
section REL7
def mEq (al : Int) (z : Int → Int) (wd : Int → Int → Int) (z' : Int → Int) (wd' : Int → Int → Int) : Prop := ∀ x : Int, 0 ≤ x → x < al → z x = z' x ∧ ∀ i : Int, 0 ≤ i → i < z' x → wd x i = wd' x i
theorem mEq_symm {al : Int} {z z' : Int → Int} {wd wd' : Int → Int → Int} (h : mEq al z wd z' wd') : mEq al z' wd' z wd := fun x x0 x1 => ⟨(h x x0 x1).1.symm, fun i i0 i1 => ((h x x0 x1).2 i i0 (by rw [← (h x x0 x1).1]; exact i1)).symm⟩
theorem mEq_pl {al : Int} {z z' : Int → Int} {wd wd' : Int → Int → Int} (h : mEq al z wd z' wd') {f : Int → Int} {n : Int} (hf : ∀ j : Int, 0 ≤ j → j < n → 0 ≤ f j ∧ f j < al) : ∀ k : Int, 0 ≤ k → k ≤ n → pl z f 0 k = pl z' f 0 k := pl_congr (fun k k0 k1 => by rw [Int.zero_add]; exact (h _ (hf k k0 k1).1 (hf k k0 k1).2).1)
theorem mEq_img {al : Int} {z z' : Int → Int} {wd wd' : Int → Int → Int} (h : mEq al z wd z' wd') {f g : Int → Int} {n : Int} (hf : ∀ j : Int, 0 ≤ j → j < n → 0 ≤ f j ∧ f j < al) (k : Img z wd f n g) : Img z' wd' f n g := fun u u0 u1 i i0 i1 => by
  have e := h _ (hf u u0 u1).1 (hf u u0 u1).2
  rw [← mEq_pl h hf u u0 (by omega), k u u0 u1 i i0 (by rw [e.1]; exact i1)]
  exact e.2 i i0 i1
def mCl (al : Int) (z : Int → Int) (wd : Int → Int → Int) : Prop := ∀ x : Int, 0 ≤ x → x < al → 1 ≤ z x ∧ ∀ i : Int, 0 ≤ i → i < z x → 0 ≤ wd x i ∧ wd x i < al
theorem mEq_hsz {al : Int} {z z' : Int → Int} {wd wd' : Int → Int → Int} (h : mEq al z wd z' wd') (hc : mCl al z wd) : ∀ (r : Nat) (x : Int), 0 ≤ x → x < al → ∀ k : Int, 0 ≤ k → k ≤ z x → pl (hsz z wd r) (wd x) 0 k = pl (hsz z' wd' r) (wd' x) 0 k
  | 0, x, x0, x1 => pl_ind rfl (fun k k0 k1 e => by rw [pl0q k0, pl0q k0, e]; rfl)
  | r + 1, x, x0, x1 => pl_ind rfl (fun k k0 k1 e => by
      have ex := h x x0 x1
      have ew := ex.2 k k0 (by rw [← ex.1]; exact k1)
      have cw := (hc x x0 x1).2 k k0 k1
      have c1 := (hc _ cw.1 cw.2).1
      rw [pl0q k0, pl0q k0, e, ← ew]
      congr 1
      show pl (hsz z wd r) (wd (wd x k)) 0 (z (wd x k)) = pl (hsz z' wd' r) (wd' (wd x k)) 0 (z' (wd x k))
      rw [← (h _ cw.1 cw.2).1]
      exact mEq_hsz h hc r _ cw.1 cw.2 _ (by omega) (Int.le_refl _))
theorem mEq_hz {al : Int} {z z' : Int → Int} {wd wd' : Int → Int → Int} (h : mEq al z wd z' wd') (hc : mCl al z wd) : ∀ (r : Nat) (x : Int), 0 ≤ x → x < al → hsz z wd r x = hsz z' wd' r x
  | 0, _, _, _ => rfl
  | r + 1, x, x0, x1 => by
    show pl (hsz z wd r) (wd x) 0 (z x) = pl (hsz z' wd' r) (wd' x) 0 (z' x)
    rw [← (h x x0 x1).1]
    exact mEq_hsz h hc r x x0 x1 _ (by have := (hc x x0 x1).1; omega) (Int.le_refl _)
theorem mEq_LT {al : Int} {z z' : Int → Int} {wd wd' : Int → Int → Int} (h : mEq al z wd z' wd') (hc : mCl al z wd) : ∀ (r : Nat) (x p y : Int), 0 ≤ x → x < al → LT z wd r x p y → LT z' wd' r x p y
  | 0, _, _, _, _, _, k => k
  | r + 1, x, p, y, x0, x1, ⟨i, i0, i1, q1, q2, k⟩ => by
    have ex := h x x0 x1
    have cw := (hc x x0 x1).2 i i0 i1
    have e1 := mEq_hsz h hc r x x0 x1 i i0 (by omega)
    have e2 := mEq_hsz h hc r x x0 x1 (i + 1) (by omega) (by omega)
    refine ⟨i, i0, by rw [← ex.1]; exact i1, by rw [← e1]; exact q1, by rw [← e2]; exact q2, ?_⟩
    rw [← e1, ← ex.2 i i0 (by rw [← ex.1]; exact i1)]
    exact mEq_LT h hc r _ _ _ cw.1 cw.2 k
variable {h : AbH} {F : Nat → Int → Int}
theorem mapC.b {g a : Nat} {m : Int} (c : mapC h g a F m) (mb : mapB F m) : ∃ (b1 b2 b3 : Nat) (z t gz : Int → Int), h a = some (kO g 0 [vI (F 36 m), vR b1, vR b2, vR b3]) ∧ h b1 = some (kI (g + 1) 8 z) ∧ h b2 = some (kI (g + 2) 160 t) ∧ h b3 = some (kJ (g + 3) 248 gz) ∧ mpB (F 36 m) z t ∧ mEq (F 36 m) z (tW t) (mSz F m) (mWd F m) ∧ grOk gz z t (F 36 m) 31 := by
  obtain ⟨b1, b2, b3, z, t, gz, c0, c1, c2, c3, c4, c5, c6⟩ := c
  refine ⟨b1, b2, b3, z, t, gz, c0, c1, c2, c3, ⟨mb.1, mb.2.1, fun x x0 x1 => ?_⟩, fun x x0 x1 => ⟨c4 x x0 x1, c5 x x0 x1⟩, c6⟩
  obtain ⟨d1, d2, d3⟩ := mb.2.2 x x0 x1
  rw [c4 x x0 x1]
  refine ⟨d1, d2, fun i i0 i1 => ?_⟩
  rw [c5 x x0 x1 i i0 i1]
  exact d3 i i0 i1
theorem mpB.cl {al : Int} {z t : Int → Int} (hB : mpB al z t) : mCl al z (tW t) := fun x x0 x1 => ⟨(hB.2.2 x x0 x1).1, (hB.2.2 x x0 x1).2.2⟩
theorem len_last {m v : Int} {z t : Int → Int} (e : mEq (F 36 m) z (tW t) (mSz F m) (mWd F m)) (k : lenS (F 36 m) z v) : kLast F m v := by
  obtain ⟨mo, fe, k1, ⟨x, x0, x1, x2⟩, ⟨y, y0, y1, y2⟩, k4⟩ := k
  exact ⟨mo, fe, fun u u0 u1 => by rw [← (e u u0 u1).1]; exact k1 u u0 u1, ⟨x, x0, x1, by rw [← (e x x0 x1).1]; exact x2⟩, ⟨y, y0, y1, by rw [← (e y y0 y1).1]; exact y2⟩, k4⟩
theorem mapR.no {SM : Int → Option Nat} {b : Int} {a : Nat} (r : mapR h SM F) (b0 : 0 ≤ b) (b1 : b < 8) (e : SM b = some a) : mkOk F b ∧ mapC h (400 + 4 * b.toNat) a F b := by
  have eb : ((b.toNat : Nat) : Int) = b := by omega
  have k := r b.toNat (by omega)
  rw [eb] at k
  by_cases g : F 35 b = 0
  · rw [k.2 g] at e; cases e
  · obtain ⟨a', e', c⟩ := k.1 g
    rw [e] at e'
    cases e'
    exact ⟨⟨b0, b1, g⟩, c⟩
theorem mapR.nn {SM : Int → Option Nat} {b : Int} (r : mapR h SM F) (e : SM b = none) : ¬ mkOk F b := by
  rintro ⟨b0, b1, g⟩
  have eb : ((b.toNat : Nat) : Int) = b := by omega
  have k := r b.toNat (by omega)
  rw [eb] at k
  obtain ⟨a', e', c⟩ := k.1 g
  rw [e] at e'
  cases e'
end REL7
