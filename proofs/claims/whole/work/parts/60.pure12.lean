/-! pure words: maps as the class holds them -/
section PU12
abbrev tW (t : Int → Int) : Int → Int → Int := fun x i => t (20 * x + i)
def mpB (al : Int) (z t : Int → Int) : Prop := 1 ≤ al ∧ al ≤ 8 ∧ ∀ x : Int, 0 ≤ x → x < al → 1 ≤ z x ∧ z x ≤ 20 ∧ ∀ i : Int, 0 ≤ i → i < z x → 0 ≤ t (20 * x + i) ∧ t (20 * x + i) < al
def cap (x : Int) : Int := if x < 2147483648 then x else 2147483648
theorem cap_le (x : Int) : cap x ≤ 2147483648 := by unfold cap; split <;> omega
theorem cap_pl {h h' sh : Int → Int} {n : Int} (hp : ∀ k : Int, 0 ≤ k → k < n → 0 ≤ h (sh k) ∧ h' (sh k) = cap (h (sh k))) : ∀ k : Int, 0 ≤ k → k ≤ n → 0 ≤ pl h sh 0 k ∧ 0 ≤ pl h' sh 0 k ∧ cap (pl h' sh 0 k) = cap (pl h sh 0 k) := pl_ind ⟨Int.le_refl _, Int.le_refl _, rfl⟩ (fun k k0 k1 ih => by
  obtain ⟨a, b, c⟩ := ih
  obtain ⟨d, e⟩ := hp k k0 k1
  rw [pl0q k0, pl0q k0, e]
  unfold cap at c ⊢
  refine ⟨by omega, by split <;> omega, ?_⟩
  repeat' split at c
  all_goals (repeat' split)
  all_goals omega)
theorem hsz_1 {al : Int} {z t : Int → Int} (hB : mpB al z t) : ∀ (r : Nat) (x : Int), 0 ≤ x → x < al → 1 ≤ hsz z (tW t) r x
  | 0, _, _, _ => Int.le_refl _
  | r + 1, x, x0, x1 => by
    obtain ⟨a, b, c⟩ := hB.2.2 x x0 x1
    show 1 ≤ pl (hsz z (tW t) r) (tW t x) 0 (z x)
    have := pl_ge (z := hsz z (tW t) r) (sh := tW t x) (q := 0) (n := z x) (fun k k0 k1 => hsz_1 hB r _ (by rw [Int.zero_add]; exact (c k k0 k1).1) (by rw [Int.zero_add]; exact (c k k0 k1).2)) (z x) (by omega) (Int.le_refl _)
    omega
/-- how long the images are, up to level lv -/
def grOk (gz z t : Int → Int) (al lv : Int) : Prop := ∀ r : Nat, (r : Int) < lv → ∀ x : Int, 0 ≤ x → x < al → gz (8 * r + x) = cap (hsz z (tW t) r x)
theorem plz {f z : Int → Int} {q k : Int} : pl z f q k = pl z (fun i => f (q + i)) 0 k := by
  unfold pl
  induction k.toNat with
  | zero => rfl
  | succ m ih =>
    show plN z f q m + z (f (q + (m : Int))) = plN z (fun i => f (q + i)) 0 m + z (f (q + (0 + (m : Int))))
    rw [ih, Int.zero_add]
/-- the map's own words agree with the told ones -/
theorem Img_step {z t f g : Int → Int} {i : Int} (i0 : 0 ≤ i) (hz : ∀ k : Int, 0 ≤ k → k ≤ i → 1 ≤ z (f k)) (h : Img z (tW t) f i g) : Img z (tW t) f (i + 1) (ab_cpy t g (20 * f i) (pl z f 0 i) (z (f i))) := by
  intro k k0 k1 j j0 j1
  have hg : ∀ k : Int, 0 ≤ k → k < i + 1 → 1 ≤ z (f (0 + k)) := fun k k0 k1 => by rw [Int.zero_add]; exact hz k k0 (by omega)
  unfold ab_cpy
  by_cases e : k = i
  · subst e
    rw [if_pos (by omega)]
    congr 1
    omega
  · have m := pl_mono (z := z) (sh := f) (q := 0) (n := i + 1) (j := k + 1) hg (by omega) i i0 (by omega) (by omega)
    rw [pl0q k0] at m
    rw [if_neg (by omega)]
    exact h k k0 (by omega) j j0 j1
theorem cap_lt {x y : Int} (h : x < 2147483648) : cap y ≤ x ↔ y ≤ x := by unfold cap; split <;> omega
end PU12
