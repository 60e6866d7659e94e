/-! small sets as ints -/
section BITS
theorem or64 : ∀ a b : Fin 64, ab_or ((a.val : Nat) : Int) ((b.val : Nat) : Int) = ((a.val ||| b.val : Nat) : Int) := by decide +kernel
theorem and64 : ∀ a b : Fin 64, ab_and ((a.val : Nat) : Int) ((b.val : Nat) : Int) = ((a.val &&& b.val : Nat) : Int) := by decide +kernel
theorem shl6 : ∀ x : Fin 6, ab_shl 1 ((x.val : Nat) : Int) = ((1 <<< x.val : Nat) : Int) := by decide +kernel
theorem shr64 : ∀ (a : Fin 64) (x : Fin 6), ab_shr ((a.val : Nat) : Int) ((x.val : Nat) : Int) = ((a.val >>> x.val : Nat) : Int) := by decide +kernel
theorem off8 : ∀ a b : Fin 8, (ab_and ((a.val : Nat) : Int) (ab_xor ((b.val : Nat) : Int) (-1)) = 0 ↔ sub a.val b.val = true) ∧ ab_and ((a.val : Nat) : Int) (ab_xor ((b.val : Nat) : Int) (-1)) = ((a.val &&& (7 ^^^ b.val) : Nat) : Int) := by decide +kernel
theorem or_n {a b : Nat} (ha : a < 64) (hb : b < 64) : ab_or (a : Int) (b : Int) = ((a ||| b : Nat) : Int) := or64 ⟨a, ha⟩ ⟨b, hb⟩
theorem and_n {a b : Nat} (ha : a < 64) (hb : b < 64) : ab_and (a : Int) (b : Int) = ((a &&& b : Nat) : Int) := and64 ⟨a, ha⟩ ⟨b, hb⟩
theorem shl_n {x : Nat} (h : x < 6) : ab_shl 1 (x : Int) = ((1 <<< x : Nat) : Int) := shl6 ⟨x, h⟩
theorem shr_n {a x : Nat} (ha : a < 64) (h : x < 6) : ab_shr (a : Int) (x : Int) = ((a >>> x : Nat) : Int) := shr64 ⟨a, ha⟩ ⟨x, h⟩
theorem or_lt {a b : Nat} (k : Nat) (ha : a < 2 ^ k) (hb : b < 2 ^ k) : a ||| b < 2 ^ k := Nat.or_lt_two_pow ha hb
theorem has_n {a x : Nat} (ha : a < 64) (h : x < 6) : (ab_and (ab_shr (a : Int) (x : Int)) 1 = 0 ↔ has a x = false) ∧ (ab_and (ab_shr (a : Int) (x : Int)) 1 = 1 ↔ has a x = true) := by
  have e : ab_and (ab_shr (a : Int) (x : Int)) 1 = ((a >>> x &&& 1 : Nat) : Int) := by
    rw [shr_n ha h]
    exact and_n (a := a >>> x) (b := 1) (by have := Nat.shiftRight_le a x; omega) (by omega)
  rw [e]
  unfold has
  have b1 : a >>> x &&& 1 ≤ 1 := Nat.and_le_right
  constructor
  · rw [beq_eq_false_iff_ne]; omega
  · rw [beq_iff_eq]; omega
theorem unkN_lt : ∀ (l : List Nat) (s : Nat), (∀ x ∈ l, x < 3) → s < 8 → l.foldl (fun s x => s ||| 1 <<< x) s < 8
  | [], _, _, hs => hs
  | x :: l, s, h, hs => unkN_lt l _ (fun y hy => h y (List.mem_cons_of_mem _ hy)) (or_lt 3 hs (by
      have := h x List.mem_cons_self
      have : x = 0 ∨ x = 1 ∨ x = 2 := by omega
      rcases this with e | e | e <;> (subst e; decide)))
theorem unkN_snoc {l : List Nat} {x : Nat} : unkN (l ++ [x]) = unkN l ||| 1 <<< x := by unfold unkN; rw [List.foldl_append]; rfl
theorem rs_lt {left r b x : Nat} (hr : r < 64) (hb : b < 8) (hx : x < 3) : (rs left (r, b) x).1 < 64 ∧ (rs left (r, b) x).2 < 8 := by
  have s1 : 1 <<< (x + 3) < 64 ∧ 1 <<< x < 8 := by
    have : x = 0 ∨ x = 1 ∨ x = 2 := by omega
    rcases this with e | e | e <;> (subst e; decide)
  unfold rs
  split
  · refine ⟨?_, s1.2⟩
    show (if _ then _ else _) < 64
    split
    · exact or_lt 6 hr (or_lt 6 (by omega) s1.1)
    · exact hr
  · exact ⟨hr, hb⟩
theorem rs_skip {left r b x : Nat} (h : has left x = false) : rs left (r, b) x = (r, b) := by unfold rs; rw [if_neg (by rw [h]; decide)]
theorem rs_no {left r b x : Nat} (h : has left x = true) (k : b = 0 ∨ r &&& (b ||| 1 <<< (x + 3)) = 0) : rs left (r, b) x = (r, 1 <<< x) := by
  unfold rs
  rw [if_pos h, if_neg]
  rintro ⟨k1, k2⟩
  rcases k with k | k
  · exact k1 k
  · exact k2 k
theorem rs_yes {left r b x : Nat} (h : has left x = true) (k1 : b ≠ 0) (k2 : r &&& (b ||| 1 <<< (x + 3)) ≠ 0) : rs left (r, b) x = (r ||| (b ||| 1 <<< (x + 3)), 1 <<< x) := by
  unfold rs
  rw [if_pos h, if_pos ⟨k1, k2⟩]
end BITS
