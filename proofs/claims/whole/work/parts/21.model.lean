/-! THE REFERENCE'S CELLS: the object m (mark 20), its rows (field k: address A k, mark 30 + k), its numbers s k, its rows' contents F k -/
section MO
def ab_u {α : Type} (s : Nat → α) (k : Nat) (x : α) : Nat → α := fun j => if j = k then x else s j
theorem ab_u_eq {α : Type} {s : Nat → α} {k : Nat} {x : α} : ab_u s k x k = x := if_pos rfl
theorem ab_u_ne {α : Type} {s : Nat → α} {k j : Nat} {x : α} (h : ¬ j = k) : ab_u s k x j = s j := if_neg h
def mLen (k : Nat) : Nat := match k with
  | 2 => 16
  | 3 => 160
  | 4 => 12800
  | 5 => 80
  | 8 => 12
  | 9 => 12
  | 10 => 12
  | 11 => 12
  | 12 => 960
  | 13 => 8
  | 14 => 3
  | 15 => 3
  | 16 => 2000
  | 17 => 2000
  | 18 => 2000
  | 30 => 80
  | 34 => 80
  | 36 => 8
  | 37 => 64
  | 38 => 1280
  | 39 => 1300
  | 42 => 70
  | 43 => 10
  | 44 => 10
  | 45 => 6
  | 47 => 8
  | _ => 0
def mIs (k : Nat) : Bool := decide (0 < mLen k)
abbrev mO (A : Nat → Nat) (s : Nat → Int) : List AbV := [vI (s 0), vI (s 1), vR (A 2), vR (A 3), vR (A 4), vR (A 5), vI (s 6), vI (s 7), vR (A 8), vR (A 9), vR (A 10), vR (A 11), vR (A 12), vR (A 13), vR (A 14), vR (A 15), vR (A 16), vR (A 17), vR (A 18), vI (s 19), vI (s 20), vI (s 21), vI (s 22), vI (s 23), vI (s 24), vI (s 25), vI (s 26), vI (s 27), vI (s 28), vI (s 29), vR (A 30), vI (s 31), vI (s 32), vI (s 33), vR (A 34), vR (A 35), vR (A 36), vR (A 37), vR (A 38), vR (A 39), vI (s 40), vR (A 41), vR (A 42), vR (A 43), vR (A 44), vR (A 45), vI (s 46), vR (A 47)]
def mR (h : AbH) (m : Nat) (A : Nat → Nat) (s : Nat → Int) (F : Nat → Int → Int) : Prop := h m = some (kO 20 9 (mO A s)) ∧ (∀ k, mIs k = true → h (A k) = some (kI (30 + k) (mLen k) (F k))) ∧ h (A 35) = some (kZ 65 8 (F 35)) ∧ h (A 41) = some (kJ 71 320 (F 41))
/-- cells with such marks are as they were -/
def ab_kp (P : Nat → Prop) (h h' : AbH) : Prop := ∀ (q : Nat) (c : AbC), h q = some c → P c.1 → h' q = some c
theorem ab_kp0 {P : Nat → Prop} {h : AbH} : ab_kp P h h := fun _ _ hc _ => hc
theorem ab_kp.trans {P : Nat → Prop} {h0 h h1 : AbH} (a : ab_kp P h0 h) (b : ab_kp P h h1) : ab_kp P h0 h1 := fun q c hc hp => b q c (a q c hc hp) hp
theorem ab_kp.wr {P : Nat → Prop} {h0 h h1 : AbH} {a : Nat} {c : AbC} (kp : ab_kp P h0 h) (ha : h a = some c) (hn : ¬ P c.1) (n : ∀ q, q ≠ a → h1 q = h q) : ab_kp P h0 h1 := by
  intro q c9 hc hp
  have h9 := kp q c9 hc hp
  rw [n q (fun e => hn (by rw [e] at h9; rw [Option.some.inj (ha.symm.trans h9)]; exact hp))]
  exact h9
/-- marks that aren't the reference's -/
def mX (g : Nat) : Prop := ¬ (20 ≤ g ∧ g < 80)
theorem mX_no {g : Nat} (h1 : 20 ≤ g) (h2 : g < 80) : ¬ mX g := fun h => h ⟨h1, h2⟩
variable {h h1 : AbH} {m : Nat} {A : Nat → Nat} {s : Nat → Int} {F : Nat → Int → Int}
theorem mR.arr (hM : mR h m A s F) (k : Nat) (hk : mIs k = true) : h (A k) = some (kI (30 + k) (mLen k) (F k)) := hM.2.1 k hk
theorem mIs_lt {k : Nat} (hk : mIs k = true) : k < 50 := by
  rcases Nat.lt_or_ge k 50 with g | g
  · exact g
  · exfalso
    have h9 : 0 < mLen k := of_decide_eq_true hk
    unfold mLen at h9
    split at h9 <;> omega
theorem mR.put (hM : mR h m A s F) {k : Nat} {x : Int} (e9 : h1 m = some (kO 20 9 ((mO A s).set k (vI x)))) (n9 : ∀ q, q ≠ m → h1 q = h q) (hk : (mO A s).set k (vI x) = mO A (ab_u s k x)) : mR h1 m A (ab_u s k x) F := by
  refine ⟨by rw [e9, hk], fun j hj => ?_, ?_, ?_⟩
  · have h9 := hM.2.1 j hj
    rw [n9 _ (ab_ne h9 hM.1 (by show 30 + j ≠ 20; omega))]
    exact h9
  · rw [n9 _ (ab_ne hM.2.2.1 hM.1 (by simp))]
    exact hM.2.2.1
  · rw [n9 _ (ab_ne hM.2.2.2 hM.1 (by simp))]
    exact hM.2.2.2
theorem mR.wr (hM : mR h m A s F) {k : Nat} {f : Int → Int} (hk : mIs k = true) (e9 : h1 (A k) = some (kI (30 + k) (mLen k) f)) (n9 : ∀ q, q ≠ A k → h1 q = h q) : mR h1 m A s (ab_u F k f) := by
  have hA := hM.2.1 k hk
  have k35 : ¬ k = 35 := fun e => by rw [e] at hk; exact absurd hk (by decide)
  have k41 : ¬ k = 41 := fun e => by rw [e] at hk; exact absurd hk (by decide)
  refine ⟨?_, fun j hj => ?_, ?_, ?_⟩
  · rw [n9 _ (ab_ne hM.1 hA (by show 20 ≠ 30 + k; omega))]
    exact hM.1
  · by_cases e : j = k
    · subst e
      rw [ab_u_eq]
      exact e9
    · have h9 := hM.2.1 j hj
      rw [n9 _ (ab_ne h9 hA (by show 30 + j ≠ 30 + k; omega)), ab_u_ne e]
      exact h9
  · rw [n9 _ (ab_ne hM.2.2.1 hA (by show 65 ≠ 30 + k; omega)), ab_u_ne (fun e => k35 e.symm)]
    exact hM.2.2.1
  · rw [n9 _ (ab_ne hM.2.2.2 hA (by show 71 ≠ 30 + k; omega)), ab_u_ne (fun e => k41 e.symm)]
    exact hM.2.2.2
theorem mR.wrZ (hM : mR h m A s F) {f : Int → Int} (e9 : h1 (A 35) = some (kZ 65 8 f)) (n9 : ∀ q, q ≠ A 35 → h1 q = h q) : mR h1 m A s (ab_u F 35 f) := by
  have hA := hM.2.2.1
  refine ⟨?_, fun j hj => ?_, by rw [ab_u_eq]; exact e9, ?_⟩
  · rw [n9 _ (ab_ne hM.1 hA (by simp))]
    exact hM.1
  · have h9 := hM.2.1 j hj
    have hj9 : ¬ j = 35 := fun e => by rw [e] at hj; exact absurd hj (by decide)
    rw [n9 _ (ab_ne h9 hA (by show 30 + j ≠ 65; omega)), ab_u_ne hj9]
    exact h9
  · rw [n9 _ (ab_ne hM.2.2.2 hA (by simp)), ab_u_ne (by decide)]
    exact hM.2.2.2
theorem mR.wrJ (hM : mR h m A s F) {f : Int → Int} (e9 : h1 (A 41) = some (kJ 71 320 f)) (n9 : ∀ q, q ≠ A 41 → h1 q = h q) : mR h1 m A s (ab_u F 41 f) := by
  have hA := hM.2.2.2
  refine ⟨?_, fun j hj => ?_, ?_, by rw [ab_u_eq]; exact e9⟩
  · rw [n9 _ (ab_ne hM.1 hA (by simp))]
    exact hM.1
  · have h9 := hM.2.1 j hj
    have hj9 : ¬ j = 41 := fun e => by rw [e] at hj; exact absurd hj (by decide)
    rw [n9 _ (ab_ne h9 hA (by show 30 + j ≠ 71; omega)), ab_u_ne hj9]
    exact h9
  · rw [n9 _ (ab_ne hM.2.2.1 hA (by simp)), ab_u_ne (by decide)]
    exact hM.2.2.1
/-- a method of the reference: it comes back, its cells are as s', F' say, nobody else's cell has changed -/
def mT (h : AbH) (m : Nat) (A : Nat → Nat) (P : Option AbV → (Nat → Int) → (Nat → Int → Int) → Prop) : AbO → AbH → Prop := fun o h' => ∃ (r : Option AbV) (s' : Nat → Int) (F' : Nat → Int → Int), o = .inl r ∧ mR h' m A s' F' ∧ ab_kp mX h h' ∧ P r s' F'
theorem mT_no {h : AbH} {m : Nat} {A : Nat → Nat} {P : Option AbV → (Nat → Int) → (Nat → Int → Int) → Prop} {X : String} {h' : AbH} : ¬ mT h m A P (.inr X) h' := fun ⟨_, _, _, e, _⟩ => by cases e
end MO
