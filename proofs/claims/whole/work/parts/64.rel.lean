/-! THE CLASS'S CELLS, held to the reference's numbers s and rows F. Marks: WordBench 2, sheets 3, laws 4, maps 5, squareLaws 6, Search 8, made 9, letters 10, grown 11; sheet i from 100 + 3 i, law q from 208 + 8 q, map m from 400 + 4 m, the law of squares from 600 on -/
section REL
def sheetC (h : AbH) (i a b c : Nat) (g z : Int → Int) (F : Nat → Int → Int) : Prop := h a = some (kO (100 + 3 * i) 5 [vI (F 2 i), vR b, vR c]) ∧ h b = some (kI (101 + 3 * i) 800 g) ∧ h c = some (kI (102 + 3 * i) 10 z) ∧ (∀ k : Int, 0 ≤ k → k < 10 → z k = F 3 (10 * i + k)) ∧ ∀ k : Int, 0 ≤ k → k < 10 → ∀ j : Int, 0 ≤ j → j < F 3 (10 * i + k) → g (80 * k + j) = F 4 (80 * (10 * i + k) + j)
def shR (h : AbH) (SS : Int → Option Nat) (G : Int) (F : Nat → Int → Int) : Prop := ∀ i : Nat, i < 16 → ((i : Int) < G → ∃ (a b c : Nat) (g z : Int → Int), SS i = some a ∧ sheetC h i a b c g z F) ∧ (G ≤ (i : Int) → SS i = none)
def mapC (h : AbH) (g a : Nat) (F : Nat → Int → Int) (m : Int) : Prop := ∃ (b1 b2 b3 : Nat) (z t gz : Int → Int), h a = some (kO g 0 [vI (F 36 m), vR b1, vR b2, vR b3]) ∧ h b1 = some (kI (g + 1) 8 z) ∧ h b2 = some (kI (g + 2) 160 t) ∧ h b3 = some (kJ (g + 3) 248 gz) ∧ (∀ x : Int, 0 ≤ x → x < F 36 m → z x = mSz F m x) ∧ (∀ x : Int, 0 ≤ x → x < F 36 m → ∀ i : Int, 0 ≤ i → i < mSz F m x → t (20 * x + i) = mWd F m x i) ∧ grOk gz z t (F 36 m) 31
def mapR (h : AbH) (SM : Int → Option Nat) (F : Nat → Int → Int) : Prop := ∀ m : Nat, m < 8 → (F 35 m ≠ 0 → ∃ a : Nat, SM m = some a ∧ mapC h (400 + 4 * m) a F m) ∧ (F 35 m = 0 → SM m = none)
/-- the law of squares -/
def Fsq : Nat → Int → Int := fun k _ => if k = 9 then 2 else 1
def RCx (h : AbH) (x : Nat) (B : Nat → Nat) (s : Nat → Int) (F : Nat → Int → Int) (C : Nat → Int → Int) (SA : Nat → Int → Option Nat) (la : Option Nat) (q : Nat → Int) : Prop :=
  h x = some (kO 2 8 [vR (B 0), vI (s 1), vR (B 2), vI (s 7), vR (B 4), vR (B 5), vR (B 6), vR (B 7), vR (B 8)]) ∧
  h (B 0) = some (kA 3 "WordBench$Sheet" 16 (SA 0)) ∧ h (B 2) = some (kA 4 "WordBench$Law" 12 (SA 2)) ∧ h (B 4) = some (kA 5 "WordBench$LetterMap" 8 (SA 4)) ∧ h (B 5) = some (kA 6 "WordBench$Law" 1 (SA 5)) ∧
  h (B 6) = some (kO 8 3 [vR (B 9), vO la, vI (q 2), vI (q 3), vI (q 4), vI (q 5), vI (s 23), vI (q 7), vI (q 8), vI (q 9), vI (q 10), vI (q 11)]) ∧
  h (B 9) = some (kI 9 60 (C 9)) ∧ h (B 7) = some (kI 10 60 (C 10)) ∧ h (B 8) = some (kI 11 360 (C 11)) ∧
  shR h (SA 0) (s 1) F ∧ lawsR h 12 (SA 2) (s 7) 208 F ∧ mapR h (SA 4) F ∧ lawsR h 1 (SA 5) 1 600 Fsq
variable {h h' : AbH} {x : Nat} {B : Nat → Nat} {s : Nat → Int} {F : Nat → Int → Int} {C : Nat → Int → Int} {SA : Nat → Int → Option Nat} {la : Option Nat} {q : Nat → Int} {L : List Nat}
theorem RCx.o (r : RCx h x B s F C SA la q) : h x = some (kO 2 8 [vR (B 0), vI (s 1), vR (B 2), vI (s 7), vR (B 4), vR (B 5), vR (B 6), vR (B 7), vR (B 8)]) := r.1
theorem RCx.ss (r : RCx h x B s F C SA la q) : h (B 0) = some (kA 3 "WordBench$Sheet" 16 (SA 0)) := r.2.1
theorem RCx.ls (r : RCx h x B s F C SA la q) : h (B 2) = some (kA 4 "WordBench$Law" 12 (SA 2)) := r.2.2.1
theorem RCx.ms (r : RCx h x B s F C SA la q) : h (B 4) = some (kA 5 "WordBench$LetterMap" 8 (SA 4)) := r.2.2.2.1
theorem RCx.qs (r : RCx h x B s F C SA la q) : h (B 5) = some (kA 6 "WordBench$Law" 1 (SA 5)) := r.2.2.2.2.1
theorem RCx.sr (r : RCx h x B s F C SA la q) : h (B 6) = some (kO 8 3 [vR (B 9), vO la, vI (q 2), vI (q 3), vI (q 4), vI (q 5), vI (s 23), vI (q 7), vI (q 8), vI (q 9), vI (q 10), vI (q 11)]) := r.2.2.2.2.2.1
theorem RCx.mk (r : RCx h x B s F C SA la q) : h (B 9) = some (kI 9 60 (C 9)) := r.2.2.2.2.2.2.1
theorem RCx.lt (r : RCx h x B s F C SA la q) : h (B 7) = some (kI 10 60 (C 10)) := r.2.2.2.2.2.2.2.1
theorem RCx.gr (r : RCx h x B s F C SA la q) : h (B 8) = some (kI 11 360 (C 11)) := r.2.2.2.2.2.2.2.2.1
theorem RCx.sh (r : RCx h x B s F C SA la q) : shR h (SA 0) (s 1) F := r.2.2.2.2.2.2.2.2.2.1
theorem RCx.lw (r : RCx h x B s F C SA la q) : lawsR h 12 (SA 2) (s 7) 208 F := r.2.2.2.2.2.2.2.2.2.2.1
theorem RCx.mp (r : RCx h x B s F C SA la q) : mapR h (SA 4) F := r.2.2.2.2.2.2.2.2.2.2.2.1
theorem RCx.sq (r : RCx h x B s F C SA la q) : lawsR h 1 (SA 5) 1 600 Fsq := r.2.2.2.2.2.2.2.2.2.2.2.2
theorem sheetC.kp {i a b c : Nat} {g z : Int → Int} {P : Nat → Prop} (r : sheetC h i a b c g z F) (k : ab_kp P h h') (p : ∀ j : Nat, j ≤ 2 → P (100 + 3 * i + j)) : sheetC h' i a b c g z F := ⟨k _ _ r.1 (p 0 (by omega)), k _ _ r.2.1 (by have := p 1 (by omega); rw [show 100 + 3 * i + 1 = 101 + 3 * i by omega] at this; exact this), k _ _ r.2.2.1 (by have := p 2 (by omega); rw [show 100 + 3 * i + 2 = 102 + 3 * i by omega] at this; exact this), r.2.2.2⟩
theorem shR.kp {SS : Int → Option Nat} {G : Int} {P : Nat → Prop} (r : shR h SS G F) (k : ab_kp P h h') (p : ∀ j : Nat, 100 ≤ j → j < 148 → P j) : shR h' SS G F := fun i hi => ⟨fun g => by
  obtain ⟨a, b, c, g, z, e, r9⟩ := (r i hi).1 g
  exact ⟨a, b, c, g, z, e, r9.kp k (fun j hj => p _ (by omega) (by omega))⟩, (r i hi).2⟩
theorem mapC.kp {g a : Nat} {m : Int} {P : Nat → Prop} (r : mapC h g a F m) (k : ab_kp P h h') (p : ∀ j : Nat, j ≤ 3 → P (g + j)) : mapC h' g a F m := by
  obtain ⟨b1, b2, b3, z, t, gz, c0, c1, c2, c3, c4⟩ := r
  exact ⟨b1, b2, b3, z, t, gz, k _ _ c0 (p 0 (by omega)), k _ _ c1 (p 1 (by omega)), k _ _ c2 (p 2 (by omega)), k _ _ c3 (p 3 (by omega)), c4⟩
theorem mapR.kp {SM : Int → Option Nat} {P : Nat → Prop} (r : mapR h SM F) (k : ab_kp P h h') (p : ∀ j : Nat, 400 ≤ j → j < 432 → P j) : mapR h' SM F := fun m hm => ⟨fun g => by
  obtain ⟨a, e, c⟩ := (r m hm).1 g
  exact ⟨a, e, c.kp k (fun j hj => p _ (by omega) (by omega))⟩, (r m hm).2⟩
/-- the laws alone are told anew, and what is only scratch -/
theorem RCx.mix {C' : Nat → Int → Int} {la' : Option Nat} {q' : Nat → Int} {s' : Nat → Int} (r : RCx h x B s F C SA la q) (k : ab_kp (cP L) h h') (hp : ∀ g ∈ L, g = 8 ∨ g = 9 ∨ g = 10 ∨ g = 11 ∨ g = 200) (hs : ∀ j : Nat, j ≠ 0 → j ≠ 23 → s' j = s j)
    (a1 : h' (B 6) = some (kO 8 3 [vR (B 9), vO la', vI (q' 2), vI (q' 3), vI (q' 4), vI (q' 5), vI (s' 23), vI (q' 7), vI (q' 8), vI (q' 9), vI (q' 10), vI (q' 11)])) (a2 : h' (B 9) = some (kI 9 60 (C' 9))) (a3 : h' (B 7) = some (kI 10 60 (C' 10))) (a4 : h' (B 8) = some (kI 11 360 (C' 11))) (a5 : lawsR h' 12 (SA 2) (s 7) 208 F) : RCx h' x B s' F C' SA la' q' := by
  have pp : ∀ g : Nat, g ≠ 8 → g ≠ 9 → g ≠ 10 → g ≠ 11 → (g < 200 ∨ 400 ≤ g) → cP L g := fun g g1 g2 g3 g4 g5 => ⟨fun e => by rcases hp g e with e | e | e | e | e <;> omega, fun a b => by omega⟩
  have s1 := hs 1 (by decide) (by decide)
  have s7 := hs 7 (by decide) (by decide)
  refine ⟨by rw [s1, s7]; exact k _ _ r.o (pp 2 (by decide) (by decide) (by decide) (by decide) (by decide)), k _ _ r.ss (pp 3 (by decide) (by decide) (by decide) (by decide) (by decide)), k _ _ r.ls (pp 4 (by decide) (by decide) (by decide) (by decide) (by decide)), k _ _ r.ms (pp 5 (by decide) (by decide) (by decide) (by decide) (by decide)), k _ _ r.qs (pp 6 (by decide) (by decide) (by decide) (by decide) (by decide)), a1, a2, a3, a4, ?_, by rw [s7]; exact a5, ?_, ?_⟩
  · rw [s1]; exact r.sh.kp k (fun j j0 j1 => pp j (by omega) (by omega) (by omega) (by omega) (by omega))
  · exact r.mp.kp k (fun j j0 j1 => pp j (by omega) (by omega) (by omega) (by omega) (by omega))
  · exact r.sq.kp k (fun j j0 j1 => pp j (by omega) (by omega) (by omega) (by omega) (by omega))
theorem RCx.let (r : RCx h x B s F C SA la q) (k : ab_kp (cP [10]) h h') {f : Int → Int} (a3 : h' (B 7) = some (kI 10 60 f)) : RCx h' x B s F (ab_u C 10 f) SA la q := r.mix k (by simp) (fun _ _ _ => rfl) (k _ _ r.sr (by unfold cP; simp)) (by rw [ab_u_ne (by decide)]; exact k _ _ r.mk (by unfold cP; simp)) (by rw [ab_u_eq]; exact a3) (by rw [ab_u_ne (by decide)]; exact k _ _ r.gr (by unfold cP; simp)) (r.lw.kp k (fun j j0 j1 => by unfold cP; simp; omega))
theorem RCx.law (r : RCx h x B s F C SA la q) (k : ab_kp (cP [200]) h h') (a5 : lawsR h' 12 (SA 2) (s 7) 208 F) : RCx h' x B s F C SA la q := r.mix k (by simp) (fun _ _ _ => rfl) (k _ _ r.sr (by unfold cP; simp)) (k _ _ r.mk (by unfold cP; simp)) (k _ _ r.lt (by unfold cP; simp)) (k _ _ r.gr (by unfold cP; simp)) a5
/-- sheet i is told anew -/
theorem RCx.shn {F' : Nat → Int → Int} {i a b c : Nat} {g z : Int → Int} (r : RCx h x B s F C SA la q) (k : ab_kp (cP L) h h') (hi : i < 16) (hL : ∀ g ∈ L, g = 101 + 3 * i ∨ g = 102 + 3 * i) (hG : (i : Int) < s 1) (e : SA 0 i = some a) (c9 : sheetC h' i a b c g z F') (f2 : F' 2 = F 2) (f3 : ∀ j : Int, ¬ (10 * (i : Int) ≤ j ∧ j < 10 * i + 10) → F' 3 j = F 3 j) (f4 : ∀ j : Int, ¬ (800 * (i : Int) ≤ j ∧ j < 800 * i + 800) → F' 4 j = F 4 j) (ff : ∀ j : Nat, j ≠ 3 → j ≠ 4 → F' j = F j) (b3 : ∀ j, 0 ≤ j → j < 160 → -1 ≤ F 3 j ∧ F 3 j ≤ 80) : RCx h' x B s F' C SA la q := by
  have pp : ∀ g : Nat, g ≠ 101 + 3 * i → g ≠ 102 + 3 * i → cP L g := fun g g1 g2 => ⟨fun e => by rcases hL g e with e | e <;> omega, fun a b e => by rcases hL 200 e with e | e <;> omega⟩
  have le : F' 8 = F 8 ∧ F' 9 = F 9 ∧ F' 10 = F 10 ∧ F' 11 = F 11 ∧ F' 12 = F 12 := ⟨ff 8 (by decide) (by decide), ff 9 (by decide) (by decide), ff 10 (by decide) (by decide), ff 11 (by decide) (by decide), ff 12 (by decide) (by decide)⟩
  refine ⟨k _ _ r.o (pp 2 (by omega) (by omega)), k _ _ r.ss (pp 3 (by omega) (by omega)), k _ _ r.ls (pp 4 (by omega) (by omega)), k _ _ r.ms (pp 5 (by omega) (by omega)), k _ _ r.qs (pp 6 (by omega) (by omega)), k _ _ r.sr (pp 8 (by omega) (by omega)), k _ _ r.mk (pp 9 (by omega) (by omega)), k _ _ r.lt (pp 10 (by omega) (by omega)), k _ _ r.gr (pp 11 (by omega) (by omega)), fun j hj => ⟨fun g9 => ?_, (r.sh j hj).2⟩, ?_, ?_, r.sq.kp k (fun j j0 j1 => pp j (by omega) (by omega))⟩
  · by_cases ej : j = i
    · subst ej
      exact ⟨a, b, c, g, z, e, c9⟩
    · obtain ⟨a1, b1, c1, g1, z1, e1, r1⟩ := (r.sh j hj).1 g9
      obtain ⟨q1, q2, q3, q4, q5⟩ := r1.kp k (fun u hu => pp _ (by omega) (by omega))
      refine ⟨a1, b1, c1, g1, z1, e1, by rw [f2]; exact q1, q2, q3, fun k k0 k1 => ?_, fun k k0 k1 u u0 u1 => ?_⟩
      · rw [f3 _ (by omega)]; exact q4 k k0 k1
      · rw [f3 _ (by omega)] at u1
        have u80 := (b3 (10 * (j : Int) + k) (by omega) (by omega)).2
        rw [f4 _ (by omega)]; exact q5 k k0 k1 u u0 u1
  · intro q0 a0 a1
    have q9 := (r.lw.kp k (fun j j0 j1 => pp j (by omega) (by omega))) q0 a0 a1
    refine ⟨fun g9 => ?_, q9.2⟩
    obtain ⟨a2, e2, c2⟩ := q9.1 g9
    refine ⟨a2, e2, ?_⟩
    unfold lawC at c2 ⊢
    rw [le.1, le.2.1, le.2.2.1, le.2.2.2.1, le.2.2.2.2]
    exact c2
  · intro m hm
    have q9 := (r.mp.kp k (fun j j0 j1 => pp j (by omega) (by omega))) m hm
    rw [ff 35 (by decide) (by decide)]
    refine ⟨fun g9 => ?_, q9.2⟩
    obtain ⟨a2, e2, c2⟩ := q9.1 g9
    refine ⟨a2, e2, ?_⟩
    unfold mapC mSz mWd at c2 ⊢
    rw [ff 36 (by decide) (by decide), ff 37 (by decide) (by decide), ff 38 (by decide) (by decide)]
    exact c2
theorem shR.no {SS : Int → Option Nat} {G i : Int} {a : Nat} (r : shR h SS G F) (i0 : 0 ≤ i) (i1 : i < 16) (e : SS i = some a) : i < G := by
  rcases Int.lt_or_le i G with g | g
  · exact g
  · have := (r i.toNat (by omega)).2 (by omega)
    rw [show ((i.toNat : Nat) : Int) = i by omega, e] at this
    cases this
theorem shR.yes {SS : Int → Option Nat} {G i : Int} {a : Nat} (r : shR h SS G F) (i0 : 0 ≤ i) (i1 : i < 16) (e : SS i = some a) : ∃ (b c : Nat) (g z : Int → Int), sheetC h i.toNat a b c g z F := by
  obtain ⟨a', b, c, g, z, e', k⟩ := (r i.toNat (by omega)).1 (by have := r.no i0 i1 e; omega)
  rw [show ((i.toNat : Nat) : Int) = i by omega, e] at e'
  cases e'
  exact ⟨b, c, g, z, k⟩
theorem shR.nn {SS : Int → Option Nat} {G i : Int} (r : shR h SS G F) (i0 : 0 ≤ i) (i1 : i < 16) (e : SS i = none) : G ≤ i := by
  rcases Int.lt_or_le i G with g | g
  · obtain ⟨a', b, c, g, z, e', k⟩ := (r i.toNat (by omega)).1 (by omega)
    rw [show ((i.toNat : Nat) : Int) = i by omega, e] at e'
    cases e'
  · exact g
end REL
