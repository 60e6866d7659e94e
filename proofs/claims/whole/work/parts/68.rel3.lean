/-! a row of a sheet is told anew -/
section REL3
variable {h h' : AbH} {x : Nat} {B : Nat → Nat} {s : Nat → Int} {F : Nat → Int → Int} {C : Nat → Int → Int} {SA : Nat → Int → Option Nat} {la : Option Nat} {q : Nat → Int} {L : List Nat}
theorem RCx.shI {F' : Nat → Int → Int} {a b c : Nat} {g z g' z' : Int → Int} {i : Int} (r : RCx h x B s F C SA la q) (k : ab_kp (cP L) h h') (i0 : 0 ≤ i) (i1 : i < 16) (hL : ∀ g ∈ L, g = 101 + 3 * i.toNat ∨ g = 102 + 3 * i.toNat) (hG : i < s 1) (e : SA 0 i = some a) (c9 : sheetC h i.toNat a b c g z F) (hb : h' b = some (kI (101 + 3 * i.toNat) 800 g')) (hc : h' c = some (kI (102 + 3 * i.toNat) 10 z')) (hz : ∀ k : Int, 0 ≤ k → k < 10 → z' k = F' 3 (10 * i + k)) (hg : ∀ k : Int, 0 ≤ k → k < 10 → ∀ j : Int, 0 ≤ j → j < F' 3 (10 * i + k) → g' (80 * k + j) = F' 4 (80 * (10 * i + k) + j)) (f3 : ∀ j : Int, ¬ (10 * i ≤ j ∧ j < 10 * i + 10) → F' 3 j = F 3 j) (f4 : ∀ j : Int, ¬ (800 * i ≤ j ∧ j < 800 * i + 800) → F' 4 j = F 4 j) (ff : ∀ j : Nat, j ≠ 3 → j ≠ 4 → F' j = F j) (b3 : ∀ j, 0 ≤ j → j < 160 → -1 ≤ F 3 j ∧ F 3 j ≤ 80) : RCx h' x B s F' C SA la q := by
  have ei : ((i.toNat : Nat) : Int) = i := by omega
  have pa : cP L (100 + 3 * i.toNat) := ⟨fun e => by rcases hL _ e with e | e <;> omega, fun a b => by omega⟩
  refine r.shn k (i := i.toNat) (a := a) (b := b) (c := c) (g := g') (z := z') (by omega) hL (by omega) (by rw [ei]; exact e) ⟨?_, hb, hc, ?_, ?_⟩ (ff 2 (by decide) (by decide)) (by rw [ei]; exact f3) (by rw [ei]; exact f4) ff b3
  · rw [ff 2 (by decide) (by decide)]
    exact k _ _ c9.1 pa
  · rw [ei]; exact hz
  · rw [ei]; exact hg
theorem sheetC.zI {a b c : Nat} {g z : Int → Int} {i : Int} (i0 : 0 ≤ i) (r : sheetC h i.toNat a b c g z F) : (∀ k : Int, 0 ≤ k → k < 10 → z k = F 3 (10 * i + k)) ∧ ∀ k : Int, 0 ≤ k → k < 10 → ∀ j : Int, 0 ≤ j → j < F 3 (10 * i + k) → g (80 * k + j) = F 4 (80 * (10 * i + k) + j) := by
  have ei : ((i.toNat : Nat) : Int) = i := by omega
  have r4 := r.2.2.2
  rw [ei] at r4
  exact r4
/-- row k of sheet i gets n numbers w -/
abbrev rowF (F : Nat → Int → Int) (i k n : Int) (G4 : Int → Int) : Nat → Int → Int := ab_u (ab_u F 3 (ab_f (F 3) (10 * i + k) n)) 4 G4
theorem RCx.row {a b c : Nat} {g z w G4 : Int → Int} {i k9 n : Int} (r : RCx h x B s F C SA la q) (k : ab_kp (cP [101 + 3 * i.toNat, 102 + 3 * i.toNat]) h h') (i0 : 0 ≤ i) (i1 : i < 16) (hG : i < s 1) (e : SA 0 i = some a) (c9 : sheetC h i.toNat a b c g z F) (k0 : 0 ≤ k9) (k1 : k9 < 10) (n1 : n ≤ 80) (hb : h' b = some (kI (101 + 3 * i.toNat) 800 (fil g (80 * k9) n w))) (hc : h' c = some (kI (102 + 3 * i.toNat) 10 (ab_f z k9 n))) (hw : ∀ j : Int, 0 ≤ j → j < n → G4 (80 * (10 * i + k9) + j) = w j) (ho : ∀ j : Int, ¬ (80 * (10 * i + k9) ≤ j ∧ j < 80 * (10 * i + k9) + 80) → G4 j = F 4 j) (b3 : ∀ j, 0 ≤ j → j < 160 → -1 ≤ F 3 j ∧ F 3 j ≤ 80) : RCx h' x B s (rowF F i k9 n G4) C SA la q := by
  obtain ⟨z1, g1⟩ := c9.zI i0
  have F3 : rowF F i k9 n G4 3 = ab_f (F 3) (10 * i + k9) n := by unfold rowF; rw [ab_u_ne (by decide), ab_u_eq]
  have F4 : rowF F i k9 n G4 4 = G4 := by unfold rowF; rw [ab_u_eq]
  refine r.shI k i0 i1 (by simp) hG e c9 hb hc (fun k k0 k1 => ?_) (fun k k0 k1 j j0 j1 => ?_) (fun j hj => ?_) (fun j hj => ?_) (fun j a1 a2 => by unfold rowF; rw [ab_u_ne a2, ab_u_ne a1]) b3
  · rw [F3]
    by_cases g : k = k9
    · rw [ab_f_eq g, ab_f_eq (by omega)]
    · rw [ab_f_ne g, ab_f_ne (by omega)]
      exact z1 k k0 k1
  · rw [F3] at j1
    rw [F4]
    by_cases g : k = k9
    · subst g
      rw [ab_f_eq rfl] at j1
      rw [fil_at j0 j1, hw j j0 j1]
    · rw [ab_f_ne (by omega)] at j1
      have := (b3 (10 * i + k) (by omega) (by omega)).2
      rw [fil_out (by omega), ho _ (by omega)]
      exact g1 k k0 k1 j j0 j1
  · rw [F3, ab_f_ne (by omega)]
  · rw [F4, ho _ (by omega)]
theorem RCx.put {a b c : Nat} {g z : Int → Int} {i k9 u v : Int} (r : RCx h x B s F C SA la q) (k : ab_kp (cP [101 + 3 * i.toNat]) h h') (i0 : 0 ≤ i) (i1 : i < 16) (hG : i < s 1) (e : SA 0 i = some a) (c9 : sheetC h i.toNat a b c g z F) (k0 : 0 ≤ k9) (k1 : k9 < 10) (u0 : 0 ≤ u) (u1 : u < 80) (hb : h' b = some (kI (101 + 3 * i.toNat) 800 (ab_f g (80 * k9 + u) v))) (b3 : ∀ j, 0 ≤ j → j < 160 → -1 ≤ F 3 j ∧ F 3 j ≤ 80) : RCx h' x B s (ab_u F 4 (ab_f (F 4) (80 * (10 * i + k9) + u) v)) C SA la q := by
  obtain ⟨z1, g1⟩ := c9.zI i0
  have F3 : ab_u F 4 (ab_f (F 4) (80 * (10 * i + k9) + u) v) 3 = F 3 := ab_u_ne (by decide)
  refine r.shI k i0 i1 (by simp) hG e c9 hb (k _ _ c9.2.2.1 (by unfold cP; simp; omega)) (fun k k0 k1 => ?_) (fun k k0 k1 j j0 j1 => ?_) (fun j hj => ?_) (fun j hj => ?_) (fun j a1 a2 => ab_u_ne a2) b3
  · rw [F3]; exact z1 k k0 k1
  · rw [F3] at j1
    have := (b3 (10 * i + k) (by omega) (by omega)).2
    rw [ab_u_eq]
    by_cases g9 : 80 * k + j = 80 * k9 + u
    · rw [ab_f_eq g9, ab_f_eq (by omega)]
    · rw [ab_f_ne g9, ab_f_ne (by omega)]
      exact g1 k k0 k1 j j0 j1
  · rw [F3]
  · rw [ab_u_eq, ab_f_ne (by omega)]
theorem RCx.tear {a b c : Nat} {g z : Int → Int} {i k9 : Int} (r : RCx h x B s F C SA la q) (k : ab_kp (cP [102 + 3 * i.toNat]) h h') (i0 : 0 ≤ i) (i1 : i < 16) (hG : i < s 1) (e : SA 0 i = some a) (c9 : sheetC h i.toNat a b c g z F) (k0 : 0 ≤ k9) (k1 : k9 < 10) (hc : h' c = some (kI (102 + 3 * i.toNat) 10 (ab_f z k9 (-1)))) (b3 : ∀ j, 0 ≤ j → j < 160 → -1 ≤ F 3 j ∧ F 3 j ≤ 80) : RCx h' x B s (ab_u F 3 (ab_f (F 3) (10 * i + k9) (-1))) C SA la q := by
  obtain ⟨z1, g1⟩ := c9.zI i0
  have F4 : ab_u F 3 (ab_f (F 3) (10 * i + k9) (-1)) 4 = F 4 := ab_u_ne (by decide)
  refine r.shI k i0 i1 (by simp) hG e c9 (k _ _ c9.2.1 (by unfold cP; simp; omega)) hc (fun k k0 k1 => ?_) (fun k k0 k1 j j0 j1 => ?_) (fun j hj => ?_) (fun j hj => ?_) (fun j a1 a2 => ab_u_ne a1) b3
  · rw [ab_u_eq]
    by_cases g : k = k9
    · rw [ab_f_eq g, ab_f_eq (by omega)]
    · rw [ab_f_ne g, ab_f_ne (by omega)]
      exact z1 k k0 k1
  · rw [ab_u_eq] at j1
    rw [F4]
    by_cases g : k = k9
    · subst g
      rw [ab_f_eq rfl] at j1
      omega
    · rw [ab_f_ne (by omega)] at j1
      exact g1 k k0 k1 j j0 j1
  · rw [ab_u_eq, ab_f_ne (by omega)]
  · rw [F4]
end REL3
section REL4
variable {h h' : AbH} {x : Nat} {B : Nat → Nat} {s : Nat → Int} {F : Nat → Int → Int} {C : Nat → Int → Int} {SA : Nat → Int → Option Nat} {la : Option Nat} {q : Nat → Int}
theorem RCx.sheet {a b c : Nat} {z : Int → Int} {w : Int} (r : RCx h x B s F C SA la q) (k : ab_kp (cP [2, 3, 100 + 3 * (s 1).toNat, 102 + 3 * (s 1).toNat]) h h') (s0 : 0 ≤ s 1) (s1 : s 1 < 16) (hx : h' x = some (kO 2 8 [vR (B 0), vI (s 1 + 1), vR (B 2), vI (s 7), vR (B 4), vR (B 5), vR (B 6), vR (B 7), vR (B 8)])) (hS : h' (B 0) = some (kA 3 "WordBench$Sheet" 16 (ab_f (SA 0) (s 1) (some a)))) (ha : h' a = some (kO (100 + 3 * (s 1).toNat) 5 [vI w, vR b, vR c])) (hb : h' b = some (kI (101 + 3 * (s 1).toNat) 800 (fun _ => 0))) (hc : h' c = some (kI (102 + 3 * (s 1).toNat) 10 z)) (hz : ∀ k : Int, 0 ≤ k → k < 10 → z k = -1) (b9 : ∀ j, 10 * s 1 ≤ j → j < 160 → F 3 j = -1) : RCx h' x B (ab_u s 1 (s 1 + 1)) (ab_u F 2 (ab_f (F 2) (s 1) w)) C (ab_u SA 0 (ab_f (SA 0) (s 1) (some a))) la q := by
  have pp : ∀ g : Nat, g ≠ 2 → g ≠ 3 → (g < 100 + 3 * (s 1).toNat ∨ 148 ≤ g) → cP [2, 3, 100 + 3 * (s 1).toNat, 102 + 3 * (s 1).toNat] g := fun g a b c => by unfold cP; simp; omega
  have ff : ∀ j : Nat, j ≠ 2 → ab_u F 2 (ab_f (F 2) (s 1) w) j = F j := fun j hj => ab_u_ne hj
  refine ⟨by rw [ab_u_eq, ab_u_ne (by decide)]; exact hx, by rw [ab_u_eq]; exact hS, by rw [ab_u_ne (by decide)]; exact k _ _ r.ls (pp 4 (by decide) (by decide) (by omega)), by rw [ab_u_ne (by decide)]; exact k _ _ r.ms (pp 5 (by decide) (by decide) (by omega)), by rw [ab_u_ne (by decide)]; exact k _ _ r.qs (pp 6 (by decide) (by decide) (by omega)), by rw [ab_u_ne (by decide)]; exact k _ _ r.sr (pp 8 (by decide) (by decide) (by omega)), k _ _ r.mk (pp 9 (by decide) (by decide) (by omega)), k _ _ r.lt (pp 10 (by decide) (by decide) (by omega)), k _ _ r.gr (pp 11 (by decide) (by decide) (by omega)), fun i hi => ?_, ?_, ?_, by rw [ab_u_ne (by decide)]; exact r.sq.kp k (fun j j0 j1 => pp j (by omega) (by omega) (by omega))⟩
  · rw [ab_u_eq, ab_u_eq]
    refine ⟨fun g => ?_, fun g => ?_⟩
    · by_cases e : (i : Int) = s 1
      · have ei : i = (s 1).toNat := by omega
        refine ⟨a, b, c, (fun _ => 0), z, ab_f_eq e, ?_⟩
        rw [ei]
        have e2 : (((s 1).toNat : Nat) : Int) = s 1 := by omega
        refine ⟨by rw [ab_u_eq, e2, ab_f_eq rfl]; exact ha, hb, hc, fun k k0 k1 => ?_, fun k k0 k1 j j0 j1 => ?_⟩
        · rw [ff 3 (by decide), hz k k0 k1, e2, b9 _ (by omega) (by omega)]
        · rw [ff 3 (by decide), e2, b9 _ (by omega) (by omega)] at j1
          omega
      · obtain ⟨a1, b1, c1, g1, z1, e1, r1⟩ := (r.sh i hi).1 (by omega)
        obtain ⟨q1, q2, q3, q4, q5⟩ := r1.kp k (fun u hu => pp _ (by omega) (by omega) (by omega))
        refine ⟨a1, b1, c1, g1, z1, by rw [ab_f_ne e]; exact e1, by rw [ab_u_eq, ab_f_ne e]; exact q1, q2, q3, ?_, ?_⟩
        · rw [ff 3 (by decide)]; exact q4
        · rw [ff 3 (by decide), ff 4 (by decide)]; exact q5
    · rw [ab_f_ne (by omega)]
      exact (r.sh i hi).2 (by omega)
  · rw [ab_u_ne (show ¬ 2 = 0 by decide), ab_u_ne (show ¬ 7 = 1 by decide)]
    intro q0 a0 a1
    have q9 := (r.lw.kp k (fun j j0 j1 => pp j (by omega) (by omega) (by omega))) q0 a0 a1
    refine ⟨fun g9 => ?_, q9.2⟩
    obtain ⟨a2, e2, c2⟩ := q9.1 g9
    refine ⟨a2, e2, ?_⟩
    unfold lawC at c2 ⊢
    rw [ff 8 (by decide), ff 9 (by decide), ff 10 (by decide), ff 11 (by decide), ff 12 (by decide)]
    exact c2
  · rw [ab_u_ne (show ¬ 4 = 0 by decide)]
    intro m hm
    have q9 := (r.mp.kp k (fun j j0 j1 => pp j (by omega) (by omega) (by omega))) m hm
    rw [ff 35 (by decide)]
    refine ⟨fun g9 => ?_, q9.2⟩
    obtain ⟨a2, e2, c2⟩ := q9.1 g9
    refine ⟨a2, e2, ?_⟩
    unfold mapC mSz mWd at c2 ⊢
    rw [ff 36 (by decide), ff 37 (by decide), ff 38 (by decide)]
    exact c2
end REL4
