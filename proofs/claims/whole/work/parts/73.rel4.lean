/-! cells that are new; a law more -/
section REL5
variable {h h' : AbH} {x : Nat} {B : Nat → Nat} {s : Nat → Int} {F : Nat → Int → Int} {C : Nat → Int → Int} {SA : Nat → Int → Option Nat} {la : Option Nat} {q : Nat → Int}
theorem lawsR.kpG {N mb : Nat} {SL : Int → Option Nat} {G : Int} {P : Nat → Prop} (r : lawsR h N SL G mb F) (k : ab_kp P h h') (hp : ∀ j : Nat, mb ≤ j → j < mb + 8 * G.toNat → P j) : lawsR h' N SL G mb F := fun q q0 q1 => ⟨fun g => by
  obtain ⟨a, e, c⟩ := (r q q0 q1).1 g
  exact ⟨a, e, lawC_kp k (fun j hj => hp _ (by omega) (by omega)) c⟩, (r q q0 q1).2⟩
/-- marks of cells that are the class's own -/
def cOwn (s : Nat → Int) (j : Nat) : Prop := (2 ≤ j ∧ j < 12) ∨ (100 ≤ j ∧ j < 148) ∨ (208 ≤ j ∧ j < 208 + 8 * (s 7).toNat) ∨ (400 ≤ j ∧ j < 432) ∨ (600 ≤ j ∧ j < 608)
theorem RCx.fr {P : Nat → Prop} (r : RCx h x B s F C SA la q) (k : ab_kp P h h') (p : ∀ j : Nat, cOwn s j → P j) : RCx h' x B s F C SA la q :=
  ⟨k _ _ r.o (p 2 (Or.inl (by decide))), k _ _ r.ss (p 3 (Or.inl (by decide))), k _ _ r.ls (p 4 (Or.inl (by decide))), k _ _ r.ms (p 5 (Or.inl (by decide))), k _ _ r.qs (p 6 (Or.inl (by decide))), k _ _ r.sr (p 8 (Or.inl (by decide))), k _ _ r.mk (p 9 (Or.inl (by decide))), k _ _ r.lt (p 10 (Or.inl (by decide))), k _ _ r.gr (p 11 (Or.inl (by decide))), r.sh.kp k (fun j j0 j1 => p j (Or.inr (Or.inl ⟨j0, j1⟩))), r.lw.kpG k (fun j j0 j1 => p j (Or.inr (Or.inr (Or.inl ⟨j0, j1⟩)))), r.mp.kp k (fun j j0 j1 => p j (Or.inr (Or.inr (Or.inr (Or.inl ⟨j0, j1⟩))))), r.sq.kp k (fun j j0 j1 => p j (Or.inr (Or.inr (Or.inr (Or.inr ⟨j0, by omega⟩)))))⟩
/-- law s 7 is told -/
abbrev lawF (F : Nat → Int → Int) (g t a b n : Int) (w : Int → Int) : Nat → Int → Int := ab_u (ab_u (ab_u (ab_u (ab_u F 8 (ab_f (F 8) g t)) 9 (ab_f (F 9) g a)) 10 (ab_f (F 10) g b)) 11 (ab_f (F 11) g n)) 12 (fil (F 12) (80 * g) n w)
/-- the cells of a law that is made -/
def mkL (h : AbH) (g a : Nat) (t u v n : Int) (w : Int → Int) : Prop :=
  (t = 0 ∧ ∃ (b : Nat) (f : Int → Int), h a = some (kO g 6 [vR b]) ∧ h b = some (kI (g + 1) n.toNat f) ∧ ∀ i : Int, 0 ≤ i → i < n → f i = w i) ∨
  (t = 1 ∧ h a = some (kO g 2 [vI u, vI v, vI 0])) ∨ (t = 2 ∧ h a = some (kO g 2 [vI u, vI v, vI 1])) ∨ (t = 3 ∧ h a = some (kO g 1 [vI u])) ∨ (t = 4 ∧ h a = some (kO g 7 [])) ∨
  (t = 5 ∧ ∃ f : Int → Int, shC h g a f n.toNat ∧ ∀ i : Int, 0 ≤ i → i < n → f i = w i)
theorem mkL.kp {g a : Nat} {t u v n : Int} {w : Int → Int} {P : Nat → Prop} (r : mkL h g a t u v n w) (k : ab_kp P h h') (hp : ∀ j : Nat, j ≤ 5 → P (g + j)) : mkL h' g a t u v n w := by
  have p0 := hp 0 (by omega)
  rcases r with ⟨c, b, t, c1, c2, c3⟩ | ⟨c, c1⟩ | ⟨c, c1⟩ | ⟨c, c1⟩ | ⟨c, c1⟩ | ⟨c, t, c1, c2⟩
  · exact Or.inl ⟨c, b, t, k _ _ c1 p0, k _ _ c2 (hp 1 (by omega)), c3⟩
  · exact Or.inr (Or.inl ⟨c, k _ _ c1 p0⟩)
  · exact Or.inr (Or.inr (Or.inl ⟨c, k _ _ c1 p0⟩))
  · exact Or.inr (Or.inr (Or.inr (Or.inl ⟨c, k _ _ c1 p0⟩)))
  · exact Or.inr (Or.inr (Or.inr (Or.inr (Or.inl ⟨c, k _ _ c1 p0⟩))))
  · exact Or.inr (Or.inr (Or.inr (Or.inr (Or.inr ⟨c, t, shC_kp k hp c1, c2⟩))))
theorem lawF8 {g t a b n : Int} {w : Int → Int} : lawF F g t a b n w 8 = ab_f (F 8) g t := by simp [lawF, ab_u]
theorem lawF9 {g t a b n : Int} {w : Int → Int} : lawF F g t a b n w 9 = ab_f (F 9) g a := by simp [lawF, ab_u]
theorem lawF10 {g t a b n : Int} {w : Int → Int} : lawF F g t a b n w 10 = ab_f (F 10) g b := by simp [lawF, ab_u]
theorem lawF11 {g t a b n : Int} {w : Int → Int} : lawF F g t a b n w 11 = ab_f (F 11) g n := by simp [lawF, ab_u]
theorem lawF12 {g t a b n : Int} {w : Int → Int} : lawF F g t a b n w 12 = fil (F 12) (80 * g) n w := by simp [lawF, ab_u]
theorem lawF_at {g t a b n : Int} {w : Int → Int} : lawF F g t a b n w 8 g = t ∧ lawF F g t a b n w 9 g = a ∧ lawF F g t a b n w 10 g = b ∧ lawF F g t a b n w 11 g = n ∧ (∀ i : Int, 0 ≤ i → i < n → lawF F g t a b n w 12 (80 * g + i) = w i) := by
  rw [lawF8, lawF9, lawF10, lawF11, lawF12, ab_f_eq rfl, ab_f_eq rfl, ab_f_eq rfl, ab_f_eq rfl]
  exact ⟨rfl, rfl, rfl, rfl, fun i i0 i1 => fil_at i0 i1⟩
theorem lawF_out {g t a b n p : Int} {w : Int → Int} (hp : p < g) : lawF F g t a b n w 8 p = F 8 p ∧ lawF F g t a b n w 9 p = F 9 p ∧ lawF F g t a b n w 10 p = F 10 p ∧ lawF F g t a b n w 11 p = F 11 p ∧ (∀ i : Int, i < 80 → lawF F g t a b n w 12 (80 * p + i) = F 12 (80 * p + i)) := by
  have e : ¬ p = g := by omega
  rw [lawF8, lawF9, lawF10, lawF11, lawF12, ab_f_ne e, ab_f_ne e, ab_f_ne e, ab_f_ne e]
  exact ⟨rfl, rfl, rfl, rfl, fun i i1 => fil_out (by omega)⟩
theorem lawF_ne {g t a b n : Int} {w : Int → Int} {j : Nat} (h8 : j ≠ 8) (h9 : j ≠ 9) (h10 : j ≠ 10) (h11 : j ≠ 11) (h12 : j ≠ 12) : lawF F g t a b n w j = F j := by
  unfold lawF
  rw [ab_u_ne h12, ab_u_ne h11, ab_u_ne h10, ab_u_ne h9, ab_u_ne h8]
theorem mkL.law {g0 a : Nat} {g t u v n : Int} {w : Int → Int} (r : mkL h g0 a t u v n w) : lawC h g0 a (lawF F g t u v n w) g := by
  obtain ⟨f8, f9, f10, f11, f12⟩ := lawF_at (F := F) (g := g) (t := t) (a := u) (b := v) (n := n) (w := w)
  unfold lawC
  rw [f8, f9, f10, f11]
  rcases r with ⟨c, b, t, c1, c2, c3⟩ | c | c | c | ⟨c, c1⟩ | ⟨c, t, c1, c2⟩
  · exact Or.inl ⟨c, b, t, c1, c2, fun i i0 i1 => by rw [f12 i i0 i1]; exact c3 i i0 i1⟩
  · exact Or.inr (Or.inl c)
  · exact Or.inr (Or.inr (Or.inl c))
  · exact Or.inr (Or.inr (Or.inr (Or.inl ⟨c.1, c.2⟩)))
  · exact Or.inr (Or.inr (Or.inr (Or.inr (Or.inl ⟨c, c1⟩))))
  · exact Or.inr (Or.inr (Or.inr (Or.inr (Or.inr ⟨c, t, c1, fun i i0 i1 => by rw [f12 i i0 i1]; exact c2 i i0 i1⟩))))
/-- rows of one law alike -/
theorem lawC_eq {F' : Nat → Int → Int} {g a : Nat} {q : Int} (e8 : F' 8 q = F 8 q) (e9 : F' 9 q = F 9 q) (e10 : F' 10 q = F 10 q) (e11 : F' 11 q = F 11 q) (e12 : ∀ i : Int, 0 ≤ i → i < F 11 q → F' 12 (80 * q + i) = F 12 (80 * q + i)) (c : lawC h g a F q) : lawC h g a F' q := by
  unfold lawC at c ⊢
  rw [e8, e9, e10, e11]
  rcases c with ⟨c, b, t, c1, c2, c3⟩ | c | c | c | c | ⟨c, t, c1, c2⟩
  · exact Or.inl ⟨c, b, t, c1, c2, fun i i0 i1 => by rw [e12 i i0 i1]; exact c3 i i0 i1⟩
  · exact Or.inr (Or.inl c)
  · exact Or.inr (Or.inr (Or.inl c))
  · exact Or.inr (Or.inr (Or.inr (Or.inl c)))
  · exact Or.inr (Or.inr (Or.inr (Or.inr (Or.inl c))))
  · exact Or.inr (Or.inr (Or.inr (Or.inr (Or.inr ⟨c, t, c1, fun i i0 i1 => by rw [e12 i i0 i1]; exact c2 i i0 i1⟩))))
theorem RCx.addLaw {a : Nat} {t u v n : Int} {w : Int → Int} (r : RCx h x B s F C SA la q) (k : ab_kp (cP [2, 4]) h h') (g0 : 0 ≤ s 7) (g1 : s 7 < 12) (hx : h' x = some (kO 2 8 [vR (B 0), vI (s 1), vR (B 2), vI (s 7 + 1), vR (B 4), vR (B 5), vR (B 6), vR (B 7), vR (B 8)])) (hL : h' (B 2) = some (kA 4 "WordBench$Law" 12 (ab_f (SA 2) (s 7) (some a)))) (hm : mkL h' (208 + 8 * (s 7).toNat) a t u v n w) (lb : ∀ q : Int, 0 ≤ q → q < s 7 → lawB F q) : RCx h' x B (ab_u s 7 (s 7 + 1)) (lawF F (s 7) t u v n w) C (ab_u SA 2 (ab_f (SA 2) (s 7) (some a))) la q := by
  have pp : ∀ g : Nat, g ≠ 2 → g ≠ 4 → cP [2, 4] g := fun g a b => by unfold cP; simp; omega
  refine ⟨by rw [ab_u_ne (by decide), ab_u_eq]; exact hx, by rw [ab_u_ne (by decide)]; exact k _ _ r.ss (pp 3 (by decide) (by decide)), by rw [ab_u_eq]; exact hL, by rw [ab_u_ne (by decide)]; exact k _ _ r.ms (pp 5 (by decide) (by decide)), by rw [ab_u_ne (by decide)]; exact k _ _ r.qs (pp 6 (by decide) (by decide)), by rw [ab_u_ne (by decide)]; exact k _ _ r.sr (pp 8 (by decide) (by decide)), k _ _ r.mk (pp 9 (by decide) (by decide)), k _ _ r.lt (pp 10 (by decide) (by decide)), k _ _ r.gr (pp 11 (by decide) (by decide)), ?_, ?_, ?_, by rw [ab_u_ne (by decide)]; exact r.sq.kp k (fun j j0 j1 => pp j (by omega) (by omega))⟩
  · rw [ab_u_ne (by decide), ab_u_ne (by decide)]
    intro i hi
    have q9 := (r.sh.kp k (fun j j0 j1 => pp j (by omega) (by omega))) i hi
    refine ⟨fun g9 => ?_, q9.2⟩
    obtain ⟨a1, b1, c1, gg, z1, e1, r1⟩ := q9.1 g9
    refine ⟨a1, b1, c1, gg, z1, e1, ?_⟩
    unfold sheetC at r1 ⊢
    rw [lawF_ne (j := 2) (by decide) (by decide) (by decide) (by decide) (by decide), lawF_ne (j := 3) (by decide) (by decide) (by decide) (by decide) (by decide), lawF_ne (j := 4) (by decide) (by decide) (by decide) (by decide) (by decide)]
    exact r1
  · rw [ab_u_eq, ab_u_eq]
    intro p p0 p1
    by_cases e : p = s 7
    · refine ⟨fun _ => ⟨a, ab_f_eq e, ?_⟩, fun g9 => by omega⟩
      rw [e]
      exact hm.law
    · have q9 := (r.lw.kp k (fun j j0 j1 => pp j (by omega) (by omega))) p p0 p1
      rw [ab_f_ne e]
      refine ⟨fun g9 => ?_, fun g9 => q9.2 (by omega)⟩
      obtain ⟨a1, e1, c1⟩ := q9.1 (by omega)
      obtain ⟨f8, f9, f10, f11, f12⟩ := lawF_out (F := F) (g := s 7) (t := t) (a := u) (b := v) (n := n) (p := p) (w := w) (by omega)
      refine ⟨a1, e1, ?_⟩
      have l9 : (F 8 p = 0 ∨ F 8 p = 5) → F 11 p ≤ 60 := by have := lb p p0 (by omega); unfold lawB at this; omega
      rcases c1 with c | c | c | c | c | c
      · exact lawC_eq f8 f9 f10 f11 (fun i i0 i1 => f12 i (by have := l9 (Or.inl c.1); omega)) (Or.inl c)
      · unfold lawC; rw [f8, f9, f10]; exact Or.inr (Or.inl c)
      · unfold lawC; rw [f8, f9, f10]; exact Or.inr (Or.inr (Or.inl c))
      · unfold lawC; rw [f8, f9, f10]; exact Or.inr (Or.inr (Or.inr (Or.inl c)))
      · unfold lawC; rw [f8, f9, f10]; exact Or.inr (Or.inr (Or.inr (Or.inr (Or.inl c))))
      · exact lawC_eq f8 f9 f10 f11 (fun i i0 i1 => f12 i (by have := l9 (Or.inr c.1); omega)) (Or.inr (Or.inr (Or.inr (Or.inr (Or.inr c)))))
  · rw [ab_u_ne (by decide)]
    intro m hm9
    have q9 := (r.mp.kp k (fun j j0 j1 => pp j (by omega) (by omega))) m hm9
    rw [lawF_ne (j := 35) (by decide) (by decide) (by decide) (by decide) (by decide)]
    refine ⟨fun g9 => ?_, q9.2⟩
    obtain ⟨a2, e2, c2⟩ := q9.1 g9
    refine ⟨a2, e2, ?_⟩
    unfold mapC mSz mWd at c2 ⊢
    rw [lawF_ne (j := 36) (by decide) (by decide) (by decide) (by decide) (by decide), lawF_ne (j := 37) (by decide) (by decide) (by decide) (by decide) (by decide), lawF_ne (j := 38) (by decide) (by decide) (by decide) (by decide) (by decide)]
    exact c2
end REL5
