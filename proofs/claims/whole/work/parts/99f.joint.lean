/-! the class and the reference side by side -/
section JT
def IVj (s : Nat → Int) (F : Nat → Int → Int) : Prop := 0 ≤ s 1 ∧ s 1 ≤ 16 ∧ 0 ≤ s 7 ∧ s 7 ≤ 12 ∧ (∀ j : Int, 0 ≤ j → j < 160 → -1 ≤ F 3 j ∧ F 3 j ≤ 80) ∧ (∀ j : Int, 10 * s 1 ≤ j → j < 160 → F 3 j = -1) ∧ (∀ q : Int, 0 ≤ q → q < s 7 → lawB F q) ∧ ∀ b : Int, mkOk F b → mapB F b
/-- alike as far as the class's cells tell -/
def relE (s1 s' : Nat → Int) (F1 F' : Nat → Int → Int) : Prop := s1 1 = s' 1 ∧ s1 7 = s' 7 ∧ s1 23 = s' 23 ∧ F1 2 = F' 2 ∧ F1 3 = F' 3 ∧ F1 4 = F' 4 ∧ F1 8 = F' 8 ∧ F1 9 = F' 9 ∧ F1 10 = F' 10 ∧ F1 11 = F' 11 ∧ F1 12 = F' 12 ∧ F1 35 = F' 35 ∧ F1 36 = F' 36 ∧ ∀ b : Int, mkOk F' b → ∀ x : Int, 0 ≤ x → x < F' 36 b → mSz F1 b x = mSz F' b x ∧ ∀ i : Int, 0 ≤ i → i < mSz F' b x → mWd F1 b x i = mWd F' b x i
def relQ (s1 s' : Nat → Int) (F1 F' : Nat → Int → Int) : Prop := s1 1 = s' 1 ∧ s1 7 = s' 7 ∧ s1 23 = s' 23 ∧ F1 2 = F' 2 ∧ F1 3 = F' 3 ∧ F1 4 = F' 4 ∧ F1 8 = F' 8 ∧ F1 9 = F' 9 ∧ F1 10 = F' 10 ∧ F1 11 = F' 11 ∧ F1 12 = F' 12 ∧ F1 35 = F' 35 ∧ F1 36 = F' 36 ∧ F1 37 = F' 37 ∧ F1 38 = F' 38
variable {s s1 s' : Nat → Int} {F F1 F' : Nat → Int → Int}
theorem relQ.E (h : relQ s1 s' F1 F') : relE s1 s' F1 F' := by
  obtain ⟨e1, e2, e3, e4, e5, e6, e7, e8, e9, e10, e11, e12, e13, e14, e15⟩ := h
  refine ⟨e1, e2, e3, e4, e5, e6, e7, e8, e9, e10, e11, e12, e13, fun b _ x _ _ => ⟨?_, fun i _ _ => ?_⟩⟩
  · show F1 37 _ = F' 37 _
    rw [e14]
  · show F1 38 _ = F' 38 _
    rw [e15]
theorem lawB_eq (e8 : F1 8 = F' 8) (e9 : F1 9 = F' 9) (e10 : F1 10 = F' 10) (e11 : F1 11 = F' 11) (e12 : F1 12 = F' 12) {q : Int} (h : lawB F1 q) : lawB F' q := by
  unfold lawB at h ⊢
  rw [← e8, ← e9, ← e10, ← e11, ← e12]
  exact h
theorem IVj.mv (I : IVj s1 F1) (h : relQ s1 s' F1 F') : IVj s' F' := by
  obtain ⟨e1, e2, e3, e4, e5, e6, e7, e8, e9, e10, e11, e12, e13, e14, e15⟩ := h
  obtain ⟨i1, i2, i3, i4, i5, i6, i7, i8⟩ := I
  refine ⟨by omega, by omega, by omega, by omega, by rw [← e5]; exact i5, by rw [← e5, ← e1]; exact i6, fun q q0 q1 => lawB_eq e7 e8 e9 e10 e11 (i7 q q0 (by omega)), fun b hb => ?_⟩
  have k := i8 b (by unfold mkOk; rw [e12]; exact hb)
  unfold mapB mSz mWd at k ⊢
  rw [← e13, ← e14, ← e15]
  exact k
theorem IVj.sv (I : IVj s F) (h1 : s1 1 = s 1) (h7 : s1 7 = s 7) : IVj s1 F := by
  obtain ⟨i1, i2, i3, i4, i5, i6, i7, i8⟩ := I
  exact ⟨by omega, by omega, by omega, by omega, i5, by rw [h1]; exact i6, fun q q0 q1 => i7 q q0 (by omega), i8⟩
theorem IVj.f3 {f4 : Int → Int} (I : IVj s F) {i k n : Int} (hr : isRow s i k) (n0 : -1 ≤ n) (n1 : n ≤ 80) : IVj s (rowF F i k n f4) := by
  obtain ⟨i1, i2, i3, i4, i5, i6, i7, i8⟩ := I
  obtain ⟨r1, r2, r3, r4⟩ := hr
  refine ⟨i1, i2, i3, i4, fun j j0 j1 => ?_, fun j j0 j1 => ?_, fun q q0 q1 => lawB_eq rfl rfl rfl rfl rfl (i7 q q0 q1), i8⟩
  · show -1 ≤ ab_f (F 3) (10 * i + k) n j ∧ ab_f (F 3) (10 * i + k) n j ≤ 80
    by_cases e : j = 10 * i + k
    · rw [ab_f_eq e]; exact ⟨n0, n1⟩
    · rw [ab_f_ne e]; exact i5 j j0 j1
  · show ab_f (F 3) (10 * i + k) n j = -1
    rw [ab_f_ne (by omega)]
    exact i6 j j0 j1
theorem IVj.u3 (I : IVj s F) {i k n : Int} (hr : isRow s i k) (n0 : -1 ≤ n) (n1 : n ≤ 80) : IVj s (ab_u F 3 (ab_f (F 3) (10 * i + k) n)) := (I.f3 (f4 := F 4) hr n0 n1).mv ⟨rfl, rfl, rfl, rfl, rfl, rfl, rfl, rfl, rfl, rfl, rfl, rfl, rfl, rfl, rfl⟩
theorem IVj.u4 (I : IVj s F) {f : Int → Int} : IVj s (ab_u F 4 f) := by
  obtain ⟨i1, i2, i3, i4, i5, i6, i7, i8⟩ := I
  exact ⟨i1, i2, i3, i4, i5, i6, fun q q0 q1 => lawB_eq rfl rfl rfl rfl rfl (i7 q q0 q1), i8⟩
theorem IVj.sh (I : IVj s F) (h : s 1 < 16) {f : Int → Int} : IVj (ab_u s 1 (s 1 + 1)) (ab_u F 2 f) := by
  obtain ⟨i1, i2, i3, i4, i5, i6, i7, i8⟩ := I
  refine ⟨?_, ?_, i3, i4, i5, fun j j0 j1 => i6 j ?_ j1, fun q q0 q1 => lawB_eq rfl rfl rfl rfl rfl (i7 q q0 q1), i8⟩
  · show 0 ≤ s 1 + 1
    omega
  · show s 1 + 1 ≤ 16
    omega
  · have : 10 * (s 1 + 1) ≤ j := j0
    omega
theorem IVj.lw (I : IVj s F) {t a b n : Int} (h : s 7 < 12) (ok : lawOk t a b) (hn : (t ≠ 0 ∧ t ≠ 5 ∧ n = 0) ∨ ((t = 0 ∨ t = 5) ∧ isRow s a b ∧ lawW F t a b n)) : IVj (ab_u s 7 (s 7 + 1)) (lawF F (s 7) t a b n (rdL F a b)) := by
  obtain ⟨i1, i2, i3, i4, i5, i6, i7, i8⟩ := I
  have z7 : ab_u s 7 (s 7 + 1) 7 = s 7 + 1 := ab_u_eq
  refine ⟨i1, i2, by rw [z7]; omega, by rw [z7]; omega, ?_, ?_, fun q q0 q1 => ?_, ?_⟩
  · rw [lawF_ne (by decide) (by decide) (by decide) (by decide) (by decide)]; exact i5
  · rw [lawF_ne (by decide) (by decide) (by decide) (by decide) (by decide)]; exact i6
  · rw [z7] at q1
    by_cases e : q = s 7
    · subst e
      obtain ⟨a1, a2, a3, a4, a5⟩ := lawF_at (F := F) (g := s 7) (t := t) (a := a) (b := b) (n := n) (w := rdL F a b)
      unfold lawB
      rw [a1, a2, a3, a4]
      unfold lawOk at ok
      have hl : ∀ {P : Int → Prop}, (∀ i : Int, 0 ≤ i → i < n → P (rdL F a b i)) → ∀ i : Int, 0 ≤ i → i < n → P (lawF F (s 7) t a b n (rdL F a b) 12 (80 * s 7 + i)) := fun hP i i0 i1 => by rw [a5 i i0 i1]; exact hP i i0 i1
      rcases hn with ⟨e0, e5, _⟩ | ⟨e0, _, w1_, w2_, w3_⟩
      · rcases ok with k | k | ⟨k, k1⟩ | ⟨k, k1⟩ | ⟨k, k1⟩ | ⟨k, k1⟩
        · omega
        · omega
        · exact Or.inr (Or.inl ⟨k, by omega⟩)
        · exact Or.inr (Or.inr (Or.inl ⟨k, by omega⟩))
        · exact Or.inr (Or.inr (Or.inr (Or.inl ⟨k, by omega⟩)))
        · exact Or.inr (Or.inr (Or.inr (Or.inr (Or.inl k))))
      · have ln := w1_.len
        have l7 := (ln.2.2 (by omega)).2
        rcases e0 with e0 | e0
        · exact Or.inl ⟨e0, w2_, ln.2.1, hl (P := fun z => 0 ≤ z ∧ z ≤ 7) l7⟩
        · exact Or.inr (Or.inr (Or.inr (Or.inr (Or.inr ⟨e0, w2_, (w3_ e0).1, hl (P := fun z => 0 ≤ z ∧ z ≤ 2) (fun i i0 i1 => ⟨(l7 i i0 i1).1, (w3_ e0).2 i i0 i1⟩)⟩))))
    · have k := i7 q q0 (by omega)
      obtain ⟨a1, a2, a3, a4, a5⟩ := lawF_out (F := F) (g := s 7) (t := t) (a := a) (b := b) (n := n) (w := rdL F a b) (show q < s 7 by omega)
      unfold lawB at k ⊢
      rw [a1, a2, a3, a4]
      rcases k with ⟨k, k1, k2, k3⟩ | k | k | k | k | ⟨k, k1, k2, k3⟩
      · exact Or.inl ⟨k, k1, k2, fun i i0 i1 => by rw [a5 i (by omega)]; exact k3 i i0 i1⟩
      · exact Or.inr (Or.inl k)
      · exact Or.inr (Or.inr (Or.inl k))
      · exact Or.inr (Or.inr (Or.inr (Or.inl k)))
      · exact Or.inr (Or.inr (Or.inr (Or.inr (Or.inl k))))
      · exact Or.inr (Or.inr (Or.inr (Or.inr (Or.inr ⟨k, k1, k2, fun i i0 i1 => by rw [a5 i (by omega)]; exact k3 i i0 i1⟩))))
  · intro b9 hb
    have e35 : lawF F (s 7) t a b n (rdL F a b) 35 = F 35 := lawF_ne (by decide) (by decide) (by decide) (by decide) (by decide)
    have e36 : lawF F (s 7) t a b n (rdL F a b) 36 = F 36 := lawF_ne (by decide) (by decide) (by decide) (by decide) (by decide)
    have e37 : lawF F (s 7) t a b n (rdL F a b) 37 = F 37 := lawF_ne (by decide) (by decide) (by decide) (by decide) (by decide)
    have e38 : lawF F (s 7) t a b n (rdL F a b) 38 = F 38 := lawF_ne (by decide) (by decide) (by decide) (by decide) (by decide)
    have k := i8 b9 (by unfold mkOk at hb ⊢; rw [e35] at hb; exact hb)
    unfold mapB mSz mWd at k ⊢
    rw [e36, e37, e38]
    exact k
theorem IVj.mp (I : IVj s F) {b a x fr : Int} (b0 : 0 ≤ b) (b8 : b < 8) (a1 : 1 ≤ a) (a8 : a ≤ 8) (mo : mapOk F x fr a) (mi : mapIn F F' x fr b a) (e35 : F' 35 = ab_f (F 35) b 1) (e36 : F' 36 = ab_f (F 36) b a) (h3 : F' 3 = F 3) (h8 : F' 8 = F 8) (h9 : F' 9 = F 9) (h10 : F' 10 = F 10) (h11 : F' 11 = F 11) (h12 : F' 12 = F 12) : IVj s F' := by
  obtain ⟨i1, i2, i3, i4, i5, i6, i7, i8⟩ := I
  obtain ⟨m1, m2, m3, m4⟩ := mi
  refine ⟨i1, i2, i3, i4, by rw [h3]; exact i5, by rw [h3]; exact i6, fun q q0 q1 => lawB_eq h8.symm h9.symm h10.symm h11.symm h12.symm (i7 q q0 q1), fun c hc => ?_⟩
  by_cases e : c = b
  · subst e
    have e6 : F' 36 c = a := by rw [e36, ab_f_eq rfl]
    unfold mapB
    rw [e6]
    refine ⟨a1, a8, fun v v0 v1 => ?_⟩
    obtain ⟨n, r1, r2, r3, r4⟩ := mo v v0 v1
    have en : F' 37 (8 * c + v) = n := rdW_fun (m1 v v0 v1) r1
    have lt := ((r1.len).2.2 (by omega)).2
    refine ⟨by show 1 ≤ F' 37 (8 * c + v); omega, by show F' 37 (8 * c + v) ≤ 20; omega, fun i i0 i1 => ?_⟩
    have i19 : i < F' 37 (8 * c + v) := i1
    show 0 ≤ F' 38 (20 * (8 * c + v) + i) ∧ F' 38 (20 * (8 * c + v) + i) < a
    rw [m2 v v0 v1 i i0 i19]
    exact ⟨(lt i i0 (by omega)).1, r4 i i0 (by omega)⟩
  · have hk : mkOk F c := ⟨hc.1, hc.2.1, by have := hc.2.2; rw [e35, ab_f_ne e] at this; exact this⟩
    have k := i8 c hk
    have e6 : F' 36 c = F 36 c := by rw [e36, ab_f_ne e]
    have c0 := hc.1
    unfold mapB
    rw [e6]
    refine ⟨k.1, k.2.1, fun v v0 v1 => ?_⟩
    obtain ⟨k1, k2, k3⟩ := k.2.2 v v0 v1
    have k29 := k.2.1
    have es : F' 37 (8 * c + v) = F 37 (8 * c + v) := m3 _ (by omega)
    have k1' : 1 ≤ F 37 (8 * c + v) := k1
    have k2' : F 37 (8 * c + v) ≤ 20 := k2
    refine ⟨by show 1 ≤ F' 37 (8 * c + v); omega, by show F' 37 (8 * c + v) ≤ 20; omega, fun i i0 i1 => ?_⟩
    have i19 : i < F' 37 (8 * c + v) := i1
    show 0 ≤ F' 38 (20 * (8 * c + v) + i) ∧ F' 38 (20 * (8 * c + v) + i) < F 36 c
    rw [m4 _ (by omega)]
    exact k3 i i0 (by show i < F 37 (8 * c + v); omega)
/-- both have made the same map -/
theorem relE.mp (I : IVj s F) {b a x fr : Int} (b0 : 0 ≤ b) (a8 : a ≤ 8) (m1 : mapIn F F1 x fr b a) (m2 : mapIn F F' x fr b a) (e35 : F1 35 = F' 35) (e36 : F1 36 = F' 36) (f35 : F' 35 = ab_f (F 35) b 1) (f36 : F' 36 = ab_f (F 36) b a) : ∀ c : Int, mkOk F' c → ∀ v : Int, 0 ≤ v → v < F' 36 c → mSz F1 c v = mSz F' c v ∧ ∀ i : Int, 0 ≤ i → i < mSz F' c v → mWd F1 c v i = mWd F' c v i := by
  intro c hc v v0 v1
  by_cases e : c = b
  · subst e
    have e6 : F' 36 c = a := by rw [f36, ab_f_eq rfl]
    rw [e6] at v1
    have es : F1 37 (8 * c + v) = F' 37 (8 * c + v) := rdW_fun (m1.1 v v0 v1) (m2.1 v v0 v1)
    refine ⟨es, fun i i0 i1 => ?_⟩
    have i19 : i < F' 37 (8 * c + v) := i1
    show F1 38 (20 * (8 * c + v) + i) = F' 38 (20 * (8 * c + v) + i)
    rw [m1.2.1 v v0 v1 i i0 (by omega), m2.2.1 v v0 v1 i i0 i19]
  · have hk : mkOk F c := ⟨hc.1, hc.2.1, by have := hc.2.2; rw [f35, ab_f_ne e] at this; exact this⟩
    have k := I.2.2.2.2.2.2.2 c hk
    have e6 : F' 36 c = F 36 c := by rw [f36, ab_f_ne e]
    rw [e6] at v1
    have c0 := hc.1
    have k29 := k.2.1
    have k2 : F 37 (8 * c + v) ≤ 20 := (k.2.2 v v0 v1).2.1
    have s1 : F1 37 (8 * c + v) = F 37 (8 * c + v) := m1.2.2.1 _ (by omega)
    have s2 : F' 37 (8 * c + v) = F 37 (8 * c + v) := m2.2.2.1 _ (by omega)
    refine ⟨s1.trans s2.symm, fun i i0 i1 => ?_⟩
    have i19 : i < F' 37 (8 * c + v) := i1
    show F1 38 (20 * (8 * c + v) + i) = F' 38 (20 * (8 * c + v) + i)
    rw [m1.2.2.2 _ (by omega), m2.2.2.2 _ (by omega)]
theorem fil_eq {G g g' : Int → Int} {b n : Int} (h : ∀ j : Int, 0 ≤ j → j < n → g j = g' j) : fil G b 80 (fun j => if j < n then g j else 0) = fil G b 80 (fun j => if j < n then g' j else 0) := by
  funext j
  unfold fil
  by_cases e : b ≤ j ∧ j < b + 80
  · rw [if_pos e, if_pos e]
    show (if j - b < n then g (j - b) else 0) = (if j - b < n then g' (j - b) else 0)
    by_cases k : j - b < n
    · rw [if_pos k, if_pos k]; exact h _ (by omega) k
    · rw [if_neg k, if_neg k]
  · rw [if_neg e, if_neg e]
/-- what both calls have come to -/
def jOk (a b : String) (ob : AbO) (r : Option AbV) (s1 : Nat → Int) (F1 : Nat → Int → Int) (s' : Nat → Int) (F' : Nat → Int → Int) : Prop := ∃ v : Int, r = some (vI v) ∧ relE s1 s' F1 F' ∧ IVj s' F' ∧ ((∃ w : Int, ob = .inl (some (vI w)) ∧ s' 0 = 0 ∧ w = v) ∨ ∃ X : String, ob = .inr X ∧ s' 0 = cdf a b X)
theorem jOk.mk {a b : String} {ob : AbO} {r : Option AbV} {v : Int} (q : relQ s1 s' F1 F') (I : IVj s1 F1) (er : r = some (vI v)) (h : (∃ w : Int, ob = .inl (some (vI w)) ∧ s' 0 = 0 ∧ w = v) ∨ ∃ X : String, ob = .inr X ∧ s' 0 = cdf a b X) : jOk a b ob r s1 F1 s' F' := ⟨v, er, q.E, I.mv q, h⟩
theorem jo3 {a b : String} {ob : AbO} {c r9 c' v z : Int} (ne : b ≠ a) (ec : c = c') (er : c = 0 → r9 = v) (e0 : z = c') (h : (c = 0 ∧ ob = .inl (some (vI r9))) ∨ (c = 1 ∧ ob = .inr a) ∨ (c = 2 ∧ ob = .inr b)) : (∃ w : Int, ob = .inl (some (vI w)) ∧ z = 0 ∧ w = v) ∨ ∃ X : String, ob = .inr X ∧ z = cdf a b X := by
  rcases h with ⟨h1, h2⟩ | ⟨h1, h2⟩ | ⟨h1, h2⟩
  · exact Or.inl ⟨r9, h2, by omega, er h1⟩
  · exact Or.inr ⟨a, h2, by rw [cdf1]; omega⟩
  · exact Or.inr ⟨b, h2, by rw [cdf2 ne]; omega⟩
theorem jo2 {a : String} {ob : AbO} {c r9 c' v z : Int} (ec : c = c') (er : c = 0 → r9 = v) (e0 : z = c') (h : (c = 0 ∧ ob = .inl (some (vI r9))) ∨ (c = 1 ∧ ob = .inr a)) : (∃ w : Int, ob = .inl (some (vI w)) ∧ z = 0 ∧ w = v) ∨ ∃ X : String, ob = .inr X ∧ z = cdf a a X := by
  rcases h with ⟨h1, h2⟩ | ⟨h1, h2⟩
  · exact Or.inl ⟨r9, h2, by omega, er h1⟩
  · exact Or.inr ⟨a, h2, by rw [cdf1]; omega⟩
theorem RCx.cg {h : AbH} {x : Nat} {B : Nat → Nat} {C : Nat → Int → Int} {SA : Nat → Int → Option Nat} {la : Option Nat} {q : Nat → Int} (r : RCx h x B s1 F1 C SA la q) (e : relE s1 s' F1 F') : RCx h x B s' F' C SA la q := by
  obtain ⟨e1, e7, e23, f2, f3, f4, f8, f9, f10, f11, f12, f35, f36, fm⟩ := e
  refine ⟨by rw [← e1, ← e7]; exact r.o, r.ss, r.ls, r.ms, r.qs, by rw [← e23]; exact r.sr, r.mk, r.lt, r.gr, ?_, ?_, ?_, r.sq⟩
  · rw [← e1]
    intro i hi
    refine ⟨fun g => ?_, (r.sh i hi).2⟩
    obtain ⟨a, b, c, g1, z, e, k⟩ := (r.sh i hi).1 g
    refine ⟨a, b, c, g1, z, e, ?_⟩
    unfold sheetC at k ⊢
    rw [← f2, ← f3, ← f4]
    exact k
  · rw [← e7]
    intro q0 a0 a1
    refine ⟨fun g => ?_, (r.lw q0 a0 a1).2⟩
    obtain ⟨a, e, c⟩ := (r.lw q0 a0 a1).1 g
    refine ⟨a, e, ?_⟩
    unfold lawC at c ⊢
    rw [← f8, ← f9, ← f10, ← f11, ← f12]
    exact c
  · intro m hm
    have q9 := r.mp m hm
    rw [f35] at q9
    refine ⟨fun g => ?_, q9.2⟩
    obtain ⟨a, e, c⟩ := q9.1 g
    refine ⟨a, e, ?_⟩
    obtain ⟨b1, b2, b3, z, t, gz, c0, c1, c2, c3, c4, c5, c6⟩ := c
    have fm9 := fm m ⟨by omega, by omega, g⟩
    rw [f36] at c0 c4 c5 c6
    refine ⟨b1, b2, b3, z, t, gz, c0, c1, c2, c3, fun x x0 x1 => (c4 x x0 x1).trans (fm9 x x0 x1).1, fun x x0 x1 i i0 i1 => ?_, c6⟩
    rw [c5 x x0 x1 i i0 (by rw [(fm9 x x0 x1).1]; exact i1)]
    exact (fm9 x x0 x1).2 i i0 i1
theorem RCx.kpA {h h' : AbH} {x : Nat} {B : Nat → Nat} {C : Nat → Int → Int} {SA : Nat → Int → Option Nat} {la : Option Nat} {q : Nat → Int} {P : Nat → Prop} (r : RCx h x B s F C SA la q) (k : ab_kp P h h') (p : ∀ g : Nat, (2 ≤ g ∧ g ≤ 11) ∨ 80 ≤ g → P g) : RCx h' x B s F C SA la q :=
  ⟨k _ _ r.o (p _ (by simp)), k _ _ r.ss (p _ (by simp)), k _ _ r.ls (p _ (by simp)), k _ _ r.ms (p _ (by simp)), k _ _ r.qs (p _ (by simp)), k _ _ r.sr (p _ (by simp)), k _ _ r.mk (p _ (by simp)), k _ _ r.lt (p _ (by simp)), k _ _ r.gr (p _ (by simp)), r.sh.kp k (fun j j0 j1 => p j (by omega)), r.lw.kp k (fun j j0 j1 => p j (by omega)), r.mp.kp k (fun j j0 j1 => p j (by omega)), r.sq.kp k (fun j j0 j1 => p j (by omega))⟩
theorem mR.kp {h h' : AbH} {m : Nat} {A : Nat → Nat} {P : Nat → Prop} (r : mR h m A s F) (k : ab_kp P h h') (p : ∀ g : Nat, 20 ≤ g → g < 80 → P g) : mR h' m A s F := ⟨k _ _ r.1 (p _ (by simp) (by simp)), fun j hj => k _ _ (r.2.1 j hj) (p _ (by show 20 ≤ 30 + j; omega) (by have := mIs_lt hj; show 30 + j < 80; omega)), k _ _ r.2.2.1 (p _ (by simp) (by simp)), k _ _ r.2.2.2 (p _ (by simp) (by simp))⟩
/-- all cells, between two calls -/
def JI (h : AbH) (x m o z9 sc N : Nat) (B A : Nat → Nat) (f : Int → Int) (s : Nat → Int) (F : Nat → Int → Int) : Prop := (∃ (C : Nat → Int → Int) (SA : Nat → Int → Option Nat) (la : Option Nat) (q : Nat → Int), RCx h x B s F C SA la q) ∧ mR h m A s F ∧ IVj s F ∧ (∃ g : Int → Int, h o = some (kJ 12 1 g)) ∧ (∃ gs : Nat, gs ≤ 1 ∧ h sc = some (kI gs N f)) ∧ h z9 = some (kI 1 7 zim)
/-- behind the class's call -/
theorem jCls {h h2 : AbH} {x m o z9 sc N gs : Nat} {B A : Nat → Nat} {f g : Int → Int} {L : List Nat} {P : AbO → (Nat → Int) → (Nat → Int → Int) → Prop} {cd : String → Int} {oc : AbO} (hM : mR h m A s F) (ho : h o = some (kJ 12 1 g)) (hs : h sc = some (kI gs N f)) (hgs : gs ≤ 1) (hz : h z9 = some (kI 1 7 zim)) (hL : ∀ g : Nat, g = 0 ∨ g = 1 ∨ g = 12 ∨ (20 ≤ g ∧ g < 80) → cP L g) (w : wQ o g cd (cW h L x B P) oc h2) :
    ∃ (k : Int) (g2 : Int → Int) (ob : AbO) (s1 : Nat → Int) (F1 C : Nat → Int → Int) (SA : Nat → Int → Option Nat) (la : Option Nat) (q : Nat → Int), oc = .inl (some (vI k)) ∧ RCx h2 x B s1 F1 C SA la q ∧ mR h2 m A s F ∧ h2 o = some (kJ 12 1 g2) ∧ h2 sc = some (kI gs N f) ∧ h2 z9 = some (kI 1 7 zim) ∧ P ob s1 F1 ∧ ((∃ r : Int, ob = .inl (some (vI r)) ∧ k = 0 ∧ g2 0 = r) ∨ ∃ X : String, ob = .inr X ∧ k = cd X) := by
  rcases w with ⟨r, h1, ⟨kp, s1, F1, C, SA, la, q, rc, hp⟩, e, ho2, hn⟩ | ⟨X, ⟨kp, s1, F1, C, SA, la, q, rc, hp⟩, e⟩
  · have ho1 := kp _ _ ho (hL 12 (by omega))
    have k2 : ab_kp (fun g => g ≠ 12) h1 h2 := fun q c hc hp => by
      rw [hn q (ab_ne hc ho1 hp)]
      exact hc
    exact ⟨0, _, _, s1, F1, C, SA, la, q, e, rc.kpA k2 (fun g hg => by omega), (hM.kp kp (fun g g0 g1 => hL g (by omega))).kp k2 (fun g g0 g1 => by omega), ho2, k2 _ _ (kp _ _ hs (hL gs (by omega))) (by show gs ≠ 12; omega), k2 _ _ (kp _ _ hz (hL 1 (by omega))) (by simp), hp, Or.inl ⟨r, rfl, rfl, ab_f_eq rfl⟩⟩
  · exact ⟨_, g, _, s1, F1, C, SA, la, q, e, rc, hM.kp kp (fun g g0 g1 => hL g (by omega)), kp _ _ ho (hL 12 (by omega)), kp _ _ hs (hL gs (by omega)), kp _ _ hz (hL 1 (by omega)), hp, Or.inr ⟨X, rfl, rfl⟩⟩
theorem jRef {h2 h3 : AbH} {x m o z9 sc N gs : Nat} {B A : Nat → Nat} {f g2 : Int → Int} {C : Nat → Int → Int} {SA : Nat → Int → Option Nat} {la : Option Nat} {q : Nat → Int} {a b : String} {ob : AbO} {r : Option AbV} {ks kF : List Nat} (rc : RCx h2 x B s1 F1 C SA la q) (ho : h2 o = some (kJ 12 1 g2)) (hs : h2 sc = some (kI gs N f)) (hgs : gs ≤ 1) (hz : h2 z9 = some (kI 1 7 zim)) (hW : mW h2 m A s F ks kF h3 s' F') (j : jOk a b ob r s1 F1 s' F') : JI h3 x m o z9 sc N B A f s' F' ∧ h3 o = some (kJ 12 1 g2) := by
  obtain ⟨v, er, re, iv, _⟩ := j
  have k := hW.2.1
  have p : ∀ g : Nat, g < 20 ∨ 80 ≤ g → mX g := fun g hg => by unfold mX; omega
  have ho3 := k _ _ ho (p 12 (by omega))
  exact ⟨⟨⟨C, SA, la, q, (rc.cg re).kpA k (fun g hg => p g (by omega))⟩, hW.1, iv, ⟨_, ho3⟩, ⟨gs, hgs, k _ _ hs (p gs (by omega))⟩, k _ _ hz (p 1 (by omega))⟩, ho3⟩
end JT
