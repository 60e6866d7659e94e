/-! pure words: the shortest span that a law bars -/
section PU8
def Sh (F : Nat → Int → Int) (q : Int) (f : Int → Int) (n v : Int) : Prop := (v = 0 ∧ ∀ a : Int, 0 ≤ a → a < n → ¬ Bar F q f a n) ∨ (1 ≤ v ∧ v ≤ n ∧ Bar F q f (n - v) n ∧ ∀ a : Int, n - v < a → a < n → ¬ Bar F q f a n)
variable {F : Nat → Int → Int} {q : Int} {f : Int → Int} {n v : Int}
theorem Bar_told (h : F 8 q = 0) {a b : Int} : Bar F q f a b ↔ b - a = F 11 q ∧ ∀ i : Int, 0 ≤ i → i < b - a → f (a + i) = F 12 (80 * q + i) := by
  unfold Bar; rw [h]; simp
theorem Bar_near (h : F 8 q = 3) {a b : Int} : Bar F q f a b ↔ ∃ d : Int, b - a = 2 * d ∧ dif f a (a + d) d ≤ F 9 q ∧ dif f a (a + d) d < d := by
  unfold Bar; rw [h]; simp
theorem Bar_turn (h : F 8 q = 4) {a b : Int} : Bar F q f a b ↔ ∃ d : Int, b - a = 2 * d ∧ ∀ c : Int, 0 ≤ c → c < 8 → cnt f c a d = cnt f c (a + d) d := by
  unfold Bar; rw [h]; simp
theorem Bar_shape (h : F 8 q = 5) {a b : Int} : Bar F q f a b ↔ Comes (F 12) (80 * q) (F 11 q) f a b := by
  unfold Bar; rw [h]; simp
theorem Bar_pw {al : Int} (h : (F 8 q = 1 ∧ al = 0) ∨ (F 8 q = 2 ∧ al = 1)) {a b : Int} : Bar F q f a b ↔ ∃ p : Int, 1 ≤ p ∧ isP f a b p ∧ p * F 9 q + al ≤ (b - a) * F 10 q := by
  rcases h with ⟨h, e⟩ | ⟨h, e⟩
  · unfold Bar; rw [h, e]; simp [Int.mul_comm]
  · unfold Bar; rw [h, e]; simp [Int.mul_comm, Int.add_one_le_iff]
/-! powers -/
def pwS (f : Int → Int) (n u lo al v : Int) : Prop := (v = 0 ∧ ∀ z p : Int, 1 ≤ z → z ≤ n → 1 ≤ p → isP f (n - z) n p → ¬ p * u + al ≤ z * lo) ∨ (1 ≤ v ∧ v ≤ n ∧ (∃ p : Int, 1 ≤ p ∧ isP f (n - v) n p ∧ p * u + al ≤ v * lo) ∧ ∀ z p : Int, 1 ≤ z → z < v → 1 ≤ p → isP f (n - z) n p → ¬ p * u + al ≤ z * lo)
theorem Sh_pw {al : Int} (h : (F 8 q = 1 ∧ al = 0) ∨ (F 8 q = 2 ∧ al = 1)) (S : pwS f n (F 9 q) (F 10 q) al v) : Sh F q f n v := by
  rcases S with ⟨e, k⟩ | ⟨a1, a2, ⟨p, p1, p2, p3⟩, k⟩
  · refine Or.inl ⟨e, fun a a0 a1 hb => ?_⟩
    obtain ⟨p, p1, p2, p3⟩ := (Bar_pw h).mp hb
    exact k (n - a) p (by omega) (by omega) p1 (by rw [show n - (n - a) = a by omega]; exact p2) p3
  · refine Or.inr ⟨a1, a2, (Bar_pw h).mpr ⟨p, p1, p2, by rw [show n - (n - v) = v by omega]; exact p3⟩, fun a b0 b1 hb => ?_⟩
    obtain ⟨p, p1, p2, p3⟩ := (Bar_pw h).mp hb
    exact k (n - a) p (by omega) (by omega) p1 (by rw [show n - (n - a) = a by omega]; exact p2) p3
/-- laws of powers as they may be -/
def pwB (u lo al : Int) : Prop := 1 ≤ lo ∧ lo ≤ u ∧ u ≤ 30 ∧ ((al = 0 ∧ lo < u) ∨ al = 1)
theorem pw_small {u lo al p z : Int} (hb : pwB u lo al) (p1 : 1 ≤ p) (hz : z ≤ p) : ¬ p * u + al ≤ z * lo := by
  obtain ⟨b1, b2, b3, b4⟩ := hb
  have e1 : z * lo ≤ p * lo := Int.mul_le_mul_of_nonneg_right hz (by omega)
  rcases b4 with ⟨e, b4⟩ | e
  · have e2 : p * lo < p * u := Int.mul_lt_mul_of_pos_left b4 (by omega)
    omega
  · have e2 : p * lo ≤ p * u := Int.mul_le_mul_of_nonneg_left b2 (by omega)
    omega
theorem pw_p {u lo al p p' z : Int} (hb : pwB u lo al) (hp : p ≤ p') (h : p' * u + al ≤ z * lo) : p * u + al ≤ z * lo := by
  have e1 : p * u ≤ p' * u := Int.mul_le_mul_of_nonneg_right hp (by have := hb; unfold pwB at this; omega)
  omega
theorem pw_r {u x : Int} (h0 : 0 ≤ x) (h1 : x ≤ 500) (u0 : 0 ≤ u) (u1 : u ≤ 30) : 0 ≤ x * u ∧ x * u ≤ 15000 := ⟨Int.mul_nonneg h0 u0, by
  have e1 : x * u ≤ 500 * u := Int.mul_le_mul_of_nonneg_right h1 u0
  omega⟩
theorem isP_more {f : Int → Int} {a b p : Int} (h : isP f (a + 1) b p) (e : f a = f (a + p)) : isP f a b p := fun i i0 i1 => by
  by_cases g : i = a
  · rw [g]; exact e
  · exact h i (by omega) i1
/-! differences, from the end -/
theorem difN_pre {f : Int → Int} {a b : Int} : ∀ m : Nat, difN f (a - 1) (b - 1) (m + 1) = difN f a b m + (if f (a - 1) = f (b - 1) then 0 else 1)
  | 0 => by
    show (0 : Int) + (if f (a - 1 + ((0 : Nat) : Int)) = f (b - 1 + ((0 : Nat) : Int)) then 0 else 1) = 0 + _
    rw [show a - 1 + ((0 : Nat) : Int) = a - 1 by omega, show b - 1 + ((0 : Nat) : Int) = b - 1 by omega]
  | m + 1 => by
    show difN f (a - 1) (b - 1) (m + 1) + (if f (a - 1 + ((m + 1 : Nat) : Int)) = f (b - 1 + ((m + 1 : Nat) : Int)) then 0 else 1) = difN f a b m + (if f (a + (m : Int)) = f (b + (m : Int)) then 0 else 1) + _
    rw [difN_pre m, show a - 1 + ((m + 1 : Nat) : Int) = a + m by omega, show b - 1 + ((m + 1 : Nat) : Int) = b + m by omega]
    omega
theorem dif_pre {f : Int → Int} {a b m : Int} (m0 : 0 ≤ m) : dif f (a - 1) (b - 1) (m + 1) = dif f a b m + (if f (a - 1) = f (b - 1) then 0 else 1) := by
  unfold dif
  rw [show (m + 1).toNat = m.toNat + 1 by omega]
  exact difN_pre _
theorem dif_le {f : Int → Int} {a b m : Int} (m0 : 0 ≤ m) : ∀ k : Nat, dif f a b m ≤ dif f (a - k) (b - k) (m + k)
  | 0 => by
    rw [show a - ((0 : Nat) : Int) = a by omega, show b - ((0 : Nat) : Int) = b by omega, show m + ((0 : Nat) : Int) = m by omega]
    omega
  | k + 1 => by
    have h := dif_le (f := f) (a := a) (b := b) m0 k
    have e := dif_pre (f := f) (a := a - k) (b := b - k) (m := m + k) (by omega)
    rw [show a - ((k + 1 : Nat) : Int) = a - k - 1 by omega, show b - ((k + 1 : Nat) : Int) = b - k - 1 by omega, show m + ((k + 1 : Nat) : Int) = m + k + 1 by omega, e]
    split <;> omega
def nearP (f : Int → Int) (n mo d : Int) : Prop := dif f (n - 2 * d) (n - d) d ≤ mo ∧ dif f (n - 2 * d) (n - d) d < d
def neS (f : Int → Int) (n mo v : Int) : Prop := (v = 0 ∧ ∀ d : Int, 1 ≤ d → 2 * d ≤ n → ¬ nearP f n mo d) ∨ (∃ d : Int, 1 ≤ d ∧ 2 * d ≤ n ∧ v = 2 * d ∧ nearP f n mo d ∧ ∀ d' : Int, 1 ≤ d' → d' < d → ¬ nearP f n mo d')
theorem Bar_nearP (h : F 8 q = 3) {a b d : Int} (e : b - a = 2 * d) : Bar F q f a b ↔ nearP f b (F 9 q) d := by
  rw [Bar_near h]
  unfold nearP
  obtain rfl : a = b - 2 * d := by omega
  constructor
  · rintro ⟨d', e', k⟩
    obtain rfl : d' = d := by omega
    rw [show b - 2 * d' + d' = b - d' by omega] at k
    exact k
  · intro k
    refine ⟨d, by omega, ?_⟩
    rw [show b - 2 * d + d = b - d by omega]
    exact k
theorem Sh_half {P : Int → Prop} (hB : ∀ a : Int, Bar F q f a n → ∃ d : Int, n - a = 2 * d) (hP : ∀ a d : Int, n - a = 2 * d → (Bar F q f a n ↔ P d)) (S : (v = 0 ∧ ∀ d : Int, 1 ≤ d → 2 * d ≤ n → ¬ P d) ∨ (∃ d : Int, 1 ≤ d ∧ 2 * d ≤ n ∧ v = 2 * d ∧ P d ∧ ∀ d' : Int, 1 ≤ d' → d' < d → ¬ P d')) : Sh F q f n v := by
  rcases S with ⟨e, k⟩ | ⟨d, d1, d2, e, p, k⟩
  · refine Or.inl ⟨e, fun a a0 a1 hb => ?_⟩
    obtain ⟨d, hd⟩ := hB a hb
    exact k d (by omega) (by omega) ((hP a d hd).mp hb)
  · refine Or.inr ⟨by omega, by omega, (hP (n - v) d (by omega)).mpr p, fun a b0 b1 hb => ?_⟩
    obtain ⟨d', hd⟩ := hB a hb
    exact k d' (by omega) (by omega) ((hP a d' hd).mp hb)
theorem Sh_near (h : F 8 q = 3) (S : neS f n (F 9 q) v) : Sh F q f n v := Sh_half (P := nearP f n (F 9 q)) (fun a hb => by
  obtain ⟨d, e, _⟩ := (Bar_near h).mp hb
  exact ⟨d, e⟩) (fun a d e => Bar_nearP h e) S
/-! letters turned about: weights -/
def wt (x : Int) : Int := if x = 0 then 1 else if x = 1 then 256 else if x = 2 then 65536 else if x = 3 then 16777216 else if x = 4 then 4294967296 else if x = 5 then 1099511627776 else if x = 6 then 281474976710656 else 72057594037927936
theorem wt_bd (x : Int) : 1 ≤ wt x ∧ wt x ≤ 72057594037927936 := by
  unfold wt
  repeat' split
  all_goals omega
def swN (f : Int → Int) (a : Int) : Nat → Int
  | 0 => 0
  | k + 1 => swN f a k + wt (f (a + k))
def sw (f : Int → Int) (a n : Int) : Int := swN f a n.toNat
theorem sw0 {a : Int} : sw f a 0 = 0 := rfl
theorem sw_step {a i : Int} (hi : 0 ≤ i) : sw f a (i + 1) = sw f a i + wt (f (a + i)) := by
  unfold sw
  rw [show (i + 1).toNat = i.toNat + 1 by omega]
  show swN f a i.toNat + wt (f (a + (i.toNat : Int))) = _
  rw [show ((i.toNat : Nat) : Int) = i by omega]
theorem swN_pre {a : Int} : ∀ m : Nat, swN f a (m + 1) = wt (f a) + swN f (a + 1) m
  | 0 => by
    show (0 : Int) + wt (f (a + ((0 : Nat) : Int))) = wt (f a) + 0
    rw [show a + ((0 : Nat) : Int) = a by omega]
    omega
  | m + 1 => by
    show swN f a (m + 1) + wt (f (a + ((m + 1 : Nat) : Int))) = wt (f a) + (swN f (a + 1) m + wt (f (a + 1 + (m : Int))))
    rw [swN_pre m, show a + ((m + 1 : Nat) : Int) = a + 1 + m by omega]
    omega
theorem sw_pre {a i : Int} (hi : 0 ≤ i) : sw f a (i + 1) = wt (f a) + sw f (a + 1) i := by
  unfold sw
  rw [show (i + 1).toNat = i.toNat + 1 by omega]
  exact swN_pre _
theorem swN_bd {f : Int → Int} {a : Int} : ∀ m : Nat, 0 ≤ swN f a m ∧ swN f a m ≤ 72057594037927936 * m
  | 0 => ⟨Int.le_refl _, Int.le_refl _⟩
  | m + 1 => by
    have h := swN_bd (f := f) (a := a) m
    have w := wt_bd (f (a + m))
    show 0 ≤ swN f a m + wt (f (a + m)) ∧ swN f a m + wt (f (a + m)) ≤ 72057594037927936 * ((m + 1 : Nat) : Int)
    omega
theorem sw_bd {a i : Int} (hi : 0 ≤ i) : 0 ≤ sw f a i ∧ sw f a i ≤ 72057594037927936 * i := by
  have h := swN_bd (f := f) (a := a) i.toNat
  unfold sw
  omega
theorem swN_cnt {a : Int} : ∀ m : Nat, (∀ i : Int, 0 ≤ i → i < m → 0 ≤ f (a + i) ∧ f (a + i) ≤ 7) → swN f a m = cntN f 0 a m + 256 * cntN f 1 a m + 65536 * cntN f 2 a m + 16777216 * cntN f 3 a m + 4294967296 * cntN f 4 a m + 1099511627776 * cntN f 5 a m + 281474976710656 * cntN f 6 a m + 72057594037927936 * cntN f 7 a m
  | 0, _ => rfl
  | m + 1, hf => by
    have h := swN_cnt m (fun i i0 i1 => hf i i0 (by omega))
    have hx := hf m (by omega) (by omega)
    show swN f a m + wt (f (a + m)) = (cntN f 0 a m + (if f (a + m) = 0 then 1 else 0)) + 256 * (cntN f 1 a m + (if f (a + m) = 1 then 1 else 0)) + 65536 * (cntN f 2 a m + (if f (a + m) = 2 then 1 else 0)) + 16777216 * (cntN f 3 a m + (if f (a + m) = 3 then 1 else 0)) + 4294967296 * (cntN f 4 a m + (if f (a + m) = 4 then 1 else 0)) + 1099511627776 * (cntN f 5 a m + (if f (a + m) = 5 then 1 else 0)) + 281474976710656 * (cntN f 6 a m + (if f (a + m) = 6 then 1 else 0)) + 72057594037927936 * (cntN f 7 a m + (if f (a + m) = 7 then 1 else 0))
    rw [h]
    generalize f (a + m) = x at hx ⊢
    have : x = 0 ∨ x = 1 ∨ x = 2 ∨ x = 3 ∨ x = 4 ∨ x = 5 ∨ x = 6 ∨ x = 7 := by omega
    rcases this with e | e | e | e | e | e | e | e <;> (subst e; simp [wt]; omega)
def trP (f : Int → Int) (n d : Int) : Prop := sw f (n - d) d - sw f (n - 2 * d) d = 0
theorem dig {a R : Int} (h : a + 256 * R = 0) (b1 : -60 ≤ a) (b2 : a ≤ 60) : a = 0 ∧ R = 0 := by omega
theorem dig8 {x0 x1 x2 x3 x4 x5 x6 x7 y0 y1 y2 y3 y4 y5 y6 y7 : Int} (h : ( x0 + 256 * x1 + 65536 * x2 + 16777216 * x3 + 4294967296 * x4 + 1099511627776 * x5 + 281474976710656 * x6 + 72057594037927936 * x7) - ( y0 + 256 * y1 + 65536 * y2 + 16777216 * y3 + 4294967296 * y4 + 1099511627776 * y5 + 281474976710656 * y6 + 72057594037927936 * y7) = 0) (p0 : -60 ≤ x0 - y0) (q0 : x0 - y0 ≤ 60) (p1 : -60 ≤ x1 - y1) (q1 : x1 - y1 ≤ 60) (p2 : -60 ≤ x2 - y2) (q2 : x2 - y2 ≤ 60) (p3 : -60 ≤ x3 - y3) (q3 : x3 - y3 ≤ 60) (p4 : -60 ≤ x4 - y4) (q4 : x4 - y4 ≤ 60) (p5 : -60 ≤ x5 - y5) (q5 : x5 - y5 ≤ 60) (p6 : -60 ≤ x6 - y6) (q6 : x6 - y6 ≤ 60) (p7 : -60 ≤ x7 - y7) (q7 : x7 - y7 ≤ 60) : y0 = x0 ∧ y1 = x1 ∧ y2 = x2 ∧ y3 = x3 ∧ y4 = x4 ∧ y5 = x5 ∧ y6 = x6 ∧ y7 = x7 := by
  have r0 : (x0 - y0) + 256 * ((x1 - y1) + 256 * ((x2 - y2) + 256 * ((x3 - y3) + 256 * ((x4 - y4) + 256 * ((x5 - y5) + 256 * ((x6 - y6) + 256 * ((x7 - y7)))))))) = 0 := by clear p0 q0 p1 q1 p2 q2 p3 q3 p4 q4 p5 q5 p6 q6 p7 q7; omega
  obtain ⟨d0, r1⟩ := dig r0 p0 q0
  obtain ⟨d1, r2⟩ := dig r1 p1 q1
  obtain ⟨d2, r3⟩ := dig r2 p2 q2
  obtain ⟨d3, r4⟩ := dig r3 p3 q3
  obtain ⟨d4, r5⟩ := dig r4 p4 q4
  obtain ⟨d5, r6⟩ := dig r5 p5 q5
  obtain ⟨d6, r7⟩ := dig r6 p6 q6
  refine ⟨by omega, by omega, by omega, by omega, by omega, by omega, by omega, by omega⟩
theorem tr_iff {d : Int} (d0 : 1 ≤ d) (d1 : 2 * d ≤ n) (n60 : n ≤ 60) (hf : ∀ i : Int, 0 ≤ i → i < n → 0 ≤ f i ∧ f i ≤ 7) : trP f n d ↔ ∀ c : Int, 0 ≤ c → c < 8 → cnt f c (n - 2 * d) d = cnt f c (n - d) d := by
  have e1 := swN_cnt (f := f) (a := n - d) d.toNat (fun i i0 i1 => hf _ (by omega) (by omega))
  have e2 := swN_cnt (f := f) (a := n - 2 * d) d.toNat (fun i i0 i1 => hf _ (by omega) (by omega))
  have B := fun c => cntN_bd (f := f) (c := c) (a := n - d) d.toNat
  have B' := fun c => cntN_bd (f := f) (c := c) (a := n - 2 * d) d.toNat
  unfold trP sw cnt
  constructor
  · intro h
    rw [e1, e2] at h
    have k := dig8 h (by have := B 0; have := B' 0; omega) (by have := B 0; have := B' 0; omega) (by have := B 1; have := B' 1; omega) (by have := B 1; have := B' 1; omega) (by have := B 2; have := B' 2; omega) (by have := B 2; have := B' 2; omega) (by have := B 3; have := B' 3; omega) (by have := B 3; have := B' 3; omega) (by have := B 4; have := B' 4; omega) (by have := B 4; have := B' 4; omega) (by have := B 5; have := B' 5; omega) (by have := B 5; have := B' 5; omega) (by have := B 6; have := B' 6; omega) (by have := B 6; have := B' 6; omega) (by have := B 7; have := B' 7; omega) (by have := B 7; have := B' 7; omega)
    clear B B' h e1 e2
    obtain ⟨k0, k1, k2, k3, k4, k5, k6, k7⟩ := k
    intro c c0 c1
    have : c = 0 ∨ c = 1 ∨ c = 2 ∨ c = 3 ∨ c = 4 ∨ c = 5 ∨ c = 6 ∨ c = 7 := by omega
    rcases this with e | e | e | e | e | e | e | e <;> subst e <;> assumption
  · intro h
    have h0 := h 0 (by omega) (by omega); have h1 := h 1 (by omega) (by omega); have h2 := h 2 (by omega) (by omega); have h3 := h 3 (by omega) (by omega)
    have h4 := h 4 (by omega) (by omega); have h5 := h 5 (by omega) (by omega); have h6 := h 6 (by omega) (by omega); have h7 := h 7 (by omega) (by omega)
    rw [e1, e2, h0, h1, h2, h3, h4, h5, h6, h7]
    exact Int.sub_self _
theorem tr_next {m : Int} (m0 : 0 ≤ m) : sw f (n - (m + 1)) (m + 1) - sw f (n - 2 * (m + 1)) (m + 1) = sw f (n - m) m - sw f (n - 2 * m) m + (2 * wt (f (n - (m + 1))) - wt (f (n - 2 * (m + 1))) - wt (f (n - 2 * (m + 1) + 1))) := by
  have a1 := sw_pre (f := f) (a := n - (m + 1)) m0
  have a2 := sw_step (f := f) (a := n - 2 * (m + 1)) (i := m + 1) (by omega)
  have a3 := sw_pre (f := f) (a := n - 2 * (m + 1)) (i := m + 1) (by omega)
  have a4 := sw_pre (f := f) (a := n - 2 * (m + 1) + 1) m0
  rw [show n - (m + 1) + 1 = n - m by omega] at a1
  rw [show n - 2 * (m + 1) + (m + 1) = n - (m + 1) by omega] at a2
  rw [show n - 2 * (m + 1) + 1 + 1 = n - 2 * m by omega] at a4
  omega
def trS (f : Int → Int) (n v : Int) : Prop := (v = 0 ∧ ∀ d : Int, 1 ≤ d → 2 * d ≤ n → ¬ trP f n d) ∨ (∃ d : Int, 1 ≤ d ∧ 2 * d ≤ n ∧ v = 2 * d ∧ trP f n d ∧ ∀ d' : Int, 1 ≤ d' → d' < d → ¬ trP f n d')
theorem Sh_turn (h : F 8 q = 4) (n0 : 0 ≤ n) (n60 : n ≤ 60) (hf : ∀ i : Int, 0 ≤ i → i < n → 0 ≤ f i ∧ f i ≤ 7) (S : trS f n v) : Sh F q f n v := by
  have T : ∀ a d : Int, 1 ≤ d → 2 * d ≤ n → n - a = 2 * d → (Bar F q f a n ↔ trP f n d) := by
    intro a d d0 d1 e
    rw [tr_iff d0 d1 n60 hf, Bar_turn h]
    obtain rfl : a = n - 2 * d := by omega
    constructor
    · rintro ⟨d', e', k⟩
      obtain rfl : d' = d := by omega
      rw [show n - 2 * d' + d' = n - d' by omega] at k
      exact k
    · intro k
      refine ⟨d, by omega, ?_⟩
      rw [show n - 2 * d + d = n - d by omega]
      exact k
  rcases S with ⟨e, k⟩ | ⟨d, d1, d2, e, p, k⟩
  · refine Or.inl ⟨e, fun a a0 a1 hb => ?_⟩
    obtain ⟨d, hd, _⟩ := (Bar_turn h).mp hb
    exact k d (by omega) (by omega) ((T a d (by omega) (by omega) hd).mp hb)
  · refine Or.inr ⟨by omega, by omega, (T (n - v) d (by omega) (by omega) (by omega)).mpr p, fun a b0 b1 hb => ?_⟩
    obtain ⟨d', hd, _⟩ := (Bar_turn h).mp hb
    exact k d' (by omega) (by omega) ((T a d' (by omega) (by omega) hd).mp hb)
/-! a told word -/
def toS (f g : Int → Int) (n L v : Int) : Prop := (v = 0 ∧ (n < L ∨ ∃ i : Int, 0 ≤ i ∧ i < L ∧ f (n - L + i) ≠ g i)) ∨ (v = L ∧ L ≤ n ∧ ∀ i : Int, 0 ≤ i → i < L → f (n - L + i) = g i)
theorem Sh_told (h : F 8 q = 0) (L1 : 1 ≤ F 11 q) {g : Int → Int} (hg : ∀ i : Int, 0 ≤ i → i < F 11 q → g i = F 12 (80 * q + i)) (S : toS f g n (F 11 q) v) : Sh F q f n v := by
  rcases S with ⟨e, k⟩ | ⟨e, k1, k⟩
  · refine Or.inl ⟨e, fun a a0 a1 hb => ?_⟩
    obtain ⟨b1, b2⟩ := (Bar_told h).mp hb
    rcases k with k | ⟨i, i0, i1, k⟩
    · omega
    · have := b2 i i0 (by omega)
      rw [show a = n - F 11 q by omega, ← hg i i0 i1] at this
      exact k this
  · refine Or.inr ⟨by omega, by omega, (Bar_told h).mpr ⟨by omega, fun i i0 i1 => ?_⟩, fun a b0 b1 hb => ?_⟩
    · rw [e, ← hg i i0 (by omega)]
      exact k i i0 (by omega)
    · have := ((Bar_told h).mp hb).1
      omega
end PU8
