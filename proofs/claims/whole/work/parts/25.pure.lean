/-! pure words: periods, counts, shapes, spans that are barred -/
section PU
def isP (f : Int → Int) (a b p : Int) : Prop := ∀ i : Int, a ≤ i → i + p < b → f i = f (i + p)
/-- how many of the n letters from a on are c -/
def cntN (f : Int → Int) (c a : Int) : Nat → Int
  | 0 => 0
  | k + 1 => cntN f c a k + (if f (a + k) = c then 1 else 0)
def cnt (f : Int → Int) (c a n : Int) : Int := cntN f c a n.toNat
theorem cnt0 {f : Int → Int} {c a : Int} : cnt f c a 0 = 0 := rfl
theorem cnt_step {f : Int → Int} {c a i : Int} (hi : 0 ≤ i) : cnt f c a (i + 1) = cnt f c a i + (if f (a + i) = c then 1 else 0) := by
  unfold cnt
  rw [show (i + 1).toNat = i.toNat + 1 by omega]
  show cntN f c a i.toNat + (if f (a + (i.toNat : Int)) = c then 1 else 0) = _
  rw [show ((i.toNat : Nat) : Int) = i by omega]
theorem cntN_bd {f : Int → Int} {c a : Int} : ∀ k : Nat, 0 ≤ cntN f c a k ∧ cntN f c a k ≤ k
  | 0 => ⟨Int.le_refl _, Int.le_refl _⟩
  | k + 1 => by
    have := cntN_bd (f := f) (c := c) (a := a) k
    show 0 ≤ cntN f c a k + (if f (a + k) = c then 1 else 0) ∧ cntN f c a k + (if f (a + k) = c then 1 else 0) ≤ ((k + 1 : Nat) : Int)
    split <;> omega
theorem cnt_bd {f : Int → Int} {c a n : Int} (hn : 0 ≤ n) : 0 ≤ cnt f c a n ∧ cnt f c a n ≤ n := by
  have := cntN_bd (f := f) (c := c) (a := a) n.toNat
  unfold cnt
  omega
/-- how many of the n letters from a on differ from those from b on -/
def difN (f : Int → Int) (a b : Int) : Nat → Int
  | 0 => 0
  | k + 1 => difN f a b k + (if f (a + k) = f (b + k) then 0 else 1)
def dif (f : Int → Int) (a b n : Int) : Int := difN f a b n.toNat
theorem dif_step {f : Int → Int} {a b i : Int} (hi : 0 ≤ i) : dif f a b (i + 1) = dif f a b i + (if f (a + i) = f (b + i) then 0 else 1) := by
  unfold dif
  rw [show (i + 1).toNat = i.toNat + 1 by omega]
  show difN f a b i.toNat + (if f (a + (i.toNat : Int)) = f (b + (i.toNat : Int)) then 0 else 1) = _
  rw [show ((i.toNat : Nat) : Int) = i by omega]
theorem difN_bd {f : Int → Int} {a b : Int} : ∀ k : Nat, 0 ≤ difN f a b k ∧ difN f a b k ≤ k
  | 0 => ⟨Int.le_refl _, Int.le_refl _⟩
  | k + 1 => by
    have := difN_bd (f := f) (a := a) (b := b) k
    show 0 ≤ difN f a b k + (if f (a + k) = f (b + k) then 0 else 1) ∧ difN f a b k + (if f (a + k) = f (b + k) then 0 else 1) ≤ ((k + 1 : Nat) : Int)
    split <;> omega
theorem dif_bd {f : Int → Int} {a b n : Int} (hn : 0 ≤ n) : 0 ≤ dif f a b n ∧ dif f a b n ≤ n := by
  have := difN_bd (f := f) (a := a) (b := b) n.toNat
  unfold dif
  omega
/-- how long the first k unknowns of a shape are -/
def plN (z sh : Int → Int) (q : Int) : Nat → Int
  | 0 => 0
  | k + 1 => plN z sh q k + z (sh (q + k))
def pl (z sh : Int → Int) (q k : Int) : Int := plN z sh q k.toNat
theorem pl0 {z sh : Int → Int} {q : Int} : pl z sh q 0 = 0 := rfl
theorem pl_step {z sh : Int → Int} {q k : Int} (hk : 0 ≤ k) : pl z sh q (k + 1) = pl z sh q k + z (sh (q + k)) := by
  unfold pl
  rw [show (k + 1).toNat = k.toNat + 1 by omega]
  show plN z sh q k.toNat + z (sh (q + (k.toNat : Int))) = _
  rw [show ((k.toNat : Nat) : Int) = k by omega]
theorem pl_ind {P : Int → Prop} {n : Int} (h0 : P 0) (hs : ∀ k : Int, 0 ≤ k → k < n → P k → P (k + 1)) : ∀ k : Int, 0 ≤ k → k ≤ n → P k := by
  have key : ∀ j : Nat, (j : Int) ≤ n → P j := by
    intro j
    induction j with
    | zero => intro _; exact h0
    | succ j ih => intro hj; exact hs j (by omega) (by omega) (ih (by omega))
  intro k k0 k1
  have := key k.toNat (by omega)
  rw [show ((k.toNat : Nat) : Int) = k by omega] at this
  exact this
/-- unknowns are 0 to 2, their sizes 1 or more: places grow -/
theorem pl_ge {z sh : Int → Int} {q n : Int} (hz : ∀ k : Int, 0 ≤ k → k < n → 1 ≤ z (sh (q + k))) : ∀ k : Int, 0 ≤ k → k ≤ n → k ≤ pl z sh q k := pl_ind (by rw [pl0]; omega) (fun k k0 k1 h => by
  rw [pl_step k0]
  have := hz k k0 k1
  omega)
theorem pl_mono {z sh : Int → Int} {q n j : Int} (hz : ∀ k : Int, 0 ≤ k → k < n → 1 ≤ z (sh (q + k))) (j0 : 0 ≤ j) : ∀ k : Int, 0 ≤ k → k ≤ n → j ≤ k → pl z sh q j ≤ pl z sh q k := by
  have key : ∀ k : Int, 0 ≤ k → k ≤ n → (j ≤ k → pl z sh q j ≤ pl z sh q k) := pl_ind (fun h => by
    rw [show j = 0 by omega]
    omega) (fun k k0 k1 h hj => by
    rw [pl_step k0]
    have := hz k k0 k1
    by_cases e : j = k + 1
    · rw [e, pl_step k0]
      omega
    · have := h (by omega)
      omega)
  exact key
theorem pl_congr {z z' sh : Int → Int} {q n : Int} (hz : ∀ k : Int, 0 ≤ k → k < n → z (sh (q + k)) = z' (sh (q + k))) : ∀ k : Int, 0 ≤ k → k ≤ n → pl z sh q k = pl z' sh q k := pl_ind rfl (fun k k0 k1 h => by rw [pl_step k0, pl_step k0, h, hz k k0 k1])
/-- the letters of f from a to b fit the shape with these sizes -/
def Fit (z sh : Int → Int) (q n : Int) (f : Int → Int) (a b : Int) : Prop := pl z sh q n = b - a ∧ ∀ k1 k2 : Int, 0 ≤ k1 → k1 < n → 0 ≤ k2 → k2 < n → sh (q + k1) = sh (q + k2) → ∀ i : Int, 0 ≤ i → i < z (sh (q + k1)) → f (a + pl z sh q k1 + i) = f (a + pl z sh q k2 + i)
def Comes (sh : Int → Int) (q n : Int) (f : Int → Int) (a b : Int) : Prop := ∃ z : Int → Int, (∀ x : Int, 1 ≤ z x) ∧ Fit z sh q n f a b
theorem Fit.congr {z z' sh : Int → Int} {q n : Int} {f : Int → Int} {a b : Int} (n0 : 0 ≤ n) (hz : ∀ k : Int, 0 ≤ k → k < n → z (sh (q + k)) = z' (sh (q + k))) (h : Fit z sh q n f a b) : Fit z' sh q n f a b := by
  have e := pl_congr hz
  refine ⟨by rw [← e n n0 (Int.le_refl _)]; exact h.1, fun k1 k2 a1 a2 b1 b2 hs i i0 i1 => ?_⟩
  rw [← e k1 a1 (by omega), ← e k2 b1 (by omega)]
  exact h.2 k1 k2 a1 a2 b1 b2 hs i i0 (by rw [hz k1 a1 a2]; exact i1)
def hasU (sh : Int → Int) (q n u : Int) : Prop := ∃ k : Int, 0 ≤ k ∧ k < n ∧ sh (q + k) = u
/-- law q of these bars the letters of f from a to b -/
def Bar (F : Nat → Int → Int) (q : Int) (f : Int → Int) (a b : Int) : Prop :=
  (F 8 q = 0 ∧ b - a = F 11 q ∧ ∀ i : Int, 0 ≤ i → i < b - a → f (a + i) = F 12 (80 * q + i)) ∨
  (F 8 q = 1 ∧ ∃ p : Int, 1 ≤ p ∧ isP f a b p ∧ F 9 q * p ≤ (b - a) * F 10 q) ∨
  (F 8 q = 2 ∧ ∃ p : Int, 1 ≤ p ∧ isP f a b p ∧ F 9 q * p < (b - a) * F 10 q) ∨
  (F 8 q = 3 ∧ ∃ d : Int, b - a = 2 * d ∧ dif f a (a + d) d ≤ F 9 q ∧ dif f a (a + d) d < d) ∨
  (F 8 q = 4 ∧ ∃ d : Int, b - a = 2 * d ∧ ∀ c : Int, 0 ≤ c → c < 8 → cnt f c a d = cnt f c (a + d) d) ∨
  (F 8 q = 5 ∧ Comes (F 12) (80 * q) (F 11 q) f a b)
/-- laws as they may be -/
def lawB (F : Nat → Int → Int) (q : Int) : Prop := (F 8 q = 0 ∧ 1 ≤ F 11 q ∧ F 11 q ≤ 60 ∧ ∀ i : Int, 0 ≤ i → i < F 11 q → 0 ≤ F 12 (80 * q + i) ∧ F 12 (80 * q + i) ≤ 7) ∨ (F 8 q = 1 ∧ 1 ≤ F 10 q ∧ F 10 q < F 9 q ∧ F 9 q ≤ 30) ∨ (F 8 q = 2 ∧ 1 ≤ F 10 q ∧ F 10 q ≤ F 9 q ∧ F 9 q ≤ 30) ∨ (F 8 q = 3 ∧ 0 ≤ F 9 q ∧ F 9 q ≤ 9) ∨ F 8 q = 4 ∨ (F 8 q = 5 ∧ 1 ≤ F 11 q ∧ F 11 q ≤ 6 ∧ ∀ i : Int, 0 ≤ i → i < F 11 q → 0 ≤ F 12 (80 * q + i) ∧ F 12 (80 * q + i) ≤ 2)
def inS (set q : Int) : Prop := ab_and (ab_shr set q) 1 = 1
/-- rows of the reference that words lie in: read, way, asked, zimin -/
def wK (K : Nat) : Prop := K = 5 ∨ K = 30 ∨ K = 34 ∨ K = 47
theorem mW.arrK {h0 h : AbH} {m : Nat} {A : Nat → Nat} {s0 s : Nat → Int} {F0 F : Nat → Int → Int} {ks kF : List Nat} {K : Nat} (hW : mW h0 m A s0 F0 ks kF h s F) (hK : wK K) (hn : ∀ j ∈ kF, j ≠ 5 ∧ j ≠ 30 ∧ j ≠ 34 ∧ j ≠ 47) : h (A K) = some (kI (30 + K) (mLen K) (F0 K)) := by
  refine hW.arr K ?_ (hW.Fv K fun e => ?_)
  · rcases hK with e | e | e | e <;> (subst e; rfl)
  · have := hn K e
    unfold wK at hK
    omega
theorem wK_le {K : Nat} (hK : wK K) : mLen K ≤ 80 := by
  rcases hK with e | e | e | e <;> (subst e; decide)
end PU
