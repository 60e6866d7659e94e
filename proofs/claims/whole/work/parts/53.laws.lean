/-! bits; the cells of a law, of the laws -/
section CL5
theorem and1 (x : Int) : ab_and x 1 = 0 ∨ ab_and x 1 = 1 := by
  unfold ab_and
  have : ∀ v : BitVec 32, (v &&& 1#32) = 0#32 ∨ (v &&& 1#32) = 1#32 := by
    intro v
    rcases Bool.eq_false_or_eq_true (v.getLsbD 0) with h | h
    · right
      apply BitVec.eq_of_getLsbD_eq
      intro i hi
      cases i with
      | zero => simp [h]
      | succ i => simp
    · left
      apply BitVec.eq_of_getLsbD_eq
      intro i hi
      cases i with
      | zero => rw [BitVec.getLsbD_and, h]; rfl
      | succ i => simp
  have h9 := this (Int32.ofInt x).toBitVec
  show (BitVec.toInt ((Int32.ofInt x).toBitVec &&& 1#32)) = 0 ∨ (BitVec.toInt ((Int32.ofInt x).toBitVec &&& 1#32)) = 1
  rcases h9 with h | h <;> rw [h] <;> decide
theorem sh_am : ∀ n : Fin 32, ((Int32.ofInt ((n.val : Nat) : Int) &&& 31).toBitVec.smod 32).toNat = n.val := by decide
theorem shr_eq {e L : Int} (h1 : -2147483648 ≤ e) (h2 : e < 2147483648) (l0 : 0 ≤ L) (l1 : L < 32) : ab_shr e L = e / 2 ^ L.toNat := by
  have a := sh_am ⟨L.toNat, by omega⟩
  simp only [] at a
  rw [show ((L.toNat : Nat) : Int) = L by omega] at a
  show (Int32.ofInt e >>> (Int32.ofInt L &&& 31)).toBitVec.toInt = _
  rw [Int32.toBitVec_shiftRight]
  show (BitVec.sshiftRight _ (BitVec.toNat _)).toInt = _
  rw [BitVec.toInt_sshiftRight, a, Int.shiftRight_eq_div_pow]
  show (Int32.ofInt e).toInt / _ = _
  rw [Int32.toInt_ofInt, show Int32.size = 2 ^ 32 from rfl, ab_bm h1 h2]
  rfl
theorem ush_am : ∀ n : Fin 32, (((Int32.ofInt ((n.val : Nat) : Int)).toUInt32 &&& Int32.toUInt32 31).toNat % 32) = n.val := by decide
theorem ushr_0 {e L : Int} (h1 : -2147483648 ≤ e) (h2 : e < 2147483648) (l0 : 0 ≤ L) (l1 : L ≤ 12) : ab_ushr e L = 0 ↔ (0 ≤ e ∧ ab_shr e L = 0) := by
  have a := ush_am ⟨L.toNat, by omega⟩
  simp only [] at a
  rw [show ((L.toNat : Nat) : Int) = L by omega] at a
  rw [shr_eq h1 h2 l0 (by omega)]
  have z : ∀ u : UInt32, u.toInt32.toInt = 0 ↔ u.toNat = 0 := by
    intro u
    constructor
    · intro h
      have : u.toInt32 = 0 := Int32.toInt_inj.mp h
      have : u = 0 := by
        have := congrArg Int32.toUInt32 this
        simpa using this.trans (show Int32.toUInt32 0 = (0 : UInt32) from rfl)
      rw [this]; rfl
    · intro h
      have : u = 0 := UInt32.toNat_inj.mp h
      rw [this]; rfl
  unfold ab_ushr
  rw [z, UInt32.toNat_shiftRight, a, Nat.shiftRight_eq_div_pow]
  have tn : ((Int32.ofInt e).toUInt32.toNat : Int) = e % 4294967296 := by
    show (((BitVec.ofInt 32 e).toNat : Nat) : Int) = _
    rw [BitVec.toNat_ofInt]
    omega
  have p := Nat.pow_pos (n := L.toNat) (show 0 < 2 by decide)
  have p12 : 2 ^ L.toNat ≤ 4096 := by
    have := Nat.pow_le_pow_right (show 0 < 2 by decide) (show L.toNat ≤ 12 by omega)
    omega
  have pi : ((2 ^ L.toNat : Nat) : Int) = (2 : Int) ^ L.toNat := by simp
  rw [← pi]
  generalize 2 ^ L.toNat = P at *
  constructor
  · intro h
    have hz := Nat.div_eq_zero_iff.mp h
    have e0 : 0 ≤ e := by omega
    refine ⟨e0, ?_⟩
    exact Int.ediv_eq_zero_of_lt e0 (by omega)
  · rintro ⟨e0, h⟩
    refine Nat.div_eq_of_lt ?_
    have h5 : e < P := by
      have := Int.mul_ediv_add_emod e P
      have := Int.emod_lt_of_pos e (show (0 : Int) < P by omega)
      rw [h] at *
      omega
    omega
theorem shr_more {e i p : Int} (h1 : -2147483648 ≤ e) (h2 : e < 2147483648) (i0 : 0 ≤ i) (hp : i ≤ p) (p1 : p < 32) (h : ab_shr e i = 0) : ab_shr e p = 0 := by
  rw [shr_eq h1 h2 i0 (by omega)] at h
  rw [shr_eq h1 h2 (by omega) p1]
  have e1 : (2 : Int) ^ p.toNat = 2 ^ i.toNat * 2 ^ (p.toNat - i.toNat) := by rw [← Int.pow_add]; congr 1; omega
  rw [e1, ← Int.ediv_ediv_of_nonneg (Int.pow_nonneg (by omega)), h, Int.zero_ediv]

theorem and_ne {x : Int} (h : ab_and x 1 ≠ 0) : ab_and x 1 = 1 := (and1 x).resolve_left h
theorem not_inS {e q : Int} (h : ab_and (ab_shr e q) 1 = 0) : ¬ inS e q := fun k => by unfold inS at k; omega
theorem inS_none {e i p : Int} (h1 : -2147483648 ≤ e) (h2 : e < 2147483648) (i0 : 0 ≤ i) (hp : i ≤ p) (p1 : p < 32) (h : ab_shr e i = 0) : ¬ inS e p := by
  refine not_inS ?_
  rw [shr_more h1 h2 i0 hp p1 h]
  decide
theorem Comes_told {F : Nat → Int → Int} {t f : Int → Int} {q L : Int} (hL : L = F 11 q) (L1 : 0 ≤ L) (ht : ∀ i : Int, 0 ≤ i → i < L → t i = F 12 (80 * q + i)) {a b : Int} (h : Comes t 0 L f a b) : Comes (F 12) (80 * q) (F 11 q) f a b := by
  have tt : ∀ (z : Int → Int) (k : Int), 0 ≤ k → k ≤ L → pl z (F 12) (80 * q) k = pl z t 0 k := fun z => pl_ind rfl (fun k k0 k1 e => by rw [pl_step k0, pl_step k0, e, Int.zero_add, ht k k0 k1])
  rw [← hL]
  obtain ⟨z, z1, f1, f2⟩ := h
  refine ⟨z, z1, by rw [tt z L (by omega) (Int.le_refl _)]; exact f1, fun k1 k2 a1 a2 b1 b2 hs i i0 i1 => ?_⟩
  rw [← ht k1 a1 a2] at hs i1
  rw [← ht k2 b1 b2] at hs
  have := f2 k1 k2 a1 a2 b1 b2 (by rw [Int.zero_add, Int.zero_add]; exact hs) i i0 (by rw [Int.zero_add]; exact i1)
  rw [tt z k1 a1 (by omega), tt z k2 b1 (by omega)]
  exact this
/-- the cells of law q, with marks from g on -/
def lawC (h : AbH) (g a : Nat) (F : Nat → Int → Int) (q : Int) : Prop :=
  (F 8 q = 0 ∧ ∃ (b : Nat) (t : Int → Int), h a = some (kO g 6 [vR b]) ∧ h b = some (kI (g + 1) (F 11 q).toNat t) ∧ ∀ i : Int, 0 ≤ i → i < F 11 q → t i = F 12 (80 * q + i)) ∨
  (F 8 q = 1 ∧ h a = some (kO g 2 [vI (F 9 q), vI (F 10 q), vI 0])) ∨
  (F 8 q = 2 ∧ h a = some (kO g 2 [vI (F 9 q), vI (F 10 q), vI 1])) ∨
  (F 8 q = 3 ∧ h a = some (kO g 1 [vI (F 9 q)])) ∨
  (F 8 q = 4 ∧ h a = some (kO g 7 [])) ∨
  (F 8 q = 5 ∧ ∃ t : Int → Int, shC h g a t (F 11 q).toNat ∧ ∀ i : Int, 0 ≤ i → i < F 11 q → t i = F 12 (80 * q + i))
theorem shC_kp {h h' : AbH} {g a L : Nat} {t : Int → Int} {P : Nat → Prop} (k : ab_kp P h h') (hp : ∀ j : Nat, j ≤ 5 → P (g + j)) (c : shC h g a t L) : shC h' g a t L := by
  obtain ⟨b1, b2, b3, b4, b5, tl, bs, tm, en, st, c0, c1, c2, c3, c4, c5, c6⟩ := c
  exact ⟨b1, b2, b3, b4, b5, tl, bs, tm, en, st, k _ _ c0 (hp 0 (by omega)), k _ _ c1 (hp 1 (by omega)), k _ _ c2 (hp 2 (by omega)), k _ _ c3 (hp 3 (by omega)), k _ _ c4 (hp 4 (by omega)), k _ _ c5 (hp 5 (by omega)), c6⟩
theorem lawC_kp {h h' : AbH} {g a : Nat} {F : Nat → Int → Int} {q : Int} {P : Nat → Prop} (k : ab_kp P h h') (hp : ∀ j : Nat, j ≤ 5 → P (g + j)) (c : lawC h g a F q) : lawC h' g a F q := by
  have p0 := hp 0 (by omega)
  rcases c with ⟨c, b, t, c1, c2, c3⟩ | ⟨c, c1⟩ | ⟨c, c1⟩ | ⟨c, c1⟩ | ⟨c, c1⟩ | ⟨c, t, c1, c2⟩
  · exact Or.inl ⟨c, b, t, k _ _ c1 p0, k _ _ c2 (hp 1 (by omega)), c3⟩
  · exact Or.inr (Or.inl ⟨c, k _ _ c1 p0⟩)
  · exact Or.inr (Or.inr (Or.inl ⟨c, k _ _ c1 p0⟩))
  · exact Or.inr (Or.inr (Or.inr (Or.inl ⟨c, k _ _ c1 p0⟩)))
  · exact Or.inr (Or.inr (Or.inr (Or.inr (Or.inl ⟨c, k _ _ c1 p0⟩))))
  · exact Or.inr (Or.inr (Or.inr (Or.inr (Or.inr ⟨c, t, shC_kp k hp c1, c2⟩))))
/-- a row of laws -/
def lawsR (h : AbH) (N : Nat) (SA : Int → Option Nat) (G : Int) (mb : Nat) (F : Nat → Int → Int) : Prop := ∀ q : Int, 0 ≤ q → q < N → (q < G → ∃ a : Nat, SA q = some a ∧ lawC h (mb + 8 * q.toNat) a F q) ∧ (G ≤ q → SA q = none)
theorem lawsR.kp {h h' : AbH} {N mb : Nat} {SA : Int → Option Nat} {G : Int} {F : Nat → Int → Int} {P : Nat → Prop} (r : lawsR h N SA G mb F) (k : ab_kp P h h') (hp : ∀ j : Nat, mb ≤ j → j < mb + 8 * N → P j) : lawsR h' N SA G mb F := fun q q0 q1 => ⟨fun g => by
  obtain ⟨a, e, c⟩ := (r q q0 q1).1 g
  exact ⟨a, e, lawC_kp k (fun j hj => hp _ (by omega) (by omega)) c⟩, (r q q0 q1).2⟩
theorem lawsR.step {h h' : AbH} {N mb a : Nat} {SA : Int → Option Nat} {G i : Int} {F : Nat → Int → Int} (r : lawsR h N SA G mb F) (m0 : 201 ≤ mb) (i0 : 0 ≤ i) (k : ab_kp (cP [mb + 8 * i.toNat, mb + 8 * i.toNat + 3, mb + 8 * i.toNat + 4]) h h') (e : SA i = some a) (c : lawC h' (mb + 8 * i.toNat) a F i) : lawsR h' N SA G mb F := fun q q0 q1 => ⟨fun g => by
  by_cases e9 : q = i
  · exact ⟨a, by rw [e9]; exact e, by rw [e9]; exact c⟩
  · obtain ⟨a, e, c⟩ := (r q q0 q1).1 g
    refine ⟨a, e, lawC_kp k (fun j hj => ?_) c⟩
    unfold cP
    simp
    omega, (r q q0 q1).2⟩
def barR (F : Nat → Int → Int) (G e : Int) (f : Int → Int) (n v : Int) : Prop := (v = -1 ∧ KL F G e f n) ∨ (0 ≤ v ∧ v < G ∧ inS e v ∧ (∃ a : Int, 0 ≤ a ∧ a < n ∧ Bar F v f a n) ∧ ∀ p : Int, 0 ≤ p → p < v → inS e p → ∀ a : Int, 0 ≤ a → a < n → ¬ Bar F p f a n)
theorem Sh_0 {F : Nat → Int → Int} {q n v : Int} {f : Int → Int} (h : Sh F q f n v) (hv : v ≤ 0) : ∀ a : Int, 0 ≤ a → a < n → ¬ Bar F q f a n := by
  rcases h with ⟨_, k⟩ | ⟨k, _⟩
  · exact k
  · omega
theorem Sh_1 {F : Nat → Int → Int} {q n v : Int} {f : Int → Int} (h : Sh F q f n v) (hv : ¬ v ≤ 0) : ∃ a : Int, 0 ≤ a ∧ a < n ∧ Bar F q f a n := by
  rcases h with ⟨k, _⟩ | ⟨k1, k2, k3, _⟩
  · omega
  · exact ⟨n - v, by omega, by omega, k3⟩
end CL5
