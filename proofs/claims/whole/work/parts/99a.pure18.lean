/-! pure words: shapes as they are told -/
section PU18
def zim (j : Int) : Int := if j = 3 then 2 else if j = 1 ∨ j = 5 then 1 else 0
/-- how long the word of Zimin with k letters is -/
def zL (k : Nat) : Int := 2 ^ k - 1
def StZ (sh : Int → Int) (q n N : Int) : Prop := ∃ a u : Int, 0 ≤ a ∧ a < u ∧ u ≤ N ∧ Comes sh q n zim a u
theorem hasU_mem {sh : Int → Int} {q n u : Int} (u0 : 0 ≤ u) (n0 : 0 ≤ n) (le : ∀ i : Int, 0 ≤ i → i < n → 0 ≤ sh (q + i)) : hasU sh q n u ↔ u.toNat ∈ ls (fun i => sh (q + i)) n.toNat := by
  unfold hasU ls
  rw [List.mem_map]
  constructor
  · rintro ⟨k, k0, k1, k2⟩
    refine ⟨k.toNat, List.mem_range.mpr (by omega), ?_⟩
    show (sh (q + ((k.toNat : Nat) : Int))).toNat = u.toNat
    rw [show ((k.toNat : Nat) : Int) = k by omega, k2]
  · rintro ⟨k, hk, e⟩
    have hk9 := List.mem_range.mp hk
    have e9 : (sh (q + (k : Int))).toNat = u.toNat := e
    have l9 := le k (by omega) (by omega)
    exact ⟨k, by omega, by omega, by omega⟩
def nUx (l : List Nat) : Nat → Nat
  | 0 => 0
  | x + 1 => nUx l x + if x ∈ l then 1 else 0
theorem nUx_3 {l : List Nat} : nUx l 3 = nU l := by
  show 0 + (if 0 ∈ l then 1 else 0) + (if 1 ∈ l then 1 else 0) + (if 2 ∈ l then 1 else 0) = nU l
  unfold nU
  rw [Nat.zero_add]
def zn (x n : Int) : Prop := (x = 0 ∧ n = 0) ∨ (x = 1 ∧ n = 1) ∨ (x = 2 ∧ n = 3) ∨ (x = 3 ∧ n = 7)
theorem zim_n {x n : Int} (h : zn x n) (x2 : x ≤ 2) : zim n = x := by
  rcases h with ⟨e1, e2⟩ | ⟨e1, e2⟩ | ⟨e1, e2⟩ | ⟨e1, e2⟩
  · subst e1; subst e2; rfl
  · subst e1; subst e2; rfl
  · subst e1; subst e2; rfl
  · omega
theorem zim_c {x n i : Int} (h : zn x n) (x2 : x ≤ 2) (i0 : 0 ≤ i) (i1 : i < n) : zim (n + 1 + i) = zim i := by
  rcases h with ⟨e1, e2⟩ | ⟨e1, e2⟩ | ⟨e1, e2⟩ | ⟨e1, e2⟩
  · omega
  · subst e2
    obtain rfl : i = 0 := by omega
    rfl
  · subst e2
    have : i = 0 ∨ i = 1 ∨ i = 2 := by omega
    rcases this with e | e | e <;> (subst e; rfl)
  · omega
theorem zn_s {x n : Int} (h : zn x n) (x2 : x ≤ 2) : zn (x + 1) (2 * n + 1) := by
  unfold zn at h ⊢
  omega
theorem zn_b {x n : Int} (h : zn x n) : 0 ≤ n ∧ n ≤ 7 ∧ (x ≤ 2 → n ≤ 3) := by
  unfold zn at h
  omega
theorem zn_L {k : Nat} {n : Int} (h : zn (k : Int) n) : n = zL k := by
  rcases h with ⟨e1, e2⟩ | ⟨e1, e2⟩ | ⟨e1, e2⟩ | ⟨e1, e2⟩
  · obtain rfl : k = 0 := by omega
    exact e2
  · obtain rfl : k = 1 := by omega
    exact e2
  · obtain rfl : k = 2 := by omega
    exact e2
  · obtain rfl : k = 3 := by omega
    exact e2
theorem tks_ne {f : List Nat → Option (List Nat)} {l : List Nat} : ∀ r : List Nat, tks f l r ≠ some []
  | [] => by intro h; cases h
  | s :: r => by
    unfold tks
    split
    · split
      · intro h; cases h
      · exact tks_ne r
    · exact tks_ne r
theorem tk_ne {k : Nat} {l : List Nat} (h : l ≠ []) : tk k l ≠ some [] := by
  cases k with
  | zero => rw [tk_0 h]; intro k; cases k
  | succ k => rw [tk_s h]; exact tks_ne _
/-- what shape answers out of the steps -/
def stA (o : Option (List Nat)) (w : Int) : Int := match o with
  | some p => if w = 0 then 1 else if w = 2 then (p.length : Int) else if w - 3 < (p.length : Int) then ((p.getD (w - 3).toNat 0 : Nat) : Int) else 0
  | none => 0
theorem tks_len {f : List Nat → Option (List Nat)} {k : Nat} (hf : ∀ l p, f l = some p → p.length ≤ k) {l : List Nat} : ∀ (r p : List Nat), tks f l r = some p → p.length ≤ k + 1
  | [], p, h => by cases h
  | s :: r, p, h => by
    unfold tks at h
    split at h
    · split at h
      · rename_i p9 e9
        cases h
        have := hf _ _ e9
        simp
        omega
      · exact tks_len hf r p h
    · exact tks_len hf r p h
theorem tk_len : ∀ (k : Nat) (l p : List Nat), tk k l = some p → p.length ≤ k
  | 0, l, p, h => by
    by_cases e : l = []
    · rw [e, tk_nil] at h; cases h; exact Nat.le_refl _
    · rw [tk_0 e] at h; cases h
  | k + 1, l, p, h => by
    by_cases e : l = []
    · rw [e, tk_nil] at h; cases h; exact Nat.zero_le _
    · rw [tk_s e] at h; exact tks_len (tk_len k) _ p h
theorem stA_hi {p : List Nat} {w : Int} (h0 : w ≠ 0) (h2 : w ≠ 2) (h : ¬ w - 3 < (p.length : Int)) : stA (some p) w = 0 := by
  show (if w = 0 then _ else _) = _
  rw [if_neg h0, if_neg h2, if_neg h]
theorem stA_in {p : List Nat} {w : Int} (h0 : w ≠ 0) (h2 : w ≠ 2) (h : w - 3 < (p.length : Int)) : stA (some p) w = ((p.getD (w - 3).toNat 0 : Nat) : Int) := by
  show (if w = 0 then _ else _) = _
  rw [if_neg h0, if_neg h2, if_pos h]
abbrev shL (F : Nat → Int → Int) (q : Int) : List Nat := ls (fun i => F 12 (80 * q + i)) (F 11 q).toNat
def shSp (s : Nat → Int) (F : Nat → Int → Int) (q w c r : Int) : Prop := (¬ (0 ≤ q ∧ q < s 7) ∧ c = 1) ∨ (0 ≤ q ∧ q < s 7 ∧ w < 0 ∧ c = 2) ∨ (0 ≤ q ∧ q < s 7 ∧ 0 ≤ w ∧ c = 0 ∧ ((F 8 q ≠ 5 ∧ r = -1) ∨ (F 8 q = 5 ∧ w = 1 ∧ ((r = 1 ∧ StZ (F 12) (80 * q) (F 11 q) (zL (nU (shL F q)))) ∨ (r = 0 ∧ ¬ StZ (F 12) (80 * q) (F 11 q) (zL (nU (shL F q)))))) ∨ (F 8 q = 5 ∧ w ≠ 1 ∧ r = stA (stepsOf (fun i => F 12 (80 * q + i)) (F 11 q).toNat) w)))
theorem shSp_fun {s : Nat → Int} {F : Nat → Int → Int} {q w c r c' r' : Int} (h : shSp s F q w c r) (h' : shSp s F q w c' r') : c = c' ∧ (c = 0 → r = r') := by
  rcases h with ⟨a, b⟩ | ⟨a1, a2, a3, b⟩ | ⟨a1, a2, a3, b, d⟩ <;> rcases h' with ⟨a', b'⟩ | ⟨a1', a2', a3', b'⟩ | ⟨a1', a2', a3', b', d'⟩
  · exact ⟨by omega, fun e => by omega⟩
  · omega
  · omega
  · omega
  · exact ⟨by omega, fun e => by omega⟩
  · omega
  · omega
  · omega
  · refine ⟨by omega, fun _ => ?_⟩
    rcases d with ⟨d1, d2⟩ | ⟨d1, d2, d3⟩ | ⟨d1, d2, d3⟩ <;> rcases d' with ⟨e1, e2⟩ | ⟨e1, e2, e3⟩ | ⟨e1, e2, e3⟩
    · omega
    · omega
    · omega
    · omega
    · rcases d3 with ⟨f1, f2⟩ | ⟨f1, f2⟩ <;> rcases e3 with ⟨g1, g2⟩ | ⟨g1, g2⟩
      · omega
      · exact absurd f2 g2
      · exact absurd g2 f2
      · omega
    · omega
    · omega
    · omega
    · rw [d3, e3]
end PU18
