/-! pure words: steps that take a shape's unknowns off, on lists -/
section PU15
def ls (t : Int → Int) (L : Nat) : List Nat := (List.range L).map (fun (k : Nat) => (t (k : Int)).toNat)
theorem ls_len {t : Int → Int} {L : Nat} : (ls t L).length = L := by simp [ls]
theorem ls_succ {t : Int → Int} {k : Nat} : ls t (k + 1) = ls t k ++ [(t (k : Int)).toNat] := by simp [ls, List.range_succ]
theorem ls_mem {t : Int → Int} {L : Nat} (h : ∀ j : Int, 0 ≤ j → j < L → 0 ≤ t j ∧ t j ≤ 2) : ∀ x ∈ ls t L, x < 3 := by
  intro x hx
  simp only [ls, List.mem_map, List.mem_range] at hx
  obtain ⟨k, hk, rfl⟩ := hx
  have := h k (by omega) (by omega)
  omega
theorem ls_congr {t t' : Int → Int} {L : Nat} (h : ∀ j : Int, 0 ≤ j → j < L → t j = t' j) : ls t L = ls t' L := by
  unfold ls
  refine List.map_congr_left (fun k hk => ?_)
  rw [h k (by omega) (by have := List.mem_range.mp hk; omega)]
/-- bits -/
def has (s x : Nat) : Bool := s >>> x &&& 1 == 1
def unkN (l : List Nat) : Nat := l.foldl (fun s x => s ||| 1 <<< x) 0
/-- the class's look, a letter on: what is reached, the right side of the letter ahead -/
def rs (left : Nat) (st : Nat × Nat) (x : Nat) : Nat × Nat := if has left x then ((if st.2 ≠ 0 ∧ st.1 &&& (st.2 ||| 1 <<< (x + 3)) ≠ 0 then st.1 ||| (st.2 ||| 1 <<< (x + 3)) else st.1), 1 <<< x) else st
def rch (left r : Nat) (l : List Nat) : Nat := (l.foldl (rs left) (r, 0)).1
def rchN (left : Nat) (l : List Nat) : Nat → Nat → Nat
  | 0, r => r
  | k + 1, r => rchN left l k (rch left r l)
def loC (l : List Nat) (left set : Nat) : Bool := (rchN left l 6 set) >>> 3 &&& set == 0
def fl (l : List Nat) (left : Nat) : List Nat := l.filter (has left)
theorem fold_fl {left : Nat} : ∀ (l : List Nat) (st : Nat × Nat), (∀ x ∈ l, x < 3) → l.foldl (rs left) st = (fl l left).foldl (rs 7) st
  | [], _, _ => rfl
  | x :: l, st, h => by
    have hx := h x List.mem_cons_self
    have h7 : has 7 x = true := by
      have : x = 0 ∨ x = 1 ∨ x = 2 := by omega
      rcases this with e | e | e <;> (subst e; decide)
    have ih := fun st => fold_fl (left := left) l st (fun y hy => h y (List.mem_cons_of_mem _ hy))
    rw [List.foldl_cons, ih]
    unfold fl
    by_cases g : has left x = true
    · rw [List.filter_cons_of_pos g, List.foldl_cons]
      congr 1
      unfold rs
      rw [if_pos g, if_pos h7]
    · rw [List.filter_cons_of_neg g]
      congr 1
      unfold rs
      rw [if_neg g]
theorem rchN_fl {left : Nat} {l : List Nat} (h : ∀ x ∈ l, x < 3) : ∀ k r, rchN left l k r = rchN 7 (fl l left) k r
  | 0, _ => rfl
  | k + 1, r => by
    show rchN left l k (rch left r l) = rchN 7 (fl l left) k (rch 7 r (fl l left))
    have e : rch left r l = rch 7 r (fl l left) := by unfold rch; rw [fold_fl l _ h]
    rw [e, rchN_fl h k]
theorem loC_fl {left set : Nat} {l : List Nat} (h : ∀ x ∈ l, x < 3) : loC l left set = loC (fl l left) 7 set := by
  unfold loC
  rw [rchN_fl h]
/-- the reference's look: sides 0 to 2 left, 3 to 5 right, by the number of their class -/
def mrg (sd : List Nat) (x y : Nat) : List Nat := sd.map (fun v => if v = sd.getD (3 + x) 0 then sd.getD y 0 else v)
def sdL (sd : List Nat) : List Nat → List Nat
  | [] => sd
  | [_] => sd
  | x :: y :: r => sdL (mrg sd x y) (y :: r)
def sub (set s : Nat) : Bool := set &&& s == set
def apart (sd : List Nat) (set : Nat) : Bool := (List.range 3).all fun a => (List.range 3).all fun b => !(has set a && has set b && (sd.getD (3 + a) 0 == sd.getD b 0))
def loM (l : List Nat) (set : Nat) : Bool := set != 0 && sub set (unkN l) && apart (sdL [0, 1, 2, 3, 4, 5] l) set
def frc {α : Type} (n : Nat) (f : Nat → α) : α := match n with
  | 0 => f 0
  | k + 1 => f (k + 1)
theorem frc_eq {α : Type} {n : Nat} {f : Nat → α} : frc n f = f n := by cases n <;> rfl
def rchE (r b : Nat) : List Nat → Nat
  | [] => r
  | x :: l => frc (bif !(Nat.beq b 0) && !(Nat.beq (r &&& (b ||| 1 <<< (x + 3))) 0) then r ||| (b ||| 1 <<< (x + 3)) else r) fun r' => frc (1 <<< x) fun b' => rchE r' b' l
def rchNE (l : List Nat) : Nat → Nat → Nat
  | 0, r => r
  | k + 1, r => frc (rchE r 0 l) fun r' => rchNE l k r'
def mrgC {α : Type} (f g : Nat) : List Nat → (List Nat → α) → α
  | [], k => k []
  | v :: r, k => frc (bif Nat.beq v f then g else v) fun v' => mrgC f g r (fun r' => k (v' :: r'))
theorem mrgC_eq {α : Type} {f g : Nat} : ∀ (l : List Nat) (k : List Nat → α), mrgC f g l k = k (l.map (fun v => if v = f then g else v))
  | [], k => rfl
  | v :: r, k => by
    show frc _ _ = _
    rw [frc_eq, mrgC_eq r]
    congr 1
    rw [List.map_cons]
    congr 1
    by_cases e : v = f
    · subst e; simp
    · have : Nat.beq v f = false := by cases h : Nat.beq v f; rfl; exact absurd (Nat.eq_of_beq_eq_true h) e
      rw [this, if_neg e]; rfl
def sdE (sd : List Nat) : List Nat → List Nat
  | [] => sd
  | [_] => sd
  | x :: y :: r => frc (sd.getD (3 + x) 0) fun f => frc (sd.getD y 0) fun g => mrgC f g sd fun sd' => sdE sd' (y :: r)
theorem sdE_eq : ∀ (l : List Nat) (sd : List Nat), sdE sd l = sdL sd l
  | [], _ => rfl
  | [_], _ => rfl
  | x :: y :: r, sd => by
    show frc _ _ = _
    rw [frc_eq, frc_eq, mrgC_eq, sdE_eq (y :: r)]
    rfl
theorem has7 {x : Nat} (h : x < 3) : has 7 x = true := by
  have : x = 0 ∨ x = 1 ∨ x = 2 := by omega
  rcases this with e | e | e <;> (subst e; decide)
theorem rchE_eq : ∀ (l : List Nat) (r b : Nat), (∀ x ∈ l, x < 3) → rchE r b l = (l.foldl (rs 7) (r, b)).1
  | [], _, _, _ => rfl
  | x :: l, r, b, h => by
    show frc _ _ = _
    rw [frc_eq, frc_eq, rchE_eq l _ _ (fun y hy => h y (List.mem_cons_of_mem _ hy)), List.foldl_cons]
    congr 2
    unfold rs
    rw [if_pos (has7 (h x List.mem_cons_self))]
    congr 1
    by_cases g1 : b = 0
    · subst g1; simp
    · have e1 : Nat.beq b 0 = false := by cases h : Nat.beq b 0; rfl; exact absurd (Nat.eq_of_beq_eq_true h) g1
      by_cases g2 : r &&& (b ||| 1 <<< (x + 3)) = 0
      · have e2 : Nat.beq (r &&& (b ||| 1 <<< (x + 3))) 0 = true := by rw [g2]; rfl
        rw [e1, e2, if_neg (by simp [g2])]; rfl
      · have e2 : Nat.beq (r &&& (b ||| 1 <<< (x + 3))) 0 = false := by cases h : Nat.beq (r &&& (b ||| 1 <<< (x + 3))) 0; rfl; exact absurd (Nat.eq_of_beq_eq_true h) g2
        rw [e1, e2, if_pos ⟨g1, g2⟩]; rfl
theorem rchNE_eq {l : List Nat} (h : ∀ x ∈ l, x < 3) : ∀ k r, rchNE l k r = rchN 7 l k r
  | 0, _ => rfl
  | k + 1, r => by
    show frc _ _ = rchN 7 l k (rch 7 r l)
    rw [frc_eq, rchE_eq l r 0 h, rchNE_eq h k]
    rfl
def unkE (s : Nat) : List Nat → Nat
  | [] => s
  | x :: l => frc (s ||| 1 <<< x) fun s' => unkE s' l
theorem unkE_eq : ∀ (l : List Nat) (s : Nat), unkE s l = l.foldl (fun s x => s ||| 1 <<< x) s
  | [], _ => rfl
  | x :: l, s => by
    show frc _ _ = _
    rw [frc_eq, unkE_eq l]; rfl
def chk1 (l : List Nat) (u : Nat) (sd : List Nat) (set : Nat) : Bool := Nat.beq set 0 || !(Nat.beq (set &&& u) set) || (Nat.beq ((rchNE l 6 set) >>> 3 &&& set) 0 == apart sd set)
def frl {α : Type} : List Nat → (List Nat → α) → α
  | [], k => k []
  | v :: r, k => frc v fun v' => frl r fun r' => k (v' :: r')
theorem frl_eq {α : Type} : ∀ (l : List Nat) (k : List Nat → α), frl l k = k l
  | [], _ => rfl
  | v :: r, k => by
    show frc _ _ = _
    rw [frc_eq, frl_eq r]
def chk2 (l : List Nat) : Bool := frc (unkE 0 l) fun u => frl (sdE [0, 1, 2, 3, 4, 5] l) fun sd => chk1 l u sd 1 && chk1 l u sd 2 && chk1 l u sd 3 && chk1 l u sd 4 && chk1 l u sd 5 && chk1 l u sd 6 && chk1 l u sd 7
def allC : Nat → List Nat → Bool
  | 0, l => chk2 l
  | n + 1, l => chk2 l && allC n (0 :: l) && allC n (1 :: l) && allC n (2 :: l)
theorem allC_ok : allC 6 [] = true := by decide +kernel
theorem allC_mem : ∀ (n : Nat) (l : List Nat), allC n l = true → ∀ p : List Nat, p.length ≤ n → (∀ x ∈ p, x < 3) → chk2 (p ++ l) = true := by
  intro n
  induction n with
  | zero =>
    intro l h p hp _
    have : p = [] := List.length_eq_zero_iff.mp (by omega)
    subst this
    exact h
  | succ n ih =>
    intro l h p hp hx
    have h' : chk2 l = true ∧ allC n (0 :: l) = true ∧ allC n (1 :: l) = true ∧ allC n (2 :: l) = true := by
      have h9 : (chk2 l && allC n (0 :: l) && allC n (1 :: l) && allC n (2 :: l)) = true := h
      simp only [Bool.and_eq_true] at h9
      exact ⟨h9.1.1.1, h9.1.1.2, h9.1.2, h9.2⟩
    rcases List.eq_nil_or_concat p with e | ⟨q, x, e⟩
    · subst e; exact h'.1
    · subst e
      rw [List.concat_eq_append] at hp hx ⊢
      rw [List.append_assoc]
      have hq : q.length ≤ n := by simp at hp; omega
      have hqx : ∀ y ∈ q, y < 3 := fun y hy => hx y (List.mem_append_left _ hy)
      have x3 := hx x (by simp)
      have : x = 0 ∨ x = 1 ∨ x = 2 := by omega
      rcases this with e | e | e
      · subst e; exact ih _ h'.2.1 q hq hqx
      · subst e; exact ih _ h'.2.2.1 q hq hqx
      · subst e; exact ih _ h'.2.2.2 q hq hqx
theorem lo_eq {l : List Nat} {set : Nat} (h : ∀ x ∈ l, x < 3) (h6 : l.length ≤ 6) (s0 : set ≠ 0) (s8 : set < 8) (hs : sub set (unkN l) = true) : loC l 7 set = loM l set := by
  have c := allC_mem 6 [] allC_ok l h6 h
  rw [List.append_nil] at c
  unfold chk2 at c
  rw [frc_eq, frl_eq, sdE_eq, unkE_eq] at c
  simp only [Bool.and_eq_true] at c
  have key : chk1 l (unkN l) (sdL [0, 1, 2, 3, 4, 5] l) set = true := by
    obtain ⟨⟨⟨⟨⟨⟨c1, c2⟩, c3⟩, c4⟩, c5⟩, c6⟩, c7⟩ := c
    have : set = 1 ∨ set = 2 ∨ set = 3 ∨ set = 4 ∨ set = 5 ∨ set = 6 ∨ set = 7 := by omega
    rcases this with e | e | e | e | e | e | e <;> (subst e; assumption)
  unfold chk1 at key
  have s1 : Nat.beq set 0 = false := by cases g : Nat.beq set 0; rfl; exact absurd (Nat.eq_of_beq_eq_true g) s0
  have s2 : Nat.beq (set &&& unkN l) set = true := by
    unfold sub at hs
    rw [beq_iff_eq] at hs
    rw [hs]
    exact Nat.beq_refl _
  rw [s1, s2, rchNE_eq h] at key
  have k2 : Nat.beq (rchN 7 l 6 set >>> 3 &&& set) 0 = apart (sdL [0, 1, 2, 3, 4, 5] l) set := by simpa using key
  unfold loC loM
  have s3 : (set != 0) = true := by simp [s0]
  rw [s3, hs, Bool.true_and, Bool.true_and, ← k2]
  by_cases g : (rchN 7 l 6 set >>> 3 &&& set) = 0
  · rw [g]; rfl
  · have e1 : Nat.beq (rchN 7 l 6 set >>> 3 &&& set) 0 = false := by cases g9 : Nat.beq (rchN 7 l 6 set >>> 3 &&& set) 0; rfl; exact absurd (Nat.eq_of_beq_eq_true g9) g
    rw [e1]; simp [g]
/-- the steps -/
def rem (l : List Nat) (set : Nat) : List Nat := l.filter (fun x => !has set x)
def tks (f : List Nat → Option (List Nat)) (l : List Nat) : List Nat → Option (List Nat)
  | [] => none
  | s :: r => if loM l s then (match f (rem l s) with
    | some p => some (s :: p)
    | none => tks f l r) else tks f l r
def tk : Nat → List Nat → Option (List Nat)
  | 0, l => if l = [] then some [] else none
  | k + 1, l => if l = [] then some [] else tks (tk k) l [1, 2, 3, 4, 5, 6, 7]
/-- the steps of the shape of L unknowns -/
def stepsOf (t : Int → Int) (L : Nat) : Option (List Nat) := tk 3 (ls t L)
end PU15
