/-! pure words: how the class and the reference come to the same steps -/
section PU16
theorem has_tb {s x : Nat} : has s x = s.testBit x := by
  unfold has Nat.testBit
  rw [Nat.and_comm 1, Nat.and_one_is_mod]
  rcases Nat.mod_two_eq_zero_or_one (s >>> x) with e | e <;> rw [e] <;> rfl
theorem has_fold {y : Nat} : ∀ (l : List Nat) (s : Nat), has (l.foldl (fun s x => s ||| 1 <<< x) s) y = (has s y || decide (y ∈ l))
  | [], s => by simp
  | x :: l, s => by
    rw [List.foldl_cons, has_fold l, has_tb, has_tb, Nat.testBit_or, Nat.one_shiftLeft, Nat.testBit_two_pow, Bool.or_assoc]
    congr 1
    rw [Bool.eq_iff_iff, Bool.or_eq_true, decide_eq_true_iff, decide_eq_true_iff, decide_eq_true_iff, List.mem_cons]
    constructor
    · rintro (e | e)
      · exact Or.inl e.symm
      · exact Or.inr e
    · rintro (e | e)
      · exact Or.inl e.symm
      · exact Or.inr e
theorem has_unk {l : List Nat} {y : Nat} : has (unkN l) y = decide (y ∈ l) := by
  unfold unkN
  rw [has_fold]
  have : has 0 y = false := by rw [has_tb]; exact Nat.zero_testBit y
  rw [this, Bool.false_or]
theorem sub8 : ∀ a b : Fin 8, (sub a.val b.val = true ↔ ∀ x : Fin 3, has a.val x.val = true → has b.val x.val = true) := by decide +kernel
theorem ext8 : ∀ a b : Fin 8, (∀ x : Fin 3, has a.val x.val = has b.val x.val) → a = b := by decide +kernel
theorem bit8 : ∀ (a b : Fin 8), (a.val &&& (7 ^^^ b.val) < 8) ∧ ∀ x : Fin 3, has (a.val &&& (7 ^^^ b.val)) x.val = (has a.val x.val && !has b.val x.val) := by decide +kernel
theorem nz8 : ∀ a : Fin 8, a.val ≠ 0 → ∃ x : Fin 3, has a.val x.val = true := by decide +kernel
theorem sub_iff {a b : Nat} (ha : a < 8) (hb : b < 8) : sub a b = true ↔ ∀ x : Nat, x < 3 → has a x = true → has b x = true :=
  (sub8 ⟨a, ha⟩ ⟨b, hb⟩).trans ⟨fun h x hx => h ⟨x, hx⟩, fun h x => h x.val x.isLt⟩
theorem ext_iff {a b : Nat} (ha : a < 8) (hb : b < 8) (h : ∀ x : Nat, x < 3 → has a x = has b x) : a = b := by
  have := ext8 ⟨a, ha⟩ ⟨b, hb⟩ (fun x => h x.val x.isLt)
  exact congrArg Fin.val this
theorem unk8 {l : List Nat} (h : ∀ x ∈ l, x < 3) : unkN l < 8 := unkN_lt l 0 h (by decide)
theorem fl_mem {l : List Nat} {left x : Nat} : x ∈ fl l left ↔ x ∈ l ∧ has left x = true := by
  unfold fl
  exact List.mem_filter
theorem fl_3 {l : List Nat} {left : Nat} (h : ∀ x ∈ l, x < 3) : ∀ x ∈ fl l left, x < 3 := fun x hx => h x (fl_mem.mp hx).1
theorem unk_fl {l : List Nat} {left : Nat} (h : ∀ x ∈ l, x < 3) (l8 : left < 8) (hs : sub left (unkN l) = true) : unkN (fl l left) = left := by
  refine ext_iff (unk8 (fl_3 h)) l8 (fun x x3 => ?_)
  rw [has_unk, Bool.eq_iff_iff, decide_eq_true_iff, fl_mem]
  constructor
  · exact fun k => k.2
  · intro k
    have := (sub_iff l8 (unk8 h)).mp hs x x3 k
    rw [has_unk, decide_eq_true_iff] at this
    exact ⟨this, k⟩
theorem fl_all {l : List Nat} : fl l (unkN l) = l := by
  unfold fl
  rw [List.filter_eq_self]
  intro x hx
  rw [has_unk, decide_eq_true_iff]
  exact hx
theorem sub_rfl {a : Nat} : sub a a = true := by unfold sub; rw [Nat.and_self]; exact beq_self_eq_true a
theorem fl_rem {l : List Nat} {left s : Nat} (h : ∀ x ∈ l, x < 3) (l8 : left < 8) (s8 : s < 8) : fl l (left &&& (7 ^^^ s)) = rem (fl l left) s := by
  unfold rem fl
  rw [List.filter_filter]
  refine List.filter_congr (fun x hx => ?_)
  rw [(bit8 ⟨left, l8⟩ ⟨s, s8⟩).2 ⟨x, h x hx⟩, Bool.and_comm]
theorem sub_off {left s b : Nat} (l8 : left < 8) (s8 : s < 8) (b8 : b < 8) (hs : sub left b = true) : left &&& (7 ^^^ s) < 8 ∧ sub (left &&& (7 ^^^ s)) b = true := by
  have q := bit8 ⟨left, l8⟩ ⟨s, s8⟩
  refine ⟨q.1, (sub_iff q.1 b8).mpr (fun x x3 k => (sub_iff l8 b8).mp hs x x3 ?_)⟩
  have k9 := q.2 ⟨x, x3⟩
  simp only [] at k9
  rw [k] at k9
  have := k9.symm
  rw [Bool.and_eq_true] at this
  exact this.1
theorem fl_nil {l : List Nat} {left : Nat} (h : ∀ x ∈ l, x < 3) (l8 : left < 8) (hs : sub left (unkN l) = true) : fl l left = [] ↔ left = 0 := by
  constructor
  · intro k
    have := unk_fl h l8 hs
    rw [k] at this
    exact this.symm
  · intro k
    subst k
    unfold fl
    rw [List.filter_eq_nil_iff]
    intro x _
    have : has 0 x = false := by rw [has_tb]; exact Nat.zero_testBit x
    rw [this]
    decide
theorem fl_len {l : List Nat} {left : Nat} : (fl l left).length ≤ l.length := List.length_filter_le _ _
theorem loM_cl {l : List Nat} {left s : Nat} (h : ∀ x ∈ l, x < 3) (h6 : l.length ≤ 6) (l8 : left < 8) (hs : sub left (unkN l) = true) (s1 : s ≠ 0) (s8 : s < 8) : loM (fl l left) s = (sub s left && loC l left s) := by
  cases g : sub s left with
  | false =>
    unfold loM
    rw [unk_fl h l8 hs, g]
    simp
  | true =>
    rw [Bool.true_and, loC_fl h]
    exact (lo_eq (fl_3 h) (Nat.le_trans fl_len h6) s1 s8 (by rw [unk_fl h l8 hs]; exact g)).symm
/-- candidates behind c -/
def cand (c : Nat) : List Nat := [1, 2, 3, 4, 5, 6, 7].drop c
theorem cand_c : ∀ c : Fin 7, cand c.val = (c.val + 1) :: cand (c.val + 1) := by decide
theorem cand7 : cand 7 = [] := rfl
theorem tks_no {f : List Nat → Option (List Nat)} {l : List Nat} {c : Nat} (hc : c < 7) (h : loM l (c + 1) = false) : tks f l (cand c) = tks f l (cand (c + 1)) := by
  rw [cand_c ⟨c, hc⟩]
  show (if loM l (c + 1) then _ else _) = _
  rw [h]
  rfl
theorem tks_yes {f : List Nat → Option (List Nat)} {l : List Nat} {c : Nat} (hc : c < 7) (h : loM l (c + 1) = true) : tks f l (cand c) = (match f (rem l (c + 1)) with
    | some p => some ((c + 1) :: p)
    | none => tks f l (cand (c + 1))) := by
  rw [cand_c ⟨c, hc⟩]
  show (if loM l (c + 1) then _ else _) = _
  rw [h]
  rfl
theorem tks_end {f : List Nat → Option (List Nat)} {l : List Nat} : ∀ (k c : Nat), c + k = 7 → (∀ s : Nat, c < s → s ≤ 7 → loM l s = false) → tks f l (cand c) = none
  | 0, c, e, _ => by
    have : c = 7 := by omega
    subst this
    rfl
  | k + 1, c, e, h => by
    rw [tks_no (by omega) (h _ (by omega) (by omega))]
    exact tks_end k (c + 1) (by omega) (fun s s0 s1 => h s (by omega) s1)
theorem tk_nil {k : Nat} : tk k [] = some [] := by cases k <;> rfl
theorem tk_0 {l : List Nat} (h : l ≠ []) : tk 0 l = none := if_neg h
theorem tk_s {k : Nat} {l : List Nat} (h : l ≠ []) : tk (k + 1) l = tks (tk k) l (cand 0) := if_neg h
/-- the class's answer out of it: how many steps there are, with d ahead -/
def tkN (o : Option (List Nat)) (d : Nat) : Int := match o with
  | some p => ((d + p.length : Nat) : Int)
  | none => 0
def stOk (o : Option (List Nat)) (d : Nat) (st : Int → Int) : Prop := ∀ p : List Nat, o = some p → ∀ i : Nat, i < p.length → st ((d + i : Nat) : Int) = ((p.getD i 0 : Nat) : Int)
/-- how many unknowns a word has -/
def nU (l : List Nat) : Nat := (if 0 ∈ l then 1 else 0) + (if 1 ∈ l then 1 else 0) + (if 2 ∈ l then 1 else 0)
theorem nU_3 {l : List Nat} : nU l ≤ 3 := by unfold nU; split <;> split <;> split <;> omega
theorem nU_0 {l : List Nat} (h : ∀ x ∈ l, x < 3) (e : nU l = 0) : l = [] := by
  cases l with
  | nil => rfl
  | cons x r =>
    exfalso
    have x3 := h x List.mem_cons_self
    have : x = 0 ∨ x = 1 ∨ x = 2 := by omega
    unfold nU at e
    have m : x ∈ x :: r := List.mem_cons_self
    rcases this with g | g | g
    · subst g; rw [if_pos m] at e; omega
    · subst g; rw [if_pos m] at e; omega
    · subst g; rw [if_pos m] at e; omega
theorem rem_mem {l : List Nat} {s x : Nat} : x ∈ rem l s ↔ x ∈ l ∧ has s x = false := by
  unfold rem
  rw [List.mem_filter]
  constructor
  · exact fun k => ⟨k.1, by have := k.2; cases g : has s x; rfl; rw [g] at this; cases this⟩
  · exact fun k => ⟨k.1, by rw [k.2]; rfl⟩
theorem rem_3 {l : List Nat} {s : Nat} (h : ∀ x ∈ l, x < 3) : ∀ x ∈ rem l s, x < 3 := fun x hx => h x (rem_mem.mp hx).1
theorem loM_ne {l : List Nat} {s : Nat} (h : loM l s = true) : s ≠ 0 ∧ sub s (unkN l) = true := by
  unfold loM at h
  rw [Bool.and_eq_true, Bool.and_eq_true] at h
  exact ⟨(by have := h.1.1; intro e; subst e; cases this), h.1.2⟩
theorem nU_rem {l : List Nat} {s : Nat} (h : ∀ x ∈ l, x < 3) (s8 : s < 8) (hs : loM l s = true) : nU (rem l s) < nU l := by
  obtain ⟨s0, sl⟩ := loM_ne hs
  obtain ⟨⟨x, x3⟩, hx⟩ := nz8 ⟨s, s8⟩ s0
  simp only [] at hx
  have xl := (sub_iff s8 (unk8 h)).mp sl x x3 hx
  rw [has_unk, decide_eq_true_iff] at xl
  have nx : ¬ x ∈ rem l s := fun k => by have := (rem_mem.mp k).2; rw [hx] at this; cases this
  have le : ∀ y : Nat, (if y ∈ rem l s then 1 else 0) ≤ (if y ∈ l then 1 else 0) := by
    intro y
    by_cases g : y ∈ rem l s
    · rw [if_pos g, if_pos (rem_mem.mp g).1]; exact Nat.le_refl _
    · rw [if_neg g]; exact Nat.zero_le _
  have l0 := le 0
  have l1 := le 1
  have l2 := le 2
  have : x = 0 ∨ x = 1 ∨ x = 2 := by omega
  unfold nU
  rcases this with g | g | g
  · subst g; rw [if_neg nx, if_pos xl]; omega
  · subst g; rw [if_neg nx, if_pos xl]; omega
  · subst g; rw [if_neg nx, if_pos xl]; omega
/-- the reference's stack: words Ls i, sets cs i below d; x is what comes of the search at d -/
def cont (Ls : Nat → List Nat) (cs : Nat → Nat) : Nat → Option (List Nat) → Option (List Nat)
  | 0, x => x
  | d + 1, x => cont Ls cs d (match x with
    | some p => some (cs d :: p)
    | none => tks (tk (2 - d)) (Ls d) (cand (cs d)))
theorem cont_congr {Ls Ls' : Nat → List Nat} {cs cs' : Nat → Nat} : ∀ (d : Nat) (x : Option (List Nat)), (∀ i : Nat, i < d → Ls i = Ls' i ∧ cs i = cs' i) → cont Ls cs d x = cont Ls' cs' d x
  | 0, _, _ => rfl
  | d + 1, x, h => by
    unfold cont
    rw [(h d (by omega)).1, (h d (by omega)).2]
    exact cont_congr d _ (fun i hi => h i (by omega))
theorem cont_some {Ls : Nat → List Nat} {cs : Nat → Nat} : ∀ (d : Nat) (p : List Nat), cont Ls cs d (some p) = some ((List.range d).map cs ++ p)
  | 0, _ => rfl
  | d + 1, p => by
    show cont Ls cs d (some (cs d :: p)) = _
    rw [cont_some d, List.range_succ, List.map_append, List.append_assoc]
    rfl
/-- what the search at d answers, with the sets behind c still to be looked at -/
def atD (d : Nat) (l : List Nat) (c : Nat) : Option (List Nat) := if l = [] then some [] else tks (tk (2 - d)) l (cand c)
theorem atD_0 {l : List Nat} : atD 0 l 0 = tk 3 l := by
  unfold atD
  by_cases e : l = []
  · rw [if_pos e, e]; exact tk_nil.symm
  · rw [if_neg e, tk_s e]
theorem atD_tk {d : Nat} {l : List Nat} (h : d ≤ 2) (h3 : ∀ x ∈ l, x < 3) (hn : d + 1 + nU l ≤ 3) : tk (2 - d) l = atD (d + 1) l 0 := by
  unfold atD
  by_cases e : l = []
  · rw [if_pos e, e]; exact tk_nil
  · have n0 : nU l ≠ 0 := fun k => e (nU_0 h3 k)
    rw [if_neg e, show 2 - d = (2 - (d + 1)) + 1 by omega]
    exact tk_s e
end PU16
