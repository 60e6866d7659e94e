/-! pure words: runs -/
section PU3
def peN (f : Int → Int) (p n j : Int) : Nat → Int
  | 0 => j
  | k + 1 => if j < n ∧ f j = f (j - p) then peN f p n (j + 1) k else j
/-- how far the letters from i on keep period p -/
def pe (f : Int → Int) (i n p : Int) : Int := peN f p n (i + p) (n - (i + p)).toNat
theorem peN_ok {f : Int → Int} {p n : Int} : ∀ (k : Nat) (j : Int), (n - j).toNat ≤ k → j ≤ n → j ≤ peN f p n j k ∧ peN f p n j k ≤ n ∧ (∀ t : Int, j ≤ t → t < peN f p n j k → f t = f (t - p)) ∧ (peN f p n j k = n ∨ f (peN f p n j k) ≠ f (peN f p n j k - p))
  | 0, j, hk, hj => by
    show j ≤ j ∧ j ≤ n ∧ (∀ t : Int, j ≤ t → t < j → f t = f (t - p)) ∧ (j = n ∨ f j ≠ f (j - p))
    exact ⟨by omega, hj, fun t t0 t1 => absurd t1 (by omega), Or.inl (by omega)⟩
  | k + 1, j, hk, hj => by
    by_cases e : j < n ∧ f j = f (j - p)
    · have h := peN_ok (f := f) (p := p) (n := n) k (j + 1) (by omega) (by omega)
      rw [show peN f p n j (k + 1) = peN f p n (j + 1) k from if_pos e]
      refine ⟨by omega, h.2.1, fun t t0 t1 => ?_, h.2.2.2⟩
      by_cases e2 : t = j
      · rw [e2]
        exact e.2
      · exact h.2.2.1 t (by omega) t1
    · rw [show peN f p n j (k + 1) = j from if_neg e]
      refine ⟨by omega, hj, fun t t0 t1 => absurd t1 (by omega), ?_⟩
      by_cases e2 : j = n
      · exact Or.inl e2
      · exact Or.inr (fun e3 => e ⟨by omega, e3⟩)
theorem pe_uniq {f : Int → Int} {i n p j : Int} (h1 : i + p ≤ j) (h2 : j ≤ n) (h3 : ∀ t : Int, i + p ≤ t → t < j → f t = f (t - p)) (h4 : j = n ∨ f j ≠ f (j - p)) : j = pe f i n p := by
  have k := peN_ok (f := f) (p := p) (n := n) (n - (i + p)).toNat (i + p) (Nat.le_refl _) (by omega)
  rw [show peN f p n (i + p) (n - (i + p)).toNat = pe f i n p from rfl] at k
  rcases Int.lt_trichotomy j (pe f i n p) with g | g | g
  · rcases h4 with e | e
    · omega
    · exact absurd (k.2.2.1 j h1 g) e
  · exact g
  · rcases k.2.2.2 with e | e
    · omega
    · exact absurd (h3 _ k.1 g) e
def isRun (f : Int → Int) (n i p : Int) : Prop := 2 * p ≤ pe f i n p - i ∧ (i = 0 ∨ f (i - 1) ≠ f (i - 1 + p)) ∧ ∀ q : Int, 1 ≤ q → q < p → ¬ isP f i (pe f i n p) q
noncomputable def rr (f : Int → Int) (n i p : Int) : List (Int × Int × Int) := @ite _ (isRun f n i p) (Classical.propDecidable _) [(i, pe f i n p, p)] []
noncomputable def Lrow (f : Int → Int) (n i : Int) : Nat → List (Int × Int × Int)
  | 0 => []
  | k + 1 => Lrow f n i k ++ rr f n i (k + 1)
noncomputable def Lall (f : Int → Int) (n : Int) : Nat → List (Int × Int × Int)
  | 0 => []
  | i + 1 => Lall f n i ++ Lrow f n i ((n - i) / 2).toNat
/-- the runs found ahead of (i, p) -/
noncomputable def Lat (f : Int → Int) (n i p : Int) : List (Int × Int × Int) := Lall f n i.toNat ++ Lrow f n i (p - 1).toNat
noncomputable def Lfull (f : Int → Int) (n : Int) : List (Int × Int × Int) := Lall f n n.toNat
theorem rr_yes {f : Int → Int} {n i p : Int} (h : isRun f n i p) : rr f n i p = [(i, pe f i n p, p)] := if_pos h
theorem rr_no {f : Int → Int} {n i p : Int} (h : ¬ isRun f n i p) : rr f n i p = [] := if_neg h
theorem Lat_step {f : Int → Int} {n i p : Int} (hp : 1 ≤ p) : Lat f n i (p + 1) = Lat f n i p ++ rr f n i p := by
  unfold Lat
  rw [show (p + 1 - 1).toNat = (p - 1).toNat + 1 by omega]
  show _ ++ (Lrow f n i (p - 1).toNat ++ rr f n i (((p - 1).toNat : Nat) + 1)) = _
  rw [show (((p - 1).toNat : Nat) : Int) + 1 = p by omega, List.append_assoc]
theorem Lat_next {f : Int → Int} {n i p : Int} (hi : 0 ≤ i) (hp : 1 ≤ p) (h1 : i + 2 * (p - 1) ≤ n) (h2 : n < i + 2 * p) : Lat f n i p = Lat f n (i + 1) 1 := by
  unfold Lat
  rw [show (i + 1).toNat = i.toNat + 1 by omega]
  show _ = (Lall f n i.toNat ++ Lrow f n (i.toNat : Nat) ((n - (i.toNat : Nat)) / 2).toNat) ++ Lrow f n (i + 1) 0
  rw [show ((i.toNat : Nat) : Int) = i by omega, show (p - 1).toNat = ((n - i) / 2).toNat by omega]
  exact (List.append_nil _).symm
theorem Lat_end {f : Int → Int} {n : Int} : Lat f n n 1 = Lfull f n := List.append_nil _
theorem Lat_begin {f : Int → Int} {n : Int} : Lat f n 0 1 = [] := rfl
theorem Lrow_len {f : Int → Int} {n i : Int} : ∀ k : Nat, (Lrow f n i k).length ≤ k
  | 0 => Nat.le_refl _
  | k + 1 => by
    show (Lrow f n i k ++ rr f n i (k + 1)).length ≤ k + 1
    rw [List.length_append]
    have := Lrow_len (f := f) (n := n) (i := i) k
    by_cases e : isRun f n i (k + 1)
    · rw [rr_yes e]
      simp
      omega
    · rw [rr_no e]
      simp
      omega
theorem Lall_len {f : Int → Int} {n : Int} (hn : n ≤ 60) : ∀ i : Nat, (Lall f n i).length ≤ 30 * i
  | 0 => Nat.le_refl _
  | i + 1 => by
    show (Lall f n i ++ Lrow f n i ((n - i) / 2).toNat).length ≤ 30 * (i + 1)
    rw [List.length_append]
    have h1 := Lall_len (f := f) hn i
    have h2 := Lrow_len (f := f) (n := n) (i := i) ((n - i) / 2).toNat
    omega
theorem Lat_len {f : Int → Int} {n i p : Int} (hn : n ≤ 60) (hi : i ≤ 60) (hp : p ≤ 31) : (Lat f n i p).length ≤ 1830 := by
  unfold Lat
  rw [List.length_append]
  have h1 := Lall_len (f := f) hn i.toNat
  have h2 := Lrow_len (f := f) (n := n) (i := i) (p - 1).toNat
  omega
theorem Lall_pre {f : Int → Int} {n : Int} (i : Nat) : ∀ k : Nat, ∃ r, Lall f n (i + k) = Lall f n i ++ r
  | 0 => ⟨[], (List.append_nil _).symm⟩
  | k + 1 => by
    obtain ⟨r, h⟩ := Lall_pre i k
    refine ⟨r ++ Lrow f n (i + k : Nat) ((n - (i + k : Nat)) / 2).toNat, ?_⟩
    show Lall f n (i + k) ++ Lrow f n (i + k : Nat) ((n - (i + k : Nat)) / 2).toNat = _
    rw [h, List.append_assoc]
theorem Lrow_pre {f : Int → Int} {n i : Int} (j : Nat) : ∀ k : Nat, ∃ r, Lrow f n i (j + k) = Lrow f n i j ++ r
  | 0 => ⟨[], (List.append_nil _).symm⟩
  | k + 1 => by
    obtain ⟨r, h⟩ := Lrow_pre (f := f) (n := n) (i := i) j k
    refine ⟨r ++ rr f n i ((j + k : Nat) + 1), ?_⟩
    show Lrow f n i (j + k) ++ rr f n i ((j + k : Nat) + 1) = _
    rw [h, List.append_assoc]
/-- what was found ahead stands at the head of all -/
theorem Lat_pre {f : Int → Int} {n i p : Int} (i0 : 0 ≤ i) (i1 : i < n) (p0 : 1 ≤ p) (h : i + 2 * (p - 1) ≤ n) : ∃ r, Lfull f n = Lat f n i p ++ r := by
  obtain ⟨r1, e1⟩ := Lall_pre (f := f) (n := n) (i.toNat + 1) (n.toNat - (i.toNat + 1))
  obtain ⟨r2, e2⟩ := Lrow_pre (f := f) (n := n) (i := i) (p - 1).toNat (((n - i) / 2).toNat - (p - 1).toNat)
  refine ⟨r2 ++ r1, ?_⟩
  unfold Lfull Lat
  rw [show n.toNat = i.toNat + 1 + (n.toNat - (i.toNat + 1)) by omega, e1]
  show (Lall f n i.toNat ++ Lrow f n (i.toNat : Nat) ((n - (i.toNat : Nat)) / 2).toNat) ++ r1 = _
  rw [show ((i.toNat : Nat) : Int) = i by omega, show ((n - i) / 2).toNat = (p - 1).toNat + (((n - i) / 2).toNat - (p - 1).toNat) by omega, e2, List.append_assoc, List.append_assoc, List.append_assoc]
theorem pe_congr {f g : Int → Int} {i n p : Int} (h : ∀ j : Int, 0 ≤ j → j < n → f j = g j) (i0 : 0 ≤ i) (p0 : 1 ≤ p) (hn : i + p ≤ n) : pe f i n p = pe g i n p := by
  have k := peN_ok (f := f) (p := p) (n := n) (n - (i + p)).toNat (i + p) (Nat.le_refl _) (by omega)
  rw [show peN f p n (i + p) (n - (i + p)).toNat = pe f i n p from rfl] at k
  refine pe_uniq k.1 k.2.1 (fun t t0 t1 => ?_) ?_
  · rw [← h t (by omega) (by omega), ← h (t - p) (by omega) (by omega)]
    exact k.2.2.1 t t0 t1
  · by_cases e : pe f i n p = n
    · exact Or.inl e
    · refine Or.inr ?_
      rw [← h _ (by omega) (by omega), ← h _ (by omega) (by omega)]
      exact k.2.2.2.resolve_left e
theorem isRun_congr {f g : Int → Int} {i n p : Int} (h : ∀ j : Int, 0 ≤ j → j < n → f j = g j) (i0 : 0 ≤ i) (p0 : 1 ≤ p) (hn : i + 2 * p ≤ n) : isRun f n i p ↔ isRun g n i p := by
  have e := pe_congr h i0 p0 (by omega)
  have k := peN_ok (f := f) (p := p) (n := n) (n - (i + p)).toNat (i + p) (Nat.le_refl _) (by omega)
  rw [show peN f p n (i + p) (n - (i + p)).toNat = pe f i n p from rfl] at k
  have one : ∀ f g : Int → Int, (∀ j : Int, 0 ≤ j → j < n → f j = g j) → pe f i n p = pe g i n p → pe f i n p ≤ n → isRun f n i p → isRun g n i p := by
    intro f g h e k ⟨a1, a2, a3⟩
    refine ⟨by rw [← e]; exact a1, ?_, fun q q0 q1 q2 => a3 q q0 q1 (isP_congr (fun j j0 j1 => (h j (by omega) (by omega)).symm) (by omega) (by rw [e]; exact q2))⟩
    rcases a2 with a2 | a2
    · exact Or.inl a2
    · by_cases e0 : i = 0
      · exact Or.inl e0
      · refine Or.inr ?_
        rw [← h _ (by omega) (by omega), ← h _ (by omega) (by omega)]
        exact a2
  exact ⟨one f g h e k.2.1, one g f (fun j j0 j1 => (h j j0 j1).symm) e.symm (by omega)⟩
theorem rr_congr {f g : Int → Int} {i n p : Int} (h : ∀ j : Int, 0 ≤ j → j < n → f j = g j) (i0 : 0 ≤ i) (p0 : 1 ≤ p) (hn : i + 2 * p ≤ n) : rr f n i p = rr g n i p := by
  by_cases e : isRun f n i p
  · rw [rr_yes e, rr_yes ((isRun_congr h i0 p0 hn).mp e), pe_congr h i0 p0 (by omega)]
  · rw [rr_no e, rr_no (fun e2 => e ((isRun_congr h i0 p0 hn).mpr e2))]
theorem Lrow_congr {f g : Int → Int} {i n : Int} (h : ∀ j : Int, 0 ≤ j → j < n → f j = g j) (i0 : 0 ≤ i) : ∀ k : Nat, i + 2 * k ≤ n → Lrow f n i k = Lrow g n i k
  | 0, _ => rfl
  | k + 1, hk => by
    show Lrow f n i k ++ rr f n i (k + 1) = Lrow g n i k ++ rr g n i (k + 1)
    rw [Lrow_congr h i0 k (by omega), rr_congr h i0 (by omega) (by omega)]
theorem Lall_congr {f g : Int → Int} {n : Int} (h : ∀ j : Int, 0 ≤ j → j < n → f j = g j) : ∀ i : Nat, (i : Int) ≤ n → Lall f n i = Lall g n i
  | 0, _ => rfl
  | i + 1, hi => by
    show Lall f n i ++ Lrow f n i ((n - i) / 2).toNat = Lall g n i ++ Lrow g n i ((n - i) / 2).toNat
    rw [Lall_congr h i (by omega), Lrow_congr h (by omega) _ (by omega)]
theorem Lfull_congr {f g : Int → Int} {n : Int} (n0 : 0 ≤ n) (h : ∀ j : Int, 0 ≤ j → j < n → f j = g j) : Lfull f n = Lfull g n := Lall_congr h _ (by omega)
end PU3
