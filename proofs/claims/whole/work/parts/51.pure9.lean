/-! pure words: how the shortest span of a shape is sought, from its end -/
section PU9
def mx (z : Int → Int) : Int → Int := fun y => if z y = 0 then 1 else z y
theorem cnt_mono {f : Int → Int} {c a i : Int} (i0 : 0 ≤ i) : ∀ k : Nat, cnt f c a i ≤ cnt f c a (i + k)
  | 0 => by rw [show i + ((0 : Nat) : Int) = i by omega]; omega
  | k + 1 => by
    have h := cnt_mono (f := f) (c := c) (a := a) i0 k
    rw [show i + ((k + 1 : Nat) : Int) = i + k + 1 by omega, cnt_step (by omega)]
    split <;> omega
theorem cnt_le {f : Int → Int} {c a i j : Int} (i0 : 0 ≤ i) (h : i ≤ j) : cnt f c a i ≤ cnt f c a j := by
  have k := cnt_mono (f := f) (c := c) (a := a) i0 (j - i).toNat
  rw [show i + (((j - i).toNat : Nat) : Int) = j by omega] at k
  exact k
theorem cnt_has {f : Int → Int} {c i : Int} (i0 : 0 ≤ i) (e : f i = c) : cnt f c 0 (i + 1) = cnt f c 0 i + 1 := by
  rw [cnt_step i0, if_pos (by rw [Int.zero_add]; exact e)]
theorem cnt_two {f : Int → Int} {c i j n : Int} (i0 : 0 ≤ i) (h : i < j) (j1 : j < n) (e1 : f i = c) (e2 : f j = c) : 2 ≤ cnt f c 0 n := by
  have a1 := cnt_has i0 e1
  have a2 := cnt_has (show 0 ≤ j by omega) e2
  have b1 := cnt_le (f := f) (c := c) (a := 0) (i := i + 1) (j := j) (by omega) (by omega)
  have b2 := cnt_le (f := f) (c := c) (a := 0) (i := j + 1) (j := n) (by omega) (by omega)
  have b3 := cnt_bd (f := f) (c := c) (a := 0) i0
  omega
theorem cnt_one {f : Int → Int} {c i n : Int} (i0 : 0 ≤ i) (h : ∀ j : Int, 0 ≤ j → j < n → f j = c → j = i) (e : f i = c) : ∀ k : Int, 0 ≤ k → k ≤ n → cnt f c 0 k = if i < k then 1 else 0 := pl_ind (by rw [cnt0, if_neg (by omega)]) (fun k k0 k1 ih => by
  rw [cnt_step k0, ih, Int.zero_add]
  by_cases g : f k = c
  · have := h k k0 k1 g
    subst this
    rw [if_neg (by omega), if_pos g, if_pos (by omega)]
    omega
  · rw [if_neg g]
    have : k ≠ i := fun e9 => g (by rw [e9]; exact e)
    by_cases g2 : i < k
    · rw [if_pos g2, if_pos (by omega)]; omega
    · rw [if_neg g2, if_neg (by omega)]; omega)
theorem cnt_other {f : Int → Int} {c i n : Int} (i0 : 0 ≤ i) (i1 : i < n) (e : f i = c) (h : cnt f c 0 n ≠ 1) : ∃ j : Int, 0 ≤ j ∧ j < n ∧ f j = c ∧ j ≠ i := by
  apply Classical.byContradiction
  intro k
  refine h ?_
  rw [cnt_one i0 (fun j j0 j1 hj => ?_) e n (by omega) (Int.le_refl _), if_pos i1]
  apply Classical.byContradiction
  intro g
  exact k ⟨j, j0, j1, hj, g⟩
theorem cnt_none {f : Int → Int} {c n : Int} (h : ∀ j : Int, 0 ≤ j → j < n → f j ≠ c) : ∀ k : Int, 0 ≤ k → k ≤ n → cnt f c 0 k = 0 := pl_ind rfl (fun k k0 k1 ih => by
  rw [cnt_step k0, ih, Int.zero_add, Int.zero_add, if_neg (h k k0 k1)])
theorem pl_put {z t : Int → Int} {x s : Int} : ∀ k : Int, 0 ≤ k → k ≤ 100 → pl (ab_f z x s) t 0 k = pl z t 0 k + (s - z x) * cnt t x 0 k := pl_ind (by rw [pl0, pl0, cnt0]; omega) (fun k k0 k1 e => by
  rw [pl0q k0, pl0q k0, cnt_step k0, Int.zero_add, e, Int.mul_add]
  by_cases g : t k = x
  · rw [if_pos g, ab_f_eq g, g]; omega
  · rw [if_neg g, ab_f_ne g]; omega)
theorem pl_les {z z' t : Int → Int} {n : Int} (h : ∀ k : Int, 0 ≤ k → k < n → z (t k) ≤ z' (t k)) : ∀ k : Int, 0 ≤ k → k ≤ n → pl z t 0 k ≤ pl z' t 0 k := pl_ind (by rw [pl0, pl0]; omega) (fun k k0 k1 e => by
  rw [pl0q k0, pl0q k0]
  have := h k k0 k1
  omega)
/-- behind place k these sizes agree, so the sums do -/
theorem pl_tail {z z' t : Int → Int} {k n : Int} (k0 : 0 ≤ k) (h : ∀ j : Int, k ≤ j → j < n → z (t j) = z' (t j)) : ∀ m : Nat, k + m ≤ n → pl z t 0 (k + m) - pl z t 0 k = pl z' t 0 (k + m) - pl z' t 0 k
  | 0, _ => by
    rw [show k + ((0 : Nat) : Int) = k by omega]
    omega
  | m + 1, hm => by
    have e := pl_tail k0 h m (by omega)
    rw [show k + ((m + 1 : Nat) : Int) = k + m + 1 by omega, pl0q (by omega), pl0q (by omega), h (k + m) (by omega) (by omega)]
    omega
theorem pl_tl {z z' t : Int → Int} {k j n : Int} (k0 : 0 ≤ k) (h : ∀ j : Int, k ≤ j → j < n → z (t j) = z' (t j)) (j0 : k ≤ j) (j1 : j ≤ n) : pl z t 0 j - pl z t 0 k = pl z' t 0 j - pl z' t 0 k := by
  have e := pl_tail k0 h (j - k).toNat (by omega)
  rw [show k + (((j - k).toNat : Nat) : Int) = j by omega] at e
  exact e
def asg (z : Int → Int) : Prop := ∃ y : Int, z y ≠ 0
def behind (t z : Int → Int) (k L y : Int) : Prop := ∃ j : Int, k ≤ j ∧ j < L ∧ t j = y
def sfit (t f : Int → Int) (L n : Int) (z : Int → Int) : Prop := (∀ y : Int, 1 ≤ z y) ∧ pl z t 0 L ≤ n ∧ Fit z t 0 L f (n - pl z t 0 L) n
def ext (z z' : Int → Int) : Prop := ∀ y : Int, z y ≠ 0 → z' y = z y
def fAch (t f : Int → Int) (L n bs : Int) : Prop := bs ≤ n ∧ ∃ z : Int → Int, sfit t f L n z ∧ pl z t 0 L = bs
/-- ahead of fit: k places are left, they end at e -/
def fPre (t f : Int → Int) (L n k e le bs : Int) (z en : Int → Int) : Prop := 0 ≤ k ∧ k ≤ L ∧ 0 ≤ e ∧ e ≤ n ∧ (∀ y : Int, 0 ≤ z y ∧ z y ≤ n) ∧ (∀ j : Int, k ≤ j → j < L → 1 ≤ z (t j)) ∧ (∀ y : Int, z y ≠ 0 → behind t z k L y ∧ z y ≤ en y ∧ en y ≤ n) ∧ n - e = pl z t 0 L - pl z t 0 k ∧ (∀ j : Int, k ≤ j → j < L → ∀ i : Int, 1 ≤ i → i ≤ z (t j) → f (n - (pl z t 0 L - pl z t 0 (j + 1)) - i) = f (en (t j) - i)) ∧ le = pl (mx z) t 0 L ∧ bs ≤ n + 1 ∧ (asg z → le < bs)
def fPost (t f : Int → Int) (L n bs : Int) (z en : Int → Int) (bs' : Int) (en' : Int → Int) : Prop := bs' ≤ bs ∧ (bs' = bs ∨ fAch t f L n bs') ∧ (∀ z' : Int → Int, sfit t f L n z' → ext z z' → bs' ≤ pl z' t 0 L) ∧ (∀ y : Int, z y ≠ 0 → en' y = en y)
variable {t f : Int → Int} {L n k e le bs : Int} {z en : Int → Int}
theorem fPre.mxt (h : fPre t f L n k e le bs z en) : ∀ j : Int, k ≤ j → j < L → z (t j) = mx z (t j) := fun j j0 j1 => by
  have := h.2.2.2.2.2.1 j j0 j1
  unfold mx
  rw [if_neg (by omega)]
theorem mx_one (h0 : ∀ y : Int, 0 ≤ z y) (y : Int) : 1 ≤ mx z y := by
  have := h0 y
  unfold mx
  split <;> omega
/-- what is told is at least so long -/
theorem fPre.le_eq (h : fPre t f L n k e le bs z en) : le = n - e + pl (mx z) t 0 k ∧ k ≤ pl (mx z) t 0 k := by
  have e1 := pl_tl h.1 h.mxt h.2.1 (Int.le_refl L)
  have e2 := h.2.2.2.2.2.2.2.1
  have e3 := h.2.2.2.2.2.2.2.2.2.1
  refine ⟨by omega, pl_ge (q := 0) (n := k) (fun j j0 j1 => mx_one (fun y => (h.2.2.2.2.1 y).1) _) k h.1 (Int.le_refl _)⟩
/-- where the last places end -/
theorem fPre.at_end (h : fPre t f L n k e le bs z en) {z' : Int → Int} (hx : ext z z') {j : Int} (j0 : k ≤ j) (j1 : j ≤ L) : n - pl z' t 0 L + pl z' t 0 j = n - (pl z t 0 L - pl z t 0 j) := by
  have ag : ∀ j : Int, k ≤ j → j < L → z (t j) = z' (t j) := fun j j0 j1 => by
    have := h.2.2.2.2.2.1 j j0 j1
    rw [hx (t j) (by omega)]
  have e1 := pl_tl h.1 ag h.2.1 (Int.le_refl L)
  have e2 := pl_tl h.1 ag j0 j1
  omega
theorem fPre.e_end (h : fPre t f L n k e le bs z en) {z' : Int → Int} (hx : ext z z') : n - pl z' t 0 L + pl z' t 0 k = e := by
  have a := h.at_end hx (Int.le_refl k) h.2.1
  have e2 := h.2.2.2.2.2.2.2.1
  omega
theorem fPre.done (L1 : 1 ≤ L) (h : fPre t f L n 0 e le bs z en) : fPost t f L n bs z en le en := by
  have hl := h.le_eq
  rw [pl0] at hl
  have z0 := fun y => (h.2.2.2.2.1 y).1
  have lb : le < bs := h.2.2.2.2.2.2.2.2.2.2.2 ⟨t 0, by have := h.2.2.2.2.2.1 0 (by omega) (by omega); omega⟩
  have hx : ext z (mx z) := fun y hy => by unfold mx; rw [if_neg hy]
  have hle := h.2.2.2.2.2.2.2.2.2.1
  have hbs := h.2.2.2.2.2.2.2.2.2.2.1
  refine ⟨by omega, Or.inr ⟨by omega, mx z, ⟨mx_one z0, by omega, ?_, ?_⟩, hle.symm⟩, fun z' hz hx' => ?_, fun _ _ => rfl⟩
  · omega
  · intro k1 k2 a1 a2 b1 b2 hs i i0 i1
    have key : ∀ k : Int, 0 ≤ k → k < L → ∀ i : Int, 0 ≤ i → i < mx z (t k) → f (n - pl (mx z) t 0 L + pl (mx z) t 0 k + i) = f (en (t k) - (mx z (t k) - i)) := by
      intro k k0 k9 i i0 i1
      have c := h.2.2.2.2.2.2.2.2.1 k k0 k9 (mx z (t k) - i) (by omega) (by rw [h.mxt k k0 k9]; omega)
      rw [← h.at_end hx (by omega) (by omega), pl0q k0] at c
      rw [← c]
      congr 1
      omega
    rw [Int.zero_add] at i1 hs
    rw [Int.zero_add] at hs
    rw [key k1 a1 a2 i i0 i1, key k2 b1 b2 i i0 (by rw [← hs]; exact i1), hs]
  · have e1 := h.e_end hx'
    rw [pl0] at e1
    omega
def alik (f : Int → Int) (e o s : Int) : Prop := s ≤ e ∧ s ≤ o ∧ ∀ i : Int, 1 ≤ i → i ≤ s → f (e - i) = f (o - i)
theorem fPre.sam (h : fPre t f L n (k + 1) e le bs z en) (k0 : 0 ≤ k) (hz : z (t k) ≠ 0) (hs : alik f e (en (t k)) (z (t k))) : fPre t f L n k (e - z (t k)) le bs z en := by
  obtain ⟨h1, h2, h3, h4, h5, h6, h7, h8, h9, h10, h11, h12⟩ := h
  have st := pl0q (z := z) (sh := t) k0
  have hk := h5 (t k)
  refine ⟨k0, by omega, by have := hs.1; omega, by omega, h5, fun j j0 j1 => ?_, fun y hy => ?_, by omega, fun j j0 j1 i i0 i1 => ?_, h10, h11, h12⟩
  · by_cases g : j = k
    · rw [g]; omega
    · exact h6 j (by omega) j1
  · obtain ⟨⟨j, a, b, c⟩, d⟩ := h7 y hy
    exact ⟨⟨j, by omega, b, c⟩, d⟩
  · by_cases g : j = k
    · rw [g] at i1 ⊢
      rw [show n - (pl z t 0 L - pl z t 0 (k + 1)) = e by omega]
      exact hs.2.2 i i0 i1
    · exact h9 j (by omega) j1 i i0 i1
theorem fPre.differ (h : fPre t f L n (k + 1) e le bs z en) (k0 : 0 ≤ k) (hz : z (t k) ≠ 0) (hs : ¬ alik f e (en (t k)) (z (t k))) : fPost t f L n bs z en bs en := by
  refine ⟨Int.le_refl _, Or.inl rfl, fun z' hz' hx => absurd ?_ hs, fun _ _ => rfl⟩
  have ee := h.e_end hx
  have st := pl0q (z := z') (sh := t) k0
  have k1 : k < L := by have := h.2.1; omega
  have zx := hx (t k) hz
  obtain ⟨⟨j, j0, j1, jt⟩, d1, d2⟩ := h.2.2.2.2.2.2.1 (t k) hz
  have p0 := pl_ge (z := z') (sh := t) (q := 0) (n := L) (fun _ _ _ => hz'.1 _) k k0 (by omega)
  refine ⟨by have := hz'.2.1; omega, d1, fun i i0 i1 => ?_⟩
  have c := h.2.2.2.2.2.2.2.2.1 j j0 j1 i i0 (by rw [jt]; exact i1)
  rw [jt, ← h.at_end hx (by omega) (by omega), pl0q (by omega)] at c
  rw [← c]
  have ft := hz'.2.2.2 k j k0 k1 (by omega) j1 (by rw [Int.zero_add, Int.zero_add]; exact jt.symm) (z' (t k) - i) (by omega) (by rw [Int.zero_add]; omega)
  rw [show e - i = n - pl z' t 0 L + pl z' t 0 k + (z' (t k) - i) by omega, ft]
  congr 1
  rw [jt]
  omega
/-- a letter that is new gets a size -/
theorem fPre.put {bs0 : Int} (h : fPre t f L n (k + 1) e le bs0 z en) (hb0 : bs ≤ bs0) (k0 : 0 ≤ k) (L9 : L ≤ 100) (hz : z (t k) = 0) {s : Int} (s1 : 1 ≤ s) (hl : le + (s - 1) * cnt t (t k) 0 L < bs) {en' : Int → Int} (he : ∀ y : Int, z y ≠ 0 → en' y = en y) (hx : en' (t k) = e) : fPre t f L n k (e - s) (le + (s - 1) * cnt t (t k) 0 L) bs (ab_f z (t k) s) en' := by
  have hh := h
  obtain ⟨h1, h2, h3, h4, h5, h6, h7, h8, h9, h10, h11, h12⟩ := h
  have nx : ∀ j : Int, k + 1 ≤ j → j < L → t j ≠ t k := fun j j0 j1 g => by
    have := h6 j j0 j1
    rw [g] at this
    omega
  have ag : ∀ j : Int, k + 1 ≤ j → j < L → z (t j) = ab_f z (t k) s (t j) := fun j j0 j1 => by rw [ab_f_ne (nx j j0 j1)]
  have e1 := pl_tl h1 ag h2 (Int.le_refl L)
  have st := pl0q (z := ab_f z (t k) s) (sh := t) k0
  rw [ab_f_eq rfl] at st
  have mxe : mx (ab_f z (t k) s) = ab_f (mx z) (t k) s := funext fun y => by
    unfold mx ab_f
    by_cases g : y = t k
    · rw [if_pos g, if_pos g, if_neg (by omega)]
    · rw [if_neg g, if_neg g]
  have mk : mx z (t k) = 1 := if_pos hz
  have nl : le + (s - 1) * cnt t (t k) 0 L = pl (mx (ab_f z (t k) s)) t 0 L := by
    rw [mxe, pl_put L (by omega) L9, mk, h10]
  have ne : n - (e - s) = pl (ab_f z (t k) s) t 0 L - pl (ab_f z (t k) s) t 0 k := by omega
  have zz : ∀ y : Int, 0 ≤ ab_f z (t k) s y := fun y => by
    unfold ab_f
    have := h5 y
    split <;> omega
  have es : 0 ≤ e - s := by
    have m1 : ∀ j : Int, k ≤ j → j < L → ab_f z (t k) s (t j) = mx (ab_f z (t k) s) (t j) := fun j j0 j1 => by
      unfold mx
      rw [if_neg]
      by_cases g : j = k
      · rw [g, ab_f_eq rfl]; omega
      · rw [ab_f_ne (nx j (by omega) j1)]
        have := h6 j (by omega) j1
        omega
    have e5 := pl_tl k0 m1 (by omega) (Int.le_refl L)
    have e6 := pl_ge (z := mx (ab_f z (t k) s)) (sh := t) (q := 0) (n := k) (fun j _ _ => mx_one zz _) k k0 (Int.le_refl _)
    omega
  refine ⟨k0, by omega, es, by omega, fun y => ⟨zz y, ?_⟩, fun j j0 j1 => ?_, fun y hy => ?_, ne, fun j j0 j1 i i0 i1 => ?_, nl, by omega, fun _ => hl⟩
  · unfold ab_f
    have := h5 y
    split <;> omega
  · by_cases g : j = k
    · rw [g, ab_f_eq rfl]; exact s1
    · rw [ab_f_ne (nx j (by omega) j1)]
      exact h6 j (by omega) j1
  · by_cases g : y = t k
    · rw [g, ab_f_eq rfl, hx]
      exact ⟨⟨k, by omega, by omega, rfl⟩, by omega, h4⟩
    · rw [ab_f_ne g] at hy ⊢
      obtain ⟨⟨j, a, b, c⟩, d⟩ := h7 y hy
      rw [he y hy]
      exact ⟨⟨j, by omega, b, c⟩, d⟩
  · by_cases g : j = k
    · rw [g, hx]
      rw [show n - (pl (ab_f z (t k) s) t 0 L - pl (ab_f z (t k) s) t 0 (k + 1)) = e by omega]
    · rw [ab_f_ne (nx j (by omega) j1)] at i1
      rw [he (t j) (by have := h6 j (by omega) j1; omega)]
      have c := h9 j (by omega) j1 i i0 i1
      rw [← c]
      have e8 := pl_tl (j := j + 1) h1 ag (by omega) (by omega)
      congr 1
      omega
/-- the sizes below s of letter x are looked at -/
def fLoop (t f : Int → Int) (L n bs0 : Int) (z : Int → Int) (x s bs : Int) : Prop := bs ≤ bs0 ∧ (bs = bs0 ∨ fAch t f L n bs) ∧ ∀ z' : Int → Int, sfit t f L n z' → ext z z' → z' x < s → bs ≤ pl z' t 0 L
theorem fLoop0 {x : Int} : fLoop t f L n bs z x 1 bs := ⟨Int.le_refl _, Or.inl rfl, fun z' h _ g => absurd (h.1 x) (by omega)⟩
theorem fLoop.step {bs0 x s bs' : Int} {en' : Int → Int} (h : fLoop t f L n bs0 z x s bs) (hz : z x = 0) (hp : fPost t f L n bs (ab_f z x s) en bs' en') : fLoop t f L n bs0 z x (s + 1) bs' := by
  obtain ⟨a1, a2, a3⟩ := h
  obtain ⟨b1, b2, b3, b4⟩ := hp
  refine ⟨by omega, ?_, fun z' hf hx hl => ?_⟩
  · rcases b2 with b2 | b2
    · rw [b2]; exact a2
    · exact Or.inr b2
  · by_cases g : z' x = s
    · refine b3 z' hf (fun y hy => ?_)
      by_cases gy : y = x
      · rw [gy, ab_f_eq rfl, g]
      · rw [ab_f_ne gy] at hy ⊢
        exact hx y hy
    · have := a3 z' hf hx (by omega)
      omega
theorem fLoop.most {bs0 x s : Int} {en' : Int → Int} (h : fLoop t f L n bs0 z x s bs) (hm : ∀ z' : Int → Int, sfit t f L n z' → ext z z' → z' x < s) (he : ∀ y : Int, z y ≠ 0 → en' y = en y) : fPost t f L n bs0 z en bs en' := ⟨h.1, h.2.1, fun z' hf hx => h.2.2 z' hf hx (hm z' hf hx), he⟩
theorem fLoop.bound {bs0 s : Int} {en' : Int → Int} (hp : fPre t f L n (k + 1) e le bs0 z en) (L9 : L ≤ 100) (k0 : 0 ≤ k) (hz : z (t k) = 0) (h : fLoop t f L n bs0 z (t k) s bs) (s1 : 1 ≤ s) (hb : bs ≤ le + (s - 1) * cnt t (t k) 0 L) (he : ∀ y : Int, z y ≠ 0 → en' y = en y) : fPost t f L n bs0 z en bs en' := by
  refine ⟨h.1, h.2.1, fun z' hf hx => ?_, he⟩
  by_cases g : z' (t k) < s
  · exact h.2.2 z' hf hx g
  · have L0 : 0 ≤ L := by have := hp.2.1; have := hp.1; omega
    have e1 := pl_put (z := mx z) (t := t) (x := t k) (s := s) L L0 L9
    have mk : mx z (t k) = 1 := if_pos hz
    have e2 := pl_les (z := ab_f (mx z) (t k) s) (z' := z') (t := t) (n := L) (fun j j0 j1 => by
      by_cases g9 : t j = t k
      · rw [ab_f_eq g9, g9]; omega
      · rw [ab_f_ne g9]
        unfold mx
        split
        · exact hf.1 _
        · rename_i g8
          rw [hx _ g8]
          omega) L L0 (Int.le_refl _)
    have e3 := hp.2.2.2.2.2.2.2.2.2.1
    rw [mk, ← e3] at e1
    omega
/-- from place tl on each unknown stands but once -/
def tlOk (t : Int → Int) (L tl : Int) : Prop := 0 ≤ tl ∧ tl ≤ L ∧ ∀ j : Int, tl ≤ j → j < L → cnt t (t j) 0 L = 1
theorem tail_one {tl : Int} (L9 : L ≤ 100) (ht : tlOk t L tl) (k0 : tl ≤ k) (k1 : k < L) {z' : Int → Int} (hf : sfit t f L n z') (h2 : 2 ≤ z' (t k)) : Comes t 0 L f (n - pl z' t 0 L) (n - 1) := by
  have c1 := ht.2.2 k k0 k1
  have kp : 0 ≤ k := by have := ht.1; omega
  have on : ∀ j : Int, 0 ≤ j → j < L → t j = t k → j = k := fun j j0 j1 hj => by
    apply Classical.byContradiction
    intro g
    rcases Int.lt_or_le j k with g1 | g1
    · have := cnt_two (f := t) j0 g1 k1 hj rfl; omega
    · have := cnt_two (f := t) kp (show k < j by omega) j1 rfl hj; omega
  have pp : ∀ j : Int, 0 ≤ j → j ≤ L → pl (ab_f z' (t k) (z' (t k) - 1)) t 0 j = pl z' t 0 j - (if k < j then 1 else 0) := fun j j0 j1 => by
    rw [pl_put j j0 (by omega), cnt_one kp on rfl j j0 j1]
    split <;> omega
  refine ⟨ab_f z' (t k) (z' (t k) - 1), fun y => ?_, ?_, ?_⟩
  · unfold ab_f
    have := hf.1 y
    split <;> omega
  · rw [pp L (by omega) (Int.le_refl _), if_pos k1]
    omega
  · intro a b a0 a1 b0 b1 hs i i0 i1
    rw [Int.zero_add] at hs i1
    rw [Int.zero_add] at hs
    by_cases g : a = b
    · rw [g]
    · have low : ∀ u v : Int, 0 ≤ u → u < L → 0 ≤ v → v < L → u ≠ v → t u = t v → u < k := fun u v u0 u1 v0 v1 huv hs => by
        apply Classical.byContradiction
        intro g1
        have c2 := ht.2.2 u (by omega) u1
        rcases Int.lt_or_le u v with g2 | g2
        · have := cnt_two (f := t) u0 g2 v1 rfl hs.symm; omega
        · have := cnt_two (f := t) v0 (show v < u by omega) u1 hs.symm rfl; omega
      have la := low a b a0 a1 b0 b1 g hs
      have lb := low b a b0 b1 a0 a1 (fun e => g e.symm) hs.symm
      have na : t a ≠ t k := fun e => by have := on a a0 a1 e; omega
      rw [ab_f_ne na] at i1
      rw [pp a a0 (by omega), pp b b0 (by omega), if_neg (by omega), if_neg (by omega)]
      have := hf.2.2.2 a b a0 a1 b0 b1 (by rw [Int.zero_add, Int.zero_add]; exact hs) i i0 (by rw [Int.zero_add]; exact i1)
      rw [show n - pl z' t 0 L + (pl z' t 0 a - 0) + i = n - pl z' t 0 L + pl z' t 0 a + i by omega, show n - pl z' t 0 L + (pl z' t 0 b - 0) + i = n - pl z' t 0 L + pl z' t 0 b + i by omega]
      exact this
def mfS (f : Int → Int) (tl tm e k v : Int) : Prop := (tl ≤ k ∧ v = 1) ∨ (tm = 1 ∧ v = e) ∨ (tm ≠ 1 ∧ 0 ≤ v ∧ v ≤ e ∧ ∀ s o : Int, 1 ≤ s → s ≤ o → s ≤ e - o → (∀ i : Int, 0 ≤ i → i < s → f (e - 1 - i) = f (o - 1 - i)) → s ≤ v)
theorem fPre.small {tl v s : Int} (h : fPre t f L n (k + 1) e le bs z en) (L9 : L ≤ 100) (k0 : 0 ≤ k) (hz : z (t k) = 0) (ht : tlOk t L tl) (hk : ∀ a u : Int, 0 ≤ a → a < u → u < n → ¬ Comes t 0 L f a u) (hm : mfS f tl (cnt t (t k) 0 L) e k v) (hs : v < s) : ∀ z' : Int → Int, sfit t f L n z' → ext z z' → z' (t k) < s := by
  intro z' hf hx
  have k1 : k < L := by have := h.2.1; omega
  have ee := h.e_end hx
  have st := pl0q (z := z') (sh := t) k0
  have p1 := pl_ge (z := z') (sh := t) (q := 0) (n := L) (fun _ _ _ => hf.1 _) k k0 (by omega)
  have pL := pl_ge (z := z') (sh := t) (q := 0) (n := L) (fun _ _ _ => hf.1 _) L (by omega) (by omega)
  have hT := hf.2.1
  rcases hm with ⟨m1, m2⟩ | ⟨m1, m2⟩ | ⟨m1, m2, m3, m4⟩
  · apply Classical.byContradiction
    intro g
    have mo := pl_mono (z := z') (sh := t) (q := 0) (n := L) (j := k + 1) (fun _ _ _ => hf.1 _) (by omega) L (by omega) (Int.le_refl _) (by omega)
    exact hk _ _ (by omega) (by omega) (by omega) (tail_one L9 ht m1 k1 hf (by omega))
  · omega
  · obtain ⟨j, j0, j1, j2, j3⟩ := cnt_other k0 k1 rfl m1
    have jk : j < k := by
      apply Classical.byContradiction
      intro g
      have := h.2.2.2.2.2.1 j (by omega) j1
      rw [j2, hz] at this
      omega
    have sj := pl0q (z := z') (sh := t) j0
    rw [j2] at sj
    have pj := pl_ge (z := z') (sh := t) (q := 0) (n := L) (fun _ _ _ => hf.1 _) j j0 (by omega)
    have mo := pl_mono (z := z') (sh := t) (q := 0) (n := L) (j := j + 1) (fun _ _ _ => hf.1 _) (by omega) k (by omega) (by omega) (by omega)
    have := m4 (z' (t k)) (n - pl z' t 0 L + pl z' t 0 (j + 1)) (hf.1 _) (by omega) (by omega) (fun i i0 i1 => by
      have ft := hf.2.2.2 k j k0 k1 j0 j1 (by rw [Int.zero_add, Int.zero_add]; exact j2.symm) (z' (t k) - 1 - i) (by omega) (by rw [Int.zero_add]; omega)
      rw [show e - 1 - i = n - pl z' t 0 L + pl z' t 0 k + (z' (t k) - 1 - i) by omega, ft]
      congr 1
      omega)
    omega
/-- what fit leaves behind is the shortest -/
theorem fPre.start (L1 : 1 ≤ L) (n0 : 0 ≤ n) : fPre t f L n L n L (n + 1) (fun _ => 0) en := by
  refine ⟨by omega, Int.le_refl _, n0, Int.le_refl _, fun _ => ⟨Int.le_refl _, n0⟩, fun j j0 j1 => absurd j1 (by omega), fun y hy => absurd rfl hy, by omega, fun j j0 j1 => absurd j1 (by omega), ?_, Int.le_refl _, fun ⟨_, hy⟩ => absurd rfl hy⟩
  have e : mx (fun _ => 0) = fun _ => 1 := funext fun y => rfl
  have key : ∀ k : Int, 0 ≤ k → k ≤ L → pl (fun _ => 1) t 0 k = k := pl_ind (by rw [pl0]) (fun k k0 k1 e => by rw [pl_step k0, e])
  rw [e, key L (by omega) (Int.le_refl _)]
theorem Sh_shape {F : Nat → Int → Int} {q v bs' : Int} {en' : Int → Int} (h : F 8 q = 5) (hL : L = F 11 q) (L1 : 1 ≤ L) (ht : ∀ i : Int, 0 ≤ i → i < L → t i = F 12 (80 * q + i)) (hp : fPost t f L n (n + 1) (fun _ => 0) en bs' en') (hv : (n < bs' ∧ v = 0) ∨ (bs' ≤ n ∧ v = bs')) : Sh F q f n v := by
  have eq1 : ∀ a b : Int, Comes (F 12) (80 * q) (F 11 q) f a b ↔ Comes t 0 L f a b := by
    intro a b
    have tt : ∀ (z : Int → Int) (k : Int), 0 ≤ k → k ≤ L → pl z (F 12) (80 * q) k = pl z t 0 k := fun z => pl_ind rfl (fun k k0 k1 e => by rw [pl_step k0, pl_step k0, e, Int.zero_add, ht k k0 k1])
    rw [← hL]
    constructor
    · rintro ⟨z, z1, f1, f2⟩
      refine ⟨z, z1, by rw [← tt z L (by omega) (Int.le_refl _)]; exact f1, fun k1 k2 a1 a2 b1 b2 hs i i0 i1 => ?_⟩
      rw [Int.zero_add] at hs i1
      rw [Int.zero_add] at hs
      rw [ht k1 a1 a2] at hs i1
      rw [ht k2 b1 b2] at hs
      have := f2 k1 k2 a1 a2 b1 b2 hs i i0 i1
      rw [tt z k1 a1 (by omega), tt z k2 b1 (by omega)] at this
      exact this
    · rintro ⟨z, z1, f1, f2⟩
      refine ⟨z, z1, by rw [tt z L (by omega) (Int.le_refl _)]; exact f1, fun k1 k2 a1 a2 b1 b2 hs i i0 i1 => ?_⟩
      rw [← ht k1 a1 a2] at hs i1
      rw [← ht k2 b1 b2] at hs
      have := f2 k1 k2 a1 a2 b1 b2 (by rw [Int.zero_add, Int.zero_add]; exact hs) i i0 (by rw [Int.zero_add]; exact i1)
      rw [tt z k1 a1 (by omega), tt z k2 b1 (by omega)]
      exact this
  have low : ∀ a : Int, 0 ≤ a → Bar F q f a n → bs' ≤ n - a := by
    intro a a0 hb
    obtain ⟨z, z1, f1⟩ := (eq1 a n).mp ((Bar_shape h).mp hb)
    have := hp.2.2.1 z ⟨z1, by have := f1.1; omega, by rw [f1.1, show n - (n - a) = a by omega]; exact f1⟩ (fun y hy => absurd rfl hy)
    rw [f1.1] at this
    exact this
  obtain ⟨p1, p2, -, -⟩ := hp
  rcases hv with ⟨v1, v2⟩ | ⟨v1, v2⟩
  · exact Or.inl ⟨v2, fun a a0 a1 hb => by have := low a a0 hb; omega⟩
  · rcases p2 with p2 | ⟨p2, z, ⟨z1, z2, z3⟩, z4⟩
    · omega
    · have := pl_ge (z := z) (sh := t) (q := 0) (n := L) (fun _ _ _ => z1 _) L (by omega) (Int.le_refl _)
      refine Or.inr ⟨by omega, by omega, (Bar_shape h).mpr ((eq1 _ _).mpr ⟨z, z1, by rw [v2, ← z4]; exact z3⟩), fun a b0 b1 hb => ?_⟩
      have := low a (by omega) hb
      omega
theorem mlen (h : fPre t f L n (k + 1) e le bs z en) (L1 : 1 ≤ L) (n0 : 0 ≤ n) (n6 : n ≤ 60) (L6 : L ≤ 6) : 0 ≤ le ∧ le ≤ 366 := by
  have a := h.le_eq
  have b := h.2.2.2.2.1
  have e1 := h.2.2.2.2.2.2.2.2.2.1
  refine ⟨by have := h.1; have := h.2.2.2.1; omega, ?_⟩
  have key : ∀ j : Int, 0 ≤ j → j ≤ L → pl (mx z) t 0 j ≤ 61 * j := pl_ind (by rw [pl0]; omega) (fun j j0 j1 ih => by
    rw [pl0q j0]
    have q := b (t j)
    have : mx z (t j) ≤ n + 1 := by unfold mx; split <;> omega
    omega)
  have := key L (by omega) (Int.le_refl _)
  omega
/-- the cells of a law by a shape -/
def shC (h : AbH) (g a : Nat) (t : Int → Int) (L : Nat) : Prop := ∃ (b1 b2 b3 b4 b5 : Nat) (tl bs : Int) (tm en st : Int → Int), h a = some (kO g 4 [vR b1, vI tl, vR b2, vR b3, vR b4, vR b5, vI bs]) ∧ h b1 = some (kI (g + 1) L t) ∧ h b2 = some (kI (g + 2) 3 tm) ∧ h b3 = some (kI (g + 3) 3 (fun _ => 0)) ∧ h b4 = some (kI (g + 4) 3 en) ∧ h b5 = some (kI (g + 5) 3 st) ∧ tlOk t L tl ∧ ∀ x : Int, 0 ≤ x → x ≤ 2 → tm x = cnt t x 0 L
def shS (t f : Int → Int) (L n v : Int) : Prop := ∃ (bs' : Int) (en en' : Int → Int), fPost t f L n (n + 1) (fun _ => 0) en bs' en' ∧ ((n < bs' ∧ v = 0) ∨ (bs' ≤ n ∧ v = bs'))
end PU9
