/-! THE ABSTRACT WALK. Values are mathematical numbers (an int is an Int, a long is an Int), references are addresses; a heap is a function from addresses to cells, each with a mark of ours (cells with different marks lie apart; marks 0 and 1 are for the script and the static row, which nobody writes).
ab_T: from this place of the method, with these locals, this stack, this heap, the method ends with an outcome and a heap of which Q holds. ab_M: a method's contract. -/
section ABA
abbrev AbV : Type := Int ⊕ (Int ⊕ Option Nat)
abbrev vI (x : Int) : AbV := Sum.inl x
abbrev vL (x : Int) : AbV := Sum.inr (Sum.inl x)
abbrev vO (r : Option Nat) : AbV := Sum.inr (Sum.inr r)
abbrev vR (a : Nat) : AbV := Sum.inr (Sum.inr (some a))
abbrev vN : AbV := Sum.inr (Sum.inr none)
def ab_v (x : AbV) (w : Value) : Prop := match x with
  | .inl i => ∃ v : Int32, w = .int v ∧ v.toInt = i
  | .inr (.inl i) => ∃ v : Int64, w = .long v ∧ v.toInt = i
  | .inr (.inr r) => w = va_rf r
def ab_vs : List AbV → List Value → Prop
  | [], ws => ws = []
  | x :: xs, ws => ∃ (w : Value) (r : List Value), ws = w :: r ∧ ab_v x w ∧ ab_vs xs r
/-- two slots -/
def ab_w (x : AbV) : Nat := match x with
  | .inr (.inl _) => 2
  | _ => 1
def ab_l (L : List (Option AbV)) (ls : Array Slot) : Prop := ls.size = L.length ∧ lv_wf ls ∧ ∀ (k : Nat) (x : AbV), L[k]? = some (some x) → ∃ w : Value, ls[k]? = some (.val w) ∧ ab_v x w
abbrev AbC : Type := Nat × ((Nat × List AbV) ⊕ ((Nat × (Int → Int)) ⊕ ((Nat × (Int → Int)) ⊕ ((Nat × (Int → Int)) ⊕ (String × Nat × (Int → Option Nat))))))
/-- an object: mark, number in ab_cl, fields; rows of ints, longs, booleans, references: mark, length, contents -/
abbrev kO (g i : Nat) (fs : List AbV) : AbC := (g, .inl (i, fs))
abbrev kI (g n : Nat) (f : Int → Int) : AbC := (g, .inr (.inl (n, f)))
abbrev kJ (g n : Nat) (f : Int → Int) : AbC := (g, .inr (.inr (.inl (n, f))))
abbrev kZ (g n : Nat) (f : Int → Int) : AbC := (g, .inr (.inr (.inr (.inl (n, f)))))
abbrev kA (g : Nat) (C : String) (n : Nat) (f : Int → Option Nat) : AbC := (g, .inr (.inr (.inr (.inr (C, n, f)))))
abbrev AbH : Type := Nat → Option AbC
def ab_up (h : AbH) (a : Nat) (c : AbC) : AbH := fun q => if q = a then some c else h q
/-- a row with one number changed -/
def ab_f {α : Type} (f : Int → α) (i : Int) (x : α) : Int → α := fun j => if j = i then x else f j
abbrev ab_cl : List vw_C := [(RX1, TX1, 4), (RX2, TX2, 1), (RX3, TX3, 3), (RX4, TX4, 12), (RX5, TX5, 7), (RX6, TX6, 3), (RX7, TX7, 1), (RX8, TX8, 0), (RX9, TX9, 9), (RX10, TX10, 48)]
/-- the law's start, its arguments, the classes' numbers, the fields' places -/
abbrev AbE : Type := State × Array Value × (Nat → ClassId) × (Nat → Nat → Nat)
def ab_arr (s0 : State) (ty : FieldType) (n : Nat) (P : Nat → Value → Prop) (a : Nat) (H : Heap) : Prop := ∃ cell : Cell, H[a]? = some cell ∧ s0.isArrayOf cell ty ∧ cell.vm ≠ .unknown ∧ cell.slots.size = n ∧ n < 2147483648 ∧ ∀ j : Nat, j < n → ∃ w : Value, cell.slots[j]? = some w ∧ P j w
def ab_i32 (f : Int → Int) (j : Nat) (w : Value) : Prop := ∃ v : Int32, w = .int v ∧ v.toInt = f j
def ab_i64 (f : Int → Int) (j : Nat) (w : Value) : Prop := ∃ v : Int64, w = .long v ∧ v.toInt = f j
def ab_ref (f : Int → Option Nat) (j : Nat) (w : Value) : Prop := w = va_rf (f j)
def ab_cmp (s0 : State) (C : String) (a : Nat) (H : Heap) : Prop := ∃ (cell : Cell) (k : Class) (comp : ClassId), H[a]? = some cell ∧ s0.vm.classes[cell.cls]? = some k ∧ k.kind = .array comp (.object C) ∧ s0.vm.findClass C = some comp
/-- a row of ints: rows with marks from 2 on have just so many places; of the others their length as an int is told -/
def ab_sz (g n k : Nat) : Prop := (2 ≤ g → k = n) ∧ n ≤ k ∧ k.toInt32 = n.toInt32
def ab_arrI (g : Nat) (s0 : State) (n : Nat) (P : Nat → Value → Prop) (a : Nat) (H : Heap) : Prop := ∃ cell : Cell, H[a]? = some cell ∧ s0.isArrayOf cell .int ∧ cell.vm ≠ .unknown ∧ ab_sz g n cell.slots.size ∧ n < 2147483648 ∧ ∀ j : Nat, j < n → ∃ w : Value, cell.slots[j]? = some w ∧ P j w
theorem ab_arr.I {g n a : Nat} {s0 : State} {P : Nat → Value → Prop} {H : Heap} (h : ab_arr s0 .int n P a H) : ab_arrI g s0 n P a H := by
  obtain ⟨cell, q1, q2, q3, q4, q5⟩ := h
  exact ⟨cell, q1, q2, q3, ⟨fun _ => q4, Nat.le_of_eq q4.symm, by rw [q4]⟩, q5⟩
/-- the cell is of the class [I itself -/
def ab_ic (s0 : State) (a : Nat) (H : Heap) : Prop := ∃ cell : Cell, H[a]? = some cell ∧ s0.vm.findClass "[I" = some cell.cls
def ab_c (E : AbE) (a : Nat) (c : AbC) (H : Heap) : Prop := match c.2 with
  | .inl o => ∃ (r : vw_C) (ws : List Value), ab_cl[o.1]? = some r ∧ o.2.length = r.2.2 ∧ ab_vs o.2 ws ∧ t_OB a (E.2.2.1 o.1) r.2.2 (E.2.2.2 o.1) H (vp_V ws)
  | .inr (.inl q) => ab_arrI c.1 E.1 q.1 (ab_i32 q.2) a H ∧ (2 ≤ c.1 → ab_ic E.1 a H)
  | .inr (.inr (.inl q)) => ab_arr E.1 .long q.1 (ab_i64 q.2) a H
  | .inr (.inr (.inr (.inl q))) => ab_arr E.1 .boolean q.1 (ab_i32 q.2) a H
  | .inr (.inr (.inr (.inr q))) => ab_arr E.1 (.object q.1) q.2.1 (ab_ref q.2.2) a H ∧ ab_cmp E.1 q.1 a H
def ab_old (E : AbE) (H : Heap) : Prop := E.1.heap.size ≤ H.size ∧ ∀ q : Nat, q < E.1.heap.size → H[q]? = E.1.heap[q]?
def ab_P (E : AbE) (h : AbH) (H : Heap) : Prop := ab_old E H ∧ ∀ (a : Nat) (c : AbC), h a = some c → ab_c E a c H ∧ (2 ≤ c.1 → E.1.heap.size ≤ a)
abbrev ab_A (E : AbE) : Nat → Prop := fun q => E.1.heap.size ≤ q
/-- what the launch and the law's start give to everybody -/
def ab_G (l : Launch) (E : AbE) : Prop := l.stackTraces = false ∧ (∀ w ∈ lw_tbl, w.before E.2.1 E.1 = true) ∧ va_K (E.2.2.1, E.2.2.2) ab_cl [] E.1 ∧ vx_Zq Bundle.tN "UNASSIGNED_STACK" Bundle.steD (ab_A E) E.1 E.1.heap ∧ vx_Zq Bundle.tN "SUPPRESSED_SENTINEL" Bundle.listD (ab_A E) E.1 E.1.heap ∧ (Jvm.Cond.and given_1 narrow_1).before E.2.1 E.1 = true
abbrev AbO : Type := Option AbV ⊕ String
def ab_ov (r : Option AbV) (v : Option Value) : Prop := match r with
  | none => v = none
  | some x => ∃ w, v = some w ∧ ab_v x w
def ab_Q (E : AbE) (Q : AbO → AbH → Prop) : Array Value → State → Outcome → State → Prop := fun _ _ o t => ∃ (v : Option Value) (r : Option AbV) (h : AbH), o = .returned v ∧ ab_ov r v ∧ ab_P E h t.heap ∧ Q (.inl r) h
def ab_QX (E : AbE) (Q : AbO → AbH → Prop) : String → State → State → Prop := fun X _ t => ∃ h : AbH, ab_P E h t.heap ∧ Q (.inr X) h
abbrev AbY : Type := MethodName × ByteArray × Option FieldType × List (Nat × Nat × Nat × Nat)
def ab_X (l : Launch) (E : AbE) (y : AbY) (nL : Nat) (p : Program) (s : State) (m : MethodId) (meth : Method) (c : Code) : Prop :=
  p.tables.exec = Jvm.exec ∧ c.code = y.2.1 ∧ c.maxLocals = nL ∧ s.vm.findClass y.1.cls = some m.cls ∧ meth.sig.returnType = y.2.2.1 ∧ meth.locks = false ∧ meth.name = y.1.name ∧ c.exceptionTable.toList = tableOf y.2.2.2 ∧ E.1.WarmedH s.vm ∧ ab_old E s.heap ∧ ab_G l E
def ab_R (d kc ks : Nat) (R : Room) (cells slots mc ms : Nat) : Prop := d ≤ R.frames ∧ 64 * d ≤ R.locals ∧ cells + kc ≤ R.cells ∧ slots + ks ≤ R.slots ∧ cells + kc ≤ mc ∧ slots + ks ≤ ms
def ab_T (l : Launch) (E : AbE) (y : AbY) (d kc ks : Nat) (pc : Nat) (L : List (Option AbV)) (S : List AbV) (h : AbH) (Q : AbO → AbH → Prop) : Prop :=
  ∀ (p : Program) (e : Env) (R : Room) (s : State) (m : MethodId) (args : Array Value) (below : List Frame) (meth : Method) (c : Code) (H : Heap) (locs : List Loc) (cells slots mc ms : Nat) (ls : Array Slot) (st : List Value),
    ab_X l E y L.length p s m meth c → ab_R d kc ks R cells slots mc ms → ab_P E h H → (∀ z ∈ locs, ab_A E z.base) → ab_l L ls → ab_vs S st →
    W p l e R s m args below meth c H locs cells slots (vx_MQ below (ab_Q E Q) (ab_QX E Q) args s mc ms (ab_A E)) (F0 m pc ls st)
def ab_rm (d kc ks : Nat) : Room := { frames := d, cells := kc, slots := ks, locals := 64 * d }
def ab_Pc (E : AbE) (as : List AbV) (h : AbH) : Array Value → State → Prop := fun a s => (∃ ws : List Value, a = ws.toArray ∧ ab_vs as ws) ∧ ab_P E h s.heap ∧ E.1.WarmedH s.vm
/-- a method's contract: y's name, code and type; its locals; the depth of its calls; what it may make -/
def ab_M (l : Launch) (E : AbE) (y : AbY) (nL d kc ks : Nat) (as : List AbV) (h : AbH) (Q : AbO → AbH → Prop) : Prop :=
  vx_Met l y.1 [Cond.code y.1 y.2.1 nL y.2.2.1] (ab_rm d kc ks) (ab_Pc E as h) (ab_Q E Q) (ab_QX E Q) kc ks (ab_A E)
/-! small facts -/
theorem ab_rg (v : Int32) : -2147483648 ≤ v.toInt ∧ v.toInt < 2147483648 := ⟨by have := Int32.le_toInt v; omega, by have := Int32.toInt_lt v; omega⟩
theorem ab_rg64 (v : Int64) : -9223372036854775808 ≤ v.toInt ∧ v.toInt < 9223372036854775808 := ⟨by have := Int64.le_toInt v; omega, by have := Int64.toInt_lt v; omega⟩
theorem ab_bm {x : Int} (h1 : -2147483648 ≤ x) (h2 : x < 2147483648) : x.bmod (2 ^ 32) = x := by
  rw [Int.bmod_eq_of_le (by omega) (by omega)]
theorem ab_bm64 {x : Int} (h1 : -9223372036854775808 ≤ x) (h2 : x < 9223372036854775808) : x.bmod (2 ^ 64) = x := by
  rw [Int.bmod_eq_of_le (by omega) (by omega)]
theorem ab_nat {v : Int32} (h : 0 ≤ v.toInt) : (v.toNatClampNeg : Int) = v.toInt := by
  show ((v.toInt.toNat : Nat) : Int) = v.toInt
  omega
theorem ab_cat {x : AbV} {w : Value} (h : ab_v x w) : w.category = ab_w x := by
  rcases x with i | i | r
  · obtain ⟨v, rfl, -⟩ := h; rfl
  · obtain ⟨v, rfl, -⟩ := h; rfl
  · cases r <;> (rw [show w = _ from h]; rfl)
theorem ab_word {l : Launch} {E : AbE} {w : Cond} (hG : ab_G l E) (hw : w ∈ lw_tbl) (hg : goodWord w = true) {U : State} (hW : E.1.WarmedH U.vm) (a : Array Value) : w.before a U = true := word_at hW (good_of_word hg) (hG.2.1 w hw)
theorem ab_nw {l : Launch} {E : AbE} {w : Cond} (hG : ab_G l E) (hw : w ∈ lw_tbl) (ht : w.onTables = true) : va_Nw w E.1 := va_Nw.of ht (hG.2.1 w hw)
theorem ab_K {l : Launch} {E : AbE} (hG : ab_G l E) {U : State} (hW : E.1.WarmedH U.vm) : va_K (E.2.2.1, E.2.2.2) ab_cl [] U := va_K.moved hW.alike hG.2.2.1
theorem ab_T.mono {l : Launch} {E : AbE} {y : AbY} {d kc ks pc : Nat} {L : List (Option AbV)} {S : List AbV} {h : AbH} {Q Q' : AbO → AbH → Prop} (k : ab_T l E y d kc ks pc L S h Q) (hq : ∀ o h', Q o h' → Q' o h') : ab_T l E y d kc ks pc L S h Q' := by
  intro p e R s m args below meth c H locs cells slots mc ms ls st X hR hP hl hL hS T hT XX
  obtain ⟨t, a1, o, b1, b2, b3⟩ := k p e R s m args below meth c H locs cells slots mc ms ls st X hR hP hl hL hS T hT XX
  refine ⟨t, a1, o, b1, b2, ?_⟩
  rcases b3 with ⟨⟨v, r, h', c1, c2, c3, c4⟩, c5⟩ | ⟨q, c1, X9, ce, LL, ⟨h', c2, c3⟩, c4⟩
  · exact Or.inl ⟨⟨v, r, h', c1, c2, c3, hq _ _ c4⟩, c5⟩
  · exact Or.inr ⟨q, c1, X9, ce, LL, ⟨h', c2, hq _ _ c3⟩, c4⟩
theorem ab_M.mono {l : Launch} {E : AbE} {y : AbY} {nL d kc ks : Nat} {as : List AbV} {h : AbH} {Q Q' : AbO → AbH → Prop} (k : ab_M l E y nL d kc ks as h Q) (hq : ∀ o h', Q o h' → Q' o h') : ab_M l E y nL d kc ks as h Q' := by
  intro p e ha hc hk s m args below hf happ hP hK
  obtain ⟨n, o, a1, a2, a3, b3⟩ := k p e ha hc hk s m args below hf happ hP hK
  refine ⟨n, o, a1, a2, a3, ?_⟩
  rcases b3 with ⟨⟨v, r, h', c1, c2, c3, c4⟩, c5⟩ | ⟨q, c1, X9, ce, LL, ⟨h', c2, c3⟩, c4⟩
  · exact Or.inl ⟨⟨v, r, h', c1, c2, c3, hq _ _ c4⟩, c5⟩
  · exact Or.inr ⟨q, c1, X9, ce, LL, ⟨h', c2, hq _ _ c3⟩, c4⟩
/-! locals -/
def ab_all (ls : Array Slot) : List (Nat × Value) := (List.range ls.size).filterMap fun k => match (ls[k]? : Option Slot) with
  | some (Slot.val w) => some (k, w)
  | _ => none
theorem ab_all_mem {ls : Array Slot} {k : Nat} {w : Value} : (k, w) ∈ ab_all ls ↔ ls[k]? = some (.val w) := by
  unfold ab_all
  rw [List.mem_filterMap]
  constructor
  · rintro ⟨j, hj, h⟩
    cases hx : ls[j]? with
    | none => rw [hx] at h; cases h
    | some z =>
      rw [hx] at h
      cases z with
      | val v => cases h; exact hx
      | unset => cases h
      | second => cases h
  · intro h
    exact ⟨k, List.mem_range.mpr (Array.getElem?_eq_some_iff.mp h).1, by rw [h]⟩
theorem ab_all_has {ls : Array Slot} (hw : lv_wf ls) : lv_has ls ls.size (ab_all ls) := ⟨rfl, hw, fun q hq => ab_all_mem.mp hq⟩
/-- the slot ahead holds no long -/
def ab_nl (L : List (Option AbV)) (i : Nat) : Bool := match i with
  | 0 => true
  | j + 1 => match L[j]? with
    | some (some (.inr (.inl _))) => false
    | _ => true
theorem ab_st1 {L : List (Option AbV)} {ls ls' : Array Slot} {i : Nat} {x : AbV} {w : Value} (hL : ab_l L ls) (hn : ab_nl L i = true) (hi : i < L.length) (hx : ab_v x w) (h : lv_has ls' ls.size ((i, w) :: (ab_all ls).filter (fun q => !(q.1 == i) && !(q.1 + 1 == i && q.2.category == 2)))) : ab_l (L.set i (some x)) ls' := by
  obtain ⟨h1, h2, h3⟩ := h
  refine ⟨by rw [h1, hL.1, List.length_set], h2, fun k z hk => ?_⟩
  by_cases e : k = i
  · subst e
    rw [List.getElem?_set_self hi] at hk
    cases hk
    exact ⟨w, h3 _ List.mem_cons_self, hx⟩
  · rw [List.getElem?_set_ne (Ne.symm e)] at hk
    obtain ⟨v, hv, hz⟩ := hL.2.2 k z hk
    refine ⟨v, h3 (k, v) (List.mem_cons_of_mem _ (List.mem_filter.mpr ⟨ab_all_mem.mpr hv, ?_⟩)), hz⟩
    simp only [Bool.and_eq_true, Bool.not_eq_true', beq_eq_false_iff_ne, ne_eq, Bool.and_eq_false_iff]
    refine ⟨e, ?_⟩
    by_cases e2 : k + 1 = i
    · refine Or.inr ?_
      subst e2
      rw [ab_cat hz]
      simp only [ab_nl, hk] at hn
      rcases z with z | z | z
      · exact Nat.ne_of_lt (Nat.lt_succ_self 1)
      · cases hn
      · cases z <;> exact Nat.ne_of_lt (Nat.lt_succ_self 1)
    · exact Or.inl e2
theorem ab_st2 {L : List (Option AbV)} {ls ls' : Array Slot} {i : Nat} {x : Int} {w : Value} (hL : ab_l L ls) (hn : ab_nl L i = true) (hi : i + 1 < L.length) (hx : ab_v (vL x) w) (h : lv_has ls' ls.size ((i, w) :: (ab_all ls).filter (fun q => !(q.1 == i) && (!(q.1 == i + 1) && !(q.1 + 1 == i && q.2.category == 2))))) : ab_l ((L.set i (some (vL x))).set (i + 1) none) ls' := by
  obtain ⟨h1, h2, h3⟩ := h
  refine ⟨by rw [h1, hL.1, List.length_set, List.length_set], h2, fun k z hk => ?_⟩
  by_cases e0 : k = i + 1
  · subst e0
    rw [List.getElem?_set_self (by rw [List.length_set]; exact hi)] at hk
    cases hk
  rw [List.getElem?_set_ne (Ne.symm e0)] at hk
  by_cases e : k = i
  · subst e
    rw [List.getElem?_set_self (by omega)] at hk
    cases hk
    exact ⟨w, h3 _ List.mem_cons_self, hx⟩
  · rw [List.getElem?_set_ne (Ne.symm e)] at hk
    obtain ⟨v, hv, hz⟩ := hL.2.2 k z hk
    refine ⟨v, h3 (k, v) (List.mem_cons_of_mem _ (List.mem_filter.mpr ⟨ab_all_mem.mpr hv, ?_⟩)), hz⟩
    simp only [Bool.and_eq_true, Bool.not_eq_true', beq_eq_false_iff_ne, ne_eq, Bool.and_eq_false_iff]
    refine ⟨e, e0, ?_⟩
    by_cases e2 : k + 1 = i
    · refine Or.inr ?_
      subst e2
      rw [ab_cat hz]
      simp only [ab_nl, hk] at hn
      rcases z with z | z | z
      · exact Nat.ne_of_lt (Nat.lt_succ_self 1)
      · cases hn
      · cases z <;> exact Nat.ne_of_lt (Nat.lt_succ_self 1)
    · exact Or.inl e2
end ABA
