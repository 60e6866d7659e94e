/-! a row of ints: its copy by clone, its cast -/
section ABK
variable {l : Launch} {E : AbE} {y : AbY} {d kc ks pc : Nat} {L : List (Option AbV)} {S : List AbV} {h : AbH} {Q : AbO → AbH → Prop}
theorem ab_asg {vm : Vm} (n : Nat) (c : ClassId) : vm.assignableAux (n + 1) c c = true := by simp [Vm.assignableAux]
theorem ab_castI {g a n ix : Nat} {f : Int → Int} (ha : h a = some (kI g n f)) (hg : 2 ≤ g) (hw : Cond.classLink y.1.cls ix "[I" ∈ lw_tbl) (hd : decode y.2.1 pc = .ok (.checkcast ix, 3)) (K : ab_T l E y d kc ks (pc + 3) L (vR a :: S) h Q) : ab_T l E y d kc ks pc L (vR a :: S) h Q := by
  intro p e R s m args below meth c H locs cells slots mc ms ls st X hR hP hl hL hS T hT XX
  obtain ⟨hx9, hb, hml, hown, hr, hlk, hnm, htb, hW, ho, hG⟩ := id X
  obtain ⟨w, rest, rfl, hw9, hS⟩ := hS
  cases (show w = .ref a from hw9)
  obtain ⟨⟨cell, q1, q2, q3, q4, q5, q6⟩, qc⟩ := (hP.2 a _ ha).1
  obtain ⟨c2, z1, z2⟩ := qc hg
  cases Option.some.inj (z1.symm.trans q1)
  obtain ⟨o1, kS, hkS, cmS, hkkS⟩ := State.isArrayOf_alike hW.alike q2
  obtain ⟨vm', X', stp⟩ := XX.checkcast hx9 hown (ab_word hG hw rfl hW args) (a := a) (cell := cell) (cT := cell.cls) (by rw [hT]; exact q1) o1 hkS (by rw [hW.alike.findClass]; exact z2) (ab_asg 255 _) (g := F0 m pc ls _) rfl (rest := rest) rfl (by rw [hb]; exact hd)
  obtain ⟨t2, a1, b1⟩ := K p e R s m args below meth c H locs cells slots mc ms ls (.ref a :: rest) X hR hP hl hL ⟨_, _, rfl, rfl, hS⟩ (T.setVm vm') hT X'
  exact ⟨t2, stp t2 a1, b1⟩
theorem ab_clone {g9 a n ix : Nat} (g : Nat) {f : Int → Int} (ha : h a = some (kI g9 n f)) (hg : 2 ≤ g9) (hw1 : Cond.methodLink y.1.cls ix ⟨"[I", "clone", "()Ljava/lang/Object;"⟩ ∈ lw_tbl) (hw2 : Cond.sameMethod "[I" "java/lang/Object" "clone" "()Ljava/lang/Object;" ∈ lw_tbl) (hw3 : Cond.native ⟨"java/lang/Object", "clone", "()Ljava/lang/Object;"⟩ ∈ lw_tbl) (hw4 : Cond.instanceMethod ⟨"java/lang/Object", "clone", "()Ljava/lang/Object;"⟩ ∈ lw_tbl) (hw5 : Cond.selects "[I" ⟨"[I", "clone", "()Ljava/lang/Object;"⟩ ⟨"java/lang/Object", "clone", "()Ljava/lang/Object;"⟩ ∈ lw_tbl) (hw6 : Cond.castable "[I" "java/lang/Cloneable" ∈ lw_tbl) (hd1 : 1 ≤ d) (hS9 : (S.map ab_w).sum ≤ 8) (hd : decode y.2.1 pc = .ok (.invokevirtual ix, 3))
    (K : ∀ b : Nat, h b = none → ab_T l E y d kc ks (pc + 3) L (vR b :: S) (ab_up h b (kI g n f)) Q) : ab_T l E y d (kc + 1) (ks + n) pc L (vR a :: S) h Q := by
  intro p e R s m args below meth c H locs cells slots mc ms ls st X hR hP hl hL hS T hT XX
  obtain ⟨hx9, hb, hml, hown, hr, hlk, hnm, htb, hW, ho, hG⟩ := id X
  obtain ⟨w, rest, rfl, hw9, hS⟩ := hS
  cases (show w = .ref a from hw9)
  obtain ⟨⟨cell, q1, q2, q3, q4, q5, q6⟩, qc⟩ := (hP.2 a _ ha).1
  obtain ⟨c2, z1, z2⟩ := qc hg
  cases Option.some.inj (z1.symm.trans q1)
  obtain ⟨o1, kS, hkS, cmS, hkkS⟩ := State.isArrayOf_alike hW.alike q2
  have q4' : cell.slots.size = n := q4.1 hg
  obtain ⟨cR, cC, k1, k2, k3⟩ := Cond.castable_spec (ab_wordF hG hw6 rfl rfl hW args)
  have e2 : s.vm.findClass "[I" = some cell.cls := by rw [hW.alike.findClass]; exact z2
  cases Option.some.inj (e2.symm.trans k1)
  have hfit : ∀ i v, cell.slots[i]? = some v → T.fitsSlot cell.cls .none i v = true := by
    intro i v hv
    obtain ⟨w, g1, u, rfl, -⟩ := q6 i (by have := (Array.getElem?_eq_some_iff.mp hv).1; show i < n; omega)
    cases Option.some.inj (hv.symm.trans g1)
    have h9 : s.fitsSlot cell.cls .none i (.int u) = true := by simp [State.fitsSlot, State.slotType?, hkS, hkkS, fits]
    have hA : s.vm.Alike T.vm := XX.warmed.alike
    obtain ⟨kT, hkT, hkTe⟩ := hA.2.2 _ _ hkS
    have hkd : kT.kind = .array cmS .int := by rw [hkTe]; exact hkkS
    simp [State.fitsSlot, State.slotType?, hkT, hkd, fits]
  have hloc : 2 * (F0 m pc ls (.ref a :: rest)).monitorRoom + (rest.map fun v => v.category).sum + 14 ≤ R.locals := by
    rw [ab_sum hS]
    have := hR.2.1
    show 2 * 0 + _ + _ ≤ _
    omega
  obtain ⟨vm', X', stp⟩ := XX.cloneArray hx9 hown (ab_word hG hw1 rfl hW args) (ab_word hG hw2 rfl hW args) (ab_word hG hw3 rfl hW args) (ab_word hG hw4 rfl hW args) (ab_word hG hw5 rfl hW args) (a := a) (cell := cell) (cC := cC) (by rw [hT]; exact q1) o1 q3 e2 k2 k3 hfit (g := F0 m pc ls _) rfl (hL.1.trans hml.symm) (rest := rest) rfl (by rw [hb]; exact hd) (by have := hR.1; omega) hloc (by have := hR.2.2.1; omega) (by have := hR.2.2.2.1; omega) (Vm.clonesLoader_of_array hkS hkkS)
  have hh : ((T.setVm vm').pushCell { cls := cell.cls, slots := cell.slots }).heap = H.push { cls := cell.cls, slots := cell.slots } := by show T.heap.push _ = _; rw [hT]
  have e1 : (H.push ({ cls := cell.cls, slots := cell.slots } : Cell))[H.size]? = some { cls := cell.cls, slots := cell.slots } := by simp
  obtain ⟨t2, a1, b1⟩ := K H.size hP.fresh p e R s m args below meth c _ locs (cells + 1) (slots + n) mc ms ls (.ref H.size :: rest) X (ab_room hR) (hP.push (c1 := kI g n f) (by
      refine ⟨⟨_, e1, ?_, (by intro hh; cases hh), ⟨fun _ => q4', Nat.le_of_eq q4'.symm, by rw [show ({ cls := cell.cls, slots := cell.slots } : Cell).slots.size = n from q4']⟩, q5, q6⟩, fun _ => ⟨_, e1, z2⟩⟩
      exact ⟨(by intro q hq; cases hq), q2.2⟩) (by simp) (fun q hq => by rw [Array.getElem?_push, if_neg (Nat.ne_of_lt hq)])) hl hL ⟨_, _, rfl, rfl, hS⟩ _ hh (by rw [← q4']; exact X')
  refine ⟨t2, stp t2 ?_, b1⟩
  rw [show T.heap.size = H.size by rw [hT]]
  exact a1
end ABK
