/-! the rest: an abstract method's call, kinds, the static row, copying, catching -/
section ABR
variable {l : Launch} {E : AbE} {y : AbY} {d kc ks pc : Nat} {L : List (Option AbV)} {S : List AbV} {h : AbH} {Q : AbO → AbH → Prop}
/-- a call by the name x of an abstract method, on an object whose kind has the method y2 for it; it only comes back -/
theorem ab_callU {ci g a ix n2 d2 kc2 ks2 : Nat} {r : vw_C} {x : MethodName} {fs : List AbV} {y2 : AbY} {as : List AbV} {S0 : List AbV} {Q2 : AbO → AbH → Prop} (hM : ab_M l E y2 n2 d2 kc2 ks2 (vR a :: as) h Q2) (hx : ∀ Xn h', ¬ Q2 (.inr Xn) h') (ha : h a = some (kO g ci fs)) (hc : ab_cl[ci]? = some r)
    (w0 : Cond.methodLink y.1.cls ix x ∈ lw_tbl ∧ Cond.sameMethod x.cls x.cls x.name x.desc ∈ lw_tbl ∧ Cond.declares x ∈ lw_tbl ∧ (x.cls ≠ "java/lang/invoke/MethodHandle" ∧ x.cls ≠ "java/lang/invoke/VarHandle") ∧ (parseMethodDescriptor x.desc).map (fun d => d.parameters.length) = some as.length)
    (w1 : Cond.selects r.1 x y2.1 ∈ lw_tbl ∧ Cond.instanceMethod y2.1 ∈ lw_tbl ∧ Cond.initialized y2.1.cls ∈ lw_tbl ∧ Cond.code y2.1 y2.2.1 n2 y2.2.2.1 ∈ lw_tbl) (hS0 : S0 = as.reverse ++ vR a :: S) (hd2 : d2 + 1 ≤ d) (hn2 : n2 ≤ 45) (hS9 : (S.map ab_w).sum ≤ 8) (hd : decode y.2.1 pc = .ok (.invokevirtual ix, 3))
    (K : ∀ r h', Q2 (.inl r) h' → ab_T l E y d kc ks (pc + 3) L (r.toList ++ S) h' Q) : ab_T l E y d (kc + kc2) (ks + ks2) pc L S0 h Q := by
  intro p e R s m args below meth c H locs cells slots mc ms ls st X hR hP hl hL hS
  subst hS0
  obtain ⟨hx9, hb, hml, hown, hr, hlk, hnm, htb, hW, ho, hG⟩ := id X
  obtain ⟨us, vs, rfl, hu, w9, rest, rfl, hw9, hS2⟩ := ab_vs_split hS
  cases (show w9 = .ref a from hw9)
  have hAs : ab_vs as us.reverse := by have := ab_vs_rev hu; rwa [List.reverse_reverse] at this
  obtain ⟨v1, v2, v3, v4, v5⟩ := w0
  obtain ⟨u1, u2, u3, u4⟩ := w1
  have cb : va_CU R s args y.1.cls r.1 x.cls ix x y2.1 y2.2.1 n2 y2.2.2.1 [Cond.code y2.1 y2.2.1 n2 y2.2.2.1] (ab_rm d2 kc2 ks2) kc2 ks2 as.length := by
    refine ⟨⟨rfl, rfl, by show d2 + 1 ≤ R.frames; have := hR.1; omega, by show 8 + (n2 + 11) + 64 * d2 ≤ R.locals; have := hR.2.1; omega, ?_, List.mem_cons_self⟩, ab_word hG u4 rfl hW args, ab_word hG u3 rfl hW args, v4, fun sig hs => ?_, ab_word hG v1 rfl hW args, ab_word hG v2 rfl hW args, va_Decl.abs (va_Nw.warmD hW (ab_nw hG v3 rfl)), ab_word hG u1 rfl hW args, ab_word hG u2 rfl hW args⟩
    · intro w hw a' U hU
      rw [List.mem_singleton.mp hw]
      exact ab_word hG u4 rfl (State.WarmedH.trans hW hU) a'
    · rw [hs] at v5
      exact (Option.some.inj v5).symm
  refine ab_back (Q2 := Q2) X hR hl hL hS2 (ab_run (va_runU (nL := L.length) (Ts := []) (As := us.reverse) (b := a) ⟨hx9, hb, hml, hown, fun w hw => by cases hw⟩ (ab_met hM hx) cb ⟨ab_blind, ab_recv hG hW hP ha hc, fun U hU hWU => ⟨⟨_, rfl, _, _, rfl, rfl, hAs⟩, by rw [hU]; exact hP, State.WarmedH.trans hW hWU⟩⟩ rfl (by rw [ab_vs_len hAs]) hL.1 (by rw [List.reverse_reverse]) (by rw [ab_sum hS2]; show 2 * 0 + _ ≤ 8; omega) hd ⟨by have := hR.2.2.1; omega, by have := hR.2.2.2.1; omega⟩)) K (fun Xn h' ce q H1 locs1 h2 => absurd h2 (hx Xn h'))
/-! kinds -/
theorem ab_instY {ci g a ix : Nat} {r : vw_C} {fs : List AbV} (ha : h a = some (kO g ci fs)) (hc : ab_cl[ci]? = some r) (hw : Cond.classLink y.1.cls ix r.1 ∈ lw_tbl) (hd : decode y.2.1 pc = .ok (.instanceof ix, 3)) (K : ab_T l E y d kc ks (pc + 3) L (vI 1 :: S) h Q) : ab_T l E y d kc ks pc L (vR a :: S) h Q := by
  intro p e R s m args below meth c H locs cells slots mc ms ls st X hR hP hl hL hS
  obtain ⟨hx9, hb, hml, hown, hr, hlk, hnm, htb, hW, ho, hG⟩ := id X
  obtain ⟨w9, rest, rfl, hw9, hS⟩ := hS
  cases (show w9 = .ref a from hw9)
  exact va_instS hx9 hb hown (ab_word hG hw rfl hW args) ((ab_K hG hW).1 ci _ hc).2 (ab_recv hG hW hP ha hc) hd (K p e R s m args below meth c H locs cells slots mc ms ls _ X hR hP hl hL ⟨_, _, rfl, ⟨1, rfl, rfl⟩, hS⟩)
theorem ab_instN {ci g a ix : Nat} {r : vw_C} {nm : String} {fs : List AbV} (ha : h a = some (kO g ci fs)) (hc : ab_cl[ci]? = some r) (hw : Cond.classLink y.1.cls ix nm ∈ lw_tbl) (hn : Cond.not (.castable r.1 nm) ∈ flatC (Jvm.Cond.and given_1 narrow_1)) (hd : decode y.2.1 pc = .ok (.instanceof ix, 3)) (K : ab_T l E y d kc ks (pc + 3) L (vI 0 :: S) h Q) : ab_T l E y d kc ks pc L (vR a :: S) h Q := by
  intro p e R s m args below meth c H locs cells slots mc ms ls st X hR hP hl hL hS
  obtain ⟨hx9, hb, hml, hown, hr, hlk, hnm, htb, hW, ho, hG⟩ := id X
  obtain ⟨w9, rest, rfl, hw9, hS⟩ := hS
  cases (show w9 = .ref a from hw9)
  exact va_instNo hx9 hb hown (ab_word hG hw rfl hW args) (va_Nc.moved hW.alike (va_Nc.of (flat_of_before _ hG.2.2.2.2.2 _ hn))) (ab_recv hG hW hP ha hc) hd (K p e R s m args below meth c H locs cells slots mc ms ls _ X hR hP hl hL ⟨_, _, rfl, ⟨0, rfl, rfl⟩, hS⟩)
theorem ab_castY {ci g a ix : Nat} {r : vw_C} {fs : List AbV} (ha : h a = some (kO g ci fs)) (hc : ab_cl[ci]? = some r) (hw : Cond.classLink y.1.cls ix r.1 ∈ lw_tbl) (hd : decode y.2.1 pc = .ok (.checkcast ix, 3)) (K : ab_T l E y d kc ks (pc + 3) L (vR a :: S) h Q) : ab_T l E y d kc ks pc L (vR a :: S) h Q := by
  intro p e R s m args below meth c H locs cells slots mc ms ls st X hR hP hl hL hS
  obtain ⟨hx9, hb, hml, hown, hr, hlk, hnm, htb, hW, ho, hG⟩ := id X
  obtain ⟨w9, rest, rfl, hw9, hS⟩ := hS
  cases (show w9 = .ref a from hw9)
  exact va_castS hx9 hb hown (ab_word hG hw rfl hW args) ((ab_K hG hW).1 ci _ hc).2 (ab_recv hG hW hP ha hc) hd (K p e R s m args below meth c H locs cells slots mc ms ls _ X hR hP hl hL ⟨_, _, rfl, rfl, hS⟩)
/-! the static row, out of a nest mate -/
def ab_zim (E : AbE) (z : Nat) : Prop := va_Z "WordBench" "ZIMIN" "[I" (.ref z) (ab_A E) E.1 E.1.heap
theorem ab_zimin {ix z : Nat} {host : String} (hz : ab_zim E z) (hw : Cond.fieldLinkNest y.1.cls ix "WordBench" "ZIMIN" "[I" host ∈ lw_tbl) (hd : decode y.2.1 pc = .ok (.getstatic ix, 3)) (K : ab_T l E y d kc ks (pc + 3) L (vR z :: S) h Q) : ab_T l E y d kc ks pc L S h Q := by
  intro p e R s m args below meth c H locs cells slots mc ms ls st X hR hP hl hL hS T hT XX
  obtain ⟨hx9, hb, hml, hown, hr, hlk, hnm, htb, hW, ho, hG⟩ := id X
  have hsz : s.heap.size ≤ H.size := by rw [← hT]; exact XX.same.2.1
  have hZ : va_Z "WordBench" "ZIMIN" "[I" (.ref z) (ab_A E) s s.heap := (va_Z.moved hW.alike hz).kept (fun a h1 _ => ho.2 a h1)
  exact va_getsN hx9 hb hZ (ab_frm ho hP hl hsz) hown (va_Nw.use rfl (va_Nw.warmF hW (ab_nw hG hw rfl))) (fun x hx => hx) hd (K p e R s m args below meth c H locs cells slots mc ms ls _ X hR hP hl hL ⟨_, _, rfl, rfl, hS⟩) T hT XX
/-! copying -/
def ab_cpy (f g : Int → Int) (sp dp n : Int) : Int → Int := fun j => if dp ≤ j ∧ j < dp + n then f (sp + (j - dp)) else g j
theorem ab_pairs (at_ : Nat) : ∀ (xs : List Value) (i : Nat) (c : Cell), at_ + i + xs.length ≤ c.slots.size → ∀ k : Nat, (c.storePairs at_ (xs.zipIdx i)).slots[k]? = if at_ + i ≤ k ∧ k < at_ + i + xs.length then xs[k - (at_ + i)]? else c.slots[k]?
  | [], i, c, _, k => by
    rw [if_neg (by simp only [List.length_nil]; omega)]
    rfl
  | x :: xs, i, c, hz, k => by
    rw [List.zipIdx_cons]
    simp only [List.length_cons] at hz ⊢
    show ((c.setSlot (at_ + i) x).storePairs at_ (xs.zipIdx (i + 1))).slots[k]? = _
    rw [ab_pairs at_ xs (i + 1) (c.setSlot (at_ + i) x) (by simp [Cell.setSlot]; omega) k]
    by_cases hk : k = at_ + i
    · subst hk
      rw [if_neg (by omega), if_pos (by omega), Nat.sub_self]
      have hlt : at_ + i < c.slots.size := by omega
      simp [Cell.setSlot, hlt]
    · by_cases g : at_ + (i + 1) ≤ k ∧ k < at_ + (i + 1) + xs.length
      · rw [if_pos g, if_pos (by omega)]
        have e : k - (at_ + i) = (k - (at_ + (i + 1))) + 1 := by omega
        rw [e, List.getElem?_cons_succ]
      · rw [if_neg g, if_neg (by omega)]
        simp [Cell.setSlot, Ne.symm hk]
theorem ab_copy {ix g1 g2 a b n1 n2 : Nat} {f g : Int → Int} {sp dp n : Int} (ha : h a = some (kI g1 n1 f)) (hb9 : h b = some (kI g2 n2 g)) (hg : 2 ≤ g2) (h1 : 0 ≤ sp) (h2 : 0 ≤ dp) (h3 : 0 ≤ n) (h4 : sp + n ≤ n1) (h5 : dp + n ≤ n2) (hw1 : Cond.methodLink y.1.cls ix arraycopyName ∈ lw_tbl) (hw2 : Cond.native arraycopyName ∈ lw_tbl) (hw3 : Cond.static arraycopyName ∈ lw_tbl) (hw4 : Cond.initialized "java/lang/System" ∈ lw_tbl) (hd1 : 2 ≤ d) (hS9 : (S.map ab_w).sum ≤ 8) (hd : decode y.2.1 pc = .ok (.invokestatic ix, 3))
    (K : ab_T l E y d kc ks (pc + 3) L S (ab_up h b (kI g2 n2 (ab_cpy f g sp dp n))) Q) : ab_T l E y d kc ks pc L (vI n :: vI dp :: vR b :: vI sp :: vR a :: S) h Q := by
  intro p e R s m args below meth c H locs cells slots mc ms ls st X hR hP hl hL hS T hT XX
  obtain ⟨hx9, hb, hml, hown, hr, hlk, hnm, htb, hW, ho, hG⟩ := id X
  obtain ⟨_, _, rfl, ⟨un, rfl, hun⟩, _, _, rfl, ⟨ud, rfl, hud⟩, wb, _, rfl, hwb, _, _, rfl, ⟨us, rfl, hus⟩, wa, rest, rfl, hwa, hS2⟩ := hS
  cases (show wb = .ref b from hwb)
  cases (show wa = .ref a from hwa)
  obtain ⟨⟨cs, p1, p2, p3, p4, p5, p6⟩, -⟩ := (hP.2 a _ ha).1
  obtain ⟨⟨cd, q1, q2, q3, q4, q5, q6⟩, qc⟩ := (hP.2 b _ hb9).1
  have p2' := State.isArrayOf_alike hW.alike p2
  have q2' := State.isArrayOf_alike hW.alike q2
  obtain ⟨o1, kS, hkS, cmS, hkkS⟩ := p2'
  obtain ⟨o2, kD, hkD, cmD, hkkD⟩ := q2'
  have p4' : n1 ≤ cs.slots.size := p4.2.1
  have q4' : cd.slots.size = n2 := q4.1 hg
  have en := ab_nat (v := un) (by omega)
  have ed := ab_nat (v := ud) (by omega)
  have es := ab_nat (v := us) (by omega)
  have nn : ∀ {v : Int32}, 0 ≤ v.toInt → ¬ v < 0 := fun hv g => by have := Int32.lt_iff_toInt_lt.mp g; rw [Int32.toInt_zero] at this; omega
  have rd : ∀ i : Nat, i < un.toNatClampNeg → ∃ v : Int32, cs.slots[us.toNatClampNeg + i]? = some (.int v) ∧ v.toInt = f (sp + i) := by
    intro i hi
    obtain ⟨w, g1, v, rfl, g3⟩ := p6 (us.toNatClampNeg + i) (by show _ < n1; omega)
    refine ⟨v, g1, g3.trans ?_⟩
    show f _ = f _
    congr 1
    omega
  have hnf : nativeFrameWords "java/lang/System" "arraycopy" 5 ≤ 100 := by decide +kernel
  have hloc : 2 * (F0 m pc ls (.int un :: .int ud :: .ref b :: .int us :: .ref a :: rest)).monitorRoom + (rest.map fun v => v.category).sum + (nativeFrameWords "java/lang/System" "arraycopy" 5 + 11) ≤ R.locals := by
    rw [ab_sum hS2]
    have := hR.2.1
    show 2 * 0 + _ + _ ≤ _
    omega
  obtain ⟨vm', X', stp⟩ := XX.arraycopy hx9 hown (ab_word hG hw1 rfl hW args) (ab_word hG hw2 rfl hW args) (ab_word hG hw3 rfl hW args) (ab_word hG hw4 rfl hW args) (src := a) (dst := b) (cs := cs) (cd := cd) (srcPos := us) (destPos := ud) (n := un) (by rw [hT]; exact p1) (by rw [hT]; exact q1) o1 o2 p3 q3 hkS hkD hkkS hkkD rfl (nn (by omega)) (nn (by omega)) (nn (by omega)) (by omega) (by rw [q4']; omega)
    (fun v1 _ i hi => by
      obtain ⟨v, g1, -⟩ := rd i hi
      rw [Array.getD_eq_getD_getElem?, g1]
      exact ⟨rfl, trivial⟩)
    (g := F0 m pc ls _) rfl (hL.1.trans hml.symm) (rest := rest) rfl (by rw [hb]; exact hd) (by have := hR.1; omega) hloc
  have hlt : b < T.heap.size := by rw [hT]; exact (Array.getElem?_eq_some_iff.mp q1).1
  have e1 : ((T.setVm vm').setCell b (copied cs cd us ud un)).heap[b]? = some (copied cs cd us ud un) := heapAt_setCell_self (s := T.setVm vm') _ hlt
  have e3 : ∀ q : Nat, q ≠ b → ((T.setVm vm').setCell b (copied cs cd us ud un)).heap[q]? = H[q]? := fun q hq => by rw [heapAt_setCell_ne (s := T.setVm vm') _ (Ne.symm hq)]; show T.heap[q]? = _; rw [hT]
  have e2 : ((T.setVm vm').setCell b (copied cs cd us ud un)).heap.size = H.size := by rw [size_setCell]; show T.heap.size = _; rw [hT]
  have hlen : (cs.stretch us.toNatClampNeg un.toNatClampNeg).length = un.toNatClampNeg := by simp [Cell.stretch]
  obtain ⟨f1, f2, f3, -, -⟩ := Cell.storePairs_facts cd ud.toNatClampNeg (cs.stretch us.toNatClampNeg un.toNatClampNeg).zipIdx
  obtain ⟨t2, a1, b1⟩ := K p e R s m args below meth c _ (locs ++ (cs.stretch us.toNatClampNeg un.toNatClampNeg).zipIdx.map fun q => ⟨b, ud.toNatClampNeg + q.2⟩) cells slots mc ms ls rest X hR (hP.set hb9 hg (c1 := kI g2 n2 (ab_cpy f g sp dp n)) (by
      refine ⟨⟨_, e1, ?_, ?_, ⟨fun _ => f3.trans q4', Nat.le_of_eq (f3.trans q4').symm, by rw [show (copied cs cd us ud un).slots.size = n2 from f3.trans q4']⟩, q5, fun j hj => ?_⟩, fun g9 => by obtain ⟨c2, z1, z2⟩ := qc g9; cases Option.some.inj (z1.symm.trans q1); exact ⟨_, e1, by rw [show (copied cs cd us ud un).cls = cd.cls from f1]; exact z2⟩⟩
      · refine ⟨fun k hk => q2.1 k (by rw [← f2]; exact hk), ?_⟩
        rw [show (copied cs cd us ud un).cls = cd.cls from f1]
        exact q2.2
      · intro hh
        exact q3 (by rw [← f2]; exact hh)
      · have hj : j < n2 := hj
        have hp := ab_pairs ud.toNatClampNeg (cs.stretch us.toNatClampNeg un.toNatClampNeg) 0 cd (by rw [hlen, q4']; omega) j
        rw [hlen, Nat.add_zero] at hp
        by_cases g9 : ud.toNatClampNeg ≤ j ∧ j < ud.toNatClampNeg + un.toNatClampNeg
        · rw [if_pos g9] at hp
          obtain ⟨v, g1, g3⟩ := rd (j - ud.toNatClampNeg) (by omega)
          refine ⟨.int v, hp.trans ?_, v, rfl, ?_⟩
          · simp only [Cell.stretch, List.getElem?_map]
            rw [List.getElem?_range (by omega)]
            simp only [Option.map_some, Option.some.injEq]
            rw [Array.getD_eq_getD_getElem?, g1]
            rfl
          · rw [g3]
            show _ = ab_cpy f g sp dp n j
            unfold ab_cpy
            rw [if_pos (by omega)]
            congr 1
            omega
        · rw [if_neg g9] at hp
          obtain ⟨w, g1, v, rfl, g3⟩ := q6 j hj
          refine ⟨.int v, hp.trans g1, v, rfl, g3.trans ?_⟩
          show g j = ab_cpy f g sp dp n j
          unfold ab_cpy
          rw [if_neg (by omega)]) e2 e3) (by
      intro z hz
      rcases List.mem_append.mp hz with g1 | g1
      · exact hl z g1
      · obtain ⟨q, -, rfl⟩ := List.mem_map.mp g1
        exact (hP.2 b _ hb9).2 hg) hL hS2 _ rfl X'
  exact ⟨t2, stp t2 a1, b1⟩
/-! catching -/
/-- a call in a method with a table: what is thrown by the callee is caught by a row of it -/
theorem ab_callVX {ci g a ix n2 d2 kc2 ks2 : Nat} {r : vw_C} {fs : List AbV} {y2 : AbY} {as : List AbV} {S0 : List AbV} {Q2 : AbO → AbH → Prop} (hM : ab_M l E y2 n2 d2 kc2 ks2 (vR a :: as) h Q2) (ha : h a = some (kO g ci fs)) (hc : ab_cl[ci]? = some r) (w : ab_wB y.1.cls ix y2 n2 as.length) (w1 : Cond.instanceMethod y2.1 ∈ lw_tbl) (w2 : Cond.selects r.1 y2.1 y2.1 ∈ lw_tbl) (hS0 : S0 = as.reverse ++ vR a :: S) (hd2 : d2 + 1 ≤ d) (hn2 : n2 ≤ 45) (hS9 : (S.map ab_w).sum ≤ 8) (hd : decode y.2.1 pc = .ok (.invokevirtual ix, 3))
    (KX : ∀ (Xn : String) (h' : AbH), Q2 (.inr Xn) h' → ∃ (pre : List (Nat × Nat × Nat × Nat)) (x : Nat × Nat × Nat × Nat) (suf : List (Nat × Nat × Nat × Nat)), y.2.2.2 = pre ++ x :: suf ∧
      (∀ z ∈ pre, z.2.2.2 ≠ 0 ∧ ∃ nm, Cond.classLink y.1.cls z.2.2.2 nm ∈ lw_tbl ∧ Cond.not (.castable Xn nm) ∈ flatC (Jvm.Cond.and given_1 narrow_1)) ∧ covers ⟨x.1, x.2.1, x.2.2.1, x.2.2.2⟩ pc = true ∧ x.2.2.2 ≠ 0 ∧ Cond.classLink y.1.cls x.2.2.2 Xn ∈ lw_tbl ∧ Cond.castable Xn Xn ∈ lw_tbl ∧ ∀ q : Nat, ab_T l E y d kc ks x.2.2.1 L [vR q] h' Q)
    (K : ∀ r h', Q2 (.inl r) h' → ab_T l E y d kc ks (pc + 3) L (r.toList ++ S) h' Q) : ab_T l E y d (kc + kc2) (ks + ks2) pc L S0 h Q := by
  intro p e R s m args below meth c H locs cells slots mc ms ls st X hR hP hl hL hS
  subst hS0
  obtain ⟨hx9, hb, hml, hown, hr, hlk, hnm, htb, hW, ho, hG⟩ := id X
  obtain ⟨us, vs, rfl, hu, w9, rest, rfl, hw9, hS2⟩ := ab_vs_split hS
  cases (show w9 = .ref a from hw9)
  have hAs : ab_vs as us.reverse := by have := ab_vs_rev hu; rwa [List.reverse_reverse] at this
  refine ab_back X hR hl hL hS2 (vx_runV (nL := L.length) (Ts := []) (As := us.reverse) (b := a) ⟨hx9, hb, hml, hown, fun w hw => by cases hw⟩ hM ⟨ab_cb w hG hW hd2 hn2 ⟨hR.1, hR.2.1⟩, ab_word hG w1 rfl hW args, ab_word hG w2 rfl hW args⟩ ⟨ab_blind, ab_recv hG hW hP ha hc, fun U hU hWU => ⟨⟨_, rfl, _, _, rfl, rfl, hAs⟩, by rw [hU]; exact hP, State.WarmedH.trans hW hWU⟩⟩ rfl (by rw [ab_vs_len hAs]) hL.1 (by rw [List.reverse_reverse]) (by rw [ab_sum hS2]; show 2 * 0 + _ ≤ 8; omega) hd ⟨by have := hR.2.2.1; omega, by have := hR.2.2.2.1; omega⟩) K ?_
  intro Xn h' ce q H1 locs1 h2 hP1 hl1 hce hcv hcl
  obtain ⟨pre, x, suf, e1, e2, e3, e4, e5, e6, e7⟩ := KX Xn h' h2
  refine vx_catch (own := y.1.cls) (name := Xn) (E := Xn) hown (pre.map fun q => ⟨q.1, q.2.1, q.2.2.1, q.2.2.2⟩) ⟨x.1, x.2.1, x.2.2.1, x.2.2.2⟩ (suf.map fun q => ⟨q.1, q.2.1, q.2.2.1, q.2.2.2⟩) (by rw [htb, e1, tableOf, List.map_append, List.map_cons]) ?_ e3 e4 (ab_word hG e5 rfl hW args) (va_Nw.use rfl (va_Nw.warmC hW (ab_nw hG e6 rfl))) hce hcv hcl (e7 q p e R s m args below meth c H1 locs1 _ _ mc ms ls _ X (ab_room hR) hP1 hl1 hL ⟨_, _, rfl, rfl, rfl⟩)
  intro z hz
  obtain ⟨z0, hz0, rfl⟩ := List.mem_map.mp hz
  obtain ⟨g1, nm, g2, g3⟩ := e2 z0 hz0
  exact Or.inr ⟨g1, nm, ab_word hG g2 rfl hW args, va_Nc.moved hW.alike (va_Nc.of (flat_of_before _ hG.2.2.2.2.2 _ g3))⟩
/-- a static call of a method with a table of its own -/
theorem ab_callSW {ix n2 d2 kc2 ks2 : Nat} {y2 : AbY} {as : List AbV} {S0 : List AbV} {Q2 : AbO → AbH → Prop} (hM : ab_MW l E y2 n2 d2 kc2 ks2 as h Q2) (w : Cond.methodLink y.1.cls ix y2.1 ∈ lw_tbl ∧ Cond.static y2.1 ∈ lw_tbl ∧ Cond.initialized y2.1.cls ∈ lw_tbl ∧ Cond.codeWith y2.1 y2.2.1 n2 y2.2.2.1 y2.2.2.2 ∈ lw_tbl ∧ (y2.1.cls ≠ "java/lang/invoke/MethodHandle" ∧ y2.1.cls ≠ "java/lang/invoke/VarHandle") ∧ (parseMethodDescriptor y2.1.desc).map (fun d => d.parameters.length) = some as.length) (hS0 : S0 = as.reverse ++ S) (hd2 : d2 + 1 ≤ d) (hn2 : n2 ≤ 45) (hS9 : (S.map ab_w).sum ≤ 8) (hd : decode y.2.1 pc = .ok (.invokestatic ix, 3))
    (K : ∀ r h', Q2 (.inl r) h' → ab_T l E y d kc ks (pc + 3) L (r.toList ++ S) h' Q) : ab_T l E y d (kc + kc2) (ks + ks2) pc L S0 h Q := by
  intro p e R s m args below meth c H locs cells slots mc ms ls st X hR hP hl hL hS
  subst hS0
  obtain ⟨hx9, hb, hml, hown, hr, hlk, hnm, htb, hW, ho, hG⟩ := id X
  obtain ⟨us, rest, rfl, hu, hS2⟩ := ab_vs_split hS
  have hAs : ab_vs as us.reverse := by have := ab_vs_rev hu; rwa [List.reverse_reverse] at this
  obtain ⟨v1, v2, v3, v4, v5, v6⟩ := w
  have cb : vx_CSW R s args y.1.cls ix y2.1 y2.2.1 n2 y2.2.2.1 y2.2.2.2 [Cond.codeWith y2.1 y2.2.1 n2 y2.2.2.1 y2.2.2.2] (ab_rm d2 kc2 ks2) kc2 ks2 as.length := by
    refine ⟨⟨rfl, rfl, by show d2 + 1 ≤ R.frames; have := hR.1; omega, by show 8 + (n2 + 11) + 64 * d2 ≤ R.locals; have := hR.2.1; omega, ?_, List.mem_cons_self⟩, ab_word hG v4 rfl hW args, ab_word hG v3 rfl hW args, v5, fun sig hs => ?_, ab_word hG v1 rfl hW args, ab_word hG v2 rfl hW args⟩
    · intro w hw a' U hU
      rw [List.mem_singleton.mp hw]
      exact ab_word hG v4 rfl (State.WarmedH.trans hW hU) a'
    · rw [hs] at v6
      exact (Option.some.inj v6).symm
  have hMet : Met l y2.1 [Cond.codeWith y2.1 y2.2.1 n2 y2.2.2.1 y2.2.2.2] (ab_rm d2 kc2 ks2) (ab_Pc E as h) (ab_Q E Q2) kc2 ks2 (ab_A E) := hM
  intro T hT XX
  obtain ⟨v, st0, t, T', L', h0, X', hL', e1, e2, ⟨v', r, h', hv, hov, hP', hq⟩, stp⟩ := vx_runSW (nL := L.length) (Ts := []) (As := us.reverse) (g := F0 m pc ls (us ++ rest)) (H := H) ⟨hx9, hb, hml, hown, fun w hw => by cases hw⟩ hMet cb ⟨ab_blind, fun U hU hWU => ⟨⟨_, rfl, hAs⟩, by rw [hU]; exact hP, State.WarmedH.trans hW hWU⟩⟩ rfl (by rw [ab_vs_len hAs]) hL.1 (rest := rest) (by rw [List.reverse_reverse]) (by rw [ab_sum hS2]; show 2 * 0 + _ ≤ 8; omega) hd ⟨by have := hR.2.2.1; omega, by have := hR.2.2.2.1; omega⟩ T hT XX
  cases hv
  obtain ⟨t2, a1, b1⟩ := K r h' hq p e R s m args below meth c T'.heap (locs ++ L') _ _ mc ms ls (v.toList ++ rest) X (ab_room hR) (by rw [e1]; exact hP') (fun z hz => (List.mem_append.mp hz).elim (hl z) (hL' z)) hL (by
      cases r with
      | none => rw [show v = none from hov]; exact hS2
      | some x => obtain ⟨w, rfl, hw⟩ := hov; exact ⟨w, rest, rfl, hw, hS2⟩) T' rfl X'
  exact ⟨t2, stp t2 a1, b1⟩
end ABR
