/-! the class's side: which marks may have changed; rows with a new cell by a name of its own -/
section CLS
/-- marks that are not told; 200 stands for all of 200 to 399 (the laws) -/
def cP (L : List Nat) : Nat → Prop := fun g => g ∉ L ∧ (200 ≤ g → g < 400 → 200 ∉ L)
theorem cP_no {L : List Nat} {g : Nat} (h : g ∈ L) : ¬ cP L g := fun k => k.1 h
theorem cP_sub {L L' : List Nat} (hs : ∀ g ∈ L, g ∈ L' ∨ (200 ≤ g ∧ g < 400 ∧ 200 ∈ L')) {g : Nat} (hp : cP L' g) : cP L g := by
  refine ⟨fun e => ?_, fun a b e => ?_⟩
  · rcases hs g e with k | ⟨k1, k2, k3⟩
    · exact hp.1 k
    · exact hp.2 k1 k2 k3
  · rcases hs 200 e with k | ⟨_, _, k3⟩
    · exact hp.2 a b k
    · exact hp.2 a b k3
theorem ab_kp.sub {L L' : List Nat} {h h' : AbH} (k : ab_kp (cP L) h h') (hs : ∀ g ∈ L, g ∈ L' ∨ (200 ≤ g ∧ g < 400 ∧ 200 ∈ L')) : ab_kp (cP L') h h' := fun q c hc hp => k q c hc (cP_sub hs hp)
theorem ab_kp.cal {L L' : List Nat} {h0 h h' : AbH} (a : ab_kp (cP L') h0 h) (k : ab_kp (cP L) h h') (hs : ∀ g ∈ L, g ∈ L' ∨ (200 ≤ g ∧ g < 400 ∧ 200 ∈ L')) : ab_kp (cP L') h0 h' := a.trans (k.sub hs)
theorem ab_kp.new {P : Nat → Prop} {h0 h h1 : AbH} {a : Nat} (kp : ab_kp P h0 h) (hn : h a = none) (n : ∀ q, q ≠ a → h1 q = h q) : ab_kp P h0 h1 := by
  intro q c hc hp
  have h9 := kp q c hc hp
  rw [n q (fun e => by rw [e, hn] at h9; cases h9)]
  exact h9
theorem ab_kp_wr1 {h h1 : AbH} {a : Nat} {c : AbC} (ha : h a = some c) (n : ∀ q, q ≠ a → h1 q = h q) : ab_kp (cP [c.1]) h h1 := ab_kp.wr ab_kp0 ha (cP_no (by simp)) n
theorem ab_nn {h : AbH} {a b : Nat} {c : AbC} (h1 : h a = some c) (h2 : h b = none) : a ≠ b := fun e => by rw [e, h2] at h1; cases h1
/-- a method that changes nothing and answers nothing -/
def pV (h0 : AbH) : AbO → AbH → Prop := fun o h' => o = .inl none ∧ h' = h0
theorem pV_no {h0 : AbH} {X : String} {h' : AbH} : ¬ pV h0 (.inr X) h' := fun ⟨e, _⟩ => by cases e
/-- a method that changes nothing and answers a long -/
def pJ (h0 : AbH) (P : Int → Prop) : AbO → AbH → Prop := fun o h' => ∃ v : Int, o = .inl (some (vL v)) ∧ h' = h0 ∧ P v
theorem pJ_no {h0 : AbH} {P : Int → Prop} {X : String} {h' : AbH} : ¬ pJ h0 P (.inr X) h' := fun ⟨_, e, _⟩ => by cases e
theorem lcmp_0 {a b : Int} : ab_lcmp a b = 0 ↔ a = b := by
  unfold ab_lcmp
  split
  · constructor <;> intro _ <;> omega
  · split <;> (constructor <;> intro _ <;> omega)
/-- a method that comes back; cells with other marks than these are as they were -/
def cC (h0 : AbH) (L : List Nat) (P : Option AbV → AbH → Prop) : AbO → AbH → Prop := fun o h' => ∃ r : Option AbV, o = .inl r ∧ ab_kp (cP L) h0 h' ∧ P r h'
theorem cC_no {h0 : AbH} {L : List Nat} {P : Option AbV → AbH → Prop} {X : String} {h' : AbH} : ¬ cC h0 L P (.inr X) h' := fun ⟨_, e, _⟩ => by cases e
/-- a method that comes back or throws; where it throws nothing has changed -/
def cX (h0 : AbH) (L : List Nat) (P : Option AbV → AbH → Prop) (T : String → Prop) : AbO → AbH → Prop := fun o h' => (∃ r : Option AbV, o = .inl r ∧ ab_kp (cP L) h0 h' ∧ P r h') ∨ (∃ X : String, o = .inr X ∧ h' = h0 ∧ T X)
variable {l : Launch} {E : AbE} {y : AbY} {d kc ks pc : Nat} {L : List (Option AbV)} {S : List AbV} {h : AbH} {Q : AbO → AbH → Prop}
theorem vx_ofWF {l : Launch} {y : MethodName} {ws ws' : List Cond} {rm : Room} {Pc : Array Value → State → Prop} {Qc : Array Value → State → Outcome → State → Prop} {XC : String → State → State → Prop} {mc ms : Nat} {free : Addr → Prop} {cc : ByteArray} {maxL : Nat} {ret : Option FieldType}
    (hy : plainFor y = true) (hw : ws = Cond.code y cc maxL ret :: ws')
    (body : ∀ p e s m args below meth c s₁, BodyLoose p l y (headSpec ws rm) cc maxL ret e s m args below meth c s₁ → c.maxLocals = maxL → (∀ x ∈ c.exceptionTable.toList, False) → Pc args s →
      W p l e (headSpec ws rm).room s m args below meth c s.heap [] 0 0 (vx_MQ below Qc XC args s mc ms free) (entryFrame m args maxL)) : vx_Met l y ws rm Pc Qc XC mc ms free := by
  refine MetFree.of_bodySF (code := cc) (maxLocals := maxL) (ret := ret) hy ?_ ?_
  · intro args s m h hn
    obtain ⟨meth, c, h1, h2, h3, h4, h5, h6, -, -⟩ := Cond.code_spec hn (atoms_spec (ws := ws) h _ (by rw [hw]; exact List.mem_cons_self))
    exact ⟨meth, c, h1, h2, h3, h4, h5, h6⟩
  · intro p e s m args below meth c s₁ B hml hP _
    have hh0 : s₁.heap = s.heap := by rw [B.state]; rfl
    have ht : ∀ x ∈ c.exceptionTable.toList, False := by
      obtain ⟨meth9, c9, h1, h2, -, -, -, -, h7, -⟩ := Cond.code_spec B.named (atoms_spec (ws := ws) B.pre _ (by rw [hw]; exact List.mem_cons_self))
      cases Option.some.inj (h1.symm.trans B.method)
      cases Option.some.inj (h2.symm.trans (Stand.of_body B).code)
      intro x hx
      rw [Array.isEmpty_iff.mp h7] at hx
      cases hx
    obtain ⟨t, a1, o, b1, b2, b3⟩ := body p e s m args below meth c s₁ B hml ht hP s₁ hh0 (Stand.of_body B)
    exact ⟨t, o, a1, b1, b2, b3⟩
theorem ab_M.ofF {nL : Nat} {as : List AbV} {L0 : List (Option AbV)} (hG : ab_G l E) (hpn : plainFor y.1 = true) (hh : y.2.2.2 = []) (hn : (ab_en as).length ≤ nL) (hL0 : ab_en as ++ List.replicate (nL - (ab_en as).length) none = L0) (k : ab_T l E y d kc ks 0 L0 [] h Q) : ab_M l E y nL d kc ks as h Q := by
  refine vx_ofWF (ws' := []) hpn rfl ?_
  intro p e s m args below meth c s1 B hml ht hP
  obtain ⟨⟨ws, rfl, hv⟩, hPic, hW⟩ := hP
  have htb : c.exceptionTable.toList = [] := by
    cases hx : c.exceptionTable.toList with
    | nil => rfl
    | cons a b => exact (ht a (by rw [hx]; exact List.mem_cons_self)).elim
  have hlen : L0.length = nL := by rw [← hL0, List.length_append, List.length_replicate]; omega
  rw [lg_entry_eq]
  refine k p e (ab_rm d kc ks) s m ws.toArray below meth c s.heap [] 0 0 kc ks _ [] ⟨B.exec, B.bytes, by rw [hlen]; exact hml, findClass_of_methodNamed B.named, B.returns, B.notSynchronized, (name_of_methodNamed B.named B.method).1, by rw [htb, hh]; rfl, hW, hPic.1, hG⟩ ⟨Nat.le_refl _, Nat.le_refl _, by simp [ab_rm], by simp [ab_rm], by simp, by simp⟩ hPic (fun z hz => by cases hz) (by rw [← hL0]; exact ab_entry hv hn) rfl
theorem ab_newIG {n : Int} (g N : Nat) (hn : n = (N : Int)) (hN : N ≤ 100000) (hd : decode y.2.1 pc = .ok (.newarray .int, 2)) (hw : Cond.arrayClass .int ∈ lw_tbl)
    (K : ∀ (a : Nat) (h1 : AbH), h a = none → h1 a = some (kI g N (fun _ => 0)) → (∀ q, q ≠ a → h1 q = h q) → ab_T l E y d kc ks (pc + 2) L (vR a :: S) h1 Q) : ab_T l E y d (kc + 1) (ks + N) pc L (vI n :: S) h Q := ab_newI g N hn hN hd hw fun a ha => K a _ ha ab_up_eq ab_up_ne
theorem ab_newJG {n : Int} (g N : Nat) (hn : n = (N : Int)) (hN : N ≤ 100000) (hd : decode y.2.1 pc = .ok (.newarray .long, 2)) (hw : Cond.arrayClass .long ∈ lw_tbl)
    (K : ∀ (a : Nat) (h1 : AbH), h a = none → h1 a = some (kJ g N (fun _ => 0)) → (∀ q, q ≠ a → h1 q = h q) → ab_T l E y d kc ks (pc + 2) L (vR a :: S) h1 Q) : ab_T l E y d (kc + 1) (ks + N) pc L (vI n :: S) h Q := ab_newJ g N hn hN hd hw fun a ha => K a _ ha ab_up_eq ab_up_ne
theorem ab_newZG {n : Int} (g N : Nat) (hn : n = (N : Int)) (hN : N ≤ 100000) (hd : decode y.2.1 pc = .ok (.newarray .boolean, 2)) (hw : Cond.arrayClass .boolean ∈ lw_tbl)
    (K : ∀ (a : Nat) (h1 : AbH), h a = none → h1 a = some (kZ g N (fun _ => 0)) → (∀ q, q ≠ a → h1 q = h q) → ab_T l E y d kc ks (pc + 2) L (vR a :: S) h1 Q) : ab_T l E y d (kc + 1) (ks + N) pc L (vI n :: S) h Q := ab_newZ g N hn hN hd hw fun a ha => K a _ ha ab_up_eq ab_up_ne
theorem ab_newAG {n : Int} {ix : Nat} {C : String} (g N : Nat) (hn : n = (N : Int)) (hN : N ≤ 100000) (hd : decode y.2.1 pc = .ok (.anewarray ix, 3)) (hw1 : Cond.classLink y.1.cls ix C ∈ lw_tbl) (hw2 : Cond.arrayOver (.object C) ∈ lw_tbl) (hg : goodWord (Cond.arrayOver (.object C)) = true)
    (K : ∀ (a : Nat) (h1 : AbH), h a = none → h1 a = some (kA g C N (fun _ => none)) → (∀ q, q ≠ a → h1 q = h q) → ab_T l E y d kc ks (pc + 3) L (vR a :: S) h1 Q) : ab_T l E y d (kc + 1) (ks + N) pc L (vI n :: S) h Q := ab_newA g N hn hN hd hw1 hw2 hg fun a ha => K a _ ha ab_up_eq ab_up_ne
theorem ab_newG {ci N ix : Nat} (g : Nat) {C : String} {T : u_T} {ty : Nat → FieldType} {fs : List AbV} (ok : ab_ok ci C T N ty) (hfs : (List.range N).map (fun k => ab_df (ty k)) = fs) (hpl : (List.range N).all (fun k => ab_pl (ty k)) = true) (hw1 : Cond.classLink y.1.cls ix C ∈ lw_tbl) (hw2 : Cond.instantiable C N ∈ lw_tbl) (hw3 : Cond.initialized C ∈ lw_tbl) (hd : decode y.2.1 pc = .ok (.new ix, 3))
    (K : ∀ (a : Nat) (h1 : AbH), h a = none → h1 a = some (kO g ci fs) → (∀ q, q ≠ a → h1 q = h q) → ab_T l E y d kc ks (pc + 3) L (vR a :: S) h1 Q) : ab_T l E y d (kc + 1) (ks + N) pc L S h Q := ab_new g ok hfs hpl hw1 hw2 hw3 hd fun a ha => K a _ ha ab_up_eq ab_up_ne
theorem ab_aastG {g g2 a n v9 ci : Nat} {C : String} {r : vw_C} {f : Int → Option Nat} {i : Int} {fs : List AbV} (ha : h a = some (kA g C n f)) (hg : 2 ≤ g) (hb9 : h v9 = some (kO g2 ci fs)) (hc : ab_cl[ci]? = some r) (hcs : Cond.castable r.1 C ∈ lw_tbl ∨ r.1 = C) (h0 : 0 ≤ i) (h1 : i < n) (hd : decode y.2.1 pc = .ok (.aastore, 1)) (K : ∀ h1 : AbH, h1 a = some (kA g C n (ab_f f i (some v9))) → (∀ q, q ≠ a → h1 q = h q) → ab_T l E y d kc ks (pc + 1) L S h1 Q) : ab_T l E y d kc ks pc L (vR v9 :: vI i :: vR a :: S) h Q := ab_aast ha hg hb9 hc hcs h0 h1 hd (K _ ab_up_eq ab_up_ne)
theorem ab_cloneG {g9 a n ix : Nat} (g : Nat) {f : Int → Int} (ha : h a = some (kI g9 n f)) (hg : 2 ≤ g9) (hw1 : Cond.methodLink y.1.cls ix ⟨"[I", "clone", "()Ljava/lang/Object;"⟩ ∈ lw_tbl) (hw2 : Cond.sameMethod "[I" "java/lang/Object" "clone" "()Ljava/lang/Object;" ∈ lw_tbl) (hw3 : Cond.native ⟨"java/lang/Object", "clone", "()Ljava/lang/Object;"⟩ ∈ lw_tbl) (hw4 : Cond.instanceMethod ⟨"java/lang/Object", "clone", "()Ljava/lang/Object;"⟩ ∈ lw_tbl) (hw5 : Cond.selects "[I" ⟨"[I", "clone", "()Ljava/lang/Object;"⟩ ⟨"java/lang/Object", "clone", "()Ljava/lang/Object;"⟩ ∈ lw_tbl) (hw6 : Cond.castable "[I" "java/lang/Cloneable" ∈ lw_tbl) (hd1 : 1 ≤ d) (hS9 : (S.map ab_w).sum ≤ 8) (hd : decode y.2.1 pc = .ok (.invokevirtual ix, 3))
    (K : ∀ (b : Nat) (h1 : AbH), h b = none → h1 b = some (kI g n f) → (∀ q, q ≠ b → h1 q = h q) → ab_T l E y d kc ks (pc + 3) L (vR b :: S) h1 Q) : ab_T l E y d (kc + 1) (ks + n) pc L (vR a :: S) h Q := ab_clone g ha hg hw1 hw2 hw3 hw4 hw5 hw6 hd1 hS9 hd fun b hb => K b _ hb ab_up_eq ab_up_ne
end CLS
