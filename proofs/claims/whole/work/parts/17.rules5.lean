/-! rows with the new heap by a name of its own; which cells stay; the throws' words -/
section ABG
theorem ab_ne {h : AbH} {a b : Nat} {c1 c2 : AbC} (h1 : h a = some c1) (h2 : h b = some c2) (hl : c1.1 ≠ c2.1) : a ≠ b := by
  intro e
  subst e
  exact hl (by rw [Option.some.inj (h1.symm.trans h2)])
/-- all cells but those at these addresses are as they were -/
def ab_fr (ws : List Nat) (h0 h : AbH) : Prop := ∀ q : Nat, q ∉ ws → h q = h0 q
theorem ab_fr0 {h : AbH} : ab_fr [] h h := fun _ _ => rfl
theorem ab_frt {ws : List Nat} {h0 h h1 : AbH} {a : Nat} (fr : ab_fr ws h0 h) (n : ∀ q, q ≠ a → h1 q = h q) : ab_fr (a :: ws) h0 h1 := fun q hq => (n q (fun e => hq (by rw [e]; exact List.mem_cons_self))).trans (fr q (fun e => hq (List.mem_cons_of_mem _ e)))
theorem ab_fr.trans {ws vs : List Nat} {h0 h h1 : AbH} (fr : ab_fr ws h0 h) (fs : ab_fr vs h h1) : ab_fr (vs ++ ws) h0 h1 := fun q hq => (fs q (fun e => hq (List.mem_append_left _ e))).trans (fr q (fun e => hq (List.mem_append_right _ e)))
theorem ab_fr.sub {ws vs : List Nat} {h0 h : AbH} (fr : ab_fr ws h0 h) (hs : ∀ a ∈ ws, a ∈ vs) : ab_fr vs h0 h := fun q hq => fr q (fun e => hq (hs q e))
theorem ab_fr.at {ws : List Nat} {h0 h : AbH} (fr : ab_fr ws h0 h) {a : Nat} {c : AbC} (ha : h0 a = some c) (hn : a ∉ ws) : h a = some c := (fr a hn).trans ha
theorem ab_up_eq {h : AbH} {a : Nat} {c : AbC} : ab_up h a c a = some c := if_pos rfl
theorem ab_up_ne {h : AbH} {a : Nat} {c : AbC} : ∀ q, q ≠ a → ab_up h a c q = h q := fun _ hq => if_neg hq
variable {l : Launch} {E : AbE} {y : AbY} {d kc ks pc : Nat} {L : List (Option AbV)} {S : List AbV} {h : AbH} {Q : AbO → AbH → Prop}
theorem ab_putG {ci N k ix g a : Nat} {C : String} {T : u_T} {ty : Nat → FieldType} {fs : List AbV} {x : AbV} (ok : ab_ok ci C T N ty) (ha : h a = some (kO g ci fs)) (hg : 2 ≤ g) (hk : k < N) (hf : ab_fit (ty k) x) (hw : Cond.fieldLink y.1.cls ix C (T k).2.1 (T k).2.2.1 ∈ lw_tbl) (ht : (T k).1 = C) (hfin : (T k).2.2.2 = false ∨ ((T k).2.2.2 = true ∧ y.1.name = "<init>" ∧ C = y.1.cls)) (hd : decode y.2.1 pc = .ok (.putfield ix, 3))
    (K : ∀ h1 : AbH, h1 a = some (kO g ci (fs.set k x)) → (∀ q, q ≠ a → h1 q = h q) → ab_T l E y d kc ks (pc + 3) L S h1 Q) : ab_T l E y d kc ks pc L (x :: vR a :: S) h Q := ab_put ok ha hg hk hf hw ht hfin hd (K _ ab_up_eq ab_up_ne)
theorem ab_iastG {g a n : Nat} {f : Int → Int} {i x : Int} (ha : h a = some (kI g n f)) (hg : 2 ≤ g) (h0 : 0 ≤ i) (h1 : i < n) (hd : decode y.2.1 pc = .ok (.iastore, 1)) (K : ∀ h1 : AbH, h1 a = some (kI g n (ab_f f i x)) → (∀ q, q ≠ a → h1 q = h q) → ab_T l E y d kc ks (pc + 1) L S h1 Q) : ab_T l E y d kc ks pc L (vI x :: vI i :: vR a :: S) h Q := ab_iast ha hg h0 h1 hd (K _ ab_up_eq ab_up_ne)
theorem ab_lastG {g a n : Nat} {f : Int → Int} {i x : Int} (ha : h a = some (kJ g n f)) (hg : 2 ≤ g) (h0 : 0 ≤ i) (h1 : i < n) (hd : decode y.2.1 pc = .ok (.lastore, 1)) (K : ∀ h1 : AbH, h1 a = some (kJ g n (ab_f f i x)) → (∀ q, q ≠ a → h1 q = h q) → ab_T l E y d kc ks (pc + 1) L S h1 Q) : ab_T l E y d kc ks pc L (vL x :: vI i :: vR a :: S) h Q := ab_last ha hg h0 h1 hd (K _ ab_up_eq ab_up_ne)
theorem ab_zastG {g a n : Nat} {f : Int → Int} {i x : Int} (ha : h a = some (kZ g n f)) (hg : 2 ≤ g) (hx : x = 0 ∨ x = 1) (h0 : 0 ≤ i) (h1 : i < n) (hd : decode y.2.1 pc = .ok (.bastore, 1)) (K : ∀ h1 : AbH, h1 a = some (kZ g n (ab_f f i x)) → (∀ q, q ≠ a → h1 q = h q) → ab_T l E y d kc ks (pc + 1) L S h1 Q) : ab_T l E y d kc ks pc L (vI x :: vI i :: vR a :: S) h Q := ab_zast ha hg hx h0 h1 hd (K _ ab_up_eq ab_up_ne)
theorem ab_copyG {ix g1 g2 a b n1 n2 : Nat} {f g : Int → Int} {sp dp n : Int} (ha : h a = some (kI g1 n1 f)) (hb9 : h b = some (kI g2 n2 g)) (hg : 2 ≤ g2) (h1 : 0 ≤ sp) (h2 : 0 ≤ dp) (h3 : 0 ≤ n) (h4 : sp + n ≤ n1) (h5 : dp + n ≤ n2) (hw1 : Cond.methodLink y.1.cls ix arraycopyName ∈ lw_tbl) (hw2 : Cond.native arraycopyName ∈ lw_tbl) (hw3 : Cond.static arraycopyName ∈ lw_tbl) (hw4 : Cond.initialized "java/lang/System" ∈ lw_tbl) (hd1 : 2 ≤ d) (hS9 : (S.map ab_w).sum ≤ 8) (hd : decode y.2.1 pc = .ok (.invokestatic ix, 3))
    (K : ∀ h1 : AbH, h1 b = some (kI g2 n2 (ab_cpy f g sp dp n)) → (∀ q, q ≠ b → h1 q = h q) → ab_T l E y d kc ks (pc + 3) L S h1 Q) : ab_T l E y d kc ks pc L (vI n :: vI dp :: vR b :: vI sp :: vR a :: S) h Q := ab_copy ha hb9 hg h1 h2 h3 h4 h5 hw1 hw2 hw3 hw4 hd1 hS9 hd (K _ ab_up_eq ab_up_ne)
end ABG
theorem tw_IAE : ab_tw "WordBench" 49 53 "java/lang/IllegalArgumentException" := ⟨by decide +kernel, by decide +kernel⟩
theorem tw_IOB : ab_tw "WordBench" 223 227 "java/lang/IndexOutOfBoundsException" := ⟨by decide +kernel, by decide +kernel⟩
theorem tw_ISE : ab_tw "WordBench" 60 64 "java/lang/IllegalStateException" := ⟨by decide +kernel, by decide +kernel⟩
