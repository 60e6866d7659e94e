/-! rows: what is made, how a method ends, what is thrown -/
section ABN
variable {l : Launch} {E : AbE} {y : AbY} {d kc ks pc : Nat} {L : List (Option AbV)} {S : List AbV} {h : AbH} {Q : AbO → AbH → Prop}
def ab_df (t : FieldType) : AbV := match t with
  | .long => vL 0
  | .array _ => vN
  | .object _ => vN
  | _ => vI 0
def ab_pl (t : FieldType) : Bool := match t with
  | .float => false
  | .double => false
  | _ => true
theorem ab_dfv {t : FieldType} (ht : ab_pl t = true) : ab_v (ab_df t) (defaultValue t) := by
  cases t <;> first | exact ⟨0, rfl, rfl⟩ | exact rfl | (simp [ab_pl] at ht)
theorem ab_vs_map {f : Nat → AbV} {g : Nat → Value} : ∀ (xs : List Nat), (∀ x ∈ xs, ab_v (f x) (g x)) → ab_vs (xs.map f) (xs.map g)
  | [], _ => rfl
  | x :: xs, hx => ⟨g x, xs.map g, rfl, hx x List.mem_cons_self, ab_vs_map xs fun z hz => hx z (List.mem_cons_of_mem _ hz)⟩
theorem ab_room {R : Room} {cells slots mc ms a b : Nat} (hR : ab_R d (kc + a) (ks + b) R cells slots mc ms) : ab_R d kc ks R (cells + a) (slots + b) mc ms := by
  obtain ⟨h1, h2, h3, h4, h5, h6⟩ := hR
  exact ⟨h1, h2, by omega, by omega, by omega, by omega⟩
theorem ab_new {ci N ix : Nat} (g : Nat) {C : String} {T : u_T} {ty : Nat → FieldType} {fs : List AbV} (ok : ab_ok ci C T N ty) (hfs : (List.range N).map (fun k => ab_df (ty k)) = fs) (hpl : (List.range N).all (fun k => ab_pl (ty k)) = true) (hw1 : Cond.classLink y.1.cls ix C ∈ lw_tbl) (hw2 : Cond.instantiable C N ∈ lw_tbl) (hw3 : Cond.initialized C ∈ lw_tbl) (hd : decode y.2.1 pc = .ok (.new ix, 3))
    (K : ∀ a : Nat, h a = none → ab_T l E y d kc ks (pc + 3) L (vR a :: S) (ab_up h a (kO g ci fs)) Q) : ab_T l E y d (kc + 1) (ks + N) pc L S h Q := by
  intro p e R s m args below meth c H locs cells slots mc ms ls st X hR hP hl hL hS
  obtain ⟨hx9, hb, hml, hown, hr, hlk, hnm, htb, hW, ho, hG⟩ := id X
  obtain ⟨hc, hin, hty, hnn⟩ := ok
  have hKn := (ab_K hG hW).1 ci _ hc
  refine W.newcK hx9 hb hown (ab_word hG hw1 rfl hW args) (ab_word hG hw2 rfl hW args) (ab_word hG hw3 rfl hW args) rfl hd (by have := hR.2.2.1; omega) (by have := hR.2.2.2.1; omega) hKn.2.1 rfl fun H1 kC hkC e1 z1 o1 => ?_
  refine K H.size hP.fresh p e R s m args below meth c H1 locs _ _ mc ms ls _ X (ab_room hR) (hP.push (c1 := kO g ci fs) ?_ z1 o1) hl hL ⟨_, _, rfl, rfl, hS⟩
  refine ⟨_, (List.range N).map (fun k => defaultValue (ty k)), hc, by rw [← hfs]; show ((List.range N).map _).length = N; rw [List.length_map, List.length_range], ?_, ?_⟩
  · rw [← hfs]
    exact ab_vs_map _ fun x hx => ab_dfv (List.all_eq_true.mp hpl x hx)
  · refine (u_born ty (ab_lays hG hin hW args) (fun w h => h) hKn hkC e1 hty).to fun j hj => ?_
    have hj : j < N := hj
    simp [vp_V, hj]
theorem ab_aold {U : State} (hW : E.1.WarmedH U.vm) {cell : Cell} {t : FieldType} (hA : U.isArrayOf cell t) : E.1.isArrayOf cell t := State.isArrayOf_alike hW.alike.symm hA
theorem ab_blank {s0 : State} {ty : FieldType} {N : Nat} {P : Nat → Value → Prop} {a : Nat} {H1 : Heap} {cA : ClassId} {x : Value} (e1 : H1[a]? = some (arrV cA N (fun _ => x))) (hA : s0.isArrayOf (arrV cA N (fun _ => x)) ty) (hN : N ≤ 100000) (hx : ∀ j, P j x) : ab_arr s0 ty N P a H1 := by
  refine ⟨_, e1, hA, ?_, arrV_size _ _ _, by omega, fun j hj => ⟨x, arrV_read _ _ hj, hx j⟩⟩
  intro hh
  cases hh
theorem ab_newI {n : Int} (g N : Nat) (hn : n = (N : Int)) (hN : N ≤ 100000) (hd : decode y.2.1 pc = .ok (.newarray .int, 2)) (hw : Cond.arrayClass .int ∈ lw_tbl)
    (K : ∀ a : Nat, h a = none → ab_T l E y d kc ks (pc + 2) L (vR a :: S) (ab_up h a (kI g N (fun _ => 0))) Q) : ab_T l E y d (kc + 1) (ks + N) pc L (vI n :: S) h Q := by
  intro p e R s m args below meth c H locs cells slots mc ms ls st X hR hP hl hL hS
  obtain ⟨hx9, hb, hml, hown, hr, hlk, hnm, htb, hW, ho, hG⟩ := id X
  obtain ⟨_, rst, rfl, ⟨v, rfl, hv⟩, hS⟩ := hS
  have e0 := ab_nat (v := v) (by omega)
  have eN : v.toNatClampNeg = N := by omega
  refine W.newa (atype := .int) hx9 hb (ab_word hG hw rfl hW args) rfl hd rfl (fun g => by have := Int32.lt_iff_toInt_lt.mp g; rw [Int32.toInt_zero] at this; omega) (by show _ * 4 ≤ 536870912; omega) (by have := hR.2.2.1; omega) (by rw [eN]; have := hR.2.2.2.1; omega) fun cA kA9 comp h1 h2 h3 => ?_
  rw [eN]
  obtain ⟨k', hk', hke⟩ := hW.alike.symm.2.2 _ _ h2
  have hfc : E.1.vm.findClass "[I" = some cA := by rw [← hW.alike.findClass]; exact h1
  have e1 : (H.push ({ cls := cA, slots := Array.replicate N (defaultValue (newarray.typeOf .int)), vm := .none } : Cell))[H.size]? = some (arrV cA N (fun _ => .int 0)) := by rw [← arrV_new]; simp; exact Or.inr rfl
  refine K H.size hP.fresh p e R s m args below meth c _ locs _ _ mc ms ls _ X (ab_room hR) (hP.push (c1 := kI g N (fun _ => 0)) ?_ (by simp) (fun q hq => by rw [Array.getElem?_push, if_neg (Nat.ne_of_lt hq)])) hl hL ⟨_, _, rfl, rfl, hS⟩
  have hA9 : E.1.isArrayOf (arrV cA N (fun _ => .int 0)) .int := ⟨fun q hq => (by cases hq), k', hk', comp, by rw [hke]; exact h3⟩
  exact ⟨(ab_blank (P := ab_i32 (fun _ => 0)) e1 hA9 hN (fun _ => ⟨0, rfl, rfl⟩)).I, fun _ => ⟨_, e1, hfc⟩⟩
theorem ab_newJ {n : Int} (g N : Nat) (hn : n = (N : Int)) (hN : N ≤ 100000) (hd : decode y.2.1 pc = .ok (.newarray .long, 2)) (hw : Cond.arrayClass .long ∈ lw_tbl)
    (K : ∀ a : Nat, h a = none → ab_T l E y d kc ks (pc + 2) L (vR a :: S) (ab_up h a (kJ g N (fun _ => 0))) Q) : ab_T l E y d (kc + 1) (ks + N) pc L (vI n :: S) h Q := by
  intro p e R s m args below meth c H locs cells slots mc ms ls st X hR hP hl hL hS
  obtain ⟨hx9, hb, hml, hown, hr, hlk, hnm, htb, hW, ho, hG⟩ := id X
  obtain ⟨_, rst, rfl, ⟨v, rfl, hv⟩, hS⟩ := hS
  have e0 := ab_nat (v := v) (by omega)
  refine W.newaK (atype := .long) (N := N) hx9 hb (ab_word hG hw rfl hW args) rfl hd rfl (fun g => by have := Int32.lt_iff_toInt_lt.mp g; rw [Int32.toInt_zero] at this; omega) (by omega) (by show N * 8 ≤ 536870912; omega) (by have := hR.2.2.1; omega) (by have := hR.2.2.2.1; omega) rfl fun H1 cA e1 z1 o1 hA => ?_
  refine K H.size hP.fresh p e R s m args below meth c H1 locs _ _ mc ms ls _ X (ab_room hR) (hP.push (c1 := kJ g N (fun _ => 0)) ?_ z1 o1) hl hL ⟨_, _, rfl, rfl, hS⟩
  exact ab_blank e1 (ab_aold hW (hA N _)) hN (fun _ => ⟨0, rfl, rfl⟩)
theorem ab_newZ {n : Int} (g N : Nat) (hn : n = (N : Int)) (hN : N ≤ 100000) (hd : decode y.2.1 pc = .ok (.newarray .boolean, 2)) (hw : Cond.arrayClass .boolean ∈ lw_tbl)
    (K : ∀ a : Nat, h a = none → ab_T l E y d kc ks (pc + 2) L (vR a :: S) (ab_up h a (kZ g N (fun _ => 0))) Q) : ab_T l E y d (kc + 1) (ks + N) pc L (vI n :: S) h Q := by
  intro p e R s m args below meth c H locs cells slots mc ms ls st X hR hP hl hL hS
  obtain ⟨hx9, hb, hml, hown, hr, hlk, hnm, htb, hW, ho, hG⟩ := id X
  obtain ⟨_, rst, rfl, ⟨v, rfl, hv⟩, hS⟩ := hS
  have e0 := ab_nat (v := v) (by omega)
  refine W.newaK (atype := .boolean) (N := N) hx9 hb (ab_word hG hw rfl hW args) rfl hd rfl (fun g => by have := Int32.lt_iff_toInt_lt.mp g; rw [Int32.toInt_zero] at this; omega) (by omega) (by show N * 1 ≤ 536870912; omega) (by have := hR.2.2.1; omega) (by have := hR.2.2.2.1; omega) rfl fun H1 cA e1 z1 o1 hA => ?_
  refine K H.size hP.fresh p e R s m args below meth c H1 locs _ _ mc ms ls _ X (ab_room hR) (hP.push (c1 := kZ g N (fun _ => 0)) ?_ z1 o1) hl hL ⟨_, _, rfl, rfl, hS⟩
  exact ab_blank e1 (ab_aold hW (hA N _)) hN (fun _ => ⟨0, rfl, rfl⟩)
theorem ab_newA {n : Int} {ix : Nat} {C : String} (g N : Nat) (hn : n = (N : Int)) (hN : N ≤ 100000) (hd : decode y.2.1 pc = .ok (.anewarray ix, 3)) (hw1 : Cond.classLink y.1.cls ix C ∈ lw_tbl) (hw2 : Cond.arrayOver (.object C) ∈ lw_tbl) (hg : goodWord (Cond.arrayOver (.object C)) = true)
    (K : ∀ a : Nat, h a = none → ab_T l E y d kc ks (pc + 3) L (vR a :: S) (ab_up h a (kA g C N (fun _ => none))) Q) : ab_T l E y d (kc + 1) (ks + N) pc L (vI n :: S) h Q := by
  intro p e R s m args below meth c H locs cells slots mc ms ls st X hR hP hl hL hS
  obtain ⟨hx9, hb, hml, hown, hr, hlk, hnm, htb, hW, ho, hG⟩ := id X
  obtain ⟨_, rst, rfl, ⟨v, rfl, hv⟩, hS⟩ := hS
  have e0 := ab_nat (v := v) (by omega)
  have eN : v.toNatClampNeg = N := by omega
  refine W.anew hx9 hb hown (ab_word hG hw1 rfl hW args) (ab_word hG hw2 hg hW args) rfl hd rfl (fun g => by have := Int32.lt_iff_toInt_lt.mp g; rw [Int32.toInt_zero] at this; omega) (by rw [eN]; omega) (by have := hR.2.2.1; omega) (by rw [eN]; have := hR.2.2.2.1; omega) fun cA kA9 comp k1 k2 k3 k4 => ?_
  rw [eN]
  obtain ⟨k', hk', hke⟩ := hW.alike.symm.2.2 _ _ k2
  have hcmp : E.1.vm.findClass C = some comp := by rw [← hW.alike.findClass]; exact k4
  refine K H.size hP.fresh p e R s m args below meth c _ locs _ _ mc ms ls _ X (ab_room hR) (hP.push (c1 := kA g C N (fun _ => none)) ?_ (by simp) (fun q hq => by rw [Array.getElem?_push, if_neg (Nat.ne_of_lt hq)])) hl hL ⟨_, _, rfl, rfl, hS⟩
  have e1 : (H.push ({ cls := cA, slots := Array.replicate N .null, vm := .none } : Cell))[H.size]? = some (arrV cA N (fun _ => .null)) := by rw [← arrV_new]; simp
  have hA9 : E.1.isArrayOf (arrV cA N (fun _ => .null)) (.object C) := ⟨fun q hq => (by cases hq), k', hk', comp, by rw [hke]; exact k3⟩
  exact ⟨ab_blank e1 hA9 hN (fun _ => rfl), _, k', comp, e1, hk', by rw [hke]; exact k3, hcmp⟩
/-! ends -/
theorem ab_end {p : Program} {e : Env} {R : Room} {s : State} {m : MethodId} {args : Array Value} {below : List Frame} {meth : Method} {c : Code} {H : Heap} {locs : List Loc} {cells slots mc ms : Nat} {g : JFrame} (hR : ab_R d kc ks R cells slots mc ms) (k : W p l e R s m args below meth c H locs mc ms (MQ below (ab_Q E Q) args s mc ms (ab_A E)) g) : W p l e R s m args below meth c H locs cells slots (vx_MQ below (ab_Q E Q) (ab_QX E Q) args s mc ms (ab_A E)) g :=
  vx_ret (W.widen (by have := hR.2.2.2.2.1; omega) (by have := hR.2.2.2.2.2; omega) k)
theorem ab_ov1 {x : AbV} {w : Value} (hx : ab_v x w) : ab_ov (some x) (some w) := ⟨w, rfl, hx⟩
theorem ab_iret {x : Int} (hd : decode y.2.1 pc = .ok (.ireturn, 1)) (hr9 : y.2.2.1 = some .int) (hq : Q (.inl (some (vI x))) h) : ab_T l E y d kc ks pc L [vI x] h Q := by
  intro p e R s m args below meth c H locs cells slots mc ms ls st X hR hP hl hL hS
  obtain ⟨hx9, hb, hml, hown, hr, hlk, hnm, htb, hW, ho, hG⟩ := id X
  obtain ⟨_, _, rfl, ⟨v, rfl, hv⟩, rfl⟩ := hS
  exact ab_end hR (W.iret hx9 hb (hr.trans hr9) (fun t ht _ => ⟨_, _, h, rfl, ab_ov1 (x := vI x) ⟨v, rfl, hv⟩, by rw [ht]; exact hP, hq⟩) hl hd hlk)
theorem ab_zret {x : Int} (hd : decode y.2.1 pc = .ok (.ireturn, 1)) (hr9 : y.2.2.1 = some .boolean) (hx : x = 0 ∨ x = 1) (hq : Q (.inl (some (vI x))) h) : ab_T l E y d kc ks pc L [vI x] h Q := by
  intro p e R s m args below meth c H locs cells slots mc ms ls st X hR hP hl hL hS
  obtain ⟨hx9, hb, hml, hown, hr, hlk, hnm, htb, hW, ho, hG⟩ := id X
  obtain ⟨_, _, rfl, ⟨v, rfl, hv⟩, rfl⟩ := hS
  exact ab_end hR (W.zret hx9 hb (hr.trans hr9) (ab_fits (t := .boolean) (x := vI x) hx ⟨v, rfl, hv⟩).1 (fun t ht _ => ⟨_, _, h, rfl, ab_ov1 (x := vI x) ⟨v, rfl, hv⟩, by rw [ht]; exact hP, hq⟩) hl hd hlk)
theorem ab_lret {x : Int} (hd : decode y.2.1 pc = .ok (.lreturn, 1)) (hr9 : y.2.2.1 = some .long) (hq : Q (.inl (some (vL x))) h) : ab_T l E y d kc ks pc L [vL x] h Q := by
  intro p e R s m args below meth c H locs cells slots mc ms ls st X hR hP hl hL hS
  obtain ⟨hx9, hb, hml, hown, hr, hlk, hnm, htb, hW, ho, hG⟩ := id X
  obtain ⟨_, _, rfl, ⟨v, rfl, hv⟩, rfl⟩ := hS
  exact ab_end hR (W.lret hx9 hb (hr.trans hr9) (fun t ht _ => ⟨_, _, h, rfl, ab_ov1 (x := vL x) ⟨v, rfl, hv⟩, by rw [ht]; exact hP, hq⟩) hl hd hlk)
theorem ab_vret (hd : decode y.2.1 pc = .ok (.return_, 1)) (hr9 : y.2.2.1 = none) (hq : Q (.inl none) h) : ab_T l E y d kc ks pc L [] h Q := by
  intro p e R s m args below meth c H locs cells slots mc ms ls st X hR hP hl hL hS
  obtain ⟨hx9, hb, hml, hown, hr, hlk, hnm, htb, hW, ho, hG⟩ := id X
  rw [show st = [] from hS]
  exact ab_end hR (W.vret hx9 hb (hr.trans hr9) (fun t ht _ => ⟨_, none, h, rfl, rfl, by rw [ht]; exact hP, hq⟩) hl hd hlk)
theorem ab_aret {r : Option Nat} {rt : FieldType} (hd : decode y.2.1 pc = .ok (.areturn, 1)) (hr9 : y.2.2.1 = some rt) (hrt : (∃ n, rt = .object n) ∨ ∃ t, rt = .array t) (hq : Q (.inl (some (vO r))) h) : ab_T l E y d kc ks pc L [vO r] h Q := by
  intro p e R s m args below meth c H locs cells slots mc ms ls st X hR hP hl hL hS
  obtain ⟨hx9, hb, hml, hown, hr, hlk, hnm, htb, hW, ho, hG⟩ := id X
  obtain ⟨w, _, rfl, hv, rfl⟩ := hS
  have hv' : w = va_rf r := hv
  subst hv'
  exact ab_end hR (W.aret hx9 hb (hr.trans hr9) hrt (by cases r; exact Or.inl rfl; exact Or.inr ⟨_, rfl⟩) (fun t ht _ => ⟨_, some (vO r), h, rfl, ⟨_, rfl, rfl⟩, by rw [ht]; exact hP, hq⟩) hl hd hlk)
/-! throws -/
theorem ab_wordF {w : Cond} (hG : ab_G l E) (hw : w ∈ lw_tbl) (ht : w.onTables = true) (hk : w.keepsFace = true) {U : State} (hW : E.1.WarmedH U.vm) (a : Array Value) : w.before a U = true := va_tabs ht (rfl : (E.1.setVm U.vm).vm = U.vm) (Cond.before_shiftedFace (State.Shifted.of_warmed hW) w hk (hG.2.1 w hw))
theorem ab_str {own tx : String} {k : Nat} {A : Array Value} {U : State} (h1 : (Cond.stringRef own k tx).before A U = true) : ∃ a, vk_R own k tx a U := by
  have h2 : (Cond.stringRef own k tx).before #[] U = true := by
    simp only [Cond.before, Cond.holds, Cond.value] at h1 ⊢
    exact h1
  have h3 := h2
  simp only [Cond.before, Cond.holds, Cond.value, beq_iff_eq, Option.map_eq_some_iff, Bool.and_eq_true] at h3
  obtain ⟨c, hc, -, h4⟩ := h3
  cases hr : U.resolvedAt? own k with
  | none => simp [hr] at h4
  | some z =>
    rw [hr] at h4
    cases z with
    | string a =>
      refine ⟨a, h2, ?_⟩
      simp only [State.resolvedAt?, hc, Option.bind_eq_bind, Option.bind_some, Option.bind_eq_some_iff] at hr
      obtain ⟨kk, hk, hj⟩ := hr
      simp [Term.eval, hc, hk, hj]
    | _ => simp at h4
def ab_ups : List String := ["java/lang/RuntimeException", "java/lang/Exception"]
/-- the words of a throw out of a class: its words stand in the tables, and stay -/
def ab_tw (own : String) (ik ic : Nat) (cls : String) : Prop := Bundle.fit cls = true ∧ (∀ w ∈ Cond.classLink own ik cls :: Cond.initialized cls :: vx_atS own ic cls ab_ups, w ∈ lw_tbl ∧ w.onTables = true ∧ w.keepsFace = true)
theorem ab_frm {s : State} {H : Heap} {locs : List Loc} (ho : ab_old E s.heap) (hP : ab_P E h H) (hl : ∀ z ∈ locs, ab_A E z.base) (hz : s.heap.size ≤ H.size) : va_S (ab_A E) s.heap H locs := ⟨hz, fun q h1 h2 => by
  have h3 : q < E.1.heap.size := Nat.lt_of_not_le h2
  rw [hP.1.2 q h3, ho.2 q h3], hl⟩
theorem ab_throw {ik is ic : Nat} {cls text : String} (tw : ab_tw y.1.cls ik ic cls) (hs : Cond.stringRef y.1.cls is text ∈ lw_tbl) (hd9 : 6 ≤ d) (hS9 : (S.map ab_w).sum ≤ 8) (hh : y.2.2.2 = [])
    (d0 : decode y.2.1 pc = .ok (.new ik, 3)) (d3 : decode y.2.1 (pc + 3) = .ok (.dup, 1)) (d4 : decode y.2.1 (pc + 4) = .ok (.ldc is, 2)) (d6 : decode y.2.1 (pc + 6) = .ok (.invokespecial ic, 3)) (d9 : decode y.2.1 (pc + 9) = .ok (.athrow, 1)) (hq : Q (.inr cls) h) : ab_T l E y d (kc + 1) (ks + 6) pc L S h Q := by
  intro p e R s m args below meth c H locs cells slots mc ms ls st X hR hP hl hL hS T hT XX
  obtain ⟨hx9, hb, hml, hown, hr, hlk, hnm, htb, hW, ho, hG⟩ := id X
  have hz : s.heap.size ≤ H.size := by rw [← hT]; exact XX.same.2.1
  obtain ⟨sa, hsa⟩ := ab_str (hG.2.1 _ hs)
  have hU := (hG.2.2.2.1.moved hW.alike).kept (H1 := s.heap) (fun a h1 _ => ho.2 a h1)
  have hN := (hG.2.2.2.2.1.moved hW.alike).kept (H1 := s.heap) (fun a h1 _ => ho.2 a h1)
  have wd := fun w hw => ab_wordF hG (tw.2 w hw).1 (tw.2 w hw).2.1 (tw.2 w hw).2.2 hW args
  have hst : ∀ {xs : List AbV} {ws : List Value}, ab_vs xs ws → (ws.map fun v => v.category).sum = (xs.map ab_w).sum := by
    intro xs
    induction xs with
    | nil => intro ws hv; rw [show ws = [] from hv]; rfl
    | cons x xs ih =>
      rintro ws ⟨w, r, rfl, hw, hv⟩
      simp only [List.map_cons, List.sum_cons, ab_cat hw, ih hv]
  refine vx_throwS (names := ab_ups) (A := ab_A E) hx9 hb hG.1 hown tw.1 (by decide +kernel) (wd _ List.mem_cons_self) (wd _ (List.mem_cons_of_mem _ List.mem_cons_self)) (vk_R.warm hW hsa) (fun w hw => wd w (List.mem_cons_of_mem _ (List.mem_cons_of_mem _ hw)))
    (fun w hw => by simp only [vx_ot, Bool.or_eq_true]; exact Or.inl (tw.2 w hw).2.1) hU hN (ab_frm ho hP hl hz) (hL.1.trans hml.symm) d0 d3 d4 d6 d9 (by rw [htb, hh]; intro x hx; cases hx)
    (by have := hR.1; show 2 + 3 < R.frames; omega) (by rw [hst hS]; have := hR.2.1; show _ + (13 * (2 + 1) + 43) ≤ R.locals; omega) (by have := hR.2.2.1; omega) (by have := hR.2.2.2.1; omega) hlk ?_ hl (by have := hR.2.2.2.2.1; omega) (by have := hR.2.2.2.2.2; omega) T hT XX
  intro t _ h1 h2
  refine ⟨h, ⟨⟨Nat.le_trans hP.1.1 h1, fun q hq => by rw [h2 q (Nat.lt_of_lt_of_le hq hP.1.1)]; exact hP.1.2 q hq⟩, fun a c9 hc => ⟨(hP.2 a c9 hc).1.kept (h2 a (hP.2 a c9 hc).1.lt), (hP.2 a c9 hc).2⟩⟩, hq⟩
theorem ab_throwW {ik is ic : Nat} {cls text : String} (tw : ab_tw y.1.cls ik ic cls) (hs : Cond.stringRef y.1.cls is text ∈ lw_tbl) (hd9 : 6 ≤ d) (hS9 : (S.map ab_w).sum ≤ 8) (hh : y.2.2.2 = [])
    (d0 : decode y.2.1 pc = .ok (.new ik, 3)) (d3 : decode y.2.1 (pc + 3) = .ok (.dup, 1)) (d4 : decode y.2.1 (pc + 4) = .ok (.ldc_w is, 3)) (d6 : decode y.2.1 (pc + 7) = .ok (.invokespecial ic, 3)) (d9 : decode y.2.1 (pc + 10) = .ok (.athrow, 1)) (hq : Q (.inr cls) h) : ab_T l E y d (kc + 1) (ks + 6) pc L S h Q := by
  intro p e R s m args below meth c H locs cells slots mc ms ls st X hR hP hl hL hS T hT XX
  obtain ⟨hx9, hb, hml, hown, hr, hlk, hnm, htb, hW, ho, hG⟩ := id X
  have hz : s.heap.size ≤ H.size := by rw [← hT]; exact XX.same.2.1
  obtain ⟨sa, hsa⟩ := ab_str (hG.2.1 _ hs)
  have hU := (hG.2.2.2.1.moved hW.alike).kept (H1 := s.heap) (fun a h1 _ => ho.2 a h1)
  have hN := (hG.2.2.2.2.1.moved hW.alike).kept (H1 := s.heap) (fun a h1 _ => ho.2 a h1)
  have wd := fun w hw => ab_wordF hG (tw.2 w hw).1 (tw.2 w hw).2.1 (tw.2 w hw).2.2 hW args
  have hst : ∀ {xs : List AbV} {ws : List Value}, ab_vs xs ws → (ws.map fun v => v.category).sum = (xs.map ab_w).sum := by
    intro xs
    induction xs with
    | nil => intro ws hv; rw [show ws = [] from hv]; rfl
    | cons x xs ih =>
      rintro ws ⟨w, r, rfl, hw, hv⟩
      simp only [List.map_cons, List.sum_cons, ab_cat hw, ih hv]
  refine vx_throwSW (names := ab_ups) (A := ab_A E) hx9 hb hG.1 hown tw.1 (by decide +kernel) (wd _ List.mem_cons_self) (wd _ (List.mem_cons_of_mem _ List.mem_cons_self)) (vk_R.warm hW hsa) (fun w hw => wd w (List.mem_cons_of_mem _ (List.mem_cons_of_mem _ hw)))
    (fun w hw => by simp only [vx_ot, Bool.or_eq_true]; exact Or.inl (tw.2 w hw).2.1) hU hN (ab_frm ho hP hl hz) (hL.1.trans hml.symm) d0 d3 d4 d6 d9 (by rw [htb, hh]; intro x hx; cases hx)
    (by have := hR.1; show 2 + 3 < R.frames; omega) (by rw [hst hS]; have := hR.2.1; show _ + (13 * (2 + 1) + 43) ≤ R.locals; omega) (by have := hR.2.2.1; omega) (by have := hR.2.2.2.1; omega) hlk ?_ hl (by have := hR.2.2.2.2.1; omega) (by have := hR.2.2.2.2.2; omega) T hT XX
  intro t _ h1 h2
  refine ⟨h, ⟨⟨Nat.le_trans hP.1.1 h1, fun q hq => by rw [h2 q (Nat.lt_of_lt_of_le hq hP.1.1)]; exact hP.1.2 q hq⟩, fun a c9 hc => ⟨(hP.2 a c9 hc).1.kept (h2 a (hP.2 a c9 hc).1.lt), (hP.2 a c9 hc).2⟩⟩, hq⟩
end ABN
