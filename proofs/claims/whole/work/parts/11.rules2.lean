/-! rows over the heap -/
section ABH
theorem ab_f_eq {α : Type} {f : Int → α} {i j : Int} {x : α} (h : j = i) : ab_f f i x j = x := if_pos h
theorem ab_f_ne {α : Type} {f : Int → α} {i j : Int} {x : α} (h : ¬ j = i) : ab_f f i x j = f j := if_neg h
theorem ab_c.kept {E : AbE} {a : Nat} {c : AbC} {H H1 : Heap} (hc : ab_c E a c H) (hq : H1[a]? = H[a]?) : ab_c E a c H1 := by
  obtain ⟨g, o | q | q | q | q⟩ := c
  · obtain ⟨r, ws, h1, h2, h3, h4⟩ := hc
    exact ⟨r, ws, h1, h2, h3, h4.kept hq⟩
  · obtain ⟨⟨cell, h1, h2⟩, h3⟩ := hc
    exact ⟨⟨cell, by rw [hq]; exact h1, h2⟩, fun g9 => by obtain ⟨c2, e1, e2⟩ := h3 g9; exact ⟨c2, by rw [hq]; exact e1, e2⟩⟩
  · obtain ⟨cell, h1, h2⟩ := hc
    exact ⟨cell, by rw [hq]; exact h1, h2⟩
  · obtain ⟨cell, h1, h2⟩ := hc
    exact ⟨cell, by rw [hq]; exact h1, h2⟩
  · obtain ⟨⟨cell, h1, h2⟩, cell2, k, cm, h3, h4⟩ := hc
    exact ⟨⟨cell, by rw [hq]; exact h1, h2⟩, cell2, k, cm, by rw [hq]; exact h3, h4⟩
theorem ab_c.lt {E : AbE} {a : Nat} {c : AbC} {H : Heap} (hc : ab_c E a c H) : a < H.size := by
  obtain ⟨g, o | q | q | q | q⟩ := c
  · obtain ⟨r, ws, h1, h2, h3, cell, h4, -⟩ := hc
    exact (Array.getElem?_eq_some_iff.mp h4).1
  · obtain ⟨⟨cell, h1, h2⟩, -⟩ := hc
    exact (Array.getElem?_eq_some_iff.mp h1).1
  · obtain ⟨cell, h1, h2⟩ := hc
    exact (Array.getElem?_eq_some_iff.mp h1).1
  · obtain ⟨cell, h1, h2⟩ := hc
    exact (Array.getElem?_eq_some_iff.mp h1).1
  · obtain ⟨⟨cell, h1, h2⟩, -⟩ := hc
    exact (Array.getElem?_eq_some_iff.mp h1).1
theorem ab_P.set {E : AbE} {h : AbH} {H H1 : Heap} {a : Nat} {c0 c1 : AbC} (hP : ab_P E h H) (ha : h a = some c0) (hg : 2 ≤ c0.1) (he : ab_c E a c1 H1) (hz : H1.size = H.size) (oq : ∀ q : Nat, q ≠ a → H1[q]? = H[q]?) : ab_P E (ab_up h a c1) H1 := by
  have hA := (hP.2 a c0 ha).2 hg
  refine ⟨⟨by rw [hz]; exact hP.1.1, fun q hq => by rw [oq q (by omega)]; exact hP.1.2 q hq⟩, fun q c hc => ?_⟩
  unfold ab_up at hc
  by_cases e : q = a
  · subst e
    rw [if_pos rfl] at hc
    cases hc
    exact ⟨he, fun _ => hA⟩
  · rw [if_neg e] at hc
    exact ⟨(hP.2 q c hc).1.kept (oq q e), (hP.2 q c hc).2⟩
theorem ab_P.push {E : AbE} {h : AbH} {H H1 : Heap} {c1 : AbC} (hP : ab_P E h H) (he : ab_c E H.size c1 H1) (hz : H1.size = H.size + 1) (oq : ∀ q : Nat, q < H.size → H1[q]? = H[q]?) : ab_P E (ab_up h H.size c1) H1 := by
  refine ⟨⟨by rw [hz]; have := hP.1.1; omega, fun q hq => by rw [oq q (Nat.lt_of_lt_of_le hq hP.1.1)]; exact hP.1.2 q hq⟩, fun q c hc => ?_⟩
  unfold ab_up at hc
  by_cases e : q = H.size
  · subst e
    rw [if_pos rfl] at hc
    cases hc
    exact ⟨he, fun _ => hP.1.1⟩
  · rw [if_neg e] at hc
    exact ⟨(hP.2 q c hc).1.kept (oq q (hP.2 q c hc).1.lt), (hP.2 q c hc).2⟩
theorem ab_P.fresh {E : AbE} {h : AbH} {H : Heap} (hP : ab_P E h H) : h H.size = none := by
  cases hc : h H.size with
  | none => rfl
  | some c => exact absurd (hP.2 _ c hc).1.lt (Nat.lt_irrefl _)
theorem ab_vs_len : ∀ {xs : List AbV} {ws : List Value}, ab_vs xs ws → ws.length = xs.length
  | [], ws, hv => by rw [show ws = [] from hv]; rfl
  | x :: xs, ws, ⟨w, r, e, _, hr⟩ => by rw [e, List.length_cons, List.length_cons, ab_vs_len hr]
theorem ab_vs_get : ∀ {xs : List AbV} {ws : List Value} {k : Nat} {x : AbV}, ab_vs xs ws → xs[k]? = some x → ∃ w, ws[k]? = some w ∧ ab_v x w
  | [], ws, k, x, hv, hk => by simp at hk
  | z :: xs, ws, 0, x, ⟨w, r, e, hw, hr⟩, hk => by
    simp at hk
    subst hk
    exact ⟨w, by rw [e]; rfl, hw⟩
  | z :: xs, ws, k + 1, x, ⟨w, r, e, hw, hr⟩, hk => by
    rw [List.getElem?_cons_succ] at hk
    obtain ⟨u, h1, h2⟩ := ab_vs_get hr hk
    exact ⟨u, by rw [e, List.getElem?_cons_succ]; exact h1, h2⟩
theorem ab_vs_set : ∀ {xs : List AbV} {ws : List Value} {k : Nat} {x : AbV} {w : Value}, ab_vs xs ws → ab_v x w → ab_vs (xs.set k x) (ws.set k w)
  | [], ws, k, x, w, hv, hw => by rw [show ws = [] from hv]; exact rfl
  | z :: xs, ws, 0, x, w, ⟨u, r, e, hu, hr⟩, hw => by rw [e]; exact ⟨w, r, rfl, hw, hr⟩
  | z :: xs, ws, k + 1, x, w, ⟨u, r, e, hu, hr⟩, hw => by rw [e]; exact ⟨u, r.set k w, rfl, hu, ab_vs_set hr hw⟩
theorem ab_vs_app : ∀ {xs zs : List AbV} {ws us : List Value}, ab_vs xs ws → ab_vs zs us → ab_vs (xs ++ zs) (ws ++ us)
  | [], zs, ws, us, hv, hz => by rw [show ws = [] from hv]; exact hz
  | x :: xs, zs, ws, us, ⟨w, r, e, hw, hr⟩, hz => by rw [e]; exact ⟨w, r ++ us, rfl, hw, ab_vs_app hr hz⟩
theorem ab_vs_rev : ∀ {xs : List AbV} {ws : List Value}, ab_vs xs ws → ab_vs xs.reverse ws.reverse
  | [], ws, hv => by rw [show ws = [] from hv]; exact rfl
  | x :: xs, ws, ⟨w, r, e, hw, hr⟩ => by rw [e, List.reverse_cons, List.reverse_cons]; exact ab_vs_app (ab_vs_rev hr) ⟨w, [], rfl, hw, rfl⟩
theorem ab_vs_split : ∀ {xs zs : List AbV} {ws : List Value}, ab_vs (xs ++ zs) ws → ∃ us vs, ws = us ++ vs ∧ ab_vs xs us ∧ ab_vs zs vs
  | [], zs, ws, hv => ⟨[], ws, rfl, rfl, hv⟩
  | x :: xs, zs, ws, ⟨w, r, e, hw, hr⟩ => by
    obtain ⟨us, vs, h1, h2, h3⟩ := ab_vs_split hr
    exact ⟨w :: us, vs, by rw [e, h1]; rfl, ⟨w, us, rfl, hw, h2⟩, h3⟩
/-- a class of ab_cl: its number, its words among the tables', its fields' types and names -/
def ab_ok (ci : Nat) (C : String) (T : u_T) (N : Nat) (ty : Nat → FieldType) : Prop := ab_cl[ci]? = some (C, T, N) ∧ (∀ w ∈ u_ws C T N, w ∈ lw_tbl) ∧ (∀ k, k < N → parseFieldDescriptor (T k).2.2.1 = some (ty k)) ∧ ∀ a, a < N → ∀ b, b < N → a ≠ b → (T a).2.1 ≠ (T b).2.1
theorem ab_lays {l : Launch} {E : AbE} {C : String} {T : u_T} {N : Nat} (hG : ab_G l E) (hin : ∀ w ∈ u_ws C T N, w ∈ lw_tbl) {U : State} (hW : E.1.WarmedH U.vm) (a : Array Value) : ∀ w ∈ u_ws C T N, w.before a U = true := by
  intro w hw
  refine ab_word hG (hin w hw) ?_ hW a
  obtain ⟨k, -, e⟩ := List.mem_map.mp hw
  rw [← e]
  unfold u_lay
  split <;> rfl
def ab_fit (t : FieldType) (x : AbV) : Prop := match t, x with
  | .int, .inl _ => True
  | .boolean, .inl i => i = 0 ∨ i = 1
  | .long, .inr (.inl _) => True
  | .array _, .inr (.inr _) => True
  | .object _, .inr (.inr _) => True
  | _, _ => False
theorem ab_fits {t : FieldType} {x : AbV} {w : Value} (hf : ab_fit t x) (hw : ab_v x w) : narrow t w = w ∧ fits t w = true := by
  cases t with
  | int =>
    rcases x with i | i | r
    · obtain ⟨v, rfl, -⟩ := hw
      exact ⟨rfl, rfl⟩
    · cases hf
    · cases hf
  | boolean =>
    rcases x with i | i | r
    · obtain ⟨v, rfl, hv⟩ := hw
      rcases (show i = 0 ∨ i = 1 from hf) with e | e
      · rw [e] at hv
        rw [Int32.toInt_inj.mp (show v.toInt = (0 : Int32).toInt from hv)]
        exact ⟨by decide +kernel, by decide +kernel⟩
      · rw [e] at hv
        rw [Int32.toInt_inj.mp (show v.toInt = (1 : Int32).toInt from hv)]
        exact ⟨by decide +kernel, by decide +kernel⟩
    · cases hf
    · cases hf
  | long =>
    rcases x with i | i | r
    · cases hf
    · obtain ⟨v, rfl, -⟩ := hw
      exact ⟨rfl, rfl⟩
    · cases hf
  | array t0 =>
    rcases x with i | i | r
    · cases hf
    · cases hf
    · cases r <;> (rw [show w = _ from hw]; exact ⟨rfl, rfl⟩)
  | object t0 =>
    rcases x with i | i | r
    · cases hf
    · cases hf
    · cases r <;> (rw [show w = _ from hw]; exact ⟨rfl, rfl⟩)
  | _ => rcases x with i | i | r <;> cases hf
variable {l : Launch} {E : AbE} {y : AbY} {d kc ks pc : Nat} {L : List (Option AbV)} {S : List AbV} {h : AbH} {Q : AbO → AbH → Prop}
theorem ab_get {ci N k ix g a : Nat} {C : String} {T : u_T} {ty : Nat → FieldType} {fs : List AbV} {x : AbV} (ok : ab_ok ci C T N ty) (ha : h a = some (kO g ci fs)) (hx : fs[k]? = some x) (hw : Cond.fieldLink y.1.cls ix C (T k).2.1 (T k).2.2.1 ∈ lw_tbl) (ht : (T k).1 = C) (hd : decode y.2.1 pc = .ok (.getfield ix, 3))
    (K : ab_T l E y d kc ks (pc + 3) L (x :: S) h Q) : ab_T l E y d kc ks pc L (vR a :: S) h Q := by
  intro p e R s m args below meth c H locs cells slots mc ms ls st X hR hP hl hL hS
  obtain ⟨hx9, hb, hml, hown, hr, hlk, hnm, htb, hW, ho, hG⟩ := id X
  obtain ⟨w, rst, rfl, hwv, hS⟩ := hS
  cases (show w = .ref a from hwv)
  obtain ⟨hc, hin, hty, hnn⟩ := ok
  obtain ⟨r, ws, h1, h2, h3, cell, q1, q2, q3, q4⟩ := (hP.2 a _ ha).1
  cases Option.some.inj (h1.symm.trans hc)
  have hk : k < N := Nat.lt_of_lt_of_eq (List.getElem?_eq_some_iff.mp hx).1 h2
  obtain ⟨u, hu, huv⟩ := ab_vs_get h3 hx
  obtain ⟨hSl, hfc, kC, hkC, hkind⟩ := (ab_K hG hW).1 ci _ hc
  obtain ⟨cf, kf, fi, f, hi, hsl⟩ := hSl k hk
  have hla := u_lays (k := k) (ab_lays hG hin hW args) (fun w h => h) hk
  refine W.getf hx9 hb hown (ab_word hG hw rfl hW args) (by rw [← ht]; exact hi) (u_facts hfc hkC hla hi).1 q1 (by rw [q3]; exact fun h => by cases h) (v := u) ?_ rfl rfl hd (K p e R s m args below meth c H locs cells slots mc ms ls _ X hR hP hl hL ⟨_, _, rfl, huv, hS⟩)
  rw [hsl, q4 k hk]
  simp [vp_V, hu]
theorem ab_getN {ci N k ix g a : Nat} {C host : String} {T : u_T} {ty : Nat → FieldType} {fs : List AbV} {x : AbV} (ok : ab_ok ci C T N ty) (ha : h a = some (kO g ci fs)) (hx : fs[k]? = some x) (hw : Cond.fieldLinkNest y.1.cls ix C (T k).2.1 (T k).2.2.1 host ∈ lw_tbl) (ht : (T k).1 = C) (hd : decode y.2.1 pc = .ok (.getfield ix, 3))
    (K : ab_T l E y d kc ks (pc + 3) L (x :: S) h Q) : ab_T l E y d kc ks pc L (vR a :: S) h Q := by
  intro p e R s m args below meth c H locs cells slots mc ms ls st X hR hP hl hL hS
  obtain ⟨hx9, hb, hml, hown, hr, hlk, hnm, htb, hW, ho, hG⟩ := id X
  obtain ⟨w, rst, rfl, hwv, hS⟩ := hS
  cases (show w = .ref a from hwv)
  obtain ⟨hc, hin, hty, hnn⟩ := ok
  obtain ⟨r, ws, h1, h2, h3, cell, q1, q2, q3, q4⟩ := (hP.2 a _ ha).1
  cases Option.some.inj (h1.symm.trans hc)
  have hk : k < N := Nat.lt_of_lt_of_eq (List.getElem?_eq_some_iff.mp hx).1 h2
  obtain ⟨u, hu, huv⟩ := ab_vs_get h3 hx
  obtain ⟨hSl, hfc, kC, hkC, hkind⟩ := (ab_K hG hW).1 ci _ hc
  obtain ⟨cf, kf, fi, f, hi, hsl⟩ := hSl k hk
  have hla := u_lays (k := k) (ab_lays hG hin hW args) (fun w h => h) hk
  refine va_Wgetf hx9 hb hown (va_Nw.use rfl (va_Nw.warmF hW (ab_nw hG hw rfl))) (by rw [← ht]; exact hi) (u_facts hfc hkC hla hi).1 q1 (by rw [q3]; exact fun h => by cases h) (v := u) ?_ rfl rfl hd (K p e R s m args below meth c H locs cells slots mc ms ls _ X hR hP hl hL ⟨_, _, rfl, huv, hS⟩)
  rw [hsl, q4 k hk]
  simp [vp_V, hu]
theorem ab_apart {C : String} {T : u_T} {N ci : Nat} {ty : Nat → FieldType} (ok : ab_ok ci C T N ty) (hG : ab_G l E) {U : State} (hW : E.1.WarmedH U.vm) : ∀ x z, x < N → z < N → x ≠ z → E.2.2.2 ci x ≠ E.2.2.2 ci z := by
  obtain ⟨hc, hin, hty, hnn⟩ := ok
  intro x z hx hz hne
  obtain ⟨hS, -⟩ := (ab_K hG hW).1 ci _ hc
  obtain ⟨_, _, _, fa, hia, ea⟩ := hS x hx
  obtain ⟨_, _, _, fb, hib, eb⟩ := hS z hz
  show (E.2.2.1, E.2.2.2).2 ci x ≠ (E.2.2.1, E.2.2.2).2 ci z
  rw [← ea, ← eb]
  refine u_apart (u_lays (ab_lays hG hin hW #[]) (fun w h => h) hx) (u_lays (ab_lays hG hin hW #[]) (fun w h => h) hz) hia hib ?_
  rw [(State.fieldFound?_type hia (hty x hx)).1, (State.fieldFound?_type hib (hty z hz)).1]
  exact hnn x hx z hz hne
theorem ab_put {ci N k ix g a : Nat} {C : String} {T : u_T} {ty : Nat → FieldType} {fs : List AbV} {x : AbV} (ok : ab_ok ci C T N ty) (ha : h a = some (kO g ci fs)) (hg : 2 ≤ g) (hk : k < N) (hf : ab_fit (ty k) x) (hw : Cond.fieldLink y.1.cls ix C (T k).2.1 (T k).2.2.1 ∈ lw_tbl) (ht : (T k).1 = C) (hfin : (T k).2.2.2 = false ∨ ((T k).2.2.2 = true ∧ y.1.name = "<init>" ∧ C = y.1.cls)) (hd : decode y.2.1 pc = .ok (.putfield ix, 3))
    (K : ab_T l E y d kc ks (pc + 3) L S (ab_up h a (kO g ci (fs.set k x))) Q) : ab_T l E y d kc ks pc L (x :: vR a :: S) h Q := by
  intro p e R s m args below meth c H locs cells slots mc ms ls st X hR hP hl hL hS
  obtain ⟨hx9, hb, hml, hown, hr, hlk, hnm, htb, hW, ho, hG⟩ := id X
  obtain ⟨v, rst0, rfl, hv, w, rst, rfl, hwv, hS⟩ := hS
  cases (show w = .ref a from hwv)
  have hap := ab_apart ok hG hW
  obtain ⟨hc, hin, hty, hnn⟩ := ok
  obtain ⟨r, ws, h1, h2, h3, cell, q1, q2, q3, q4⟩ := (hP.2 a _ ha).1
  cases Option.some.inj (h1.symm.trans hc)
  obtain ⟨hSl, hfc, kC, hkC, hkind⟩ := (ab_K hG hW).1 ci _ hc
  obtain ⟨cf, kf, fi, f, hi, hsl⟩ := hSl k hk
  have hts := ab_lays hG hin hW args
  have hla := u_lays (k := k) hts (fun w h => h) hk
  have hst := (u_facts hfc hkC hla hi).1
  obtain ⟨n1, n2⟩ := ab_fits hf hv
  have hi' : s.fieldFound? C (T k).2.1 (T k).2.2.1 = some (cf, kf, fi, f) := by rw [← ht]; exact hi
  have hlen : k < ws.length := by rw [ab_vs_len h3, h2]; exact hk
  have fin : ∀ H' : Heap, H'[a]? = some (cell.setSlot f.slot v) → H'.size = H.size → (∀ q, q ≠ a → H'[q]? = H[q]?) → W p l e R s m args below meth c H' (locs ++ [⟨a, f.slot⟩]) cells slots (vx_MQ below (ab_Q E Q) (ab_QX E Q) args s mc ms (ab_A E)) (F0 m (pc + 3) ls rst) := by
    intro H' e1 e2 e3
    rw [hsl] at e1
    refine K p e R s m args below meth c H' _ cells slots mc ms ls _ X hR (hP.set ha hg (c1 := kO g ci (fs.set k x)) ?_ e2 e3) ?_ hL hS
    · exact ⟨_, ws.set k v, hc, by rw [List.length_set]; exact h2, ab_vs_set h3 hv, t_OB.to (V := updV (vp_V ws) k v) ⟨_, e1, q2, q3, t_set q4 hap hk v⟩ (fun j _ => vp_updV_set hlen v j)⟩
    · intro z hz
      rcases List.mem_append.mp hz with g1 | g1
      · exact hl z g1
      · rw [List.mem_singleton.mp g1]
        exact (hP.2 a _ ha).2 hg
  have hlay := hts _ (u_in_lay hk)
  unfold u_lay at hlay
  rcases hfin with hfin | ⟨hfin, hini, hdecl⟩
  · rw [if_neg (by rw [hfin]; decide)] at hlay
    have h6 := u_store hfc hkC hkind hlay hi (hty k hk) n1 n2
    exact W.putK hx9 hb (f := f) ⟨hown, ab_word hG hw rfl hW args, ⟨_, _, _, hi'⟩, hst⟩ (by rw [q2]; exact h6) q1 q3 (by rw [hsl]; exact k2_hasslot (q4 k hk)) rfl rfl hd fin
  · rw [if_pos hfin] at hlay
    have hcf : m.cls = cf := by
      obtain ⟨_, _, c', _, _, _, -, -, hf', -, -, -, hown2, -⟩ := Cond.laysFinal_spec hlay
      have e1 : c' = cf := by have := hi.symm.trans hf'; simp at this; exact this.1.symm
      rw [ht, hdecl] at hown2
      rw [← e1]; exact Option.some.inj (hown.symm.trans hown2)
    have h6 := u_fits hfc hkC hkind (Or.inr hlay) hi (hty k hk) n1 n2
    exact W.putFinK hx9 hb hown (ab_word hG hw rfl hW args) hi' hst hcf (hnm.trans hini) (by rw [q2]; exact h6) q1 q3 (by rw [hsl]; exact k2_hasslot (q4 k hk)) rfl rfl hd fin
/-! rows: reading -/
theorem ab_in {v : Int32} {i : Int} {n : Nat} {cell : Cell} (hv : v.toInt = i) (h0 : 0 ≤ i) (h1 : i < n) (hn : cell.slots.size = n) : ¬ (v < 0 ∨ cell.slots.size ≤ v.toNatClampNeg) := by
  have e := ab_nat (v := v) (by omega)
  rintro (g | g)
  · have := Int32.lt_iff_toInt_lt.mp g
    rw [Int32.toInt_zero] at this
    omega
  · omega
theorem ab_ald {v : Int32} {i : Int} {n : Nat} {cell : Cell} {P : Nat → Value → Prop} (hv : v.toInt = i) (h0 : 0 ≤ i) (h1 : i < n) (hj : ∀ j : Nat, j < n → ∃ w : Value, cell.slots[j]? = some w ∧ P j w) : ∃ w : Value, cell.slots[v.toNatClampNeg]? = some w ∧ P v.toNatClampNeg w ∧ ((v.toNatClampNeg : Nat) : Int) = i := by
  have e := ab_nat (v := v) (by omega)
  obtain ⟨w, g1, g2⟩ := hj v.toNatClampNeg (by omega)
  exact ⟨w, g1, g2, by omega⟩
theorem ab_inW {v : Int32} {i : Int} {n k : Nat} (hv : v.toInt = i) (h0 : 0 ≤ i) (h1 : i < n) (hk : n ≤ k) : ¬ (v < 0 ∨ k ≤ v.toNatClampNeg) := by
  have e := ab_nat (v := v) (by omega)
  rintro (g | g)
  · have := Int32.lt_iff_toInt_lt.mp g
    rw [Int32.toInt_zero] at this
    omega
  · omega
theorem ab_iald {g a n : Nat} {f : Int → Int} {i : Int} (ha : h a = some (kI g n f)) (h0 : 0 ≤ i) (h1 : i < n) (hd : decode y.2.1 pc = .ok (.iaload, 1)) (K : ab_T l E y d kc ks (pc + 1) L (vI (f i) :: S) h Q) : ab_T l E y d kc ks pc L (vI i :: vR a :: S) h Q := by
  intro p e R s m args below meth c H locs cells slots mc ms ls st X hR hP hl hL hS
  obtain ⟨hx9, hb, hml, hown, hr, hlk, hnm, htb, hW, ho, hG⟩ := id X
  obtain ⟨_, _, rfl, ⟨v, rfl, hv⟩, w, rst, rfl, hwv, hS⟩ := hS
  cases (show w = .ref a from hwv)
  obtain ⟨⟨cell, q1, q2, q3, q4, q5, q6⟩, -⟩ := (hP.2 a _ ha).1
  obtain ⟨w, g1, ⟨u, rfl, hu⟩, g3⟩ := ab_ald hv h0 h1 q6
  exact W.iald hx9 hb q1 (State.isArrayOf_alike hW.alike q2) q3 (ab_inW hv h0 h1 q4.2.1) g1 rfl rfl hd (K p e R s m args below meth c H locs cells slots mc ms ls _ X hR hP hl hL ⟨_, _, rfl, ⟨u, rfl, by rw [hu, g3]⟩, hS⟩)
theorem ab_lald {g a n : Nat} {f : Int → Int} {i : Int} (ha : h a = some (kJ g n f)) (h0 : 0 ≤ i) (h1 : i < n) (hd : decode y.2.1 pc = .ok (.laload, 1)) (K : ab_T l E y d kc ks (pc + 1) L (vL (f i) :: S) h Q) : ab_T l E y d kc ks pc L (vI i :: vR a :: S) h Q := by
  intro p e R s m args below meth c H locs cells slots mc ms ls st X hR hP hl hL hS
  obtain ⟨hx9, hb, hml, hown, hr, hlk, hnm, htb, hW, ho, hG⟩ := id X
  obtain ⟨_, _, rfl, ⟨v, rfl, hv⟩, w, rst, rfl, hwv, hS⟩ := hS
  cases (show w = .ref a from hwv)
  obtain ⟨cell, q1, q2, q3, q4, q5, q6⟩ := (hP.2 a _ ha).1
  obtain ⟨w, g1, ⟨u, rfl, hu⟩, g3⟩ := ab_ald hv h0 h1 q6
  exact W.lald hx9 hb q1 (State.isArrayOf_alike hW.alike q2) q3 (ab_in hv h0 h1 q4) g1 rfl rfl hd (K p e R s m args below meth c H locs cells slots mc ms ls _ X hR hP hl hL ⟨_, _, rfl, ⟨u, rfl, by rw [hu, g3]⟩, hS⟩)
theorem ab_zald {g a n : Nat} {f : Int → Int} {i : Int} (ha : h a = some (kZ g n f)) (h0 : 0 ≤ i) (h1 : i < n) (hd : decode y.2.1 pc = .ok (.baload, 1)) (K : ab_T l E y d kc ks (pc + 1) L (vI (f i) :: S) h Q) : ab_T l E y d kc ks pc L (vI i :: vR a :: S) h Q := by
  intro p e R s m args below meth c H locs cells slots mc ms ls st X hR hP hl hL hS
  obtain ⟨hx9, hb, hml, hown, hr, hlk, hnm, htb, hW, ho, hG⟩ := id X
  obtain ⟨_, _, rfl, ⟨v, rfl, hv⟩, w, rst, rfl, hwv, hS⟩ := hS
  cases (show w = .ref a from hwv)
  obtain ⟨cell, q1, q2, q3, q4, q5, q6⟩ := (hP.2 a _ ha).1
  obtain ⟨w, g1, ⟨u, rfl, hu⟩, g3⟩ := ab_ald hv h0 h1 q6
  exact W.zald hx9 hb q1 (State.isArrayOf_alike hW.alike q2) q3 (ab_in hv h0 h1 q4) g1 rfl rfl hd (K p e R s m args below meth c H locs cells slots mc ms ls _ X hR hP hl hL ⟨_, _, rfl, ⟨u, rfl, by rw [hu, g3]⟩, hS⟩)
theorem ab_aald {g a n : Nat} {C : String} {f : Int → Option Nat} {i : Int} (ha : h a = some (kA g C n f)) (h0 : 0 ≤ i) (h1 : i < n) (hd : decode y.2.1 pc = .ok (.aaload, 1)) (K : ab_T l E y d kc ks (pc + 1) L (vO (f i) :: S) h Q) : ab_T l E y d kc ks pc L (vI i :: vR a :: S) h Q := by
  intro p e R s m args below meth c H locs cells slots mc ms ls st X hR hP hl hL hS
  obtain ⟨hx9, hb, hml, hown, hr, hlk, hnm, htb, hW, ho, hG⟩ := id X
  obtain ⟨_, _, rfl, ⟨v, rfl, hv⟩, w, rst, rfl, hwv, hS⟩ := hS
  cases (show w = .ref a from hwv)
  obtain ⟨⟨cell, q1, q2, q3, q4, q5, q6⟩, -⟩ := (hP.2 a _ ha).1
  obtain ⟨w, g1, g2, g3⟩ := ab_ald hv h0 h1 q6
  exact W.aald hx9 hb q1 (State.isArrayOf_alike hW.alike q2) rfl q3 (ab_in hv h0 h1 q4) g1 rfl rfl hd (K p e R s m args below meth c H locs cells slots mc ms ls _ X hR hP hl hL ⟨_, _, rfl, by rw [← g3]; exact g2, hS⟩)
theorem ab_len32 {n : Nat} (hn : n < 2147483648) : (n.toInt32).toInt = n := by
  show (Int32.ofNat n).toInt = n
  rw [Int32.toInt_ofNat', ab_bm (by omega) (by omega)]
theorem ab_alen {g a n : Nat} {f : Int → Int} (ha : h a = some (kI g n f)) (hd : decode y.2.1 pc = .ok (.arraylength, 1)) (K : ab_T l E y d kc ks (pc + 1) L (vI n :: S) h Q) : ab_T l E y d kc ks pc L (vR a :: S) h Q := by
  intro p e R s m args below meth c H locs cells slots mc ms ls st X hR hP hl hL hS
  obtain ⟨hx9, hb, hml, hown, hr, hlk, hnm, htb, hW, ho, hG⟩ := id X
  obtain ⟨w, rst, rfl, hwv, hS⟩ := hS
  cases (show w = .ref a from hwv)
  obtain ⟨⟨cell, q1, q2, q3, q4, q5, q6⟩, -⟩ := (hP.2 a _ ha).1
  exact W.alen hx9 hb q1 (State.isArrayOf_alike hW.alike q2) rfl rfl rfl hd (K p e R s m args below meth c H locs cells slots mc ms ls _ X hR hP hl hL ⟨_, _, rfl, ⟨_, rfl, by rw [q4.2.2]; exact ab_len32 q5⟩, hS⟩)
theorem ab_alenJ {g a n : Nat} {f : Int → Int} (ha : h a = some (kJ g n f)) (hd : decode y.2.1 pc = .ok (.arraylength, 1)) (K : ab_T l E y d kc ks (pc + 1) L (vI n :: S) h Q) : ab_T l E y d kc ks pc L (vR a :: S) h Q := by
  intro p e R s m args below meth c H locs cells slots mc ms ls st X hR hP hl hL hS
  obtain ⟨hx9, hb, hml, hown, hr, hlk, hnm, htb, hW, ho, hG⟩ := id X
  obtain ⟨w, rst, rfl, hwv, hS⟩ := hS
  cases (show w = .ref a from hwv)
  obtain ⟨cell, q1, q2, q3, q4, q5, q6⟩ := (hP.2 a _ ha).1
  exact W.alen hx9 hb q1 (State.isArrayOf_alike hW.alike q2) rfl rfl rfl hd (K p e R s m args below meth c H locs cells slots mc ms ls _ X hR hP hl hL ⟨_, _, rfl, ⟨_, rfl, by rw [q4]; exact ab_len32 q5⟩, hS⟩)
theorem ab_alenA {g a n : Nat} {C : String} {f : Int → Option Nat} (ha : h a = some (kA g C n f)) (hd : decode y.2.1 pc = .ok (.arraylength, 1)) (K : ab_T l E y d kc ks (pc + 1) L (vI n :: S) h Q) : ab_T l E y d kc ks pc L (vR a :: S) h Q := by
  intro p e R s m args below meth c H locs cells slots mc ms ls st X hR hP hl hL hS
  obtain ⟨hx9, hb, hml, hown, hr, hlk, hnm, htb, hW, ho, hG⟩ := id X
  obtain ⟨w, rst, rfl, hwv, hS⟩ := hS
  cases (show w = .ref a from hwv)
  obtain ⟨⟨cell, q1, q2, q3, q4, q5, q6⟩, -⟩ := (hP.2 a _ ha).1
  exact W.alen hx9 hb q1 (State.isArrayOf_alike hW.alike q2) rfl rfl rfl hd (K p e R s m args below meth c H locs cells slots mc ms ls _ X hR hP hl hL ⟨_, _, rfl, ⟨_, rfl, by rw [q4]; exact ab_len32 q5⟩, hS⟩)
/-! rows: writing -/
theorem ab_ast {s0 : State} {ty : FieldType} {n : Nat} {P P' : Nat → Value → Prop} {a : Nat} {H H' : Heap} {cell : Cell} {j : Nat} {w : Value} (q1 : H[a]? = some cell) (q2 : s0.isArrayOf cell ty) (q3 : cell.vm ≠ .unknown) (q4 : cell.slots.size = n) (q5 : n < 2147483648) (q6 : ∀ j : Nat, j < n → ∃ w : Value, cell.slots[j]? = some w ∧ P j w)
    (hj : j < n) (e1 : H'[a]? = some (cell.setSlot j w)) (hw : P' j w) (hP : ∀ (k : Nat) (u : Value), k ≠ j → P k u → P' k u) : ab_arr s0 ty n P' a H' := by
  refine ⟨_, e1, q2, q3, by simp [Cell.setSlot, q4], q5, fun k hk => ?_⟩
  by_cases e : k = j
  · subst e
    exact ⟨w, by simp [Cell.setSlot, q4, hk], hw⟩
  · obtain ⟨u, g1, g2⟩ := q6 k hk
    exact ⟨u, by simp [Cell.setSlot, Ne.symm e, g1], hP k u e g2⟩
theorem ab_locs {E : AbE} {locs : List Loc} {a i : Nat} (hl : ∀ z ∈ locs, ab_A E z.base) (ha : E.1.heap.size ≤ a) : ∀ z ∈ locs ++ [⟨a, i⟩], ab_A E z.base := by
  intro z hz
  rcases List.mem_append.mp hz with g1 | g1
  · exact hl z g1
  · rw [List.mem_singleton.mp g1]
    exact ha
theorem ab_iast {g a n : Nat} {f : Int → Int} {i x : Int} (ha : h a = some (kI g n f)) (hg : 2 ≤ g) (h0 : 0 ≤ i) (h1 : i < n) (hd : decode y.2.1 pc = .ok (.iastore, 1)) (K : ab_T l E y d kc ks (pc + 1) L S (ab_up h a (kI g n (ab_f f i x))) Q) : ab_T l E y d kc ks pc L (vI x :: vI i :: vR a :: S) h Q := by
  intro p e R s m args below meth c H locs cells slots mc ms ls st X hR hP hl hL hS
  obtain ⟨hx9, hb, hml, hown, hr, hlk, hnm, htb, hW, ho, hG⟩ := id X
  obtain ⟨_, _, rfl, ⟨u, rfl, hu⟩, _, _, rfl, ⟨v, rfl, hv⟩, w, rst, rfl, hwv, hS⟩ := hS
  cases (show w = .ref a from hwv)
  obtain ⟨⟨cell, q1, q2, q3, q4, q5, q6⟩, qc⟩ := (hP.2 a _ ha).1
  have en := ab_nat (v := v) (by omega)
  refine W.iast hx9 hb q1 (State.isArrayOf_alike hW.alike q2) q3 (ab_in hv h0 h1 (q4.1 hg)) rfl rfl hd fun H' e1 e2 e3 => ?_
  refine K p e R s m args below meth c H' _ cells slots mc ms ls _ X hR (hP.set ha hg (c1 := kI g n (ab_f f i x)) ?_ e2 e3) (ab_locs hl ((hP.2 a _ ha).2 hg)) hL hS
  refine ⟨?_, fun g9 => by obtain ⟨c2, z1, z2⟩ := qc g9; cases Option.some.inj (z1.symm.trans q1); exact ⟨_, e1, z2⟩⟩
  refine (ab_ast q1 q2 q3 (q4.1 hg) q5 q6 (by omega) e1 (P' := ab_i32 (ab_f f i x)) ⟨u, rfl, ?_⟩ ?_).I
  · exact hu.trans (ab_f_eq (by omega)).symm
  · rintro k _ hk ⟨z, rfl, hz⟩
    exact ⟨z, rfl, hz.trans (ab_f_ne (by omega)).symm⟩
theorem ab_last {g a n : Nat} {f : Int → Int} {i x : Int} (ha : h a = some (kJ g n f)) (hg : 2 ≤ g) (h0 : 0 ≤ i) (h1 : i < n) (hd : decode y.2.1 pc = .ok (.lastore, 1)) (K : ab_T l E y d kc ks (pc + 1) L S (ab_up h a (kJ g n (ab_f f i x))) Q) : ab_T l E y d kc ks pc L (vL x :: vI i :: vR a :: S) h Q := by
  intro p e R s m args below meth c H locs cells slots mc ms ls st X hR hP hl hL hS
  obtain ⟨hx9, hb, hml, hown, hr, hlk, hnm, htb, hW, ho, hG⟩ := id X
  obtain ⟨_, _, rfl, ⟨u, rfl, hu⟩, _, _, rfl, ⟨v, rfl, hv⟩, w, rst, rfl, hwv, hS⟩ := hS
  cases (show w = .ref a from hwv)
  obtain ⟨cell, q1, q2, q3, q4, q5, q6⟩ := (hP.2 a _ ha).1
  have en := ab_nat (v := v) (by omega)
  refine W.last hx9 hb q1 (State.isArrayOf_alike hW.alike q2) q3 (ab_in hv h0 h1 q4) rfl rfl hd fun H' e1 e2 e3 => ?_
  refine K p e R s m args below meth c H' _ cells slots mc ms ls _ X hR (hP.set ha hg (c1 := kJ g n (ab_f f i x)) ?_ e2 e3) (ab_locs hl ((hP.2 a _ ha).2 hg)) hL hS
  refine ab_ast q1 q2 q3 q4 q5 q6 (by omega) e1 ⟨u, rfl, ?_⟩ ?_
  · exact hu.trans (ab_f_eq (by omega)).symm
  · rintro k _ hk ⟨z, rfl, hz⟩
    exact ⟨z, rfl, hz.trans (ab_f_ne (by omega)).symm⟩
theorem ab_zast {g a n : Nat} {f : Int → Int} {i x : Int} (ha : h a = some (kZ g n f)) (hg : 2 ≤ g) (hx : x = 0 ∨ x = 1) (h0 : 0 ≤ i) (h1 : i < n) (hd : decode y.2.1 pc = .ok (.bastore, 1)) (K : ab_T l E y d kc ks (pc + 1) L S (ab_up h a (kZ g n (ab_f f i x))) Q) : ab_T l E y d kc ks pc L (vI x :: vI i :: vR a :: S) h Q := by
  intro p e R s m args below meth c H locs cells slots mc ms ls st X hR hP hl hL hS
  obtain ⟨hx9, hb, hml, hown, hr, hlk, hnm, htb, hW, ho, hG⟩ := id X
  obtain ⟨_, _, rfl, ⟨u, rfl, hu⟩, _, _, rfl, ⟨v, rfl, hv⟩, w, rst, rfl, hwv, hS⟩ := hS
  cases (show w = .ref a from hwv)
  obtain ⟨cell, q1, q2, q3, q4, q5, q6⟩ := (hP.2 a _ ha).1
  have en := ab_nat (v := v) (by omega)
  have hnar : narrow .boolean (.int u) = .int u := (ab_fits (t := .boolean) (x := vI x) hx ⟨u, rfl, hu⟩).1
  refine W.zast hx9 hb q1 (State.isArrayOf_alike hW.alike q2) q3 (ab_in hv h0 h1 q4) rfl rfl hd fun H' e1 e2 e3 => ?_
  rw [show (narrow .boolean (.int u)) = .int u from hnar] at e1
  refine K p e R s m args below meth c H' _ cells slots mc ms ls _ X hR (hP.set ha hg (c1 := kZ g n (ab_f f i x)) ?_ e2 e3) (ab_locs hl ((hP.2 a _ ha).2 hg)) hL hS
  refine ab_ast q1 q2 q3 q4 q5 q6 (by omega) e1 ⟨u, rfl, ?_⟩ ?_
  · exact hu.trans (ab_f_eq (by omega)).symm
  · rintro k _ hk ⟨z, rfl, hz⟩
    exact ⟨z, rfl, hz.trans (ab_f_ne (by omega)).symm⟩
theorem ab_aast {g g2 a n v9 ci : Nat} {C : String} {r : vw_C} {f : Int → Option Nat} {i : Int} {fs : List AbV} (ha : h a = some (kA g C n f)) (hg : 2 ≤ g) (hb9 : h v9 = some (kO g2 ci fs)) (hc : ab_cl[ci]? = some r) (hcs : Cond.castable r.1 C ∈ lw_tbl ∨ r.1 = C) (h0 : 0 ≤ i) (h1 : i < n) (hd : decode y.2.1 pc = .ok (.aastore, 1)) (K : ab_T l E y d kc ks (pc + 1) L S (ab_up h a (kA g C n (ab_f f i (some v9)))) Q) : ab_T l E y d kc ks pc L (vR v9 :: vI i :: vR a :: S) h Q := by
  intro p e R s m args below meth c H locs cells slots mc ms ls st X hR hP hl hL hS
  obtain ⟨hx9, hb, hml, hown, hr, hlk, hnm, htb, hW, ho, hG⟩ := id X
  obtain ⟨w9, _, rfl, hw9, _, _, rfl, ⟨v, rfl, hv⟩, w, rst, rfl, hwv, hS⟩ := hS
  cases (show w = .ref a from hwv)
  cases (show w9 = .ref v9 from hw9)
  obtain ⟨⟨cell, q1, q2, q3, q4, q5, q6⟩, cell2, k, comp, p1, p2, p3, p4⟩ := (hP.2 a _ ha).1
  cases Option.some.inj (q1.symm.trans p1)
  obtain ⟨r9, ws, t1, t2, t3, cv, u1, u2, u3, -⟩ := (hP.2 v9 _ hb9).1
  cases Option.some.inj (t1.symm.trans hc)
  have hKs := (ab_K hG hW).1 ci _ hc
  obtain ⟨hfc, kC, hkC, hkind⟩ := hKs.2
  obtain ⟨k', hk', hke⟩ := hW.alike.2.2 _ _ p2
  have hcomp : s.vm.findClass C = some comp := by rw [hW.alike.findClass]; exact p4
  obtain ⟨kE, hkE, -⟩ := Vm.findClass_spec hcomp
  have hasg : s.vm.assignable cv.cls comp = true := by
    rcases hcs with hcs | hcs
    · obtain ⟨c0, t0, f1, f2, f3⟩ := Cond.castable_spec (va_Nw.use (A := args) rfl (va_Nw.warmC hW (ab_nw hG hcs rfl)))
      cases Option.some.inj (hfc.symm.trans f1)
      cases Option.some.inj (hcomp.symm.trans f2)
      rw [u2]; exact f3
    · have hh : ClassAt s C comp := by
        subst hcs
        cases Option.some.inj (hfc.symm.trans hcomp)
        exact ⟨hfc, kC, hkC, hkind⟩
      have e9 : cv.cls = comp := by
        rw [u2]
        subst hcs
        exact Option.some.inj (hfc.symm.trans hcomp)
      rw [e9]
      exact va_assign hh
  have en := ab_nat (v := v) (by omega)
  have q4' : cell.slots.size = n := q4
  have hjn : v.toNatClampNeg < n := by omega
  refine W.aast hx9 hb q1 q2.1 q3 hk' (by rw [hke]; exact p3) rfl hkE ⟨fun g => ab_in hv h0 h1 q4 (Or.inl g), by rw [q4']; exact hjn⟩ u1 (fun q hh => by rw [u3] at hh; cases hh) (by rw [u2]; exact hkC) hasg rfl rfl hd fun H' e1 e2 e3 => ?_
  refine K p e R s m args below meth c H' _ cells slots mc ms ls _ X hR (hP.set ha hg (c1 := kA g C n (ab_f f i (some v9))) ?_ e2 e3) (ab_locs hl ((hP.2 a _ ha).2 hg)) hL hS
  refine ⟨ab_ast q1 q2 q3 q4 q5 q6 hjn e1 ?_ ?_, _, k, comp, e1, p2, p3, p4⟩
  · show Value.ref v9 = va_rf (ab_f f i (some v9) _)
    rw [ab_f_eq (by omega)]; rfl
  · intro q z hk hz
    show z = va_rf (ab_f f i (some v9) _)
    rw [ab_f_ne (by omega)]; exact hz
end ABH
