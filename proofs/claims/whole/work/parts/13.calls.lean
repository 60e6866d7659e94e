/-! calls, and how a walk becomes a contract -/
section ABK
variable {l : Launch} {E : AbE} {y : AbY} {d kc ks pc : Nat} {L : List (Option AbV)} {S : List AbV} {h : AbH} {Q : AbO → AbH → Prop}
theorem ab_blind {as : List AbV} : FrameBlind (ab_Pc E as h) := fun _ _ _ _ hp => hp
theorem ab_met {nL : Nat} {as : List AbV} (hM : ab_M l E y nL d kc ks as h Q) (hx : ∀ X h', ¬ Q (.inr X) h') : Met l y.1 [Cond.code y.1 y.2.1 nL y.2.2.1] (ab_rm d kc ks) (ab_Pc E as h) (ab_Q E Q) kc ks (ab_A E) := by
  intro p e ha hc hk s m args below hf happ hP hK
  obtain ⟨n, o, a1, a2, a3, b3⟩ := hM p e ha hc hk s m args below hf happ hP hK
  refine ⟨n, o, a1, a2, a3, ?_⟩
  rcases b3 with b | ⟨q, c1, X9, ce, LL, ⟨h', c2, c3⟩, c4⟩
  · exact b
  · exact absurd c3 (hx _ _)
def ab_en (as : List AbV) : List (Option AbV) := as.flatMap fun v => if ab_w v = 2 then [some v, none] else [some v]
theorem ab_en_len : ∀ {as : List AbV} {ws : List Value}, ab_vs as ws → (lg_sl ws).length = (ab_en as).length
  | [], ws, hv => by rw [show ws = [] from hv]; rfl
  | x :: xs, ws, ⟨w, r, e, hw, hr⟩ => by
    have ih := ab_en_len hr
    have hc := ab_cat hw
    subst e
    simp only [lg_sl, ab_en, List.flatMap_cons, hc, List.length_append] at ih ⊢
    by_cases g : ab_w x = 2 <;> simp [g, ih]
theorem ab_en_get : ∀ {as : List AbV} {ws : List Value}, ab_vs as ws → ∀ (k : Nat) (x : AbV), (ab_en as)[k]? = some (some x) → ∃ w, (lg_sl ws)[k]? = some (.val w) ∧ ab_v x w
  | [], ws, hv, k, x, hk => by simp [ab_en] at hk
  | v :: xs, ws, ⟨w, r, e, hw, hr⟩, k, x, hk => by
    have ih := ab_en_get hr
    have hc := ab_cat hw
    subst e
    simp only [lg_sl, ab_en, List.flatMap_cons, hc] at ih hk ⊢
    by_cases g : ab_w v = 2
    · simp only [g, if_true, List.cons_append, List.nil_append] at hk ⊢
      match k, hk with
      | 0, hk => cases hk; exact ⟨w, rfl, hw⟩
      | 1, hk => cases hk
      | k + 2, hk => exact ih k x hk
    · simp only [g, if_false, List.cons_append, List.nil_append] at hk ⊢
      match k, hk with
      | 0, hk => cases hk; exact ⟨w, rfl, hw⟩
      | k + 1, hk => exact ih k x hk
theorem ab_entry {as : List AbV} {ws : List Value} {n : Nat} (hv : ab_vs as ws) (hn : (ab_en as).length ≤ n) : ab_l (ab_en as ++ List.replicate (n - (ab_en as).length) none) ((lg_sl ws ++ List.replicate (n - (lg_sl ws).length) Slot.unset).toArray) := by
  have hl := ab_en_len hv
  have he := lv_entry ws (n := n) (by rw [hl]; exact hn)
  refine ⟨by simp [hl], he.2.1, fun k x hk => ?_⟩
  by_cases g : k < (ab_en as).length
  · rw [List.getElem?_append_left g] at hk
    obtain ⟨w, h1, h2⟩ := ab_en_get hv k x hk
    refine ⟨w, ?_, h2⟩
    rw [List.getElem?_toArray, List.getElem?_append_left (by rw [hl]; exact g)]
    exact h1
  · rw [List.getElem?_append_right (by omega), List.getElem?_replicate] at hk
    split at hk <;> cases hk
theorem ab_M.of {nL : Nat} {as : List AbV} {L0 : List (Option AbV)} (hG : ab_G l E) (hpn : plainName y.1.cls = true) (hh : y.2.2.2 = []) (hn : (ab_en as).length ≤ nL) (hL0 : ab_en as ++ List.replicate (nL - (ab_en as).length) none = L0) (k : ab_T l E y d kc ks 0 L0 [] h Q) : ab_M l E y nL d kc ks as h Q := by
  refine vx_ofW (ws' := []) hpn rfl ?_
  intro p e s m args below meth c s1 B hml ht hP
  obtain ⟨⟨ws, rfl, hv⟩, hPic, hW⟩ := hP
  have htb : c.exceptionTable.toList = [] := by
    cases hx : c.exceptionTable.toList with
    | nil => rfl
    | cons a b => exact (ht a (by rw [hx]; exact List.mem_cons_self)).elim
  have hlen : L0.length = nL := by rw [← hL0, List.length_append, List.length_replicate]; omega
  rw [lg_entry_eq]
  refine k p e (ab_rm d kc ks) s m ws.toArray below meth c s.heap [] 0 0 kc ks _ [] ⟨B.exec, B.bytes, by rw [hlen]; exact hml, findClass_of_methodNamed B.named, B.returns, B.notSynchronized, (name_of_methodNamed B.named B.method).1, by rw [htb, hh]; rfl, hW, hPic.1, hG⟩ ⟨Nat.le_refl _, Nat.le_refl _, by simp [ab_rm], by simp [ab_rm], by simp, by simp⟩ hPic (fun z hz => by cases hz) (by rw [← hL0]; exact ab_entry hv hn) rfl
/-- a method with a table of its own, that lets nothing out -/
def ab_MW (l : Launch) (E : AbE) (y : AbY) (nL d kc ks : Nat) (as : List AbV) (h : AbH) (Q : AbO → AbH → Prop) : Prop :=
  Met l y.1 [Cond.codeWith y.1 y.2.1 nL y.2.2.1 y.2.2.2] (ab_rm d kc ks) (ab_Pc E as h) (ab_Q E Q) kc ks (ab_A E)
theorem ab_MW.of {nL : Nat} {as : List AbV} {L0 : List (Option AbV)} (hG : ab_G l E) (hpn : plainName y.1.cls = true) (hn : (ab_en as).length ≤ nL) (hL0 : ab_en as ++ List.replicate (nL - (ab_en as).length) none = L0) (hx : ∀ X h', ¬ Q (.inr X) h') (k : ab_T l E y d kc ks 0 L0 [] h Q) : ab_MW l E y nL d kc ks as h Q := by
  refine va_MetW (ws' := []) (hh := y.2.2.2) hpn rfl ?_
  intro p e s m args below meth c s1 B hml hP
  obtain ⟨⟨ws, rfl, hv⟩, hPic, hW⟩ := hP
  have htb := vx_table (x := y.1) B (atoms_spec (ws := [Cond.codeWith y.1 y.2.1 nL y.2.2.1 y.2.2.2]) B.pre _ List.mem_cons_self)
  have hlen : L0.length = nL := by rw [← hL0, List.length_append, List.length_replicate]; omega
  rw [lg_entry_eq]
  intro T hT XX
  obtain ⟨t, a1, o, b1, b2, b3⟩ := k p e (ab_rm d kc ks) s m ws.toArray below meth c s.heap [] 0 0 kc ks _ [] ⟨B.exec, B.bytes, by rw [hlen]; exact hml, findClass_of_methodNamed B.named, B.returns, B.notSynchronized, (name_of_methodNamed B.named B.method).1, htb, hW, hPic.1, hG⟩ ⟨Nat.le_refl _, Nat.le_refl _, by simp [ab_rm], by simp [ab_rm], by simp, by simp⟩ hPic (fun z hz => by cases hz) (by rw [← hL0]; exact ab_entry hv hn) rfl T hT XX
  rcases b3 with b | ⟨q, c1, X9, ce, LL, ⟨h', c2, c3⟩, c4⟩
  · exact ⟨t, a1, o, b1, b2, b⟩
  · exact absurd c3 (hx _ _)
/-! the words of a call -/
def ab_wB (own : String) (ix : Nat) (y2 : AbY) (n2 k : Nat) : Prop := Cond.methodLink own ix y2.1 ∈ lw_tbl ∧ Cond.initialized y2.1.cls ∈ lw_tbl ∧ Cond.code y2.1 y2.2.1 n2 y2.2.2.1 ∈ lw_tbl ∧ (y2.1.cls ≠ "java/lang/invoke/MethodHandle" ∧ y2.1.cls ≠ "java/lang/invoke/VarHandle") ∧ (parseMethodDescriptor y2.1.desc).map (fun d => d.parameters.length) = some k
theorem ab_sum : ∀ {xs : List AbV} {ws : List Value}, ab_vs xs ws → (ws.map fun v => v.category).sum = (xs.map ab_w).sum
  | [], ws, hv => by rw [show ws = [] from hv]; rfl
  | x :: xs, ws, ⟨w, r, e, hw, hv⟩ => by
    subst e
    simp only [List.map_cons, List.sum_cons, ab_cat hw, ab_sum hv]
theorem ab_cb {own : String} {ix n2 k d2 kc2 ks2 : Nat} {y2 : AbY} {R : Room} {s : State} {args : Array Value} (w : ab_wB own ix y2 n2 k) (hG : ab_G l E) (hW : E.1.WarmedH s.vm) (hd2 : d2 + 1 ≤ d) (hn2 : n2 ≤ 45) (hR : d ≤ R.frames ∧ 64 * d ≤ R.locals) : CallB R s args own ix y2.1 y2.2.1 n2 y2.2.2.1 [Cond.code y2.1 y2.2.1 n2 y2.2.2.1] (ab_rm d2 kc2 ks2) kc2 ks2 k := by
  obtain ⟨w1, w2, w3, w4, w5⟩ := w
  refine ⟨rfl, rfl, by show d2 + 1 ≤ R.frames; omega, by show 8 + (n2 + 11) + 64 * d2 ≤ R.locals; omega, ?_, List.mem_cons_self, ab_word hG w3 rfl hW args, ab_word hG w2 rfl hW args, w4, fun sig hs => ?_, ab_word hG w1 rfl hW args⟩
  · intro w hw a' U hU
    rw [List.mem_singleton.mp hw]
    exact ab_word hG w3 rfl (State.WarmedH.trans hW hU) a'
  · rw [hs] at w5
    exact (Option.some.inj w5).symm
/-- what is owed behind a call: where it comes back, and where it throws -/
theorem ab_back {p : Program} {e : Env} {R : Room} {s : State} {m : MethodId} {args : Array Value} {below : List Frame} {meth : Method} {c : Code} {H : Heap} {locs : List Loc} {cells slots mc ms kc2 ks2 : Nat} {ls : Array Slot} {st rest : List Value} {a9 : Array Value} {Q2 : AbO → AbH → Prop}
    (X : ab_X l E y L.length p s m meth c) (hR : ab_R d (kc + kc2) (ks + ks2) R cells slots mc ms) (hl : ∀ z ∈ locs, ab_A E z.base) (hL : ab_l L ls) (hS : ab_vs S rest)
    (hr : vx_Run p l e R s m args below meth c H locs cells slots kc2 ks2 (F0 m pc ls st) rest (ab_Q E Q2 a9) (ab_QX E Q2) (ab_A E))
    (K : ∀ r h', Q2 (.inl r) h' → ab_T l E y d kc ks (pc + 3) L (r.toList ++ S) h' Q)
    (KX : ∀ (Xn : String) (h' : AbH) (ce : Cell) (q : Addr) (H1 : Heap) (locs1 : List Loc), Q2 (.inr Xn) h' → ab_P E h' H1 → (∀ z ∈ locs1, ab_A E z.base) → H1[q]? = some ce → ce.vm = .none → s.vm.findClass Xn = some ce.cls → vx_W p l e R s m args below meth c H1 locs1 (cells + kc2) (slots + ks2) (vx_MQ below (ab_Q E Q) (ab_QX E Q) args s mc ms (ab_A E)) (F0 m pc ls rest) q) :
    W p l e R s m args below meth c H locs cells slots (vx_MQ below (ab_Q E Q) (ab_QX E Q) args s mc ms (ab_A E)) (F0 m pc ls st) := by
  intro T hT XX
  have hl2 : ∀ {L' : List Loc}, (∀ q ∈ L', ab_A E q.base) → ∀ z ∈ locs ++ L', ab_A E z.base := fun hL' z hz => (List.mem_append.mp hz).elim (hl z) (hL' z)
  rcases hr T hT XX with ⟨v, st0, t, T', L', h0, X', hL', e1, e2, ⟨v', r, h', hv, hov, hP', hq⟩, stp⟩ | ⟨q, st0, t, T', L', Xn, ce, h0, X', hL', e1, e2, ⟨h', hP', hq⟩, hce, hcv, hcl, stp⟩
  · cases hv
    obtain ⟨t2, a1, b1⟩ := K r h' hq p e R s m args below meth c T'.heap (locs ++ L') _ _ mc ms ls (v.toList ++ rest) X (ab_room hR) (by rw [e1]; exact hP') (hl2 hL') hL (by
      cases r with
      | none => rw [show v = none from hov]; exact hS
      | some x => obtain ⟨w, rfl, hw⟩ := hov; exact ⟨w, rest, rfl, hw, hS⟩) T' rfl X'
    exact ⟨t2, stp t2 a1, b1⟩
  · obtain ⟨t2, a1, b1⟩ := KX Xn h' ce q T'.heap (locs ++ L') hq (by rw [e1]; exact hP') (hl2 hL') (by rw [e1]; exact hce) hcv hcl T' rfl X'
    exact ⟨t2, stp.trans a1, b1⟩
theorem ab_out {p : Program} {e : Env} {R : Room} {s : State} {m : MethodId} {args : Array Value} {below : List Frame} {meth : Method} {c : Code} {cells slots mc ms kc2 ks2 : Nat} {ls : Array Slot} {rest : List Value}
    (X : ab_X l E y L.length p s m meth c) (hR : ab_R d (kc + kc2) (ks + ks2) R cells slots mc ms) (hh : y.2.2.2 = []) {Q2 : AbO → AbH → Prop} (hq : ∀ Xn h', Q2 (.inr Xn) h' → Q (.inr Xn) h') :
    ∀ (Xn : String) (h' : AbH) (ce : Cell) (q : Addr) (H1 : Heap) (locs1 : List Loc), Q2 (.inr Xn) h' → ab_P E h' H1 → (∀ z ∈ locs1, ab_A E z.base) → H1[q]? = some ce → ce.vm = .none → s.vm.findClass Xn = some ce.cls → vx_W p l e R s m args below meth c H1 locs1 (cells + kc2) (slots + ks2) (vx_MQ below (ab_Q E Q) (ab_QX E Q) args s mc ms (ab_A E)) (F0 m pc ls rest) q := by
  intro Xn h' ce q H1 locs1 h2 hP hl hce hcv hcl
  obtain ⟨hx9, hb, hml, hown, hr, hlk, hnm, htb, hW, ho, hG⟩ := id X
  refine vx_out (by rw [htb, hh]; intro x hx; cases hx) hlk hce hcv hcl (fun t ht _ => ⟨h', by rw [ht]; exact hP, hq _ _ h2⟩) hl (by have := hR.2.2.2.2.1; omega) (by have := hR.2.2.2.2.2; omega)
theorem ab_recv {ci g a : Nat} {r : vw_C} {fs : List AbV} {H : Heap} {s : State} (hG : ab_G l E) (hW : E.1.WarmedH s.vm) (hP : ab_P E h H) (ha : h a = some (kO g ci fs)) (hc : ab_cl[ci]? = some r) : ∃ cell : Cell, H[a]? = some cell ∧ cell.vm.isStatics = false ∧ s.vm.findClass r.1 = some cell.cls := by
  obtain ⟨r9, ws, t1, t2, t3, cv, u1, u2, u3, -⟩ := (hP.2 a _ ha).1
  cases Option.some.inj (t1.symm.trans hc)
  exact ⟨cv, u1, by rw [u3]; rfl, by rw [u2]; exact ((ab_K hG hW).1 ci _ hc).2.1⟩
theorem ab_callV {ci g a ix n2 d2 kc2 ks2 : Nat} {r : vw_C} {fs : List AbV} {y2 : AbY} {as : List AbV} {S0 : List AbV} {Q2 : AbO → AbH → Prop} (hM : ab_M l E y2 n2 d2 kc2 ks2 (vR a :: as) h Q2) (ha : h a = some (kO g ci fs)) (hc : ab_cl[ci]? = some r) (w : ab_wB y.1.cls ix y2 n2 as.length) (w1 : Cond.instanceMethod y2.1 ∈ lw_tbl) (w2 : Cond.selects r.1 y2.1 y2.1 ∈ lw_tbl) (hS0 : S0 = as.reverse ++ vR a :: S) (hd2 : d2 + 1 ≤ d) (hn2 : n2 ≤ 45) (hS9 : (S.map ab_w).sum ≤ 8) (hh : y.2.2.2 = []) (hd : decode y.2.1 pc = .ok (.invokevirtual ix, 3))
    (KX : ∀ Xn h', Q2 (.inr Xn) h' → Q (.inr Xn) h') (K : ∀ r h', Q2 (.inl r) h' → ab_T l E y d kc ks (pc + 3) L (r.toList ++ S) h' Q) : ab_T l E y d (kc + kc2) (ks + ks2) pc L S0 h Q := by
  intro p e R s m args below meth c H locs cells slots mc ms ls st X hR hP hl hL hS
  subst hS0
  obtain ⟨hx9, hb, hml, hown, hr, hlk, hnm, htb, hW, ho, hG⟩ := id X
  obtain ⟨us, vs, rfl, hu, w9, rest, rfl, hw9, hS2⟩ := ab_vs_split hS
  cases (show w9 = .ref a from hw9)
  have hAs : ab_vs as us.reverse := by have := ab_vs_rev hu; rwa [List.reverse_reverse] at this
  refine ab_back X hR hl hL hS2 (vx_runV (nL := L.length) (Ts := []) (As := us.reverse) (b := a) ⟨hx9, hb, hml, hown, fun w hw => by cases hw⟩ hM ⟨ab_cb w hG hW hd2 hn2 ⟨hR.1, hR.2.1⟩, ab_word hG w1 rfl hW args, ab_word hG w2 rfl hW args⟩ ⟨ab_blind, ab_recv hG hW hP ha hc, fun U hU hWU => ⟨⟨_, rfl, _, _, rfl, rfl, hAs⟩, by rw [hU]; exact hP, State.WarmedH.trans hW hWU⟩⟩ rfl (by rw [ab_vs_len hAs]) hL.1 (by rw [List.reverse_reverse]) (by rw [ab_sum hS2]; show 2 * 0 + _ ≤ 8; omega) hd ⟨by have := hR.2.2.1; omega, by have := hR.2.2.2.1; omega⟩) K (ab_out X hR hh KX)
theorem ab_callS {ix n2 d2 kc2 ks2 : Nat} {y2 : AbY} {as : List AbV} {S0 : List AbV} {Q2 : AbO → AbH → Prop} (hM : ab_M l E y2 n2 d2 kc2 ks2 as h Q2) (w : ab_wB y.1.cls ix y2 n2 as.length) (w1 : Cond.static y2.1 ∈ lw_tbl) (hS0 : S0 = as.reverse ++ S) (hd2 : d2 + 1 ≤ d) (hn2 : n2 ≤ 45) (hS9 : (S.map ab_w).sum ≤ 8) (hh : y.2.2.2 = []) (hd : decode y.2.1 pc = .ok (.invokestatic ix, 3))
    (KX : ∀ Xn h', Q2 (.inr Xn) h' → Q (.inr Xn) h') (K : ∀ r h', Q2 (.inl r) h' → ab_T l E y d kc ks (pc + 3) L (r.toList ++ S) h' Q) : ab_T l E y d (kc + kc2) (ks + ks2) pc L S0 h Q := by
  intro p e R s m args below meth c H locs cells slots mc ms ls st X hR hP hl hL hS
  subst hS0
  obtain ⟨hx9, hb, hml, hown, hr, hlk, hnm, htb, hW, ho, hG⟩ := id X
  obtain ⟨us, rest, rfl, hu, hS⟩ := ab_vs_split hS
  have hAs : ab_vs as us.reverse := by have := ab_vs_rev hu; rwa [List.reverse_reverse] at this
  refine ab_back X hR hl hL hS (vx_runS (nL := L.length) (Ts := []) (As := us.reverse) ⟨hx9, hb, hml, hown, fun w hw => by cases hw⟩ hM ⟨ab_cb w hG hW hd2 hn2 ⟨hR.1, hR.2.1⟩, ab_word hG w1 rfl hW args⟩ ⟨ab_blind, fun U hU hWU => ⟨⟨_, rfl, hAs⟩, by rw [hU]; exact hP, State.WarmedH.trans hW hWU⟩⟩ rfl (by rw [ab_vs_len hAs]) hL.1 (by rw [List.reverse_reverse]) (by rw [ab_sum hS]; show 2 * 0 + _ ≤ 8; omega) hd ⟨by have := hR.2.2.1; omega, by have := hR.2.2.2.1; omega⟩) K (ab_out X hR hh KX)
/-- a call that only comes back, as a call that may throw -/
theorem ab_run {p : Program} {e : Env} {R : Room} {s : State} {m : MethodId} {args : Array Value} {below : List Frame} {meth : Method} {c : Code} {H : Heap} {locs : List Loc} {cells slots mc ms : Nat} {g : JFrame} {rest : List Value} {Qa : State → Outcome → State → Prop} {XC : String → State → State → Prop} {free : Addr → Prop} (hr : va_Run p l e R s m args below meth c H locs cells slots mc ms g rest Qa free) : vx_Run p l e R s m args below meth c H locs cells slots mc ms g rest Qa XC free := fun T hT X => Or.inl (hr T hT X)
theorem ab_callI {a ix n2 d2 kc2 ks2 : Nat} {y2 : AbY} {as : List AbV} {S0 : List AbV} {Q2 : AbO → AbH → Prop} (hM : ab_M l E y2 n2 d2 kc2 ks2 (vR a :: as) h Q2) (hx : ∀ Xn h', ¬ Q2 (.inr Xn) h') (w : ab_wB y.1.cls ix y2 n2 as.length) (w1 : Cond.instanceMethod y2.1 ∈ lw_tbl) (hi : y2.1.name = "<init>" ∧ y2.2.2.1 = none) (hS0 : S0 = as.reverse ++ vR a :: S) (hd2 : d2 + 1 ≤ d) (hn2 : n2 ≤ 45) (hS9 : (S.map ab_w).sum ≤ 8) (hd : decode y.2.1 pc = .ok (.invokespecial ix, 3))
    (K : ∀ r h', Q2 (.inl r) h' → ab_T l E y d kc ks (pc + 3) L (r.toList ++ S) h' Q) : ab_T l E y d (kc + kc2) (ks + ks2) pc L S0 h Q := by
  intro p e R s m args below meth c H locs cells slots mc ms ls st X hR hP hl hL hS
  subst hS0
  obtain ⟨hx9, hb, hml, hown, hr, hlk, hnm, htb, hW, ho, hG⟩ := id X
  obtain ⟨us, vs, rfl, hu, w9, rest, rfl, hw9, hS2⟩ := ab_vs_split hS
  cases (show w9 = .ref a from hw9)
  have hAs : ab_vs as us.reverse := by have := ab_vs_rev hu; rwa [List.reverse_reverse] at this
  have cb := ab_cb (args := args) (d := d) (R := R) (d2 := d2) (kc2 := kc2) (ks2 := ks2) w hG hW hd2 hn2 ⟨hR.1, hR.2.1⟩
  have mt := ab_met hM hx
  rw [hi.2] at cb mt
  refine ab_back (Q2 := Q2) X hR hl hL hS2 (ab_run (va_runI (nL := L.length) (Ts := []) (As := us.reverse) (b := a) ⟨hx9, hb, hml, hown, fun w hw => by cases hw⟩ mt ⟨cb, hi.1, ab_word hG w1 rfl hW args⟩ ⟨ab_blind, fun U hU hWU => ⟨⟨_, rfl, _, _, rfl, rfl, hAs⟩, by rw [hU]; exact hP, State.WarmedH.trans hW hWU⟩⟩ rfl (by rw [ab_vs_len hAs]) hL.1 (by rw [List.reverse_reverse]) (by rw [ab_sum hS2]; show 2 * 0 + _ ≤ 8; omega) hd ⟨by have := hR.2.2.1; omega, by have := hR.2.2.2.1; omega⟩)) K (fun Xn h' ce q H1 locs1 h2 => absurd h2 (hx Xn h'))
/-! nest mates -/
def ab_wN (own : String) (ix : Nat) (y2 : AbY) (host : String) (n2 k : Nat) : Prop := Cond.methodLinkNest own ix y2.1 host ∈ lw_tbl ∧ Cond.initialized y2.1.cls ∈ lw_tbl ∧ Cond.code y2.1 y2.2.1 n2 y2.2.2.1 ∈ lw_tbl ∧ (y2.1.cls ≠ "java/lang/invoke/MethodHandle" ∧ y2.1.cls ≠ "java/lang/invoke/VarHandle") ∧ (parseMethodDescriptor y2.1.desc).map (fun d => d.parameters.length) = some k
theorem ab_cn {own host : String} {ix n2 k d2 kc2 ks2 : Nat} {y2 : AbY} {R : Room} {s : State} {args : Array Value} (w : ab_wN own ix y2 host n2 k) (hG : ab_G l E) (hW : E.1.WarmedH s.vm) (hd2 : d2 + 1 ≤ d) (hn2 : n2 ≤ 45) (hR : d ≤ R.frames ∧ 64 * d ≤ R.locals) : va_CN R s args own ix y2.1 host y2.2.1 n2 y2.2.2.1 [Cond.code y2.1 y2.2.1 n2 y2.2.2.1] (ab_rm d2 kc2 ks2) kc2 ks2 k := by
  obtain ⟨w1, w2, w3, w4, w5⟩ := w
  refine ⟨⟨rfl, rfl, by show d2 + 1 ≤ R.frames; omega, by show 8 + (n2 + 11) + 64 * d2 ≤ R.locals; omega, ?_, List.mem_cons_self⟩, ab_word hG w3 rfl hW args, ab_word hG w2 rfl hW args, w4, fun sig hs => ?_, va_Nw.use rfl (va_Nw.warmM hW (ab_nw hG w1 rfl))⟩
  · intro w hw a' U hU
    rw [List.mem_singleton.mp hw]
    exact ab_word hG w3 rfl (State.WarmedH.trans hW hU) a'
  · rw [hs] at w5
    exact (Option.some.inj w5).symm
theorem ab_callIN {a ix n2 d2 kc2 ks2 : Nat} {host : String} {y2 : AbY} {as : List AbV} {S0 : List AbV} {Q2 : AbO → AbH → Prop} (hM : ab_M l E y2 n2 d2 kc2 ks2 (vR a :: as) h Q2) (hx : ∀ Xn h', ¬ Q2 (.inr Xn) h') (w : ab_wN y.1.cls ix y2 host n2 as.length) (w1 : Cond.instanceMethod y2.1 ∈ lw_tbl) (hi : y2.1.name = "<init>" ∧ y2.2.2.1 = none) (hS0 : S0 = as.reverse ++ vR a :: S) (hd2 : d2 + 1 ≤ d) (hn2 : n2 ≤ 45) (hS9 : (S.map ab_w).sum ≤ 8) (hd : decode y.2.1 pc = .ok (.invokespecial ix, 3))
    (K : ∀ r h', Q2 (.inl r) h' → ab_T l E y d kc ks (pc + 3) L (r.toList ++ S) h' Q) : ab_T l E y d (kc + kc2) (ks + ks2) pc L S0 h Q := by
  intro p e R s m args below meth c H locs cells slots mc ms ls st X hR hP hl hL hS
  subst hS0
  obtain ⟨hx9, hb, hml, hown, hr, hlk, hnm, htb, hW, ho, hG⟩ := id X
  obtain ⟨us, vs, rfl, hu, w9, rest, rfl, hw9, hS2⟩ := ab_vs_split hS
  cases (show w9 = .ref a from hw9)
  have hAs : ab_vs as us.reverse := by have := ab_vs_rev hu; rwa [List.reverse_reverse] at this
  have cb := ab_cn (args := args) (d := d) (R := R) (d2 := d2) (kc2 := kc2) (ks2 := ks2) w hG hW hd2 hn2 ⟨hR.1, hR.2.1⟩
  have mt := ab_met hM hx
  rw [hi.2] at cb mt
  refine ab_back (Q2 := Q2) X hR hl hL hS2 (ab_run (va_runIN (nL := L.length) (Ts := []) (As := us.reverse) (b := a) ⟨hx9, hb, hml, hown, fun w hw => by cases hw⟩ mt ⟨cb, hi.1, ab_word hG w1 rfl hW args⟩ ⟨ab_blind, fun U hU hWU => ⟨⟨_, rfl, _, _, rfl, rfl, hAs⟩, by rw [hU]; exact hP, State.WarmedH.trans hW hWU⟩⟩ rfl (by rw [ab_vs_len hAs]) hL.1 (by rw [List.reverse_reverse]) (by rw [ab_sum hS2]; show 2 * 0 + _ ≤ 8; omega) hd ⟨by have := hR.2.2.1; omega, by have := hR.2.2.2.1; omega⟩)) K (fun Xn h' ce q H1 locs1 h2 => absurd h2 (hx Xn h'))
theorem ab_callSN {ix n2 d2 kc2 ks2 : Nat} {host : String} {y2 : AbY} {as : List AbV} {S0 : List AbV} {Q2 : AbO → AbH → Prop} (hM : ab_M l E y2 n2 d2 kc2 ks2 as h Q2) (hx : ∀ Xn h', ¬ Q2 (.inr Xn) h') (w : ab_wN y.1.cls ix y2 host n2 as.length) (w1 : Cond.static y2.1 ∈ lw_tbl) (hS0 : S0 = as.reverse ++ S) (hd2 : d2 + 1 ≤ d) (hn2 : n2 ≤ 45) (hS9 : (S.map ab_w).sum ≤ 8) (hd : decode y.2.1 pc = .ok (.invokestatic ix, 3))
    (K : ∀ r h', Q2 (.inl r) h' → ab_T l E y d kc ks (pc + 3) L (r.toList ++ S) h' Q) : ab_T l E y d (kc + kc2) (ks + ks2) pc L S0 h Q := by
  intro p e R s m args below meth c H locs cells slots mc ms ls st X hR hP hl hL hS
  subst hS0
  obtain ⟨hx9, hb, hml, hown, hr, hlk, hnm, htb, hW, ho, hG⟩ := id X
  obtain ⟨us, rest, rfl, hu, hS⟩ := ab_vs_split hS
  have hAs : ab_vs as us.reverse := by have := ab_vs_rev hu; rwa [List.reverse_reverse] at this
  have cb := ab_cn (args := args) (d := d) (R := R) (d2 := d2) (kc2 := kc2) (ks2 := ks2) w hG hW hd2 hn2 ⟨hR.1, hR.2.1⟩
  refine ab_back (Q2 := Q2) X hR hl hL hS (ab_run (va_runSN (nL := L.length) (Ts := []) (As := us.reverse) ⟨hx9, hb, hml, hown, fun w hw => by cases hw⟩ (ab_met hM hx) ⟨cb, ab_word hG w1 rfl hW args, trivial⟩ ⟨ab_blind, fun U hU hWU => ⟨⟨_, rfl, hAs⟩, by rw [hU]; exact hP, State.WarmedH.trans hW hWU⟩⟩ rfl (by rw [ab_vs_len hAs]) hL.1 (by rw [List.reverse_reverse]) (by rw [ab_sum hS]; show 2 * 0 + _ ≤ 8; omega) hd ⟨by have := hR.2.2.1; omega, by have := hR.2.2.2.1; omega⟩)) K (fun Xn h' ce q H1 locs1 h2 => absurd h2 (hx Xn h'))
/-! Object's own beginning -/
theorem ab_obj {a ix : Nat} (hw : Cond.methodLink y.1.cls ix Lib.objectInit ∈ lw_tbl) (hw2 : Cond.instanceMethod Lib.objectInit ∈ lw_tbl) (hw3 : Cond.code Lib.objectInit ⟨#[0xb1]⟩ 1 none ∈ lw_tbl) (hd1 : 1 ≤ d) (hS9 : (S.map ab_w).sum ≤ 8) (hd : decode y.2.1 pc = .ok (.invokespecial ix, 3)) (K : ab_T l E y d kc ks (pc + 3) L S h Q) : ab_T l E y d kc ks pc L (vR a :: S) h Q := by
  intro p e R s m args below meth c H locs cells slots mc ms ls st X hR hP hl hL hS
  obtain ⟨hx9, hb, hml, hown, hr, hlk, hnm, htb, hW, ho, hG⟩ := id X
  obtain ⟨w9, rest, rfl, hw9, hS⟩ := hS
  cases (show w9 = .ref a from hw9)
  exact W.objInit hx9 hb hown (ab_word hG hw rfl hW args) (ab_word hG hw2 rfl hW args) (ab_word hG hw3 rfl hW args) rfl (hL.1.trans hml.symm) rfl hd (by have := hR.1; omega) (by rw [ab_sum hS]; have := hR.2.1; show 2 * 0 + _ + 12 ≤ R.locals; omega) (K p e R s m args below meth c H locs cells slots mc ms ls _ X hR hP hl hL hS)
end ABK
