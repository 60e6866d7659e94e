/-! from the machine's start to the claim (the frame of it began as the kit's SKELETON) -/
section SA
theorem w180 : (Jvm.Cond.laysStatic "java/lang/Throwable" "UNASSIGNED_STACK" "[Ljava/lang/StackTraceElement;") ∈ lw_tbl := w_in 180 (by decide +kernel)
theorem w182 : (Jvm.Cond.laysStatic "java/lang/Throwable" "SUPPRESSED_SENTINEL" "Ljava/util/List;") ∈ lw_tbl := w_in 182 (by decide +kernel)
theorem w1023 : (Jvm.Cond.laysStatic "WordBench" "ZIMIN" "[I") ∈ lw_tbl := w_in 1023 (by decide +kernel)
def R_law : String := "WordBenchLaw"
def lw_P (b : Addr) (xs : List Int32) (args : Array Value) (s : State) : Prop := args = #[.ref b] ∧ s.IntsAt b xs ∧ xs.length ≤ 3072 ∧ (Jvm.Cond.and given_1 narrow_1).before args s = true
def lw_Q (_ : Array Value) (s : State) (o : Outcome) (t : State) : Prop := o = .returned (some (.int 1)) ∧ Framed s o t [] 601024 7293034
def lw_Z (below : List Frame) (a : Array Value) (s : State) : State → Prop := fun t => ∃ o, t.status = .running ∧ Ended t below o ∧ lw_Q a s o t
def zv (j : Nat) : Value := .int (([0, 1, 0, 2, 0, 1, 0] : List Int32).getD j 0)
theorem zv_ok : ∀ j : Nat, j < 7 → ∃ v : Int32, zv j = .int v ∧ v.toInt = zim (j : Int) := by
  intro j hj
  refine ⟨_, rfl, ?_⟩
  have : j = 0 ∨ j = 1 ∨ j = 2 ∨ j = 3 ∨ j = 4 ∨ j = 5 ∨ j = 6 := by omega
  rcases this with e | e | e | e | e | e | e <;> (subst e; decide)
theorem zim_b (j : Int) : -2147483648 ≤ zim j ∧ zim j < 2147483648 := by
  unfold zim
  split
  · omega
  · split <;> omega
theorem ab_i1 {v : Int32} (h : v.toInt = 1) : v = 1 := Int32.toInt_inj.mp (h.trans (by decide))
theorem whole_w {p : Program} {e : Env} {s : State} {m : MethodId} {below : List Frame} {meth : Method} {c : Code} (l : Launch) (hfl : l.stackTraces = false) {b L : Nat} {xs : Nat → Int32} (hL : L ≤ 3072) (hx : p.tables.exec = Jvm.exec) (hb : c.code = code) (hr : meth.sig.returnType = ret) (hml : c.maxLocals = 7) (hown : s.vm.findClass R_law = some m.cls) (hts : ∀ w ∈ lw_tbl, w.before #[Value.ref b] s = true) (hX : va_X b L xs s s.heap) (hlk : meth.locks = false) (hnm : meth.name = "law") (htb : c.exceptionTable.toList = []) (hgv : (Jvm.Cond.and given_1 narrow_1).before #[Value.ref b] s = true) : W p l e room_1 s m #[Value.ref b] below meth c s.heap [] 0 0 (lw_Z below #[Value.ref b] s) (entryFrame m ([Value.ref b] : List Value).toArray 7) := by
  have fl := flat_of_before _ hgv
  have hA : ∀ a : Nat, a < s.heap.size → ¬ s.heap.size ≤ a := fun a h => Nat.not_le.mpr h
  obtain ⟨c0, i0, k0⟩ := u_known (C := RX1) (T := TX1) (N := 4) (n := 4) hts inX1 (hts _ w881)
  obtain ⟨c1, i1, k1⟩ := u_known (C := RX2) (T := TX2) (N := 1) (n := 1) hts inX2 (hts _ w686)
  obtain ⟨c2, i2, k2⟩ := u_known (C := RX3) (T := TX3) (N := 3) (n := 3) hts inX3 (hts _ w46)
  obtain ⟨c3, i3, k3⟩ := u_known (C := RX4) (T := TX4) (N := 12) (n := 12) hts inX4 (hts _ w65)
  obtain ⟨c4, i4, k4⟩ := u_known (C := RX5) (T := TX5) (N := 7) (n := 7) hts inX5 (hts _ w651)
  obtain ⟨c5, i5, k5⟩ := u_known (C := RX6) (T := TX6) (N := 3) (n := 3) hts inX6 (hts _ w239)
  obtain ⟨c6, i6, k6⟩ := u_known (C := RX7) (T := TX7) (N := 1) (n := 1) hts inX7 (hts _ w630)
  obtain ⟨c7, i7, k7⟩ := u_known (C := RX8) (T := TX8) (N := 0) (n := 0) hts inX8 (hts _ w696)
  obtain ⟨c8, i8, k8⟩ := u_known (C := RX9) (T := TX9) (N := 9) (n := 9) hts inX9 (hts _ w32)
  obtain ⟨c9, i9, k9⟩ := u_known (C := RX10) (T := TX10) (N := 48) (n := 48) hts inX10 (hts _ w1050)
  obtain ⟨dC, dI, hKc⟩ : ∃ (dC : Nat → ClassId) (dI : Nat → Nat → Nat), ∀ (k : Nat) (q : vw_C), ab_cl[k]? = some q → u_Kn s q.1 q.2.1 q.2.2 (dC k) (dI k) := by
    refine ⟨fun k => ([c0, c1, c2, c3, c4, c5, c6, c7, c8, c9] : List ClassId).getD k c0, fun k => ([i0, i1, i2, i3, i4, i5, i6, i7, i8, i9] : List (Nat → Nat)).getD k i0, ?_⟩
    intro k q hq
    match k, hq with
    | 0, hq => cases hq; exact k0
    | 1, hq => cases hq; exact k1
    | 2, hq => cases hq; exact k2
    | 3, hq => cases hq; exact k3
    | 4, hq => cases hq; exact k4
    | 5, hq => cases hq; exact k5
    | 6, hq => cases hq; exact k6
    | 7, hq => cases hq; exact k7
    | 8, hq => cases hq; exact k8
    | 9, hq => cases hq; exact k9
    | k + 10, hq => simp [ab_cl] at hq
  have hK : va_K (dC, dI) ab_cl [] s := ⟨hKc, fun k q h => by simp at h⟩
  have hU : vx_Zq Bundle.tN "UNASSIGNED_STACK" Bundle.steD (fun q => s.heap.size ≤ q) s s.heap := vx_Zqof (hts _ w180) (hts _ w6) (fl _ (by decide +kernel)) hA
  have hV : vx_Zq Bundle.tN "SUPPRESSED_SENTINEL" Bundle.listD (fun q => s.heap.size ≤ q) s s.heap := vx_Zqof (hts _ w182) (hts _ w6) (fl _ (by decide +kernel)) hA
  have hG : ab_G l (s, #[Value.ref b], dC, dI) := ⟨hfl, hts, hK, hU, hV, hgv⟩
  obtain ⟨zz, hev, hT⟩ := va_Tof (tm := .static "WordBench" "ZIMIN" "[I") (ty := .int) (N := 7) (f := zv) (A := fun q => s.heap.size ≤ q) (args := #[Value.ref b]) (s := s) (by decide) (fl _ (by decide +kernel)) (va_eqt (fl _ (by decide +kernel))) (fun j hj => by
      have : j = 0 ∨ j = 1 ∨ j = 2 ∨ j = 3 ∨ j = 4 ∨ j = 5 ∨ j = 6 := by omega
      rcases this with e | e | e | e | e | e | e <;> (subst e; exact va_eqt (fl _ (by decide +kernel)))) hA
  have hzm : ab_zim (s, #[Value.ref b], dC, dI) zz := va_Zref (hts _ w1023) (hts _ w1) hev hA
  obtain ⟨scr, x1, x2, x3, x4, x5⟩ := hX
  obtain ⟨cz, z1, z2, z3, z4, z5, z6, -⟩ := hT
  have cZ : ab_c (s, #[Value.ref b], dC, dI) zz (kI 1 7 zim) s.heap := ⟨⟨cz, z1, z2, z3, ⟨fun g => absurd g (by decide), z4, z5⟩, by decide, fun j hj => ⟨_, z6 j hj, zv_ok j hj⟩⟩, fun g => absurd g (by decide)⟩
  have key : ∀ (h0 : AbH) (gs N : Nat) (f : Int → Int), (∀ j : Int, 0 ≤ j → j < N → -2147483648 ≤ f j ∧ f j < 2147483648) → N ≤ 3072 → gs ≤ 1 → h0 b = some (kI gs N f) → h0 zz = some (kI 1 7 zim) → (∀ (a : Nat) (c : AbC), h0 a = some c → ab_c (s, #[Value.ref b], dC, dI) a c s.heap ∧ c.1 ≤ 1) → W p l e room_1 s m #[Value.ref b] below meth c s.heap [] 0 0 (lw_Z below #[Value.ref b] s) (entryFrame m ([Value.ref b] : List Value).toArray 7) := by
    intro h0 gs N f hbd hN hgs hs hz hh
    have K := law_0 hG hzm hbd hN hgs hs hz
    rw [lg_entry_eq]
    have hE : ab_l [some (vR b), none, none, none, none, none, none] ((lg_sl ([Value.ref b] : List Value) ++ List.replicate (7 - (lg_sl ([Value.ref b] : List Value)).length) Slot.unset).toArray) := ab_entry (as := [vR b]) (ws := [.ref b]) (n := 7) ⟨.ref b, [], rfl, rfl, rfl⟩ (Nat.le_of_ble_eq_true rfl)
    have W9 := K p e room_1 s m #[Value.ref b] below meth c s.heap [] 0 0 601024 7293034 _ [] ⟨hx, hb, hml, hown, hr, hlk, hnm, htb, State.WarmedH.refl _, ⟨Nat.le_refl _, fun _ _ => rfl⟩, hG⟩ ⟨by decide, by decide, by decide, by decide, by decide, by decide⟩ ⟨⟨Nat.le_refl _, fun _ _ => rfl⟩, fun a c9 hc => ⟨(hh a c9 hc).1, fun g => by have := (hh a c9 hc).2; omega⟩⟩ (fun z hz => by cases hz) hE rfl
    intro T hT X9
    obtain ⟨t, a1, o, b1, b2, b3⟩ := W9 T hT X9
    rcases b3 with ⟨⟨v, r, h', d1, d2, d3, d4⟩, LL, fe, hf⟩ | ⟨q, d1, X9, ce, LL, ⟨h', d2, d3⟩, d4⟩
    · cases (show (Sum.inl r : AbO) = .inl (some (vI 1)) from d4)
      obtain ⟨w, rfl, u, rfl, hu⟩ := d2
      obtain rfl := ab_i1 hu
      exact ⟨t, a1, o, b1, b2, d1, ⟨_, d1⟩, fe.2.1, State.sameButNew.drop_fresh (L := []) fe.2.2 hf⟩
    · cases (show (Sum.inr X9 : AbO) = .inl (some (vI 1)) from d3)
  by_cases e : b = zz
  · subst e
    have e1 := Option.some.inj (x1.symm.trans z1)
    subst e1
    have e7 : L = 7 := by
      have := congrArg Int32.toInt z5
      rw [x4, ab_len32 (by omega), show (Int32.ofNat 7).toInt = 7 by decide] at this
      omega
    exact key (fun a => if a = b then some (kI 1 7 zim) else none) 1 7 zim (fun j _ _ => zim_b j) (by decide) (Nat.le_refl _) (if_pos rfl) (if_pos rfl) (fun a c9 hc => by by_cases e2 : a = b; (rw [if_pos e2] at hc; cases hc; rw [e2]; exact ⟨cZ, Nat.le_refl _⟩); (rw [if_neg e2] at hc; cases hc))
  · have cB : ab_c (s, #[Value.ref b], dC, dI) b (kI 0 L (fun j => (xs j.toNat).toInt)) s.heap := ⟨⟨scr, x1, x2, x3, ⟨fun g => absurd g (by show ¬ 2 ≤ 0; omega), Nat.le_of_eq x4.symm, by rw [x4]⟩, by show L < 2147483648; omega, fun j hj => ⟨_, x5 j hj, xs j, rfl, by show (xs j).toInt = (xs ((j : Int).toNat)).toInt; rw [Int.toNat_natCast]⟩⟩, fun g => absurd g (by show ¬ 2 ≤ 0; omega)⟩
    exact key (fun a => if a = b then some (kI 0 L (fun j => (xs j.toNat).toInt)) else if a = zz then some (kI 1 7 zim) else none) 0 L _ (fun j _ _ => ab_rg _) hL (Nat.zero_le _) (if_pos rfl) ((if_neg (fun k => e k.symm)).trans (if_pos rfl)) (fun a c9 hc => by
      by_cases e2 : a = b
      · rw [if_pos e2] at hc; cases hc; rw [e2]; exact ⟨cB, Nat.zero_le _⟩
      · rw [if_neg e2] at hc
        by_cases e3 : a = zz
        · rw [if_pos e3] at hc; cases hc; rw [e3]; exact ⟨cZ, Nat.le_refl _⟩
        · rw [if_neg e3] at hc; cases hc)
set_option maxHeartbeats 4000000 in
theorem lw_walk (l : Launch) (hfl : l.stackTraces = false) (b : Addr) (xs : List Int32) : MetFree l x (headSpec (Jvm.Cond.code x code maxLocals ret :: tables_1) room_1) (lw_P b xs) (fun _ _ _ _ _ => True) lw_Q := by
  refine MetFree.of_bodyS (code := code) (maxLocals := maxLocals) (ret := ret) (by decide) ?_ ?_
  · intro args s m h hn
    obtain ⟨meth, c, h1, h2, h3, h4, h5, h6, -, -⟩ := Cond.code_spec hn (atoms_spec (ws := Jvm.Cond.code x code maxLocals ret :: tables_1) h _ List.mem_cons_self)
    exact ⟨meth, c, h1, h2, h3, h4, h5, h6⟩
  · intro p e s m args below meth c s₁ B hml0 hP _
    obtain ⟨rfl, hx, hbd, hgv⟩ := hP
    obtain ⟨scr, harrAt, hlist, hof, hsmall⟩ := hx
    obtain ⟨hcb, hkn, -, -⟩ := State.arrayAt?_spec harrAt
    have hown : s.vm.findClass R_law = some m.cls := findClass_of_methodNamed B.named
    have hts0 : ∀ c ∈ (Jvm.Cond.code x code maxLocals ret :: tables_1), c.before #[Value.ref b] s = true := atoms_spec (ws := Jvm.Cond.code x code maxLocals ret :: tables_1) B.pre
    have hts : ∀ w ∈ lw_tbl, w.before #[Value.ref b] s = true := k2_hts_sels lw_privs (fun w hw => hts0 w (List.mem_cons_of_mem _ hw)) lw_privs_ok
    have hml : c.maxLocals = 7 := B.maxLocals_eq (hts0 _ List.mem_cons_self)
    have htb : c.exceptionTable.toList = [] := by
      obtain ⟨meth9, c9, h1, h2, -, -, -, -, h7, -⟩ := Cond.code_spec B.named (hts0 _ List.mem_cons_self)
      cases Option.some.inj (h1.symm.trans B.method)
      cases Option.some.inj (h2.symm.trans (Stand.of_body B).code)
      rw [Array.isEmpty_iff.mp h7]
    have X₀ : Stand p l e room_1 s m #[Value.ref b] below meth c s₁ [] 0 0 := Stand.of_body B
    have hh0 : s₁.heap = s.heap := by rw [B.state]; rfl
    have hsz : scr.slots.size = xs.length := by rw [← Array.length_toList, hlist, List.length_map]
    have hval : ∀ j : Nat, j < xs.length → scr.slots[j]? = some (.int (xs.getD j 0)) := fun j hj => by
      rw [← Array.getElem?_toList, hlist]
      simp [hj]
    have hbl : b < s.heap.size := (Array.getElem?_eq_some_iff.mp hcb).1
    have hX : va_X b xs.length (fun j => xs.getD j 0) s s.heap := ⟨scr, hcb, hof, hkn, hsz, hval⟩
    have K : W p l e room_1 s m #[Value.ref b] below meth c s₁.heap [] 0 0 (lw_Z below #[Value.ref b] s) (entryFrame m ([Value.ref b] : List Value).toArray 7) := by
      rw [hh0]
      exact whole_w l hfl hbd B.exec B.bytes B.returns hml hown hts hX B.notSynchronized (name_of_methodNamed B.named B.method).1 htb hgv
    obtain ⟨t, a1, o, b1, b2, b3⟩ := K s₁ rfl X₀
    exact ⟨t, o, a1, b1, b2, b3⟩
theorem lw_pre_spec {args : Array Value} {s : State} (h : (Jvm.Cond.and given_1 narrow_1).before args s = true) (hr : rest_1_c.before args s = true) : ∃ (b : Addr) (xs : List Int32), lw_P b xs args s := by
  have hs := flat_of_before _ h
  have hq := flat_of_before _ hr
  have hc : (Cond.count 1).before args s = true := hs _ (by decide +kernel)
  have harr : (Cond.arrayOf (.arg 0) .int).before args s = true := hs _ (by decide +kernel)
  have hle : (Cond.le (.length (.arg 0)) (.int 3072)).before args s = true := hs _ (by decide +kernel)
  have hlen : (Cond.isInt (.length (.arg 0))).before args s = true := hq _ (by decide +kernel)
  have hall : (Cond.all (.arg 0) (.isInt (.elem (.arg 0) (.index 0)))).before args s = true := hq _ (by decide +kernel)
  obtain ⟨b, xs, hb, hx⟩ := State.ints_of_pre rfl harr hlen hall
  have hsm : xs.length < 2 ^ 31 := hx.choose_spec.2.2.2
  have hev : (Term.length (.arg 0)).eval args s none [] s = some (.int xs.length.toInt32) := hx.length_eval hb
  have hv := Cond.le_ints hev (show (Term.int 3072).eval args s none [] s = some (.int 3072) from rfl)
  have hd : xs.length.toInt32 ≤ 3072 := by
    simpa [Cond.before, Cond.holds, hv] using hle
  have hN : xs.length ≤ 3072 := (Int32.ofNat_le_ofNat hsm (by decide)).mp (show Int32.ofNat xs.length ≤ Int32.ofNat 3072 from hd)
  exact ⟨b, xs, Cond.one_arg hc (show args[0]? = some (.ref b) from hb), hx, hN, h⟩
theorem lw_comes (l : Launch) (hfl : l.stackTraces = false) : Jvm.D.Comes l x (Jvm.Cond.code x code maxLocals ret :: tables_1) room_1 (fun tb e args s => Calls_1 tb e args s ∧ rest_1 tb e args s ∧ Pre_1 tb e args s)
    (fun _ _ args s o t => lw_Q args s o t) := by
  intro p e ha hc hk s m args below hf hfit hheap happ hpre
  obtain ⟨b, xs, hP⟩ := lw_pre_spec hpre.2.2 hpre.2.1
  obtain ⟨k, o, h1, h2, h3, hQ⟩ := lw_walk l hfl b xs p e ha hc hk s m args below hf ((Spec.applies_iff_loose hf).mp happ).1 hP trivial
  exact ⟨k, o, h1, h2, h3, hQ⟩
theorem lw_frame {s t : State} {o : Outcome} {args : Array Value} (h : Framed s o t [] 601024 7293034) :
    Framed s o t (fieldLocs frame_1_writes args s ++ arrayLocs frame_1_arrays args s ++ staticLocs frame_1_statics s) 601024 7293034 := h
theorem lw_limb (L : Cond) (hL : ∀ (args : Array Value) (s t : State), L.after args s (.returned (some (.int 1))) t = true) :
    ArmFor flags0 classFile x code maxLocals ret World_1 tables_1 room_1 Calls_1 rest_1 Pre_1
      (fun tb e a s o t => postC L tb e a s o t ∧ Framed s o t (fieldLocs frame_1_writes a s ++ arrayLocs frame_1_arrays a s ++ staticLocs frame_1_statics s) 601024 7293034) := by
  intro l hfl _ _ p e ha hc hk s m args below hf hfit hheap happ hpre
  obtain ⟨k, o, h1, h2, h3, rfl, hF⟩ := lw_comes l (by unfold Launch.stackTraces; rw [hfl]; decide) p e ha hc hk s m args below hf hfit hheap happ hpre
  exact ⟨k, _, h1, h2, h3, hL args s _, lw_frame hF⟩
theorem i_vc : Claimed_1_1 ∧ Claimed_1_2 := ⟨lw_limb limb_1_1 (fun args s t => by simp [limb_1_1, Cond.after, Cond.holds, Cond.value]), lw_limb limb_1_2 (fun args s t => Cond.after_iff.mpr (by
  first | (rw [show limb_1_2 = Cond.eq .result (.int 1) from rfl, Cond.eq_ints (x := 1) (y := 1) rfl rfl]; simp; done) | (simp [limb_1_2, Cond.value, Term.eval]; done)))⟩
end SA
