/-! the class: a search begins; how many -/
section C8
variable {l : Launch} {E : AbE} {h0 : AbH}
theorem ab_instZ {y : AbY} {d kc ks pc ix : Nat} {L : List (Option AbV)} {S : List AbV} {h : AbH} {Q : AbO → AbH → Prop} (hd : decode y.2.1 pc = .ok (.instanceof ix, 3)) (K : ab_T l E y d kc ks (pc + 3) L (vI 0 :: S) h Q) : ab_T l E y d kc ks pc L (vN :: S) h Q := by
  intro p e R s m args below meth c H locs cells slots mc ms ls st X hR hP hl hL hS T hT XX
  obtain ⟨hx9, hb, hml, hown, hr, hlk, hnm, htb, hW, ho, hG⟩ := id X
  obtain ⟨w9, rest, rfl, hw9, hS⟩ := hS
  cases (show w9 = .null from hw9)
  obtain ⟨t, a1, b⟩ := K p e R s m args below meth c H locs cells slots mc ms ls _ X hR hP hl hL ⟨_, _, rfl, ⟨0, rfl, rfl⟩, hS⟩ T hT XX
  exact ⟨t, XX.instanceofNull hx9 (g := F0 m pc ls (.null :: rest)) rfl rfl (by rw [hb]; exact hd) _ a1, b⟩
theorem c_instA {y : AbY} {d kc ks pc ix : Nat} {L : List (Option AbV)} {S : List AbV} {h : AbH} {Q : AbO → AbH → Prop} {a g : Nat} {F : Nat → Int → Int} {q : Int} (lc : lawC h g a F q) (hw : Cond.classLink y.1.cls ix "WordBench$ShapeLaw" ∈ lw_tbl) (hd : decode y.2.1 pc = .ok (.instanceof ix, 3)) (K : ∀ v : Int, (v = 1 ∧ F 8 q = 5) ∨ (v = 0 ∧ F 8 q ≠ 5) → ab_T l E y d kc ks (pc + 3) L (vI v :: S) h Q) : ab_T l E y d kc ks pc L (vR a :: S) h Q := by
  rcases lc with ⟨c, b, t, c1, c2, c3⟩ | ⟨c, c1⟩ | ⟨c, c1⟩ | ⟨c, c1⟩ | ⟨c, c1⟩ | ⟨c, t, c1, c2⟩
  · exact ab_instN (nm := "WordBench$ShapeLaw") c1 rfl hw (by decide +kernel) hd (K 0 (Or.inr ⟨rfl, by omega⟩))
  · exact ab_instN (nm := "WordBench$ShapeLaw") c1 rfl hw (by decide +kernel) hd (K 0 (Or.inr ⟨rfl, by omega⟩))
  · exact ab_instN (nm := "WordBench$ShapeLaw") c1 rfl hw (by decide +kernel) hd (K 0 (Or.inr ⟨rfl, by omega⟩))
  · exact ab_instN (nm := "WordBench$ShapeLaw") c1 rfl hw (by decide +kernel) hd (K 0 (Or.inr ⟨rfl, by omega⟩))
  · exact ab_instN (nm := "WordBench$ShapeLaw") c1 rfl hw (by decide +kernel) hd (K 0 (Or.inr ⟨rfl, by omega⟩))
  · obtain ⟨b1, b2, b3, b4, b5, tl, bs, tm, en, st, s0, _⟩ := c1
    exact ab_instY s0 rfl hw hd (K 1 (Or.inl ⟨rfl, c⟩))
theorem c_instO {y : AbY} {d kc ks pc ix N9 mb : Nat} {SA : Int → Option Nat} {G i : Int} {L : List (Option AbV)} {S : List AbV} {h : AbH} {Q : AbO → AbH → Prop} {F : Nat → Int → Int} (lr : lawsR h N9 SA G mb F) (i0 : 0 ≤ i) (i1 : i < N9) (hw : Cond.classLink y.1.cls ix "WordBench$ShapeLaw" ∈ lw_tbl) (hd : decode y.2.1 pc = .ok (.instanceof ix, 3)) (K : ∀ v : Int, (v = 1 ∧ i < G ∧ F 8 i = 5) ∨ (v = 0 ∧ ¬ (i < G ∧ F 8 i = 5)) → ab_T l E y d kc ks (pc + 3) L (vI v :: S) h Q) : ab_T l E y d kc ks pc L (vO (SA i) :: S) h Q := by
  by_cases g : i < G
  · obtain ⟨a, ea, lc⟩ := (lr i i0 i1).1 g
    rw [ea]
    exact c_instA lc hw hd (fun v hv => K v (by omega))
  · rw [(lr i i0 i1).2 (by omega)]
    exact ab_instZ hd (K 0 (Or.inr ⟨rfl, fun k => g k.1⟩))
theorem c_hasShape_2 {sr mk la gl N9 mb : Nat} {SA : Int → Option Nat} {F : Nat → Int → Int} {G e al n co lk fo lg sz nx bg : Int} (lr : lawsR h0 N9 SA G mb F) (N12 : N9 ≤ 12) (GN : G ≤ N9) (hs : h0 sr = some (kO 8 3 [vR mk, vR la, vI e, vI al, vI n, vI co, vI lk, vI fo, vI lg, vI sz, vI nx, vI bg])) (hl : h0 la = some (kA gl "WordBench$Law" N9 SA))  (fu : Nat) : ∀ (i : Int), (N9 - i).toNat < fu → (0 ≤ i) → (i ≤ N9) → (∀ p : Int, 0 ≤ p → p < i → p < G → inS e p → F 8 p ≠ 5) → ab_T l E Y_X4_hasShape 0 0 0 2 [some (vR sr), some (vI i)] [] h0 (pC h0 (fun v => (v = 1 ∧ ∃ p : Int, 0 ≤ p ∧ p < G ∧ inS e p ∧ F 8 p = 5) ∨ (v = 0 ∧ ∀ p : Int, 0 ≤ p → p < G → inS e p → F 8 p ≠ 5))) := by
  induction fu with
  | zero => intro i hm; exact absurd hm (Nat.not_lt_zero _)
  | succ fu ih =>
    intro i hm i0 i1 I
    refine ab_iload_n (pc := 2) dX4_hasShape_2 rfl ?_
    refine ab_aload_n (pc := 3) dX4_hasShape_3 rfl ?_
    refine ab_get (pc := 4) (k := 1) okX4 hs rfl w72 rfl dX4_hasShape_4 ?_
    refine ab_alenA (pc := 7) hl dX4_hasShape_7 ?_
    refine ab_icmp_ge (pc := 8) 42 dX4_hasShape_8 (by decide) (fun c8 => ?_) (fun c8 => ?_)
    · refine ab_iconst (pc := 42) dX4_hasShape_42 (by decide) ?_
      refine ab_zret (pc := 43) dX4_hasShape_43 rfl (by omega) ?_
      exact ⟨_, rfl, rfl, Or.inr ⟨rfl, fun p p0 pG pS => I p p0 (by omega) pG pS⟩⟩
    · refine ab_aload_n (pc := 11) dX4_hasShape_11 rfl ?_
      refine ab_get (pc := 12) (k := 2) okX4 hs rfl w73 rfl dX4_hasShape_12 ?_
      refine ab_iload_n (pc := 15) dX4_hasShape_15 rfl ?_
      refine ab_ishr (pc := 16) dX4_hasShape_16 ?_
      refine ab_iconst (pc := 17) dX4_hasShape_17 (by decide) ?_
      refine ab_iand (pc := 18) dX4_hasShape_18 ?_
      refine ab_if_eq (pc := 19) 36 dX4_hasShape_19 (by decide) (fun c19 => ?_) (fun c19 => ?_)
      · refine ab_iinc (pc := 36) dX4_hasShape_36 rfl rfl (by decide) (by omega) (by omega) ?_
        refine ab_goto (pc := 39) 2 dX4_hasShape_39 (by decide) ?_
        refine ih (i + 1) (by omega) (by omega) (by omega) (fun p p0 p1 pG pS => ?_)
        by_cases g9 : p = i
        · subst g9
          first | exact absurd pS (not_inS c19) | (intro f5; have : p < G ∧ F 8 p = 5 := ⟨pG, f5⟩; omega)
        · exact I p p0 (by omega) pG pS
      · refine ab_aload_n (pc := 22) dX4_hasShape_22 rfl ?_
        refine ab_get (pc := 23) (k := 1) okX4 hs rfl w72 rfl dX4_hasShape_23 ?_
        refine ab_iload_n (pc := 26) dX4_hasShape_26 rfl ?_
        refine ab_aald (pc := 27) hl (by omega) (by omega) dX4_hasShape_27 ?_
        refine c_instO (pc := 28) lr i0 (by omega) w822 dX4_hasShape_28 (fun iv hiv => ?_)
        refine ab_if_eq (pc := 31) 36 dX4_hasShape_31 (by decide) (fun c31 => ?_) (fun c31 => ?_)
        · refine ab_iinc (pc := 36) dX4_hasShape_36 rfl rfl (by decide) (by omega) (by omega) ?_
          refine ab_goto (pc := 39) 2 dX4_hasShape_39 (by decide) ?_
          refine ih (i + 1) (by omega) (by omega) (by omega) (fun p p0 p1 pG pS => ?_)
          by_cases g9 : p = i
          · subst g9
            first | exact absurd pS (not_inS c19) | (intro f5; have : p < G ∧ F 8 p = 5 := ⟨pG, f5⟩; omega)
          · exact I p p0 (by omega) pG pS
        · refine ab_iconst (pc := 34) dX4_hasShape_34 (by decide) ?_
          refine ab_zret (pc := 35) dX4_hasShape_35 rfl (by omega) ?_
          exact ⟨_, rfl, rfl, Or.inl ⟨rfl, i, i0, by omega, and_ne c19, by omega⟩⟩
theorem c_hasShape (hG : ab_G l E) {sr mk la gl N9 mb : Nat} {SA : Int → Option Nat} {F : Nat → Int → Int} {G e al n co lk fo lg sz nx bg : Int} (hs : h0 sr = some (kO 8 3 [vR mk, vR la, vI e, vI al, vI n, vI co, vI lk, vI fo, vI lg, vI sz, vI nx, vI bg])) (hl : h0 la = some (kA gl "WordBench$Law" N9 SA)) (lr : lawsR h0 N9 SA G mb F) (N12 : N9 ≤ 12) (GN : G ≤ N9) : ab_M l E Y_X4_hasShape 2 0 0 0 [vR sr] h0 (pC h0 (fun v => (v = 1 ∧ ∃ p : Int, 0 ≤ p ∧ p < G ∧ inS e p ∧ F 8 p = 5) ∨ (v = 0 ∧ ∀ p : Int, 0 ≤ p → p < G → inS e p → F 8 p ≠ 5))) := by
  refine ab_M.of (L0 := [some (vR sr), none]) hG rfl rfl (Nat.le_of_ble_eq_true rfl) rfl ?_
  refine ab_iconst (pc := 0) dX4_hasShape_0 (by decide) ?_
  refine ab_istore_n (pc := 1) dX4_hasShape_1 rfl (Nat.le_of_ble_eq_true rfl) ?_
  exact c_hasShape_2 lr N12 GN hs hl _ 0 (Nat.lt_succ_self _) (by omega) (by omega) (fun p p0 p1 => absurd p1 (by omega))
theorem c_forget (hG : ab_G l E) {sr mk : Nat} {la9 : Option Nat} {e al n co lk fo lg sz nx bg : Int} (hs : h0 sr = some (kO 8 3 [vR mk, vO la9, vI e, vI al, vI n, vI co, vI lk, vI fo, vI lg, vI sz, vI nx, vI bg])) : ab_M l E Y_X4_forgetLooks 1 0 0 0 [vR sr] h0 (cC h0 [8] (fun r h' => r = none ∧ h' sr = some (kO 8 3 [vR mk, vO la9, vI e, vI al, vI n, vI co, vI 0, vI fo, vI lg, vI sz, vI nx, vI bg]))) := by
  refine ab_M.of (L0 := [some (vR sr)]) hG rfl rfl (Nat.le_of_ble_eq_true rfl) rfl ?_
  have kp : ab_kp (cP [8]) h0 h0 := ab_kp0
  refine ab_aload_n (pc := 0) dX4_forgetLooks_0 rfl ?_
  refine ab_iconst (pc := 1) dX4_forgetLooks_1 (by decide) ?_
  refine ab_putG (pc := 2) (k := 6) okX4 hs (by decide) (by decide) trivial w77 rfl (Or.inl rfl) dX4_forgetLooks_2 (fun h e9 n9 => ?_)
  replace kp := kp.wr hs (cP_no (by simp)) n9
  replace hs := e9
  clear e9 n9
  refine ab_vret (pc := 5) dX4_forgetLooks_5 rfl ?_
  exact ⟨_, rfl, kp, rfl, hs⟩
theorem c_begin (hG : ab_G l E) {sr mk la gl N9 mb : Nat} {la9 : Option Nat} {SA : Int → Option Nat} {F : Nat → Int → Int} {G e al n e1 al1 n1 co lk fo lg sz nx bg : Int} (hs : h0 sr = some (kO 8 3 [vR mk, vO la9, vI e1, vI al1, vI n1, vI co, vI lk, vI fo, vI lg, vI sz, vI nx, vI bg])) (hl : h0 la = some (kA gl "WordBench$Law" N9 SA)) (lr : lawsR h0 N9 SA G mb F) (m0 : 201 ≤ mb) (gl8 : gl ≠ 8) (N12 : N9 ≤ 12) (GN : G ≤ N9) : ab_M l E Y_X4_begin 5 1 0 0 [vR sr, vR la, vI e, vI al, vI n] h0 (cC h0 [8] (fun r h' => r = none ∧ ∃ co : Int, costUp F e G co ∧ h' sr = some (kO 8 3 [vR mk, vR la, vI e, vI al, vI n, vI co, vI lk, vI 0, vI 0, vI 0, vI 0, vI 0]))) := by
  refine ab_M.of (L0 := [some (vR sr), some (vR la), some (vI e), some (vI al), some (vI n)]) hG rfl rfl (Nat.le_of_ble_eq_true rfl) rfl ?_
  have kp : ab_kp (cP [8]) h0 h0 := ab_kp0
  refine ab_aload_n (pc := 0) dX4_begin_0 rfl ?_
  refine ab_aload_n (pc := 1) dX4_begin_1 rfl ?_
  refine ab_putG (pc := 2) (k := 1) okX4 hs (by decide) (by decide) trivial w72 rfl (Or.inl rfl) dX4_begin_2 (fun h e9 n9 => ?_)
  replace hl := (n9 _ (ab_ne hl hs (by first | (simp; done) | (simp; omega)))).trans hl
  replace lr := lr.kp (ab_kp_wr1 hs n9) (fun j j0 j1 => (by unfold cP; first | (simp; done) | (simp; omega)))
  replace kp := kp.wr hs (cP_no (by simp)) n9
  replace hs := e9
  clear e9 n9
  refine ab_aload_n (pc := 5) dX4_begin_5 rfl ?_
  refine ab_iload_n (pc := 6) dX4_begin_6 rfl ?_
  refine ab_putG (pc := 7) (k := 2) okX4 hs (by decide) (by decide) trivial w73 rfl (Or.inl rfl) dX4_begin_7 (fun h e9 n9 => ?_)
  replace hl := (n9 _ (ab_ne hl hs (by first | (simp; done) | (simp; omega)))).trans hl
  replace lr := lr.kp (ab_kp_wr1 hs n9) (fun j j0 j1 => (by unfold cP; first | (simp; done) | (simp; omega)))
  replace kp := kp.wr hs (cP_no (by simp)) n9
  replace hs := e9
  clear e9 n9
  refine ab_aload_n (pc := 10) dX4_begin_10 rfl ?_
  refine ab_iload_n (pc := 11) dX4_begin_11 rfl ?_
  refine ab_putG (pc := 12) (k := 3) okX4 hs (by decide) (by decide) trivial w74 rfl (Or.inl rfl) dX4_begin_12 (fun h e9 n9 => ?_)
  replace hl := (n9 _ (ab_ne hl hs (by first | (simp; done) | (simp; omega)))).trans hl
  replace lr := lr.kp (ab_kp_wr1 hs n9) (fun j j0 j1 => (by unfold cP; first | (simp; done) | (simp; omega)))
  replace kp := kp.wr hs (cP_no (by simp)) n9
  replace hs := e9
  clear e9 n9
  refine ab_aload_n (pc := 15) dX4_begin_15 rfl ?_
  refine ab_iload (pc := 16) dX4_begin_16 rfl ?_
  refine ab_putG (pc := 18) (k := 4) okX4 hs (by decide) (by decide) trivial w75 rfl (Or.inl rfl) dX4_begin_18 (fun h e9 n9 => ?_)
  replace hl := (n9 _ (ab_ne hl hs (by first | (simp; done) | (simp; omega)))).trans hl
  replace lr := lr.kp (ab_kp_wr1 hs n9) (fun j j0 j1 => (by unfold cP; first | (simp; done) | (simp; omega)))
  replace kp := kp.wr hs (cP_no (by simp)) n9
  replace hs := e9
  clear e9 n9
  refine ab_aload_n (pc := 21) dX4_begin_21 rfl ?_
  refine ab_aload_n (pc := 22) dX4_begin_22 rfl ?_
  refine ab_callV (pc := 23) (c_hasShape hG hs hl lr N12 GN) hs rfl ⟨w818, w4, w821, by decide, pd20⟩ w820 sp13 rfl (by decide) (by decide) (Nat.le_of_ble_eq_true rfl) rfl dX4_begin_23 (fun _ _ hx => absurd hx pC_no) ?_
  rintro _ _ ⟨hv9, e9, rfl, hh9⟩
  cases e9
  refine ab_via (S := [vR sr]) 35 (fun cv : Int => costUp F e G cv) (fun cv hcv => ?_) (fun J35 => ?_)
  · refine ab_putG (pc := 35) (k := 5) okX4 hs (by decide) (by decide) trivial w76 rfl (Or.inl rfl) dX4_begin_35 (fun h e9 n9 => ?_)
    replace hl := (n9 _ (ab_ne hl hs (by first | (simp; done) | (simp; omega)))).trans hl
    replace lr := lr.kp (ab_kp_wr1 hs n9) (fun j j0 j1 => (by unfold cP; first | (simp; done) | (simp; omega)))
    replace kp := kp.wr hs (cP_no (by simp)) n9
    replace hs := e9
    clear e9 n9
    refine ab_aload_n (pc := 38) dX4_begin_38 rfl ?_
    refine ab_iconst (pc := 39) dX4_begin_39 (by decide) ?_
    refine ab_putG (pc := 40) (k := 7) okX4 hs (by decide) (by decide) trivial w79 rfl (Or.inl rfl) dX4_begin_40 (fun h e9 n9 => ?_)
    replace hl := (n9 _ (ab_ne hl hs (by first | (simp; done) | (simp; omega)))).trans hl
    replace lr := lr.kp (ab_kp_wr1 hs n9) (fun j j0 j1 => (by unfold cP; first | (simp; done) | (simp; omega)))
    replace kp := kp.wr hs (cP_no (by simp)) n9
    replace hs := e9
    clear e9 n9
    refine ab_aload_n (pc := 43) dX4_begin_43 rfl ?_
    refine ab_iconst (pc := 44) dX4_begin_44 (by decide) ?_
    refine ab_putG (pc := 45) (k := 8) okX4 hs (by decide) (by decide) trivial w81 rfl (Or.inl rfl) dX4_begin_45 (fun h e9 n9 => ?_)
    replace hl := (n9 _ (ab_ne hl hs (by first | (simp; done) | (simp; omega)))).trans hl
    replace lr := lr.kp (ab_kp_wr1 hs n9) (fun j j0 j1 => (by unfold cP; first | (simp; done) | (simp; omega)))
    replace kp := kp.wr hs (cP_no (by simp)) n9
    replace hs := e9
    clear e9 n9
    refine ab_aload_n (pc := 48) dX4_begin_48 rfl ?_
    refine ab_iconst (pc := 49) dX4_begin_49 (by decide) ?_
    refine ab_putG (pc := 50) (k := 9) okX4 hs (by decide) (by decide) trivial w83 rfl (Or.inl rfl) dX4_begin_50 (fun h e9 n9 => ?_)
    replace hl := (n9 _ (ab_ne hl hs (by first | (simp; done) | (simp; omega)))).trans hl
    replace lr := lr.kp (ab_kp_wr1 hs n9) (fun j j0 j1 => (by unfold cP; first | (simp; done) | (simp; omega)))
    replace kp := kp.wr hs (cP_no (by simp)) n9
    replace hs := e9
    clear e9 n9
    refine ab_aload_n (pc := 53) dX4_begin_53 rfl ?_
    refine ab_iconst (pc := 54) dX4_begin_54 (by decide) ?_
    refine ab_putG (pc := 55) (k := 10) okX4 hs (by decide) (by decide) trivial w84 rfl (Or.inl rfl) dX4_begin_55 (fun h e9 n9 => ?_)
    replace hl := (n9 _ (ab_ne hl hs (by first | (simp; done) | (simp; omega)))).trans hl
    replace lr := lr.kp (ab_kp_wr1 hs n9) (fun j j0 j1 => (by unfold cP; first | (simp; done) | (simp; omega)))
    replace kp := kp.wr hs (cP_no (by simp)) n9
    replace hs := e9
    clear e9 n9
    refine ab_aload_n (pc := 58) dX4_begin_58 rfl ?_
    refine ab_iconst (pc := 59) dX4_begin_59 (by decide) ?_
    refine ab_putG (pc := 60) (k := 11) okX4 hs (by decide) (by decide) (by show _ ∨ _; omega) w85 rfl (Or.inl rfl) dX4_begin_60 (fun h e9 n9 => ?_)
    replace hl := (n9 _ (ab_ne hl hs (by first | (simp; done) | (simp; omega)))).trans hl
    replace lr := lr.kp (ab_kp_wr1 hs n9) (fun j j0 j1 => (by unfold cP; first | (simp; done) | (simp; omega)))
    replace kp := kp.wr hs (cP_no (by simp)) n9
    replace hs := e9
    clear e9 n9
    refine ab_vret (pc := 63) dX4_begin_63 rfl ?_
    exact ⟨_, rfl, kp, rfl, _, hcv, hs⟩
  · refine ab_if_eq (pc := 26) 34 dX4_begin_26 (by decide) (fun c26 => ?_) (fun c26 => ?_)
    · refine ab_iconst (pc := 34) dX4_begin_34 (by decide) ?_
      refine J35 _ ?_
      unfold costUp
      rcases hh9 with ⟨b1, b2⟩ | ⟨b1, b2⟩
      · first | exact Or.inl ⟨rfl, b2⟩ | omega
      · first | exact Or.inr ⟨rfl, b2⟩ | omega
    · refine ab_bipush (pc := 29) dX4_begin_29 (by decide) ?_
      refine ab_goto (pc := 31) 35 dX4_begin_31 (by decide) ?_
      refine J35 _ ?_
      unfold costUp
      rcases hh9 with ⟨b1, b2⟩ | ⟨b1, b2⟩
      · first | exact Or.inl ⟨rfl, b2⟩ | omega
      · first | exact Or.inr ⟨rfl, b2⟩ | omega
end C8
