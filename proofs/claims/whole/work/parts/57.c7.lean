/-! the class: the search goes on -/
section C7
variable {l : Launch} {E : AbE} {h0 : AbH}
def aP (h' : AbH) (r : Option AbV) (sr mk la N9 mb : Nat) (SA : Int → Option Nat) (F : Nat → Int → Int) (G e al n co : Int) (w : Int → Int) (d lk lg fo : Int) : Prop := ∃ (o : Int) (f2 : Int → Int) (sz2 nx2 lk2 lg2 fo2 : Int) (w2 : Int → Int) (d2 : Int) (k : Nat), r = some (vI o) ∧ h' sr = some (kO 8 3 [vR mk, vR la, vI e, vI al, vI n, vI co, vI lk2, vI fo2, vI lg2, vI sz2, vI nx2, vI 1]) ∧ h' mk = some (kI 9 60 f2) ∧ lawsR h' N9 SA G mb F ∧ sRun (KL F G e) al n co k w d lk lg = some (o, w2, d2, lk2, lg2) ∧ ((o = 1 ∧ fo2 = fo + 1 ∧ sI F G e al n f2 sz2 nx2 w2 d2 lk2 lg2 ∧ sFd F G e al n f2 w2) ∨ ((o = 0 ∨ o = -2) ∧ fo2 = fo ∧ 0 ≤ lk2 ∧ lk2 ≤ 20000 ∧ 0 ≤ lg2 ∧ lg2 ≤ 60))
theorem aP.step {h' : AbH} {r : Option AbV} {sr mk la N9 mb : Nat} {SA : Int → Option Nat} {F : Nat → Int → Int} {G e al n co : Int} {w w' : Int → Int} {d lk lg fo d' lk' lg' : Int} (s : sStep F G e al n co w d lk lg w' d' lk' lg') (p : aP h' r sr mk la N9 mb SA F G e al n co w' d' lk' lg' fo) : aP h' r sr mk la N9 mb SA F G e al n co w d lk lg fo := by
  obtain ⟨o, f2, sz2, nx2, lk2, lg2, fo2, w2, d2, k, a1, a2, a3, a4, a5, a6⟩ := p
  exact ⟨o, f2, sz2, nx2, lk2, lg2, fo2, w2, d2, k + 1, a1, a2, a3, a4, s k _ a5, a6⟩
theorem c_adv_51 {sr mk la gl N9 mb : Nat} {SA : Int → Option Nat} {F : Nat → Int → Int} {G e al n co : Int} (Lm : List Nat) {fo : Int} (hG : ab_G l E) (er : -2147483648 ≤ e ∧ e < 2147483648) (N12 : N9 ≤ 12) (GN : G ≤ N9) (m0 : 201 ≤ mb) (gl0 : gl < 200) (gl8 : gl ≠ 8 ∧ gl ≠ 9) (glL : gl ∉ Lm) (l8 : 8 ∉ Lm) (l9 : 9 ∉ Lm) (lb : ∀ q : Int, 0 ≤ q → q < G → lawB F q) (hL : ∀ q : Int, 0 ≤ q → q < G → F 8 q = 5 → 200 ∈ Lm ∧ mb + 8 * N9 < 400) (al8 : al ≤ 8) (co1 : 1 ≤ co) (co2 : co ≤ 10) (fo0 : 0 ≤ fo) (fo1 : fo ≤ 50000)   (fu : Nat) : ∀ (tn lk lg sz nx d : Int) (f9 w : Int → Int) (h : AbH), (50000 - tn).toNat < fu → h sr = some (kO 8 3 [vR mk, vR la, vI e, vI al, vI n, vI co, vI lk, vI fo, vI lg, vI sz, vI nx, vI 1]) → h mk = some (kI 9 60 f9) → h la = some (kA gl "WordBench$Law" N9 SA) → lawsR h N9 SA G mb F → ab_kp (cP (8 :: 9 :: Lm)) h0 h → (sI F G e al n f9 sz nx w d lk lg) → (0 ≤ tn) → (tn + sz ≤ 2 * lk + 60) → ab_T l E Y_X4_advance 11 0 0 51 [some (vR sr), some (vI tn)] [] h (cC h0 (8 :: 9 :: Lm) (fun r h' => aP h' r sr mk la N9 mb SA F G e al n co w d lk lg fo)) := by
  induction fu with
  | zero => intro tn lk lg sz nx d f9 w h hm; exact absurd hm (Nat.not_lt_zero _)
  | succ fu ih =>
    intro tn lk lg sz nx d f9 w h hm hs hm hl lr kp SI t0 t1
    have SJ := SI
    obtain ⟨i1, i2, i3, i4, i5, i6, i7, i8, i9, i10, i11, i12, i13⟩ := SJ
    clear i7 i8 i9
    have e54 : Int32.toInt 1000000 = 1000000 := by decide
    refine ab_iload_n (pc := 51) dX4_advance_51 rfl ?_
    refine ab_ldc (pc := 52) dX4_advance_52 w835 ?_
    refine ab_icmp_ge (pc := 54) 130 dX4_advance_54 (by decide) (fun c54 => absurd c54 (by omega)) (fun c54 => ?_)
    refine ab_aload_n (pc := 57) dX4_advance_57 rfl ?_
    refine ab_get (pc := 58) (k := 10) okX4 hs rfl w84 rfl dX4_advance_58 ?_
    refine ab_aload_n (pc := 61) dX4_advance_61 rfl ?_
    refine ab_get (pc := 62) (k := 3) okX4 hs rfl w74 rfl dX4_advance_62 ?_
    refine ab_icmp_ge (pc := 65) 87 dX4_advance_65 (by decide) (fun c65 => ?_) (fun c65 => ?_)
    · refine ab_aload_n (pc := 87) dX4_advance_87 rfl ?_
      refine ab_get (pc := 88) (k := 9) okX4 hs rfl w83 rfl dX4_advance_88 ?_
      refine ab_if_le (pc := 91) 122 dX4_advance_91 (by decide) (fun c91 => ?_) (fun c91 => ?_)
      · refine ab_iconst (pc := 122) dX4_advance_122 (by decide) ?_
        refine ab_iret (pc := 123) dX4_advance_123 rfl ?_
        exact ⟨_, rfl, kp, _, _, _, _, _, _, _, _, _, 2, rfl, hs, hm, lr, SI.over (by omega) (by omega), Or.inr ⟨Or.inl rfl, rfl, by omega, by omega, by omega, by omega⟩⟩
      · refine ab_aload_n (pc := 94) dX4_advance_94 rfl ?_
        refine ab_dup (pc := 95) dX4_advance_95 rfl ?_
        refine ab_get (pc := 96) (k := 9) okX4 hs rfl w83 rfl dX4_advance_96 ?_
        refine ab_iconst (pc := 99) dX4_advance_99 (by decide) ?_
        refine ab_isub (pc := 100) dX4_advance_100 (by omega) (by omega) ?_
        refine ab_putG (pc := 101) (k := 9) okX4 hs (by decide) (by decide) trivial w83 rfl (Or.inl rfl) dX4_advance_101 (fun h e9 n9 => ?_)
        replace hm := (n9 _ (ab_ne hm hs (by first | (simp; done) | (simp; omega)))).trans hm
        replace hl := (n9 _ (ab_ne hl hs (by first | (simp; done) | (simp; omega)))).trans hl
        replace lr := lr.kp (ab_kp_wr1 hs n9) (fun j j0 j1 => (by unfold cP; first | (simp; done) | (simp; omega)))
        replace kp := kp.wr hs (cP_no (by simp)) n9
        replace hs := e9
        clear e9 n9
        have st := SI.back (co := co) (by omega) (by omega)
        have q8 := SI.2.2.2.2.2.2.2.1 (sz - 1) (by omega) (by omega)
        refine ab_aload_n (pc := 104) dX4_advance_104 rfl ?_
        refine ab_aload_n (pc := 105) dX4_advance_105 rfl ?_
        refine ab_get (pc := 106) (k := 0) okX4 hs rfl w70 rfl dX4_advance_106 ?_
        refine ab_aload_n (pc := 109) dX4_advance_109 rfl ?_
        refine ab_get (pc := 110) (k := 9) okX4 hs rfl w83 rfl dX4_advance_110 ?_
        refine ab_iald (pc := 113) hm (by omega) (by omega) dX4_advance_113 ?_
        refine ab_iconst (pc := 114) dX4_advance_114 (by decide) ?_
        refine ab_iadd (pc := 115) dX4_advance_115 (by omega) (by omega) ?_
        refine ab_putG (pc := 116) (k := 10) okX4 hs (by decide) (by decide) trivial w84 rfl (Or.inl rfl) dX4_advance_116 (fun h e9 n9 => ?_)
        replace hm := (n9 _ (ab_ne hm hs (by first | (simp; done) | (simp; omega)))).trans hm
        replace hl := (n9 _ (ab_ne hl hs (by first | (simp; done) | (simp; omega)))).trans hl
        replace lr := lr.kp (ab_kp_wr1 hs n9) (fun j j0 j1 => (by unfold cP; first | (simp; done) | (simp; omega)))
        replace kp := kp.wr hs (cP_no (by simp)) n9
        replace hs := e9
        clear e9 n9
        refine ab_goto (pc := 119) 124 dX4_advance_119 (by decide) ?_
        refine ab_iinc (pc := 124) dX4_advance_124 rfl rfl (by decide) (by omega) (by omega) ?_
        refine ab_goto (pc := 127) 51 dX4_advance_127 (by decide) ?_
        refine (ih (tn + 1) _ _ _ _ _ _ _ _ (by omega) hs hm hl lr kp st.1 (by omega) (by omega)).mono ?_
        rintro o9 h9 ⟨r9, e9, k9, p9⟩
        exact ⟨r9, e9, k9, p9.step st.2⟩
    · refine ab_aload_n (pc := 68) dX4_advance_68 rfl ?_
      refine ab_callV (pc := 69) (c_takeLook hG hs (by omega) (by omega) (by omega) (by omega)) hs rfl ⟨w831, w4, w834, by decide, pd20⟩ w833 sp14 rfl (by omega) (by decide) (Nat.le_of_ble_eq_true rfl) rfl dX4_advance_69 (fun _ _ hx => absurd hx cC_no) ?_
      rintro _ h ⟨_, e9, kq, tv, rfl, ht9⟩
      cases e9
      replace hm := kq _ _ hm ⟨by simp [l9], fun a9 => absurd (show 200 ≤ 9 from a9) (by decide)⟩
      replace hl := kq _ _ hl (by unfold cP; simp [glL]; omega)
      replace lr := lr.kp kq (fun j j0 j1 => (by unfold cP; simp; omega))
      replace kp := kp.cal kq (by first | (simp; done) | (simp; omega))
      rcases ht9 with ⟨rfl, tx, hs⟩ | ⟨rfl, tx, hs⟩
      · refine ab_if_ne (pc := 72) 78 dX4_advance_72 (by decide) (fun c72 => absurd c72 (by omega)) (fun c72 => ?_)
        refine ab_bipush (pc := 75) dX4_advance_75 (by decide) ?_
        refine ab_iret (pc := 77) dX4_advance_77 rfl ?_
        exact ⟨_, rfl, kp, _, _, _, _, _, _, _, _, _, 1, rfl, hs, hm, lr, SI.spent (by omega) tx, Or.inr ⟨Or.inr rfl, rfl, by omega, by omega, by omega, by omega⟩⟩
      · refine ab_if_ne (pc := 72) 78 dX4_advance_72 (by decide) (fun c72 => ?_) (fun c72 => absurd c72 (by omega))
        refine ab_aload_n (pc := 78) dX4_advance_78 rfl ?_
        refine ab_callV (pc := 79) (c_putBehind hG Lm hs hm hl lr er N12 GN m0 gl0 gl8 glL l8 l9 lb hL al8 (by omega) (by omega) (by omega) (by omega) (by omega) (by omega) (by omega) (by omega) (by omega) (fun j j0 j1 => (SI.2.2.2.2.2.2.2.1 j j0 j1).2) SI.2.2.2.2.2.2.2.2.1) hs rfl ⟨w836, w4, w839, by decide, pd20⟩ w838 sp15 rfl (by omega) (by decide) (Nat.le_of_ble_eq_true rfl) rfl dX4_advance_79 (fun _ _ hx => absurd hx cC_no) ?_
        rintro _ h ⟨_, e9, kq, pv, lg2, fo2, sz2, nx2, rfl, hs9, hm9, lr9, hp9⟩
        cases e9
        replace hl := kq _ _ hl (by unfold cP; simp [glL]; omega)
        replace kp := kp.cal kq (fun g hg => Or.inl hg)
        replace hs := hs9
        replace hm := hm9
        replace lr := lr9
        rcases hp9 with ⟨rfl, hk, rfl, rfl, rfl, rfl⟩ | ⟨rfl, hk, hn, rfl, rfl, rfl, rfl⟩ | ⟨rfl, hk, hn, rfl, rfl, rfl, rfl⟩
        · have st := SI.bar (by omega) (by omega) tx hk
          refine ab_if_eq (pc := 82) 124 dX4_advance_82 (by decide) (fun c82 => ?_) (fun c82 => absurd c82 (by omega))
          refine ab_iinc (pc := 124) dX4_advance_124 rfl rfl (by decide) (by omega) (by omega) ?_
          refine ab_goto (pc := 127) 51 dX4_advance_127 (by decide) ?_
          refine (ih (tn + 1) _ _ _ _ _ _ _ _ (by omega) hs hm hl lr kp st.1 (by omega) (by omega)).mono ?_
          rintro o9 h9 ⟨r9, e9, k9, p9⟩
          exact ⟨r9, e9, k9, p9.step st.2⟩
        · refine ab_if_eq (pc := 82) 124 dX4_advance_82 (by decide) (fun c82 => absurd c82 (by omega)) (fun c82 => ?_)
          refine ab_iconst (pc := 85) dX4_advance_85 (by decide) ?_
          refine ab_iret (pc := 86) dX4_advance_86 rfl ?_
          have st := SI.found (by omega) (by omega) tx hk hn
          exact ⟨_, rfl, kp, _, _, _, _, _, _, _, _, _, 1, rfl, hs, hm, lr, st.2.1, Or.inl ⟨rfl, rfl, st.1, st.2.2⟩⟩
        · have st := SI.deep (by omega) (by omega) tx hk hn
          refine ab_if_eq (pc := 82) 124 dX4_advance_82 (by decide) (fun c82 => ?_) (fun c82 => absurd c82 (by omega))
          refine ab_iinc (pc := 124) dX4_advance_124 rfl rfl (by decide) (by omega) (by omega) ?_
          refine ab_goto (pc := 127) 51 dX4_advance_127 (by decide) ?_
          refine (ih (tn + 1) _ _ _ _ _ _ _ _ (by omega) hs hm hl lr kp st.1 (by omega) (by omega)).mono ?_
          rintro o9 h9 ⟨r9, e9, k9, p9⟩
          exact ⟨r9, e9, k9, p9.step st.2⟩
def aN (h' : AbH) (r : Option AbV) (sr mk la N9 mb : Nat) (SA : Int → Option Nat) (F : Nat → Int → Int) (G e al n co bg : Int) (w : Int → Int) (d lk lg fo : Int) : Prop := ∃ (o : Int) (f2 : Int → Int) (sz2 nx2 lk2 lg2 fo2 : Int) (w2 : Int → Int) (d2 : Int), r = some (vI o) ∧ h' sr = some (kO 8 3 [vR mk, vR la, vI e, vI al, vI n, vI co, vI lk2, vI fo2, vI lg2, vI sz2, vI nx2, vI 1]) ∧ h' mk = some (kI 9 60 f2) ∧ lawsR h' N9 SA G mb F ∧ sNext (KL F G e) al n co bg w d lk lg (o, w2, d2, lk2, lg2) ∧ ((o = 1 ∧ fo2 = fo + 1 ∧ sS F G e al n 1 f2 sz2 nx2 w2 d2 lk2 lg2 ∧ sFd F G e al n f2 w2) ∨ ((o = 0 ∨ o = -2) ∧ fo2 = fo ∧ 0 ≤ lk2 ∧ lk2 ≤ 20000 ∧ 0 ≤ lg2 ∧ lg2 ≤ 60))
theorem c_adv_a (hG : ab_G l E) {sr mk la gl N9 mb : Nat} {SA : Int → Option Nat} {F : Nat → Int → Int} {G e al n co : Int} (Lm : List Nat) {lk fo lg d : Int} {f9 w : Int → Int} (hs : h0 sr = some (kO 8 3 [vR mk, vR la, vI e, vI al, vI n, vI co, vI lk, vI fo, vI lg, vI 0, vI 0, vI 0])) (hm : h0 mk = some (kI 9 60 f9)) (hl : h0 la = some (kA gl "WordBench$Law" N9 SA)) (lr : lawsR h0 N9 SA G mb F) (er : -2147483648 ≤ e ∧ e < 2147483648) (N12 : N9 ≤ 12) (GN : G ≤ N9) (m0 : 201 ≤ mb) (gl0 : gl < 200) (gl8 : gl ≠ 8 ∧ gl ≠ 9) (glL : gl ∉ Lm) (l8 : 8 ∉ Lm) (l9 : 9 ∉ Lm) (lb : ∀ q : Int, 0 ≤ q → q < G → lawB F q) (hL : ∀ q : Int, 0 ≤ q → q < G → F 8 q = 5 → 200 ∈ Lm ∧ mb + 8 * N9 < 400) (al8 : al ≤ 8) (al1 : 1 ≤ al) (n60 : n ≤ 60) (co1 : 1 ≤ co) (co2 : co ≤ 10) (fo0 : 0 ≤ fo) (fo1 : fo ≤ 50000) (n0 : 0 ≤ n) (b1 : 0 ≤ lk) (b2 : lk ≤ 20000) (b3 : 0 ≤ lg) (b4 : lg ≤ 60) : ab_M l E Y_X4_advance 2 11 0 0 [vR sr] h0 (cC h0 (8 :: 9 :: Lm) (fun r h' => aN h' r sr mk la N9 mb SA F G e al n co 0 w d lk lg fo)) := by
  refine ab_M.of (L0 := [some (vR sr), none]) hG rfl rfl (Nat.le_of_ble_eq_true rfl) rfl ?_
  have kp : ab_kp (cP (8 :: 9 :: Lm)) h0 h0 := ab_kp0
  refine ab_aload_n (pc := 0) dX4_advance_0 rfl ?_
  refine ab_get (pc := 1) (k := 11) okX4 hs rfl w85 rfl dX4_advance_1 ?_
  refine ab_if_ne (pc := 4) 49 dX4_advance_4 (by decide) (fun c4 => absurd c4 (by omega)) (fun c4 => ?_)
  refine ab_aload_n (pc := 7) dX4_advance_7 rfl ?_
  refine ab_iconst (pc := 8) dX4_advance_8 (by decide) ?_
  refine ab_putG (pc := 9) (k := 11) okX4 hs (by decide) (by decide) (by show _ ∨ _; omega) w85 rfl (Or.inl rfl) dX4_advance_9 (fun h e9 n9 => ?_)
  replace hm := (n9 _ (ab_ne hm hs (by first | (simp; done) | (simp; omega)))).trans hm
  replace hl := (n9 _ (ab_ne hl hs (by first | (simp; done) | (simp; omega)))).trans hl
  replace lr := lr.kp (ab_kp_wr1 hs n9) (fun j j0 j1 => (by unfold cP; first | (simp; done) | (simp; omega)))
  replace kp := kp.wr hs (cP_no (by simp)) n9
  replace hs := e9
  clear e9 n9
  refine ab_aload_n (pc := 12) dX4_advance_12 rfl ?_
  refine ab_callV (pc := 13) (c_takeLook hG hs (by omega) (by omega) (by omega) (by omega)) hs rfl ⟨w831, w4, w834, by decide, pd20⟩ w833 sp14 rfl (by omega) (by decide) (Nat.le_of_ble_eq_true rfl) rfl dX4_advance_13 (fun _ _ hx => absurd hx cC_no) ?_
  rintro _ h ⟨_, e9, kq, tv, rfl, ht9⟩
  cases e9
  replace hm := kq _ _ hm ⟨by simp [l9], fun a9 => absurd (show 200 ≤ 9 from a9) (by decide)⟩
  replace hl := kq _ _ hl (by unfold cP; simp [glL]; omega)
  replace lr := lr.kp kq (fun j j0 j1 => (by unfold cP; simp; omega))
  replace kp := kp.cal kq (by first | (simp; done) | (simp; omega))
  rcases ht9 with ⟨rfl, tx, hs⟩ | ⟨rfl, tx, hs⟩
  · refine ab_if_ne (pc := 16) 22 dX4_advance_16 (by decide) (fun c16 => absurd c16 (by omega)) (fun c16 => ?_)
    refine ab_bipush (pc := 19) dX4_advance_19 (by decide) ?_
    refine ab_iret (pc := 21) dX4_advance_21 rfl ?_
    exact ⟨_, rfl, kp, _, _, _, _, _, _, _, _, _, rfl, hs, hm, lr, Or.inl ⟨rfl, tx, rfl⟩, Or.inr ⟨Or.inr rfl, rfl, by omega, by omega, by omega, by omega⟩⟩
  · refine ab_if_ne (pc := 16) 22 dX4_advance_16 (by decide) (fun c16 => ?_) (fun c16 => absurd c16 (by omega))
    refine ab_aload_n (pc := 22) dX4_advance_22 rfl ?_
    refine ab_get (pc := 23) (k := 4) okX4 hs rfl w75 rfl dX4_advance_23 ?_
    refine ab_if_ne (pc := 26) 49 dX4_advance_26 (by decide) (fun c26 => ?_) (fun c26 => ?_)
    · refine ab_iconst (pc := 49) dX4_advance_49 (by decide) ?_
      refine ab_istore_n (pc := 50) dX4_advance_50 rfl (Nat.le_of_ble_eq_true rfl) ?_
      refine (c_adv_51 Lm hG er N12 GN m0 gl0 gl8 glL l8 l9 lb hL al8 co1 co2 fo0 fo1 _ 0 _ _ _ _ _ _ _ _ (Nat.lt_succ_self _) hs hm hl lr kp (sI.start (w := w) (by omega) (by omega) (by omega) (by omega) (by omega) (by omega) (by omega) (by omega)) (by omega) (by omega)).mono ?_
      rintro o9 h9 ⟨r9, e9, k9, o, f2, sz2, nx2, lk2, lg2, fo2, w2, d2, k, a1, a2, a3, a4, a5, a6⟩
      refine ⟨r9, e9, k9, o, f2, sz2, nx2, lk2, lg2, fo2, w2, d2, a1, a2, a3, a4, Or.inr (Or.inr (Or.inl ⟨rfl, tx, c26, k, a5⟩)), ?_⟩
      rcases a6 with ⟨q1, q2, q3, q4⟩ | q
      · exact Or.inl ⟨q1, q2, Or.inr (Or.inr ⟨rfl, c26, q3⟩), q4⟩
      · exact Or.inr q
    · refine ab_aload_n (pc := 29) dX4_advance_29 rfl ?_
      refine ab_aload_n (pc := 30) dX4_advance_30 rfl ?_
      refine ab_get (pc := 31) (k := 3) okX4 hs rfl w74 rfl dX4_advance_31 ?_
      refine ab_putG (pc := 34) (k := 10) okX4 hs (by decide) (by decide) trivial w84 rfl (Or.inl rfl) dX4_advance_34 (fun h e9 n9 => ?_)
      replace hm := (n9 _ (ab_ne hm hs (by first | (simp; done) | (simp; omega)))).trans hm
      replace hl := (n9 _ (ab_ne hl hs (by first | (simp; done) | (simp; omega)))).trans hl
      replace lr := lr.kp (ab_kp_wr1 hs n9) (fun j j0 j1 => (by unfold cP; first | (simp; done) | (simp; omega)))
      replace kp := kp.wr hs (cP_no (by simp)) n9
      replace hs := e9
      clear e9 n9
      refine ab_aload_n (pc := 37) dX4_advance_37 rfl ?_
      refine ab_dup (pc := 38) dX4_advance_38 rfl ?_
      refine ab_get (pc := 39) (k := 7) okX4 hs rfl w79 rfl dX4_advance_39 ?_
      refine ab_iconst (pc := 42) dX4_advance_42 (by decide) ?_
      refine ab_iadd (pc := 43) dX4_advance_43 (by omega) (by omega) ?_
      refine ab_putG (pc := 44) (k := 7) okX4 hs (by decide) (by decide) trivial w79 rfl (Or.inl rfl) dX4_advance_44 (fun h e9 n9 => ?_)
      replace hm := (n9 _ (ab_ne hm hs (by first | (simp; done) | (simp; omega)))).trans hm
      replace hl := (n9 _ (ab_ne hl hs (by first | (simp; done) | (simp; omega)))).trans hl
      replace lr := lr.kp (ab_kp_wr1 hs n9) (fun j j0 j1 => (by unfold cP; first | (simp; done) | (simp; omega)))
      replace kp := kp.wr hs (cP_no (by simp)) n9
      replace hs := e9
      clear e9 n9
      refine ab_iconst (pc := 47) dX4_advance_47 (by decide) ?_
      refine ab_iret (pc := 48) dX4_advance_48 rfl ?_
      exact ⟨_, rfl, kp, _, _, _, _, _, _, _, _, _, rfl, hs, hm, lr, Or.inr (Or.inl ⟨rfl, tx, c26, rfl⟩), Or.inl ⟨rfl, rfl, Or.inr (Or.inl ⟨rfl, c26, rfl, rfl, by omega, by omega, by omega, by omega⟩), fun j j0 j1 => absurd j1 (by omega), fun u u0 u1 => absurd u1 (by omega)⟩⟩
theorem c_adv_b (hG : ab_G l E) {sr mk la gl N9 mb : Nat} {SA : Int → Option Nat} {F : Nat → Int → Int} {G e al n co : Int} (Lm : List Nat) {lk fo lg d : Int} {f9 w : Int → Int} (hs : h0 sr = some (kO 8 3 [vR mk, vR la, vI e, vI al, vI n, vI co, vI lk, vI fo, vI lg, vI 0, vI al, vI 1])) (hm : h0 mk = some (kI 9 60 f9)) (hl : h0 la = some (kA gl "WordBench$Law" N9 SA)) (lr : lawsR h0 N9 SA G mb F) (er : -2147483648 ≤ e ∧ e < 2147483648) (N12 : N9 ≤ 12) (GN : G ≤ N9) (m0 : 201 ≤ mb) (gl0 : gl < 200) (gl8 : gl ≠ 8 ∧ gl ≠ 9) (glL : gl ∉ Lm) (l8 : 8 ∉ Lm) (l9 : 9 ∉ Lm) (lb : ∀ q : Int, 0 ≤ q → q < G → lawB F q) (hL : ∀ q : Int, 0 ≤ q → q < G → F 8 q = 5 → 200 ∈ Lm ∧ mb + 8 * N9 < 400) (al8 : al ≤ 8) (al1 : 1 ≤ al) (n60 : n ≤ 60) (co1 : 1 ≤ co) (co2 : co ≤ 10) (fo0 : 0 ≤ fo) (fo1 : fo ≤ 50000) (n0 : n = 0) (b1 : 0 ≤ lk) (b2 : lk ≤ 20000) (b3 : 0 ≤ lg) (b4 : lg ≤ 60) : ab_M l E Y_X4_advance 2 11 0 0 [vR sr] h0 (cC h0 (8 :: 9 :: Lm) (fun r h' => aN h' r sr mk la N9 mb SA F G e al n co 1 w d lk lg fo)) := by
  refine ab_M.of (L0 := [some (vR sr), none]) hG rfl rfl (Nat.le_of_ble_eq_true rfl) rfl ?_
  have kp : ab_kp (cP (8 :: 9 :: Lm)) h0 h0 := ab_kp0
  have e54 : Int32.toInt 1000000 = 1000000 := by decide
  refine ab_aload_n (pc := 0) dX4_advance_0 rfl ?_
  refine ab_get (pc := 1) (k := 11) okX4 hs rfl w85 rfl dX4_advance_1 ?_
  refine ab_if_ne (pc := 4) 49 dX4_advance_4 (by decide) (fun c4 => ?_) (fun c4 => absurd c4 (by omega))
  refine ab_iconst (pc := 49) dX4_advance_49 (by decide) ?_
  refine ab_istore_n (pc := 50) dX4_advance_50 rfl (Nat.le_of_ble_eq_true rfl) ?_
  refine ab_iload_n (pc := 51) dX4_advance_51 rfl ?_
  refine ab_ldc (pc := 52) dX4_advance_52 w835 ?_
  refine ab_icmp_ge (pc := 54) 130 dX4_advance_54 (by decide) (fun c54 => absurd c54 (by omega)) (fun c54 => ?_)
  refine ab_aload_n (pc := 57) dX4_advance_57 rfl ?_
  refine ab_get (pc := 58) (k := 10) okX4 hs rfl w84 rfl dX4_advance_58 ?_
  refine ab_aload_n (pc := 61) dX4_advance_61 rfl ?_
  refine ab_get (pc := 62) (k := 3) okX4 hs rfl w74 rfl dX4_advance_62 ?_
  refine ab_icmp_ge (pc := 65) 87 dX4_advance_65 (by decide) (fun c65 => ?_) (fun c65 => absurd c65 (by omega))
  refine ab_aload_n (pc := 87) dX4_advance_87 rfl ?_
  refine ab_get (pc := 88) (k := 9) okX4 hs rfl w83 rfl dX4_advance_88 ?_
  refine ab_if_le (pc := 91) 122 dX4_advance_91 (by decide) (fun c91 => ?_) (fun c91 => absurd c91 (by omega))
  refine ab_iconst (pc := 122) dX4_advance_122 (by decide) ?_
  refine ab_iret (pc := 123) dX4_advance_123 rfl ?_
  exact ⟨_, rfl, kp, _, _, _, _, _, _, _, _, _, rfl, hs, hm, lr, Or.inr (Or.inr (Or.inr (Or.inl ⟨by omega, n0, rfl⟩))), Or.inr ⟨Or.inl rfl, rfl, by omega, by omega, by omega, by omega⟩⟩
theorem c_adv_c (hG : ab_G l E) {sr mk la gl N9 mb : Nat} {SA : Int → Option Nat} {F : Nat → Int → Int} {G e al n co : Int} (Lm : List Nat) {lk fo lg sz nx d : Int} {f9 w : Int → Int} (hs : h0 sr = some (kO 8 3 [vR mk, vR la, vI e, vI al, vI n, vI co, vI lk, vI fo, vI lg, vI sz, vI nx, vI 1])) (hm : h0 mk = some (kI 9 60 f9)) (hl : h0 la = some (kA gl "WordBench$Law" N9 SA)) (lr : lawsR h0 N9 SA G mb F) (er : -2147483648 ≤ e ∧ e < 2147483648) (N12 : N9 ≤ 12) (GN : G ≤ N9) (m0 : 201 ≤ mb) (gl0 : gl < 200) (gl8 : gl ≠ 8 ∧ gl ≠ 9) (glL : gl ∉ Lm) (l8 : 8 ∉ Lm) (l9 : 9 ∉ Lm) (lb : ∀ q : Int, 0 ≤ q → q < G → lawB F q) (hL : ∀ q : Int, 0 ≤ q → q < G → F 8 q = 5 → 200 ∈ Lm ∧ mb + 8 * N9 < 400) (al8 : al ≤ 8) (al1 : 1 ≤ al) (n60 : n ≤ 60) (co1 : 1 ≤ co) (co2 : co ≤ 10) (fo0 : 0 ≤ fo) (fo1 : fo ≤ 50000) (nn : n ≠ 0) (SI : sI F G e al n f9 sz nx w d lk lg) : ab_M l E Y_X4_advance 2 11 0 0 [vR sr] h0 (cC h0 (8 :: 9 :: Lm) (fun r h' => aN h' r sr mk la N9 mb SA F G e al n co 1 w d lk lg fo)) := by
  refine ab_M.of (L0 := [some (vR sr), none]) hG rfl rfl (Nat.le_of_ble_eq_true rfl) rfl ?_
  have kp : ab_kp (cP (8 :: 9 :: Lm)) h0 h0 := ab_kp0
  have i3 := SI.2.2.1
  have i10 := SI.2.2.2.2.2.2.2.2.2.1
  refine ab_aload_n (pc := 0) dX4_advance_0 rfl ?_
  refine ab_get (pc := 1) (k := 11) okX4 hs rfl w85 rfl dX4_advance_1 ?_
  refine ab_if_ne (pc := 4) 49 dX4_advance_4 (by decide) (fun c4 => ?_) (fun c4 => absurd c4 (by omega))
  refine ab_iconst (pc := 49) dX4_advance_49 (by decide) ?_
  refine ab_istore_n (pc := 50) dX4_advance_50 rfl (Nat.le_of_ble_eq_true rfl) ?_
  refine (c_adv_51 Lm hG er N12 GN m0 gl0 gl8 glL l8 l9 lb hL al8 co1 co2 fo0 fo1 _ 0 _ _ _ _ _ _ _ _ (Nat.lt_succ_self _) hs hm hl lr kp SI (by omega) (by omega)).mono ?_
  rintro o9 h9 ⟨r9, e9, k9, o, f2, sz2, nx2, lk2, lg2, fo2, w2, d2, k, a1, a2, a3, a4, a5, a6⟩
  refine ⟨r9, e9, k9, o, f2, sz2, nx2, lk2, lg2, fo2, w2, d2, a1, a2, a3, a4, Or.inr (Or.inr (Or.inr (Or.inr ⟨by omega, nn, k, a5⟩))), ?_⟩
  rcases a6 with ⟨q1, q2, q3, q4⟩ | q
  · exact Or.inl ⟨q1, q2, Or.inr (Or.inr ⟨rfl, nn, q3⟩), q4⟩
  · exact Or.inr q
theorem c_adv (hG : ab_G l E) {sr mk la gl N9 mb : Nat} {SA : Int → Option Nat} {F : Nat → Int → Int} {G e al n co : Int} (Lm : List Nat) {lk fo lg sz nx d : Int} {f9 w : Int → Int} {bg : Int} (hs : h0 sr = some (kO 8 3 [vR mk, vR la, vI e, vI al, vI n, vI co, vI lk, vI fo, vI lg, vI sz, vI nx, vI bg])) (hm : h0 mk = some (kI 9 60 f9)) (hl : h0 la = some (kA gl "WordBench$Law" N9 SA)) (lr : lawsR h0 N9 SA G mb F) (er : -2147483648 ≤ e ∧ e < 2147483648) (N12 : N9 ≤ 12) (GN : G ≤ N9) (m0 : 201 ≤ mb) (gl0 : gl < 200) (gl8 : gl ≠ 8 ∧ gl ≠ 9) (glL : gl ∉ Lm) (l8 : 8 ∉ Lm) (l9 : 9 ∉ Lm) (lb : ∀ q : Int, 0 ≤ q → q < G → lawB F q) (hL : ∀ q : Int, 0 ≤ q → q < G → F 8 q = 5 → 200 ∈ Lm ∧ mb + 8 * N9 < 400) (al8 : al ≤ 8) (al1 : 1 ≤ al) (n60 : n ≤ 60) (co1 : 1 ≤ co) (co2 : co ≤ 10) (fo0 : 0 ≤ fo) (fo1 : fo ≤ 50000) (n0 : 0 ≤ n) (hS : sS F G e al n bg f9 sz nx w d lk lg) : ab_M l E Y_X4_advance 2 11 0 0 [vR sr] h0 (cC h0 (8 :: 9 :: Lm) (fun r h' => aN h' r sr mk la N9 mb SA F G e al n co bg w d lk lg fo)) := by
  rcases hS with ⟨rfl, rfl, rfl, b1, b2, b3, b4⟩ | ⟨rfl, g1, rfl, rfl, b1, b2, b3, b4⟩ | ⟨rfl, g1, SI⟩
  · exact c_adv_a hG Lm hs hm hl lr er N12 GN m0 gl0 gl8 glL l8 l9 lb hL al8 al1 n60 co1 co2 fo0 fo1 n0 b1 b2 b3 b4
  · exact c_adv_b hG Lm hs hm hl lr er N12 GN m0 gl0 gl8 glL l8 l9 lb hL al8 al1 n60 co1 co2 fo0 fo1 g1 b1 b2 b3 b4
  · exact c_adv_c hG Lm hs hm hl lr er N12 GN m0 gl0 gl8 glL l8 l9 lb hL al8 al1 n60 co1 co2 fo0 fo1 g1 SI
end C7
