/-! the class: how laws are made -/
section C18
variable {l : Launch} {E : AbE} {h0 : AbH}
theorem ab_T.less {y : AbY} {d kc ks kc' ks' pc : Nat} {L : List (Option AbV)} {S : List AbV} {h : AbH} {Q : AbO → AbH → Prop} (k : ab_T l E y d kc' ks' pc L S h Q) (h1 : kc' ≤ kc) (h2 : ks' ≤ ks) : ab_T l E y d kc ks pc L S h Q := by
  intro p e R s m args below meth c H locs cells slots mc ms ls st X hR hP hl hL hS
  exact k p e R s m args below meth c H locs cells slots mc ms ls st X ⟨hR.1, hR.2.1, by have := hR.2.2.1; omega, by have := hR.2.2.2.1; omega, by have := hR.2.2.2.2.1; omega, by have := hR.2.2.2.2.2; omega⟩ hP hl hL hS
/-- a pure method's contract in the other form -/
theorem c_below (hG : ab_G l E) {g w N : Nat} {f : Int → Int} {n b : Int} (hw : h0 w = some (kI g N f)) (hN : N < 100000) (nN : n ≤ N) : ab_M l E Y_X9_areBelow 4 0 0 0 [vR w, vI n, vI b] h0 (pC h0 (fun v => (v = 1 ∧ ∀ j : Int, 0 ≤ j → j < n → f j < b) ∨ (v = 0 ∧ ¬ ∀ j : Int, 0 ≤ j → j < n → f j < b))) := by
  refine (c_areBelow hG hw hN).mono ?_
  rintro o h' ⟨e1, r, e2, ⟨e3, k⟩ | ⟨e3, j, j0, j1, j2, k⟩⟩
  · exact ⟨r, e2, e1, Or.inl ⟨e3, fun j j0 j1 => k j j0 j1 (by omega)⟩⟩
  · exact ⟨r, e2, e1, Or.inr ⟨e3, fun k2 => by have := k2 j j0 j1; omega⟩⟩
theorem w371 : (Jvm.Cond.native ({ cls := "java/lang/Object", name := "clone", desc := "()Ljava/lang/Object;" } : Jvm.MethodName)) ∈ lw_tbl := w_in 371 (by decide +kernel)
theorem w372 : (Jvm.Cond.instanceMethod ({ cls := "java/lang/Object", name := "clone", desc := "()Ljava/lang/Object;" } : Jvm.MethodName)) ∈ lw_tbl := w_in 372 (by decide +kernel)
theorem w636 : (Jvm.Cond.selects "[I" ({ cls := "[I", name := "clone", desc := "()Ljava/lang/Object;" } : Jvm.MethodName) ({ cls := "java/lang/Object", name := "clone", desc := "()Ljava/lang/Object;" } : Jvm.MethodName)) ∈ lw_tbl := w_in 636 (by decide +kernel)
theorem c_copyOf (hG : ab_G l E) {w : Nat} {f : Int → Int} {n : Int} (g : Nat) (hw : h0 w = some (kI 10 60 f)) (g0 : 201 ≤ g) (n0 : 0 ≤ n) (n6 : n ≤ 60) : ab_M l E Y_J7_copyOf_59c91 3 3 1 60 [vR w, vI n] h0 (cC h0 [g] (fun r h' => ∃ (b : Nat) (t : Int → Int), r = some (vR b) ∧ h' b = some (kI g n.toNat t) ∧ ∀ j : Int, 0 ≤ j → j < n → t j = f j)) := by
  refine ab_M.of (L0 := [some (vR w), some (vI n), none]) hG rfl rfl (Nat.le_of_ble_eq_true rfl) rfl ?_
  have kp : ab_kp (cP [g]) h0 h0 := ab_kp0
  refine ab_iload_n (pc := 0) dJ7_copyOf_59c91_0 rfl ?_
  refine ab_aload_n (pc := 1) dJ7_copyOf_59c91_1 rfl ?_
  refine ab_alen (pc := 2) hw dJ7_copyOf_59c91_2 ?_
  refine ab_icmp_ne (pc := 3) 14 dJ7_copyOf_59c91_3 (by decide) (fun c3 => ?_) (fun c3 => ?_)
  · refine ab_iload_n (pc := 14) dJ7_copyOf_59c91_14 rfl ?_
    refine ab_T.less (kc' := 0 + 1) (ks' := 0 + n.toNat) ?_ (by omega) (by omega)
    refine ab_newIG (pc := 15) (g) (n.toNat) (by omega) (by omega) dJ7_copyOf_59c91_15 w111 (fun a_hb h z9 e9 n9 => ?_)
    replace hw := (n9 _ (ab_nn hw z9)).trans hw
    replace kp := kp.new z9 n9
    have hb := e9
    clear e9 n9
    refine ab_astore_n (pc := 17) dJ7_copyOf_59c91_17 rfl (Nat.le_of_ble_eq_true rfl) ?_
    refine ab_aload_n (pc := 18) dJ7_copyOf_59c91_18 rfl ?_
    refine ab_iconst (pc := 19) dJ7_copyOf_59c91_19 (by decide) ?_
    refine ab_aload_n (pc := 20) dJ7_copyOf_59c91_20 rfl ?_
    refine ab_iconst (pc := 21) dJ7_copyOf_59c91_21 (by decide) ?_
    refine ab_aload_n (pc := 22) dJ7_copyOf_59c91_22 rfl ?_
    refine ab_alen (pc := 23) hw dJ7_copyOf_59c91_23 ?_
    refine ab_iload_n (pc := 24) dJ7_copyOf_59c91_24 rfl ?_
    refine ab_callS (pc := 25) (c_min hG) ⟨w376, w19, w378, by decide, pd18⟩ w377 rfl (by omega) (by decide) (Nat.le_of_ble_eq_true rfl) rfl dJ7_copyOf_59c91_25 (fun _ _ hx => absurd hx pC_no) ?_
    rintro _ _ ⟨mv, e9, rfl, hmv⟩
    cases e9
    refine ab_copyG (pc := 28) hw hb (by first | decide | omega) (by omega) (by omega) (by omega) (by omega) (by omega) w379 w381 w380 w20 (by decide) (Nat.le_of_ble_eq_true rfl) dJ7_copyOf_59c91_28 (fun h e9 n9 => ?_)
    replace hw := (n9 _ (ab_ne hw hb (by first | (simp; done) | (simp; omega)))).trans hw
    replace kp := kp.wr hb (cP_no (by simp)) n9
    replace hb := e9
    clear e9 n9
    refine ab_aload_n (pc := 31) dJ7_copyOf_59c91_31 rfl ?_
    refine ab_aret (pc := 32) dJ7_copyOf_59c91_32 rfl (Or.inr ⟨_, rfl⟩) ?_
    refine ⟨_, rfl, kp, _, _, rfl, hb, fun j j0 j1 => ?_⟩
    unfold ab_cpy
    rw [if_pos (by omega)]
    congr 1
    omega
  · refine ab_aload_n (pc := 6) dJ7_copyOf_59c91_6 rfl ?_
    refine ab_cloneG (pc := 7) g hw (by decide) w634 w635 w371 w372 w636 w637 (by decide) (Nat.le_of_ble_eq_true rfl) dJ7_copyOf_59c91_7 (fun b h z9 e9 n9 => ?_)
    replace hw := (n9 _ (ab_nn hw z9)).trans hw
    replace kp := kp.new z9 n9
    have hb := e9
    clear e9 n9
    refine ab_castI (pc := 10) hb (by omega) w638 dJ7_copyOf_59c91_10 ?_
    refine ab_aret (pc := 13) dJ7_copyOf_59c91_13 rfl (Or.inr ⟨_, rfl⟩) ?_
    refine ⟨_, rfl, kp, b, f, rfl, ?_, fun _ _ _ => rfl⟩
    rw [c3]
    exact hb
theorem c_law0 (hG : ab_G l E) {a : Nat}  : ab_M l E Y_X0_init 1 1 0 0 [vR a] h0 (pV h0) := by
  refine ab_M.of (L0 := [some (vR a)]) hG rfl rfl (Nat.le_of_ble_eq_true rfl) rfl ?_
  refine ab_aload_n (pc := 0) dX0_init_0 rfl ?_
  refine ab_obj (pc := 1) w53 w37 w38 (by decide) (Nat.le_of_ble_eq_true rfl) dX0_init_1 ?_
  refine ab_vret (pc := 4) dX0_init_4 rfl ?_
  exact ⟨rfl, rfl⟩
theorem c_newTold (hG : ab_G l E) {a b g M : Nat} {t : Int → Int} (ho : h0 a = some (kO g 6 [vN])) (hb : h0 b = some (kI (g + 1) M t)) (g0 : 201 ≤ g) : ab_M l E Y_X7_init 2 2 0 0 [vR a, vR b] h0 (cC h0 [g] (fun r h' => r = none ∧ h' a = some (kO g 6 [vR b]) ∧ h' b = some (kI (g + 1) M t))) := by
  refine ab_M.of (L0 := [some (vR a), some (vR b)]) hG rfl rfl (Nat.le_of_ble_eq_true rfl) rfl ?_
  have kp : ab_kp (cP [g]) h0 h0 := ab_kp0
  refine ab_aload_n (pc := 0) dX7_init_0 rfl ?_
  refine ab_callIN (pc := 1) (c_law0 hG) (fun _ _ hx => absurd hx pV_no) ⟨w642, w2, w52, by decide, pd0⟩ w51 ⟨rfl, rfl⟩ rfl (by omega) (by decide) (Nat.le_of_ble_eq_true rfl) dX7_init_1 ?_
  rintro _ _ ⟨e9, rfl⟩
  cases e9
  refine ab_aload_n (pc := 4) dX7_init_4 rfl ?_
  refine ab_aload_n (pc := 5) dX7_init_5 rfl ?_
  refine ab_putG (pc := 6) (k := 0) okX7 ho (by omega) (by decide) trivial w643 rfl (Or.inr ⟨rfl, rfl, rfl⟩) dX7_init_6 (fun h e9 n9 => ?_)
  replace hb := (n9 _ (ab_ne hb ho (by first | (simp; done) | (simp; omega)))).trans hb
  replace kp := kp.wr ho (cP_no (by simp)) n9
  replace ho := e9
  clear e9 n9
  refine ab_vret (pc := 9) dX7_init_9 rfl ?_
  exact ⟨_, rfl, kp, rfl, ho, hb⟩
theorem c_newPower (hG : ab_G l E) {a g : Nat} {u v9 w9 : Int} (ho : h0 a = some (kO g 2 [vI 0, vI 0, vI 0])) (g0 : 201 ≤ g) (w0 : w9 = 0 ∨ w9 = 1) : ab_M l E Y_X3_init 4 2 0 0 [vR a, vI u, vI v9, vI w9] h0 (cC h0 [g] (fun r h' => r = none ∧ h' a = some (kO g 2 [vI u, vI v9, vI w9]))) := by
  refine ab_M.of (L0 := [some (vR a), some (vI u), some (vI v9), some (vI w9)]) hG rfl rfl (Nat.le_of_ble_eq_true rfl) rfl ?_
  have kp : ab_kp (cP [g]) h0 h0 := ab_kp0
  refine ab_aload_n (pc := 0) dX3_init_0 rfl ?_
  refine ab_callIN (pc := 1) (c_law0 hG) (fun _ _ hx => absurd hx pV_no) ⟨w50, w2, w52, by decide, pd0⟩ w51 ⟨rfl, rfl⟩ rfl (by omega) (by decide) (Nat.le_of_ble_eq_true rfl) dX3_init_1 ?_
  rintro _ _ ⟨e9, rfl⟩
  cases e9
  refine ab_aload_n (pc := 4) dX3_init_4 rfl ?_
  refine ab_iload_n (pc := 5) dX3_init_5 rfl ?_
  refine ab_putG (pc := 6) (k := 0) okX3 ho (by omega) (by decide) trivial w54 rfl (Or.inr ⟨rfl, rfl, rfl⟩) dX3_init_6 (fun h e9 n9 => ?_)
  replace kp := kp.wr ho (cP_no (by simp)) n9
  replace ho := e9
  clear e9 n9
  refine ab_aload_n (pc := 9) dX3_init_9 rfl ?_
  refine ab_iload_n (pc := 10) dX3_init_10 rfl ?_
  refine ab_putG (pc := 11) (k := 1) okX3 ho (by omega) (by decide) trivial w55 rfl (Or.inr ⟨rfl, rfl, rfl⟩) dX3_init_11 (fun h e9 n9 => ?_)
  replace kp := kp.wr ho (cP_no (by simp)) n9
  replace ho := e9
  clear e9 n9
  refine ab_aload_n (pc := 14) dX3_init_14 rfl ?_
  refine ab_iload_n (pc := 15) dX3_init_15 rfl ?_
  refine ab_putG (pc := 16) (k := 2) okX3 ho (by omega) (by decide) (by show _ ∨ _; omega) w56 rfl (Or.inr ⟨rfl, rfl, rfl⟩) dX3_init_16 (fun h e9 n9 => ?_)
  replace kp := kp.wr ho (cP_no (by simp)) n9
  replace ho := e9
  clear e9 n9
  refine ab_vret (pc := 19) dX3_init_19 rfl ?_
  exact ⟨_, rfl, kp, rfl, ho⟩
theorem c_newNear (hG : ab_G l E) {a g : Nat} {u : Int} (ho : h0 a = some (kO g 1 [vI 0])) (g0 : 201 ≤ g) : ab_M l E Y_X2_init 2 2 0 0 [vR a, vI u] h0 (cC h0 [g] (fun r h' => r = none ∧ h' a = some (kO g 1 [vI u]))) := by
  refine ab_M.of (L0 := [some (vR a), some (vI u)]) hG rfl rfl (Nat.le_of_ble_eq_true rfl) rfl ?_
  have kp : ab_kp (cP [g]) h0 h0 := ab_kp0
  refine ab_aload_n (pc := 0) dX2_init_0 rfl ?_
  refine ab_callIN (pc := 1) (c_law0 hG) (fun _ _ hx => absurd hx pV_no) ⟨w690, w2, w52, by decide, pd0⟩ w51 ⟨rfl, rfl⟩ rfl (by omega) (by decide) (Nat.le_of_ble_eq_true rfl) dX2_init_1 ?_
  rintro _ _ ⟨e9, rfl⟩
  cases e9
  refine ab_aload_n (pc := 4) dX2_init_4 rfl ?_
  refine ab_iload_n (pc := 5) dX2_init_5 rfl ?_
  refine ab_putG (pc := 6) (k := 0) okX2 ho (by omega) (by decide) trivial w691 rfl (Or.inr ⟨rfl, rfl, rfl⟩) dX2_init_6 (fun h e9 n9 => ?_)
  replace kp := kp.wr ho (cP_no (by simp)) n9
  replace ho := e9
  clear e9 n9
  refine ab_vret (pc := 9) dX2_init_9 rfl ?_
  exact ⟨_, rfl, kp, rfl, ho⟩
theorem c_newTurned (hG : ab_G l E) {a g : Nat} (ho : h0 a = some (kO g 7 [])) : ab_M l E Y_X8_init 1 2 0 0 [vR a] h0 (pV h0) := by
  refine ab_M.of (L0 := [some (vR a)]) hG rfl rfl (Nat.le_of_ble_eq_true rfl) rfl ?_
  refine ab_aload_n (pc := 0) dX8_init_0 rfl ?_
  refine ab_callIN (pc := 1) (c_law0 hG) (fun _ _ hx => absurd hx pV_no) ⟨w700, w2, w52, by decide, pd0⟩ w51 ⟨rfl, rfl⟩ rfl (by omega) (by decide) (Nat.le_of_ble_eq_true rfl) dX8_init_1 ?_
  rintro _ _ ⟨e9, rfl⟩
  cases e9
  refine ab_vret (pc := 4) dX8_init_4 rfl ?_
  exact ⟨rfl, rfl⟩
theorem c_newShape_77 {a b1 b2 b3 b4 b5 g M : Nat} {t : Int → Int} (g0 : 201 ≤ g) (M1 : 1 ≤ M) (M6 : M ≤ 6) (ht : ∀ j : Int, 0 ≤ j → j < M → 0 ≤ t j ∧ t j ≤ 2) {tm : Int → Int} {x3 x4 x5 : Option AbV} (htm : ∀ x : Int, 0 ≤ x → x ≤ 2 → tm x = cnt t x 0 M)   (fu : Nat) : ∀ (fr : Int) (h : AbH), (fr).toNat < fu → h a = some (kO g 4 [vR b1, vI 0, vR b2, vR b3, vR b4, vR b5, vI 0]) → h b1 = some (kI (g + 1) M t) → h b2 = some (kI (g + 2) 3 tm) → h b3 = some (kI (g + 3) 3 (fun _ => 0)) → h b4 = some (kI (g + 4) 3 (fun _ => 0)) → h b5 = some (kI (g + 5) 3 (fun _ => 0)) → ab_kp (cP [g, g + 2]) h0 h → (0 ≤ fr) → (fr ≤ M) → (∀ j : Int, fr ≤ j → j < M → cnt t (t j) 0 M = 1) → ab_T l E Y_X5_init 2 0 0 77 [some (vR a), some (vR b1), some (vI fr), x3, x4, x5] [] h (cC h0 [g, g + 2] (fun r h' => r = none ∧ shC h' g a t M)) := by
  induction fu with
  | zero => intro fr h hms9; exact absurd hms9 (Nat.not_lt_zero _)
  | succ fu ih =>
    intro fr h hms9 ho h1 h2 h3 h4 h5 kp f0 f1 I
    refine ab_iload_n (pc := 77) dX5_init_77 rfl ?_
    refine ab_if_le (pc := 78) 101 dX5_init_78 (by decide) (fun c78 => ?_) (fun c78 => ?_)
    · refine ab_aload_n (pc := 101) dX5_init_101 rfl ?_
      refine ab_iload_n (pc := 102) dX5_init_102 rfl ?_
      refine ab_putG (pc := 103) (k := 1) okX5 ho (by omega) (by decide) trivial w657 rfl (Or.inr ⟨rfl, rfl, rfl⟩) dX5_init_103 (fun h e9 n9 => ?_)
      replace h1 := (n9 _ (ab_ne h1 ho (by first | (simp; done) | (simp; omega)))).trans h1
      replace h2 := (n9 _ (ab_ne h2 ho (by first | (simp; done) | (simp; omega)))).trans h2
      replace h3 := (n9 _ (ab_ne h3 ho (by first | (simp; done) | (simp; omega)))).trans h3
      replace h4 := (n9 _ (ab_ne h4 ho (by first | (simp; done) | (simp; omega)))).trans h4
      replace h5 := (n9 _ (ab_ne h5 ho (by first | (simp; done) | (simp; omega)))).trans h5
      replace kp := kp.wr ho (cP_no (by simp)) n9
      replace ho := e9
      clear e9 n9
      refine ab_vret (pc := 106) dX5_init_106 rfl ?_
      exact ⟨_, rfl, kp, rfl, _, _, _, _, _, _, _, _, _, _, ho, h1, h2, h3, h4, h5, ⟨f0, f1, I⟩, htm⟩
    · have tk := ht (fr - 1) (by omega) (by omega)
      refine ab_aload_n (pc := 81) dX5_init_81 rfl ?_
      refine ab_get (pc := 82) (k := 2) okX5 ho rfl w658 rfl dX5_init_82 ?_
      refine ab_aload_n (pc := 85) dX5_init_85 rfl ?_
      refine ab_iload_n (pc := 86) dX5_init_86 rfl ?_
      refine ab_iconst (pc := 87) dX5_init_87 (by decide) ?_
      refine ab_isub (pc := 88) dX5_init_88 (by omega) (by omega) ?_
      refine ab_iald (pc := 89) h1 (by omega) (by omega) dX5_init_89 ?_
      refine ab_iald (pc := 90) h2 (by omega) (by omega) dX5_init_90 ?_
      refine ab_iconst (pc := 91) dX5_init_91 (by decide) ?_
      refine ab_icmp_ne (pc := 92) 101 dX5_init_92 (by decide) (fun c92 => ?_) (fun c92 => ?_)
      · rw [htm _ tk.1 tk.2] at c92
        refine ab_aload_n (pc := 101) dX5_init_101 rfl ?_
        refine ab_iload_n (pc := 102) dX5_init_102 rfl ?_
        refine ab_putG (pc := 103) (k := 1) okX5 ho (by omega) (by decide) trivial w657 rfl (Or.inr ⟨rfl, rfl, rfl⟩) dX5_init_103 (fun h e9 n9 => ?_)
        replace h1 := (n9 _ (ab_ne h1 ho (by first | (simp; done) | (simp; omega)))).trans h1
        replace h2 := (n9 _ (ab_ne h2 ho (by first | (simp; done) | (simp; omega)))).trans h2
        replace h3 := (n9 _ (ab_ne h3 ho (by first | (simp; done) | (simp; omega)))).trans h3
        replace h4 := (n9 _ (ab_ne h4 ho (by first | (simp; done) | (simp; omega)))).trans h4
        replace h5 := (n9 _ (ab_ne h5 ho (by first | (simp; done) | (simp; omega)))).trans h5
        replace kp := kp.wr ho (cP_no (by simp)) n9
        replace ho := e9
        clear e9 n9
        refine ab_vret (pc := 106) dX5_init_106 rfl ?_
        exact ⟨_, rfl, kp, rfl, _, _, _, _, _, _, _, _, _, _, ho, h1, h2, h3, h4, h5, ⟨f0, f1, I⟩, htm⟩
      · rw [htm _ tk.1 tk.2] at c92
        refine ab_iinc (pc := 95) dX5_init_95 rfl rfl (by decide) (by omega) (by omega) ?_
        refine ab_goto (pc := 98) 77 dX5_init_98 (by decide) ?_
        refine ih (fr - 1) _ (by omega) ho h1 h2 h3 h4 h5 kp (by omega) (by omega) (fun j j0 j1 => ?_)
        by_cases e : j = fr - 1
        · rw [e]; exact c92
        · exact I j (by omega) j1
theorem c_newShape_45 {a b1 b2 b3 b4 b5 g M : Nat} {t : Int → Int} (g0 : 201 ≤ g) (M1 : 1 ≤ M) (M6 : M ≤ 6) (ht : ∀ j : Int, 0 ≤ j → j < M → 0 ≤ t j ∧ t j ≤ 2)   (fu : Nat) : ∀ (i : Int) (tm : Int → Int) (x5 : Option AbV) (h : AbH), (M - i).toNat < fu → h a = some (kO g 4 [vR b1, vI 0, vR b2, vR b3, vR b4, vR b5, vI 0]) → h b1 = some (kI (g + 1) M t) → h b2 = some (kI (g + 2) 3 tm) → h b3 = some (kI (g + 3) 3 (fun _ => 0)) → h b4 = some (kI (g + 4) 3 (fun _ => 0)) → h b5 = some (kI (g + 5) 3 (fun _ => 0)) → ab_kp (cP [g, g + 2]) h0 h → (0 ≤ i) → (i ≤ M) → (∀ x : Int, 0 ≤ x → x ≤ 2 → tm x = cnt t x 0 i) → ab_T l E Y_X5_init 2 0 0 45 [some (vR a), some (vR b1), some (vR b1), some (vI (M : Int)), some (vI i), x5] [] h (cC h0 [g, g + 2] (fun r h' => r = none ∧ shC h' g a t M)) := by
  induction fu with
  | zero => intro i tm x5 h hms9; exact absurd hms9 (Nat.not_lt_zero _)
  | succ fu ih =>
    intro i tm x5 h hms9 ho h1 h2 h3 h4 h5 kp i0 i1 I
    refine ab_iload (pc := 45) dX5_init_45 rfl ?_
    refine ab_iload_n (pc := 47) dX5_init_47 rfl ?_
    refine ab_icmp_ge (pc := 48) 74 dX5_init_48 (by decide) (fun c48 => ?_) (fun c48 => ?_)
    · refine ab_aload_n (pc := 74) dX5_init_74 rfl ?_
      refine ab_alen (pc := 75) h1 dX5_init_75 ?_
      refine ab_istore_n (pc := 76) dX5_init_76 rfl (Nat.le_of_ble_eq_true rfl) ?_
      obtain rfl : i = M := by omega
      exact c_newShape_77 g0 M1 M6 ht I _ (M : Int) _ (Nat.lt_succ_self _) ho h1 h2 h3 h4 h5 kp (by omega) (by omega) (fun j j0 j1 => absurd j1 (by omega))
    · have tk := ht i i0 (by omega)
      have cs := fun x => cnt_step (f := t) (c := x) (a := 0) i0
      have tmi := I _ tk.1 tk.2
      have cb := cnt_bd (f := t) (c := t i) (a := 0) i0
      refine ab_aload_n (pc := 51) dX5_init_51 rfl ?_
      refine ab_iload (pc := 52) dX5_init_52 rfl ?_
      refine ab_iald (pc := 54) h1 (by omega) (by omega) dX5_init_54 ?_
      refine ab_istore (pc := 55) dX5_init_55 rfl (Nat.le_of_ble_eq_true rfl) ?_
      refine ab_aload_n (pc := 57) dX5_init_57 rfl ?_
      refine ab_get (pc := 58) (k := 2) okX5 ho rfl w658 rfl dX5_init_58 ?_
      refine ab_iload (pc := 61) dX5_init_61 rfl ?_
      refine ab_dup2 (pc := 63) dX5_init_63 rfl rfl ?_
      refine ab_iald (pc := 64) h2 (by omega) (by omega) dX5_init_64 ?_
      refine ab_iconst (pc := 65) dX5_init_65 (by decide) ?_
      refine ab_iadd (pc := 66) dX5_init_66 (by omega) (by omega) ?_
      refine ab_iastG (pc := 67) h2 (by omega) (by omega) (by omega) dX5_init_67 (fun h e9 n9 => ?_)
      replace ho := (n9 _ (ab_ne ho h2 (by first | (simp; done) | (simp; omega)))).trans ho
      replace h1 := (n9 _ (ab_ne h1 h2 (by first | (simp; done) | (simp; omega)))).trans h1
      replace h3 := (n9 _ (ab_ne h3 h2 (by first | (simp; done) | (simp; omega)))).trans h3
      replace h4 := (n9 _ (ab_ne h4 h2 (by first | (simp; done) | (simp; omega)))).trans h4
      replace h5 := (n9 _ (ab_ne h5 h2 (by first | (simp; done) | (simp; omega)))).trans h5
      replace kp := kp.wr h2 (cP_no (by simp)) n9
      replace h2 := e9
      clear e9 n9
      refine ab_iinc (pc := 68) dX5_init_68 rfl rfl (by decide) (by omega) (by omega) ?_
      refine ab_goto (pc := 71) 45 dX5_init_71 (by decide) ?_
      refine ih (i + 1) _ _ _ (by omega) ho h1 h2 h3 h4 h5 kp (by omega) (by omega) (fun x x0 x1 => ?_)
      rw [cs x, Int.zero_add]
      by_cases e : x = t i
      · rw [ab_f_eq e, tmi, ← e, if_pos rfl]
      · rw [ab_f_ne e, if_neg (fun k => e k.symm), I x x0 x1, Int.add_zero]
theorem c_newShape (hG : ab_G l E) {a b1 g M : Nat} {t : Int → Int} (ho : h0 a = some (kO g 4 [vN, vI 0, vN, vN, vN, vN, vI 0])) (h1 : h0 b1 = some (kI (g + 1) M t)) (g0 : 201 ≤ g) (M1 : 1 ≤ M) (M6 : M ≤ 6) (ht : ∀ j : Int, 0 ≤ j → j < M → 0 ≤ t j ∧ t j ≤ 2) : ab_M l E Y_X5_init 6 2 4 12 [vR a, vR b1] h0 (cC h0 [g, g + 2] (fun r h' => r = none ∧ shC h' g a t M)) := by
  refine ab_M.of (L0 := [some (vR a), some (vR b1), none, none, none, none]) hG rfl rfl (Nat.le_of_ble_eq_true rfl) rfl ?_
  have kp : ab_kp (cP [g, g + 2]) h0 h0 := ab_kp0
  refine ab_aload_n (pc := 0) dX5_init_0 rfl ?_
  refine ab_callIN (pc := 1) (c_law0 hG) (fun _ _ hx => absurd hx pV_no) ⟨w655, w2, w52, by decide, pd0⟩ w51 ⟨rfl, rfl⟩ rfl (by omega) (by decide) (Nat.le_of_ble_eq_true rfl) dX5_init_1 ?_
  rintro _ _ ⟨e9, rfl⟩
  cases e9
  refine ab_aload_n (pc := 4) dX5_init_4 rfl ?_
  refine ab_iconst (pc := 5) dX5_init_5 (by decide) ?_
  refine ab_newIG (pc := 6) (g + 2) (3) rfl (by decide) dX5_init_6 w111 (fun a_h2 h z9 e9 n9 => ?_)
  replace ho := (n9 _ (ab_nn ho z9)).trans ho
  replace h1 := (n9 _ (ab_nn h1 z9)).trans h1
  replace kp := kp.new z9 n9
  have h2 := e9
  clear e9 n9
  refine ab_putG (pc := 8) (k := 2) okX5 ho (by omega) (by decide) trivial w658 rfl (Or.inr ⟨rfl, rfl, rfl⟩) dX5_init_8 (fun h e9 n9 => ?_)
  replace h1 := (n9 _ (ab_ne h1 ho (by first | (simp; done) | (simp; omega)))).trans h1
  replace h2 := (n9 _ (ab_ne h2 ho (by first | (simp; done) | (simp; omega)))).trans h2
  replace kp := kp.wr ho (cP_no (by simp)) n9
  replace ho := e9
  clear e9 n9
  refine ab_aload_n (pc := 11) dX5_init_11 rfl ?_
  refine ab_iconst (pc := 12) dX5_init_12 (by decide) ?_
  refine ab_newIG (pc := 13) (g + 3) (3) rfl (by decide) dX5_init_13 w111 (fun a_h3 h z9 e9 n9 => ?_)
  replace ho := (n9 _ (ab_nn ho z9)).trans ho
  replace h1 := (n9 _ (ab_nn h1 z9)).trans h1
  replace h2 := (n9 _ (ab_nn h2 z9)).trans h2
  replace kp := kp.new z9 n9
  have h3 := e9
  clear e9 n9
  refine ab_putG (pc := 15) (k := 3) okX5 ho (by omega) (by decide) trivial w659 rfl (Or.inr ⟨rfl, rfl, rfl⟩) dX5_init_15 (fun h e9 n9 => ?_)
  replace h1 := (n9 _ (ab_ne h1 ho (by first | (simp; done) | (simp; omega)))).trans h1
  replace h2 := (n9 _ (ab_ne h2 ho (by first | (simp; done) | (simp; omega)))).trans h2
  replace h3 := (n9 _ (ab_ne h3 ho (by first | (simp; done) | (simp; omega)))).trans h3
  replace kp := kp.wr ho (cP_no (by simp)) n9
  replace ho := e9
  clear e9 n9
  refine ab_aload_n (pc := 18) dX5_init_18 rfl ?_
  refine ab_iconst (pc := 19) dX5_init_19 (by decide) ?_
  refine ab_newIG (pc := 20) (g + 4) (3) rfl (by decide) dX5_init_20 w111 (fun a_h4 h z9 e9 n9 => ?_)
  replace ho := (n9 _ (ab_nn ho z9)).trans ho
  replace h1 := (n9 _ (ab_nn h1 z9)).trans h1
  replace h2 := (n9 _ (ab_nn h2 z9)).trans h2
  replace h3 := (n9 _ (ab_nn h3 z9)).trans h3
  replace kp := kp.new z9 n9
  have h4 := e9
  clear e9 n9
  refine ab_putG (pc := 22) (k := 4) okX5 ho (by omega) (by decide) trivial w660 rfl (Or.inr ⟨rfl, rfl, rfl⟩) dX5_init_22 (fun h e9 n9 => ?_)
  replace h1 := (n9 _ (ab_ne h1 ho (by first | (simp; done) | (simp; omega)))).trans h1
  replace h2 := (n9 _ (ab_ne h2 ho (by first | (simp; done) | (simp; omega)))).trans h2
  replace h3 := (n9 _ (ab_ne h3 ho (by first | (simp; done) | (simp; omega)))).trans h3
  replace h4 := (n9 _ (ab_ne h4 ho (by first | (simp; done) | (simp; omega)))).trans h4
  replace kp := kp.wr ho (cP_no (by simp)) n9
  replace ho := e9
  clear e9 n9
  refine ab_aload_n (pc := 25) dX5_init_25 rfl ?_
  refine ab_iconst (pc := 26) dX5_init_26 (by decide) ?_
  refine ab_newIG (pc := 27) (g + 5) (3) rfl (by decide) dX5_init_27 w111 (fun a_h5 h z9 e9 n9 => ?_)
  replace ho := (n9 _ (ab_nn ho z9)).trans ho
  replace h1 := (n9 _ (ab_nn h1 z9)).trans h1
  replace h2 := (n9 _ (ab_nn h2 z9)).trans h2
  replace h3 := (n9 _ (ab_nn h3 z9)).trans h3
  replace h4 := (n9 _ (ab_nn h4 z9)).trans h4
  replace kp := kp.new z9 n9
  have h5 := e9
  clear e9 n9
  refine ab_putG (pc := 29) (k := 5) okX5 ho (by omega) (by decide) trivial w661 rfl (Or.inr ⟨rfl, rfl, rfl⟩) dX5_init_29 (fun h e9 n9 => ?_)
  replace h1 := (n9 _ (ab_ne h1 ho (by first | (simp; done) | (simp; omega)))).trans h1
  replace h2 := (n9 _ (ab_ne h2 ho (by first | (simp; done) | (simp; omega)))).trans h2
  replace h3 := (n9 _ (ab_ne h3 ho (by first | (simp; done) | (simp; omega)))).trans h3
  replace h4 := (n9 _ (ab_ne h4 ho (by first | (simp; done) | (simp; omega)))).trans h4
  replace h5 := (n9 _ (ab_ne h5 ho (by first | (simp; done) | (simp; omega)))).trans h5
  replace kp := kp.wr ho (cP_no (by simp)) n9
  replace ho := e9
  clear e9 n9
  refine ab_aload_n (pc := 32) dX5_init_32 rfl ?_
  refine ab_aload_n (pc := 33) dX5_init_33 rfl ?_
  refine ab_putG (pc := 34) (k := 0) okX5 ho (by omega) (by decide) trivial w656 rfl (Or.inr ⟨rfl, rfl, rfl⟩) dX5_init_34 (fun h e9 n9 => ?_)
  replace h1 := (n9 _ (ab_ne h1 ho (by first | (simp; done) | (simp; omega)))).trans h1
  replace h2 := (n9 _ (ab_ne h2 ho (by first | (simp; done) | (simp; omega)))).trans h2
  replace h3 := (n9 _ (ab_ne h3 ho (by first | (simp; done) | (simp; omega)))).trans h3
  replace h4 := (n9 _ (ab_ne h4 ho (by first | (simp; done) | (simp; omega)))).trans h4
  replace h5 := (n9 _ (ab_ne h5 ho (by first | (simp; done) | (simp; omega)))).trans h5
  replace kp := kp.wr ho (cP_no (by simp)) n9
  replace ho := e9
  clear e9 n9
  refine ab_aload_n (pc := 37) dX5_init_37 rfl ?_
  refine ab_astore_n (pc := 38) dX5_init_38 rfl (Nat.le_of_ble_eq_true rfl) ?_
  refine ab_aload_n (pc := 39) dX5_init_39 rfl ?_
  refine ab_alen (pc := 40) h1 dX5_init_40 ?_
  refine ab_istore_n (pc := 41) dX5_init_41 rfl (Nat.le_of_ble_eq_true rfl) ?_
  refine ab_iconst (pc := 42) dX5_init_42 (by decide) ?_
  refine ab_istore (pc := 43) dX5_init_43 rfl (Nat.le_of_ble_eq_true rfl) ?_
  exact c_newShape_45 g0 M1 M6 ht _ 0 _ _ _ (Nat.lt_succ_self _) ho h1 h2 h3 h4 h5 kp (by omega) (by omega) (fun x x0 x1 => rfl)
end C18
