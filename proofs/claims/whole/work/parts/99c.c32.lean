/-! the class: shapes told -/
section C32
variable {l : Launch} {E : AbE} {h0 : AbH}
theorem ab_ldcw {y : AbY} {d kc ks pc : Nat} {L : List (Option AbV)} {S : List AbV} {h : AbH} {Q : AbO → AbH → Prop} {ix : Nat} {v : Int32} (hd : decode y.2.1 pc = .ok (.ldc_w ix, 3)) (hw : Cond.constant y.1.cls ix v ∈ lw_tbl) (k : ab_T l E y d kc ks (pc + 3) L (vI v.toInt :: S) h Q) : ab_T l E y d kc ks pc L S h Q := by
  intro p e R s m args below meth c H locs cells slots mc ms ls st X hR hP hl hL hS
  obtain ⟨hx, hb, hml, hown, hr, hlk, hnm, htb, hW, ho, hG⟩ := id X
  exact lv_ldcw hx hb hown (ab_word hG hw rfl hW args) hd (k p e R s m args below meth c H locs cells slots mc ms ls _ X hR hP hl hL ⟨_, _, rfl, ⟨_, rfl, rfl⟩, hS⟩)
theorem tkN_s {p : List Nat} : tkN (some p) 0 = (p.length : Int) := by
  show ((0 + p.length : Nat) : Int) = _
  rw [Nat.zero_add]
def pop8 (u : Nat) : Nat := (if has u 0 then 1 else 0) + (if has u 1 then 1 else 0) + (if has u 2 then 1 else 0)
theorem pop_nU {l : List Nat} : pop8 (unkN l) = nU l := by
  unfold pop8 nU
  have e : ∀ x : Nat, (if has (unkN l) x = true then 1 else 0) = (if x ∈ l then 1 else 0 : Nat) := by
    intro x
    rw [has_unk]
    by_cases g : x ∈ l
    · rw [if_pos g, if_pos (decide_eq_true g)]
    · rw [if_neg g, if_neg (by rw [decide_eq_true_iff]; exact g)]
  rw [e, e, e]
theorem zL_shl : ∀ k : Fin 4, ab_shl 1 ((k.val : Nat) : Int) - 1 = zL k.val ∧ 0 ≤ ab_shl 1 ((k.val : Nat) : Int) ∧ ab_shl 1 ((k.val : Nat) : Int) ≤ 8 ∧ zL k.val ≤ 7 ∧ 0 ≤ zL k.val := by decide +kernel
theorem lawsR.step5 {h h' : AbH} {N mb a : Nat} {SA : Int → Option Nat} {G i : Int} {F : Nat → Int → Int} (r : lawsR h N SA G mb F) (m0 : 201 ≤ mb) (i0 : 0 ≤ i) (k : ab_kp (cP [mb + 8 * i.toNat, mb + 8 * i.toNat + 3, mb + 8 * i.toNat + 4, mb + 8 * i.toNat + 5]) h h') (e : SA i = some a) (c : lawC h' (mb + 8 * i.toNat) a F i) : lawsR h' N SA G mb F := fun q q0 q1 => ⟨fun g => by
  by_cases e9 : q = i
  · exact ⟨a, by rw [e9]; exact e, by rw [e9]; exact c⟩
  · obtain ⟨a, e, c⟩ := (r q q0 q1).1 g
    refine ⟨a, e, lawC_kp k (fun j hj => ?_) c⟩
    unfold cP
    simp
    omega, (r q q0 q1).2⟩
theorem w1019 : (Jvm.Cond.constant "java/lang/Integer" (265 : Nat) (1431655765 : Int32)) ∈ lw_tbl := w_in 1019 (by decide +kernel)
theorem w1020 : (Jvm.Cond.constant "java/lang/Integer" (266 : Nat) (858993459 : Int32)) ∈ lw_tbl := w_in 1020 (by decide +kernel)
theorem w1021 : (Jvm.Cond.constant "java/lang/Integer" (267 : Nat) (252645135 : Int32)) ∈ lw_tbl := w_in 1021 (by decide +kernel)
theorem c_bits (hG : ab_G l E) {u : Fin 8}  : ab_M l E Y_J6_bitCount_0f7a4 1 0 0 0 [vI ((u.val : Nat) : Int)] h0 (pC h0 (fun v => v = ((pop8 u.val : Nat) : Int))) := by
  refine ab_M.of (L0 := [some (vI ((u.val : Nat) : Int))]) hG rfl rfl (Nat.le_of_ble_eq_true rfl) rfl ?_
  refine ab_iload_n (pc := 0) dJ6_bitCount_0f7a4_0 rfl ?_
  refine ab_iload_n (pc := 1) dJ6_bitCount_0f7a4_1 rfl ?_
  refine ab_iconst (pc := 2) dJ6_bitCount_0f7a4_2 (by decide) ?_
  refine ab_iushr (pc := 3) dJ6_bitCount_0f7a4_3 ?_
  refine ab_ldcw (pc := 4) dJ6_bitCount_0f7a4_4 w1019 ?_
  refine ab_iand (pc := 7) dJ6_bitCount_0f7a4_7 ?_
  refine ab_isub (pc := 8) dJ6_bitCount_0f7a4_8 (by revert u; decide +kernel) (by revert u; decide +kernel) ?_
  refine ab_istore_n (pc := 9) dJ6_bitCount_0f7a4_9 rfl (Nat.le_of_ble_eq_true rfl) ?_
  refine ab_iload_n (pc := 10) dJ6_bitCount_0f7a4_10 rfl ?_
  refine ab_ldcw (pc := 11) dJ6_bitCount_0f7a4_11 w1020 ?_
  refine ab_iand (pc := 14) dJ6_bitCount_0f7a4_14 ?_
  refine ab_iload_n (pc := 15) dJ6_bitCount_0f7a4_15 rfl ?_
  refine ab_iconst (pc := 16) dJ6_bitCount_0f7a4_16 (by decide) ?_
  refine ab_iushr (pc := 17) dJ6_bitCount_0f7a4_17 ?_
  refine ab_ldcw (pc := 18) dJ6_bitCount_0f7a4_18 w1020 ?_
  refine ab_iand (pc := 21) dJ6_bitCount_0f7a4_21 ?_
  refine ab_iadd (pc := 22) dJ6_bitCount_0f7a4_22 (by revert u; decide +kernel) (by revert u; decide +kernel) ?_
  refine ab_istore_n (pc := 23) dJ6_bitCount_0f7a4_23 rfl (Nat.le_of_ble_eq_true rfl) ?_
  refine ab_iload_n (pc := 24) dJ6_bitCount_0f7a4_24 rfl ?_
  refine ab_iload_n (pc := 25) dJ6_bitCount_0f7a4_25 rfl ?_
  refine ab_iconst (pc := 26) dJ6_bitCount_0f7a4_26 (by decide) ?_
  refine ab_iushr (pc := 27) dJ6_bitCount_0f7a4_27 ?_
  refine ab_iadd (pc := 28) dJ6_bitCount_0f7a4_28 (by revert u; decide +kernel) (by revert u; decide +kernel) ?_
  refine ab_ldcw (pc := 29) dJ6_bitCount_0f7a4_29 w1021 ?_
  refine ab_iand (pc := 32) dJ6_bitCount_0f7a4_32 ?_
  refine ab_istore_n (pc := 33) dJ6_bitCount_0f7a4_33 rfl (Nat.le_of_ble_eq_true rfl) ?_
  refine ab_iload_n (pc := 34) dJ6_bitCount_0f7a4_34 rfl ?_
  refine ab_iload_n (pc := 35) dJ6_bitCount_0f7a4_35 rfl ?_
  refine ab_bipush (pc := 36) dJ6_bitCount_0f7a4_36 (by decide) ?_
  refine ab_iushr (pc := 38) dJ6_bitCount_0f7a4_38 ?_
  refine ab_iadd (pc := 39) dJ6_bitCount_0f7a4_39 (by revert u; decide +kernel) (by revert u; decide +kernel) ?_
  refine ab_istore_n (pc := 40) dJ6_bitCount_0f7a4_40 rfl (Nat.le_of_ble_eq_true rfl) ?_
  refine ab_iload_n (pc := 41) dJ6_bitCount_0f7a4_41 rfl ?_
  refine ab_iload_n (pc := 42) dJ6_bitCount_0f7a4_42 rfl ?_
  refine ab_bipush (pc := 43) dJ6_bitCount_0f7a4_43 (by decide) ?_
  refine ab_iushr (pc := 45) dJ6_bitCount_0f7a4_45 ?_
  refine ab_iadd (pc := 46) dJ6_bitCount_0f7a4_46 (by revert u; decide +kernel) (by revert u; decide +kernel) ?_
  refine ab_istore_n (pc := 47) dJ6_bitCount_0f7a4_47 rfl (Nat.le_of_ble_eq_true rfl) ?_
  refine ab_iload_n (pc := 48) dJ6_bitCount_0f7a4_48 rfl ?_
  refine ab_bipush (pc := 49) dJ6_bitCount_0f7a4_49 (by decide) ?_
  refine ab_iand (pc := 51) dJ6_bitCount_0f7a4_51 ?_
  refine ab_iret (pc := 52) dJ6_bitCount_0f7a4_52 rfl ?_
  exact ⟨_, rfl, rfl, by revert u; decide +kernel⟩
theorem c_stZ_14 {a g z9 : Nat} {t : Int → Int} {F : Nat → Int → Int} {q : Int} (hG : ab_G l E) (hzm : ab_zim E z9) (g0 : 201 ≤ g) (f85 : F 8 q = 5) (L1 : 1 ≤ F 11 q) (L6 : F 11 q ≤ 6) (tF : ∀ i : Int, 0 ≤ i → i < F 11 q → t i = F 12 (80 * q + i)) (tb : ∀ j : Int, 0 ≤ j → j < F 11 q → 0 ≤ t j ∧ t j ≤ 2)   (fu : Nat) : ∀ (n : Int) (h : AbH), (8 - n).toNat < fu → shC h g a t (F 11 q).toNat → h z9 = some (kI 1 7 zim) → ab_kp (cP [g, g + 3, g + 4]) h0 h → (1 ≤ n) → (∀ a u : Int, 0 ≤ a → a < u → u < n → ¬ Bar F q zim a u) → ab_T l E Y_X5_standsInZimin 9 0 0 14 [some (vR a), some (vI (zL (nU (shL F q)))), some (vI n)] [] h (cC h0 [g, g + 3, g + 4] (fun r h' => ∃ v : Int, r = some (vI v) ∧ shC h' g a t (F 11 q).toNat ∧ ((v = 1 ∧ StZ (F 12) (80 * q) (F 11 q) (zL (nU (shL F q)))) ∨ (v = 0 ∧ ¬ StZ (F 12) (80 * q) (F 11 q) (zL (nU (shL F q))))))) := by
  induction fu with
  | zero => intro n h hms9; exact absurd hms9 (Nat.not_lt_zero _)
  | succ fu ih =>
    intro n h hms9 sc hz kp n0 I
    have eL : (((F 11 q).toNat : Nat) : Int) = F 11 q := by omega
    have k3 := nU_3 (l := shL F q)
    have zl := zL_shl ⟨nU (shL F q), by omega⟩
    simp only [] at zl
    refine ab_iload_n (pc := 14) dX5_standsInZimin_14 rfl ?_
    refine ab_iload_n (pc := 15) dX5_standsInZimin_15 rfl ?_
    refine ab_icmp_gt (pc := 16) 46 dX5_standsInZimin_16 (by decide) (fun c16 => ?_) (fun c16 => ?_)
    · refine ab_iconst (pc := 46) dX5_standsInZimin_46 (by decide) ?_
      refine ab_zret (pc := 47) dX5_standsInZimin_47 rfl (by omega) ?_
      exact ⟨_, rfl, kp, 0, rfl, sc, Or.inr ⟨rfl, fun ⟨a1, u, b0, b1, b2, b3⟩ => I a1 u b0 b1 (by omega) ((Bar_shape f85).mpr b3)⟩⟩
    · refine ab_iload_n (pc := 19) dX5_standsInZimin_19 rfl ?_
      refine ab_zimin (pc := 20) hzm w1022 dX5_standsInZimin_20 ?_
      refine ab_alen (pc := 23) hz dX5_standsInZimin_23 ?_
      refine ab_icmp_gt (pc := 24) 46 dX5_standsInZimin_24 (by decide) (fun c24 => ?_) (fun c24 => ?_)
      · refine ab_iconst (pc := 46) dX5_standsInZimin_46 (by decide) ?_
        refine ab_zret (pc := 47) dX5_standsInZimin_47 rfl (by omega) ?_
        exact ⟨_, rfl, kp, 0, rfl, sc, Or.inr ⟨rfl, fun ⟨a1, u, b0, b1, b2, b3⟩ => I a1 u b0 b1 (by omega) ((Bar_shape f85).mpr b3)⟩⟩
      · refine ab_aload_n (pc := 27) dX5_standsInZimin_27 rfl ?_
        refine ab_zimin (pc := 28) hzm w1022 dX5_standsInZimin_28 ?_
        refine ab_iload_n (pc := 31) dX5_standsInZimin_31 rfl ?_
        obtain ⟨b1, b2, b3, b4, b5, tl, bs, tm, en, st, s0, s1, s2, s3, s4, s5, s6, s7⟩ := id sc
        refine ab_callV (pc := 32) (c_shape_ hG s0 s1 s2 s3 s4 hz s5 g0 (by decide) (by omega) (by show n ≤ (7 : Int); omega) (by decide) (by omega) (by omega) (by rw [eL]; exact tb) s6 s7 (fun a u a0 a1 a2 hc => I a u a0 a1 a2 ((Bar_shape f85).mpr (Comes_told eL (by omega) (fun i i0 i1 => tF i i0 (by omega)) hc)))) s0 rfl ⟨w1024, w26, w772, by decide, pd55⟩ w771 w1401 rfl (by omega) (by decide) (Nat.le_of_ble_eq_true rfl) rfl dX5_standsInZimin_32 (fun _ _ hx => absurd hx cC_no) ?_
        rintro _ h ⟨_, e9, kq, v9, rfl, sc9, bs9, en1, en2, T1, T2⟩
        cases e9
        replace hz := kq _ _ hz (by unfold cP; first | (simp; done) | (simp; omega))
        replace kp := kp.cal kq (by first | (simp; done) | (simp; omega))
        replace sc := sc9
        have sh9 := Sh_shape f85 eL (by omega) (fun i i0 i1 => tF i i0 (by omega)) T1 T2
        refine ab_if_le (pc := 35) 40 dX5_standsInZimin_35 (by decide) (fun c35 => ?_) (fun c35 => ?_)
        · refine ab_iinc (pc := 40) dX5_standsInZimin_40 rfl rfl (by decide) (by omega) (by omega) ?_
          refine ab_goto (pc := 43) 14 dX5_standsInZimin_43 (by decide) ?_
          exact ih (n + 1) _ (by omega) sc hz kp (by omega) (fun a u a0 a1 a2 => by by_cases e : u = n; (rw [e]; exact Sh_0 sh9 c35 a a0 (by omega)); exact I a u a0 a1 (by omega))
        · refine ab_iconst (pc := 38) dX5_standsInZimin_38 (by decide) ?_
          refine ab_zret (pc := 39) dX5_standsInZimin_39 rfl (by omega) ?_
          obtain ⟨a1, b0, b1, b2⟩ := Sh_1 sh9 c35
          exact ⟨_, rfl, kp, 1, rfl, sc, Or.inl ⟨rfl, a1, n, b0, b1, by omega, (Bar_shape f85).mp b2⟩⟩
theorem c_stZ (hG : ab_G l E) {a g z9 : Nat} {t : Int → Int} {F : Nat → Int → Int} {q : Int} (sc : shC h0 g a t (F 11 q).toNat) (hz : h0 z9 = some (kI 1 7 zim)) (hzm : ab_zim E z9) (g0 : 201 ≤ g) (f85 : F 8 q = 5) (L1 : 1 ≤ F 11 q) (L6 : F 11 q ≤ 6) (tF : ∀ i : Int, 0 ≤ i → i < F 11 q → t i = F 12 (80 * q + i)) (tb : ∀ j : Int, 0 ≤ j → j < F 11 q → 0 ≤ t j ∧ t j ≤ 2) : ab_M l E Y_X5_standsInZimin 3 9 0 0 [vR a] h0 (cC h0 [g, g + 3, g + 4] (fun r h' => ∃ v : Int, r = some (vI v) ∧ shC h' g a t (F 11 q).toNat ∧ ((v = 1 ∧ StZ (F 12) (80 * q) (F 11 q) (zL (nU (shL F q)))) ∨ (v = 0 ∧ ¬ StZ (F 12) (80 * q) (F 11 q) (zL (nU (shL F q))))))) := by
  refine ab_M.of (L0 := [some (vR a), none, none]) hG rfl rfl (Nat.le_of_ble_eq_true rfl) rfl ?_
  have kp : ab_kp (cP [g, g + 3, g + 4]) h0 h0 := ab_kp0
  have eL : (((F 11 q).toNat : Nat) : Int) = F 11 q := by omega
  have k3 := nU_3 (l := shL F q)
  have zl := zL_shl ⟨nU (shL F q), by omega⟩
  simp only [] at zl
  have eS : ls t (F 11 q).toNat = shL F q := ls_congr (fun j j0 j1 => tF j j0 (by omega))
  obtain ⟨b1, b2, b3, b4, b5, tl, bs, tm, en, st, s0, s1, s2, s3, s4, s5, s6, s7⟩ := id sc
  refine ab_iconst (pc := 0) dX5_standsInZimin_0 (by decide) ?_
  refine ab_aload_n (pc := 1) dX5_standsInZimin_1 rfl ?_
  refine ab_callV (pc := 2) (c_unk hG s0 s1 (by omega) (by rw [eL]; exact tb)) s0 rfl ⟨w1012, w26, w1015, by decide, pd26⟩ w1014 sp21 rfl (by omega) (by decide) (Nat.le_of_ble_eq_true rfl) rfl dX5_standsInZimin_2 (fun _ _ hx => absurd hx pC_no) ?_
  rintro _ _ ⟨uv, e9, rfl, huv⟩
  cases e9
  rw [eS] at huv
  subst huv
  refine ab_callS (pc := 5) (c_bits hG (u := ⟨unkN (shL F q), unk8 (by rw [← eS]; exact ls_mem (by rw [eL]; exact tb))⟩)) ⟨w1016, w23, w1018, by decide, pd2⟩ w1017 rfl (by omega) (by decide) (Nat.le_of_ble_eq_true rfl) rfl dX5_standsInZimin_5 (fun _ _ hx => absurd hx pC_no) ?_
  rintro _ _ ⟨bv, e9, rfl, hbv⟩
  cases e9
  replace hbv : bv = ((nU (shL F q) : Nat) : Int) := hbv.trans (by rw [← pop_nU])
  rw [hbv]
  refine ab_ishl (pc := 8) dX5_standsInZimin_8 ?_
  refine ab_iconst (pc := 9) dX5_standsInZimin_9 (by decide) ?_
  refine ab_isub (pc := 10) dX5_standsInZimin_10 (by omega) (by omega) ?_
  rw [zl.1]
  refine ab_istore_n (pc := 11) dX5_standsInZimin_11 rfl (Nat.le_of_ble_eq_true rfl) ?_
  refine ab_iconst (pc := 12) dX5_standsInZimin_12 (by decide) ?_
  refine ab_istore_n (pc := 13) dX5_standsInZimin_13 rfl (Nat.le_of_ble_eq_true rfl) ?_
  exact c_stZ_14 hG hzm g0 f85 L1 L6 tF tb _ 1 _ (Nat.lt_succ_self _) sc hz kp (by omega) (fun a u a0 a1 a2 => by omega)
theorem c_tellSh (hG : ab_G l E) {a g z9 : Nat} {t : Int → Int} {F : Nat → Int → Int} {q : Int} {w : Int} (sc : shC h0 g a t (F 11 q).toNat) (hz : h0 z9 = some (kI 1 7 zim)) (hzm : ab_zim E z9) (g0 : 201 ≤ g) (f85 : F 8 q = 5) (L1 : 1 ≤ F 11 q) (L6 : F 11 q ≤ 6) (tF : ∀ i : Int, 0 ≤ i → i < F 11 q → t i = F 12 (80 * q + i)) (tb : ∀ j : Int, 0 ≤ j → j < F 11 q → 0 ≤ t j ∧ t j ≤ 2) (w0 : 0 ≤ w) (wmx : w < 2147483648) : ab_M l E Y_X9_tellShape 3 10 0 0 [vR a, vI w] h0 (cC h0 [g, g + 3, g + 4, g + 5] (fun r h' => ∃ v : Int, r = some (vI v) ∧ shC h' g a t (F 11 q).toNat ∧ ((w = 1 ∧ ((v = 1 ∧ StZ (F 12) (80 * q) (F 11 q) (zL (nU (shL F q)))) ∨ (v = 0 ∧ ¬ StZ (F 12) (80 * q) (F 11 q) (zL (nU (shL F q)))))) ∨ (w ≠ 1 ∧ v = stA (stepsOf (fun i => F 12 (80 * q + i)) (F 11 q).toNat) w)))) := by
  refine ab_M.of (L0 := [some (vR a), some (vI w), none]) hG rfl rfl (Nat.le_of_ble_eq_true rfl) rfl ?_
  have kp : ab_kp (cP [g, g + 3, g + 4, g + 5]) h0 h0 := ab_kp0
  have eL : (((F 11 q).toNat : Nat) : Int) = F 11 q := by omega
  have eS : ls t (F 11 q).toNat = shL F q := ls_congr (fun j j0 j1 => tF j j0 (by omega))
  have eT : stepsOf t (F 11 q).toNat = stepsOf (fun i => F 12 (80 * q + i)) (F 11 q).toNat := by unfold stepsOf; rw [eS]
  obtain ⟨b1, b2, b3, b4, b5, tl, bs, tm, en, st, s0, s1, s2, s3, s4, s5, s6, s7⟩ := id sc
  refine ab_iload_n (pc := 0) dX9_tellShape_0 rfl ?_
  refine ab_iconst (pc := 1) dX9_tellShape_1 (by decide) ?_
  refine ab_icmp_ne (pc := 2) 18 dX9_tellShape_2 (by decide) (fun c2 => ?_) (fun c2 => ?_)
  · refine ab_aload_n (pc := 18) dX9_tellShape_18 rfl ?_
    refine ab_callV (pc := 19) (c_seekSt hG s0 s1 s5 (by omega) (by rw [eL]; exact tb) g0) s0 rfl ⟨w1025, w26, w1028, by decide, pd26⟩ w1026 w1027 rfl (by omega) (by decide) (Nat.le_of_ble_eq_true rfl) rfl dX9_tellShape_19 (fun _ _ hx => absurd hx cC_no) ?_
    rintro _ h ⟨_, e9, kq, st2, rfl, s59, sk⟩
    cases e9
    replace hz := kq _ _ hz (by unfold cP; first | (simp; done) | (simp; omega))
    replace kp := kp.cal kq (by first | (simp; done) | (simp; omega))
    replace sc := (⟨b1, b2, b3, b4, b5, tl, bs, tm, en, st2, kq _ _ s0 (by unfold cP; simp; omega), kq _ _ s1 (by unfold cP; simp; omega), kq _ _ s2 (by unfold cP; simp; omega), kq _ _ s3 (by unfold cP; simp; omega), kq _ _ s4 (by unfold cP; simp; omega), s59, s6, s7⟩ : shC h g a t (F 11 q).toNat)
    replace s0 := kq _ _ s0 (by unfold cP; simp; omega)
    replace s1 := kq _ _ s1 (by unfold cP; simp; omega)
    rw [eT] at sk
    have tn : tkN (stepsOf t (F 11 q).toNat) 0 = tkN (stepsOf (fun i => F 12 (80 * q + i)) (F 11 q).toNat) 0 := by rw [eT]
    rw [tn]
    have ne9 : stepsOf (fun i => F 12 (80 * q + i)) (F 11 q).toNat ≠ some [] := tk_ne (fun k => by have := congrArg List.length k; rw [ls_len] at this; simp at this; omega)
    refine ab_istore_n (pc := 22) dX9_tellShape_22 rfl (Nat.le_of_ble_eq_true rfl) ?_
    refine ab_iload_n (pc := 23) dX9_tellShape_23 rfl ?_
    refine ab_if_ne (pc := 24) 37 dX9_tellShape_24 (by decide) (fun c24 => ?_) (fun c24 => ?_)
    · refine ab_iload_n (pc := 37) dX9_tellShape_37 rfl ?_
      refine ab_iconst (pc := 38) dX9_tellShape_38 (by decide) ?_
      refine ab_icmp_ne (pc := 39) 44 dX9_tellShape_39 (by decide) (fun c39 => ?_) (fun c39 => ?_)
      · refine ab_iload_n (pc := 44) dX9_tellShape_44 rfl ?_
        refine ab_iconst (pc := 45) dX9_tellShape_45 (by decide) ?_
        refine ab_isub (pc := 46) dX9_tellShape_46 (by omega) (by omega) ?_
        refine ab_iload_n (pc := 47) dX9_tellShape_47 rfl ?_
        refine ab_icmp_ge (pc := 48) 61 dX9_tellShape_48 (by decide) (fun c48 => ?_) (fun c48 => ?_)
        · refine ab_iconst (pc := 61) dX9_tellShape_61 (by decide) ?_
          refine ab_iret (pc := 62) dX9_tellShape_62 rfl ?_
          cases eO : stepsOf (fun i => F 12 (80 * q + i)) (F 11 q).toNat with
          | none => first | (rw [eO] at c48; exact absurd (show (0 : Int) ≤ w - 3 by omega) c48) | exact ⟨_, rfl, kp, 0, rfl, sc, Or.inr ⟨by omega, rfl⟩⟩
          | some p =>
            rw [eO, tkN_s] at c48
            first | exact ⟨_, rfl, kp, 0, rfl, sc, Or.inr ⟨by omega, (stA_hi (by omega) (by omega) (by omega)).symm⟩⟩ | (refine ⟨_, rfl, kp, av, rfl, sc, Or.inr ⟨by omega, ?_⟩⟩; have p9 := tk_len _ _ _ eO; have sk9 := sk p eO (w - 3).toNat (by omega); rw [show ((0 + (w - 3).toNat : Nat) : Int) = w - 3 by omega] at sk9; rw [stA_in (by omega) (by omega) (by omega), ← sk9]; rcases hav with ⟨_, _, q⟩ | ⟨q, _⟩; (exact q); omega)
        · refine ab_aload_n (pc := 51) dX9_tellShape_51 rfl ?_
          refine ab_iload_n (pc := 52) dX9_tellShape_52 rfl ?_
          refine ab_iconst (pc := 53) dX9_tellShape_53 (by decide) ?_
          refine ab_isub (pc := 54) dX9_tellShape_54 (by omega) (by omega) ?_
          refine ab_callV (pc := 55) (c_stepAt hG s0 (b5 := b5) (st := st2) s1 s59) s0 rfl ⟨w1041, w26, w1044, by decide, pd2⟩ w1042 w1043 rfl (by omega) (by decide) (Nat.le_of_ble_eq_true rfl) rfl dX9_tellShape_55 (fun _ _ hx => absurd hx pC_no) ?_
          rintro _ _ ⟨av, e9, rfl, hav⟩
          cases e9
          refine ab_goto (pc := 58) 62 dX9_tellShape_58 (by decide) ?_
          refine ab_iret (pc := 62) dX9_tellShape_62 rfl ?_
          cases eO : stepsOf (fun i => F 12 (80 * q + i)) (F 11 q).toNat with
          | none => first | (rw [eO] at c48; exact absurd (show (0 : Int) ≤ w - 3 by omega) c48) | exact ⟨_, rfl, kp, 0, rfl, sc, Or.inr ⟨by omega, rfl⟩⟩
          | some p =>
            rw [eO, tkN_s] at c48
            first | exact ⟨_, rfl, kp, 0, rfl, sc, Or.inr ⟨by omega, (stA_hi (by omega) (by omega) (by omega)).symm⟩⟩ | (refine ⟨_, rfl, kp, av, rfl, sc, Or.inr ⟨by omega, ?_⟩⟩; have p9 := tk_len _ _ _ eO; have sk9 := sk p eO (w - 3).toNat (by omega); rw [show ((0 + (w - 3).toNat : Nat) : Int) = w - 3 by omega] at sk9; rw [stA_in (by omega) (by omega) (by omega), ← sk9]; rcases hav with ⟨_, _, q⟩ | ⟨q, _⟩; (exact q); omega)
      · refine ab_iload_n (pc := 42) dX9_tellShape_42 rfl ?_
        refine ab_iret (pc := 43) dX9_tellShape_43 rfl ?_
        cases eO : stepsOf (fun i => F 12 (80 * q + i)) (F 11 q).toNat with
        | none => exact ⟨_, rfl, kp, _, rfl, sc, Or.inr ⟨by omega, rfl⟩⟩
        | some p => exact ⟨_, rfl, kp, _, rfl, sc, Or.inr ⟨by omega, by rw [tkN_s, show w = 2 by omega]; rfl⟩⟩
    · refine ab_iload_n (pc := 27) dX9_tellShape_27 rfl ?_
      refine ab_if_le (pc := 28) 35 dX9_tellShape_28 (by decide) (fun c28 => ?_) (fun c28 => ?_)
      · refine ab_iconst (pc := 35) dX9_tellShape_35 (by decide) ?_
        refine ab_iret (pc := 36) dX9_tellShape_36 rfl ?_
        cases eO : stepsOf (fun i => F 12 (80 * q + i)) (F 11 q).toNat with
        | none => first | (rw [eO] at c28; exact absurd (show (0 : Int) ≤ 0 by omega) c28) | exact ⟨_, rfl, kp, 0, rfl, sc, Or.inr ⟨by omega, rfl⟩⟩
        | some p =>
          rw [eO, tkN_s] at c28
          have p1 : p.length ≠ 0 := fun k => ne9 (by rw [eO, List.length_eq_zero_iff.mp k])
          first | (exfalso; omega) | exact ⟨_, rfl, kp, 1, rfl, sc, Or.inr ⟨by omega, by rw [show w = 0 by omega]; rfl⟩⟩
      · refine ab_iconst (pc := 31) dX9_tellShape_31 (by decide) ?_
        refine ab_goto (pc := 32) 36 dX9_tellShape_32 (by decide) ?_
        refine ab_iret (pc := 36) dX9_tellShape_36 rfl ?_
        cases eO : stepsOf (fun i => F 12 (80 * q + i)) (F 11 q).toNat with
        | none => first | (rw [eO] at c28; exact absurd (show (0 : Int) ≤ 0 by omega) c28) | exact ⟨_, rfl, kp, 0, rfl, sc, Or.inr ⟨by omega, rfl⟩⟩
        | some p =>
          rw [eO, tkN_s] at c28
          have p1 : p.length ≠ 0 := fun k => ne9 (by rw [eO, List.length_eq_zero_iff.mp k])
          first | (exfalso; omega) | exact ⟨_, rfl, kp, 1, rfl, sc, Or.inr ⟨by omega, by rw [show w = 0 by omega]; rfl⟩⟩
  · refine ab_aload_n (pc := 5) dX9_tellShape_5 rfl ?_
    refine ab_callV (pc := 6) (c_stZ hG sc hz hzm g0 f85 L1 L6 tF tb) s0 rfl ⟨w1008, w26, w1011, by decide, pd20⟩ w1009 w1010 rfl (by omega) (by decide) (Nat.le_of_ble_eq_true rfl) rfl dX9_tellShape_6 (fun _ _ hx => absurd hx cC_no) ?_
    rintro _ h ⟨_, e9, kq, v9, rfl, sc9, hv9⟩
    cases e9
    replace hz := kq _ _ hz (by unfold cP; first | (simp; done) | (simp; omega))
    replace kp := kp.cal kq (by first | (simp; done) | (simp; omega))
    replace sc := sc9
    refine ab_if_eq (pc := 9) 16 dX9_tellShape_9 (by decide) (fun c9 => ?_) (fun c9 => ?_)
    · refine ab_iconst (pc := 16) dX9_tellShape_16 (by decide) ?_
      refine ab_iret (pc := 17) dX9_tellShape_17 rfl ?_
      first | (rcases hv9 with ⟨b, b2⟩ | ⟨b, b2⟩; (exact ⟨_, rfl, kp, 1, rfl, sc, Or.inl ⟨by omega, Or.inl ⟨rfl, b2⟩⟩⟩); omega) | (rcases hv9 with ⟨b, b2⟩ | ⟨b, b2⟩; (omega); exact ⟨_, rfl, kp, 0, rfl, sc, Or.inl ⟨by omega, Or.inr ⟨rfl, b2⟩⟩⟩)
    · refine ab_iconst (pc := 12) dX9_tellShape_12 (by decide) ?_
      refine ab_goto (pc := 13) 17 dX9_tellShape_13 (by decide) ?_
      refine ab_iret (pc := 17) dX9_tellShape_17 rfl ?_
      first | (rcases hv9 with ⟨b, b2⟩ | ⟨b, b2⟩; (exact ⟨_, rfl, kp, 1, rfl, sc, Or.inl ⟨by omega, Or.inl ⟨rfl, b2⟩⟩⟩); omega) | (rcases hv9 with ⟨b, b2⟩ | ⟨b, b2⟩; (omega); exact ⟨_, rfl, kp, 0, rfl, sc, Or.inl ⟨by omega, Or.inr ⟨rfl, b2⟩⟩⟩)
theorem c_shapeC (hG : ab_G l E) {x : Nat} {B : Nat → Nat} {s : Nat → Int} {F C : Nat → Int → Int} {SA : Nat → Int → Option Nat} {la : Option Nat} {q : Nat → Int} {z9 : Nat} {i w : Int} (rc : RCx h0 x B s F C SA la q) (hz : h0 z9 = some (kI 1 7 zim)) (hzm : ab_zim E z9) (b7 : 0 ≤ s 7) (c7 : s 7 ≤ 12) (lb : ∀ q : Int, 0 ≤ q → q < s 7 → lawB F q) (wmx : w < 2147483648) : ab_M l E Y_X9_shape 3 11 1 6 [vR x, vI i, vI w] h0 (cW h0 [200] x B (fun o s' F' => ∃ c r9 : Int, shSp s F i w c r9 ∧ s' = s ∧ F' = F ∧ ((c = 0 ∧ o = .inl (some (vI r9))) ∨ (c = 1 ∧ o = .inr "java/lang/IndexOutOfBoundsException") ∨ (c = 2 ∧ o = .inr "java/lang/IllegalArgumentException")))) := by
  refine ab_M.of (L0 := [some (vR x), some (vI i), some (vI w)]) hG rfl rfl (Nat.le_of_ble_eq_true rfl) rfl ?_
  have kp : ab_kp (cP [200]) h0 h0 := ab_kp0
  refine ab_iload_n (pc := 0) dX9_shape_0 rfl ?_
  refine ab_if_lt (pc := 1) 21 dX9_shape_1 (by decide) (fun c1 => ?_) (fun c1 => ?_)
  · refine ab_throw (pc := 21) tw_IOB w1004 (by decide) (Nat.le_of_ble_eq_true rfl) rfl dX9_shape_21 dX9_shape_24 dX9_shape_25 dX9_shape_27 dX9_shape_30 ?_
    exact ⟨kp, _, _, _, _, _, _, rc, 1, 0, Or.inl ⟨by omega, rfl⟩, rfl, rfl, Or.inr (Or.inl ⟨rfl, rfl⟩)⟩
  · refine ab_iload_n (pc := 4) dX9_shape_4 rfl ?_
    refine ab_aload_n (pc := 5) dX9_shape_5 rfl ?_
    refine ab_get (pc := 6) (k := 3) okX9 rc.o rfl w115 rfl dX9_shape_6 ?_
    refine ab_icmp_ge (pc := 9) 21 dX9_shape_9 (by decide) (fun c9 => ?_) (fun c9 => ?_)
    · refine ab_throw (pc := 21) tw_IOB w1004 (by decide) (Nat.le_of_ble_eq_true rfl) rfl dX9_shape_21 dX9_shape_24 dX9_shape_25 dX9_shape_27 dX9_shape_30 ?_
      exact ⟨kp, _, _, _, _, _, _, rc, 1, 0, Or.inl ⟨by omega, rfl⟩, rfl, rfl, Or.inr (Or.inl ⟨rfl, rfl⟩)⟩
    · refine ab_iload_n (pc := 12) dX9_shape_12 rfl ?_
      refine ab_aload_n (pc := 13) dX9_shape_13 rfl ?_
      refine ab_get (pc := 14) (k := 2) okX9 rc.o rfl w114 rfl dX9_shape_14 ?_
      refine ab_alenA (pc := 17) rc.ls dX9_shape_17 ?_
      refine ab_icmp_lt (pc := 18) 31 dX9_shape_18 (by decide) (fun c18 => ?_) (fun c18 => ?_)
      · refine ab_iload_n (pc := 31) dX9_shape_31 rfl ?_
        refine ab_if_ge (pc := 32) 45 dX9_shape_32 (by decide) (fun c32 => ?_) (fun c32 => ?_)
        · have i0 : 0 ≤ i := by omega
          refine ab_aload_n (pc := 45) dX9_shape_45 rfl ?_
          refine ab_get (pc := 46) (k := 2) okX9 rc.o rfl w114 rfl dX9_shape_46 ?_
          refine ab_iload_n (pc := 49) dX9_shape_49 rfl ?_
          refine ab_aald (pc := 50) rc.ls (by omega) (by omega) dX9_shape_50 ?_
          obtain ⟨a9, ea9, lc9⟩ := (rc.lw i i0 (by omega)).1 (by omega)
          rw [ea9]
          refine c_instA (pc := 51) lc9 w650 dX9_shape_51 (fun iv hiv => ?_)
          refine ab_if_eq (pc := 54) 73 dX9_shape_54 (by decide) (fun c54 => ?_) (fun c54 => ?_)
          · refine ab_iconst (pc := 73) dX9_shape_73 (by decide) ?_
            refine ab_iret (pc := 74) dX9_shape_74 rfl ?_
            first | (rcases hv9 with ⟨b, b2⟩ | ⟨b, b2⟩; (exact ⟨kp, _, _, _, _, _, _, rc, 0, v9, Or.inr (Or.inr ⟨i0, by omega, by omega, rfl, Or.inr (Or.inl ⟨f85, b, b2⟩)⟩), rfl, rfl, Or.inl ⟨rfl, rfl⟩⟩); exact ⟨kp, _, _, _, _, _, _, rc, 0, v9, Or.inr (Or.inr ⟨i0, by omega, by omega, rfl, Or.inr (Or.inr ⟨f85, b, b2⟩)⟩), rfl, rfl, Or.inl ⟨rfl, rfl⟩⟩) | exact ⟨kp, _, _, _, _, _, _, rc, 0, -1, Or.inr (Or.inr ⟨i0, by omega, by omega, rfl, Or.inl ⟨by omega, rfl⟩⟩), rfl, rfl, Or.inl ⟨rfl, rfl⟩⟩
          · refine ab_aload_n (pc := 57) dX9_shape_57 rfl ?_
            refine ab_get (pc := 58) (k := 2) okX9 rc.o rfl w114 rfl dX9_shape_58 ?_
            refine ab_iload_n (pc := 61) dX9_shape_61 rfl ?_
            refine ab_aald (pc := 62) rc.ls (by omega) (by omega) dX9_shape_62 ?_
            rw [ea9]
            have f85 : F 8 i = 5 := by omega
            obtain ⟨n1, n6, le⟩ : 1 ≤ F 11 i ∧ F 11 i ≤ 6 ∧ ∀ j : Int, 0 ≤ j → j < F 11 i → 0 ≤ F 12 (80 * i + j) ∧ F 12 (80 * i + j) ≤ 2 := by
              rcases lb i i0 (by omega) with ⟨k, _⟩ | ⟨k, _⟩ | ⟨k, _⟩ | ⟨k, _⟩ | k | ⟨k, k1, k2, k3⟩
              · omega
              · omega
              · omega
              · omega
              · omega
              · exact ⟨k1, k2, k3⟩
            obtain ⟨t, sc, tF⟩ : ∃ t : Int → Int, shC h0 (208 + 8 * i.toNat) a9 t (F 11 i).toNat ∧ ∀ j : Int, 0 ≤ j → j < F 11 i → t j = F 12 (80 * i + j) := by
              rcases lc9 with ⟨k, _⟩ | ⟨k, _⟩ | ⟨k, _⟩ | ⟨k, _⟩ | ⟨k, _⟩ | ⟨_, t, k1, k2⟩
              · omega
              · omega
              · omega
              · omega
              · omega
              · exact ⟨t, k1, k2⟩
            obtain ⟨_, _, _, _, _, _, _, _, _, _, s0, _⟩ := id sc
            refine ab_castY (pc := 63) s0 rfl w650 dX9_shape_63 ?_
            refine ab_iload_n (pc := 66) dX9_shape_66 rfl ?_
            refine ab_callS (pc := 67) (c_tellSh hG (a := a9) (g := 208 + 8 * i.toNat) sc hz hzm (by omega) f85 n1 n6 tF (fun j j0 j1 => by rw [tF j j0 j1]; exact le j j0 j1) (by omega) wmx) ⟨w1005, w1, w1007, by decide, pd72⟩ w1006 rfl (by omega) (by decide) (Nat.le_of_ble_eq_true rfl) rfl dX9_shape_67 (fun _ _ hx => absurd hx cC_no) ?_
            rintro _ h ⟨_, e9, kq, v9, rfl, sc9, hv9⟩
            cases e9
            replace hz := kq _ _ hz (by unfold cP; simp; omega)
            replace kp := kp.cal kq (by simp; omega)
            replace rc := rc.law (kq.sub (by simp; omega)) (rc.lw.step5 (by decide) i0 kq ea9 (Or.inr (Or.inr (Or.inr (Or.inr (Or.inr ⟨f85, t, sc9, tF⟩))))))
            refine ab_goto (pc := 70) 74 dX9_shape_70 (by decide) ?_
            refine ab_iret (pc := 74) dX9_shape_74 rfl ?_
            first | (rcases hv9 with ⟨b, b2⟩ | ⟨b, b2⟩; (exact ⟨kp, _, _, _, _, _, _, rc, 0, v9, Or.inr (Or.inr ⟨i0, by omega, by omega, rfl, Or.inr (Or.inl ⟨f85, b, b2⟩)⟩), rfl, rfl, Or.inl ⟨rfl, rfl⟩⟩); exact ⟨kp, _, _, _, _, _, _, rc, 0, v9, Or.inr (Or.inr ⟨i0, by omega, by omega, rfl, Or.inr (Or.inr ⟨f85, b, b2⟩)⟩), rfl, rfl, Or.inl ⟨rfl, rfl⟩⟩) | exact ⟨kp, _, _, _, _, _, _, rc, 0, -1, Or.inr (Or.inr ⟨i0, by omega, by omega, rfl, Or.inl ⟨by omega, rfl⟩⟩), rfl, rfl, Or.inl ⟨rfl, rfl⟩⟩
        · refine ab_throw (pc := 35) tw_IAE w712 (by decide) (Nat.le_of_ble_eq_true rfl) rfl dX9_shape_35 dX9_shape_38 dX9_shape_39 dX9_shape_41 dX9_shape_44 ?_
          exact ⟨kp, _, _, _, _, _, _, rc, 2, 0, Or.inr (Or.inl ⟨by omega, by omega, by omega, rfl⟩), rfl, rfl, Or.inr (Or.inr ⟨rfl, rfl⟩)⟩
      · refine ab_throw (pc := 21) tw_IOB w1004 (by decide) (Nat.le_of_ble_eq_true rfl) rfl dX9_shape_21 dX9_shape_24 dX9_shape_25 dX9_shape_27 dX9_shape_30 ?_
        exact ⟨kp, _, _, _, _, _, _, rc, 1, 0, Or.inl ⟨by omega, rfl⟩, rfl, rfl, Or.inr (Or.inl ⟨rfl, rfl⟩)⟩
end C32
