/-! the reference: calls that search -/
section M11
variable {l : Launch} {E : AbE} {m : Nat} {A : Nat → Nat} {s0 : Nat → Int} {F0 : Nat → Int → Int} {h0 : AbH}
theorem m_maySearch (hG : ab_G l E) (hM : mR h0 m A s0 F0) {e a L : Int} (hs : s0 0 = 0) (e7 : s0 7 = L) : ab_M l E Y_X10_maySearch 3 3 0 0 [vR m, vI e, vI a] h0 (mC h0 m A s0 F0 [0] [] (fun r s' F' => (0 ≤ e ∧ ab_shr e L = 0 ∧ 1 ≤ a ∧ a ≤ 8 ∧ r = some (vI 1) ∧ s' 0 = 0) ∨ (¬ (0 ≤ e ∧ ab_shr e L = 0 ∧ 1 ≤ a ∧ a ≤ 8) ∧ r = some (vI 0) ∧ s' 0 = 1))) := by
  refine ab_M.of (L0 := [some (vR m), some (vI e), some (vI a)]) hG rfl rfl (Nat.le_of_ble_eq_true rfl) rfl ?_
  have hW : mW h0 m A s0 F0 [0] [] h0 s0 F0 := mW.start hM
  subst e7
  refine ab_aload_n (pc := 0) dX10_maySearch_0 rfl ?_
  refine ab_via (S := [vR m]) 25 (fun v : Int => (v = 1 ∧ 0 ≤ e ∧ ab_shr e (s0 7) = 0 ∧ 1 ≤ a ∧ a ≤ 8) ∨ (v = 0 ∧ ¬ (0 ≤ e ∧ ab_shr e (s0 7) = 0 ∧ 1 ≤ a ∧ a ≤ 8))) (fun v hv => ?_) (fun J25 => ?_)
  · refine ab_iconst (pc := 25) dX10_maySearch_25 (by decide) ?_
    refine ab_callV (pc := 26) (m_may hG hW.1 (by omega) hs (by omega)) hW.obj rfl ⟨w1205, w5, w1208, by decide, pd74⟩ w1207 sp25 rfl (by decide) (by decide) (Nat.le_of_ble_eq_true rfl) rfl dX10_maySearch_26 (fun _ _ hx => absurd hx mC_no) ?_
    rintro _ h ⟨_, s1, F1, e9, hc1, hp1⟩
    cases e9
    replace hW := hW.call hc1 (by decide) (by decide)
    rcases hp1 with ⟨g1, rfl, t1⟩ | ⟨g1, rfl, t1⟩
    · refine ab_zret (pc := 29) dX10_maySearch_29 rfl (by omega) ?_
      first
      | (exact ⟨_, _, _, rfl, hW, Or.inl ⟨by omega, by omega, by omega, by omega, rfl, t1⟩⟩)
      | (exact ⟨_, _, _, rfl, hW, Or.inr ⟨by omega, rfl, t1⟩⟩)
    · refine ab_zret (pc := 29) dX10_maySearch_29 rfl (by omega) ?_
      first
      | (exact ⟨_, _, _, rfl, hW, Or.inl ⟨by omega, by omega, by omega, by omega, rfl, t1⟩⟩)
      | (exact ⟨_, _, _, rfl, hW, Or.inr ⟨by omega, rfl, t1⟩⟩)
  · refine ab_aload_n (pc := 1) dX10_maySearch_1 rfl ?_
    refine ab_iload_n (pc := 2) dX10_maySearch_2 rfl ?_
    refine ab_callV (pc := 3) (m_isSet hG hW.1 (n := s0 7) (hW.sv 7 (by decide))) hW.obj rfl ⟨w1274, w5, w1277, by decide, pd71⟩ w1276 sp30 rfl (by decide) (by decide) (Nat.le_of_ble_eq_true rfl) rfl dX10_maySearch_3 (fun _ _ hx => absurd hx pC_no) ?_
    rintro _ _ ⟨v2, e9, rfl, hp2⟩
    cases e9
    refine ab_if_eq (pc := 6) 24 dX10_maySearch_6 (by decide) (fun c6 => ?_) (fun c6 => ?_)
    · refine ab_iconst (pc := 24) dX10_maySearch_24 (by decide) ?_
      exact J25 (0) (by omega)
    · refine ab_iload_n (pc := 9) dX10_maySearch_9 rfl ?_
      refine ab_iconst (pc := 10) dX10_maySearch_10 (by decide) ?_
      refine ab_icmp_lt (pc := 11) 24 dX10_maySearch_11 (by decide) (fun c11 => ?_) (fun c11 => ?_)
      · refine ab_iconst (pc := 24) dX10_maySearch_24 (by decide) ?_
        exact J25 (0) (by omega)
      · refine ab_iload_n (pc := 14) dX10_maySearch_14 rfl ?_
        refine ab_bipush (pc := 15) dX10_maySearch_15 (by decide) ?_
        refine ab_icmp_gt (pc := 17) 24 dX10_maySearch_17 (by decide) (fun c17 => ?_) (fun c17 => ?_)
        · refine ab_iconst (pc := 24) dX10_maySearch_24 (by decide) ?_
          exact J25 (0) (by omega)
        · refine ab_iconst (pc := 20) dX10_maySearch_20 (by decide) ?_
          refine ab_goto (pc := 21) 25 dX10_maySearch_21 (by decide) ?_
          exact J25 (1) (by omega)
theorem m_beginSearchG (hG : ab_G l E) (hM : mR h0 m A s0 F0) {G : Nat → Int → Int} {e a n L : Int} (e8 : F0 8 = G 8) (e7 : s0 7 = L) (e32 : s0 32 = 0) (l0 : 0 ≤ L) (l1 : L ≤ 12) : ab_M l E Y_X10_beginSearch 5 1 0 0 [vR m, vI e, vI a, vI n] h0 (mC h0 m A s0 F0 [24, 25, 26, 27, 28, 29, 31, 33] [] (fun r s' F' => r = none ∧ s' 25 = e ∧ s' 26 = a ∧ s' 27 = n ∧ costUp G e L (s' 24) ∧ s' 28 = 0 ∧ s' 29 = 0 ∧ s' 33 = 0 ∧ s' 31 = 0)) := by
  subst e7
  refine (m_beginSearch hG hM l0 l1).mono ?_
  rintro o h' ⟨r, s', F', z1, z2, z3, z4, z5, z6, z7, z8⟩
  refine ⟨r, s', F', z1, z2, z3, z4, z5, z6, ?_, z8⟩
  rcases z7 with z7 | z7
  · unfold costUp at z7 ⊢
    rw [← e8]
    exact z7.2
  · exact absurd e32 z7.1
theorem m_many_59 (hG : ab_G l E) (b7 : 0 ≤ s0 7) (c7 : s0 7 ≤ 12) (lb : ∀ q : Int, 0 ≤ q → q < s0 7 → lawB F0 q) {e a n co : Int} (a1 : 1 ≤ a) (a8 : a ≤ 8) (n0 : 0 ≤ n) (n6 : n ≤ 60) (hco : costUp F0 e (s0 7) co) (mok : msOk s0 e a) (fu : Nat) : ∀ (t : Nat) (w : Int → Int) (d lk lg : Int) (h : AbH) (s : Nat → Int) (F : Nat → Int → Int), mW h0 m A s0 F0 [0, 23, 24, 25, 26, 27, 28, 29, 31, 32, 33] [13, 14, 15, 30] h s F → (20000 - lk).toNat < fu → (s 0 = 0) → (F 30 = w) → (s 28 = d) → (s 23 = lk) → (s 29 = lg) → (s 31 = 0) → (s 33 = sB t) → (s 24 = co) → (s 25 = e) → (s 26 = a) → (s 27 = n) → (s 32 = 0) → (sInv a n w d lk lg) → (sChain (KL F0 (s0 7) e) a n co (F0 30) 0 0 0 t w d lk lg) → ab_T l E Y_X10_many 7 0 0 59 [some (vR m), some (vI e), some (vI a), some (vI n), some (vI (t : Int))] [] h (mC h0 m A s0 F0 [0, 23, 24, 25, 26, 27, 28, 29, 31, 32, 33] [13, 14, 15, 30] (fun r s' F' => ∃ c r9 : Int, r = some (vI r9) ∧ s' 0 = c ∧ manySp s0 F0 (F0 30) e a n c r9 (s' 23))) := by
  induction fu with
  | zero => intro t w d lk lg h s F hW hm; exact absurd hm (Nat.not_lt_zero _)
  | succ fu ih =>
    intro t w d lk lg h s F hW hm t0 e30 e28 e23 e29 e31 e33 e24 e25 e26 e27 e32 inv ch
    have cb := costUp_bd hco
    obtain ⟨v0, v1, v2, v3, v4, v5, v6, v7⟩ := id inv
    have tl := sChain_lk (by omega) t ch
    refine ab_aload_n (pc := 59) dX10_many_59 rfl ?_
    refine ab_callV (pc := 60) (m_next (kp := KL F0 (s0 7) e) (b := sB t) hG hW.1 (hW.law (by decide)) (hW.sv 7 (by decide)) b7 c7 lb (Or.inl ⟨e32, by rw [e25]⟩) e26 a1 a8 e27 n6 e24 (by omega) (by omega) n0 e30 e28 e23 e29 e31 e33 (by unfold sB; split; exact Or.inl rfl; exact Or.inr rfl) inv) hW.obj rfl ⟨w1316, w5, w1319, by decide, pd20⟩ w1318 sp38 rfl (by decide) (by decide) (Nat.le_of_ble_eq_true rfl) rfl dX10_many_60 (fun _ _ hx => absurd hx mC_no) ?_
    rintro _ h ⟨_, s1, F1, e9, hc1, ⟨o, w9, d9, lk9, lg9, nx, i30, i28, i23, i29, inv9, ho, hf⟩, i33⟩
    cases e9
    replace hW := hW.call hc1 (by decide) (by decide)
    have nl := sNext_lk (by omega) nx
    have q9 : lk9 ≤ 20000 := inv9.2.2.2.2.2.1
    rcases ho with ⟨rfl, rfl, i31⟩ | ⟨rfl, rfl, i31⟩ | ⟨rfl, rfl, i31⟩
    · refine ab_if_eq (pc := 63) 72 dX10_many_63 (by decide) (fun c63 => absurd c63 (by omega)) (fun c63 => ?_)
      have tb : (t : Int) ≤ co * t := by rcases cb with e9 | e9 <;> rw [e9] <;> omega
      refine ab_iinc (pc := 66) dX10_many_66 rfl rfl (by decide) (by omega) (by omega) ?_
      refine ab_goto (pc := 69) 59 dX10_many_69 (by decide) ?_
      exact ih (t + 1) w9 d9 lk9 lg9 _ _ _ hW (by omega) ((hc1.sv 0 (by decide)).trans t0) i30 i28 i23 i29 i31 i33 ((hc1.sv 24 (by decide)).trans e24) ((hc1.sv 25 (by decide)).trans e25) ((hc1.sv 26 (by decide)).trans e26) ((hc1.sv 27 (by decide)).trans e27) ((hc1.sv 32 (by decide)).trans e32) inv9 ⟨w, d, lk, lg, ch, nx⟩
    · refine ab_if_eq (pc := 63) 72 dX10_many_63 (by decide) (fun c63 => ?_) (fun c63 => absurd c63 (by omega))
      refine ab_aload_n (pc := 72) dX10_many_72 rfl ?_
      refine ab_get (pc := 73) (k := 31) (x := vI (0)) okX10 hW.obj (mg rfl i31) w1086 rfl dX10_many_73 ?_
      refine ab_if_eq (pc := 76) 84 dX10_many_76 (by decide) (fun c76 => ?_) (fun c76 => absurd c76 (by omega))
      refine ab_iload (pc := 84) dX10_many_84 rfl ?_
      refine ab_iret (pc := 86) dX10_many_86 rfl ?_
      first
      | (exact ⟨_, _, _, rfl, hW, 0, _, rfl, ((hc1.sv 0 (by decide)).trans t0), Or.inr ⟨mok, n0, n6, rfl, co, t, _, ⟨hco, w, d, lk, lg, ch, nx⟩, (show (0 : Int) ≠ 1 by decide), i23, Or.inr ⟨(show (0 : Int) ≠ -2 by decide), rfl⟩⟩⟩)
      | (exact ⟨_, _, _, rfl, hW, 0, _, rfl, ((hc1.sv 0 (by decide)).trans t0), Or.inr ⟨mok, n0, n6, rfl, co, t, _, ⟨hco, w, d, lk, lg, ch, nx⟩, (show (-2 : Int) ≠ 1 by decide), i23, Or.inl ⟨rfl, rfl⟩⟩⟩)
      | (exfalso; omega)
    · refine ab_if_eq (pc := 63) 72 dX10_many_63 (by decide) (fun c63 => ?_) (fun c63 => absurd c63 (by omega))
      refine ab_aload_n (pc := 72) dX10_many_72 rfl ?_
      refine ab_get (pc := 73) (k := 31) (x := vI (1)) okX10 hW.obj (mg rfl i31) w1086 rfl dX10_many_73 ?_
      refine ab_if_eq (pc := 76) 84 dX10_many_76 (by decide) (fun c76 => absurd c76 (by omega)) (fun c76 => ?_)
      refine ab_bipush (pc := 79) dX10_many_79 (by decide) ?_
      refine ab_goto (pc := 81) 86 dX10_many_81 (by decide) ?_
      refine ab_iret (pc := 86) dX10_many_86 rfl ?_
      first
      | (exact ⟨_, _, _, rfl, hW, 0, _, rfl, ((hc1.sv 0 (by decide)).trans t0), Or.inr ⟨mok, n0, n6, rfl, co, t, _, ⟨hco, w, d, lk, lg, ch, nx⟩, (show (0 : Int) ≠ 1 by decide), i23, Or.inr ⟨(show (0 : Int) ≠ -2 by decide), rfl⟩⟩⟩)
      | (exact ⟨_, _, _, rfl, hW, 0, _, rfl, ((hc1.sv 0 (by decide)).trans t0), Or.inr ⟨mok, n0, n6, rfl, co, t, _, ⟨hco, w, d, lk, lg, ch, nx⟩, (show (-2 : Int) ≠ 1 by decide), i23, Or.inl ⟨rfl, rfl⟩⟩⟩)
      | (exfalso; omega)
theorem m_many (hG : ab_G l E) (hM : mR h0 m A s0 F0) {e a n : Int} (b7 : 0 ≤ s0 7) (c7 : s0 7 ≤ 12) (lb : ∀ q : Int, 0 ≤ q → q < s0 7 → lawB F0 q) : ab_M l E Y_X10_many 5 7 0 0 [vR m, vI e, vI a, vI n] h0 (mC h0 m A s0 F0 [0, 23, 24, 25, 26, 27, 28, 29, 31, 32, 33] [13, 14, 15, 30] (fun r s' F' => ∃ c r9 : Int, r = some (vI r9) ∧ s' 0 = c ∧ manySp s0 F0 (F0 30) e a n c r9 (s' 23))) := by
  refine ab_M.of (L0 := [some (vR m), some (vI e), some (vI a), some (vI n), none]) hG rfl rfl (Nat.le_of_ble_eq_true rfl) rfl ?_
  have hW : mW h0 m A s0 F0 [0, 23, 24, 25, 26, 27, 28, 29, 31, 32, 33] [13, 14, 15, 30] h0 s0 F0 := mW.start hM
  refine ab_aload_n (pc := 0) dX10_many_0 rfl ?_
  refine ab_iconst (pc := 1) dX10_many_1 (by decide) ?_
  refine ab_putG (pc := 2) (k := 0) okX10 hW.obj (by decide) (by decide) trivial w1055 rfl (Or.inl rfl) dX10_many_2 (fun h e9 n9 => ?_)
  replace hW := hW.put e9 n9 rfl (by decide)
  clear e9 n9
  refine ab_aload_n (pc := 5) dX10_many_5 rfl ?_
  refine ab_iload_n (pc := 6) dX10_many_6 rfl ?_
  refine ab_iload_n (pc := 7) dX10_many_7 rfl ?_
  refine ab_callV (pc := 8) (m_maySearch (L := s0 7) hG hW.1 rfl (hW.sv 7 (by decide))) hW.obj rfl ⟨w1308, w5, w1311, by decide, pd73⟩ w1310 sp36 rfl (by decide) (by decide) (Nat.le_of_ble_eq_true rfl) rfl dX10_many_8 (fun _ _ hx => absurd hx mC_no) ?_
  rintro _ h ⟨_, s1, F1, e9, hc1, hp1⟩
  cases e9
  replace hW := hW.call hc1 (by decide) (by decide)
  rcases hp1 with ⟨b1, b2, b3, b4, rfl, t1⟩ | ⟨b1, rfl, t1⟩
  · refine ab_if_eq (pc := 11) 37 dX10_many_11 (by decide) (fun c11 => absurd c11 (by omega)) (fun c11 => ?_)
    refine ab_aload_n (pc := 14) dX10_many_14 rfl ?_
    refine ab_via (S := [vR m]) 30 (fun v : Int => (v = 1 ∧ 0 ≤ n ∧ n ≤ 60) ∨ (v = 0 ∧ ¬ (0 ≤ n ∧ n ≤ 60))) (fun v hv => ?_) (fun J30 => ?_)
    · refine ab_iconst (pc := 30) dX10_many_30 (by decide) ?_
      refine ab_callV (pc := 31) (m_may hG hW.1 (by omega) t1 (by omega)) hW.obj rfl ⟨w1205, w5, w1208, by decide, pd74⟩ w1207 sp25 rfl (by decide) (by decide) (Nat.le_of_ble_eq_true rfl) rfl dX10_many_31 (fun _ _ hx => absurd hx mC_no) ?_
      rintro _ h ⟨_, s2, F2, e9, hc2, hp2⟩
      cases e9
      replace hW := hW.call hc2 (by decide) (by decide)
      rcases hp2 with ⟨g2, rfl, t2⟩ | ⟨g2, rfl, t2⟩
      · refine ab_if_ne (pc := 34) 39 dX10_many_34 (by decide) (fun c34 => ?_) (fun c34 => absurd c34 (by omega))
        refine ab_aload_n (pc := 39) dX10_many_39 rfl ?_
        refine ab_iconst (pc := 40) dX10_many_40 (by decide) ?_
        refine ab_putG (pc := 41) (k := 23) okX10 hW.obj (by decide) (by decide) trivial w1078 rfl (Or.inl rfl) dX10_many_41 (fun h e9 n9 => ?_)
        replace hW := hW.put e9 n9 rfl (by decide)
        clear e9 n9
        refine ab_aload_n (pc := 44) dX10_many_44 rfl ?_
        refine ab_iconst (pc := 45) dX10_many_45 (by decide) ?_
        refine ab_putG (pc := 46) (k := 32) okX10 hW.obj (by decide) (by decide) (by show _ ∨ _; omega) w1087 rfl (Or.inl rfl) dX10_many_46 (fun h e9 n9 => ?_)
        replace hW := hW.put e9 n9 rfl (by decide)
        clear e9 n9
        refine ab_aload_n (pc := 49) dX10_many_49 rfl ?_
        refine ab_iload_n (pc := 50) dX10_many_50 rfl ?_
        refine ab_iload_n (pc := 51) dX10_many_51 rfl ?_
        refine ab_iload_n (pc := 52) dX10_many_52 rfl ?_
        refine ab_callV (pc := 53) (m_beginSearchG (G := F0) hG hW.1 (hW.Fv 8 (by decide)) (hW.sv 7 (by decide)) rfl b7 c7) hW.obj rfl ⟨w1312, w5, w1315, by decide, pd13⟩ w1314 sp37 rfl (by decide) (by decide) (Nat.le_of_ble_eq_true rfl) rfl dX10_many_53 (fun _ _ hx => absurd hx mC_no) ?_
        rintro _ h ⟨_, s3, F3, e9, hc3, rfl, j25, j26, j27, jco, j28, j29, j33, j31⟩
        cases e9
        replace hW := hW.call hc3 (by decide) (by decide)
        have cb := costUp_bd jco
        refine ab_iconst (pc := 56) dX10_many_56 (by decide) ?_
        refine ab_istore (pc := 57) dX10_many_57 rfl (Nat.le_of_ble_eq_true rfl) ?_
        exact m_many_59 hG b7 c7 lb b3 b4 (by omega) (by omega) jco ⟨⟨b1, b2⟩, b3, b4⟩ _ 0 (F0 30) 0 0 0 _ _ _ hW (Nat.lt_succ_self _) ((hc3.sv 0 (by decide)).trans t2) ((hc3.Fv 30 (by decide)).trans ((hc2.Fv 30 (by decide)).trans (hc1.Fv 30 (by decide)))) j28 (hc3.sv 23 (by decide)) j29 j31 j33 rfl j25 j26 j27 (hc3.sv 32 (by decide)) ⟨by omega, by omega, fun j j0 j1 => absurd j1 (by omega), fun e9 => absurd e9 (by omega), by omega, by omega, by omega, by omega⟩ ⟨rfl, rfl, rfl, rfl⟩
      · refine ab_if_ne (pc := 34) 39 dX10_many_34 (by decide) (fun c34 => absurd c34 (by omega)) (fun c34 => ?_)
        refine ab_iconst (pc := 37) dX10_many_37 (by decide) ?_
        refine ab_iret (pc := 38) dX10_many_38 rfl ?_
        exact ⟨_, _, _, rfl, hW, 1, 0, rfl, t2, Or.inl ⟨by omega, rfl, rfl, ((hc2.sv 23 (by decide)).trans (hc1.sv 23 (by decide)))⟩⟩
    · refine ab_iload_n (pc := 15) dX10_many_15 rfl ?_
      refine ab_if_lt (pc := 16) 29 dX10_many_16 (by decide) (fun c16 => ?_) (fun c16 => ?_)
      · refine ab_iconst (pc := 29) dX10_many_29 (by decide) ?_
        exact J30 (0) (by omega)
      · refine ab_iload_n (pc := 19) dX10_many_19 rfl ?_
        refine ab_bipush (pc := 20) dX10_many_20 (by decide) ?_
        refine ab_icmp_gt (pc := 22) 29 dX10_many_22 (by decide) (fun c22 => ?_) (fun c22 => ?_)
        · refine ab_iconst (pc := 29) dX10_many_29 (by decide) ?_
          exact J30 (0) (by omega)
        · refine ab_iconst (pc := 25) dX10_many_25 (by decide) ?_
          refine ab_goto (pc := 26) 30 dX10_many_26 (by decide) ?_
          exact J30 (1) (by omega)
  · refine ab_if_eq (pc := 11) 37 dX10_many_11 (by decide) (fun c11 => ?_) (fun c11 => absurd c11 (by omega))
    refine ab_iconst (pc := 37) dX10_many_37 (by decide) ?_
    refine ab_iret (pc := 38) dX10_many_38 rfl ?_
    exact ⟨_, _, _, rfl, hW, 1, 0, rfl, t1, Or.inl ⟨by omega, rfl, rfl, (hc1.sv 23 (by decide))⟩⟩
theorem m_find_80 (hG : ab_G l E) (b7 : 0 ≤ s0 7) (c7 : s0 7 ≤ 12) (lb : ∀ q : Int, 0 ≤ q → q < s0 7 → lawB F0 q) {e a n co : Int} (a1 : 1 ≤ a) (a8 : a ≤ 8) (n0 : 0 ≤ n) (n6 : n ≤ 60) (hco : costUp F0 e (s0 7) co) (mok : msOk s0 e a) {k x : Int} (k0 : 0 ≤ k) (x0 : 0 ≤ x) (x1 : x < s0 1) (n1 : s0 1 ≤ 16) (fu : Nat) : ∀ (t : Nat) (w : Int → Int) (d lk lg : Int) (h : AbH) (s : Nat → Int) (F : Nat → Int → Int), mW h0 m A s0 F0 [0, 23, 24, 25, 26, 27, 28, 29, 31, 32, 33] [3, 4, 13, 14, 15, 30] h s F → (20000 - lk).toNat < fu → (s 0 = 0) → (F 30 = w) → (s 28 = d) → (s 23 = lk) → (s 29 = lg) → (s 31 = 0) → (s 33 = sB t) → (s 24 = co) → (s 25 = e) → (s 26 = a) → (s 27 = n) → (s 32 = 0) → (sInv a n w d lk lg) → (sChain (KL F0 (s0 7) e) a n co (F0 30) 0 0 0 t w d lk lg) → (F 3 = F0 3) → (F 4 = F0 4) → ((t : Int) ≤ k) → ab_T l E Y_X10_find 7 0 0 80 [some (vR m), some (vI e), some (vI a), some (vI n), some (vI k), some (vI x), some (vI (t : Int))] [] h (mC h0 m A s0 F0 [0, 23, 24, 25, 26, 27, 28, 29, 31, 32, 33] [3, 4, 13, 14, 15, 30] (fun r s' F' => ∃ (c r9 : Int) (g : Int → Int), r = some (vI r9) ∧ s' 0 = c ∧ findSp s0 F0 (F0 30) e a n k x c r9 (s' 23) g ∧ ((c = 0 ∧ r9 = 1 ∧ F' 3 = ab_f (F0 3) (10 * x) n ∧ F' 4 = fil (F0 4) (80 * (10 * x)) 80 (fun i => if i < n then g i else 0)) ∨ (¬ (c = 0 ∧ r9 = 1) ∧ F' 3 = F0 3 ∧ F' 4 = F0 4)))) := by
  induction fu with
  | zero => intro t w d lk lg h s F hW hm; exact absurd hm (Nat.not_lt_zero _)
  | succ fu ih =>
    intro t w d lk lg h s F hW hm t0 e30 e28 e23 e29 e31 e33 e24 e25 e26 e27 e32 inv ch f3 f4 tk
    have cb := costUp_bd hco
    obtain ⟨v0, v1, v2, v3, v4, v5, v6, v7⟩ := id inv
    have tl := sChain_lk (by omega) t ch
    have tb : (t : Int) ≤ co * t := by rcases cb with e9 | e9 <;> rw [e9] <;> omega
    refine ab_aload_n (pc := 80) dX10_find_80 rfl ?_
    refine ab_callV (pc := 81) (m_next (kp := KL F0 (s0 7) e) (b := sB t) hG hW.1 (hW.law (by decide)) (hW.sv 7 (by decide)) b7 c7 lb (Or.inl ⟨e32, by rw [e25]⟩) e26 a1 a8 e27 n6 e24 (by omega) (by omega) n0 e30 e28 e23 e29 e31 e33 (by unfold sB; split; exact Or.inl rfl; exact Or.inr rfl) inv) hW.obj rfl ⟨w1316, w5, w1319, by decide, pd20⟩ w1318 sp38 rfl (by decide) (by decide) (Nat.le_of_ble_eq_true rfl) rfl dX10_find_81 (fun _ _ hx => absurd hx mC_no) ?_
    rintro _ h ⟨_, s1, F1, e9, hc1, ⟨o, w9, d9, lk9, lg9, nx, i30, i28, i23, i29, inv9, ho, hf⟩, i33⟩
    cases e9
    replace hW := hW.call hc1 (by decide) (by decide)
    have nl := sNext_lk (by omega) nx
    have q9 : lk9 ≤ 20000 := inv9.2.2.2.2.2.1
    rcases ho with ⟨rfl, rfl, i31⟩ | ⟨rfl, rfl, i31⟩ | ⟨rfl, rfl, i31⟩
    · refine ab_if_eq (pc := 84) 113 dX10_find_84 (by decide) (fun c84 => absurd c84 (by omega)) (fun c84 => ?_)
      refine ab_iload (pc := 87) dX10_find_87 rfl ?_
      refine ab_iload (pc := 89) dX10_find_89 rfl ?_
      refine ab_icmp_ne (pc := 91) 107 dX10_find_91 (by decide) (fun c91 => ?_) (fun c91 => ?_)
      · refine ab_iinc (pc := 107) dX10_find_107 rfl rfl (by decide) (by omega) (by omega) ?_
        refine ab_goto (pc := 110) 80 dX10_find_110 (by decide) ?_
        exact ih (t + 1) w9 d9 lk9 lg9 _ _ _ hW (by omega) ((hc1.sv 0 (by decide)).trans t0) i30 i28 i23 i29 i31 i33 ((hc1.sv 24 (by decide)).trans e24) ((hc1.sv 25 (by decide)).trans e25) ((hc1.sv 26 (by decide)).trans e26) ((hc1.sv 27 (by decide)).trans e27) ((hc1.sv 32 (by decide)).trans e32) inv9 ⟨w, d, lk, lg, ch, nx⟩ ((hc1.Fv 3 (by decide)).trans f3) ((hc1.Fv 4 (by decide)).trans f4) (by omega)
      · refine ab_aload_n (pc := 94) dX10_find_94 rfl ?_
        refine ab_iload (pc := 95) dX10_find_95 rfl ?_
        refine ab_aload_n (pc := 97) dX10_find_97 rfl ?_
        refine ab_get (pc := 98) (k := 30) (x := vR (A 30)) okX10 hW.obj rfl w1085 rfl dX10_find_98 ?_
        refine ab_iload_n (pc := 101) dX10_find_101 rfl ?_
        refine ab_callV (pc := 102) (m_write30 hG hW.1 (by omega) (by omega) (by omega)) hW.obj rfl ⟨w1336, w5, w1339, by decide, pd61⟩ w1338 sp42 rfl (by decide) (by decide) (Nat.le_of_ble_eq_true rfl) rfl dX10_find_102 (fun _ _ hx => absurd hx mC_no) ?_
        rintro _ h ⟨_, s2, F2, e9, hc2, y3, y4, rfl⟩
        cases e9
        replace hW := hW.call hc2 (by decide) (by decide)
        refine ab_iconst (pc := 105) dX10_find_105 (by decide) ?_
        refine ab_iret (pc := 106) dX10_find_106 rfl ?_
        rw [(hc1.Fv 3 (by decide)).trans f3] at y3
        rw [(hc1.Fv 4 (by decide)).trans f4, i30] at y4
        exact ⟨_, _, _, rfl, hW, 0, 1, w9, rfl, ((hc2.sv 0 (by decide)).trans ((hc1.sv 0 (by decide)).trans t0)), Or.inr (Or.inr ⟨mok, n0, n6, x0, x1, rfl, Or.inr ⟨k0, co, t, _, ⟨hco, w, d, lk, lg, ch, nx⟩, ((hc2.sv 23 (by decide)).trans i23), Or.inl ⟨rfl, by omega, rfl, fun j j0 j1 => rfl⟩⟩⟩), Or.inl ⟨rfl, rfl, y3, y4⟩⟩
    · refine ab_if_eq (pc := 84) 113 dX10_find_84 (by decide) (fun c84 => ?_) (fun c84 => absurd c84 (by omega))
      refine ab_aload_n (pc := 113) dX10_find_113 rfl ?_
      refine ab_get (pc := 114) (k := 31) (x := vI (0)) okX10 hW.obj (mg rfl i31) w1086 rfl dX10_find_114 ?_
      refine ab_if_eq (pc := 117) 125 dX10_find_117 (by decide) (fun c117 => ?_) (fun c117 => absurd c117 (by omega))
      refine ab_iconst (pc := 125) dX10_find_125 (by decide) ?_
      refine ab_iret (pc := 126) dX10_find_126 rfl ?_
      first
      | (exact ⟨_, _, _, rfl, hW, 0, 0, w9, rfl, ((hc1.sv 0 (by decide)).trans t0), Or.inr (Or.inr ⟨mok, n0, n6, x0, x1, rfl, Or.inr ⟨k0, co, t, _, ⟨hco, w, d, lk, lg, ch, nx⟩, i23, Or.inr (Or.inr ⟨(show (0 : Int) ≠ 1 by decide), (show (0 : Int) ≠ -2 by decide), tk, rfl⟩)⟩⟩), Or.inr ⟨by decide, ((hc1.Fv 3 (by decide)).trans f3), ((hc1.Fv 4 (by decide)).trans f4)⟩⟩)
      | (exact ⟨_, _, _, rfl, hW, 0, -2, w9, rfl, ((hc1.sv 0 (by decide)).trans t0), Or.inr (Or.inr ⟨mok, n0, n6, x0, x1, rfl, Or.inr ⟨k0, co, t, _, ⟨hco, w, d, lk, lg, ch, nx⟩, i23, Or.inr (Or.inl ⟨rfl, tk, rfl⟩)⟩⟩), Or.inr ⟨by decide, ((hc1.Fv 3 (by decide)).trans f3), ((hc1.Fv 4 (by decide)).trans f4)⟩⟩)
      | (exfalso; omega)
    · refine ab_if_eq (pc := 84) 113 dX10_find_84 (by decide) (fun c84 => ?_) (fun c84 => absurd c84 (by omega))
      refine ab_aload_n (pc := 113) dX10_find_113 rfl ?_
      refine ab_get (pc := 114) (k := 31) (x := vI (1)) okX10 hW.obj (mg rfl i31) w1086 rfl dX10_find_114 ?_
      refine ab_if_eq (pc := 117) 125 dX10_find_117 (by decide) (fun c117 => absurd c117 (by omega)) (fun c117 => ?_)
      refine ab_bipush (pc := 120) dX10_find_120 (by decide) ?_
      refine ab_goto (pc := 122) 126 dX10_find_122 (by decide) ?_
      refine ab_iret (pc := 126) dX10_find_126 rfl ?_
      first
      | (exact ⟨_, _, _, rfl, hW, 0, 0, w9, rfl, ((hc1.sv 0 (by decide)).trans t0), Or.inr (Or.inr ⟨mok, n0, n6, x0, x1, rfl, Or.inr ⟨k0, co, t, _, ⟨hco, w, d, lk, lg, ch, nx⟩, i23, Or.inr (Or.inr ⟨(show (0 : Int) ≠ 1 by decide), (show (0 : Int) ≠ -2 by decide), tk, rfl⟩)⟩⟩), Or.inr ⟨by decide, ((hc1.Fv 3 (by decide)).trans f3), ((hc1.Fv 4 (by decide)).trans f4)⟩⟩)
      | (exact ⟨_, _, _, rfl, hW, 0, -2, w9, rfl, ((hc1.sv 0 (by decide)).trans t0), Or.inr (Or.inr ⟨mok, n0, n6, x0, x1, rfl, Or.inr ⟨k0, co, t, _, ⟨hco, w, d, lk, lg, ch, nx⟩, i23, Or.inr (Or.inl ⟨rfl, tk, rfl⟩)⟩⟩), Or.inr ⟨by decide, ((hc1.Fv 3 (by decide)).trans f3), ((hc1.Fv 4 (by decide)).trans f4)⟩⟩)
      | (exfalso; omega)
theorem m_find (hG : ab_G l E) (hM : mR h0 m A s0 F0) {e a n k x : Int} (b7 : 0 ≤ s0 7) (c7 : s0 7 ≤ 12) (lb : ∀ q : Int, 0 ≤ q → q < s0 7 → lawB F0 q) (n1 : s0 1 ≤ 16) : ab_M l E Y_X10_find 7 7 0 0 [vR m, vI e, vI a, vI n, vI k, vI x] h0 (mC h0 m A s0 F0 [0, 23, 24, 25, 26, 27, 28, 29, 31, 32, 33] [3, 4, 13, 14, 15, 30] (fun r s' F' => ∃ (c r9 : Int) (g : Int → Int), r = some (vI r9) ∧ s' 0 = c ∧ findSp s0 F0 (F0 30) e a n k x c r9 (s' 23) g ∧ ((c = 0 ∧ r9 = 1 ∧ F' 3 = ab_f (F0 3) (10 * x) n ∧ F' 4 = fil (F0 4) (80 * (10 * x)) 80 (fun i => if i < n then g i else 0)) ∨ (¬ (c = 0 ∧ r9 = 1) ∧ F' 3 = F0 3 ∧ F' 4 = F0 4)))) := by
  refine ab_M.of (L0 := [some (vR m), some (vI e), some (vI a), some (vI n), some (vI k), some (vI x), none]) hG rfl rfl (Nat.le_of_ble_eq_true rfl) rfl ?_
  have hW : mW h0 m A s0 F0 [0, 23, 24, 25, 26, 27, 28, 29, 31, 32, 33] [3, 4, 13, 14, 15, 30] h0 s0 F0 := mW.start hM
  refine ab_aload_n (pc := 0) dX10_find_0 rfl ?_
  refine ab_iconst (pc := 1) dX10_find_1 (by decide) ?_
  refine ab_putG (pc := 2) (k := 0) okX10 hW.obj (by decide) (by decide) trivial w1055 rfl (Or.inl rfl) dX10_find_2 (fun h e9 n9 => ?_)
  replace hW := hW.put e9 n9 rfl (by decide)
  clear e9 n9
  refine ab_aload_n (pc := 5) dX10_find_5 rfl ?_
  refine ab_iload_n (pc := 6) dX10_find_6 rfl ?_
  refine ab_iload_n (pc := 7) dX10_find_7 rfl ?_
  refine ab_callV (pc := 8) (m_maySearch (L := s0 7) hG hW.1 rfl (hW.sv 7 (by decide))) hW.obj rfl ⟨w1308, w5, w1311, by decide, pd73⟩ w1310 sp36 rfl (by decide) (by decide) (Nat.le_of_ble_eq_true rfl) rfl dX10_find_8 (fun _ _ hx => absurd hx mC_no) ?_
  rintro _ h ⟨_, s1, F1, e9, hc1, hp1⟩
  cases e9
  replace hW := hW.call hc1 (by decide) (by decide)
  rcases hp1 with ⟨b1, b2, b3, b4, rfl, t1⟩ | ⟨b1, rfl, t1⟩
  · refine ab_if_eq (pc := 11) 51 dX10_find_11 (by decide) (fun c11 => absurd c11 (by omega)) (fun c11 => ?_)
    refine ab_aload_n (pc := 14) dX10_find_14 rfl ?_
    refine ab_via (S := [vR m]) 30 (fun v : Int => (v = 1 ∧ 0 ≤ n ∧ n ≤ 60) ∨ (v = 0 ∧ ¬ (0 ≤ n ∧ n ≤ 60))) (fun v hv => ?_) (fun J30 => ?_)
    · refine ab_iconst (pc := 30) dX10_find_30 (by decide) ?_
      refine ab_callV (pc := 31) (m_may hG hW.1 (by omega) t1 (by omega)) hW.obj rfl ⟨w1205, w5, w1208, by decide, pd74⟩ w1207 sp25 rfl (by decide) (by decide) (Nat.le_of_ble_eq_true rfl) rfl dX10_find_31 (fun _ _ hx => absurd hx mC_no) ?_
      rintro _ h ⟨_, s2, F2, e9, hc2, hp2⟩
      cases e9
      replace hW := hW.call hc2 (by decide) (by decide)
      rcases hp2 with ⟨g2, rfl, t2⟩ | ⟨g2, rfl, t2⟩
      · refine ab_if_eq (pc := 34) 51 dX10_find_34 (by decide) (fun c34 => absurd c34 (by omega)) (fun c34 => ?_)
        refine ab_aload_n (pc := 37) dX10_find_37 rfl ?_
        refine ab_aload_n (pc := 38) dX10_find_38 rfl ?_
        refine ab_iload (pc := 39) dX10_find_39 rfl ?_
        refine ab_callV (pc := 41) (m_isSheet (n := s0 1) hG hW.1 (hW.sv 1 (by decide))) hW.obj rfl ⟨w1217, w5, w1220, by decide, pd71⟩ w1219 sp27 rfl (by decide) (by decide) (Nat.le_of_ble_eq_true rfl) rfl dX10_find_41 (fun _ _ hx => absurd hx pC_no) ?_
        rintro _ _ ⟨iv, e9, rfl, hiv⟩
        cases e9
        refine ab_iconst (pc := 44) dX10_find_44 (by decide) ?_
        refine ab_callV (pc := 45) (m_may hG hW.1 (by omega) t2 (by omega)) hW.obj rfl ⟨w1205, w5, w1208, by decide, pd74⟩ w1207 sp25 rfl (by decide) (by decide) (Nat.le_of_ble_eq_true rfl) rfl dX10_find_45 (fun _ _ hx => absurd hx mC_no) ?_
        rintro _ h ⟨_, s4, F4, e9, hc4, hp4⟩
        cases e9
        replace hW := hW.call hc4 (by decide) (by decide)
        rcases hp4 with ⟨g4, rfl, t4⟩ | ⟨g4, rfl, t4⟩
        · refine ab_if_ne (pc := 48) 53 dX10_find_48 (by decide) (fun c48 => ?_) (fun c48 => absurd c48 (by omega))
          refine ab_iload (pc := 53) dX10_find_53 rfl ?_
          refine ab_if_ge (pc := 55) 60 dX10_find_55 (by decide) (fun c55 => ?_) (fun c55 => ?_)
          · refine ab_aload_n (pc := 60) dX10_find_60 rfl ?_
            refine ab_iconst (pc := 61) dX10_find_61 (by decide) ?_
            refine ab_putG (pc := 62) (k := 23) okX10 hW.obj (by decide) (by decide) trivial w1078 rfl (Or.inl rfl) dX10_find_62 (fun h e9 n9 => ?_)
            replace hW := hW.put e9 n9 rfl (by decide)
            clear e9 n9
            refine ab_aload_n (pc := 65) dX10_find_65 rfl ?_
            refine ab_iconst (pc := 66) dX10_find_66 (by decide) ?_
            refine ab_putG (pc := 67) (k := 32) okX10 hW.obj (by decide) (by decide) (by show _ ∨ _; omega) w1087 rfl (Or.inl rfl) dX10_find_67 (fun h e9 n9 => ?_)
            replace hW := hW.put e9 n9 rfl (by decide)
            clear e9 n9
            refine ab_aload_n (pc := 70) dX10_find_70 rfl ?_
            refine ab_iload_n (pc := 71) dX10_find_71 rfl ?_
            refine ab_iload_n (pc := 72) dX10_find_72 rfl ?_
            refine ab_iload_n (pc := 73) dX10_find_73 rfl ?_
            refine ab_callV (pc := 74) (m_beginSearchG (G := F0) hG hW.1 (hW.Fv 8 (by decide)) (hW.sv 7 (by decide)) rfl b7 c7) hW.obj rfl ⟨w1312, w5, w1315, by decide, pd13⟩ w1314 sp37 rfl (by decide) (by decide) (Nat.le_of_ble_eq_true rfl) rfl dX10_find_74 (fun _ _ hx => absurd hx mC_no) ?_
            rintro _ h ⟨_, s5, F5, e9, hc5, rfl, j25, j26, j27, jco, j28, j29, j33, j31⟩
            cases e9
            replace hW := hW.call hc5 (by decide) (by decide)
            have cb := costUp_bd jco
            refine ab_iconst (pc := 77) dX10_find_77 (by decide) ?_
            refine ab_istore (pc := 78) dX10_find_78 rfl (Nat.le_of_ble_eq_true rfl) ?_
            exact m_find_80 hG b7 c7 lb b3 b4 (by omega) (by omega) jco ⟨⟨b1, b2⟩, b3, b4⟩ (by omega) (by omega) (by omega) n1 _ 0 (F0 30) 0 0 0 _ _ _ hW (Nat.lt_succ_self _) ((hc5.sv 0 (by decide)).trans t4) ((hc5.Fv 30 (by decide)).trans ((hc4.Fv 30 (by decide)).trans ((hc2.Fv 30 (by decide)).trans (hc1.Fv 30 (by decide))))) j28 (hc5.sv 23 (by decide)) j29 j31 j33 rfl j25 j26 j27 (hc5.sv 32 (by decide)) ⟨by omega, by omega, fun j j0 j1 => absurd j1 (by omega), fun e9 => absurd e9 (by omega), by omega, by omega, by omega, by omega⟩ ⟨rfl, rfl, rfl, rfl⟩ ((hc5.Fv 3 (by decide)).trans ((hc4.Fv 3 (by decide)).trans ((hc2.Fv 3 (by decide)).trans (hc1.Fv 3 (by decide))))) ((hc5.Fv 4 (by decide)).trans ((hc4.Fv 4 (by decide)).trans ((hc2.Fv 4 (by decide)).trans (hc1.Fv 4 (by decide))))) (by omega)
          · refine ab_iconst (pc := 58) dX10_find_58 (by decide) ?_
            refine ab_iret (pc := 59) dX10_find_59 rfl ?_
            exact ⟨_, _, _, rfl, hW, 0, 0, F0 30, rfl, t4, Or.inr (Or.inr ⟨⟨⟨b1, b2⟩, b3, b4⟩, by omega, by omega, by omega, by omega, rfl, Or.inl ⟨by omega, rfl, ((hc4.sv 23 (by decide)).trans ((hc2.sv 23 (by decide)).trans (hc1.sv 23 (by decide))))⟩⟩), Or.inr ⟨by decide, ((hc4.Fv 3 (by decide)).trans ((hc2.Fv 3 (by decide)).trans (hc1.Fv 3 (by decide)))), ((hc4.Fv 4 (by decide)).trans ((hc2.Fv 4 (by decide)).trans (hc1.Fv 4 (by decide))))⟩⟩
        · refine ab_if_ne (pc := 48) 53 dX10_find_48 (by decide) (fun c48 => absurd c48 (by omega)) (fun c48 => ?_)
          refine ab_iconst (pc := 51) dX10_find_51 (by decide) ?_
          refine ab_iret (pc := 52) dX10_find_52 rfl ?_
          first
          | (exact ⟨_, _, _, rfl, hW, 1, 0, F0 30, rfl, t4, Or.inl ⟨by omega, rfl, rfl, ((hc4.sv 23 (by decide)).trans ((hc2.sv 23 (by decide)).trans (hc1.sv 23 (by decide))))⟩, Or.inr ⟨by decide, ((hc4.Fv 3 (by decide)).trans ((hc2.Fv 3 (by decide)).trans (hc1.Fv 3 (by decide)))), ((hc4.Fv 4 (by decide)).trans ((hc2.Fv 4 (by decide)).trans (hc1.Fv 4 (by decide))))⟩⟩)
          | (exact ⟨_, _, _, rfl, hW, 2, 0, F0 30, rfl, t4, Or.inr (Or.inl ⟨⟨⟨b1, b2⟩, b3, b4⟩, by omega, by omega, by omega, rfl, rfl, ((hc4.sv 23 (by decide)).trans ((hc2.sv 23 (by decide)).trans (hc1.sv 23 (by decide))))⟩), Or.inr ⟨by decide, ((hc4.Fv 3 (by decide)).trans ((hc2.Fv 3 (by decide)).trans (hc1.Fv 3 (by decide)))), ((hc4.Fv 4 (by decide)).trans ((hc2.Fv 4 (by decide)).trans (hc1.Fv 4 (by decide))))⟩⟩)
      · refine ab_if_eq (pc := 34) 51 dX10_find_34 (by decide) (fun c34 => ?_) (fun c34 => absurd c34 (by omega))
        refine ab_iconst (pc := 51) dX10_find_51 (by decide) ?_
        refine ab_iret (pc := 52) dX10_find_52 rfl ?_
        first
        | (exact ⟨_, _, _, rfl, hW, 1, 0, F0 30, rfl, t2, Or.inl ⟨by omega, rfl, rfl, ((hc2.sv 23 (by decide)).trans (hc1.sv 23 (by decide)))⟩, Or.inr ⟨by decide, ((hc2.Fv 3 (by decide)).trans (hc1.Fv 3 (by decide))), ((hc2.Fv 4 (by decide)).trans (hc1.Fv 4 (by decide)))⟩⟩)
        | (exact ⟨_, _, _, rfl, hW, 2, 0, F0 30, rfl, t2, Or.inr (Or.inl ⟨⟨⟨b1, b2⟩, b3, b4⟩, by omega, by omega, by omega, rfl, rfl, ((hc2.sv 23 (by decide)).trans (hc1.sv 23 (by decide)))⟩), Or.inr ⟨by decide, ((hc2.Fv 3 (by decide)).trans (hc1.Fv 3 (by decide))), ((hc2.Fv 4 (by decide)).trans (hc1.Fv 4 (by decide)))⟩⟩)
    · refine ab_iload_n (pc := 15) dX10_find_15 rfl ?_
      refine ab_if_lt (pc := 16) 29 dX10_find_16 (by decide) (fun c16 => ?_) (fun c16 => ?_)
      · refine ab_iconst (pc := 29) dX10_find_29 (by decide) ?_
        exact J30 (0) (by omega)
      · refine ab_iload_n (pc := 19) dX10_find_19 rfl ?_
        refine ab_bipush (pc := 20) dX10_find_20 (by decide) ?_
        refine ab_icmp_gt (pc := 22) 29 dX10_find_22 (by decide) (fun c22 => ?_) (fun c22 => ?_)
        · refine ab_iconst (pc := 29) dX10_find_29 (by decide) ?_
          exact J30 (0) (by omega)
        · refine ab_iconst (pc := 25) dX10_find_25 (by decide) ?_
          refine ab_goto (pc := 26) 30 dX10_find_26 (by decide) ?_
          exact J30 (1) (by omega)
  · refine ab_if_eq (pc := 11) 51 dX10_find_11 (by decide) (fun c11 => ?_) (fun c11 => absurd c11 (by omega))
    refine ab_iconst (pc := 51) dX10_find_51 (by decide) ?_
    refine ab_iret (pc := 52) dX10_find_52 rfl ?_
    first
    | (exact ⟨_, _, _, rfl, hW, 1, 0, F0 30, rfl, t1, Or.inl ⟨by omega, rfl, rfl, (hc1.sv 23 (by decide))⟩, Or.inr ⟨by decide, (hc1.Fv 3 (by decide)), (hc1.Fv 4 (by decide))⟩⟩)
    | (exact ⟨_, _, _, rfl, hW, 2, 0, F0 30, rfl, t1, Or.inr (Or.inl ⟨⟨⟨b1, b2⟩, b3, b4⟩, by omega, by omega, by omega, rfl, rfl, (hc1.sv 23 (by decide))⟩), Or.inr ⟨by decide, (hc1.Fv 3 (by decide)), (hc1.Fv 4 (by decide))⟩⟩)
theorem m_longest (hG : ab_G l E) (hM : mR h0 m A s0 F0) {e a : Int} (b7 : 0 ≤ s0 7) (c7 : s0 7 ≤ 12) (lb : ∀ q : Int, 0 ≤ q → q < s0 7 → lawB F0 q) : ab_M l E Y_X10_longest 3 7 0 0 [vR m, vI e, vI a] h0 (mC h0 m A s0 F0 [0, 23, 24, 25, 26, 27, 28, 29, 31, 32, 33] [13, 14, 15, 30] (fun r s' F' => ∃ c r9 : Int, r = some (vI r9) ∧ s' 0 = c ∧ longSp s0 F0 (F0 30) e a c r9 (s' 23))) := by
  refine ab_M.of (L0 := [some (vR m), some (vI e), some (vI a)]) hG rfl rfl (Nat.le_of_ble_eq_true rfl) rfl ?_
  have hW : mW h0 m A s0 F0 [0, 23, 24, 25, 26, 27, 28, 29, 31, 32, 33] [13, 14, 15, 30] h0 s0 F0 := mW.start hM
  refine ab_aload_n (pc := 0) dX10_longest_0 rfl ?_
  refine ab_iconst (pc := 1) dX10_longest_1 (by decide) ?_
  refine ab_putG (pc := 2) (k := 0) okX10 hW.obj (by decide) (by decide) trivial w1055 rfl (Or.inl rfl) dX10_longest_2 (fun h e9 n9 => ?_)
  replace hW := hW.put e9 n9 rfl (by decide)
  clear e9 n9
  refine ab_aload_n (pc := 5) dX10_longest_5 rfl ?_
  refine ab_iload_n (pc := 6) dX10_longest_6 rfl ?_
  refine ab_iload_n (pc := 7) dX10_longest_7 rfl ?_
  refine ab_callV (pc := 8) (m_maySearch (L := s0 7) hG hW.1 rfl (hW.sv 7 (by decide))) hW.obj rfl ⟨w1308, w5, w1311, by decide, pd73⟩ w1310 sp36 rfl (by decide) (by decide) (Nat.le_of_ble_eq_true rfl) rfl dX10_longest_8 (fun _ _ hx => absurd hx mC_no) ?_
  rintro _ h ⟨_, s1, F1, e9, hc1, hp1⟩
  cases e9
  replace hW := hW.call hc1 (by decide) (by decide)
  rcases hp1 with ⟨b1, b2, b3, b4, rfl, t1⟩ | ⟨b1, rfl, t1⟩
  · refine ab_if_ne (pc := 11) 16 dX10_longest_11 (by decide) (fun c11 => ?_) (fun c11 => absurd c11 (by omega))
    refine ab_aload_n (pc := 16) dX10_longest_16 rfl ?_
    refine ab_iconst (pc := 17) dX10_longest_17 (by decide) ?_
    refine ab_putG (pc := 18) (k := 23) okX10 hW.obj (by decide) (by decide) trivial w1078 rfl (Or.inl rfl) dX10_longest_18 (fun h e9 n9 => ?_)
    replace hW := hW.put e9 n9 rfl (by decide)
    clear e9 n9
    refine ab_aload_n (pc := 21) dX10_longest_21 rfl ?_
    refine ab_iconst (pc := 22) dX10_longest_22 (by decide) ?_
    refine ab_putG (pc := 23) (k := 32) okX10 hW.obj (by decide) (by decide) (by show _ ∨ _; omega) w1087 rfl (Or.inl rfl) dX10_longest_23 (fun h e9 n9 => ?_)
    replace hW := hW.put e9 n9 rfl (by decide)
    clear e9 n9
    refine ab_aload_n (pc := 26) dX10_longest_26 rfl ?_
    refine ab_iload_n (pc := 27) dX10_longest_27 rfl ?_
    refine ab_iload_n (pc := 28) dX10_longest_28 rfl ?_
    refine ab_bipush (pc := 29) dX10_longest_29 (by decide) ?_
    refine ab_callV (pc := 31) (m_beginSearchG (G := F0) hG hW.1 (hW.Fv 8 (by decide)) (hW.sv 7 (by decide)) rfl b7 c7) hW.obj rfl ⟨w1312, w5, w1315, by decide, pd13⟩ w1314 sp37 rfl (by decide) (by decide) (Nat.le_of_ble_eq_true rfl) rfl dX10_longest_31 (fun _ _ hx => absurd hx mC_no) ?_
    rintro _ h ⟨_, s2, F2, e9, hc2, rfl, j25, j26, j27, jco, j28, j29, j33, j31⟩
    cases e9
    replace hW := hW.call hc2 (by decide) (by decide)
    have cb := costUp_bd jco
    refine ab_aload_n (pc := 34) dX10_longest_34 rfl ?_
    refine ab_callV (pc := 35) (m_next (kp := KL F0 (s0 7) e) (b := 0) (w := F0 30) (d := 0) (lk := 0) (lg := 0) (n := 60) (a := a) hG hW.1 (hW.law (by decide)) (hW.sv 7 (by decide)) b7 c7 lb (Or.inl ⟨(hc2.sv 32 (by decide)), by rw [j25]⟩) j26 b3 b4 j27 (by omega) rfl (by omega) (by omega) (by omega) ((hc2.Fv 30 (by decide)).trans (hc1.Fv 30 (by decide))) j28 (hc2.sv 23 (by decide)) j29 j31 j33 (Or.inl rfl) ⟨by omega, by omega, fun j j0 j1 => absurd j1 (by omega), fun e9 => absurd e9 (by omega), by omega, by omega, by omega, by omega⟩) hW.obj rfl ⟨w1316, w5, w1319, by decide, pd20⟩ w1318 sp38 rfl (by decide) (by decide) (Nat.le_of_ble_eq_true rfl) rfl dX10_longest_35 (fun _ _ hx => absurd hx mC_no) ?_
    rintro _ h ⟨_, s3, F3, e9, hc3, ⟨o, w9, d9, lk9, lg9, nx, i30, i28, i23, i29, inv9, ho, hf⟩, i33⟩
    cases e9
    replace hW := hW.call hc3 (by decide) (by decide)
    rcases ho with ⟨rfl, rfl, i31⟩ | ⟨rfl, rfl, i31⟩ | ⟨rfl, rfl, i31⟩
    · refine ab_if_eq (pc := 38) 43 dX10_longest_38 (by decide) (fun c38 => absurd c38 (by omega)) (fun c38 => ?_)
      refine ab_iconst (pc := 41) dX10_longest_41 (by decide) ?_
      refine ab_iret (pc := 42) dX10_longest_42 rfl ?_
      exact ⟨_, _, _, rfl, hW, 0, -1, rfl, ((hc3.sv 0 (by decide)).trans ((hc2.sv 0 (by decide)).trans t1)), Or.inr ⟨⟨⟨b1, b2⟩, b3, b4⟩, rfl, _, _, jco, nx, i23, Or.inl ⟨rfl, rfl⟩⟩⟩
    · refine ab_if_eq (pc := 38) 43 dX10_longest_38 (by decide) (fun c38 => ?_) (fun c38 => absurd c38 (by omega))
      refine ab_aload_n (pc := 43) dX10_longest_43 rfl ?_
      refine ab_get (pc := 44) (k := 31) (x := vI (0)) okX10 hW.obj (mg rfl i31) w1086 rfl dX10_longest_44 ?_
      refine ab_if_eq (pc := 47) 55 dX10_longest_47 (by decide) (fun c47 => ?_) (fun c47 => absurd c47 (by omega))
      refine ab_aload_n (pc := 55) dX10_longest_55 rfl ?_
      refine ab_get (pc := 56) (k := 29) (x := vI (lg9)) okX10 hW.obj (mg rfl i29) w1084 rfl dX10_longest_56 ?_
      refine ab_iret (pc := 59) dX10_longest_59 rfl ?_
      first
      | (exact ⟨_, _, _, rfl, hW, 0, -2, rfl, ((hc3.sv 0 (by decide)).trans ((hc2.sv 0 (by decide)).trans t1)), Or.inr ⟨⟨⟨b1, b2⟩, b3, b4⟩, rfl, _, _, jco, nx, i23, Or.inr (Or.inl ⟨rfl, rfl⟩)⟩⟩)
      | (exact ⟨_, _, _, rfl, hW, 0, _, rfl, ((hc3.sv 0 (by decide)).trans ((hc2.sv 0 (by decide)).trans t1)), Or.inr ⟨⟨⟨b1, b2⟩, b3, b4⟩, rfl, _, _, jco, nx, i23, Or.inr (Or.inr ⟨(show (0 : Int) ≠ 1 by decide), (show (0 : Int) ≠ -2 by decide), rfl⟩)⟩⟩)
      | (exfalso; omega)
    · refine ab_if_eq (pc := 38) 43 dX10_longest_38 (by decide) (fun c38 => ?_) (fun c38 => absurd c38 (by omega))
      refine ab_aload_n (pc := 43) dX10_longest_43 rfl ?_
      refine ab_get (pc := 44) (k := 31) (x := vI (1)) okX10 hW.obj (mg rfl i31) w1086 rfl dX10_longest_44 ?_
      refine ab_if_eq (pc := 47) 55 dX10_longest_47 (by decide) (fun c47 => absurd c47 (by omega)) (fun c47 => ?_)
      refine ab_bipush (pc := 50) dX10_longest_50 (by decide) ?_
      refine ab_goto (pc := 52) 59 dX10_longest_52 (by decide) ?_
      refine ab_iret (pc := 59) dX10_longest_59 rfl ?_
      first
      | (exact ⟨_, _, _, rfl, hW, 0, -2, rfl, ((hc3.sv 0 (by decide)).trans ((hc2.sv 0 (by decide)).trans t1)), Or.inr ⟨⟨⟨b1, b2⟩, b3, b4⟩, rfl, _, _, jco, nx, i23, Or.inr (Or.inl ⟨rfl, rfl⟩)⟩⟩)
      | (exact ⟨_, _, _, rfl, hW, 0, _, rfl, ((hc3.sv 0 (by decide)).trans ((hc2.sv 0 (by decide)).trans t1)), Or.inr ⟨⟨⟨b1, b2⟩, b3, b4⟩, rfl, _, _, jco, nx, i23, Or.inr (Or.inr ⟨(show (0 : Int) ≠ 1 by decide), (show (0 : Int) ≠ -2 by decide), rfl⟩)⟩⟩)
      | (exfalso; omega)
  · refine ab_if_ne (pc := 11) 16 dX10_longest_11 (by decide) (fun c11 => absurd c11 (by omega)) (fun c11 => ?_)
    refine ab_iconst (pc := 14) dX10_longest_14 (by decide) ?_
    refine ab_iret (pc := 15) dX10_longest_15 rfl ?_
    exact ⟨_, _, _, rfl, hW, 1, 0, rfl, t1, Or.inl ⟨by omega, rfl, rfl, (hc1.sv 23 (by decide))⟩⟩
end M11
