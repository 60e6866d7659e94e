/-! the reference: sheets and words -/
section M1
variable {l : Launch} {E : AbE} {m : Nat} {A : Nat → Nat} {s0 : Nat → Int} {F0 : Nat → Int → Int} {h0 : AbH}
/-- what is read off a row of z numbers g: how many letters, -1 if it is no word -/
def rdW (z : Int) (g : Int → Int) (r : Int) : Prop := (r = -1 ∧ (60 < z ∨ ∃ j : Int, 0 ≤ j ∧ j < z ∧ ¬ (0 ≤ g j ∧ g j ≤ 7))) ∨ (0 ≤ r ∧ r ≤ 60 ∧ (r = z ∨ (r = 0 ∧ z = -1)) ∧ ∀ j : Int, 0 ≤ j → j < r → 0 ≤ g j ∧ g j ≤ 7)
theorem rdW_fun {z : Int} {g : Int → Int} {r r' : Int} (h1 : rdW z g r) (h2 : rdW z g r') : r = r' := by
  rcases h1 with ⟨a1, a2⟩ | ⟨a1, a2, a3, a4⟩ <;> rcases h2 with ⟨b1, b2⟩ | ⟨b1, b2, b3, b4⟩
  · omega
  · exfalso
    rcases a2 with a2 | ⟨j, j1, j2, j3⟩
    · omega
    · exact j3 (b4 j j1 (by omega))
  · exfalso
    rcases b2 with b2 | ⟨j, j1, j2, j3⟩
    · omega
    · exact j3 (a4 j j1 (by omega))
  · omega
/-- the letters of row k of sheet x -/
abbrev rdL (F : Nat → Int → Int) (x k : Int) : Int → Int := fun j => F 4 (80 * (10 * x + k) + j)
abbrev isRd (F : Nat → Int → Int) (x k r : Int) : Prop := rdW (F 3 (10 * x + k)) (rdL F x k) r
theorem m_thrown (hG : ab_G l E) (hM : mR h0 m A s0 F0)  : ab_M l E Y_X10_thrown 1 0 0 0 [vR m] h0 (mC h0 m A s0 F0 [] [] (fun r s' F' => r = some (vI (s0 0)))) := by
  refine ab_M.of (L0 := [some (vR m)]) hG rfl rfl (Nat.le_of_ble_eq_true rfl) rfl ?_
  have hW : mW h0 m A s0 F0 [] [] h0 s0 F0 := mW.start hM
  refine ab_aload_n (pc := 0) dX10_thrown_0 rfl ?_
  refine ab_get (pc := 1) (k := 0) (x := vI (s0 0)) okX10 hW.obj (mg rfl (hW.sv 0 (by decide))) w1055 rfl dX10_thrown_1 ?_
  refine ab_iret (pc := 4) dX10_thrown_4 rfl ?_
  exact ⟨_, _, _, rfl, hW, rfl⟩
theorem m_may (hG : ab_G l E) (hM : mR h0 m A s0 F0) {g c : Int} (hg : g = 0 ∨ g = 1) (hs : s0 0 = 0) (hc : 0 < c) : ab_M l E Y_X10_may 3 0 0 0 [vR m, vI g, vI c] h0 (mC h0 m A s0 F0 [0] [] (fun r s' F' => (g = 1 ∧ r = some (vI 1) ∧ s' 0 = 0) ∨ (g = 0 ∧ r = some (vI 0) ∧ s' 0 = c))) := by
  refine ab_M.of (L0 := [some (vR m), some (vI g), some (vI c)]) hG rfl rfl (Nat.le_of_ble_eq_true rfl) rfl ?_
  have hW : mW h0 m A s0 F0 [0] [] h0 s0 F0 := mW.start hM
  refine ab_iload_n (pc := 0) dX10_may_0 rfl ?_
  refine ab_if_ne (pc := 1) 16 dX10_may_1 (by decide) (fun c1 => ?_) (fun c1 => ?_)
  · refine ab_aload_n (pc := 16) dX10_may_16 rfl ?_
    refine ab_get (pc := 17) (k := 0) (x := vI (s0 0)) okX10 hW.obj (mg rfl rfl) w1055 rfl dX10_may_17 ?_
    refine ab_if_ne (pc := 20) 27 dX10_may_20 (by decide) (fun c20 => ?_) (fun c20 => ?_)
    · refine ab_iconst (pc := 27) dX10_may_27 (by decide) ?_
      refine ab_zret (pc := 28) dX10_may_28 rfl (by omega) ?_
      first
      | (exact ⟨_, _, _, rfl, hW, Or.inl ⟨by omega, rfl, by omega⟩⟩)
      | (exact ⟨_, _, _, rfl, hW, Or.inr ⟨by omega, rfl, rfl⟩⟩)
      | (exfalso; omega)
    · refine ab_iconst (pc := 23) dX10_may_23 (by decide) ?_
      refine ab_goto (pc := 24) 28 dX10_may_24 (by decide) ?_
      refine ab_zret (pc := 28) dX10_may_28 rfl (by omega) ?_
      first
      | (exact ⟨_, _, _, rfl, hW, Or.inl ⟨by omega, rfl, by omega⟩⟩)
      | (exact ⟨_, _, _, rfl, hW, Or.inr ⟨by omega, rfl, rfl⟩⟩)
      | (exfalso; omega)
  · refine ab_aload_n (pc := 4) dX10_may_4 rfl ?_
    refine ab_get (pc := 5) (k := 0) (x := vI (s0 0)) okX10 hW.obj (mg rfl rfl) w1055 rfl dX10_may_5 ?_
    refine ab_if_ne (pc := 8) 16 dX10_may_8 (by decide) (fun c8 => ?_) (fun c8 => ?_)
    · refine ab_aload_n (pc := 16) dX10_may_16 rfl ?_
      refine ab_get (pc := 17) (k := 0) (x := vI (s0 0)) okX10 hW.obj (mg rfl rfl) w1055 rfl dX10_may_17 ?_
      refine ab_if_ne (pc := 20) 27 dX10_may_20 (by decide) (fun c20 => ?_) (fun c20 => ?_)
      · refine ab_iconst (pc := 27) dX10_may_27 (by decide) ?_
        refine ab_zret (pc := 28) dX10_may_28 rfl (by omega) ?_
        first
        | (exact ⟨_, _, _, rfl, hW, Or.inl ⟨by omega, rfl, by omega⟩⟩)
        | (exact ⟨_, _, _, rfl, hW, Or.inr ⟨by omega, rfl, rfl⟩⟩)
        | (exfalso; omega)
      · refine ab_iconst (pc := 23) dX10_may_23 (by decide) ?_
        refine ab_goto (pc := 24) 28 dX10_may_24 (by decide) ?_
        refine ab_zret (pc := 28) dX10_may_28 rfl (by omega) ?_
        first
        | (exact ⟨_, _, _, rfl, hW, Or.inl ⟨by omega, rfl, by omega⟩⟩)
        | (exact ⟨_, _, _, rfl, hW, Or.inr ⟨by omega, rfl, rfl⟩⟩)
        | (exfalso; omega)
    · refine ab_aload_n (pc := 11) dX10_may_11 rfl ?_
      refine ab_iload_n (pc := 12) dX10_may_12 rfl ?_
      refine ab_putG (pc := 13) (k := 0) okX10 hW.obj (by decide) (by decide) trivial w1055 rfl (Or.inl rfl) dX10_may_13 (fun h e9 n9 => ?_)
      replace hW := hW.put e9 n9 rfl (by decide)
      clear e9 n9
      refine ab_aload_n (pc := 16) dX10_may_16 rfl ?_
      refine ab_get (pc := 17) (k := 0) (x := vI (c)) okX10 hW.obj (mg rfl rfl) w1055 rfl dX10_may_17 ?_
      refine ab_if_ne (pc := 20) 27 dX10_may_20 (by decide) (fun c20 => ?_) (fun c20 => ?_)
      · refine ab_iconst (pc := 27) dX10_may_27 (by decide) ?_
        refine ab_zret (pc := 28) dX10_may_28 rfl (by omega) ?_
        first
        | (exact ⟨_, _, _, rfl, hW, Or.inl ⟨by omega, rfl, by omega⟩⟩)
        | (exact ⟨_, _, _, rfl, hW, Or.inr ⟨by omega, rfl, rfl⟩⟩)
        | (exfalso; omega)
      · refine ab_iconst (pc := 23) dX10_may_23 (by decide) ?_
        refine ab_goto (pc := 24) 28 dX10_may_24 (by decide) ?_
        refine ab_zret (pc := 28) dX10_may_28 rfl (by omega) ?_
        first
        | (exact ⟨_, _, _, rfl, hW, Or.inl ⟨by omega, rfl, by omega⟩⟩)
        | (exact ⟨_, _, _, rfl, hW, Or.inr ⟨by omega, rfl, rfl⟩⟩)
        | (exfalso; omega)
theorem m_isSheet (hG : ab_G l E) (hM : mR h0 m A s0 F0) {x n : Int} (hn : s0 1 = n) : ab_M l E Y_X10_isSheet 2 0 0 0 [vR m, vI x] h0 (pC h0 (fun v => (0 ≤ x ∧ x < n ∧ v = 1) ∨ (¬ (0 ≤ x ∧ x < n) ∧ v = 0))) := by
  refine ab_M.of (L0 := [some (vR m), some (vI x)]) hG rfl rfl (Nat.le_of_ble_eq_true rfl) rfl ?_
  have hW : mW h0 m A s0 F0 [] [] h0 s0 F0 := mW.start hM
  refine ab_iload_n (pc := 0) dX10_isSheet_0 rfl ?_
  refine ab_if_lt (pc := 1) 16 dX10_isSheet_1 (by decide) (fun c1 => ?_) (fun c1 => ?_)
  · refine ab_iconst (pc := 16) dX10_isSheet_16 (by decide) ?_
    refine ab_zret (pc := 17) dX10_isSheet_17 rfl (by omega) ?_
    exact ⟨_, rfl, rfl, by omega⟩
  · refine ab_iload_n (pc := 4) dX10_isSheet_4 rfl ?_
    refine ab_aload_n (pc := 5) dX10_isSheet_5 rfl ?_
    refine ab_get (pc := 6) (k := 1) (x := vI (s0 1)) okX10 hW.obj (mg rfl (hW.sv 1 (by decide))) w1056 rfl dX10_isSheet_6 ?_
    refine ab_icmp_ge (pc := 9) 16 dX10_isSheet_9 (by decide) (fun c9 => ?_) (fun c9 => ?_)
    · refine ab_iconst (pc := 16) dX10_isSheet_16 (by decide) ?_
      refine ab_zret (pc := 17) dX10_isSheet_17 rfl (by omega) ?_
      exact ⟨_, rfl, rfl, by omega⟩
    · refine ab_iconst (pc := 12) dX10_isSheet_12 (by decide) ?_
      refine ab_goto (pc := 13) 17 dX10_isSheet_13 (by decide) ?_
      refine ab_zret (pc := 17) dX10_isSheet_17 rfl (by omega) ?_
      exact ⟨_, rfl, rfl, by omega⟩
theorem m_isRow (hG : ab_G l E) (hM : mR h0 m A s0 F0) {x k c n : Int} (hs : s0 0 = 0) (hc : 0 < c) (hn : s0 1 = n) : ab_M l E Y_X10_isRow 4 3 0 0 [vR m, vI x, vI k, vI c] h0 (mC h0 m A s0 F0 [0] [] (fun r s' F' => (0 ≤ x ∧ x < n ∧ 0 ≤ k ∧ k < 10 ∧ r = some (vI 1) ∧ s' 0 = 0) ∨ (¬ (0 ≤ x ∧ x < n ∧ 0 ≤ k ∧ k < 10) ∧ r = some (vI 0) ∧ s' 0 = c))) := by
  refine ab_M.of (L0 := [some (vR m), some (vI x), some (vI k), some (vI c)]) hG rfl rfl (Nat.le_of_ble_eq_true rfl) rfl ?_
  have hW : mW h0 m A s0 F0 [0] [] h0 s0 F0 := mW.start hM
  refine ab_aload_n (pc := 0) dX10_isRow_0 rfl ?_
  refine ab_via (S := [vR m]) 24 (fun v : Int => (v = 1 ∧ 0 ≤ x ∧ x < n ∧ 0 ≤ k ∧ k < 10) ∨ (v = 0 ∧ ¬ (0 ≤ x ∧ x < n ∧ 0 ≤ k ∧ k < 10))) (fun v hv => ?_) (fun J24 => ?_)
  · refine ab_iload_n (pc := 24) dX10_isRow_24 rfl ?_
    refine ab_callV (pc := 25) (m_may hG hW.1 (by omega) hs (by omega)) hW.obj rfl ⟨w1205, w5, w1208, by decide, pd74⟩ w1207 sp25 rfl (by decide) (by decide) (Nat.le_of_ble_eq_true rfl) rfl dX10_isRow_25 (fun _ _ hx => absurd hx mC_no) ?_
    rintro _ h ⟨_, s1, F1, e9, hc1, hp1⟩
    cases e9
    replace hW := hW.call hc1 (by decide) (by decide)
    rcases hp1 with ⟨g1, rfl, t1⟩ | ⟨g1, rfl, t1⟩
    · refine ab_zret (pc := 28) dX10_isRow_28 rfl (by omega) ?_
      first
      | (exact ⟨_, _, _, rfl, hW, Or.inl ⟨by omega, by omega, by omega, by omega, rfl, by omega⟩⟩)
      | (exact ⟨_, _, _, rfl, hW, Or.inr ⟨by omega, rfl, by omega⟩⟩)
      | (exfalso; omega)
    · refine ab_zret (pc := 28) dX10_isRow_28 rfl (by omega) ?_
      first
      | (exact ⟨_, _, _, rfl, hW, Or.inl ⟨by omega, by omega, by omega, by omega, rfl, by omega⟩⟩)
      | (exact ⟨_, _, _, rfl, hW, Or.inr ⟨by omega, rfl, by omega⟩⟩)
      | (exfalso; omega)
  · refine ab_aload_n (pc := 1) dX10_isRow_1 rfl ?_
    refine ab_iload_n (pc := 2) dX10_isRow_2 rfl ?_
    refine ab_callV (pc := 3) (m_isSheet hG hW.1 hn) hW.obj rfl ⟨w1217, w5, w1220, by decide, pd71⟩ w1219 sp27 rfl (by decide) (by decide) (Nat.le_of_ble_eq_true rfl) rfl dX10_isRow_3 (fun _ _ hx => absurd hx pC_no) ?_
    rintro _ _ ⟨v2, e9, rfl, hp2⟩
    cases e9
    refine ab_if_eq (pc := 6) 23 dX10_isRow_6 (by decide) (fun c6 => ?_) (fun c6 => ?_)
    · refine ab_iconst (pc := 23) dX10_isRow_23 (by decide) ?_
      exact J24 (0) (by omega)
    · refine ab_iload_n (pc := 9) dX10_isRow_9 rfl ?_
      refine ab_if_lt (pc := 10) 23 dX10_isRow_10 (by decide) (fun c10 => ?_) (fun c10 => ?_)
      · refine ab_iconst (pc := 23) dX10_isRow_23 (by decide) ?_
        exact J24 (0) (by omega)
      · refine ab_iload_n (pc := 13) dX10_isRow_13 rfl ?_
        refine ab_bipush (pc := 14) dX10_isRow_14 (by decide) ?_
        refine ab_icmp_ge (pc := 16) 23 dX10_isRow_16 (by decide) (fun c16 => ?_) (fun c16 => ?_)
        · refine ab_iconst (pc := 23) dX10_isRow_23 (by decide) ?_
          exact J24 (0) (by omega)
        · refine ab_iconst (pc := 19) dX10_isRow_19 (by decide) ?_
          refine ab_goto (pc := 20) 24 dX10_isRow_20 (by decide) ?_
          exact J24 (1) (by omega)
theorem m_sheet (hG : ab_G l E) (hM : mR h0 m A s0 F0) {w : Int} (n0 : 0 ≤ s0 1) (n1 : s0 1 ≤ 16) : ab_M l E Y_X10_sheet 2 3 0 0 [vR m, vI w] h0 (mC h0 m A s0 F0 [0, 1] [2] (fun r s' F' => (0 ≤ w ∧ w ≤ 2 ∧ s0 1 < 16 ∧ r = some (vI (s0 1)) ∧ s' 0 = 0 ∧ s' 1 = s0 1 + 1 ∧ F' 2 = ab_f (F0 2) (s0 1) w) ∨ (¬ (0 ≤ w ∧ w ≤ 2) ∧ r = some (vI 0) ∧ s' 0 = 1 ∧ s' 1 = s0 1 ∧ F' 2 = F0 2) ∨ (0 ≤ w ∧ w ≤ 2 ∧ 16 ≤ s0 1 ∧ r = some (vI 0) ∧ s' 0 = 2 ∧ s' 1 = s0 1 ∧ F' 2 = F0 2))) := by
  refine ab_M.of (L0 := [some (vR m), some (vI w)]) hG rfl rfl (Nat.le_of_ble_eq_true rfl) rfl ?_
  have hW : mW h0 m A s0 F0 [0, 1] [2] h0 s0 F0 := mW.start hM
  refine ab_aload_n (pc := 0) dX10_sheet_0 rfl ?_
  refine ab_iconst (pc := 1) dX10_sheet_1 (by decide) ?_
  refine ab_putG (pc := 2) (k := 0) okX10 hW.obj (by decide) (by decide) trivial w1055 rfl (Or.inl rfl) dX10_sheet_2 (fun h e9 n9 => ?_)
  replace hW := hW.put e9 n9 rfl (by decide)
  clear e9 n9
  refine ab_aload_n (pc := 5) dX10_sheet_5 rfl ?_
  refine ab_via (S := [vR m]) 20 (fun v : Int => (v = 1 ∧ 0 ≤ w ∧ w ≤ 2) ∨ (v = 0 ∧ ¬ (0 ≤ w ∧ w ≤ 2))) (fun v hv => ?_) (fun J20 => ?_)
  · refine ab_iconst (pc := 20) dX10_sheet_20 (by decide) ?_
    refine ab_callV (pc := 21) (m_may hG hW.1 (by omega) rfl (by omega)) hW.obj rfl ⟨w1205, w5, w1208, by decide, pd74⟩ w1207 sp25 rfl (by decide) (by decide) (Nat.le_of_ble_eq_true rfl) rfl dX10_sheet_21 (fun _ _ hx => absurd hx mC_no) ?_
    rintro _ h ⟨_, s1, F1, e9, hc1, hp1⟩
    cases e9
    replace hW := hW.call hc1 (by decide) (by decide)
    rcases hp1 with ⟨g1, rfl, t1⟩ | ⟨g1, rfl, t1⟩
    · refine ab_if_eq (pc := 24) 49 dX10_sheet_24 (by decide) (fun c24 => absurd c24 (by omega)) (fun c24 => ?_)
      refine ab_aload_n (pc := 27) dX10_sheet_27 rfl ?_
      refine ab_via (S := [vR m]) 42 (fun v : Int => (v = 1 ∧ s0 1 < 16) ∨ (v = 0 ∧ 16 ≤ s0 1)) (fun v hv => ?_) (fun J42 => ?_)
      · refine ab_iconst (pc := 42) dX10_sheet_42 (by decide) ?_
        refine ab_callV (pc := 43) (m_may hG hW.1 (by omega) t1 (by omega)) hW.obj rfl ⟨w1205, w5, w1208, by decide, pd74⟩ w1207 sp25 rfl (by decide) (by decide) (Nat.le_of_ble_eq_true rfl) rfl dX10_sheet_43 (fun _ _ hx => absurd hx mC_no) ?_
        rintro _ h ⟨_, s2, F2, e9, hc2, hp2⟩
        cases e9
        replace hW := hW.call hc2 (by decide) (by decide)
        rcases hp2 with ⟨g2, rfl, t2⟩ | ⟨g2, rfl, t2⟩
        · refine ab_if_ne (pc := 46) 51 dX10_sheet_46 (by decide) (fun c46 => ?_) (fun c46 => absurd c46 (by omega))
          refine ab_aload_n (pc := 51) dX10_sheet_51 rfl ?_
          refine ab_get (pc := 52) (k := 2) (x := vR (A 2)) okX10 hW.obj rfl w1057 rfl dX10_sheet_52 ?_
          refine ab_aload_n (pc := 55) dX10_sheet_55 rfl ?_
          refine ab_get (pc := 56) (k := 1) (x := vI (s0 1)) okX10 hW.obj (mg rfl ((hc2.sv 1 (by decide)).trans (hc1.sv 1 (by decide)))) w1056 rfl dX10_sheet_56 ?_
          refine ab_iload_n (pc := 59) dX10_sheet_59 rfl ?_
          refine ab_iastG (pc := 60) (n := 16) (f := F0 2) (hW.arr 2 rfl ((hc2.Fv 2 (by decide)).trans (hc1.Fv 2 (by decide)))) (by decide) (by omega) (by omega) dX10_sheet_60 (fun h e9 n9 => ?_)
          replace hW := hW.wr (k := 2) rfl e9 n9 (by decide)
          clear e9 n9
          refine ab_aload_n (pc := 61) dX10_sheet_61 rfl ?_
          refine ab_dup (pc := 62) dX10_sheet_62 rfl ?_
          refine ab_get (pc := 63) (k := 1) (x := vI (s0 1)) okX10 hW.obj (mg rfl ((hc2.sv 1 (by decide)).trans (hc1.sv 1 (by decide)))) w1056 rfl dX10_sheet_63 ?_
          refine ab_iconst (pc := 66) dX10_sheet_66 (by decide) ?_
          refine ab_iadd (pc := 67) dX10_sheet_67 (by omega) (by omega) ?_
          refine ab_putG (pc := 68) (k := 1) okX10 hW.obj (by decide) (by decide) trivial w1056 rfl (Or.inl rfl) dX10_sheet_68 (fun h e9 n9 => ?_)
          replace hW := hW.put e9 n9 rfl (by decide)
          clear e9 n9
          refine ab_aload_n (pc := 71) dX10_sheet_71 rfl ?_
          refine ab_get (pc := 72) (k := 1) (x := vI ((s0 1 + 1))) okX10 hW.obj (mg rfl rfl) w1056 rfl dX10_sheet_72 ?_
          refine ab_iconst (pc := 75) dX10_sheet_75 (by decide) ?_
          refine ab_isub (pc := 76) dX10_sheet_76 (by omega) (by omega) ?_
          refine ab_iret (pc := 77) dX10_sheet_77 rfl ?_
          exact ⟨_, _, _, rfl, hW, Or.inl ⟨by omega, by omega, by omega, by congr 2; omega, t2, rfl, rfl⟩⟩
        · refine ab_if_ne (pc := 46) 51 dX10_sheet_46 (by decide) (fun c46 => absurd c46 (by omega)) (fun c46 => ?_)
          refine ab_iconst (pc := 49) dX10_sheet_49 (by decide) ?_
          refine ab_iret (pc := 50) dX10_sheet_50 rfl ?_
          first
          | (exact ⟨_, _, _, rfl, hW, Or.inr (Or.inl ⟨by omega, rfl, by first | exact t2 | omega, ((hc2.sv 1 (by decide)).trans (hc1.sv 1 (by decide))), ((hc2.Fv 2 (by decide)).trans (hc1.Fv 2 (by decide)))⟩)⟩)
          | (exact ⟨_, _, _, rfl, hW, Or.inr (Or.inr ⟨by omega, by omega, by omega, rfl, t2, ((hc2.sv 1 (by decide)).trans (hc1.sv 1 (by decide))), ((hc2.Fv 2 (by decide)).trans (hc1.Fv 2 (by decide)))⟩)⟩)
      · refine ab_aload_n (pc := 28) dX10_sheet_28 rfl ?_
        refine ab_get (pc := 29) (k := 1) (x := vI (s0 1)) okX10 hW.obj (mg rfl (hc1.sv 1 (by decide))) w1056 rfl dX10_sheet_29 ?_
        refine ab_bipush (pc := 32) dX10_sheet_32 (by decide) ?_
        refine ab_icmp_ge (pc := 34) 41 dX10_sheet_34 (by decide) (fun c34 => ?_) (fun c34 => ?_)
        · refine ab_iconst (pc := 41) dX10_sheet_41 (by decide) ?_
          exact J42 (0) (by omega)
        · refine ab_iconst (pc := 37) dX10_sheet_37 (by decide) ?_
          refine ab_goto (pc := 38) 42 dX10_sheet_38 (by decide) ?_
          exact J42 (1) (by omega)
    · refine ab_if_eq (pc := 24) 49 dX10_sheet_24 (by decide) (fun c24 => ?_) (fun c24 => absurd c24 (by omega))
      refine ab_iconst (pc := 49) dX10_sheet_49 (by decide) ?_
      refine ab_iret (pc := 50) dX10_sheet_50 rfl ?_
      first
      | (exact ⟨_, _, _, rfl, hW, Or.inr (Or.inl ⟨by omega, rfl, by first | exact t1 | omega, (hc1.sv 1 (by decide)), (hc1.Fv 2 (by decide))⟩)⟩)
      | (exact ⟨_, _, _, rfl, hW, Or.inr (Or.inr ⟨by omega, by omega, by omega, rfl, t1, (hc1.sv 1 (by decide)), (hc1.Fv 2 (by decide))⟩)⟩)
  · refine ab_iload_n (pc := 6) dX10_sheet_6 rfl ?_
    refine ab_if_lt (pc := 7) 19 dX10_sheet_7 (by decide) (fun c7 => ?_) (fun c7 => ?_)
    · refine ab_iconst (pc := 19) dX10_sheet_19 (by decide) ?_
      exact J20 (0) (by omega)
    · refine ab_iload_n (pc := 10) dX10_sheet_10 rfl ?_
      refine ab_iconst (pc := 11) dX10_sheet_11 (by decide) ?_
      refine ab_icmp_gt (pc := 12) 19 dX10_sheet_12 (by decide) (fun c12 => ?_) (fun c12 => ?_)
      · refine ab_iconst (pc := 19) dX10_sheet_19 (by decide) ?_
        exact J20 (0) (by omega)
      · refine ab_iconst (pc := 15) dX10_sheet_15 (by decide) ?_
        refine ab_goto (pc := 16) 20 dX10_sheet_16 (by decide) ?_
        exact J20 (1) (by omega)
theorem m_row_48 {x k n : Int} {P : Option AbV → (Nat → Int) → (Nat → Int → Int) → Prop} (h1 : 0 ≤ x) (h2 : x < 16) (h3 : 0 ≤ k) (h4 : k < 10) (hP : ∀ s F, s 0 = 0 → F 3 = ab_f (F0 3) (10 * x + k) n → F 4 = fil (F0 4) (80 * (10 * x + k)) 80 (fun _ => 0) → P (some (vI n)) s F) (fu : Nat) : ∀ (i : Int) (h : AbH) (s : Nat → Int) (F : Nat → Int → Int), mW h0 m A s0 F0 [0] [3, 4] h s F → (80 - i).toNat < fu → (0 ≤ i) → (i ≤ 80) → (s 0 = 0) → (F 3 = ab_f (F0 3) (10 * x + k) n) → (F 4 = fil (F0 4) (80 * (10 * x + k)) i (fun _ => 0)) → ab_T l E Y_X10_row 5 0 0 48 [some (vR m), some (vI x), some (vI k), some (vI n), some (vI (10 * x + k)), some (vI i)] [] h (mC h0 m A s0 F0 [0] [3, 4] (fun r s' F' => P r s' F')) := by
  induction fu with
  | zero => intro i h s F hW hm; exact absurd hm (Nat.not_lt_zero _)
  | succ fu ih =>
    intro i h s F hW hm i0 i1 t0 f3 f4
    refine ab_iload (pc := 48) dX10_row_48 rfl ?_
    refine ab_bipush (pc := 50) dX10_row_50 (by decide) ?_
    refine ab_icmp_ge (pc := 52) 75 dX10_row_52 (by decide) (fun c52 => ?_) (fun c52 => ?_)
    · refine ab_iload_n (pc := 75) dX10_row_75 rfl ?_
      refine ab_iret (pc := 76) dX10_row_76 rfl ?_
      obtain rfl : i = 80 := by omega
      exact ⟨_, _, _, rfl, hW, hP _ _ t0 f3 f4⟩
    · refine ab_aload_n (pc := 55) dX10_row_55 rfl ?_
      refine ab_get (pc := 56) (k := 4) (x := vR (A 4)) okX10 hW.obj rfl w1059 rfl dX10_row_56 ?_
      refine ab_bipush (pc := 59) dX10_row_59 (by decide) ?_
      refine ab_iload (pc := 61) dX10_row_61 rfl ?_
      refine ab_imul (pc := 63) dX10_row_63 (by omega) (by omega) ?_
      refine ab_iload (pc := 64) dX10_row_64 rfl ?_
      refine ab_iadd (pc := 66) dX10_row_66 (by omega) (by omega) ?_
      refine ab_iconst (pc := 67) dX10_row_67 (by decide) ?_
      refine ab_iastG (pc := 68) (n := 12800) (f := fil (F0 4) (80 * (10 * x + k)) i (fun _ => 0)) (hW.arr 4 rfl f4) (by decide) (by omega) (by omega) dX10_row_68 (fun h e9 n9 => ?_)
      replace hW := hW.wr (k := 4) rfl e9 n9 (by decide)
      clear e9 n9
      refine ab_iinc (pc := 69) dX10_row_69 rfl rfl (by decide) (by omega) (by omega) ?_
      refine ab_goto (pc := 72) 48 dX10_row_72 (by decide) ?_
      exact ih (i + 1) _ _ _ hW (by omega) (by omega) (by omega) t0 f3 (fil_step i0 rfl)
theorem m_row (hG : ab_G l E) (hM : mR h0 m A s0 F0) {x k n : Int} (n1 : s0 1 ≤ 16) : ab_M l E Y_X10_row 6 5 0 0 [vR m, vI x, vI k, vI n] h0 (mC h0 m A s0 F0 [0] [3, 4] (fun r s' F' => (¬ (0 ≤ x ∧ x < s0 1 ∧ 0 ≤ k ∧ k < 10) ∧ r = some (vI 0) ∧ s' 0 = 1 ∧ F' 3 = F0 3 ∧ F' 4 = F0 4) ∨ (0 ≤ x ∧ x < s0 1 ∧ 0 ≤ k ∧ k < 10 ∧ s' 0 = 0 ∧ ((¬ (0 ≤ n ∧ n ≤ 80) ∧ r = some (vI (-1)) ∧ F' 3 = F0 3 ∧ F' 4 = F0 4) ∨ (0 ≤ n ∧ n ≤ 80 ∧ r = some (vI n) ∧ F' 3 = ab_f (F0 3) (10 * x + k) n ∧ F' 4 = fil (F0 4) (80 * (10 * x + k)) 80 (fun _ => 0)))))) := by
  refine ab_M.of (L0 := [some (vR m), some (vI x), some (vI k), some (vI n), none, none]) hG rfl rfl (Nat.le_of_ble_eq_true rfl) rfl ?_
  have hW : mW h0 m A s0 F0 [0] [3, 4] h0 s0 F0 := mW.start hM
  refine ab_aload_n (pc := 0) dX10_row_0 rfl ?_
  refine ab_iconst (pc := 1) dX10_row_1 (by decide) ?_
  refine ab_putG (pc := 2) (k := 0) okX10 hW.obj (by decide) (by decide) trivial w1055 rfl (Or.inl rfl) dX10_row_2 (fun h e9 n9 => ?_)
  replace hW := hW.put e9 n9 rfl (by decide)
  clear e9 n9
  refine ab_aload_n (pc := 5) dX10_row_5 rfl ?_
  refine ab_iload_n (pc := 6) dX10_row_6 rfl ?_
  refine ab_iload_n (pc := 7) dX10_row_7 rfl ?_
  refine ab_iconst (pc := 8) dX10_row_8 (by decide) ?_
  refine ab_callV (pc := 9) (m_isRow (n := s0 1) hG hW.1 rfl (by decide) (hW.sv 1 (by decide))) hW.obj rfl ⟨w1213, w5, w1216, by decide, pd51⟩ w1215 sp26 rfl (by decide) (by decide) (Nat.le_of_ble_eq_true rfl) rfl dX10_row_9 (fun _ _ hx => absurd hx mC_no) ?_
  rintro _ h ⟨_, s1, F1, e9, hc1, hp1⟩
  cases e9
  replace hW := hW.call hc1 (by decide) (by decide)
  rcases hp1 with ⟨a1, a2, a3, a4, rfl, t1⟩ | ⟨a1, rfl, t1⟩
  · refine ab_if_ne (pc := 12) 17 dX10_row_12 (by decide) (fun c12 => ?_) (fun c12 => absurd c12 (by omega))
    refine ab_iload_n (pc := 17) dX10_row_17 rfl ?_
    refine ab_if_lt (pc := 18) 27 dX10_row_18 (by decide) (fun c18 => ?_) (fun c18 => ?_)
    · refine ab_iconst (pc := 27) dX10_row_27 (by decide) ?_
      refine ab_iret (pc := 28) dX10_row_28 rfl ?_
      exact ⟨_, _, _, rfl, hW, Or.inr ⟨by omega, by omega, by omega, by omega, t1, Or.inl ⟨by omega, rfl, (hc1.Fv 3 (by decide)), (hc1.Fv 4 (by decide))⟩⟩⟩
    · refine ab_iload_n (pc := 21) dX10_row_21 rfl ?_
      refine ab_bipush (pc := 22) dX10_row_22 (by decide) ?_
      refine ab_icmp_le (pc := 24) 29 dX10_row_24 (by decide) (fun c24 => ?_) (fun c24 => ?_)
      · refine ab_bipush (pc := 29) dX10_row_29 (by decide) ?_
        refine ab_iload_n (pc := 31) dX10_row_31 rfl ?_
        refine ab_imul (pc := 32) dX10_row_32 (by omega) (by omega) ?_
        refine ab_iload_n (pc := 33) dX10_row_33 rfl ?_
        refine ab_iadd (pc := 34) dX10_row_34 (by omega) (by omega) ?_
        refine ab_istore (pc := 35) dX10_row_35 rfl (Nat.le_of_ble_eq_true rfl) ?_
        refine ab_aload_n (pc := 37) dX10_row_37 rfl ?_
        refine ab_get (pc := 38) (k := 3) (x := vR (A 3)) okX10 hW.obj rfl w1058 rfl dX10_row_38 ?_
        refine ab_iload (pc := 41) dX10_row_41 rfl ?_
        refine ab_iload_n (pc := 43) dX10_row_43 rfl ?_
        refine ab_iastG (pc := 44) (n := 160) (f := F0 3) (hW.arr 3 rfl (hc1.Fv 3 (by decide))) (by decide) (by omega) (by omega) dX10_row_44 (fun h e9 n9 => ?_)
        replace hW := hW.wr (k := 3) rfl e9 n9 (by decide)
        clear e9 n9
        refine ab_iconst (pc := 45) dX10_row_45 (by decide) ?_
        refine ab_istore (pc := 46) dX10_row_46 rfl (Nat.le_of_ble_eq_true rfl) ?_
        refine m_row_48 (by omega) (by omega) (by omega) (by omega) ?_ _ 0 _ _ _ hW (Nat.lt_succ_self _) (by omega) (by omega) t1 rfl ((hc1.Fv 4 (by decide)).trans fil0)
        intro s F e1 e2 e3
        exact Or.inr ⟨by omega, by omega, by omega, by omega, e1, Or.inr ⟨by omega, by omega, rfl, e2, e3⟩⟩
      · refine ab_iconst (pc := 27) dX10_row_27 (by decide) ?_
        refine ab_iret (pc := 28) dX10_row_28 rfl ?_
        exact ⟨_, _, _, rfl, hW, Or.inr ⟨by omega, by omega, by omega, by omega, t1, Or.inl ⟨by omega, rfl, (hc1.Fv 3 (by decide)), (hc1.Fv 4 (by decide))⟩⟩⟩
  · refine ab_if_ne (pc := 12) 17 dX10_row_12 (by decide) (fun c12 => absurd c12 (by omega)) (fun c12 => ?_)
    refine ab_iconst (pc := 15) dX10_row_15 (by decide) ?_
    refine ab_iret (pc := 16) dX10_row_16 rfl ?_
    exact ⟨_, _, _, rfl, hW, Or.inl ⟨by omega, rfl, t1, (hc1.Fv 3 (by decide)), (hc1.Fv 4 (by decide))⟩⟩
theorem m_tear (hG : ab_G l E) (hM : mR h0 m A s0 F0) {x k : Int} (n1 : s0 1 ≤ 16) : ab_M l E Y_X10_tear 4 5 0 0 [vR m, vI x, vI k] h0 (mC h0 m A s0 F0 [0] [3] (fun r s' F' => (¬ (0 ≤ x ∧ x < s0 1 ∧ 0 ≤ k ∧ k < 10) ∧ r = some (vI 0) ∧ s' 0 = 1 ∧ F' 3 = F0 3) ∨ (0 ≤ x ∧ x < s0 1 ∧ 0 ≤ k ∧ k < 10 ∧ s' 0 = 0 ∧ r = some (vI (F0 3 (10 * x + k))) ∧ F' 3 = ab_f (F0 3) (10 * x + k) (-1)))) := by
  refine ab_M.of (L0 := [some (vR m), some (vI x), some (vI k), none]) hG rfl rfl (Nat.le_of_ble_eq_true rfl) rfl ?_
  have hW : mW h0 m A s0 F0 [0] [3] h0 s0 F0 := mW.start hM
  refine ab_aload_n (pc := 0) dX10_tear_0 rfl ?_
  refine ab_iconst (pc := 1) dX10_tear_1 (by decide) ?_
  refine ab_putG (pc := 2) (k := 0) okX10 hW.obj (by decide) (by decide) trivial w1055 rfl (Or.inl rfl) dX10_tear_2 (fun h e9 n9 => ?_)
  replace hW := hW.put e9 n9 rfl (by decide)
  clear e9 n9
  refine ab_aload_n (pc := 5) dX10_tear_5 rfl ?_
  refine ab_iload_n (pc := 6) dX10_tear_6 rfl ?_
  refine ab_iload_n (pc := 7) dX10_tear_7 rfl ?_
  refine ab_iconst (pc := 8) dX10_tear_8 (by decide) ?_
  refine ab_callV (pc := 9) (m_isRow (n := s0 1) hG hW.1 rfl (by decide) (hW.sv 1 (by decide))) hW.obj rfl ⟨w1213, w5, w1216, by decide, pd51⟩ w1215 sp26 rfl (by decide) (by decide) (Nat.le_of_ble_eq_true rfl) rfl dX10_tear_9 (fun _ _ hx => absurd hx mC_no) ?_
  rintro _ h ⟨_, s1, F1, e9, hc1, hp1⟩
  cases e9
  replace hW := hW.call hc1 (by decide) (by decide)
  rcases hp1 with ⟨a1, a2, a3, a4, rfl, t1⟩ | ⟨a1, rfl, t1⟩
  · refine ab_if_ne (pc := 12) 17 dX10_tear_12 (by decide) (fun c12 => ?_) (fun c12 => absurd c12 (by omega))
    refine ab_aload_n (pc := 17) dX10_tear_17 rfl ?_
    refine ab_get (pc := 18) (k := 3) (x := vR (A 3)) okX10 hW.obj rfl w1058 rfl dX10_tear_18 ?_
    refine ab_bipush (pc := 21) dX10_tear_21 (by decide) ?_
    refine ab_iload_n (pc := 23) dX10_tear_23 rfl ?_
    refine ab_imul (pc := 24) dX10_tear_24 (by omega) (by omega) ?_
    refine ab_iload_n (pc := 25) dX10_tear_25 rfl ?_
    refine ab_iadd (pc := 26) dX10_tear_26 (by omega) (by omega) ?_
    refine ab_iald (pc := 27) (n := 160) (f := F0 3) (hW.arr 3 rfl (hc1.Fv 3 (by decide))) (by omega) (by omega) dX10_tear_27 ?_
    refine ab_istore_n (pc := 28) dX10_tear_28 rfl (Nat.le_of_ble_eq_true rfl) ?_
    refine ab_aload_n (pc := 29) dX10_tear_29 rfl ?_
    refine ab_get (pc := 30) (k := 3) (x := vR (A 3)) okX10 hW.obj rfl w1058 rfl dX10_tear_30 ?_
    refine ab_bipush (pc := 33) dX10_tear_33 (by decide) ?_
    refine ab_iload_n (pc := 35) dX10_tear_35 rfl ?_
    refine ab_imul (pc := 36) dX10_tear_36 (by omega) (by omega) ?_
    refine ab_iload_n (pc := 37) dX10_tear_37 rfl ?_
    refine ab_iadd (pc := 38) dX10_tear_38 (by omega) (by omega) ?_
    refine ab_iconst (pc := 39) dX10_tear_39 (by decide) ?_
    refine ab_iastG (pc := 40) (n := 160) (f := F0 3) (hW.arr 3 rfl (hc1.Fv 3 (by decide))) (by decide) (by omega) (by omega) dX10_tear_40 (fun h e9 n9 => ?_)
    replace hW := hW.wr (k := 3) rfl e9 n9 (by decide)
    clear e9 n9
    refine ab_iload_n (pc := 41) dX10_tear_41 rfl ?_
    refine ab_iret (pc := 42) dX10_tear_42 rfl ?_
    exact ⟨_, _, _, rfl, hW, Or.inr ⟨by omega, by omega, by omega, by omega, t1, rfl, rfl⟩⟩
  · refine ab_if_ne (pc := 12) 17 dX10_tear_12 (by decide) (fun c12 => absurd c12 (by omega)) (fun c12 => ?_)
    refine ab_iconst (pc := 15) dX10_tear_15 (by decide) ?_
    refine ab_iret (pc := 16) dX10_tear_16 rfl ?_
    exact ⟨_, _, _, rfl, hW, Or.inl ⟨by omega, rfl, t1, (hc1.Fv 3 (by decide))⟩⟩
def cutW (w v : Int) : Int := if w = 0 then ab_b8 v else if w = 1 then ab_b16 v else v
theorem m_put (hG : ab_G l E) (hM : mR h0 m A s0 F0) {x k i v9 : Int} (n1 : s0 1 ≤ 16) (b3 : ∀ j, 0 ≤ j → j < 160 → -1 ≤ F0 3 j ∧ F0 3 j ≤ 80) : ab_M l E Y_X10_put 6 5 0 0 [vR m, vI x, vI k, vI i, vI v9] h0 (mC h0 m A s0 F0 [0] [4] (fun r s' F' => (¬ (0 ≤ x ∧ x < s0 1 ∧ 0 ≤ k ∧ k < 10) ∧ r = some (vI 0) ∧ s' 0 = 1 ∧ F' 4 = F0 4) ∨ (0 ≤ x ∧ x < s0 1 ∧ 0 ≤ k ∧ k < 10 ∧ s' 0 = 0 ∧ ((F0 3 (10 * x + k) = -1 ∧ r = some (vI (-1)) ∧ F' 4 = F0 4) ∨ (F0 3 (10 * x + k) ≠ -1 ∧ ¬ (0 ≤ i ∧ i < F0 3 (10 * x + k)) ∧ r = some (vI (-2)) ∧ F' 4 = F0 4) ∨ (F0 3 (10 * x + k) ≠ -1 ∧ 0 ≤ i ∧ i < F0 3 (10 * x + k) ∧ r = some (vI 1) ∧ F' 4 = ab_f (F0 4) (80 * (10 * x + k) + i) (cutW (F0 2 x) v9)))))) := by
  refine ab_M.of (L0 := [some (vR m), some (vI x), some (vI k), some (vI i), some (vI v9), none]) hG rfl rfl (Nat.le_of_ble_eq_true rfl) rfl ?_
  have hW : mW h0 m A s0 F0 [0] [4] h0 s0 F0 := mW.start hM
  refine ab_aload_n (pc := 0) dX10_put_0 rfl ?_
  refine ab_iconst (pc := 1) dX10_put_1 (by decide) ?_
  refine ab_putG (pc := 2) (k := 0) okX10 hW.obj (by decide) (by decide) trivial w1055 rfl (Or.inl rfl) dX10_put_2 (fun h e9 n9 => ?_)
  replace hW := hW.put e9 n9 rfl (by decide)
  clear e9 n9
  refine ab_aload_n (pc := 5) dX10_put_5 rfl ?_
  refine ab_iload_n (pc := 6) dX10_put_6 rfl ?_
  refine ab_iload_n (pc := 7) dX10_put_7 rfl ?_
  refine ab_iconst (pc := 8) dX10_put_8 (by decide) ?_
  refine ab_callV (pc := 9) (m_isRow (n := s0 1) hG hW.1 rfl (by decide) (hW.sv 1 (by decide))) hW.obj rfl ⟨w1213, w5, w1216, by decide, pd51⟩ w1215 sp26 rfl (by decide) (by decide) (Nat.le_of_ble_eq_true rfl) rfl dX10_put_9 (fun _ _ hx => absurd hx mC_no) ?_
  rintro _ h ⟨_, s1, F1, e9, hc1, hp1⟩
  cases e9
  replace hW := hW.call hc1 (by decide) (by decide)
  rcases hp1 with ⟨a1, a2, a3, a4, rfl, t1⟩ | ⟨a1, rfl, t1⟩
  · refine ab_if_ne (pc := 12) 17 dX10_put_12 (by decide) (fun c12 => ?_) (fun c12 => absurd c12 (by omega))
    refine ab_bipush (pc := 17) dX10_put_17 (by decide) ?_
    refine ab_iload_n (pc := 19) dX10_put_19 rfl ?_
    refine ab_imul (pc := 20) dX10_put_20 (by omega) (by omega) ?_
    refine ab_iload_n (pc := 21) dX10_put_21 rfl ?_
    refine ab_iadd (pc := 22) dX10_put_22 (by omega) (by omega) ?_
    refine ab_istore (pc := 23) dX10_put_23 rfl (Nat.le_of_ble_eq_true rfl) ?_
    refine ab_aload_n (pc := 25) dX10_put_25 rfl ?_
    refine ab_get (pc := 26) (k := 3) (x := vR (A 3)) okX10 hW.obj rfl w1058 rfl dX10_put_26 ?_
    have b31 := b3 (10 * x + k) (by omega) (by omega)
    refine ab_iload (pc := 29) dX10_put_29 rfl ?_
    refine ab_iald (pc := 31) (n := 160) (f := F0 3) (hW.arr 3 rfl (hW.Fv 3 (by decide))) (by omega) (by omega) dX10_put_31 ?_
    refine ab_iconst (pc := 32) dX10_put_32 (by decide) ?_
    refine ab_icmp_ne (pc := 33) 38 dX10_put_33 (by decide) (fun c33 => ?_) (fun c33 => ?_)
    · refine ab_iload_n (pc := 38) dX10_put_38 rfl ?_
      refine ab_if_lt (pc := 39) 53 dX10_put_39 (by decide) (fun c39 => ?_) (fun c39 => ?_)
      · refine ab_bipush (pc := 53) dX10_put_53 (by decide) ?_
        refine ab_iret (pc := 55) dX10_put_55 rfl ?_
        exact ⟨_, _, _, rfl, hW, Or.inr ⟨by omega, by omega, by omega, by omega, t1, Or.inr (Or.inl ⟨by omega, by omega, rfl, (hc1.Fv 4 (by decide))⟩)⟩⟩
      · refine ab_iload_n (pc := 42) dX10_put_42 rfl ?_
        refine ab_aload_n (pc := 43) dX10_put_43 rfl ?_
        refine ab_get (pc := 44) (k := 3) (x := vR (A 3)) okX10 hW.obj rfl w1058 rfl dX10_put_44 ?_
        refine ab_iload (pc := 47) dX10_put_47 rfl ?_
        refine ab_iald (pc := 49) (n := 160) (f := F0 3) (hW.arr 3 rfl (hW.Fv 3 (by decide))) (by omega) (by omega) dX10_put_49 ?_
        refine ab_icmp_lt (pc := 50) 56 dX10_put_50 (by decide) (fun c50 => ?_) (fun c50 => ?_)
        · refine ab_aload_n (pc := 56) dX10_put_56 rfl ?_
          refine ab_get (pc := 57) (k := 4) (x := vR (A 4)) okX10 hW.obj rfl w1059 rfl dX10_put_57 ?_
          refine ab_bipush (pc := 60) dX10_put_60 (by decide) ?_
          refine ab_iload (pc := 62) dX10_put_62 rfl ?_
          refine ab_imul (pc := 64) dX10_put_64 (by omega) (by omega) ?_
          refine ab_iload_n (pc := 65) dX10_put_65 rfl ?_
          refine ab_iadd (pc := 66) dX10_put_66 (by omega) (by omega) ?_
          refine ab_via (S := [vI (((80 * ((10 * x) + k)) + i)), vR (A 4)]) 100 (fun v : Int => v = cutW (F0 2 x) v9) (fun v hv => ?_) (fun J100 => ?_)
          · refine ab_iastG (pc := 100) (n := 12800) (f := F0 4) (hW.arr 4 rfl (hc1.Fv 4 (by decide))) (by decide) (by omega) (by omega) dX10_put_100 (fun h e9 n9 => ?_)
            replace hW := hW.wr (k := 4) rfl e9 n9 (by decide)
            clear e9 n9
            refine ab_iconst (pc := 101) dX10_put_101 (by decide) ?_
            refine ab_iret (pc := 102) dX10_put_102 rfl ?_
            exact ⟨_, _, _, rfl, hW, Or.inr ⟨by omega, by omega, by omega, by omega, t1, Or.inr (Or.inr ⟨by omega, by omega, by omega, rfl, by rw [← hv]; rfl⟩)⟩⟩
          · refine ab_aload_n (pc := 67) dX10_put_67 rfl ?_
            refine ab_get (pc := 68) (k := 2) (x := vR (A 2)) okX10 hW.obj rfl w1057 rfl dX10_put_68 ?_
            refine ab_iload_n (pc := 71) dX10_put_71 rfl ?_
            refine ab_iald (pc := 72) (n := 16) (f := F0 2) (hW.arr 2 rfl (hW.Fv 2 (by decide))) (by omega) (by omega) dX10_put_72 ?_
            refine ab_if_ne (pc := 73) 82 dX10_put_73 (by decide) (fun c73 => ?_) (fun c73 => ?_)
            · refine ab_aload_n (pc := 82) dX10_put_82 rfl ?_
              refine ab_get (pc := 83) (k := 2) (x := vR (A 2)) okX10 hW.obj rfl w1057 rfl dX10_put_83 ?_
              refine ab_iload_n (pc := 86) dX10_put_86 rfl ?_
              refine ab_iald (pc := 87) (n := 16) (f := F0 2) (hW.arr 2 rfl (hW.Fv 2 (by decide))) (by omega) (by omega) dX10_put_87 ?_
              refine ab_iconst (pc := 88) dX10_put_88 (by decide) ?_
              refine ab_icmp_ne (pc := 89) 98 dX10_put_89 (by decide) (fun c89 => ?_) (fun c89 => ?_)
              · refine ab_iload (pc := 98) dX10_put_98 rfl ?_
                refine J100 _ ?_
                simp [cutW, *]
              · refine ab_iload (pc := 92) dX10_put_92 rfl ?_
                refine ab_i2s (pc := 94) dX10_put_94 ?_
                refine ab_goto (pc := 95) 100 dX10_put_95 (by decide) ?_
                refine J100 _ ?_
                simp [cutW, *]
            · refine ab_iload (pc := 76) dX10_put_76 rfl ?_
              refine ab_i2b (pc := 78) dX10_put_78 ?_
              refine ab_goto (pc := 79) 100 dX10_put_79 (by decide) ?_
              refine J100 _ ?_
              simp [cutW, *]
        · refine ab_bipush (pc := 53) dX10_put_53 (by decide) ?_
          refine ab_iret (pc := 55) dX10_put_55 rfl ?_
          exact ⟨_, _, _, rfl, hW, Or.inr ⟨by omega, by omega, by omega, by omega, t1, Or.inr (Or.inl ⟨by omega, by omega, rfl, (hc1.Fv 4 (by decide))⟩)⟩⟩
    · refine ab_iconst (pc := 36) dX10_put_36 (by decide) ?_
      refine ab_iret (pc := 37) dX10_put_37 rfl ?_
      exact ⟨_, _, _, rfl, hW, Or.inr ⟨by omega, by omega, by omega, by omega, t1, Or.inl ⟨by omega, rfl, (hc1.Fv 4 (by decide))⟩⟩⟩
  · refine ab_if_ne (pc := 12) 17 dX10_put_12 (by decide) (fun c12 => absurd c12 (by omega)) (fun c12 => ?_)
    refine ab_iconst (pc := 15) dX10_put_15 (by decide) ?_
    refine ab_iret (pc := 16) dX10_put_16 rfl ?_
    exact ⟨_, _, _, rfl, hW, Or.inl ⟨by omega, rfl, t1, (hc1.Fv 4 (by decide))⟩⟩
theorem m_reads_49 {x k n : Int} (h1 : 0 ≤ x) (h2 : x < 16) (h3 : 0 ≤ k) (h4 : k < 10) (hn : 0 ≤ n) (hz : n = F0 3 (10 * x + k) ∨ (n = 0 ∧ F0 3 (10 * x + k) = -1)) (hn8 : n ≤ 80) (fu : Nat) : ∀ (i : Int) (h : AbH) (s : Nat → Int) (F : Nat → Int → Int), mW h0 m A s0 F0 [6] [5] h s F → (80 - i).toNat < fu → (0 ≤ i) → (i ≤ n) → ((n ≤ 60 ∧ s 6 = n ∧ (∀ j : Int, 0 ≤ j → j < i → F 5 j = rdL F0 x k j) ∧ (∀ j : Int, 0 ≤ j → j < i → 0 ≤ F 5 j ∧ F 5 j ≤ 7)) ∨ (s 6 = -1 ∧ isRd F0 x k (-1))) → ab_T l E Y_X10_reads 0 0 0 49 [some (vR m), some (vI x), some (vI k), some (vI (10 * x + k)), some (vI n), some (vI i)] [] h (mC h0 m A s0 F0 [6] [5] (fun r s' F' => (r = some (vI 1) ∧ isRd F0 x k (s' 6) ∧ 0 ≤ s' 6 ∧ s' 6 ≤ 60 ∧ (∀ j : Int, 0 ≤ j → j < s' 6 → F' 5 j = rdL F0 x k j) ∧ (∀ j : Int, 0 ≤ j → j < s' 6 → 0 ≤ F' 5 j ∧ F' 5 j ≤ 7)) ∨ (r = some (vI 0) ∧ isRd F0 x k (-1) ∧ s' 6 = -1))) := by
  induction fu with
  | zero => intro i h s F hW hm; exact absurd hm (Nat.not_lt_zero _)
  | succ fu ih =>
    intro i h s F hW hm i0 i1 I
    rcases I with I | I
    · obtain ⟨I1, I2, I3, I4⟩ := I
      refine ab_iload (pc := 49) dX10_reads_49 rfl ?_
      refine ab_iload (pc := 51) dX10_reads_51 rfl ?_
      refine ab_icmp_ge (pc := 53) 116 dX10_reads_53 (by decide) (fun c53 => ?_) (fun c53 => ?_)
      · refine ab_aload_n (pc := 116) dX10_reads_116 rfl ?_
        refine ab_get (pc := 117) (k := 6) (x := vI (n)) okX10 hW.obj (mg rfl I2) w1061 rfl dX10_reads_117 ?_
        refine ab_iconst (pc := 120) dX10_reads_120 (by decide) ?_
        refine ab_icmp_eq (pc := 121) 128 dX10_reads_121 (by decide) (fun c121 => absurd c121 (by omega)) (fun c121 => ?_)
        refine ab_iconst (pc := 124) dX10_reads_124 (by decide) ?_
        refine ab_goto (pc := 125) 129 dX10_reads_125 (by decide) ?_
        refine ab_zret (pc := 129) dX10_reads_129 rfl (by omega) ?_
        first
        | (exact ⟨_, _, _, rfl, hW, Or.inr ⟨rfl, I2, I1⟩⟩)
        | (exact ⟨_, _, _, rfl, hW, Or.inl ⟨rfl, Or.inr ⟨by omega, by omega, by omega, fun j j0 j1 => by rw [← I3 j j0 (by omega)]; exact I4 j j0 (by omega)⟩, by omega, by omega, fun j j0 j1 => I3 j j0 (by omega), fun j j0 j1 => I4 j j0 (by omega)⟩⟩)
      · refine ab_aload_n (pc := 56) dX10_reads_56 rfl ?_
        refine ab_get (pc := 57) (k := 6) (x := vI (n)) okX10 hW.obj (mg rfl I2) w1061 rfl dX10_reads_57 ?_
        refine ab_iconst (pc := 60) dX10_reads_60 (by decide) ?_
        refine ab_icmp_eq (pc := 61) 116 dX10_reads_61 (by decide) (fun c61 => absurd c61 (by omega)) (fun c61 => ?_)
        refine ab_aload_n (pc := 64) dX10_reads_64 rfl ?_
        refine ab_get (pc := 65) (k := 5) (x := vR (A 5)) okX10 hW.obj rfl w1060 rfl dX10_reads_65 ?_
        refine ab_iload (pc := 68) dX10_reads_68 rfl ?_
        refine ab_aload_n (pc := 70) dX10_reads_70 rfl ?_
        refine ab_get (pc := 71) (k := 4) (x := vR (A 4)) okX10 hW.obj rfl w1059 rfl dX10_reads_71 ?_
        refine ab_bipush (pc := 74) dX10_reads_74 (by decide) ?_
        refine ab_iload_n (pc := 76) dX10_reads_76 rfl ?_
        refine ab_imul (pc := 77) dX10_reads_77 (by omega) (by omega) ?_
        refine ab_iload (pc := 78) dX10_reads_78 rfl ?_
        refine ab_iadd (pc := 80) dX10_reads_80 (by omega) (by omega) ?_
        refine ab_iald (pc := 81) (n := 12800) (f := F0 4) (hW.arr 4 rfl (hW.Fv 4 (by decide))) (by omega) (by omega) dX10_reads_81 ?_
        refine ab_iastG (pc := 82) (n := 80) (f := F 5) (hW.arr 5 rfl rfl) (by decide) (by omega) (by omega) dX10_reads_82 (fun h e9 n9 => ?_)
        replace hW := hW.wr (k := 5) rfl e9 n9 (by decide)
        clear e9 n9
        refine ab_aload_n (pc := 83) dX10_reads_83 rfl ?_
        refine ab_get (pc := 84) (k := 5) (x := vR (A 5)) okX10 hW.obj rfl w1060 rfl dX10_reads_84 ?_
        refine ab_iload (pc := 87) dX10_reads_87 rfl ?_
        refine ab_iald (pc := 89) (n := 80) (f := ab_f (F 5) (i) (F0 4 (((80 * (10 * x + k)) + i)))) (hW.arr 5 rfl rfl) (by omega) (by omega) dX10_reads_89 ?_
        refine ab_if_lt (pc := 90) 105 dX10_reads_90 (by decide) (fun c90 => ?_) (fun c90 => ?_)
        · rw [ab_f_eq rfl] at c90
          refine ab_aload_n (pc := 105) dX10_reads_105 rfl ?_
          refine ab_iconst (pc := 106) dX10_reads_106 (by decide) ?_
          refine ab_putG (pc := 107) (k := 6) okX10 hW.obj (by decide) (by decide) trivial w1061 rfl (Or.inl rfl) dX10_reads_107 (fun h e9 n9 => ?_)
          replace hW := hW.put e9 n9 rfl (by decide)
          clear e9 n9
          refine ab_iinc (pc := 110) dX10_reads_110 rfl rfl (by decide) (by omega) (by omega) ?_
          refine ab_goto (pc := 113) 49 dX10_reads_113 (by decide) ?_
          first
          | exact ih (i + 1) _ _ _ hW (by omega) (by omega) (by omega) (Or.inl ⟨I1, I2, upto_E I3 rfl, upto_P (R := fun _ z => 0 ≤ z ∧ z ≤ 7) I4 ⟨by omega, by omega⟩⟩)
          | exact ih (i + 1) _ _ _ hW (by omega) (by omega) (by omega) (Or.inr ⟨rfl, Or.inl ⟨rfl, Or.inr ⟨i, i0, by omega, by show ¬ (0 ≤ F0 4 _ ∧ F0 4 _ ≤ 7); omega⟩⟩⟩)
        · rw [ab_f_eq rfl] at c90
          refine ab_aload_n (pc := 93) dX10_reads_93 rfl ?_
          refine ab_get (pc := 94) (k := 5) (x := vR (A 5)) okX10 hW.obj rfl w1060 rfl dX10_reads_94 ?_
          refine ab_iload (pc := 97) dX10_reads_97 rfl ?_
          refine ab_iald (pc := 99) (n := 80) (f := ab_f (F 5) (i) (F0 4 (((80 * (10 * x + k)) + i)))) (hW.arr 5 rfl rfl) (by omega) (by omega) dX10_reads_99 ?_
          refine ab_bipush (pc := 100) dX10_reads_100 (by decide) ?_
          refine ab_icmp_le (pc := 102) 110 dX10_reads_102 (by decide) (fun c102 => ?_) (fun c102 => ?_)
          · rw [ab_f_eq rfl] at c102
            refine ab_iinc (pc := 110) dX10_reads_110 rfl rfl (by decide) (by omega) (by omega) ?_
            refine ab_goto (pc := 113) 49 dX10_reads_113 (by decide) ?_
            first
            | exact ih (i + 1) _ _ _ hW (by omega) (by omega) (by omega) (Or.inl ⟨I1, I2, upto_E I3 rfl, upto_P (R := fun _ z => 0 ≤ z ∧ z ≤ 7) I4 ⟨by omega, by omega⟩⟩)
            | exact ih (i + 1) _ _ _ hW (by omega) (by omega) (by omega) (Or.inr ⟨rfl, Or.inl ⟨rfl, Or.inr ⟨i, i0, by omega, by show ¬ (0 ≤ F0 4 _ ∧ F0 4 _ ≤ 7); omega⟩⟩⟩)
          · rw [ab_f_eq rfl] at c102
            refine ab_aload_n (pc := 105) dX10_reads_105 rfl ?_
            refine ab_iconst (pc := 106) dX10_reads_106 (by decide) ?_
            refine ab_putG (pc := 107) (k := 6) okX10 hW.obj (by decide) (by decide) trivial w1061 rfl (Or.inl rfl) dX10_reads_107 (fun h e9 n9 => ?_)
            replace hW := hW.put e9 n9 rfl (by decide)
            clear e9 n9
            refine ab_iinc (pc := 110) dX10_reads_110 rfl rfl (by decide) (by omega) (by omega) ?_
            refine ab_goto (pc := 113) 49 dX10_reads_113 (by decide) ?_
            first
            | exact ih (i + 1) _ _ _ hW (by omega) (by omega) (by omega) (Or.inl ⟨I1, I2, upto_E I3 rfl, upto_P (R := fun _ z => 0 ≤ z ∧ z ≤ 7) I4 ⟨by omega, by omega⟩⟩)
            | exact ih (i + 1) _ _ _ hW (by omega) (by omega) (by omega) (Or.inr ⟨rfl, Or.inl ⟨rfl, Or.inr ⟨i, i0, by omega, by show ¬ (0 ≤ F0 4 _ ∧ F0 4 _ ≤ 7); omega⟩⟩⟩)
    · obtain ⟨I1, I2⟩ := I
      refine ab_iload (pc := 49) dX10_reads_49 rfl ?_
      refine ab_iload (pc := 51) dX10_reads_51 rfl ?_
      refine ab_icmp_ge (pc := 53) 116 dX10_reads_53 (by decide) (fun c53 => ?_) (fun c53 => ?_)
      · refine ab_aload_n (pc := 116) dX10_reads_116 rfl ?_
        refine ab_get (pc := 117) (k := 6) (x := vI ((-1))) okX10 hW.obj (mg rfl I1) w1061 rfl dX10_reads_117 ?_
        refine ab_iconst (pc := 120) dX10_reads_120 (by decide) ?_
        refine ab_icmp_eq (pc := 121) 128 dX10_reads_121 (by decide) (fun c121 => ?_) (fun c121 => absurd c121 (by omega))
        refine ab_iconst (pc := 128) dX10_reads_128 (by decide) ?_
        refine ab_zret (pc := 129) dX10_reads_129 rfl (by omega) ?_
        first
        | (exact ⟨_, _, _, rfl, hW, Or.inr ⟨rfl, I2, I1⟩⟩)
        | (exact ⟨_, _, _, rfl, hW, Or.inl ⟨rfl, Or.inr ⟨by omega, by omega, by omega, fun j j0 j1 => by rw [← I3 j j0 (by omega)]; exact I4 j j0 (by omega)⟩, by omega, by omega, fun j j0 j1 => I3 j j0 (by omega), fun j j0 j1 => I4 j j0 (by omega)⟩⟩)
      · refine ab_aload_n (pc := 56) dX10_reads_56 rfl ?_
        refine ab_get (pc := 57) (k := 6) (x := vI ((-1))) okX10 hW.obj (mg rfl I1) w1061 rfl dX10_reads_57 ?_
        refine ab_iconst (pc := 60) dX10_reads_60 (by decide) ?_
        refine ab_icmp_eq (pc := 61) 116 dX10_reads_61 (by decide) (fun c61 => ?_) (fun c61 => absurd c61 (by omega))
        refine ab_aload_n (pc := 116) dX10_reads_116 rfl ?_
        refine ab_get (pc := 117) (k := 6) (x := vI ((-1))) okX10 hW.obj (mg rfl I1) w1061 rfl dX10_reads_117 ?_
        refine ab_iconst (pc := 120) dX10_reads_120 (by decide) ?_
        refine ab_icmp_eq (pc := 121) 128 dX10_reads_121 (by decide) (fun c121 => ?_) (fun c121 => absurd c121 (by omega))
        refine ab_iconst (pc := 128) dX10_reads_128 (by decide) ?_
        refine ab_zret (pc := 129) dX10_reads_129 rfl (by omega) ?_
        first
        | (exact ⟨_, _, _, rfl, hW, Or.inr ⟨rfl, I2, I1⟩⟩)
        | (exact ⟨_, _, _, rfl, hW, Or.inl ⟨rfl, Or.inr ⟨by omega, by omega, by omega, fun j j0 j1 => by rw [← I3 j j0 (by omega)]; exact I4 j j0 (by omega)⟩, by omega, by omega, fun j j0 j1 => I3 j j0 (by omega), fun j j0 j1 => I4 j j0 (by omega)⟩⟩)
theorem m_reads (hG : ab_G l E) (hM : mR h0 m A s0 F0) {x k : Int} (h1 : 0 ≤ x) (h2 : x < 16) (h3 : 0 ≤ k) (h4 : k < 10) (b3 : ∀ j, 0 ≤ j → j < 160 → -1 ≤ F0 3 j ∧ F0 3 j ≤ 80) : ab_M l E Y_X10_reads 6 0 0 0 [vR m, vI x, vI k] h0 (mC h0 m A s0 F0 [6] [5] (fun r s' F' => (r = some (vI 1) ∧ isRd F0 x k (s' 6) ∧ 0 ≤ s' 6 ∧ s' 6 ≤ 60 ∧ (∀ j : Int, 0 ≤ j → j < s' 6 → F' 5 j = rdL F0 x k j) ∧ (∀ j : Int, 0 ≤ j → j < s' 6 → 0 ≤ F' 5 j ∧ F' 5 j ≤ 7)) ∨ (r = some (vI 0) ∧ isRd F0 x k (-1) ∧ s' 6 = -1))) := by
  refine ab_M.of (L0 := [some (vR m), some (vI x), some (vI k), none, none, none]) hG rfl rfl (Nat.le_of_ble_eq_true rfl) rfl ?_
  have hW : mW h0 m A s0 F0 [6] [5] h0 s0 F0 := mW.start hM
  have b31 := b3 (10 * x + k) (by omega) (by omega)
  refine ab_bipush (pc := 0) dX10_reads_0 (by decide) ?_
  refine ab_iload_n (pc := 2) dX10_reads_2 rfl ?_
  refine ab_imul (pc := 3) dX10_reads_3 (by omega) (by omega) ?_
  refine ab_iload_n (pc := 4) dX10_reads_4 rfl ?_
  refine ab_iadd (pc := 5) dX10_reads_5 (by omega) (by omega) ?_
  refine ab_istore_n (pc := 6) dX10_reads_6 rfl (Nat.le_of_ble_eq_true rfl) ?_
  refine ab_via (S := []) 27 (fun v : Int => 0 ≤ v ∧ (v = F0 3 (10 * x + k) ∨ (v = 0 ∧ F0 3 (10 * x + k) = -1))) (fun v hv => ?_) (fun J27 => ?_)
  · refine ab_istore (pc := 27) dX10_reads_27 rfl (Nat.le_of_ble_eq_true rfl) ?_
    refine ab_aload_n (pc := 29) dX10_reads_29 rfl ?_
    refine ab_iload (pc := 30) dX10_reads_30 rfl ?_
    refine ab_bipush (pc := 32) dX10_reads_32 (by decide) ?_
    refine ab_icmp_le (pc := 34) 41 dX10_reads_34 (by decide) (fun c34 => ?_) (fun c34 => ?_)
    · refine ab_iload (pc := 41) dX10_reads_41 rfl ?_
      refine ab_putG (pc := 43) (k := 6) okX10 hW.obj (by decide) (by decide) trivial w1061 rfl (Or.inl rfl) dX10_reads_43 (fun h e9 n9 => ?_)
      replace hW := hW.put e9 n9 rfl (by decide)
      clear e9 n9
      refine ab_iconst (pc := 46) dX10_reads_46 (by decide) ?_
      refine ab_istore (pc := 47) dX10_reads_47 rfl (Nat.le_of_ble_eq_true rfl) ?_
      first
      | exact m_reads_49 h1 h2 h3 h4 (by omega) (by omega) (by omega) _ 0 _ _ _ hW (Nat.lt_succ_self _) (by omega) (by omega) (Or.inr ⟨rfl, Or.inl ⟨rfl, Or.inl (by omega)⟩⟩)
      | exact m_reads_49 h1 h2 h3 h4 (by omega) (by omega) (by omega) _ 0 _ _ _ hW (Nat.lt_succ_self _) (by omega) (by omega) (Or.inl ⟨by omega, rfl, fun j j0 j1 => absurd j1 (by omega), fun j j0 j1 => absurd j1 (by omega)⟩)
    · refine ab_iconst (pc := 37) dX10_reads_37 (by decide) ?_
      refine ab_goto (pc := 38) 43 dX10_reads_38 (by decide) ?_
      refine ab_putG (pc := 43) (k := 6) okX10 hW.obj (by decide) (by decide) trivial w1061 rfl (Or.inl rfl) dX10_reads_43 (fun h e9 n9 => ?_)
      replace hW := hW.put e9 n9 rfl (by decide)
      clear e9 n9
      refine ab_iconst (pc := 46) dX10_reads_46 (by decide) ?_
      refine ab_istore (pc := 47) dX10_reads_47 rfl (Nat.le_of_ble_eq_true rfl) ?_
      first
      | exact m_reads_49 h1 h2 h3 h4 (by omega) (by omega) (by omega) _ 0 _ _ _ hW (Nat.lt_succ_self _) (by omega) (by omega) (Or.inr ⟨rfl, Or.inl ⟨rfl, Or.inl (by omega)⟩⟩)
      | exact m_reads_49 h1 h2 h3 h4 (by omega) (by omega) (by omega) _ 0 _ _ _ hW (Nat.lt_succ_self _) (by omega) (by omega) (Or.inl ⟨by omega, rfl, fun j j0 j1 => absurd j1 (by omega), fun j j0 j1 => absurd j1 (by omega)⟩)
  · refine ab_aload_n (pc := 7) dX10_reads_7 rfl ?_
    refine ab_get (pc := 8) (k := 3) (x := vR (A 3)) okX10 hW.obj rfl w1058 rfl dX10_reads_8 ?_
    refine ab_iload_n (pc := 11) dX10_reads_11 rfl ?_
    refine ab_iald (pc := 12) (n := 160) (f := F0 3) (hW.arr 3 rfl (hW.Fv 3 (by decide))) (by omega) (by omega) dX10_reads_12 ?_
    refine ab_iconst (pc := 13) dX10_reads_13 (by decide) ?_
    refine ab_icmp_ne (pc := 14) 21 dX10_reads_14 (by decide) (fun c14 => ?_) (fun c14 => ?_)
    · refine ab_aload_n (pc := 21) dX10_reads_21 rfl ?_
      refine ab_get (pc := 22) (k := 3) (x := vR (A 3)) okX10 hW.obj rfl w1058 rfl dX10_reads_22 ?_
      refine ab_iload_n (pc := 25) dX10_reads_25 rfl ?_
      refine ab_iald (pc := 26) (n := 160) (f := F0 3) (hW.arr 3 rfl (hW.Fv 3 (by decide))) (by omega) (by omega) dX10_reads_26 ?_
      exact J27 (F0 3 (((10 * x) + k))) (by omega)
    · refine ab_iconst (pc := 17) dX10_reads_17 (by decide) ?_
      refine ab_goto (pc := 18) 27 dX10_reads_18 (by decide) ?_
      exact J27 (0) (by omega)
theorem m_readsG (hG : ab_G l E) (hM : mR h0 m A s0 F0) {G : Nat → Int → Int} {x k : Int} (e3 : F0 3 = G 3) (e4 : F0 4 = G 4) (h1 : 0 ≤ x) (h2 : x < 16) (h3 : 0 ≤ k) (h4 : k < 10) (b3 : ∀ j, 0 ≤ j → j < 160 → -1 ≤ G 3 j ∧ G 3 j ≤ 80) : ab_M l E Y_X10_reads 6 0 0 0 [vR m, vI x, vI k] h0 (mC h0 m A s0 F0 [6] [5] (fun r s' F' => (r = some (vI 1) ∧ isRd G x k (s' 6) ∧ 0 ≤ s' 6 ∧ s' 6 ≤ 60 ∧ (∀ j : Int, 0 ≤ j → j < s' 6 → F' 5 j = rdL G x k j) ∧ (∀ j : Int, 0 ≤ j → j < s' 6 → 0 ≤ F' 5 j ∧ F' 5 j ≤ 7)) ∨ (r = some (vI 0) ∧ isRd G x k (-1) ∧ s' 6 = -1))) := by
  have q := m_reads hG hM h1 h2 h3 h4 (by rw [e3]; exact b3)
  rw [show isRd F0 = isRd G by unfold isRd rdL; rw [e3, e4], show rdL F0 = rdL G by unfold rdL; rw [e4]] at q
  exact q
theorem m_word (hG : ab_G l E) (hM : mR h0 m A s0 F0) {x k : Int} (n1 : s0 1 ≤ 16) (b3 : ∀ j, 0 ≤ j → j < 160 → -1 ≤ F0 3 j ∧ F0 3 j ≤ 80) : ab_M l E Y_X10_word 3 5 0 0 [vR m, vI x, vI k] h0 (mC h0 m A s0 F0 [0, 6] [5] (fun r s' F' => (¬ (0 ≤ x ∧ x < s0 1 ∧ 0 ≤ k ∧ k < 10) ∧ r = some (vI 0) ∧ s' 0 = 1) ∨ (0 ≤ x ∧ x < s0 1 ∧ 0 ≤ k ∧ k < 10 ∧ s' 0 = 0 ∧ ∃ n : Int, r = some (vI n) ∧ isRd F0 x k n))) := by
  refine ab_M.of (L0 := [some (vR m), some (vI x), some (vI k)]) hG rfl rfl (Nat.le_of_ble_eq_true rfl) rfl ?_
  have hW : mW h0 m A s0 F0 [0, 6] [5] h0 s0 F0 := mW.start hM
  refine ab_aload_n (pc := 0) dX10_word_0 rfl ?_
  refine ab_iconst (pc := 1) dX10_word_1 (by decide) ?_
  refine ab_putG (pc := 2) (k := 0) okX10 hW.obj (by decide) (by decide) trivial w1055 rfl (Or.inl rfl) dX10_word_2 (fun h e9 n9 => ?_)
  replace hW := hW.put e9 n9 rfl (by decide)
  clear e9 n9
  refine ab_aload_n (pc := 5) dX10_word_5 rfl ?_
  refine ab_iload_n (pc := 6) dX10_word_6 rfl ?_
  refine ab_iload_n (pc := 7) dX10_word_7 rfl ?_
  refine ab_iconst (pc := 8) dX10_word_8 (by decide) ?_
  refine ab_callV (pc := 9) (m_isRow (n := s0 1) hG hW.1 rfl (by decide) (hW.sv 1 (by decide))) hW.obj rfl ⟨w1213, w5, w1216, by decide, pd51⟩ w1215 sp26 rfl (by decide) (by decide) (Nat.le_of_ble_eq_true rfl) rfl dX10_word_9 (fun _ _ hx => absurd hx mC_no) ?_
  rintro _ h ⟨_, s1, F1, e9, hc1, hp1⟩
  cases e9
  replace hW := hW.call hc1 (by decide) (by decide)
  rcases hp1 with ⟨a1, a2, a3, a4, rfl, t1⟩ | ⟨a1, rfl, t1⟩
  · refine ab_if_ne (pc := 12) 17 dX10_word_12 (by decide) (fun c12 => ?_) (fun c12 => absurd c12 (by omega))
    refine ab_aload_n (pc := 17) dX10_word_17 rfl ?_
    refine ab_iload_n (pc := 18) dX10_word_18 rfl ?_
    refine ab_iload_n (pc := 19) dX10_word_19 rfl ?_
    refine ab_callV (pc := 20) (m_readsG (G := F0) hG hW.1 (hW.Fv 3 (by decide)) (hW.Fv 4 (by decide)) (by omega) (by omega) (by omega) (by omega) b3) hW.obj rfl ⟨w1233, w5, w1236, by decide, pd73⟩ w1235 sp28 rfl (by decide) (by decide) (Nat.le_of_ble_eq_true rfl) rfl dX10_word_20 (fun _ _ hx => absurd hx mC_no) ?_
    rintro _ h ⟨_, s2, F2, e9, hc2, hp2⟩
    cases e9
    replace hW := hW.call hc2 (by decide) (by decide)
    rcases hp2 with ⟨rfl, d1, d2, d3, d4, d5⟩ | ⟨rfl, d1, d2⟩
    · refine ab_if_eq (pc := 23) 33 dX10_word_23 (by decide) (fun c23 => absurd c23 (by omega)) (fun c23 => ?_)
      refine ab_aload_n (pc := 26) dX10_word_26 rfl ?_
      refine ab_get (pc := 27) (k := 6) (x := vI (s2 6)) okX10 hW.obj (mg rfl rfl) w1061 rfl dX10_word_27 ?_
      refine ab_goto (pc := 30) 34 dX10_word_30 (by decide) ?_
      refine ab_iret (pc := 34) dX10_word_34 rfl ?_
      exact ⟨_, _, _, rfl, hW, Or.inr ⟨by omega, by omega, by omega, by omega, ((hc2.sv 0 (by decide)).trans t1), _, rfl, d1⟩⟩
    · refine ab_if_eq (pc := 23) 33 dX10_word_23 (by decide) (fun c23 => ?_) (fun c23 => absurd c23 (by omega))
      refine ab_iconst (pc := 33) dX10_word_33 (by decide) ?_
      refine ab_iret (pc := 34) dX10_word_34 rfl ?_
      exact ⟨_, _, _, rfl, hW, Or.inr ⟨by omega, by omega, by omega, by omega, ((hc2.sv 0 (by decide)).trans t1), _, rfl, d1⟩⟩
  · refine ab_if_ne (pc := 12) 17 dX10_word_12 (by decide) (fun c12 => absurd c12 (by omega)) (fun c12 => ?_)
    refine ab_iconst (pc := 15) dX10_word_15 (by decide) ?_
    refine ab_iret (pc := 16) dX10_word_16 rfl ?_
    exact ⟨_, _, _, rfl, hW, Or.inl ⟨by omega, rfl, t1⟩⟩
theorem m_letter (hG : ab_G l E) (hM : mR h0 m A s0 F0) {x k i : Int} (n1 : s0 1 ≤ 16) (b3 : ∀ j, 0 ≤ j → j < 160 → -1 ≤ F0 3 j ∧ F0 3 j ≤ 80) : ab_M l E Y_X10_letter 4 5 0 0 [vR m, vI x, vI k, vI i] h0 (mC h0 m A s0 F0 [0, 6] [5] (fun r s' F' => (¬ (0 ≤ x ∧ x < s0 1 ∧ 0 ≤ k ∧ k < 10) ∧ r = some (vI 0) ∧ s' 0 = 1) ∨ (0 ≤ x ∧ x < s0 1 ∧ 0 ≤ k ∧ k < 10 ∧ s' 0 = 0 ∧ ∃ n : Int, isRd F0 x k n ∧ ((0 ≤ i ∧ i < n ∧ r = some (vI (rdL F0 x k i))) ∨ (¬ (0 ≤ i ∧ i < n) ∧ r = some (vI (-1))))))) := by
  refine ab_M.of (L0 := [some (vR m), some (vI x), some (vI k), some (vI i)]) hG rfl rfl (Nat.le_of_ble_eq_true rfl) rfl ?_
  have hW : mW h0 m A s0 F0 [0, 6] [5] h0 s0 F0 := mW.start hM
  refine ab_aload_n (pc := 0) dX10_letter_0 rfl ?_
  refine ab_iconst (pc := 1) dX10_letter_1 (by decide) ?_
  refine ab_putG (pc := 2) (k := 0) okX10 hW.obj (by decide) (by decide) trivial w1055 rfl (Or.inl rfl) dX10_letter_2 (fun h e9 n9 => ?_)
  replace hW := hW.put e9 n9 rfl (by decide)
  clear e9 n9
  refine ab_aload_n (pc := 5) dX10_letter_5 rfl ?_
  refine ab_iload_n (pc := 6) dX10_letter_6 rfl ?_
  refine ab_iload_n (pc := 7) dX10_letter_7 rfl ?_
  refine ab_iconst (pc := 8) dX10_letter_8 (by decide) ?_
  refine ab_callV (pc := 9) (m_isRow (n := s0 1) hG hW.1 rfl (by decide) (hW.sv 1 (by decide))) hW.obj rfl ⟨w1213, w5, w1216, by decide, pd51⟩ w1215 sp26 rfl (by decide) (by decide) (Nat.le_of_ble_eq_true rfl) rfl dX10_letter_9 (fun _ _ hx => absurd hx mC_no) ?_
  rintro _ h ⟨_, s1, F1, e9, hc1, hp1⟩
  cases e9
  replace hW := hW.call hc1 (by decide) (by decide)
  rcases hp1 with ⟨a1, a2, a3, a4, rfl, t1⟩ | ⟨a1, rfl, t1⟩
  · refine ab_if_ne (pc := 12) 17 dX10_letter_12 (by decide) (fun c12 => ?_) (fun c12 => absurd c12 (by omega))
    refine ab_aload_n (pc := 17) dX10_letter_17 rfl ?_
    refine ab_iload_n (pc := 18) dX10_letter_18 rfl ?_
    refine ab_iload_n (pc := 19) dX10_letter_19 rfl ?_
    refine ab_callV (pc := 20) (m_readsG (G := F0) hG hW.1 (hW.Fv 3 (by decide)) (hW.Fv 4 (by decide)) (by omega) (by omega) (by omega) (by omega) b3) hW.obj rfl ⟨w1233, w5, w1236, by decide, pd73⟩ w1235 sp28 rfl (by decide) (by decide) (Nat.le_of_ble_eq_true rfl) rfl dX10_letter_20 (fun _ _ hx => absurd hx mC_no) ?_
    rintro _ h ⟨_, s2, F2, e9, hc2, hp2⟩
    cases e9
    replace hW := hW.call hc2 (by decide) (by decide)
    rcases hp2 with ⟨rfl, d1, d2, d3, d4, d5⟩ | ⟨rfl, d1, d2⟩
    · refine ab_if_eq (pc := 23) 47 dX10_letter_23 (by decide) (fun c23 => absurd c23 (by omega)) (fun c23 => ?_)
      refine ab_iload_n (pc := 26) dX10_letter_26 rfl ?_
      refine ab_if_lt (pc := 27) 47 dX10_letter_27 (by decide) (fun c27 => ?_) (fun c27 => ?_)
      · refine ab_iconst (pc := 47) dX10_letter_47 (by decide) ?_
        refine ab_iret (pc := 48) dX10_letter_48 rfl ?_
        first
        | (exact ⟨_, _, _, rfl, hW, Or.inr ⟨by omega, by omega, by omega, by omega, ((hc2.sv 0 (by decide)).trans t1), _, d1, Or.inl ⟨by omega, by omega, by rw [d4 i (by omega) (by omega)]⟩⟩⟩)
        | (exact ⟨_, _, _, rfl, hW, Or.inr ⟨by omega, by omega, by omega, by omega, ((hc2.sv 0 (by decide)).trans t1), _, d1, Or.inr ⟨by omega, rfl⟩⟩⟩)
      · refine ab_iload_n (pc := 30) dX10_letter_30 rfl ?_
        refine ab_aload_n (pc := 31) dX10_letter_31 rfl ?_
        refine ab_get (pc := 32) (k := 6) (x := vI (s2 6)) okX10 hW.obj (mg rfl rfl) w1061 rfl dX10_letter_32 ?_
        refine ab_icmp_ge (pc := 35) 47 dX10_letter_35 (by decide) (fun c35 => ?_) (fun c35 => ?_)
        · refine ab_iconst (pc := 47) dX10_letter_47 (by decide) ?_
          refine ab_iret (pc := 48) dX10_letter_48 rfl ?_
          first
          | (exact ⟨_, _, _, rfl, hW, Or.inr ⟨by omega, by omega, by omega, by omega, ((hc2.sv 0 (by decide)).trans t1), _, d1, Or.inl ⟨by omega, by omega, by rw [d4 i (by omega) (by omega)]⟩⟩⟩)
          | (exact ⟨_, _, _, rfl, hW, Or.inr ⟨by omega, by omega, by omega, by omega, ((hc2.sv 0 (by decide)).trans t1), _, d1, Or.inr ⟨by omega, rfl⟩⟩⟩)
        · refine ab_aload_n (pc := 38) dX10_letter_38 rfl ?_
          refine ab_get (pc := 39) (k := 5) (x := vR (A 5)) okX10 hW.obj rfl w1060 rfl dX10_letter_39 ?_
          refine ab_iload_n (pc := 42) dX10_letter_42 rfl ?_
          refine ab_iald (pc := 43) (n := 80) (f := F2 5) (hW.arr 5 rfl rfl) (by omega) (by omega) dX10_letter_43 ?_
          refine ab_goto (pc := 44) 48 dX10_letter_44 (by decide) ?_
          refine ab_iret (pc := 48) dX10_letter_48 rfl ?_
          first
          | (exact ⟨_, _, _, rfl, hW, Or.inr ⟨by omega, by omega, by omega, by omega, ((hc2.sv 0 (by decide)).trans t1), _, d1, Or.inl ⟨by omega, by omega, by rw [d4 i (by omega) (by omega)]⟩⟩⟩)
          | (exact ⟨_, _, _, rfl, hW, Or.inr ⟨by omega, by omega, by omega, by omega, ((hc2.sv 0 (by decide)).trans t1), _, d1, Or.inr ⟨by omega, rfl⟩⟩⟩)
    · refine ab_if_eq (pc := 23) 47 dX10_letter_23 (by decide) (fun c23 => ?_) (fun c23 => absurd c23 (by omega))
      refine ab_iconst (pc := 47) dX10_letter_47 (by decide) ?_
      refine ab_iret (pc := 48) dX10_letter_48 rfl ?_
      first
      | (exact ⟨_, _, _, rfl, hW, Or.inr ⟨by omega, by omega, by omega, by omega, ((hc2.sv 0 (by decide)).trans t1), _, d1, Or.inl ⟨by omega, by omega, by rw [d4 i (by omega) (by omega)]⟩⟩⟩)
      | (exact ⟨_, _, _, rfl, hW, Or.inr ⟨by omega, by omega, by omega, by omega, ((hc2.sv 0 (by decide)).trans t1), _, d1, Or.inr ⟨by omega, rfl⟩⟩⟩)
  · refine ab_if_ne (pc := 12) 17 dX10_letter_12 (by decide) (fun c12 => absurd c12 (by omega)) (fun c12 => ?_)
    refine ab_iconst (pc := 15) dX10_letter_15 (by decide) ?_
    refine ab_iret (pc := 16) dX10_letter_16 rfl ?_
    exact ⟨_, _, _, rfl, hW, Or.inl ⟨by omega, rfl, t1⟩⟩
theorem m_count (hG : ab_G l E) (hM : mR h0 m A s0 F0) {w : Int} : ab_M l E Y_X10_count 2 0 0 0 [vR m, vI w] h0 (mC h0 m A s0 F0 [0] [] (fun r s' F' => s' 0 = 0 ∧ ((w = 0 ∧ r = some (vI (s0 1))) ∨ (w = 1 ∧ r = some (vI (s0 7))) ∨ (w = 2 ∧ r = some (vI (s0 23))) ∨ (w ≠ 0 ∧ w ≠ 1 ∧ w ≠ 2 ∧ r = some (vI (-1)))))) := by
  refine ab_M.of (L0 := [some (vR m), some (vI w)]) hG rfl rfl (Nat.le_of_ble_eq_true rfl) rfl ?_
  have hW : mW h0 m A s0 F0 [0] [] h0 s0 F0 := mW.start hM
  refine ab_aload_n (pc := 0) dX10_count_0 rfl ?_
  refine ab_iconst (pc := 1) dX10_count_1 (by decide) ?_
  refine ab_putG (pc := 2) (k := 0) okX10 hW.obj (by decide) (by decide) trivial w1055 rfl (Or.inl rfl) dX10_count_2 (fun h e9 n9 => ?_)
  replace hW := hW.put e9 n9 rfl (by decide)
  clear e9 n9
  refine ab_iload_n (pc := 5) dX10_count_5 rfl ?_
  refine ab_if_ne (pc := 6) 16 dX10_count_6 (by decide) (fun c6 => ?_) (fun c6 => ?_)
  · refine ab_iload_n (pc := 16) dX10_count_16 rfl ?_
    refine ab_iconst (pc := 17) dX10_count_17 (by decide) ?_
    refine ab_icmp_ne (pc := 18) 28 dX10_count_18 (by decide) (fun c18 => ?_) (fun c18 => ?_)
    · refine ab_iload_n (pc := 28) dX10_count_28 rfl ?_
      refine ab_iconst (pc := 29) dX10_count_29 (by decide) ?_
      refine ab_icmp_ne (pc := 30) 40 dX10_count_30 (by decide) (fun c30 => ?_) (fun c30 => ?_)
      · refine ab_iconst (pc := 40) dX10_count_40 (by decide) ?_
        refine ab_iret (pc := 41) dX10_count_41 rfl ?_
        first
        | (exact ⟨_, _, _, rfl, hW, rfl, Or.inl ⟨by omega, rfl⟩⟩)
        | (exact ⟨_, _, _, rfl, hW, rfl, Or.inr (Or.inl ⟨by omega, rfl⟩)⟩)
        | (exact ⟨_, _, _, rfl, hW, rfl, Or.inr (Or.inr (Or.inl ⟨by omega, rfl⟩))⟩)
        | (exact ⟨_, _, _, rfl, hW, rfl, Or.inr (Or.inr (Or.inr ⟨by omega, by omega, by omega, rfl⟩))⟩)
      · refine ab_aload_n (pc := 33) dX10_count_33 rfl ?_
        refine ab_get (pc := 34) (k := 23) (x := vI (s0 23)) okX10 hW.obj (mg rfl (hW.sv 23 (by decide))) w1078 rfl dX10_count_34 ?_
        refine ab_goto (pc := 37) 41 dX10_count_37 (by decide) ?_
        refine ab_iret (pc := 41) dX10_count_41 rfl ?_
        first
        | (exact ⟨_, _, _, rfl, hW, rfl, Or.inl ⟨by omega, rfl⟩⟩)
        | (exact ⟨_, _, _, rfl, hW, rfl, Or.inr (Or.inl ⟨by omega, rfl⟩)⟩)
        | (exact ⟨_, _, _, rfl, hW, rfl, Or.inr (Or.inr (Or.inl ⟨by omega, rfl⟩))⟩)
        | (exact ⟨_, _, _, rfl, hW, rfl, Or.inr (Or.inr (Or.inr ⟨by omega, by omega, by omega, rfl⟩))⟩)
    · refine ab_aload_n (pc := 21) dX10_count_21 rfl ?_
      refine ab_get (pc := 22) (k := 7) (x := vI (s0 7)) okX10 hW.obj (mg rfl (hW.sv 7 (by decide))) w1062 rfl dX10_count_22 ?_
      refine ab_goto (pc := 25) 41 dX10_count_25 (by decide) ?_
      refine ab_iret (pc := 41) dX10_count_41 rfl ?_
      first
      | (exact ⟨_, _, _, rfl, hW, rfl, Or.inl ⟨by omega, rfl⟩⟩)
      | (exact ⟨_, _, _, rfl, hW, rfl, Or.inr (Or.inl ⟨by omega, rfl⟩)⟩)
      | (exact ⟨_, _, _, rfl, hW, rfl, Or.inr (Or.inr (Or.inl ⟨by omega, rfl⟩))⟩)
      | (exact ⟨_, _, _, rfl, hW, rfl, Or.inr (Or.inr (Or.inr ⟨by omega, by omega, by omega, rfl⟩))⟩)
  · refine ab_aload_n (pc := 9) dX10_count_9 rfl ?_
    refine ab_get (pc := 10) (k := 1) (x := vI (s0 1)) okX10 hW.obj (mg rfl (hW.sv 1 (by decide))) w1056 rfl dX10_count_10 ?_
    refine ab_goto (pc := 13) 41 dX10_count_13 (by decide) ?_
    refine ab_iret (pc := 41) dX10_count_41 rfl ?_
    first
    | (exact ⟨_, _, _, rfl, hW, rfl, Or.inl ⟨by omega, rfl⟩⟩)
    | (exact ⟨_, _, _, rfl, hW, rfl, Or.inr (Or.inl ⟨by omega, rfl⟩)⟩)
    | (exact ⟨_, _, _, rfl, hW, rfl, Or.inr (Or.inr (Or.inl ⟨by omega, rfl⟩))⟩)
    | (exact ⟨_, _, _, rfl, hW, rfl, Or.inr (Or.inr (Or.inr ⟨by omega, by omega, by omega, rfl⟩))⟩)
theorem m_write30_17 {x n : Int} (h1 : 0 ≤ x) (h2 : x < 16) (hN : n ≤ 80) (fu : Nat) : ∀ (i : Int) (h : AbH) (s : Nat → Int) (F : Nat → Int → Int), mW h0 m A s0 F0 [] [3, 4] h s F → (80 - i).toNat < fu → (0 ≤ i) → (i ≤ 80) → (F 3 = ab_f (F0 3) (10 * x) n) → (F 4 = fil (F0 4) (80 * (10 * x)) i (fun i => if i < n then F0 30 i else 0)) → ab_T l E Y_X10_write 0 0 0 17 [some (vR m), some (vI x), some (vR (A 30)), some (vI n), some (vI (10 * x)), some (vI i)] [] h (mC h0 m A s0 F0 [] [3, 4] (fun r s' F' => F' 3 = ab_f (F0 3) (10 * x) n ∧ F' 4 = fil (F0 4) (80 * (10 * x)) 80 (fun i => if i < n then F0 30 i else 0) ∧ r = none)) := by
  induction fu with
  | zero => intro i h s F hW hm; exact absurd hm (Nat.not_lt_zero _)
  | succ fu ih =>
    intro i h s F hW hm i0 i1 f3 f4
    refine ab_iload (pc := 17) dX10_write_17 rfl ?_
    refine ab_bipush (pc := 19) dX10_write_19 (by decide) ?_
    refine ab_icmp_ge (pc := 21) 57 dX10_write_21 (by decide) (fun c21 => ?_) (fun c21 => ?_)
    · refine ab_vret (pc := 57) dX10_write_57 rfl ?_
      obtain rfl : i = 80 := by omega
      exact ⟨_, _, _, rfl, hW, f3, f4, rfl⟩
    · refine ab_aload_n (pc := 24) dX10_write_24 rfl ?_
      refine ab_get (pc := 25) (k := 4) (x := vR (A 4)) okX10 hW.obj rfl w1059 rfl dX10_write_25 ?_
      refine ab_bipush (pc := 28) dX10_write_28 (by decide) ?_
      refine ab_iload (pc := 30) dX10_write_30 rfl ?_
      refine ab_imul (pc := 32) dX10_write_32 (by omega) (by omega) ?_
      refine ab_iload (pc := 33) dX10_write_33 rfl ?_
      refine ab_iadd (pc := 35) dX10_write_35 (by omega) (by omega) ?_
      refine ab_via (S := [vI (((80 * (10 * x)) + i)), vR (A 4)]) 50 (fun v : Int => v = (fun i => if i < n then F0 30 i else 0) i) (fun v hv => ?_) (fun J50 => ?_)
      · refine ab_iastG (pc := 50) (n := 12800) (f := fil (F0 4) (80 * (10 * x)) i (fun i => if i < n then F0 30 i else 0)) (hW.arr 4 rfl f4) (by decide) (by omega) (by omega) dX10_write_50 (fun h e9 n9 => ?_)
        replace hW := hW.wr (k := 4) rfl e9 n9 (by decide)
        clear e9 n9
        refine ab_iinc (pc := 51) dX10_write_51 rfl rfl (by decide) (by omega) (by omega) ?_
        refine ab_goto (pc := 54) 17 dX10_write_54 (by decide) ?_
        refine ih (i + 1) _ _ _ hW (by omega) (by omega) (by omega) f3 ?_
        rw [← fil_step i0 hv]
        rfl
      · refine ab_iload (pc := 36) dX10_write_36 rfl ?_
        refine ab_iload_n (pc := 38) dX10_write_38 rfl ?_
        refine ab_icmp_ge (pc := 39) 49 dX10_write_39 (by decide) (fun c39 => ?_) (fun c39 => ?_)
        · refine ab_iconst (pc := 49) dX10_write_49 (by decide) ?_
          refine J50 _ ?_
          show _ = if _ then _ else _
          split <;> first | rfl | (exfalso; omega)
        · refine ab_aload_n (pc := 42) dX10_write_42 rfl ?_
          refine ab_iload (pc := 43) dX10_write_43 rfl ?_
          refine ab_iald (pc := 45) (n := 80) (f := F0 30) (hW.arr 30 rfl (hW.Fv 30 (by decide))) (by omega) (by omega) dX10_write_45 ?_
          refine ab_goto (pc := 46) 50 dX10_write_46 (by decide) ?_
          refine J50 _ ?_
          show _ = if _ then _ else _
          split <;> first | rfl | (exfalso; omega)
theorem m_write30 (hG : ab_G l E) (hM : mR h0 m A s0 F0) {x n : Int} (h1 : 0 ≤ x) (h2 : x < 16) (hN : n ≤ 80) : ab_M l E Y_X10_write 6 0 0 0 [vR m, vI x, vR (A 30), vI n] h0 (mC h0 m A s0 F0 [] [3, 4] (fun r s' F' => F' 3 = ab_f (F0 3) (10 * x) n ∧ F' 4 = fil (F0 4) (80 * (10 * x)) 80 (fun i => if i < n then F0 30 i else 0) ∧ r = none)) := by
  refine ab_M.of (L0 := [some (vR m), some (vI x), some (vR (A 30)), some (vI n), none, none]) hG rfl rfl (Nat.le_of_ble_eq_true rfl) rfl ?_
  have hW : mW h0 m A s0 F0 [] [3, 4] h0 s0 F0 := mW.start hM
  refine ab_bipush (pc := 0) dX10_write_0 (by decide) ?_
  refine ab_iload_n (pc := 2) dX10_write_2 rfl ?_
  refine ab_imul (pc := 3) dX10_write_3 (by omega) (by omega) ?_
  refine ab_istore (pc := 4) dX10_write_4 rfl (Nat.le_of_ble_eq_true rfl) ?_
  refine ab_aload_n (pc := 6) dX10_write_6 rfl ?_
  refine ab_get (pc := 7) (k := 3) (x := vR (A 3)) okX10 hW.obj rfl w1058 rfl dX10_write_7 ?_
  refine ab_iload (pc := 10) dX10_write_10 rfl ?_
  refine ab_iload_n (pc := 12) dX10_write_12 rfl ?_
  refine ab_iastG (pc := 13) (n := 160) (f := F0 3) (hW.arr 3 rfl rfl) (by decide) (by omega) (by omega) dX10_write_13 (fun h e9 n9 => ?_)
  replace hW := hW.wr (k := 3) rfl e9 n9 (by decide)
  clear e9 n9
  refine ab_iconst (pc := 14) dX10_write_14 (by decide) ?_
  refine ab_istore (pc := 15) dX10_write_15 rfl (Nat.le_of_ble_eq_true rfl) ?_
  exact m_write30_17 h1 h2 hN _ 0 _ _ _ hW (Nat.lt_succ_self _) (by omega) (by omega) rfl (rfl.trans fil0)
theorem m_write39_17 {x n : Int} (h1 : 0 ≤ x) (h2 : x < 16) (hN : n ≤ 80) (fu : Nat) : ∀ (i : Int) (h : AbH) (s : Nat → Int) (F : Nat → Int → Int), mW h0 m A s0 F0 [] [3, 4] h s F → (80 - i).toNat < fu → (0 ≤ i) → (i ≤ 80) → (F 3 = ab_f (F0 3) (10 * x) n) → (F 4 = fil (F0 4) (80 * (10 * x)) i (fun i => if i < n then F0 39 i else 0)) → ab_T l E Y_X10_write 0 0 0 17 [some (vR m), some (vI x), some (vR (A 39)), some (vI n), some (vI (10 * x)), some (vI i)] [] h (mC h0 m A s0 F0 [] [3, 4] (fun r s' F' => F' 3 = ab_f (F0 3) (10 * x) n ∧ F' 4 = fil (F0 4) (80 * (10 * x)) 80 (fun i => if i < n then F0 39 i else 0) ∧ r = none)) := by
  induction fu with
  | zero => intro i h s F hW hm; exact absurd hm (Nat.not_lt_zero _)
  | succ fu ih =>
    intro i h s F hW hm i0 i1 f3 f4
    refine ab_iload (pc := 17) dX10_write_17 rfl ?_
    refine ab_bipush (pc := 19) dX10_write_19 (by decide) ?_
    refine ab_icmp_ge (pc := 21) 57 dX10_write_21 (by decide) (fun c21 => ?_) (fun c21 => ?_)
    · refine ab_vret (pc := 57) dX10_write_57 rfl ?_
      obtain rfl : i = 80 := by omega
      exact ⟨_, _, _, rfl, hW, f3, f4, rfl⟩
    · refine ab_aload_n (pc := 24) dX10_write_24 rfl ?_
      refine ab_get (pc := 25) (k := 4) (x := vR (A 4)) okX10 hW.obj rfl w1059 rfl dX10_write_25 ?_
      refine ab_bipush (pc := 28) dX10_write_28 (by decide) ?_
      refine ab_iload (pc := 30) dX10_write_30 rfl ?_
      refine ab_imul (pc := 32) dX10_write_32 (by omega) (by omega) ?_
      refine ab_iload (pc := 33) dX10_write_33 rfl ?_
      refine ab_iadd (pc := 35) dX10_write_35 (by omega) (by omega) ?_
      refine ab_via (S := [vI (((80 * (10 * x)) + i)), vR (A 4)]) 50 (fun v : Int => v = (fun i => if i < n then F0 39 i else 0) i) (fun v hv => ?_) (fun J50 => ?_)
      · refine ab_iastG (pc := 50) (n := 12800) (f := fil (F0 4) (80 * (10 * x)) i (fun i => if i < n then F0 39 i else 0)) (hW.arr 4 rfl f4) (by decide) (by omega) (by omega) dX10_write_50 (fun h e9 n9 => ?_)
        replace hW := hW.wr (k := 4) rfl e9 n9 (by decide)
        clear e9 n9
        refine ab_iinc (pc := 51) dX10_write_51 rfl rfl (by decide) (by omega) (by omega) ?_
        refine ab_goto (pc := 54) 17 dX10_write_54 (by decide) ?_
        refine ih (i + 1) _ _ _ hW (by omega) (by omega) (by omega) f3 ?_
        rw [← fil_step i0 hv]
        rfl
      · refine ab_iload (pc := 36) dX10_write_36 rfl ?_
        refine ab_iload_n (pc := 38) dX10_write_38 rfl ?_
        refine ab_icmp_ge (pc := 39) 49 dX10_write_39 (by decide) (fun c39 => ?_) (fun c39 => ?_)
        · refine ab_iconst (pc := 49) dX10_write_49 (by decide) ?_
          refine J50 _ ?_
          show _ = if _ then _ else _
          split <;> first | rfl | (exfalso; omega)
        · refine ab_aload_n (pc := 42) dX10_write_42 rfl ?_
          refine ab_iload (pc := 43) dX10_write_43 rfl ?_
          refine ab_iald (pc := 45) (n := 1300) (f := F0 39) (hW.arr 39 rfl (hW.Fv 39 (by decide))) (by omega) (by omega) dX10_write_45 ?_
          refine ab_goto (pc := 46) 50 dX10_write_46 (by decide) ?_
          refine J50 _ ?_
          show _ = if _ then _ else _
          split <;> first | rfl | (exfalso; omega)
theorem m_write39 (hG : ab_G l E) (hM : mR h0 m A s0 F0) {x n : Int} (h1 : 0 ≤ x) (h2 : x < 16) (hN : n ≤ 80) : ab_M l E Y_X10_write 6 0 0 0 [vR m, vI x, vR (A 39), vI n] h0 (mC h0 m A s0 F0 [] [3, 4] (fun r s' F' => F' 3 = ab_f (F0 3) (10 * x) n ∧ F' 4 = fil (F0 4) (80 * (10 * x)) 80 (fun i => if i < n then F0 39 i else 0) ∧ r = none)) := by
  refine ab_M.of (L0 := [some (vR m), some (vI x), some (vR (A 39)), some (vI n), none, none]) hG rfl rfl (Nat.le_of_ble_eq_true rfl) rfl ?_
  have hW : mW h0 m A s0 F0 [] [3, 4] h0 s0 F0 := mW.start hM
  refine ab_bipush (pc := 0) dX10_write_0 (by decide) ?_
  refine ab_iload_n (pc := 2) dX10_write_2 rfl ?_
  refine ab_imul (pc := 3) dX10_write_3 (by omega) (by omega) ?_
  refine ab_istore (pc := 4) dX10_write_4 rfl (Nat.le_of_ble_eq_true rfl) ?_
  refine ab_aload_n (pc := 6) dX10_write_6 rfl ?_
  refine ab_get (pc := 7) (k := 3) (x := vR (A 3)) okX10 hW.obj rfl w1058 rfl dX10_write_7 ?_
  refine ab_iload (pc := 10) dX10_write_10 rfl ?_
  refine ab_iload_n (pc := 12) dX10_write_12 rfl ?_
  refine ab_iastG (pc := 13) (n := 160) (f := F0 3) (hW.arr 3 rfl rfl) (by decide) (by omega) (by omega) dX10_write_13 (fun h e9 n9 => ?_)
  replace hW := hW.wr (k := 3) rfl e9 n9 (by decide)
  clear e9 n9
  refine ab_iconst (pc := 14) dX10_write_14 (by decide) ?_
  refine ab_istore (pc := 15) dX10_write_15 rfl (Nat.le_of_ble_eq_true rfl) ?_
  exact m_write39_17 h1 h2 hN _ 0 _ _ _ hW (Nat.lt_succ_self _) (by omega) (by omega) rfl (rfl.trans fil0)
end M1
