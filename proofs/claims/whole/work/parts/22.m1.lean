/-! the reference: small methods -/
section M1
variable {l : Launch} {E : AbE} {m : Nat} {A : Nat → Nat} {s : Nat → Int} {F : Nat → Int → Int} {h0 : AbH}
theorem m_thrown (hG : ab_G l E) (hM : mR h0 m A s F) {d : Nat} : ab_M l E Y_X10_thrown 1 d 0 0 [vR m] h0 (mT h0 m A (fun r s' F' => r = some (vI (s 0)) ∧ s' = s ∧ F' = F)) := by
  refine ab_M.of hG rfl rfl (Nat.le_of_ble_eq_true rfl) rfl ?_
  have kp : ab_kp mX h0 h0 := ab_kp0
  refine ab_aload_n (pc := 0) dX10_thrown_0 rfl ?_
  refine ab_get (pc := 1) (k := 0) (x := vI (s 0)) okX10 hM.1 rfl w1055 rfl dX10_thrown_1 ?_
  refine ab_iret (pc := 4) dX10_thrown_4 rfl ?_
  exact ⟨_, _, _, rfl, hM, kp, rfl, rfl, rfl⟩
theorem m_may (hG : ab_G l E) (hM : mR h0 m A s F) {g c : Int} {d : Nat} (hg : g = 0 ∨ g = 1) (hs : s 0 = 0) (hc : 0 < c) : ab_M l E Y_X10_may 3 d 0 0 [vR m, vI g, vI c] h0 (mT h0 m A (fun r s' F' => F' = F ∧ ((g = 1 ∧ r = some (vI 1) ∧ s' = s) ∨ (g = 0 ∧ r = some (vI 0) ∧ s' = ab_u s 0 c)))) := by
  refine ab_M.of hG rfl rfl (Nat.le_of_ble_eq_true rfl) rfl ?_
  have kp : ab_kp mX h0 h0 := ab_kp0
  refine ab_iload_n (pc := 0) dX10_may_0 rfl ?_
  refine ab_if_ne (pc := 1) 16 dX10_may_1 (by decide) (fun c1 => ?_) (fun c1 => ?_)
  · refine ab_aload_n (pc := 16) dX10_may_16 rfl ?_
    refine ab_get (pc := 17) (k := 0) (x := vI (s 0)) okX10 hM.1 rfl w1055 rfl dX10_may_17 ?_
    refine ab_if_ne (pc := 20) 27 dX10_may_20 (by decide) (fun c20 => ?_) (fun c20 => ?_)
    · refine ab_iconst (pc := 27) dX10_may_27 (by decide) ?_
      refine ab_zret (pc := 28) dX10_may_28 rfl (by omega) ?_
      first
      | (exact ⟨_, _, _, rfl, hM, kp, rfl, Or.inl ⟨by omega, rfl, rfl⟩⟩)
      | (exact ⟨_, _, _, rfl, hM, kp, rfl, Or.inr ⟨by omega, rfl, rfl⟩⟩)
      | (exfalso; omega)
    · refine ab_iconst (pc := 23) dX10_may_23 (by decide) ?_
      refine ab_goto (pc := 24) 28 dX10_may_24 (by decide) ?_
      refine ab_zret (pc := 28) dX10_may_28 rfl (by omega) ?_
      first
      | (exact ⟨_, _, _, rfl, hM, kp, rfl, Or.inl ⟨by omega, rfl, rfl⟩⟩)
      | (exact ⟨_, _, _, rfl, hM, kp, rfl, Or.inr ⟨by omega, rfl, rfl⟩⟩)
      | (exfalso; omega)
  · refine ab_aload_n (pc := 4) dX10_may_4 rfl ?_
    refine ab_get (pc := 5) (k := 0) (x := vI (s 0)) okX10 hM.1 rfl w1055 rfl dX10_may_5 ?_
    refine ab_if_ne (pc := 8) 16 dX10_may_8 (by decide) (fun c8 => ?_) (fun c8 => ?_)
    · refine ab_aload_n (pc := 16) dX10_may_16 rfl ?_
      refine ab_get (pc := 17) (k := 0) (x := vI (s 0)) okX10 hM.1 rfl w1055 rfl dX10_may_17 ?_
      refine ab_if_ne (pc := 20) 27 dX10_may_20 (by decide) (fun c20 => ?_) (fun c20 => ?_)
      · refine ab_iconst (pc := 27) dX10_may_27 (by decide) ?_
        refine ab_zret (pc := 28) dX10_may_28 rfl (by omega) ?_
        first
        | (exact ⟨_, _, _, rfl, hM, kp, rfl, Or.inl ⟨by omega, rfl, rfl⟩⟩)
        | (exact ⟨_, _, _, rfl, hM, kp, rfl, Or.inr ⟨by omega, rfl, rfl⟩⟩)
        | (exfalso; omega)
      · refine ab_iconst (pc := 23) dX10_may_23 (by decide) ?_
        refine ab_goto (pc := 24) 28 dX10_may_24 (by decide) ?_
        refine ab_zret (pc := 28) dX10_may_28 rfl (by omega) ?_
        first
        | (exact ⟨_, _, _, rfl, hM, kp, rfl, Or.inl ⟨by omega, rfl, rfl⟩⟩)
        | (exact ⟨_, _, _, rfl, hM, kp, rfl, Or.inr ⟨by omega, rfl, rfl⟩⟩)
        | (exfalso; omega)
    · refine ab_aload_n (pc := 11) dX10_may_11 rfl ?_
      refine ab_iload_n (pc := 12) dX10_may_12 rfl ?_
      refine ab_putG (pc := 13) (k := 0) okX10 hM.1 (by decide) (by decide) trivial w1055 rfl (Or.inl rfl) dX10_may_13 (fun h e9 n9 => ?_)
      replace kp := kp.wr hM.1 (mX_no (by simp) (by simp)) n9
      replace hM := hM.put e9 n9 rfl
      clear e9 n9
      refine ab_aload_n (pc := 16) dX10_may_16 rfl ?_
      refine ab_get (pc := 17) (k := 0) (x := vI (c)) okX10 hM.1 rfl w1055 rfl dX10_may_17 ?_
      refine ab_if_ne (pc := 20) 27 dX10_may_20 (by decide) (fun c20 => ?_) (fun c20 => ?_)
      · refine ab_iconst (pc := 27) dX10_may_27 (by decide) ?_
        refine ab_zret (pc := 28) dX10_may_28 rfl (by omega) ?_
        first
        | (exact ⟨_, _, _, rfl, hM, kp, rfl, Or.inl ⟨by omega, rfl, rfl⟩⟩)
        | (exact ⟨_, _, _, rfl, hM, kp, rfl, Or.inr ⟨by omega, rfl, rfl⟩⟩)
        | (exfalso; omega)
      · refine ab_iconst (pc := 23) dX10_may_23 (by decide) ?_
        refine ab_goto (pc := 24) 28 dX10_may_24 (by decide) ?_
        refine ab_zret (pc := 28) dX10_may_28 rfl (by omega) ?_
        first
        | (exact ⟨_, _, _, rfl, hM, kp, rfl, Or.inl ⟨by omega, rfl, rfl⟩⟩)
        | (exact ⟨_, _, _, rfl, hM, kp, rfl, Or.inr ⟨by omega, rfl, rfl⟩⟩)
        | (exfalso; omega)
theorem m_isSheet (hG : ab_G l E) (hM : mR h0 m A s F) {x : Int} {d : Nat} : ab_M l E Y_X10_isSheet 2 d 0 0 [vR m, vI x] h0 (mT h0 m A (fun r s' F' => s' = s ∧ F' = F ∧ ((0 ≤ x ∧ x < s 1 ∧ r = some (vI 1)) ∨ (¬ (0 ≤ x ∧ x < s 1) ∧ r = some (vI 0))))) := by
  refine ab_M.of hG rfl rfl (Nat.le_of_ble_eq_true rfl) rfl ?_
  have kp : ab_kp mX h0 h0 := ab_kp0
  refine ab_iload_n (pc := 0) dX10_isSheet_0 rfl ?_
  refine ab_if_lt (pc := 1) 16 dX10_isSheet_1 (by decide) (fun c1 => ?_) (fun c1 => ?_)
  · refine ab_iconst (pc := 16) dX10_isSheet_16 (by decide) ?_
    refine ab_zret (pc := 17) dX10_isSheet_17 rfl (by omega) ?_
    first
    | (exact ⟨_, _, _, rfl, hM, kp, rfl, rfl, Or.inl ⟨by omega, by omega, rfl⟩⟩)
    | (exact ⟨_, _, _, rfl, hM, kp, rfl, rfl, Or.inr ⟨by omega, rfl⟩⟩)
  · refine ab_iload_n (pc := 4) dX10_isSheet_4 rfl ?_
    refine ab_aload_n (pc := 5) dX10_isSheet_5 rfl ?_
    refine ab_get (pc := 6) (k := 1) (x := vI (s 1)) okX10 hM.1 rfl w1056 rfl dX10_isSheet_6 ?_
    refine ab_icmp_ge (pc := 9) 16 dX10_isSheet_9 (by decide) (fun c9 => ?_) (fun c9 => ?_)
    · refine ab_iconst (pc := 16) dX10_isSheet_16 (by decide) ?_
      refine ab_zret (pc := 17) dX10_isSheet_17 rfl (by omega) ?_
      first
      | (exact ⟨_, _, _, rfl, hM, kp, rfl, rfl, Or.inl ⟨by omega, by omega, rfl⟩⟩)
      | (exact ⟨_, _, _, rfl, hM, kp, rfl, rfl, Or.inr ⟨by omega, rfl⟩⟩)
    · refine ab_iconst (pc := 12) dX10_isSheet_12 (by decide) ?_
      refine ab_goto (pc := 13) 17 dX10_isSheet_13 (by decide) ?_
      refine ab_zret (pc := 17) dX10_isSheet_17 rfl (by omega) ?_
      first
      | (exact ⟨_, _, _, rfl, hM, kp, rfl, rfl, Or.inl ⟨by omega, by omega, rfl⟩⟩)
      | (exact ⟨_, _, _, rfl, hM, kp, rfl, rfl, Or.inr ⟨by omega, rfl⟩⟩)
theorem m_isRow (hG : ab_G l E) (hM : mR h0 m A s F) {x k c : Int} (hs : s 0 = 0) (hc : 0 < c) : ab_M l E Y_X10_isRow 4 3 0 0 [vR m, vI x, vI k, vI c] h0 (mT h0 m A (fun r s' F' => F' = F ∧ ((0 ≤ x ∧ x < s 1 ∧ 0 ≤ k ∧ k < 10 ∧ r = some (vI 1) ∧ s' = s) ∨ (¬ (0 ≤ x ∧ x < s 1 ∧ 0 ≤ k ∧ k < 10) ∧ r = some (vI 0) ∧ s' = ab_u s 0 c)))) := by
  refine ab_M.of hG rfl rfl (Nat.le_of_ble_eq_true rfl) rfl ?_
  have kp : ab_kp mX h0 h0 := ab_kp0
  refine ab_aload_n (pc := 0) dX10_isRow_0 rfl ?_
  refine ab_aload_n (pc := 1) dX10_isRow_1 rfl ?_
  refine ab_iload_n (pc := 2) dX10_isRow_2 rfl ?_
  refine ab_callV (pc := 3) (m_isSheet hG hM) M rfl ⟨w1217, w5, w1220, by decide, by decide +kernel⟩ w1219 sp27 rfl (by decide) (by decide) (by decide) rfl dX10_isRow_3 (fun _ _ hx => absurd hx mT_no) ?_
  rintro _ h ⟨_, _, _, e9, hM, kp1, rfl, rfl, hp⟩
  cases e9
  replace kp := kp.trans kp1
  rcases hp with ⟨g1, g2, rfl⟩ | ⟨g1, rfl⟩
  · refine ab_if_eq (pc := 6) 23 dX10_isRow_6 (by decide) (fun c6 => absurd c6 (by omega)) (fun c6 => ?_)
    refine ab_iload_n (pc := 9) dX10_isRow_9 rfl ?_
    refine ab_if_lt (pc := 10) 23 dX10_isRow_10 (by decide) (fun c10 => ?_) (fun c10 => ?_)
    · refine ab_iconst (pc := 23) dX10_isRow_23 (by decide) ?_
      refine ab_iload_n (pc := 24) dX10_isRow_24 rfl ?_
      refine ab_callV (pc := 25) (m_may hG hM (by omega) (by first | exact hs | rfl) (by omega)) M rfl ⟨w1205, w5, w1208, by decide, by decide +kernel⟩ w1207 sp25 rfl (by decide) (by decide) (by decide) rfl dX10_isRow_25 (fun _ _ hx => absurd hx mT_no) ?_
      rintro _ h ⟨_, _, _, e9, hM, kp1, rfl, hp⟩
      cases e9
      replace kp := kp.trans kp1
      rcases hp with ⟨g3, rfl, rfl⟩ | ⟨g3, rfl, rfl⟩
      · refine ab_zret (pc := 28) dX10_isRow_28 rfl (by omega) ?_
        first
        | (exact ⟨_, _, _, rfl, hM, kp, rfl, Or.inl ⟨by omega, by omega, by omega, by omega, rfl, rfl⟩⟩)
        | (exact ⟨_, _, _, rfl, hM, kp, rfl, Or.inr ⟨by omega, rfl, rfl⟩⟩)
        | (exfalso; omega)
      · refine ab_zret (pc := 28) dX10_isRow_28 rfl (by omega) ?_
        first
        | (exact ⟨_, _, _, rfl, hM, kp, rfl, Or.inl ⟨by omega, by omega, by omega, by omega, rfl, rfl⟩⟩)
        | (exact ⟨_, _, _, rfl, hM, kp, rfl, Or.inr ⟨by omega, rfl, rfl⟩⟩)
        | (exfalso; omega)
    · refine ab_iload_n (pc := 13) dX10_isRow_13 rfl ?_
      refine ab_bipush (pc := 14) dX10_isRow_14 (by decide) ?_
      refine ab_icmp_ge (pc := 16) 23 dX10_isRow_16 (by decide) (fun c16 => ?_) (fun c16 => ?_)
      · refine ab_iconst (pc := 23) dX10_isRow_23 (by decide) ?_
        refine ab_iload_n (pc := 24) dX10_isRow_24 rfl ?_
        refine ab_callV (pc := 25) (m_may hG hM (by omega) (by first | exact hs | rfl) (by omega)) M rfl ⟨w1205, w5, w1208, by decide, by decide +kernel⟩ w1207 sp25 rfl (by decide) (by decide) (by decide) rfl dX10_isRow_25 (fun _ _ hx => absurd hx mT_no) ?_
        rintro _ h ⟨_, _, _, e9, hM, kp1, rfl, hp⟩
        cases e9
        replace kp := kp.trans kp1
        rcases hp with ⟨g3, rfl, rfl⟩ | ⟨g3, rfl, rfl⟩
        · refine ab_zret (pc := 28) dX10_isRow_28 rfl (by omega) ?_
          first
          | (exact ⟨_, _, _, rfl, hM, kp, rfl, Or.inl ⟨by omega, by omega, by omega, by omega, rfl, rfl⟩⟩)
          | (exact ⟨_, _, _, rfl, hM, kp, rfl, Or.inr ⟨by omega, rfl, rfl⟩⟩)
          | (exfalso; omega)
        · refine ab_zret (pc := 28) dX10_isRow_28 rfl (by omega) ?_
          first
          | (exact ⟨_, _, _, rfl, hM, kp, rfl, Or.inl ⟨by omega, by omega, by omega, by omega, rfl, rfl⟩⟩)
          | (exact ⟨_, _, _, rfl, hM, kp, rfl, Or.inr ⟨by omega, rfl, rfl⟩⟩)
          | (exfalso; omega)
      · refine ab_iconst (pc := 19) dX10_isRow_19 (by decide) ?_
        refine ab_goto (pc := 20) 24 dX10_isRow_20 (by decide) ?_
        refine ab_iload_n (pc := 24) dX10_isRow_24 rfl ?_
        refine ab_callV (pc := 25) (m_may hG hM (by omega) (by first | exact hs | rfl) (by omega)) M rfl ⟨w1205, w5, w1208, by decide, by decide +kernel⟩ w1207 sp25 rfl (by decide) (by decide) (by decide) rfl dX10_isRow_25 (fun _ _ hx => absurd hx mT_no) ?_
        rintro _ h ⟨_, _, _, e9, hM, kp1, rfl, hp⟩
        cases e9
        replace kp := kp.trans kp1
        rcases hp with ⟨g3, rfl, rfl⟩ | ⟨g3, rfl, rfl⟩
        · refine ab_zret (pc := 28) dX10_isRow_28 rfl (by omega) ?_
          first
          | (exact ⟨_, _, _, rfl, hM, kp, rfl, Or.inl ⟨by omega, by omega, by omega, by omega, rfl, rfl⟩⟩)
          | (exact ⟨_, _, _, rfl, hM, kp, rfl, Or.inr ⟨by omega, rfl, rfl⟩⟩)
          | (exfalso; omega)
        · refine ab_zret (pc := 28) dX10_isRow_28 rfl (by omega) ?_
          first
          | (exact ⟨_, _, _, rfl, hM, kp, rfl, Or.inl ⟨by omega, by omega, by omega, by omega, rfl, rfl⟩⟩)
          | (exact ⟨_, _, _, rfl, hM, kp, rfl, Or.inr ⟨by omega, rfl, rfl⟩⟩)
          | (exfalso; omega)
  · refine ab_if_eq (pc := 6) 23 dX10_isRow_6 (by decide) (fun c6 => ?_) (fun c6 => absurd c6 (by omega))
    refine ab_iconst (pc := 23) dX10_isRow_23 (by decide) ?_
    refine ab_iload_n (pc := 24) dX10_isRow_24 rfl ?_
    refine ab_callV (pc := 25) (m_may hG hM (by omega) (by first | exact hs | rfl) (by omega)) M rfl ⟨w1205, w5, w1208, by decide, by decide +kernel⟩ w1207 sp25 rfl (by decide) (by decide) (by decide) rfl dX10_isRow_25 (fun _ _ hx => absurd hx mT_no) ?_
    rintro _ h ⟨_, _, _, e9, hM, kp1, rfl, hp⟩
    cases e9
    replace kp := kp.trans kp1
    rcases hp with ⟨g3, rfl, rfl⟩ | ⟨g3, rfl, rfl⟩
    · refine ab_zret (pc := 28) dX10_isRow_28 rfl (by omega) ?_
      first
      | (exact ⟨_, _, _, rfl, hM, kp, rfl, Or.inl ⟨by omega, by omega, by omega, by omega, rfl, rfl⟩⟩)
      | (exact ⟨_, _, _, rfl, hM, kp, rfl, Or.inr ⟨by omega, rfl, rfl⟩⟩)
      | (exfalso; omega)
    · refine ab_zret (pc := 28) dX10_isRow_28 rfl (by omega) ?_
      first
      | (exact ⟨_, _, _, rfl, hM, kp, rfl, Or.inl ⟨by omega, by omega, by omega, by omega, rfl, rfl⟩⟩)
      | (exact ⟨_, _, _, rfl, hM, kp, rfl, Or.inr ⟨by omega, rfl, rfl⟩⟩)
      | (exfalso; omega)
end M1
