/-! the class: laws by told words, powers, nearly, turned -/
section C3
variable {l : Launch} {E : AbE} {h0 : AbH}
theorem c_told_13 {a w g gw N : Nat} {f : Int → Int} {n : Int} {b g2 L : Nat} {t : Int → Int} (n0 : 1 ≤ n) (n1 : n ≤ N) (n4 : N ≤ 400) (hL : L ≤ n) (ho : h0 a = some (kO g 6 [vR b])) (hb : h0 b = some (kI g2 L t)) (hw : h0 w = some (kI gw N f))  (fu : Nat) : ∀ (i : Int), (L + 1 - i).toNat < fu → (1 ≤ i) → (i ≤ L + 1) → (∀ j : Int, 1 ≤ j → j < i → t (L - j) = f (n - j)) → ab_T l E Y_X7_shortest 0 0 0 13 [some (vR a), some (vR w), some (vI n), some (vI i)] [] h0 (pC h0 (fun v => toS f t n L v)) := by
  induction fu with
  | zero => intro i hm; exact absurd hm (Nat.not_lt_zero _)
  | succ fu ih =>
    intro i hm i0 i1 I
    refine ab_iload_n (pc := 13) dX7_shortest_13 rfl ?_
    refine ab_aload_n (pc := 14) dX7_shortest_14 rfl ?_
    refine ab_get (pc := 15) (k := 0) okX7 ho rfl w643 rfl dX7_shortest_15 ?_
    refine ab_alen (pc := 18) hb dX7_shortest_18 ?_
    refine ab_icmp_gt (pc := 19) 50 dX7_shortest_19 (by decide) (fun c19 => ?_) (fun c19 => ?_)
    · refine ab_aload_n (pc := 50) dX7_shortest_50 rfl ?_
      refine ab_get (pc := 51) (k := 0) okX7 ho rfl w643 rfl dX7_shortest_51 ?_
      refine ab_alen (pc := 54) hb dX7_shortest_54 ?_
      refine ab_iret (pc := 55) dX7_shortest_55 rfl ?_
      refine ⟨_, rfl, rfl, Or.inr ⟨rfl, hL, fun j j0 j1 => ?_⟩⟩
      have k := I (L - j) (by omega) (by omega)
      rw [show (L : Int) - (L - j) = j by omega, show n - ((L : Int) - j) = n - L + j by omega] at k
      exact k.symm
    · refine ab_aload_n (pc := 22) dX7_shortest_22 rfl ?_
      refine ab_get (pc := 23) (k := 0) okX7 ho rfl w643 rfl dX7_shortest_23 ?_
      refine ab_aload_n (pc := 26) dX7_shortest_26 rfl ?_
      refine ab_get (pc := 27) (k := 0) okX7 ho rfl w643 rfl dX7_shortest_27 ?_
      refine ab_alen (pc := 30) hb dX7_shortest_30 ?_
      refine ab_iload_n (pc := 31) dX7_shortest_31 rfl ?_
      refine ab_isub (pc := 32) dX7_shortest_32 (by omega) (by omega) ?_
      refine ab_iald (pc := 33) hb (by omega) (by omega) dX7_shortest_33 ?_
      refine ab_aload_n (pc := 34) dX7_shortest_34 rfl ?_
      refine ab_iload_n (pc := 35) dX7_shortest_35 rfl ?_
      refine ab_iload_n (pc := 36) dX7_shortest_36 rfl ?_
      refine ab_isub (pc := 37) dX7_shortest_37 (by omega) (by omega) ?_
      refine ab_iald (pc := 38) hw (by omega) (by omega) dX7_shortest_38 ?_
      refine ab_icmp_eq (pc := 39) 44 dX7_shortest_39 (by decide) (fun c39 => ?_) (fun c39 => ?_)
      · refine ab_iinc (pc := 44) dX7_shortest_44 rfl rfl (by decide) (by omega) (by omega) ?_
        refine ab_goto (pc := 47) 13 dX7_shortest_47 (by decide) ?_
        refine ih (i + 1) (by omega) (by omega) (by omega) (fun j j0 j1 => ?_)
        by_cases e : j = i
        · rw [e]; exact c39
        · exact I j j0 (by omega)
      · refine ab_iconst (pc := 42) dX7_shortest_42 (by decide) ?_
        refine ab_iret (pc := 43) dX7_shortest_43 rfl ?_
        exact ⟨_, rfl, rfl, Or.inl ⟨rfl, Or.inr ⟨L - i, by omega, by omega, by rw [show n - (L : Int) + (L - i) = n - i by omega]; exact fun e => c39 e.symm⟩⟩⟩
theorem c_told (hG : ab_G l E) {a w g gw N : Nat} {f : Int → Int} {n : Int} {b g2 L : Nat} {t : Int → Int} (ho : h0 a = some (kO g 6 [vR b])) (hb : h0 b = some (kI g2 L t)) (hw : h0 w = some (kI gw N f)) (n0 : 1 ≤ n) (n1 : n ≤ N) (n4 : N ≤ 400) : ab_M l E Y_X7_shortest 4 0 0 0 [vR a, vR w, vI n] h0 (pC h0 (fun v => toS f t n L v)) := by
  refine ab_M.of (L0 := [some (vR a), some (vR w), some (vI n), none]) hG rfl rfl (Nat.le_of_ble_eq_true rfl) rfl ?_
  refine ab_aload_n (pc := 0) dX7_shortest_0 rfl ?_
  refine ab_get (pc := 1) (k := 0) okX7 ho rfl w643 rfl dX7_shortest_1 ?_
  refine ab_alen (pc := 4) hb dX7_shortest_4 ?_
  refine ab_iload_n (pc := 5) dX7_shortest_5 rfl ?_
  refine ab_icmp_le (pc := 6) 11 dX7_shortest_6 (by decide) (fun c6 => ?_) (fun c6 => ?_)
  · refine ab_iconst (pc := 11) dX7_shortest_11 (by decide) ?_
    refine ab_istore_n (pc := 12) dX7_shortest_12 rfl (Nat.le_of_ble_eq_true rfl) ?_
    exact c_told_13 n0 n1 n4 (by omega) ho hb hw _ 1 (Nat.lt_succ_self _) (by omega) (by omega) (fun j j0 j1 => absurd j1 (by omega))
  · refine ab_iconst (pc := 9) dX7_shortest_9 (by decide) ?_
    refine ab_iret (pc := 10) dX7_shortest_10 rfl ?_
    exact ⟨_, rfl, rfl, Or.inl ⟨rfl, Or.inl (by omega)⟩⟩
theorem c_power_27 {a w g gw N : Nat} {f : Int → Int} {n : Int} {u lo al : Int} {p : Int} (n0 : 1 ≤ n) (n1 : n ≤ N) (n4 : N ≤ 400) (hb : pwB u lo al) (p1 : 1 ≤ p) (p2 : p < n) (I1 : ∀ z p2 : Int, 1 ≤ z → z ≤ n → 1 ≤ p2 → p2 < p → isP f (n - z) n p2 → ¬ p2 * u + al ≤ z * lo) (hO : (∀ z p2 : Int, 1 ≤ z → z ≤ n → 1 ≤ p2 → p2 < (p + 1) → isP f (n - z) n p2 → ¬ p2 * u + al ≤ z * lo) → ∀ x4 x5 : Option AbV, ab_T l E Y_X3_shortest 0 0 0 92 [some (vR a), some (vR w), some (vI n), some (vI p), x4, x5] [] h0 (pC h0 (fun v => pwS f n u lo al v))) (ho : h0 a = some (kO g 2 [vI u, vI lo, vI al])) (hw : h0 w = some (kI gw N f))  (fu : Nat) : ∀ (size : Int) (x5 : Option AbV), (n + 1 - size).toNat < fu → (p + 1 ≤ size) → (size ≤ n + 1) → (isP f (n - size + 1) n p) → (∀ z : Int, 1 ≤ z → z < size → ¬ p * u + al ≤ z * lo) → ab_T l E Y_X3_shortest 0 0 0 27 [some (vR a), some (vR w), some (vI n), some (vI p), some (vI size), x5] [] h0 (pC h0 (fun v => pwS f n u lo al v)) := by
  induction fu with
  | zero => intro size x5 hm; exact absurd hm (Nat.not_lt_zero _)
  | succ fu ih =>
    intro size x5 hm s0 s1 I2 I3
    have r1 := pw_r (x := p) (u := u) (by omega) (by omega) (by unfold pwB at hb; omega) (by unfold pwB at hb; omega)
    have r2 := pw_r (x := size) (u := lo) (by omega) (by omega) (by unfold pwB at hb; omega) (by unfold pwB at hb; omega)
    have hb9 := hb
    unfold pwB at hb9
    refine ab_iload (pc := 27) dX3_shortest_27 rfl ?_
    refine ab_iload_n (pc := 29) dX3_shortest_29 rfl ?_
    refine ab_icmp_gt (pc := 30) 92 dX3_shortest_30 (by decide) (fun c30 => ?_) (fun c30 => ?_)
    · refine hO (fun z p2 z0 z1 p20 p21 hp hc => ?_) _ _
      by_cases e : p2 = p
      · subst e
        by_cases ez : z < size
        · exact I3 z z0 ez hc
        · first | omega | exact c47 (hp (n - size) (by omega) (by omega))
      · exact I1 z p2 z0 z1 p20 (by omega) hp hc
    · refine ab_aload_n (pc := 33) dX3_shortest_33 rfl ?_
      refine ab_iload_n (pc := 34) dX3_shortest_34 rfl ?_
      refine ab_iload (pc := 35) dX3_shortest_35 rfl ?_
      refine ab_isub (pc := 37) dX3_shortest_37 (by omega) (by omega) ?_
      refine ab_iald (pc := 38) hw (by omega) (by omega) dX3_shortest_38 ?_
      refine ab_aload_n (pc := 39) dX3_shortest_39 rfl ?_
      refine ab_iload_n (pc := 40) dX3_shortest_40 rfl ?_
      refine ab_iload (pc := 41) dX3_shortest_41 rfl ?_
      refine ab_isub (pc := 43) dX3_shortest_43 (by omega) (by omega) ?_
      refine ab_iload_n (pc := 44) dX3_shortest_44 rfl ?_
      refine ab_iadd (pc := 45) dX3_shortest_45 (by omega) (by omega) ?_
      refine ab_iald (pc := 46) hw (by omega) (by omega) dX3_shortest_46 ?_
      refine ab_icmp_ne (pc := 47) 92 dX3_shortest_47 (by decide) (fun c47 => ?_) (fun c47 => ?_)
      · refine hO (fun z p2 z0 z1 p20 p21 hp hc => ?_) _ _
        by_cases e : p2 = p
        · subst e
          by_cases ez : z < size
          · exact I3 z z0 ez hc
          · first | omega | exact c47 (hp (n - size) (by omega) (by omega))
        · exact I1 z p2 z0 z1 p20 (by omega) hp hc
      · refine ab_iload (pc := 50) dX3_shortest_50 rfl ?_
        refine ab_aload_n (pc := 52) dX3_shortest_52 rfl ?_
        refine ab_get (pc := 53) (k := 1) okX3 ho rfl w55 rfl dX3_shortest_53 ?_
        refine ab_imul (pc := 56) dX3_shortest_56 (by omega) (by omega) ?_
        refine ab_iload_n (pc := 57) dX3_shortest_57 rfl ?_
        refine ab_aload_n (pc := 58) dX3_shortest_58 rfl ?_
        refine ab_get (pc := 59) (k := 0) okX3 ho rfl w54 rfl dX3_shortest_59 ?_
        refine ab_imul (pc := 62) dX3_shortest_62 (by omega) (by omega) ?_
        refine ab_isub (pc := 63) dX3_shortest_63 (by omega) (by omega) ?_
        refine ab_istore (pc := 64) dX3_shortest_64 rfl (Nat.le_of_ble_eq_true rfl) ?_
        refine ab_iload (pc := 66) dX3_shortest_66 rfl ?_
        refine ab_if_gt (pc := 68) 83 dX3_shortest_68 (by decide) (fun c68 => ?_) (fun c68 => ?_)
        · refine ab_iload (pc := 83) dX3_shortest_83 rfl ?_
          refine ab_iret (pc := 85) dX3_shortest_85 rfl ?_
          refine ⟨_, rfl, rfl, Or.inr ⟨by omega, by omega, ⟨p, p1, isP_more I2 c47, by omega⟩, fun z p2 z0 z1 p20 hp hc => ?_⟩⟩
          by_cases e : p2 < p
          · exact I1 z p2 z0 (by omega) p20 e hp hc
          · exact I3 z z0 z1 (pw_p hb (by omega) hc)
        · refine ab_iload (pc := 71) dX3_shortest_71 rfl ?_
          refine ab_if_ne (pc := 73) 86 dX3_shortest_73 (by decide) (fun c73 => ?_) (fun c73 => ?_)
          · refine ab_iinc (pc := 86) dX3_shortest_86 rfl rfl (by decide) (by omega) (by omega) ?_
            refine ab_goto (pc := 89) 27 dX3_shortest_89 (by decide) ?_
            refine ih (size + 1) _ (by omega) (by omega) (by omega) (by rw [show n - (size + 1) + 1 = n - size by omega]; exact isP_more I2 c47) (fun z z0 z1 => ?_)
            by_cases e : z = size
            · rw [e]; omega
            · exact I3 z z0 (by omega)
          · refine ab_aload_n (pc := 76) dX3_shortest_76 rfl ?_
            refine ab_get (pc := 77) (k := 2) okX3 ho rfl w56 rfl dX3_shortest_77 ?_
            refine ab_if_ne (pc := 80) 86 dX3_shortest_80 (by decide) (fun c80 => ?_) (fun c80 => ?_)
            · refine ab_iinc (pc := 86) dX3_shortest_86 rfl rfl (by decide) (by omega) (by omega) ?_
              refine ab_goto (pc := 89) 27 dX3_shortest_89 (by decide) ?_
              refine ih (size + 1) _ (by omega) (by omega) (by omega) (by rw [show n - (size + 1) + 1 = n - size by omega]; exact isP_more I2 c47) (fun z z0 z1 => ?_)
              by_cases e : z = size
              · rw [e]; omega
              · exact I3 z z0 (by omega)
            · refine ab_iload (pc := 83) dX3_shortest_83 rfl ?_
              refine ab_iret (pc := 85) dX3_shortest_85 rfl ?_
              refine ⟨_, rfl, rfl, Or.inr ⟨by omega, by omega, ⟨p, p1, isP_more I2 c47, by omega⟩, fun z p2 z0 z1 p20 hp hc => ?_⟩⟩
              by_cases e : p2 < p
              · exact I1 z p2 z0 (by omega) p20 e hp hc
              · exact I3 z z0 z1 (pw_p hb (by omega) hc)
theorem c_power_2 {a w g gw N : Nat} {f : Int → Int} {n : Int} {u lo al : Int} (n0 : 1 ≤ n) (n1 : n ≤ N) (n4 : N ≤ 400) (hb : pwB u lo al) (ho : h0 a = some (kO g 2 [vI u, vI lo, vI al])) (hw : h0 w = some (kI gw N f))  (fu : Nat) : ∀ (p : Int) (x4 x5 : Option AbV), (n - p).toNat < fu → (1 ≤ p) → (p ≤ n) → (∀ z p2 : Int, 1 ≤ z → z ≤ n → 1 ≤ p2 → p2 < p → isP f (n - z) n p2 → ¬ p2 * u + al ≤ z * lo) → ab_T l E Y_X3_shortest 0 0 0 2 [some (vR a), some (vR w), some (vI n), some (vI p), x4, x5] [] h0 (pC h0 (fun v => pwS f n u lo al v)) := by
  induction fu with
  | zero => intro p x4 x5 hm; exact absurd hm (Nat.not_lt_zero _)
  | succ fu ih =>
    intro p x4 x5 hm p1 p9 I1
    have r1 := pw_r (x := p) (u := u) (by omega) (by omega) (by unfold pwB at hb; omega) (by unfold pwB at hb; omega)
    have r2 := pw_r (x := n) (u := lo) (by omega) (by omega) (by unfold pwB at hb; omega) (by unfold pwB at hb; omega)
    refine ab_iload_n (pc := 2) dX3_shortest_2 rfl ?_
    refine ab_iload_n (pc := 3) dX3_shortest_3 rfl ?_
    refine ab_icmp_ge (pc := 4) 98 dX3_shortest_4 (by decide) (fun c4 => ?_) (fun c4 => ?_)
    · refine ab_iconst (pc := 98) dX3_shortest_98 (by decide) ?_
      refine ab_iret (pc := 99) dX3_shortest_99 rfl ?_
      refine ⟨_, rfl, rfl, Or.inl ⟨rfl, fun z p2 z0 z1 p20 hp hc => ?_⟩⟩
      by_cases e : p2 < p
      · exact I1 z p2 z0 z1 p20 e hp hc
      · first | exact pw_small hb (by omega) (by omega) (pw_p hb (show p ≤ p2 by omega) hc) | (have q1 := pw_p hb (show p ≤ p2 by omega) hc; have q2 := Int.mul_le_mul_of_nonneg_right z1 (show 0 ≤ lo by unfold pwB at hb; omega); unfold pwB at hb; omega)
    · refine ab_iload_n (pc := 7) dX3_shortest_7 rfl ?_
      refine ab_aload_n (pc := 8) dX3_shortest_8 rfl ?_
      refine ab_get (pc := 9) (k := 0) okX3 ho rfl w54 rfl dX3_shortest_9 ?_
      refine ab_imul (pc := 12) dX3_shortest_12 (by omega) (by omega) ?_
      refine ab_iload_n (pc := 13) dX3_shortest_13 rfl ?_
      refine ab_aload_n (pc := 14) dX3_shortest_14 rfl ?_
      refine ab_get (pc := 15) (k := 1) okX3 ho rfl w55 rfl dX3_shortest_15 ?_
      refine ab_imul (pc := 18) dX3_shortest_18 (by omega) (by omega) ?_
      refine ab_icmp_gt (pc := 19) 98 dX3_shortest_19 (by decide) (fun c19 => ?_) (fun c19 => ?_)
      · refine ab_iconst (pc := 98) dX3_shortest_98 (by decide) ?_
        refine ab_iret (pc := 99) dX3_shortest_99 rfl ?_
        refine ⟨_, rfl, rfl, Or.inl ⟨rfl, fun z p2 z0 z1 p20 hp hc => ?_⟩⟩
        by_cases e : p2 < p
        · exact I1 z p2 z0 z1 p20 e hp hc
        · first | exact pw_small hb (by omega) (by omega) (pw_p hb (show p ≤ p2 by omega) hc) | (have q1 := pw_p hb (show p ≤ p2 by omega) hc; have q2 := Int.mul_le_mul_of_nonneg_right z1 (show 0 ≤ lo by unfold pwB at hb; omega); unfold pwB at hb; omega)
      · have hO : (∀ z p2 : Int, 1 ≤ z → z ≤ n → 1 ≤ p2 → p2 < (p + 1) → isP f (n - z) n p2 → ¬ p2 * u + al ≤ z * lo) → ∀ x4 x5 : Option AbV, ab_T l E Y_X3_shortest 0 0 0 92 [some (vR a), some (vR w), some (vI n), some (vI p), x4, x5] [] h0 (pC h0 (fun v => pwS f n u lo al v)) := by
          intro K x4 x5
          refine ab_iinc (pc := 92) dX3_shortest_92 rfl rfl (by decide) (by omega) (by omega) ?_
          refine ab_goto (pc := 95) 2 dX3_shortest_95 (by decide) ?_
          exact ih (p + 1) _ _ (by omega) (by omega) (by omega) K
        refine ab_iload_n (pc := 22) dX3_shortest_22 rfl ?_
        refine ab_iconst (pc := 23) dX3_shortest_23 (by decide) ?_
        refine ab_iadd (pc := 24) dX3_shortest_24 (by omega) (by omega) ?_
        refine ab_istore (pc := 25) dX3_shortest_25 rfl (Nat.le_of_ble_eq_true rfl) ?_
        exact c_power_27 n0 n1 n4 hb p1 (by omega) I1 hO ho hw _ (p + 1) _ (Nat.lt_succ_self _) (by omega) (by omega) (fun i i0 i1 => absurd i1 (by omega)) (fun z z0 z1 => pw_small hb p1 (by omega))
theorem c_power (hG : ab_G l E) {a w g gw N : Nat} {f : Int → Int} {n : Int} {u lo al : Int} (ho : h0 a = some (kO g 2 [vI u, vI lo, vI al])) (hw : h0 w = some (kI gw N f)) (n0 : 1 ≤ n) (n1 : n ≤ N) (n4 : N ≤ 400) (hb : pwB u lo al) : ab_M l E Y_X3_shortest 6 0 0 0 [vR a, vR w, vI n] h0 (pC h0 (fun v => pwS f n u lo al v)) := by
  refine ab_M.of (L0 := [some (vR a), some (vR w), some (vI n), none, none, none]) hG rfl rfl (Nat.le_of_ble_eq_true rfl) rfl ?_
  refine ab_iconst (pc := 0) dX3_shortest_0 (by decide) ?_
  refine ab_istore_n (pc := 1) dX3_shortest_1 rfl (Nat.le_of_ble_eq_true rfl) ?_
  exact c_power_2 n0 n1 n4 hb ho hw _ 1 _ _ (Nat.lt_succ_self _) (by omega) (by omega) (fun z p2 _ _ _ _ => absurd ‹p2 < 1› (by omega))
theorem c_near_15 {a w g gw N : Nat} {f : Int → Int} {n : Int} {mo d : Int} {mn : Int} (n0 : 1 ≤ n) (n1 : n ≤ N) (n4 : N ≤ 400) (d0 : 1 ≤ d) (d1 : 2 * d ≤ n) (mo0 : 0 ≤ mo) (mo1 : mo ≤ 9) (m1 : (mn = mo ∧ mo ≤ d - 1) ∨ (mn = d - 1 ∧ d - 1 < mo)) (ho : h0 a = some (kO g 1 [vI mo])) (hw : h0 w = some (kI gw N f))  (fu : Nat) : ∀ (al : Int) (i : Int), (d + 1 - i).toNat < fu → (1 ≤ i) → (i ≤ d + 1) → (al = mn - dif f (n - d - (i - 1)) (n - (i - 1)) (i - 1)) → ab_T l E Y_X2_isNear 1 0 0 15 [some (vR a), some (vR w), some (vI n), some (vI d), some (vI al), some (vI i)] [] h0 (pC h0 (fun v => (v = 1 ∧ nearP f n mo d) ∨ (v = 0 ∧ ¬ nearP f n mo d))) := by
  induction fu with
  | zero => intro al i hm; exact absurd hm (Nat.not_lt_zero _)
  | succ fu ih =>
    intro al i hm i0 i1 I
    have s9 := dif_pre (f := f) (a := n - d - (i - 1)) (b := n - (i - 1)) (m := i - 1) (by omega)
    rw [show n - d - (i - 1) - 1 = n - d - i by omega, show n - (i - 1) - 1 = n - i by omega, show i - 1 + 1 = i by omega] at s9
    have bd := dif_bd (f := f) (a := n - d - (i - 1)) (b := n - (i - 1)) (n := i - 1) (by omega)
    have le := dif_le (f := f) (a := n - d - (i - 1)) (b := n - (i - 1)) (m := i - 1) (by omega) (d + 1 - i).toNat
    rw [show n - d - (i - 1) - (((d + 1 - i).toNat : Nat) : Int) = n - 2 * d by omega, show n - (i - 1) - (((d + 1 - i).toNat : Nat) : Int) = n - d by omega, show i - 1 + (((d + 1 - i).toNat : Nat) : Int) = d by omega] at le
    have fin : i = d + 1 → dif f (n - d - (i - 1)) (n - (i - 1)) (i - 1) = dif f (n - 2 * d) (n - d) d := fun e => by rw [e, show n - d - (d + 1 - 1) = n - 2 * d by omega, show n - (d + 1 - 1) = n - d by omega, show d + 1 - 1 = d by omega]
    refine ab_iload (pc := 15) dX2_isNear_15 rfl ?_
    refine ab_iload_n (pc := 17) dX2_isNear_17 rfl ?_
    refine ab_icmp_gt (pc := 18) 52 dX2_isNear_18 (by decide) (fun c18 => ?_) (fun c18 => ?_)
    · refine ab_iload (pc := 52) dX2_isNear_52 rfl ?_
      refine ab_if_lt (pc := 54) 61 dX2_isNear_54 (by decide) (fun c54 => ?_) (fun c54 => ?_)
      · refine ab_iconst (pc := 61) dX2_isNear_61 (by decide) ?_
        refine ab_zret (pc := 62) dX2_isNear_62 rfl (by omega) ?_
        refine ⟨_, rfl, rfl, ?_⟩
        unfold nearP
        first | (have e9 := fin (by omega); omega) | omega
      · refine ab_iconst (pc := 57) dX2_isNear_57 (by decide) ?_
        refine ab_goto (pc := 58) 62 dX2_isNear_58 (by decide) ?_
        refine ab_zret (pc := 62) dX2_isNear_62 rfl (by omega) ?_
        refine ⟨_, rfl, rfl, ?_⟩
        unfold nearP
        first | (have e9 := fin (by omega); omega) | omega
    · refine ab_iload (pc := 21) dX2_isNear_21 rfl ?_
      refine ab_if_lt (pc := 23) 52 dX2_isNear_23 (by decide) (fun c23 => ?_) (fun c23 => ?_)
      · refine ab_iload (pc := 52) dX2_isNear_52 rfl ?_
        refine ab_if_lt (pc := 54) 61 dX2_isNear_54 (by decide) (fun c54 => ?_) (fun c54 => ?_)
        · refine ab_iconst (pc := 61) dX2_isNear_61 (by decide) ?_
          refine ab_zret (pc := 62) dX2_isNear_62 rfl (by omega) ?_
          refine ⟨_, rfl, rfl, ?_⟩
          unfold nearP
          first | (have e9 := fin (by omega); omega) | omega
        · refine ab_iconst (pc := 57) dX2_isNear_57 (by decide) ?_
          refine ab_goto (pc := 58) 62 dX2_isNear_58 (by decide) ?_
          refine ab_zret (pc := 62) dX2_isNear_62 rfl (by omega) ?_
          refine ⟨_, rfl, rfl, ?_⟩
          unfold nearP
          first | (have e9 := fin (by omega); omega) | omega
      · refine ab_aload_n (pc := 26) dX2_isNear_26 rfl ?_
        refine ab_iload_n (pc := 27) dX2_isNear_27 rfl ?_
        refine ab_iload (pc := 28) dX2_isNear_28 rfl ?_
        refine ab_isub (pc := 30) dX2_isNear_30 (by omega) (by omega) ?_
        refine ab_iald (pc := 31) hw (by omega) (by omega) dX2_isNear_31 ?_
        refine ab_aload_n (pc := 32) dX2_isNear_32 rfl ?_
        refine ab_iload_n (pc := 33) dX2_isNear_33 rfl ?_
        refine ab_iload_n (pc := 34) dX2_isNear_34 rfl ?_
        refine ab_isub (pc := 35) dX2_isNear_35 (by omega) (by omega) ?_
        refine ab_iload (pc := 36) dX2_isNear_36 rfl ?_
        refine ab_isub (pc := 38) dX2_isNear_38 (by omega) (by omega) ?_
        refine ab_iald (pc := 39) hw (by omega) (by omega) dX2_isNear_39 ?_
        refine ab_icmp_eq (pc := 40) 46 dX2_isNear_40 (by decide) (fun c40 => ?_) (fun c40 => ?_)
        · refine ab_iinc (pc := 46) dX2_isNear_46 rfl rfl (by decide) (by omega) (by omega) ?_
          refine ab_goto (pc := 49) 15 dX2_isNear_49 (by decide) ?_
          refine ih _ (i + 1) (by omega) (by omega) (by omega) ?_
          rw [show n - d - (i + 1 - 1) = n - d - i by omega, show n - (i + 1 - 1) = n - i by omega, show i + 1 - 1 = i by omega, s9]
          first | (rw [if_pos c40.symm]; omega) | (rw [if_neg (fun e => c40 e.symm)]; omega)
        · refine ab_iinc (pc := 43) dX2_isNear_43 rfl rfl (by decide) (by omega) (by omega) ?_
          refine ab_iinc (pc := 46) dX2_isNear_46 rfl rfl (by decide) (by omega) (by omega) ?_
          refine ab_goto (pc := 49) 15 dX2_isNear_49 (by decide) ?_
          refine ih _ (i + 1) (by omega) (by omega) (by omega) ?_
          rw [show n - d - (i + 1 - 1) = n - d - i by omega, show n - (i + 1 - 1) = n - i by omega, show i + 1 - 1 = i by omega, s9]
          first | (rw [if_pos c40.symm]; omega) | (rw [if_neg (fun e => c40 e.symm)]; omega)
theorem c_isNear (hG : ab_G l E) {a w g gw N : Nat} {f : Int → Int} {n : Int} {mo d : Int} (ho : h0 a = some (kO g 1 [vI mo])) (hw : h0 w = some (kI gw N f)) (n0 : 1 ≤ n) (n1 : n ≤ N) (n4 : N ≤ 400) (d0 : 1 ≤ d) (d1 : 2 * d ≤ n) (mo0 : 0 ≤ mo) (mo1 : mo ≤ 9) : ab_M l E Y_X2_isNear 6 1 0 0 [vR a, vR w, vI n, vI d] h0 (pC h0 (fun v => (v = 1 ∧ nearP f n mo d) ∨ (v = 0 ∧ ¬ nearP f n mo d))) := by
  refine ab_M.of (L0 := [some (vR a), some (vR w), some (vI n), some (vI d), none, none]) hG rfl rfl (Nat.le_of_ble_eq_true rfl) rfl ?_
  refine ab_aload_n (pc := 0) dX2_isNear_0 rfl ?_
  refine ab_get (pc := 1) (k := 0) okX2 ho rfl w691 rfl dX2_isNear_1 ?_
  refine ab_iload_n (pc := 4) dX2_isNear_4 rfl ?_
  refine ab_iconst (pc := 5) dX2_isNear_5 (by decide) ?_
  refine ab_isub (pc := 6) dX2_isNear_6 (by omega) (by omega) ?_
  refine ab_callS (pc := 7) (c_min hG) ⟨w766, w19, w378, by decide, pd18⟩ w377 rfl (by decide) (by decide) (Nat.le_of_ble_eq_true rfl) rfl dX2_isNear_7 (fun _ _ hx => absurd hx pC_no) ?_
  rintro _ _ ⟨mv, e9, rfl, hmv⟩
  cases e9
  refine ab_istore (pc := 10) dX2_isNear_10 rfl (Nat.le_of_ble_eq_true rfl) ?_
  refine ab_iconst (pc := 12) dX2_isNear_12 (by decide) ?_
  refine ab_istore (pc := 13) dX2_isNear_13 rfl (Nat.le_of_ble_eq_true rfl) ?_
  refine c_near_15 n0 n1 n4 d0 d1 mo0 mo1 hmv ho hw _ _ 1 (Nat.lt_succ_self _) (by omega) (by omega) ?_
  show mv = mv - 0
  omega
theorem c_nears_2 {a w g gw N : Nat} {f : Int → Int} {n : Int} {mo : Int} (hG : ab_G l E) (n0 : 1 ≤ n) (n1 : n ≤ N) (n4 : N ≤ 400) (mo0 : 0 ≤ mo) (mo1 : mo ≤ 9) (ho : h0 a = some (kO g 1 [vI mo])) (hw : h0 w = some (kI gw N f))  (fu : Nat) : ∀ (d : Int), (n - d).toNat < fu → (1 ≤ d) → (2 * d ≤ n + 2) → (∀ d' : Int, 1 ≤ d' → d' < d → ¬ nearP f n mo d') → ab_T l E Y_X2_shortest 2 0 0 2 [some (vR a), some (vR w), some (vI n), some (vI d)] [] h0 (pC h0 (fun v => neS f n mo v)) := by
  induction fu with
  | zero => intro d hm; exact absurd hm (Nat.not_lt_zero _)
  | succ fu ih =>
    intro d hm d0 d9 I
    refine ab_iconst (pc := 2) dX2_shortest_2 (by decide) ?_
    refine ab_iload_n (pc := 3) dX2_shortest_3 rfl ?_
    refine ab_imul (pc := 4) dX2_shortest_4 (by omega) (by omega) ?_
    refine ab_iload_n (pc := 5) dX2_shortest_5 rfl ?_
    refine ab_icmp_gt (pc := 6) 29 dX2_shortest_6 (by decide) (fun c6 => ?_) (fun c6 => ?_)
    · refine ab_iconst (pc := 29) dX2_shortest_29 (by decide) ?_
      refine ab_iret (pc := 30) dX2_shortest_30 rfl ?_
      exact ⟨_, rfl, rfl, Or.inl ⟨rfl, fun d' a1 a2 => I d' a1 (by omega)⟩⟩
    · refine ab_aload_n (pc := 9) dX2_shortest_9 rfl ?_
      refine ab_aload_n (pc := 10) dX2_shortest_10 rfl ?_
      refine ab_iload_n (pc := 11) dX2_shortest_11 rfl ?_
      refine ab_iload_n (pc := 12) dX2_shortest_12 rfl ?_
      refine ab_callV (pc := 13) (c_isNear hG ho hw n0 n1 n4 d0 (by omega) mo0 mo1) ho rfl ⟨w762, w27, w765, by decide, pd50⟩ w764 sp9 rfl (by decide) (by decide) (Nat.le_of_ble_eq_true rfl) rfl dX2_shortest_13 (fun _ _ hx => absurd hx pC_no) ?_
      rintro _ _ ⟨bv, e9, rfl, hbv⟩
      cases e9
      refine ab_if_eq (pc := 16) 23 dX2_shortest_16 (by decide) (fun c16 => ?_) (fun c16 => ?_)
      · refine ab_iinc (pc := 23) dX2_shortest_23 rfl rfl (by decide) (by omega) (by omega) ?_
        refine ab_goto (pc := 26) 2 dX2_shortest_26 (by decide) ?_
        refine ih (d + 1) (by omega) (by omega) (by omega) (fun d' a1 a2 => ?_)
        by_cases e : d' = d
        · rw [e]; rcases hbv with ⟨b1, b2⟩ | ⟨b1, b2⟩
          · exact absurd c16 (by omega)
          · exact b2
        · exact I d' a1 (by omega)
      · refine ab_iconst (pc := 19) dX2_shortest_19 (by decide) ?_
        refine ab_iload_n (pc := 20) dX2_shortest_20 rfl ?_
        refine ab_imul (pc := 21) dX2_shortest_21 (by omega) (by omega) ?_
        refine ab_iret (pc := 22) dX2_shortest_22 rfl ?_
        refine ⟨_, rfl, rfl, Or.inr ⟨d, d0, by omega, rfl, ?_, I⟩⟩
        rcases hbv with ⟨b1, b2⟩ | ⟨b1, b2⟩
        · exact b2
        · exact absurd b1 c16
theorem c_near (hG : ab_G l E) {a w g gw N : Nat} {f : Int → Int} {n : Int} {mo : Int} (ho : h0 a = some (kO g 1 [vI mo])) (hw : h0 w = some (kI gw N f)) (n0 : 1 ≤ n) (n1 : n ≤ N) (n4 : N ≤ 400) (mo0 : 0 ≤ mo) (mo1 : mo ≤ 9) : ab_M l E Y_X2_shortest 4 2 0 0 [vR a, vR w, vI n] h0 (pC h0 (fun v => neS f n mo v)) := by
  refine ab_M.of (L0 := [some (vR a), some (vR w), some (vI n), none]) hG rfl rfl (Nat.le_of_ble_eq_true rfl) rfl ?_
  refine ab_iconst (pc := 0) dX2_shortest_0 (by decide) ?_
  refine ab_istore_n (pc := 1) dX2_shortest_1 rfl (Nat.le_of_ble_eq_true rfl) ?_
  exact c_nears_2 hG n0 n1 n4 mo0 mo1 ho hw _ 1 (Nat.lt_succ_self _) (by omega) (by omega) (fun d' a1 a2 => absurd a2 (by omega))
theorem lsh_wt {x : Int} (h0 : 0 ≤ x) (h1 : x ≤ 7) : ab_lsh 1 (8 * x) = wt x := by
  have : x = 0 ∨ x = 1 ∨ x = 2 ∨ x = 3 ∨ x = 4 ∨ x = 5 ∨ x = 6 ∨ x = 7 := by omega
  rcases this with e | e | e | e | e | e | e | e <;> (subst e; decide)
theorem c_weight (hG : ab_G l E) {x : Int}  (x0 : 0 ≤ x) (x1 : x ≤ 7) : ab_M l E Y_X8_weight 1 0 0 0 [vI x] h0 (pJ h0 (fun v => v = wt x)) := by
  refine ab_M.of (L0 := [some (vI x)]) hG rfl rfl (Nat.le_of_ble_eq_true rfl) rfl ?_
  refine ab_lconst (pc := 0) dX8_weight_0 1 rfl ?_
  refine ab_bipush (pc := 1) dX8_weight_1 (by decide) ?_
  refine ab_iload_n (pc := 3) dX8_weight_3 rfl ?_
  refine ab_imul (pc := 4) dX8_weight_4 (by omega) (by omega) ?_
  refine ab_lshl (pc := 5) dX8_weight_5 ?_
  refine ab_lret (pc := 6) dX8_weight_6 rfl ?_
  exact ⟨_, rfl, rfl, lsh_wt x0 x1⟩
theorem c_turn_5 {a w g gw N : Nat} {f : Int → Int} {n : Int} (hG : ab_G l E) (n0 : 1 ≤ n) (n1 : n ≤ N) (n4 : N ≤ 400) (n60 : n ≤ 60) (hf : ∀ i : Int, 0 ≤ i → i < n → 0 ≤ f i ∧ f i ≤ 7) (ho : h0 a = some (kO g 7 [])) (hw : h0 w = some (kI gw N f))  (fu : Nat) : ∀ (d : Int), (n - d).toNat < fu → (1 ≤ d) → (2 * d ≤ n + 2) → (∀ d' : Int, 1 ≤ d' → d' < d → ¬ trP f n d') → ab_T l E Y_X8_shortest 1 0 0 5 [some (vR a), some (vR w), some (vI n), some (vL (sw f (n - (d - 1)) (d - 1) - sw f (n - 2 * (d - 1)) (d - 1))), none, some (vI d)] [] h0 (pC h0 (fun v => trS f n v)) := by
  induction fu with
  | zero => intro d hm; exact absurd hm (Nat.not_lt_zero _)
  | succ fu ih =>
    intro d hm d0 d9 I
    have nx := tr_next (f := f) (n := n) (m := d - 1) (by omega)
    rw [show d - 1 + 1 = d by omega] at nx
    have k1 := sw_bd (f := f) (a := n - (d - 1)) (i := d - 1) (by omega)
    have k2 := sw_bd (f := f) (a := n - 2 * (d - 1)) (i := d - 1) (by omega)
    have k3 := wt_bd (f (n - d))
    have k4 := wt_bd (f (n - 2 * d))
    have k5 := wt_bd (f (n - 2 * d + 1))
    refine ab_iconst (pc := 5) dX8_shortest_5 (by decide) ?_
    refine ab_iload (pc := 6) dX8_shortest_6 rfl ?_
    refine ab_imul (pc := 8) dX8_shortest_8 (by omega) (by omega) ?_
    refine ab_iload_n (pc := 9) dX8_shortest_9 rfl ?_
    refine ab_icmp_gt (pc := 10) 72 dX8_shortest_10 (by decide) (fun c10 => ?_) (fun c10 => ?_)
    · refine ab_iconst (pc := 72) dX8_shortest_72 (by decide) ?_
      refine ab_iret (pc := 73) dX8_shortest_73 rfl ?_
      exact ⟨_, rfl, rfl, Or.inl ⟨rfl, fun d' a1 a2 => I d' a1 (by omega)⟩⟩
    · refine ab_lload_n (pc := 13) dX8_shortest_13 rfl ?_
      refine ab_ldc2 (pc := 14) dX8_shortest_14 w790 ?_
      refine ab_aload_n (pc := 17) dX8_shortest_17 rfl ?_
      refine ab_iload_n (pc := 18) dX8_shortest_18 rfl ?_
      refine ab_iload (pc := 19) dX8_shortest_19 rfl ?_
      refine ab_isub (pc := 21) dX8_shortest_21 (by omega) (by omega) ?_
      refine ab_iald (pc := 22) hw (by omega) (by omega) dX8_shortest_22 ?_
      refine ab_callS (pc := 23) (c_weight hG (hf _ (by omega) (by omega)).1 (hf _ (by omega) (by omega)).2) ⟨w791, w28, w793, by decide, pd57⟩ w792 rfl (by decide) (by decide) (Nat.le_of_ble_eq_true rfl) rfl dX8_shortest_23 (fun _ _ hx => absurd hx pJ_no) ?_
      rintro _ _ ⟨wv1, e9, rfl, hw1⟩
      cases e9
      refine ab_lmul (pc := 26) dX8_shortest_26 ?_
      rw [show Int64.toInt 2 = 2 by decide, hw1, w64_id (by omega) (by omega)]
      refine ab_aload_n (pc := 27) dX8_shortest_27 rfl ?_
      refine ab_iload_n (pc := 28) dX8_shortest_28 rfl ?_
      refine ab_iconst (pc := 29) dX8_shortest_29 (by decide) ?_
      refine ab_iload (pc := 30) dX8_shortest_30 rfl ?_
      refine ab_imul (pc := 32) dX8_shortest_32 (by omega) (by omega) ?_
      refine ab_isub (pc := 33) dX8_shortest_33 (by omega) (by omega) ?_
      refine ab_iald (pc := 34) hw (by omega) (by omega) dX8_shortest_34 ?_
      refine ab_callS (pc := 35) (c_weight hG (hf _ (by omega) (by omega)).1 (hf _ (by omega) (by omega)).2) ⟨w791, w28, w793, by decide, pd57⟩ w792 rfl (by decide) (by decide) (Nat.le_of_ble_eq_true rfl) rfl dX8_shortest_35 (fun _ _ hx => absurd hx pJ_no) ?_
      rintro _ _ ⟨wv2, e9, rfl, hw2⟩
      cases e9
      refine ab_lsub (pc := 38) dX8_shortest_38 ?_
      rw [hw2, w64_id (by omega) (by omega)]
      refine ab_aload_n (pc := 39) dX8_shortest_39 rfl ?_
      refine ab_iload_n (pc := 40) dX8_shortest_40 rfl ?_
      refine ab_iconst (pc := 41) dX8_shortest_41 (by decide) ?_
      refine ab_iload (pc := 42) dX8_shortest_42 rfl ?_
      refine ab_imul (pc := 44) dX8_shortest_44 (by omega) (by omega) ?_
      refine ab_isub (pc := 45) dX8_shortest_45 (by omega) (by omega) ?_
      refine ab_iconst (pc := 46) dX8_shortest_46 (by decide) ?_
      refine ab_iadd (pc := 47) dX8_shortest_47 (by omega) (by omega) ?_
      refine ab_iald (pc := 48) hw (by omega) (by omega) dX8_shortest_48 ?_
      refine ab_callS (pc := 49) (c_weight hG (hf _ (by omega) (by omega)).1 (hf _ (by omega) (by omega)).2) ⟨w791, w28, w793, by decide, pd57⟩ w792 rfl (by decide) (by decide) (Nat.le_of_ble_eq_true rfl) rfl dX8_shortest_49 (fun _ _ hx => absurd hx pJ_no) ?_
      rintro _ _ ⟨wv3, e9, rfl, hw3⟩
      cases e9
      refine ab_lsub (pc := 52) dX8_shortest_52 ?_
      rw [hw3, w64_id (by omega) (by omega)]
      refine ab_ladd (pc := 53) dX8_shortest_53 ?_
      rw [w64_id (by omega) (by omega), ← nx]
      refine ab_lstore_n (pc := 54) dX8_shortest_54 rfl (Nat.le_of_ble_eq_true rfl) ?_
      refine ab_lload_n (pc := 55) dX8_shortest_55 rfl ?_
      refine ab_lconst (pc := 56) dX8_shortest_56 0 rfl ?_
      refine ab_lcm (pc := 57) dX8_shortest_57 ?_
      refine ab_if_ne (pc := 58) 66 dX8_shortest_58 (by decide) (fun c58 => ?_) (fun c58 => ?_)
      · rw [lcmp_0] at c58
        refine ab_iinc (pc := 66) dX8_shortest_66 rfl rfl (by decide) (by omega) (by omega) ?_
        refine ab_goto (pc := 69) 5 dX8_shortest_69 (by decide) ?_
        have g9 := ih (d + 1) (by omega) (by omega) (by omega) (fun d' a1 a2 => by by_cases e : d' = d; (rw [e]; exact c58); exact I d' a1 (by omega))
        rw [show d + 1 - 1 = d by omega] at g9
        exact g9
      · rw [lcmp_0] at c58
        refine ab_iconst (pc := 61) dX8_shortest_61 (by decide) ?_
        refine ab_iload (pc := 62) dX8_shortest_62 rfl ?_
        refine ab_imul (pc := 64) dX8_shortest_64 (by omega) (by omega) ?_
        refine ab_iret (pc := 65) dX8_shortest_65 rfl ?_
        exact ⟨_, rfl, rfl, Or.inr ⟨d, d0, by omega, rfl, c58, I⟩⟩
theorem c_turn (hG : ab_G l E) {a w g gw N : Nat} {f : Int → Int} {n : Int} (ho : h0 a = some (kO g 7 [])) (hw : h0 w = some (kI gw N f)) (n0 : 1 ≤ n) (n1 : n ≤ N) (n4 : N ≤ 400) (n60 : n ≤ 60) (hf : ∀ i : Int, 0 ≤ i → i < n → 0 ≤ f i ∧ f i ≤ 7) : ab_M l E Y_X8_shortest 6 1 0 0 [vR a, vR w, vI n] h0 (pC h0 (fun v => trS f n v)) := by
  refine ab_M.of (L0 := [some (vR a), some (vR w), some (vI n), none, none, none]) hG rfl rfl (Nat.le_of_ble_eq_true rfl) rfl ?_
  refine ab_lconst (pc := 0) dX8_shortest_0 0 rfl ?_
  refine ab_lstore_n (pc := 1) dX8_shortest_1 rfl (Nat.le_of_ble_eq_true rfl) ?_
  refine ab_iconst (pc := 2) dX8_shortest_2 (by decide) ?_
  refine ab_istore (pc := 3) dX8_shortest_3 rfl (Nat.le_of_ble_eq_true rfl) ?_
  exact c_turn_5 hG n0 n1 n4 n60 hf ho hw _ 1 (Nat.lt_succ_self _) (by omega) (by omega) (fun d' a1 a2 => absurd a2 (by omega))
end C3
