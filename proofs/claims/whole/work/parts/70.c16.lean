/-! the class: powers and runs -/
section C16
variable {l : Launch} {E : AbE} {h0 : AbH}
theorem c_pe_5 {w g N : Nat} {f : Int → Int} {i n p : Int} (i0 : 0 ≤ i) (p1 : 1 ≤ p) (ip : i + p ≤ n) (nN : n ≤ N) (N4 : N ≤ 400) (hw : h0 w = some (kI g N f))  (fu : Nat) : ∀ (j : Int), (n - j).toNat < fu → (i + p ≤ j) → (j ≤ n) → (∀ t : Int, i + p ≤ t → t < j → f t = f (t - p)) → ab_T l E Y_X9_periodEnd 0 0 0 5 [some (vR w), some (vI i), some (vI n), some (vI p), some (vI j)] [] h0 (pC h0 (fun v => v = pe f i n p)) := by
  induction fu with
  | zero => intro j hms9; exact absurd hms9 (Nat.not_lt_zero _)
  | succ fu ih =>
    intro j hms9 j0 j1 I
    refine ab_iload (pc := 5) dX9_periodEnd_5 rfl ?_
    refine ab_iload_n (pc := 7) dX9_periodEnd_7 rfl ?_
    refine ab_icmp_ge (pc := 8) 40 dX9_periodEnd_8 (by decide) (fun c8 => ?_) (fun c8 => ?_)
    · refine ab_iload_n (pc := 40) dX9_periodEnd_40 rfl ?_
      refine ab_iret (pc := 41) dX9_periodEnd_41 rfl ?_
      obtain rfl : j = n := by omega
      exact ⟨_, rfl, rfl, pe_uniq j0 j1 I (Or.inl rfl)⟩
    · refine ab_iload (pc := 11) dX9_periodEnd_11 rfl ?_
      refine ab_aload_n (pc := 13) dX9_periodEnd_13 rfl ?_
      refine ab_alen (pc := 14) hw dX9_periodEnd_14 ?_
      refine ab_icmp_ge (pc := 15) 40 dX9_periodEnd_15 (by decide) (fun c15 => ?_) (fun c15 => ?_)
      · refine ab_iload_n (pc := 40) dX9_periodEnd_40 rfl ?_
        refine ab_iret (pc := 41) dX9_periodEnd_41 rfl ?_
        obtain rfl : j = n := by omega
        exact ⟨_, rfl, rfl, pe_uniq j0 j1 I (Or.inl rfl)⟩
      · refine ab_aload_n (pc := 18) dX9_periodEnd_18 rfl ?_
        refine ab_iload (pc := 19) dX9_periodEnd_19 rfl ?_
        refine ab_iald (pc := 21) hw (by omega) (by omega) dX9_periodEnd_21 ?_
        refine ab_aload_n (pc := 22) dX9_periodEnd_22 rfl ?_
        refine ab_iload (pc := 23) dX9_periodEnd_23 rfl ?_
        refine ab_iload_n (pc := 25) dX9_periodEnd_25 rfl ?_
        refine ab_isub (pc := 26) dX9_periodEnd_26 (by omega) (by omega) ?_
        refine ab_iald (pc := 27) hw (by omega) (by omega) dX9_periodEnd_27 ?_
        refine ab_icmp_eq (pc := 28) 34 dX9_periodEnd_28 (by decide) (fun c28 => ?_) (fun c28 => ?_)
        · refine ab_iinc (pc := 34) dX9_periodEnd_34 rfl rfl (by decide) (by omega) (by omega) ?_
          refine ab_goto (pc := 37) 5 dX9_periodEnd_37 (by decide) ?_
          refine ih (j + 1) (by omega) (by omega) (by omega) (fun t t0 t1 => ?_)
          by_cases e : t = j
          · rw [e]; exact c28
          · exact I t t0 (by omega)
        · refine ab_iload (pc := 31) dX9_periodEnd_31 rfl ?_
          refine ab_iret (pc := 33) dX9_periodEnd_33 rfl ?_
          exact ⟨_, rfl, rfl, pe_uniq j0 j1 I (Or.inr c28)⟩
theorem c_pe (hG : ab_G l E) {w g N : Nat} {f : Int → Int} {i n p : Int} (hw : h0 w = some (kI g N f)) (i0 : 0 ≤ i) (p1 : 1 ≤ p) (ip : i + p ≤ n) (nN : n ≤ N) (N4 : N ≤ 400) : ab_M l E Y_X9_periodEnd 5 0 0 0 [vR w, vI i, vI n, vI p] h0 (pC h0 (fun v => v = pe f i n p)) := by
  refine ab_M.of (L0 := [some (vR w), some (vI i), some (vI n), some (vI p), none]) hG rfl rfl (Nat.le_of_ble_eq_true rfl) rfl ?_
  refine ab_iload_n (pc := 0) dX9_periodEnd_0 rfl ?_
  refine ab_iload_n (pc := 1) dX9_periodEnd_1 rfl ?_
  refine ab_iadd (pc := 2) dX9_periodEnd_2 (by omega) (by omega) ?_
  refine ab_istore (pc := 3) dX9_periodEnd_3 rfl (Nat.le_of_ble_eq_true rfl) ?_
  exact c_pe_5 i0 p1 ip nN N4 hw _ (i + p) (Nat.lt_succ_self _) (by omega) ip (fun t t0 t1 => absurd t1 (by omega))
theorem pe_ok {f : Int → Int} {i n p : Int} (ip : i + p ≤ n) : i + p ≤ pe f i n p ∧ pe f i n p ≤ n ∧ isP f i (pe f i n p) p := by
  have h := peN_ok (f := f) (p := p) (n := n) (n - (i + p)).toNat (i + p) (Nat.le_refl _) ip
  refine ⟨h.1, h.2.1, fun j j0 j1 => ?_⟩
  have := h.2.2.1 (j + p) (by omega) j1
  rw [show j + p - p = j by omega] at this
  exact this.symm
theorem pe_full {f : Int → Int} {i n p : Int} (ip : i + p ≤ n) : pe f i n p = n ↔ isP f i n p := by
  constructor
  · intro e
    have := (pe_ok (f := f) ip).2.2
    rw [e] at this
    exact this
  · intro h
    exact (pe_uniq ip (Int.le_refl _) (fun t t0 t1 => by have := h (t - p) (by omega) (by omega); rw [show t - p + p = t by omega] at this; exact this.symm) (Or.inl rfl)).symm
theorem c_lp_2 {w g N : Nat} {f : Int → Int} {i n : Int} (hG : ab_G l E) (i0 : 0 ≤ i) (ij : i < n) (nN : n ≤ N) (N4 : N ≤ 400) (hw : h0 w = some (kI g N f))  (fu : Nat) : ∀ (p : Int), (n - p).toNat < fu → (1 ≤ p) → (p ≤ n - i) → (∀ q : Int, 1 ≤ q → q < p → ¬ isP f i n q) → ab_T l E Y_X9_leastPeriod 1 0 0 2 [some (vR w), some (vI i), some (vI n), some (vI p)] [] h0 (pC h0 (fun v => lp f i n v)) := by
  induction fu with
  | zero => intro p hms9; exact absurd hms9 (Nat.not_lt_zero _)
  | succ fu ih =>
    intro p hms9 p1 p2 I
    refine ab_iload_n (pc := 2) dX9_leastPeriod_2 rfl ?_
    refine ab_iload_n (pc := 3) dX9_leastPeriod_3 rfl ?_
    refine ab_iload_n (pc := 4) dX9_leastPeriod_4 rfl ?_
    refine ab_isub (pc := 5) dX9_leastPeriod_5 (by omega) (by omega) ?_
    refine ab_icmp_ge (pc := 6) 28 dX9_leastPeriod_6 (by decide) (fun c6 => ?_) (fun c6 => ?_)
    · refine ab_iload_n (pc := 28) dX9_leastPeriod_28 rfl ?_
      refine ab_iload_n (pc := 29) dX9_leastPeriod_29 rfl ?_
      refine ab_isub (pc := 30) dX9_leastPeriod_30 (by omega) (by omega) ?_
      refine ab_iret (pc := 31) dX9_leastPeriod_31 rfl ?_
      obtain rfl : p = n - i := by omega
      exact ⟨_, rfl, rfl, p1, by omega, fun j j0 j1 => absurd j1 (by omega), I⟩
    · refine ab_aload_n (pc := 9) dX9_leastPeriod_9 rfl ?_
      refine ab_iload_n (pc := 10) dX9_leastPeriod_10 rfl ?_
      refine ab_iload_n (pc := 11) dX9_leastPeriod_11 rfl ?_
      refine ab_iload_n (pc := 12) dX9_leastPeriod_12 rfl ?_
      refine ab_callS (pc := 13) (c_pe hG hw i0 (by omega) (by omega) nN N4) ⟨w721, w1, w723, by decide, pd52⟩ w722 rfl (by omega) (by decide) (Nat.le_of_ble_eq_true rfl) rfl dX9_leastPeriod_13 (fun _ _ hx => absurd hx pC_no) ?_
      rintro _ _ ⟨pv, e9, rfl, hpv⟩
      cases e9
      refine ab_iload_n (pc := 16) dX9_leastPeriod_16 rfl ?_
      refine ab_icmp_ne (pc := 17) 22 dX9_leastPeriod_17 (by decide) (fun c17 => ?_) (fun c17 => ?_)
      · refine ab_iinc (pc := 22) dX9_leastPeriod_22 rfl rfl (by decide) (by omega) (by omega) ?_
        refine ab_goto (pc := 25) 2 dX9_leastPeriod_25 (by decide) ?_
        refine ih (p + 1) (by omega) (by omega) (by omega) (fun q q0 q1 => ?_)
        by_cases e : q = p
        · rw [e]; exact fun k => c17 (by rw [hpv]; exact (pe_full (by omega)).mpr k)
        · exact I q q0 (by omega)
      · refine ab_iload_n (pc := 20) dX9_leastPeriod_20 rfl ?_
        refine ab_iret (pc := 21) dX9_leastPeriod_21 rfl ?_
        exact ⟨_, rfl, rfl, p1, by omega, (pe_full (by omega)).mp (by omega), I⟩
theorem c_lp (hG : ab_G l E) {w g N : Nat} {f : Int → Int} {i n : Int} (hw : h0 w = some (kI g N f)) (i0 : 0 ≤ i) (ij : i < n) (nN : n ≤ N) (N4 : N ≤ 400) : ab_M l E Y_X9_leastPeriod 4 1 0 0 [vR w, vI i, vI n] h0 (pC h0 (fun v => lp f i n v)) := by
  refine ab_M.of (L0 := [some (vR w), some (vI i), some (vI n), none]) hG rfl rfl (Nat.le_of_ble_eq_true rfl) rfl ?_
  refine ab_iconst (pc := 0) dX9_leastPeriod_0 (by decide) ?_
  refine ab_istore_n (pc := 1) dX9_leastPeriod_1 rfl (Nat.le_of_ble_eq_true rfl) ?_
  exact c_lp_2 hG i0 ij nN N4 hw _ 1 (Nat.lt_succ_self _) (by omega) (by omega) (fun q q0 q1 => absurd q1 (by omega))
theorem gcd_is {u v d : Int} (u1 : 1 ≤ u) (v1 : 1 ≤ v) (d1 : 1 ≤ d) (hu : u % d = 0) (hv : v % d = 0) (h : ∀ e : Int, d < e → e ≤ u → ¬ (u % e = 0 ∧ v % e = 0)) : gcdI u v = d := by
  have g1 := Nat.gcd_dvd_left u.toNat v.toNat
  have g2 := Nat.gcd_dvd_right u.toNat v.toNat
  have g3 := Nat.le_of_dvd (by omega) g1
  have e1 : (u.toNat : Int) = u := by omega
  have e2 : (v.toNat : Int) = v := by omega
  have e3 : (d.toNat : Int) = d := by omega
  have k1 : u % gcdI u v = 0 := Int.emod_eq_zero_of_dvd (by rw [← e1]; exact Int.natCast_dvd_natCast.mpr (by rw [Int.toNat_natCast]; exact g1))
  have k2 : v % gcdI u v = 0 := Int.emod_eq_zero_of_dvd (by rw [← e2]; exact Int.natCast_dvd_natCast.mpr (by rw [Int.toNat_natCast]; exact g2))
  have d2 : d.toNat ∣ Nat.gcd u.toNat v.toNat := by
    refine Nat.dvd_gcd ?_ ?_
    · exact Int.natCast_dvd_natCast.mp (by rw [e1, e3]; exact Int.dvd_of_emod_eq_zero hu)
    · exact Int.natCast_dvd_natCast.mp (by rw [e2, e3]; exact Int.dvd_of_emod_eq_zero hv)
  have d3 := Nat.le_of_dvd (Nat.gcd_pos_of_pos_left _ (by omega)) d2
  have : ¬ d < gcdI u v := fun g => h _ g (by show ((Nat.gcd u.toNat v.toNat : Nat) : Int) ≤ u; omega) ⟨k1, k2⟩
  show ((Nat.gcd u.toNat v.toNat : Nat) : Int) = d
  have h9 : gcdI u v = ((Nat.gcd u.toNat v.toNat : Nat) : Int) := rfl
  omega
theorem c_term_2 {u v0 : Int} (u1 : 1 ≤ u) (v1 : 1 ≤ v0) (u2 : u ≤ 60) (v2 : v0 ≤ 60)   (fu : Nat) : ∀ (d : Int), (d).toNat < fu → (1 ≤ d) → (d ≤ u) → (∀ e : Int, d < e → e ≤ u → ¬ (u % e = 0 ∧ v0 % e = 0)) → ab_T l E Y_X9_lowestTerm 0 0 0 2 [some (vI u), some (vI v0), some (vI d)] [] h0 (pC h0 (fun v => v = u / gcdI u v0)) := by
  induction fu with
  | zero => intro d hms9; exact absurd hms9 (Nat.not_lt_zero _)
  | succ fu ih =>
    intro d hms9 d0 d1 I
    refine ab_iload_n (pc := 2) dX9_lowestTerm_2 rfl ?_
    refine ab_iconst (pc := 3) dX9_lowestTerm_3 (by decide) ?_
    refine ab_icmp_le (pc := 4) 29 dX9_lowestTerm_4 (by decide) (fun c4 => ?_) (fun c4 => ?_)
    · refine ab_iload_n (pc := 29) dX9_lowestTerm_29 rfl ?_
      refine ab_iret (pc := 30) dX9_lowestTerm_30 rfl ?_
      obtain rfl : d = 1 := by omega
      exact ⟨_, rfl, rfl, by rw [gcd_is u1 v1 (by omega) (Int.emod_one _) (Int.emod_one _) I, Int.ediv_one]⟩
    · refine ab_iload_n (pc := 7) dX9_lowestTerm_7 rfl ?_
      refine ab_iload_n (pc := 8) dX9_lowestTerm_8 rfl ?_
      refine ab_irem (pc := 9) dX9_lowestTerm_9 (by omega) ?_
      rw [Int.tmod_eq_emod_of_nonneg (by omega)]
      refine ab_if_ne (pc := 10) 23 dX9_lowestTerm_10 (by decide) (fun c10 => ?_) (fun c10 => ?_)
      · refine ab_iinc (pc := 23) dX9_lowestTerm_23 rfl rfl (by decide) (by omega) (by omega) ?_
        refine ab_goto (pc := 26) 2 dX9_lowestTerm_26 (by decide) ?_
        refine ih (d - 1) (by omega) (by omega) (by omega) (fun e e0 e1 k => ?_)
        by_cases g : e = d
        · subst g; first | exact c10 k.1 | exact c16 k.2
        · exact I e (by omega) e1 k
      · refine ab_iload_n (pc := 13) dX9_lowestTerm_13 rfl ?_
        refine ab_iload_n (pc := 14) dX9_lowestTerm_14 rfl ?_
        refine ab_irem (pc := 15) dX9_lowestTerm_15 (by omega) ?_
        rw [Int.tmod_eq_emod_of_nonneg (by omega)]
        refine ab_if_ne (pc := 16) 23 dX9_lowestTerm_16 (by decide) (fun c16 => ?_) (fun c16 => ?_)
        · refine ab_iinc (pc := 23) dX9_lowestTerm_23 rfl rfl (by decide) (by omega) (by omega) ?_
          refine ab_goto (pc := 26) 2 dX9_lowestTerm_26 (by decide) ?_
          refine ih (d - 1) (by omega) (by omega) (by omega) (fun e e0 e1 k => ?_)
          by_cases g : e = d
          · subst g; first | exact c10 k.1 | exact c16 k.2
          · exact I e (by omega) e1 k
        · refine ab_iload_n (pc := 19) dX9_lowestTerm_19 rfl ?_
          refine ab_iload_n (pc := 20) dX9_lowestTerm_20 rfl ?_
          refine ab_idiv (pc := 21) dX9_lowestTerm_21 (by omega) ?_
          rw [Int.tdiv_eq_ediv_of_nonneg (by omega)]
          refine ab_iret (pc := 22) dX9_lowestTerm_22 rfl ?_
          exact ⟨_, rfl, rfl, by rw [gcd_is u1 v1 (by omega) c10 c16 I]⟩
theorem c_term (hG : ab_G l E) {u v0 : Int}  (u1 : 1 ≤ u) (v1 : 1 ≤ v0) (u2 : u ≤ 60) (v2 : v0 ≤ 60) : ab_M l E Y_X9_lowestTerm 3 0 0 0 [vI u, vI v0] h0 (pC h0 (fun v => v = u / gcdI u v0)) := by
  refine ab_M.of (L0 := [some (vI u), some (vI v0), none]) hG rfl rfl (Nat.le_of_ble_eq_true rfl) rfl ?_
  refine ab_iload_n (pc := 0) dX9_lowestTerm_0 rfl ?_
  refine ab_istore_n (pc := 1) dX9_lowestTerm_1 rfl (Nat.le_of_ble_eq_true rfl) ?_
  exact c_term_2 u1 v1 u2 v2 _ u (Nat.lt_succ_self _) (by omega) (by omega) (fun e e0 e1 => absurd e1 (by omega))
theorem c_alike_2 {w g u g2 : Nat} {f f2 : Int → Int} {n : Int} (n6 : n ≤ 60) (hw : h0 w = some (kI g 60 f)) (hu : h0 u = some (kI g2 60 f2))  (fu : Nat) : ∀ (i : Int), (n - i).toNat < fu → (0 ≤ i) → (∀ j : Int, 0 ≤ j → j < i → f j = f2 j) → ab_T l E Y_X9_areAlike 0 0 0 2 [some (vR w), some (vR u), some (vI n), some (vI i)] [] h0 (pC h0 (fun v => (v = 1 ∧ alike f f2 n) ∨ (v = 0 ∧ ¬ alike f f2 n))) := by
  induction fu with
  | zero => intro i hms9; exact absurd hms9 (Nat.not_lt_zero _)
  | succ fu ih =>
    intro i hms9 i0 I
    refine ab_iload_n (pc := 2) dX9_areAlike_2 rfl ?_
    refine ab_iload_n (pc := 3) dX9_areAlike_3 rfl ?_
    refine ab_icmp_ge (pc := 4) 36 dX9_areAlike_4 (by decide) (fun c4 => ?_) (fun c4 => ?_)
    · refine ab_iconst (pc := 36) dX9_areAlike_36 (by decide) ?_
      refine ab_zret (pc := 37) dX9_areAlike_37 rfl (by omega) ?_
      exact ⟨_, rfl, rfl, Or.inl ⟨rfl, fun j j0 j1 => I j j0 (by omega)⟩⟩
    · refine ab_iload_n (pc := 7) dX9_areAlike_7 rfl ?_
      refine ab_aload_n (pc := 8) dX9_areAlike_8 rfl ?_
      refine ab_alen (pc := 9) hw dX9_areAlike_9 ?_
      refine ab_icmp_ge (pc := 10) 36 dX9_areAlike_10 (by decide) (fun c10 => ?_) (fun c10 => ?_)
      · refine ab_iconst (pc := 36) dX9_areAlike_36 (by decide) ?_
        refine ab_zret (pc := 37) dX9_areAlike_37 rfl (by omega) ?_
        exact ⟨_, rfl, rfl, Or.inl ⟨rfl, fun j j0 j1 => I j j0 (by omega)⟩⟩
      · refine ab_iload_n (pc := 13) dX9_areAlike_13 rfl ?_
        refine ab_aload_n (pc := 14) dX9_areAlike_14 rfl ?_
        refine ab_alen (pc := 15) hu dX9_areAlike_15 ?_
        refine ab_icmp_ge (pc := 16) 36 dX9_areAlike_16 (by decide) (fun c16 => ?_) (fun c16 => ?_)
        · refine ab_iconst (pc := 36) dX9_areAlike_36 (by decide) ?_
          refine ab_zret (pc := 37) dX9_areAlike_37 rfl (by omega) ?_
          exact ⟨_, rfl, rfl, Or.inl ⟨rfl, fun j j0 j1 => I j j0 (by omega)⟩⟩
        · refine ab_aload_n (pc := 19) dX9_areAlike_19 rfl ?_
          refine ab_iload_n (pc := 20) dX9_areAlike_20 rfl ?_
          refine ab_iald (pc := 21) hw (by omega) (by omega) dX9_areAlike_21 ?_
          refine ab_aload_n (pc := 22) dX9_areAlike_22 rfl ?_
          refine ab_iload_n (pc := 23) dX9_areAlike_23 rfl ?_
          refine ab_iald (pc := 24) hu (by omega) (by omega) dX9_areAlike_24 ?_
          refine ab_icmp_eq (pc := 25) 30 dX9_areAlike_25 (by decide) (fun c25 => ?_) (fun c25 => ?_)
          · refine ab_iinc (pc := 30) dX9_areAlike_30 rfl rfl (by decide) (by omega) (by omega) ?_
            refine ab_goto (pc := 33) 2 dX9_areAlike_33 (by decide) ?_
            exact ih (i + 1) (by omega) (by omega) (fun j j0 j1 => by by_cases e : j = i; (rw [e]; exact c25); exact I j j0 (by omega))
          · refine ab_iconst (pc := 28) dX9_areAlike_28 (by decide) ?_
            refine ab_zret (pc := 29) dX9_areAlike_29 rfl (by omega) ?_
            exact ⟨_, rfl, rfl, Or.inr ⟨rfl, fun k => c25 (k i i0 (by omega))⟩⟩
theorem c_alike (hG : ab_G l E) {w g u g2 : Nat} {f f2 : Int → Int} {n : Int} (hw : h0 w = some (kI g 60 f)) (hu : h0 u = some (kI g2 60 f2)) (n6 : n ≤ 60) : ab_M l E Y_X9_areAlike 4 0 0 0 [vR w, vR u, vI n] h0 (pC h0 (fun v => (v = 1 ∧ alike f f2 n) ∨ (v = 0 ∧ ¬ alike f f2 n))) := by
  refine ab_M.of (L0 := [some (vR w), some (vR u), some (vI n), none]) hG rfl rfl (Nat.le_of_ble_eq_true rfl) rfl ?_
  refine ab_iconst (pc := 0) dX9_areAlike_0 (by decide) ?_
  refine ab_istore_n (pc := 1) dX9_areAlike_1 rfl (Nat.le_of_ble_eq_true rfl) ?_
  exact c_alike_2 n6 hw hu _ 0 (Nat.lt_succ_self _) (by omega) (fun j j0 j1 => absurd j1 (by omega))
theorem c_runEnd (hG : ab_G l E) {x : Nat} {B : Nat → Nat} {s : Nat → Int} {F C : Nat → Int → Int} {SA : Nat → Int → Option Nat} {la : Option Nat} {q : Nat → Int} {i n p : Int} (rc : RCx h0 x B s F C SA la q) (i0 : 0 ≤ i) (p1 : 1 ≤ p) (ip : i + 2 * p ≤ n) (n6 : n ≤ 60) : ab_M l E Y_X9_runEnd 5 2 0 0 [vR x, vI i, vI n, vI p] h0 (pC h0 (fun v => (v = -1 ∧ ¬ isRun (C 10) n i p) ∨ (v = pe (C 10) i n p ∧ isRun (C 10) n i p))) := by
  refine ab_M.of (L0 := [some (vR x), some (vI i), some (vI n), some (vI p), none]) hG rfl rfl (Nat.le_of_ble_eq_true rfl) rfl ?_
  have po := pe_ok (f := C 10) (i := i) (n := n) (p := p) (by omega)
  refine ab_iload_n (pc := 0) dX9_runEnd_0 rfl ?_
  refine ab_if_le (pc := 1) 27 dX9_runEnd_1 (by decide) (fun c1 => ?_) (fun c1 => ?_)
  · refine ab_aload_n (pc := 27) dX9_runEnd_27 rfl ?_
    refine ab_get (pc := 28) (k := 7) okX9 rc.o rfl w119 rfl dX9_runEnd_28 ?_
    refine ab_iload_n (pc := 31) dX9_runEnd_31 rfl ?_
    refine ab_iload_n (pc := 32) dX9_runEnd_32 rfl ?_
    refine ab_iload_n (pc := 33) dX9_runEnd_33 rfl ?_
    refine ab_callS (pc := 34) (c_pe hG rc.lt i0 p1 (by omega) (by show n ≤ (60 : Int); omega) (by decide)) ⟨w721, w1, w723, by decide, pd52⟩ w722 rfl (by omega) (by decide) (Nat.le_of_ble_eq_true rfl) rfl dX9_runEnd_34 (fun _ _ hx => absurd hx pC_no) ?_
    rintro _ _ ⟨jv, e9, rfl, hj⟩
    cases e9
    refine ab_istore (pc := 37) dX9_runEnd_37 rfl (Nat.le_of_ble_eq_true rfl) ?_
    refine ab_iload (pc := 39) dX9_runEnd_39 rfl ?_
    refine ab_iload_n (pc := 41) dX9_runEnd_41 rfl ?_
    refine ab_isub (pc := 42) dX9_runEnd_42 (by omega) (by omega) ?_
    refine ab_iconst (pc := 43) dX9_runEnd_43 (by decide) ?_
    refine ab_iload_n (pc := 44) dX9_runEnd_44 rfl ?_
    refine ab_imul (pc := 45) dX9_runEnd_45 (by omega) (by omega) ?_
    refine ab_icmp_lt (pc := 46) 68 dX9_runEnd_46 (by decide) (fun c46 => ?_) (fun c46 => ?_)
    · refine ab_iconst (pc := 68) dX9_runEnd_68 (by decide) ?_
      refine ab_iret (pc := 69) dX9_runEnd_69 rfl ?_
      rw [hj] at *
      first | exact ⟨_, rfl, rfl, Or.inl ⟨rfl, fun k => by have := k.1; omega⟩⟩ | exact ⟨_, rfl, rfl, Or.inr ⟨rfl, by omega, by first | exact Or.inr c22 | exact Or.inl (by omega), by rw [c60] at hlp; exact hlp.2.2.2⟩⟩ | exact ⟨_, rfl, rfl, Or.inl ⟨rfl, fun k => c60 (lp_uniq hlp ⟨p1, by omega, po.2.2, k.2.2⟩)⟩⟩
    · refine ab_aload_n (pc := 49) dX9_runEnd_49 rfl ?_
      refine ab_get (pc := 50) (k := 7) okX9 rc.o rfl w119 rfl dX9_runEnd_50 ?_
      refine ab_iload_n (pc := 53) dX9_runEnd_53 rfl ?_
      refine ab_iload (pc := 54) dX9_runEnd_54 rfl ?_
      refine ab_callS (pc := 56) (c_lp hG rc.lt i0 (by omega) (by show jv ≤ (60 : Int); omega) (by decide)) ⟨w724, w1, w726, by decide, pd53⟩ w725 rfl (by omega) (by decide) (Nat.le_of_ble_eq_true rfl) rfl dX9_runEnd_56 (fun _ _ hx => absurd hx pC_no) ?_
      rintro _ _ ⟨lv, e9, rfl, hlp⟩
      cases e9
      refine ab_iload_n (pc := 59) dX9_runEnd_59 rfl ?_
      refine ab_icmp_ne (pc := 60) 68 dX9_runEnd_60 (by decide) (fun c60 => ?_) (fun c60 => ?_)
      · refine ab_iconst (pc := 68) dX9_runEnd_68 (by decide) ?_
        refine ab_iret (pc := 69) dX9_runEnd_69 rfl ?_
        rw [hj] at *
        first | exact ⟨_, rfl, rfl, Or.inl ⟨rfl, fun k => by have := k.1; omega⟩⟩ | exact ⟨_, rfl, rfl, Or.inr ⟨rfl, by omega, by first | exact Or.inr c22 | exact Or.inl (by omega), by rw [c60] at hlp; exact hlp.2.2.2⟩⟩ | exact ⟨_, rfl, rfl, Or.inl ⟨rfl, fun k => c60 (lp_uniq hlp ⟨p1, by omega, po.2.2, k.2.2⟩)⟩⟩
      · refine ab_iload (pc := 63) dX9_runEnd_63 rfl ?_
        refine ab_goto (pc := 65) 69 dX9_runEnd_65 (by decide) ?_
        refine ab_iret (pc := 69) dX9_runEnd_69 rfl ?_
        rw [hj] at *
        first | exact ⟨_, rfl, rfl, Or.inl ⟨rfl, fun k => by have := k.1; omega⟩⟩ | exact ⟨_, rfl, rfl, Or.inr ⟨rfl, by omega, by first | exact Or.inr c22 | exact Or.inl (by omega), by rw [c60] at hlp; exact hlp.2.2.2⟩⟩ | exact ⟨_, rfl, rfl, Or.inl ⟨rfl, fun k => c60 (lp_uniq hlp ⟨p1, by omega, po.2.2, k.2.2⟩)⟩⟩
  · refine ab_aload_n (pc := 4) dX9_runEnd_4 rfl ?_
    refine ab_get (pc := 5) (k := 7) okX9 rc.o rfl w119 rfl dX9_runEnd_5 ?_
    refine ab_iload_n (pc := 8) dX9_runEnd_8 rfl ?_
    refine ab_iconst (pc := 9) dX9_runEnd_9 (by decide) ?_
    refine ab_isub (pc := 10) dX9_runEnd_10 (by omega) (by omega) ?_
    refine ab_iald (pc := 11) rc.lt (by omega) (by omega) dX9_runEnd_11 ?_
    refine ab_aload_n (pc := 12) dX9_runEnd_12 rfl ?_
    refine ab_get (pc := 13) (k := 7) okX9 rc.o rfl w119 rfl dX9_runEnd_13 ?_
    refine ab_iload_n (pc := 16) dX9_runEnd_16 rfl ?_
    refine ab_iconst (pc := 17) dX9_runEnd_17 (by decide) ?_
    refine ab_isub (pc := 18) dX9_runEnd_18 (by omega) (by omega) ?_
    refine ab_iload_n (pc := 19) dX9_runEnd_19 rfl ?_
    refine ab_iadd (pc := 20) dX9_runEnd_20 (by omega) (by omega) ?_
    refine ab_iald (pc := 21) rc.lt (by omega) (by omega) dX9_runEnd_21 ?_
    refine ab_icmp_ne (pc := 22) 27 dX9_runEnd_22 (by decide) (fun c22 => ?_) (fun c22 => ?_)
    · refine ab_aload_n (pc := 27) dX9_runEnd_27 rfl ?_
      refine ab_get (pc := 28) (k := 7) okX9 rc.o rfl w119 rfl dX9_runEnd_28 ?_
      refine ab_iload_n (pc := 31) dX9_runEnd_31 rfl ?_
      refine ab_iload_n (pc := 32) dX9_runEnd_32 rfl ?_
      refine ab_iload_n (pc := 33) dX9_runEnd_33 rfl ?_
      refine ab_callS (pc := 34) (c_pe hG rc.lt i0 p1 (by omega) (by show n ≤ (60 : Int); omega) (by decide)) ⟨w721, w1, w723, by decide, pd52⟩ w722 rfl (by omega) (by decide) (Nat.le_of_ble_eq_true rfl) rfl dX9_runEnd_34 (fun _ _ hx => absurd hx pC_no) ?_
      rintro _ _ ⟨jv, e9, rfl, hj⟩
      cases e9
      refine ab_istore (pc := 37) dX9_runEnd_37 rfl (Nat.le_of_ble_eq_true rfl) ?_
      refine ab_iload (pc := 39) dX9_runEnd_39 rfl ?_
      refine ab_iload_n (pc := 41) dX9_runEnd_41 rfl ?_
      refine ab_isub (pc := 42) dX9_runEnd_42 (by omega) (by omega) ?_
      refine ab_iconst (pc := 43) dX9_runEnd_43 (by decide) ?_
      refine ab_iload_n (pc := 44) dX9_runEnd_44 rfl ?_
      refine ab_imul (pc := 45) dX9_runEnd_45 (by omega) (by omega) ?_
      refine ab_icmp_lt (pc := 46) 68 dX9_runEnd_46 (by decide) (fun c46 => ?_) (fun c46 => ?_)
      · refine ab_iconst (pc := 68) dX9_runEnd_68 (by decide) ?_
        refine ab_iret (pc := 69) dX9_runEnd_69 rfl ?_
        rw [hj] at *
        first | exact ⟨_, rfl, rfl, Or.inl ⟨rfl, fun k => by have := k.1; omega⟩⟩ | exact ⟨_, rfl, rfl, Or.inr ⟨rfl, by omega, by first | exact Or.inr c22 | exact Or.inl (by omega), by rw [c60] at hlp; exact hlp.2.2.2⟩⟩ | exact ⟨_, rfl, rfl, Or.inl ⟨rfl, fun k => c60 (lp_uniq hlp ⟨p1, by omega, po.2.2, k.2.2⟩)⟩⟩
      · refine ab_aload_n (pc := 49) dX9_runEnd_49 rfl ?_
        refine ab_get (pc := 50) (k := 7) okX9 rc.o rfl w119 rfl dX9_runEnd_50 ?_
        refine ab_iload_n (pc := 53) dX9_runEnd_53 rfl ?_
        refine ab_iload (pc := 54) dX9_runEnd_54 rfl ?_
        refine ab_callS (pc := 56) (c_lp hG rc.lt i0 (by omega) (by show jv ≤ (60 : Int); omega) (by decide)) ⟨w724, w1, w726, by decide, pd53⟩ w725 rfl (by omega) (by decide) (Nat.le_of_ble_eq_true rfl) rfl dX9_runEnd_56 (fun _ _ hx => absurd hx pC_no) ?_
        rintro _ _ ⟨lv, e9, rfl, hlp⟩
        cases e9
        refine ab_iload_n (pc := 59) dX9_runEnd_59 rfl ?_
        refine ab_icmp_ne (pc := 60) 68 dX9_runEnd_60 (by decide) (fun c60 => ?_) (fun c60 => ?_)
        · refine ab_iconst (pc := 68) dX9_runEnd_68 (by decide) ?_
          refine ab_iret (pc := 69) dX9_runEnd_69 rfl ?_
          rw [hj] at *
          first | exact ⟨_, rfl, rfl, Or.inl ⟨rfl, fun k => by have := k.1; omega⟩⟩ | exact ⟨_, rfl, rfl, Or.inr ⟨rfl, by omega, by first | exact Or.inr c22 | exact Or.inl (by omega), by rw [c60] at hlp; exact hlp.2.2.2⟩⟩ | exact ⟨_, rfl, rfl, Or.inl ⟨rfl, fun k => c60 (lp_uniq hlp ⟨p1, by omega, po.2.2, k.2.2⟩)⟩⟩
        · refine ab_iload (pc := 63) dX9_runEnd_63 rfl ?_
          refine ab_goto (pc := 65) 69 dX9_runEnd_65 (by decide) ?_
          refine ab_iret (pc := 69) dX9_runEnd_69 rfl ?_
          rw [hj] at *
          first | exact ⟨_, rfl, rfl, Or.inl ⟨rfl, fun k => by have := k.1; omega⟩⟩ | exact ⟨_, rfl, rfl, Or.inr ⟨rfl, by omega, by first | exact Or.inr c22 | exact Or.inl (by omega), by rw [c60] at hlp; exact hlp.2.2.2⟩⟩ | exact ⟨_, rfl, rfl, Or.inl ⟨rfl, fun k => c60 (lp_uniq hlp ⟨p1, by omega, po.2.2, k.2.2⟩)⟩⟩
    · refine ab_iconst (pc := 25) dX9_runEnd_25 (by decide) ?_
      refine ab_iret (pc := 26) dX9_runEnd_26 rfl ?_
      exact ⟨_, rfl, rfl, Or.inl ⟨rfl, fun k => by rcases k.2.1 with e | e; omega; exact e c22⟩⟩
end C16
