/-! the reference: periods, shapes -/
section M3
variable {l : Launch} {E : AbE} {m : Nat} {A : Nat → Nat} {s0 : Nat → Int} {F0 : Nat → Int → Int} {h0 : AbH}
theorem turn_step {g : Int → Int} {x y c : Int} : ab_f (ab_f g x (g x + 1)) y (ab_f g x (g x + 1) y - 1) c = g c + (if x = c then 1 else 0) - (if y = c then 1 else 0) := by
  by_cases e1 : c = y
  · rw [ab_f_eq e1]
    subst e1
    by_cases e2 : c = x
    · rw [ab_f_eq e2]
      subst e2
      simp
    · rw [ab_f_ne e2, if_neg (fun e => e2 e.symm)]
      simp
  · have e3 : ¬ y = c := fun e => e1 e.symm
    rw [ab_f_ne e1, if_neg e3]
    by_cases e2 : c = x
    · rw [ab_f_eq e2, if_pos e2.symm, e2]
      omega
    · have e4 : ¬ x = c := fun e => e2 e.symm
      rw [ab_f_ne e2, if_neg e4]
      omega
theorem m_isPeriod_3 {w g N : Nat} {f : Int → Int} (hw : h0 w = some (kI g N f)) (hN : N < 100000) {a b p : Int} {d : Nat} (a0 : 0 ≤ a) (a1 : a ≤ N) (bN : b ≤ N) (p0 : 0 ≤ p) (p1 : p < 100000) (fu : Nat) : ∀ (i : Int), (b - i).toNat < fu → (a ≤ i) → (i ≤ 100000) → (∀ j : Int, a ≤ j → j < i → j + p < b → f j = f (j + p)) → ab_T l E Y_X10_isPeriod d 0 0 3 [some (vR w), some (vI a), some (vI b), some (vI p), some (vI i)] [] h0 (pC h0 (fun v => (v = 1 ∧ isP f a b p) ∨ (v = 0 ∧ ¬ isP f a b p))) := by
  induction fu with
  | zero => intro i hm; exact absurd hm (Nat.not_lt_zero _)
  | succ fu ih =>
    intro i hm i0 i1 I
    refine ab_iload (pc := 3) dX10_isPeriod_3 rfl ?_
    refine ab_iload_n (pc := 5) dX10_isPeriod_5 rfl ?_
    refine ab_iadd (pc := 6) dX10_isPeriod_6 (by omega) (by omega) ?_
    refine ab_iload_n (pc := 7) dX10_isPeriod_7 rfl ?_
    refine ab_icmp_ge (pc := 8) 32 dX10_isPeriod_8 (by decide) (fun c8 => ?_) (fun c8 => ?_)
    · refine ab_iconst (pc := 32) dX10_isPeriod_32 (by decide) ?_
      refine ab_zret (pc := 33) dX10_isPeriod_33 rfl (by omega) ?_
      exact ⟨_, rfl, rfl, Or.inl ⟨rfl, fun j j0 j1 => I j j0 (by omega) j1⟩⟩
    · refine ab_aload_n (pc := 11) dX10_isPeriod_11 rfl ?_
      refine ab_iload (pc := 12) dX10_isPeriod_12 rfl ?_
      refine ab_iald (pc := 14) hw (by omega) (by omega) dX10_isPeriod_14 ?_
      refine ab_aload_n (pc := 15) dX10_isPeriod_15 rfl ?_
      refine ab_iload (pc := 16) dX10_isPeriod_16 rfl ?_
      refine ab_iload_n (pc := 18) dX10_isPeriod_18 rfl ?_
      refine ab_iadd (pc := 19) dX10_isPeriod_19 (by omega) (by omega) ?_
      refine ab_iald (pc := 20) hw (by omega) (by omega) dX10_isPeriod_20 ?_
      refine ab_icmp_eq (pc := 21) 26 dX10_isPeriod_21 (by decide) (fun c21 => ?_) (fun c21 => ?_)
      · refine ab_iinc (pc := 26) dX10_isPeriod_26 rfl rfl (by decide) (by omega) (by omega) ?_
        refine ab_goto (pc := 29) 3 dX10_isPeriod_29 (by decide) ?_
        refine ih (i + 1) (by omega) (by omega) (by omega) (fun j j0 j1 j2 => ?_)
        by_cases e : j = i
        · subst e; omega
        · exact I j j0 (by omega) j2
      · refine ab_iconst (pc := 24) dX10_isPeriod_24 (by decide) ?_
        refine ab_zret (pc := 25) dX10_isPeriod_25 rfl (by omega) ?_
        exact ⟨_, rfl, rfl, Or.inr ⟨rfl, fun e => absurd (e i i0 (by omega)) (by omega)⟩⟩
theorem m_isPeriod (hG : ab_G l E) {w g N : Nat} {f : Int → Int} (hw : h0 w = some (kI g N f)) (hN : N < 100000) {a b p : Int} (a0 : 0 ≤ a) (a1 : a ≤ N) (bN : b ≤ N) (p0 : 0 ≤ p) (p1 : p < 100000) : ab_M l E Y_X10_isPeriod 5 0 0 0 [vR w, vI a, vI b, vI p] h0 (pC h0 (fun v => (v = 1 ∧ isP f a b p) ∨ (v = 0 ∧ ¬ isP f a b p))) := by
  refine ab_M.of (L0 := [some (vR w), some (vI a), some (vI b), some (vI p), none]) hG rfl rfl (Nat.le_of_ble_eq_true rfl) rfl ?_
  refine ab_iload_n (pc := 0) dX10_isPeriod_0 rfl ?_
  refine ab_istore (pc := 1) dX10_isPeriod_1 rfl (Nat.le_of_ble_eq_true rfl) ?_
  exact m_isPeriod_3 hw hN a0 a1 bN p0 p1 _ a (Nat.lt_succ_self _) (by omega) (by omega) (fun j j0 j1 => absurd j1 (by omega))
theorem m_period_2 (hG : ab_G l E) {w g N : Nat} {f : Int → Int} (hw : h0 w = some (kI g N f)) (hN : N < 100000) {a b : Int} (a0 : 0 ≤ a) (bN : b ≤ N) (ab : a < b) (fu : Nat) : ∀ (p : Int), (b + 1 - p).toNat < fu → (1 ≤ p) → (p ≤ b - a) → (∀ q : Int, 1 ≤ q → q < p → ¬ isP f a b q) → ab_T l E Y_X10_period 1 0 0 2 [some (vR w), some (vI a), some (vI b), some (vI p)] [] h0 (pC h0 (fun v => 1 ≤ v ∧ v ≤ b - a ∧ isP f a b v ∧ ∀ q : Int, 1 ≤ q → q < v → ¬ isP f a b q)) := by
  induction fu with
  | zero => intro p hm; exact absurd hm (Nat.not_lt_zero _)
  | succ fu ih =>
    intro p hm p0 p1 I
    refine ab_aload_n (pc := 2) dX10_period_2 rfl ?_
    refine ab_iload_n (pc := 3) dX10_period_3 rfl ?_
    refine ab_iload_n (pc := 4) dX10_period_4 rfl ?_
    refine ab_iload_n (pc := 5) dX10_period_5 rfl ?_
    refine ab_callS (pc := 6) (m_isPeriod hG hw hN a0 (by omega) bN (by omega) (by omega)) ⟨w1256, w5, w1258, by decide, pd56⟩ w1257 rfl (by decide) (by decide) (Nat.le_of_ble_eq_true rfl) rfl dX10_period_6 (fun _ _ hx => absurd hx pC_no) ?_
    rintro _ _ ⟨v1, e9, rfl, hp1⟩
    cases e9
    refine ab_if_ne (pc := 9) 18 dX10_period_9 (by decide) (fun c9 => ?_) (fun c9 => ?_)
    · refine ab_iload_n (pc := 18) dX10_period_18 rfl ?_
      refine ab_iret (pc := 19) dX10_period_19 rfl ?_
      exact ⟨_, rfl, rfl, p0, p1, by rcases hp1 with e | e; exact e.2; omega, I⟩
    · refine ab_iinc (pc := 12) dX10_period_12 rfl rfl (by decide) (by omega) (by omega) ?_
      refine ab_goto (pc := 15) 2 dX10_period_15 (by decide) ?_
      have hp9 : ¬ isP f a b p := by rcases hp1 with e | e; omega; exact e.2
      refine ih (p + 1) (by omega) (by omega) ?_ (fun q q0 q1 => ?_)
      · by_cases e : p = b - a
        · exact absurd (fun i i0 i1 => absurd i1 (by omega)) hp9
        · omega
      · by_cases e : q = p
        · rw [e]; exact hp9
        · exact I q q0 (by omega)
theorem m_period (hG : ab_G l E) {w g N : Nat} {f : Int → Int} (hw : h0 w = some (kI g N f)) (hN : N < 100000) {a b : Int} (a0 : 0 ≤ a) (bN : b ≤ N) (ab : a < b) : ab_M l E Y_X10_period 4 1 0 0 [vR w, vI a, vI b] h0 (pC h0 (fun v => 1 ≤ v ∧ v ≤ b - a ∧ isP f a b v ∧ ∀ q : Int, 1 ≤ q → q < v → ¬ isP f a b q)) := by
  refine ab_M.of (L0 := [some (vR w), some (vI a), some (vI b), none]) hG rfl rfl (Nat.le_of_ble_eq_true rfl) rfl ?_
  refine ab_iconst (pc := 0) dX10_period_0 (by decide) ?_
  refine ab_istore_n (pc := 1) dX10_period_1 rfl (Nat.le_of_ble_eq_true rfl) ?_
  exact m_period_2 hG hw hN a0 bN ab _ 1 (Nat.lt_succ_self _) (by omega) (by omega) (fun q q0 q1 => absurd q1 (by omega))
theorem m_has_3 {w g N : Nat} {f : Int → Int} (hw : h0 w = some (kI g N f)) (hN : N < 100000) {a n u : Int} {d : Nat} (a0 : 0 ≤ a) (bN : a + n ≤ N) (fu : Nat) : ∀ (i : Int), (n - i).toNat < fu → (0 ≤ i) → (∀ k : Int, 0 ≤ k → k < i → f (a + k) ≠ u) → ab_T l E Y_X10_has d 0 0 3 [some (vR w), some (vI a), some (vI n), some (vI u), some (vI i)] [] h0 (pC h0 (fun v => (v = 1 ∧ hasU f a n u) ∨ (v = 0 ∧ ¬ hasU f a n u))) := by
  induction fu with
  | zero => intro i hm; exact absurd hm (Nat.not_lt_zero _)
  | succ fu ih =>
    intro i hm i0 I
    refine ab_iload (pc := 3) dX10_has_3 rfl ?_
    refine ab_iload_n (pc := 5) dX10_has_5 rfl ?_
    refine ab_icmp_ge (pc := 6) 27 dX10_has_6 (by decide) (fun c6 => ?_) (fun c6 => ?_)
    · refine ab_iconst (pc := 27) dX10_has_27 (by decide) ?_
      refine ab_zret (pc := 28) dX10_has_28 rfl (by omega) ?_
      exact ⟨_, rfl, rfl, Or.inr ⟨rfl, fun ⟨j, j0, j1, j2⟩ => I j j0 (by omega) j2⟩⟩
    · refine ab_aload_n (pc := 9) dX10_has_9 rfl ?_
      refine ab_iload_n (pc := 10) dX10_has_10 rfl ?_
      refine ab_iload (pc := 11) dX10_has_11 rfl ?_
      refine ab_iadd (pc := 13) dX10_has_13 (by omega) (by omega) ?_
      refine ab_iald (pc := 14) hw (by omega) (by omega) dX10_has_14 ?_
      refine ab_iload_n (pc := 15) dX10_has_15 rfl ?_
      refine ab_icmp_ne (pc := 16) 21 dX10_has_16 (by decide) (fun c16 => ?_) (fun c16 => ?_)
      · refine ab_iinc (pc := 21) dX10_has_21 rfl rfl (by decide) (by omega) (by omega) ?_
        refine ab_goto (pc := 24) 3 dX10_has_24 (by decide) ?_
        refine ih (i + 1) (by omega) (by omega) (fun j j0 j1 => ?_)
        by_cases e : j = i
        · rw [e]; omega
        · exact I j j0 (by omega)
      · refine ab_iconst (pc := 19) dX10_has_19 (by decide) ?_
        refine ab_zret (pc := 20) dX10_has_20 rfl (by omega) ?_
        exact ⟨_, rfl, rfl, Or.inl ⟨rfl, i, i0, by omega, by omega⟩⟩
theorem m_has (hG : ab_G l E) {w g N : Nat} {f : Int → Int} (hw : h0 w = some (kI g N f)) (hN : N < 100000) {a n u : Int} (a0 : 0 ≤ a) (bN : a + n ≤ N) : ab_M l E Y_X10_has 5 0 0 0 [vR w, vI a, vI n, vI u] h0 (pC h0 (fun v => (v = 1 ∧ hasU f a n u) ∨ (v = 0 ∧ ¬ hasU f a n u))) := by
  refine ab_M.of (L0 := [some (vR w), some (vI a), some (vI n), some (vI u), none]) hG rfl rfl (Nat.le_of_ble_eq_true rfl) rfl ?_
  refine ab_iconst (pc := 0) dX10_has_0 (by decide) ?_
  refine ab_istore (pc := 1) dX10_has_1 rfl (Nat.le_of_ble_eq_true rfl) ?_
  exact m_has_3 hw hN a0 bN _ 0 (Nat.lt_succ_self _) (by omega) (fun j j0 j1 => absurd j1 (by omega))
theorem m_isIn (hG : ab_G l E) {e q : Int} : ab_M l E Y_X10_isIn 2 0 0 0 [vI e, vI q] h0 (pC h0 (fun v => (v = 1 ∧ inS e q) ∨ (v = 0 ∧ ¬ inS e q))) := by
  refine ab_M.of (L0 := [some (vI e), some (vI q)]) hG rfl rfl (Nat.le_of_ble_eq_true rfl) rfl ?_
  refine ab_iload_n (pc := 0) dX10_isIn_0 rfl ?_
  refine ab_iload_n (pc := 1) dX10_isIn_1 rfl ?_
  refine ab_ishr (pc := 2) dX10_isIn_2 ?_
  refine ab_iconst (pc := 3) dX10_isIn_3 (by decide) ?_
  refine ab_iand (pc := 4) dX10_isIn_4 ?_
  refine ab_iconst (pc := 5) dX10_isIn_5 (by decide) ?_
  refine ab_icmp_ne (pc := 6) 13 dX10_isIn_6 (by decide) (fun c6 => ?_) (fun c6 => ?_)
  · refine ab_iconst (pc := 13) dX10_isIn_13 (by decide) ?_
    refine ab_zret (pc := 14) dX10_isIn_14 rfl (by omega) ?_
    exact ⟨_, rfl, rfl, by unfold inS; omega⟩
  · refine ab_iconst (pc := 9) dX10_isIn_9 (by decide) ?_
    refine ab_goto (pc := 10) 14 dX10_isIn_10 (by decide) ?_
    refine ab_zret (pc := 14) dX10_isIn_14 rfl (by omega) ?_
    exact ⟨_, rfl, rfl, by unfold inS; omega⟩
theorem m_isSet (hG : ab_G l E) (hM : mR h0 m A s0 F0) {e n : Int} (hn : s0 7 = n) : ab_M l E Y_X10_isSet 2 0 0 0 [vR m, vI e] h0 (pC h0 (fun v => (v = 1 ∧ 0 ≤ e ∧ ab_shr e n = 0) ∨ (v = 0 ∧ ¬ (0 ≤ e ∧ ab_shr e n = 0)))) := by
  refine ab_M.of (L0 := [some (vR m), some (vI e)]) hG rfl rfl (Nat.le_of_ble_eq_true rfl) rfl ?_
  have hW : mW h0 m A s0 F0 [] [] h0 s0 F0 := mW.start hM
  subst hn
  refine ab_iload_n (pc := 0) dX10_isSet_0 rfl ?_
  refine ab_if_lt (pc := 1) 17 dX10_isSet_1 (by decide) (fun c1 => ?_) (fun c1 => ?_)
  · refine ab_iconst (pc := 17) dX10_isSet_17 (by decide) ?_
    refine ab_zret (pc := 18) dX10_isSet_18 rfl (by omega) ?_
    exact ⟨_, rfl, rfl, by omega⟩
  · refine ab_iload_n (pc := 4) dX10_isSet_4 rfl ?_
    refine ab_aload_n (pc := 5) dX10_isSet_5 rfl ?_
    refine ab_get (pc := 6) (k := 7) (x := vI (s0 7)) okX10 hW.obj (mg rfl (hW.sv 7 (by decide))) w1062 rfl dX10_isSet_6 ?_
    refine ab_ishr (pc := 9) dX10_isSet_9 ?_
    refine ab_if_ne (pc := 10) 17 dX10_isSet_10 (by decide) (fun c10 => ?_) (fun c10 => ?_)
    · refine ab_iconst (pc := 17) dX10_isSet_17 (by decide) ?_
      refine ab_zret (pc := 18) dX10_isSet_18 rfl (by omega) ?_
      exact ⟨_, rfl, rfl, by omega⟩
    · refine ab_iconst (pc := 13) dX10_isSet_13 (by decide) ?_
      refine ab_goto (pc := 14) 18 dX10_isSet_14 (by decide) ?_
      refine ab_zret (pc := 18) dX10_isSet_18 rfl (by omega) ?_
      exact ⟨_, rfl, rfl, by omega⟩
theorem m_isTurned_77 {K : Nat} (hK : wK K) {a n : Int} (a0 : 0 ≤ a) (n0 : 0 ≤ n) (bN : a + 2 * n ≤ mLen K) (le : ∀ j : Int, a ≤ j → j < a + 2 * n → 0 ≤ F0 K j ∧ F0 K j ≤ 7) {d : Nat} (fu : Nat) : ∀ (k u : Int) (h : AbH) (s : Nat → Int) (F : Nat → Int → Int), mW h0 m A s0 F0 [] [13] h s F → (8 - k).toNat < fu → (0 ≤ k) → (k ≤ 8) → (∀ c : Int, 0 ≤ c → c < 8 → F 13 c = cnt (F0 K) c a n - cnt (F0 K) c (a + n) n) → ((u = 1 ∧ ∀ c : Int, 0 ≤ c → c < k → cnt (F0 K) c a n = cnt (F0 K) c (a + n) n) ∨ (u = 0 ∧ ¬ ∀ c : Int, 0 ≤ c → c < 8 → cnt (F0 K) c a n = cnt (F0 K) c (a + n) n)) → ab_T l E Y_X10_isTurned d 0 0 77 [some (vR m), some (vR (A K)), some (vI a), some (vI n), some (vI u), some (vI k)] [] h (mC h0 m A s0 F0 [] [13] (fun r s' F' => (r = some (vI 1) ∧ ∀ c : Int, 0 ≤ c → c < 8 → cnt (F0 K) c a n = cnt (F0 K) c (a + n) n) ∨ (r = some (vI 0) ∧ ¬ ∀ c : Int, 0 ≤ c → c < 8 → cnt (F0 K) c a n = cnt (F0 K) c (a + n) n))) := by
  induction fu with
  | zero => intro k u h s F hW hm; exact absurd hm (Nat.not_lt_zero _)
  | succ fu ih =>
    intro k u h s F hW hm k0 k1 I hu
    refine ab_iload (pc := 77) dX10_isTurned_77 rfl ?_
    refine ab_bipush (pc := 79) dX10_isTurned_79 (by decide) ?_
    refine ab_icmp_ge (pc := 81) 112 dX10_isTurned_81 (by decide) (fun c81 => ?_) (fun c81 => ?_)
    · refine ab_iload (pc := 112) dX10_isTurned_112 rfl ?_
      refine ab_zret (pc := 114) dX10_isTurned_114 rfl (by omega) ?_
      obtain rfl : k = 8 := by omega
      rcases hu with ⟨rfl, hv⟩ | ⟨rfl, hv⟩
      · exact ⟨_, _, _, rfl, hW, Or.inl ⟨rfl, hv⟩⟩
      · exact ⟨_, _, _, rfl, hW, Or.inr ⟨rfl, hv⟩⟩
    · refine ab_via (S := []) 104 (fun v : Int => (v = 1 ∧ ∀ c : Int, 0 ≤ c → c < k + 1 → cnt (F0 K) c a n = cnt (F0 K) c (a + n) n) ∨ (v = 0 ∧ ¬ ∀ c : Int, 0 ≤ c → c < 8 → cnt (F0 K) c a n = cnt (F0 K) c (a + n) n)) (fun v hv => ?_) (fun J104 => ?_)
      · refine ab_istore (pc := 104) dX10_isTurned_104 rfl (Nat.le_of_ble_eq_true rfl) ?_
        refine ab_iinc (pc := 106) dX10_isTurned_106 rfl rfl (by decide) (by omega) (by omega) ?_
        refine ab_goto (pc := 109) 77 dX10_isTurned_109 (by decide) ?_
        exact ih (k + 1) v _ _ _ hW (by omega) (by omega) (by omega) I hv
      · refine ab_iload (pc := 84) dX10_isTurned_84 rfl ?_
        refine ab_if_eq (pc := 86) 103 dX10_isTurned_86 (by decide) (fun c86 => ?_) (fun c86 => ?_)
        · refine ab_iconst (pc := 103) dX10_isTurned_103 (by decide) ?_
          have c9 := I k k0 (by omega)
          refine J104 (0) ?_
          rcases hu with ⟨hu, hv⟩ | ⟨hu, hv⟩
          · first
            | (exact absurd hu (by omega))
            | (refine Or.inl ⟨rfl, fun c c0 c1 => ?_⟩; by_cases e : c = k; (rw [e]; omega); exact hv c c0 (by omega))
            | (exact Or.inr ⟨rfl, fun e => absurd (e k k0 (by omega)) (by omega)⟩)
          · first
            | (exact absurd hu (by omega))
            | (exact Or.inr ⟨rfl, hv⟩)
        · refine ab_aload_n (pc := 89) dX10_isTurned_89 rfl ?_
          refine ab_get (pc := 90) (k := 13) (x := vR (A 13)) okX10 hW.obj rfl w1068 rfl dX10_isTurned_90 ?_
          refine ab_iload (pc := 93) dX10_isTurned_93 rfl ?_
          refine ab_iald (pc := 95) (n := 8) (f := F 13) (hW.arr 13 rfl rfl) (by omega) (by omega) dX10_isTurned_95 ?_
          refine ab_if_ne (pc := 96) 103 dX10_isTurned_96 (by decide) (fun c96 => ?_) (fun c96 => ?_)
          · refine ab_iconst (pc := 103) dX10_isTurned_103 (by decide) ?_
            have c9 := I k k0 (by omega)
            refine J104 (0) ?_
            rcases hu with ⟨hu, hv⟩ | ⟨hu, hv⟩
            · first
              | (exact absurd hu (by omega))
              | (refine Or.inl ⟨rfl, fun c c0 c1 => ?_⟩; by_cases e : c = k; (rw [e]; omega); exact hv c c0 (by omega))
              | (exact Or.inr ⟨rfl, fun e => absurd (e k k0 (by omega)) (by omega)⟩)
            · first
              | (exact absurd hu (by omega))
              | (exact Or.inr ⟨rfl, hv⟩)
          · refine ab_iconst (pc := 99) dX10_isTurned_99 (by decide) ?_
            refine ab_goto (pc := 100) 104 dX10_isTurned_100 (by decide) ?_
            have c9 := I k k0 (by omega)
            refine J104 (1) ?_
            rcases hu with ⟨hu, hv⟩ | ⟨hu, hv⟩
            · first
              | (exact absurd hu (by omega))
              | (refine Or.inl ⟨rfl, fun c c0 c1 => ?_⟩; by_cases e : c = k; (rw [e]; omega); exact hv c c0 (by omega))
              | (exact Or.inr ⟨rfl, fun e => absurd (e k k0 (by omega)) (by omega)⟩)
            · first
              | (exact absurd hu (by omega))
              | (exact Or.inr ⟨rfl, hv⟩)
theorem m_isTurned_27 {K : Nat} (hK : wK K) {a n : Int} (a0 : 0 ≤ a) (n0 : 0 ≤ n) (bN : a + 2 * n ≤ mLen K) (le : ∀ j : Int, a ≤ j → j < a + 2 * n → 0 ≤ F0 K j ∧ F0 K j ≤ 7) {d : Nat} (fu : Nat) : ∀ (i : Int) (h : AbH) (s : Nat → Int) (F : Nat → Int → Int), mW h0 m A s0 F0 [] [13] h s F → (n - i).toNat < fu → (0 ≤ i) → (i ≤ n) → (∀ c : Int, 0 ≤ c → c < 8 → F 13 c = cnt (F0 K) c a i - cnt (F0 K) c (a + n) i) → ab_T l E Y_X10_isTurned d 0 0 27 [some (vR m), some (vR (A K)), some (vI a), some (vI n), some (vI i), none] [] h (mC h0 m A s0 F0 [] [13] (fun r s' F' => (r = some (vI 1) ∧ ∀ c : Int, 0 ≤ c → c < 8 → cnt (F0 K) c a n = cnt (F0 K) c (a + n) n) ∨ (r = some (vI 0) ∧ ¬ ∀ c : Int, 0 ≤ c → c < 8 → cnt (F0 K) c a n = cnt (F0 K) c (a + n) n))) := by
  induction fu with
  | zero => intro i h s F hW hm; exact absurd hm (Nat.not_lt_zero _)
  | succ fu ih =>
    intro i h s F hW hm i0 i1 I
    have hk8 := wK_le hK
    have l1 := le (a + i)
    have l2 := le (a + n + i)
    have z1 := I (F0 K (a + i))
    refine ab_iload (pc := 27) dX10_isTurned_27 rfl ?_
    refine ab_iload_n (pc := 29) dX10_isTurned_29 rfl ?_
    refine ab_icmp_ge (pc := 30) 71 dX10_isTurned_30 (by decide) (fun c30 => ?_) (fun c30 => ?_)
    · refine ab_iconst (pc := 71) dX10_isTurned_71 (by decide) ?_
      refine ab_istore (pc := 72) dX10_isTurned_72 rfl (Nat.le_of_ble_eq_true rfl) ?_
      refine ab_iconst (pc := 74) dX10_isTurned_74 (by decide) ?_
      refine ab_istore (pc := 75) dX10_isTurned_75 rfl (Nat.le_of_ble_eq_true rfl) ?_
      exact m_isTurned_77 hK a0 n0 bN le _ 0 1 _ _ _ hW (Nat.lt_succ_self _) (by omega) (by omega) (fun c c0 c1 => by rw [I c c0 c1, show i = n by omega]) (Or.inl ⟨rfl, fun c c0 c1 => absurd c1 (by omega)⟩)
    · refine ab_aload_n (pc := 33) dX10_isTurned_33 rfl ?_
      refine ab_get (pc := 34) (k := 13) (x := vR (A 13)) okX10 hW.obj rfl w1068 rfl dX10_isTurned_34 ?_
      refine ab_aload_n (pc := 37) dX10_isTurned_37 rfl ?_
      refine ab_iload_n (pc := 38) dX10_isTurned_38 rfl ?_
      refine ab_iload (pc := 39) dX10_isTurned_39 rfl ?_
      refine ab_iadd (pc := 41) dX10_isTurned_41 (by omega) (by omega) ?_
      refine ab_iald (pc := 42) (n := mLen K) (f := F0 K) (hW.arrK hK (by decide)) (by omega) (by omega) dX10_isTurned_42 ?_
      refine ab_dup2 (pc := 43) dX10_isTurned_43 rfl rfl ?_
      have z2 := cnt_bd (f := F0 K) (c := F0 K (a + i)) (a := a) i0
      have z3 := cnt_bd (f := F0 K) (c := F0 K (a + i)) (a := a + n) i0
      refine ab_iald (pc := 44) (n := 8) (f := F 13) (hW.arr 13 rfl rfl) (by omega) (by omega) dX10_isTurned_44 ?_
      refine ab_iconst (pc := 45) dX10_isTurned_45 (by decide) ?_
      refine ab_iadd (pc := 46) dX10_isTurned_46 (by omega) (by omega) ?_
      refine ab_iastG (pc := 47) (n := 8) (f := F 13) (hW.arr 13 rfl rfl) (by decide) (by omega) (by omega) dX10_isTurned_47 (fun h e9 n9 => ?_)
      replace hW := hW.wr (k := 13) rfl e9 n9 (by decide)
      clear e9 n9
      refine ab_aload_n (pc := 48) dX10_isTurned_48 rfl ?_
      refine ab_get (pc := 49) (k := 13) (x := vR (A 13)) okX10 hW.obj rfl w1068 rfl dX10_isTurned_49 ?_
      refine ab_aload_n (pc := 52) dX10_isTurned_52 rfl ?_
      refine ab_iload_n (pc := 53) dX10_isTurned_53 rfl ?_
      refine ab_iload_n (pc := 54) dX10_isTurned_54 rfl ?_
      refine ab_iadd (pc := 55) dX10_isTurned_55 (by omega) (by omega) ?_
      refine ab_iload (pc := 56) dX10_isTurned_56 rfl ?_
      refine ab_iadd (pc := 58) dX10_isTurned_58 (by omega) (by omega) ?_
      refine ab_iald (pc := 59) (n := mLen K) (f := F0 K) (hW.arrK hK (by decide)) (by omega) (by omega) dX10_isTurned_59 ?_
      refine ab_dup2 (pc := 60) dX10_isTurned_60 rfl rfl ?_
      have z4 := I (F0 K (a + n + i))
      have z5 := cnt_bd (f := F0 K) (c := F0 K (a + n + i)) (a := a) i0
      have z6 := cnt_bd (f := F0 K) (c := F0 K (a + n + i)) (a := a + n) i0
      refine ab_iald (pc := 61) (n := 8) (f := ab_f (F 13) (F0 K ((a + i))) ((F 13 (F0 K ((a + i))) + 1))) (hW.arr 13 rfl rfl) (by omega) (by omega) dX10_isTurned_61 ?_
      refine ab_iconst (pc := 62) dX10_isTurned_62 (by decide) ?_
      have z7 : ab_f (F 13) (F0 K (a + i)) (F 13 (F0 K (a + i)) + 1) (F0 K (a + n + i)) = F 13 (F0 K (a + n + i)) + (if F0 K (a + n + i) = F0 K (a + i) then 1 else 0) := by unfold ab_f; split <;> simp_all
      refine ab_isub (pc := 63) dX10_isTurned_63 (by omega) (by omega) ?_
      refine ab_iastG (pc := 64) (n := 8) (f := ab_f (F 13) (F0 K ((a + i))) ((F 13 (F0 K ((a + i))) + 1))) (hW.arr 13 rfl rfl) (by decide) (by omega) (by omega) dX10_isTurned_64 (fun h e9 n9 => ?_)
      replace hW := hW.wr (k := 13) rfl e9 n9 (by decide)
      clear e9 n9
      refine ab_iinc (pc := 65) dX10_isTurned_65 rfl rfl (by decide) (by omega) (by omega) ?_
      refine ab_goto (pc := 68) 27 dX10_isTurned_68 (by decide) ?_
      refine ih (i + 1) _ _ _ hW (by omega) (by omega) (by omega) (fun c c0 c1 => ?_)
      rw [cnt_step i0, cnt_step i0]
      have z8 := I c c0 c1
      refine turn_step.trans ?_
      split <;> split <;> omega
theorem m_isTurned_3 {K : Nat} (hK : wK K) {a n : Int} (a0 : 0 ≤ a) (n0 : 0 ≤ n) (bN : a + 2 * n ≤ mLen K) (le : ∀ j : Int, a ≤ j → j < a + 2 * n → 0 ≤ F0 K j ∧ F0 K j ≤ 7) {d : Nat} (fu : Nat) : ∀ (k : Int) (h : AbH) (s : Nat → Int) (F : Nat → Int → Int), mW h0 m A s0 F0 [] [13] h s F → (8 - k).toNat < fu → (0 ≤ k) → (k ≤ 8) → (∀ c : Int, 0 ≤ c → c < k → F 13 c = 0) → ab_T l E Y_X10_isTurned d 0 0 3 [some (vR m), some (vR (A K)), some (vI a), some (vI n), some (vI k), none] [] h (mC h0 m A s0 F0 [] [13] (fun r s' F' => (r = some (vI 1) ∧ ∀ c : Int, 0 ≤ c → c < 8 → cnt (F0 K) c a n = cnt (F0 K) c (a + n) n) ∨ (r = some (vI 0) ∧ ¬ ∀ c : Int, 0 ≤ c → c < 8 → cnt (F0 K) c a n = cnt (F0 K) c (a + n) n))) := by
  induction fu with
  | zero => intro k h s F hW hm; exact absurd hm (Nat.not_lt_zero _)
  | succ fu ih =>
    intro k h s F hW hm k0 k1 I
    refine ab_iload (pc := 3) dX10_isTurned_3 rfl ?_
    refine ab_bipush (pc := 5) dX10_isTurned_5 (by decide) ?_
    refine ab_icmp_ge (pc := 7) 24 dX10_isTurned_7 (by decide) (fun c7 => ?_) (fun c7 => ?_)
    · refine ab_iconst (pc := 24) dX10_isTurned_24 (by decide) ?_
      refine ab_istore (pc := 25) dX10_isTurned_25 rfl (Nat.le_of_ble_eq_true rfl) ?_
      exact m_isTurned_27 hK a0 n0 bN le _ 0 _ _ _ hW (Nat.lt_succ_self _) (by omega) n0 (fun c c0 c1 => by rw [cnt0, cnt0]; exact I c c0 (by omega))
    · refine ab_aload_n (pc := 10) dX10_isTurned_10 rfl ?_
      refine ab_get (pc := 11) (k := 13) (x := vR (A 13)) okX10 hW.obj rfl w1068 rfl dX10_isTurned_11 ?_
      refine ab_iload (pc := 14) dX10_isTurned_14 rfl ?_
      refine ab_iconst (pc := 16) dX10_isTurned_16 (by decide) ?_
      refine ab_iastG (pc := 17) (n := 8) (f := F 13) (hW.arr 13 rfl rfl) (by decide) (by omega) (by omega) dX10_isTurned_17 (fun h e9 n9 => ?_)
      replace hW := hW.wr (k := 13) rfl e9 n9 (by decide)
      clear e9 n9
      refine ab_iinc (pc := 18) dX10_isTurned_18 rfl rfl (by decide) (by omega) (by omega) ?_
      refine ab_goto (pc := 21) 3 dX10_isTurned_21 (by decide) ?_
      exact ih (k + 1) _ _ _ hW (by omega) (by omega) (by omega) (upto_P (R := fun _ z => z = 0) I rfl)
theorem m_isTurned (hG : ab_G l E) (hM : mR h0 m A s0 F0) {K : Nat} (hK : wK K) {a n : Int} (a0 : 0 ≤ a) (n0 : 0 ≤ n) (bN : a + 2 * n ≤ mLen K) (le : ∀ j : Int, a ≤ j → j < a + 2 * n → 0 ≤ F0 K j ∧ F0 K j ≤ 7) : ab_M l E Y_X10_isTurned 6 0 0 0 [vR m, vR (A K), vI a, vI n] h0 (mC h0 m A s0 F0 [] [13] (fun r s' F' => (r = some (vI 1) ∧ ∀ c : Int, 0 ≤ c → c < 8 → cnt (F0 K) c a n = cnt (F0 K) c (a + n) n) ∨ (r = some (vI 0) ∧ ¬ ∀ c : Int, 0 ≤ c → c < 8 → cnt (F0 K) c a n = cnt (F0 K) c (a + n) n))) := by
  refine ab_M.of (L0 := [some (vR m), some (vR (A K)), some (vI a), some (vI n), none, none]) hG rfl rfl (Nat.le_of_ble_eq_true rfl) rfl ?_
  have hW : mW h0 m A s0 F0 [] [13] h0 s0 F0 := mW.start hM
  refine ab_iconst (pc := 0) dX10_isTurned_0 (by decide) ?_
  refine ab_istore (pc := 1) dX10_isTurned_1 rfl (Nat.le_of_ble_eq_true rfl) ?_
  exact m_isTurned_3 hK a0 n0 bN le _ 0 _ _ _ hW (Nat.lt_succ_self _) (by omega) (by omega) (fun c c0 c1 => absurd c1 (by omega))
theorem pl_le {z sh : Int → Int} {q n C : Int} (hz : ∀ k : Int, 0 ≤ k → k < n → z (sh (q + k)) ≤ C) : ∀ k : Int, 0 ≤ k → k ≤ n → pl z sh q k ≤ C * k := pl_ind (by rw [pl0]; omega) (fun k k0 k1 h => by
  rw [pl_step k0, Int.mul_add]
  have := hz k k0 k1
  omega)
/-- what is known of the first places while a shape is held against letters -/
def fitB (z sh : Int → Int) (q k a : Int) (B : Int → Int) : Prop := ∀ x : Int, 0 ≤ x → x ≤ 2 → (B x = -1 ∧ ∀ j : Int, 0 ≤ j → j < k → sh (q + j) ≠ x) ∨ ∃ j : Int, 0 ≤ j ∧ j < k ∧ sh (q + j) = x ∧ B x = a + pl z sh q j
def fitA (z sh : Int → Int) (q k : Int) (f : Int → Int) (a : Int) : Prop := ∀ k1 k2 : Int, 0 ≤ k1 → k1 < k → 0 ≤ k2 → k2 < k → sh (q + k1) = sh (q + k2) → ∀ i : Int, 0 ≤ i → i < z (sh (q + k1)) → f (a + pl z sh q k1 + i) = f (a + pl z sh q k2 + i)
theorem fitA_step {z sh : Int → Int} {q k a j0 : Int} {f : Int → Int} (h : fitA z sh q k f a) (j00 : 0 ≤ j0) (j1 : j0 ≤ k) (hs : sh (q + j0) = sh (q + k)) (hf : j0 = k → ∀ j : Int, 0 ≤ j → j < k → sh (q + j) ≠ sh (q + k)) (hi : ∀ t : Int, 0 ≤ t → t < z (sh (q + k)) → f (a + pl z sh q j0 + t) = f (a + pl z sh q k + t)) : fitA z sh q (k + 1) f a := by
  have one : ∀ k2 : Int, 0 ≤ k2 → k2 < k → sh (q + k2) = sh (q + k) → ∀ t : Int, 0 ≤ t → t < z (sh (q + k)) → f (a + pl z sh q k2 + t) = f (a + pl z sh q k + t) := by
    intro k2 b0 b1 e t t0 t1
    by_cases ej : j0 = k
    · exact absurd e (hf ej k2 b0 b1)
    · rw [← hi t t0 t1]
      exact h k2 j0 b0 b1 j00 (by omega) (by rw [e, hs]) t t0 (by rw [e]; exact t1)
  intro k1 k2 a0 a1 b0 b1 e t t0 t1
  by_cases e1 : k1 = k
  · by_cases e2 : k2 = k
    · rw [e1, e2]
    · subst e1
      exact (one k2 b0 (by omega) e.symm t t0 t1).symm
  · by_cases e2 : k2 = k
    · subst e2
      exact one k1 a0 (by omega) e t t0 (by rw [← e]; exact t1)
    · exact h k1 k2 a0 (by omega) b0 (by omega) e t t0 t1
theorem fitB_step {z sh : Int → Int} {q k a : Int} {B : Int → Int} (h : fitB z sh q k a B) (k0 : 0 ≤ k) {j0 : Int} (j00 : 0 ≤ j0) (j1 : j0 ≤ k) (hs : sh (q + j0) = sh (q + k)) (hb : B (sh (q + k)) = a + pl z sh q j0) : fitB z sh q (k + 1) a B := by
  intro x x0 x1
  by_cases e : x = sh (q + k)
  · exact Or.inr ⟨j0, j00, by omega, by rw [hs, e], by rw [e, hb]⟩
  · rcases h x x0 x1 with ⟨b1, b2⟩ | ⟨j, b1, b2, b3, b4⟩
    · refine Or.inl ⟨b1, fun j a0 a1 => ?_⟩
      by_cases ej : j = k
      · rw [ej]
        exact fun e2 => e e2.symm
      · exact b2 j a0 (by omega)
    · exact Or.inr ⟨j, b1, by omega, b3, b4⟩
theorem fitB_put {z sh : Int → Int} {q k a : Int} {B : Int → Int} (h : fitB z sh q k a B) (k0 : 0 ≤ k) : fitB z sh q (k + 1) a (ab_f B (sh (q + k)) (a + pl z sh q k)) := by
  intro x x0 x1
  by_cases e : x = sh (q + k)
  · exact Or.inr ⟨k, k0, by omega, e.symm, by rw [ab_f_eq e]⟩
  · rw [ab_f_ne e]
    rcases h x x0 x1 with ⟨b1, b2⟩ | ⟨j, b1, b2, b3, b4⟩
    · refine Or.inl ⟨b1, fun j a0 a1 => ?_⟩
      by_cases ej : j = k
      · rw [ej]
        exact fun e2 => e e2.symm
      · exact b2 j a0 (by omega)
    · exact Or.inr ⟨j, b1, by omega, b3, b4⟩
theorem m_fits_113 {h : AbH} {s : Nat → Int} {F : Nat → Int → Int} (hW : mW h0 m A s0 F0 [] [14] h s F) {K : Nat} (hK : wK K) {q n a b : Int} (q0 : 0 ≤ q) (q1 : q + n ≤ 960) (n0 : 0 ≤ n) (n6 : n ≤ 6) (a0 : 0 ≤ a) (ab : a ≤ b) (bN : b ≤ mLen K) (sl : ∀ k : Int, 0 ≤ k → k < n → 0 ≤ F0 12 (q + k) ∧ F0 12 (q + k) ≤ 2) (sz : ∀ x : Int, 0 ≤ x → x ≤ 2 → 1 ≤ F0 15 x ∧ F0 15 x ≤ 100) {y7 k j0 : Int} (k0 : 0 ≤ k) (k1 : k < n) (e14 : F 14 (F0 12 (q + k)) = a + pl (F0 15) (F0 12) q j0) (j00 : 0 ≤ j0) (j01 : j0 ≤ k) (ej : F0 12 (q + j0) = F0 12 (q + k)) (tot : pl (F0 15) (F0 12) q n = b - a) (hC : ∀ i : Int, (∀ t : Int, 0 ≤ t → t < F0 15 (F0 12 (q + k)) → F0 K (a + pl (F0 15) (F0 12) q j0 + t) = F0 K (a + pl (F0 15) (F0 12) q k + t)) → ab_T l E Y_X10_fits 0 0 0 157 [some (vR m), some (vR (A 12)), some (vI q), some (vI n), some (vR (A K)), some (vI a), some (vI b), some (vI y7), some (vI (a + pl (F0 15) (F0 12) q k)), some (vI k), some (vI (F0 12 (q + k))), some (vI i)] [] h (mC h0 m A s0 F0 [] [14] (fun r s' F' => (r = some (vI 1) ∧ Fit (F0 15) (F0 12) q n (F0 K) a b) ∨ (r = some (vI 0) ∧ ¬ Fit (F0 15) (F0 12) q n (F0 K) a b)))) (fu : Nat) : ∀ (i : Int), (F0 15 (F0 12 (q + k)) - i).toNat < fu → (0 ≤ i) → (∀ t : Int, 0 ≤ t → t < i → F0 K (a + pl (F0 15) (F0 12) q j0 + t) = F0 K (a + pl (F0 15) (F0 12) q k + t)) → ab_T l E Y_X10_fits 0 0 0 113 [some (vR m), some (vR (A 12)), some (vI q), some (vI n), some (vR (A K)), some (vI a), some (vI b), some (vI y7), some (vI (a + pl (F0 15) (F0 12) q k)), some (vI k), some (vI (F0 12 (q + k))), some (vI i)] [] h (mC h0 m A s0 F0 [] [14] (fun r s' F' => (r = some (vI 1) ∧ Fit (F0 15) (F0 12) q n (F0 K) a b) ∨ (r = some (vI 0) ∧ ¬ Fit (F0 15) (F0 12) q n (F0 K) a b))) := by
  induction fu with
  | zero => intro i hm; exact absurd hm (Nat.not_lt_zero _)
  | succ fu ih =>
    intro i hm i0 I
    have hk8 := wK_le hK
    have gz : ∀ k : Int, 0 ≤ k → k < n → 1 ≤ F0 15 (F0 12 (q + k)) := fun k k0 k1 => (sz _ (sl k k0 k1).1 (sl k k0 k1).2).1
    have lz : ∀ k : Int, 0 ≤ k → k < n → F0 15 (F0 12 (q + k)) ≤ 100 := fun k k0 k1 => (sz _ (sl k k0 k1).1 (sl k k0 k1).2).2
    have x1 := sl k k0 k1
    have y1 := lz k k0 k1
    have p1 := pl_ge gz k k0 (by omega)
    have p2 := pl_ge gz j0 j00 (by omega)
    have p3 := pl_mono gz (j := k + 1) (by omega) n n0 (Int.le_refl _) (by omega)
    have p4 := pl_mono gz (j := j0 + 1) (by omega) n n0 (Int.le_refl _) (by omega)
    rw [pl_step k0] at p3
    rw [pl_step j00, ej] at p4
    refine ab_iload (pc := 113) dX10_fits_113 rfl ?_
    refine ab_aload_n (pc := 115) dX10_fits_115 rfl ?_
    refine ab_get (pc := 116) (k := 15) (x := vR (A 15)) okX10 hW.obj rfl w1070 rfl dX10_fits_116 ?_
    refine ab_iload (pc := 119) dX10_fits_119 rfl ?_
    refine ab_iald (pc := 121) (n := 3) (f := F0 15) (hW.arr 15 rfl (hW.Fv 15 (by decide))) (by omega) (by omega) dX10_fits_121 ?_
    refine ab_icmp_ge (pc := 122) 157 dX10_fits_122 (by decide) (fun c122 => ?_) (fun c122 => ?_)
    · exact hC i (fun t t0 t1 => I t t0 (by omega))
    · refine ab_aload (pc := 125) dX10_fits_125 rfl ?_
      refine ab_aload_n (pc := 127) dX10_fits_127 rfl ?_
      refine ab_get (pc := 128) (k := 14) (x := vR (A 14)) okX10 hW.obj rfl w1069 rfl dX10_fits_128 ?_
      refine ab_iload (pc := 131) dX10_fits_131 rfl ?_
      refine ab_iald (pc := 133) (n := 3) (f := F 14) (hW.arr 14 rfl rfl) (by omega) (by omega) dX10_fits_133 ?_
      refine ab_iload (pc := 134) dX10_fits_134 rfl ?_
      refine ab_iadd (pc := 136) dX10_fits_136 (by omega) (by omega) ?_
      rw [e14]
      refine ab_iald (pc := 137) (n := mLen K) (f := F0 K) (hW.arrK hK (by decide)) (by omega) (by omega) dX10_fits_137 ?_
      refine ab_aload (pc := 138) dX10_fits_138 rfl ?_
      refine ab_iload (pc := 140) dX10_fits_140 rfl ?_
      refine ab_iload (pc := 142) dX10_fits_142 rfl ?_
      refine ab_iadd (pc := 144) dX10_fits_144 (by omega) (by omega) ?_
      refine ab_iald (pc := 145) (n := mLen K) (f := F0 K) (hW.arrK hK (by decide)) (by omega) (by omega) dX10_fits_145 ?_
      refine ab_icmp_eq (pc := 146) 151 dX10_fits_146 (by decide) (fun c146 => ?_) (fun c146 => ?_)
      · refine ab_iinc (pc := 151) dX10_fits_151 rfl rfl (by decide) (by omega) (by omega) ?_
        refine ab_goto (pc := 154) 113 dX10_fits_154 (by decide) ?_
        refine ih (i + 1) (by omega) (by omega) (fun t t0 t1 => ?_)
        by_cases e : t = i
        · rw [e]; exact c146
        · exact I t t0 (by omega)
      · refine ab_iconst (pc := 149) dX10_fits_149 (by decide) ?_
        refine ab_zret (pc := 150) dX10_fits_150 rfl (by omega) ?_
        exact ⟨_, _, _, rfl, hW, Or.inr ⟨rfl, fun e => c146 (e.2 j0 k j00 (by omega) k0 k1 ej i i0 (by rw [ej]; omega))⟩⟩
end M3
