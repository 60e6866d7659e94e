/-! the class: laws by shapes, the shortest span -/
section C4
variable {l : Launch} {E : AbE} {h0 : AbH}
theorem c_same_15 {w gw N : Nat} {f : Int → Int} {e o s : Int} (n6 : N ≤ 60) (e0 : 0 ≤ e) (e1 : e ≤ N) (o1 : o ≤ N) (s0 : 1 ≤ s) (h1 : s ≤ e) (h2 : s ≤ o) (hw : h0 w = some (kI gw N f))  (fu : Nat) : ∀ (i : Int), (s + 1 - i).toNat < fu → (1 ≤ i) → (i ≤ s + 1) → (∀ j : Int, 1 ≤ j → j < i → f (e - j) = f (o - j)) → ab_T l E Y_X5_areSame 0 0 0 15 [some (vR w), some (vI e), some (vI o), some (vI s), some (vI i)] [] h0 (pC h0 (fun v => (v = 1 ∧ alik f e o s) ∨ (v = 0 ∧ ¬ alik f e o s))) := by
  induction fu with
  | zero => intro i hm; exact absurd hm (Nat.not_lt_zero _)
  | succ fu ih =>
    intro i hm i0 i1 I
    refine ab_iload (pc := 15) dX5_areSame_15 rfl ?_
    refine ab_iload_n (pc := 17) dX5_areSame_17 rfl ?_
    refine ab_icmp_gt (pc := 18) 44 dX5_areSame_18 (by decide) (fun c18 => ?_) (fun c18 => ?_)
    · refine ab_iconst (pc := 44) dX5_areSame_44 (by decide) ?_
      refine ab_zret (pc := 45) dX5_areSame_45 rfl (by omega) ?_
      exact ⟨_, rfl, rfl, Or.inl ⟨rfl, h1, h2, fun j j0 j1 => I j j0 (by omega)⟩⟩
    · refine ab_aload_n (pc := 21) dX5_areSame_21 rfl ?_
      refine ab_iload_n (pc := 22) dX5_areSame_22 rfl ?_
      refine ab_iload (pc := 23) dX5_areSame_23 rfl ?_
      refine ab_isub (pc := 25) dX5_areSame_25 (by omega) (by omega) ?_
      refine ab_iald (pc := 26) hw (by omega) (by omega) dX5_areSame_26 ?_
      refine ab_aload_n (pc := 27) dX5_areSame_27 rfl ?_
      refine ab_iload_n (pc := 28) dX5_areSame_28 rfl ?_
      refine ab_iload (pc := 29) dX5_areSame_29 rfl ?_
      refine ab_isub (pc := 31) dX5_areSame_31 (by omega) (by omega) ?_
      refine ab_iald (pc := 32) hw (by omega) (by omega) dX5_areSame_32 ?_
      refine ab_icmp_eq (pc := 33) 38 dX5_areSame_33 (by decide) (fun c33 => ?_) (fun c33 => ?_)
      · refine ab_iinc (pc := 38) dX5_areSame_38 rfl rfl (by decide) (by omega) (by omega) ?_
        refine ab_goto (pc := 41) 15 dX5_areSame_41 (by decide) ?_
        refine ih (i + 1) (by omega) (by omega) (by omega) (fun j j0 j1 => ?_)
        by_cases g : j = i
        · rw [g]; exact c33
        · exact I j j0 (by omega)
      · refine ab_iconst (pc := 36) dX5_areSame_36 (by decide) ?_
        refine ab_zret (pc := 37) dX5_areSame_37 rfl (by omega) ?_
        exact ⟨_, rfl, rfl, Or.inr ⟨rfl, fun k => c33 (k.2.2 i i0 (by omega))⟩⟩
theorem c_same (hG : ab_G l E) {w gw N : Nat} {f : Int → Int} {e o s : Int} (hw : h0 w = some (kI gw N f)) (n6 : N ≤ 60) (e0 : 0 ≤ e) (e1 : e ≤ N) (o1 : o ≤ N) (s0 : 1 ≤ s) : ab_M l E Y_X5_areSame 5 0 0 0 [vR w, vI e, vI o, vI s] h0 (pC h0 (fun v => (v = 1 ∧ alik f e o s) ∨ (v = 0 ∧ ¬ alik f e o s))) := by
  refine ab_M.of (L0 := [some (vR w), some (vI e), some (vI o), some (vI s), none]) hG rfl rfl (Nat.le_of_ble_eq_true rfl) rfl ?_
  refine ab_iload_n (pc := 0) dX5_areSame_0 rfl ?_
  refine ab_iload_n (pc := 1) dX5_areSame_1 rfl ?_
  refine ab_icmp_gt (pc := 2) 10 dX5_areSame_2 (by decide) (fun c2 => ?_) (fun c2 => ?_)
  · refine ab_iconst (pc := 10) dX5_areSame_10 (by decide) ?_
    refine ab_zret (pc := 11) dX5_areSame_11 rfl (by omega) ?_
    exact ⟨_, rfl, rfl, Or.inr ⟨rfl, fun k => by have := k.1; have := k.2.1; omega⟩⟩
  · refine ab_iload_n (pc := 5) dX5_areSame_5 rfl ?_
    refine ab_iload_n (pc := 6) dX5_areSame_6 rfl ?_
    refine ab_icmp_le (pc := 7) 12 dX5_areSame_7 (by decide) (fun c7 => ?_) (fun c7 => ?_)
    · refine ab_iconst (pc := 12) dX5_areSame_12 (by decide) ?_
      refine ab_istore (pc := 13) dX5_areSame_13 rfl (Nat.le_of_ble_eq_true rfl) ?_
      exact c_same_15 n6 e0 e1 o1 s0 (by omega) (by omega) hw _ 1 (Nat.lt_succ_self _) (by omega) (by omega) (fun j j0 j1 => absurd j1 (by omega))
    · refine ab_iconst (pc := 10) dX5_areSame_10 (by decide) ?_
      refine ab_zret (pc := 11) dX5_areSame_11 rfl (by omega) ?_
      exact ⟨_, rfl, rfl, Or.inr ⟨rfl, fun k => by have := k.1; have := k.2.1; omega⟩⟩
theorem c_mf_45 {a b1 b2 b3 b4 b5 g L w gw N : Nat} {tl bs : Int} {t tm f : Int → Int} {e k : Int} {mo o : Int} (n6 : N ≤ 60) (e0 : 0 ≤ e) (e1 : e ≤ N) (k0 : 0 ≤ k) (k1 : k < L) (L6 : L ≤ 6) (ht : ∀ j : Int, 0 ≤ j → j < L → 0 ≤ t j ∧ t j ≤ 2) (mo0 : 0 ≤ mo) (o0 : mo < o) (o1 : o < e) (hC : ∀ sz : Int, 0 ≤ sz → sz ≤ o → sz ≤ e - o → (sz = o ∨ sz = e - o ∨ f (e - 1 - sz) ≠ f (o - 1 - sz)) → ab_T l E Y_X5_mostFor 0 0 0 87 [some (vR a), some (vR w), some (vI e), some (vI k), some (vI mo), some (vI o), some (vI sz)] [] h0 (pC h0 (fun v => mfS f tl (tm (t k)) e k v ∧ 0 ≤ v ∧ (v ≤ 1 ∨ v ≤ e)))) (ho : h0 a = some (kO g 4 [vR b1, vI tl, vR b2, vR b3, vR b4, vR b5, vI bs])) (h1 : h0 b1 = some (kI (g + 1) L t)) (h2 : h0 b2 = some (kI (g + 2) 3 tm)) (hw : h0 w = some (kI gw N f))  (fu : Nat) : ∀ (sz : Int), (o - sz).toNat < fu → (0 ≤ sz) → (sz ≤ o) → (sz ≤ e - o) → ab_T l E Y_X5_mostFor 0 0 0 45 [some (vR a), some (vR w), some (vI e), some (vI k), some (vI mo), some (vI o), some (vI sz)] [] h0 (pC h0 (fun v => mfS f tl (tm (t k)) e k v ∧ 0 ≤ v ∧ (v ≤ 1 ∨ v ≤ e))) := by
  induction fu with
  | zero => intro sz hm; exact absurd hm (Nat.not_lt_zero _)
  | succ fu ih =>
    intro sz hm z0 z1 z2
    refine ab_iload (pc := 45) dX5_mostFor_45 rfl ?_
    refine ab_iload (pc := 47) dX5_mostFor_47 rfl ?_
    refine ab_icmp_ge (pc := 49) 87 dX5_mostFor_49 (by decide) (fun c49 => ?_) (fun c49 => ?_)
    · exact hC sz z0 z1 z2 (by omega)
    · refine ab_iload (pc := 52) dX5_mostFor_52 rfl ?_
      refine ab_iload_n (pc := 54) dX5_mostFor_54 rfl ?_
      refine ab_iload (pc := 55) dX5_mostFor_55 rfl ?_
      refine ab_isub (pc := 57) dX5_mostFor_57 (by omega) (by omega) ?_
      refine ab_icmp_ge (pc := 58) 87 dX5_mostFor_58 (by decide) (fun c58 => ?_) (fun c58 => ?_)
      · exact hC sz z0 z1 z2 (by omega)
      · refine ab_aload_n (pc := 61) dX5_mostFor_61 rfl ?_
        refine ab_iload_n (pc := 62) dX5_mostFor_62 rfl ?_
        refine ab_iconst (pc := 63) dX5_mostFor_63 (by decide) ?_
        refine ab_isub (pc := 64) dX5_mostFor_64 (by omega) (by omega) ?_
        refine ab_iload (pc := 65) dX5_mostFor_65 rfl ?_
        refine ab_isub (pc := 67) dX5_mostFor_67 (by omega) (by omega) ?_
        refine ab_iald (pc := 68) hw (by omega) (by omega) dX5_mostFor_68 ?_
        refine ab_aload_n (pc := 69) dX5_mostFor_69 rfl ?_
        refine ab_iload (pc := 70) dX5_mostFor_70 rfl ?_
        refine ab_iconst (pc := 72) dX5_mostFor_72 (by decide) ?_
        refine ab_isub (pc := 73) dX5_mostFor_73 (by omega) (by omega) ?_
        refine ab_iload (pc := 74) dX5_mostFor_74 rfl ?_
        refine ab_isub (pc := 76) dX5_mostFor_76 (by omega) (by omega) ?_
        refine ab_iald (pc := 77) hw (by omega) (by omega) dX5_mostFor_77 ?_
        refine ab_icmp_ne (pc := 78) 87 dX5_mostFor_78 (by decide) (fun c78 => ?_) (fun c78 => ?_)
        · exact hC sz z0 z1 z2 (by omega)
        · refine ab_iinc (pc := 81) dX5_mostFor_81 rfl rfl (by decide) (by omega) (by omega) ?_
          refine ab_goto (pc := 84) 45 dX5_mostFor_84 (by decide) ?_
          exact ih (sz + 1) (by omega) (by omega) (by omega) (by omega)
theorem c_mf_35 {a b1 b2 b3 b4 b5 g L w gw N : Nat} {tl bs : Int} {t tm f : Int → Int} {e k : Int} (n6 : N ≤ 60) (e0 : 0 ≤ e) (e1 : e ≤ N) (k0 : 0 ≤ k) (k1 : k < L) (L6 : L ≤ 6) (ht : ∀ j : Int, 0 ≤ j → j < L → 0 ≤ t j ∧ t j ≤ 2) (hT : tm (t k) ≠ 1) (ho : h0 a = some (kO g 4 [vR b1, vI tl, vR b2, vR b3, vR b4, vR b5, vI bs])) (h1 : h0 b1 = some (kI (g + 1) L t)) (h2 : h0 b2 = some (kI (g + 2) 3 tm)) (hw : h0 w = some (kI gw N f))  (fu : Nat) : ∀ (mo o : Int) (x6 : Option AbV), (o + 1).toNat < fu → (0 ≤ mo) → (mo ≤ e) → (o < e) → (-1 ≤ o) → (∀ s o2 : Int, 1 ≤ s → s ≤ o2 → s ≤ e - o2 → o < o2 → (∀ i : Int, 0 ≤ i → i < s → f (e - 1 - i) = f (o2 - 1 - i)) → s ≤ mo) → ab_T l E Y_X5_mostFor 0 0 0 35 [some (vR a), some (vR w), some (vI e), some (vI k), some (vI mo), some (vI o), x6] [] h0 (pC h0 (fun v => mfS f tl (tm (t k)) e k v ∧ 0 ≤ v ∧ (v ≤ 1 ∨ v ≤ e))) := by
  induction fu with
  | zero => intro mo o x6 hm; exact absurd hm (Nat.not_lt_zero _)
  | succ fu ih =>
    intro mo o x6 hm mo0 mo1 o1 o2 I
    refine ab_iload (pc := 35) dX5_mostFor_35 rfl ?_
    refine ab_iload (pc := 37) dX5_mostFor_37 rfl ?_
    refine ab_icmp_le (pc := 39) 109 dX5_mostFor_39 (by decide) (fun c39 => ?_) (fun c39 => ?_)
    · refine ab_iload (pc := 109) dX5_mostFor_109 rfl ?_
      refine ab_iret (pc := 111) dX5_mostFor_111 rfl ?_
      refine ⟨_, rfl, rfl, Or.inr (Or.inr ⟨hT, mo0, mo1, fun s o2 a1 a2 a3 a5 => ?_⟩), mo0, Or.inr mo1⟩
      by_cases g9 : o < o2
      · exact I s o2 a1 a2 a3 g9 a5
      · omega
    · refine ab_iconst (pc := 42) dX5_mostFor_42 (by decide) ?_
      refine ab_istore (pc := 43) dX5_mostFor_43 rfl (Nat.le_of_ble_eq_true rfl) ?_
      refine c_mf_45 n6 e0 e1 k0 k1 L6 ht mo0 (by omega) (by omega) (fun sz q0 q1 q2 q3 => ?_) ho h1 h2 hw _ 0 (Nat.lt_succ_self _) (by omega) (by omega) (by omega)
      refine ab_via (S := []) 101 (fun v : Int => (v = sz ∧ mo < sz) ∨ (v = mo ∧ sz ≤ mo)) (fun v hv => ?_) (fun J101 => ?_)
      · refine ab_istore (pc := 101) dX5_mostFor_101 rfl (Nat.le_of_ble_eq_true rfl) ?_
        refine ab_iinc (pc := 103) dX5_mostFor_103 rfl rfl (by decide) (by omega) (by omega) ?_
        refine ab_goto (pc := 106) 35 dX5_mostFor_106 (by decide) ?_
        refine ih v (o - 1) _ (by omega) (by omega) (by omega) (by omega) (by omega) (fun s o2 a1 a2 a3 a4 a5 => ?_)
        by_cases g9 : o2 = o
        · subst g9
          rcases Int.lt_or_le sz s with g8 | g8
          · have := a5 sz q0 g8
            rcases q3 with q3 | q3 | q3
            · omega
            · omega
            · exact absurd this q3
          · omega
        · have := I s o2 a1 a2 a3 (by omega) a5; omega
      · refine ab_iload (pc := 87) dX5_mostFor_87 rfl ?_
        refine ab_iload (pc := 89) dX5_mostFor_89 rfl ?_
        refine ab_icmp_le (pc := 91) 99 dX5_mostFor_91 (by decide) (fun c91 => ?_) (fun c91 => ?_)
        · refine ab_iload (pc := 99) dX5_mostFor_99 rfl ?_
          exact J101 (mo) (by omega)
        · refine ab_iload (pc := 94) dX5_mostFor_94 rfl ?_
          refine ab_goto (pc := 96) 101 dX5_mostFor_96 (by decide) ?_
          exact J101 (sz) (by omega)
theorem c_mf (hG : ab_G l E) {a b1 b2 b3 b4 b5 g L w gw N : Nat} {tl bs : Int} {t tm f : Int → Int} {e k : Int} (ho : h0 a = some (kO g 4 [vR b1, vI tl, vR b2, vR b3, vR b4, vR b5, vI bs])) (h1 : h0 b1 = some (kI (g + 1) L t)) (h2 : h0 b2 = some (kI (g + 2) 3 tm)) (hw : h0 w = some (kI gw N f)) (n6 : N ≤ 60) (e0 : 0 ≤ e) (e1 : e ≤ N) (k0 : 0 ≤ k) (k1 : k < L) (L6 : L ≤ 6) (ht : ∀ j : Int, 0 ≤ j → j < L → 0 ≤ t j ∧ t j ≤ 2) : ab_M l E Y_X5_mostFor 7 0 0 0 [vR a, vR w, vI e, vI k] h0 (pC h0 (fun v => mfS f tl (tm (t k)) e k v ∧ 0 ≤ v ∧ (v ≤ 1 ∨ v ≤ e))) := by
  refine ab_M.of (L0 := [some (vR a), some (vR w), some (vI e), some (vI k), none, none, none]) hG rfl rfl (Nat.le_of_ble_eq_true rfl) rfl ?_
  have tk := ht k k0 k1
  refine ab_iload_n (pc := 0) dX5_mostFor_0 rfl ?_
  refine ab_aload_n (pc := 1) dX5_mostFor_1 rfl ?_
  refine ab_get (pc := 2) (k := 1) okX5 ho rfl w657 rfl dX5_mostFor_2 ?_
  refine ab_icmp_lt (pc := 5) 10 dX5_mostFor_5 (by decide) (fun c5 => ?_) (fun c5 => ?_)
  · refine ab_aload_n (pc := 10) dX5_mostFor_10 rfl ?_
    refine ab_get (pc := 11) (k := 2) okX5 ho rfl w658 rfl dX5_mostFor_11 ?_
    refine ab_aload_n (pc := 14) dX5_mostFor_14 rfl ?_
    refine ab_get (pc := 15) (k := 0) okX5 ho rfl w656 rfl dX5_mostFor_15 ?_
    refine ab_iload_n (pc := 18) dX5_mostFor_18 rfl ?_
    refine ab_iald (pc := 19) h1 (by omega) (by omega) dX5_mostFor_19 ?_
    refine ab_iald (pc := 20) h2 (by omega) (by omega) dX5_mostFor_20 ?_
    refine ab_iconst (pc := 21) dX5_mostFor_21 (by decide) ?_
    refine ab_icmp_ne (pc := 22) 27 dX5_mostFor_22 (by decide) (fun c22 => ?_) (fun c22 => ?_)
    · refine ab_iconst (pc := 27) dX5_mostFor_27 (by decide) ?_
      refine ab_istore (pc := 28) dX5_mostFor_28 rfl (Nat.le_of_ble_eq_true rfl) ?_
      refine ab_iload_n (pc := 30) dX5_mostFor_30 rfl ?_
      refine ab_iconst (pc := 31) dX5_mostFor_31 (by decide) ?_
      refine ab_isub (pc := 32) dX5_mostFor_32 (by omega) (by omega) ?_
      refine ab_istore (pc := 33) dX5_mostFor_33 rfl (Nat.le_of_ble_eq_true rfl) ?_
      exact c_mf_35 n6 e0 e1 k0 k1 L6 ht c22 ho h1 h2 hw _ 0 (e - 1) _ (Nat.lt_succ_self _) (by omega) (by omega) (by omega) (by omega) (fun s o2 a1 a2 a3 a4 a5 => by omega)
    · refine ab_iload_n (pc := 25) dX5_mostFor_25 rfl ?_
      refine ab_iret (pc := 26) dX5_mostFor_26 rfl ?_
      exact ⟨_, rfl, rfl, Or.inr (Or.inl ⟨c22, rfl⟩), by omega, Or.inr (by omega)⟩
  · refine ab_iconst (pc := 8) dX5_mostFor_8 (by decide) ?_
    refine ab_iret (pc := 9) dX5_mostFor_9 rfl ?_
    exact ⟨_, rfl, rfl, Or.inl ⟨by omega, rfl⟩, by omega, Or.inl (by omega)⟩
theorem c_fit_0 (hG : ab_G l E) {a b1 b2 b3 b4 b5 g L w gw N : Nat} {tl n : Int} {t tm f : Int → Int} {e le bs : Int} {z en : Int → Int} (ho : h0 a = some (kO g 4 [vR b1, vI tl, vR b2, vR b3, vR b4, vR b5, vI bs])) (h1 : h0 b1 = some (kI (g + 1) L t)) (h2 : h0 b2 = some (kI (g + 2) 3 tm)) (h3 : h0 b3 = some (kI (g + 3) 3 z)) (h4 : h0 b4 = some (kI (g + 4) 3 en)) (hw : h0 w = some (kI gw N f)) (g0 : 201 ≤ g) (gw0 : gw < 200) (n0 : 0 ≤ n) (n1 : n ≤ N) (n6 : N ≤ 60) (L1 : 1 ≤ L) (L6 : L ≤ 6) (ht : ∀ j : Int, 0 ≤ j → j < L → 0 ≤ t j ∧ t j ≤ 2) (tok : tlOk t L tl) (htm : ∀ x : Int, 0 ≤ x → x ≤ 2 → tm x = cnt t x 0 L) (hk : ∀ a u : Int, 0 ≤ a → a < u → u < n → ¬ Comes t 0 L f a u) (hp : fPre t f L n 0 e le bs z en) : ab_M l E Y_X5_fit 8 1 0 0 [vR a, vR w, vI e, vI (-1), vI le] h0 (cC h0 [g, g + 3, g + 4] (fun r h' => r = none ∧ ∃ (bs' : Int) (en' : Int → Int), h' a = some (kO g 4 [vR b1, vI tl, vR b2, vR b3, vR b4, vR b5, vI bs']) ∧ h' b3 = some (kI (g + 3) 3 z) ∧ h' b4 = some (kI (g + 4) 3 en') ∧ fPost t f L n bs z en bs' en')) := by
  refine ab_M.of (L0 := [some (vR a), some (vR w), some (vI e), some (vI (-1)), some (vI le), none, none, none]) hG rfl rfl (Nat.le_of_ble_eq_true rfl) rfl ?_
  have kp : ab_kp (cP [g, g + 3, g + 4]) h0 h0 := ab_kp0
  refine ab_iload_n (pc := 0) dX5_fit_0 rfl ?_
  refine ab_if_ge (pc := 1) 11 dX5_fit_1 (by decide) (fun c1 => absurd c1 (by omega)) (fun c1 => ?_)
  refine ab_aload_n (pc := 4) dX5_fit_4 rfl ?_
  refine ab_iload (pc := 5) dX5_fit_5 rfl ?_
  refine ab_putG (pc := 7) (k := 6) okX5 ho (by omega) (by decide) trivial w662 rfl (Or.inl rfl) dX5_fit_7 (fun h e9 n9 => ?_)
  replace h1 := (n9 _ (ab_ne h1 ho (by first | (simp; done) | (simp; omega)))).trans h1
  replace h2 := (n9 _ (ab_ne h2 ho (by first | (simp; done) | (simp; omega)))).trans h2
  replace h3 := (n9 _ (ab_ne h3 ho (by first | (simp; done) | (simp; omega)))).trans h3
  replace h4 := (n9 _ (ab_ne h4 ho (by first | (simp; done) | (simp; omega)))).trans h4
  replace hw := (n9 _ (ab_ne hw ho (by first | (simp; done) | (simp; omega)))).trans hw
  replace kp := kp.wr ho (cP_no (by simp)) n9
  replace ho := e9
  clear e9 n9
  refine ab_vret (pc := 10) dX5_fit_10 rfl ?_
  exact ⟨_, rfl, kp, rfl, _, _, ho, h3, h4, hp.done (by omega)⟩
theorem c_fit_91 {a b1 b2 b3 b4 b5 g L w gw N : Nat} {tl n : Int} {t tm f : Int → Int} {k : Nat} {e le bs0 mo : Int} {z en : Int → Int} (hG : ab_G l E) (g0 : 201 ≤ g) (gw0 : gw < 200) (n0 : 0 ≤ n) (n1 : n ≤ N) (n6 : N ≤ 60) (L1 : 1 ≤ L) (L6 : L ≤ 6) (ht : ∀ j : Int, 0 ≤ j → j < L → 0 ≤ t j ∧ t j ≤ 2) (tok : tlOk t L tl) (htm : ∀ x : Int, 0 ≤ x → x ≤ 2 → tm x = cnt t x 0 L) (hk : ∀ a u : Int, 0 ≤ a → a < u → u < n → ¬ Comes t 0 L f a u) (IH : ∀ (h2 : AbH) (e le bs : Int) (z en : Int → Int), h2 a = some (kO g 4 [vR b1, vI tl, vR b2, vR b3, vR b4, vR b5, vI bs]) → h2 b1 = some (kI (g + 1) L t) → h2 b2 = some (kI (g + 2) 3 tm) → h2 b3 = some (kI (g + 3) 3 z) → h2 b4 = some (kI (g + 4) 3 en) → h2 w = some (kI gw N f) → fPre t f L n (k : Int) e le bs z en → ab_M l E Y_X5_fit 8 (k + 1) 0 0 [vR a, vR w, vI e, vI ((k : Int) - 1), vI le] h2 (cC h2 [g, g + 3, g + 4] (fun r h' => r = none ∧ ∃ (bs' : Int) (en' : Int → Int), h' a = some (kO g 4 [vR b1, vI tl, vR b2, vR b3, vR b4, vR b5, vI bs']) ∧ h' b3 = some (kI (g + 3) 3 z) ∧ h' b4 = some (kI (g + 4) 3 en') ∧ fPost t f L n bs z en bs' en'))) (k1 : (k : Int) < L) (hp : fPre t f L n (k + 1) e le bs0 z en) (hz : z (t k) = 0) (mf : mfS f tl (cnt t (t k) 0 L) e k mo) (mo0 : 0 ≤ mo) (mo1 : mo ≤ 1 ∨ mo ≤ e)   (fu : Nat) : ∀ (size bs : Int) (zc en' : Int → Int) (h : AbH), (mo + 1 - size).toNat < fu → h a = some (kO g 4 [vR b1, vI tl, vR b2, vR b3, vR b4, vR b5, vI bs]) → h b1 = some (kI (g + 1) L t) → h b2 = some (kI (g + 2) 3 tm) → h b3 = some (kI (g + 3) 3 zc) → h b4 = some (kI (g + 4) 3 en') → h w = some (kI gw N f) → ab_kp (cP [g, g + 3, g + 4]) h0 h → (1 ≤ size) → (size ≤ mo + 1) → (fLoop t f L n bs0 z (t k) size bs) → (∀ y : Int, y ≠ t k → zc y = z y) → (∀ y : Int, z y ≠ 0 → en' y = en y) → (en' (t k) = e) → ab_T l E Y_X5_fit (k + 2) 0 0 91 [some (vR a), some (vR w), some (vI e), some (vI (k : Int)), some (vI le), some (vI (t (k : Int))), some (vI mo), some (vI size)] [] h (cC h0 [g, g + 3, g + 4] (fun r h' => r = none ∧ ∃ (bs' : Int) (en' : Int → Int), h' a = some (kO g 4 [vR b1, vI tl, vR b2, vR b3, vR b4, vR b5, vI bs']) ∧ h' b3 = some (kI (g + 3) 3 z) ∧ h' b4 = some (kI (g + 4) 3 en') ∧ fPost t f L n bs0 z en bs' en')) := by
  induction fu with
  | zero => intro size bs zc en' h hm; exact absurd hm (Nat.not_lt_zero _)
  | succ fu ih =>
    intro size bs zc en' h hm ho h1 h2 h3 h4 hw kp s1 s9 I hzc he hx
    have tk := ht k (by omega) k1
    have tmk := htm (t k) tk.1 tk.2
    have cb := cnt_bd (f := t) (c := t k) (a := 0) (n := L) (by omega)
    have ee := hp.2.2.2.1
    have e0 := hp.2.2.1
    have lq := hp.le_eq
    have hI := I.1
    have hb9 := hp.2.2.2.2.2.2.2.2.2.2.1
    have ml := mlen hp (by omega) (by omega) (by omega) (by omega)
    have pr := pw_r (x := size - 1) (u := tm (t k)) (by omega) (by omega) (by omega) (by omega)
    have ez : ∀ x : Int, ab_f zc (t k) x = ab_f z (t k) x := fun x => funext fun y => by unfold ab_f; split; rfl; exact hzc y (by assumption)
    refine ab_iload (pc := 91) dX5_fit_91 rfl ?_
    refine ab_iload (pc := 93) dX5_fit_93 rfl ?_
    refine ab_icmp_gt (pc := 95) 162 dX5_fit_95 (by decide) (fun c95 => ?_) (fun c95 => ?_)
    · refine ab_aload_n (pc := 162) dX5_fit_162 rfl ?_
      refine ab_get (pc := 163) (k := 3) okX5 ho rfl w659 rfl dX5_fit_163 ?_
      refine ab_iload (pc := 166) dX5_fit_166 rfl ?_
      refine ab_iconst (pc := 168) dX5_fit_168 (by decide) ?_
      refine ab_iastG (pc := 169) h3 (by omega) (by omega) (by omega) dX5_fit_169 (fun h e9 n9 => ?_)
      replace ho := (n9 _ (ab_ne ho h3 (by first | (simp; done) | (simp; omega)))).trans ho
      replace h1 := (n9 _ (ab_ne h1 h3 (by first | (simp; done) | (simp; omega)))).trans h1
      replace h2 := (n9 _ (ab_ne h2 h3 (by first | (simp; done) | (simp; omega)))).trans h2
      replace h4 := (n9 _ (ab_ne h4 h3 (by first | (simp; done) | (simp; omega)))).trans h4
      replace hw := (n9 _ (ab_ne hw h3 (by first | (simp; done) | (simp; omega)))).trans hw
      replace kp := kp.wr h3 (cP_no (by simp)) n9
      replace h3 := e9
      clear e9 n9
      refine ab_vret (pc := 170) dX5_fit_170 rfl ?_
      rw [ez] at h3
      have e3 : ab_f z (t k) 0 = z := funext fun y => by unfold ab_f; split; (rename_i g9; rw [g9, hz]); rfl
      rw [e3] at h3
      first | exact ⟨_, rfl, kp, rfl, _, _, ho, h3, h4, I.most (hp.small (by omega) (by omega) hz tok hk mf (by omega)) he⟩ | exact ⟨_, rfl, kp, rfl, _, _, ho, h3, h4, I.bound hp (by omega) (by omega) hz s1 (by rw [← tmk]; omega) he⟩
    · refine ab_iload (pc := 98) dX5_fit_98 rfl ?_
      refine ab_iload (pc := 100) dX5_fit_100 rfl ?_
      refine ab_iconst (pc := 102) dX5_fit_102 (by decide) ?_
      refine ab_isub (pc := 103) dX5_fit_103 (by omega) (by omega) ?_
      refine ab_aload_n (pc := 104) dX5_fit_104 rfl ?_
      refine ab_get (pc := 105) (k := 2) okX5 ho rfl w658 rfl dX5_fit_105 ?_
      refine ab_iload (pc := 108) dX5_fit_108 rfl ?_
      refine ab_iald (pc := 110) h2 (by omega) (by omega) dX5_fit_110 ?_
      refine ab_imul (pc := 111) dX5_fit_111 (by omega) (by omega) ?_
      refine ab_iadd (pc := 112) dX5_fit_112 (by omega) (by omega) ?_
      refine ab_aload_n (pc := 113) dX5_fit_113 rfl ?_
      refine ab_get (pc := 114) (k := 6) okX5 ho rfl w662 rfl dX5_fit_114 ?_
      refine ab_icmp_ge (pc := 117) 162 dX5_fit_117 (by decide) (fun c117 => ?_) (fun c117 => ?_)
      · refine ab_aload_n (pc := 162) dX5_fit_162 rfl ?_
        refine ab_get (pc := 163) (k := 3) okX5 ho rfl w659 rfl dX5_fit_163 ?_
        refine ab_iload (pc := 166) dX5_fit_166 rfl ?_
        refine ab_iconst (pc := 168) dX5_fit_168 (by decide) ?_
        refine ab_iastG (pc := 169) h3 (by omega) (by omega) (by omega) dX5_fit_169 (fun h e9 n9 => ?_)
        replace ho := (n9 _ (ab_ne ho h3 (by first | (simp; done) | (simp; omega)))).trans ho
        replace h1 := (n9 _ (ab_ne h1 h3 (by first | (simp; done) | (simp; omega)))).trans h1
        replace h2 := (n9 _ (ab_ne h2 h3 (by first | (simp; done) | (simp; omega)))).trans h2
        replace h4 := (n9 _ (ab_ne h4 h3 (by first | (simp; done) | (simp; omega)))).trans h4
        replace hw := (n9 _ (ab_ne hw h3 (by first | (simp; done) | (simp; omega)))).trans hw
        replace kp := kp.wr h3 (cP_no (by simp)) n9
        replace h3 := e9
        clear e9 n9
        refine ab_vret (pc := 170) dX5_fit_170 rfl ?_
        rw [ez] at h3
        have e3 : ab_f z (t k) 0 = z := funext fun y => by unfold ab_f; split; (rename_i g9; rw [g9, hz]); rfl
        rw [e3] at h3
        first | exact ⟨_, rfl, kp, rfl, _, _, ho, h3, h4, I.most (hp.small (by omega) (by omega) hz tok hk mf (by omega)) he⟩ | exact ⟨_, rfl, kp, rfl, _, _, ho, h3, h4, I.bound hp (by omega) (by omega) hz s1 (by rw [← tmk]; omega) he⟩
      · refine ab_aload_n (pc := 120) dX5_fit_120 rfl ?_
        refine ab_get (pc := 121) (k := 3) okX5 ho rfl w659 rfl dX5_fit_121 ?_
        refine ab_iload (pc := 124) dX5_fit_124 rfl ?_
        refine ab_iload (pc := 126) dX5_fit_126 rfl ?_
        refine ab_iastG (pc := 128) h3 (by omega) (by omega) (by omega) dX5_fit_128 (fun h e9 n9 => ?_)
        replace ho := (n9 _ (ab_ne ho h3 (by first | (simp; done) | (simp; omega)))).trans ho
        replace h1 := (n9 _ (ab_ne h1 h3 (by first | (simp; done) | (simp; omega)))).trans h1
        replace h2 := (n9 _ (ab_ne h2 h3 (by first | (simp; done) | (simp; omega)))).trans h2
        replace h4 := (n9 _ (ab_ne h4 h3 (by first | (simp; done) | (simp; omega)))).trans h4
        replace hw := (n9 _ (ab_ne hw h3 (by first | (simp; done) | (simp; omega)))).trans hw
        replace kp := kp.wr h3 (cP_no (by simp)) n9
        replace h3 := e9
        clear e9 n9
        rw [ez] at h3
        refine ab_aload_n (pc := 129) dX5_fit_129 rfl ?_
        refine ab_aload_n (pc := 130) dX5_fit_130 rfl ?_
        refine ab_iload_n (pc := 131) dX5_fit_131 rfl ?_
        refine ab_iload (pc := 132) dX5_fit_132 rfl ?_
        refine ab_isub (pc := 134) dX5_fit_134 (by omega) (by omega) ?_
        refine ab_iload_n (pc := 135) dX5_fit_135 rfl ?_
        refine ab_iconst (pc := 136) dX5_fit_136 (by decide) ?_
        refine ab_isub (pc := 137) dX5_fit_137 (by omega) (by omega) ?_
        refine ab_iload (pc := 138) dX5_fit_138 rfl ?_
        refine ab_iload (pc := 140) dX5_fit_140 rfl ?_
        refine ab_iconst (pc := 142) dX5_fit_142 (by decide) ?_
        refine ab_isub (pc := 143) dX5_fit_143 (by omega) (by omega) ?_
        refine ab_aload_n (pc := 144) dX5_fit_144 rfl ?_
        refine ab_get (pc := 145) (k := 2) okX5 ho rfl w658 rfl dX5_fit_145 ?_
        refine ab_iload (pc := 148) dX5_fit_148 rfl ?_
        refine ab_iald (pc := 150) h2 (by omega) (by omega) dX5_fit_150 ?_
        refine ab_imul (pc := 151) dX5_fit_151 (by omega) (by omega) ?_
        refine ab_iadd (pc := 152) dX5_fit_152 (by omega) (by omega) ?_
        refine ab_callV (pc := 153) (IH _ _ _ _ _ _ ho h1 h2 h3 h4 hw (by rw [tmk]; exact hp.put (bs := bs) I.1 (by omega) (by omega) hz s1 (by rw [← tmk]; omega) he hx)) ho rfl ⟨w773, w26, w776, by decide, pd12⟩ w775 sp10 rfl (by omega) (by decide) (Nat.le_of_ble_eq_true rfl) rfl dX5_fit_153 (fun _ _ hx => absurd hx cC_no) ?_
        rintro _ h ⟨_, e9, kq, rfl, bs2, en2, ho9, h39, h49, hpost⟩
        cases e9
        replace h1 := kq _ _ h1 (by unfold cP; first | (simp; done) | (simp; omega))
        replace h2 := kq _ _ h2 (by unfold cP; first | (simp; done) | (simp; omega))
        replace hw := kq _ _ hw (by unfold cP; first | (simp; done) | (simp; omega))
        replace kp := kp.cal kq (by first | (simp; done) | (simp; omega))
        replace ho := ho9
        replace h3 := h39
        replace h4 := h49
        refine ab_iinc (pc := 156) dX5_fit_156 rfl rfl (by decide) (by omega) (by omega) ?_
        refine ab_goto (pc := 159) 91 dX5_fit_159 (by decide) ?_
        refine ih (size + 1) bs2 (ab_f z (t k) size) en2 _ (by omega) ho h1 h2 h3 h4 hw kp (by omega) (by omega) (I.step hz hpost) (fun y hy => ab_f_ne hy) (fun y hy => ?_) ?_
        · have ny : y ≠ t k := fun g9 => by rw [g9] at hy; exact hy hz
          rw [hpost.2.2.2 y (by rw [ab_f_ne ny]; exact hy)]
          exact he y hy
        · rw [hpost.2.2.2 (t k) (by rw [ab_f_eq rfl]; omega)]
          exact hx
theorem c_fit_s (hG : ab_G l E) {a b1 b2 b3 b4 b5 g L w gw N : Nat} {tl n : Int} {t tm f : Int → Int} {k : Nat} {e le bs : Int} {z en : Int → Int} (ho : h0 a = some (kO g 4 [vR b1, vI tl, vR b2, vR b3, vR b4, vR b5, vI bs])) (h1 : h0 b1 = some (kI (g + 1) L t)) (h2 : h0 b2 = some (kI (g + 2) 3 tm)) (h3 : h0 b3 = some (kI (g + 3) 3 z)) (h4 : h0 b4 = some (kI (g + 4) 3 en)) (hw : h0 w = some (kI gw N f)) (g0 : 201 ≤ g) (gw0 : gw < 200) (n0 : 0 ≤ n) (n1 : n ≤ N) (n6 : N ≤ 60) (L1 : 1 ≤ L) (L6 : L ≤ 6) (ht : ∀ j : Int, 0 ≤ j → j < L → 0 ≤ t j ∧ t j ≤ 2) (tok : tlOk t L tl) (htm : ∀ x : Int, 0 ≤ x → x ≤ 2 → tm x = cnt t x 0 L) (hk : ∀ a u : Int, 0 ≤ a → a < u → u < n → ¬ Comes t 0 L f a u) (IH : ∀ (h2 : AbH) (e le bs : Int) (z en : Int → Int), h2 a = some (kO g 4 [vR b1, vI tl, vR b2, vR b3, vR b4, vR b5, vI bs]) → h2 b1 = some (kI (g + 1) L t) → h2 b2 = some (kI (g + 2) 3 tm) → h2 b3 = some (kI (g + 3) 3 z) → h2 b4 = some (kI (g + 4) 3 en) → h2 w = some (kI gw N f) → fPre t f L n (k : Int) e le bs z en → ab_M l E Y_X5_fit 8 (k + 1) 0 0 [vR a, vR w, vI e, vI ((k : Int) - 1), vI le] h2 (cC h2 [g, g + 3, g + 4] (fun r h' => r = none ∧ ∃ (bs' : Int) (en' : Int → Int), h' a = some (kO g 4 [vR b1, vI tl, vR b2, vR b3, vR b4, vR b5, vI bs']) ∧ h' b3 = some (kI (g + 3) 3 z) ∧ h' b4 = some (kI (g + 4) 3 en') ∧ fPost t f L n bs z en bs' en'))) (k1 : (k : Int) < L) (hp : fPre t f L n (k + 1) e le bs z en) : ab_M l E Y_X5_fit 8 (k + 2) 0 0 [vR a, vR w, vI e, vI (k : Int), vI le] h0 (cC h0 [g, g + 3, g + 4] (fun r h' => r = none ∧ ∃ (bs' : Int) (en' : Int → Int), h' a = some (kO g 4 [vR b1, vI tl, vR b2, vR b3, vR b4, vR b5, vI bs']) ∧ h' b3 = some (kI (g + 3) 3 z) ∧ h' b4 = some (kI (g + 4) 3 en') ∧ fPost t f L n bs z en bs' en')) := by
  refine ab_M.of (L0 := [some (vR a), some (vR w), some (vI e), some (vI (k : Int)), some (vI le), none, none, none]) hG rfl rfl (Nat.le_of_ble_eq_true rfl) rfl ?_
  have kp : ab_kp (cP [g, g + 3, g + 4]) h0 h0 := ab_kp0
  have tk := ht k (by omega) k1
  have tmk := htm (t k) tk.1 tk.2
  have ee := hp.2.2.2.1
  have e0 := hp.2.2.1
  have zk := hp.2.2.2.2.1 (t k)
  have ed := hp.2.2.2.2.2.2.1 (t k)
  have hb9 := hp.2.2.2.2.2.2.2.2.2.2.1
  have lq := hp.le_eq
  have ml := mlen hp (by omega) (by omega) (by omega) (by omega)
  refine ab_iload_n (pc := 0) dX5_fit_0 rfl ?_
  refine ab_if_ge (pc := 1) 11 dX5_fit_1 (by decide) (fun c1 => ?_) (fun c1 => absurd c1 (by omega))
  refine ab_aload_n (pc := 11) dX5_fit_11 rfl ?_
  refine ab_get (pc := 12) (k := 0) okX5 ho rfl w656 rfl dX5_fit_12 ?_
  refine ab_iload_n (pc := 15) dX5_fit_15 rfl ?_
  refine ab_iald (pc := 16) h1 (by omega) (by omega) dX5_fit_16 ?_
  refine ab_istore (pc := 17) dX5_fit_17 rfl (Nat.le_of_ble_eq_true rfl) ?_
  refine ab_aload_n (pc := 19) dX5_fit_19 rfl ?_
  refine ab_get (pc := 20) (k := 3) okX5 ho rfl w659 rfl dX5_fit_20 ?_
  refine ab_iload (pc := 23) dX5_fit_23 rfl ?_
  refine ab_iald (pc := 25) h3 (by omega) (by omega) dX5_fit_25 ?_
  refine ab_if_le (pc := 26) 71 dX5_fit_26 (by decide) (fun c26 => ?_) (fun c26 => ?_)
  · clear ed
    refine ab_aload_n (pc := 71) dX5_fit_71 rfl ?_
    refine ab_get (pc := 72) (k := 4) okX5 ho rfl w660 rfl dX5_fit_72 ?_
    refine ab_iload (pc := 75) dX5_fit_75 rfl ?_
    refine ab_iload_n (pc := 77) dX5_fit_77 rfl ?_
    refine ab_iastG (pc := 78) h4 (by omega) (by omega) (by omega) dX5_fit_78 (fun h e9 n9 => ?_)
    replace ho := (n9 _ (ab_ne ho h4 (by first | (simp; done) | (simp; omega)))).trans ho
    replace h1 := (n9 _ (ab_ne h1 h4 (by first | (simp; done) | (simp; omega)))).trans h1
    replace h2 := (n9 _ (ab_ne h2 h4 (by first | (simp; done) | (simp; omega)))).trans h2
    replace h3 := (n9 _ (ab_ne h3 h4 (by first | (simp; done) | (simp; omega)))).trans h3
    replace hw := (n9 _ (ab_ne hw h4 (by first | (simp; done) | (simp; omega)))).trans hw
    replace kp := kp.wr h4 (cP_no (by simp)) n9
    replace h4 := e9
    clear e9 n9
    refine ab_aload_n (pc := 79) dX5_fit_79 rfl ?_
    refine ab_aload_n (pc := 80) dX5_fit_80 rfl ?_
    refine ab_iload_n (pc := 81) dX5_fit_81 rfl ?_
    refine ab_iload_n (pc := 82) dX5_fit_82 rfl ?_
    refine ab_callV (pc := 83) (c_mf hG ho h1 h2 hw n6 e0 (by omega) (by omega) k1 L6 ht) ho rfl ⟨w780, w26, w783, by decide, pd53⟩ w782 sp11 rfl (by omega) (by decide) (Nat.le_of_ble_eq_true rfl) rfl dX5_fit_83 (fun _ _ hx => absurd hx pC_no) ?_
    rintro _ _ ⟨mo, e9, rfl, mf, mo0, mo1⟩
    cases e9
    rw [tmk] at mf
    refine ab_istore (pc := 86) dX5_fit_86 rfl (Nat.le_of_ble_eq_true rfl) ?_
    refine ab_iconst (pc := 88) dX5_fit_88 (by decide) ?_
    refine ab_istore (pc := 89) dX5_fit_89 rfl (Nat.le_of_ble_eq_true rfl) ?_
    exact c_fit_91 hG g0 gw0 n0 n1 n6 L1 L6 ht tok htm hk IH k1 hp (by omega) mf mo0 mo1 _ 1 bs z _ _ (Nat.lt_succ_self _) ho h1 h2 h3 h4 hw kp (by omega) (by omega) fLoop0 (fun _ _ => rfl) (fun y hy => ab_f_ne (fun g9 => hy (by rw [g9]; omega))) (ab_f_eq rfl)
  · refine ab_aload_n (pc := 29) dX5_fit_29 rfl ?_
    refine ab_iload_n (pc := 30) dX5_fit_30 rfl ?_
    refine ab_aload_n (pc := 31) dX5_fit_31 rfl ?_
    refine ab_get (pc := 32) (k := 4) okX5 ho rfl w660 rfl dX5_fit_32 ?_
    refine ab_iload (pc := 35) dX5_fit_35 rfl ?_
    refine ab_iald (pc := 37) h4 (by omega) (by omega) dX5_fit_37 ?_
    refine ab_aload_n (pc := 38) dX5_fit_38 rfl ?_
    refine ab_get (pc := 39) (k := 3) okX5 ho rfl w659 rfl dX5_fit_39 ?_
    refine ab_iload (pc := 42) dX5_fit_42 rfl ?_
    refine ab_iald (pc := 44) h3 (by omega) (by omega) dX5_fit_44 ?_
    replace ed := (ed (by omega)).2
    refine ab_callS (pc := 45) (c_same hG hw n6 e0 (by omega) (by omega) (by omega)) ⟨w777, w26, w779, by decide, pd56⟩ w778 rfl (by omega) (by decide) (Nat.le_of_ble_eq_true rfl) rfl dX5_fit_45 (fun _ _ hx => absurd hx pC_no) ?_
    rintro _ _ ⟨sv, e9, rfl, hsv⟩
    cases e9
    refine ab_if_eq (pc := 48) 70 dX5_fit_48 (by decide) (fun c48 => ?_) (fun c48 => ?_)
    · refine ab_vret (pc := 70) dX5_fit_70 rfl ?_
      first | exact ⟨_, rfl, kp, rfl, _, _, ho, h3, h4, hpost⟩ | exact ⟨_, rfl, kp, rfl, _, _, ho, h3, h4, hp.differ (by omega) (by omega) (by rcases hsv with ⟨q, _⟩ | ⟨_, q⟩; exact absurd q (by omega); exact q)⟩
    · refine ab_aload_n (pc := 51) dX5_fit_51 rfl ?_
      refine ab_aload_n (pc := 52) dX5_fit_52 rfl ?_
      refine ab_iload_n (pc := 53) dX5_fit_53 rfl ?_
      refine ab_aload_n (pc := 54) dX5_fit_54 rfl ?_
      refine ab_get (pc := 55) (k := 3) okX5 ho rfl w659 rfl dX5_fit_55 ?_
      refine ab_iload (pc := 58) dX5_fit_58 rfl ?_
      refine ab_iald (pc := 60) h3 (by omega) (by omega) dX5_fit_60 ?_
      refine ab_isub (pc := 61) dX5_fit_61 (by omega) (by omega) ?_
      refine ab_iload_n (pc := 62) dX5_fit_62 rfl ?_
      refine ab_iconst (pc := 63) dX5_fit_63 (by decide) ?_
      refine ab_isub (pc := 64) dX5_fit_64 (by omega) (by omega) ?_
      refine ab_iload (pc := 65) dX5_fit_65 rfl ?_
      refine ab_callV (pc := 67) (IH _ _ _ _ _ _ ho h1 h2 h3 h4 hw (hp.sam (by omega) (by omega) (by rcases hsv with ⟨_, q⟩ | ⟨q, _⟩; exact q; exact absurd q c48))) ho rfl ⟨w773, w26, w776, by decide, pd12⟩ w775 sp10 rfl (by omega) (by decide) (Nat.le_of_ble_eq_true rfl) rfl dX5_fit_67 (fun _ _ hx => absurd hx cC_no) ?_
      rintro _ h ⟨_, e9, kq, rfl, bs2, en2, ho9, h39, h49, hpost⟩
      cases e9
      replace h1 := kq _ _ h1 (by unfold cP; first | (simp; done) | (simp; omega))
      replace h2 := kq _ _ h2 (by unfold cP; first | (simp; done) | (simp; omega))
      replace hw := kq _ _ hw (by unfold cP; first | (simp; done) | (simp; omega))
      replace kp := kp.cal kq (by first | (simp; done) | (simp; omega))
      replace ho := ho9
      replace h3 := h39
      replace h4 := h49
      refine ab_vret (pc := 70) dX5_fit_70 rfl ?_
      first | exact ⟨_, rfl, kp, rfl, _, _, ho, h3, h4, hpost⟩ | exact ⟨_, rfl, kp, rfl, _, _, ho, h3, h4, hp.differ (by omega) (by omega) (by rcases hsv with ⟨q, _⟩ | ⟨_, q⟩; exact absurd q (by omega); exact q)⟩
theorem c_fit (hG : ab_G l E) {a b1 b2 b3 b4 b5 g L w gw N : Nat} {tl n : Int} {t tm f : Int → Int} (g0 : 201 ≤ g) (gw0 : gw < 200) (n0 : 0 ≤ n) (n1 : n ≤ N) (n6 : N ≤ 60) (L1 : 1 ≤ L) (L6 : L ≤ 6) (ht : ∀ j : Int, 0 ≤ j → j < L → 0 ≤ t j ∧ t j ≤ 2) (tok : tlOk t L tl) (htm : ∀ x : Int, 0 ≤ x → x ≤ 2 → tm x = cnt t x 0 L) (hk : ∀ a u : Int, 0 ≤ a → a < u → u < n → ¬ Comes t 0 L f a u) : ∀ k : Nat, (k : Int) ≤ L → ∀ (h2 : AbH) (e le bs : Int) (z en : Int → Int), h2 a = some (kO g 4 [vR b1, vI tl, vR b2, vR b3, vR b4, vR b5, vI bs]) → h2 b1 = some (kI (g + 1) L t) → h2 b2 = some (kI (g + 2) 3 tm) → h2 b3 = some (kI (g + 3) 3 z) → h2 b4 = some (kI (g + 4) 3 en) → h2 w = some (kI gw N f) → fPre t f L n (k : Int) e le bs z en → ab_M l E Y_X5_fit 8 (k + 1) 0 0 [vR a, vR w, vI e, vI ((k : Int) - 1), vI le] h2 (cC h2 [g, g + 3, g + 4] (fun r h' => r = none ∧ ∃ (bs' : Int) (en' : Int → Int), h' a = some (kO g 4 [vR b1, vI tl, vR b2, vR b3, vR b4, vR b5, vI bs']) ∧ h' b3 = some (kI (g + 3) 3 z) ∧ h' b4 = some (kI (g + 4) 3 en') ∧ fPost t f L n bs z en bs' en')) := by
  intro k
  induction k with
  | zero =>
    intro _ h2 e le bs z en a1 a2 a3 a4 a5 a6 hp
    exact c_fit_0 hG a1 a2 a3 a4 a5 a6 g0 gw0 n0 n1 n6 L1 L6 ht tok htm hk hp
  | succ k ih =>
    intro hk9 h2 e le bs z en a1 a2 a3 a4 a5 a6 hp
    rw [show ((k + 1 : Nat) : Int) - 1 = (k : Int) by omega]
    exact c_fit_s hG a1 a2 a3 a4 a5 a6 g0 gw0 n0 n1 n6 L1 L6 ht tok htm hk (ih (by omega)) (by omega) (by rw [show (k : Int) + 1 = ((k + 1 : Nat) : Int) by omega]; exact hp)
theorem c_shape_ (hG : ab_G l E) {a b1 b2 b3 b4 b5 g L w gw N : Nat} {tl n : Int} {t tm f : Int → Int} {bs : Int} {en st : Int → Int} (ho : h0 a = some (kO g 4 [vR b1, vI tl, vR b2, vR b3, vR b4, vR b5, vI bs])) (h1 : h0 b1 = some (kI (g + 1) L t)) (h2 : h0 b2 = some (kI (g + 2) 3 tm)) (h3 : h0 b3 = some (kI (g + 3) 3 (fun _ => 0))) (h4 : h0 b4 = some (kI (g + 4) 3 en)) (hw : h0 w = some (kI gw N f)) (h5 : h0 b5 = some (kI (g + 5) 3 st)) (g0 : 201 ≤ g) (gw0 : gw < 200) (n0 : 0 ≤ n) (n1 : n ≤ N) (n6 : N ≤ 60) (L1 : 1 ≤ L) (L6 : L ≤ 6) (ht : ∀ j : Int, 0 ≤ j → j < L → 0 ≤ t j ∧ t j ≤ 2) (tok : tlOk t L tl) (htm : ∀ x : Int, 0 ≤ x → x ≤ 2 → tm x = cnt t x 0 L) (hk : ∀ a u : Int, 0 ≤ a → a < u → u < n → ¬ Comes t 0 L f a u) : ab_M l E Y_X5_shortest 3 8 0 0 [vR a, vR w, vI n] h0 (cC h0 [g, g + 3, g + 4] (fun r h' => ∃ v : Int, r = some (vI v) ∧ shC h' g a t L ∧ shS t f L n v)) := by
  refine ab_M.of (L0 := [some (vR a), some (vR w), some (vI n)]) hG rfl rfl (Nat.le_of_ble_eq_true rfl) rfl ?_
  have kp : ab_kp (cP [g, g + 3, g + 4]) h0 h0 := ab_kp0
  refine ab_aload_n (pc := 0) dX5_shortest_0 rfl ?_
  refine ab_iload_n (pc := 1) dX5_shortest_1 rfl ?_
  refine ab_iconst (pc := 2) dX5_shortest_2 (by decide) ?_
  refine ab_iadd (pc := 3) dX5_shortest_3 (by omega) (by omega) ?_
  refine ab_putG (pc := 4) (k := 6) okX5 ho (by omega) (by decide) trivial w662 rfl (Or.inl rfl) dX5_shortest_4 (fun h e9 n9 => ?_)
  replace h1 := (n9 _ (ab_ne h1 ho (by first | (simp; done) | (simp; omega)))).trans h1
  replace h2 := (n9 _ (ab_ne h2 ho (by first | (simp; done) | (simp; omega)))).trans h2
  replace h3 := (n9 _ (ab_ne h3 ho (by first | (simp; done) | (simp; omega)))).trans h3
  replace h4 := (n9 _ (ab_ne h4 ho (by first | (simp; done) | (simp; omega)))).trans h4
  replace hw := (n9 _ (ab_ne hw ho (by first | (simp; done) | (simp; omega)))).trans hw
  replace h5 := (n9 _ (ab_ne h5 ho (by first | (simp; done) | (simp; omega)))).trans h5
  replace kp := kp.wr ho (cP_no (by simp)) n9
  replace ho := e9
  clear e9 n9
  refine ab_aload_n (pc := 7) dX5_shortest_7 rfl ?_
  refine ab_aload_n (pc := 8) dX5_shortest_8 rfl ?_
  refine ab_iload_n (pc := 9) dX5_shortest_9 rfl ?_
  refine ab_aload_n (pc := 10) dX5_shortest_10 rfl ?_
  refine ab_get (pc := 11) (k := 0) okX5 ho rfl w656 rfl dX5_shortest_11 ?_
  refine ab_alen (pc := 14) h1 dX5_shortest_14 ?_
  refine ab_iconst (pc := 15) dX5_shortest_15 (by decide) ?_
  refine ab_isub (pc := 16) dX5_shortest_16 (by omega) (by omega) ?_
  refine ab_aload_n (pc := 17) dX5_shortest_17 rfl ?_
  refine ab_get (pc := 18) (k := 0) okX5 ho rfl w656 rfl dX5_shortest_18 ?_
  refine ab_alen (pc := 21) h1 dX5_shortest_21 ?_
  refine ab_callV (pc := 22) ((c_fit hG g0 gw0 n0 n1 n6 L1 L6 ht tok htm hk L (Int.le_refl _)) _ _ _ _ _ _ ho h1 h2 h3 h4 hw (fPre.start (by omega) n0)) ho rfl ⟨w773, w26, w776, by decide, pd12⟩ w775 sp10 rfl (by omega) (by decide) (Nat.le_of_ble_eq_true rfl) rfl dX5_shortest_22 (fun _ _ hx => absurd hx cC_no) ?_
  rintro _ h ⟨_, e9, kq, rfl, bs2, en2, ho9, h39, h49, hpost⟩
  cases e9
  replace h1 := kq _ _ h1 (by unfold cP; first | (simp; done) | (simp; omega))
  replace h2 := kq _ _ h2 (by unfold cP; first | (simp; done) | (simp; omega))
  replace hw := kq _ _ hw (by unfold cP; first | (simp; done) | (simp; omega))
  replace h5 := kq _ _ h5 (by unfold cP; first | (simp; done) | (simp; omega))
  replace kp := kp.cal kq (by first | (simp; done) | (simp; omega))
  replace ho := ho9
  replace h3 := h39
  replace h4 := h49
  refine ab_aload_n (pc := 25) dX5_shortest_25 rfl ?_
  refine ab_get (pc := 26) (k := 6) okX5 ho rfl w662 rfl dX5_shortest_26 ?_
  refine ab_iload_n (pc := 29) dX5_shortest_29 rfl ?_
  refine ab_icmp_le (pc := 30) 37 dX5_shortest_30 (by decide) (fun c30 => ?_) (fun c30 => ?_)
  · refine ab_aload_n (pc := 37) dX5_shortest_37 rfl ?_
    refine ab_get (pc := 38) (k := 6) okX5 ho rfl w662 rfl dX5_shortest_38 ?_
    refine ab_iret (pc := 41) dX5_shortest_41 rfl ?_
    exact ⟨_, rfl, kp, _, rfl, ⟨_, _, _, _, _, _, _, _, _, _, ho, h1, h2, h3, h4, h5, tok, htm⟩, _, _, _, hpost, by omega⟩
  · refine ab_iconst (pc := 33) dX5_shortest_33 (by decide) ?_
    refine ab_goto (pc := 34) 41 dX5_shortest_34 (by decide) ?_
    refine ab_iret (pc := 41) dX5_shortest_41 rfl ?_
    exact ⟨_, rfl, kp, _, rfl, ⟨_, _, _, _, _, _, _, _, _, _, ho, h1, h2, h3, h4, h5, tok, htm⟩, _, _, _, hpost, by omega⟩
end C4
