/-! the reference: clashes -/
section M8
variable {l : Launch} {E : AbE} {m : Nat} {A : Nat → Nat} {s0 : Nat → Int} {F0 : Nat → Int → Int} {h0 : AbH}
theorem m_findClash_48 (hG : ab_G l E) {K : Nat} (hK : wK K) {e n : Int} (l0 : 0 ≤ s0 7) (l1 : s0 7 ≤ 12) (lb : ∀ q : Int, 0 ≤ q → q < s0 7 → lawB F0 q) (nN : n ≤ mLen K) (le : ∀ j : Int, 0 ≤ j → j < n → 0 ≤ F0 K j ∧ F0 K j ≤ 7) {c : Int} (c0 : 1 ≤ c) (c1 : c ≤ n) (hK1 : ∀ u : Int, 1 ≤ u → u < c → KL F0 (s0 7) e (F0 K) u) {q : Int} (q0 : 0 ≤ q) (q1 : q < s0 7) (hq : ∀ p : Int, 0 ≤ p → p < q → inS e p → ∀ a : Int, 0 ≤ a → a < c → ¬ Bar F0 p (F0 K) a c) (hC : (inS e q → ∀ a : Int, 0 ≤ a → a < c → ¬ Bar F0 q (F0 K) a c) → ∀ (i : Int) (h : AbH) (s : Nat → Int) (F : Nat → Int → Int), mW h0 m A s0 F0 [20, 21, 22] [13, 14, 15] h s F → s 20 = -1 → ab_T l E Y_X10_findClash 4 0 0 114 [some (vR m), some (vI e), some (vR (A K)), some (vI n), some (vI c), some (vI q), some (vI i)] [] h (mC h0 m A s0 F0 [20, 21, 22] [13, 14, 15] (fun r s' F' => r = none ∧ Cl F0 (s0 7) e (F0 K) n (s' 20) (s' 21) (s' 22)))) (fu : Nat) : ∀ (i : Int) (h : AbH) (s : Nat → Int) (F : Nat → Int → Int), mW h0 m A s0 F0 [20, 21, 22] [13, 14, 15] h s F → (i + 1).toNat < fu → (-1 ≤ i) → (i < c) → (∀ a : Int, i < a → a < c → ¬ Bar F0 q (F0 K) a c) → (s 20 = -1) → ab_T l E Y_X10_findClash 4 0 0 48 [some (vR m), some (vI e), some (vR (A K)), some (vI n), some (vI c), some (vI q), some (vI i)] [] h (mC h0 m A s0 F0 [20, 21, 22] [13, 14, 15] (fun r s' F' => r = none ∧ Cl F0 (s0 7) e (F0 K) n (s' 20) (s' 21) (s' 22))) := by
  induction fu with
  | zero => intro i h s F hW hm; exact absurd hm (Nat.not_lt_zero _)
  | succ fu ih =>
    intro i h s F hW hm i0 i1 I t20
    have hk8 := wK_le hK
    refine ab_iload_n (pc := 48) dX10_findClash_48 rfl ?_
    refine ab_iload (pc := 49) dX10_findClash_49 rfl ?_
    refine ab_callS (pc := 51) (m_isIn hG) ⟨w1282, w5, w1284, by decide, pd73⟩ w1283 rfl (by decide) (by decide) (Nat.le_of_ble_eq_true rfl) rfl dX10_findClash_51 (fun _ _ hx => absurd hx pC_no) ?_
    rintro _ _ ⟨v1, e9, rfl, hp1⟩
    cases e9
    refine ab_if_eq (pc := 54) 114 dX10_findClash_54 (by decide) (fun c54 => ?_) (fun c54 => ?_)
    · first
      | exact hC (fun g a a0 a1 => I a (by omega) a1) _ _ _ _ hW t20
      | exact hC (fun g => absurd g (by rcases hp1 with h | h; omega; exact h.2)) _ _ _ _ hW t20
    · refine ab_iload (pc := 57) dX10_findClash_57 rfl ?_
      refine ab_if_lt (pc := 59) 114 dX10_findClash_59 (by decide) (fun c59 => ?_) (fun c59 => ?_)
      · first
        | exact hC (fun g a a0 a1 => I a (by omega) a1) _ _ _ _ hW t20
        | exact hC (fun g => absurd g (by rcases hp1 with h | h; omega; exact h.2)) _ _ _ _ hW t20
      · refine ab_aload_n (pc := 62) dX10_findClash_62 rfl ?_
        refine ab_get (pc := 63) (k := 20) (x := vI ((-1))) okX10 hW.obj (mg rfl t20) w1075 rfl dX10_findClash_63 ?_
        refine ab_iconst (pc := 66) dX10_findClash_66 (by decide) ?_
        refine ab_icmp_ne (pc := 67) 114 dX10_findClash_67 (by decide) (fun c67 => absurd c67 (by omega)) (fun c67 => ?_)
        have qi : inS e q := by rcases hp1 with g | g; exact g.2; omega
        refine ab_aload_n (pc := 70) dX10_findClash_70 rfl ?_
        refine ab_iload (pc := 71) dX10_findClash_71 rfl ?_
        refine ab_aload_n (pc := 73) dX10_findClash_73 rfl ?_
        refine ab_iload (pc := 74) dX10_findClash_74 rfl ?_
        refine ab_iload (pc := 76) dX10_findClash_76 rfl ?_
        refine ab_callV (pc := 78) (m_isBarredG hG hW.1 hK (hW.law (by decide)) (hW.Fv K (wK_ni hK (by decide))) (by omega) (by omega) (by omega) (by omega) (by omega) (fun j j0 j1 => le j (by omega) (by omega)) (lb q (by omega) (by omega))) hW.obj rfl ⟨w1285, w5, w1288, by decide, pd75⟩ w1287 sp32 rfl (by decide) (by decide) (Nat.le_of_ble_eq_true rfl) rfl dX10_findClash_78 (fun _ _ hx => absurd hx mC_no) ?_
        rintro _ h ⟨_, s2, F2, e9, hc2, hp2⟩
        cases e9
        replace hW := hW.call hc2 (by decide) (by decide)
        rcases hp2 with ⟨rfl, ft⟩ | ⟨rfl, ft⟩
        · refine ab_if_ne (pc := 81) 87 dX10_findClash_81 (by decide) (fun c81 => ?_) (fun c81 => absurd c81 (by omega))
          refine ab_aload_n (pc := 87) dX10_findClash_87 rfl ?_
          refine ab_iload (pc := 88) dX10_findClash_88 rfl ?_
          refine ab_putG (pc := 90) (k := 20) okX10 hW.obj (by decide) (by decide) trivial w1075 rfl (Or.inl rfl) dX10_findClash_90 (fun h e9 n9 => ?_)
          replace hW := hW.put e9 n9 rfl (by decide)
          clear e9 n9
          refine ab_aload_n (pc := 93) dX10_findClash_93 rfl ?_
          refine ab_iload (pc := 94) dX10_findClash_94 rfl ?_
          refine ab_putG (pc := 96) (k := 21) okX10 hW.obj (by decide) (by decide) trivial w1076 rfl (Or.inl rfl) dX10_findClash_96 (fun h e9 n9 => ?_)
          replace hW := hW.put e9 n9 rfl (by decide)
          clear e9 n9
          refine ab_aload_n (pc := 99) dX10_findClash_99 rfl ?_
          refine ab_iload (pc := 100) dX10_findClash_100 rfl ?_
          refine ab_iload (pc := 102) dX10_findClash_102 rfl ?_
          refine ab_isub (pc := 104) dX10_findClash_104 (by omega) (by omega) ?_
          refine ab_putG (pc := 105) (k := 22) okX10 hW.obj (by decide) (by decide) trivial w1077 rfl (Or.inl rfl) dX10_findClash_105 (fun h e9 n9 => ?_)
          replace hW := hW.put e9 n9 rfl (by decide)
          clear e9 n9
          refine ab_iinc (pc := 108) dX10_findClash_108 rfl rfl (by decide) (by omega) (by omega) ?_
          refine ab_goto (pc := 111) 48 dX10_findClash_111 (by decide) ?_
          refine ab_iload_n (pc := 48) dX10_findClash_48 rfl ?_
          refine ab_iload (pc := 49) dX10_findClash_49 rfl ?_
          refine ab_callS (pc := 51) (m_isIn hG) ⟨w1282, w5, w1284, by decide, pd73⟩ w1283 rfl (by decide) (by decide) (Nat.le_of_ble_eq_true rfl) rfl dX10_findClash_51 (fun _ _ hx => absurd hx pC_no) ?_
          rintro _ _ ⟨v3, e9, rfl, hp3⟩
          cases e9
          refine ab_if_eq (pc := 54) 114 dX10_findClash_54 (by decide) (fun c54 => ?_) (fun c54 => ?_)
          · refine ab_iinc (pc := 114) dX10_findClash_114 rfl rfl (by decide) (by omega) (by omega) ?_
            refine ab_goto (pc := 117) 25 dX10_findClash_117 (by decide) ?_
            refine ab_iload (pc := 25) dX10_findClash_25 rfl ?_
            refine ab_aload_n (pc := 27) dX10_findClash_27 rfl ?_
            refine ab_get (pc := 28) (k := 7) (x := vI (s0 7)) okX10 hW.obj (mg rfl (hW.sv 7 (by decide))) w1062 rfl dX10_findClash_28 ?_
            refine ab_icmp_ge (pc := 31) 120 dX10_findClash_31 (by decide) (fun c31 => ?_) (fun c31 => ?_)
            · refine ab_iinc (pc := 120) dX10_findClash_120 rfl rfl (by decide) (by omega) (by omega) ?_
              refine ab_goto (pc := 123) 8 dX10_findClash_123 (by decide) ?_
              refine ab_iload (pc := 8) dX10_findClash_8 rfl ?_
              refine ab_iload_n (pc := 10) dX10_findClash_10 rfl ?_
              refine ab_icmp_gt (pc := 11) 126 dX10_findClash_11 (by decide) (fun c11 => ?_) (fun c11 => ?_)
              · refine ab_vret (pc := 126) dX10_findClash_126 rfl ?_
                refine ⟨_, _, _, rfl, hW, rfl, ?_⟩
                show Cl F0 (s0 7) e (F0 K) n c q (c - i)
                have e8 : c - (c - i) = i := by omega
                refine Or.inr ⟨by omega, by omega, hK1, by omega, by omega, qi, hq, by omega, by omega, by rw [e8]; exact ft, fun a a0 a1 => I a (by omega) a1⟩
              · refine ab_aload_n (pc := 14) dX10_findClash_14 rfl ?_
                refine ab_get (pc := 15) (k := 20) (x := vI (c)) okX10 hW.obj (mg rfl rfl) w1075 rfl dX10_findClash_15 ?_
                refine ab_iconst (pc := 18) dX10_findClash_18 (by decide) ?_
                refine ab_icmp_ne (pc := 19) 126 dX10_findClash_19 (by decide) (fun c19 => ?_) (fun c19 => absurd c19 (by omega))
                refine ab_vret (pc := 126) dX10_findClash_126 rfl ?_
                refine ⟨_, _, _, rfl, hW, rfl, ?_⟩
                show Cl F0 (s0 7) e (F0 K) n c q (c - i)
                have e8 : c - (c - i) = i := by omega
                refine Or.inr ⟨by omega, by omega, hK1, by omega, by omega, qi, hq, by omega, by omega, by rw [e8]; exact ft, fun a a0 a1 => I a (by omega) a1⟩
            · refine ab_aload_n (pc := 34) dX10_findClash_34 rfl ?_
              refine ab_get (pc := 35) (k := 20) (x := vI (c)) okX10 hW.obj (mg rfl rfl) w1075 rfl dX10_findClash_35 ?_
              refine ab_iconst (pc := 38) dX10_findClash_38 (by decide) ?_
              refine ab_icmp_ne (pc := 39) 120 dX10_findClash_39 (by decide) (fun c39 => ?_) (fun c39 => absurd c39 (by omega))
              refine ab_iinc (pc := 120) dX10_findClash_120 rfl rfl (by decide) (by omega) (by omega) ?_
              refine ab_goto (pc := 123) 8 dX10_findClash_123 (by decide) ?_
              refine ab_iload (pc := 8) dX10_findClash_8 rfl ?_
              refine ab_iload_n (pc := 10) dX10_findClash_10 rfl ?_
              refine ab_icmp_gt (pc := 11) 126 dX10_findClash_11 (by decide) (fun c11 => ?_) (fun c11 => ?_)
              · refine ab_vret (pc := 126) dX10_findClash_126 rfl ?_
                refine ⟨_, _, _, rfl, hW, rfl, ?_⟩
                show Cl F0 (s0 7) e (F0 K) n c q (c - i)
                have e8 : c - (c - i) = i := by omega
                refine Or.inr ⟨by omega, by omega, hK1, by omega, by omega, qi, hq, by omega, by omega, by rw [e8]; exact ft, fun a a0 a1 => I a (by omega) a1⟩
              · refine ab_aload_n (pc := 14) dX10_findClash_14 rfl ?_
                refine ab_get (pc := 15) (k := 20) (x := vI (c)) okX10 hW.obj (mg rfl rfl) w1075 rfl dX10_findClash_15 ?_
                refine ab_iconst (pc := 18) dX10_findClash_18 (by decide) ?_
                refine ab_icmp_ne (pc := 19) 126 dX10_findClash_19 (by decide) (fun c19 => ?_) (fun c19 => absurd c19 (by omega))
                refine ab_vret (pc := 126) dX10_findClash_126 rfl ?_
                refine ⟨_, _, _, rfl, hW, rfl, ?_⟩
                show Cl F0 (s0 7) e (F0 K) n c q (c - i)
                have e8 : c - (c - i) = i := by omega
                refine Or.inr ⟨by omega, by omega, hK1, by omega, by omega, qi, hq, by omega, by omega, by rw [e8]; exact ft, fun a a0 a1 => I a (by omega) a1⟩
          · refine ab_iload (pc := 57) dX10_findClash_57 rfl ?_
            refine ab_if_lt (pc := 59) 114 dX10_findClash_59 (by decide) (fun c59 => ?_) (fun c59 => ?_)
            · refine ab_iinc (pc := 114) dX10_findClash_114 rfl rfl (by decide) (by omega) (by omega) ?_
              refine ab_goto (pc := 117) 25 dX10_findClash_117 (by decide) ?_
              refine ab_iload (pc := 25) dX10_findClash_25 rfl ?_
              refine ab_aload_n (pc := 27) dX10_findClash_27 rfl ?_
              refine ab_get (pc := 28) (k := 7) (x := vI (s0 7)) okX10 hW.obj (mg rfl (hW.sv 7 (by decide))) w1062 rfl dX10_findClash_28 ?_
              refine ab_icmp_ge (pc := 31) 120 dX10_findClash_31 (by decide) (fun c31 => ?_) (fun c31 => ?_)
              · refine ab_iinc (pc := 120) dX10_findClash_120 rfl rfl (by decide) (by omega) (by omega) ?_
                refine ab_goto (pc := 123) 8 dX10_findClash_123 (by decide) ?_
                refine ab_iload (pc := 8) dX10_findClash_8 rfl ?_
                refine ab_iload_n (pc := 10) dX10_findClash_10 rfl ?_
                refine ab_icmp_gt (pc := 11) 126 dX10_findClash_11 (by decide) (fun c11 => ?_) (fun c11 => ?_)
                · refine ab_vret (pc := 126) dX10_findClash_126 rfl ?_
                  refine ⟨_, _, _, rfl, hW, rfl, ?_⟩
                  show Cl F0 (s0 7) e (F0 K) n c q (c - i)
                  have e8 : c - (c - i) = i := by omega
                  refine Or.inr ⟨by omega, by omega, hK1, by omega, by omega, qi, hq, by omega, by omega, by rw [e8]; exact ft, fun a a0 a1 => I a (by omega) a1⟩
                · refine ab_aload_n (pc := 14) dX10_findClash_14 rfl ?_
                  refine ab_get (pc := 15) (k := 20) (x := vI (c)) okX10 hW.obj (mg rfl rfl) w1075 rfl dX10_findClash_15 ?_
                  refine ab_iconst (pc := 18) dX10_findClash_18 (by decide) ?_
                  refine ab_icmp_ne (pc := 19) 126 dX10_findClash_19 (by decide) (fun c19 => ?_) (fun c19 => absurd c19 (by omega))
                  refine ab_vret (pc := 126) dX10_findClash_126 rfl ?_
                  refine ⟨_, _, _, rfl, hW, rfl, ?_⟩
                  show Cl F0 (s0 7) e (F0 K) n c q (c - i)
                  have e8 : c - (c - i) = i := by omega
                  refine Or.inr ⟨by omega, by omega, hK1, by omega, by omega, qi, hq, by omega, by omega, by rw [e8]; exact ft, fun a a0 a1 => I a (by omega) a1⟩
              · refine ab_aload_n (pc := 34) dX10_findClash_34 rfl ?_
                refine ab_get (pc := 35) (k := 20) (x := vI (c)) okX10 hW.obj (mg rfl rfl) w1075 rfl dX10_findClash_35 ?_
                refine ab_iconst (pc := 38) dX10_findClash_38 (by decide) ?_
                refine ab_icmp_ne (pc := 39) 120 dX10_findClash_39 (by decide) (fun c39 => ?_) (fun c39 => absurd c39 (by omega))
                refine ab_iinc (pc := 120) dX10_findClash_120 rfl rfl (by decide) (by omega) (by omega) ?_
                refine ab_goto (pc := 123) 8 dX10_findClash_123 (by decide) ?_
                refine ab_iload (pc := 8) dX10_findClash_8 rfl ?_
                refine ab_iload_n (pc := 10) dX10_findClash_10 rfl ?_
                refine ab_icmp_gt (pc := 11) 126 dX10_findClash_11 (by decide) (fun c11 => ?_) (fun c11 => ?_)
                · refine ab_vret (pc := 126) dX10_findClash_126 rfl ?_
                  refine ⟨_, _, _, rfl, hW, rfl, ?_⟩
                  show Cl F0 (s0 7) e (F0 K) n c q (c - i)
                  have e8 : c - (c - i) = i := by omega
                  refine Or.inr ⟨by omega, by omega, hK1, by omega, by omega, qi, hq, by omega, by omega, by rw [e8]; exact ft, fun a a0 a1 => I a (by omega) a1⟩
                · refine ab_aload_n (pc := 14) dX10_findClash_14 rfl ?_
                  refine ab_get (pc := 15) (k := 20) (x := vI (c)) okX10 hW.obj (mg rfl rfl) w1075 rfl dX10_findClash_15 ?_
                  refine ab_iconst (pc := 18) dX10_findClash_18 (by decide) ?_
                  refine ab_icmp_ne (pc := 19) 126 dX10_findClash_19 (by decide) (fun c19 => ?_) (fun c19 => absurd c19 (by omega))
                  refine ab_vret (pc := 126) dX10_findClash_126 rfl ?_
                  refine ⟨_, _, _, rfl, hW, rfl, ?_⟩
                  show Cl F0 (s0 7) e (F0 K) n c q (c - i)
                  have e8 : c - (c - i) = i := by omega
                  refine Or.inr ⟨by omega, by omega, hK1, by omega, by omega, qi, hq, by omega, by omega, by rw [e8]; exact ft, fun a a0 a1 => I a (by omega) a1⟩
            · refine ab_aload_n (pc := 62) dX10_findClash_62 rfl ?_
              refine ab_get (pc := 63) (k := 20) (x := vI (c)) okX10 hW.obj (mg rfl rfl) w1075 rfl dX10_findClash_63 ?_
              refine ab_iconst (pc := 66) dX10_findClash_66 (by decide) ?_
              refine ab_icmp_ne (pc := 67) 114 dX10_findClash_67 (by decide) (fun c67 => ?_) (fun c67 => absurd c67 (by omega))
              refine ab_iinc (pc := 114) dX10_findClash_114 rfl rfl (by decide) (by omega) (by omega) ?_
              refine ab_goto (pc := 117) 25 dX10_findClash_117 (by decide) ?_
              refine ab_iload (pc := 25) dX10_findClash_25 rfl ?_
              refine ab_aload_n (pc := 27) dX10_findClash_27 rfl ?_
              refine ab_get (pc := 28) (k := 7) (x := vI (s0 7)) okX10 hW.obj (mg rfl (hW.sv 7 (by decide))) w1062 rfl dX10_findClash_28 ?_
              refine ab_icmp_ge (pc := 31) 120 dX10_findClash_31 (by decide) (fun c31 => ?_) (fun c31 => ?_)
              · refine ab_iinc (pc := 120) dX10_findClash_120 rfl rfl (by decide) (by omega) (by omega) ?_
                refine ab_goto (pc := 123) 8 dX10_findClash_123 (by decide) ?_
                refine ab_iload (pc := 8) dX10_findClash_8 rfl ?_
                refine ab_iload_n (pc := 10) dX10_findClash_10 rfl ?_
                refine ab_icmp_gt (pc := 11) 126 dX10_findClash_11 (by decide) (fun c11 => ?_) (fun c11 => ?_)
                · refine ab_vret (pc := 126) dX10_findClash_126 rfl ?_
                  refine ⟨_, _, _, rfl, hW, rfl, ?_⟩
                  show Cl F0 (s0 7) e (F0 K) n c q (c - i)
                  have e8 : c - (c - i) = i := by omega
                  refine Or.inr ⟨by omega, by omega, hK1, by omega, by omega, qi, hq, by omega, by omega, by rw [e8]; exact ft, fun a a0 a1 => I a (by omega) a1⟩
                · refine ab_aload_n (pc := 14) dX10_findClash_14 rfl ?_
                  refine ab_get (pc := 15) (k := 20) (x := vI (c)) okX10 hW.obj (mg rfl rfl) w1075 rfl dX10_findClash_15 ?_
                  refine ab_iconst (pc := 18) dX10_findClash_18 (by decide) ?_
                  refine ab_icmp_ne (pc := 19) 126 dX10_findClash_19 (by decide) (fun c19 => ?_) (fun c19 => absurd c19 (by omega))
                  refine ab_vret (pc := 126) dX10_findClash_126 rfl ?_
                  refine ⟨_, _, _, rfl, hW, rfl, ?_⟩
                  show Cl F0 (s0 7) e (F0 K) n c q (c - i)
                  have e8 : c - (c - i) = i := by omega
                  refine Or.inr ⟨by omega, by omega, hK1, by omega, by omega, qi, hq, by omega, by omega, by rw [e8]; exact ft, fun a a0 a1 => I a (by omega) a1⟩
              · refine ab_aload_n (pc := 34) dX10_findClash_34 rfl ?_
                refine ab_get (pc := 35) (k := 20) (x := vI (c)) okX10 hW.obj (mg rfl rfl) w1075 rfl dX10_findClash_35 ?_
                refine ab_iconst (pc := 38) dX10_findClash_38 (by decide) ?_
                refine ab_icmp_ne (pc := 39) 120 dX10_findClash_39 (by decide) (fun c39 => ?_) (fun c39 => absurd c39 (by omega))
                refine ab_iinc (pc := 120) dX10_findClash_120 rfl rfl (by decide) (by omega) (by omega) ?_
                refine ab_goto (pc := 123) 8 dX10_findClash_123 (by decide) ?_
                refine ab_iload (pc := 8) dX10_findClash_8 rfl ?_
                refine ab_iload_n (pc := 10) dX10_findClash_10 rfl ?_
                refine ab_icmp_gt (pc := 11) 126 dX10_findClash_11 (by decide) (fun c11 => ?_) (fun c11 => ?_)
                · refine ab_vret (pc := 126) dX10_findClash_126 rfl ?_
                  refine ⟨_, _, _, rfl, hW, rfl, ?_⟩
                  show Cl F0 (s0 7) e (F0 K) n c q (c - i)
                  have e8 : c - (c - i) = i := by omega
                  refine Or.inr ⟨by omega, by omega, hK1, by omega, by omega, qi, hq, by omega, by omega, by rw [e8]; exact ft, fun a a0 a1 => I a (by omega) a1⟩
                · refine ab_aload_n (pc := 14) dX10_findClash_14 rfl ?_
                  refine ab_get (pc := 15) (k := 20) (x := vI (c)) okX10 hW.obj (mg rfl rfl) w1075 rfl dX10_findClash_15 ?_
                  refine ab_iconst (pc := 18) dX10_findClash_18 (by decide) ?_
                  refine ab_icmp_ne (pc := 19) 126 dX10_findClash_19 (by decide) (fun c19 => ?_) (fun c19 => absurd c19 (by omega))
                  refine ab_vret (pc := 126) dX10_findClash_126 rfl ?_
                  refine ⟨_, _, _, rfl, hW, rfl, ?_⟩
                  show Cl F0 (s0 7) e (F0 K) n c q (c - i)
                  have e8 : c - (c - i) = i := by omega
                  refine Or.inr ⟨by omega, by omega, hK1, by omega, by omega, qi, hq, by omega, by omega, by rw [e8]; exact ft, fun a a0 a1 => I a (by omega) a1⟩
        · refine ab_if_ne (pc := 81) 87 dX10_findClash_81 (by decide) (fun c81 => absurd c81 (by omega)) (fun c81 => ?_)
          refine ab_goto (pc := 84) 108 dX10_findClash_84 (by decide) ?_
          refine ab_iinc (pc := 108) dX10_findClash_108 rfl rfl (by decide) (by omega) (by omega) ?_
          refine ab_goto (pc := 111) 48 dX10_findClash_111 (by decide) ?_
          refine ih (i + -1) _ _ _ hW (by omega) (by omega) (by omega) (fun a a0 a1 => ?_) ((hc2.sv 20 (by decide)).trans t20)
          by_cases e9 : a = i
          · rw [e9]; exact ft
          · exact I a (by omega) a1
theorem m_findClash_25 (hG : ab_G l E) {K : Nat} (hK : wK K) {e n : Int} (l0 : 0 ≤ s0 7) (l1 : s0 7 ≤ 12) (lb : ∀ q : Int, 0 ≤ q → q < s0 7 → lawB F0 q) (nN : n ≤ mLen K) (le : ∀ j : Int, 0 ≤ j → j < n → 0 ≤ F0 K j ∧ F0 K j ≤ 7) {c : Int} (c0 : 1 ≤ c) (c1 : c ≤ n) (hK1 : ∀ u : Int, 1 ≤ u → u < c → KL F0 (s0 7) e (F0 K) u) (hC : KL F0 (s0 7) e (F0 K) c → ∀ (x9 : Option AbV), ∀ (q : Int) (h : AbH) (s : Nat → Int) (F : Nat → Int → Int), mW h0 m A s0 F0 [20, 21, 22] [13, 14, 15] h s F → s 20 = -1 → ab_T l E Y_X10_findClash 4 0 0 120 [some (vR m), some (vI e), some (vR (A K)), some (vI n), some (vI c), some (vI q), x9] [] h (mC h0 m A s0 F0 [20, 21, 22] [13, 14, 15] (fun r s' F' => r = none ∧ Cl F0 (s0 7) e (F0 K) n (s' 20) (s' 21) (s' 22)))) (fu : Nat) : ∀ (q : Int) (x9 : Option AbV) (h : AbH) (s : Nat → Int) (F : Nat → Int → Int), mW h0 m A s0 F0 [20, 21, 22] [13, 14, 15] h s F → (s0 7 - q).toNat < fu → (0 ≤ q) → (∀ p : Int, 0 ≤ p → p < q → inS e p → ∀ a : Int, 0 ≤ a → a < c → ¬ Bar F0 p (F0 K) a c) → (s 20 = -1) → ab_T l E Y_X10_findClash 4 0 0 25 [some (vR m), some (vI e), some (vR (A K)), some (vI n), some (vI c), some (vI q), x9] [] h (mC h0 m A s0 F0 [20, 21, 22] [13, 14, 15] (fun r s' F' => r = none ∧ Cl F0 (s0 7) e (F0 K) n (s' 20) (s' 21) (s' 22))) := by
  induction fu with
  | zero => intro q x9 h s F hW hm; exact absurd hm (Nat.not_lt_zero _)
  | succ fu ih =>
    intro q x9 h s F hW hm q0 I t20
    have hk8 := wK_le hK
    refine ab_iload (pc := 25) dX10_findClash_25 rfl ?_
    refine ab_aload_n (pc := 27) dX10_findClash_27 rfl ?_
    refine ab_get (pc := 28) (k := 7) (x := vI (s0 7)) okX10 hW.obj (mg rfl (hW.sv 7 (by decide))) w1062 rfl dX10_findClash_28 ?_
    refine ab_icmp_ge (pc := 31) 120 dX10_findClash_31 (by decide) (fun c31 => ?_) (fun c31 => ?_)
    · exact hC (fun p p0 p1 pi => I p p0 (by omega) pi) _ _ _ _ _ hW t20
    · refine ab_aload_n (pc := 34) dX10_findClash_34 rfl ?_
      refine ab_get (pc := 35) (k := 20) (x := vI ((-1))) okX10 hW.obj (mg rfl t20) w1075 rfl dX10_findClash_35 ?_
      refine ab_iconst (pc := 38) dX10_findClash_38 (by decide) ?_
      refine ab_icmp_ne (pc := 39) 120 dX10_findClash_39 (by decide) (fun c39 => absurd c39 (by omega)) (fun c39 => ?_)
      refine ab_iload (pc := 42) dX10_findClash_42 rfl ?_
      refine ab_iconst (pc := 44) dX10_findClash_44 (by decide) ?_
      refine ab_isub (pc := 45) dX10_findClash_45 (by omega) (by omega) ?_
      refine ab_istore (pc := 46) dX10_findClash_46 rfl (Nat.le_of_ble_eq_true rfl) ?_
      refine m_findClash_48 hG hK l0 l1 lb nN le c0 c1 hK1 q0 (by omega) I (fun ft i h s F hW t20 => ?_) _ (c - 1) _ _ _ hW (Nat.lt_succ_self _) (by omega) (by omega) (fun a a0 a1 => absurd a0 (by omega)) t20
      refine ab_iinc (pc := 114) dX10_findClash_114 rfl rfl (by decide) (by omega) (by omega) ?_
      refine ab_goto (pc := 117) 25 dX10_findClash_117 (by decide) ?_
      refine ih (q + 1) _ _ _ _ hW (by omega) (by omega) (fun p p0 p1 pi => ?_) t20
      by_cases e9 : p = q
      · rw [e9]; rw [e9] at pi; exact ft pi
      · exact I p p0 (by omega) pi
theorem m_findClash_8 (hG : ab_G l E) {K : Nat} (hK : wK K) {e n : Int} (l0 : 0 ≤ s0 7) (l1 : s0 7 ≤ 12) (lb : ∀ q : Int, 0 ≤ q → q < s0 7 → lawB F0 q) (nN : n ≤ mLen K) (le : ∀ j : Int, 0 ≤ j → j < n → 0 ≤ F0 K j ∧ F0 K j ≤ 7) (n0 : 0 ≤ n) (fu : Nat) : ∀ (c : Int) (x8 x9 : Option AbV) (h : AbH) (s : Nat → Int) (F : Nat → Int → Int), mW h0 m A s0 F0 [20, 21, 22] [13, 14, 15] h s F → (n + 1 - c).toNat < fu → (1 ≤ c) → (c ≤ n + 1) → (∀ u : Int, 1 ≤ u → u < c → KL F0 (s0 7) e (F0 K) u) → (s 20 = -1) → ab_T l E Y_X10_findClash 4 0 0 8 [some (vR m), some (vI e), some (vR (A K)), some (vI n), some (vI c), x8, x9] [] h (mC h0 m A s0 F0 [20, 21, 22] [13, 14, 15] (fun r s' F' => r = none ∧ Cl F0 (s0 7) e (F0 K) n (s' 20) (s' 21) (s' 22))) := by
  induction fu with
  | zero => intro c x8 x9 h s F hW hm; exact absurd hm (Nat.not_lt_zero _)
  | succ fu ih =>
    intro c x8 x9 h s F hW hm c0 c1 I t20
    have hk8 := wK_le hK
    refine ab_iload (pc := 8) dX10_findClash_8 rfl ?_
    refine ab_iload_n (pc := 10) dX10_findClash_10 rfl ?_
    refine ab_icmp_gt (pc := 11) 126 dX10_findClash_11 (by decide) (fun c11 => ?_) (fun c11 => ?_)
    · refine ab_vret (pc := 126) dX10_findClash_126 rfl ?_
      exact ⟨_, _, _, rfl, hW, rfl, Or.inl ⟨t20, fun u u0 u1 => I u u0 (by omega)⟩⟩
    · refine ab_aload_n (pc := 14) dX10_findClash_14 rfl ?_
      refine ab_get (pc := 15) (k := 20) (x := vI ((-1))) okX10 hW.obj (mg rfl t20) w1075 rfl dX10_findClash_15 ?_
      refine ab_iconst (pc := 18) dX10_findClash_18 (by decide) ?_
      refine ab_icmp_ne (pc := 19) 126 dX10_findClash_19 (by decide) (fun c19 => absurd c19 (by omega)) (fun c19 => ?_)
      refine ab_iconst (pc := 22) dX10_findClash_22 (by decide) ?_
      refine ab_istore (pc := 23) dX10_findClash_23 rfl (Nat.le_of_ble_eq_true rfl) ?_
      refine m_findClash_25 hG hK l0 l1 lb nN le c0 (by omega) I (fun ft x9 q h s F hW t20 => ?_) _ 0 _ _ _ _ hW (Nat.lt_succ_self _) (by omega) (fun a a0 a1 => absurd a1 (by omega)) t20
      refine ab_iinc (pc := 120) dX10_findClash_120 rfl rfl (by decide) (by omega) (by omega) ?_
      refine ab_goto (pc := 123) 8 dX10_findClash_123 (by decide) ?_
      refine ih (c + 1) _ _ _ _ _ hW (by omega) (by omega) (by omega) (fun u u0 u1 => ?_) t20
      by_cases e9 : u = c
      · rw [e9]; exact ft
      · exact I u u0 (by omega)
theorem m_findClash (hG : ab_G l E) (hM : mR h0 m A s0 F0) {K : Nat} (hK : wK K) {e n : Int} (l0 : 0 ≤ s0 7) (l1 : s0 7 ≤ 12) (lb : ∀ q : Int, 0 ≤ q → q < s0 7 → lawB F0 q) (nN : n ≤ mLen K) (le : ∀ j : Int, 0 ≤ j → j < n → 0 ≤ F0 K j ∧ F0 K j ≤ 7) (n0 : 0 ≤ n) : ab_M l E Y_X10_findClash 7 4 0 0 [vR m, vI e, vR (A K), vI n] h0 (mC h0 m A s0 F0 [20, 21, 22] [13, 14, 15] (fun r s' F' => r = none ∧ Cl F0 (s0 7) e (F0 K) n (s' 20) (s' 21) (s' 22))) := by
  refine ab_M.of (L0 := [some (vR m), some (vI e), some (vR (A K)), some (vI n), none, none, none]) hG rfl rfl (Nat.le_of_ble_eq_true rfl) rfl ?_
  have hW : mW h0 m A s0 F0 [20, 21, 22] [13, 14, 15] h0 s0 F0 := mW.start hM
  refine ab_aload_n (pc := 0) dX10_findClash_0 rfl ?_
  refine ab_iconst (pc := 1) dX10_findClash_1 (by decide) ?_
  refine ab_putG (pc := 2) (k := 20) okX10 hW.obj (by decide) (by decide) trivial w1075 rfl (Or.inl rfl) dX10_findClash_2 (fun h e9 n9 => ?_)
  replace hW := hW.put e9 n9 rfl (by decide)
  clear e9 n9
  refine ab_iconst (pc := 5) dX10_findClash_5 (by decide) ?_
  refine ab_istore (pc := 6) dX10_findClash_6 rfl (Nat.le_of_ble_eq_true rfl) ?_
  exact m_findClash_8 hG hK l0 l1 lb nN le n0 _ 1 _ _ _ _ _ hW (Nat.lt_succ_self _) (by omega) (by omega) (fun p p0 p1 => absurd p1 (by omega)) rfl
theorem m_findClashG (hG : ab_G l E) (hM : mR h0 m A s0 F0) {K : Nat} (hK : wK K) {G : Nat → Int → Int} {f : Int → Int} {L e n : Int} (eL : lawEq F0 G) (eK : F0 K = f) (e7 : s0 7 = L) (l0 : 0 ≤ L) (l1 : L ≤ 12) (lb : ∀ q : Int, 0 ≤ q → q < L → lawB G q) (nN : n ≤ mLen K) (le : ∀ j : Int, 0 ≤ j → j < n → 0 ≤ f j ∧ f j ≤ 7) (n0 : 0 ≤ n) : ab_M l E Y_X10_findClash 7 4 0 0 [vR m, vI e, vR (A K), vI n] h0 (mC h0 m A s0 F0 [20, 21, 22] [13, 14, 15] (fun r s' F' => r = none ∧ Cl G L e f n (s' 20) (s' 21) (s' 22))) := by
  subst eK e7
  rw [← eL.lawB] at lb
  have g := m_findClash (e := e) hG hM hK l0 l1 lb nN le n0
  rw [show Cl F0 = Cl G by unfold Cl KL; rw [eL.bar]] at g
  exact g
abbrev setOk (s : Nat → Int) (e : Int) : Prop := 0 ≤ e ∧ ab_shr e (s 7) = 0
/-- what clash answers for a clash -/
def clR (w c q z r : Int) : Prop := (w = 0 ∧ c = -1 ∧ r = 1) ∨ (w = 0 ∧ c ≠ -1 ∧ r = 0) ∨ (w ≠ 0 ∧ c = -1 ∧ r = -1) ∨ (w = 1 ∧ c ≠ -1 ∧ r = c) ∨ (w = 2 ∧ c ≠ -1 ∧ r = q) ∨ (w = 3 ∧ c ≠ -1 ∧ r = z)
def clashSp (s : Nat → Int) (F : Nat → Int → Int) (e x k w c r : Int) : Prop := (¬ isRow s x k ∧ c = 1 ∧ r = 0) ∨ (isRow s x k ∧ ¬ (setOk s e ∧ 0 ≤ w ∧ w ≤ 3) ∧ c = 2 ∧ r = 0) ∨ (isRow s x k ∧ setOk s e ∧ 0 ≤ w ∧ w ≤ 3 ∧ c = 0 ∧ ((isRd F x k (-1) ∧ r = -2) ∨ ∃ n c9 q z : Int, 0 ≤ n ∧ isRd F x k n ∧ Cl F (s 7) e (rdL F x k) n c9 q z ∧ clR w c9 q z r))
theorem m_clash (hG : ab_G l E) (hM : mR h0 m A s0 F0) {e x k w : Int} (n1 : s0 1 ≤ 16) (b3 : ∀ j, 0 ≤ j → j < 160 → -1 ≤ F0 3 j ∧ F0 3 j ≤ 80) (b7 : 0 ≤ s0 7) (c7 : s0 7 ≤ 12) (lb : ∀ q : Int, 0 ≤ q → q < s0 7 → lawB F0 q) : ab_M l E Y_X10_clash 5 6 0 0 [vR m, vI e, vI x, vI k, vI w] h0 (mC h0 m A s0 F0 [0, 6, 20, 21, 22] [5, 13, 14, 15] (fun r s' F' => ∃ c r9 : Int, r = some (vI r9) ∧ s' 0 = c ∧ clashSp s0 F0 e x k w c r9)) := by
  refine ab_M.of (L0 := [some (vR m), some (vI e), some (vI x), some (vI k), some (vI w)]) hG rfl rfl (Nat.le_of_ble_eq_true rfl) rfl ?_
  have hW : mW h0 m A s0 F0 [0, 6, 20, 21, 22] [5, 13, 14, 15] h0 s0 F0 := mW.start hM
  refine ab_aload_n (pc := 0) dX10_clash_0 rfl ?_
  refine ab_iconst (pc := 1) dX10_clash_1 (by decide) ?_
  refine ab_putG (pc := 2) (k := 0) okX10 hW.obj (by decide) (by decide) trivial w1055 rfl (Or.inl rfl) dX10_clash_2 (fun h e9 n9 => ?_)
  replace hW := hW.put e9 n9 rfl (by decide)
  clear e9 n9
  refine ab_aload_n (pc := 5) dX10_clash_5 rfl ?_
  refine ab_iload_n (pc := 6) dX10_clash_6 rfl ?_
  refine ab_iload_n (pc := 7) dX10_clash_7 rfl ?_
  refine ab_iconst (pc := 8) dX10_clash_8 (by decide) ?_
  refine ab_callV (pc := 9) (m_isRow (n := s0 1) hG hW.1 rfl (by decide) (hW.sv 1 (by decide))) hW.obj rfl ⟨w1213, w5, w1216, by decide, pd51⟩ w1215 sp26 rfl (by decide) (by decide) (Nat.le_of_ble_eq_true rfl) rfl dX10_clash_9 (fun _ _ hx => absurd hx mC_no) ?_
  rintro _ h ⟨_, s1, F1, e9, hc1, hp1⟩
  cases e9
  replace hW := hW.call hc1 (by decide) (by decide)
  rcases hp1 with ⟨a1, a2, a3, a4, rfl, t1⟩ | ⟨a1, rfl, t1⟩
  · refine ab_if_eq (pc := 12) 47 dX10_clash_12 (by decide) (fun c12 => absurd c12 (by omega)) (fun c12 => ?_)
    refine ab_aload_n (pc := 15) dX10_clash_15 rfl ?_
    refine ab_via (S := [vR m]) 40 (fun v : Int => (v = 1 ∧ 0 ≤ e ∧ ab_shr e (s0 7) = 0 ∧ 0 ≤ w ∧ w ≤ 3) ∨ (v = 0 ∧ ¬ (0 ≤ e ∧ ab_shr e (s0 7) = 0 ∧ 0 ≤ w ∧ w ≤ 3))) (fun v hv => ?_) (fun J40 => ?_)
    · refine ab_iconst (pc := 40) dX10_clash_40 (by decide) ?_
      refine ab_callV (pc := 41) (m_may hG hW.1 (by omega) t1 (by omega)) hW.obj rfl ⟨w1205, w5, w1208, by decide, pd74⟩ w1207 sp25 rfl (by decide) (by decide) (Nat.le_of_ble_eq_true rfl) rfl dX10_clash_41 (fun _ _ hx => absurd hx mC_no) ?_
      rintro _ h ⟨_, s2, F2, e9, hc2, hp2⟩
      cases e9
      replace hW := hW.call hc2 (by decide) (by decide)
      rcases hp2 with ⟨g2, rfl, t2⟩ | ⟨g2, rfl, t2⟩
      · refine ab_if_ne (pc := 44) 49 dX10_clash_44 (by decide) (fun c44 => ?_) (fun c44 => absurd c44 (by omega))
        refine ab_aload_n (pc := 49) dX10_clash_49 rfl ?_
        refine ab_iload_n (pc := 50) dX10_clash_50 rfl ?_
        refine ab_iload_n (pc := 51) dX10_clash_51 rfl ?_
        refine ab_callV (pc := 52) (m_readsG (G := F0) hG hW.1 (hW.Fv 3 (by decide)) (hW.Fv 4 (by decide)) (by omega) (by omega) (by omega) (by omega) b3) hW.obj rfl ⟨w1233, w5, w1236, by decide, pd73⟩ w1235 sp28 rfl (by decide) (by decide) (Nat.le_of_ble_eq_true rfl) rfl dX10_clash_52 (fun _ _ hx => absurd hx mC_no) ?_
        rintro _ h ⟨_, s3, F3, e9, hc3, hp3⟩
        cases e9
        replace hW := hW.call hc3 (by decide) (by decide)
        rcases hp3 with ⟨rfl, d1, d2, d3, d4, d5⟩ | ⟨rfl, d1, d2⟩
        · refine ab_if_ne (pc := 55) 61 dX10_clash_55 (by decide) (fun c55 => ?_) (fun c55 => absurd c55 (by omega))
          refine ab_aload_n (pc := 61) dX10_clash_61 rfl ?_
          refine ab_iload_n (pc := 62) dX10_clash_62 rfl ?_
          refine ab_aload_n (pc := 63) dX10_clash_63 rfl ?_
          refine ab_get (pc := 64) (k := 5) (x := vR (A 5)) okX10 hW.obj rfl w1060 rfl dX10_clash_64 ?_
          refine ab_aload_n (pc := 67) dX10_clash_67 rfl ?_
          refine ab_get (pc := 68) (k := 6) (x := vI (s3 6)) okX10 hW.obj (mg rfl rfl) w1061 rfl dX10_clash_68 ?_
          refine ab_callV (pc := 71) (m_findClashG (G := F0) (K := 5) hG hW.1 (by unfold wK; decide) (hW.law (by decide)) rfl (hW.sv 7 (by decide)) b7 c7 lb (by show _ ≤ (80 : Int); omega) d5 (by omega)) hW.obj rfl ⟨w1278, w5, w1281, by decide, pd61⟩ w1280 sp31 rfl (by decide) (by decide) (Nat.le_of_ble_eq_true rfl) rfl dX10_clash_71 (fun _ _ hx => absurd hx mC_no) ?_
          rintro _ h ⟨_, s4, F4, e9, hc4, rfl, hcl⟩
          cases e9
          replace hW := hW.call hc4 (by decide) (by decide)
          refine ab_iload (pc := 74) dX10_clash_74 rfl ?_
          refine ab_if_ne (pc := 76) 93 dX10_clash_76 (by decide) (fun c76 => ?_) (fun c76 => ?_)
          · refine ab_aload_n (pc := 93) dX10_clash_93 rfl ?_
            refine ab_get (pc := 94) (k := 20) (x := vI (s4 20)) okX10 hW.obj (mg rfl rfl) w1075 rfl dX10_clash_94 ?_
            refine ab_iconst (pc := 97) dX10_clash_97 (by decide) ?_
            refine ab_icmp_ne (pc := 98) 103 dX10_clash_98 (by decide) (fun c98 => ?_) (fun c98 => ?_)
            · refine ab_iload (pc := 103) dX10_clash_103 rfl ?_
              refine ab_iconst (pc := 105) dX10_clash_105 (by decide) ?_
              refine ab_icmp_ne (pc := 106) 116 dX10_clash_106 (by decide) (fun c106 => ?_) (fun c106 => ?_)
              · refine ab_iload (pc := 116) dX10_clash_116 rfl ?_
                refine ab_iconst (pc := 118) dX10_clash_118 (by decide) ?_
                refine ab_icmp_ne (pc := 119) 129 dX10_clash_119 (by decide) (fun c119 => ?_) (fun c119 => ?_)
                · refine ab_aload_n (pc := 129) dX10_clash_129 rfl ?_
                  refine ab_get (pc := 130) (k := 22) (x := vI (s4 22)) okX10 hW.obj (mg rfl rfl) w1077 rfl dX10_clash_130 ?_
                  refine ab_iret (pc := 133) dX10_clash_133 rfl ?_
                  refine ⟨_, _, _, rfl, hW, 0, _, rfl, ((hc4.sv 0 (by decide)).trans ((hc3.sv 0 (by decide)).trans t2)), Or.inr (Or.inr ⟨⟨a1, a2, a3, a4⟩, ⟨by omega, by omega⟩, by omega, by omega, rfl, Or.inr ⟨_, _, _, _, d2, d1, hcl.congr d4, ?_⟩⟩)⟩
                  unfold clR; omega
                · refine ab_aload_n (pc := 122) dX10_clash_122 rfl ?_
                  refine ab_get (pc := 123) (k := 21) (x := vI (s4 21)) okX10 hW.obj (mg rfl rfl) w1076 rfl dX10_clash_123 ?_
                  refine ab_goto (pc := 126) 133 dX10_clash_126 (by decide) ?_
                  refine ab_iret (pc := 133) dX10_clash_133 rfl ?_
                  refine ⟨_, _, _, rfl, hW, 0, _, rfl, ((hc4.sv 0 (by decide)).trans ((hc3.sv 0 (by decide)).trans t2)), Or.inr (Or.inr ⟨⟨a1, a2, a3, a4⟩, ⟨by omega, by omega⟩, by omega, by omega, rfl, Or.inr ⟨_, _, _, _, d2, d1, hcl.congr d4, ?_⟩⟩)⟩
                  unfold clR; omega
              · refine ab_aload_n (pc := 109) dX10_clash_109 rfl ?_
                refine ab_get (pc := 110) (k := 20) (x := vI (s4 20)) okX10 hW.obj (mg rfl rfl) w1075 rfl dX10_clash_110 ?_
                refine ab_goto (pc := 113) 133 dX10_clash_113 (by decide) ?_
                refine ab_iret (pc := 133) dX10_clash_133 rfl ?_
                refine ⟨_, _, _, rfl, hW, 0, _, rfl, ((hc4.sv 0 (by decide)).trans ((hc3.sv 0 (by decide)).trans t2)), Or.inr (Or.inr ⟨⟨a1, a2, a3, a4⟩, ⟨by omega, by omega⟩, by omega, by omega, rfl, Or.inr ⟨_, _, _, _, d2, d1, hcl.congr d4, ?_⟩⟩)⟩
                unfold clR; omega
            · refine ab_iconst (pc := 101) dX10_clash_101 (by decide) ?_
              refine ab_iret (pc := 102) dX10_clash_102 rfl ?_
              refine ⟨_, _, _, rfl, hW, 0, _, rfl, ((hc4.sv 0 (by decide)).trans ((hc3.sv 0 (by decide)).trans t2)), Or.inr (Or.inr ⟨⟨a1, a2, a3, a4⟩, ⟨by omega, by omega⟩, by omega, by omega, rfl, Or.inr ⟨_, _, _, _, d2, d1, hcl.congr d4, ?_⟩⟩)⟩
              unfold clR; omega
          · refine ab_aload_n (pc := 79) dX10_clash_79 rfl ?_
            refine ab_get (pc := 80) (k := 20) (x := vI (s4 20)) okX10 hW.obj (mg rfl rfl) w1075 rfl dX10_clash_80 ?_
            refine ab_iconst (pc := 83) dX10_clash_83 (by decide) ?_
            refine ab_icmp_ne (pc := 84) 91 dX10_clash_84 (by decide) (fun c84 => ?_) (fun c84 => ?_)
            · refine ab_iconst (pc := 91) dX10_clash_91 (by decide) ?_
              refine ab_iret (pc := 92) dX10_clash_92 rfl ?_
              refine ⟨_, _, _, rfl, hW, 0, _, rfl, ((hc4.sv 0 (by decide)).trans ((hc3.sv 0 (by decide)).trans t2)), Or.inr (Or.inr ⟨⟨a1, a2, a3, a4⟩, ⟨by omega, by omega⟩, by omega, by omega, rfl, Or.inr ⟨_, _, _, _, d2, d1, hcl.congr d4, ?_⟩⟩)⟩
              unfold clR; omega
            · refine ab_iconst (pc := 87) dX10_clash_87 (by decide) ?_
              refine ab_goto (pc := 88) 92 dX10_clash_88 (by decide) ?_
              refine ab_iret (pc := 92) dX10_clash_92 rfl ?_
              refine ⟨_, _, _, rfl, hW, 0, _, rfl, ((hc4.sv 0 (by decide)).trans ((hc3.sv 0 (by decide)).trans t2)), Or.inr (Or.inr ⟨⟨a1, a2, a3, a4⟩, ⟨by omega, by omega⟩, by omega, by omega, rfl, Or.inr ⟨_, _, _, _, d2, d1, hcl.congr d4, ?_⟩⟩)⟩
              unfold clR; omega
        · refine ab_if_ne (pc := 55) 61 dX10_clash_55 (by decide) (fun c55 => absurd c55 (by omega)) (fun c55 => ?_)
          refine ab_bipush (pc := 58) dX10_clash_58 (by decide) ?_
          refine ab_iret (pc := 60) dX10_clash_60 rfl ?_
          exact ⟨_, _, _, rfl, hW, 0, -2, rfl, ((hc3.sv 0 (by decide)).trans t2), Or.inr (Or.inr ⟨⟨a1, a2, a3, a4⟩, ⟨by omega, by omega⟩, by omega, by omega, rfl, Or.inl ⟨d1, rfl⟩⟩)⟩
      · refine ab_if_ne (pc := 44) 49 dX10_clash_44 (by decide) (fun c44 => absurd c44 (by omega)) (fun c44 => ?_)
        refine ab_iconst (pc := 47) dX10_clash_47 (by decide) ?_
        refine ab_iret (pc := 48) dX10_clash_48 rfl ?_
        first
        | (exact ⟨_, _, _, rfl, hW, 1, 0, rfl, t2, Or.inl ⟨by omega, rfl, rfl⟩⟩)
        | (exact ⟨_, _, _, rfl, hW, 2, 0, rfl, t2, Or.inr (Or.inl ⟨⟨a1, a2, a3, a4⟩, by omega, rfl, rfl⟩)⟩)
    · refine ab_aload_n (pc := 16) dX10_clash_16 rfl ?_
      refine ab_iload_n (pc := 17) dX10_clash_17 rfl ?_
      refine ab_callV (pc := 18) (m_isSet hG hW.1 (n := s0 7) (hW.sv 7 (by decide))) hW.obj rfl ⟨w1274, w5, w1277, by decide, pd71⟩ w1276 sp30 rfl (by decide) (by decide) (Nat.le_of_ble_eq_true rfl) rfl dX10_clash_18 (fun _ _ hx => absurd hx pC_no) ?_
      rintro _ _ ⟨v5, e9, rfl, hp5⟩
      cases e9
      refine ab_if_eq (pc := 21) 39 dX10_clash_21 (by decide) (fun c21 => ?_) (fun c21 => ?_)
      · refine ab_iconst (pc := 39) dX10_clash_39 (by decide) ?_
        exact J40 (0) (by omega)
      · refine ab_iload (pc := 24) dX10_clash_24 rfl ?_
        refine ab_if_lt (pc := 26) 39 dX10_clash_26 (by decide) (fun c26 => ?_) (fun c26 => ?_)
        · refine ab_iconst (pc := 39) dX10_clash_39 (by decide) ?_
          exact J40 (0) (by omega)
        · refine ab_iload (pc := 29) dX10_clash_29 rfl ?_
          refine ab_iconst (pc := 31) dX10_clash_31 (by decide) ?_
          refine ab_icmp_gt (pc := 32) 39 dX10_clash_32 (by decide) (fun c32 => ?_) (fun c32 => ?_)
          · refine ab_iconst (pc := 39) dX10_clash_39 (by decide) ?_
            exact J40 (0) (by omega)
          · refine ab_iconst (pc := 35) dX10_clash_35 (by decide) ?_
            refine ab_goto (pc := 36) 40 dX10_clash_36 (by decide) ?_
            exact J40 (1) (by omega)
  · refine ab_if_eq (pc := 12) 47 dX10_clash_12 (by decide) (fun c12 => ?_) (fun c12 => absurd c12 (by omega))
    refine ab_iconst (pc := 47) dX10_clash_47 (by decide) ?_
    refine ab_iret (pc := 48) dX10_clash_48 rfl ?_
    first
    | (exact ⟨_, _, _, rfl, hW, 1, 0, rfl, t1, Or.inl ⟨by omega, rfl, rfl⟩⟩)
    | (exact ⟨_, _, _, rfl, hW, 2, 0, rfl, t1, Or.inr (Or.inl ⟨⟨a1, a2, a3, a4⟩, by omega, rfl, rfl⟩)⟩)
end M8
