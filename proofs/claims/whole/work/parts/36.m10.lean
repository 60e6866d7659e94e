/-! the reference: the search -/
section M10
variable {l : Launch} {E : AbE} {m : Nat} {A : Nat → Nat} {s0 : Nat → Int} {F0 : Nat → Int → Int} {h0 : AbH}
theorem tr_ne {a b c : Int} (h : a = b) (k : b ≠ c) : a ≠ c := fun e => k (h.symm.trans e)
theorem m_keepsLastG (hG : ab_G l E) (hM : mR h0 m A s0 F0) {K : Nat} (hK : wK K) {G : Nat → Int → Int} {f : Int → Int} {L e n : Int} (eL : lawEq F0 G) (eK : F0 K = f) (e7 : s0 7 = L) (l0 : 0 ≤ L) (l1 : L ≤ 12) (lb : ∀ q : Int, 0 ≤ q → q < L → lawB G q) (nN : n ≤ mLen K) (le : ∀ j : Int, 0 ≤ j → j < n → 0 ≤ f j ∧ f j ≤ 7) : ab_M l E Y_X10_keepsLast 6 4 0 0 [vR m, vI e, vR (A K), vI n] h0 (mC h0 m A s0 F0 [] [13, 14, 15] (fun r s' F' => (r = some (vI 1) ∧ KL G L e f n) ∨ (r = some (vI 0) ∧ ¬ KL G L e f n))) := by
  subst eK e7
  rw [← eL.lawB] at lb
  have g := m_keepsLast (e := e) hG hM hK l0 l1 lb nN le
  rw [show KL F0 = KL G by unfold KL; rw [eL.bar]] at g
  exact g
def costUp (F : Nat → Int → Int) (e q c : Int) : Prop := (c = 10 ∧ ∃ p : Int, 0 ≤ p ∧ p < q ∧ inS e p ∧ F 8 p = 5) ∨ (c = 1 ∧ ∀ p : Int, 0 ≤ p → p < q → inS e p → F 8 p ≠ 5)
theorem costUp_yes {F : Nat → Int → Int} {e q : Int} (q0 : 0 ≤ q) (h1 : inS e q) (h2 : F 8 q = 5) : costUp F e (q + 1) 10 := Or.inl ⟨rfl, q, q0, by omega, h1, h2⟩
theorem costUp_no {F : Nat → Int → Int} {e q c : Int} (h : costUp F e q c) (h1 : ¬ (inS e q ∧ F 8 q = 5)) : costUp F e (q + 1) c := by
  rcases h with ⟨a1, p, a2, a3, a4⟩ | ⟨a1, a2⟩
  · exact Or.inl ⟨a1, p, a2, by omega, a4⟩
  · refine Or.inr ⟨a1, fun p p0 p1 p2 p3 => ?_⟩
    by_cases e9 : p = q
    · exact h1 ⟨by rw [← e9]; exact p2, by rw [← e9]; exact p3⟩
    · exact a2 p p0 (by omega) p2 p3
theorem costUp_fun {F : Nat → Int → Int} {e q c c' : Int} (h : costUp F e q c) (h' : costUp F e q c') : c = c' := by
  rcases h with ⟨a1, p, a2, a3, a4, a5⟩ | ⟨a1, a2⟩ <;> rcases h' with ⟨b1, p', b2, b3, b4, b5⟩ | ⟨b1, b2⟩
  · omega
  · exact absurd a5 (b2 p a2 a3 a4)
  · exact absurd b5 (a2 p' b2 b3 b4)
  · omega
theorem costUp_bd {F : Nat → Int → Int} {e q c : Int} (h : costUp F e q c) : c = 10 ∨ c = 1 := by
  rcases h with h | h
  · exact Or.inl h.1
  · exact Or.inr h.1
theorem costUp0 {F : Nat → Int → Int} {e : Int} : costUp F e 0 1 := Or.inr ⟨rfl, fun p p0 p1 => absurd p1 (by omega)⟩
theorem m_beginSearch_23 (hG : ab_G l E) {e a n : Int} (l0 : 0 ≤ s0 7) (l1 : s0 7 ≤ 12) (fu : Nat) : ∀ (q c : Int) (h : AbH) (s : Nat → Int) (F : Nat → Int → Int), mW h0 m A s0 F0 [24, 25, 26, 27, 28, 29, 31, 33] [] h s F → (s0 7 - q).toNat < fu → (0 ≤ q) → (q ≤ 12) → (q ≤ s0 7) → (s 25 = e) → (s 26 = a) → (s 27 = n) → (s 24 = c) → ((s0 32 = 0 ∧ costUp F0 e q c) ∨ (q = 0 ∧ c = 1)) → ab_T l E Y_X10_beginSearch 1 0 0 23 [some (vR m), some (vI e), some (vI a), some (vI n), some (vI q)] [] h (mC h0 m A s0 F0 [24, 25, 26, 27, 28, 29, 31, 33] [] (fun r s' F' => r = none ∧ s' 25 = e ∧ s' 26 = a ∧ s' 27 = n ∧ ((s0 32 = 0 ∧ costUp F0 e (s0 7) (s' 24)) ∨ (s0 32 ≠ 0 ∧ s' 24 = 1)) ∧ s' 28 = 0 ∧ s' 29 = 0 ∧ s' 33 = 0 ∧ s' 31 = 0)) := by
  induction fu with
  | zero => intro q c h s F hW hm; exact absurd hm (Nat.not_lt_zero _)
  | succ fu ih =>
    intro q c h s F hW hm q0 q1 q2 t25 t26 t27 t24 I
    refine ab_iload (pc := 23) dX10_beginSearch_23 rfl ?_
    refine ab_aload_n (pc := 25) dX10_beginSearch_25 rfl ?_
    refine ab_get (pc := 26) (k := 7) (x := vI (s0 7)) okX10 hW.obj (mg rfl (hW.sv 7 (by decide))) w1062 rfl dX10_beginSearch_26 ?_
    refine ab_icmp_ge (pc := 29) 71 dX10_beginSearch_29 (by decide) (fun c29 => ?_) (fun c29 => ?_)
    · refine ab_aload_n (pc := 71) dX10_beginSearch_71 rfl ?_
      refine ab_iconst (pc := 72) dX10_beginSearch_72 (by decide) ?_
      refine ab_putG (pc := 73) (k := 28) okX10 hW.obj (by decide) (by decide) trivial w1083 rfl (Or.inl rfl) dX10_beginSearch_73 (fun h e9 n9 => ?_)
      replace hW := hW.put e9 n9 rfl (by decide)
      clear e9 n9
      refine ab_aload_n (pc := 76) dX10_beginSearch_76 rfl ?_
      refine ab_iconst (pc := 77) dX10_beginSearch_77 (by decide) ?_
      refine ab_putG (pc := 78) (k := 29) okX10 hW.obj (by decide) (by decide) trivial w1084 rfl (Or.inl rfl) dX10_beginSearch_78 (fun h e9 n9 => ?_)
      replace hW := hW.put e9 n9 rfl (by decide)
      clear e9 n9
      refine ab_aload_n (pc := 81) dX10_beginSearch_81 rfl ?_
      refine ab_iconst (pc := 82) dX10_beginSearch_82 (by decide) ?_
      refine ab_putG (pc := 83) (k := 33) okX10 hW.obj (by decide) (by decide) (by show _ ∨ _; omega) w1088 rfl (Or.inl rfl) dX10_beginSearch_83 (fun h e9 n9 => ?_)
      replace hW := hW.put e9 n9 rfl (by decide)
      clear e9 n9
      refine ab_aload_n (pc := 86) dX10_beginSearch_86 rfl ?_
      refine ab_iconst (pc := 87) dX10_beginSearch_87 (by decide) ?_
      refine ab_putG (pc := 88) (k := 31) okX10 hW.obj (by decide) (by decide) (by show _ ∨ _; omega) w1086 rfl (Or.inl rfl) dX10_beginSearch_88 (fun h e9 n9 => ?_)
      replace hW := hW.put e9 n9 rfl (by decide)
      clear e9 n9
      refine ab_vret (pc := 91) dX10_beginSearch_91 rfl ?_
      refine ⟨_, _, _, rfl, hW, rfl, t25, t26, t27, ?_, rfl, rfl, rfl, rfl⟩
      show (s0 32 = 0 ∧ costUp F0 e (s0 7) (s 24)) ∨ (s0 32 ≠ 0 ∧ s 24 = 1)
      rw [t24]
      by_cases e9 : s0 32 = 0
      · refine Or.inl ⟨e9, ?_⟩
        rcases I with g | ⟨g1, g2⟩
        · first
          | (rw [show s0 7 = q by omega]; exact g.2)
          | (exfalso; omega)
        · rw [g2]; exact Or.inr ⟨rfl, fun p p0 p1 => absurd p1 (by omega)⟩
      · refine Or.inr ⟨e9, ?_⟩
        rcases I with g | g
        · exact absurd g.1 e9
        · exact g.2
    · refine ab_aload_n (pc := 32) dX10_beginSearch_32 rfl ?_
      refine ab_get (pc := 33) (k := 32) (x := vI (s0 32)) okX10 hW.obj (mg rfl (hW.sv 32 (by decide))) w1087 rfl dX10_beginSearch_33 ?_
      refine ab_if_ne (pc := 36) 71 dX10_beginSearch_36 (by decide) (fun c36 => ?_) (fun c36 => ?_)
      · refine ab_aload_n (pc := 71) dX10_beginSearch_71 rfl ?_
        refine ab_iconst (pc := 72) dX10_beginSearch_72 (by decide) ?_
        refine ab_putG (pc := 73) (k := 28) okX10 hW.obj (by decide) (by decide) trivial w1083 rfl (Or.inl rfl) dX10_beginSearch_73 (fun h e9 n9 => ?_)
        replace hW := hW.put e9 n9 rfl (by decide)
        clear e9 n9
        refine ab_aload_n (pc := 76) dX10_beginSearch_76 rfl ?_
        refine ab_iconst (pc := 77) dX10_beginSearch_77 (by decide) ?_
        refine ab_putG (pc := 78) (k := 29) okX10 hW.obj (by decide) (by decide) trivial w1084 rfl (Or.inl rfl) dX10_beginSearch_78 (fun h e9 n9 => ?_)
        replace hW := hW.put e9 n9 rfl (by decide)
        clear e9 n9
        refine ab_aload_n (pc := 81) dX10_beginSearch_81 rfl ?_
        refine ab_iconst (pc := 82) dX10_beginSearch_82 (by decide) ?_
        refine ab_putG (pc := 83) (k := 33) okX10 hW.obj (by decide) (by decide) (by show _ ∨ _; omega) w1088 rfl (Or.inl rfl) dX10_beginSearch_83 (fun h e9 n9 => ?_)
        replace hW := hW.put e9 n9 rfl (by decide)
        clear e9 n9
        refine ab_aload_n (pc := 86) dX10_beginSearch_86 rfl ?_
        refine ab_iconst (pc := 87) dX10_beginSearch_87 (by decide) ?_
        refine ab_putG (pc := 88) (k := 31) okX10 hW.obj (by decide) (by decide) (by show _ ∨ _; omega) w1086 rfl (Or.inl rfl) dX10_beginSearch_88 (fun h e9 n9 => ?_)
        replace hW := hW.put e9 n9 rfl (by decide)
        clear e9 n9
        refine ab_vret (pc := 91) dX10_beginSearch_91 rfl ?_
        refine ⟨_, _, _, rfl, hW, rfl, t25, t26, t27, ?_, rfl, rfl, rfl, rfl⟩
        show (s0 32 = 0 ∧ costUp F0 e (s0 7) (s 24)) ∨ (s0 32 ≠ 0 ∧ s 24 = 1)
        rw [t24]
        by_cases e9 : s0 32 = 0
        · refine Or.inl ⟨e9, ?_⟩
          rcases I with g | ⟨g1, g2⟩
          · first
            | (rw [show s0 7 = q by omega]; exact g.2)
            | (exfalso; omega)
          · rw [g2]; exact Or.inr ⟨rfl, fun p p0 p1 => absurd p1 (by omega)⟩
        · refine Or.inr ⟨e9, ?_⟩
          rcases I with g | g
          · exact absurd g.1 e9
          · exact g.2
      · refine ab_iload_n (pc := 39) dX10_beginSearch_39 rfl ?_
        refine ab_iload (pc := 40) dX10_beginSearch_40 rfl ?_
        refine ab_callS (pc := 42) (m_isIn hG) ⟨w1282, w5, w1284, by decide, pd73⟩ w1283 rfl (by decide) (by decide) (Nat.le_of_ble_eq_true rfl) rfl dX10_beginSearch_42 (fun _ _ hx => absurd hx pC_no) ?_
        rintro _ _ ⟨v1, e9, rfl, hp1⟩
        cases e9
        refine ab_if_eq (pc := 45) 65 dX10_beginSearch_45 (by decide) (fun c45 => ?_) (fun c45 => ?_)
        · refine ab_iinc (pc := 65) dX10_beginSearch_65 rfl rfl (by decide) (by omega) (by omega) ?_
          refine ab_goto (pc := 68) 23 dX10_beginSearch_68 (by decide) ?_
          have c0 : costUp F0 e q c := by rcases I with g | ⟨g1, g2⟩; exact g.2; rw [g1, g2]; exact costUp0
          refine ih (q + 1) (c) _ _ _ hW (by omega) (by omega) (by omega) (by omega) t25 t26 t27 t24 (Or.inl ⟨by omega, ?_⟩)
          rcases hp1 with g | g
          · first
            | (exact costUp_no c0 (fun h => by omega))
            | (exact costUp_yes q0 g.2 (by omega))
          · first
            | (exact costUp_no c0 (fun h => g.2 h.1))
            | (exfalso; omega)
        · refine ab_aload_n (pc := 48) dX10_beginSearch_48 rfl ?_
          refine ab_get (pc := 49) (k := 8) (x := vR (A 8)) okX10 hW.obj rfl w1063 rfl dX10_beginSearch_49 ?_
          refine ab_iload (pc := 52) dX10_beginSearch_52 rfl ?_
          refine ab_iald (pc := 54) (n := 12) (f := F0 8) (hW.arr 8 rfl (hW.Fv 8 (by decide))) (by omega) (by omega) dX10_beginSearch_54 ?_
          refine ab_iconst (pc := 55) dX10_beginSearch_55 (by decide) ?_
          refine ab_icmp_ne (pc := 56) 65 dX10_beginSearch_56 (by decide) (fun c56 => ?_) (fun c56 => ?_)
          · refine ab_iinc (pc := 65) dX10_beginSearch_65 rfl rfl (by decide) (by omega) (by omega) ?_
            refine ab_goto (pc := 68) 23 dX10_beginSearch_68 (by decide) ?_
            have c0 : costUp F0 e q c := by rcases I with g | ⟨g1, g2⟩; exact g.2; rw [g1, g2]; exact costUp0
            refine ih (q + 1) (c) _ _ _ hW (by omega) (by omega) (by omega) (by omega) t25 t26 t27 t24 (Or.inl ⟨by omega, ?_⟩)
            rcases hp1 with g | g
            · first
              | (exact costUp_no c0 (fun h => by omega))
              | (exact costUp_yes q0 g.2 (by omega))
            · first
              | (exact costUp_no c0 (fun h => g.2 h.1))
              | (exfalso; omega)
          · refine ab_aload_n (pc := 59) dX10_beginSearch_59 rfl ?_
            refine ab_bipush (pc := 60) dX10_beginSearch_60 (by decide) ?_
            refine ab_putG (pc := 62) (k := 24) okX10 hW.obj (by decide) (by decide) trivial w1079 rfl (Or.inl rfl) dX10_beginSearch_62 (fun h e9 n9 => ?_)
            replace hW := hW.put e9 n9 rfl (by decide)
            clear e9 n9
            refine ab_iinc (pc := 65) dX10_beginSearch_65 rfl rfl (by decide) (by omega) (by omega) ?_
            refine ab_goto (pc := 68) 23 dX10_beginSearch_68 (by decide) ?_
            have c0 : costUp F0 e q c := by rcases I with g | ⟨g1, g2⟩; exact g.2; rw [g1, g2]; exact costUp0
            refine ih (q + 1) (10) _ _ _ hW (by omega) (by omega) (by omega) (by omega) t25 t26 t27 rfl (Or.inl ⟨by omega, ?_⟩)
            rcases hp1 with g | g
            · first
              | (exact costUp_no c0 (fun h => by omega))
              | (exact costUp_yes q0 g.2 (by omega))
            · first
              | (exact costUp_no c0 (fun h => g.2 h.1))
              | (exfalso; omega)
theorem m_beginSearch (hG : ab_G l E) (hM : mR h0 m A s0 F0) {e a n : Int} (l0 : 0 ≤ s0 7) (l1 : s0 7 ≤ 12) : ab_M l E Y_X10_beginSearch 5 1 0 0 [vR m, vI e, vI a, vI n] h0 (mC h0 m A s0 F0 [24, 25, 26, 27, 28, 29, 31, 33] [] (fun r s' F' => r = none ∧ s' 25 = e ∧ s' 26 = a ∧ s' 27 = n ∧ ((s0 32 = 0 ∧ costUp F0 e (s0 7) (s' 24)) ∨ (s0 32 ≠ 0 ∧ s' 24 = 1)) ∧ s' 28 = 0 ∧ s' 29 = 0 ∧ s' 33 = 0 ∧ s' 31 = 0)) := by
  refine ab_M.of (L0 := [some (vR m), some (vI e), some (vI a), some (vI n), none]) hG rfl rfl (Nat.le_of_ble_eq_true rfl) rfl ?_
  have hW : mW h0 m A s0 F0 [24, 25, 26, 27, 28, 29, 31, 33] [] h0 s0 F0 := mW.start hM
  refine ab_aload_n (pc := 0) dX10_beginSearch_0 rfl ?_
  refine ab_iload_n (pc := 1) dX10_beginSearch_1 rfl ?_
  refine ab_putG (pc := 2) (k := 25) okX10 hW.obj (by decide) (by decide) trivial w1080 rfl (Or.inl rfl) dX10_beginSearch_2 (fun h e9 n9 => ?_)
  replace hW := hW.put e9 n9 rfl (by decide)
  clear e9 n9
  refine ab_aload_n (pc := 5) dX10_beginSearch_5 rfl ?_
  refine ab_iload_n (pc := 6) dX10_beginSearch_6 rfl ?_
  refine ab_putG (pc := 7) (k := 26) okX10 hW.obj (by decide) (by decide) trivial w1081 rfl (Or.inl rfl) dX10_beginSearch_7 (fun h e9 n9 => ?_)
  replace hW := hW.put e9 n9 rfl (by decide)
  clear e9 n9
  refine ab_aload_n (pc := 10) dX10_beginSearch_10 rfl ?_
  refine ab_iload_n (pc := 11) dX10_beginSearch_11 rfl ?_
  refine ab_putG (pc := 12) (k := 27) okX10 hW.obj (by decide) (by decide) trivial w1082 rfl (Or.inl rfl) dX10_beginSearch_12 (fun h e9 n9 => ?_)
  replace hW := hW.put e9 n9 rfl (by decide)
  clear e9 n9
  refine ab_aload_n (pc := 15) dX10_beginSearch_15 rfl ?_
  refine ab_iconst (pc := 16) dX10_beginSearch_16 (by decide) ?_
  refine ab_putG (pc := 17) (k := 24) okX10 hW.obj (by decide) (by decide) trivial w1079 rfl (Or.inl rfl) dX10_beginSearch_17 (fun h e9 n9 => ?_)
  replace hW := hW.put e9 n9 rfl (by decide)
  clear e9 n9
  refine ab_iconst (pc := 20) dX10_beginSearch_20 (by decide) ?_
  refine ab_istore (pc := 21) dX10_beginSearch_21 rfl (Nat.le_of_ble_eq_true rfl) ?_
  exact m_beginSearch_23 hG l0 l1 _ 0 1 _ _ _ hW (Nat.lt_succ_self _) (by omega) (by omega) l0 rfl rfl rfl rfl (Or.inr ⟨rfl, rfl⟩)
theorem m_look (hG : ab_G l E) (hM : mR h0 m A s0 F0) {lk c : Int} (e23 : s0 23 = lk) (e24 : s0 24 = c) (k0 : 0 ≤ lk) (k1 : lk ≤ 20000) (c0 : 0 ≤ c) (c1 : c ≤ 10) : ab_M l E Y_X10_look 1 0 0 0 [vR m] h0 (mC h0 m A s0 F0 [23, 31] [] (fun r s' F' => (20000 < lk + c ∧ r = some (vI 0) ∧ s' 31 = 1 ∧ s' 23 = lk) ∨ (¬ 20000 < lk + c ∧ r = some (vI 1) ∧ s' 31 = 0 ∧ s' 23 = lk + c))) := by
  refine ab_M.of (L0 := [some (vR m)]) hG rfl rfl (Nat.le_of_ble_eq_true rfl) rfl ?_
  have hW : mW h0 m A s0 F0 [23, 31] [] h0 s0 F0 := mW.start hM
  subst e23 e24
  refine ab_aload_n (pc := 0) dX10_look_0 rfl ?_
  refine ab_via (S := [vR m]) 21 (fun v : Int => (v = 1 ∧ 20000 < s0 23 + s0 24) ∨ (v = 0 ∧ ¬ 20000 < s0 23 + s0 24)) (fun v hv => ?_) (fun J21 => ?_)
  · refine ab_putG (pc := 21) (k := 31) okX10 hW.obj (by decide) (by decide) (by show _ ∨ _; omega) w1086 rfl (Or.inl rfl) dX10_look_21 (fun h e9 n9 => ?_)
    replace hW := hW.put e9 n9 rfl (by decide)
    clear e9 n9
    refine ab_aload_n (pc := 24) dX10_look_24 rfl ?_
    refine ab_get (pc := 25) (k := 31) (x := vI (v)) okX10 hW.obj (mg rfl rfl) w1086 rfl dX10_look_25 ?_
    refine ab_if_ne (pc := 28) 44 dX10_look_28 (by decide) (fun c28 => ?_) (fun c28 => ?_)
    · refine ab_aload_n (pc := 44) dX10_look_44 rfl ?_
      refine ab_get (pc := 45) (k := 31) (x := vI (v)) okX10 hW.obj (mg rfl rfl) w1086 rfl dX10_look_45 ?_
      refine ab_if_ne (pc := 48) 55 dX10_look_48 (by decide) (fun c48 => ?_) (fun c48 => ?_)
      · refine ab_iconst (pc := 55) dX10_look_55 (by decide) ?_
        refine ab_zret (pc := 56) dX10_look_56 rfl (by omega) ?_
        first
        | (exact ⟨_, _, _, rfl, hW, Or.inl ⟨by omega, rfl, by show v = 1; omega, rfl⟩⟩)
        | (exact ⟨_, _, _, rfl, hW, Or.inr ⟨by omega, rfl, by show v = 0; omega, rfl⟩⟩)
        | (exfalso; omega)
      · refine ab_iconst (pc := 51) dX10_look_51 (by decide) ?_
        refine ab_goto (pc := 52) 56 dX10_look_52 (by decide) ?_
        refine ab_zret (pc := 56) dX10_look_56 rfl (by omega) ?_
        first
        | (exact ⟨_, _, _, rfl, hW, Or.inl ⟨by omega, rfl, by show v = 1; omega, rfl⟩⟩)
        | (exact ⟨_, _, _, rfl, hW, Or.inr ⟨by omega, rfl, by show v = 0; omega, rfl⟩⟩)
        | (exfalso; omega)
    · refine ab_aload_n (pc := 31) dX10_look_31 rfl ?_
      refine ab_dup (pc := 32) dX10_look_32 rfl ?_
      refine ab_get (pc := 33) (k := 23) (x := vI (s0 23)) okX10 hW.obj (mg rfl rfl) w1078 rfl dX10_look_33 ?_
      refine ab_aload_n (pc := 36) dX10_look_36 rfl ?_
      refine ab_get (pc := 37) (k := 24) (x := vI (s0 24)) okX10 hW.obj (mg rfl (hW.sv 24 (by decide))) w1079 rfl dX10_look_37 ?_
      refine ab_iadd (pc := 40) dX10_look_40 (by omega) (by omega) ?_
      refine ab_putG (pc := 41) (k := 23) okX10 hW.obj (by decide) (by decide) trivial w1078 rfl (Or.inl rfl) dX10_look_41 (fun h e9 n9 => ?_)
      replace hW := hW.put e9 n9 rfl (by decide)
      clear e9 n9
      refine ab_aload_n (pc := 44) dX10_look_44 rfl ?_
      refine ab_get (pc := 45) (k := 31) (x := vI (v)) okX10 hW.obj (mg rfl rfl) w1086 rfl dX10_look_45 ?_
      refine ab_if_ne (pc := 48) 55 dX10_look_48 (by decide) (fun c48 => ?_) (fun c48 => ?_)
      · refine ab_iconst (pc := 55) dX10_look_55 (by decide) ?_
        refine ab_zret (pc := 56) dX10_look_56 rfl (by omega) ?_
        first
        | (exact ⟨_, _, _, rfl, hW, Or.inl ⟨by omega, rfl, by show v = 1; omega, rfl⟩⟩)
        | (exact ⟨_, _, _, rfl, hW, Or.inr ⟨by omega, rfl, by show v = 0; omega, rfl⟩⟩)
        | (exfalso; omega)
      · refine ab_iconst (pc := 51) dX10_look_51 (by decide) ?_
        refine ab_goto (pc := 52) 56 dX10_look_52 (by decide) ?_
        refine ab_zret (pc := 56) dX10_look_56 rfl (by omega) ?_
        first
        | (exact ⟨_, _, _, rfl, hW, Or.inl ⟨by omega, rfl, by show v = 1; omega, rfl⟩⟩)
        | (exact ⟨_, _, _, rfl, hW, Or.inr ⟨by omega, rfl, by show v = 0; omega, rfl⟩⟩)
        | (exfalso; omega)
  · refine ab_aload_n (pc := 1) dX10_look_1 rfl ?_
    refine ab_get (pc := 2) (k := 23) (x := vI (s0 23)) okX10 hW.obj (mg rfl rfl) w1078 rfl dX10_look_2 ?_
    refine ab_aload_n (pc := 5) dX10_look_5 rfl ?_
    refine ab_get (pc := 6) (k := 24) (x := vI (s0 24)) okX10 hW.obj (mg rfl (hW.sv 24 (by decide))) w1079 rfl dX10_look_6 ?_
    refine ab_iadd (pc := 9) dX10_look_9 (by omega) (by omega) ?_
    refine ab_sipush (pc := 10) dX10_look_10 (by decide) ?_
    refine ab_icmp_le (pc := 13) 20 dX10_look_13 (by decide) (fun c13 => ?_) (fun c13 => ?_)
    · refine ab_iconst (pc := 20) dX10_look_20 (by decide) ?_
      exact J21 (0) (by omega)
    · refine ab_iconst (pc := 16) dX10_look_16 (by decide) ?_
      refine ab_goto (pc := 17) 21 dX10_look_17 (by decide) ?_
      exact J21 (1) (by omega)
theorem m_keepsWay_26 (hG : ab_G l E) {w : Int → Int} {d : Int} (eW : F0 30 = w) (ed : s0 28 = d) (d0 : 0 ≤ d) (d6 : d ≤ 60) (fu : Nat) : ∀ (z : Int) (h : AbH) (s : Nat → Int) (F : Nat → Int → Int), mW h0 m A s0 F0 [] [13, 14, 15] h s F → (d - z).toNat < fu → (1 ≤ z) → (2 * (z - 1) ≤ d) → (∀ y : Int, 1 ≤ y → y < z → ¬ isP w (d - 2 * y) d y) → ab_T l E Y_X10_keepsWay 5 0 0 26 [some (vR m), some (vI z)] [] h (mC h0 m A s0 F0 [] [13, 14, 15] (fun r s' F' => (r = some (vI 1) ∧ NS w d) ∨ (r = some (vI 0) ∧ ¬ NS w d))) := by
  induction fu with
  | zero => intro z h s F hW hm; exact absurd hm (Nat.not_lt_zero _)
  | succ fu ih =>
    intro z h s F hW hm z0 z1 I
    subst eW ed
    refine ab_iconst (pc := 26) dX10_keepsWay_26 (by decide) ?_
    refine ab_iload_n (pc := 27) dX10_keepsWay_27 rfl ?_
    refine ab_imul (pc := 28) dX10_keepsWay_28 (by omega) (by omega) ?_
    refine ab_aload_n (pc := 29) dX10_keepsWay_29 rfl ?_
    refine ab_get (pc := 30) (k := 28) (x := vI (s0 28)) okX10 hW.obj (mg rfl (hW.sv 28 (by decide))) w1083 rfl dX10_keepsWay_30 ?_
    refine ab_icmp_gt (pc := 33) 67 dX10_keepsWay_33 (by decide) (fun c33 => ?_) (fun c33 => ?_)
    · refine ab_iconst (pc := 67) dX10_keepsWay_67 (by decide) ?_
      refine ab_zret (pc := 68) dX10_keepsWay_68 rfl (by omega) ?_
      exact ⟨_, _, _, rfl, hW, Or.inl ⟨rfl, fun y y0 y1 => I y y0 (by omega)⟩⟩
    · refine ab_aload_n (pc := 36) dX10_keepsWay_36 rfl ?_
      refine ab_get (pc := 37) (k := 30) (x := vR (A 30)) okX10 hW.obj rfl w1085 rfl dX10_keepsWay_37 ?_
      refine ab_aload_n (pc := 40) dX10_keepsWay_40 rfl ?_
      refine ab_get (pc := 41) (k := 28) (x := vI (s0 28)) okX10 hW.obj (mg rfl (hW.sv 28 (by decide))) w1083 rfl dX10_keepsWay_41 ?_
      refine ab_iconst (pc := 44) dX10_keepsWay_44 (by decide) ?_
      refine ab_iload_n (pc := 45) dX10_keepsWay_45 rfl ?_
      refine ab_imul (pc := 46) dX10_keepsWay_46 (by omega) (by omega) ?_
      refine ab_isub (pc := 47) dX10_keepsWay_47 (by omega) (by omega) ?_
      refine ab_aload_n (pc := 48) dX10_keepsWay_48 rfl ?_
      refine ab_get (pc := 49) (k := 28) (x := vI (s0 28)) okX10 hW.obj (mg rfl (hW.sv 28 (by decide))) w1083 rfl dX10_keepsWay_49 ?_
      refine ab_iload_n (pc := 52) dX10_keepsWay_52 rfl ?_
      refine ab_callS (pc := 53) (m_isPeriod hG (hW.arr 30 rfl (hW.Fv 30 (by decide))) (by decide) (by omega) (by show _ ≤ (80 : Int); omega) (by show _ ≤ (80 : Int); omega) (by omega) (by omega)) ⟨w1256, w5, w1258, by decide, pd56⟩ w1257 rfl (by decide) (by decide) (Nat.le_of_ble_eq_true rfl) rfl dX10_keepsWay_53 (fun _ _ hx => absurd hx pC_no) ?_
      rintro _ _ ⟨v1, e9, rfl, hp1⟩
      cases e9
      refine ab_if_eq (pc := 56) 61 dX10_keepsWay_56 (by decide) (fun c56 => ?_) (fun c56 => ?_)
      · refine ab_iinc (pc := 61) dX10_keepsWay_61 rfl rfl (by decide) (by omega) (by omega) ?_
        refine ab_goto (pc := 64) 26 dX10_keepsWay_64 (by decide) ?_
        refine ih (z + 1) _ _ _ hW (by omega) (by omega) (by omega) (fun y y0 y1 => ?_)
        by_cases e9 : y = z
        · rw [e9]; rcases hp1 with g | g; omega; exact g.2
        · exact I y y0 (by omega)
      · refine ab_iconst (pc := 59) dX10_keepsWay_59 (by decide) ?_
        refine ab_zret (pc := 60) dX10_keepsWay_60 rfl (by omega) ?_
        refine ⟨_, _, _, rfl, hW, Or.inr ⟨rfl, fun g => g z z0 (by omega) ?_⟩⟩
        rcases hp1 with g | g; exact g.2; omega
theorem m_keepsWay (hG : ab_G l E) (hM : mR h0 m A s0 F0) {kp : (Int → Int) → Int → Prop} {G : Nat → Int → Int} {w : Int → Int} {L d : Int} (eL : lawEq F0 G) (e7 : s0 7 = L) (l0 : 0 ≤ L) (l1 : L ≤ 12) (lb : ∀ q : Int, 0 ≤ q → q < L → lawB G q) (eW : F0 30 = w) (ed : s0 28 = d) (d0 : 0 ≤ d) (d6 : d ≤ 60) (le : ∀ j : Int, 0 ≤ j → j < d → 0 ≤ w j ∧ w j ≤ 7) (hkp : (s0 32 = 0 ∧ kp = KL G L (s0 25)) ∨ (s0 32 = 1 ∧ kp = NS)) : ab_M l E Y_X10_keepsWay 2 5 0 0 [vR m] h0 (mC h0 m A s0 F0 [] [13, 14, 15] (fun r s' F' => (r = some (vI 1) ∧ kp w d) ∨ (r = some (vI 0) ∧ ¬ kp w d))) := by
  refine ab_M.of (L0 := [some (vR m), none]) hG rfl rfl (Nat.le_of_ble_eq_true rfl) rfl ?_
  have hW : mW h0 m A s0 F0 [] [13, 14, 15] h0 s0 F0 := mW.start hM
  rcases hkp with ⟨i32, rfl⟩ | ⟨i32, rfl⟩
  · refine ab_aload_n (pc := 0) dX10_keepsWay_0 rfl ?_
    refine ab_get (pc := 1) (k := 32) (x := vI (s0 32)) okX10 hW.obj (mg rfl (hW.sv 32 (by decide))) w1087 rfl dX10_keepsWay_1 ?_
    refine ab_if_ne (pc := 4) 24 dX10_keepsWay_4 (by decide) (fun c4 => absurd c4 (by omega)) (fun c4 => ?_)
    refine ab_aload_n (pc := 7) dX10_keepsWay_7 rfl ?_
    refine ab_aload_n (pc := 8) dX10_keepsWay_8 rfl ?_
    refine ab_get (pc := 9) (k := 25) (x := vI (s0 25)) okX10 hW.obj (mg rfl (hW.sv 25 (by decide))) w1080 rfl dX10_keepsWay_9 ?_
    refine ab_aload_n (pc := 12) dX10_keepsWay_12 rfl ?_
    refine ab_get (pc := 13) (k := 30) (x := vR (A 30)) okX10 hW.obj rfl w1085 rfl dX10_keepsWay_13 ?_
    refine ab_aload_n (pc := 16) dX10_keepsWay_16 rfl ?_
    refine ab_get (pc := 17) (k := 28) (x := vI (s0 28)) okX10 hW.obj (mg rfl (hW.sv 28 (by decide))) w1083 rfl dX10_keepsWay_17 ?_
    refine ab_callV (pc := 20) (m_keepsLastG (K := 30) hG hW.1 (by unfold wK; decide) eL eW e7 l0 l1 lb (by show _ ≤ (80 : Int); omega) (by rw [ed]; exact le)) hW.obj rfl ⟨w1328, w5, w1331, by decide, pd77⟩ w1330 sp41 rfl (by decide) (by decide) (Nat.le_of_ble_eq_true rfl) rfl dX10_keepsWay_20 (fun _ _ hx => absurd hx mC_no) ?_
    rintro _ h ⟨_, s1, F1, e9, hc1, hp1⟩
    cases e9
    replace hW := hW.call hc1 (by decide) (by decide)
    rw [ed] at hp1
    rcases hp1 with ⟨rfl, ft⟩ | ⟨rfl, ft⟩
    · refine ab_zret (pc := 23) dX10_keepsWay_23 rfl (by omega) ?_
      first
      | (exact ⟨_, _, _, rfl, hW, Or.inl ⟨rfl, ft⟩⟩)
      | (exact ⟨_, _, _, rfl, hW, Or.inr ⟨rfl, ft⟩⟩)
    · refine ab_zret (pc := 23) dX10_keepsWay_23 rfl (by omega) ?_
      first
      | (exact ⟨_, _, _, rfl, hW, Or.inl ⟨rfl, ft⟩⟩)
      | (exact ⟨_, _, _, rfl, hW, Or.inr ⟨rfl, ft⟩⟩)
  · refine ab_aload_n (pc := 0) dX10_keepsWay_0 rfl ?_
    refine ab_get (pc := 1) (k := 32) (x := vI (s0 32)) okX10 hW.obj (mg rfl (hW.sv 32 (by decide))) w1087 rfl dX10_keepsWay_1 ?_
    refine ab_if_ne (pc := 4) 24 dX10_keepsWay_4 (by decide) (fun c4 => ?_) (fun c4 => absurd c4 (by omega))
    refine ab_iconst (pc := 24) dX10_keepsWay_24 (by decide) ?_
    refine ab_istore_n (pc := 25) dX10_keepsWay_25 rfl (Nat.le_of_ble_eq_true rfl) ?_
    exact m_keepsWay_26 hG eW ed d0 d6 _ 1 _ _ _ hW (Nat.lt_succ_self _) (by omega) (by omega) (fun y y0 y1 => absurd y1 (by omega))
theorem lawEq.trans {F G H : Nat → Int → Int} (h : lawEq F G) (k : lawEq G H) : lawEq F H := ⟨h.1.trans k.1, h.2.1.trans k.2.1, h.2.2.1.trans k.2.2.1, h.2.2.2.1.trans k.2.2.2.1, h.2.2.2.2.trans k.2.2.2.2⟩
theorem m_next_54 (hG : ab_G l E) {kp : (Int → Int) → Int → Prop} {G : Nat → Int → Int} {L a n c : Int} (eL : lawEq F0 G) (e7 : s0 7 = L) (l0 : 0 ≤ L) (l1 : L ≤ 12) (lb : ∀ q : Int, 0 ≤ q → q < L → lawB G q) (hkp : (s0 32 = 0 ∧ kp = KL G L (s0 25)) ∨ (s0 32 = 1 ∧ kp = NS)) (e26 : s0 26 = a) (a1 : 1 ≤ a) (a8 : a ≤ 8) (e27 : s0 27 = n) (n6 : n ≤ 60) (e24 : s0 24 = c) (c1 : 1 ≤ c) (c10 : c ≤ 10) (fu : Nat) : ∀ (w : Int → Int) (d lk lg : Int) (h : AbH) (s : Nat → Int) (F : Nat → Int → Int), mW h0 m A s0 F0 [23, 28, 29, 31, 33] [13, 14, 15, 30] h s F → (2 * (20000 - lk) + d).toNat < fu → (F 30 = w) → (s 28 = d) → (s 23 = lk) → (s 29 = lg) → (s 31 = 0) → (s 33 = 1) → (sInv a n w d lk lg) → ab_T l E Y_X10_next 6 0 0 54 [some (vR m)] [] h (mC h0 m A s0 F0 [23, 28, 29, 31, 33] [13, 14, 15, 30] (fun r s' F' => s' 33 = 1 ∧ ∃ (o : Int) (w' : Int → Int) (d' lk' lg' : Int), (∃ k : Nat, sRun kp a n c k w d lk lg = some (o, w', d', lk', lg')) ∧ F' 30 = w' ∧ s' 28 = d' ∧ s' 23 = lk' ∧ s' 29 = lg' ∧ sInv a n w' d' lk' lg' ∧ ((o = 1 ∧ r = some (vI 1) ∧ s' 31 = 0) ∨ (o = 0 ∧ r = some (vI 0) ∧ s' 31 = 0) ∨ (o = -2 ∧ r = some (vI 0) ∧ s' 31 = 1)) ∧ (o = 1 → d' = n ∧ ∀ j : Int, 0 ≤ j → j < n → 0 ≤ w' j ∧ w' j < a))) := by
  induction fu with
  | zero => intro w d lk lg h s F hW hm; exact absurd hm (Nat.not_lt_zero _)
  | succ fu ih =>
    intro w d lk lg h s F hW hm e30 e28 e23 e29 e31 e33 inv
    obtain ⟨v0, v1, v2, v3, v4, v5, v6, v7⟩ := inv
    refine ab_aload_n (pc := 54) dX10_next_54 rfl ?_
    refine ab_get (pc := 55) (k := 28) (x := vI (d)) okX10 hW.obj (mg rfl e28) w1083 rfl dX10_next_55 ?_
    refine ab_if_le (pc := 58) 188 dX10_next_58 (by decide) (fun c58 => ?_) (fun c58 => ?_)
    · refine ab_iconst (pc := 188) dX10_next_188 (by decide) ?_
      refine ab_zret (pc := 189) dX10_next_189 rfl (by omega) ?_
      obtain rfl : d = 0 := by omega
      exact ⟨_, _, _, rfl, hW, (Eq.trans rfl e33), _, _, _, _, _, ⟨_, sRun_over (k := 0) (by omega)⟩, e30, e28, e23, e29, ⟨v0, v1, v2, v3, v4, v5, v6, v7⟩, Or.inr (Or.inl ⟨rfl, rfl, e31⟩), fun e => absurd e (by decide)⟩
    · refine ab_aload_n (pc := 61) dX10_next_61 rfl ?_
      refine ab_get (pc := 62) (k := 30) (x := vR (A 30)) okX10 hW.obj rfl w1085 rfl dX10_next_62 ?_
      refine ab_aload_n (pc := 65) dX10_next_65 rfl ?_
      refine ab_get (pc := 66) (k := 28) (x := vI (d)) okX10 hW.obj (mg rfl e28) w1083 rfl dX10_next_66 ?_
      refine ab_iconst (pc := 69) dX10_next_69 (by decide) ?_
      refine ab_isub (pc := 70) dX10_next_70 (by omega) (by omega) ?_
      refine ab_dup2 (pc := 71) dX10_next_71 rfl rfl ?_
      refine ab_iald (pc := 72) (n := 80) (f := w) (hW.arr 30 rfl e30) (by omega) (by omega) dX10_next_72 ?_
      refine ab_iconst (pc := 73) dX10_next_73 (by decide) ?_
      refine ab_iadd (pc := 74) dX10_next_74 (by omega) (by omega) ?_
      refine ab_iastG (pc := 75) (n := 80) (f := w) (hW.arr 30 rfl e30) (by decide) (by omega) (by omega) dX10_next_75 (fun h e9 n9 => ?_)
      replace hW := hW.wr (k := 30) rfl e9 n9 (by decide)
      clear e9 n9
      refine ab_aload_n (pc := 76) dX10_next_76 rfl ?_
      refine ab_get (pc := 77) (k := 30) (x := vR (A 30)) okX10 hW.obj rfl w1085 rfl dX10_next_77 ?_
      refine ab_aload_n (pc := 80) dX10_next_80 rfl ?_
      refine ab_get (pc := 81) (k := 28) (x := vI (d)) okX10 hW.obj (mg rfl e28) w1083 rfl dX10_next_81 ?_
      refine ab_iconst (pc := 84) dX10_next_84 (by decide) ?_
      refine ab_isub (pc := 85) dX10_next_85 (by omega) (by omega) ?_
      refine ab_iald (pc := 86) (n := 80) (f := ab_f (w) ((d - 1)) ((w (d - 1) + 1))) (hW.arr 30 rfl rfl) (by omega) (by omega) dX10_next_86 ?_
      rw [ab_f_eq rfl]
      skip
      refine ab_aload_n (pc := 87) dX10_next_87 rfl ?_
      refine ab_get (pc := 88) (k := 26) (x := vI (s0 26)) okX10 hW.obj (mg rfl (hW.sv 26 (by decide))) w1081 rfl dX10_next_88 ?_
      refine ab_icmp_ne (pc := 91) 107 dX10_next_91 (by decide) (fun c91 => ?_) (fun c91 => ?_)
      · have lt1 : ∀ j : Int, 0 ≤ j → j < d → ab_f w (d - 1) (w (d - 1) + 1) j < a := fun j j0 j1 => by by_cases e9 : j = d - 1; (rw [ab_f_eq e9]; omega); rw [ab_f_ne e9]; exact (v2 j j0 (by omega)).2
        have le1 : ∀ j : Int, 0 ≤ j → j < d → 0 ≤ ab_f w (d - 1) (w (d - 1) + 1) j ∧ ab_f w (d - 1) (w (d - 1) + 1) j ≤ 7 := fun j j0 j1 => by have g := lt1 j j0 j1; by_cases e9 : j = d - 1; (rw [ab_f_eq e9]; omega); rw [ab_f_ne e9] at g ⊢; have := v2 j j0 (by omega); omega
        refine ab_aload_n (pc := 107) dX10_next_107 rfl ?_
        refine ab_callV (pc := 108) (m_look hG hW.1 e23 ((hW.sv 24 (by decide)).trans e24) (by omega) (by omega) (by omega) (by omega)) hW.obj rfl ⟨w1320, w5, w1323, by decide, pd20⟩ w1322 sp39 rfl (by decide) (by decide) (Nat.le_of_ble_eq_true rfl) rfl dX10_next_108 (fun _ _ hx => absurd hx mC_no) ?_
        rintro _ h ⟨_, s1, F1, e9, hc1, hp1⟩
        cases e9
        replace hW := hW.call hc1 (by decide) (by decide)
        rcases hp1 with ⟨g1, rfl, t31, t23⟩ | ⟨g1, rfl, t31, t23⟩
        · refine ab_if_ne (pc := 111) 116 dX10_next_111 (by decide) (fun c111 => absurd c111 (by omega)) (fun c111 => ?_)
          refine ab_iconst (pc := 114) dX10_next_114 (by decide) ?_
          refine ab_zret (pc := 115) dX10_next_115 rfl (by omega) ?_
          exact ⟨_, _, _, rfl, hW, (Eq.trans (hc1.sv 33 (by decide)) e33), _, _, _, _, _, ⟨_, sRun_spent (k := 0) (by omega) (by omega) (by omega)⟩, (hc1.Fv 30 (by decide)), ((hc1.sv 28 (by decide)).trans e28), t23, ((hc1.sv 29 (by decide)).trans e29), ⟨v0, v1, fun j j0 j1 => by rw [ab_f_ne (by omega)]; exact v2 j j0 j1, fun _ => by rw [ab_f_eq rfl]; omega, v4, v5, v6, v7⟩, Or.inr (Or.inr ⟨rfl, rfl, t31⟩), fun e => absurd e (by decide)⟩
        · refine ab_if_ne (pc := 111) 116 dX10_next_111 (by decide) (fun c111 => ?_) (fun c111 => absurd c111 (by omega))
          refine ab_aload_n (pc := 116) dX10_next_116 rfl ?_
          refine ab_callV (pc := 117) (m_keepsWay (kp := kp) (w := (ab_f w (d - 1) (w (d - 1) + 1))) (d := d) hG hW.1 ((hW.law (by decide)).trans eL) ((hW.sv 7 (by decide)).trans e7) l0 l1 lb (hc1.Fv 30 (by decide)) ((hc1.sv 28 (by decide)).trans e28) (by omega) (by omega) le1 (by rw [hW.sv 32 (by decide), hW.sv 25 (by decide)]; exact hkp)) hW.obj rfl ⟨w1324, w5, w1327, by decide, pd20⟩ w1326 sp40 rfl (by decide) (by decide) (Nat.le_of_ble_eq_true rfl) rfl dX10_next_117 (fun _ _ hx => absurd hx mC_no) ?_
          rintro _ h ⟨_, s2, F2, e9, hc2, hp2⟩
          cases e9
          replace hW := hW.call hc2 (by decide) (by decide)
          rcases hp2 with ⟨rfl, ft⟩ | ⟨rfl, ft⟩
          · refine ab_if_ne (pc := 120) 126 dX10_next_120 (by decide) (fun c120 => ?_) (fun c120 => absurd c120 (by omega))
            refine ab_aload_n (pc := 126) dX10_next_126 rfl ?_
            refine ab_via (S := [vR m]) 149 (fun v : Int => v = (if lg < d then d else lg)) (fun v hv => ?_) (fun J149 => ?_)
            · refine ab_putG (pc := 149) (k := 29) okX10 hW.obj (by decide) (by decide) trivial w1084 rfl (Or.inl rfl) dX10_next_149 (fun h e9 n9 => ?_)
              replace hW := hW.put e9 n9 rfl (by decide)
              clear e9 n9
              refine ab_aload_n (pc := 152) dX10_next_152 rfl ?_
              refine ab_get (pc := 153) (k := 28) (x := vI (d)) okX10 hW.obj (mg rfl ((hc2.sv 28 (by decide)).trans ((hc1.sv 28 (by decide)).trans e28))) w1083 rfl dX10_next_153 ?_
              refine ab_aload_n (pc := 156) dX10_next_156 rfl ?_
              refine ab_get (pc := 157) (k := 27) (x := vI (s0 27)) okX10 hW.obj (mg rfl (hW.sv 27 (by decide))) w1082 rfl dX10_next_157 ?_
              refine ab_icmp_ne (pc := 160) 165 dX10_next_160 (by decide) (fun c160 => ?_) (fun c160 => ?_)
              · refine ab_aload_n (pc := 165) dX10_next_165 rfl ?_
                refine ab_get (pc := 166) (k := 30) (x := vR (A 30)) okX10 hW.obj rfl w1085 rfl dX10_next_166 ?_
                refine ab_aload_n (pc := 169) dX10_next_169 rfl ?_
                refine ab_get (pc := 170) (k := 28) (x := vI (d)) okX10 hW.obj (mg rfl ((hc2.sv 28 (by decide)).trans ((hc1.sv 28 (by decide)).trans e28))) w1083 rfl dX10_next_170 ?_
                refine ab_iconst (pc := 173) dX10_next_173 (by decide) ?_
                refine ab_iastG (pc := 174) (n := 80) (f := ab_f (w) ((d - 1)) ((w (d - 1) + 1))) (hW.arr 30 rfl ((hc2.Fv 30 (by decide)).trans (hc1.Fv 30 (by decide)))) (by decide) (by omega) (by omega) dX10_next_174 (fun h e9 n9 => ?_)
                replace hW := hW.wr (k := 30) rfl e9 n9 (by decide)
                clear e9 n9
                refine ab_aload_n (pc := 175) dX10_next_175 rfl ?_
                refine ab_dup (pc := 176) dX10_next_176 rfl ?_
                refine ab_get (pc := 177) (k := 28) (x := vI (d)) okX10 hW.obj (mg rfl ((hc2.sv 28 (by decide)).trans ((hc1.sv 28 (by decide)).trans e28))) w1083 rfl dX10_next_177 ?_
                refine ab_iconst (pc := 180) dX10_next_180 (by decide) ?_
                refine ab_iadd (pc := 181) dX10_next_181 (by omega) (by omega) ?_
                refine ab_putG (pc := 182) (k := 28) okX10 hW.obj (by decide) (by decide) trivial w1083 rfl (Or.inl rfl) dX10_next_182 (fun h e9 n9 => ?_)
                replace hW := hW.put e9 n9 rfl (by decide)
                clear e9 n9
                refine ab_goto (pc := 185) 54 dX10_next_185 (by decide) ?_
                refine (ih (ab_f (ab_f (w) ((d - 1)) ((w (d - 1) + 1))) (d) ((-1))) ((d + 1)) ((lk + c)) (v) _ _ _ hW (by omega) rfl rfl ((hc2.sv 23 (by decide)).trans t23) rfl ((hc2.sv 31 (by decide)).trans t31) (Eq.trans ((hc2.sv 33 (by decide)).trans (hc1.sv 33 (by decide))) e33) ⟨by omega, by omega, fun j j0 j1 => by rw [ab_f_ne (by omega)]; have := le1 j j0 (by omega); have := lt1 j j0 (by omega); omega, fun _ => by rw [show d + 1 - 1 = d by omega, ab_f_eq rfl]; omega, by omega, by omega, by rw [hv]; split <;> omega, by rw [hv]; split <;> omega⟩).mono ?_
                rintro o9 h9 ⟨r9, s9, F9, z1, z2, z5, o, w9, d9, lk9, lg9, ⟨k9, z3⟩, z4⟩
                exact ⟨r9, s9, F9, z1, z2, z5, o, w9, d9, lk9, lg9, ⟨k9 + 1, by rw [sRun_deep (by omega) (by omega) (by omega) ft (by omega), ← hv]; exact z3⟩, z4⟩
              · refine ab_iconst (pc := 163) dX10_next_163 (by decide) ?_
                refine ab_zret (pc := 164) dX10_next_164 rfl (by omega) ?_
                subst hv
                exact ⟨_, _, _, rfl, hW, (Eq.trans ((hc2.sv 33 (by decide)).trans (hc1.sv 33 (by decide))) e33), _, _, _, _, _, ⟨_, sRun_found (k := 0) (by omega) (by omega) (by omega) ft (by omega)⟩, ((hc2.Fv 30 (by decide)).trans (hc1.Fv 30 (by decide))), ((hc2.sv 28 (by decide)).trans ((hc1.sv 28 (by decide)).trans e28)), ((hc2.sv 23 (by decide)).trans t23), rfl, ⟨v0, v1, fun j j0 j1 => by rw [ab_f_ne (by omega)]; exact v2 j j0 j1, fun _ => by rw [ab_f_eq rfl]; omega, by omega, by omega, by split <;> omega, by split <;> omega⟩, Or.inl ⟨rfl, rfl, ((hc2.sv 31 (by decide)).trans t31)⟩, fun _ => ⟨by omega, fun j j0 j1 => ⟨(le1 j j0 (by omega)).1, lt1 j j0 (by omega)⟩⟩⟩
            · refine ab_aload_n (pc := 127) dX10_next_127 rfl ?_
              refine ab_get (pc := 128) (k := 28) (x := vI (d)) okX10 hW.obj (mg rfl ((hc2.sv 28 (by decide)).trans ((hc1.sv 28 (by decide)).trans e28))) w1083 rfl dX10_next_128 ?_
              refine ab_aload_n (pc := 131) dX10_next_131 rfl ?_
              refine ab_get (pc := 132) (k := 29) (x := vI (lg)) okX10 hW.obj (mg rfl ((hc2.sv 29 (by decide)).trans ((hc1.sv 29 (by decide)).trans e29))) w1084 rfl dX10_next_132 ?_
              refine ab_icmp_le (pc := 135) 145 dX10_next_135 (by decide) (fun c135 => ?_) (fun c135 => ?_)
              · refine ab_aload_n (pc := 145) dX10_next_145 rfl ?_
                refine ab_get (pc := 146) (k := 29) (x := vI (lg)) okX10 hW.obj (mg rfl ((hc2.sv 29 (by decide)).trans ((hc1.sv 29 (by decide)).trans e29))) w1084 rfl dX10_next_146 ?_
                refine J149 _ ?_
                split <;> omega
              · refine ab_aload_n (pc := 138) dX10_next_138 rfl ?_
                refine ab_get (pc := 139) (k := 28) (x := vI (d)) okX10 hW.obj (mg rfl ((hc2.sv 28 (by decide)).trans ((hc1.sv 28 (by decide)).trans e28))) w1083 rfl dX10_next_139 ?_
                refine ab_goto (pc := 142) 149 dX10_next_142 (by decide) ?_
                refine J149 _ ?_
                split <;> omega
          · refine ab_if_ne (pc := 120) 126 dX10_next_120 (by decide) (fun c120 => absurd c120 (by omega)) (fun c120 => ?_)
            refine ab_goto (pc := 123) 54 dX10_next_123 (by decide) ?_
            refine (ih (ab_f (w) ((d - 1)) ((w (d - 1) + 1))) (d) ((lk + c)) (lg) _ _ _ hW (by omega) ((hc2.Fv 30 (by decide)).trans (hc1.Fv 30 (by decide))) ((hc2.sv 28 (by decide)).trans ((hc1.sv 28 (by decide)).trans e28)) ((hc2.sv 23 (by decide)).trans t23) ((hc2.sv 29 (by decide)).trans ((hc1.sv 29 (by decide)).trans e29)) ((hc2.sv 31 (by decide)).trans t31) (Eq.trans ((hc2.sv 33 (by decide)).trans (hc1.sv 33 (by decide))) e33) ⟨by omega, by omega, fun j j0 j1 => by rw [ab_f_ne (by omega)]; exact v2 j j0 (by omega), fun _ => by rw [ab_f_eq rfl]; omega, by omega, by omega, v6, v7⟩).mono ?_
            rintro o9 h9 ⟨r9, s9, F9, z1, z2, z5, o, w9, d9, lk9, lg9, ⟨k9, z3⟩, z4⟩
            exact ⟨r9, s9, F9, z1, z2, z5, o, w9, d9, lk9, lg9, ⟨k9 + 1, by rw [sRun_bar (by omega) (by omega) (by omega) ft]; exact z3⟩, z4⟩
      · refine ab_aload_n (pc := 94) dX10_next_94 rfl ?_
        refine ab_dup (pc := 95) dX10_next_95 rfl ?_
        refine ab_get (pc := 96) (k := 28) (x := vI (d)) okX10 hW.obj (mg rfl e28) w1083 rfl dX10_next_96 ?_
        refine ab_iconst (pc := 99) dX10_next_99 (by decide) ?_
        refine ab_isub (pc := 100) dX10_next_100 (by omega) (by omega) ?_
        refine ab_putG (pc := 101) (k := 28) okX10 hW.obj (by decide) (by decide) trivial w1083 rfl (Or.inl rfl) dX10_next_101 (fun h e9 n9 => ?_)
        replace hW := hW.put e9 n9 rfl (by decide)
        clear e9 n9
        refine ab_goto (pc := 104) 54 dX10_next_104 (by decide) ?_
        refine (ih (ab_f (w) ((d - 1)) ((w (d - 1) + 1))) ((d - 1)) (lk) (lg) _ _ _ hW (by omega) rfl rfl e23 e29 e31 (Eq.trans rfl e33) ⟨by omega, by omega, fun j j0 j1 => by rw [ab_f_ne (by omega)]; exact v2 j j0 (by omega), fun _ => by rw [ab_f_ne (by omega)]; have := v2 (d - 1 - 1) (by omega) (by omega); omega, v4, v5, v6, v7⟩).mono ?_
        rintro o9 h9 ⟨r9, s9, F9, z1, z2, z5, o, w9, d9, lk9, lg9, ⟨k9, z3⟩, z4⟩
        exact ⟨r9, s9, F9, z1, z2, z5, o, w9, d9, lk9, lg9, ⟨k9 + 1, by rw [sRun_back (by omega) (by omega)]; exact z3⟩, z4⟩
theorem m_next (hG : ab_G l E) (hM : mR h0 m A s0 F0) {kp : (Int → Int) → Int → Prop} {G : Nat → Int → Int} {L a n c : Int} (eL : lawEq F0 G) (e7 : s0 7 = L) (l0 : 0 ≤ L) (l1 : L ≤ 12) (lb : ∀ q : Int, 0 ≤ q → q < L → lawB G q) (hkp : (s0 32 = 0 ∧ kp = KL G L (s0 25)) ∨ (s0 32 = 1 ∧ kp = NS)) (e26 : s0 26 = a) (a1 : 1 ≤ a) (a8 : a ≤ 8) (e27 : s0 27 = n) (n6 : n ≤ 60) (e24 : s0 24 = c) (c1 : 1 ≤ c) (c10 : c ≤ 10) {b d lk lg : Int} {w : Int → Int} (n0 : 0 ≤ n) (e30 : F0 30 = w) (e28 : s0 28 = d) (e23 : s0 23 = lk) (e29 : s0 29 = lg) (e31 : s0 31 = 0) (e33 : s0 33 = b) (hb : b = 0 ∨ b = 1) (inv : sInv a n w d lk lg) : ab_M l E Y_X10_next 1 6 0 0 [vR m] h0 (mC h0 m A s0 F0 [23, 28, 29, 31, 33] [13, 14, 15, 30] (fun r s' F' => (∃ (o : Int) (w' : Int → Int) (d' lk' lg' : Int), sNext kp a n c b w d lk lg (o, w', d', lk', lg') ∧ F' 30 = w' ∧ s' 28 = d' ∧ s' 23 = lk' ∧ s' 29 = lg' ∧ sInv a n w' d' lk' lg' ∧ ((o = 1 ∧ r = some (vI 1) ∧ s' 31 = 0) ∨ (o = 0 ∧ r = some (vI 0) ∧ s' 31 = 0) ∨ (o = -2 ∧ r = some (vI 0) ∧ s' 31 = 1)) ∧ (o = 1 → d' = n ∧ ∀ j : Int, 0 ≤ j → j < n → 0 ≤ w' j ∧ w' j < a)) ∧ s' 33 = 1)) := by
  refine ab_M.of (L0 := [some (vR m)]) hG rfl rfl (Nat.le_of_ble_eq_true rfl) rfl ?_
  have hW : mW h0 m A s0 F0 [23, 28, 29, 31, 33] [13, 14, 15, 30] h0 s0 F0 := mW.start hM
  obtain ⟨v0, v1, v2, v3, v4, v5, v6, v7⟩ := id inv
  refine ab_aload_n (pc := 0) dX10_next_0 rfl ?_
  refine ab_get (pc := 1) (k := 33) (x := vI (b)) okX10 hW.obj (mg rfl e33) w1088 rfl dX10_next_1 ?_
  refine ab_if_ne (pc := 4) 45 dX10_next_4 (by decide) (fun c4 => ?_) (fun c4 => ?_)
  · refine ab_aload_n (pc := 45) dX10_next_45 rfl ?_
    refine ab_get (pc := 46) (k := 27) (x := vI (s0 27)) okX10 hW.obj (mg rfl (hW.sv 27 (by decide))) w1082 rfl dX10_next_46 ?_
    refine ab_if_ne (pc := 49) 54 dX10_next_49 (by decide) (fun c49 => ?_) (fun c49 => ?_)
    · refine (m_next_54 (kp := kp) hG eL e7 l0 l1 lb hkp e26 a1 a8 e27 n6 e24 c1 c10 _ (w) (d) (lk) (lg) _ _ _ hW (Nat.lt_succ_self _) e30 e28 e23 e29 e31 (Eq.trans e33 (by omega)) inv).mono ?_
      rintro o9 h9 ⟨r9, s9, F9, z1, z2, z5, o, w9, d9, lk9, lg9, ⟨k9, z3⟩, z4⟩
      exact ⟨r9, s9, F9, z1, z2, ⟨o, w9, d9, lk9, lg9, Or.inr (Or.inr (Or.inr (Or.inr ⟨by omega, by omega, k9, z3⟩))), z4⟩, z5⟩
    · refine ab_iconst (pc := 52) dX10_next_52 (by decide) ?_
      refine ab_zret (pc := 53) dX10_next_53 rfl (by omega) ?_
      exact ⟨_, _, _, rfl, hW, ⟨_, _, _, _, _, Or.inr (Or.inr (Or.inr (Or.inl ⟨by omega, by omega, rfl⟩))), e30, e28, e23, e29, inv, Or.inr (Or.inl ⟨rfl, rfl, e31⟩), fun e => absurd e (by decide)⟩, (Eq.trans e33 (by omega))⟩
  · refine ab_aload_n (pc := 7) dX10_next_7 rfl ?_
    refine ab_iconst (pc := 8) dX10_next_8 (by decide) ?_
    refine ab_putG (pc := 9) (k := 33) okX10 hW.obj (by decide) (by decide) (by show _ ∨ _; omega) w1088 rfl (Or.inl rfl) dX10_next_9 (fun h e9 n9 => ?_)
    replace hW := hW.put e9 n9 rfl (by decide)
    clear e9 n9
    refine ab_aload_n (pc := 12) dX10_next_12 rfl ?_
    refine ab_callV (pc := 13) (m_look hG hW.1 e23 ((hW.sv 24 (by decide)).trans e24) (by omega) (by omega) (by omega) (by omega)) hW.obj rfl ⟨w1320, w5, w1323, by decide, pd20⟩ w1322 sp39 rfl (by decide) (by decide) (Nat.le_of_ble_eq_true rfl) rfl dX10_next_13 (fun _ _ hx => absurd hx mC_no) ?_
    rintro _ h ⟨_, s1, F1, e9, hc1, hp1⟩
    cases e9
    replace hW := hW.call hc1 (by decide) (by decide)
    rcases hp1 with ⟨g1, rfl, t31, t23⟩ | ⟨g1, rfl, t31, t23⟩
    · refine ab_if_ne (pc := 16) 21 dX10_next_16 (by decide) (fun c16 => absurd c16 (by omega)) (fun c16 => ?_)
      refine ab_iconst (pc := 19) dX10_next_19 (by decide) ?_
      refine ab_zret (pc := 20) dX10_next_20 rfl (by omega) ?_
      exact ⟨_, _, _, rfl, hW, ⟨_, _, _, _, _, Or.inl ⟨by omega, g1, rfl⟩, ((hc1.Fv 30 (by decide)).trans e30), ((hc1.sv 28 (by decide)).trans e28), t23, ((hc1.sv 29 (by decide)).trans e29), inv, Or.inr (Or.inr ⟨rfl, rfl, t31⟩), fun e => absurd e (by decide)⟩, (hc1.sv 33 (by decide))⟩
    · refine ab_if_ne (pc := 16) 21 dX10_next_16 (by decide) (fun c16 => ?_) (fun c16 => absurd c16 (by omega))
      refine ab_aload_n (pc := 21) dX10_next_21 rfl ?_
      refine ab_get (pc := 22) (k := 27) (x := vI (s0 27)) okX10 hW.obj (mg rfl (hW.sv 27 (by decide))) w1082 rfl dX10_next_22 ?_
      refine ab_if_ne (pc := 25) 30 dX10_next_25 (by decide) (fun c25 => ?_) (fun c25 => ?_)
      · refine ab_aload_n (pc := 30) dX10_next_30 rfl ?_
        refine ab_get (pc := 31) (k := 30) (x := vR (A 30)) okX10 hW.obj rfl w1085 rfl dX10_next_31 ?_
        refine ab_iconst (pc := 34) dX10_next_34 (by decide) ?_
        refine ab_iconst (pc := 35) dX10_next_35 (by decide) ?_
        refine ab_iastG (pc := 36) (n := 80) (f := w) (hW.arr 30 rfl ((hc1.Fv 30 (by decide)).trans e30)) (by decide) (by omega) (by omega) dX10_next_36 (fun h e9 n9 => ?_)
        replace hW := hW.wr (k := 30) rfl e9 n9 (by decide)
        clear e9 n9
        refine ab_aload_n (pc := 37) dX10_next_37 rfl ?_
        refine ab_iconst (pc := 38) dX10_next_38 (by decide) ?_
        refine ab_putG (pc := 39) (k := 28) okX10 hW.obj (by decide) (by decide) trivial w1083 rfl (Or.inl rfl) dX10_next_39 (fun h e9 n9 => ?_)
        replace hW := hW.put e9 n9 rfl (by decide)
        clear e9 n9
        refine ab_goto (pc := 42) 54 dX10_next_42 (by decide) ?_
        refine (m_next_54 (kp := kp) hG eL e7 l0 l1 lb hkp e26 a1 a8 e27 n6 e24 c1 c10 _ (ab_f (w) (0) ((-1))) (1) ((lk + c)) (lg) _ _ _ hW (Nat.lt_succ_self _) rfl rfl t23 ((hc1.sv 29 (by decide)).trans e29) t31 (hc1.sv 33 (by decide)) ⟨by omega, by omega, fun j j0 j1 => absurd j1 (by omega), fun _ => by rw [show (1 : Int) - 1 = 0 by omega, ab_f_eq rfl]; omega, by omega, by omega, v6, v7⟩).mono ?_
        rintro o9 h9 ⟨r9, s9, F9, z1, z2, z5, o, w9, d9, lk9, lg9, ⟨k9, z3⟩, z4⟩
        exact ⟨r9, s9, F9, z1, z2, ⟨o, w9, d9, lk9, lg9, Or.inr (Or.inr (Or.inl ⟨by omega, by omega, by omega, k9, z3⟩)), z4⟩, z5⟩
      · refine ab_iconst (pc := 28) dX10_next_28 (by decide) ?_
        refine ab_zret (pc := 29) dX10_next_29 rfl (by omega) ?_
        exact ⟨_, _, _, rfl, hW, ⟨_, _, _, _, _, Or.inr (Or.inl ⟨by omega, g1, by omega, rfl⟩), ((hc1.Fv 30 (by decide)).trans e30), ((hc1.sv 28 (by decide)).trans e28), t23, ((hc1.sv 29 (by decide)).trans e29), ⟨v0, v1, v2, v3, by omega, by omega, v6, v7⟩, Or.inl ⟨rfl, rfl, t31⟩, fun _ => ⟨by omega, fun j j0 j1 => absurd j1 (by omega)⟩⟩, (hc1.sv 33 (by decide))⟩
end M10
