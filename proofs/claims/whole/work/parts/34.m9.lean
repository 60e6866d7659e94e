/-! the reference: powers, runs -/
section M9
variable {l : Launch} {E : AbE} {m : Nat} {A : Nat → Nat} {s0 : Nat → Int} {F0 : Nat → Int → Int} {h0 : AbH}
theorem gcd_step {x y : Int} (hx : 0 ≤ x) (hy : 0 < y) : Nat.gcd y.toNat (x % y).toNat = Nat.gcd x.toNat y.toNat := by
  have e : (x % y).toNat = x.toNat % y.toNat := by
    rw [Int.toNat_emod hx (by omega)]
  rw [e, Nat.gcd_comm x.toNat, Nat.gcd_rec y.toNat x.toNat, Nat.gcd_comm]
theorem m_gcd_4 {a b : Int} {d : Nat} (fu : Nat) : ∀ (x y : Int) (x9 : Option AbV), (y).toNat < fu → (0 ≤ x) → (0 ≤ y) → (Nat.gcd x.toNat y.toNat = Nat.gcd a.toNat b.toNat) → ab_T l E Y_X10_gcd d 0 0 4 [some (vI a), some (vI b), some (vI x), some (vI y), x9] [] h0 (pC h0 (fun v => v = ((Nat.gcd a.toNat b.toNat : Nat) : Int))) := by
  induction fu with
  | zero => intro x y x9 hm; exact absurd hm (Nat.not_lt_zero _)
  | succ fu ih =>
    intro x y x9 hm x0 y0 I
    refine ab_iload_n (pc := 4) dX10_gcd_4 rfl ?_
    refine ab_if_eq (pc := 5) 21 dX10_gcd_5 (by decide) (fun c5 => ?_) (fun c5 => ?_)
    · refine ab_iload_n (pc := 21) dX10_gcd_21 rfl ?_
      refine ab_iret (pc := 22) dX10_gcd_22 rfl ?_
      refine ⟨_, rfl, rfl, ?_⟩
      rw [← I, show y = 0 by omega, show (0 : Int).toNat = 0 from rfl, Nat.gcd_zero_right]
      omega
    · refine ab_iload_n (pc := 8) dX10_gcd_8 rfl ?_
      refine ab_iload_n (pc := 9) dX10_gcd_9 rfl ?_
      have m9 := Int.emod_nonneg x (show y ≠ 0 by omega)
      have m8 := Int.emod_lt_of_pos x (show 0 < y by omega)
      refine ab_irem (pc := 10) dX10_gcd_10 (by omega) ?_
      rw [Int.tmod_eq_emod_of_nonneg (by omega)]
      refine ab_istore (pc := 11) dX10_gcd_11 rfl (Nat.le_of_ble_eq_true rfl) ?_
      refine ab_iload_n (pc := 13) dX10_gcd_13 rfl ?_
      refine ab_istore_n (pc := 14) dX10_gcd_14 rfl (Nat.le_of_ble_eq_true rfl) ?_
      refine ab_iload (pc := 15) dX10_gcd_15 rfl ?_
      refine ab_istore_n (pc := 17) dX10_gcd_17 rfl (Nat.le_of_ble_eq_true rfl) ?_
      refine ab_goto (pc := 18) 4 dX10_gcd_18 (by decide) ?_
      exact ih y (x % y) _ (by omega) (by omega) (by omega) ((gcd_step x0 (by omega)).trans I)
theorem m_gcd (hG : ab_G l E) {a b : Int} (a0 : 0 ≤ a) (b0 : 0 ≤ b) : ab_M l E Y_X10_gcd 5 0 0 0 [vI a, vI b] h0 (pC h0 (fun v => v = ((Nat.gcd a.toNat b.toNat : Nat) : Int))) := by
  refine ab_M.of (L0 := [some (vI a), some (vI b), none, none, none]) hG rfl rfl (Nat.le_of_ble_eq_true rfl) rfl ?_
  refine ab_iload_n (pc := 0) dX10_gcd_0 rfl ?_
  refine ab_istore_n (pc := 1) dX10_gcd_1 rfl (Nat.le_of_ble_eq_true rfl) ?_
  refine ab_iload_n (pc := 2) dX10_gcd_2 rfl ?_
  refine ab_istore_n (pc := 3) dX10_gcd_3 rfl (Nat.le_of_ble_eq_true rfl) ?_
  exact m_gcd_4 _ a b _ (Nat.lt_succ_self _) a0 b0 rfl
def runsIn (L : List (Int × Int × Int)) (c : Int) (F : Nat → Int → Int) : Prop := c = L.length ∧ ∀ t : Nat, t < L.length → L[t]? = some (F 16 t, F 17 t, F 18 t)
theorem runsIn.more {L : List (Int × Int × Int)} {c : Int} {F F' : Nat → Int → Int} {a b p : Int} (h : runsIn L c F) (e1 : F' 16 = ab_f (F 16) c a) (e2 : F' 17 = ab_f (F 17) c b) (e3 : F' 18 = ab_f (F 18) c p) : runsIn (L ++ [(a, b, p)]) (c + 1) F' := by
  obtain ⟨h1, h2⟩ := h
  refine ⟨by rw [List.length_append, h1]; rfl, fun t ht => ?_⟩
  rw [List.length_append] at ht
  have ht9 : t < L.length + 1 := ht
  rw [e1, e2, e3]
  by_cases e : t < L.length
  · rw [List.getElem?_append_left e, h2 t e, ab_f_ne (by omega), ab_f_ne (by omega), ab_f_ne (by omega)]
  · rw [List.getElem?_append_right (by omega), show t - L.length = 0 by omega, ab_f_eq (by omega), ab_f_eq (by omega), ab_f_eq (by omega)]
    rfl
theorem pe_isP {f : Int → Int} {i n p : Int} (h : i + p ≤ n) : isP f i (pe f i n p) p := by
  have k := peN_ok (f := f) (p := p) (n := n) (n - (i + p)).toNat (i + p) (Nat.le_refl _) (by omega)
  intro a a0 a1
  have := k.2.2.1 (a + p) (by omega) a1
  rw [show a + p - p = a by omega] at this
  exact this.symm
theorem pe_bd {f : Int → Int} {i n p : Int} (h : i + p ≤ n) : i + p ≤ pe f i n p ∧ pe f i n p ≤ n := by
  have k := peN_ok (f := f) (p := p) (n := n) (n - (i + p)).toNat (i + p) (Nat.le_refl _) (by omega)
  exact ⟨k.1, k.2.1⟩
theorem m_findRuns_33 {h : AbH} {s : Nat → Int} {F : Nat → Int → Int} (hW : mW h0 m A s0 F0 [19] [16, 17, 18] h s F) (n0 : 0 ≤ s0 6) (n6 : s0 6 ≤ 60) {i p : Int} {x9 : Option AbV} (i0 : 0 ≤ i) (p0 : 1 ≤ p) (ip : i + 2 * p ≤ s0 6) (hC : ab_T l E Y_X10_findRuns 3 0 0 64 [some (vR m), some (vI i), some (vI p), some (vI (pe (F0 5) i (s0 6) p)), x9] [] h (mC h0 m A s0 F0 [19] [16, 17, 18] (fun r s' F' => r = none ∧ runsIn (Lfull (F0 5) (s0 6)) (s' 19) F'))) (fu : Nat) : ∀ (j : Int), (s0 6 - j).toNat < fu → (i + p ≤ j) → (j ≤ s0 6) → (∀ t : Int, i + p ≤ t → t < j → F0 5 t = F0 5 (t - p)) → ab_T l E Y_X10_findRuns 3 0 0 33 [some (vR m), some (vI i), some (vI p), some (vI j), x9] [] h (mC h0 m A s0 F0 [19] [16, 17, 18] (fun r s' F' => r = none ∧ runsIn (Lfull (F0 5) (s0 6)) (s' 19) F')) := by
  induction fu with
  | zero => intro j hm; exact absurd hm (Nat.not_lt_zero _)
  | succ fu ih =>
    intro j hm j0 j1 I
    refine ab_iload_n (pc := 33) dX10_findRuns_33 rfl ?_
    refine ab_aload_n (pc := 34) dX10_findRuns_34 rfl ?_
    refine ab_get (pc := 35) (k := 6) (x := vI (s0 6)) okX10 hW.obj (mg rfl (hW.sv 6 (by decide))) w1061 rfl dX10_findRuns_35 ?_
    refine ab_icmp_ge (pc := 38) 64 dX10_findRuns_38 (by decide) (fun c38 => ?_) (fun c38 => ?_)
    · have e9 : j = pe (F0 5) i (s0 6) p := pe_uniq j0 j1 I (by omega)
      rw [e9]
      exact hC
    · refine ab_aload_n (pc := 41) dX10_findRuns_41 rfl ?_
      refine ab_get (pc := 42) (k := 5) (x := vR (A 5)) okX10 hW.obj rfl w1060 rfl dX10_findRuns_42 ?_
      refine ab_iload_n (pc := 45) dX10_findRuns_45 rfl ?_
      refine ab_iald (pc := 46) (n := 80) (f := F0 5) (hW.arr 5 rfl (hW.Fv 5 (by decide))) (by omega) (by omega) dX10_findRuns_46 ?_
      refine ab_aload_n (pc := 47) dX10_findRuns_47 rfl ?_
      refine ab_get (pc := 48) (k := 5) (x := vR (A 5)) okX10 hW.obj rfl w1060 rfl dX10_findRuns_48 ?_
      refine ab_iload_n (pc := 51) dX10_findRuns_51 rfl ?_
      refine ab_iload_n (pc := 52) dX10_findRuns_52 rfl ?_
      refine ab_isub (pc := 53) dX10_findRuns_53 (by omega) (by omega) ?_
      refine ab_iald (pc := 54) (n := 80) (f := F0 5) (hW.arr 5 rfl (hW.Fv 5 (by decide))) (by omega) (by omega) dX10_findRuns_54 ?_
      refine ab_icmp_ne (pc := 55) 64 dX10_findRuns_55 (by decide) (fun c55 => ?_) (fun c55 => ?_)
      · have e9 : j = pe (F0 5) i (s0 6) p := pe_uniq j0 j1 I (by omega)
        rw [e9]
        exact hC
      · refine ab_iinc (pc := 58) dX10_findRuns_58 rfl rfl (by decide) (by omega) (by omega) ?_
        refine ab_goto (pc := 61) 33 dX10_findRuns_61 (by decide) ?_
        refine ih (j + 1) (by omega) (by omega) (by omega) (fun t t0 t1 => ?_)
        by_cases e : t = j
        · rw [e]; omega
        · exact I t t0 (by omega)
theorem m_findRuns_17 (hG : ab_G l E) (n0 : 0 ≤ s0 6) (n6 : s0 6 ≤ 60) {i : Int} (i0 : 0 ≤ i) (i1 : i < s0 6) (hC : ∀ (p : Int) (x8 x9 : Option AbV) (h : AbH) (s : Nat → Int) (F : Nat → Int → Int), mW h0 m A s0 F0 [19] [16, 17, 18] h s F → runsIn (Lat (F0 5) (s0 6) (i + 1) 1) (s 19) F → ab_T l E Y_X10_findRuns 3 0 0 172 [some (vR m), some (vI i), some (vI p), x8, x9] [] h (mC h0 m A s0 F0 [19] [16, 17, 18] (fun r s' F' => r = none ∧ runsIn (Lfull (F0 5) (s0 6)) (s' 19) F'))) (fu : Nat) : ∀ (p : Int) (x8 x9 : Option AbV) (h : AbH) (s : Nat → Int) (F : Nat → Int → Int), mW h0 m A s0 F0 [19] [16, 17, 18] h s F → (s0 6 - p).toNat < fu → (1 ≤ p) → (i + 2 * (p - 1) ≤ s0 6) → (runsIn (Lat (F0 5) (s0 6) i p) (s 19) F) → ab_T l E Y_X10_findRuns 3 0 0 17 [some (vR m), some (vI i), some (vI p), x8, x9] [] h (mC h0 m A s0 F0 [19] [16, 17, 18] (fun r s' F' => r = none ∧ runsIn (Lfull (F0 5) (s0 6)) (s' 19) F')) := by
  induction fu with
  | zero => intro p x8 x9 h s F hW hm; exact absurd hm (Nat.not_lt_zero _)
  | succ fu ih =>
    intro p x8 x9 h s F hW hm p0 ip I
    have l9 := Lat_len (f := F0 5) (n := s0 6) (i := i) (p := p) n6 (by omega) (by omega)
    have l8 := I.1
    refine ab_iload_n (pc := 17) dX10_findRuns_17 rfl ?_
    refine ab_iconst (pc := 18) dX10_findRuns_18 (by decide) ?_
    refine ab_iload_n (pc := 19) dX10_findRuns_19 rfl ?_
    refine ab_imul (pc := 20) dX10_findRuns_20 (by omega) (by omega) ?_
    refine ab_iadd (pc := 21) dX10_findRuns_21 (by omega) (by omega) ?_
    refine ab_aload_n (pc := 22) dX10_findRuns_22 rfl ?_
    refine ab_get (pc := 23) (k := 6) (x := vI (s0 6)) okX10 hW.obj (mg rfl (hW.sv 6 (by decide))) w1061 rfl dX10_findRuns_23 ?_
    refine ab_icmp_gt (pc := 26) 172 dX10_findRuns_26 (by decide) (fun c26 => ?_) (fun c26 => ?_)
    · exact hC _ _ _ _ _ _ hW (by rw [← Lat_next (p := p) i0 p0 ip (by omega)]; exact I)
    · refine ab_iload_n (pc := 29) dX10_findRuns_29 rfl ?_
      refine ab_iload_n (pc := 30) dX10_findRuns_30 rfl ?_
      refine ab_iadd (pc := 31) dX10_findRuns_31 (by omega) (by omega) ?_
      refine ab_istore_n (pc := 32) dX10_findRuns_32 rfl (Nat.le_of_ble_eq_true rfl) ?_
      refine m_findRuns_33 hW n0 n6 i0 p0 (by omega) ?_ _ (i + p) (Nat.lt_succ_self _) (by omega) (by omega) (fun t t0 t1 => absurd t1 (by omega))
      have pb := pe_bd (f := F0 5) (i := i) (n := s0 6) (p := p) (by omega)
      refine ab_via (S := []) 116 (fun v : Int => (v = 1 ∧ isRun (F0 5) (s0 6) i p) ∨ (v = 0 ∧ ¬ isRun (F0 5) (s0 6) i p)) (fun v hv => ?_) (fun J116 => ?_)
      · refine ab_istore (pc := 116) dX10_findRuns_116 rfl (Nat.le_of_ble_eq_true rfl) ?_
        refine ab_iload (pc := 118) dX10_findRuns_118 rfl ?_
        refine ab_if_ne (pc := 120) 126 dX10_findRuns_120 (by decide) (fun c120 => ?_) (fun c120 => ?_)
        · refine ab_aload_n (pc := 126) dX10_findRuns_126 rfl ?_
          refine ab_get (pc := 127) (k := 16) (x := vR (A 16)) okX10 hW.obj rfl w1071 rfl dX10_findRuns_127 ?_
          refine ab_aload_n (pc := 130) dX10_findRuns_130 rfl ?_
          refine ab_get (pc := 131) (k := 19) (x := vI (s 19)) okX10 hW.obj (mg rfl rfl) w1074 rfl dX10_findRuns_131 ?_
          refine ab_iload_n (pc := 134) dX10_findRuns_134 rfl ?_
          refine ab_iastG (pc := 135) (n := 2000) (f := F 16) (hW.arr 16 rfl rfl) (by decide) (by omega) (by omega) dX10_findRuns_135 (fun h e9 n9 => ?_)
          replace hW := hW.wr (k := 16) rfl e9 n9 (by decide)
          clear e9 n9
          refine ab_aload_n (pc := 136) dX10_findRuns_136 rfl ?_
          refine ab_get (pc := 137) (k := 17) (x := vR (A 17)) okX10 hW.obj rfl w1072 rfl dX10_findRuns_137 ?_
          refine ab_aload_n (pc := 140) dX10_findRuns_140 rfl ?_
          refine ab_get (pc := 141) (k := 19) (x := vI (s 19)) okX10 hW.obj (mg rfl rfl) w1074 rfl dX10_findRuns_141 ?_
          refine ab_iload_n (pc := 144) dX10_findRuns_144 rfl ?_
          refine ab_iastG (pc := 145) (n := 2000) (f := F 17) (hW.arr 17 rfl rfl) (by decide) (by omega) (by omega) dX10_findRuns_145 (fun h e9 n9 => ?_)
          replace hW := hW.wr (k := 17) rfl e9 n9 (by decide)
          clear e9 n9
          refine ab_aload_n (pc := 146) dX10_findRuns_146 rfl ?_
          refine ab_get (pc := 147) (k := 18) (x := vR (A 18)) okX10 hW.obj rfl w1073 rfl dX10_findRuns_147 ?_
          refine ab_aload_n (pc := 150) dX10_findRuns_150 rfl ?_
          refine ab_get (pc := 151) (k := 19) (x := vI (s 19)) okX10 hW.obj (mg rfl rfl) w1074 rfl dX10_findRuns_151 ?_
          refine ab_iload_n (pc := 154) dX10_findRuns_154 rfl ?_
          refine ab_iastG (pc := 155) (n := 2000) (f := F 18) (hW.arr 18 rfl rfl) (by decide) (by omega) (by omega) dX10_findRuns_155 (fun h e9 n9 => ?_)
          replace hW := hW.wr (k := 18) rfl e9 n9 (by decide)
          clear e9 n9
          refine ab_aload_n (pc := 156) dX10_findRuns_156 rfl ?_
          refine ab_dup (pc := 157) dX10_findRuns_157 rfl ?_
          refine ab_get (pc := 158) (k := 19) (x := vI (s 19)) okX10 hW.obj (mg rfl rfl) w1074 rfl dX10_findRuns_158 ?_
          refine ab_iconst (pc := 161) dX10_findRuns_161 (by decide) ?_
          refine ab_iadd (pc := 162) dX10_findRuns_162 (by omega) (by omega) ?_
          refine ab_putG (pc := 163) (k := 19) okX10 hW.obj (by decide) (by decide) trivial w1074 rfl (Or.inl rfl) dX10_findRuns_163 (fun h e9 n9 => ?_)
          replace hW := hW.put e9 n9 rfl (by decide)
          clear e9 n9
          refine ab_iinc (pc := 166) dX10_findRuns_166 rfl rfl (by decide) (by omega) (by omega) ?_
          refine ab_goto (pc := 169) 17 dX10_findRuns_169 (by decide) ?_
          refine ih (p + 1) _ _ _ _ _ hW (by omega) (by omega) (by omega) ?_
          rw [Lat_step p0]
          rcases hv with ⟨e9, g⟩ | ⟨e9, g⟩
          · first
            | (exact absurd e9 (by omega))
            | (rw [rr_yes g]; exact I.more rfl rfl rfl)
          · first
            | (exact absurd e9 (by omega))
            | (rw [rr_no g, List.append_nil]; exact I)
        · refine ab_goto (pc := 123) 166 dX10_findRuns_123 (by decide) ?_
          refine ab_iinc (pc := 166) dX10_findRuns_166 rfl rfl (by decide) (by omega) (by omega) ?_
          refine ab_goto (pc := 169) 17 dX10_findRuns_169 (by decide) ?_
          refine ih (p + 1) _ _ _ _ _ hW (by omega) (by omega) (by omega) ?_
          rw [Lat_step p0]
          rcases hv with ⟨e9, g⟩ | ⟨e9, g⟩
          · first
            | (exact absurd e9 (by omega))
            | (rw [rr_yes g]; exact I.more rfl rfl rfl)
          · first
            | (exact absurd e9 (by omega))
            | (rw [rr_no g, List.append_nil]; exact I)
      · refine ab_iload_n (pc := 64) dX10_findRuns_64 rfl ?_
        refine ab_iload_n (pc := 65) dX10_findRuns_65 rfl ?_
        refine ab_isub (pc := 66) dX10_findRuns_66 (by omega) (by omega) ?_
        refine ab_iconst (pc := 67) dX10_findRuns_67 (by decide) ?_
        refine ab_iload_n (pc := 68) dX10_findRuns_68 rfl ?_
        refine ab_imul (pc := 69) dX10_findRuns_69 (by omega) (by omega) ?_
        refine ab_icmp_lt (pc := 70) 115 dX10_findRuns_70 (by decide) (fun c70 => ?_) (fun c70 => ?_)
        · refine ab_iconst (pc := 115) dX10_findRuns_115 (by decide) ?_
          refine J116 (0) ?_
          first
          | (exact Or.inl ⟨rfl, by omega, by omega, fun q q0 q1 => p4 q q0 (by omega)⟩)
          | (exact Or.inr ⟨rfl, fun g => absurd g.1 (by omega)⟩)
          | (exact Or.inr ⟨rfl, fun g => absurd g.2.1 (by omega)⟩)
          | (refine Or.inr ⟨rfl, fun g => ?_⟩; have g1 : ¬ p < pv := fun g2 => p4 p p0 g2 (pe_isP (by omega)); exact g.2.2 pv p1 (by omega) p3)
        · refine ab_iload_n (pc := 73) dX10_findRuns_73 rfl ?_
          refine ab_if_eq (pc := 74) 98 dX10_findRuns_74 (by decide) (fun c74 => ?_) (fun c74 => ?_)
          · refine ab_aload_n (pc := 98) dX10_findRuns_98 rfl ?_
            refine ab_get (pc := 99) (k := 5) (x := vR (A 5)) okX10 hW.obj rfl w1060 rfl dX10_findRuns_99 ?_
            refine ab_iload_n (pc := 102) dX10_findRuns_102 rfl ?_
            refine ab_iload_n (pc := 103) dX10_findRuns_103 rfl ?_
            refine ab_callS (pc := 104) (m_period hG (hW.arr 5 rfl (hW.Fv 5 (by decide))) (by decide) i0 (by show _ ≤ (80 : Int); omega) (by omega)) ⟨w1253, w5, w1255, by decide, pd53⟩ w1254 rfl (by decide) (by decide) (Nat.le_of_ble_eq_true rfl) rfl dX10_findRuns_104 (fun _ _ hx => absurd hx pC_no) ?_
            rintro _ _ ⟨pv, e9, rfl, ⟨p1, p2, p3, p4⟩⟩
            cases e9
            refine ab_iload_n (pc := 107) dX10_findRuns_107 rfl ?_
            refine ab_icmp_ne (pc := 108) 115 dX10_findRuns_108 (by decide) (fun c108 => ?_) (fun c108 => ?_)
            · refine ab_iconst (pc := 115) dX10_findRuns_115 (by decide) ?_
              refine J116 (0) ?_
              first
              | (exact Or.inl ⟨rfl, by omega, by omega, fun q q0 q1 => p4 q q0 (by omega)⟩)
              | (exact Or.inr ⟨rfl, fun g => absurd g.1 (by omega)⟩)
              | (exact Or.inr ⟨rfl, fun g => absurd g.2.1 (by omega)⟩)
              | (refine Or.inr ⟨rfl, fun g => ?_⟩; have g1 : ¬ p < pv := fun g2 => p4 p p0 g2 (pe_isP (by omega)); exact g.2.2 pv p1 (by omega) p3)
            · refine ab_iconst (pc := 111) dX10_findRuns_111 (by decide) ?_
              refine ab_goto (pc := 112) 116 dX10_findRuns_112 (by decide) ?_
              refine J116 (1) ?_
              first
              | (exact Or.inl ⟨rfl, by omega, by omega, fun q q0 q1 => p4 q q0 (by omega)⟩)
              | (exact Or.inr ⟨rfl, fun g => absurd g.1 (by omega)⟩)
              | (exact Or.inr ⟨rfl, fun g => absurd g.2.1 (by omega)⟩)
              | (refine Or.inr ⟨rfl, fun g => ?_⟩; have g1 : ¬ p < pv := fun g2 => p4 p p0 g2 (pe_isP (by omega)); exact g.2.2 pv p1 (by omega) p3)
          · refine ab_aload_n (pc := 77) dX10_findRuns_77 rfl ?_
            refine ab_get (pc := 78) (k := 5) (x := vR (A 5)) okX10 hW.obj rfl w1060 rfl dX10_findRuns_78 ?_
            refine ab_iload_n (pc := 81) dX10_findRuns_81 rfl ?_
            refine ab_iconst (pc := 82) dX10_findRuns_82 (by decide) ?_
            refine ab_isub (pc := 83) dX10_findRuns_83 (by omega) (by omega) ?_
            refine ab_iald (pc := 84) (n := 80) (f := F0 5) (hW.arr 5 rfl (hW.Fv 5 (by decide))) (by omega) (by omega) dX10_findRuns_84 ?_
            refine ab_aload_n (pc := 85) dX10_findRuns_85 rfl ?_
            refine ab_get (pc := 86) (k := 5) (x := vR (A 5)) okX10 hW.obj rfl w1060 rfl dX10_findRuns_86 ?_
            refine ab_iload_n (pc := 89) dX10_findRuns_89 rfl ?_
            refine ab_iconst (pc := 90) dX10_findRuns_90 (by decide) ?_
            refine ab_isub (pc := 91) dX10_findRuns_91 (by omega) (by omega) ?_
            refine ab_iload_n (pc := 92) dX10_findRuns_92 rfl ?_
            refine ab_iadd (pc := 93) dX10_findRuns_93 (by omega) (by omega) ?_
            refine ab_iald (pc := 94) (n := 80) (f := F0 5) (hW.arr 5 rfl (hW.Fv 5 (by decide))) (by omega) (by omega) dX10_findRuns_94 ?_
            refine ab_icmp_eq (pc := 95) 115 dX10_findRuns_95 (by decide) (fun c95 => ?_) (fun c95 => ?_)
            · refine ab_iconst (pc := 115) dX10_findRuns_115 (by decide) ?_
              refine J116 (0) ?_
              first
              | (exact Or.inl ⟨rfl, by omega, by omega, fun q q0 q1 => p4 q q0 (by omega)⟩)
              | (exact Or.inr ⟨rfl, fun g => absurd g.1 (by omega)⟩)
              | (exact Or.inr ⟨rfl, fun g => absurd g.2.1 (by omega)⟩)
              | (refine Or.inr ⟨rfl, fun g => ?_⟩; have g1 : ¬ p < pv := fun g2 => p4 p p0 g2 (pe_isP (by omega)); exact g.2.2 pv p1 (by omega) p3)
            · refine ab_aload_n (pc := 98) dX10_findRuns_98 rfl ?_
              refine ab_get (pc := 99) (k := 5) (x := vR (A 5)) okX10 hW.obj rfl w1060 rfl dX10_findRuns_99 ?_
              refine ab_iload_n (pc := 102) dX10_findRuns_102 rfl ?_
              refine ab_iload_n (pc := 103) dX10_findRuns_103 rfl ?_
              refine ab_callS (pc := 104) (m_period hG (hW.arr 5 rfl (hW.Fv 5 (by decide))) (by decide) i0 (by show _ ≤ (80 : Int); omega) (by omega)) ⟨w1253, w5, w1255, by decide, pd53⟩ w1254 rfl (by decide) (by decide) (Nat.le_of_ble_eq_true rfl) rfl dX10_findRuns_104 (fun _ _ hx => absurd hx pC_no) ?_
              rintro _ _ ⟨pv, e9, rfl, ⟨p1, p2, p3, p4⟩⟩
              cases e9
              refine ab_iload_n (pc := 107) dX10_findRuns_107 rfl ?_
              refine ab_icmp_ne (pc := 108) 115 dX10_findRuns_108 (by decide) (fun c108 => ?_) (fun c108 => ?_)
              · refine ab_iconst (pc := 115) dX10_findRuns_115 (by decide) ?_
                refine J116 (0) ?_
                first
                | (exact Or.inl ⟨rfl, by omega, by omega, fun q q0 q1 => p4 q q0 (by omega)⟩)
                | (exact Or.inr ⟨rfl, fun g => absurd g.1 (by omega)⟩)
                | (exact Or.inr ⟨rfl, fun g => absurd g.2.1 (by omega)⟩)
                | (refine Or.inr ⟨rfl, fun g => ?_⟩; have g1 : ¬ p < pv := fun g2 => p4 p p0 g2 (pe_isP (by omega)); exact g.2.2 pv p1 (by omega) p3)
              · refine ab_iconst (pc := 111) dX10_findRuns_111 (by decide) ?_
                refine ab_goto (pc := 112) 116 dX10_findRuns_112 (by decide) ?_
                refine J116 (1) ?_
                first
                | (exact Or.inl ⟨rfl, by omega, by omega, fun q q0 q1 => p4 q q0 (by omega)⟩)
                | (exact Or.inr ⟨rfl, fun g => absurd g.1 (by omega)⟩)
                | (exact Or.inr ⟨rfl, fun g => absurd g.2.1 (by omega)⟩)
                | (refine Or.inr ⟨rfl, fun g => ?_⟩; have g1 : ¬ p < pv := fun g2 => p4 p p0 g2 (pe_isP (by omega)); exact g.2.2 pv p1 (by omega) p3)
theorem m_findRuns_7 (hG : ab_G l E) (n0 : 0 ≤ s0 6) (n6 : s0 6 ≤ 60) (fu : Nat) : ∀ (i : Int) (x7 x8 x9 : Option AbV) (h : AbH) (s : Nat → Int) (F : Nat → Int → Int), mW h0 m A s0 F0 [19] [16, 17, 18] h s F → (s0 6 - i).toNat < fu → (0 ≤ i) → (i ≤ s0 6) → (runsIn (Lat (F0 5) (s0 6) i 1) (s 19) F) → ab_T l E Y_X10_findRuns 3 0 0 7 [some (vR m), some (vI i), x7, x8, x9] [] h (mC h0 m A s0 F0 [19] [16, 17, 18] (fun r s' F' => r = none ∧ runsIn (Lfull (F0 5) (s0 6)) (s' 19) F')) := by
  induction fu with
  | zero => intro i x7 x8 x9 h s F hW hm; exact absurd hm (Nat.not_lt_zero _)
  | succ fu ih =>
    intro i x7 x8 x9 h s F hW hm i0 i1 I
    refine ab_iload_n (pc := 7) dX10_findRuns_7 rfl ?_
    refine ab_aload_n (pc := 8) dX10_findRuns_8 rfl ?_
    refine ab_get (pc := 9) (k := 6) (x := vI (s0 6)) okX10 hW.obj (mg rfl (hW.sv 6 (by decide))) w1061 rfl dX10_findRuns_9 ?_
    refine ab_icmp_ge (pc := 12) 178 dX10_findRuns_12 (by decide) (fun c12 => ?_) (fun c12 => ?_)
    · refine ab_vret (pc := 178) dX10_findRuns_178 rfl ?_
      refine ⟨_, _, _, rfl, hW, rfl, ?_⟩
      rw [← Lat_end, ← show i = s0 6 by omega]
      rw [← show i = s0 6 by omega] at I
      exact I
    · refine ab_iconst (pc := 15) dX10_findRuns_15 (by decide) ?_
      refine ab_istore_n (pc := 16) dX10_findRuns_16 rfl (Nat.le_of_ble_eq_true rfl) ?_
      refine m_findRuns_17 hG n0 n6 i0 (by omega) (fun p x8 x9 h s F hW I => ?_) _ 1 _ _ _ _ _ hW (Nat.lt_succ_self _) (by omega) (by omega) I
      refine ab_iinc (pc := 172) dX10_findRuns_172 rfl rfl (by decide) (by omega) (by omega) ?_
      refine ab_goto (pc := 175) 7 dX10_findRuns_175 (by decide) ?_
      exact ih (i + 1) _ _ _ _ _ _ hW (by omega) (by omega) (by omega) I
theorem m_findRuns (hG : ab_G l E) (hM : mR h0 m A s0 F0) (n0 : 0 ≤ s0 6) (n6 : s0 6 ≤ 60) : ab_M l E Y_X10_findRuns 5 3 0 0 [vR m] h0 (mC h0 m A s0 F0 [19] [16, 17, 18] (fun r s' F' => r = none ∧ runsIn (Lfull (F0 5) (s0 6)) (s' 19) F')) := by
  refine ab_M.of (L0 := [some (vR m), none, none, none, none]) hG rfl rfl (Nat.le_of_ble_eq_true rfl) rfl ?_
  have hW : mW h0 m A s0 F0 [19] [16, 17, 18] h0 s0 F0 := mW.start hM
  refine ab_aload_n (pc := 0) dX10_findRuns_0 rfl ?_
  refine ab_iconst (pc := 1) dX10_findRuns_1 (by decide) ?_
  refine ab_putG (pc := 2) (k := 19) okX10 hW.obj (by decide) (by decide) trivial w1074 rfl (Or.inl rfl) dX10_findRuns_2 (fun h e9 n9 => ?_)
  replace hW := hW.put e9 n9 rfl (by decide)
  clear e9 n9
  refine ab_iconst (pc := 5) dX10_findRuns_5 (by decide) ?_
  refine ab_istore_n (pc := 6) dX10_findRuns_6 rfl (Nat.le_of_ble_eq_true rfl) ?_
  exact m_findRuns_7 hG n0 n6 _ 0 _ _ _ _ _ _ hW (Nat.lt_succ_self _) (by omega) n0 ⟨rfl, fun t ht => absurd ht (Nat.not_lt_zero _)⟩
def lp (f : Int → Int) (a b p : Int) : Prop := 1 ≤ p ∧ p ≤ b - a ∧ isP f a b p ∧ ∀ q : Int, 1 ≤ q → q < p → ¬ isP f a b q
theorem lp_congr {f g : Int → Int} {a b p : Int} (h : ∀ j : Int, a ≤ j → j < b → f j = g j) (k : lp f a b p) : lp g a b p := ⟨k.1, k.2.1, isP_congr h (by have := k.1; omega) k.2.2.1, fun q q0 q1 q2 => k.2.2.2 q q0 q1 (isP_congr (fun j j0 j1 => (h j j0 j1).symm) (by omega) q2)⟩
theorem lp_uniq {f : Int → Int} {a b p q : Int} (h : lp f a b p) (k : lp f a b q) : p = q := by
  rcases Int.lt_trichotomy p q with g | g | g
  · exact absurd h.2.2.1 (k.2.2.2 p h.1 g)
  · exact g
  · exact absurd k.2.2.1 (h.2.2.2 q k.1 g)
abbrev gcdI (a b : Int) : Int := ((Nat.gcd a.toNat b.toNat : Nat) : Int)
def powSp (s : Nat → Int) (F : Nat → Int → Int) (x k w c r : Int) : Prop := (¬ isRow s x k ∧ c = 1 ∧ r = 0) ∨ (isRow s x k ∧ ¬ (0 ≤ w ∧ w ≤ 3) ∧ c = 2 ∧ r = 0) ∨ (isRow s x k ∧ 0 ≤ w ∧ w ≤ 3 ∧ c = 0 ∧ ((isRd F x k (-1) ∧ r = -1) ∨ (isRd F x k 0 ∧ r = 0) ∨ ∃ n p : Int, 1 ≤ n ∧ isRd F x k n ∧ lp (rdL F x k) 0 n p ∧ ((w = 0 ∧ r = p) ∨ (w = 1 ∧ r = n / gcdI n p) ∨ (w = 2 ∧ r = p / gcdI n p) ∨ (w = 3 ∧ r = (Lfull (rdL F x k) n).length))))
def runSp (s : Nat → Int) (F : Nat → Int → Int) (x k q w c r : Int) : Prop := (¬ isRow s x k ∧ c = 1 ∧ r = 0) ∨ (isRow s x k ∧ ¬ (0 ≤ w ∧ w ≤ 2) ∧ c = 2 ∧ r = 0) ∨ (isRow s x k ∧ 0 ≤ w ∧ w ≤ 2 ∧ c = 0 ∧ ((isRd F x k (-1) ∧ r = -1) ∨ ∃ n : Int, 0 ≤ n ∧ isRd F x k n ∧ ((¬ (0 ≤ q ∧ q < (Lfull (rdL F x k) n).length) ∧ r = -1) ∨ ∃ a b p : Int, 0 ≤ q ∧ (Lfull (rdL F x k) n)[q.toNat]? = some (a, b, p) ∧ ((w = 0 ∧ r = a) ∨ (w = 1 ∧ r = b) ∨ (w = 2 ∧ r = p)))))
theorem m_power (hG : ab_G l E) (hM : mR h0 m A s0 F0) {x k w : Int} (n1 : s0 1 ≤ 16) (b3 : ∀ j, 0 ≤ j → j < 160 → -1 ≤ F0 3 j ∧ F0 3 j ≤ 80) : ab_M l E Y_X10_power 6 5 0 0 [vR m, vI x, vI k, vI w] h0 (mC h0 m A s0 F0 [0, 6, 19] [5, 16, 17, 18] (fun r s' F' => ∃ c r9 : Int, r = some (vI r9) ∧ s' 0 = c ∧ powSp s0 F0 x k w c r9)) := by
  refine ab_M.of (L0 := [some (vR m), some (vI x), some (vI k), some (vI w), none, none]) hG rfl rfl (Nat.le_of_ble_eq_true rfl) rfl ?_
  have hW : mW h0 m A s0 F0 [0, 6, 19] [5, 16, 17, 18] h0 s0 F0 := mW.start hM
  refine ab_aload_n (pc := 0) dX10_power_0 rfl ?_
  refine ab_iconst (pc := 1) dX10_power_1 (by decide) ?_
  refine ab_putG (pc := 2) (k := 0) okX10 hW.obj (by decide) (by decide) trivial w1055 rfl (Or.inl rfl) dX10_power_2 (fun h e9 n9 => ?_)
  replace hW := hW.put e9 n9 rfl (by decide)
  clear e9 n9
  refine ab_aload_n (pc := 5) dX10_power_5 rfl ?_
  refine ab_iload_n (pc := 6) dX10_power_6 rfl ?_
  refine ab_iload_n (pc := 7) dX10_power_7 rfl ?_
  refine ab_iconst (pc := 8) dX10_power_8 (by decide) ?_
  refine ab_callV (pc := 9) (m_isRow (n := s0 1) hG hW.1 rfl (by decide) (hW.sv 1 (by decide))) hW.obj rfl ⟨w1213, w5, w1216, by decide, pd51⟩ w1215 sp26 rfl (by decide) (by decide) (Nat.le_of_ble_eq_true rfl) rfl dX10_power_9 (fun _ _ hx => absurd hx mC_no) ?_
  rintro _ h ⟨_, s1, F1, e9, hc1, hp1⟩
  cases e9
  replace hW := hW.call hc1 (by decide) (by decide)
  rcases hp1 with ⟨a1, a2, a3, a4, rfl, t1⟩ | ⟨a1, rfl, t1⟩
  · refine ab_if_eq (pc := 12) 37 dX10_power_12 (by decide) (fun c12 => absurd c12 (by omega)) (fun c12 => ?_)
    refine ab_aload_n (pc := 15) dX10_power_15 rfl ?_
    refine ab_via (S := [vR m]) 30 (fun v : Int => (v = 1 ∧ 0 ≤ w ∧ w ≤ 3) ∨ (v = 0 ∧ ¬ (0 ≤ w ∧ w ≤ 3))) (fun v hv => ?_) (fun J30 => ?_)
    · refine ab_iconst (pc := 30) dX10_power_30 (by decide) ?_
      refine ab_callV (pc := 31) (m_may hG hW.1 (by omega) t1 (by omega)) hW.obj rfl ⟨w1205, w5, w1208, by decide, pd74⟩ w1207 sp25 rfl (by decide) (by decide) (Nat.le_of_ble_eq_true rfl) rfl dX10_power_31 (fun _ _ hx => absurd hx mC_no) ?_
      rintro _ h ⟨_, s2, F2, e9, hc2, hp2⟩
      cases e9
      replace hW := hW.call hc2 (by decide) (by decide)
      rcases hp2 with ⟨g2, rfl, t2⟩ | ⟨g2, rfl, t2⟩
      · refine ab_if_ne (pc := 34) 39 dX10_power_34 (by decide) (fun c34 => ?_) (fun c34 => absurd c34 (by omega))
        refine ab_aload_n (pc := 39) dX10_power_39 rfl ?_
        refine ab_iload_n (pc := 40) dX10_power_40 rfl ?_
        refine ab_iload_n (pc := 41) dX10_power_41 rfl ?_
        refine ab_callV (pc := 42) (m_readsG (G := F0) hG hW.1 (hW.Fv 3 (by decide)) (hW.Fv 4 (by decide)) (by omega) (by omega) (by omega) (by omega) b3) hW.obj rfl ⟨w1233, w5, w1236, by decide, pd73⟩ w1235 sp28 rfl (by decide) (by decide) (Nat.le_of_ble_eq_true rfl) rfl dX10_power_42 (fun _ _ hx => absurd hx mC_no) ?_
        rintro _ h ⟨_, s3, F3, e9, hc3, hp3⟩
        cases e9
        replace hW := hW.call hc3 (by decide) (by decide)
        rcases hp3 with ⟨rfl, d1, d2, d3, d4, d5⟩ | ⟨rfl, d1, d2⟩
        · refine ab_if_ne (pc := 45) 50 dX10_power_45 (by decide) (fun c45 => ?_) (fun c45 => absurd c45 (by omega))
          refine ab_aload_n (pc := 50) dX10_power_50 rfl ?_
          refine ab_get (pc := 51) (k := 6) (x := vI (s3 6)) okX10 hW.obj (mg rfl rfl) w1061 rfl dX10_power_51 ?_
          refine ab_if_ne (pc := 54) 59 dX10_power_54 (by decide) (fun c54 => ?_) (fun c54 => ?_)
          · refine ab_aload_n (pc := 59) dX10_power_59 rfl ?_
            refine ab_get (pc := 60) (k := 5) (x := vR (A 5)) okX10 hW.obj rfl w1060 rfl dX10_power_60 ?_
            refine ab_iconst (pc := 63) dX10_power_63 (by decide) ?_
            refine ab_aload_n (pc := 64) dX10_power_64 rfl ?_
            refine ab_get (pc := 65) (k := 6) (x := vI (s3 6)) okX10 hW.obj (mg rfl rfl) w1061 rfl dX10_power_65 ?_
            refine ab_callS (pc := 68) (m_period hG (hW.arr 5 rfl rfl) (by decide) (by omega) (by show _ ≤ (80 : Int); omega) (by omega)) ⟨w1253, w5, w1255, by decide, pd53⟩ w1254 rfl (by decide) (by decide) (Nat.le_of_ble_eq_true rfl) rfl dX10_power_68 (fun _ _ hx => absurd hx pC_no) ?_
            rintro _ _ ⟨pv, e9, rfl, hlp⟩
            cases e9
            have hl : lp _ 0 _ pv := hlp
            have l1 := hl.1
            have l2 := hl.2.1
            refine ab_istore (pc := 71) dX10_power_71 rfl (Nat.le_of_ble_eq_true rfl) ?_
            refine ab_aload_n (pc := 73) dX10_power_73 rfl ?_
            refine ab_get (pc := 74) (k := 6) (x := vI (s3 6)) okX10 hW.obj (mg rfl rfl) w1061 rfl dX10_power_74 ?_
            refine ab_iload (pc := 77) dX10_power_77 rfl ?_
            refine ab_callS (pc := 79) (m_gcd hG (by omega) (by omega)) ⟨w1259, w5, w1261, by decide, pd18⟩ w1260 rfl (by decide) (by decide) (Nat.le_of_ble_eq_true rfl) rfl dX10_power_79 (fun _ _ hx => absurd hx pC_no) ?_
            rintro _ _ ⟨gv, e9, rfl, hg⟩
            cases e9
            have hg0 : 0 < gv := by rw [hg]; have := Nat.gcd_pos_of_pos_left (m := (s3 6).toNat) pv.toNat (by omega); omega
            refine ab_istore (pc := 82) dX10_power_82 rfl (Nat.le_of_ble_eq_true rfl) ?_
            refine ab_iload_n (pc := 84) dX10_power_84 rfl ?_
            refine ab_iconst (pc := 85) dX10_power_85 (by decide) ?_
            refine ab_icmp_ne (pc := 86) 98 dX10_power_86 (by decide) (fun c86 => ?_) (fun c86 => ?_)
            · refine ab_iload_n (pc := 98) dX10_power_98 rfl ?_
              refine ab_if_ne (pc := 99) 107 dX10_power_99 (by decide) (fun c99 => ?_) (fun c99 => ?_)
              · refine ab_iload_n (pc := 107) dX10_power_107 rfl ?_
                refine ab_iconst (pc := 108) dX10_power_108 (by decide) ?_
                refine ab_icmp_ne (pc := 109) 122 dX10_power_109 (by decide) (fun c109 => ?_) (fun c109 => ?_)
                · refine ab_iload (pc := 122) dX10_power_122 rfl ?_
                  refine ab_iload (pc := 124) dX10_power_124 rfl ?_
                  refine ab_idiv (pc := 126) dX10_power_126 (by omega) ?_
                  rw [Int.tdiv_eq_ediv_of_nonneg (by omega)]
                  refine ab_iret (pc := 127) dX10_power_127 rfl ?_
                  first
                  | (exact ⟨_, _, _, rfl, hW, 0, _, rfl, ((hc3.sv 0 (by decide)).trans t2), Or.inr (Or.inr ⟨⟨a1, a2, a3, a4⟩, by omega, by omega, rfl, Or.inr (Or.inr ⟨_, pv, by omega, d1, lp_congr (fun j j0 j1 => d4 j j0 j1) hl, Or.inl ⟨by omega, rfl⟩⟩)⟩)⟩)
                  | (exact ⟨_, _, _, rfl, hW, 0, _, rfl, ((hc3.sv 0 (by decide)).trans t2), Or.inr (Or.inr ⟨⟨a1, a2, a3, a4⟩, by omega, by omega, rfl, Or.inr (Or.inr ⟨_, pv, by omega, d1, lp_congr (fun j j0 j1 => d4 j j0 j1) hl, Or.inr (Or.inl ⟨by omega, by rw [hg]⟩)⟩)⟩)⟩)
                  | (exact ⟨_, _, _, rfl, hW, 0, _, rfl, ((hc3.sv 0 (by decide)).trans t2), Or.inr (Or.inr ⟨⟨a1, a2, a3, a4⟩, by omega, by omega, rfl, Or.inr (Or.inr ⟨_, pv, by omega, d1, lp_congr (fun j j0 j1 => d4 j j0 j1) hl, Or.inr (Or.inr (Or.inl ⟨by omega, by rw [hg]⟩))⟩)⟩)⟩)
                · refine ab_aload_n (pc := 112) dX10_power_112 rfl ?_
                  refine ab_get (pc := 113) (k := 6) (x := vI (s3 6)) okX10 hW.obj (mg rfl rfl) w1061 rfl dX10_power_113 ?_
                  refine ab_iload (pc := 116) dX10_power_116 rfl ?_
                  refine ab_idiv (pc := 118) dX10_power_118 (by omega) ?_
                  rw [Int.tdiv_eq_ediv_of_nonneg (by omega)]
                  refine ab_goto (pc := 119) 127 dX10_power_119 (by decide) ?_
                  refine ab_iret (pc := 127) dX10_power_127 rfl ?_
                  first
                  | (exact ⟨_, _, _, rfl, hW, 0, _, rfl, ((hc3.sv 0 (by decide)).trans t2), Or.inr (Or.inr ⟨⟨a1, a2, a3, a4⟩, by omega, by omega, rfl, Or.inr (Or.inr ⟨_, pv, by omega, d1, lp_congr (fun j j0 j1 => d4 j j0 j1) hl, Or.inl ⟨by omega, rfl⟩⟩)⟩)⟩)
                  | (exact ⟨_, _, _, rfl, hW, 0, _, rfl, ((hc3.sv 0 (by decide)).trans t2), Or.inr (Or.inr ⟨⟨a1, a2, a3, a4⟩, by omega, by omega, rfl, Or.inr (Or.inr ⟨_, pv, by omega, d1, lp_congr (fun j j0 j1 => d4 j j0 j1) hl, Or.inr (Or.inl ⟨by omega, by rw [hg]⟩)⟩)⟩)⟩)
                  | (exact ⟨_, _, _, rfl, hW, 0, _, rfl, ((hc3.sv 0 (by decide)).trans t2), Or.inr (Or.inr ⟨⟨a1, a2, a3, a4⟩, by omega, by omega, rfl, Or.inr (Or.inr ⟨_, pv, by omega, d1, lp_congr (fun j j0 j1 => d4 j j0 j1) hl, Or.inr (Or.inr (Or.inl ⟨by omega, by rw [hg]⟩))⟩)⟩)⟩)
              · refine ab_iload (pc := 102) dX10_power_102 rfl ?_
                refine ab_goto (pc := 104) 127 dX10_power_104 (by decide) ?_
                refine ab_iret (pc := 127) dX10_power_127 rfl ?_
                first
                | (exact ⟨_, _, _, rfl, hW, 0, _, rfl, ((hc3.sv 0 (by decide)).trans t2), Or.inr (Or.inr ⟨⟨a1, a2, a3, a4⟩, by omega, by omega, rfl, Or.inr (Or.inr ⟨_, pv, by omega, d1, lp_congr (fun j j0 j1 => d4 j j0 j1) hl, Or.inl ⟨by omega, rfl⟩⟩)⟩)⟩)
                | (exact ⟨_, _, _, rfl, hW, 0, _, rfl, ((hc3.sv 0 (by decide)).trans t2), Or.inr (Or.inr ⟨⟨a1, a2, a3, a4⟩, by omega, by omega, rfl, Or.inr (Or.inr ⟨_, pv, by omega, d1, lp_congr (fun j j0 j1 => d4 j j0 j1) hl, Or.inr (Or.inl ⟨by omega, by rw [hg]⟩)⟩)⟩)⟩)
                | (exact ⟨_, _, _, rfl, hW, 0, _, rfl, ((hc3.sv 0 (by decide)).trans t2), Or.inr (Or.inr ⟨⟨a1, a2, a3, a4⟩, by omega, by omega, rfl, Or.inr (Or.inr ⟨_, pv, by omega, d1, lp_congr (fun j j0 j1 => d4 j j0 j1) hl, Or.inr (Or.inr (Or.inl ⟨by omega, by rw [hg]⟩))⟩)⟩)⟩)
            · refine ab_aload_n (pc := 89) dX10_power_89 rfl ?_
              refine ab_callV (pc := 90) (m_findRuns hG hW.1 d2 d3) hW.obj rfl ⟨w1262, w5, w1265, by decide, pd0⟩ w1264 sp29 rfl (by decide) (by decide) (Nat.le_of_ble_eq_true rfl) rfl dX10_power_90 (fun _ _ hx => absurd hx mC_no) ?_
              rintro _ h ⟨_, s6, F6, e9, hc6, rfl, hr⟩
              cases e9
              replace hW := hW.call hc6 (by decide) (by decide)
              refine ab_aload_n (pc := 93) dX10_power_93 rfl ?_
              refine ab_get (pc := 94) (k := 19) (x := vI (s6 19)) okX10 hW.obj (mg rfl rfl) w1074 rfl dX10_power_94 ?_
              refine ab_iret (pc := 97) dX10_power_97 rfl ?_
              refine ⟨_, _, _, rfl, hW, 0, _, rfl, ((hc6.sv 0 (by decide)).trans ((hc3.sv 0 (by decide)).trans t2)), Or.inr (Or.inr ⟨⟨a1, a2, a3, a4⟩, by omega, by omega, rfl, Or.inr (Or.inr ⟨_, pv, by omega, d1, lp_congr (fun j j0 j1 => d4 j j0 j1) hl, Or.inr (Or.inr (Or.inr ⟨by omega, ?_⟩))⟩)⟩)⟩
              rw [← Lfull_congr d2 d4]
              exact hr.1
          · refine ab_iconst (pc := 57) dX10_power_57 (by decide) ?_
            refine ab_iret (pc := 58) dX10_power_58 rfl ?_
            rw [show (s3 6) = 0 by omega] at d1
            exact ⟨_, _, _, rfl, hW, 0, _, rfl, ((hc3.sv 0 (by decide)).trans t2), Or.inr (Or.inr ⟨⟨a1, a2, a3, a4⟩, by omega, by omega, rfl, Or.inr (Or.inl ⟨d1, rfl⟩)⟩)⟩
        · refine ab_if_ne (pc := 45) 50 dX10_power_45 (by decide) (fun c45 => absurd c45 (by omega)) (fun c45 => ?_)
          refine ab_iconst (pc := 48) dX10_power_48 (by decide) ?_
          refine ab_iret (pc := 49) dX10_power_49 rfl ?_
          exact ⟨_, _, _, rfl, hW, 0, _, rfl, ((hc3.sv 0 (by decide)).trans t2), Or.inr (Or.inr ⟨⟨a1, a2, a3, a4⟩, by omega, by omega, rfl, Or.inl ⟨d1, rfl⟩⟩)⟩
      · refine ab_if_ne (pc := 34) 39 dX10_power_34 (by decide) (fun c34 => absurd c34 (by omega)) (fun c34 => ?_)
        refine ab_iconst (pc := 37) dX10_power_37 (by decide) ?_
        refine ab_iret (pc := 38) dX10_power_38 rfl ?_
        first
        | (exact ⟨_, _, _, rfl, hW, 1, 0, rfl, t2, Or.inl ⟨by omega, rfl, rfl⟩⟩)
        | (exact ⟨_, _, _, rfl, hW, 2, 0, rfl, t2, Or.inr (Or.inl ⟨⟨a1, a2, a3, a4⟩, by omega, rfl, rfl⟩)⟩)
    · refine ab_iload_n (pc := 16) dX10_power_16 rfl ?_
      refine ab_if_lt (pc := 17) 29 dX10_power_17 (by decide) (fun c17 => ?_) (fun c17 => ?_)
      · refine ab_iconst (pc := 29) dX10_power_29 (by decide) ?_
        exact J30 (0) (by omega)
      · refine ab_iload_n (pc := 20) dX10_power_20 rfl ?_
        refine ab_iconst (pc := 21) dX10_power_21 (by decide) ?_
        refine ab_icmp_gt (pc := 22) 29 dX10_power_22 (by decide) (fun c22 => ?_) (fun c22 => ?_)
        · refine ab_iconst (pc := 29) dX10_power_29 (by decide) ?_
          exact J30 (0) (by omega)
        · refine ab_iconst (pc := 25) dX10_power_25 (by decide) ?_
          refine ab_goto (pc := 26) 30 dX10_power_26 (by decide) ?_
          exact J30 (1) (by omega)
  · refine ab_if_eq (pc := 12) 37 dX10_power_12 (by decide) (fun c12 => ?_) (fun c12 => absurd c12 (by omega))
    refine ab_iconst (pc := 37) dX10_power_37 (by decide) ?_
    refine ab_iret (pc := 38) dX10_power_38 rfl ?_
    first
    | (exact ⟨_, _, _, rfl, hW, 1, 0, rfl, t1, Or.inl ⟨by omega, rfl, rfl⟩⟩)
    | (exact ⟨_, _, _, rfl, hW, 2, 0, rfl, t1, Or.inr (Or.inl ⟨⟨a1, a2, a3, a4⟩, by omega, rfl, rfl⟩)⟩)
theorem m_run (hG : ab_G l E) (hM : mR h0 m A s0 F0) {x k q w : Int} (n1 : s0 1 ≤ 16) (b3 : ∀ j, 0 ≤ j → j < 160 → -1 ≤ F0 3 j ∧ F0 3 j ≤ 80) : ab_M l E Y_X10_run 5 5 0 0 [vR m, vI x, vI k, vI q, vI w] h0 (mC h0 m A s0 F0 [0, 6, 19] [5, 16, 17, 18] (fun r s' F' => ∃ c r9 : Int, r = some (vI r9) ∧ s' 0 = c ∧ runSp s0 F0 x k q w c r9)) := by
  refine ab_M.of (L0 := [some (vR m), some (vI x), some (vI k), some (vI q), some (vI w)]) hG rfl rfl (Nat.le_of_ble_eq_true rfl) rfl ?_
  have hW : mW h0 m A s0 F0 [0, 6, 19] [5, 16, 17, 18] h0 s0 F0 := mW.start hM
  refine ab_aload_n (pc := 0) dX10_run_0 rfl ?_
  refine ab_iconst (pc := 1) dX10_run_1 (by decide) ?_
  refine ab_putG (pc := 2) (k := 0) okX10 hW.obj (by decide) (by decide) trivial w1055 rfl (Or.inl rfl) dX10_run_2 (fun h e9 n9 => ?_)
  replace hW := hW.put e9 n9 rfl (by decide)
  clear e9 n9
  refine ab_aload_n (pc := 5) dX10_run_5 rfl ?_
  refine ab_iload_n (pc := 6) dX10_run_6 rfl ?_
  refine ab_iload_n (pc := 7) dX10_run_7 rfl ?_
  refine ab_iconst (pc := 8) dX10_run_8 (by decide) ?_
  refine ab_callV (pc := 9) (m_isRow (n := s0 1) hG hW.1 rfl (by decide) (hW.sv 1 (by decide))) hW.obj rfl ⟨w1213, w5, w1216, by decide, pd51⟩ w1215 sp26 rfl (by decide) (by decide) (Nat.le_of_ble_eq_true rfl) rfl dX10_run_9 (fun _ _ hx => absurd hx mC_no) ?_
  rintro _ h ⟨_, s1, F1, e9, hc1, hp1⟩
  cases e9
  replace hW := hW.call hc1 (by decide) (by decide)
  rcases hp1 with ⟨a1, a2, a3, a4, rfl, t1⟩ | ⟨a1, rfl, t1⟩
  · refine ab_if_eq (pc := 12) 39 dX10_run_12 (by decide) (fun c12 => absurd c12 (by omega)) (fun c12 => ?_)
    refine ab_aload_n (pc := 15) dX10_run_15 rfl ?_
    refine ab_via (S := [vR m]) 32 (fun v : Int => (v = 1 ∧ 0 ≤ w ∧ w ≤ 2) ∨ (v = 0 ∧ ¬ (0 ≤ w ∧ w ≤ 2))) (fun v hv => ?_) (fun J32 => ?_)
    · refine ab_iconst (pc := 32) dX10_run_32 (by decide) ?_
      refine ab_callV (pc := 33) (m_may hG hW.1 (by omega) t1 (by omega)) hW.obj rfl ⟨w1205, w5, w1208, by decide, pd74⟩ w1207 sp25 rfl (by decide) (by decide) (Nat.le_of_ble_eq_true rfl) rfl dX10_run_33 (fun _ _ hx => absurd hx mC_no) ?_
      rintro _ h ⟨_, s2, F2, e9, hc2, hp2⟩
      cases e9
      replace hW := hW.call hc2 (by decide) (by decide)
      rcases hp2 with ⟨g2, rfl, t2⟩ | ⟨g2, rfl, t2⟩
      · refine ab_if_ne (pc := 36) 41 dX10_run_36 (by decide) (fun c36 => ?_) (fun c36 => absurd c36 (by omega))
        refine ab_aload_n (pc := 41) dX10_run_41 rfl ?_
        refine ab_iload_n (pc := 42) dX10_run_42 rfl ?_
        refine ab_iload_n (pc := 43) dX10_run_43 rfl ?_
        refine ab_callV (pc := 44) (m_readsG (G := F0) hG hW.1 (hW.Fv 3 (by decide)) (hW.Fv 4 (by decide)) (by omega) (by omega) (by omega) (by omega) b3) hW.obj rfl ⟨w1233, w5, w1236, by decide, pd73⟩ w1235 sp28 rfl (by decide) (by decide) (Nat.le_of_ble_eq_true rfl) rfl dX10_run_44 (fun _ _ hx => absurd hx mC_no) ?_
        rintro _ h ⟨_, s3, F3, e9, hc3, hp3⟩
        cases e9
        replace hW := hW.call hc3 (by decide) (by decide)
        rcases hp3 with ⟨rfl, d1, d2, d3, d4, d5⟩ | ⟨rfl, d1, d2⟩
        · refine ab_if_ne (pc := 47) 52 dX10_run_47 (by decide) (fun c47 => ?_) (fun c47 => absurd c47 (by omega))
          refine ab_aload_n (pc := 52) dX10_run_52 rfl ?_
          refine ab_callV (pc := 53) (m_findRuns hG hW.1 d2 d3) hW.obj rfl ⟨w1262, w5, w1265, by decide, pd0⟩ w1264 sp29 rfl (by decide) (by decide) (Nat.le_of_ble_eq_true rfl) rfl dX10_run_53 (fun _ _ hx => absurd hx mC_no) ?_
          rintro _ h ⟨_, s4, F4, e9, hc4, rfl, hr⟩
          cases e9
          replace hW := hW.call hc4 (by decide) (by decide)
          rw [Lfull_congr d2 d4] at hr
          have hr1 := hr.1
          have ll : (Lfull (rdL F0 x k) (s3 6)).length ≤ 1800 := by have := Lall_len (f := rdL F0 x k) d3 ((s3 6)).toNat; unfold Lfull; omega
          refine ab_iload_n (pc := 56) dX10_run_56 rfl ?_
          refine ab_if_lt (pc := 57) 68 dX10_run_57 (by decide) (fun c57 => ?_) (fun c57 => ?_)
          · refine ab_iconst (pc := 68) dX10_run_68 (by decide) ?_
            refine ab_iret (pc := 69) dX10_run_69 rfl ?_
            exact ⟨_, _, _, rfl, hW, 0, _, rfl, ((hc4.sv 0 (by decide)).trans ((hc3.sv 0 (by decide)).trans t2)), Or.inr (Or.inr ⟨⟨a1, a2, a3, a4⟩, by omega, by omega, rfl, Or.inr ⟨_, d2, d1, Or.inl ⟨by omega, rfl⟩⟩⟩)⟩
          · refine ab_iload_n (pc := 60) dX10_run_60 rfl ?_
            refine ab_aload_n (pc := 61) dX10_run_61 rfl ?_
            refine ab_get (pc := 62) (k := 19) (x := vI (s4 19)) okX10 hW.obj (mg rfl rfl) w1074 rfl dX10_run_62 ?_
            refine ab_icmp_lt (pc := 65) 70 dX10_run_65 (by decide) (fun c65 => ?_) (fun c65 => ?_)
            · refine ab_iload (pc := 70) dX10_run_70 rfl ?_
              refine ab_if_ne (pc := 72) 84 dX10_run_72 (by decide) (fun c72 => ?_) (fun c72 => ?_)
              · refine ab_iload (pc := 84) dX10_run_84 rfl ?_
                refine ab_iconst (pc := 86) dX10_run_86 (by decide) ?_
                refine ab_icmp_ne (pc := 87) 99 dX10_run_87 (by decide) (fun c87 => ?_) (fun c87 => ?_)
                · refine ab_aload_n (pc := 99) dX10_run_99 rfl ?_
                  refine ab_get (pc := 100) (k := 18) (x := vR (A 18)) okX10 hW.obj rfl w1073 rfl dX10_run_100 ?_
                  refine ab_iload_n (pc := 103) dX10_run_103 rfl ?_
                  refine ab_iald (pc := 104) (n := 2000) (f := F4 18) (hW.arr 18 rfl rfl) (by omega) (by omega) dX10_run_104 ?_
                  refine ab_iret (pc := 105) dX10_run_105 rfl ?_
                  have hr2 := hr.2 q.toNat (by omega)
                  rw [show ((q.toNat : Nat) : Int) = q by omega] at hr2
                  first
                  | (exact ⟨_, _, _, rfl, hW, 0, _, rfl, ((hc4.sv 0 (by decide)).trans ((hc3.sv 0 (by decide)).trans t2)), Or.inr (Or.inr ⟨⟨a1, a2, a3, a4⟩, by omega, by omega, rfl, Or.inr ⟨_, d2, d1, Or.inr ⟨_, _, _, by omega, hr2, Or.inl ⟨by omega, rfl⟩⟩⟩⟩)⟩)
                  | (exact ⟨_, _, _, rfl, hW, 0, _, rfl, ((hc4.sv 0 (by decide)).trans ((hc3.sv 0 (by decide)).trans t2)), Or.inr (Or.inr ⟨⟨a1, a2, a3, a4⟩, by omega, by omega, rfl, Or.inr ⟨_, d2, d1, Or.inr ⟨_, _, _, by omega, hr2, Or.inr (Or.inl ⟨by omega, rfl⟩)⟩⟩⟩)⟩)
                  | (exact ⟨_, _, _, rfl, hW, 0, _, rfl, ((hc4.sv 0 (by decide)).trans ((hc3.sv 0 (by decide)).trans t2)), Or.inr (Or.inr ⟨⟨a1, a2, a3, a4⟩, by omega, by omega, rfl, Or.inr ⟨_, d2, d1, Or.inr ⟨_, _, _, by omega, hr2, Or.inr (Or.inr ⟨by omega, rfl⟩)⟩⟩⟩)⟩)
                · refine ab_aload_n (pc := 90) dX10_run_90 rfl ?_
                  refine ab_get (pc := 91) (k := 17) (x := vR (A 17)) okX10 hW.obj rfl w1072 rfl dX10_run_91 ?_
                  refine ab_iload_n (pc := 94) dX10_run_94 rfl ?_
                  refine ab_iald (pc := 95) (n := 2000) (f := F4 17) (hW.arr 17 rfl rfl) (by omega) (by omega) dX10_run_95 ?_
                  refine ab_goto (pc := 96) 105 dX10_run_96 (by decide) ?_
                  refine ab_iret (pc := 105) dX10_run_105 rfl ?_
                  have hr2 := hr.2 q.toNat (by omega)
                  rw [show ((q.toNat : Nat) : Int) = q by omega] at hr2
                  first
                  | (exact ⟨_, _, _, rfl, hW, 0, _, rfl, ((hc4.sv 0 (by decide)).trans ((hc3.sv 0 (by decide)).trans t2)), Or.inr (Or.inr ⟨⟨a1, a2, a3, a4⟩, by omega, by omega, rfl, Or.inr ⟨_, d2, d1, Or.inr ⟨_, _, _, by omega, hr2, Or.inl ⟨by omega, rfl⟩⟩⟩⟩)⟩)
                  | (exact ⟨_, _, _, rfl, hW, 0, _, rfl, ((hc4.sv 0 (by decide)).trans ((hc3.sv 0 (by decide)).trans t2)), Or.inr (Or.inr ⟨⟨a1, a2, a3, a4⟩, by omega, by omega, rfl, Or.inr ⟨_, d2, d1, Or.inr ⟨_, _, _, by omega, hr2, Or.inr (Or.inl ⟨by omega, rfl⟩)⟩⟩⟩)⟩)
                  | (exact ⟨_, _, _, rfl, hW, 0, _, rfl, ((hc4.sv 0 (by decide)).trans ((hc3.sv 0 (by decide)).trans t2)), Or.inr (Or.inr ⟨⟨a1, a2, a3, a4⟩, by omega, by omega, rfl, Or.inr ⟨_, d2, d1, Or.inr ⟨_, _, _, by omega, hr2, Or.inr (Or.inr ⟨by omega, rfl⟩)⟩⟩⟩)⟩)
              · refine ab_aload_n (pc := 75) dX10_run_75 rfl ?_
                refine ab_get (pc := 76) (k := 16) (x := vR (A 16)) okX10 hW.obj rfl w1071 rfl dX10_run_76 ?_
                refine ab_iload_n (pc := 79) dX10_run_79 rfl ?_
                refine ab_iald (pc := 80) (n := 2000) (f := F4 16) (hW.arr 16 rfl rfl) (by omega) (by omega) dX10_run_80 ?_
                refine ab_goto (pc := 81) 105 dX10_run_81 (by decide) ?_
                refine ab_iret (pc := 105) dX10_run_105 rfl ?_
                have hr2 := hr.2 q.toNat (by omega)
                rw [show ((q.toNat : Nat) : Int) = q by omega] at hr2
                first
                | (exact ⟨_, _, _, rfl, hW, 0, _, rfl, ((hc4.sv 0 (by decide)).trans ((hc3.sv 0 (by decide)).trans t2)), Or.inr (Or.inr ⟨⟨a1, a2, a3, a4⟩, by omega, by omega, rfl, Or.inr ⟨_, d2, d1, Or.inr ⟨_, _, _, by omega, hr2, Or.inl ⟨by omega, rfl⟩⟩⟩⟩)⟩)
                | (exact ⟨_, _, _, rfl, hW, 0, _, rfl, ((hc4.sv 0 (by decide)).trans ((hc3.sv 0 (by decide)).trans t2)), Or.inr (Or.inr ⟨⟨a1, a2, a3, a4⟩, by omega, by omega, rfl, Or.inr ⟨_, d2, d1, Or.inr ⟨_, _, _, by omega, hr2, Or.inr (Or.inl ⟨by omega, rfl⟩)⟩⟩⟩)⟩)
                | (exact ⟨_, _, _, rfl, hW, 0, _, rfl, ((hc4.sv 0 (by decide)).trans ((hc3.sv 0 (by decide)).trans t2)), Or.inr (Or.inr ⟨⟨a1, a2, a3, a4⟩, by omega, by omega, rfl, Or.inr ⟨_, d2, d1, Or.inr ⟨_, _, _, by omega, hr2, Or.inr (Or.inr ⟨by omega, rfl⟩)⟩⟩⟩)⟩)
            · refine ab_iconst (pc := 68) dX10_run_68 (by decide) ?_
              refine ab_iret (pc := 69) dX10_run_69 rfl ?_
              exact ⟨_, _, _, rfl, hW, 0, _, rfl, ((hc4.sv 0 (by decide)).trans ((hc3.sv 0 (by decide)).trans t2)), Or.inr (Or.inr ⟨⟨a1, a2, a3, a4⟩, by omega, by omega, rfl, Or.inr ⟨_, d2, d1, Or.inl ⟨by omega, rfl⟩⟩⟩)⟩
        · refine ab_if_ne (pc := 47) 52 dX10_run_47 (by decide) (fun c47 => absurd c47 (by omega)) (fun c47 => ?_)
          refine ab_iconst (pc := 50) dX10_run_50 (by decide) ?_
          refine ab_iret (pc := 51) dX10_run_51 rfl ?_
          exact ⟨_, _, _, rfl, hW, 0, _, rfl, ((hc3.sv 0 (by decide)).trans t2), Or.inr (Or.inr ⟨⟨a1, a2, a3, a4⟩, by omega, by omega, rfl, Or.inl ⟨d1, rfl⟩⟩)⟩
      · refine ab_if_ne (pc := 36) 41 dX10_run_36 (by decide) (fun c36 => absurd c36 (by omega)) (fun c36 => ?_)
        refine ab_iconst (pc := 39) dX10_run_39 (by decide) ?_
        refine ab_iret (pc := 40) dX10_run_40 rfl ?_
        first
        | (exact ⟨_, _, _, rfl, hW, 1, 0, rfl, t2, Or.inl ⟨by omega, rfl, rfl⟩⟩)
        | (exact ⟨_, _, _, rfl, hW, 2, 0, rfl, t2, Or.inr (Or.inl ⟨⟨a1, a2, a3, a4⟩, by omega, rfl, rfl⟩)⟩)
    · refine ab_iload (pc := 16) dX10_run_16 rfl ?_
      refine ab_if_lt (pc := 18) 31 dX10_run_18 (by decide) (fun c18 => ?_) (fun c18 => ?_)
      · refine ab_iconst (pc := 31) dX10_run_31 (by decide) ?_
        exact J32 (0) (by omega)
      · refine ab_iload (pc := 21) dX10_run_21 rfl ?_
        refine ab_iconst (pc := 23) dX10_run_23 (by decide) ?_
        refine ab_icmp_gt (pc := 24) 31 dX10_run_24 (by decide) (fun c24 => ?_) (fun c24 => ?_)
        · refine ab_iconst (pc := 31) dX10_run_31 (by decide) ?_
          exact J32 (0) (by omega)
        · refine ab_iconst (pc := 27) dX10_run_27 (by decide) ?_
          refine ab_goto (pc := 28) 32 dX10_run_28 (by decide) ?_
          exact J32 (1) (by omega)
  · refine ab_if_eq (pc := 12) 39 dX10_run_12 (by decide) (fun c12 => ?_) (fun c12 => absurd c12 (by omega))
    refine ab_iconst (pc := 39) dX10_run_39 (by decide) ?_
    refine ab_iret (pc := 40) dX10_run_40 rfl ?_
    first
    | (exact ⟨_, _, _, rfl, hW, 1, 0, rfl, t1, Or.inl ⟨by omega, rfl, rfl⟩⟩)
    | (exact ⟨_, _, _, rfl, hW, 2, 0, rfl, t1, Or.inr (Or.inl ⟨⟨a1, a2, a3, a4⟩, by omega, rfl, rfl⟩)⟩)
end M9
