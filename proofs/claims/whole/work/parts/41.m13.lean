/-! the reference: maps -/
section M13
variable {l : Launch} {E : AbE} {m : Nat} {A : Nat → Nat} {s0 : Nat → Int} {F0 : Nat → Int → Int} {h0 : AbH}
def wOk (F : Nat → Int → Int) (x k a : Int) : Prop := ∃ n : Int, isRd F x k n ∧ 1 ≤ n ∧ n ≤ 20 ∧ ∀ j : Int, 0 ≤ j → j < n → rdL F x k j < a
def mapOk (F : Nat → Int → Int) (x fr a : Int) : Prop := ∀ u : Int, 0 ≤ u → u < a → wOk F x (fr + u) a
/-- the first u words of map b are those rows -/
def mapIn (F0 F : Nat → Int → Int) (x fr b u : Int) : Prop := (∀ v : Int, 0 ≤ v → v < u → isRd F0 x (fr + v) (F 37 (8 * b + v))) ∧ (∀ v : Int, 0 ≤ v → v < u → ∀ j : Int, 0 ≤ j → j < F 37 (8 * b + v) → F 38 (20 * (8 * b + v) + j) = rdL F0 x (fr + v) j) ∧ (∀ q : Int, ¬ (8 * b ≤ q ∧ q < 8 * b + u) → F 37 q = F0 37 q) ∧ (∀ q : Int, ¬ (160 * b ≤ q ∧ q < 160 * b + 20 * u) → F 38 q = F0 38 q)
theorem mapIn0 {F0 F : Nat → Int → Int} {x fr b : Int} (h7 : F 37 = F0 37) (h8 : F 38 = F0 38) : mapIn F0 F x fr b 0 := ⟨fun v v0 v1 => absurd v1 (by omega), fun v v0 v1 => absurd v1 (by omega), fun q _ => by rw [h7], fun q _ => by rw [h8]⟩
theorem mapIn_step {F0 F F' : Nat → Int → Int} {x fr b u n : Int} (h : mapIn F0 F x fr b u) (u0 : 0 ≤ u) (hr : isRd F0 x (fr + u) n) (n0 : 0 ≤ n) (n2 : n ≤ 20) (l2 : ∀ v : Int, 0 ≤ v → v < u → F 37 (8 * b + v) ≤ 20) (h7 : F' 37 = ab_f (F 37) (8 * b + u) n) (h8 : F' 38 = fil (F 38) (20 * (8 * b + u)) n (rdL F0 x (fr + u))) : mapIn F0 F' x fr b (u + 1) := by
  obtain ⟨a1, a2, a3, a4⟩ := h
  refine ⟨fun v v0 v1 => ?_, fun v v0 v1 j j0 j1 => ?_, fun q hq => ?_, fun q hq => ?_⟩
  · rw [h7]
    by_cases e : v = u
    · rw [e, ab_f_eq rfl]
      exact hr
    · rw [ab_f_ne (by omega)]
      exact a1 v v0 (by omega)
  · rw [h7] at j1
    rw [h8]
    by_cases e : v = u
    · subst e
      rw [ab_f_eq rfl] at j1
      exact fil_at j0 j1
    · rw [ab_f_ne (by omega)] at j1
      have := l2 v v0 (by omega)
      rw [fil_out (by omega)]
      exact a2 v v0 (by omega) j j0 j1
  · rw [h7, ab_f_ne (by omega)]
    exact a3 q (by omega)
  · rw [h8, fil_out (by omega)]
    exact a4 q (by omega)
def mapSp (s : Nat → Int) (F : Nat → Int → Int) (b a x fr c r : Int) : Prop := (¬ (0 ≤ b ∧ b < 8 ∧ 1 ≤ a ∧ a ≤ 8) ∧ c = 1 ∧ r = 0) ∨ (0 ≤ b ∧ b < 8 ∧ 1 ≤ a ∧ a ≤ 8 ∧ ¬ (0 ≤ x ∧ x < s 1 ∧ 0 ≤ fr ∧ fr ≤ 10 - a) ∧ c = 2 ∧ r = 0) ∨ (0 ≤ b ∧ b < 8 ∧ 1 ≤ a ∧ a ≤ 8 ∧ 0 ≤ x ∧ x < s 1 ∧ 0 ≤ fr ∧ fr ≤ 10 - a ∧ c = 0 ∧ ((¬ mapOk F x fr a ∧ r = 0) ∨ (mapOk F x fr a ∧ r = 1)))
theorem m_isMap (hG : ab_G l E) (hM : mR h0 m A s0 F0) {b : Int} {g : Int → Int} (hs : s0 0 = 0) (e35 : F0 35 = g) : ab_M l E Y_X10_isMap 2 3 0 0 [vR m, vI b] h0 (mC h0 m A s0 F0 [0] [] (fun r s' F' => (0 ≤ b ∧ b < 8 ∧ g b ≠ 0 ∧ r = some (vI 1) ∧ s' 0 = 0) ∨ (¬ (0 ≤ b ∧ b < 8 ∧ g b ≠ 0) ∧ r = some (vI 0) ∧ s' 0 = 1))) := by
  refine ab_M.of (L0 := [some (vR m), some (vI b)]) hG rfl rfl (Nat.le_of_ble_eq_true rfl) rfl ?_
  have hW : mW h0 m A s0 F0 [0] [] h0 s0 F0 := mW.start hM
  subst e35
  refine ab_aload_n (pc := 0) dX10_isMap_0 rfl ?_
  refine ab_via (S := [vR m]) 25 (fun v : Int => (v = 1 ∧ 0 ≤ b ∧ b < 8 ∧ F0 35 b ≠ 0) ∨ (v = 0 ∧ ¬ (0 ≤ b ∧ b < 8 ∧ F0 35 b ≠ 0))) (fun v hv => ?_) (fun J25 => ?_)
  · refine ab_iconst (pc := 25) dX10_isMap_25 (by decide) ?_
    refine ab_callV (pc := 26) (m_may hG hW.1 (by omega) hs (by omega)) hW.obj rfl ⟨w1205, w5, w1208, by decide, pd74⟩ w1207 sp25 rfl (by decide) (by decide) (Nat.le_of_ble_eq_true rfl) rfl dX10_isMap_26 (fun _ _ hx => absurd hx mC_no) ?_
    rintro _ h ⟨_, s1, F1, e9, hc1, hp1⟩
    cases e9
    replace hW := hW.call hc1 (by decide) (by decide)
    rcases hp1 with ⟨g1, rfl, t1⟩ | ⟨g1, rfl, t1⟩
    · refine ab_zret (pc := 29) dX10_isMap_29 rfl (by omega) ?_
      first
      | (exact ⟨_, _, _, rfl, hW, Or.inl ⟨by omega, by omega, by omega, rfl, t1⟩⟩)
      | (exact ⟨_, _, _, rfl, hW, Or.inr ⟨by omega, rfl, t1⟩⟩)
    · refine ab_zret (pc := 29) dX10_isMap_29 rfl (by omega) ?_
      first
      | (exact ⟨_, _, _, rfl, hW, Or.inl ⟨by omega, by omega, by omega, rfl, t1⟩⟩)
      | (exact ⟨_, _, _, rfl, hW, Or.inr ⟨by omega, rfl, t1⟩⟩)
  · refine ab_iload_n (pc := 1) dX10_isMap_1 rfl ?_
    refine ab_if_lt (pc := 2) 24 dX10_isMap_2 (by decide) (fun c2 => ?_) (fun c2 => ?_)
    · refine ab_iconst (pc := 24) dX10_isMap_24 (by decide) ?_
      exact J25 (0) (by omega)
    · refine ab_iload_n (pc := 5) dX10_isMap_5 rfl ?_
      refine ab_bipush (pc := 6) dX10_isMap_6 (by decide) ?_
      refine ab_icmp_ge (pc := 8) 24 dX10_isMap_8 (by decide) (fun c8 => ?_) (fun c8 => ?_)
      · refine ab_iconst (pc := 24) dX10_isMap_24 (by decide) ?_
        exact J25 (0) (by omega)
      · refine ab_aload_n (pc := 11) dX10_isMap_11 rfl ?_
        refine ab_get (pc := 12) (k := 35) (x := vR (A 35)) okX10 hW.obj rfl w1090 rfl dX10_isMap_12 ?_
        refine ab_iload_n (pc := 15) dX10_isMap_15 rfl ?_
        refine ab_zald (pc := 16) (n := 8) (f := F0 35) (hW.arrZ (hW.Fv 35 (by decide))) (by omega) (by omega) dX10_isMap_16 ?_
        refine ab_if_eq (pc := 17) 24 dX10_isMap_17 (by decide) (fun c17 => ?_) (fun c17 => ?_)
        · refine ab_iconst (pc := 24) dX10_isMap_24 (by decide) ?_
          exact J25 (0) (by omega)
        · refine ab_iconst (pc := 20) dX10_isMap_20 (by decide) ?_
          refine ab_goto (pc := 21) 25 dX10_isMap_21 (by decide) ?_
          exact J25 (1) (by omega)
theorem m_map_122 {h : AbH} {s : Nat → Int} {F : Nat → Int → Int} (hW : mW h0 m A s0 F0 [0, 6] [5, 35, 36, 37, 38] h s F) {b a x fr : Int} (b0 : 0 ≤ b) (b8 : b < 8) (a1 : 1 ≤ a) (a8 : a ≤ 8) (x0 : 0 ≤ x) (x1 : x < s0 1) (n1 : s0 1 ≤ 16) (f0 : 0 ≤ fr) (f1 : fr ≤ 10 - a) {u n : Int} (u0 : 0 ≤ u) (u1 : u < a) (n6 : n ≤ 60) (hr : isRd F0 x (fr + u) n) (t0 : s 0 = 0) (e6 : s 6 = n) (e35 : F 35 = F0 35) (e36 : F 36 = F0 36) (e37 : F 37 = F0 37) (e38 : F 38 = F0 38) (rd : ∀ j : Int, 0 ≤ j → j < n → F 5 j = rdL F0 x (fr + u) j) (hC : (∀ j : Int, 0 ≤ j → j < n → rdL F0 x (fr + u) j < a) → ∀ i : Int, ab_T l E Y_X10_map 4 0 0 150 [some (vR m), some (vI b), some (vI a), some (vI x), some (vI fr), some (vI u), some (vI i)] [] h (mC h0 m A s0 F0 [0, 6] [5, 35, 36, 37, 38] (fun r s' F' => ∃ c r9 : Int, r = some (vI r9) ∧ s' 0 = c ∧ mapSp s0 F0 b a x fr c r9 ∧ ((c = 0 ∧ r9 = 1 ∧ mapIn F0 F' x fr b a ∧ F' 35 = ab_f (F0 35) b 1 ∧ F' 36 = ab_f (F0 36) b a) ∨ (¬ (c = 0 ∧ r9 = 1) ∧ F' 35 = F0 35 ∧ F' 36 = F0 36 ∧ F' 37 = F0 37 ∧ F' 38 = F0 38))))) (fu : Nat) : ∀ (i : Int), (n - i).toNat < fu → (0 ≤ i) → (∀ j : Int, 0 ≤ j → j < i → rdL F0 x (fr + u) j < a) → ab_T l E Y_X10_map 4 0 0 122 [some (vR m), some (vI b), some (vI a), some (vI x), some (vI fr), some (vI u), some (vI i)] [] h (mC h0 m A s0 F0 [0, 6] [5, 35, 36, 37, 38] (fun r s' F' => ∃ c r9 : Int, r = some (vI r9) ∧ s' 0 = c ∧ mapSp s0 F0 b a x fr c r9 ∧ ((c = 0 ∧ r9 = 1 ∧ mapIn F0 F' x fr b a ∧ F' 35 = ab_f (F0 35) b 1 ∧ F' 36 = ab_f (F0 36) b a) ∨ (¬ (c = 0 ∧ r9 = 1) ∧ F' 35 = F0 35 ∧ F' 36 = F0 36 ∧ F' 37 = F0 37 ∧ F' 38 = F0 38)))) := by
  induction fu with
  | zero => intro i hm; exact absurd hm (Nat.not_lt_zero _)
  | succ fu ih =>
    intro i hm i0 I
    refine ab_iload (pc := 122) dX10_map_122 rfl ?_
    refine ab_aload_n (pc := 124) dX10_map_124 rfl ?_
    refine ab_get (pc := 125) (k := 6) (x := vI (n)) okX10 hW.obj (mg rfl e6) w1061 rfl dX10_map_125 ?_
    refine ab_icmp_ge (pc := 128) 150 dX10_map_128 (by decide) (fun c128 => ?_) (fun c128 => ?_)
    · exact hC (fun j j0 j1 => I j j0 (by omega)) _
    · refine ab_aload_n (pc := 131) dX10_map_131 rfl ?_
      refine ab_get (pc := 132) (k := 5) (x := vR (A 5)) okX10 hW.obj rfl w1060 rfl dX10_map_132 ?_
      refine ab_iload (pc := 135) dX10_map_135 rfl ?_
      refine ab_iald (pc := 137) (n := 80) (f := F 5) (hW.arr 5 rfl rfl) (by omega) (by omega) dX10_map_137 ?_
      refine ab_iload_n (pc := 138) dX10_map_138 rfl ?_
      refine ab_icmp_lt (pc := 139) 144 dX10_map_139 (by decide) (fun c139 => ?_) (fun c139 => ?_)
      · refine ab_iinc (pc := 144) dX10_map_144 rfl rfl (by decide) (by omega) (by omega) ?_
        refine ab_goto (pc := 147) 122 dX10_map_147 (by decide) ?_
        refine ih (i + 1) (by omega) (by omega) (fun j j0 j1 => ?_)
        by_cases e9 : j = i
        · have := rd i i0 (by omega); rw [e9]; omega
        · exact I j j0 (by omega)
      · refine ab_iconst (pc := 142) dX10_map_142 (by decide) ?_
        refine ab_iret (pc := 143) dX10_map_143 rfl ?_
        have r9 := rd i i0 (by omega)
        exact ⟨_, _, _, rfl, hW, 0, 0, rfl, t0, Or.inr (Or.inr ⟨b0, b8, a1, a8, x0, x1, f0, f1, rfl, Or.inl ⟨fun g => by obtain ⟨n9, g1, g2, g3, g4⟩ := g u u0 u1; rw [rdW_fun g1 hr] at g4; exact absurd (g4 i i0 (by omega)) (by omega), rfl⟩⟩), Or.inr ⟨by decide, e35, e36, e37, e38⟩⟩
theorem m_map_81 (hG : ab_G l E) {b a x fr : Int} (b0 : 0 ≤ b) (b8 : b < 8) (a1 : 1 ≤ a) (a8 : a ≤ 8) (x0 : 0 ≤ x) (x1 : x < s0 1) (n1 : s0 1 ≤ 16) (f0 : 0 ≤ fr) (f1 : fr ≤ 10 - a) (b3 : ∀ j, 0 ≤ j → j < 160 → -1 ≤ F0 3 j ∧ F0 3 j ≤ 80) (hC : mapOk F0 x fr a → ∀ (u : Int) (x6 : Option AbV) (h : AbH) (s : Nat → Int) (F : Nat → Int → Int), mW h0 m A s0 F0 [0, 6] [5, 35, 36, 37, 38] h s F → s 0 = 0 → F 35 = F0 35 → F 36 = F0 36 → F 37 = F0 37 → F 38 = F0 38 → ab_T l E Y_X10_map 4 0 0 156 [some (vR m), some (vI b), some (vI a), some (vI x), some (vI fr), some (vI u), x6] [] h (mC h0 m A s0 F0 [0, 6] [5, 35, 36, 37, 38] (fun r s' F' => ∃ c r9 : Int, r = some (vI r9) ∧ s' 0 = c ∧ mapSp s0 F0 b a x fr c r9 ∧ ((c = 0 ∧ r9 = 1 ∧ mapIn F0 F' x fr b a ∧ F' 35 = ab_f (F0 35) b 1 ∧ F' 36 = ab_f (F0 36) b a) ∨ (¬ (c = 0 ∧ r9 = 1) ∧ F' 35 = F0 35 ∧ F' 36 = F0 36 ∧ F' 37 = F0 37 ∧ F' 38 = F0 38))))) (fu : Nat) : ∀ (u : Int) (x6 : Option AbV) (h : AbH) (s : Nat → Int) (F : Nat → Int → Int), mW h0 m A s0 F0 [0, 6] [5, 35, 36, 37, 38] h s F → (a - u).toNat < fu → (0 ≤ u) → (s 0 = 0) → (F 35 = F0 35) → (F 36 = F0 36) → (F 37 = F0 37) → (F 38 = F0 38) → (∀ v : Int, 0 ≤ v → v < u → wOk F0 x (fr + v) a) → ab_T l E Y_X10_map 4 0 0 81 [some (vR m), some (vI b), some (vI a), some (vI x), some (vI fr), some (vI u), x6] [] h (mC h0 m A s0 F0 [0, 6] [5, 35, 36, 37, 38] (fun r s' F' => ∃ c r9 : Int, r = some (vI r9) ∧ s' 0 = c ∧ mapSp s0 F0 b a x fr c r9 ∧ ((c = 0 ∧ r9 = 1 ∧ mapIn F0 F' x fr b a ∧ F' 35 = ab_f (F0 35) b 1 ∧ F' 36 = ab_f (F0 36) b a) ∨ (¬ (c = 0 ∧ r9 = 1) ∧ F' 35 = F0 35 ∧ F' 36 = F0 36 ∧ F' 37 = F0 37 ∧ F' 38 = F0 38)))) := by
  induction fu with
  | zero => intro u x6 h s F hW hm; exact absurd hm (Nat.not_lt_zero _)
  | succ fu ih =>
    intro u x6 h s F hW hm u0 t0 e35 e36 e37 e38 I
    refine ab_iload (pc := 81) dX10_map_81 rfl ?_
    refine ab_iload_n (pc := 83) dX10_map_83 rfl ?_
    refine ab_icmp_ge (pc := 84) 156 dX10_map_84 (by decide) (fun c84 => ?_) (fun c84 => ?_)
    · exact hC (fun v v0 v1 => I v v0 (by omega)) _ _ _ _ _ hW t0 e35 e36 e37 e38
    · refine ab_aload_n (pc := 87) dX10_map_87 rfl ?_
      refine ab_iload_n (pc := 88) dX10_map_88 rfl ?_
      refine ab_iload (pc := 89) dX10_map_89 rfl ?_
      refine ab_iload (pc := 91) dX10_map_91 rfl ?_
      refine ab_iadd (pc := 93) dX10_map_93 (by omega) (by omega) ?_
      refine ab_callV (pc := 94) (m_readsG (G := F0) hG hW.1 (hW.Fv 3 (by decide)) (hW.Fv 4 (by decide)) (by omega) (by omega) (by omega) (by omega) b3) hW.obj rfl ⟨w1233, w5, w1236, by decide, pd73⟩ w1235 sp28 rfl (by decide) (by decide) (Nat.le_of_ble_eq_true rfl) rfl dX10_map_94 (fun _ _ hx => absurd hx mC_no) ?_
      rintro _ h ⟨_, s1, F1, e9, hc1, hp1⟩
      cases e9
      replace hW := hW.call hc1 (by decide) (by decide)
      rcases hp1 with ⟨rfl, d1, d2, d3, d4, d5⟩ | ⟨rfl, d1, d2⟩
      · refine ab_if_eq (pc := 97) 117 dX10_map_97 (by decide) (fun c97 => absurd c97 (by omega)) (fun c97 => ?_)
        refine ab_aload_n (pc := 100) dX10_map_100 rfl ?_
        refine ab_get (pc := 101) (k := 6) (x := vI (s1 6)) okX10 hW.obj (mg rfl rfl) w1061 rfl dX10_map_101 ?_
        refine ab_iconst (pc := 104) dX10_map_104 (by decide) ?_
        refine ab_icmp_lt (pc := 105) 117 dX10_map_105 (by decide) (fun c105 => ?_) (fun c105 => ?_)
        · refine ab_iconst (pc := 117) dX10_map_117 (by decide) ?_
          refine ab_iret (pc := 118) dX10_map_118 rfl ?_
          exact ⟨_, _, _, rfl, hW, 0, 0, rfl, ((hc1.sv 0 (by decide)).trans t0), Or.inr (Or.inr ⟨b0, b8, a1, a8, x0, x1, f0, f1, rfl, Or.inl ⟨fun g => by obtain ⟨n9, g1, g2, g3, g4⟩ := g u u0 (by omega); have := rdW_fun g1 d1; omega, rfl⟩⟩), Or.inr ⟨by decide, ((hc1.Fv 35 (by decide)).trans e35), ((hc1.Fv 36 (by decide)).trans e36), ((hc1.Fv 37 (by decide)).trans e37), ((hc1.Fv 38 (by decide)).trans e38)⟩⟩
        · refine ab_aload_n (pc := 108) dX10_map_108 rfl ?_
          refine ab_get (pc := 109) (k := 6) (x := vI (s1 6)) okX10 hW.obj (mg rfl rfl) w1061 rfl dX10_map_109 ?_
          refine ab_bipush (pc := 112) dX10_map_112 (by decide) ?_
          refine ab_icmp_le (pc := 114) 119 dX10_map_114 (by decide) (fun c114 => ?_) (fun c114 => ?_)
          · refine ab_iconst (pc := 119) dX10_map_119 (by decide) ?_
            refine ab_istore (pc := 120) dX10_map_120 rfl (Nat.le_of_ble_eq_true rfl) ?_
            refine m_map_122 hW b0 b8 a1 a8 x0 x1 n1 f0 f1 u0 (by omega) d3 d1 ((hc1.sv 0 (by decide)).trans t0) rfl ((hc1.Fv 35 (by decide)).trans e35) ((hc1.Fv 36 (by decide)).trans e36) ((hc1.Fv 37 (by decide)).trans e37) ((hc1.Fv 38 (by decide)).trans e38) d4 (fun hlt i => ?_) _ 0 (Nat.lt_succ_self _) (by omega) (fun j j0 j1 => absurd j1 (by omega))
            refine ab_iinc (pc := 150) dX10_map_150 rfl rfl (by decide) (by omega) (by omega) ?_
            refine ab_goto (pc := 153) 81 dX10_map_153 (by decide) ?_
            refine ih (u + 1) _ _ _ _ hW (by omega) (by omega) ((hc1.sv 0 (by decide)).trans t0) ((hc1.Fv 35 (by decide)).trans e35) ((hc1.Fv 36 (by decide)).trans e36) ((hc1.Fv 37 (by decide)).trans e37) ((hc1.Fv 38 (by decide)).trans e38) (fun v v0 v1 => ?_)
            by_cases e9 : v = u
            · rw [e9]; exact ⟨_, d1, by omega, by omega, hlt⟩
            · exact I v v0 (by omega)
          · refine ab_iconst (pc := 117) dX10_map_117 (by decide) ?_
            refine ab_iret (pc := 118) dX10_map_118 rfl ?_
            exact ⟨_, _, _, rfl, hW, 0, 0, rfl, ((hc1.sv 0 (by decide)).trans t0), Or.inr (Or.inr ⟨b0, b8, a1, a8, x0, x1, f0, f1, rfl, Or.inl ⟨fun g => by obtain ⟨n9, g1, g2, g3, g4⟩ := g u u0 (by omega); have := rdW_fun g1 d1; omega, rfl⟩⟩), Or.inr ⟨by decide, ((hc1.Fv 35 (by decide)).trans e35), ((hc1.Fv 36 (by decide)).trans e36), ((hc1.Fv 37 (by decide)).trans e37), ((hc1.Fv 38 (by decide)).trans e38)⟩⟩
      · refine ab_if_eq (pc := 97) 117 dX10_map_97 (by decide) (fun c97 => ?_) (fun c97 => absurd c97 (by omega))
        refine ab_iconst (pc := 117) dX10_map_117 (by decide) ?_
        refine ab_iret (pc := 118) dX10_map_118 rfl ?_
        exact ⟨_, _, _, rfl, hW, 0, 0, rfl, ((hc1.sv 0 (by decide)).trans t0), Or.inr (Or.inr ⟨b0, b8, a1, a8, x0, x1, f0, f1, rfl, Or.inl ⟨fun g => by obtain ⟨n9, g1, g2, g3, g4⟩ := g u u0 (by omega); have := rdW_fun g1 d1; omega, rfl⟩⟩), Or.inr ⟨by decide, ((hc1.Fv 35 (by decide)).trans e35), ((hc1.Fv 36 (by decide)).trans e36), ((hc1.Fv 37 (by decide)).trans e37), ((hc1.Fv 38 (by decide)).trans e38)⟩⟩
theorem m_map_195 {b a x fr : Int} (b0 : 0 ≤ b) (b8 : b < 8) (a1 : 1 ≤ a) (a8 : a ≤ 8) (x0 : 0 ≤ x) (x1 : x < s0 1) (n1 : s0 1 ≤ 16) (f0 : 0 ≤ fr) (f1 : fr ≤ 10 - a) {u n : Int} {G H : Int → Int} (u0 : 0 ≤ u) (u1 : u < a) (n0 : 0 ≤ n) (n6 : n ≤ 20) (hC : ∀ (i : Int) (h : AbH) (s : Nat → Int) (F : Nat → Int → Int), mW h0 m A s0 F0 [0, 6] [5, 35, 36, 37, 38] h s F → s 0 = 0 → F 35 = F0 35 → F 36 = F0 36 → F 37 = H → F 38 = fil G (20 * (8 * b + u)) n (rdL F0 x (fr + u)) → ab_T l E Y_X10_map 4 0 0 235 [some (vR m), some (vI b), some (vI a), some (vI x), some (vI fr), some (vI u), some (vI i)] [] h (mC h0 m A s0 F0 [0, 6] [5, 35, 36, 37, 38] (fun r s' F' => ∃ c r9 : Int, r = some (vI r9) ∧ s' 0 = c ∧ mapSp s0 F0 b a x fr c r9 ∧ ((c = 0 ∧ r9 = 1 ∧ mapIn F0 F' x fr b a ∧ F' 35 = ab_f (F0 35) b 1 ∧ F' 36 = ab_f (F0 36) b a) ∨ (¬ (c = 0 ∧ r9 = 1) ∧ F' 35 = F0 35 ∧ F' 36 = F0 36 ∧ F' 37 = F0 37 ∧ F' 38 = F0 38))))) (fu : Nat) : ∀ (i : Int) (h : AbH) (s : Nat → Int) (F : Nat → Int → Int), mW h0 m A s0 F0 [0, 6] [5, 35, 36, 37, 38] h s F → (n - i).toNat < fu → (0 ≤ i) → (i ≤ n) → (s 0 = 0) → (s 6 = n) → (F 35 = F0 35) → (F 36 = F0 36) → (F 37 = H) → (F 38 = fil G (20 * (8 * b + u)) i (rdL F0 x (fr + u))) → (∀ j : Int, 0 ≤ j → j < n → F 5 j = rdL F0 x (fr + u) j) → ab_T l E Y_X10_map 4 0 0 195 [some (vR m), some (vI b), some (vI a), some (vI x), some (vI fr), some (vI u), some (vI i)] [] h (mC h0 m A s0 F0 [0, 6] [5, 35, 36, 37, 38] (fun r s' F' => ∃ c r9 : Int, r = some (vI r9) ∧ s' 0 = c ∧ mapSp s0 F0 b a x fr c r9 ∧ ((c = 0 ∧ r9 = 1 ∧ mapIn F0 F' x fr b a ∧ F' 35 = ab_f (F0 35) b 1 ∧ F' 36 = ab_f (F0 36) b a) ∨ (¬ (c = 0 ∧ r9 = 1) ∧ F' 35 = F0 35 ∧ F' 36 = F0 36 ∧ F' 37 = F0 37 ∧ F' 38 = F0 38)))) := by
  induction fu with
  | zero => intro i h s F hW hm; exact absurd hm (Nat.not_lt_zero _)
  | succ fu ih =>
    intro i h s F hW hm i0 i1 t0 e6 e35 e36 e37 e38 rd
    refine ab_iload (pc := 195) dX10_map_195 rfl ?_
    refine ab_aload_n (pc := 197) dX10_map_197 rfl ?_
    refine ab_get (pc := 198) (k := 6) (x := vI (n)) okX10 hW.obj (mg rfl e6) w1061 rfl dX10_map_198 ?_
    refine ab_icmp_ge (pc := 201) 235 dX10_map_201 (by decide) (fun c201 => ?_) (fun c201 => ?_)
    · obtain rfl : i = n := by omega
      exact hC _ _ _ _ hW t0 e35 e36 e37 e38
    · refine ab_aload_n (pc := 204) dX10_map_204 rfl ?_
      refine ab_get (pc := 205) (k := 38) (x := vR (A 38)) okX10 hW.obj rfl w1093 rfl dX10_map_205 ?_
      refine ab_bipush (pc := 208) dX10_map_208 (by decide) ?_
      refine ab_bipush (pc := 210) dX10_map_210 (by decide) ?_
      refine ab_iload_n (pc := 212) dX10_map_212 rfl ?_
      refine ab_imul (pc := 213) dX10_map_213 (by omega) (by omega) ?_
      refine ab_iload (pc := 214) dX10_map_214 rfl ?_
      refine ab_iadd (pc := 216) dX10_map_216 (by omega) (by omega) ?_
      refine ab_imul (pc := 217) dX10_map_217 (by omega) (by omega) ?_
      refine ab_iload (pc := 218) dX10_map_218 rfl ?_
      refine ab_iadd (pc := 220) dX10_map_220 (by omega) (by omega) ?_
      refine ab_aload_n (pc := 221) dX10_map_221 rfl ?_
      refine ab_get (pc := 222) (k := 5) (x := vR (A 5)) okX10 hW.obj rfl w1060 rfl dX10_map_222 ?_
      refine ab_iload (pc := 225) dX10_map_225 rfl ?_
      refine ab_iald (pc := 227) (n := 80) (f := F 5) (hW.arr 5 rfl rfl) (by omega) (by omega) dX10_map_227 ?_
      refine ab_iastG (pc := 228) (n := 1280) (f := fil G (20 * (8 * b + u)) i (rdL F0 x (fr + u))) (hW.arr 38 rfl e38) (by decide) (by omega) (by omega) dX10_map_228 (fun h e9 n9 => ?_)
      replace hW := hW.wr (k := 38) rfl e9 n9 (by decide)
      clear e9 n9
      refine ab_iinc (pc := 229) dX10_map_229 rfl rfl (by decide) (by omega) (by omega) ?_
      refine ab_goto (pc := 232) 195 dX10_map_232 (by decide) ?_
      refine ih (i + 1) _ _ _ hW (by omega) (by omega) (by omega) t0 e6 e35 e36 e37 ?_ rd
      rw [← fil_step i0 (rd i i0 (by omega))]
      rfl
theorem m_map_159 (hG : ab_G l E) {b a x fr : Int} (b0 : 0 ≤ b) (b8 : b < 8) (a1 : 1 ≤ a) (a8 : a ≤ 8) (x0 : 0 ≤ x) (x1 : x < s0 1) (n1 : s0 1 ≤ 16) (f0 : 0 ≤ fr) (f1 : fr ≤ 10 - a) (b3 : ∀ j, 0 ≤ j → j < 160 → -1 ≤ F0 3 j ∧ F0 3 j ≤ 80) (mok : mapOk F0 x fr a) (fu : Nat) : ∀ (u : Int) (x6 : Option AbV) (h : AbH) (s : Nat → Int) (F : Nat → Int → Int), mW h0 m A s0 F0 [0, 6] [5, 35, 36, 37, 38] h s F → (a - u).toNat < fu → (0 ≤ u) → (u ≤ a) → (s 0 = 0) → (F 35 = F0 35) → (F 36 = F0 36) → (mapIn F0 F x fr b u) → ab_T l E Y_X10_map 4 0 0 159 [some (vR m), some (vI b), some (vI a), some (vI x), some (vI fr), some (vI u), x6] [] h (mC h0 m A s0 F0 [0, 6] [5, 35, 36, 37, 38] (fun r s' F' => ∃ c r9 : Int, r = some (vI r9) ∧ s' 0 = c ∧ mapSp s0 F0 b a x fr c r9 ∧ ((c = 0 ∧ r9 = 1 ∧ mapIn F0 F' x fr b a ∧ F' 35 = ab_f (F0 35) b 1 ∧ F' 36 = ab_f (F0 36) b a) ∨ (¬ (c = 0 ∧ r9 = 1) ∧ F' 35 = F0 35 ∧ F' 36 = F0 36 ∧ F' 37 = F0 37 ∧ F' 38 = F0 38)))) := by
  induction fu with
  | zero => intro u x6 h s F hW hm; exact absurd hm (Nat.not_lt_zero _)
  | succ fu ih =>
    intro u x6 h s F hW hm u0 u1 t0 e35 e36 I
    refine ab_iload (pc := 159) dX10_map_159 rfl ?_
    refine ab_iload_n (pc := 161) dX10_map_161 rfl ?_
    refine ab_icmp_ge (pc := 162) 241 dX10_map_162 (by decide) (fun c162 => ?_) (fun c162 => ?_)
    · refine ab_aload_n (pc := 241) dX10_map_241 rfl ?_
      refine ab_get (pc := 242) (k := 35) (x := vR (A 35)) okX10 hW.obj rfl w1090 rfl dX10_map_242 ?_
      refine ab_iload_n (pc := 245) dX10_map_245 rfl ?_
      refine ab_iconst (pc := 246) dX10_map_246 (by decide) ?_
      refine ab_zastG (pc := 247) (n := 8) (f := F0 35) (hW.arrZ e35) (by decide) (by omega) (by omega) (by omega) dX10_map_247 (fun h e9 n9 => ?_)
      replace hW := hW.wrZ e9 n9 (by decide)
      clear e9 n9
      refine ab_aload_n (pc := 248) dX10_map_248 rfl ?_
      refine ab_get (pc := 249) (k := 36) (x := vR (A 36)) okX10 hW.obj rfl w1091 rfl dX10_map_249 ?_
      refine ab_iload_n (pc := 252) dX10_map_252 rfl ?_
      refine ab_iload_n (pc := 253) dX10_map_253 rfl ?_
      refine ab_iastG (pc := 254) (n := 8) (f := F0 36) (hW.arr 36 rfl e36) (by decide) (by omega) (by omega) dX10_map_254 (fun h e9 n9 => ?_)
      replace hW := hW.wr (k := 36) rfl e9 n9 (by decide)
      clear e9 n9
      refine ab_iconst (pc := 255) dX10_map_255 (by decide) ?_
      refine ab_iret (pc := 256) dX10_map_256 rfl ?_
      obtain rfl : u = a := by omega
      exact ⟨_, _, _, rfl, hW, 0, 1, rfl, t0, Or.inr (Or.inr ⟨b0, b8, a1, a8, x0, x1, f0, f1, rfl, Or.inr ⟨mok, rfl⟩⟩), Or.inl ⟨rfl, rfl, I, rfl, rfl⟩⟩
    · refine ab_aload_n (pc := 165) dX10_map_165 rfl ?_
      refine ab_iload_n (pc := 166) dX10_map_166 rfl ?_
      refine ab_iload (pc := 167) dX10_map_167 rfl ?_
      refine ab_iload (pc := 169) dX10_map_169 rfl ?_
      refine ab_iadd (pc := 171) dX10_map_171 (by omega) (by omega) ?_
      refine ab_callV (pc := 172) (m_readsG (G := F0) hG hW.1 (hW.Fv 3 (by decide)) (hW.Fv 4 (by decide)) (by omega) (by omega) (by omega) (by omega) b3) hW.obj rfl ⟨w1233, w5, w1236, by decide, pd73⟩ w1235 sp28 rfl (by decide) (by decide) (Nat.le_of_ble_eq_true rfl) rfl dX10_map_172 (fun _ _ hx => absurd hx mC_no) ?_
      rintro _ h ⟨_, s1, F1, e9, hc1, hp1⟩
      cases e9
      replace hW := hW.call hc1 (by decide) (by decide)
      rcases hp1 with ⟨rfl, d1, d2, d3, d4, d5⟩ | ⟨rfl, d1, d2⟩
      · refine ab_pop (pc := 175) dX10_map_175 rfl ?_
        refine ab_aload_n (pc := 176) dX10_map_176 rfl ?_
        refine ab_get (pc := 177) (k := 37) (x := vR (A 37)) okX10 hW.obj rfl w1092 rfl dX10_map_177 ?_
        refine ab_bipush (pc := 180) dX10_map_180 (by decide) ?_
        refine ab_iload_n (pc := 182) dX10_map_182 rfl ?_
        refine ab_imul (pc := 183) dX10_map_183 (by omega) (by omega) ?_
        refine ab_iload (pc := 184) dX10_map_184 rfl ?_
        refine ab_iadd (pc := 186) dX10_map_186 (by omega) (by omega) ?_
        refine ab_aload_n (pc := 187) dX10_map_187 rfl ?_
        refine ab_get (pc := 188) (k := 6) (x := vI (s1 6)) okX10 hW.obj (mg rfl rfl) w1061 rfl dX10_map_188 ?_
        refine ab_iastG (pc := 191) (n := 64) (f := F 37) (hW.arr 37 rfl (hc1.Fv 37 (by decide))) (by decide) (by omega) (by omega) dX10_map_191 (fun h e9 n9 => ?_)
        replace hW := hW.wr (k := 37) rfl e9 n9 (by decide)
        clear e9 n9
        refine ab_iconst (pc := 192) dX10_map_192 (by decide) ?_
        refine ab_istore (pc := 193) dX10_map_193 rfl (Nat.le_of_ble_eq_true rfl) ?_
        have n20 : 1 ≤ s1 6 ∧ s1 6 ≤ 20 := by obtain ⟨n9, g1, g2, g3, g4⟩ := mok u u0 (by omega); have := rdW_fun g1 d1; omega
        refine m_map_195 b0 b8 a1 a8 x0 x1 n1 f0 f1 u0 (by omega) d2 n20.2 (fun i h s F hW t0 e35 e36 e37 e38 => ?_) _ 0 _ _ _ hW (Nat.lt_succ_self _) (by omega) d2 ((hc1.sv 0 (by decide)).trans t0) rfl ((hc1.Fv 35 (by decide)).trans e35) ((hc1.Fv 36 (by decide)).trans e36) rfl ((hc1.Fv 38 (by decide)).trans fil0) d4
        replace I := mapIn_step (F' := F) I u0 d1 d2 n20.2 (fun v v0 v1 => by obtain ⟨n9, g1, g2, g3, g4⟩ := mok v v0 (by omega); have := rdW_fun g1 (I.1 v v0 v1); omega) e37 e38
        refine ab_iinc (pc := 235) dX10_map_235 rfl rfl (by decide) (by omega) (by omega) ?_
        refine ab_goto (pc := 238) 159 dX10_map_238 (by decide) ?_
        exact ih (u + 1) _ _ _ _ hW (by omega) (by omega) (by omega) t0 e35 e36 I
      · refine ab_pop (pc := 175) dX10_map_175 rfl ?_
        refine ab_aload_n (pc := 176) dX10_map_176 rfl ?_
        refine ab_get (pc := 177) (k := 37) (x := vR (A 37)) okX10 hW.obj rfl w1092 rfl dX10_map_177 ?_
        refine ab_bipush (pc := 180) dX10_map_180 (by decide) ?_
        refine ab_iload_n (pc := 182) dX10_map_182 rfl ?_
        refine ab_imul (pc := 183) dX10_map_183 (by omega) (by omega) ?_
        refine ab_iload (pc := 184) dX10_map_184 rfl ?_
        refine ab_iadd (pc := 186) dX10_map_186 (by omega) (by omega) ?_
        refine ab_aload_n (pc := 187) dX10_map_187 rfl ?_
        refine ab_get (pc := 188) (k := 6) (x := vI ((-1))) okX10 hW.obj (mg rfl d2) w1061 rfl dX10_map_188 ?_
        refine ab_iastG (pc := 191) (n := 64) (f := F 37) (hW.arr 37 rfl (hc1.Fv 37 (by decide))) (by decide) (by omega) (by omega) dX10_map_191 (fun h e9 n9 => ?_)
        replace hW := hW.wr (k := 37) rfl e9 n9 (by decide)
        clear e9 n9
        refine ab_iconst (pc := 192) dX10_map_192 (by decide) ?_
        refine ab_istore (pc := 193) dX10_map_193 rfl (Nat.le_of_ble_eq_true rfl) ?_
        exfalso
        obtain ⟨n9, g1, g2, g3, g4⟩ := mok u u0 (by omega)
        have := rdW_fun g1 d1
        omega
theorem m_map (hG : ab_G l E) (hM : mR h0 m A s0 F0) {b a x fr : Int} (n1 : s0 1 ≤ 16) (b3 : ∀ j, 0 ≤ j → j < 160 → -1 ≤ F0 3 j ∧ F0 3 j ≤ 80) : ab_M l E Y_X10_map 7 4 0 0 [vR m, vI b, vI a, vI x, vI fr] h0 (mC h0 m A s0 F0 [0, 6] [5, 35, 36, 37, 38] (fun r s' F' => ∃ c r9 : Int, r = some (vI r9) ∧ s' 0 = c ∧ mapSp s0 F0 b a x fr c r9 ∧ ((c = 0 ∧ r9 = 1 ∧ mapIn F0 F' x fr b a ∧ F' 35 = ab_f (F0 35) b 1 ∧ F' 36 = ab_f (F0 36) b a) ∨ (¬ (c = 0 ∧ r9 = 1) ∧ F' 35 = F0 35 ∧ F' 36 = F0 36 ∧ F' 37 = F0 37 ∧ F' 38 = F0 38)))) := by
  refine ab_M.of (L0 := [some (vR m), some (vI b), some (vI a), some (vI x), some (vI fr), none, none]) hG rfl rfl (Nat.le_of_ble_eq_true rfl) rfl ?_
  have hW : mW h0 m A s0 F0 [0, 6] [5, 35, 36, 37, 38] h0 s0 F0 := mW.start hM
  refine ab_aload_n (pc := 0) dX10_map_0 rfl ?_
  refine ab_iconst (pc := 1) dX10_map_1 (by decide) ?_
  refine ab_putG (pc := 2) (k := 0) okX10 hW.obj (by decide) (by decide) trivial w1055 rfl (Or.inl rfl) dX10_map_2 (fun h e9 n9 => ?_)
  replace hW := hW.put e9 n9 rfl (by decide)
  clear e9 n9
  refine ab_aload_n (pc := 5) dX10_map_5 rfl ?_
  refine ab_via (S := [vR m]) 32 (fun v : Int => (v = 1 ∧ 0 ≤ b ∧ b < 8 ∧ 1 ≤ a ∧ a ≤ 8) ∨ (v = 0 ∧ ¬ (0 ≤ b ∧ b < 8 ∧ 1 ≤ a ∧ a ≤ 8))) (fun v hv => ?_) (fun J32 => ?_)
  · have hv1 := hv
    clear hv
    refine ab_iconst (pc := 32) dX10_map_32 (by decide) ?_
    refine ab_callV (pc := 33) (m_may hG hW.1 (by omega) rfl (by omega)) hW.obj rfl ⟨w1205, w5, w1208, by decide, pd74⟩ w1207 sp25 rfl (by decide) (by decide) (Nat.le_of_ble_eq_true rfl) rfl dX10_map_33 (fun _ _ hx => absurd hx mC_no) ?_
    rintro _ h ⟨_, s1, F1, e9, hc1, hp1⟩
    cases e9
    replace hW := hW.call hc1 (by decide) (by decide)
    rcases hp1 with ⟨g1, rfl, t1⟩ | ⟨g1, rfl, t1⟩
    · refine ab_if_ne (pc := 36) 41 dX10_map_36 (by decide) (fun c36 => ?_) (fun c36 => absurd c36 (by omega))
      refine ab_aload_n (pc := 41) dX10_map_41 rfl ?_
      refine ab_via (S := [vR m]) 69 (fun v : Int => (v = 1 ∧ 0 ≤ x ∧ x < s0 1 ∧ 0 ≤ fr ∧ fr ≤ 10 - a) ∨ (v = 0 ∧ ¬ (0 ≤ x ∧ x < s0 1 ∧ 0 ≤ fr ∧ fr ≤ 10 - a))) (fun v hv => ?_) (fun J69 => ?_)
      · refine ab_iconst (pc := 69) dX10_map_69 (by decide) ?_
        refine ab_callV (pc := 70) (m_may hG hW.1 (by omega) t1 (by omega)) hW.obj rfl ⟨w1205, w5, w1208, by decide, pd74⟩ w1207 sp25 rfl (by decide) (by decide) (Nat.le_of_ble_eq_true rfl) rfl dX10_map_70 (fun _ _ hx => absurd hx mC_no) ?_
        rintro _ h ⟨_, s2, F2, e9, hc2, hp2⟩
        cases e9
        replace hW := hW.call hc2 (by decide) (by decide)
        rcases hp2 with ⟨g2, rfl, t2⟩ | ⟨g2, rfl, t2⟩
        · refine ab_if_ne (pc := 73) 78 dX10_map_73 (by decide) (fun c73 => ?_) (fun c73 => absurd c73 (by omega))
          refine ab_iconst (pc := 78) dX10_map_78 (by decide) ?_
          refine ab_istore (pc := 79) dX10_map_79 rfl (Nat.le_of_ble_eq_true rfl) ?_
          refine m_map_81 hG (by omega) (by omega) (by omega) (by omega) (by omega) (by omega) n1 (by omega) (by omega) b3 (fun mok u x6 h s F hW t0 e35 e36 e37 e38 => ?_) _ 0 _ _ _ _ hW (Nat.lt_succ_self _) (by omega) t2 ((hc2.Fv 35 (by decide)).trans (hc1.Fv 35 (by decide))) ((hc2.Fv 36 (by decide)).trans (hc1.Fv 36 (by decide))) ((hc2.Fv 37 (by decide)).trans (hc1.Fv 37 (by decide))) ((hc2.Fv 38 (by decide)).trans (hc1.Fv 38 (by decide))) (fun v v0 v1 => absurd v1 (by omega))
          refine ab_iconst (pc := 156) dX10_map_156 (by decide) ?_
          refine ab_istore (pc := 157) dX10_map_157 rfl (Nat.le_of_ble_eq_true rfl) ?_
          exact m_map_159 hG (by omega) (by omega) (by omega) (by omega) (by omega) (by omega) n1 (by omega) (by omega) b3 mok _ 0 _ _ _ _ hW (Nat.lt_succ_self _) (by omega) (by omega) t0 e35 e36 (mapIn0 e37 e38)
        · refine ab_if_ne (pc := 73) 78 dX10_map_73 (by decide) (fun c73 => absurd c73 (by omega)) (fun c73 => ?_)
          refine ab_iconst (pc := 76) dX10_map_76 (by decide) ?_
          refine ab_iret (pc := 77) dX10_map_77 rfl ?_
          exact ⟨_, _, _, rfl, hW, 2, 0, rfl, t2, Or.inr (Or.inl ⟨by omega, by omega, by omega, by omega, by omega, rfl, rfl⟩), Or.inr ⟨by decide, ((hc2.Fv 35 (by decide)).trans (hc1.Fv 35 (by decide))), ((hc2.Fv 36 (by decide)).trans (hc1.Fv 36 (by decide))), ((hc2.Fv 37 (by decide)).trans (hc1.Fv 37 (by decide))), ((hc2.Fv 38 (by decide)).trans (hc1.Fv 38 (by decide)))⟩⟩
      · refine ab_aload_n (pc := 42) dX10_map_42 rfl ?_
        refine ab_iload_n (pc := 43) dX10_map_43 rfl ?_
        refine ab_callV (pc := 44) (m_isSheet (n := s0 1) hG hW.1 (hW.sv 1 (by decide))) hW.obj rfl ⟨w1217, w5, w1220, by decide, pd71⟩ w1219 sp27 rfl (by decide) (by decide) (Nat.le_of_ble_eq_true rfl) rfl dX10_map_44 (fun _ _ hx => absurd hx pC_no) ?_
        rintro _ _ ⟨iv, e9, rfl, hiv⟩
        cases e9
        refine ab_if_eq (pc := 47) 68 dX10_map_47 (by decide) (fun c47 => ?_) (fun c47 => ?_)
        · refine ab_iconst (pc := 68) dX10_map_68 (by decide) ?_
          exact J69 (0) (by omega)
        · refine ab_iload (pc := 50) dX10_map_50 rfl ?_
          refine ab_if_lt (pc := 52) 68 dX10_map_52 (by decide) (fun c52 => ?_) (fun c52 => ?_)
          · refine ab_iconst (pc := 68) dX10_map_68 (by decide) ?_
            exact J69 (0) (by omega)
          · refine ab_iload (pc := 55) dX10_map_55 rfl ?_
            refine ab_bipush (pc := 57) dX10_map_57 (by decide) ?_
            refine ab_iload_n (pc := 59) dX10_map_59 rfl ?_
            refine ab_isub (pc := 60) dX10_map_60 (by omega) (by omega) ?_
            refine ab_icmp_gt (pc := 61) 68 dX10_map_61 (by decide) (fun c61 => ?_) (fun c61 => ?_)
            · refine ab_iconst (pc := 68) dX10_map_68 (by decide) ?_
              exact J69 (0) (by omega)
            · refine ab_iconst (pc := 64) dX10_map_64 (by decide) ?_
              refine ab_goto (pc := 65) 69 dX10_map_65 (by decide) ?_
              exact J69 (1) (by omega)
    · refine ab_if_ne (pc := 36) 41 dX10_map_36 (by decide) (fun c36 => absurd c36 (by omega)) (fun c36 => ?_)
      refine ab_iconst (pc := 39) dX10_map_39 (by decide) ?_
      refine ab_iret (pc := 40) dX10_map_40 rfl ?_
      exact ⟨_, _, _, rfl, hW, 1, 0, rfl, t1, Or.inl ⟨by omega, rfl, rfl⟩, Or.inr ⟨by decide, (hc1.Fv 35 (by decide)), (hc1.Fv 36 (by decide)), (hc1.Fv 37 (by decide)), (hc1.Fv 38 (by decide))⟩⟩
  · refine ab_iload_n (pc := 6) dX10_map_6 rfl ?_
    refine ab_if_lt (pc := 7) 31 dX10_map_7 (by decide) (fun c7 => ?_) (fun c7 => ?_)
    · refine ab_iconst (pc := 31) dX10_map_31 (by decide) ?_
      exact J32 (0) (by omega)
    · refine ab_iload_n (pc := 10) dX10_map_10 rfl ?_
      refine ab_bipush (pc := 11) dX10_map_11 (by decide) ?_
      refine ab_icmp_ge (pc := 13) 31 dX10_map_13 (by decide) (fun c13 => ?_) (fun c13 => ?_)
      · refine ab_iconst (pc := 31) dX10_map_31 (by decide) ?_
        exact J32 (0) (by omega)
      · refine ab_iload_n (pc := 16) dX10_map_16 rfl ?_
        refine ab_iconst (pc := 17) dX10_map_17 (by decide) ?_
        refine ab_icmp_lt (pc := 18) 31 dX10_map_18 (by decide) (fun c18 => ?_) (fun c18 => ?_)
        · refine ab_iconst (pc := 31) dX10_map_31 (by decide) ?_
          exact J32 (0) (by omega)
        · refine ab_iload_n (pc := 21) dX10_map_21 rfl ?_
          refine ab_bipush (pc := 22) dX10_map_22 (by decide) ?_
          refine ab_icmp_gt (pc := 24) 31 dX10_map_24 (by decide) (fun c24 => ?_) (fun c24 => ?_)
          · refine ab_iconst (pc := 31) dX10_map_31 (by decide) ?_
            exact J32 (0) (by omega)
          · refine ab_iconst (pc := 27) dX10_map_27 (by decide) ?_
            refine ab_goto (pc := 28) 32 dX10_map_28 (by decide) ?_
            exact J32 (1) (by omega)
end M13
