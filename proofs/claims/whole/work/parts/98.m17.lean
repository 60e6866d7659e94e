/-! the reference: looseness, steps -/
section M17
variable {l : Launch} {E : AbE} {m : Nat} {A : Nat → Nat} {s0 : Nat → Int} {F0 : Nat → Int → Int} {h0 : AbH}
theorem m_isLoose_201 {d set : Nat} (d2 : d ≤ 2) (wk : wdOk (F0 42) (F0 43) d) (s8 : set < 8) {sd : List Nat} {x : Int} {p3 : Int} {x6 x7 : Option AbV} (hl : loM (lw (F0 42) (F0 43) d) set = apart sd set) (x0 : 0 ≤ x) (x1 : x < 3) (hC : ∀ (x5 : Option AbV) (h : AbH) (s : Nat → Int) (F : Nat → Int → Int), mW h0 m A s0 F0 [] [45] h s F → sdR (F 45) sd → (∀ a b : Nat, (a : Int) < x + 1 → b < 3 → okA sd set a b) → ab_T l E Y_X10_isLoose 0 0 0 192 [some (vR m), some (vI (d : Int)), some (vI (set : Int)), some (vI p3), some (vI (x + 1)), x5, x6, x7] [] h (mC h0 m A s0 F0 [] [45] (fun r s' F' => (r = some (vI 1) ∧ loM (lw (F0 42) (F0 43) d) set = true) ∨ (r = some (vI 0) ∧ loM (lw (F0 42) (F0 43) d) set = false)))) (fu : Nat) : ∀ (y : Int) (h : AbH) (s : Nat → Int) (F : Nat → Int → Int), mW h0 m A s0 F0 [] [45] h s F → (3 - y).toNat < fu → (0 ≤ y) → (y ≤ 3) → (sdR (F 45) sd) → (∀ a b : Nat, (a : Int) < x → b < 3 → okA sd set a b) → (∀ b : Nat, (b : Int) < y → okA sd set x.toNat b) → ab_T l E Y_X10_isLoose 0 0 0 201 [some (vR m), some (vI (d : Int)), some (vI (set : Int)), some (vI p3), some (vI x), some (vI y), x6, x7] [] h (mC h0 m A s0 F0 [] [45] (fun r s' F' => (r = some (vI 1) ∧ loM (lw (F0 42) (F0 43) d) set = true) ∨ (r = some (vI 0) ∧ loM (lw (F0 42) (F0 43) d) set = false))) := by
  induction fu with
  | zero => intro y h s F hW hm; exact absurd hm (Nat.not_lt_zero _)
  | succ fu ih =>
    intro y h s F hW hm y0 y1 S I J
    have S1 := S.2 (3 + x) (by omega) (by omega)
    rw [show (3 + x).toNat = 3 + x.toNat by omega] at S1
    have hx := has_n (a := set) (x := x.toNat) (by omega) (by omega)
    rw [show ((x.toNat : Nat) : Int) = x by omega] at hx
    refine ab_iload (pc := 201) dX10_isLoose_201 rfl ?_
    refine ab_iconst (pc := 203) dX10_isLoose_203 (by decide) ?_
    refine ab_icmp_ge (pc := 204) 254 dX10_isLoose_204 (by decide) (fun c204 => ?_) (fun c204 => ?_)
    · refine ab_iinc (pc := 254) dX10_isLoose_254 rfl rfl (by decide) (by omega) (by omega) ?_
      refine ab_goto (pc := 257) 192 dX10_isLoose_257 (by decide) ?_
      exact hC _ _ _ _ hW S (fun a b ha hb => by by_cases e : a = x.toNat; (subst e; exact J b (by omega)); exact I a b (by omega) hb)
    · have S2 := S.2 y (by omega) (by omega)
      have hy := has_n (a := set) (x := y.toNat) (by omega) (by omega)
      rw [show ((y.toNat : Nat) : Int) = y by omega] at hy
      refine ab_iload_n (pc := 207) dX10_isLoose_207 rfl ?_
      refine ab_iload (pc := 208) dX10_isLoose_208 rfl ?_
      refine ab_ishr (pc := 210) dX10_isLoose_210 ?_
      refine ab_iconst (pc := 211) dX10_isLoose_211 (by decide) ?_
      refine ab_iand (pc := 212) dX10_isLoose_212 ?_
      refine ab_iconst (pc := 213) dX10_isLoose_213 (by decide) ?_
      refine ab_icmp_ne (pc := 214) 248 dX10_isLoose_214 (by decide) (fun c214 => ?_) (fun c214 => ?_)
      · refine ab_iinc (pc := 248) dX10_isLoose_248 rfl rfl (by decide) (by omega) (by omega) ?_
        refine ab_goto (pc := 251) 201 dX10_isLoose_251 (by decide) ?_
        refine ih (y + 1) _ _ _ hW (by omega) (by omega) (by omega) S I (fun b hb => ?_)
        by_cases e : b = y.toNat
        · subst e
          first | exact fun k => c214 (hx.2.mpr k.1) | exact fun k => c224 (hy.2.mpr k.2.1) | exact fun k => c243 (by rw [S1, S2, k.2.2])
        · exact J b (by omega)
      · refine ab_iload_n (pc := 217) dX10_isLoose_217 rfl ?_
        refine ab_iload (pc := 218) dX10_isLoose_218 rfl ?_
        refine ab_ishr (pc := 220) dX10_isLoose_220 ?_
        refine ab_iconst (pc := 221) dX10_isLoose_221 (by decide) ?_
        refine ab_iand (pc := 222) dX10_isLoose_222 ?_
        refine ab_iconst (pc := 223) dX10_isLoose_223 (by decide) ?_
        refine ab_icmp_ne (pc := 224) 248 dX10_isLoose_224 (by decide) (fun c224 => ?_) (fun c224 => ?_)
        · refine ab_iinc (pc := 248) dX10_isLoose_248 rfl rfl (by decide) (by omega) (by omega) ?_
          refine ab_goto (pc := 251) 201 dX10_isLoose_251 (by decide) ?_
          refine ih (y + 1) _ _ _ hW (by omega) (by omega) (by omega) S I (fun b hb => ?_)
          by_cases e : b = y.toNat
          · subst e
            first | exact fun k => c214 (hx.2.mpr k.1) | exact fun k => c224 (hy.2.mpr k.2.1) | exact fun k => c243 (by rw [S1, S2, k.2.2])
          · exact J b (by omega)
        · refine ab_aload_n (pc := 227) dX10_isLoose_227 rfl ?_
          refine ab_get (pc := 228) (k := 45) (x := vR (A 45)) okX10 hW.obj rfl w1100 rfl dX10_isLoose_228 ?_
          refine ab_iconst (pc := 231) dX10_isLoose_231 (by decide) ?_
          refine ab_iload (pc := 232) dX10_isLoose_232 rfl ?_
          refine ab_iadd (pc := 234) dX10_isLoose_234 (by omega) (by omega) ?_
          refine ab_iald (pc := 235) (n := 6) (f := F 45) (hW.arr 45 rfl rfl) (by omega) (by omega) dX10_isLoose_235 ?_
          refine ab_aload_n (pc := 236) dX10_isLoose_236 rfl ?_
          refine ab_get (pc := 237) (k := 45) (x := vR (A 45)) okX10 hW.obj rfl w1100 rfl dX10_isLoose_237 ?_
          refine ab_iload (pc := 240) dX10_isLoose_240 rfl ?_
          refine ab_iald (pc := 242) (n := 6) (f := F 45) (hW.arr 45 rfl rfl) (by omega) (by omega) dX10_isLoose_242 ?_
          refine ab_icmp_ne (pc := 243) 248 dX10_isLoose_243 (by decide) (fun c243 => ?_) (fun c243 => ?_)
          · refine ab_iinc (pc := 248) dX10_isLoose_248 rfl rfl (by decide) (by omega) (by omega) ?_
            refine ab_goto (pc := 251) 201 dX10_isLoose_251 (by decide) ?_
            refine ih (y + 1) _ _ _ hW (by omega) (by omega) (by omega) S I (fun b hb => ?_)
            by_cases e : b = y.toNat
            · subst e
              first | exact fun k => c214 (hx.2.mpr k.1) | exact fun k => c224 (hy.2.mpr k.2.1) | exact fun k => c243 (by rw [S1, S2, k.2.2])
            · exact J b (by omega)
          · refine ab_iconst (pc := 246) dX10_isLoose_246 (by decide) ?_
            refine ab_zret (pc := 247) dX10_isLoose_247 rfl (by omega) ?_
            refine ⟨_, _, _, rfl, hW, Or.inr ⟨rfl, ?_⟩⟩
            rw [hl]
            cases g9 : apart sd set with
            | false => rfl
            | true => exact absurd ⟨hx.2.mp (by omega), hy.2.mp (by omega), by omega⟩ (apart_iff.mp g9 x.toNat y.toNat (by omega) (by omega))
theorem m_isLoose_192 {d set : Nat} (d2 : d ≤ 2) (wk : wdOk (F0 42) (F0 43) d) (s8 : set < 8) {sd : List Nat} {p3 : Int} {x6 x7 : Option AbV} (hl : loM (lw (F0 42) (F0 43) d) set = apart sd set) (fu : Nat) : ∀ (x : Int) (x5 : Option AbV) (h : AbH) (s : Nat → Int) (F : Nat → Int → Int), mW h0 m A s0 F0 [] [45] h s F → (3 - x).toNat < fu → (0 ≤ x) → (x ≤ 3) → (sdR (F 45) sd) → (∀ a b : Nat, (a : Int) < x → b < 3 → okA sd set a b) → ab_T l E Y_X10_isLoose 0 0 0 192 [some (vR m), some (vI (d : Int)), some (vI (set : Int)), some (vI p3), some (vI x), x5, x6, x7] [] h (mC h0 m A s0 F0 [] [45] (fun r s' F' => (r = some (vI 1) ∧ loM (lw (F0 42) (F0 43) d) set = true) ∨ (r = some (vI 0) ∧ loM (lw (F0 42) (F0 43) d) set = false))) := by
  induction fu with
  | zero => intro x x5 h s F hW hm; exact absurd hm (Nat.not_lt_zero _)
  | succ fu ih =>
    intro x x5 h s F hW hm x0 x1 S I
    refine ab_iload (pc := 192) dX10_isLoose_192 rfl ?_
    refine ab_iconst (pc := 194) dX10_isLoose_194 (by decide) ?_
    refine ab_icmp_ge (pc := 195) 260 dX10_isLoose_195 (by decide) (fun c195 => ?_) (fun c195 => ?_)
    · refine ab_iconst (pc := 260) dX10_isLoose_260 (by decide) ?_
      refine ab_zret (pc := 261) dX10_isLoose_261 rfl (by omega) ?_
      exact ⟨_, _, _, rfl, hW, Or.inl ⟨rfl, by rw [hl]; exact apart_iff.mpr (fun a b ha hb => I a b (by omega) hb)⟩⟩
    · refine ab_iconst (pc := 198) dX10_isLoose_198 (by decide) ?_
      refine ab_istore (pc := 199) dX10_isLoose_199 rfl (Nat.le_of_ble_eq_true rfl) ?_
      exact m_isLoose_201 d2 wk s8 hl x0 (by omega) (fun x5 h s F hW S I => ih (x + 1) x5 h s F hW (by omega) (by omega) (by omega) S I) _ 0 _ _ _ hW (Nat.lt_succ_self _) (by omega) (by omega) S I (fun b hb => absurd hb (by omega))
theorem m_isLoose_139 {d set : Nat} (d2 : d ≤ 2) (wk : wdOk (F0 42) (F0 43) d) (s8 : set < 8) {g0 : Int → Int} {i av bv : Int} {p3 : Int} (i0 : 0 ≤ i) (i6 : i ≤ 6) (hC : ∀ (x7 : Option AbV) (h : AbH) (s : Nat → Int) (F : Nat → Int → Int), mW h0 m A s0 F0 [] [45] h s F → (∀ j : Int, 0 ≤ j → j < 6 → F 45 j = if g0 j = av then bv else g0 j) → ab_T l E Y_X10_isLoose 0 0 0 81 [some (vR m), some (vI (d : Int)), some (vI (set : Int)), some (vI p3), some (vI (i + 1)), some (vI av), some (vI bv), x7] [] h (mC h0 m A s0 F0 [] [45] (fun r s' F' => (r = some (vI 1) ∧ loM (lw (F0 42) (F0 43) d) set = true) ∨ (r = some (vI 0) ∧ loM (lw (F0 42) (F0 43) d) set = false)))) (fu : Nat) : ∀ (k : Int) (h : AbH) (s : Nat → Int) (F : Nat → Int → Int), mW h0 m A s0 F0 [] [45] h s F → (6 - k).toNat < fu → (0 ≤ k) → (k ≤ 6) → (∀ j : Int, 0 ≤ j → j < k → F 45 j = if g0 j = av then bv else g0 j) → (∀ j : Int, k ≤ j → F 45 j = g0 j) → ab_T l E Y_X10_isLoose 0 0 0 139 [some (vR m), some (vI (d : Int)), some (vI (set : Int)), some (vI p3), some (vI i), some (vI av), some (vI bv), some (vI k)] [] h (mC h0 m A s0 F0 [] [45] (fun r s' F' => (r = some (vI 1) ∧ loM (lw (F0 42) (F0 43) d) set = true) ∨ (r = some (vI 0) ∧ loM (lw (F0 42) (F0 43) d) set = false))) := by
  induction fu with
  | zero => intro k h s F hW hm; exact absurd hm (Nat.not_lt_zero _)
  | succ fu ih =>
    intro k h s F hW hm k0 k1 I J
    have J0 := J k (by omega)
    refine ab_iload (pc := 139) dX10_isLoose_139 rfl ?_
    refine ab_bipush (pc := 141) dX10_isLoose_141 (by decide) ?_
    refine ab_icmp_ge (pc := 143) 183 dX10_isLoose_143 (by decide) (fun c143 => ?_) (fun c143 => ?_)
    · refine ab_iinc (pc := 183) dX10_isLoose_183 rfl rfl (by decide) (by omega) (by omega) ?_
      refine ab_goto (pc := 186) 81 dX10_isLoose_186 (by decide) ?_
      exact hC _ _ _ _ hW (fun j j0 j1 => I j j0 (by omega))
    · refine ab_aload_n (pc := 146) dX10_isLoose_146 rfl ?_
      refine ab_get (pc := 147) (k := 45) (x := vR (A 45)) okX10 hW.obj rfl w1100 rfl dX10_isLoose_147 ?_
      refine ab_iload (pc := 150) dX10_isLoose_150 rfl ?_
      refine ab_aload_n (pc := 152) dX10_isLoose_152 rfl ?_
      refine ab_get (pc := 153) (k := 45) (x := vR (A 45)) okX10 hW.obj rfl w1100 rfl dX10_isLoose_153 ?_
      refine ab_iload (pc := 156) dX10_isLoose_156 rfl ?_
      refine ab_iald (pc := 158) (n := 6) (f := F 45) (hW.arr 45 rfl rfl) (by omega) (by omega) dX10_isLoose_158 ?_
      refine ab_iload (pc := 159) dX10_isLoose_159 rfl ?_
      refine ab_icmp_ne (pc := 161) 169 dX10_isLoose_161 (by decide) (fun c161 => ?_) (fun c161 => ?_)
      · refine ab_aload_n (pc := 169) dX10_isLoose_169 rfl ?_
        refine ab_get (pc := 170) (k := 45) (x := vR (A 45)) okX10 hW.obj rfl w1100 rfl dX10_isLoose_170 ?_
        refine ab_iload (pc := 173) dX10_isLoose_173 rfl ?_
        refine ab_iald (pc := 175) (n := 6) (f := F 45) (hW.arr 45 rfl rfl) (by omega) (by omega) dX10_isLoose_175 ?_
        refine ab_iastG (pc := 176) (n := 6) (f := F 45) (hW.arr 45 rfl rfl) (by decide) (by omega) (by omega) dX10_isLoose_176 (fun h e9 n9 => ?_)
        replace hW := hW.wr (k := 45) rfl e9 n9 (by decide)
        clear e9 n9
        refine ab_iinc (pc := 177) dX10_isLoose_177 rfl rfl (by decide) (by omega) (by omega) ?_
        refine ab_goto (pc := 180) 139 dX10_isLoose_180 (by decide) ?_
        first | exact ih (k + 1) _ _ _ hW (by omega) (by omega) (by omega) (upto_P (R := fun j z => z = if g0 j = av then bv else g0 j) I (by rw [if_pos (by omega)])) (fun j hj => by show ab_f (F 45) k _ j = _; rw [ab_f_ne (by omega)]; exact J j (by omega)) | exact ih (k + 1) _ _ _ hW (by omega) (by omega) (by omega) (upto_P (R := fun j z => z = if g0 j = av then bv else g0 j) I (by rw [if_neg (by omega)]; exact J0)) (fun j hj => by show ab_f (F 45) k _ j = _; rw [ab_f_ne (by omega)]; exact J j (by omega))
      · refine ab_iload (pc := 164) dX10_isLoose_164 rfl ?_
        refine ab_goto (pc := 166) 176 dX10_isLoose_166 (by decide) ?_
        refine ab_iastG (pc := 176) (n := 6) (f := F 45) (hW.arr 45 rfl rfl) (by decide) (by omega) (by omega) dX10_isLoose_176 (fun h e9 n9 => ?_)
        replace hW := hW.wr (k := 45) rfl e9 n9 (by decide)
        clear e9 n9
        refine ab_iinc (pc := 177) dX10_isLoose_177 rfl rfl (by decide) (by omega) (by omega) ?_
        refine ab_goto (pc := 180) 139 dX10_isLoose_180 (by decide) ?_
        first | exact ih (k + 1) _ _ _ hW (by omega) (by omega) (by omega) (upto_P (R := fun j z => z = if g0 j = av then bv else g0 j) I (by rw [if_pos (by omega)])) (fun j hj => by show ab_f (F 45) k _ j = _; rw [ab_f_ne (by omega)]; exact J j (by omega)) | exact ih (k + 1) _ _ _ hW (by omega) (by omega) (by omega) (upto_P (R := fun j z => z = if g0 j = av then bv else g0 j) I (by rw [if_neg (by omega)]; exact J0)) (fun j hj => by show ab_f (F 45) k _ j = _; rw [ab_f_ne (by omega)]; exact J j (by omega))
theorem m_isLoose_81 {d set : Nat} (d2 : d ≤ 2) (wk : wdOk (F0 42) (F0 43) d) (s8 : set < 8) {p3 : Int} (hl : loM (lw (F0 42) (F0 43) d) set = apart (sdL [0, 1, 2, 3, 4, 5] (lw (F0 42) (F0 43) d)) set) (fu : Nat) : ∀ (i : Int) (sd : List Nat) (x5 x6 x7 : Option AbV) (h : AbH) (s : Nat → Int) (F : Nat → Int → Int), mW h0 m A s0 F0 [] [45] h s F → (F0 43 d - i).toNat < fu → (0 ≤ i) → (i ≤ F0 43 d) → (sdR (F 45) sd) → (sdL sd ((lw (F0 42) (F0 43) d).drop i.toNat) = sdL [0, 1, 2, 3, 4, 5] (lw (F0 42) (F0 43) d)) → ab_T l E Y_X10_isLoose 0 0 0 81 [some (vR m), some (vI (d : Int)), some (vI (set : Int)), some (vI p3), some (vI i), x5, x6, x7] [] h (mC h0 m A s0 F0 [] [45] (fun r s' F' => (r = some (vI 1) ∧ loM (lw (F0 42) (F0 43) d) set = true) ∨ (r = some (vI 0) ∧ loM (lw (F0 42) (F0 43) d) set = false))) := by
  induction fu with
  | zero => intro i sd x5 x6 x7 h s F hW hm; exact absurd hm (Nat.not_lt_zero _)
  | succ fu ih =>
    intro i sd x5 x6 x7 h s F hW hm i0 i1 S I
    have n0 := wk.1
    have n6 := wk.2.1
    have le := wk.2.2
    refine ab_iload (pc := 81) dX10_isLoose_81 rfl ?_
    refine ab_iconst (pc := 83) dX10_isLoose_83 (by decide) ?_
    refine ab_iadd (pc := 84) dX10_isLoose_84 (by omega) (by omega) ?_
    refine ab_aload_n (pc := 85) dX10_isLoose_85 rfl ?_
    refine ab_get (pc := 86) (k := 43) (x := vR (A 43)) okX10 hW.obj rfl w1098 rfl dX10_isLoose_86 ?_
    refine ab_iload_n (pc := 89) dX10_isLoose_89 rfl ?_
    refine ab_iald (pc := 90) (n := 10) (f := F0 43) (hW.arr 43 rfl (hW.Fv 43 (by decide))) (by omega) (by omega) dX10_isLoose_90 ?_
    refine ab_icmp_ge (pc := 91) 189 dX10_isLoose_91 (by decide) (fun c91 => ?_) (fun c91 => ?_)
    · refine ab_iconst (pc := 189) dX10_isLoose_189 (by decide) ?_
      refine ab_istore (pc := 190) dX10_isLoose_190 rfl (Nat.le_of_ble_eq_true rfl) ?_
      refine m_isLoose_192 d2 wk s8 (sd := sd) ?_ _ 0 _ _ _ _ hW (Nat.lt_succ_self _) (by omega) (by omega) S (fun a b ha _ => absurd ha (by omega))
      rw [hl, ← I]
      congr 1
      exact sdL_1 (by rw [List.length_drop]; unfold lw; rw [ls_len]; omega)
    · have l1 := le i i0 (by omega)
      have l2 := le (i + 1) (by omega) (by omega)
      rw [← Int.add_assoc] at l2
      have st9 := sd_step (sd := sd) (t := fun j => F0 42 (7 * (d : Int) + j)) (L := (F0 43 d).toNat) (i := i.toNat) (by omega)
      simp only [show ((i.toNat : Nat) : Int) = i by omega, show ((i.toNat + 1 : Nat) : Int) = i + 1 by omega] at st9
      rw [← Int.add_assoc] at st9
      refine ab_aload_n (pc := 94) dX10_isLoose_94 rfl ?_
      refine ab_get (pc := 95) (k := 45) (x := vR (A 45)) okX10 hW.obj rfl w1100 rfl dX10_isLoose_95 ?_
      refine ab_iconst (pc := 98) dX10_isLoose_98 (by decide) ?_
      refine ab_aload_n (pc := 99) dX10_isLoose_99 rfl ?_
      refine ab_get (pc := 100) (k := 42) (x := vR (A 42)) okX10 hW.obj rfl w1097 rfl dX10_isLoose_100 ?_
      refine ab_bipush (pc := 103) dX10_isLoose_103 (by decide) ?_
      refine ab_iload_n (pc := 105) dX10_isLoose_105 rfl ?_
      refine ab_imul (pc := 106) dX10_isLoose_106 (by omega) (by omega) ?_
      refine ab_iload (pc := 107) dX10_isLoose_107 rfl ?_
      refine ab_iadd (pc := 109) dX10_isLoose_109 (by omega) (by omega) ?_
      refine ab_iald (pc := 110) (n := 70) (f := F0 42) (hW.arr 42 rfl (hW.Fv 42 (by decide))) (by omega) (by omega) dX10_isLoose_110 ?_
      refine ab_iadd (pc := 111) dX10_isLoose_111 (by omega) (by omega) ?_
      refine ab_iald (pc := 112) (n := 6) (f := F 45) (hW.arr 45 rfl rfl) (by omega) (by omega) dX10_isLoose_112 ?_
      refine ab_istore (pc := 113) dX10_isLoose_113 rfl (Nat.le_of_ble_eq_true rfl) ?_
      refine ab_aload_n (pc := 115) dX10_isLoose_115 rfl ?_
      refine ab_get (pc := 116) (k := 45) (x := vR (A 45)) okX10 hW.obj rfl w1100 rfl dX10_isLoose_116 ?_
      refine ab_aload_n (pc := 119) dX10_isLoose_119 rfl ?_
      refine ab_get (pc := 120) (k := 42) (x := vR (A 42)) okX10 hW.obj rfl w1097 rfl dX10_isLoose_120 ?_
      refine ab_bipush (pc := 123) dX10_isLoose_123 (by decide) ?_
      refine ab_iload_n (pc := 125) dX10_isLoose_125 rfl ?_
      refine ab_imul (pc := 126) dX10_isLoose_126 (by omega) (by omega) ?_
      refine ab_iload (pc := 127) dX10_isLoose_127 rfl ?_
      refine ab_iadd (pc := 129) dX10_isLoose_129 (by omega) (by omega) ?_
      refine ab_iconst (pc := 130) dX10_isLoose_130 (by decide) ?_
      refine ab_iadd (pc := 131) dX10_isLoose_131 (by omega) (by omega) ?_
      refine ab_iald (pc := 132) (n := 70) (f := F0 42) (hW.arr 42 rfl (hW.Fv 42 (by decide))) (by omega) (by omega) dX10_isLoose_132 ?_
      refine ab_iald (pc := 133) (n := 6) (f := F 45) (hW.arr 45 rfl rfl) (by omega) (by omega) dX10_isLoose_133 ?_
      refine ab_istore (pc := 134) dX10_isLoose_134 rfl (Nat.le_of_ble_eq_true rfl) ?_
      refine ab_iconst (pc := 136) dX10_isLoose_136 (by decide) ?_
      refine ab_istore (pc := 137) dX10_isLoose_137 rfl (Nat.le_of_ble_eq_true rfl) ?_
      exact m_isLoose_139 d2 wk s8 (g0 := F 45) i0 (by omega) (fun x7 h s F hW I9 => ih (i + 1) _ _ _ x7 h s F hW (by omega) (by omega) (by omega) (sdR_mrg S l1.1 l1.2 l2.1 l2.2 I9) (by rw [show (i + 1).toNat = i.toNat + 1 by omega]; exact st9.symm.trans I)) _ 0 _ _ _ hW (Nat.lt_succ_self _) (by omega) (by omega) (fun j j0 j1 => absurd j1 (by omega)) (fun j _ => rfl)
theorem m_isLoose_56 {d set : Nat} (d2 : d ≤ 2) (wk : wdOk (F0 42) (F0 43) d) (s8 : set < 8) {p3 : Int} (hl : loM (lw (F0 42) (F0 43) d) set = apart (sdL [0, 1, 2, 3, 4, 5] (lw (F0 42) (F0 43) d)) set) (fu : Nat) : ∀ (k : Int) (h : AbH) (s : Nat → Int) (F : Nat → Int → Int), mW h0 m A s0 F0 [] [45] h s F → (6 - k).toNat < fu → (0 ≤ k) → (k ≤ 6) → (∀ j : Int, 0 ≤ j → j < k → F 45 j = j) → ab_T l E Y_X10_isLoose 0 0 0 56 [some (vR m), some (vI (d : Int)), some (vI (set : Int)), some (vI p3), some (vI k), none, none, none] [] h (mC h0 m A s0 F0 [] [45] (fun r s' F' => (r = some (vI 1) ∧ loM (lw (F0 42) (F0 43) d) set = true) ∨ (r = some (vI 0) ∧ loM (lw (F0 42) (F0 43) d) set = false))) := by
  induction fu with
  | zero => intro k h s F hW hm; exact absurd hm (Nat.not_lt_zero _)
  | succ fu ih =>
    intro k h s F hW hm k0 k1 I
    have n0 := wk.1
    have n6 := wk.2.1
    have le := wk.2.2
    refine ab_iload (pc := 56) dX10_isLoose_56 rfl ?_
    refine ab_bipush (pc := 58) dX10_isLoose_58 (by decide) ?_
    refine ab_icmp_ge (pc := 60) 78 dX10_isLoose_60 (by decide) (fun c60 => ?_) (fun c60 => ?_)
    · refine ab_iconst (pc := 78) dX10_isLoose_78 (by decide) ?_
      refine ab_istore (pc := 79) dX10_isLoose_79 rfl (Nat.le_of_ble_eq_true rfl) ?_
      exact m_isLoose_81 d2 wk s8 hl _ 0 [0, 1, 2, 3, 4, 5] _ _ _ _ _ _ hW (Nat.lt_succ_self _) (by omega) (by omega) (sdR_0 (fun j j0 j1 => I j j0 (by omega))) rfl
    · refine ab_aload_n (pc := 63) dX10_isLoose_63 rfl ?_
      refine ab_get (pc := 64) (k := 45) (x := vR (A 45)) okX10 hW.obj rfl w1100 rfl dX10_isLoose_64 ?_
      refine ab_iload (pc := 67) dX10_isLoose_67 rfl ?_
      refine ab_iload (pc := 69) dX10_isLoose_69 rfl ?_
      refine ab_iastG (pc := 71) (n := 6) (f := F 45) (hW.arr 45 rfl rfl) (by decide) (by omega) (by omega) dX10_isLoose_71 (fun h e9 n9 => ?_)
      replace hW := hW.wr (k := 45) rfl e9 n9 (by decide)
      clear e9 n9
      refine ab_iinc (pc := 72) dX10_isLoose_72 rfl rfl (by decide) (by omega) (by omega) ?_
      refine ab_goto (pc := 75) 56 dX10_isLoose_75 (by decide) ?_
      exact ih (k + 1) _ _ _ hW (by omega) (by omega) (by omega) (upto_P (R := fun j z => z = j) I rfl)
theorem m_isLoose_5 {d set : Nat} (d2 : d ≤ 2) (wk : wdOk (F0 42) (F0 43) d) (s8 : set < 8) (fu : Nat) : ∀ (i : Int) (h : AbH) (s : Nat → Int) (F : Nat → Int → Int), mW h0 m A s0 F0 [] [45] h s F → (F0 43 d - i).toNat < fu → (0 ≤ i) → (i ≤ F0 43 d) → ab_T l E Y_X10_isLoose 0 0 0 5 [some (vR m), some (vI (d : Int)), some (vI (set : Int)), some (vI (unkN (ls (fun j => F0 42 (7 * (d : Int) + j)) i.toNat) : Int)), some (vI i), none, none, none] [] h (mC h0 m A s0 F0 [] [45] (fun r s' F' => (r = some (vI 1) ∧ loM (lw (F0 42) (F0 43) d) set = true) ∨ (r = some (vI 0) ∧ loM (lw (F0 42) (F0 43) d) set = false))) := by
  induction fu with
  | zero => intro i h s F hW hm; exact absurd hm (Nat.not_lt_zero _)
  | succ fu ih =>
    intro i h s F hW hm i0 i1
    have n0 := wk.1
    have n6 := wk.2.1
    have le := wk.2.2
    refine ab_iload (pc := 5) dX10_isLoose_5 rfl ?_
    refine ab_aload_n (pc := 7) dX10_isLoose_7 rfl ?_
    refine ab_get (pc := 8) (k := 43) (x := vR (A 43)) okX10 hW.obj rfl w1098 rfl dX10_isLoose_8 ?_
    refine ab_iload_n (pc := 11) dX10_isLoose_11 rfl ?_
    refine ab_iald (pc := 12) (n := 10) (f := F0 43) (hW.arr 43 rfl (hW.Fv 43 (by decide))) (by omega) (by omega) dX10_isLoose_12 ?_
    refine ab_icmp_ge (pc := 13) 39 dX10_isLoose_13 (by decide) (fun c13 => ?_) (fun c13 => ?_)
    · have ei : i = F0 43 d := by omega
      rw [ei]
      have o8 : (ab_and (set : Int) (ab_xor ((unkN (lw (F0 42) (F0 43) d) : Nat) : Int) (-1)) = 0 ↔ sub set (unkN (lw (F0 42) (F0 43) d)) = true) := (off8 ⟨set, s8⟩ ⟨unkN (lw (F0 42) (F0 43) d), unk8 (lw_3 wk)⟩).1
      refine ab_iload_n (pc := 39) dX10_isLoose_39 rfl ?_
      refine ab_if_eq (pc := 40) 51 dX10_isLoose_40 (by decide) (fun c40 => ?_) (fun c40 => ?_)
      · refine ab_iconst (pc := 51) dX10_isLoose_51 (by decide) ?_
        refine ab_zret (pc := 52) dX10_isLoose_52 rfl (by omega) ?_
        first | exact ⟨_, _, _, rfl, hW, Or.inr ⟨rfl, by have e0 : set = 0 := (by omega); rw [e0]; exact loM_0⟩⟩ | exact ⟨_, _, _, rfl, hW, Or.inr ⟨rfl, loM_ns (by cases g9 : sub set (unkN (lw (F0 42) (F0 43) d)); rfl; exact absurd (o8.mpr g9) c48)⟩⟩
      · refine ab_iload_n (pc := 43) dX10_isLoose_43 rfl ?_
        refine ab_iload_n (pc := 44) dX10_isLoose_44 rfl ?_
        refine ab_iconst (pc := 45) dX10_isLoose_45 (by decide) ?_
        refine ab_ixor (pc := 46) dX10_isLoose_46 ?_
        refine ab_iand (pc := 47) dX10_isLoose_47 ?_
        refine ab_if_eq (pc := 48) 53 dX10_isLoose_48 (by decide) (fun c48 => ?_) (fun c48 => ?_)
        · refine ab_iconst (pc := 53) dX10_isLoose_53 (by decide) ?_
          refine ab_istore (pc := 54) dX10_isLoose_54 rfl (Nat.le_of_ble_eq_true rfl) ?_
          exact m_isLoose_56 d2 wk s8 (loM_ap (by omega) (o8.mp c48)) _ 0 _ _ _ hW (Nat.lt_succ_self _) (by omega) (by omega) (fun j j0 j1 => absurd j1 (by omega))
        · refine ab_iconst (pc := 51) dX10_isLoose_51 (by decide) ?_
          refine ab_zret (pc := 52) dX10_isLoose_52 rfl (by omega) ?_
          first | exact ⟨_, _, _, rfl, hW, Or.inr ⟨rfl, by have e0 : set = 0 := (by omega); rw [e0]; exact loM_0⟩⟩ | exact ⟨_, _, _, rfl, hW, Or.inr ⟨rfl, loM_ns (by cases g9 : sub set (unkN (lw (F0 42) (F0 43) d)); rfl; exact absurd (o8.mpr g9) c48)⟩⟩
    · have l1 := le i i0 (by omega)
      have ul := unkN_lt (ls (fun j => F0 42 (7 * (d : Int) + j)) i.toNat) 0 (ls_mem (fun j j0 j1 => le j j0 (by omega))) (by decide)
      have et : (((F0 42 (7 * (d : Int) + i)).toNat : Nat) : Int) = F0 42 (7 * (d : Int) + i) := by omega
      have es : ls (fun j => F0 42 (7 * (d : Int) + j)) (i + 1).toNat = ls (fun j => F0 42 (7 * (d : Int) + j)) i.toNat ++ [(F0 42 (7 * (d : Int) + i)).toNat] := by have := ls_succ (t := fun j => F0 42 (7 * (d : Int) + j)) (k := i.toNat); rw [show ((i.toNat : Nat) : Int) = i by omega] at this; rw [show (i + 1).toNat = i.toNat + 1 by omega]; exact this
      have eo : ab_or (unkN (ls (fun j => F0 42 (7 * (d : Int) + j)) i.toNat) : Int) (ab_shl 1 (F0 42 (7 * (d : Int) + i))) = ((unkN (ls (fun j => F0 42 (7 * (d : Int) + j)) (i + 1).toNat) : Nat) : Int) := by
        rw [es, unkN_snoc, ← et, shl_n (by omega), or_n (by unfold unkN; omega) (by have : (F0 42 (7 * (d : Int) + i)).toNat = 0 ∨ (F0 42 (7 * (d : Int) + i)).toNat = 1 ∨ (F0 42 (7 * (d : Int) + i)).toNat = 2 := (by omega); rcases this with e | e | e <;> (rw [e]; decide)), et]
      refine ab_iload_n (pc := 16) dX10_isLoose_16 rfl ?_
      refine ab_iconst (pc := 17) dX10_isLoose_17 (by decide) ?_
      refine ab_aload_n (pc := 18) dX10_isLoose_18 rfl ?_
      refine ab_get (pc := 19) (k := 42) (x := vR (A 42)) okX10 hW.obj rfl w1097 rfl dX10_isLoose_19 ?_
      refine ab_bipush (pc := 22) dX10_isLoose_22 (by decide) ?_
      refine ab_iload_n (pc := 24) dX10_isLoose_24 rfl ?_
      refine ab_imul (pc := 25) dX10_isLoose_25 (by omega) (by omega) ?_
      refine ab_iload (pc := 26) dX10_isLoose_26 rfl ?_
      refine ab_iadd (pc := 28) dX10_isLoose_28 (by omega) (by omega) ?_
      refine ab_iald (pc := 29) (n := 70) (f := F0 42) (hW.arr 42 rfl (hW.Fv 42 (by decide))) (by omega) (by omega) dX10_isLoose_29 ?_
      refine ab_ishl (pc := 30) dX10_isLoose_30 ?_
      refine ab_ior (pc := 31) dX10_isLoose_31 ?_
      rw [eo]
      refine ab_istore_n (pc := 32) dX10_isLoose_32 rfl (Nat.le_of_ble_eq_true rfl) ?_
      refine ab_iinc (pc := 33) dX10_isLoose_33 rfl rfl (by decide) (by omega) (by omega) ?_
      refine ab_goto (pc := 36) 5 dX10_isLoose_36 (by decide) ?_
      exact ih (i + 1) _ _ _ hW (by omega) (by omega) (by omega)
theorem m_isLoose (hG : ab_G l E) (hM : mR h0 m A s0 F0) {d set : Nat} (d2 : d ≤ 2) (wk : wdOk (F0 42) (F0 43) d) (s8 : set < 8) : ab_M l E Y_X10_isLoose 8 0 0 0 [vR m, vI (d : Int), vI (set : Int)] h0 (mC h0 m A s0 F0 [] [45] (fun r s' F' => (r = some (vI 1) ∧ loM (lw (F0 42) (F0 43) d) set = true) ∨ (r = some (vI 0) ∧ loM (lw (F0 42) (F0 43) d) set = false))) := by
  refine ab_M.of (L0 := [some (vR m), some (vI (d : Int)), some (vI (set : Int)), none, none, none, none, none]) hG rfl rfl (Nat.le_of_ble_eq_true rfl) rfl ?_
  have hW : mW h0 m A s0 F0 [] [45] h0 s0 F0 := mW.start hM
  have n0 := wk.1
  have n6 := wk.2.1
  have le := wk.2.2
  refine ab_iconst (pc := 0) dX10_isLoose_0 (by decide) ?_
  refine ab_istore_n (pc := 1) dX10_isLoose_1 rfl (Nat.le_of_ble_eq_true rfl) ?_
  refine ab_iconst (pc := 2) dX10_isLoose_2 (by decide) ?_
  refine ab_istore (pc := 3) dX10_isLoose_3 rfl (Nat.le_of_ble_eq_true rfl) ?_
  exact m_isLoose_5 d2 wk s8 _ 0 _ _ _ hW (Nat.lt_succ_self _) (by omega) (by omega)
end M17
