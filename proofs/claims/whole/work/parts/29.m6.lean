/-! the reference: spans that are barred -/
section M6
variable {l : Launch} {E : AbE} {m : Nat} {A : Nat → Nat} {s0 : Nat → Int} {F0 : Nat → Int → Int} {h0 : AbH}
theorem bar0 {F : Nat → Int → Int} {q : Int} {f : Int → Int} {a b : Int} (k : F 8 q = 0) : Bar F q f a b ↔ (b - a = F 11 q ∧ ∀ i : Int, 0 ≤ i → i < b - a → f (a + i) = F 12 (80 * q + i)) := by
  unfold Bar
  constructor
  · rintro (h | h | h | h | h | h)
    · exact h.2
    · exact absurd (k.symm.trans h.1) (by decide)
    · exact absurd (k.symm.trans h.1) (by decide)
    · exact absurd (k.symm.trans h.1) (by decide)
    · exact absurd (k.symm.trans h.1) (by decide)
    · exact absurd (k.symm.trans h.1) (by decide)
  · intro h
    exact Or.inl ⟨k, h⟩
theorem bar1 {F : Nat → Int → Int} {q : Int} {f : Int → Int} {a b : Int} (k : F 8 q = 1) : Bar F q f a b ↔ (∃ p : Int, 1 ≤ p ∧ isP f a b p ∧ F 9 q * p ≤ (b - a) * F 10 q) := by
  unfold Bar
  constructor
  · rintro (h | h | h | h | h | h)
    · exact absurd (k.symm.trans h.1) (by decide)
    · exact h.2
    · exact absurd (k.symm.trans h.1) (by decide)
    · exact absurd (k.symm.trans h.1) (by decide)
    · exact absurd (k.symm.trans h.1) (by decide)
    · exact absurd (k.symm.trans h.1) (by decide)
  · intro h
    exact Or.inr (Or.inl ⟨k, h⟩)
theorem bar2 {F : Nat → Int → Int} {q : Int} {f : Int → Int} {a b : Int} (k : F 8 q = 2) : Bar F q f a b ↔ (∃ p : Int, 1 ≤ p ∧ isP f a b p ∧ F 9 q * p < (b - a) * F 10 q) := by
  unfold Bar
  constructor
  · rintro (h | h | h | h | h | h)
    · exact absurd (k.symm.trans h.1) (by decide)
    · exact absurd (k.symm.trans h.1) (by decide)
    · exact h.2
    · exact absurd (k.symm.trans h.1) (by decide)
    · exact absurd (k.symm.trans h.1) (by decide)
    · exact absurd (k.symm.trans h.1) (by decide)
  · intro h
    exact Or.inr (Or.inr (Or.inl ⟨k, h⟩))
theorem bar3 {F : Nat → Int → Int} {q : Int} {f : Int → Int} {a b : Int} (k : F 8 q = 3) : Bar F q f a b ↔ (∃ d : Int, b - a = 2 * d ∧ dif f a (a + d) d ≤ F 9 q ∧ dif f a (a + d) d < d) := by
  unfold Bar
  constructor
  · rintro (h | h | h | h | h | h)
    · exact absurd (k.symm.trans h.1) (by decide)
    · exact absurd (k.symm.trans h.1) (by decide)
    · exact absurd (k.symm.trans h.1) (by decide)
    · exact h.2
    · exact absurd (k.symm.trans h.1) (by decide)
    · exact absurd (k.symm.trans h.1) (by decide)
  · intro h
    exact Or.inr (Or.inr (Or.inr (Or.inl ⟨k, h⟩)))
theorem bar4 {F : Nat → Int → Int} {q : Int} {f : Int → Int} {a b : Int} (k : F 8 q = 4) : Bar F q f a b ↔ (∃ d : Int, b - a = 2 * d ∧ ∀ c : Int, 0 ≤ c → c < 8 → cnt f c a d = cnt f c (a + d) d) := by
  unfold Bar
  constructor
  · rintro (h | h | h | h | h | h)
    · exact absurd (k.symm.trans h.1) (by decide)
    · exact absurd (k.symm.trans h.1) (by decide)
    · exact absurd (k.symm.trans h.1) (by decide)
    · exact absurd (k.symm.trans h.1) (by decide)
    · exact h.2
    · exact absurd (k.symm.trans h.1) (by decide)
  · intro h
    exact Or.inr (Or.inr (Or.inr (Or.inr (Or.inl ⟨k, h⟩))))
theorem bar5 {F : Nat → Int → Int} {q : Int} {f : Int → Int} {a b : Int} (k : F 8 q = 5) : Bar F q f a b ↔ (Comes (F 12) (80 * q) (F 11 q) f a b) := by
  unfold Bar
  constructor
  · rintro (h | h | h | h | h | h)
    · exact absurd (k.symm.trans h.1) (by decide)
    · exact absurd (k.symm.trans h.1) (by decide)
    · exact absurd (k.symm.trans h.1) (by decide)
    · exact absurd (k.symm.trans h.1) (by decide)
    · exact absurd (k.symm.trans h.1) (by decide)
    · exact h.2
  · intro h
    exact Or.inr (Or.inr (Or.inr (Or.inr (Or.inr ⟨k, h⟩))))
theorem mul_bd {x y X Y : Int} (x0 : 0 ≤ x) (x1 : x ≤ X) (y0 : 0 ≤ y) (y1 : y ≤ Y) : 0 ≤ x * y ∧ x * y ≤ X * Y := ⟨Int.mul_nonneg x0 y0, Int.mul_le_mul x1 y1 y0 (by omega)⟩
theorem m_isBarred_69 {K : Nat} (hK : wK K) {q a b : Int} (q0 : 0 ≤ q) (q1 : q < 12) (a0 : 0 ≤ a) (ab : a < b) (bN : b ≤ mLen K) (le : ∀ j : Int, a ≤ j → j < b → 0 ≤ F0 K j ∧ F0 K j ≤ 7) (k : F0 8 q = 0) (k1 : 1 ≤ F0 11 q) (k2 : F0 11 q ≤ 60) (fu : Nat) : ∀ (i u : Int) (h : AbH) (s : Nat → Int) (F : Nat → Int → Int), mW h0 m A s0 F0 [] [13, 14, 15] h s F → (b - a - i).toNat < fu → (0 ≤ i) → (i ≤ b - a) → ((u = 1 ∧ b - a = F0 11 q ∧ ∀ t : Int, 0 ≤ t → t < i → F0 K (a + t) = F0 12 (80 * q + t)) ∨ (u = 0 ∧ ¬ Bar F0 q (F0 K) a b)) → ab_T l E Y_X10_isBarred 2 0 0 69 [some (vR m), some (vI q), some (vR (A K)), some (vI a), some (vI b), some (vI (b - a)), some (vI u), some (vI i), none] [] h (mC h0 m A s0 F0 [] [13, 14, 15] (fun r s' F' => (r = some (vI 1) ∧ Bar F0 q (F0 K) a b) ∨ (r = some (vI 0) ∧ ¬ Bar F0 q (F0 K) a b))) := by
  induction fu with
  | zero => intro i u h s F hW hm; exact absurd hm (Nat.not_lt_zero _)
  | succ fu ih =>
    intro i u h s F hW hm i0 i1 hu
    have hk8 := wK_le hK
    have hu9 : u = 0 ∨ (u = 1 ∧ b - a = F0 11 q) := by rcases hu with h | h; exact Or.inr ⟨h.1, h.2.1⟩; exact Or.inl h.1
    refine ab_iload (pc := 69) dX10_isBarred_69 rfl ?_
    refine ab_iload (pc := 71) dX10_isBarred_71 rfl ?_
    refine ab_icmp_ge (pc := 73) 115 dX10_isBarred_73 (by decide) (fun c73 => ?_) (fun c73 => ?_)
    · refine ab_iload (pc := 115) dX10_isBarred_115 rfl ?_
      refine ab_zret (pc := 117) dX10_isBarred_117 rfl (by omega) ?_
      rcases hu with ⟨rfl, z1, z2⟩ | ⟨rfl, z1⟩
      · exact ⟨_, _, _, rfl, hW, Or.inl ⟨rfl, (bar0 k).mpr ⟨z1, fun t t0 t1 => z2 t t0 (by omega)⟩⟩⟩
      · exact ⟨_, _, _, rfl, hW, Or.inr ⟨rfl, z1⟩⟩
    · refine ab_iload (pc := 76) dX10_isBarred_76 rfl ?_
      refine ab_if_eq (pc := 78) 115 dX10_isBarred_78 (by decide) (fun c78 => ?_) (fun c78 => ?_)
      · refine ab_iload (pc := 115) dX10_isBarred_115 rfl ?_
        refine ab_zret (pc := 117) dX10_isBarred_117 rfl (by omega) ?_
        rcases hu with ⟨rfl, z1, z2⟩ | ⟨rfl, z1⟩
        · exact ⟨_, _, _, rfl, hW, Or.inl ⟨rfl, (bar0 k).mpr ⟨z1, fun t t0 t1 => z2 t t0 (by omega)⟩⟩⟩
        · exact ⟨_, _, _, rfl, hW, Or.inr ⟨rfl, z1⟩⟩
      · refine ab_via (S := []) 107 (fun v : Int => (v = 1 ∧ F0 K (a + i) = F0 12 (80 * q + i)) ∨ (v = 0 ∧ ¬ F0 K (a + i) = F0 12 (80 * q + i))) (fun v hv => ?_) (fun J107 => ?_)
        · refine ab_istore (pc := 107) dX10_isBarred_107 rfl (Nat.le_of_ble_eq_true rfl) ?_
          refine ab_iinc (pc := 109) dX10_isBarred_109 rfl rfl (by decide) (by omega) (by omega) ?_
          refine ab_goto (pc := 112) 69 dX10_isBarred_112 (by decide) ?_
          refine ih (i + 1) v _ _ _ hW (by omega) (by omega) (by omega) ?_
          rcases hu with ⟨hu, z1, z2⟩ | ⟨hu, z1⟩
          · rcases hv with ⟨hv, z3⟩ | ⟨hv, z3⟩
            · refine Or.inl ⟨hv, z1, fun t t0 t1 => ?_⟩
              by_cases e : t = i
              · rw [e]; exact z3
              · exact z2 t t0 (by omega)
            · exact Or.inr ⟨hv, fun e => z3 (((bar0 k).mp e).2 i i0 (by omega))⟩
          · exact absurd hu (by omega)
        · refine ab_aload_n (pc := 81) dX10_isBarred_81 rfl ?_
          refine ab_iload_n (pc := 82) dX10_isBarred_82 rfl ?_
          refine ab_iload (pc := 83) dX10_isBarred_83 rfl ?_
          refine ab_iadd (pc := 85) dX10_isBarred_85 (by omega) (by omega) ?_
          refine ab_iald (pc := 86) (n := mLen K) (f := F0 K) (hW.arrK hK (by decide)) (by omega) (by omega) dX10_isBarred_86 ?_
          refine ab_aload_n (pc := 87) dX10_isBarred_87 rfl ?_
          refine ab_get (pc := 88) (k := 12) (x := vR (A 12)) okX10 hW.obj rfl w1067 rfl dX10_isBarred_88 ?_
          refine ab_bipush (pc := 91) dX10_isBarred_91 (by decide) ?_
          refine ab_iload_n (pc := 93) dX10_isBarred_93 rfl ?_
          refine ab_imul (pc := 94) dX10_isBarred_94 (by omega) (by omega) ?_
          refine ab_iload (pc := 95) dX10_isBarred_95 rfl ?_
          refine ab_iadd (pc := 97) dX10_isBarred_97 (by omega) (by omega) ?_
          refine ab_iald (pc := 98) (n := 960) (f := F0 12) (hW.arr 12 rfl (hW.Fv 12 (by decide))) (by omega) (by omega) dX10_isBarred_98 ?_
          refine ab_icmp_ne (pc := 99) 106 dX10_isBarred_99 (by decide) (fun c99 => ?_) (fun c99 => ?_)
          · refine ab_iconst (pc := 106) dX10_isBarred_106 (by decide) ?_
            exact J107 (0) (by omega)
          · refine ab_iconst (pc := 102) dX10_isBarred_102 (by decide) ?_
            refine ab_goto (pc := 103) 107 dX10_isBarred_103 (by decide) ?_
            exact J107 (1) (by omega)
theorem m_isBarred_204 {K : Nat} (hK : wK K) {q a b : Int} (q0 : 0 ≤ q) (q1 : q < 12) (a0 : 0 ≤ a) (ab : a < b) (bN : b ≤ mLen K) (le : ∀ j : Int, a ≤ j → j < b → 0 ≤ F0 K j ∧ F0 K j ≤ 7) {d9 : Int} (k : F0 8 q = 3) (k1 : 0 ≤ F0 9 q) (k2 : F0 9 q ≤ 9) (hd : b - a = 2 * d9) (fu : Nat) : ∀ (i : Int) (h : AbH) (s : Nat → Int) (F : Nat → Int → Int), mW h0 m A s0 F0 [] [13, 14, 15] h s F → (d9 - i).toNat < fu → (0 ≤ i) → (i ≤ d9) → ab_T l E Y_X10_isBarred 2 0 0 204 [some (vR m), some (vI q), some (vR (A K)), some (vI a), some (vI b), some (vI (b - a)), some (vI d9), some (vI (dif (F0 K) a (a + d9) i)), some (vI (a + i))] [] h (mC h0 m A s0 F0 [] [13, 14, 15] (fun r s' F' => (r = some (vI 1) ∧ Bar F0 q (F0 K) a b) ∨ (r = some (vI 0) ∧ ¬ Bar F0 q (F0 K) a b))) := by
  induction fu with
  | zero => intro i h s F hW hm; exact absurd hm (Nat.not_lt_zero _)
  | succ fu ih =>
    intro i h s F hW hm i0 i1
    have hk8 := wK_le hK
    have db := dif_bd (f := F0 K) (a := a) (b := a + d9) i0
    refine ab_iload (pc := 204) dX10_isBarred_204 rfl ?_
    refine ab_iload_n (pc := 206) dX10_isBarred_206 rfl ?_
    refine ab_iload (pc := 207) dX10_isBarred_207 rfl ?_
    refine ab_iadd (pc := 209) dX10_isBarred_209 (by omega) (by omega) ?_
    refine ab_icmp_ge (pc := 210) 243 dX10_isBarred_210 (by decide) (fun c210 => ?_) (fun c210 => ?_)
    · refine ab_iload (pc := 243) dX10_isBarred_243 rfl ?_
      refine ab_aload_n (pc := 245) dX10_isBarred_245 rfl ?_
      refine ab_get (pc := 246) (k := 9) (x := vR (A 9)) okX10 hW.obj rfl w1064 rfl dX10_isBarred_246 ?_
      refine ab_iload_n (pc := 249) dX10_isBarred_249 rfl ?_
      refine ab_iald (pc := 250) (n := 12) (f := F0 9) (hW.arr 9 rfl (hW.Fv 9 (by decide))) (by omega) (by omega) dX10_isBarred_250 ?_
      refine ab_icmp_gt (pc := 251) 265 dX10_isBarred_251 (by decide) (fun c251 => ?_) (fun c251 => ?_)
      · refine ab_iconst (pc := 265) dX10_isBarred_265 (by decide) ?_
        refine ab_zret (pc := 266) dX10_isBarred_266 rfl (by omega) ?_
        obtain rfl : i = d9 := by omega
        first
        | (exact ⟨_, _, _, rfl, hW, Or.inl ⟨rfl, (bar3 k).mpr ⟨i, hd, by omega, by omega⟩⟩⟩)
        | (refine ⟨_, _, _, rfl, hW, Or.inr ⟨rfl, fun e => ?_⟩⟩; obtain ⟨d, e1, e2, e3⟩ := (bar3 k).mp e; obtain rfl : d = i := (by omega); omega)
      · refine ab_iload (pc := 254) dX10_isBarred_254 rfl ?_
        refine ab_iload (pc := 256) dX10_isBarred_256 rfl ?_
        refine ab_icmp_ge (pc := 258) 265 dX10_isBarred_258 (by decide) (fun c258 => ?_) (fun c258 => ?_)
        · refine ab_iconst (pc := 265) dX10_isBarred_265 (by decide) ?_
          refine ab_zret (pc := 266) dX10_isBarred_266 rfl (by omega) ?_
          obtain rfl : i = d9 := by omega
          first
          | (exact ⟨_, _, _, rfl, hW, Or.inl ⟨rfl, (bar3 k).mpr ⟨i, hd, by omega, by omega⟩⟩⟩)
          | (refine ⟨_, _, _, rfl, hW, Or.inr ⟨rfl, fun e => ?_⟩⟩; obtain ⟨d, e1, e2, e3⟩ := (bar3 k).mp e; obtain rfl : d = i := (by omega); omega)
        · refine ab_iconst (pc := 261) dX10_isBarred_261 (by decide) ?_
          refine ab_goto (pc := 262) 266 dX10_isBarred_262 (by decide) ?_
          refine ab_zret (pc := 266) dX10_isBarred_266 rfl (by omega) ?_
          obtain rfl : i = d9 := by omega
          first
          | (exact ⟨_, _, _, rfl, hW, Or.inl ⟨rfl, (bar3 k).mpr ⟨i, hd, by omega, by omega⟩⟩⟩)
          | (refine ⟨_, _, _, rfl, hW, Or.inr ⟨rfl, fun e => ?_⟩⟩; obtain ⟨d, e1, e2, e3⟩ := (bar3 k).mp e; obtain rfl : d = i := (by omega); omega)
    · refine ab_iload (pc := 213) dX10_isBarred_213 rfl ?_
      refine ab_via (S := [vI ((dif (F0 K) a (a + d9) i))]) 234 (fun v : Int => v = (if F0 K (a + i) = F0 K (a + d9 + i) then 0 else 1)) (fun v hv => ?_) (fun J234 => ?_)
      · have v9 : v = 0 ∨ v = 1 := by rw [hv]; split; exact Or.inl rfl; exact Or.inr rfl
        refine ab_iadd (pc := 234) dX10_isBarred_234 (by omega) (by omega) ?_
        refine ab_istore (pc := 235) dX10_isBarred_235 rfl (Nat.le_of_ble_eq_true rfl) ?_
        refine ab_iinc (pc := 237) dX10_isBarred_237 rfl rfl (by decide) (by omega) (by omega) ?_
        refine ab_goto (pc := 240) 204 dX10_isBarred_240 (by decide) ?_
        have g9 := ih (i + 1) _ _ _ hW (by omega) (by omega) (by omega)
        rw [dif_step i0, ← hv, show a + (i + 1) = a + i + 1 by omega] at g9
        exact g9
      · refine ab_aload_n (pc := 215) dX10_isBarred_215 rfl ?_
        refine ab_iload (pc := 216) dX10_isBarred_216 rfl ?_
        refine ab_iald (pc := 218) (n := mLen K) (f := F0 K) (hW.arrK hK (by decide)) (by omega) (by omega) dX10_isBarred_218 ?_
        refine ab_aload_n (pc := 219) dX10_isBarred_219 rfl ?_
        refine ab_iload (pc := 220) dX10_isBarred_220 rfl ?_
        refine ab_iload (pc := 222) dX10_isBarred_222 rfl ?_
        refine ab_iadd (pc := 224) dX10_isBarred_224 (by omega) (by omega) ?_
        refine ab_iald (pc := 225) (n := mLen K) (f := F0 K) (hW.arrK hK (by decide)) (by omega) (by omega) dX10_isBarred_225 ?_
        refine ab_icmp_ne (pc := 226) 233 dX10_isBarred_226 (by decide) (fun c226 => ?_) (fun c226 => ?_)
        · refine ab_iconst (pc := 233) dX10_isBarred_233 (by decide) ?_
          refine J234 _ ?_
          rw [show a + d9 + i = a + i + d9 by omega]
          simp [*]
        · refine ab_iconst (pc := 229) dX10_isBarred_229 (by decide) ?_
          refine ab_goto (pc := 230) 234 dX10_isBarred_230 (by decide) ?_
          refine J234 _ ?_
          rw [show a + d9 + i = a + i + d9 by omega]
          simp [*]
theorem m_isBarred (hG : ab_G l E) (hM : mR h0 m A s0 F0) {K : Nat} (hK : wK K) {q a b : Int} (q0 : 0 ≤ q) (q1 : q < 12) (a0 : 0 ≤ a) (ab : a < b) (bN : b ≤ mLen K) (le : ∀ j : Int, a ≤ j → j < b → 0 ≤ F0 K j ∧ F0 K j ≤ 7) (lb : lawB F0 q) : ab_M l E Y_X10_isBarred 9 2 0 0 [vR m, vI q, vR (A K), vI a, vI b] h0 (mC h0 m A s0 F0 [] [13, 14, 15] (fun r s' F' => (r = some (vI 1) ∧ Bar F0 q (F0 K) a b) ∨ (r = some (vI 0) ∧ ¬ Bar F0 q (F0 K) a b))) := by
  refine ab_M.of (L0 := [some (vR m), some (vI q), some (vR (A K)), some (vI a), some (vI b), none, none, none, none]) hG rfl rfl (Nat.le_of_ble_eq_true rfl) rfl ?_
  have hW : mW h0 m A s0 F0 [] [13, 14, 15] h0 s0 F0 := mW.start hM
  have hk8 := wK_le hK
  have hW0 := hW
  rcases lb with ⟨k, k1, k2, k3⟩ | ⟨k, k1, k2, k3⟩ | ⟨k, k1, k2, k3⟩ | ⟨k, k1, k2⟩ | k | ⟨k, k1, k2, k3⟩
  · refine ab_iload (pc := 0) dX10_isBarred_0 rfl ?_
    refine ab_iload_n (pc := 2) dX10_isBarred_2 rfl ?_
    refine ab_isub (pc := 3) dX10_isBarred_3 (by omega) (by omega) ?_
    refine ab_istore (pc := 4) dX10_isBarred_4 rfl (Nat.le_of_ble_eq_true rfl) ?_
    refine ab_aload_n (pc := 6) dX10_isBarred_6 rfl ?_
    refine ab_get (pc := 7) (k := 8) (x := vR (A 8)) okX10 hW.obj rfl w1063 rfl dX10_isBarred_7 ?_
    refine ab_iload_n (pc := 10) dX10_isBarred_10 rfl ?_
    refine ab_iald (pc := 11) (n := 12) (f := F0 8) (hW.arr 8 rfl (hW.Fv 8 (by decide))) (by omega) (by omega) dX10_isBarred_11 ?_
    refine ab_tableIn (pc := 12) (off := 36) 48 dX10_isBarred_12 (by omega) (by omega) (by rw [k]; rfl) (by decide) ?_
    refine ab_via (S := []) 64 (fun v : Int => (v = 1 ∧ b - a = F0 11 q) ∨ (v = 0 ∧ ¬ b - a = F0 11 q)) (fun v hv => ?_) (fun J64 => ?_)
    · refine ab_istore (pc := 64) dX10_isBarred_64 rfl (Nat.le_of_ble_eq_true rfl) ?_
      refine ab_iconst (pc := 66) dX10_isBarred_66 (by decide) ?_
      refine ab_istore (pc := 67) dX10_isBarred_67 rfl (Nat.le_of_ble_eq_true rfl) ?_
      refine m_isBarred_69 hK q0 q1 a0 ab bN le k k1 k2 _ 0 v _ _ _ hW (Nat.lt_succ_self _) (by omega) (by omega) ?_
      rcases hv with ⟨e1, e2⟩ | ⟨e1, e2⟩
      · exact Or.inl ⟨e1, e2, fun t t0 t1 => absurd t1 (by omega)⟩
      · exact Or.inr ⟨e1, fun e => e2 ((bar0 k).mp e).1⟩
    · refine ab_iload (pc := 48) dX10_isBarred_48 rfl ?_
      refine ab_aload_n (pc := 50) dX10_isBarred_50 rfl ?_
      refine ab_get (pc := 51) (k := 11) (x := vR (A 11)) okX10 hW.obj rfl w1066 rfl dX10_isBarred_51 ?_
      refine ab_iload_n (pc := 54) dX10_isBarred_54 rfl ?_
      refine ab_iald (pc := 55) (n := 12) (f := F0 11) (hW.arr 11 rfl (hW.Fv 11 (by decide))) (by omega) (by omega) dX10_isBarred_55 ?_
      refine ab_icmp_ne (pc := 56) 63 dX10_isBarred_56 (by decide) (fun c56 => ?_) (fun c56 => ?_)
      · refine ab_iconst (pc := 63) dX10_isBarred_63 (by decide) ?_
        exact J64 (0) (by omega)
      · refine ab_iconst (pc := 59) dX10_isBarred_59 (by decide) ?_
        refine ab_goto (pc := 60) 64 dX10_isBarred_60 (by decide) ?_
        exact J64 (1) (by omega)
  · refine ab_iload (pc := 0) dX10_isBarred_0 rfl ?_
    refine ab_iload_n (pc := 2) dX10_isBarred_2 rfl ?_
    refine ab_isub (pc := 3) dX10_isBarred_3 (by omega) (by omega) ?_
    refine ab_istore (pc := 4) dX10_isBarred_4 rfl (Nat.le_of_ble_eq_true rfl) ?_
    refine ab_aload_n (pc := 6) dX10_isBarred_6 rfl ?_
    refine ab_get (pc := 7) (k := 8) (x := vR (A 8)) okX10 hW.obj rfl w1063 rfl dX10_isBarred_7 ?_
    refine ab_iload_n (pc := 10) dX10_isBarred_10 rfl ?_
    refine ab_iald (pc := 11) (n := 12) (f := F0 8) (hW.arr 8 rfl (hW.Fv 8 (by decide))) (by omega) (by omega) dX10_isBarred_11 ?_
    refine ab_tableIn (pc := 12) (off := 106) 118 dX10_isBarred_12 (by omega) (by omega) (by rw [k]; rfl) (by decide) ?_
    refine ab_iload (pc := 118) dX10_isBarred_118 rfl ?_
    refine ab_aload_n (pc := 120) dX10_isBarred_120 rfl ?_
    refine ab_get (pc := 121) (k := 10) (x := vR (A 10)) okX10 hW.obj rfl w1065 rfl dX10_isBarred_121 ?_
    refine ab_iload_n (pc := 124) dX10_isBarred_124 rfl ?_
    refine ab_iald (pc := 125) (n := 12) (f := F0 10) (hW.arr 10 rfl (hW.Fv 10 (by decide))) (by omega) (by omega) dX10_isBarred_125 ?_
    have m1 := mul_bd (x := b - a) (y := F0 10 q) (X := 80) (Y := 30) (by omega) (by omega) (by omega) (by omega)
    refine ab_imul (pc := 126) dX10_isBarred_126 (by omega) (by omega) ?_
    refine ab_aload_n (pc := 127) dX10_isBarred_127 rfl ?_
    refine ab_get (pc := 128) (k := 9) (x := vR (A 9)) okX10 hW.obj rfl w1064 rfl dX10_isBarred_128 ?_
    refine ab_iload_n (pc := 131) dX10_isBarred_131 rfl ?_
    refine ab_iald (pc := 132) (n := 12) (f := F0 9) (hW.arr 9 rfl (hW.Fv 9 (by decide))) (by omega) (by omega) dX10_isBarred_132 ?_
    refine ab_aload_n (pc := 133) dX10_isBarred_133 rfl ?_
    refine ab_iload_n (pc := 134) dX10_isBarred_134 rfl ?_
    refine ab_iload (pc := 135) dX10_isBarred_135 rfl ?_
    refine ab_callS (pc := 137) (m_period hG (hW.arrK hK (by decide)) (by omega) a0 bN ab) ⟨w1253, w5, w1255, by decide, pd53⟩ w1254 rfl (by decide) (by decide) (Nat.le_of_ble_eq_true rfl) rfl dX10_isBarred_137 (fun _ _ hx => absurd hx pC_no) ?_
    rintro _ _ ⟨v1, e9, rfl, ⟨p1, p2, p3, p4⟩⟩
    cases e9
    have m2 := mul_bd (x := F0 9 q) (y := v1) (X := 30) (Y := 80) (by omega) (by omega) (by omega) (by omega)
    refine ab_imul (pc := 140) dX10_isBarred_140 (by omega) (by omega) ?_
    refine ab_icmp_lt (pc := 141) 148 dX10_isBarred_141 (by decide) (fun c141 => ?_) (fun c141 => ?_)
    · refine ab_iconst (pc := 148) dX10_isBarred_148 (by decide) ?_
      refine ab_zret (pc := 149) dX10_isBarred_149 rfl (by omega) ?_
      first
      | (exact ⟨_, _, _, rfl, hW, Or.inl ⟨rfl, (bar1 k).mpr ⟨v1, p1, p3, by omega⟩⟩⟩)
      | (refine ⟨_, _, _, rfl, hW, Or.inr ⟨rfl, fun e => ?_⟩⟩; obtain ⟨p, e1, e2, e3⟩ := (bar1 k).mp e; have e4 : v1 ≤ p := Int.not_lt.mp (fun g => p4 p e1 g e2); have e5 := Int.mul_le_mul_of_nonneg_left e4 (show 0 ≤ F0 9 q by omega); omega)
    · refine ab_iconst (pc := 144) dX10_isBarred_144 (by decide) ?_
      refine ab_goto (pc := 145) 149 dX10_isBarred_145 (by decide) ?_
      refine ab_zret (pc := 149) dX10_isBarred_149 rfl (by omega) ?_
      first
      | (exact ⟨_, _, _, rfl, hW, Or.inl ⟨rfl, (bar1 k).mpr ⟨v1, p1, p3, by omega⟩⟩⟩)
      | (refine ⟨_, _, _, rfl, hW, Or.inr ⟨rfl, fun e => ?_⟩⟩; obtain ⟨p, e1, e2, e3⟩ := (bar1 k).mp e; have e4 : v1 ≤ p := Int.not_lt.mp (fun g => p4 p e1 g e2); have e5 := Int.mul_le_mul_of_nonneg_left e4 (show 0 ≤ F0 9 q by omega); omega)
  · refine ab_iload (pc := 0) dX10_isBarred_0 rfl ?_
    refine ab_iload_n (pc := 2) dX10_isBarred_2 rfl ?_
    refine ab_isub (pc := 3) dX10_isBarred_3 (by omega) (by omega) ?_
    refine ab_istore (pc := 4) dX10_isBarred_4 rfl (Nat.le_of_ble_eq_true rfl) ?_
    refine ab_aload_n (pc := 6) dX10_isBarred_6 rfl ?_
    refine ab_get (pc := 7) (k := 8) (x := vR (A 8)) okX10 hW.obj rfl w1063 rfl dX10_isBarred_7 ?_
    refine ab_iload_n (pc := 10) dX10_isBarred_10 rfl ?_
    refine ab_iald (pc := 11) (n := 12) (f := F0 8) (hW.arr 8 rfl (hW.Fv 8 (by decide))) (by omega) (by omega) dX10_isBarred_11 ?_
    refine ab_tableIn (pc := 12) (off := 138) 150 dX10_isBarred_12 (by omega) (by omega) (by rw [k]; rfl) (by decide) ?_
    refine ab_iload (pc := 150) dX10_isBarred_150 rfl ?_
    refine ab_aload_n (pc := 152) dX10_isBarred_152 rfl ?_
    refine ab_get (pc := 153) (k := 10) (x := vR (A 10)) okX10 hW.obj rfl w1065 rfl dX10_isBarred_153 ?_
    refine ab_iload_n (pc := 156) dX10_isBarred_156 rfl ?_
    refine ab_iald (pc := 157) (n := 12) (f := F0 10) (hW.arr 10 rfl (hW.Fv 10 (by decide))) (by omega) (by omega) dX10_isBarred_157 ?_
    have m1 := mul_bd (x := b - a) (y := F0 10 q) (X := 80) (Y := 30) (by omega) (by omega) (by omega) (by omega)
    refine ab_imul (pc := 158) dX10_isBarred_158 (by omega) (by omega) ?_
    refine ab_aload_n (pc := 159) dX10_isBarred_159 rfl ?_
    refine ab_get (pc := 160) (k := 9) (x := vR (A 9)) okX10 hW.obj rfl w1064 rfl dX10_isBarred_160 ?_
    refine ab_iload_n (pc := 163) dX10_isBarred_163 rfl ?_
    refine ab_iald (pc := 164) (n := 12) (f := F0 9) (hW.arr 9 rfl (hW.Fv 9 (by decide))) (by omega) (by omega) dX10_isBarred_164 ?_
    refine ab_aload_n (pc := 165) dX10_isBarred_165 rfl ?_
    refine ab_iload_n (pc := 166) dX10_isBarred_166 rfl ?_
    refine ab_iload (pc := 167) dX10_isBarred_167 rfl ?_
    refine ab_callS (pc := 169) (m_period hG (hW.arrK hK (by decide)) (by omega) a0 bN ab) ⟨w1253, w5, w1255, by decide, pd53⟩ w1254 rfl (by decide) (by decide) (Nat.le_of_ble_eq_true rfl) rfl dX10_isBarred_169 (fun _ _ hx => absurd hx pC_no) ?_
    rintro _ _ ⟨v1, e9, rfl, ⟨p1, p2, p3, p4⟩⟩
    cases e9
    have m2 := mul_bd (x := F0 9 q) (y := v1) (X := 30) (Y := 80) (by omega) (by omega) (by omega) (by omega)
    refine ab_imul (pc := 172) dX10_isBarred_172 (by omega) (by omega) ?_
    refine ab_icmp_le (pc := 173) 180 dX10_isBarred_173 (by decide) (fun c173 => ?_) (fun c173 => ?_)
    · refine ab_iconst (pc := 180) dX10_isBarred_180 (by decide) ?_
      refine ab_zret (pc := 181) dX10_isBarred_181 rfl (by omega) ?_
      first
      | (exact ⟨_, _, _, rfl, hW, Or.inl ⟨rfl, (bar2 k).mpr ⟨v1, p1, p3, by omega⟩⟩⟩)
      | (refine ⟨_, _, _, rfl, hW, Or.inr ⟨rfl, fun e => ?_⟩⟩; obtain ⟨p, e1, e2, e3⟩ := (bar2 k).mp e; have e4 : v1 ≤ p := Int.not_lt.mp (fun g => p4 p e1 g e2); have e5 := Int.mul_le_mul_of_nonneg_left e4 (show 0 ≤ F0 9 q by omega); omega)
    · refine ab_iconst (pc := 176) dX10_isBarred_176 (by decide) ?_
      refine ab_goto (pc := 177) 181 dX10_isBarred_177 (by decide) ?_
      refine ab_zret (pc := 181) dX10_isBarred_181 rfl (by omega) ?_
      first
      | (exact ⟨_, _, _, rfl, hW, Or.inl ⟨rfl, (bar2 k).mpr ⟨v1, p1, p3, by omega⟩⟩⟩)
      | (refine ⟨_, _, _, rfl, hW, Or.inr ⟨rfl, fun e => ?_⟩⟩; obtain ⟨p, e1, e2, e3⟩ := (bar2 k).mp e; have e4 : v1 ≤ p := Int.not_lt.mp (fun g => p4 p e1 g e2); have e5 := Int.mul_le_mul_of_nonneg_left e4 (show 0 ≤ F0 9 q by omega); omega)
  · refine ab_iload (pc := 0) dX10_isBarred_0 rfl ?_
    refine ab_iload_n (pc := 2) dX10_isBarred_2 rfl ?_
    refine ab_isub (pc := 3) dX10_isBarred_3 (by omega) (by omega) ?_
    refine ab_istore (pc := 4) dX10_isBarred_4 rfl (Nat.le_of_ble_eq_true rfl) ?_
    refine ab_aload_n (pc := 6) dX10_isBarred_6 rfl ?_
    refine ab_get (pc := 7) (k := 8) (x := vR (A 8)) okX10 hW.obj rfl w1063 rfl dX10_isBarred_7 ?_
    refine ab_iload_n (pc := 10) dX10_isBarred_10 rfl ?_
    refine ab_iald (pc := 11) (n := 12) (f := F0 8) (hW.arr 8 rfl (hW.Fv 8 (by decide))) (by omega) (by omega) dX10_isBarred_11 ?_
    refine ab_tableIn (pc := 12) (off := 170) 182 dX10_isBarred_12 (by omega) (by omega) (by rw [k]; rfl) (by decide) ?_
    refine ab_iload (pc := 182) dX10_isBarred_182 rfl ?_
    refine ab_iconst (pc := 184) dX10_isBarred_184 (by decide) ?_
    refine ab_irem (pc := 185) dX10_isBarred_185 (by omega) ?_
    rw [Int.tmod_eq_emod_of_nonneg (by omega)]
    refine ab_iconst (pc := 186) dX10_isBarred_186 (by decide) ?_
    refine ab_icmp_ne (pc := 187) 192 dX10_isBarred_187 (by decide) (fun c187 => ?_) (fun c187 => ?_)
    · refine ab_iload (pc := 192) dX10_isBarred_192 rfl ?_
      refine ab_iconst (pc := 194) dX10_isBarred_194 (by decide) ?_
      refine ab_idiv (pc := 195) dX10_isBarred_195 (by omega) ?_
      rw [Int.tdiv_eq_ediv_of_nonneg (by omega)]
      refine ab_istore (pc := 196) dX10_isBarred_196 rfl (Nat.le_of_ble_eq_true rfl) ?_
      refine ab_iconst (pc := 198) dX10_isBarred_198 (by decide) ?_
      refine ab_istore (pc := 199) dX10_isBarred_199 rfl (Nat.le_of_ble_eq_true rfl) ?_
      refine ab_iload_n (pc := 201) dX10_isBarred_201 rfl ?_
      refine ab_istore (pc := 202) dX10_isBarred_202 rfl (Nat.le_of_ble_eq_true rfl) ?_
      have g9 := m_isBarred_204 (l := l) (E := E) (d9 := (b - a) / 2) hK q0 q1 a0 ab bN le k k1 k2 (by omega) _ 0 _ _ _ hW (Nat.lt_succ_self _) (by omega) (by omega)
      rw [Int.add_zero] at g9
      exact g9
    · refine ab_iconst (pc := 190) dX10_isBarred_190 (by decide) ?_
      refine ab_zret (pc := 191) dX10_isBarred_191 rfl (by omega) ?_
      refine ⟨_, _, _, rfl, hW, Or.inr ⟨rfl, fun e => ?_⟩⟩
      obtain ⟨d, e1, e2⟩ := (bar3 k).mp e
      omega
  · refine ab_iload (pc := 0) dX10_isBarred_0 rfl ?_
    refine ab_iload_n (pc := 2) dX10_isBarred_2 rfl ?_
    refine ab_isub (pc := 3) dX10_isBarred_3 (by omega) (by omega) ?_
    refine ab_istore (pc := 4) dX10_isBarred_4 rfl (Nat.le_of_ble_eq_true rfl) ?_
    refine ab_aload_n (pc := 6) dX10_isBarred_6 rfl ?_
    refine ab_get (pc := 7) (k := 8) (x := vR (A 8)) okX10 hW.obj rfl w1063 rfl dX10_isBarred_7 ?_
    refine ab_iload_n (pc := 10) dX10_isBarred_10 rfl ?_
    refine ab_iald (pc := 11) (n := 12) (f := F0 8) (hW.arr 8 rfl (hW.Fv 8 (by decide))) (by omega) (by omega) dX10_isBarred_11 ?_
    refine ab_tableIn (pc := 12) (off := 255) 267 dX10_isBarred_12 (by omega) (by omega) (by rw [k]; rfl) (by decide) ?_
    refine ab_iload (pc := 267) dX10_isBarred_267 rfl ?_
    refine ab_iconst (pc := 269) dX10_isBarred_269 (by decide) ?_
    refine ab_irem (pc := 270) dX10_isBarred_270 (by omega) ?_
    rw [Int.tmod_eq_emod_of_nonneg (by omega)]
    refine ab_if_ne (pc := 271) 291 dX10_isBarred_271 (by decide) (fun c271 => ?_) (fun c271 => ?_)
    · refine ab_iconst (pc := 291) dX10_isBarred_291 (by decide) ?_
      refine ab_zret (pc := 292) dX10_isBarred_292 rfl (by omega) ?_
      first
      | (exact ⟨_, _, _, rfl, hW, Or.inl ⟨rfl, (bar4 k).mpr ⟨_, by omega, ft⟩⟩⟩)
      | (refine ⟨_, _, _, rfl, hW, Or.inr ⟨rfl, fun e => ?_⟩⟩; obtain ⟨d, e1, e2⟩ := (bar4 k).mp e; obtain rfl : d = (b - a) / 2 := (by omega); exact ft e2)
      | (refine ⟨_, _, _, rfl, hW, Or.inr ⟨rfl, fun e => ?_⟩⟩; obtain ⟨d, e1, e2⟩ := (bar4 k).mp e; omega)
    · refine ab_aload_n (pc := 274) dX10_isBarred_274 rfl ?_
      refine ab_aload_n (pc := 275) dX10_isBarred_275 rfl ?_
      refine ab_iload_n (pc := 276) dX10_isBarred_276 rfl ?_
      refine ab_iload (pc := 277) dX10_isBarred_277 rfl ?_
      refine ab_iconst (pc := 279) dX10_isBarred_279 (by decide) ?_
      refine ab_idiv (pc := 280) dX10_isBarred_280 (by omega) ?_
      rw [Int.tdiv_eq_ediv_of_nonneg (by omega)]
      refine ab_callV (pc := 281) (m_isTurned hG hW.1 hK a0 (by omega) (by omega) (fun j j0 j1 => by rw [hW.Fv K (by unfold wK at hK; simp; omega)]; exact le j j0 (by omega))) hW.obj rfl ⟨w1289, w5, w1292, by decide, pd50⟩ w1291 sp33 rfl (by decide) (by decide) (Nat.le_of_ble_eq_true rfl) rfl dX10_isBarred_281 (fun _ _ hx => absurd hx mC_no) ?_
      rintro _ h ⟨_, s1, F1, e9, hc1, hp1⟩
      cases e9
      replace hW := hW.call hc1 (by decide) (by decide)
      rw [hW0.Fv K (by unfold wK at hK; simp; omega)] at hp1
      rcases hp1 with ⟨rfl, ft⟩ | ⟨rfl, ft⟩
      · refine ab_if_eq (pc := 284) 291 dX10_isBarred_284 (by decide) (fun c284 => absurd c284 (by omega)) (fun c284 => ?_)
        refine ab_iconst (pc := 287) dX10_isBarred_287 (by decide) ?_
        refine ab_goto (pc := 288) 292 dX10_isBarred_288 (by decide) ?_
        refine ab_zret (pc := 292) dX10_isBarred_292 rfl (by omega) ?_
        first
        | (exact ⟨_, _, _, rfl, hW, Or.inl ⟨rfl, (bar4 k).mpr ⟨_, by omega, ft⟩⟩⟩)
        | (refine ⟨_, _, _, rfl, hW, Or.inr ⟨rfl, fun e => ?_⟩⟩; obtain ⟨d, e1, e2⟩ := (bar4 k).mp e; obtain rfl : d = (b - a) / 2 := (by omega); exact ft e2)
        | (refine ⟨_, _, _, rfl, hW, Or.inr ⟨rfl, fun e => ?_⟩⟩; obtain ⟨d, e1, e2⟩ := (bar4 k).mp e; omega)
      · refine ab_if_eq (pc := 284) 291 dX10_isBarred_284 (by decide) (fun c284 => ?_) (fun c284 => absurd c284 (by omega))
        refine ab_iconst (pc := 291) dX10_isBarred_291 (by decide) ?_
        refine ab_zret (pc := 292) dX10_isBarred_292 rfl (by omega) ?_
        first
        | (exact ⟨_, _, _, rfl, hW, Or.inl ⟨rfl, (bar4 k).mpr ⟨_, by omega, ft⟩⟩⟩)
        | (refine ⟨_, _, _, rfl, hW, Or.inr ⟨rfl, fun e => ?_⟩⟩; obtain ⟨d, e1, e2⟩ := (bar4 k).mp e; obtain rfl : d = (b - a) / 2 := (by omega); exact ft e2)
        | (refine ⟨_, _, _, rfl, hW, Or.inr ⟨rfl, fun e => ?_⟩⟩; obtain ⟨d, e1, e2⟩ := (bar4 k).mp e; omega)
  · refine ab_iload (pc := 0) dX10_isBarred_0 rfl ?_
    refine ab_iload_n (pc := 2) dX10_isBarred_2 rfl ?_
    refine ab_isub (pc := 3) dX10_isBarred_3 (by omega) (by omega) ?_
    refine ab_istore (pc := 4) dX10_isBarred_4 rfl (Nat.le_of_ble_eq_true rfl) ?_
    refine ab_aload_n (pc := 6) dX10_isBarred_6 rfl ?_
    refine ab_get (pc := 7) (k := 8) (x := vR (A 8)) okX10 hW.obj rfl w1063 rfl dX10_isBarred_7 ?_
    refine ab_iload_n (pc := 10) dX10_isBarred_10 rfl ?_
    refine ab_iald (pc := 11) (n := 12) (f := F0 8) (hW.arr 8 rfl (hW.Fv 8 (by decide))) (by omega) (by omega) dX10_isBarred_11 ?_
    refine ab_tableOut (pc := 12) 293 dX10_isBarred_12 (by omega) (by decide) ?_
    refine ab_aload_n (pc := 293) dX10_isBarred_293 rfl ?_
    refine ab_aload_n (pc := 294) dX10_isBarred_294 rfl ?_
    refine ab_get (pc := 295) (k := 12) (x := vR (A 12)) okX10 hW.obj rfl w1067 rfl dX10_isBarred_295 ?_
    refine ab_bipush (pc := 298) dX10_isBarred_298 (by decide) ?_
    refine ab_iload_n (pc := 300) dX10_isBarred_300 rfl ?_
    refine ab_imul (pc := 301) dX10_isBarred_301 (by omega) (by omega) ?_
    refine ab_aload_n (pc := 302) dX10_isBarred_302 rfl ?_
    refine ab_get (pc := 303) (k := 11) (x := vR (A 11)) okX10 hW.obj rfl w1066 rfl dX10_isBarred_303 ?_
    refine ab_iload_n (pc := 306) dX10_isBarred_306 rfl ?_
    refine ab_iald (pc := 307) (n := 12) (f := F0 11) (hW.arr 11 rfl (hW.Fv 11 (by decide))) (by omega) (by omega) dX10_isBarred_307 ?_
    refine ab_aload_n (pc := 308) dX10_isBarred_308 rfl ?_
    refine ab_iload_n (pc := 309) dX10_isBarred_309 rfl ?_
    refine ab_iload (pc := 310) dX10_isBarred_310 rfl ?_
    refine ab_callV (pc := 312) (m_comesOf hG hW.1 hK (by omega) (by omega) (by omega) (by omega) a0 (by omega) bN k3) hW.obj rfl ⟨w1293, w5, w1296, by decide, pd76⟩ w1295 sp34 rfl (by decide) (by decide) (Nat.le_of_ble_eq_true rfl) rfl dX10_isBarred_312 (fun _ _ hx => absurd hx mC_no) ?_
    rintro _ h ⟨_, s1, F1, e9, hc1, hp1⟩
    cases e9
    replace hW := hW.call hc1 (by decide) (by decide)
    rcases hp1 with ⟨rfl, ft⟩ | ⟨rfl, ft⟩
    · refine ab_zret (pc := 315) dX10_isBarred_315 rfl (by omega) ?_
      first
      | (exact ⟨_, _, _, rfl, hW, Or.inl ⟨rfl, (bar5 k).mpr ft⟩⟩)
      | (exact ⟨_, _, _, rfl, hW, Or.inr ⟨rfl, fun e => ft ((bar5 k).mp e)⟩⟩)
    · refine ab_zret (pc := 315) dX10_isBarred_315 rfl (by omega) ?_
      first
      | (exact ⟨_, _, _, rfl, hW, Or.inl ⟨rfl, (bar5 k).mpr ft⟩⟩)
      | (exact ⟨_, _, _, rfl, hW, Or.inr ⟨rfl, fun e => ft ((bar5 k).mp e)⟩⟩)
end M6
