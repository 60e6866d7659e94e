/-! the reference: laws -/
section M2
variable {l : Launch} {E : AbE} {m : Nat} {A : Nat → Nat} {s0 : Nat → Int} {F0 : Nat → Int → Int} {h0 : AbH}
/-- numbers that go with a kind -/
def lawOk (t a b : Int) : Prop := t = 0 ∨ t = 5 ∨ (t = 1 ∧ 1 ≤ b ∧ b < a ∧ a ≤ 30) ∨ (t = 2 ∧ 1 ≤ b ∧ b ≤ a ∧ a ≤ 30) ∨ (t = 3 ∧ 0 ≤ a ∧ a ≤ 9 ∧ b = 0) ∨ (t = 4 ∧ a = 0 ∧ b = 0)
abbrev isRow (s : Nat → Int) (x k : Int) : Prop := 0 ≤ x ∧ x < s 1 ∧ 0 ≤ k ∧ k < 10
/-- a word for a law -/
abbrev lawW (F : Nat → Int → Int) (t a b n : Int) : Prop := isRd F a b n ∧ 1 ≤ n ∧ (t = 5 → n ≤ 6 ∧ ∀ j : Int, 0 ≤ j → j < n → rdL F a b j ≤ 2)
def lawSp (s : Nat → Int) (F : Nat → Int → Int) (t a b c r n : Int) : Prop := (¬ lawOk t a b ∧ c = 1 ∧ r = 0 ∧ n = 0) ∨ (lawOk t a b ∧ (t = 0 ∨ t = 5) ∧ ¬ isRow s a b ∧ c = 2 ∧ r = 0 ∧ n = 0) ∨ (lawOk t a b ∧ (t = 0 ∨ t = 5) ∧ isRow s a b ∧ (¬ ∃ n', lawW F t a b n') ∧ c = 0 ∧ r = -1 ∧ n = 0) ∨ (lawOk t a b ∧ c = 0 ∧ ((t ≠ 0 ∧ t ≠ 5 ∧ n = 0) ∨ ((t = 0 ∨ t = 5) ∧ isRow s a b ∧ lawW F t a b n)) ∧ ((s 7 = 12 ∧ r = -2) ∨ (s 7 < 12 ∧ r = s 7)))
theorem lawW_no {F : Nat → Int → Int} {t a b n : Int} (h1 : isRd F a b n) (h2 : ¬ (1 ≤ n ∧ (t = 5 → n ≤ 6 ∧ ∀ j : Int, 0 ≤ j → j < n → rdL F a b j ≤ 2))) : ¬ ∃ n', lawW F t a b n' := by
  rintro ⟨n', a1, a2⟩
  rw [rdW_fun a1 h1] at a2
  exact h2 a2
theorem m_law_288 {t a b g n : Int} (n0 : 0 ≤ n) (n6 : n ≤ 60) (b7 : 0 ≤ s0 7) (c7 : s0 7 < 12) (ok : lawOk t a b) (hw : (t ≠ 0 ∧ t ≠ 5 ∧ n = 0) ∨ ((t = 0 ∨ t = 5) ∧ isRow s0 a b ∧ lawW F0 t a b n)) (fu : Nat) : ∀ (i : Int) (h : AbH) (s : Nat → Int) (F : Nat → Int → Int), mW h0 m A s0 F0 [0, 6, 7] [5, 8, 9, 10, 11, 12] h s F → (60 - i).toNat < fu → (0 ≤ i) → (i ≤ n) → (s 0 = 0) → (s 6 = n) → (s 7 = s0 7) → (∀ j : Int, 0 ≤ j → j < n → F 5 j = rdL F0 a b j) → (F 8 = ab_f (F0 8) (s0 7) t) → (F 9 = ab_f (F0 9) (s0 7) a) → (F 10 = ab_f (F0 10) (s0 7) b) → (F 11 = ab_f (F0 11) (s0 7) n) → (F 12 = fil (F0 12) (80 * s0 7) i (rdL F0 a b)) → ab_T l E Y_X10_law 5 0 0 288 [some (vR m), some (vI t), some (vI a), some (vI b), some (vI g), some (vI i)] [] h (mC h0 m A s0 F0 [0, 6, 7] [5, 8, 9, 10, 11, 12] (fun r s' F' => ∃ c r' n : Int, r = some (vI r') ∧ s' 0 = c ∧ lawSp s0 F0 t a b c r' n ∧ (((c ≠ 0 ∨ r' < 0) ∧ s' 7 = s0 7 ∧ F' 8 = F0 8 ∧ F' 9 = F0 9 ∧ F' 10 = F0 10 ∧ F' 11 = F0 11 ∧ F' 12 = F0 12) ∨ (c = 0 ∧ 0 ≤ r' ∧ s' 7 = s0 7 + 1 ∧ F' 8 = ab_f (F0 8) (s0 7) t ∧ F' 9 = ab_f (F0 9) (s0 7) a ∧ F' 10 = ab_f (F0 10) (s0 7) b ∧ F' 11 = ab_f (F0 11) (s0 7) n ∧ F' 12 = fil (F0 12) (80 * s0 7) n (rdL F0 a b))))) := by
  induction fu with
  | zero => intro i h s F hW hm; exact absurd hm (Nat.not_lt_zero _)
  | succ fu ih =>
    intro i h s F hW hm i0 i1 t0 e6 e7 rd e8 e9a e10 e11 e12
    refine ab_iload (pc := 288) dX10_law_288 rfl ?_
    refine ab_aload_n (pc := 290) dX10_law_290 rfl ?_
    refine ab_get (pc := 291) (k := 6) (x := vI (n)) okX10 hW.obj (mg rfl e6) w1061 rfl dX10_law_291 ?_
    refine ab_icmp_ge (pc := 294) 325 dX10_law_294 (by decide) (fun c294 => ?_) (fun c294 => ?_)
    · refine ab_aload_n (pc := 325) dX10_law_325 rfl ?_
      refine ab_dup (pc := 326) dX10_law_326 rfl ?_
      refine ab_get (pc := 327) (k := 7) (x := vI (s0 7)) okX10 hW.obj (mg rfl e7) w1062 rfl dX10_law_327 ?_
      refine ab_iconst (pc := 330) dX10_law_330 (by decide) ?_
      refine ab_iadd (pc := 331) dX10_law_331 (by omega) (by omega) ?_
      refine ab_putG (pc := 332) (k := 7) okX10 hW.obj (by decide) (by decide) trivial w1062 rfl (Or.inl rfl) dX10_law_332 (fun h e9 n9 => ?_)
      replace hW := hW.put e9 n9 rfl (by decide)
      clear e9 n9
      refine ab_aload_n (pc := 335) dX10_law_335 rfl ?_
      refine ab_get (pc := 336) (k := 7) (x := vI ((s0 7 + 1))) okX10 hW.obj (mg rfl rfl) w1062 rfl dX10_law_336 ?_
      refine ab_iconst (pc := 339) dX10_law_339 (by decide) ?_
      refine ab_isub (pc := 340) dX10_law_340 (by omega) (by omega) ?_
      refine ab_iret (pc := 341) dX10_law_341 rfl ?_
      obtain rfl : i = n := by omega
      exact ⟨_, _, _, rfl, hW, 0, s0 7, i, by congr 2; omega, t0, Or.inr (Or.inr (Or.inr ⟨ok, rfl, hw, Or.inr ⟨c7, rfl⟩⟩)), Or.inr ⟨rfl, b7, rfl, e8, e9a, e10, e11, e12⟩⟩
    · refine ab_aload_n (pc := 297) dX10_law_297 rfl ?_
      refine ab_get (pc := 298) (k := 12) (x := vR (A 12)) okX10 hW.obj rfl w1067 rfl dX10_law_298 ?_
      refine ab_bipush (pc := 301) dX10_law_301 (by decide) ?_
      refine ab_aload_n (pc := 303) dX10_law_303 rfl ?_
      refine ab_get (pc := 304) (k := 7) (x := vI (s0 7)) okX10 hW.obj (mg rfl e7) w1062 rfl dX10_law_304 ?_
      refine ab_imul (pc := 307) dX10_law_307 (by omega) (by omega) ?_
      refine ab_iload (pc := 308) dX10_law_308 rfl ?_
      refine ab_iadd (pc := 310) dX10_law_310 (by omega) (by omega) ?_
      refine ab_aload_n (pc := 311) dX10_law_311 rfl ?_
      refine ab_get (pc := 312) (k := 5) (x := vR (A 5)) okX10 hW.obj rfl w1060 rfl dX10_law_312 ?_
      refine ab_iload (pc := 315) dX10_law_315 rfl ?_
      refine ab_iald (pc := 317) (n := 80) (f := F 5) (hW.arr 5 rfl rfl) (by omega) (by omega) dX10_law_317 ?_
      refine ab_iastG (pc := 318) (n := 960) (f := fil (F0 12) (80 * s0 7) i (rdL F0 a b)) (hW.arr 12 rfl e12) (by decide) (by omega) (by omega) dX10_law_318 (fun h e9 n9 => ?_)
      replace hW := hW.wr (k := 12) rfl e9 n9 (by decide)
      clear e9 n9
      refine ab_iinc (pc := 319) dX10_law_319 rfl rfl (by decide) (by omega) (by omega) ?_
      refine ab_goto (pc := 322) 288 dX10_law_322 (by decide) ?_
      refine ih (i + 1) _ _ _ hW (by omega) (by omega) (by omega) t0 e6 e7 rd e8 e9a e10 e11 ?_
      rw [← fil_step i0 (rd i i0 (by omega))]
      rfl
theorem m_law_230 {t a b g n : Int} {x5 : Option AbV} {h : AbH} {s : Nat → Int} {F : Nat → Int → Int} (n0 : 0 ≤ n) (n6 : n ≤ 60) (b7 : 0 ≤ s0 7) (c7 : s0 7 ≤ 12) (ok : lawOk t a b) (hw : (t ≠ 0 ∧ t ≠ 5 ∧ n = 0) ∨ ((t = 0 ∨ t = 5) ∧ isRow s0 a b ∧ lawW F0 t a b n)) (hW : mW h0 m A s0 F0 [0, 6, 7] [5, 8, 9, 10, 11, 12] h s F) (t0 : s 0 = 0) (e6 : s 6 = n) (e7 : s 7 = s0 7) (rd : ∀ j : Int, 0 ≤ j → j < n → F 5 j = rdL F0 a b j) (e8 : F 8 = F0 8) (e9a : F 9 = F0 9) (e10 : F 10 = F0 10) (e11 : F 11 = F0 11) (e12 : F 12 = F0 12) : ab_T l E Y_X10_law 5 0 0 230 [some (vR m), some (vI t), some (vI a), some (vI b), some (vI g), x5] [] h (mC h0 m A s0 F0 [0, 6, 7] [5, 8, 9, 10, 11, 12] (fun r s' F' => ∃ c r' n : Int, r = some (vI r') ∧ s' 0 = c ∧ lawSp s0 F0 t a b c r' n ∧ (((c ≠ 0 ∨ r' < 0) ∧ s' 7 = s0 7 ∧ F' 8 = F0 8 ∧ F' 9 = F0 9 ∧ F' 10 = F0 10 ∧ F' 11 = F0 11 ∧ F' 12 = F0 12) ∨ (c = 0 ∧ 0 ≤ r' ∧ s' 7 = s0 7 + 1 ∧ F' 8 = ab_f (F0 8) (s0 7) t ∧ F' 9 = ab_f (F0 9) (s0 7) a ∧ F' 10 = ab_f (F0 10) (s0 7) b ∧ F' 11 = ab_f (F0 11) (s0 7) n ∧ F' 12 = fil (F0 12) (80 * s0 7) n (rdL F0 a b))))) := by
  refine ab_aload_n (pc := 230) dX10_law_230 rfl ?_
  refine ab_get (pc := 231) (k := 7) (x := vI (s0 7)) okX10 hW.obj (mg rfl e7) w1062 rfl dX10_law_231 ?_
  refine ab_bipush (pc := 234) dX10_law_234 (by decide) ?_
  refine ab_icmp_ne (pc := 236) 242 dX10_law_236 (by decide) (fun c236 => ?_) (fun c236 => ?_)
  · refine ab_aload_n (pc := 242) dX10_law_242 rfl ?_
    refine ab_get (pc := 243) (k := 8) (x := vR (A 8)) okX10 hW.obj rfl w1063 rfl dX10_law_243 ?_
    refine ab_aload_n (pc := 246) dX10_law_246 rfl ?_
    refine ab_get (pc := 247) (k := 7) (x := vI (s0 7)) okX10 hW.obj (mg rfl e7) w1062 rfl dX10_law_247 ?_
    refine ab_iload_n (pc := 250) dX10_law_250 rfl ?_
    refine ab_iastG (pc := 251) (n := 12) (f := F0 8) (hW.arr 8 rfl e8) (by decide) (by omega) (by omega) dX10_law_251 (fun h e9 n9 => ?_)
    replace hW := hW.wr (k := 8) rfl e9 n9 (by decide)
    clear e9 n9
    refine ab_aload_n (pc := 252) dX10_law_252 rfl ?_
    refine ab_get (pc := 253) (k := 9) (x := vR (A 9)) okX10 hW.obj rfl w1064 rfl dX10_law_253 ?_
    refine ab_aload_n (pc := 256) dX10_law_256 rfl ?_
    refine ab_get (pc := 257) (k := 7) (x := vI (s0 7)) okX10 hW.obj (mg rfl e7) w1062 rfl dX10_law_257 ?_
    refine ab_iload_n (pc := 260) dX10_law_260 rfl ?_
    refine ab_iastG (pc := 261) (n := 12) (f := F0 9) (hW.arr 9 rfl e9a) (by decide) (by omega) (by omega) dX10_law_261 (fun h e9 n9 => ?_)
    replace hW := hW.wr (k := 9) rfl e9 n9 (by decide)
    clear e9 n9
    refine ab_aload_n (pc := 262) dX10_law_262 rfl ?_
    refine ab_get (pc := 263) (k := 10) (x := vR (A 10)) okX10 hW.obj rfl w1065 rfl dX10_law_263 ?_
    refine ab_aload_n (pc := 266) dX10_law_266 rfl ?_
    refine ab_get (pc := 267) (k := 7) (x := vI (s0 7)) okX10 hW.obj (mg rfl e7) w1062 rfl dX10_law_267 ?_
    refine ab_iload_n (pc := 270) dX10_law_270 rfl ?_
    refine ab_iastG (pc := 271) (n := 12) (f := F0 10) (hW.arr 10 rfl e10) (by decide) (by omega) (by omega) dX10_law_271 (fun h e9 n9 => ?_)
    replace hW := hW.wr (k := 10) rfl e9 n9 (by decide)
    clear e9 n9
    refine ab_aload_n (pc := 272) dX10_law_272 rfl ?_
    refine ab_get (pc := 273) (k := 11) (x := vR (A 11)) okX10 hW.obj rfl w1066 rfl dX10_law_273 ?_
    refine ab_aload_n (pc := 276) dX10_law_276 rfl ?_
    refine ab_get (pc := 277) (k := 7) (x := vI (s0 7)) okX10 hW.obj (mg rfl e7) w1062 rfl dX10_law_277 ?_
    refine ab_aload_n (pc := 280) dX10_law_280 rfl ?_
    refine ab_get (pc := 281) (k := 6) (x := vI (n)) okX10 hW.obj (mg rfl e6) w1061 rfl dX10_law_281 ?_
    refine ab_iastG (pc := 284) (n := 12) (f := F0 11) (hW.arr 11 rfl e11) (by decide) (by omega) (by omega) dX10_law_284 (fun h e9 n9 => ?_)
    replace hW := hW.wr (k := 11) rfl e9 n9 (by decide)
    clear e9 n9
    refine ab_iconst (pc := 285) dX10_law_285 (by decide) ?_
    refine ab_istore (pc := 286) dX10_law_286 rfl (Nat.le_of_ble_eq_true rfl) ?_
    exact m_law_288 n0 n6 b7 (by omega) ok hw _ 0 _ _ _ hW (Nat.lt_succ_self _) (by omega) n0 t0 e6 e7 rd rfl rfl rfl rfl (e12.trans fil0)
  · refine ab_bipush (pc := 239) dX10_law_239 (by decide) ?_
    refine ab_iret (pc := 241) dX10_law_241 rfl ?_
    exact ⟨_, _, _, rfl, hW, 0, -2, n, rfl, t0, Or.inr (Or.inr (Or.inr ⟨ok, rfl, hw, Or.inl ⟨by omega, rfl⟩⟩)), Or.inl ⟨Or.inr (by decide), e7, e8, e9a, e10, e11, e12⟩⟩
theorem m_law_197 {t a b g n : Int} (n0 : 1 ≤ n) (n6 : n ≤ 60) (b7 : 0 ≤ s0 7) (c7 : s0 7 ≤ 12) (ok : lawOk t a b) (h5 : t = 0 ∨ t = 5) (hr : isRow s0 a b) (hd : isRd F0 a b n) (h6 : t = 5 → n ≤ 6) (fu : Nat) : ∀ (i : Int) (h : AbH) (s : Nat → Int) (F : Nat → Int → Int), mW h0 m A s0 F0 [0, 6, 7] [5, 8, 9, 10, 11, 12] h s F → (60 - i).toNat < fu → (0 ≤ i) → (i ≤ n) → (s 0 = 0) → (s 6 = n) → (s 7 = s0 7) → (∀ j : Int, 0 ≤ j → j < n → F 5 j = rdL F0 a b j) → (t = 5 → ∀ j : Int, 0 ≤ j → j < i → rdL F0 a b j ≤ 2) → (F 8 = F0 8) → (F 9 = F0 9) → (F 10 = F0 10) → (F 11 = F0 11) → (F 12 = F0 12) → ab_T l E Y_X10_law 5 0 0 197 [some (vR m), some (vI t), some (vI a), some (vI b), some (vI g), some (vI i)] [] h (mC h0 m A s0 F0 [0, 6, 7] [5, 8, 9, 10, 11, 12] (fun r s' F' => ∃ c r' n : Int, r = some (vI r') ∧ s' 0 = c ∧ lawSp s0 F0 t a b c r' n ∧ (((c ≠ 0 ∨ r' < 0) ∧ s' 7 = s0 7 ∧ F' 8 = F0 8 ∧ F' 9 = F0 9 ∧ F' 10 = F0 10 ∧ F' 11 = F0 11 ∧ F' 12 = F0 12) ∨ (c = 0 ∧ 0 ≤ r' ∧ s' 7 = s0 7 + 1 ∧ F' 8 = ab_f (F0 8) (s0 7) t ∧ F' 9 = ab_f (F0 9) (s0 7) a ∧ F' 10 = ab_f (F0 10) (s0 7) b ∧ F' 11 = ab_f (F0 11) (s0 7) n ∧ F' 12 = fil (F0 12) (80 * s0 7) n (rdL F0 a b))))) := by
  induction fu with
  | zero => intro i h s F hW hm; exact absurd hm (Nat.not_lt_zero _)
  | succ fu ih =>
    intro i h s F hW hm i0 i1 t0 e6 e7 rd lo e8 e9a e10 e11 e12
    refine ab_iload (pc := 197) dX10_law_197 rfl ?_
    refine ab_aload_n (pc := 199) dX10_law_199 rfl ?_
    refine ab_get (pc := 200) (k := 6) (x := vI (n)) okX10 hW.obj (mg rfl e6) w1061 rfl dX10_law_200 ?_
    refine ab_icmp_ge (pc := 203) 230 dX10_law_203 (by decide) (fun c203 => ?_) (fun c203 => ?_)
    · refine m_law_230 (by omega) n6 b7 c7 ok (Or.inr ⟨h5, hr, hd, n0, fun e => ⟨h6 e, fun j j0 j1 => lo e j j0 (by omega)⟩⟩) hW t0 e6 e7 rd e8 e9a e10 e11 e12
    · refine ab_iload_n (pc := 206) dX10_law_206 rfl ?_
      refine ab_iconst (pc := 207) dX10_law_207 (by decide) ?_
      refine ab_icmp_ne (pc := 208) 224 dX10_law_208 (by decide) (fun c208 => ?_) (fun c208 => ?_)
      · refine ab_iinc (pc := 224) dX10_law_224 rfl rfl (by decide) (by omega) (by omega) ?_
        refine ab_goto (pc := 227) 197 dX10_law_227 (by decide) ?_
        refine ih (i + 1) _ _ _ hW (by omega) (by omega) (by omega) t0 e6 e7 rd (fun e j j0 j1 => ?_) e8 e9a e10 e11 e12
        by_cases ej : j = i
        · subst ej; have := rd j i0 (by omega); omega
        · exact lo e j j0 (by omega)
      · refine ab_aload_n (pc := 211) dX10_law_211 rfl ?_
        refine ab_get (pc := 212) (k := 5) (x := vR (A 5)) okX10 hW.obj rfl w1060 rfl dX10_law_212 ?_
        refine ab_iload (pc := 215) dX10_law_215 rfl ?_
        refine ab_iald (pc := 217) (n := 80) (f := F 5) (hW.arr 5 rfl rfl) (by omega) (by omega) dX10_law_217 ?_
        refine ab_iconst (pc := 218) dX10_law_218 (by decide) ?_
        refine ab_icmp_le (pc := 219) 224 dX10_law_219 (by decide) (fun c219 => ?_) (fun c219 => ?_)
        · refine ab_iinc (pc := 224) dX10_law_224 rfl rfl (by decide) (by omega) (by omega) ?_
          refine ab_goto (pc := 227) 197 dX10_law_227 (by decide) ?_
          refine ih (i + 1) _ _ _ hW (by omega) (by omega) (by omega) t0 e6 e7 rd (fun e j j0 j1 => ?_) e8 e9a e10 e11 e12
          by_cases ej : j = i
          · subst ej; have := rd j i0 (by omega); omega
          · exact lo e j j0 (by omega)
        · refine ab_iconst (pc := 222) dX10_law_222 (by decide) ?_
          refine ab_iret (pc := 223) dX10_law_223 rfl ?_
          have c9 := rd i i0 (by omega)
          exact ⟨_, _, _, rfl, hW, 0, -1, 0, rfl, t0, Or.inr (Or.inr (Or.inl ⟨ok, h5, hr, lawW_no hd (fun e => absurd ((e.2 (by omega)).2 i i0 (by omega)) (by omega)), rfl, rfl, rfl⟩)), Or.inl ⟨Or.inr (by decide), e7, e8, e9a, e10, e11, e12⟩⟩
theorem m_law (hG : ab_G l E) (hM : mR h0 m A s0 F0) {t a b : Int} (n1 : s0 1 ≤ 16) (b3 : ∀ j, 0 ≤ j → j < 160 → -1 ≤ F0 3 j ∧ F0 3 j ≤ 80) (b7 : 0 ≤ s0 7) (c7 : s0 7 ≤ 12) : ab_M l E Y_X10_law 6 5 0 0 [vR m, vI t, vI a, vI b] h0 (mC h0 m A s0 F0 [0, 6, 7] [5, 8, 9, 10, 11, 12] (fun r s' F' => ∃ c r' n : Int, r = some (vI r') ∧ s' 0 = c ∧ lawSp s0 F0 t a b c r' n ∧ (((c ≠ 0 ∨ r' < 0) ∧ s' 7 = s0 7 ∧ F' 8 = F0 8 ∧ F' 9 = F0 9 ∧ F' 10 = F0 10 ∧ F' 11 = F0 11 ∧ F' 12 = F0 12) ∨ (c = 0 ∧ 0 ≤ r' ∧ s' 7 = s0 7 + 1 ∧ F' 8 = ab_f (F0 8) (s0 7) t ∧ F' 9 = ab_f (F0 9) (s0 7) a ∧ F' 10 = ab_f (F0 10) (s0 7) b ∧ F' 11 = ab_f (F0 11) (s0 7) n ∧ F' 12 = fil (F0 12) (80 * s0 7) n (rdL F0 a b))))) := by
  refine ab_M.of (L0 := [some (vR m), some (vI t), some (vI a), some (vI b), none, none]) hG rfl rfl (Nat.le_of_ble_eq_true rfl) rfl ?_
  have hW : mW h0 m A s0 F0 [0, 6, 7] [5, 8, 9, 10, 11, 12] h0 s0 F0 := mW.start hM
  refine ab_aload_n (pc := 0) dX10_law_0 rfl ?_
  refine ab_iconst (pc := 1) dX10_law_1 (by decide) ?_
  refine ab_putG (pc := 2) (k := 0) okX10 hW.obj (by decide) (by decide) trivial w1055 rfl (Or.inl rfl) dX10_law_2 (fun h e9 n9 => ?_)
  replace hW := hW.put e9 n9 rfl (by decide)
  clear e9 n9
  refine ab_via (S := []) 19 (fun v : Int => (v = 1 ∧ 0 ≤ t ∧ t ≤ 5) ∨ (v = 0 ∧ ¬ (0 ≤ t ∧ t ≤ 5))) (fun v hv => ?_) (fun J19 => ?_)
  · refine ab_istore (pc := 19) dX10_law_19 rfl (Nat.le_of_ble_eq_true rfl) ?_
    refine ab_jl (S := []) 78 4 (fun u78 : Int => (u78 = 1 ∧ 0 ≤ t ∧ t ≤ 5 ∧ (t = 1 → 1 ≤ b ∧ b < a ∧ a ≤ 30) ∧ (t = 2 → 1 ≤ b ∧ b ≤ a ∧ a ≤ 30)) ∨ (u78 = 0 ∧ ¬ (0 ≤ t ∧ t ≤ 5 ∧ (t = 1 → 1 ≤ b ∧ b < a ∧ a ≤ 30) ∧ (t = 2 → 1 ≤ b ∧ b ≤ a ∧ a ≤ 30)))) (fun u78 hu78 => ?_) (fun J78 => ?_)
    · refine ab_jl (S := []) 104 4 (fun u104 : Int => (u104 = 1 ∧ 0 ≤ t ∧ t ≤ 5 ∧ (t = 1 → 1 ≤ b ∧ b < a ∧ a ≤ 30) ∧ (t = 2 → 1 ≤ b ∧ b ≤ a ∧ a ≤ 30) ∧ (t = 3 → 0 ≤ a ∧ a ≤ 9 ∧ b = 0)) ∨ (u104 = 0 ∧ ¬ (0 ≤ t ∧ t ≤ 5 ∧ (t = 1 → 1 ≤ b ∧ b < a ∧ a ≤ 30) ∧ (t = 2 → 1 ≤ b ∧ b ≤ a ∧ a ≤ 30) ∧ (t = 3 → 0 ≤ a ∧ a ≤ 9 ∧ b = 0)))) (fun u104 hu104 => ?_) (fun J104 => ?_)
      · refine ab_jl (S := []) 124 4 (fun u124 : Int => (u124 = 1 ∧ lawOk t a b) ∨ (u124 = 0 ∧ ¬ lawOk t a b)) (fun u124 hu124 => ?_) (fun J124 => ?_)
        · refine ab_aload_n (pc := 124) dX10_law_124 rfl ?_
          refine ab_iload (pc := 125) dX10_law_125 rfl ?_
          refine ab_iconst (pc := 127) dX10_law_127 (by decide) ?_
          refine ab_callV (pc := 128) (m_may hG hW.1 (by omega) rfl (by omega)) hW.obj rfl ⟨w1205, w5, w1208, by decide, pd74⟩ w1207 sp25 rfl (by decide) (by decide) (Nat.le_of_ble_eq_true rfl) rfl dX10_law_128 (fun _ _ hx => absurd hx mC_no) ?_
          rintro _ h ⟨_, s1, F1, e9, hc1, hp1⟩
          cases e9
          replace hW := hW.call hc1 (by decide) (by decide)
          rcases hp1 with ⟨g1, rfl, t1⟩ | ⟨g1, rfl, t1⟩
          · refine ab_if_ne (pc := 131) 136 dX10_law_131 (by decide) (fun c131 => ?_) (fun c131 => absurd c131 (by omega))
            refine ab_aload_n (pc := 136) dX10_law_136 rfl ?_
            refine ab_iconst (pc := 137) dX10_law_137 (by decide) ?_
            refine ab_putG (pc := 138) (k := 6) okX10 hW.obj (by decide) (by decide) trivial w1061 rfl (Or.inl rfl) dX10_law_138 (fun h e9 n9 => ?_)
            replace hW := hW.put e9 n9 rfl (by decide)
            clear e9 n9
            refine ab_iload_n (pc := 141) dX10_law_141 rfl ?_
            refine ab_if_eq (pc := 142) 150 dX10_law_142 (by decide) (fun c142 => ?_) (fun c142 => ?_)
            · refine ab_aload_n (pc := 150) dX10_law_150 rfl ?_
              refine ab_iload_n (pc := 151) dX10_law_151 rfl ?_
              refine ab_iload_n (pc := 152) dX10_law_152 rfl ?_
              refine ab_iconst (pc := 153) dX10_law_153 (by decide) ?_
              refine ab_callV (pc := 154) (m_isRow (n := s0 1) hG hW.1 t1 (by decide) (hW.sv 1 (by decide))) hW.obj rfl ⟨w1213, w5, w1216, by decide, pd51⟩ w1215 sp26 rfl (by decide) (by decide) (Nat.le_of_ble_eq_true rfl) rfl dX10_law_154 (fun _ _ hx => absurd hx mC_no) ?_
              rintro _ h ⟨_, s2, F2, e9, hc2, hp2⟩
              cases e9
              replace hW := hW.call hc2 (by decide) (by decide)
              rcases hp2 with ⟨a1, a2, a3, a4, rfl, t2⟩ | ⟨a1, rfl, t2⟩
              · refine ab_if_ne (pc := 157) 162 dX10_law_157 (by decide) (fun c157 => ?_) (fun c157 => absurd c157 (by omega))
                refine ab_aload_n (pc := 162) dX10_law_162 rfl ?_
                refine ab_iload_n (pc := 163) dX10_law_163 rfl ?_
                refine ab_iload_n (pc := 164) dX10_law_164 rfl ?_
                refine ab_callV (pc := 165) (m_readsG (G := F0) hG hW.1 (hW.Fv 3 (by decide)) (hW.Fv 4 (by decide)) (by omega) (by omega) (by omega) (by omega) b3) hW.obj rfl ⟨w1233, w5, w1236, by decide, pd73⟩ w1235 sp28 rfl (by decide) (by decide) (Nat.le_of_ble_eq_true rfl) rfl dX10_law_165 (fun _ _ hx => absurd hx mC_no) ?_
                rintro _ h ⟨_, s3, F3, e9, hc3, hp3⟩
                cases e9
                replace hW := hW.call hc3 (by decide) (by decide)
                rcases hp3 with ⟨rfl, d1, d2, d3, d4, d5⟩ | ⟨rfl, d1, d2⟩
                · refine ab_if_eq (pc := 168) 192 dX10_law_168 (by decide) (fun c168 => absurd c168 (by omega)) (fun c168 => ?_)
                  refine ab_aload_n (pc := 171) dX10_law_171 rfl ?_
                  refine ab_get (pc := 172) (k := 6) (x := vI (s3 6)) okX10 hW.obj (mg rfl rfl) w1061 rfl dX10_law_172 ?_
                  refine ab_if_eq (pc := 175) 192 dX10_law_175 (by decide) (fun c175 => ?_) (fun c175 => ?_)
                  · refine ab_iconst (pc := 192) dX10_law_192 (by decide) ?_
                    refine ab_iret (pc := 193) dX10_law_193 rfl ?_
                    exact ⟨_, _, _, rfl, hW, 0, -1, 0, rfl, ((hc3.sv 0 (by decide)).trans t2), Or.inr (Or.inr (Or.inl ⟨(by rcases hu124 with e | e; exact e.2; omega), by omega, ⟨a1, a2, a3, a4⟩, lawW_no d1 (by omega), rfl, rfl, rfl⟩)), Or.inl ⟨Or.inr (by decide), ((hc3.sv 7 (by decide)).trans ((hc2.sv 7 (by decide)).trans (hc1.sv 7 (by decide)))), ((hc3.Fv 8 (by decide)).trans ((hc2.Fv 8 (by decide)).trans (hc1.Fv 8 (by decide)))), ((hc3.Fv 9 (by decide)).trans ((hc2.Fv 9 (by decide)).trans (hc1.Fv 9 (by decide)))), ((hc3.Fv 10 (by decide)).trans ((hc2.Fv 10 (by decide)).trans (hc1.Fv 10 (by decide)))), ((hc3.Fv 11 (by decide)).trans ((hc2.Fv 11 (by decide)).trans (hc1.Fv 11 (by decide)))), ((hc3.Fv 12 (by decide)).trans ((hc2.Fv 12 (by decide)).trans (hc1.Fv 12 (by decide))))⟩⟩
                  · refine ab_iload_n (pc := 178) dX10_law_178 rfl ?_
                    refine ab_iconst (pc := 179) dX10_law_179 (by decide) ?_
                    refine ab_icmp_ne (pc := 180) 194 dX10_law_180 (by decide) (fun c180 => ?_) (fun c180 => ?_)
                    · refine ab_iconst (pc := 194) dX10_law_194 (by decide) ?_
                      refine ab_istore (pc := 195) dX10_law_195 rfl (Nat.le_of_ble_eq_true rfl) ?_
                      exact m_law_197 (by omega) (by omega) b7 c7 (by rcases hu124 with e | e; exact e.2; omega) (by omega) ⟨a1, a2, a3, a4⟩ d1 (by omega) _ 0 _ _ _ hW (Nat.lt_succ_self _) (by omega) (by omega) ((hc3.sv 0 (by decide)).trans t2) rfl ((hc3.sv 7 (by decide)).trans ((hc2.sv 7 (by decide)).trans (hc1.sv 7 (by decide)))) d4 (fun _ j j0 j1 => absurd j1 (by omega)) ((hc3.Fv 8 (by decide)).trans ((hc2.Fv 8 (by decide)).trans (hc1.Fv 8 (by decide)))) ((hc3.Fv 9 (by decide)).trans ((hc2.Fv 9 (by decide)).trans (hc1.Fv 9 (by decide)))) ((hc3.Fv 10 (by decide)).trans ((hc2.Fv 10 (by decide)).trans (hc1.Fv 10 (by decide)))) ((hc3.Fv 11 (by decide)).trans ((hc2.Fv 11 (by decide)).trans (hc1.Fv 11 (by decide)))) ((hc3.Fv 12 (by decide)).trans ((hc2.Fv 12 (by decide)).trans (hc1.Fv 12 (by decide))))
                    · refine ab_aload_n (pc := 183) dX10_law_183 rfl ?_
                      refine ab_get (pc := 184) (k := 6) (x := vI (s3 6)) okX10 hW.obj (mg rfl rfl) w1061 rfl dX10_law_184 ?_
                      refine ab_bipush (pc := 187) dX10_law_187 (by decide) ?_
                      refine ab_icmp_le (pc := 189) 194 dX10_law_189 (by decide) (fun c189 => ?_) (fun c189 => ?_)
                      · refine ab_iconst (pc := 194) dX10_law_194 (by decide) ?_
                        refine ab_istore (pc := 195) dX10_law_195 rfl (Nat.le_of_ble_eq_true rfl) ?_
                        exact m_law_197 (by omega) (by omega) b7 c7 (by rcases hu124 with e | e; exact e.2; omega) (by omega) ⟨a1, a2, a3, a4⟩ d1 (by omega) _ 0 _ _ _ hW (Nat.lt_succ_self _) (by omega) (by omega) ((hc3.sv 0 (by decide)).trans t2) rfl ((hc3.sv 7 (by decide)).trans ((hc2.sv 7 (by decide)).trans (hc1.sv 7 (by decide)))) d4 (fun _ j j0 j1 => absurd j1 (by omega)) ((hc3.Fv 8 (by decide)).trans ((hc2.Fv 8 (by decide)).trans (hc1.Fv 8 (by decide)))) ((hc3.Fv 9 (by decide)).trans ((hc2.Fv 9 (by decide)).trans (hc1.Fv 9 (by decide)))) ((hc3.Fv 10 (by decide)).trans ((hc2.Fv 10 (by decide)).trans (hc1.Fv 10 (by decide)))) ((hc3.Fv 11 (by decide)).trans ((hc2.Fv 11 (by decide)).trans (hc1.Fv 11 (by decide)))) ((hc3.Fv 12 (by decide)).trans ((hc2.Fv 12 (by decide)).trans (hc1.Fv 12 (by decide))))
                      · refine ab_iconst (pc := 192) dX10_law_192 (by decide) ?_
                        refine ab_iret (pc := 193) dX10_law_193 rfl ?_
                        exact ⟨_, _, _, rfl, hW, 0, -1, 0, rfl, ((hc3.sv 0 (by decide)).trans t2), Or.inr (Or.inr (Or.inl ⟨(by rcases hu124 with e | e; exact e.2; omega), by omega, ⟨a1, a2, a3, a4⟩, lawW_no d1 (by omega), rfl, rfl, rfl⟩)), Or.inl ⟨Or.inr (by decide), ((hc3.sv 7 (by decide)).trans ((hc2.sv 7 (by decide)).trans (hc1.sv 7 (by decide)))), ((hc3.Fv 8 (by decide)).trans ((hc2.Fv 8 (by decide)).trans (hc1.Fv 8 (by decide)))), ((hc3.Fv 9 (by decide)).trans ((hc2.Fv 9 (by decide)).trans (hc1.Fv 9 (by decide)))), ((hc3.Fv 10 (by decide)).trans ((hc2.Fv 10 (by decide)).trans (hc1.Fv 10 (by decide)))), ((hc3.Fv 11 (by decide)).trans ((hc2.Fv 11 (by decide)).trans (hc1.Fv 11 (by decide)))), ((hc3.Fv 12 (by decide)).trans ((hc2.Fv 12 (by decide)).trans (hc1.Fv 12 (by decide))))⟩⟩
                · refine ab_if_eq (pc := 168) 192 dX10_law_168 (by decide) (fun c168 => ?_) (fun c168 => absurd c168 (by omega))
                  refine ab_iconst (pc := 192) dX10_law_192 (by decide) ?_
                  refine ab_iret (pc := 193) dX10_law_193 rfl ?_
                  exact ⟨_, _, _, rfl, hW, 0, -1, 0, rfl, ((hc3.sv 0 (by decide)).trans t2), Or.inr (Or.inr (Or.inl ⟨(by rcases hu124 with e | e; exact e.2; omega), by omega, ⟨a1, a2, a3, a4⟩, lawW_no d1 (by omega), rfl, rfl, rfl⟩)), Or.inl ⟨Or.inr (by decide), ((hc3.sv 7 (by decide)).trans ((hc2.sv 7 (by decide)).trans (hc1.sv 7 (by decide)))), ((hc3.Fv 8 (by decide)).trans ((hc2.Fv 8 (by decide)).trans (hc1.Fv 8 (by decide)))), ((hc3.Fv 9 (by decide)).trans ((hc2.Fv 9 (by decide)).trans (hc1.Fv 9 (by decide)))), ((hc3.Fv 10 (by decide)).trans ((hc2.Fv 10 (by decide)).trans (hc1.Fv 10 (by decide)))), ((hc3.Fv 11 (by decide)).trans ((hc2.Fv 11 (by decide)).trans (hc1.Fv 11 (by decide)))), ((hc3.Fv 12 (by decide)).trans ((hc2.Fv 12 (by decide)).trans (hc1.Fv 12 (by decide))))⟩⟩
              · refine ab_if_ne (pc := 157) 162 dX10_law_157 (by decide) (fun c157 => absurd c157 (by omega)) (fun c157 => ?_)
                refine ab_iconst (pc := 160) dX10_law_160 (by decide) ?_
                refine ab_iret (pc := 161) dX10_law_161 rfl ?_
                exact ⟨_, _, _, rfl, hW, 2, 0, 0, rfl, t2, Or.inr (Or.inl ⟨(by rcases hu124 with e | e; exact e.2; omega), by omega, by omega, rfl, rfl, rfl⟩), Or.inl ⟨Or.inl (by decide), ((hc2.sv 7 (by decide)).trans (hc1.sv 7 (by decide))), ((hc2.Fv 8 (by decide)).trans (hc1.Fv 8 (by decide))), ((hc2.Fv 9 (by decide)).trans (hc1.Fv 9 (by decide))), ((hc2.Fv 10 (by decide)).trans (hc1.Fv 10 (by decide))), ((hc2.Fv 11 (by decide)).trans (hc1.Fv 11 (by decide))), ((hc2.Fv 12 (by decide)).trans (hc1.Fv 12 (by decide)))⟩⟩
            · refine ab_iload_n (pc := 145) dX10_law_145 rfl ?_
              refine ab_iconst (pc := 146) dX10_law_146 (by decide) ?_
              refine ab_icmp_ne (pc := 147) 230 dX10_law_147 (by decide) (fun c147 => ?_) (fun c147 => ?_)
              · exact m_law_230 (n := 0) (by omega) (by omega) b7 c7 (by rcases hu124 with e | e; exact e.2; omega) (Or.inl ⟨by omega, by omega, rfl⟩) hW t1 rfl (hc1.sv 7 (by decide)) (fun j j0 j1 => absurd j1 (by omega)) (hc1.Fv 8 (by decide)) (hc1.Fv 9 (by decide)) (hc1.Fv 10 (by decide)) (hc1.Fv 11 (by decide)) (hc1.Fv 12 (by decide))
              · refine ab_aload_n (pc := 150) dX10_law_150 rfl ?_
                refine ab_iload_n (pc := 151) dX10_law_151 rfl ?_
                refine ab_iload_n (pc := 152) dX10_law_152 rfl ?_
                refine ab_iconst (pc := 153) dX10_law_153 (by decide) ?_
                refine ab_callV (pc := 154) (m_isRow (n := s0 1) hG hW.1 t1 (by decide) (hW.sv 1 (by decide))) hW.obj rfl ⟨w1213, w5, w1216, by decide, pd51⟩ w1215 sp26 rfl (by decide) (by decide) (Nat.le_of_ble_eq_true rfl) rfl dX10_law_154 (fun _ _ hx => absurd hx mC_no) ?_
                rintro _ h ⟨_, s4, F4, e9, hc4, hp4⟩
                cases e9
                replace hW := hW.call hc4 (by decide) (by decide)
                rcases hp4 with ⟨a1, a2, a3, a4, rfl, t4⟩ | ⟨a1, rfl, t4⟩
                · refine ab_if_ne (pc := 157) 162 dX10_law_157 (by decide) (fun c157 => ?_) (fun c157 => absurd c157 (by omega))
                  refine ab_aload_n (pc := 162) dX10_law_162 rfl ?_
                  refine ab_iload_n (pc := 163) dX10_law_163 rfl ?_
                  refine ab_iload_n (pc := 164) dX10_law_164 rfl ?_
                  refine ab_callV (pc := 165) (m_readsG (G := F0) hG hW.1 (hW.Fv 3 (by decide)) (hW.Fv 4 (by decide)) (by omega) (by omega) (by omega) (by omega) b3) hW.obj rfl ⟨w1233, w5, w1236, by decide, pd73⟩ w1235 sp28 rfl (by decide) (by decide) (Nat.le_of_ble_eq_true rfl) rfl dX10_law_165 (fun _ _ hx => absurd hx mC_no) ?_
                  rintro _ h ⟨_, s5, F5, e9, hc5, hp5⟩
                  cases e9
                  replace hW := hW.call hc5 (by decide) (by decide)
                  rcases hp5 with ⟨rfl, d1, d2, d3, d4, d5⟩ | ⟨rfl, d1, d2⟩
                  · refine ab_if_eq (pc := 168) 192 dX10_law_168 (by decide) (fun c168 => absurd c168 (by omega)) (fun c168 => ?_)
                    refine ab_aload_n (pc := 171) dX10_law_171 rfl ?_
                    refine ab_get (pc := 172) (k := 6) (x := vI (s5 6)) okX10 hW.obj (mg rfl rfl) w1061 rfl dX10_law_172 ?_
                    refine ab_if_eq (pc := 175) 192 dX10_law_175 (by decide) (fun c175 => ?_) (fun c175 => ?_)
                    · refine ab_iconst (pc := 192) dX10_law_192 (by decide) ?_
                      refine ab_iret (pc := 193) dX10_law_193 rfl ?_
                      exact ⟨_, _, _, rfl, hW, 0, -1, 0, rfl, ((hc5.sv 0 (by decide)).trans t4), Or.inr (Or.inr (Or.inl ⟨(by rcases hu124 with e | e; exact e.2; omega), by omega, ⟨a1, a2, a3, a4⟩, lawW_no d1 (by omega), rfl, rfl, rfl⟩)), Or.inl ⟨Or.inr (by decide), ((hc5.sv 7 (by decide)).trans ((hc4.sv 7 (by decide)).trans (hc1.sv 7 (by decide)))), ((hc5.Fv 8 (by decide)).trans ((hc4.Fv 8 (by decide)).trans (hc1.Fv 8 (by decide)))), ((hc5.Fv 9 (by decide)).trans ((hc4.Fv 9 (by decide)).trans (hc1.Fv 9 (by decide)))), ((hc5.Fv 10 (by decide)).trans ((hc4.Fv 10 (by decide)).trans (hc1.Fv 10 (by decide)))), ((hc5.Fv 11 (by decide)).trans ((hc4.Fv 11 (by decide)).trans (hc1.Fv 11 (by decide)))), ((hc5.Fv 12 (by decide)).trans ((hc4.Fv 12 (by decide)).trans (hc1.Fv 12 (by decide))))⟩⟩
                    · refine ab_iload_n (pc := 178) dX10_law_178 rfl ?_
                      refine ab_iconst (pc := 179) dX10_law_179 (by decide) ?_
                      refine ab_icmp_ne (pc := 180) 194 dX10_law_180 (by decide) (fun c180 => ?_) (fun c180 => ?_)
                      · refine ab_iconst (pc := 194) dX10_law_194 (by decide) ?_
                        refine ab_istore (pc := 195) dX10_law_195 rfl (Nat.le_of_ble_eq_true rfl) ?_
                        exact m_law_197 (by omega) (by omega) b7 c7 (by rcases hu124 with e | e; exact e.2; omega) (by omega) ⟨a1, a2, a3, a4⟩ d1 (by omega) _ 0 _ _ _ hW (Nat.lt_succ_self _) (by omega) (by omega) ((hc5.sv 0 (by decide)).trans t4) rfl ((hc5.sv 7 (by decide)).trans ((hc4.sv 7 (by decide)).trans (hc1.sv 7 (by decide)))) d4 (fun _ j j0 j1 => absurd j1 (by omega)) ((hc5.Fv 8 (by decide)).trans ((hc4.Fv 8 (by decide)).trans (hc1.Fv 8 (by decide)))) ((hc5.Fv 9 (by decide)).trans ((hc4.Fv 9 (by decide)).trans (hc1.Fv 9 (by decide)))) ((hc5.Fv 10 (by decide)).trans ((hc4.Fv 10 (by decide)).trans (hc1.Fv 10 (by decide)))) ((hc5.Fv 11 (by decide)).trans ((hc4.Fv 11 (by decide)).trans (hc1.Fv 11 (by decide)))) ((hc5.Fv 12 (by decide)).trans ((hc4.Fv 12 (by decide)).trans (hc1.Fv 12 (by decide))))
                      · refine ab_aload_n (pc := 183) dX10_law_183 rfl ?_
                        refine ab_get (pc := 184) (k := 6) (x := vI (s5 6)) okX10 hW.obj (mg rfl rfl) w1061 rfl dX10_law_184 ?_
                        refine ab_bipush (pc := 187) dX10_law_187 (by decide) ?_
                        refine ab_icmp_le (pc := 189) 194 dX10_law_189 (by decide) (fun c189 => ?_) (fun c189 => ?_)
                        · refine ab_iconst (pc := 194) dX10_law_194 (by decide) ?_
                          refine ab_istore (pc := 195) dX10_law_195 rfl (Nat.le_of_ble_eq_true rfl) ?_
                          exact m_law_197 (by omega) (by omega) b7 c7 (by rcases hu124 with e | e; exact e.2; omega) (by omega) ⟨a1, a2, a3, a4⟩ d1 (by omega) _ 0 _ _ _ hW (Nat.lt_succ_self _) (by omega) (by omega) ((hc5.sv 0 (by decide)).trans t4) rfl ((hc5.sv 7 (by decide)).trans ((hc4.sv 7 (by decide)).trans (hc1.sv 7 (by decide)))) d4 (fun _ j j0 j1 => absurd j1 (by omega)) ((hc5.Fv 8 (by decide)).trans ((hc4.Fv 8 (by decide)).trans (hc1.Fv 8 (by decide)))) ((hc5.Fv 9 (by decide)).trans ((hc4.Fv 9 (by decide)).trans (hc1.Fv 9 (by decide)))) ((hc5.Fv 10 (by decide)).trans ((hc4.Fv 10 (by decide)).trans (hc1.Fv 10 (by decide)))) ((hc5.Fv 11 (by decide)).trans ((hc4.Fv 11 (by decide)).trans (hc1.Fv 11 (by decide)))) ((hc5.Fv 12 (by decide)).trans ((hc4.Fv 12 (by decide)).trans (hc1.Fv 12 (by decide))))
                        · refine ab_iconst (pc := 192) dX10_law_192 (by decide) ?_
                          refine ab_iret (pc := 193) dX10_law_193 rfl ?_
                          exact ⟨_, _, _, rfl, hW, 0, -1, 0, rfl, ((hc5.sv 0 (by decide)).trans t4), Or.inr (Or.inr (Or.inl ⟨(by rcases hu124 with e | e; exact e.2; omega), by omega, ⟨a1, a2, a3, a4⟩, lawW_no d1 (by omega), rfl, rfl, rfl⟩)), Or.inl ⟨Or.inr (by decide), ((hc5.sv 7 (by decide)).trans ((hc4.sv 7 (by decide)).trans (hc1.sv 7 (by decide)))), ((hc5.Fv 8 (by decide)).trans ((hc4.Fv 8 (by decide)).trans (hc1.Fv 8 (by decide)))), ((hc5.Fv 9 (by decide)).trans ((hc4.Fv 9 (by decide)).trans (hc1.Fv 9 (by decide)))), ((hc5.Fv 10 (by decide)).trans ((hc4.Fv 10 (by decide)).trans (hc1.Fv 10 (by decide)))), ((hc5.Fv 11 (by decide)).trans ((hc4.Fv 11 (by decide)).trans (hc1.Fv 11 (by decide)))), ((hc5.Fv 12 (by decide)).trans ((hc4.Fv 12 (by decide)).trans (hc1.Fv 12 (by decide))))⟩⟩
                  · refine ab_if_eq (pc := 168) 192 dX10_law_168 (by decide) (fun c168 => ?_) (fun c168 => absurd c168 (by omega))
                    refine ab_iconst (pc := 192) dX10_law_192 (by decide) ?_
                    refine ab_iret (pc := 193) dX10_law_193 rfl ?_
                    exact ⟨_, _, _, rfl, hW, 0, -1, 0, rfl, ((hc5.sv 0 (by decide)).trans t4), Or.inr (Or.inr (Or.inl ⟨(by rcases hu124 with e | e; exact e.2; omega), by omega, ⟨a1, a2, a3, a4⟩, lawW_no d1 (by omega), rfl, rfl, rfl⟩)), Or.inl ⟨Or.inr (by decide), ((hc5.sv 7 (by decide)).trans ((hc4.sv 7 (by decide)).trans (hc1.sv 7 (by decide)))), ((hc5.Fv 8 (by decide)).trans ((hc4.Fv 8 (by decide)).trans (hc1.Fv 8 (by decide)))), ((hc5.Fv 9 (by decide)).trans ((hc4.Fv 9 (by decide)).trans (hc1.Fv 9 (by decide)))), ((hc5.Fv 10 (by decide)).trans ((hc4.Fv 10 (by decide)).trans (hc1.Fv 10 (by decide)))), ((hc5.Fv 11 (by decide)).trans ((hc4.Fv 11 (by decide)).trans (hc1.Fv 11 (by decide)))), ((hc5.Fv 12 (by decide)).trans ((hc4.Fv 12 (by decide)).trans (hc1.Fv 12 (by decide))))⟩⟩
                · refine ab_if_ne (pc := 157) 162 dX10_law_157 (by decide) (fun c157 => absurd c157 (by omega)) (fun c157 => ?_)
                  refine ab_iconst (pc := 160) dX10_law_160 (by decide) ?_
                  refine ab_iret (pc := 161) dX10_law_161 rfl ?_
                  exact ⟨_, _, _, rfl, hW, 2, 0, 0, rfl, t4, Or.inr (Or.inl ⟨(by rcases hu124 with e | e; exact e.2; omega), by omega, by omega, rfl, rfl, rfl⟩), Or.inl ⟨Or.inl (by decide), ((hc4.sv 7 (by decide)).trans (hc1.sv 7 (by decide))), ((hc4.Fv 8 (by decide)).trans (hc1.Fv 8 (by decide))), ((hc4.Fv 9 (by decide)).trans (hc1.Fv 9 (by decide))), ((hc4.Fv 10 (by decide)).trans (hc1.Fv 10 (by decide))), ((hc4.Fv 11 (by decide)).trans (hc1.Fv 11 (by decide))), ((hc4.Fv 12 (by decide)).trans (hc1.Fv 12 (by decide)))⟩⟩
          · refine ab_if_ne (pc := 131) 136 dX10_law_131 (by decide) (fun c131 => absurd c131 (by omega)) (fun c131 => ?_)
            refine ab_iconst (pc := 134) dX10_law_134 (by decide) ?_
            refine ab_iret (pc := 135) dX10_law_135 rfl ?_
            exact ⟨_, _, _, rfl, hW, 1, 0, 0, rfl, t1, Or.inl ⟨(by rcases hu124 with e | e; omega; exact e.2), rfl, rfl, rfl⟩, Or.inl ⟨Or.inl (by decide), (hc1.sv 7 (by decide)), (hc1.Fv 8 (by decide)), (hc1.Fv 9 (by decide)), (hc1.Fv 10 (by decide)), (hc1.Fv 11 (by decide)), (hc1.Fv 12 (by decide))⟩⟩
        · refine ab_iload_n (pc := 104) dX10_law_104 rfl ?_
          refine ab_iconst (pc := 105) dX10_law_105 (by decide) ?_
          refine ab_icmp_ne (pc := 106) 124 dX10_law_106 (by decide) (fun c106 => ?_) (fun c106 => ?_)
          · exact J124 (u104) (by unfold lawOk; omega)
          · refine ab_iload_n (pc := 109) dX10_law_109 rfl ?_
            refine ab_if_ne (pc := 110) 121 dX10_law_110 (by decide) (fun c110 => ?_) (fun c110 => ?_)
            · refine ab_iconst (pc := 121) dX10_law_121 (by decide) ?_
              refine ab_istore (pc := 122) dX10_law_122 rfl (Nat.le_of_ble_eq_true rfl) ?_
              exact J124 (0) (by unfold lawOk; omega)
            · refine ab_iload_n (pc := 113) dX10_law_113 rfl ?_
              refine ab_if_ne (pc := 114) 121 dX10_law_114 (by decide) (fun c114 => ?_) (fun c114 => ?_)
              · refine ab_iconst (pc := 121) dX10_law_121 (by decide) ?_
                refine ab_istore (pc := 122) dX10_law_122 rfl (Nat.le_of_ble_eq_true rfl) ?_
                exact J124 (0) (by unfold lawOk; omega)
              · refine ab_iconst (pc := 117) dX10_law_117 (by decide) ?_
                refine ab_goto (pc := 118) 122 dX10_law_118 (by decide) ?_
                refine ab_istore (pc := 122) dX10_law_122 rfl (Nat.le_of_ble_eq_true rfl) ?_
                exact J124 (1) (by unfold lawOk; omega)
      · refine ab_iload_n (pc := 78) dX10_law_78 rfl ?_
        refine ab_iconst (pc := 79) dX10_law_79 (by decide) ?_
        refine ab_icmp_ne (pc := 80) 104 dX10_law_80 (by decide) (fun c80 => ?_) (fun c80 => ?_)
        · exact J104 (u78) (by omega)
        · refine ab_iload_n (pc := 83) dX10_law_83 rfl ?_
          refine ab_if_lt (pc := 84) 101 dX10_law_84 (by decide) (fun c84 => ?_) (fun c84 => ?_)
          · refine ab_iconst (pc := 101) dX10_law_101 (by decide) ?_
            refine ab_istore (pc := 102) dX10_law_102 rfl (Nat.le_of_ble_eq_true rfl) ?_
            exact J104 (0) (by omega)
          · refine ab_iload_n (pc := 87) dX10_law_87 rfl ?_
            refine ab_bipush (pc := 88) dX10_law_88 (by decide) ?_
            refine ab_icmp_gt (pc := 90) 101 dX10_law_90 (by decide) (fun c90 => ?_) (fun c90 => ?_)
            · refine ab_iconst (pc := 101) dX10_law_101 (by decide) ?_
              refine ab_istore (pc := 102) dX10_law_102 rfl (Nat.le_of_ble_eq_true rfl) ?_
              exact J104 (0) (by omega)
            · refine ab_iload_n (pc := 93) dX10_law_93 rfl ?_
              refine ab_if_ne (pc := 94) 101 dX10_law_94 (by decide) (fun c94 => ?_) (fun c94 => ?_)
              · refine ab_iconst (pc := 101) dX10_law_101 (by decide) ?_
                refine ab_istore (pc := 102) dX10_law_102 rfl (Nat.le_of_ble_eq_true rfl) ?_
                exact J104 (0) (by omega)
              · refine ab_iconst (pc := 97) dX10_law_97 (by decide) ?_
                refine ab_goto (pc := 98) 102 dX10_law_98 (by decide) ?_
                refine ab_istore (pc := 102) dX10_law_102 rfl (Nat.le_of_ble_eq_true rfl) ?_
                exact J104 (1) (by omega)
    · refine ab_iload_n (pc := 21) dX10_law_21 rfl ?_
      refine ab_iconst (pc := 22) dX10_law_22 (by decide) ?_
      refine ab_icmp_eq (pc := 23) 31 dX10_law_23 (by decide) (fun c23 => ?_) (fun c23 => ?_)
      · refine ab_via (S := []) 76 (fun v : Int => (v = 1 ∧ 0 ≤ t ∧ t ≤ 5 ∧ (t = 1 → 1 ≤ b ∧ b < a ∧ a ≤ 30) ∧ (t = 2 → 1 ≤ b ∧ b ≤ a ∧ a ≤ 30)) ∨ (v = 0 ∧ ¬ (0 ≤ t ∧ t ≤ 5 ∧ (t = 1 → 1 ≤ b ∧ b < a ∧ a ≤ 30) ∧ (t = 2 → 1 ≤ b ∧ b ≤ a ∧ a ≤ 30)))) (fun v hv => ?_) (fun J76 => ?_)
        · refine ab_istore (pc := 76) dX10_law_76 rfl (Nat.le_of_ble_eq_true rfl) ?_
          exact J78 (v) (by omega)
        · refine ab_iload_n (pc := 31) dX10_law_31 rfl ?_
          refine ab_iconst (pc := 32) dX10_law_32 (by decide) ?_
          refine ab_icmp_lt (pc := 33) 75 dX10_law_33 (by decide) (fun c33 => ?_) (fun c33 => ?_)
          · refine ab_iconst (pc := 75) dX10_law_75 (by decide) ?_
            exact J76 (0) (by omega)
          · refine ab_iload_n (pc := 36) dX10_law_36 rfl ?_
            refine ab_bipush (pc := 37) dX10_law_37 (by decide) ?_
            refine ab_icmp_gt (pc := 39) 75 dX10_law_39 (by decide) (fun c39 => ?_) (fun c39 => ?_)
            · refine ab_iconst (pc := 75) dX10_law_75 (by decide) ?_
              exact J76 (0) (by omega)
            · refine ab_iload_n (pc := 42) dX10_law_42 rfl ?_
              refine ab_iconst (pc := 43) dX10_law_43 (by decide) ?_
              refine ab_icmp_lt (pc := 44) 75 dX10_law_44 (by decide) (fun c44 => ?_) (fun c44 => ?_)
              · refine ab_iconst (pc := 75) dX10_law_75 (by decide) ?_
                exact J76 (0) (by omega)
              · refine ab_iload_n (pc := 47) dX10_law_47 rfl ?_
                refine ab_bipush (pc := 48) dX10_law_48 (by decide) ?_
                refine ab_icmp_gt (pc := 50) 75 dX10_law_50 (by decide) (fun c50 => ?_) (fun c50 => ?_)
                · refine ab_iconst (pc := 75) dX10_law_75 (by decide) ?_
                  exact J76 (0) (by omega)
                · refine ab_iload_n (pc := 53) dX10_law_53 rfl ?_
                  refine ab_iconst (pc := 54) dX10_law_54 (by decide) ?_
                  refine ab_icmp_ne (pc := 55) 66 dX10_law_55 (by decide) (fun c55 => ?_) (fun c55 => ?_)
                  · refine ab_iload_n (pc := 66) dX10_law_66 rfl ?_
                    refine ab_iload_n (pc := 67) dX10_law_67 rfl ?_
                    refine ab_icmp_lt (pc := 68) 75 dX10_law_68 (by decide) (fun c68 => ?_) (fun c68 => ?_)
                    · refine ab_iconst (pc := 75) dX10_law_75 (by decide) ?_
                      exact J76 (0) (by omega)
                    · refine ab_iconst (pc := 71) dX10_law_71 (by decide) ?_
                      refine ab_goto (pc := 72) 76 dX10_law_72 (by decide) ?_
                      exact J76 (1) (by omega)
                  · refine ab_iload_n (pc := 58) dX10_law_58 rfl ?_
                    refine ab_iload_n (pc := 59) dX10_law_59 rfl ?_
                    refine ab_icmp_le (pc := 60) 75 dX10_law_60 (by decide) (fun c60 => ?_) (fun c60 => ?_)
                    · refine ab_iconst (pc := 75) dX10_law_75 (by decide) ?_
                      exact J76 (0) (by omega)
                    · refine ab_goto (pc := 63) 71 dX10_law_63 (by decide) ?_
                      refine ab_iconst (pc := 71) dX10_law_71 (by decide) ?_
                      refine ab_goto (pc := 72) 76 dX10_law_72 (by decide) ?_
                      exact J76 (1) (by omega)
      · refine ab_iload_n (pc := 26) dX10_law_26 rfl ?_
        refine ab_iconst (pc := 27) dX10_law_27 (by decide) ?_
        refine ab_icmp_ne (pc := 28) 78 dX10_law_28 (by decide) (fun c28 => ?_) (fun c28 => ?_)
        · exact J78 (v) (by omega)
        · refine ab_via (S := []) 76 (fun v : Int => (v = 1 ∧ 0 ≤ t ∧ t ≤ 5 ∧ (t = 1 → 1 ≤ b ∧ b < a ∧ a ≤ 30) ∧ (t = 2 → 1 ≤ b ∧ b ≤ a ∧ a ≤ 30)) ∨ (v = 0 ∧ ¬ (0 ≤ t ∧ t ≤ 5 ∧ (t = 1 → 1 ≤ b ∧ b < a ∧ a ≤ 30) ∧ (t = 2 → 1 ≤ b ∧ b ≤ a ∧ a ≤ 30)))) (fun v hv => ?_) (fun J76 => ?_)
          · refine ab_istore (pc := 76) dX10_law_76 rfl (Nat.le_of_ble_eq_true rfl) ?_
            exact J78 (v) (by omega)
          · refine ab_iload_n (pc := 31) dX10_law_31 rfl ?_
            refine ab_iconst (pc := 32) dX10_law_32 (by decide) ?_
            refine ab_icmp_lt (pc := 33) 75 dX10_law_33 (by decide) (fun c33 => ?_) (fun c33 => ?_)
            · refine ab_iconst (pc := 75) dX10_law_75 (by decide) ?_
              exact J76 (0) (by omega)
            · refine ab_iload_n (pc := 36) dX10_law_36 rfl ?_
              refine ab_bipush (pc := 37) dX10_law_37 (by decide) ?_
              refine ab_icmp_gt (pc := 39) 75 dX10_law_39 (by decide) (fun c39 => ?_) (fun c39 => ?_)
              · refine ab_iconst (pc := 75) dX10_law_75 (by decide) ?_
                exact J76 (0) (by omega)
              · refine ab_iload_n (pc := 42) dX10_law_42 rfl ?_
                refine ab_iconst (pc := 43) dX10_law_43 (by decide) ?_
                refine ab_icmp_lt (pc := 44) 75 dX10_law_44 (by decide) (fun c44 => ?_) (fun c44 => ?_)
                · refine ab_iconst (pc := 75) dX10_law_75 (by decide) ?_
                  exact J76 (0) (by omega)
                · refine ab_iload_n (pc := 47) dX10_law_47 rfl ?_
                  refine ab_bipush (pc := 48) dX10_law_48 (by decide) ?_
                  refine ab_icmp_gt (pc := 50) 75 dX10_law_50 (by decide) (fun c50 => ?_) (fun c50 => ?_)
                  · refine ab_iconst (pc := 75) dX10_law_75 (by decide) ?_
                    exact J76 (0) (by omega)
                  · refine ab_iload_n (pc := 53) dX10_law_53 rfl ?_
                    refine ab_iconst (pc := 54) dX10_law_54 (by decide) ?_
                    refine ab_icmp_ne (pc := 55) 66 dX10_law_55 (by decide) (fun c55 => ?_) (fun c55 => ?_)
                    · refine ab_iload_n (pc := 66) dX10_law_66 rfl ?_
                      refine ab_iload_n (pc := 67) dX10_law_67 rfl ?_
                      refine ab_icmp_lt (pc := 68) 75 dX10_law_68 (by decide) (fun c68 => ?_) (fun c68 => ?_)
                      · refine ab_iconst (pc := 75) dX10_law_75 (by decide) ?_
                        exact J76 (0) (by omega)
                      · refine ab_iconst (pc := 71) dX10_law_71 (by decide) ?_
                        refine ab_goto (pc := 72) 76 dX10_law_72 (by decide) ?_
                        exact J76 (1) (by omega)
                    · refine ab_iload_n (pc := 58) dX10_law_58 rfl ?_
                      refine ab_iload_n (pc := 59) dX10_law_59 rfl ?_
                      refine ab_icmp_le (pc := 60) 75 dX10_law_60 (by decide) (fun c60 => ?_) (fun c60 => ?_)
                      · refine ab_iconst (pc := 75) dX10_law_75 (by decide) ?_
                        exact J76 (0) (by omega)
                      · refine ab_goto (pc := 63) 71 dX10_law_63 (by decide) ?_
                        refine ab_iconst (pc := 71) dX10_law_71 (by decide) ?_
                        refine ab_goto (pc := 72) 76 dX10_law_72 (by decide) ?_
                        exact J76 (1) (by omega)
  · refine ab_iload_n (pc := 5) dX10_law_5 rfl ?_
    refine ab_if_lt (pc := 6) 18 dX10_law_6 (by decide) (fun c6 => ?_) (fun c6 => ?_)
    · refine ab_iconst (pc := 18) dX10_law_18 (by decide) ?_
      exact J19 (0) (by omega)
    · refine ab_iload_n (pc := 9) dX10_law_9 rfl ?_
      refine ab_iconst (pc := 10) dX10_law_10 (by decide) ?_
      refine ab_icmp_gt (pc := 11) 18 dX10_law_11 (by decide) (fun c11 => ?_) (fun c11 => ?_)
      · refine ab_iconst (pc := 18) dX10_law_18 (by decide) ?_
        exact J19 (0) (by omega)
      · refine ab_iconst (pc := 14) dX10_law_14 (by decide) ?_
        refine ab_goto (pc := 15) 19 dX10_law_15 (by decide) ?_
        exact J19 (1) (by omega)
end M2
