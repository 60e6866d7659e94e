/-! the reference: keeps -/
section M15
variable {l : Launch} {E : AbE} {m : Nat} {A : Nat → Nat} {s0 : Nat → Int} {F0 : Nat → Int → Int} {h0 : AbH}
theorem m_beginSearchQ (hG : ab_G l E) (hM : mR h0 m A s0 F0) {e a n : Int} (e32 : s0 32 = 1) (l0 : 0 ≤ s0 7) (l1 : s0 7 ≤ 12) : ab_M l E Y_X10_beginSearch 5 1 0 0 [vR m, vI e, vI a, vI n] h0 (mC h0 m A s0 F0 [24, 25, 26, 27, 28, 29, 31, 33] [] (fun r s' F' => r = none ∧ s' 25 = e ∧ s' 26 = a ∧ s' 27 = n ∧ s' 24 = 1 ∧ s' 28 = 0 ∧ s' 29 = 0 ∧ s' 33 = 0 ∧ s' 31 = 0)) := by
  refine (m_beginSearch hG hM l0 l1).mono ?_
  rintro o h' ⟨r, s', F', z1, z2, z3, z4, z5, z6, z7, z8⟩
  refine ⟨r, s', F', z1, z2, z3, z4, z5, z6, ?_, z8⟩
  rcases z7 with z7 | z7
  · exact absurd (e32.symm.trans z7.1) (by decide)
  · exact z7.2
def keepSp (s : Nat → Int) (F : Nat → Int → Int) (w0 : Int → Int) (b x c r lk n : Int) (g : Int → Int) : Prop := (¬ mkOk F b ∧ c = 1 ∧ r = 0 ∧ lk = s 23) ∨ (mkOk F b ∧ ¬ (0 ≤ x ∧ x < s 1) ∧ c = 2 ∧ r = 0 ∧ lk = s 23) ∨ (mkOk F b ∧ 0 ≤ x ∧ x < s 1 ∧ c = 0 ∧ ∃ last : Int, kLast F b last ∧ kEnd (mSz F b) (mWd F b) (F 36 b) last w0 r lk n g)
/-- most and fewest so far -/
def moFe (F : Nat → Int → Int) (b u mo fe : Int) : Prop := (∀ x : Int, 0 ≤ x → x < u → mSz F b x ≤ mo ∧ fe ≤ mSz F b x) ∧ ((u = 0 ∧ mo = 0 ∧ fe = 20) ∨ ((∃ x : Int, 0 ≤ x ∧ x < u ∧ mSz F b x = mo) ∧ (∃ x : Int, 0 ≤ x ∧ x < u ∧ mSz F b x = fe)))
theorem moFe_step {F : Nat → Int → Int} {b u mo fe mo' fe' : Int} (h : moFe F b u mo fe) (u0 : 0 ≤ u) (s1 : 1 ≤ mSz F b u) (s2 : mSz F b u ≤ 20) (hm : mo' = (if mo < mSz F b u then mSz F b u else mo)) (hf : fe' = (if mSz F b u < fe then mSz F b u else fe)) (mo0 : 0 ≤ mo) (fe2 : fe ≤ 20) : moFe F b (u + 1) mo' fe' := by
  obtain ⟨h1, h2⟩ := h
  subst hm hf
  refine ⟨fun x x0 x1 => ?_, Or.inr ⟨?_, ?_⟩⟩
  · by_cases e : x = u
    · rw [e]
      constructor <;> split <;> omega
    · have := h1 x x0 (by omega)
      constructor <;> split <;> omega
  · by_cases e : mo < mSz F b u
    · rw [if_pos e]
      exact ⟨u, u0, by omega, rfl⟩
    · rw [if_neg e]
      rcases h2 with ⟨_, g2, _⟩ | ⟨⟨x, g1, g2, g3⟩, _⟩
      · omega
      · exact ⟨x, g1, by omega, g3⟩
  · by_cases e : mSz F b u < fe
    · rw [if_pos e]
      exact ⟨u, u0, by omega, rfl⟩
    · rw [if_neg e]
      rcases h2 with ⟨g1, _, g3⟩ | ⟨_, ⟨x, g1, g2, g3⟩⟩
      · exact ⟨u, u0, by omega, by omega⟩
      · exact ⟨x, g1, by omega, g3⟩
theorem m_keeps_168 (hG : ab_G l E) (b7 : 0 ≤ s0 7) (c7 : s0 7 ≤ 12) (lb : ∀ q : Int, 0 ≤ q → q < s0 7 → lawB F0 q) {b x mo fe la n : Int} (mk : mkOk F0 b) (mb : mapB F0 b) (x0 : 0 ≤ x) (x1 : x < s0 1) (s16 : s0 1 ≤ 16) (hla : kLast F0 b la) (la0 : la ≤ 40) {w1 : Int → Int} {lk1 : Int} {j : Nat} (hj : n = (j : Int) + 1) (jl : (j : Int) < la) (hps : kPass (mSz F0 b) (mWd F0 b) (F0 36 b) (F0 30) j w1 lk1) (hC : ∀ (w2 : Int → Int) (lk2 : Int) (h : AbH) (s : Nat → Int) (F : Nat → Int → Int), mW h0 m A s0 F0 [0, 23, 24, 25, 26, 27, 28, 29, 31, 32, 33, 40] [3, 4, 13, 14, 15, 30, 39] h s F → s 0 = 0 → s 32 = 1 → F 3 = F0 3 → F 4 = F0 4 → F 30 = w2 → s 23 = lk2 → 0 ≤ lk2 → lk2 ≤ 20000 → kPass (mSz F0 b) (mWd F0 b) (F0 36 b) (F0 30) (j + 1) w2 lk2 → ab_T l E Y_X10_keeps 7 0 0 219 [some (vR m), some (vI b), some (vI x), some (vI mo), some (vI fe), some (vI la), some (vI n)] [] h (mC h0 m A s0 F0 [0, 23, 24, 25, 26, 27, 28, 29, 31, 32, 33, 40] [3, 4, 13, 14, 15, 30, 39] (fun r s' F' => ∃ (c r9 n9 : Int) (g : Int → Int), r = some (vI r9) ∧ s' 0 = c ∧ keepSp s0 F0 (F0 30) b x c r9 (s' 23) n9 g ∧ ((c = 0 ∧ r9 = 0 ∧ F' 3 = ab_f (F0 3) (10 * x) n9 ∧ F' 4 = fil (F0 4) (80 * (10 * x)) 80 (fun i => if i < n9 then g i else 0)) ∨ (¬ (c = 0 ∧ r9 = 0) ∧ F' 3 = F0 3 ∧ F' 4 = F0 4))))) (fu : Nat) : ∀ (t : Nat) (w : Int → Int) (d lk lg : Int) (h : AbH) (s : Nat → Int) (F : Nat → Int → Int), mW h0 m A s0 F0 [0, 23, 24, 25, 26, 27, 28, 29, 31, 32, 33, 40] [3, 4, 13, 14, 15, 30, 39] h s F → (20000 - lk).toNat < fu → (s 0 = 0) → (s 32 = 1) → (F 3 = F0 3) → (F 4 = F0 4) → (F 30 = w) → (s 28 = d) → (s 23 = lk) → (s 29 = lg) → (s 31 = 0) → (s 33 = sB t) → (s 24 = 1) → (s 26 = F0 36 b) → (s 27 = n) → (sInv (F0 36 b) n w d lk lg) → (sChain NS (F0 36 b) n 1 w1 0 lk1 0 t w d lk lg) → (∀ (t' : Nat) (z : SR), t' < t → sEnd NS (F0 36 b) n 1 w1 0 lk1 0 t' z → ImOk (mSz F0 b) (mWd F0 b) z.2.1 n) → ab_T l E Y_X10_keeps 7 0 0 168 [some (vR m), some (vI b), some (vI x), some (vI mo), some (vI fe), some (vI la), some (vI n)] [] h (mC h0 m A s0 F0 [0, 23, 24, 25, 26, 27, 28, 29, 31, 32, 33, 40] [3, 4, 13, 14, 15, 30, 39] (fun r s' F' => ∃ (c r9 n9 : Int) (g : Int → Int), r = some (vI r9) ∧ s' 0 = c ∧ keepSp s0 F0 (F0 30) b x c r9 (s' 23) n9 g ∧ ((c = 0 ∧ r9 = 0 ∧ F' 3 = ab_f (F0 3) (10 * x) n9 ∧ F' 4 = fil (F0 4) (80 * (10 * x)) 80 (fun i => if i < n9 then g i else 0)) ∨ (¬ (c = 0 ∧ r9 = 0) ∧ F' 3 = F0 3 ∧ F' 4 = F0 4)))) := by
  induction fu with
  | zero => intro t w d lk lg h s F hW hm; exact absurd hm (Nat.not_lt_zero _)
  | succ fu ih =>
    intro t w d lk lg h s F hW hm t0 e32 f3 f4 e30 e28 e23 e29 e31 e33 e24 e26 e27 inv ch no
    have jn : ((j : Nat) : Int) + 1 = n := hj.symm
    obtain ⟨v0, v1, v2, v3, v4, v5, v6, v7⟩ := id inv
    refine ab_aload_n (pc := 168) dX10_keeps_168 rfl ?_
    refine ab_callV (pc := 169) (m_next (kp := NS) (b := sB t) hG hW.1 (hW.law (by decide)) (hW.sv 7 (by decide)) b7 c7 lb (Or.inr ⟨e32, rfl⟩) e26 mb.1 mb.2.1 e27 (by omega) e24 (by omega) (by omega) (by omega) e30 e28 e23 e29 e31 e33 (by unfold sB; split; exact Or.inl rfl; exact Or.inr rfl) inv) hW.obj rfl ⟨w1316, w5, w1319, by decide, pd20⟩ w1318 sp38 rfl (by decide) (by decide) (Nat.le_of_ble_eq_true rfl) rfl dX10_keeps_169 (fun _ _ hx => absurd hx mC_no) ?_
    rintro _ h ⟨_, s1, F1, e9, hc1, ⟨o, w9, d9, lk9, lg9, nx, i30, i28, i23, i29, inv9, ho, hf⟩, i33⟩
    cases e9
    replace hW := hW.call hc1 (by decide) (by decide)
    have nl := sNext_lk (by omega) nx
    have q9 : lk9 ≤ 20000 := inv9.2.2.2.2.2.1
    rcases ho with ⟨rfl, rfl, i31⟩ | ⟨rfl, rfl, i31⟩ | ⟨rfl, rfl, i31⟩
    · have lw := (hf rfl).2
      refine ab_if_eq (pc := 172) 209 dX10_keeps_172 (by decide) (fun c172 => absurd c172 (by omega)) (fun c172 => ?_)
      refine ab_aload_n (pc := 175) dX10_keeps_175 rfl ?_
      refine ab_iload_n (pc := 176) dX10_keeps_176 rfl ?_
      refine ab_aload_n (pc := 177) dX10_keeps_177 rfl ?_
      refine ab_get (pc := 178) (k := 30) (x := vR (A 30)) okX10 hW.obj rfl w1085 rfl dX10_keeps_178 ?_
      refine ab_iload (pc := 181) dX10_keeps_181 rfl ?_
      refine ab_callV (pc := 183) (m_findImageG (K := 30) (G := F0) hG hW.1 (by unfold wK; decide) (hW.map (by decide)) i30 mk.1 mk.2.1 (by omega) (by omega) (by show _ ≤ (80 : Int); omega) mb lw) hW.obj rfl ⟨w1360, w5, w1363, by decide, pd61⟩ w1362 sp44 rfl (by decide) (by decide) (Nat.le_of_ble_eq_true rfl) rfl dX10_keeps_183 (fun _ _ hx => absurd hx mC_no) ?_
      rintro _ h ⟨_, s2, F2, e9, hc2, rfl, q40, hI⟩
      cases e9
      replace hW := hW.call hc2 (by decide) (by decide)
      have hs9 : ∀ k : Int, 0 ≤ k → k < n → 1 ≤ mSz F0 b (w9 k) := fun j j0 j1 => (mb.2.2 _ (lw j j0 j1).1 (lw j j0 j1).2).1
      have pl9 := pl_le (z := mSz F0 b) (sh := w9) (q := 0) (n := n) (C := 20) (fun j j0 j1 => by rw [Int.zero_add]; exact (mb.2.2 _ (lw j j0 j1).1 (lw j j0 j1).2).2.1) n (by omega) (Int.le_refl _)
      refine ab_aload_n (pc := 186) dX10_keeps_186 rfl ?_
      refine ab_callV (pc := 187) (m_hasSquare hG hW.1 q40 rfl (by omega)) hW.obj rfl ⟨w1368, w5, w1371, by decide, pd20⟩ w1370 sp45 rfl (by decide) (by decide) (Nat.le_of_ble_eq_true rfl) rfl dX10_keeps_187 (fun _ _ hx => absurd hx pC_no) ?_
      rintro _ _ ⟨hv9, e9, rfl, hsq⟩
      cases e9
      rw [← ImOk_of hs9 (by omega) hI] at hsq
      refine ab_if_ne (pc := 190) 196 dX10_keeps_190 (by decide) (fun c190 => ?_) (fun c190 => ?_)
      · have o3 := ((hc2.Fv 3 (by decide)).trans ((hc1.Fv 3 (by decide)).trans f3))
        have o4 := ((hc2.Fv 4 (by decide)).trans ((hc1.Fv 4 (by decide)).trans f4))
        have o30 := ((hc2.Fv 30 (by decide)).trans i30)
        refine ab_aload_n (pc := 196) dX10_keeps_196 rfl ?_
        refine ab_iload_n (pc := 197) dX10_keeps_197 rfl ?_
        refine ab_aload_n (pc := 198) dX10_keeps_198 rfl ?_
        refine ab_get (pc := 199) (k := 30) (x := vR (A 30)) okX10 hW.obj rfl w1085 rfl dX10_keeps_199 ?_
        refine ab_iload (pc := 202) dX10_keeps_202 rfl ?_
        refine ab_callV (pc := 204) (m_write30 hG hW.1 (by omega) (by omega) (by omega)) hW.obj rfl ⟨w1336, w5, w1339, by decide, pd61⟩ w1338 sp42 rfl (by decide) (by decide) (Nat.le_of_ble_eq_true rfl) rfl dX10_keeps_204 (fun _ _ hx => absurd hx mC_no) ?_
        rintro _ h ⟨_, s4, F4, e9, hc4, y3, y4, rfl⟩
        cases e9
        replace hW := hW.call hc4 (by decide) (by decide)
        refine ab_iconst (pc := 207) dX10_keeps_207 (by decide) ?_
        refine ab_iret (pc := 208) dX10_keeps_208 rfl ?_
        have im : ¬ ImOk (mSz F0 b) (mWd F0 b) w9 n := by rcases hsq with g | g; exact g.2; (exfalso; omega)
        refine ⟨_, _, _, rfl, hW, 0, 0, n, w9, rfl, ((hc4.sv 0 (by decide)).trans ((hc2.sv 0 (by decide)).trans ((hc1.sv 0 (by decide)).trans t0))), Or.inr (Or.inr ⟨mk, x0, x1, rfl, la, hla, Or.inr ⟨j, w1, lk1, t, _, by omega, hj, hps, by rw [jn]; exact ⟨⟨w, d, lk, lg, ch, nx⟩, no⟩, ((hc4.sv 23 (by decide)).trans ((hc2.sv 23 (by decide)).trans i23)), Or.inl ⟨rfl, rfl, by rw [jn]; exact im, fun i i0 i1 => rfl⟩⟩⟩), Or.inl ⟨rfl, rfl, ?_, ?_⟩⟩
        · exact y3.trans (by rw [o3])
        · exact y4.trans (by rw [o4, o30])
      · refine ab_goto (pc := 193) 168 dX10_keeps_193 (by decide) ?_
        have im : ImOk (mSz F0 b) (mWd F0 b) w9 n := by rcases hsq with g | g; (exfalso; omega); exact g.2
        exact ih (t + 1) w9 d9 lk9 lg9 _ _ _ hW (by omega) ((hc2.sv 0 (by decide)).trans ((hc1.sv 0 (by decide)).trans t0)) ((hc2.sv 32 (by decide)).trans ((hc1.sv 32 (by decide)).trans e32)) ((hc2.Fv 3 (by decide)).trans ((hc1.Fv 3 (by decide)).trans f3)) ((hc2.Fv 4 (by decide)).trans ((hc1.Fv 4 (by decide)).trans f4)) ((hc2.Fv 30 (by decide)).trans i30) ((hc2.sv 28 (by decide)).trans i28) ((hc2.sv 23 (by decide)).trans i23) ((hc2.sv 29 (by decide)).trans i29) ((hc2.sv 31 (by decide)).trans i31) ((hc2.sv 33 (by decide)).trans i33) ((hc2.sv 24 (by decide)).trans ((hc1.sv 24 (by decide)).trans e24)) ((hc2.sv 26 (by decide)).trans ((hc1.sv 26 (by decide)).trans e26)) ((hc2.sv 27 (by decide)).trans ((hc1.sv 27 (by decide)).trans e27)) inv9 ⟨w, d, lk, lg, ch, nx⟩ (fun t9 z ht hz => by by_cases e9 : t9 = t; (subst e9; rw [sEnd_fun hz ⟨w, d, lk, lg, ch, nx⟩]; exact im); exact no t9 z (by omega) hz)
    · refine ab_if_eq (pc := 172) 209 dX10_keeps_172 (by decide) (fun c172 => ?_) (fun c172 => absurd c172 (by omega))
      refine ab_aload_n (pc := 209) dX10_keeps_209 rfl ?_
      refine ab_get (pc := 210) (k := 31) (x := vI (0)) okX10 hW.obj (mg rfl i31) w1086 rfl dX10_keeps_210 ?_
      refine ab_if_eq (pc := 213) 219 dX10_keeps_213 (by decide) (fun c213 => ?_) (fun c213 => absurd c213 (by omega))
      exact hC w9 lk9 _ _ _ hW ((hc1.sv 0 (by decide)).trans t0) ((hc1.sv 32 (by decide)).trans e32) ((hc1.Fv 3 (by decide)).trans f3) ((hc1.Fv 4 (by decide)).trans f4) i30 i23 (by omega) (by omega) ⟨w1, lk1, t, _, hps, by rw [jn]; exact ⟨⟨w, d, lk, lg, ch, nx⟩, no⟩, rfl, rfl, rfl⟩
    · refine ab_if_eq (pc := 172) 209 dX10_keeps_172 (by decide) (fun c172 => ?_) (fun c172 => absurd c172 (by omega))
      refine ab_aload_n (pc := 209) dX10_keeps_209 rfl ?_
      refine ab_get (pc := 210) (k := 31) (x := vI (1)) okX10 hW.obj (mg rfl i31) w1086 rfl dX10_keeps_210 ?_
      refine ab_if_eq (pc := 213) 219 dX10_keeps_213 (by decide) (fun c213 => absurd c213 (by omega)) (fun c213 => ?_)
      refine ab_bipush (pc := 216) dX10_keeps_216 (by decide) ?_
      refine ab_iret (pc := 218) dX10_keeps_218 rfl ?_
      exact ⟨_, _, _, rfl, hW, 0, -2, n, w9, rfl, ((hc1.sv 0 (by decide)).trans t0), Or.inr (Or.inr ⟨mk, x0, x1, rfl, la, hla, Or.inr ⟨j, w1, lk1, t, _, by omega, hj, hps, by rw [jn]; exact ⟨⟨w, d, lk, lg, ch, nx⟩, no⟩, i23, Or.inr ⟨rfl, rfl⟩⟩⟩), Or.inr ⟨by decide, ((hc1.Fv 3 (by decide)).trans f3), ((hc1.Fv 4 (by decide)).trans f4)⟩⟩
theorem m_keeps_148 (hG : ab_G l E) (b7 : 0 ≤ s0 7) (c7 : s0 7 ≤ 12) (lb : ∀ q : Int, 0 ≤ q → q < s0 7 → lawB F0 q) {b x mo fe la : Int} (mk : mkOk F0 b) (mb : mapB F0 b) (x0 : 0 ≤ x) (x1 : x < s0 1) (s16 : s0 1 ≤ 16) (hla : kLast F0 b la) (la0 : la ≤ 40) (la1 : 0 ≤ la) (fu : Nat) : ∀ (n : Int) (w1 : Int → Int) (lk1 : Int) (j : Nat) (h : AbH) (s : Nat → Int) (F : Nat → Int → Int), mW h0 m A s0 F0 [0, 23, 24, 25, 26, 27, 28, 29, 31, 32, 33, 40] [3, 4, 13, 14, 15, 30, 39] h s F → (la + 1 - n).toNat < fu → (s 0 = 0) → (s 32 = 1) → (F 3 = F0 3) → (F 4 = F0 4) → (F 30 = w1) → (s 23 = lk1) → (n = (j : Int) + 1) → (n ≤ la + 1) → (0 ≤ lk1) → (lk1 ≤ 20000) → (kPass (mSz F0 b) (mWd F0 b) (F0 36 b) (F0 30) j w1 lk1) → ab_T l E Y_X10_keeps 7 0 0 148 [some (vR m), some (vI b), some (vI x), some (vI mo), some (vI fe), some (vI la), some (vI n)] [] h (mC h0 m A s0 F0 [0, 23, 24, 25, 26, 27, 28, 29, 31, 32, 33, 40] [3, 4, 13, 14, 15, 30, 39] (fun r s' F' => ∃ (c r9 n9 : Int) (g : Int → Int), r = some (vI r9) ∧ s' 0 = c ∧ keepSp s0 F0 (F0 30) b x c r9 (s' 23) n9 g ∧ ((c = 0 ∧ r9 = 0 ∧ F' 3 = ab_f (F0 3) (10 * x) n9 ∧ F' 4 = fil (F0 4) (80 * (10 * x)) 80 (fun i => if i < n9 then g i else 0)) ∨ (¬ (c = 0 ∧ r9 = 0) ∧ F' 3 = F0 3 ∧ F' 4 = F0 4)))) := by
  induction fu with
  | zero => intro n w1 lk1 j h s F hW hm; exact absurd hm (Nat.not_lt_zero _)
  | succ fu ih =>
    intro n w1 lk1 j h s F hW hm t0 e32 f3 f4 e30 e23 hj nl l0 l1 hps
    obtain ⟨mk1, mk2, mk3⟩ := id mk
    refine ab_iload (pc := 148) dX10_keeps_148 rfl ?_
    refine ab_iload (pc := 150) dX10_keeps_150 rfl ?_
    refine ab_icmp_gt (pc := 152) 225 dX10_keeps_152 (by decide) (fun c152 => ?_) (fun c152 => ?_)
    · refine ab_iconst (pc := 225) dX10_keeps_225 (by decide) ?_
      refine ab_iret (pc := 226) dX10_keeps_226 rfl ?_
      exact ⟨_, _, _, rfl, hW, 0, 1, 0, w1, rfl, t0, Or.inr (Or.inr ⟨mk, x0, x1, rfl, la, hla, Or.inl ⟨rfl, rfl, w1, by rw [show la.toNat = j by omega, e23]; exact hps⟩⟩), Or.inr ⟨by decide, f3, f4⟩⟩
    · refine ab_aload_n (pc := 155) dX10_keeps_155 rfl ?_
      refine ab_iconst (pc := 156) dX10_keeps_156 (by decide) ?_
      refine ab_aload_n (pc := 157) dX10_keeps_157 rfl ?_
      refine ab_get (pc := 158) (k := 36) (x := vR (A 36)) okX10 hW.obj rfl w1091 rfl dX10_keeps_158 ?_
      refine ab_iload_n (pc := 161) dX10_keeps_161 rfl ?_
      refine ab_iald (pc := 162) (n := 8) (f := F0 36) (hW.arr 36 rfl (hW.Fv 36 (by decide))) (by omega) (by omega) dX10_keeps_162 ?_
      refine ab_iload (pc := 163) dX10_keeps_163 rfl ?_
      refine ab_callV (pc := 165) (m_beginSearchQ hG hW.1 e32 (by rw [(hW.sv 7 (by decide))]; exact b7) (by rw [(hW.sv 7 (by decide))]; exact c7)) hW.obj rfl ⟨w1312, w5, w1315, by decide, pd13⟩ w1314 sp37 rfl (by decide) (by decide) (Nat.le_of_ble_eq_true rfl) rfl dX10_keeps_165 (fun _ _ hx => absurd hx mC_no) ?_
      rintro _ h ⟨_, s1, F1, e9, hc1, rfl, j25, j26, j27, j24, j28, j29, j33, j31⟩
      cases e9
      replace hW := hW.call hc1 (by decide) (by decide)
      refine m_keeps_168 (w1 := w1) (lk1 := lk1) (j := j) hG b7 c7 lb mk mb x0 x1 s16 hla la0 hj (by omega) hps (fun w2 lk2 h s F hW t0 e32 f3 f4 e30 e23 l0 l1 hps => ?_) _ 0 w1 0 lk1 0 _ _ _ hW (Nat.lt_succ_self _) ((hc1.sv 0 (by decide)).trans t0) ((hc1.sv 32 (by decide)).trans e32) ((hc1.Fv 3 (by decide)).trans f3) ((hc1.Fv 4 (by decide)).trans f4) ((hc1.Fv 30 (by decide)).trans e30) j28 ((hc1.sv 23 (by decide)).trans e23) j29 j31 j33 j24 j26 j27 ⟨by omega, by omega, fun j j0 j1 => absurd j1 (by omega), fun e9 => absurd e9 (by omega), by omega, by omega, by omega, by omega⟩ ⟨rfl, rfl, rfl, rfl⟩ (fun t9 z ht => absurd ht (Nat.not_lt_zero _))
      refine ab_iinc (pc := 219) dX10_keeps_219 rfl rfl (by decide) (by omega) (by omega) ?_
      refine ab_goto (pc := 222) 148 dX10_keeps_222 (by decide) ?_
      exact ih (n + 1) w2 lk2 (j + 1) _ _ _ hW (by omega) t0 e32 f3 f4 e30 e23 (by omega) (by omega) l0 l1 hps
theorem m_keeps_37 {h : AbH} {s : Nat → Int} {F : Nat → Int → Int} (hW : mW h0 m A s0 F0 [0, 23, 24, 25, 26, 27, 28, 29, 31, 32, 33, 40] [3, 4, 13, 14, 15, 30, 39] h s F) {b x : Int} (mk : mkOk F0 b) (mb : mapB F0 b) (hC : ∀ (mo fe u : Int) (x6 : Option AbV), moFe F0 b (F0 36 b) mo fe → 0 ≤ mo → mo ≤ 20 → 1 ≤ fe → fe ≤ 20 → ab_T l E Y_X10_keeps 7 0 0 97 [some (vR m), some (vI b), some (vI x), some (vI mo), some (vI fe), some (vI u), x6] [] h (mC h0 m A s0 F0 [0, 23, 24, 25, 26, 27, 28, 29, 31, 32, 33, 40] [3, 4, 13, 14, 15, 30, 39] (fun r s' F' => ∃ (c r9 n9 : Int) (g : Int → Int), r = some (vI r9) ∧ s' 0 = c ∧ keepSp s0 F0 (F0 30) b x c r9 (s' 23) n9 g ∧ ((c = 0 ∧ r9 = 0 ∧ F' 3 = ab_f (F0 3) (10 * x) n9 ∧ F' 4 = fil (F0 4) (80 * (10 * x)) 80 (fun i => if i < n9 then g i else 0)) ∨ (¬ (c = 0 ∧ r9 = 0) ∧ F' 3 = F0 3 ∧ F' 4 = F0 4))))) (fu : Nat) : ∀ (u mo fe : Int) (x6 : Option AbV), (F0 36 b - u).toNat < fu → (0 ≤ u) → (u ≤ F0 36 b) → (0 ≤ mo) → (mo ≤ 20) → (1 ≤ fe) → (fe ≤ 20) → (moFe F0 b u mo fe) → ab_T l E Y_X10_keeps 7 0 0 37 [some (vR m), some (vI b), some (vI x), some (vI mo), some (vI fe), some (vI u), x6] [] h (mC h0 m A s0 F0 [0, 23, 24, 25, 26, 27, 28, 29, 31, 32, 33, 40] [3, 4, 13, 14, 15, 30, 39] (fun r s' F' => ∃ (c r9 n9 : Int) (g : Int → Int), r = some (vI r9) ∧ s' 0 = c ∧ keepSp s0 F0 (F0 30) b x c r9 (s' 23) n9 g ∧ ((c = 0 ∧ r9 = 0 ∧ F' 3 = ab_f (F0 3) (10 * x) n9 ∧ F' 4 = fil (F0 4) (80 * (10 * x)) 80 (fun i => if i < n9 then g i else 0)) ∨ (¬ (c = 0 ∧ r9 = 0) ∧ F' 3 = F0 3 ∧ F' 4 = F0 4)))) := by
  induction fu with
  | zero => intro u mo fe x6 hm; exact absurd hm (Nat.not_lt_zero _)
  | succ fu ih =>
    intro u mo fe x6 hm u0 u1 m0 m2 q0 q2 I
    obtain ⟨mk1, mk2, mk3⟩ := id mk
    have al8 := mb.2.1
    have z9 : F0 37 (8 * b + u) = mSz F0 b u := rfl
    refine ab_iload (pc := 37) dX10_keeps_37 rfl ?_
    refine ab_aload_n (pc := 39) dX10_keeps_39 rfl ?_
    refine ab_get (pc := 40) (k := 36) (x := vR (A 36)) okX10 hW.obj rfl w1091 rfl dX10_keeps_40 ?_
    refine ab_iload_n (pc := 43) dX10_keeps_43 rfl ?_
    refine ab_iald (pc := 44) (n := 8) (f := F0 36) (hW.arr 36 rfl (hW.Fv 36 (by decide))) (by omega) (by omega) dX10_keeps_44 ?_
    refine ab_icmp_ge (pc := 45) 97 dX10_keeps_45 (by decide) (fun c45 => ?_) (fun c45 => ?_)
    · exact hC mo fe u x6 (by rw [show F0 36 b = u by omega]; exact I) m0 m2 q0 q2
    · refine ab_aload_n (pc := 48) dX10_keeps_48 rfl ?_
      refine ab_get (pc := 49) (k := 37) (x := vR (A 37)) okX10 hW.obj rfl w1092 rfl dX10_keeps_49 ?_
      refine ab_bipush (pc := 52) dX10_keeps_52 (by decide) ?_
      refine ab_iload_n (pc := 54) dX10_keeps_54 rfl ?_
      refine ab_imul (pc := 55) dX10_keeps_55 (by omega) (by omega) ?_
      refine ab_iload (pc := 56) dX10_keeps_56 rfl ?_
      refine ab_iadd (pc := 58) dX10_keeps_58 (by omega) (by omega) ?_
      refine ab_iald (pc := 59) (n := 64) (f := F0 37) (hW.arr 37 rfl (hW.Fv 37 (by decide))) (by omega) (by omega) dX10_keeps_59 ?_
      refine ab_istore (pc := 60) dX10_keeps_60 rfl (Nat.le_of_ble_eq_true rfl) ?_
      have z8 := mb.2.2 u u0 (by omega)
      refine ab_via (S := []) 74 (fun v : Int => v = (if mo < mSz F0 b u then mSz F0 b u else mo)) (fun v hv => ?_) (fun J74 => ?_)
      · have hv1 : 0 ≤ v ∧ v ≤ 20 := by rw [hv]; split <;> omega
        refine ab_istore_n (pc := 74) dX10_keeps_74 rfl (Nat.le_of_ble_eq_true rfl) ?_
        refine ab_via (S := []) 89 (fun y : Int => y = (if mSz F0 b u < fe then mSz F0 b u else fe)) (fun y hy => ?_) (fun J89 => ?_)
        · have hv2 : 1 ≤ y ∧ y ≤ 20 := by rw [hy]; split <;> omega
          refine ab_istore (pc := 89) dX10_keeps_89 rfl (Nat.le_of_ble_eq_true rfl) ?_
          refine ab_iinc (pc := 91) dX10_keeps_91 rfl rfl (by decide) (by omega) (by omega) ?_
          refine ab_goto (pc := 94) 37 dX10_keeps_94 (by decide) ?_
          exact ih (u + 1) (v) (y) _ (by omega) (by omega) (by omega) (by omega) (by omega) (by omega) (by omega) (moFe_step I u0 z8.1 z8.2.1 hv hy m0 q2)
        · refine ab_iload (pc := 75) dX10_keeps_75 rfl ?_
          refine ab_iload (pc := 77) dX10_keeps_77 rfl ?_
          refine ab_icmp_ge (pc := 79) 87 dX10_keeps_79 (by decide) (fun c79 => ?_) (fun c79 => ?_)
          · refine ab_iload (pc := 87) dX10_keeps_87 rfl ?_
            refine J89 _ ?_
            split <;> omega
          · refine ab_iload (pc := 82) dX10_keeps_82 rfl ?_
            refine ab_goto (pc := 84) 89 dX10_keeps_84 (by decide) ?_
            refine J89 _ ?_
            split <;> omega
      · have z8 := mb.2.2 u u0 (by omega)
        refine ab_iload (pc := 62) dX10_keeps_62 rfl ?_
        refine ab_iload_n (pc := 64) dX10_keeps_64 rfl ?_
        refine ab_icmp_le (pc := 65) 73 dX10_keeps_65 (by decide) (fun c65 => ?_) (fun c65 => ?_)
        · refine ab_iload_n (pc := 73) dX10_keeps_73 rfl ?_
          refine J74 _ ?_
          split <;> omega
        · refine ab_iload (pc := 68) dX10_keeps_68 rfl ?_
          refine ab_goto (pc := 70) 74 dX10_keeps_70 (by decide) ?_
          refine J74 _ ?_
          split <;> omega
theorem m_keeps (hG : ab_G l E) (hM : mR h0 m A s0 F0) {b x : Int} (b7 : 0 ≤ s0 7) (c7 : s0 7 ≤ 12) (lb : ∀ q : Int, 0 ≤ q → q < s0 7 → lawB F0 q) (s16 : s0 1 ≤ 16) (mbs : ∀ b : Int, mkOk F0 b → mapB F0 b) : ab_M l E Y_X10_keeps 7 7 0 0 [vR m, vI b, vI x] h0 (mC h0 m A s0 F0 [0, 23, 24, 25, 26, 27, 28, 29, 31, 32, 33, 40] [3, 4, 13, 14, 15, 30, 39] (fun r s' F' => ∃ (c r9 n9 : Int) (g : Int → Int), r = some (vI r9) ∧ s' 0 = c ∧ keepSp s0 F0 (F0 30) b x c r9 (s' 23) n9 g ∧ ((c = 0 ∧ r9 = 0 ∧ F' 3 = ab_f (F0 3) (10 * x) n9 ∧ F' 4 = fil (F0 4) (80 * (10 * x)) 80 (fun i => if i < n9 then g i else 0)) ∨ (¬ (c = 0 ∧ r9 = 0) ∧ F' 3 = F0 3 ∧ F' 4 = F0 4)))) := by
  refine ab_M.of (L0 := [some (vR m), some (vI b), some (vI x), none, none, none, none]) hG rfl rfl (Nat.le_of_ble_eq_true rfl) rfl ?_
  have hW : mW h0 m A s0 F0 [0, 23, 24, 25, 26, 27, 28, 29, 31, 32, 33, 40] [3, 4, 13, 14, 15, 30, 39] h0 s0 F0 := mW.start hM
  refine ab_aload_n (pc := 0) dX10_keeps_0 rfl ?_
  refine ab_iconst (pc := 1) dX10_keeps_1 (by decide) ?_
  refine ab_putG (pc := 2) (k := 0) okX10 hW.obj (by decide) (by decide) trivial w1055 rfl (Or.inl rfl) dX10_keeps_2 (fun h e9 n9 => ?_)
  replace hW := hW.put e9 n9 rfl (by decide)
  clear e9 n9
  refine ab_aload_n (pc := 5) dX10_keeps_5 rfl ?_
  refine ab_iload_n (pc := 6) dX10_keeps_6 rfl ?_
  refine ab_callV (pc := 7) (m_isMap (g := F0 35) hG hW.1 rfl (hW.Fv 35 (by decide))) hW.obj rfl ⟨w1356, w5, w1359, by decide, pd71⟩ w1358 sp43 rfl (by decide) (by decide) (Nat.le_of_ble_eq_true rfl) rfl dX10_keeps_7 (fun _ _ hx => absurd hx mC_no) ?_
  rintro _ h ⟨_, s1, F1, e9, hc1, hp1⟩
  cases e9
  replace hW := hW.call hc1 (by decide) (by decide)
  rcases hp1 with ⟨mk1, mk2, mk3, rfl, t1⟩ | ⟨mk1, rfl, t1⟩
  · refine ab_if_eq (pc := 10) 26 dX10_keeps_10 (by decide) (fun c10 => absurd c10 (by omega)) (fun c10 => ?_)
    have mb := mbs b ⟨mk1, mk2, mk3⟩
    refine ab_aload_n (pc := 13) dX10_keeps_13 rfl ?_
    refine ab_aload_n (pc := 14) dX10_keeps_14 rfl ?_
    refine ab_iload_n (pc := 15) dX10_keeps_15 rfl ?_
    refine ab_callV (pc := 16) (m_isSheet (n := s0 1) hG hW.1 (hW.sv 1 (by decide))) hW.obj rfl ⟨w1217, w5, w1220, by decide, pd71⟩ w1219 sp27 rfl (by decide) (by decide) (Nat.le_of_ble_eq_true rfl) rfl dX10_keeps_16 (fun _ _ hx => absurd hx pC_no) ?_
    rintro _ _ ⟨iv, e9, rfl, hiv⟩
    cases e9
    refine ab_iconst (pc := 19) dX10_keeps_19 (by decide) ?_
    refine ab_callV (pc := 20) (m_may hG hW.1 (by omega) t1 (by omega)) hW.obj rfl ⟨w1205, w5, w1208, by decide, pd74⟩ w1207 sp25 rfl (by decide) (by decide) (Nat.le_of_ble_eq_true rfl) rfl dX10_keeps_20 (fun _ _ hx => absurd hx mC_no) ?_
    rintro _ h ⟨_, s3, F3, e9, hc3, hp3⟩
    cases e9
    replace hW := hW.call hc3 (by decide) (by decide)
    rcases hp3 with ⟨g3, rfl, t3⟩ | ⟨g3, rfl, t3⟩
    · refine ab_if_ne (pc := 23) 28 dX10_keeps_23 (by decide) (fun c23 => ?_) (fun c23 => absurd c23 (by omega))
      refine ab_iconst (pc := 28) dX10_keeps_28 (by decide) ?_
      refine ab_istore_n (pc := 29) dX10_keeps_29 rfl (Nat.le_of_ble_eq_true rfl) ?_
      refine ab_bipush (pc := 30) dX10_keeps_30 (by decide) ?_
      refine ab_istore (pc := 32) dX10_keeps_32 rfl (Nat.le_of_ble_eq_true rfl) ?_
      refine ab_iconst (pc := 34) dX10_keeps_34 (by decide) ?_
      refine ab_istore (pc := 35) dX10_keeps_35 rfl (Nat.le_of_ble_eq_true rfl) ?_
      refine m_keeps_37 hW ⟨mk1, mk2, mk3⟩ mb (fun mo fe u x6 mf m0 m2 q0 q2 => ?_) _ 0 0 20 _ (Nat.lt_succ_self _) (by omega) (by have := mb.1; omega) (by omega) (by omega) (by omega) (by omega) ⟨fun x x0 x1 => absurd x1 (by omega), Or.inl ⟨rfl, rfl, rfl⟩⟩
      have dq0 : 3 < mo → 0 ≤ (mo - 3 + fe - 1) / fe := fun g => Int.ediv_nonneg (by omega) (by omega)
      have dq1 : 3 < mo → (mo - 3 + fe - 1) / fe ≤ mo - 3 + fe - 1 := fun g => Int.ediv_le_self _ (by omega)
      refine ab_via (S := []) 119 (fun y1 : Int => y1 = (if 3 < mo then 1 + (mo - 3 + fe - 1) / fe else 1)) (fun y1 hy1 => ?_) (fun J119 => ?_)
      · have y1b : y1 ≤ 38 := by rw [hy1]; split <;> omega
        have y1c : 1 ≤ y1 := by rw [hy1]; split <;> omega
        refine ab_istore (pc := 119) dX10_keeps_119 rfl (Nat.le_of_ble_eq_true rfl) ?_
        refine ab_via (S := []) 133 (fun y2 : Int => y2 = (if y1 < 3 then 3 else y1)) (fun y2 hy2 => ?_) (fun J133 => ?_)
        · have y2b : 3 ≤ y2 ∧ y2 ≤ 40 := by rw [hy2]; split <;> omega
          refine ab_istore (pc := 133) dX10_keeps_133 rfl (Nat.le_of_ble_eq_true rfl) ?_
          refine ab_aload_n (pc := 135) dX10_keeps_135 rfl ?_
          refine ab_iconst (pc := 136) dX10_keeps_136 (by decide) ?_
          refine ab_putG (pc := 137) (k := 23) okX10 hW.obj (by decide) (by decide) trivial w1078 rfl (Or.inl rfl) dX10_keeps_137 (fun h e9 n9 => ?_)
          replace hW := hW.put e9 n9 rfl (by decide)
          clear e9 n9
          refine ab_aload_n (pc := 140) dX10_keeps_140 rfl ?_
          refine ab_iconst (pc := 141) dX10_keeps_141 (by decide) ?_
          refine ab_putG (pc := 142) (k := 32) okX10 hW.obj (by decide) (by decide) (by show _ ∨ _; omega) w1087 rfl (Or.inl rfl) dX10_keeps_142 (fun h e9 n9 => ?_)
          replace hW := hW.put e9 n9 rfl (by decide)
          clear e9 n9
          refine ab_iconst (pc := 145) dX10_keeps_145 (by decide) ?_
          refine ab_istore (pc := 146) dX10_keeps_146 rfl (Nat.le_of_ble_eq_true rfl) ?_
          have hla : kLast F0 b y2 := by
            refine ⟨mo, fe, mf.1, ?_, ?_, by rw [hy2, hy1]⟩
            · rcases mf.2 with g | g
              · have := mb.1; omega
              · exact g.1
            · rcases mf.2 with g | g
              · have := mb.1; omega
              · exact g.2
          exact m_keeps_148 hG b7 c7 lb ⟨mk1, mk2, mk3⟩ mb (by omega) (by omega) s16 hla (by omega) (by omega) _ 1 (F0 30) 0 0 _ _ _ hW (Nat.lt_succ_self _) t3 rfl ((hc3.Fv 3 (by decide)).trans (hc1.Fv 3 (by decide))) ((hc3.Fv 4 (by decide)).trans (hc1.Fv 4 (by decide))) ((hc3.Fv 30 (by decide)).trans (hc1.Fv 30 (by decide))) rfl (by omega) (by omega) (by omega) (by omega) ⟨rfl, rfl⟩
        · refine ab_iload (pc := 121) dX10_keeps_121 rfl ?_
          refine ab_iconst (pc := 123) dX10_keeps_123 (by decide) ?_
          refine ab_icmp_ge (pc := 124) 131 dX10_keeps_124 (by decide) (fun c124 => ?_) (fun c124 => ?_)
          · refine ab_iload (pc := 131) dX10_keeps_131 rfl ?_
            refine J133 _ ?_
            split <;> omega
          · refine ab_iconst (pc := 127) dX10_keeps_127 (by decide) ?_
            refine ab_goto (pc := 128) 133 dX10_keeps_128 (by decide) ?_
            refine J133 _ ?_
            split <;> omega
      · have dq0 : 3 < mo → 0 ≤ (mo - 3 + fe - 1) / fe := fun g => Int.ediv_nonneg (by omega) (by omega)
        have dq1 : 3 < mo → (mo - 3 + fe - 1) / fe ≤ mo - 3 + fe - 1 := fun g => Int.ediv_le_self _ (by omega)
        refine ab_iload_n (pc := 97) dX10_keeps_97 rfl ?_
        refine ab_iconst (pc := 98) dX10_keeps_98 (by decide) ?_
        refine ab_icmp_le (pc := 99) 118 dX10_keeps_99 (by decide) (fun c99 => ?_) (fun c99 => ?_)
        · refine ab_iconst (pc := 118) dX10_keeps_118 (by decide) ?_
          refine J119 _ ?_
          split <;> omega
        · refine ab_iconst (pc := 102) dX10_keeps_102 (by decide) ?_
          refine ab_iload_n (pc := 103) dX10_keeps_103 rfl ?_
          refine ab_iconst (pc := 104) dX10_keeps_104 (by decide) ?_
          refine ab_isub (pc := 105) dX10_keeps_105 (by omega) (by omega) ?_
          refine ab_iload (pc := 106) dX10_keeps_106 rfl ?_
          refine ab_iadd (pc := 108) dX10_keeps_108 (by omega) (by omega) ?_
          refine ab_iconst (pc := 109) dX10_keeps_109 (by decide) ?_
          refine ab_isub (pc := 110) dX10_keeps_110 (by omega) (by omega) ?_
          refine ab_iload (pc := 111) dX10_keeps_111 rfl ?_
          refine ab_idiv (pc := 113) dX10_keeps_113 (by omega) ?_
          rw [Int.tdiv_eq_ediv_of_nonneg (by omega)]
          refine ab_iadd (pc := 114) dX10_keeps_114 (by omega) (by omega) ?_
          refine ab_goto (pc := 115) 119 dX10_keeps_115 (by decide) ?_
          refine J119 _ ?_
          split <;> omega
    · refine ab_if_ne (pc := 23) 28 dX10_keeps_23 (by decide) (fun c23 => absurd c23 (by omega)) (fun c23 => ?_)
      refine ab_iconst (pc := 26) dX10_keeps_26 (by decide) ?_
      refine ab_iret (pc := 27) dX10_keeps_27 rfl ?_
      first
      | (exact ⟨_, _, _, rfl, hW, 1, 0, 0, F0 30, rfl, t3, Or.inl ⟨by omega, rfl, rfl, ((hc3.sv 23 (by decide)).trans (hc1.sv 23 (by decide)))⟩, Or.inr ⟨by decide, ((hc3.Fv 3 (by decide)).trans (hc1.Fv 3 (by decide))), ((hc3.Fv 4 (by decide)).trans (hc1.Fv 4 (by decide)))⟩⟩)
      | (exact ⟨_, _, _, rfl, hW, 2, 0, 0, F0 30, rfl, t3, Or.inr (Or.inl ⟨⟨mk1, mk2, mk3⟩, by omega, rfl, rfl, ((hc3.sv 23 (by decide)).trans (hc1.sv 23 (by decide)))⟩), Or.inr ⟨by decide, ((hc3.Fv 3 (by decide)).trans (hc1.Fv 3 (by decide))), ((hc3.Fv 4 (by decide)).trans (hc1.Fv 4 (by decide)))⟩⟩)
  · refine ab_if_eq (pc := 10) 26 dX10_keeps_10 (by decide) (fun c10 => ?_) (fun c10 => absurd c10 (by omega))
    refine ab_iconst (pc := 26) dX10_keeps_26 (by decide) ?_
    refine ab_iret (pc := 27) dX10_keeps_27 rfl ?_
    first
    | (exact ⟨_, _, _, rfl, hW, 1, 0, 0, F0 30, rfl, t1, Or.inl ⟨by omega, rfl, rfl, (hc1.sv 23 (by decide))⟩, Or.inr ⟨by decide, (hc1.Fv 3 (by decide)), (hc1.Fv 4 (by decide))⟩⟩)
    | (exact ⟨_, _, _, rfl, hW, 2, 0, 0, F0 30, rfl, t1, Or.inr (Or.inl ⟨⟨mk1, mk2, mk3⟩, by omega, rfl, rfl, (hc1.sv 23 (by decide))⟩), Or.inr ⟨by decide, (hc1.Fv 3 (by decide)), (hc1.Fv 4 (by decide))⟩⟩)
end M15
