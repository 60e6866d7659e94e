/-! the law: a call of each kind -/
section LC
variable {l : Launch} {E : AbE} {h : AbH} {x m o z9 sc N : Nat} {B A : Nat → Nat} {f : Int → Int} {s : Nat → Int} {F : Nat → Int → Int} {kc ks : Nat} {i : Int} {Q : AbO → AbH → Prop}
theorem jK {a b : String} {ob : AbO} {k v z : Int} {g2 : Int → Int} (ne : a ≠ "" ∧ b ≠ "") (h0 : (∃ v : Int, ob = .inl (some (vI v))) ∨ ob = .inr a ∨ ob = .inr b) (hk : (∃ r : Int, ob = .inl (some (vI r)) ∧ k = 0 ∧ g2 0 = r) ∨ ∃ X : String, ob = .inr X ∧ k = cdf a b X) (hz : (∃ w : Int, ob = .inl (some (vI w)) ∧ z = 0 ∧ w = v) ∨ ∃ X : String, ob = .inr X ∧ z = cdf a b X) : z = k ∧ (k = 0 → g2 0 = v) := by
  rcases hk with ⟨r, e1, e2, e3⟩ | ⟨X, e1, e2⟩ <;> rcases hz with ⟨w, f1, f2, f3⟩ | ⟨Y, f1, f2⟩
  · rw [e1] at f1
    cases f1
    exact ⟨by omega, fun _ => by rw [e3, f3]⟩
  · rw [e1] at f1
    cases f1
  · rw [e1] at f1
    cases f1
  · rw [e1] at f1
    cases f1
    refine ⟨by rw [e2, f2], fun k0 => ?_⟩
    exfalso
    rw [e1] at h0
    rcases h0 with ⟨_, g⟩ | g | g
    · cases g
    · cases g
      rw [cdf1] at e2
      omega
    · cases g
      unfold cdf at e2
      split at e2
      · omega
      · rw [if_pos rfl] at e2
        omega
abbrev Y_L_law_ : AbY := (yL_law_, cL_law_, some .boolean, [])
end LC
section LT
variable {l : Launch} {E : AbE} {m : Nat} {A : Nat → Nat} {s0 : Nat → Int} {F0 : Nat → Int → Int} {h0 : AbH}
theorem m_thrownP (hG : ab_G l E) (hM : mR h0 m A s0 F0)  : ab_M l E Y_X10_thrown 1 0 0 0 [vR m] h0 (pC h0 (fun v => v = s0 0)) := by
  refine ab_M.of (L0 := [some (vR m)]) hG rfl rfl (Nat.le_of_ble_eq_true rfl) rfl ?_
  have hW : mW h0 m A s0 F0 [] [] h0 s0 F0 := mW.start hM
  refine ab_aload_n (pc := 0) dX10_thrown_0 rfl ?_
  refine ab_get (pc := 1) (k := 0) (x := vI (s0 0)) okX10 hW.obj (mg rfl (hW.sv 0 (by decide))) w1055 rfl dX10_thrown_1 ?_
  refine ab_iret (pc := 4) dX10_thrown_4 rfl ?_
  exact ⟨_, rfl, rfl, rfl⟩
end LT
section LD
variable {l : Launch} {E : AbE} {h : AbH} {x m o z9 sc N : Nat} {B A : Nat → Nat} {f : Int → Int} {s : Nat → Int} {F : Nat → Int → Int} {kc ks : Nat} {i : Int} {Q : AbO → AbH → Prop}
theorem lc_sheet (hG : ab_G l E) (hb : ∀ j : Int, 0 ≤ j → j < N → -2147483648 ≤ f j ∧ f j < 2147483648) (i0 : 0 ≤ i) (i6 : i + 6 ≤ N) (N0 : N ≤ 3072) (J : JI h x m o z9 sc N B A f s F) {x5 x6 : Option AbV} (K : ∀ (h' : AbH) (s' : Nat → Int) (F' : Nat → Int → Int) (x5 x6 : Option AbV), JI h' x m o z9 sc N B A f s' F' → ab_T l E Y_L_law_ 16 kc ks 1693 [some (vR sc), some (vR x), some (vR m), some (vR o), some (vI i), x5, x6] [] h' Q) : ab_T l E Y_L_law_ 16 (kc + (0 + 3)) (ks + (0 + 813)) 136 [some (vR sc), some (vR x), some (vR m), some (vR o), some (vI i), x5, x6] [] h Q := by
  obtain ⟨⟨C, SA, la, q, rc⟩, hM, I, ⟨g, ho⟩, ⟨gs, hgs, hs⟩, hz⟩ := J
  refine ab_aload_n (pc := 136) dL_law__136 rfl ?_
  refine ab_aload_n (pc := 137) dL_law__137 rfl ?_
  refine ab_iload (pc := 138) dL_law__138 rfl ?_
  refine ab_iconst (pc := 140) dL_law__140 (by decide) ?_
  refine ab_iadd (pc := 141) dL_law__141 (by omega) (by omega) ?_
  refine ab_iald (pc := 142) hs (by omega) (by omega) dL_law__142 ?_
  refine ab_aload_n (pc := 143) dL_law__143 rfl ?_
  refine ab_callSW (pc := 144) (W_sheet hG rc.o (c_sheet hG rc I.1 I.2.2.2.2.2.1 (w := f (i + 1))) (fun oc h1 hQ => ⟨hQ.1 _ _ ho (by unfold cP; first | (simp; done) | (simp; omega)), by obtain ⟨_, s1, F1, _, _, _, _, _, hp⟩ := hQ; exact o_sheet (p0 := f (i + 1)) hp⟩)) ⟨w144, w145, w0, w146, by decide, pd3⟩ rfl (by decide) (by decide) (Nat.le_of_ble_eq_true rfl) dL_law__144 ?_
  rintro r9 h2 hw9
  obtain ⟨k, g2, ob, s1, F1, C1, SA1, la1, q1, e9, rc1, hM2, ho2, hs2, hz2, hp, hk⟩ := jCls hM ho hs hgs hz (fun g hg => by unfold cP; first | (simp; done) | (simp; omega)) hw9
  cases e9
  refine ab_istore (pc := 147) dL_law__147 rfl (Nat.le_of_ble_eq_true rfl) ?_
  refine ab_aload_n (pc := 149) dL_law__149 rfl ?_
  refine ab_aload_n (pc := 150) dL_law__150 rfl ?_
  refine ab_iload (pc := 151) dL_law__151 rfl ?_
  refine ab_iconst (pc := 153) dL_law__153 (by decide) ?_
  refine ab_iadd (pc := 154) dL_law__154 (by omega) (by omega) ?_
  refine ab_iald (pc := 155) hs2 (by omega) (by omega) dL_law__155 ?_
  refine ab_callV (pc := 156) (m_sheet hG hM2 I.1 I.2.1 (w := f (i + 1))) hM2.1 rfl ⟨w1201, w5, w1204, by decide, pd2⟩ w1202 w1203 rfl (by decide) (by decide) (Nat.le_of_ble_eq_true rfl) rfl dL_law__156 (fun _ _ hx => absurd hx mC_no) ?_
  rintro r9 h3 ⟨_, s', F', e9, hW, hm⟩
  cases e9
  have j9 := j_sheet I hp hm hW.2.2.1 hW.2.2.2
  obtain ⟨J3, ho3⟩ := jRef rc1 ho2 hs2 hgs hz2 hW j9
  obtain ⟨v, rfl, _, _, oc⟩ := j9
  have ek := jK ⟨by decide, by decide⟩ (o_sheet (p0 := f (i + 1)) hp) hk oc
  refine ab_istore (pc := 159) dL_law__159 rfl (Nat.le_of_ble_eq_true rfl) ?_
  refine ab_aload_n (pc := 161) dL_law__161 rfl ?_
  refine ab_callV (pc := 162) (m_thrownP hG J3.2.1) J3.2.1.1 rfl ⟨w1045, w5, w1048, by decide, pd26⟩ w1046 w1047 rfl (by decide) (by decide) (Nat.le_of_ble_eq_true rfl) rfl dL_law__162 (fun _ _ hx => absurd hx pC_no) ?_
  rintro _ _ ⟨tv, e9, rfl, htv⟩
  cases e9
  refine ab_iload (pc := 165) dL_law__165 rfl ?_
  refine ab_icmp_eq (pc := 167) 172 dL_law__167 (by decide) (fun c167 => ?_) (fun c167 => absurd c167 (by omega))
  refine ab_iload (pc := 172) dL_law__172 rfl ?_
  refine ab_if_ne (pc := 174) 189 dL_law__174 (by decide) (fun c174 => ?_) (fun c174 => ?_)
  · refine ab_goto (pc := 189) 1693 dL_law__189 (by decide) ?_
    exact K _ _ _ _ _ J3
  · refine ab_aload_n (pc := 177) dL_law__177 rfl ?_
    refine ab_iconst (pc := 178) dL_law__178 (by decide) ?_
    refine ab_lald (pc := 179) ho3 (by omega) (by omega) dL_law__179 ?_
    refine ab_iload (pc := 180) dL_law__180 rfl ?_
    refine ab_i2l (pc := 182) dL_law__182 ?_
    refine ab_lcm (pc := 183) dL_law__183 ?_
    refine ab_if_eq (pc := 184) 189 dL_law__184 (by decide) (fun c184 => ?_) (fun c184 => absurd c184 (fun k9 => k9 (lcmp_0.mpr (ek.2 (by omega)))))
    refine ab_goto (pc := 189) 1693 dL_law__189 (by decide) ?_
    exact K _ _ _ _ _ J3
theorem lc_row (hG : ab_G l E) (hb : ∀ j : Int, 0 ≤ j → j < N → -2147483648 ≤ f j ∧ f j < 2147483648) (i0 : 0 ≤ i) (i6 : i + 6 ≤ N) (N0 : N ≤ 3072) (J : JI h x m o z9 sc N B A f s F) {x5 x6 : Option AbV} (K : ∀ (h' : AbH) (s' : Nat → Int) (F' : Nat → Int → Int) (x5 x6 : Option AbV), JI h' x m o z9 sc N B A f s' F' → ab_T l E Y_L_law_ 16 kc ks 1693 [some (vR sc), some (vR x), some (vR m), some (vR o), some (vI i), x5, x6] [] h' Q) : ab_T l E Y_L_law_ 16 (kc + (0 + 2)) (ks + (0 + 12)) 192 [some (vR sc), some (vR x), some (vR m), some (vR o), some (vI i), x5, x6] [] h Q := by
  obtain ⟨⟨C, SA, la, q, rc⟩, hM, I, ⟨g, ho⟩, ⟨gs, hgs, hs⟩, hz⟩ := J
  refine ab_aload_n (pc := 192) dL_law__192 rfl ?_
  refine ab_aload_n (pc := 193) dL_law__193 rfl ?_
  refine ab_iload (pc := 194) dL_law__194 rfl ?_
  refine ab_iconst (pc := 196) dL_law__196 (by decide) ?_
  refine ab_iadd (pc := 197) dL_law__197 (by omega) (by omega) ?_
  refine ab_iald (pc := 198) hs (by omega) (by omega) dL_law__198 ?_
  refine ab_aload_n (pc := 199) dL_law__199 rfl ?_
  refine ab_iload (pc := 200) dL_law__200 rfl ?_
  refine ab_iconst (pc := 202) dL_law__202 (by decide) ?_
  refine ab_iadd (pc := 203) dL_law__203 (by omega) (by omega) ?_
  refine ab_iald (pc := 204) hs (by omega) (by omega) dL_law__204 ?_
  refine ab_aload_n (pc := 205) dL_law__205 rfl ?_
  refine ab_iload (pc := 206) dL_law__206 rfl ?_
  refine ab_iconst (pc := 208) dL_law__208 (by decide) ?_
  refine ab_iadd (pc := 209) dL_law__209 (by omega) (by omega) ?_
  refine ab_iald (pc := 210) hs (by omega) (by omega) dL_law__210 ?_
  refine ab_aload_n (pc := 211) dL_law__211 rfl ?_
  refine ab_callSW (pc := 212) (W_row hG rc.o (c_row hG rc I.2.2.2.2.1 I.2.1 (i := f (i + 1)) (k := f (i + 2)) (n := f (i + 3))) (fun oc h1 hQ => ⟨hQ.1 _ _ ho (by unfold cP; first | (simp; done) | (simp; omega)), by obtain ⟨_, s1, F1, _, _, _, _, _, hp⟩ := hQ; exact o_row (p0 := f (i + 1)) (p1 := f (i + 2)) (p2 := f (i + 3)) hp⟩)) ⟨w257, w258, w0, w259, by decide, pd7⟩ rfl (by decide) (by decide) (Nat.le_of_ble_eq_true rfl) dL_law__212 ?_
  rintro r9 h2 hw9
  obtain ⟨k, g2, ob, s1, F1, C1, SA1, la1, q1, e9, rc1, hM2, ho2, hs2, hz2, hp, hk⟩ := jCls hM ho hs hgs hz (fun g hg => by unfold cP; first | (simp; done) | (simp; omega)) hw9
  cases e9
  refine ab_istore (pc := 215) dL_law__215 rfl (Nat.le_of_ble_eq_true rfl) ?_
  refine ab_aload_n (pc := 217) dL_law__217 rfl ?_
  refine ab_aload_n (pc := 218) dL_law__218 rfl ?_
  refine ab_iload (pc := 219) dL_law__219 rfl ?_
  refine ab_iconst (pc := 221) dL_law__221 (by decide) ?_
  refine ab_iadd (pc := 222) dL_law__222 (by omega) (by omega) ?_
  refine ab_iald (pc := 223) hs2 (by omega) (by omega) dL_law__223 ?_
  refine ab_aload_n (pc := 224) dL_law__224 rfl ?_
  refine ab_iload (pc := 225) dL_law__225 rfl ?_
  refine ab_iconst (pc := 227) dL_law__227 (by decide) ?_
  refine ab_iadd (pc := 228) dL_law__228 (by omega) (by omega) ?_
  refine ab_iald (pc := 229) hs2 (by omega) (by omega) dL_law__229 ?_
  refine ab_aload_n (pc := 230) dL_law__230 rfl ?_
  refine ab_iload (pc := 231) dL_law__231 rfl ?_
  refine ab_iconst (pc := 233) dL_law__233 (by decide) ?_
  refine ab_iadd (pc := 234) dL_law__234 (by omega) (by omega) ?_
  refine ab_iald (pc := 235) hs2 (by omega) (by omega) dL_law__235 ?_
  refine ab_callV (pc := 236) (m_row hG hM2 I.2.1 (x := f (i + 1)) (k := f (i + 2)) (n := f (i + 3))) hM2.1 rfl ⟨w1209, w5, w1212, by decide, pd8⟩ w1210 w1211 rfl (by decide) (by decide) (Nat.le_of_ble_eq_true rfl) rfl dL_law__236 (fun _ _ hx => absurd hx mC_no) ?_
  rintro r9 h3 ⟨_, s', F', e9, hW, hm⟩
  cases e9
  have j9 := j_row I hp hm hW.2.2.1 hW.2.2.2
  obtain ⟨J3, ho3⟩ := jRef rc1 ho2 hs2 hgs hz2 hW j9
  obtain ⟨v, rfl, _, _, oc⟩ := j9
  have ek := jK ⟨by decide, by decide⟩ (o_row (p0 := f (i + 1)) (p1 := f (i + 2)) (p2 := f (i + 3)) hp) hk oc
  refine ab_istore (pc := 239) dL_law__239 rfl (Nat.le_of_ble_eq_true rfl) ?_
  refine ab_aload_n (pc := 241) dL_law__241 rfl ?_
  refine ab_callV (pc := 242) (m_thrownP hG J3.2.1) J3.2.1.1 rfl ⟨w1045, w5, w1048, by decide, pd26⟩ w1046 w1047 rfl (by decide) (by decide) (Nat.le_of_ble_eq_true rfl) rfl dL_law__242 (fun _ _ hx => absurd hx pC_no) ?_
  rintro _ _ ⟨tv, e9, rfl, htv⟩
  cases e9
  refine ab_iload (pc := 245) dL_law__245 rfl ?_
  refine ab_icmp_eq (pc := 247) 252 dL_law__247 (by decide) (fun c247 => ?_) (fun c247 => absurd c247 (by omega))
  refine ab_iload (pc := 252) dL_law__252 rfl ?_
  refine ab_if_ne (pc := 254) 269 dL_law__254 (by decide) (fun c254 => ?_) (fun c254 => ?_)
  · refine ab_goto (pc := 269) 1693 dL_law__269 (by decide) ?_
    exact K _ _ _ _ _ J3
  · refine ab_aload_n (pc := 257) dL_law__257 rfl ?_
    refine ab_iconst (pc := 258) dL_law__258 (by decide) ?_
    refine ab_lald (pc := 259) ho3 (by omega) (by omega) dL_law__259 ?_
    refine ab_iload (pc := 260) dL_law__260 rfl ?_
    refine ab_i2l (pc := 262) dL_law__262 ?_
    refine ab_lcm (pc := 263) dL_law__263 ?_
    refine ab_if_eq (pc := 264) 269 dL_law__264 (by decide) (fun c264 => ?_) (fun c264 => absurd c264 (fun k9 => k9 (lcmp_0.mpr (ek.2 (by omega)))))
    refine ab_goto (pc := 269) 1693 dL_law__269 (by decide) ?_
    exact K _ _ _ _ _ J3
theorem lc_put (hG : ab_G l E) (hb : ∀ j : Int, 0 ≤ j → j < N → -2147483648 ≤ f j ∧ f j < 2147483648) (i0 : 0 ≤ i) (i6 : i + 6 ≤ N) (N0 : N ≤ 3072) (J : JI h x m o z9 sc N B A f s F) {x5 x6 : Option AbV} (K : ∀ (h' : AbH) (s' : Nat → Int) (F' : Nat → Int → Int) (x5 x6 : Option AbV), JI h' x m o z9 sc N B A f s' F' → ab_T l E Y_L_law_ 16 kc ks 1693 [some (vR sc), some (vR x), some (vR m), some (vR o), some (vI i), x5, x6] [] h' Q) : ab_T l E Y_L_law_ 16 (kc + (0 + 2)) (ks + (0 + 12)) 272 [some (vR sc), some (vR x), some (vR m), some (vR o), some (vI i), x5, x6] [] h Q := by
  obtain ⟨⟨C, SA, la, q, rc⟩, hM, I, ⟨g, ho⟩, ⟨gs, hgs, hs⟩, hz⟩ := J
  refine ab_aload_n (pc := 272) dL_law__272 rfl ?_
  refine ab_aload_n (pc := 273) dL_law__273 rfl ?_
  refine ab_iload (pc := 274) dL_law__274 rfl ?_
  refine ab_iconst (pc := 276) dL_law__276 (by decide) ?_
  refine ab_iadd (pc := 277) dL_law__277 (by omega) (by omega) ?_
  refine ab_iald (pc := 278) hs (by omega) (by omega) dL_law__278 ?_
  refine ab_aload_n (pc := 279) dL_law__279 rfl ?_
  refine ab_iload (pc := 280) dL_law__280 rfl ?_
  refine ab_iconst (pc := 282) dL_law__282 (by decide) ?_
  refine ab_iadd (pc := 283) dL_law__283 (by omega) (by omega) ?_
  refine ab_iald (pc := 284) hs (by omega) (by omega) dL_law__284 ?_
  refine ab_aload_n (pc := 285) dL_law__285 rfl ?_
  refine ab_iload (pc := 286) dL_law__286 rfl ?_
  refine ab_iconst (pc := 288) dL_law__288 (by decide) ?_
  refine ab_iadd (pc := 289) dL_law__289 (by omega) (by omega) ?_
  refine ab_iald (pc := 290) hs (by omega) (by omega) dL_law__290 ?_
  refine ab_aload_n (pc := 291) dL_law__291 rfl ?_
  refine ab_iload (pc := 292) dL_law__292 rfl ?_
  refine ab_iconst (pc := 294) dL_law__294 (by decide) ?_
  refine ab_iadd (pc := 295) dL_law__295 (by omega) (by omega) ?_
  refine ab_iald (pc := 296) hs (by omega) (by omega) dL_law__296 ?_
  refine ab_aload_n (pc := 297) dL_law__297 rfl ?_
  refine ab_callSW (pc := 298) (W_put hG rc.o (c_put hG rc I.2.2.2.2.1 I.2.1 (i := f (i + 1)) (k := f (i + 2)) (u := f (i + 3)) (v := f (i + 4))) (fun oc h1 hQ => ⟨hQ.1 _ _ ho (by unfold cP; first | (simp; done) | (simp; omega)), by obtain ⟨_, s1, F1, _, _, _, _, _, hp⟩ := hQ; exact o_put (p0 := f (i + 1)) (p1 := f (i + 2)) (p2 := f (i + 3)) (p3 := f (i + 4)) hp⟩)) ⟨w568, w569, w0, w570, by decide, pd43⟩ rfl (by decide) (by decide) (Nat.le_of_ble_eq_true rfl) dL_law__298 ?_
  rintro r9 h2 hw9
  obtain ⟨k, g2, ob, s1, F1, C1, SA1, la1, q1, e9, rc1, hM2, ho2, hs2, hz2, hp, hk⟩ := jCls hM ho hs hgs hz (fun g hg => by unfold cP; first | (simp; done) | (simp; omega)) hw9
  cases e9
  refine ab_istore (pc := 301) dL_law__301 rfl (Nat.le_of_ble_eq_true rfl) ?_
  refine ab_aload_n (pc := 303) dL_law__303 rfl ?_
  refine ab_aload_n (pc := 304) dL_law__304 rfl ?_
  refine ab_iload (pc := 305) dL_law__305 rfl ?_
  refine ab_iconst (pc := 307) dL_law__307 (by decide) ?_
  refine ab_iadd (pc := 308) dL_law__308 (by omega) (by omega) ?_
  refine ab_iald (pc := 309) hs2 (by omega) (by omega) dL_law__309 ?_
  refine ab_aload_n (pc := 310) dL_law__310 rfl ?_
  refine ab_iload (pc := 311) dL_law__311 rfl ?_
  refine ab_iconst (pc := 313) dL_law__313 (by decide) ?_
  refine ab_iadd (pc := 314) dL_law__314 (by omega) (by omega) ?_
  refine ab_iald (pc := 315) hs2 (by omega) (by omega) dL_law__315 ?_
  refine ab_aload_n (pc := 316) dL_law__316 rfl ?_
  refine ab_iload (pc := 317) dL_law__317 rfl ?_
  refine ab_iconst (pc := 319) dL_law__319 (by decide) ?_
  refine ab_iadd (pc := 320) dL_law__320 (by omega) (by omega) ?_
  refine ab_iald (pc := 321) hs2 (by omega) (by omega) dL_law__321 ?_
  refine ab_aload_n (pc := 322) dL_law__322 rfl ?_
  refine ab_iload (pc := 323) dL_law__323 rfl ?_
  refine ab_iconst (pc := 325) dL_law__325 (by decide) ?_
  refine ab_iadd (pc := 326) dL_law__326 (by omega) (by omega) ?_
  refine ab_iald (pc := 327) hs2 (by omega) (by omega) dL_law__327 ?_
  refine ab_callV (pc := 328) (m_put hG hM2 I.2.1 I.2.2.2.2.1 (x := f (i + 1)) (k := f (i + 2)) (i := f (i + 3)) (v9 := f (i + 4))) hM2.1 rfl ⟨w1221, w5, w1224, by decide, pd44⟩ w1222 w1223 rfl (by decide) (by decide) (Nat.le_of_ble_eq_true rfl) rfl dL_law__328 (fun _ _ hx => absurd hx mC_no) ?_
  rintro r9 h3 ⟨_, s', F', e9, hW, hm⟩
  cases e9
  have j9 := j_put I hp hm hW.2.2.1 hW.2.2.2
  obtain ⟨J3, ho3⟩ := jRef rc1 ho2 hs2 hgs hz2 hW j9
  obtain ⟨v, rfl, _, _, oc⟩ := j9
  have ek := jK ⟨by decide, by decide⟩ (o_put (p0 := f (i + 1)) (p1 := f (i + 2)) (p2 := f (i + 3)) (p3 := f (i + 4)) hp) hk oc
  refine ab_istore (pc := 331) dL_law__331 rfl (Nat.le_of_ble_eq_true rfl) ?_
  refine ab_aload_n (pc := 333) dL_law__333 rfl ?_
  refine ab_callV (pc := 334) (m_thrownP hG J3.2.1) J3.2.1.1 rfl ⟨w1045, w5, w1048, by decide, pd26⟩ w1046 w1047 rfl (by decide) (by decide) (Nat.le_of_ble_eq_true rfl) rfl dL_law__334 (fun _ _ hx => absurd hx pC_no) ?_
  rintro _ _ ⟨tv, e9, rfl, htv⟩
  cases e9
  refine ab_iload (pc := 337) dL_law__337 rfl ?_
  refine ab_icmp_eq (pc := 339) 344 dL_law__339 (by decide) (fun c339 => ?_) (fun c339 => absurd c339 (by omega))
  refine ab_iload (pc := 344) dL_law__344 rfl ?_
  refine ab_if_ne (pc := 346) 361 dL_law__346 (by decide) (fun c346 => ?_) (fun c346 => ?_)
  · refine ab_goto (pc := 361) 1693 dL_law__361 (by decide) ?_
    exact K _ _ _ _ _ J3
  · refine ab_aload_n (pc := 349) dL_law__349 rfl ?_
    refine ab_iconst (pc := 350) dL_law__350 (by decide) ?_
    refine ab_lald (pc := 351) ho3 (by omega) (by omega) dL_law__351 ?_
    refine ab_iload (pc := 352) dL_law__352 rfl ?_
    refine ab_i2l (pc := 354) dL_law__354 ?_
    refine ab_lcm (pc := 355) dL_law__355 ?_
    refine ab_if_eq (pc := 356) 361 dL_law__356 (by decide) (fun c356 => ?_) (fun c356 => absurd c356 (fun k9 => k9 (lcmp_0.mpr (ek.2 (by omega)))))
    refine ab_goto (pc := 361) 1693 dL_law__361 (by decide) ?_
    exact K _ _ _ _ _ J3
theorem lc_tear (hG : ab_G l E) (hb : ∀ j : Int, 0 ≤ j → j < N → -2147483648 ≤ f j ∧ f j < 2147483648) (i0 : 0 ≤ i) (i6 : i + 6 ≤ N) (N0 : N ≤ 3072) (J : JI h x m o z9 sc N B A f s F) {x5 x6 : Option AbV} (K : ∀ (h' : AbH) (s' : Nat → Int) (F' : Nat → Int → Int) (x5 x6 : Option AbV), JI h' x m o z9 sc N B A f s' F' → ab_T l E Y_L_law_ 16 kc ks 1693 [some (vR sc), some (vR x), some (vR m), some (vR o), some (vI i), x5, x6] [] h' Q) : ab_T l E Y_L_law_ 16 (kc + (0 + 2)) (ks + (0 + 12)) 364 [some (vR sc), some (vR x), some (vR m), some (vR o), some (vI i), x5, x6] [] h Q := by
  obtain ⟨⟨C, SA, la, q, rc⟩, hM, I, ⟨g, ho⟩, ⟨gs, hgs, hs⟩, hz⟩ := J
  refine ab_aload_n (pc := 364) dL_law__364 rfl ?_
  refine ab_aload_n (pc := 365) dL_law__365 rfl ?_
  refine ab_iload (pc := 366) dL_law__366 rfl ?_
  refine ab_iconst (pc := 368) dL_law__368 (by decide) ?_
  refine ab_iadd (pc := 369) dL_law__369 (by omega) (by omega) ?_
  refine ab_iald (pc := 370) hs (by omega) (by omega) dL_law__370 ?_
  refine ab_aload_n (pc := 371) dL_law__371 rfl ?_
  refine ab_iload (pc := 372) dL_law__372 rfl ?_
  refine ab_iconst (pc := 374) dL_law__374 (by decide) ?_
  refine ab_iadd (pc := 375) dL_law__375 (by omega) (by omega) ?_
  refine ab_iald (pc := 376) hs (by omega) (by omega) dL_law__376 ?_
  refine ab_aload_n (pc := 377) dL_law__377 rfl ?_
  refine ab_callSW (pc := 378) (W_tear hG rc.o (c_tear hG rc I.2.2.2.2.1 I.2.1 (i := f (i + 1)) (k := f (i + 2))) (fun oc h1 hQ => ⟨hQ.1 _ _ ho (by unfold cP; first | (simp; done) | (simp; omega)), by obtain ⟨_, s1, F1, _, _, _, _, _, hp⟩ := hQ; exact o_tear (p0 := f (i + 1)) (p1 := f (i + 2)) hp⟩)) ⟨w583, w584, w0, w585, by decide, pd45⟩ rfl (by decide) (by decide) (Nat.le_of_ble_eq_true rfl) dL_law__378 ?_
  rintro r9 h2 hw9
  obtain ⟨k, g2, ob, s1, F1, C1, SA1, la1, q1, e9, rc1, hM2, ho2, hs2, hz2, hp, hk⟩ := jCls hM ho hs hgs hz (fun g hg => by unfold cP; first | (simp; done) | (simp; omega)) hw9
  cases e9
  refine ab_istore (pc := 381) dL_law__381 rfl (Nat.le_of_ble_eq_true rfl) ?_
  refine ab_aload_n (pc := 383) dL_law__383 rfl ?_
  refine ab_aload_n (pc := 384) dL_law__384 rfl ?_
  refine ab_iload (pc := 385) dL_law__385 rfl ?_
  refine ab_iconst (pc := 387) dL_law__387 (by decide) ?_
  refine ab_iadd (pc := 388) dL_law__388 (by omega) (by omega) ?_
  refine ab_iald (pc := 389) hs2 (by omega) (by omega) dL_law__389 ?_
  refine ab_aload_n (pc := 390) dL_law__390 rfl ?_
  refine ab_iload (pc := 391) dL_law__391 rfl ?_
  refine ab_iconst (pc := 393) dL_law__393 (by decide) ?_
  refine ab_iadd (pc := 394) dL_law__394 (by omega) (by omega) ?_
  refine ab_iald (pc := 395) hs2 (by omega) (by omega) dL_law__395 ?_
  refine ab_callV (pc := 396) (m_tear hG hM2 I.2.1 (x := f (i + 1)) (k := f (i + 2))) hM2.1 rfl ⟨w1225, w5, w1228, by decide, pd18⟩ w1226 w1227 rfl (by decide) (by decide) (Nat.le_of_ble_eq_true rfl) rfl dL_law__396 (fun _ _ hx => absurd hx mC_no) ?_
  rintro r9 h3 ⟨_, s', F', e9, hW, hm⟩
  cases e9
  have j9 := j_tear I hp hm hW.2.2.1 hW.2.2.2
  obtain ⟨J3, ho3⟩ := jRef rc1 ho2 hs2 hgs hz2 hW j9
  obtain ⟨v, rfl, _, _, oc⟩ := j9
  have ek := jK ⟨by decide, by decide⟩ (o_tear (p0 := f (i + 1)) (p1 := f (i + 2)) hp) hk oc
  refine ab_istore (pc := 399) dL_law__399 rfl (Nat.le_of_ble_eq_true rfl) ?_
  refine ab_aload_n (pc := 401) dL_law__401 rfl ?_
  refine ab_callV (pc := 402) (m_thrownP hG J3.2.1) J3.2.1.1 rfl ⟨w1045, w5, w1048, by decide, pd26⟩ w1046 w1047 rfl (by decide) (by decide) (Nat.le_of_ble_eq_true rfl) rfl dL_law__402 (fun _ _ hx => absurd hx pC_no) ?_
  rintro _ _ ⟨tv, e9, rfl, htv⟩
  cases e9
  refine ab_iload (pc := 405) dL_law__405 rfl ?_
  refine ab_icmp_eq (pc := 407) 412 dL_law__407 (by decide) (fun c407 => ?_) (fun c407 => absurd c407 (by omega))
  refine ab_iload (pc := 412) dL_law__412 rfl ?_
  refine ab_if_ne (pc := 414) 429 dL_law__414 (by decide) (fun c414 => ?_) (fun c414 => ?_)
  · refine ab_goto (pc := 429) 1693 dL_law__429 (by decide) ?_
    exact K _ _ _ _ _ J3
  · refine ab_aload_n (pc := 417) dL_law__417 rfl ?_
    refine ab_iconst (pc := 418) dL_law__418 (by decide) ?_
    refine ab_lald (pc := 419) ho3 (by omega) (by omega) dL_law__419 ?_
    refine ab_iload (pc := 420) dL_law__420 rfl ?_
    refine ab_i2l (pc := 422) dL_law__422 ?_
    refine ab_lcm (pc := 423) dL_law__423 ?_
    refine ab_if_eq (pc := 424) 429 dL_law__424 (by decide) (fun c424 => ?_) (fun c424 => absurd c424 (fun k9 => k9 (lcmp_0.mpr (ek.2 (by omega)))))
    refine ab_goto (pc := 429) 1693 dL_law__429 (by decide) ?_
    exact K _ _ _ _ _ J3
theorem lc_word (hG : ab_G l E) (hb : ∀ j : Int, 0 ≤ j → j < N → -2147483648 ≤ f j ∧ f j < 2147483648) (i0 : 0 ≤ i) (i6 : i + 6 ≤ N) (N0 : N ≤ 3072) (J : JI h x m o z9 sc N B A f s F) {x5 x6 : Option AbV} (K : ∀ (h' : AbH) (s' : Nat → Int) (F' : Nat → Int → Int) (x5 x6 : Option AbV), JI h' x m o z9 sc N B A f s' F' → ab_T l E Y_L_law_ 16 kc ks 1693 [some (vR sc), some (vR x), some (vR m), some (vR o), some (vI i), x5, x6] [] h' Q) : ab_T l E Y_L_law_ 16 (kc + (0 + 2)) (ks + (0 + 12)) 432 [some (vR sc), some (vR x), some (vR m), some (vR o), some (vI i), x5, x6] [] h Q := by
  obtain ⟨⟨C, SA, la, q, rc⟩, hM, I, ⟨g, ho⟩, ⟨gs, hgs, hs⟩, hz⟩ := J
  refine ab_aload_n (pc := 432) dL_law__432 rfl ?_
  refine ab_aload_n (pc := 433) dL_law__433 rfl ?_
  refine ab_iload (pc := 434) dL_law__434 rfl ?_
  refine ab_iconst (pc := 436) dL_law__436 (by decide) ?_
  refine ab_iadd (pc := 437) dL_law__437 (by omega) (by omega) ?_
  refine ab_iald (pc := 438) hs (by omega) (by omega) dL_law__438 ?_
  refine ab_aload_n (pc := 439) dL_law__439 rfl ?_
  refine ab_iload (pc := 440) dL_law__440 rfl ?_
  refine ab_iconst (pc := 442) dL_law__442 (by decide) ?_
  refine ab_iadd (pc := 443) dL_law__443 (by omega) (by omega) ?_
  refine ab_iald (pc := 444) hs (by omega) (by omega) dL_law__444 ?_
  refine ab_aload_n (pc := 445) dL_law__445 rfl ?_
  refine ab_callSW (pc := 446) (W_word hG rc.o (c_word hG rc I.2.2.2.2.1 I.2.1 (i := f (i + 1)) (k := f (i + 2))) (fun oc h1 hQ => ⟨hQ.1 _ _ ho (by unfold cP; first | (simp; done) | (simp; omega)), by obtain ⟨_, s1, F1, _, _, _, _, _, hp⟩ := hQ; exact o_word (p0 := f (i + 1)) (p1 := f (i + 2)) hp⟩)) ⟨w594, w595, w0, w596, by decide, pd45⟩ rfl (by decide) (by decide) (Nat.le_of_ble_eq_true rfl) dL_law__446 ?_
  rintro r9 h2 hw9
  obtain ⟨k, g2, ob, s1, F1, C1, SA1, la1, q1, e9, rc1, hM2, ho2, hs2, hz2, hp, hk⟩ := jCls hM ho hs hgs hz (fun g hg => by unfold cP; first | (simp; done) | (simp; omega)) hw9
  cases e9
  refine ab_istore (pc := 449) dL_law__449 rfl (Nat.le_of_ble_eq_true rfl) ?_
  refine ab_aload_n (pc := 451) dL_law__451 rfl ?_
  refine ab_aload_n (pc := 452) dL_law__452 rfl ?_
  refine ab_iload (pc := 453) dL_law__453 rfl ?_
  refine ab_iconst (pc := 455) dL_law__455 (by decide) ?_
  refine ab_iadd (pc := 456) dL_law__456 (by omega) (by omega) ?_
  refine ab_iald (pc := 457) hs2 (by omega) (by omega) dL_law__457 ?_
  refine ab_aload_n (pc := 458) dL_law__458 rfl ?_
  refine ab_iload (pc := 459) dL_law__459 rfl ?_
  refine ab_iconst (pc := 461) dL_law__461 (by decide) ?_
  refine ab_iadd (pc := 462) dL_law__462 (by omega) (by omega) ?_
  refine ab_iald (pc := 463) hs2 (by omega) (by omega) dL_law__463 ?_
  refine ab_callV (pc := 464) (m_word hG hM2 I.2.1 I.2.2.2.2.1 (x := f (i + 1)) (k := f (i + 2))) hM2.1 rfl ⟨w1229, w5, w1232, by decide, pd18⟩ w1230 w1231 rfl (by decide) (by decide) (Nat.le_of_ble_eq_true rfl) rfl dL_law__464 (fun _ _ hx => absurd hx mC_no) ?_
  rintro r9 h3 ⟨_, s', F', e9, hW, hm⟩
  cases e9
  have j9 := j_word I hp hm hW.2.2.1 hW.2.2.2
  obtain ⟨J3, ho3⟩ := jRef rc1 ho2 hs2 hgs hz2 hW j9
  obtain ⟨v, rfl, _, _, oc⟩ := j9
  have ek := jK ⟨by decide, by decide⟩ (o_word (p0 := f (i + 1)) (p1 := f (i + 2)) hp) hk oc
  refine ab_istore (pc := 467) dL_law__467 rfl (Nat.le_of_ble_eq_true rfl) ?_
  refine ab_aload_n (pc := 469) dL_law__469 rfl ?_
  refine ab_callV (pc := 470) (m_thrownP hG J3.2.1) J3.2.1.1 rfl ⟨w1045, w5, w1048, by decide, pd26⟩ w1046 w1047 rfl (by decide) (by decide) (Nat.le_of_ble_eq_true rfl) rfl dL_law__470 (fun _ _ hx => absurd hx pC_no) ?_
  rintro _ _ ⟨tv, e9, rfl, htv⟩
  cases e9
  refine ab_iload (pc := 473) dL_law__473 rfl ?_
  refine ab_icmp_eq (pc := 475) 480 dL_law__475 (by decide) (fun c475 => ?_) (fun c475 => absurd c475 (by omega))
  refine ab_iload (pc := 480) dL_law__480 rfl ?_
  refine ab_if_ne (pc := 482) 497 dL_law__482 (by decide) (fun c482 => ?_) (fun c482 => ?_)
  · refine ab_goto (pc := 497) 1693 dL_law__497 (by decide) ?_
    exact K _ _ _ _ _ J3
  · refine ab_aload_n (pc := 485) dL_law__485 rfl ?_
    refine ab_iconst (pc := 486) dL_law__486 (by decide) ?_
    refine ab_lald (pc := 487) ho3 (by omega) (by omega) dL_law__487 ?_
    refine ab_iload (pc := 488) dL_law__488 rfl ?_
    refine ab_i2l (pc := 490) dL_law__490 ?_
    refine ab_lcm (pc := 491) dL_law__491 ?_
    refine ab_if_eq (pc := 492) 497 dL_law__492 (by decide) (fun c492 => ?_) (fun c492 => absurd c492 (fun k9 => k9 (lcmp_0.mpr (ek.2 (by omega)))))
    refine ab_goto (pc := 497) 1693 dL_law__497 (by decide) ?_
    exact K _ _ _ _ _ J3
theorem lc_letter (hG : ab_G l E) (hb : ∀ j : Int, 0 ≤ j → j < N → -2147483648 ≤ f j ∧ f j < 2147483648) (i0 : 0 ≤ i) (i6 : i + 6 ≤ N) (N0 : N ≤ 3072) (J : JI h x m o z9 sc N B A f s F) {x5 x6 : Option AbV} (K : ∀ (h' : AbH) (s' : Nat → Int) (F' : Nat → Int → Int) (x5 x6 : Option AbV), JI h' x m o z9 sc N B A f s' F' → ab_T l E Y_L_law_ 16 kc ks 1693 [some (vR sc), some (vR x), some (vR m), some (vR o), some (vI i), x5, x6] [] h' Q) : ab_T l E Y_L_law_ 16 (kc + (0 + 2)) (ks + (0 + 12)) 500 [some (vR sc), some (vR x), some (vR m), some (vR o), some (vI i), x5, x6] [] h Q := by
  obtain ⟨⟨C, SA, la, q, rc⟩, hM, I, ⟨g, ho⟩, ⟨gs, hgs, hs⟩, hz⟩ := J
  refine ab_aload_n (pc := 500) dL_law__500 rfl ?_
  refine ab_aload_n (pc := 501) dL_law__501 rfl ?_
  refine ab_iload (pc := 502) dL_law__502 rfl ?_
  refine ab_iconst (pc := 504) dL_law__504 (by decide) ?_
  refine ab_iadd (pc := 505) dL_law__505 (by omega) (by omega) ?_
  refine ab_iald (pc := 506) hs (by omega) (by omega) dL_law__506 ?_
  refine ab_aload_n (pc := 507) dL_law__507 rfl ?_
  refine ab_iload (pc := 508) dL_law__508 rfl ?_
  refine ab_iconst (pc := 510) dL_law__510 (by decide) ?_
  refine ab_iadd (pc := 511) dL_law__511 (by omega) (by omega) ?_
  refine ab_iald (pc := 512) hs (by omega) (by omega) dL_law__512 ?_
  refine ab_aload_n (pc := 513) dL_law__513 rfl ?_
  refine ab_iload (pc := 514) dL_law__514 rfl ?_
  refine ab_iconst (pc := 516) dL_law__516 (by decide) ?_
  refine ab_iadd (pc := 517) dL_law__517 (by omega) (by omega) ?_
  refine ab_iald (pc := 518) hs (by omega) (by omega) dL_law__518 ?_
  refine ab_aload_n (pc := 519) dL_law__519 rfl ?_
  refine ab_callSW (pc := 520) (W_letter hG rc.o (c_letter hG rc I.2.2.2.2.1 I.2.1 (i := f (i + 1)) (k := f (i + 2)) (u := f (i + 3))) (fun oc h1 hQ => ⟨hQ.1 _ _ ho (by unfold cP; first | (simp; done) | (simp; omega)), by obtain ⟨_, s1, F1, _, _, _, _, _, hp⟩ := hQ; exact o_letter (p0 := f (i + 1)) (p1 := f (i + 2)) (p2 := f (i + 3)) hp⟩)) ⟨w610, w611, w0, w612, by decide, pd7⟩ rfl (by decide) (by decide) (Nat.le_of_ble_eq_true rfl) dL_law__520 ?_
  rintro r9 h2 hw9
  obtain ⟨k, g2, ob, s1, F1, C1, SA1, la1, q1, e9, rc1, hM2, ho2, hs2, hz2, hp, hk⟩ := jCls hM ho hs hgs hz (fun g hg => by unfold cP; first | (simp; done) | (simp; omega)) hw9
  cases e9
  refine ab_istore (pc := 523) dL_law__523 rfl (Nat.le_of_ble_eq_true rfl) ?_
  refine ab_aload_n (pc := 525) dL_law__525 rfl ?_
  refine ab_aload_n (pc := 526) dL_law__526 rfl ?_
  refine ab_iload (pc := 527) dL_law__527 rfl ?_
  refine ab_iconst (pc := 529) dL_law__529 (by decide) ?_
  refine ab_iadd (pc := 530) dL_law__530 (by omega) (by omega) ?_
  refine ab_iald (pc := 531) hs2 (by omega) (by omega) dL_law__531 ?_
  refine ab_aload_n (pc := 532) dL_law__532 rfl ?_
  refine ab_iload (pc := 533) dL_law__533 rfl ?_
  refine ab_iconst (pc := 535) dL_law__535 (by decide) ?_
  refine ab_iadd (pc := 536) dL_law__536 (by omega) (by omega) ?_
  refine ab_iald (pc := 537) hs2 (by omega) (by omega) dL_law__537 ?_
  refine ab_aload_n (pc := 538) dL_law__538 rfl ?_
  refine ab_iload (pc := 539) dL_law__539 rfl ?_
  refine ab_iconst (pc := 541) dL_law__541 (by decide) ?_
  refine ab_iadd (pc := 542) dL_law__542 (by omega) (by omega) ?_
  refine ab_iald (pc := 543) hs2 (by omega) (by omega) dL_law__543 ?_
  refine ab_callV (pc := 544) (m_letter hG hM2 I.2.1 I.2.2.2.2.1 (x := f (i + 1)) (k := f (i + 2)) (i := f (i + 3))) hM2.1 rfl ⟨w1237, w5, w1240, by decide, pd8⟩ w1238 w1239 rfl (by decide) (by decide) (Nat.le_of_ble_eq_true rfl) rfl dL_law__544 (fun _ _ hx => absurd hx mC_no) ?_
  rintro r9 h3 ⟨_, s', F', e9, hW, hm⟩
  cases e9
  have j9 := j_letter I hp hm hW.2.2.1 hW.2.2.2
  obtain ⟨J3, ho3⟩ := jRef rc1 ho2 hs2 hgs hz2 hW j9
  obtain ⟨v, rfl, _, _, oc⟩ := j9
  have ek := jK ⟨by decide, by decide⟩ (o_letter (p0 := f (i + 1)) (p1 := f (i + 2)) (p2 := f (i + 3)) hp) hk oc
  refine ab_istore (pc := 547) dL_law__547 rfl (Nat.le_of_ble_eq_true rfl) ?_
  refine ab_aload_n (pc := 549) dL_law__549 rfl ?_
  refine ab_callV (pc := 550) (m_thrownP hG J3.2.1) J3.2.1.1 rfl ⟨w1045, w5, w1048, by decide, pd26⟩ w1046 w1047 rfl (by decide) (by decide) (Nat.le_of_ble_eq_true rfl) rfl dL_law__550 (fun _ _ hx => absurd hx pC_no) ?_
  rintro _ _ ⟨tv, e9, rfl, htv⟩
  cases e9
  refine ab_iload (pc := 553) dL_law__553 rfl ?_
  refine ab_icmp_eq (pc := 555) 560 dL_law__555 (by decide) (fun c555 => ?_) (fun c555 => absurd c555 (by omega))
  refine ab_iload (pc := 560) dL_law__560 rfl ?_
  refine ab_if_ne (pc := 562) 577 dL_law__562 (by decide) (fun c562 => ?_) (fun c562 => ?_)
  · refine ab_goto (pc := 577) 1693 dL_law__577 (by decide) ?_
    exact K _ _ _ _ _ J3
  · refine ab_aload_n (pc := 565) dL_law__565 rfl ?_
    refine ab_iconst (pc := 566) dL_law__566 (by decide) ?_
    refine ab_lald (pc := 567) ho3 (by omega) (by omega) dL_law__567 ?_
    refine ab_iload (pc := 568) dL_law__568 rfl ?_
    refine ab_i2l (pc := 570) dL_law__570 ?_
    refine ab_lcm (pc := 571) dL_law__571 ?_
    refine ab_if_eq (pc := 572) 577 dL_law__572 (by decide) (fun c572 => ?_) (fun c572 => absurd c572 (fun k9 => k9 (lcmp_0.mpr (ek.2 (by omega)))))
    refine ab_goto (pc := 577) 1693 dL_law__577 (by decide) ?_
    exact K _ _ _ _ _ J3
theorem lc_law (hG : ab_G l E) (hb : ∀ j : Int, 0 ≤ j → j < N → -2147483648 ≤ f j ∧ f j < 2147483648) (i0 : 0 ≤ i) (i6 : i + 6 ≤ N) (N0 : N ≤ 3072) (J : JI h x m o z9 sc N B A f s F) {x5 x6 : Option AbV} (K : ∀ (h' : AbH) (s' : Nat → Int) (F' : Nat → Int → Int) (x5 x6 : Option AbV), JI h' x m o z9 sc N B A f s' F' → ab_T l E Y_L_law_ 16 kc ks 1693 [some (vR sc), some (vR x), some (vR m), some (vR o), some (vI i), x5, x6] [] h' Q) : ab_T l E Y_L_law_ 16 (kc + (0 + 8)) (ks + (0 + 91)) 580 [some (vR sc), some (vR x), some (vR m), some (vR o), some (vI i), x5, x6] [] h Q := by
  obtain ⟨⟨C, SA, la, q, rc⟩, hM, I, ⟨g, ho⟩, ⟨gs, hgs, hs⟩, hz⟩ := J
  refine ab_aload_n (pc := 580) dL_law__580 rfl ?_
  refine ab_aload_n (pc := 581) dL_law__581 rfl ?_
  refine ab_iload (pc := 582) dL_law__582 rfl ?_
  refine ab_iconst (pc := 584) dL_law__584 (by decide) ?_
  refine ab_iadd (pc := 585) dL_law__585 (by omega) (by omega) ?_
  refine ab_iald (pc := 586) hs (by omega) (by omega) dL_law__586 ?_
  refine ab_aload_n (pc := 587) dL_law__587 rfl ?_
  refine ab_iload (pc := 588) dL_law__588 rfl ?_
  refine ab_iconst (pc := 590) dL_law__590 (by decide) ?_
  refine ab_iadd (pc := 591) dL_law__591 (by omega) (by omega) ?_
  refine ab_iald (pc := 592) hs (by omega) (by omega) dL_law__592 ?_
  refine ab_aload_n (pc := 593) dL_law__593 rfl ?_
  refine ab_iload (pc := 594) dL_law__594 rfl ?_
  refine ab_iconst (pc := 596) dL_law__596 (by decide) ?_
  refine ab_iadd (pc := 597) dL_law__597 (by omega) (by omega) ?_
  refine ab_iald (pc := 598) hs (by omega) (by omega) dL_law__598 ?_
  refine ab_aload_n (pc := 599) dL_law__599 rfl ?_
  refine ab_callSW (pc := 600) (W_law hG rc.o (c_law hG rc I.2.2.2.2.1 I.2.1 I.2.2.1 I.2.2.2.1 I.2.2.2.2.2.2.1 (t := f (i + 1)) (a := f (i + 2)) (b := f (i + 3))) (fun oc h1 hQ => ⟨hQ.1 _ _ ho (by unfold cP; first | (simp; done) | (simp; omega)), by obtain ⟨_, s1, F1, _, _, _, _, _, hp⟩ := hQ; exact o_law (p0 := f (i + 1)) (p1 := f (i + 2)) (p2 := f (i + 3)) hp⟩)) ⟨w617, w618, w0, w619, by decide, pd7⟩ rfl (by decide) (by decide) (Nat.le_of_ble_eq_true rfl) dL_law__600 ?_
  rintro r9 h2 hw9
  obtain ⟨k, g2, ob, s1, F1, C1, SA1, la1, q1, e9, rc1, hM2, ho2, hs2, hz2, hp, hk⟩ := jCls hM ho hs hgs hz (fun g hg => by unfold cP; first | (simp; done) | (simp; omega)) hw9
  cases e9
  refine ab_istore (pc := 603) dL_law__603 rfl (Nat.le_of_ble_eq_true rfl) ?_
  refine ab_aload_n (pc := 605) dL_law__605 rfl ?_
  refine ab_aload_n (pc := 606) dL_law__606 rfl ?_
  refine ab_iload (pc := 607) dL_law__607 rfl ?_
  refine ab_iconst (pc := 609) dL_law__609 (by decide) ?_
  refine ab_iadd (pc := 610) dL_law__610 (by omega) (by omega) ?_
  refine ab_iald (pc := 611) hs2 (by omega) (by omega) dL_law__611 ?_
  refine ab_aload_n (pc := 612) dL_law__612 rfl ?_
  refine ab_iload (pc := 613) dL_law__613 rfl ?_
  refine ab_iconst (pc := 615) dL_law__615 (by decide) ?_
  refine ab_iadd (pc := 616) dL_law__616 (by omega) (by omega) ?_
  refine ab_iald (pc := 617) hs2 (by omega) (by omega) dL_law__617 ?_
  refine ab_aload_n (pc := 618) dL_law__618 rfl ?_
  refine ab_iload (pc := 619) dL_law__619 rfl ?_
  refine ab_iconst (pc := 621) dL_law__621 (by decide) ?_
  refine ab_iadd (pc := 622) dL_law__622 (by omega) (by omega) ?_
  refine ab_iald (pc := 623) hs2 (by omega) (by omega) dL_law__623 ?_
  refine ab_callV (pc := 624) (m_law hG hM2 I.2.1 I.2.2.2.2.1 I.2.2.1 I.2.2.2.1 (t := f (i + 1)) (a := f (i + 2)) (b := f (i + 3))) hM2.1 rfl ⟨w1241, w5, w1244, by decide, pd8⟩ w1242 w1243 rfl (by decide) (by decide) (Nat.le_of_ble_eq_true rfl) rfl dL_law__624 (fun _ _ hx => absurd hx mC_no) ?_
  rintro r9 h3 ⟨_, s', F', e9, hW, hm⟩
  cases e9
  have j9 := j_law I hp hm hW.2.2.1 hW.2.2.2
  obtain ⟨J3, ho3⟩ := jRef rc1 ho2 hs2 hgs hz2 hW j9
  obtain ⟨v, rfl, _, _, oc⟩ := j9
  have ek := jK ⟨by decide, by decide⟩ (o_law (p0 := f (i + 1)) (p1 := f (i + 2)) (p2 := f (i + 3)) hp) hk oc
  refine ab_istore (pc := 627) dL_law__627 rfl (Nat.le_of_ble_eq_true rfl) ?_
  refine ab_aload_n (pc := 629) dL_law__629 rfl ?_
  refine ab_callV (pc := 630) (m_thrownP hG J3.2.1) J3.2.1.1 rfl ⟨w1045, w5, w1048, by decide, pd26⟩ w1046 w1047 rfl (by decide) (by decide) (Nat.le_of_ble_eq_true rfl) rfl dL_law__630 (fun _ _ hx => absurd hx pC_no) ?_
  rintro _ _ ⟨tv, e9, rfl, htv⟩
  cases e9
  refine ab_iload (pc := 633) dL_law__633 rfl ?_
  refine ab_icmp_eq (pc := 635) 640 dL_law__635 (by decide) (fun c635 => ?_) (fun c635 => absurd c635 (by omega))
  refine ab_iload (pc := 640) dL_law__640 rfl ?_
  refine ab_if_ne (pc := 642) 657 dL_law__642 (by decide) (fun c642 => ?_) (fun c642 => ?_)
  · refine ab_goto (pc := 657) 1693 dL_law__657 (by decide) ?_
    exact K _ _ _ _ _ J3
  · refine ab_aload_n (pc := 645) dL_law__645 rfl ?_
    refine ab_iconst (pc := 646) dL_law__646 (by decide) ?_
    refine ab_lald (pc := 647) ho3 (by omega) (by omega) dL_law__647 ?_
    refine ab_iload (pc := 648) dL_law__648 rfl ?_
    refine ab_i2l (pc := 650) dL_law__650 ?_
    refine ab_lcm (pc := 651) dL_law__651 ?_
    refine ab_if_eq (pc := 652) 657 dL_law__652 (by decide) (fun c652 => ?_) (fun c652 => absurd c652 (fun k9 => k9 (lcmp_0.mpr (ek.2 (by omega)))))
    refine ab_goto (pc := 657) 1693 dL_law__657 (by decide) ?_
    exact K _ _ _ _ _ J3
theorem lc_count (hG : ab_G l E) (hb : ∀ j : Int, 0 ≤ j → j < N → -2147483648 ≤ f j ∧ f j < 2147483648) (i0 : 0 ≤ i) (i6 : i + 6 ≤ N) (N0 : N ≤ 3072) (J : JI h x m o z9 sc N B A f s F) {x5 x6 : Option AbV} (K : ∀ (h' : AbH) (s' : Nat → Int) (F' : Nat → Int → Int) (x5 x6 : Option AbV), JI h' x m o z9 sc N B A f s' F' → ab_T l E Y_L_law_ 16 kc ks 1693 [some (vR sc), some (vR x), some (vR m), some (vR o), some (vI i), x5, x6] [] h' Q) : ab_T l E Y_L_law_ 16 (kc + 0) (ks + 0) 660 [some (vR sc), some (vR x), some (vR m), some (vR o), some (vI i), x5, x6] [] h Q := by
  obtain ⟨⟨C, SA, la, q, rc⟩, hM, I, ⟨g, ho⟩, ⟨gs, hgs, hs⟩, hz⟩ := J
  refine ab_aload_n (pc := 660) dL_law__660 rfl ?_
  refine ab_aload_n (pc := 661) dL_law__661 rfl ?_
  refine ab_iload (pc := 662) dL_law__662 rfl ?_
  refine ab_iconst (pc := 664) dL_law__664 (by decide) ?_
  refine ab_iadd (pc := 665) dL_law__665 (by omega) (by omega) ?_
  refine ab_iald (pc := 666) hs (by omega) (by omega) dL_law__666 ?_
  refine ab_callV (pc := 667) (c_count hG rc (w := f (i + 1))) rc.o rfl ⟨w140, w1, w143, by decide, pd2⟩ w141 w142 rfl (by decide) (by decide) (Nat.le_of_ble_eq_true rfl) rfl dL_law__667 (fun X9 h9 hx9 => by exfalso; obtain ⟨_, _, _, _, _, _, _, _, _, _, k⟩ := hx9; rcases k with ⟨_, k⟩ | ⟨_, k⟩ | ⟨_, k⟩ | ⟨_, _, _, k⟩ <;> cases k) ?_
  rintro r9 h2 ⟨kp, s1, F1, C1, SA1, la1, q1, rc1, es, eF, hp⟩
  obtain ⟨v, ev, hv⟩ : ∃ v : Int, r9 = some (vI v) ∧ ((f (i + 1) = 0 ∧ v = s 1) ∨ (f (i + 1) = 1 ∧ v = s 7) ∨ (f (i + 1) = 2 ∧ v = s 23) ∨ (f (i + 1) ≠ 0 ∧ f (i + 1) ≠ 1 ∧ f (i + 1) ≠ 2 ∧ v = -1)) := by
    rcases hp with ⟨p, e⟩ | ⟨p, e⟩ | ⟨p, e⟩ | ⟨p1, p2, p3, e⟩ <;> cases e
    · exact ⟨_, rfl, Or.inl ⟨p, rfl⟩⟩
    · exact ⟨_, rfl, Or.inr (Or.inl ⟨p, rfl⟩)⟩
    · exact ⟨_, rfl, Or.inr (Or.inr (Or.inl ⟨p, rfl⟩))⟩
    · exact ⟨_, rfl, Or.inr (Or.inr (Or.inr ⟨p1, p2, p3, rfl⟩))⟩
  subst ev
  have aP : ∀ g : Nat, cP [] g := fun g => by unfold cP; simp
  rw [es, eF] at rc1
  replace hM := hM.kp kp (fun g _ _ => aP g)
  replace hs := kp _ _ hs (aP _)
  replace hz := kp _ _ hz (aP _)
  replace ho := kp _ _ ho (aP _)
  refine ab_aload_n (pc := 670) dL_law__670 rfl ?_
  refine ab_aload_n (pc := 671) dL_law__671 rfl ?_
  refine ab_iload (pc := 672) dL_law__672 rfl ?_
  refine ab_iconst (pc := 674) dL_law__674 (by decide) ?_
  refine ab_iadd (pc := 675) dL_law__675 (by omega) (by omega) ?_
  refine ab_iald (pc := 676) hs (by omega) (by omega) dL_law__676 ?_
  refine ab_callV (pc := 677) (m_count hG hM (w := f (i + 1))) hM.1 rfl ⟨w1245, w5, w1248, by decide, pd2⟩ w1246 w1247 rfl (by decide) (by decide) (Nat.le_of_ble_eq_true rfl) rfl dL_law__677 (fun _ _ hx => absurd hx mC_no) ?_
  rintro r9 h3 ⟨_, s', F', e9, hW, z0, hp2⟩
  cases e9
  obtain ⟨v2, ev, hv2⟩ : ∃ v2 : Int, r9 = some (vI v2) ∧ v = v2 := by
    rcases hp2 with ⟨p, e⟩ | ⟨p, e⟩ | ⟨p, e⟩ | ⟨p1, p2, p3, e⟩
    · exact ⟨_, e, by omega⟩
    · exact ⟨_, e, by omega⟩
    · exact ⟨_, e, by omega⟩
    · exact ⟨_, e, by omega⟩
  subst ev
  have rq : relQ s s' F F' := ⟨(hW.2.2.1 1 (by decide)).symm, (hW.2.2.1 7 (by decide)).symm, (hW.2.2.1 23 (by decide)).symm, (hW.2.2.2 2 (by decide)).symm, (hW.2.2.2 3 (by decide)).symm, (hW.2.2.2 4 (by decide)).symm, (hW.2.2.2 8 (by decide)).symm, (hW.2.2.2 9 (by decide)).symm, (hW.2.2.2 10 (by decide)).symm, (hW.2.2.2 11 (by decide)).symm, (hW.2.2.2 12 (by decide)).symm, (hW.2.2.2 35 (by decide)).symm, (hW.2.2.2 36 (by decide)).symm, (hW.2.2.2 37 (by decide)).symm, (hW.2.2.2 38 (by decide)).symm⟩
  have j9 : jOk "a" "b" (.inl (some (vI v2))) (some (vI v2)) s F s' F' := jOk.mk rq I rfl (Or.inl ⟨_, rfl, z0, rfl⟩)
  obtain ⟨J3, ho3⟩ := jRef rc1 ho hs hgs hz hW j9
  refine ab_icmp_eq (pc := 680) 1693 dL_law__680 (by decide) (fun c680 => ?_) (fun c680 => ?_)
  · exact K _ _ _ _ _ J3
  · refine ab_iconst (pc := 683) dL_law__683 (by decide) ?_
    refine ab_zret (pc := 684) dL_law__684 rfl (by omega) ?_
    exfalso
    omega
theorem lc_power (hG : ab_G l E) (hb : ∀ j : Int, 0 ≤ j → j < N → -2147483648 ≤ f j ∧ f j < 2147483648) (i0 : 0 ≤ i) (i6 : i + 6 ≤ N) (N0 : N ≤ 3072) (J : JI h x m o z9 sc N B A f s F) {x5 x6 : Option AbV} (K : ∀ (h' : AbH) (s' : Nat → Int) (F' : Nat → Int → Int) (x5 x6 : Option AbV), JI h' x m o z9 sc N B A f s' F' → ab_T l E Y_L_law_ 16 kc ks 1693 [some (vR sc), some (vR x), some (vR m), some (vR o), some (vI i), x5, x6] [] h' Q) : ab_T l E Y_L_law_ 16 (kc + (0 + 3)) (ks + (0 + 18)) 685 [some (vR sc), some (vR x), some (vR m), some (vR o), some (vI i), x5, x6] [] h Q := by
  obtain ⟨⟨C, SA, la, q, rc⟩, hM, I, ⟨g, ho⟩, ⟨gs, hgs, hs⟩, hz⟩ := J
  refine ab_aload_n (pc := 685) dL_law__685 rfl ?_
  refine ab_aload_n (pc := 686) dL_law__686 rfl ?_
  refine ab_iload (pc := 687) dL_law__687 rfl ?_
  refine ab_iconst (pc := 689) dL_law__689 (by decide) ?_
  refine ab_iadd (pc := 690) dL_law__690 (by omega) (by omega) ?_
  refine ab_iald (pc := 691) hs (by omega) (by omega) dL_law__691 ?_
  refine ab_aload_n (pc := 692) dL_law__692 rfl ?_
  refine ab_iload (pc := 693) dL_law__693 rfl ?_
  refine ab_iconst (pc := 695) dL_law__695 (by decide) ?_
  refine ab_iadd (pc := 696) dL_law__696 (by omega) (by omega) ?_
  refine ab_iald (pc := 697) hs (by omega) (by omega) dL_law__697 ?_
  refine ab_aload_n (pc := 698) dL_law__698 rfl ?_
  refine ab_iload (pc := 699) dL_law__699 rfl ?_
  refine ab_iconst (pc := 701) dL_law__701 (by decide) ?_
  refine ab_iadd (pc := 702) dL_law__702 (by omega) (by omega) ?_
  refine ab_iald (pc := 703) hs (by omega) (by omega) dL_law__703 ?_
  refine ab_aload_n (pc := 704) dL_law__704 rfl ?_
  refine ab_callSW (pc := 705) (W_power hG rc.o (c_powerC hG rc I.2.2.2.2.1 I.2.1 (i := f (i + 1)) (k := f (i + 2)) (w := f (i + 3))) (fun oc h1 hQ => ⟨hQ.1 _ _ ho (by unfold cP; first | (simp; done) | (simp; omega)), by obtain ⟨_, s1, F1, _, _, _, _, _, hp⟩ := hQ; exact o_power (p0 := f (i + 1)) (p1 := f (i + 2)) (p2 := f (i + 3)) hp⟩)) ⟨w702, w703, w0, w704, by decide, pd7⟩ rfl (by decide) (by decide) (Nat.le_of_ble_eq_true rfl) dL_law__705 ?_
  rintro r9 h2 hw9
  obtain ⟨k, g2, ob, s1, F1, C1, SA1, la1, q1, e9, rc1, hM2, ho2, hs2, hz2, hp, hk⟩ := jCls hM ho hs hgs hz (fun g hg => by unfold cP; first | (simp; done) | (simp; omega)) hw9
  cases e9
  refine ab_istore (pc := 708) dL_law__708 rfl (Nat.le_of_ble_eq_true rfl) ?_
  refine ab_aload_n (pc := 710) dL_law__710 rfl ?_
  refine ab_aload_n (pc := 711) dL_law__711 rfl ?_
  refine ab_iload (pc := 712) dL_law__712 rfl ?_
  refine ab_iconst (pc := 714) dL_law__714 (by decide) ?_
  refine ab_iadd (pc := 715) dL_law__715 (by omega) (by omega) ?_
  refine ab_iald (pc := 716) hs2 (by omega) (by omega) dL_law__716 ?_
  refine ab_aload_n (pc := 717) dL_law__717 rfl ?_
  refine ab_iload (pc := 718) dL_law__718 rfl ?_
  refine ab_iconst (pc := 720) dL_law__720 (by decide) ?_
  refine ab_iadd (pc := 721) dL_law__721 (by omega) (by omega) ?_
  refine ab_iald (pc := 722) hs2 (by omega) (by omega) dL_law__722 ?_
  refine ab_aload_n (pc := 723) dL_law__723 rfl ?_
  refine ab_iload (pc := 724) dL_law__724 rfl ?_
  refine ab_iconst (pc := 726) dL_law__726 (by decide) ?_
  refine ab_iadd (pc := 727) dL_law__727 (by omega) (by omega) ?_
  refine ab_iald (pc := 728) hs2 (by omega) (by omega) dL_law__728 ?_
  refine ab_callV (pc := 729) (m_power hG hM2 I.2.1 I.2.2.2.2.1 (x := f (i + 1)) (k := f (i + 2)) (w := f (i + 3))) hM2.1 rfl ⟨w1249, w5, w1252, by decide, pd8⟩ w1250 w1251 rfl (by decide) (by decide) (Nat.le_of_ble_eq_true rfl) rfl dL_law__729 (fun _ _ hx => absurd hx mC_no) ?_
  rintro r9 h3 ⟨_, s', F', e9, hW, hm⟩
  cases e9
  have j9 := j_power I hp hm hW.2.2.1 hW.2.2.2
  obtain ⟨J3, ho3⟩ := jRef rc1 ho2 hs2 hgs hz2 hW j9
  obtain ⟨v, rfl, _, _, oc⟩ := j9
  have ek := jK ⟨by decide, by decide⟩ (o_power (p0 := f (i + 1)) (p1 := f (i + 2)) (p2 := f (i + 3)) hp) hk oc
  refine ab_istore (pc := 732) dL_law__732 rfl (Nat.le_of_ble_eq_true rfl) ?_
  refine ab_aload_n (pc := 734) dL_law__734 rfl ?_
  refine ab_callV (pc := 735) (m_thrownP hG J3.2.1) J3.2.1.1 rfl ⟨w1045, w5, w1048, by decide, pd26⟩ w1046 w1047 rfl (by decide) (by decide) (Nat.le_of_ble_eq_true rfl) rfl dL_law__735 (fun _ _ hx => absurd hx pC_no) ?_
  rintro _ _ ⟨tv, e9, rfl, htv⟩
  cases e9
  refine ab_iload (pc := 738) dL_law__738 rfl ?_
  refine ab_icmp_eq (pc := 740) 745 dL_law__740 (by decide) (fun c740 => ?_) (fun c740 => absurd c740 (by omega))
  refine ab_iload (pc := 745) dL_law__745 rfl ?_
  refine ab_if_ne (pc := 747) 762 dL_law__747 (by decide) (fun c747 => ?_) (fun c747 => ?_)
  · refine ab_goto (pc := 762) 1693 dL_law__762 (by decide) ?_
    exact K _ _ _ _ _ J3
  · refine ab_aload_n (pc := 750) dL_law__750 rfl ?_
    refine ab_iconst (pc := 751) dL_law__751 (by decide) ?_
    refine ab_lald (pc := 752) ho3 (by omega) (by omega) dL_law__752 ?_
    refine ab_iload (pc := 753) dL_law__753 rfl ?_
    refine ab_i2l (pc := 755) dL_law__755 ?_
    refine ab_lcm (pc := 756) dL_law__756 ?_
    refine ab_if_eq (pc := 757) 762 dL_law__757 (by decide) (fun c757 => ?_) (fun c757 => absurd c757 (fun k9 => k9 (lcmp_0.mpr (ek.2 (by omega)))))
    refine ab_goto (pc := 762) 1693 dL_law__762 (by decide) ?_
    exact K _ _ _ _ _ J3
theorem lc_run (hG : ab_G l E) (hb : ∀ j : Int, 0 ≤ j → j < N → -2147483648 ≤ f j ∧ f j < 2147483648) (i0 : 0 ≤ i) (i6 : i + 6 ≤ N) (N0 : N ≤ 3072) (J : JI h x m o z9 sc N B A f s F) {x5 x6 : Option AbV} (K : ∀ (h' : AbH) (s' : Nat → Int) (F' : Nat → Int → Int) (x5 x6 : Option AbV), JI h' x m o z9 sc N B A f s' F' → ab_T l E Y_L_law_ 16 kc ks 1693 [some (vR sc), some (vR x), some (vR m), some (vR o), some (vI i), x5, x6] [] h' Q) : ab_T l E Y_L_law_ 16 (kc + (0 + 3)) (ks + (0 + 18)) 765 [some (vR sc), some (vR x), some (vR m), some (vR o), some (vI i), x5, x6] [] h Q := by
  obtain ⟨⟨C, SA, la, q, rc⟩, hM, I, ⟨g, ho⟩, ⟨gs, hgs, hs⟩, hz⟩ := J
  refine ab_aload_n (pc := 765) dL_law__765 rfl ?_
  refine ab_aload_n (pc := 766) dL_law__766 rfl ?_
  refine ab_iload (pc := 767) dL_law__767 rfl ?_
  refine ab_iconst (pc := 769) dL_law__769 (by decide) ?_
  refine ab_iadd (pc := 770) dL_law__770 (by omega) (by omega) ?_
  refine ab_iald (pc := 771) hs (by omega) (by omega) dL_law__771 ?_
  refine ab_aload_n (pc := 772) dL_law__772 rfl ?_
  refine ab_iload (pc := 773) dL_law__773 rfl ?_
  refine ab_iconst (pc := 775) dL_law__775 (by decide) ?_
  refine ab_iadd (pc := 776) dL_law__776 (by omega) (by omega) ?_
  refine ab_iald (pc := 777) hs (by omega) (by omega) dL_law__777 ?_
  refine ab_aload_n (pc := 778) dL_law__778 rfl ?_
  refine ab_iload (pc := 779) dL_law__779 rfl ?_
  refine ab_iconst (pc := 781) dL_law__781 (by decide) ?_
  refine ab_iadd (pc := 782) dL_law__782 (by omega) (by omega) ?_
  refine ab_iald (pc := 783) hs (by omega) (by omega) dL_law__783 ?_
  refine ab_aload_n (pc := 784) dL_law__784 rfl ?_
  refine ab_iload (pc := 785) dL_law__785 rfl ?_
  refine ab_iconst (pc := 787) dL_law__787 (by decide) ?_
  refine ab_iadd (pc := 788) dL_law__788 (by omega) (by omega) ?_
  refine ab_iald (pc := 789) hs (by omega) (by omega) dL_law__789 ?_
  refine ab_aload_n (pc := 790) dL_law__790 rfl ?_
  refine ab_callSW (pc := 791) (W_run hG rc.o (c_runC hG rc I.2.2.2.2.1 I.2.1 (i := f (i + 1)) (k := f (i + 2)) (r := f (i + 3)) (w := f (i + 4))) (fun oc h1 hQ => ⟨hQ.1 _ _ ho (by unfold cP; first | (simp; done) | (simp; omega)), by obtain ⟨_, s1, F1, _, _, _, _, _, hp⟩ := hQ; exact o_run (p0 := f (i + 1)) (p1 := f (i + 2)) (p2 := f (i + 3)) (p3 := f (i + 4)) hp⟩)) ⟨w730, w731, w0, w732, by decide, pd43⟩ rfl (by decide) (by decide) (Nat.le_of_ble_eq_true rfl) dL_law__791 ?_
  rintro r9 h2 hw9
  obtain ⟨k, g2, ob, s1, F1, C1, SA1, la1, q1, e9, rc1, hM2, ho2, hs2, hz2, hp, hk⟩ := jCls hM ho hs hgs hz (fun g hg => by unfold cP; first | (simp; done) | (simp; omega)) hw9
  cases e9
  refine ab_istore (pc := 794) dL_law__794 rfl (Nat.le_of_ble_eq_true rfl) ?_
  refine ab_aload_n (pc := 796) dL_law__796 rfl ?_
  refine ab_aload_n (pc := 797) dL_law__797 rfl ?_
  refine ab_iload (pc := 798) dL_law__798 rfl ?_
  refine ab_iconst (pc := 800) dL_law__800 (by decide) ?_
  refine ab_iadd (pc := 801) dL_law__801 (by omega) (by omega) ?_
  refine ab_iald (pc := 802) hs2 (by omega) (by omega) dL_law__802 ?_
  refine ab_aload_n (pc := 803) dL_law__803 rfl ?_
  refine ab_iload (pc := 804) dL_law__804 rfl ?_
  refine ab_iconst (pc := 806) dL_law__806 (by decide) ?_
  refine ab_iadd (pc := 807) dL_law__807 (by omega) (by omega) ?_
  refine ab_iald (pc := 808) hs2 (by omega) (by omega) dL_law__808 ?_
  refine ab_aload_n (pc := 809) dL_law__809 rfl ?_
  refine ab_iload (pc := 810) dL_law__810 rfl ?_
  refine ab_iconst (pc := 812) dL_law__812 (by decide) ?_
  refine ab_iadd (pc := 813) dL_law__813 (by omega) (by omega) ?_
  refine ab_iald (pc := 814) hs2 (by omega) (by omega) dL_law__814 ?_
  refine ab_aload_n (pc := 815) dL_law__815 rfl ?_
  refine ab_iload (pc := 816) dL_law__816 rfl ?_
  refine ab_iconst (pc := 818) dL_law__818 (by decide) ?_
  refine ab_iadd (pc := 819) dL_law__819 (by omega) (by omega) ?_
  refine ab_iald (pc := 820) hs2 (by omega) (by omega) dL_law__820 ?_
  refine ab_callV (pc := 821) (m_run hG hM2 I.2.1 I.2.2.2.2.1 (x := f (i + 1)) (k := f (i + 2)) (q := f (i + 3)) (w := f (i + 4))) hM2.1 rfl ⟨w1266, w5, w1269, by decide, pd44⟩ w1267 w1268 rfl (by decide) (by decide) (Nat.le_of_ble_eq_true rfl) rfl dL_law__821 (fun _ _ hx => absurd hx mC_no) ?_
  rintro r9 h3 ⟨_, s', F', e9, hW, hm⟩
  cases e9
  have j9 := j_run I hp hm hW.2.2.1 hW.2.2.2
  obtain ⟨J3, ho3⟩ := jRef rc1 ho2 hs2 hgs hz2 hW j9
  obtain ⟨v, rfl, _, _, oc⟩ := j9
  have ek := jK ⟨by decide, by decide⟩ (o_run (p0 := f (i + 1)) (p1 := f (i + 2)) (p2 := f (i + 3)) (p3 := f (i + 4)) hp) hk oc
  refine ab_istore (pc := 824) dL_law__824 rfl (Nat.le_of_ble_eq_true rfl) ?_
  refine ab_aload_n (pc := 826) dL_law__826 rfl ?_
  refine ab_callV (pc := 827) (m_thrownP hG J3.2.1) J3.2.1.1 rfl ⟨w1045, w5, w1048, by decide, pd26⟩ w1046 w1047 rfl (by decide) (by decide) (Nat.le_of_ble_eq_true rfl) rfl dL_law__827 (fun _ _ hx => absurd hx pC_no) ?_
  rintro _ _ ⟨tv, e9, rfl, htv⟩
  cases e9
  refine ab_iload (pc := 830) dL_law__830 rfl ?_
  refine ab_icmp_eq (pc := 832) 837 dL_law__832 (by decide) (fun c832 => ?_) (fun c832 => absurd c832 (by omega))
  refine ab_iload (pc := 837) dL_law__837 rfl ?_
  refine ab_if_ne (pc := 839) 854 dL_law__839 (by decide) (fun c839 => ?_) (fun c839 => ?_)
  · refine ab_goto (pc := 854) 1693 dL_law__854 (by decide) ?_
    exact K _ _ _ _ _ J3
  · refine ab_aload_n (pc := 842) dL_law__842 rfl ?_
    refine ab_iconst (pc := 843) dL_law__843 (by decide) ?_
    refine ab_lald (pc := 844) ho3 (by omega) (by omega) dL_law__844 ?_
    refine ab_iload (pc := 845) dL_law__845 rfl ?_
    refine ab_i2l (pc := 847) dL_law__847 ?_
    refine ab_lcm (pc := 848) dL_law__848 ?_
    refine ab_if_eq (pc := 849) 854 dL_law__849 (by decide) (fun c849 => ?_) (fun c849 => absurd c849 (fun k9 => k9 (lcmp_0.mpr (ek.2 (by omega)))))
    refine ab_goto (pc := 854) 1693 dL_law__854 (by decide) ?_
    exact K _ _ _ _ _ J3
theorem lc_clash (hG : ab_G l E) (hb : ∀ j : Int, 0 ≤ j → j < N → -2147483648 ≤ f j ∧ f j < 2147483648) (i0 : 0 ≤ i) (i6 : i + 6 ≤ N) (N0 : N ≤ 3072) (J : JI h x m o z9 sc N B A f s F) {x5 x6 : Option AbV} (K : ∀ (h' : AbH) (s' : Nat → Int) (F' : Nat → Int → Int) (x5 x6 : Option AbV), JI h' x m o z9 sc N B A f s' F' → ab_T l E Y_L_law_ 16 kc ks 1693 [some (vR sc), some (vR x), some (vR m), some (vR o), some (vI i), x5, x6] [] h' Q) : ab_T l E Y_L_law_ 16 (kc + (0 + 4)) (ks + (0 + 24)) 857 [some (vR sc), some (vR x), some (vR m), some (vR o), some (vI i), x5, x6] [] h Q := by
  obtain ⟨⟨C, SA, la, q, rc⟩, hM, I, ⟨g, ho⟩, ⟨gs, hgs, hs⟩, hz⟩ := J
  refine ab_aload_n (pc := 857) dL_law__857 rfl ?_
  refine ab_aload_n (pc := 858) dL_law__858 rfl ?_
  refine ab_iload (pc := 859) dL_law__859 rfl ?_
  refine ab_iconst (pc := 861) dL_law__861 (by decide) ?_
  refine ab_iadd (pc := 862) dL_law__862 (by omega) (by omega) ?_
  refine ab_iald (pc := 863) hs (by omega) (by omega) dL_law__863 ?_
  refine ab_aload_n (pc := 864) dL_law__864 rfl ?_
  refine ab_iload (pc := 865) dL_law__865 rfl ?_
  refine ab_iconst (pc := 867) dL_law__867 (by decide) ?_
  refine ab_iadd (pc := 868) dL_law__868 (by omega) (by omega) ?_
  refine ab_iald (pc := 869) hs (by omega) (by omega) dL_law__869 ?_
  refine ab_aload_n (pc := 870) dL_law__870 rfl ?_
  refine ab_iload (pc := 871) dL_law__871 rfl ?_
  refine ab_iconst (pc := 873) dL_law__873 (by decide) ?_
  refine ab_iadd (pc := 874) dL_law__874 (by omega) (by omega) ?_
  refine ab_iald (pc := 875) hs (by omega) (by omega) dL_law__875 ?_
  refine ab_aload_n (pc := 876) dL_law__876 rfl ?_
  refine ab_iload (pc := 877) dL_law__877 rfl ?_
  refine ab_iconst (pc := 879) dL_law__879 (by decide) ?_
  refine ab_iadd (pc := 880) dL_law__880 (by omega) (by omega) ?_
  refine ab_iald (pc := 881) hs (by omega) (by omega) dL_law__881 ?_
  refine ab_aload_n (pc := 882) dL_law__882 rfl ?_
  refine ab_callSW (pc := 883) (W_clash hG rc.o (c_clash hG rc I.2.2.2.2.1 I.2.1 (hb (i + 1) (by omega) (by omega)) I.2.2.1 I.2.2.2.1 I.2.2.2.2.2.2.1 (e := f (i + 1)) (i := f (i + 2)) (k := f (i + 3)) (w := f (i + 4))) (fun oc h1 hQ => ⟨hQ.1 _ _ ho (by unfold cP; first | (simp; done) | (simp; omega)), by obtain ⟨_, s1, F1, _, _, _, _, _, hp⟩ := hQ; exact o_clash (p0 := f (i + 1)) (p1 := f (i + 2)) (p2 := f (i + 3)) (p3 := f (i + 4)) hp⟩)) ⟨w737, w738, w0, w739, by decide, pd43⟩ rfl (by decide) (by decide) (Nat.le_of_ble_eq_true rfl) dL_law__883 ?_
  rintro r9 h2 hw9
  obtain ⟨k, g2, ob, s1, F1, C1, SA1, la1, q1, e9, rc1, hM2, ho2, hs2, hz2, hp, hk⟩ := jCls hM ho hs hgs hz (fun g hg => by unfold cP; first | (simp; done) | (simp; omega)) hw9
  cases e9
  refine ab_istore (pc := 886) dL_law__886 rfl (Nat.le_of_ble_eq_true rfl) ?_
  refine ab_aload_n (pc := 888) dL_law__888 rfl ?_
  refine ab_aload_n (pc := 889) dL_law__889 rfl ?_
  refine ab_iload (pc := 890) dL_law__890 rfl ?_
  refine ab_iconst (pc := 892) dL_law__892 (by decide) ?_
  refine ab_iadd (pc := 893) dL_law__893 (by omega) (by omega) ?_
  refine ab_iald (pc := 894) hs2 (by omega) (by omega) dL_law__894 ?_
  refine ab_aload_n (pc := 895) dL_law__895 rfl ?_
  refine ab_iload (pc := 896) dL_law__896 rfl ?_
  refine ab_iconst (pc := 898) dL_law__898 (by decide) ?_
  refine ab_iadd (pc := 899) dL_law__899 (by omega) (by omega) ?_
  refine ab_iald (pc := 900) hs2 (by omega) (by omega) dL_law__900 ?_
  refine ab_aload_n (pc := 901) dL_law__901 rfl ?_
  refine ab_iload (pc := 902) dL_law__902 rfl ?_
  refine ab_iconst (pc := 904) dL_law__904 (by decide) ?_
  refine ab_iadd (pc := 905) dL_law__905 (by omega) (by omega) ?_
  refine ab_iald (pc := 906) hs2 (by omega) (by omega) dL_law__906 ?_
  refine ab_aload_n (pc := 907) dL_law__907 rfl ?_
  refine ab_iload (pc := 908) dL_law__908 rfl ?_
  refine ab_iconst (pc := 910) dL_law__910 (by decide) ?_
  refine ab_iadd (pc := 911) dL_law__911 (by omega) (by omega) ?_
  refine ab_iald (pc := 912) hs2 (by omega) (by omega) dL_law__912 ?_
  refine ab_callV (pc := 913) (m_clash hG hM2 I.2.1 I.2.2.2.2.1 I.2.2.1 I.2.2.2.1 I.2.2.2.2.2.2.1 (e := f (i + 1)) (x := f (i + 2)) (k := f (i + 3)) (w := f (i + 4))) hM2.1 rfl ⟨w1270, w5, w1273, by decide, pd44⟩ w1271 w1272 rfl (by decide) (by decide) (Nat.le_of_ble_eq_true rfl) rfl dL_law__913 (fun _ _ hx => absurd hx mC_no) ?_
  rintro r9 h3 ⟨_, s', F', e9, hW, hm⟩
  cases e9
  have j9 := j_clash I hp hm hW.2.2.1 hW.2.2.2
  obtain ⟨J3, ho3⟩ := jRef rc1 ho2 hs2 hgs hz2 hW j9
  obtain ⟨v, rfl, _, _, oc⟩ := j9
  have ek := jK ⟨by decide, by decide⟩ (o_clash (p0 := f (i + 1)) (p1 := f (i + 2)) (p2 := f (i + 3)) (p3 := f (i + 4)) hp) hk oc
  refine ab_istore (pc := 916) dL_law__916 rfl (Nat.le_of_ble_eq_true rfl) ?_
  refine ab_aload_n (pc := 918) dL_law__918 rfl ?_
  refine ab_callV (pc := 919) (m_thrownP hG J3.2.1) J3.2.1.1 rfl ⟨w1045, w5, w1048, by decide, pd26⟩ w1046 w1047 rfl (by decide) (by decide) (Nat.le_of_ble_eq_true rfl) rfl dL_law__919 (fun _ _ hx => absurd hx pC_no) ?_
  rintro _ _ ⟨tv, e9, rfl, htv⟩
  cases e9
  refine ab_iload (pc := 922) dL_law__922 rfl ?_
  refine ab_icmp_eq (pc := 924) 929 dL_law__924 (by decide) (fun c924 => ?_) (fun c924 => absurd c924 (by omega))
  refine ab_iload (pc := 929) dL_law__929 rfl ?_
  refine ab_if_ne (pc := 931) 946 dL_law__931 (by decide) (fun c931 => ?_) (fun c931 => ?_)
  · refine ab_goto (pc := 946) 1693 dL_law__946 (by decide) ?_
    exact K _ _ _ _ _ J3
  · refine ab_aload_n (pc := 934) dL_law__934 rfl ?_
    refine ab_iconst (pc := 935) dL_law__935 (by decide) ?_
    refine ab_lald (pc := 936) ho3 (by omega) (by omega) dL_law__936 ?_
    refine ab_iload (pc := 937) dL_law__937 rfl ?_
    refine ab_i2l (pc := 939) dL_law__939 ?_
    refine ab_lcm (pc := 940) dL_law__940 ?_
    refine ab_if_eq (pc := 941) 946 dL_law__941 (by decide) (fun c941 => ?_) (fun c941 => absurd c941 (fun k9 => k9 (lcmp_0.mpr (ek.2 (by omega)))))
    refine ab_goto (pc := 946) 1693 dL_law__946 (by decide) ?_
    exact K _ _ _ _ _ J3
theorem lc_many (hG : ab_G l E) (hb : ∀ j : Int, 0 ≤ j → j < N → -2147483648 ≤ f j ∧ f j < 2147483648) (i0 : 0 ≤ i) (i6 : i + 6 ≤ N) (N0 : N ≤ 3072) (J : JI h x m o z9 sc N B A f s F) {x5 x6 : Option AbV} (K : ∀ (h' : AbH) (s' : Nat → Int) (F' : Nat → Int → Int) (x5 x6 : Option AbV), JI h' x m o z9 sc N B A f s' F' → ab_T l E Y_L_law_ 16 kc ks 1693 [some (vR sc), some (vR x), some (vR m), some (vR o), some (vI i), x5, x6] [] h' Q) : ab_T l E Y_L_law_ 16 (kc + (0 + 3)) (ks + (0 + 18)) 949 [some (vR sc), some (vR x), some (vR m), some (vR o), some (vI i), x5, x6] [] h Q := by
  obtain ⟨⟨C, SA, la, q, rc⟩, hM, I, ⟨g, ho⟩, ⟨gs, hgs, hs⟩, hz⟩ := J
  refine ab_aload_n (pc := 949) dL_law__949 rfl ?_
  refine ab_aload_n (pc := 950) dL_law__950 rfl ?_
  refine ab_iload (pc := 951) dL_law__951 rfl ?_
  refine ab_iconst (pc := 953) dL_law__953 (by decide) ?_
  refine ab_iadd (pc := 954) dL_law__954 (by omega) (by omega) ?_
  refine ab_iald (pc := 955) hs (by omega) (by omega) dL_law__955 ?_
  refine ab_aload_n (pc := 956) dL_law__956 rfl ?_
  refine ab_iload (pc := 957) dL_law__957 rfl ?_
  refine ab_iconst (pc := 959) dL_law__959 (by decide) ?_
  refine ab_iadd (pc := 960) dL_law__960 (by omega) (by omega) ?_
  refine ab_iald (pc := 961) hs (by omega) (by omega) dL_law__961 ?_
  refine ab_aload_n (pc := 962) dL_law__962 rfl ?_
  refine ab_iload (pc := 963) dL_law__963 rfl ?_
  refine ab_iconst (pc := 965) dL_law__965 (by decide) ?_
  refine ab_iadd (pc := 966) dL_law__966 (by omega) (by omega) ?_
  refine ab_iald (pc := 967) hs (by omega) (by omega) dL_law__967 ?_
  refine ab_aload_n (pc := 968) dL_law__968 rfl ?_
  refine ab_callSW (pc := 969) (W_many hG rc.o (c_many hG (F 30) rc (hb (i + 1) (by omega) (by omega)) I.2.2.1 I.2.2.2.1 I.2.2.2.2.2.2.1 (e := f (i + 1)) (a := f (i + 2)) (n := f (i + 3))) (fun oc h1 hQ => ⟨hQ.1 _ _ ho (by unfold cP; first | (simp; done) | (simp; omega)), by obtain ⟨_, s1, F1, _, _, _, _, _, hp⟩ := hQ; exact o_many (p0 := f (i + 1)) (p1 := f (i + 2)) (p2 := f (i + 3)) hp⟩)) ⟨w794, w795, w0, w796, by decide, pd7⟩ rfl (by decide) (by decide) (Nat.le_of_ble_eq_true rfl) dL_law__969 ?_
  rintro r9 h2 hw9
  obtain ⟨k, g2, ob, s1, F1, C1, SA1, la1, q1, e9, rc1, hM2, ho2, hs2, hz2, hp, hk⟩ := jCls hM ho hs hgs hz (fun g hg => by unfold cP; first | (simp; done) | (simp; omega)) hw9
  cases e9
  refine ab_istore (pc := 972) dL_law__972 rfl (Nat.le_of_ble_eq_true rfl) ?_
  refine ab_aload_n (pc := 974) dL_law__974 rfl ?_
  refine ab_aload_n (pc := 975) dL_law__975 rfl ?_
  refine ab_iload (pc := 976) dL_law__976 rfl ?_
  refine ab_iconst (pc := 978) dL_law__978 (by decide) ?_
  refine ab_iadd (pc := 979) dL_law__979 (by omega) (by omega) ?_
  refine ab_iald (pc := 980) hs2 (by omega) (by omega) dL_law__980 ?_
  refine ab_aload_n (pc := 981) dL_law__981 rfl ?_
  refine ab_iload (pc := 982) dL_law__982 rfl ?_
  refine ab_iconst (pc := 984) dL_law__984 (by decide) ?_
  refine ab_iadd (pc := 985) dL_law__985 (by omega) (by omega) ?_
  refine ab_iald (pc := 986) hs2 (by omega) (by omega) dL_law__986 ?_
  refine ab_aload_n (pc := 987) dL_law__987 rfl ?_
  refine ab_iload (pc := 988) dL_law__988 rfl ?_
  refine ab_iconst (pc := 990) dL_law__990 (by decide) ?_
  refine ab_iadd (pc := 991) dL_law__991 (by omega) (by omega) ?_
  refine ab_iald (pc := 992) hs2 (by omega) (by omega) dL_law__992 ?_
  refine ab_callV (pc := 993) (m_many hG hM2 I.2.2.1 I.2.2.2.1 I.2.2.2.2.2.2.1 (e := f (i + 1)) (a := f (i + 2)) (n := f (i + 3))) hM2.1 rfl ⟨w1304, w5, w1307, by decide, pd8⟩ w1305 w1306 rfl (by decide) (by decide) (Nat.le_of_ble_eq_true rfl) rfl dL_law__993 (fun _ _ hx => absurd hx mC_no) ?_
  rintro r9 h3 ⟨_, s', F', e9, hW, hm⟩
  cases e9
  have j9 := j_many I hp hm hW.2.2.1 hW.2.2.2
  obtain ⟨J3, ho3⟩ := jRef rc1 ho2 hs2 hgs hz2 hW j9
  obtain ⟨v, rfl, _, _, oc⟩ := j9
  have ek := jK ⟨by decide, by decide⟩ (o_many (p0 := f (i + 1)) (p1 := f (i + 2)) (p2 := f (i + 3)) hp) hk oc
  refine ab_istore (pc := 996) dL_law__996 rfl (Nat.le_of_ble_eq_true rfl) ?_
  refine ab_aload_n (pc := 998) dL_law__998 rfl ?_
  refine ab_callV (pc := 999) (m_thrownP hG J3.2.1) J3.2.1.1 rfl ⟨w1045, w5, w1048, by decide, pd26⟩ w1046 w1047 rfl (by decide) (by decide) (Nat.le_of_ble_eq_true rfl) rfl dL_law__999 (fun _ _ hx => absurd hx pC_no) ?_
  rintro _ _ ⟨tv, e9, rfl, htv⟩
  cases e9
  refine ab_iload (pc := 1002) dL_law__1002 rfl ?_
  refine ab_icmp_eq (pc := 1004) 1009 dL_law__1004 (by decide) (fun c1004 => ?_) (fun c1004 => absurd c1004 (by omega))
  refine ab_iload (pc := 1009) dL_law__1009 rfl ?_
  refine ab_if_ne (pc := 1011) 1026 dL_law__1011 (by decide) (fun c1011 => ?_) (fun c1011 => ?_)
  · refine ab_goto (pc := 1026) 1693 dL_law__1026 (by decide) ?_
    exact K _ _ _ _ _ J3
  · refine ab_aload_n (pc := 1014) dL_law__1014 rfl ?_
    refine ab_iconst (pc := 1015) dL_law__1015 (by decide) ?_
    refine ab_lald (pc := 1016) ho3 (by omega) (by omega) dL_law__1016 ?_
    refine ab_iload (pc := 1017) dL_law__1017 rfl ?_
    refine ab_i2l (pc := 1019) dL_law__1019 ?_
    refine ab_lcm (pc := 1020) dL_law__1020 ?_
    refine ab_if_eq (pc := 1021) 1026 dL_law__1021 (by decide) (fun c1021 => ?_) (fun c1021 => absurd c1021 (fun k9 => k9 (lcmp_0.mpr (ek.2 (by omega)))))
    refine ab_goto (pc := 1026) 1693 dL_law__1026 (by decide) ?_
    exact K _ _ _ _ _ J3
theorem lc_find (hG : ab_G l E) (hb : ∀ j : Int, 0 ≤ j → j < N → -2147483648 ≤ f j ∧ f j < 2147483648) (i0 : 0 ≤ i) (i6 : i + 6 ≤ N) (N0 : N ≤ 3072) (J : JI h x m o z9 sc N B A f s F) {x5 x6 : Option AbV} (K : ∀ (h' : AbH) (s' : Nat → Int) (F' : Nat → Int → Int) (x5 x6 : Option AbV), JI h' x m o z9 sc N B A f s' F' → ab_T l E Y_L_law_ 16 kc ks 1693 [some (vR sc), some (vR x), some (vR m), some (vR o), some (vI i), x5, x6] [] h' Q) : ab_T l E Y_L_law_ 16 (kc + (0 + 4)) (ks + (0 + 24)) 1029 [some (vR sc), some (vR x), some (vR m), some (vR o), some (vI i), x5, x6] [] h Q := by
  obtain ⟨⟨C, SA, la, q, rc⟩, hM, I, ⟨g, ho⟩, ⟨gs, hgs, hs⟩, hz⟩ := J
  refine ab_aload_n (pc := 1029) dL_law__1029 rfl ?_
  refine ab_aload_n (pc := 1030) dL_law__1030 rfl ?_
  refine ab_iload (pc := 1031) dL_law__1031 rfl ?_
  refine ab_iconst (pc := 1033) dL_law__1033 (by decide) ?_
  refine ab_iadd (pc := 1034) dL_law__1034 (by omega) (by omega) ?_
  refine ab_iald (pc := 1035) hs (by omega) (by omega) dL_law__1035 ?_
  refine ab_aload_n (pc := 1036) dL_law__1036 rfl ?_
  refine ab_iload (pc := 1037) dL_law__1037 rfl ?_
  refine ab_iconst (pc := 1039) dL_law__1039 (by decide) ?_
  refine ab_iadd (pc := 1040) dL_law__1040 (by omega) (by omega) ?_
  refine ab_iald (pc := 1041) hs (by omega) (by omega) dL_law__1041 ?_
  refine ab_aload_n (pc := 1042) dL_law__1042 rfl ?_
  refine ab_iload (pc := 1043) dL_law__1043 rfl ?_
  refine ab_iconst (pc := 1045) dL_law__1045 (by decide) ?_
  refine ab_iadd (pc := 1046) dL_law__1046 (by omega) (by omega) ?_
  refine ab_iald (pc := 1047) hs (by omega) (by omega) dL_law__1047 ?_
  refine ab_aload_n (pc := 1048) dL_law__1048 rfl ?_
  refine ab_iload (pc := 1049) dL_law__1049 rfl ?_
  refine ab_iconst (pc := 1051) dL_law__1051 (by decide) ?_
  refine ab_iadd (pc := 1052) dL_law__1052 (by omega) (by omega) ?_
  refine ab_iald (pc := 1053) hs (by omega) (by omega) dL_law__1053 ?_
  refine ab_aload_n (pc := 1054) dL_law__1054 rfl ?_
  refine ab_iload (pc := 1055) dL_law__1055 rfl ?_
  refine ab_iconst (pc := 1057) dL_law__1057 (by decide) ?_
  refine ab_iadd (pc := 1058) dL_law__1058 (by omega) (by omega) ?_
  refine ab_iald (pc := 1059) hs (by omega) (by omega) dL_law__1059 ?_
  refine ab_aload_n (pc := 1060) dL_law__1060 rfl ?_
  refine ab_callSW (pc := 1061) (W_find hG rc.o (c_find hG (F 30) rc I.2.2.2.2.1 I.2.1 (hb (i + 1) (by omega) (by omega)) I.2.2.1 I.2.2.2.1 I.2.2.2.2.2.2.1 (e := f (i + 1)) (a := f (i + 2)) (n := f (i + 3)) (k := f (i + 4)) (i := f (i + 5))) (fun oc h1 hQ => ⟨hQ.1 _ _ ho (by unfold cP; first | (simp; done) | (simp; omega)), by obtain ⟨_, s1, F1, _, _, _, _, _, hp⟩ := hQ; exact o_find (p0 := f (i + 1)) (p1 := f (i + 2)) (p2 := f (i + 3)) (p3 := f (i + 4)) (p4 := f (i + 5)) hp⟩)) ⟨w842, w843, w0, w844, by decide, pd59⟩ rfl (by decide) (by decide) (Nat.le_of_ble_eq_true rfl) dL_law__1061 ?_
  rintro r9 h2 hw9
  obtain ⟨k, g2, ob, s1, F1, C1, SA1, la1, q1, e9, rc1, hM2, ho2, hs2, hz2, hp, hk⟩ := jCls hM ho hs hgs hz (fun g hg => by unfold cP; first | (simp; done) | (simp; omega)) hw9
  cases e9
  refine ab_istore (pc := 1064) dL_law__1064 rfl (Nat.le_of_ble_eq_true rfl) ?_
  refine ab_aload_n (pc := 1066) dL_law__1066 rfl ?_
  refine ab_aload_n (pc := 1067) dL_law__1067 rfl ?_
  refine ab_iload (pc := 1068) dL_law__1068 rfl ?_
  refine ab_iconst (pc := 1070) dL_law__1070 (by decide) ?_
  refine ab_iadd (pc := 1071) dL_law__1071 (by omega) (by omega) ?_
  refine ab_iald (pc := 1072) hs2 (by omega) (by omega) dL_law__1072 ?_
  refine ab_aload_n (pc := 1073) dL_law__1073 rfl ?_
  refine ab_iload (pc := 1074) dL_law__1074 rfl ?_
  refine ab_iconst (pc := 1076) dL_law__1076 (by decide) ?_
  refine ab_iadd (pc := 1077) dL_law__1077 (by omega) (by omega) ?_
  refine ab_iald (pc := 1078) hs2 (by omega) (by omega) dL_law__1078 ?_
  refine ab_aload_n (pc := 1079) dL_law__1079 rfl ?_
  refine ab_iload (pc := 1080) dL_law__1080 rfl ?_
  refine ab_iconst (pc := 1082) dL_law__1082 (by decide) ?_
  refine ab_iadd (pc := 1083) dL_law__1083 (by omega) (by omega) ?_
  refine ab_iald (pc := 1084) hs2 (by omega) (by omega) dL_law__1084 ?_
  refine ab_aload_n (pc := 1085) dL_law__1085 rfl ?_
  refine ab_iload (pc := 1086) dL_law__1086 rfl ?_
  refine ab_iconst (pc := 1088) dL_law__1088 (by decide) ?_
  refine ab_iadd (pc := 1089) dL_law__1089 (by omega) (by omega) ?_
  refine ab_iald (pc := 1090) hs2 (by omega) (by omega) dL_law__1090 ?_
  refine ab_aload_n (pc := 1091) dL_law__1091 rfl ?_
  refine ab_iload (pc := 1092) dL_law__1092 rfl ?_
  refine ab_iconst (pc := 1094) dL_law__1094 (by decide) ?_
  refine ab_iadd (pc := 1095) dL_law__1095 (by omega) (by omega) ?_
  refine ab_iald (pc := 1096) hs2 (by omega) (by omega) dL_law__1096 ?_
  refine ab_callV (pc := 1097) (m_find hG hM2 I.2.2.1 I.2.2.2.1 I.2.2.2.2.2.2.1 I.2.1 (e := f (i + 1)) (a := f (i + 2)) (n := f (i + 3)) (k := f (i + 4)) (x := f (i + 5))) hM2.1 rfl ⟨w1332, w5, w1335, by decide, pd60⟩ w1333 w1334 rfl (by decide) (by decide) (Nat.le_of_ble_eq_true rfl) rfl dL_law__1097 (fun _ _ hx => absurd hx mC_no) ?_
  rintro r9 h3 ⟨_, s', F', e9, hW, hm⟩
  cases e9
  have j9 := j_find I hp hm hW.2.2.1 hW.2.2.2
  obtain ⟨J3, ho3⟩ := jRef rc1 ho2 hs2 hgs hz2 hW j9
  obtain ⟨v, rfl, _, _, oc⟩ := j9
  have ek := jK ⟨by decide, by decide⟩ (o_find (p0 := f (i + 1)) (p1 := f (i + 2)) (p2 := f (i + 3)) (p3 := f (i + 4)) (p4 := f (i + 5)) hp) hk oc
  refine ab_istore (pc := 1100) dL_law__1100 rfl (Nat.le_of_ble_eq_true rfl) ?_
  refine ab_aload_n (pc := 1102) dL_law__1102 rfl ?_
  refine ab_callV (pc := 1103) (m_thrownP hG J3.2.1) J3.2.1.1 rfl ⟨w1045, w5, w1048, by decide, pd26⟩ w1046 w1047 rfl (by decide) (by decide) (Nat.le_of_ble_eq_true rfl) rfl dL_law__1103 (fun _ _ hx => absurd hx pC_no) ?_
  rintro _ _ ⟨tv, e9, rfl, htv⟩
  cases e9
  refine ab_iload (pc := 1106) dL_law__1106 rfl ?_
  refine ab_icmp_eq (pc := 1108) 1113 dL_law__1108 (by decide) (fun c1108 => ?_) (fun c1108 => absurd c1108 (by omega))
  refine ab_iload (pc := 1113) dL_law__1113 rfl ?_
  refine ab_if_ne (pc := 1115) 1130 dL_law__1115 (by decide) (fun c1115 => ?_) (fun c1115 => ?_)
  · refine ab_goto (pc := 1130) 1693 dL_law__1130 (by decide) ?_
    exact K _ _ _ _ _ J3
  · refine ab_aload_n (pc := 1118) dL_law__1118 rfl ?_
    refine ab_iconst (pc := 1119) dL_law__1119 (by decide) ?_
    refine ab_lald (pc := 1120) ho3 (by omega) (by omega) dL_law__1120 ?_
    refine ab_iload (pc := 1121) dL_law__1121 rfl ?_
    refine ab_i2l (pc := 1123) dL_law__1123 ?_
    refine ab_lcm (pc := 1124) dL_law__1124 ?_
    refine ab_if_eq (pc := 1125) 1130 dL_law__1125 (by decide) (fun c1125 => ?_) (fun c1125 => absurd c1125 (fun k9 => k9 (lcmp_0.mpr (ek.2 (by omega)))))
    refine ab_goto (pc := 1130) 1693 dL_law__1130 (by decide) ?_
    exact K _ _ _ _ _ J3
theorem lc_rank (hG : ab_G l E) (hb : ∀ j : Int, 0 ≤ j → j < N → -2147483648 ≤ f j ∧ f j < 2147483648) (i0 : 0 ≤ i) (i6 : i + 6 ≤ N) (N0 : N ≤ 3072) (J : JI h x m o z9 sc N B A f s F) {x5 x6 : Option AbV} (K : ∀ (h' : AbH) (s' : Nat → Int) (F' : Nat → Int → Int) (x5 x6 : Option AbV), JI h' x m o z9 sc N B A f s' F' → ab_T l E Y_L_law_ 16 kc ks 1693 [some (vR sc), some (vR x), some (vR m), some (vR o), some (vI i), x5, x6] [] h' Q) : ab_T l E Y_L_law_ 16 (kc + (0 + 4)) (ks + (0 + 24)) 1133 [some (vR sc), some (vR x), some (vR m), some (vR o), some (vI i), x5, x6] [] h Q := by
  obtain ⟨⟨C, SA, la, q, rc⟩, hM, I, ⟨g, ho⟩, ⟨gs, hgs, hs⟩, hz⟩ := J
  refine ab_aload_n (pc := 1133) dL_law__1133 rfl ?_
  refine ab_aload_n (pc := 1134) dL_law__1134 rfl ?_
  refine ab_iload (pc := 1135) dL_law__1135 rfl ?_
  refine ab_iconst (pc := 1137) dL_law__1137 (by decide) ?_
  refine ab_iadd (pc := 1138) dL_law__1138 (by omega) (by omega) ?_
  refine ab_iald (pc := 1139) hs (by omega) (by omega) dL_law__1139 ?_
  refine ab_aload_n (pc := 1140) dL_law__1140 rfl ?_
  refine ab_iload (pc := 1141) dL_law__1141 rfl ?_
  refine ab_iconst (pc := 1143) dL_law__1143 (by decide) ?_
  refine ab_iadd (pc := 1144) dL_law__1144 (by omega) (by omega) ?_
  refine ab_iald (pc := 1145) hs (by omega) (by omega) dL_law__1145 ?_
  refine ab_aload_n (pc := 1146) dL_law__1146 rfl ?_
  refine ab_iload (pc := 1147) dL_law__1147 rfl ?_
  refine ab_iconst (pc := 1149) dL_law__1149 (by decide) ?_
  refine ab_iadd (pc := 1150) dL_law__1150 (by omega) (by omega) ?_
  refine ab_iald (pc := 1151) hs (by omega) (by omega) dL_law__1151 ?_
  refine ab_aload_n (pc := 1152) dL_law__1152 rfl ?_
  refine ab_iload (pc := 1153) dL_law__1153 rfl ?_
  refine ab_iconst (pc := 1155) dL_law__1155 (by decide) ?_
  refine ab_iadd (pc := 1156) dL_law__1156 (by omega) (by omega) ?_
  refine ab_iald (pc := 1157) hs (by omega) (by omega) dL_law__1157 ?_
  refine ab_aload_n (pc := 1158) dL_law__1158 rfl ?_
  refine ab_callSW (pc := 1159) (W_rank hG rc.o (c_rank hG (F 30) rc I.2.2.2.2.1 I.2.1 (hb (i + 1) (by omega) (by omega)) I.2.2.1 I.2.2.2.1 I.2.2.2.2.2.2.1 (e := f (i + 1)) (a := f (i + 2)) (i := f (i + 3)) (k := f (i + 4))) (fun oc h1 hQ => ⟨hQ.1 _ _ ho (by unfold cP; first | (simp; done) | (simp; omega)), by obtain ⟨_, s1, F1, _, _, _, _, _, hp⟩ := hQ; exact o_rank (p0 := f (i + 1)) (p1 := f (i + 2)) (p2 := f (i + 3)) (p3 := f (i + 4)) hp⟩)) ⟨w855, w856, w0, w857, by decide, pd43⟩ rfl (by decide) (by decide) (Nat.le_of_ble_eq_true rfl) dL_law__1159 ?_
  rintro r9 h2 hw9
  obtain ⟨k, g2, ob, s1, F1, C1, SA1, la1, q1, e9, rc1, hM2, ho2, hs2, hz2, hp, hk⟩ := jCls hM ho hs hgs hz (fun g hg => by unfold cP; first | (simp; done) | (simp; omega)) hw9
  cases e9
  refine ab_istore (pc := 1162) dL_law__1162 rfl (Nat.le_of_ble_eq_true rfl) ?_
  refine ab_aload_n (pc := 1164) dL_law__1164 rfl ?_
  refine ab_aload_n (pc := 1165) dL_law__1165 rfl ?_
  refine ab_iload (pc := 1166) dL_law__1166 rfl ?_
  refine ab_iconst (pc := 1168) dL_law__1168 (by decide) ?_
  refine ab_iadd (pc := 1169) dL_law__1169 (by omega) (by omega) ?_
  refine ab_iald (pc := 1170) hs2 (by omega) (by omega) dL_law__1170 ?_
  refine ab_aload_n (pc := 1171) dL_law__1171 rfl ?_
  refine ab_iload (pc := 1172) dL_law__1172 rfl ?_
  refine ab_iconst (pc := 1174) dL_law__1174 (by decide) ?_
  refine ab_iadd (pc := 1175) dL_law__1175 (by omega) (by omega) ?_
  refine ab_iald (pc := 1176) hs2 (by omega) (by omega) dL_law__1176 ?_
  refine ab_aload_n (pc := 1177) dL_law__1177 rfl ?_
  refine ab_iload (pc := 1178) dL_law__1178 rfl ?_
  refine ab_iconst (pc := 1180) dL_law__1180 (by decide) ?_
  refine ab_iadd (pc := 1181) dL_law__1181 (by omega) (by omega) ?_
  refine ab_iald (pc := 1182) hs2 (by omega) (by omega) dL_law__1182 ?_
  refine ab_aload_n (pc := 1183) dL_law__1183 rfl ?_
  refine ab_iload (pc := 1184) dL_law__1184 rfl ?_
  refine ab_iconst (pc := 1186) dL_law__1186 (by decide) ?_
  refine ab_iadd (pc := 1187) dL_law__1187 (by omega) (by omega) ?_
  refine ab_iald (pc := 1188) hs2 (by omega) (by omega) dL_law__1188 ?_
  refine ab_callV (pc := 1189) (m_rank hG hM2 I.2.1 I.2.2.2.2.1 I.2.2.1 I.2.2.2.1 I.2.2.2.2.2.2.1 (e := f (i + 1)) (a := f (i + 2)) (x := f (i + 3)) (k := f (i + 4))) hM2.1 rfl ⟨w1340, w5, w1343, by decide, pd44⟩ w1341 w1342 rfl (by decide) (by decide) (Nat.le_of_ble_eq_true rfl) rfl dL_law__1189 (fun _ _ hx => absurd hx mC_no) ?_
  rintro r9 h3 ⟨_, s', F', e9, hW, hm⟩
  cases e9
  have j9 := j_rank I hp hm hW.2.2.1 hW.2.2.2
  obtain ⟨J3, ho3⟩ := jRef rc1 ho2 hs2 hgs hz2 hW j9
  obtain ⟨v, rfl, _, _, oc⟩ := j9
  have ek := jK ⟨by decide, by decide⟩ (o_rank (p0 := f (i + 1)) (p1 := f (i + 2)) (p2 := f (i + 3)) (p3 := f (i + 4)) hp) hk oc
  refine ab_istore (pc := 1192) dL_law__1192 rfl (Nat.le_of_ble_eq_true rfl) ?_
  refine ab_aload_n (pc := 1194) dL_law__1194 rfl ?_
  refine ab_callV (pc := 1195) (m_thrownP hG J3.2.1) J3.2.1.1 rfl ⟨w1045, w5, w1048, by decide, pd26⟩ w1046 w1047 rfl (by decide) (by decide) (Nat.le_of_ble_eq_true rfl) rfl dL_law__1195 (fun _ _ hx => absurd hx pC_no) ?_
  rintro _ _ ⟨tv, e9, rfl, htv⟩
  cases e9
  refine ab_iload (pc := 1198) dL_law__1198 rfl ?_
  refine ab_icmp_eq (pc := 1200) 1205 dL_law__1200 (by decide) (fun c1200 => ?_) (fun c1200 => absurd c1200 (by omega))
  refine ab_iload (pc := 1205) dL_law__1205 rfl ?_
  refine ab_if_ne (pc := 1207) 1222 dL_law__1207 (by decide) (fun c1207 => ?_) (fun c1207 => ?_)
  · refine ab_goto (pc := 1222) 1693 dL_law__1222 (by decide) ?_
    exact K _ _ _ _ _ J3
  · refine ab_aload_n (pc := 1210) dL_law__1210 rfl ?_
    refine ab_iconst (pc := 1211) dL_law__1211 (by decide) ?_
    refine ab_lald (pc := 1212) ho3 (by omega) (by omega) dL_law__1212 ?_
    refine ab_iload (pc := 1213) dL_law__1213 rfl ?_
    refine ab_i2l (pc := 1215) dL_law__1215 ?_
    refine ab_lcm (pc := 1216) dL_law__1216 ?_
    refine ab_if_eq (pc := 1217) 1222 dL_law__1217 (by decide) (fun c1217 => ?_) (fun c1217 => absurd c1217 (fun k9 => k9 (lcmp_0.mpr (ek.2 (by omega)))))
    refine ab_goto (pc := 1222) 1693 dL_law__1222 (by decide) ?_
    exact K _ _ _ _ _ J3
theorem lc_longest (hG : ab_G l E) (hb : ∀ j : Int, 0 ≤ j → j < N → -2147483648 ≤ f j ∧ f j < 2147483648) (i0 : 0 ≤ i) (i6 : i + 6 ≤ N) (N0 : N ≤ 3072) (J : JI h x m o z9 sc N B A f s F) {x5 x6 : Option AbV} (K : ∀ (h' : AbH) (s' : Nat → Int) (F' : Nat → Int → Int) (x5 x6 : Option AbV), JI h' x m o z9 sc N B A f s' F' → ab_T l E Y_L_law_ 16 kc ks 1693 [some (vR sc), some (vR x), some (vR m), some (vR o), some (vI i), x5, x6] [] h' Q) : ab_T l E Y_L_law_ 16 (kc + (0 + 2)) (ks + (0 + 12)) 1225 [some (vR sc), some (vR x), some (vR m), some (vR o), some (vI i), x5, x6] [] h Q := by
  obtain ⟨⟨C, SA, la, q, rc⟩, hM, I, ⟨g, ho⟩, ⟨gs, hgs, hs⟩, hz⟩ := J
  refine ab_aload_n (pc := 1225) dL_law__1225 rfl ?_
  refine ab_aload_n (pc := 1226) dL_law__1226 rfl ?_
  refine ab_iload (pc := 1227) dL_law__1227 rfl ?_
  refine ab_iconst (pc := 1229) dL_law__1229 (by decide) ?_
  refine ab_iadd (pc := 1230) dL_law__1230 (by omega) (by omega) ?_
  refine ab_iald (pc := 1231) hs (by omega) (by omega) dL_law__1231 ?_
  refine ab_aload_n (pc := 1232) dL_law__1232 rfl ?_
  refine ab_iload (pc := 1233) dL_law__1233 rfl ?_
  refine ab_iconst (pc := 1235) dL_law__1235 (by decide) ?_
  refine ab_iadd (pc := 1236) dL_law__1236 (by omega) (by omega) ?_
  refine ab_iald (pc := 1237) hs (by omega) (by omega) dL_law__1237 ?_
  refine ab_aload_n (pc := 1238) dL_law__1238 rfl ?_
  refine ab_callSW (pc := 1239) (W_longest hG rc.o (c_longest hG (F 30) rc (hb (i + 1) (by omega) (by omega)) I.2.2.1 I.2.2.2.1 I.2.2.2.2.2.2.1 (e := f (i + 1)) (a := f (i + 2))) (fun oc h1 hQ => ⟨hQ.1 _ _ ho (by unfold cP; first | (simp; done) | (simp; omega)), by obtain ⟨_, s1, F1, _, _, _, _, _, hp⟩ := hQ; exact o_longest (p0 := f (i + 1)) (p1 := f (i + 2)) hp⟩)) ⟨w866, w867, w0, w868, by decide, pd45⟩ rfl (by decide) (by decide) (Nat.le_of_ble_eq_true rfl) dL_law__1239 ?_
  rintro r9 h2 hw9
  obtain ⟨k, g2, ob, s1, F1, C1, SA1, la1, q1, e9, rc1, hM2, ho2, hs2, hz2, hp, hk⟩ := jCls hM ho hs hgs hz (fun g hg => by unfold cP; first | (simp; done) | (simp; omega)) hw9
  cases e9
  refine ab_istore (pc := 1242) dL_law__1242 rfl (Nat.le_of_ble_eq_true rfl) ?_
  refine ab_aload_n (pc := 1244) dL_law__1244 rfl ?_
  refine ab_aload_n (pc := 1245) dL_law__1245 rfl ?_
  refine ab_iload (pc := 1246) dL_law__1246 rfl ?_
  refine ab_iconst (pc := 1248) dL_law__1248 (by decide) ?_
  refine ab_iadd (pc := 1249) dL_law__1249 (by omega) (by omega) ?_
  refine ab_iald (pc := 1250) hs2 (by omega) (by omega) dL_law__1250 ?_
  refine ab_aload_n (pc := 1251) dL_law__1251 rfl ?_
  refine ab_iload (pc := 1252) dL_law__1252 rfl ?_
  refine ab_iconst (pc := 1254) dL_law__1254 (by decide) ?_
  refine ab_iadd (pc := 1255) dL_law__1255 (by omega) (by omega) ?_
  refine ab_iald (pc := 1256) hs2 (by omega) (by omega) dL_law__1256 ?_
  refine ab_callV (pc := 1257) (m_longest hG hM2 I.2.2.1 I.2.2.2.1 I.2.2.2.2.2.2.1 (e := f (i + 1)) (a := f (i + 2))) hM2.1 rfl ⟨w1344, w5, w1347, by decide, pd18⟩ w1345 w1346 rfl (by decide) (by decide) (Nat.le_of_ble_eq_true rfl) rfl dL_law__1257 (fun _ _ hx => absurd hx mC_no) ?_
  rintro r9 h3 ⟨_, s', F', e9, hW, hm⟩
  cases e9
  have j9 := j_longest I hp hm hW.2.2.1 hW.2.2.2
  obtain ⟨J3, ho3⟩ := jRef rc1 ho2 hs2 hgs hz2 hW j9
  obtain ⟨v, rfl, _, _, oc⟩ := j9
  have ek := jK ⟨by decide, by decide⟩ (o_longest (p0 := f (i + 1)) (p1 := f (i + 2)) hp) hk oc
  refine ab_istore (pc := 1260) dL_law__1260 rfl (Nat.le_of_ble_eq_true rfl) ?_
  refine ab_aload_n (pc := 1262) dL_law__1262 rfl ?_
  refine ab_callV (pc := 1263) (m_thrownP hG J3.2.1) J3.2.1.1 rfl ⟨w1045, w5, w1048, by decide, pd26⟩ w1046 w1047 rfl (by decide) (by decide) (Nat.le_of_ble_eq_true rfl) rfl dL_law__1263 (fun _ _ hx => absurd hx pC_no) ?_
  rintro _ _ ⟨tv, e9, rfl, htv⟩
  cases e9
  refine ab_iload (pc := 1266) dL_law__1266 rfl ?_
  refine ab_icmp_eq (pc := 1268) 1273 dL_law__1268 (by decide) (fun c1268 => ?_) (fun c1268 => absurd c1268 (by omega))
  refine ab_iload (pc := 1273) dL_law__1273 rfl ?_
  refine ab_if_ne (pc := 1275) 1290 dL_law__1275 (by decide) (fun c1275 => ?_) (fun c1275 => ?_)
  · refine ab_goto (pc := 1290) 1693 dL_law__1290 (by decide) ?_
    exact K _ _ _ _ _ J3
  · refine ab_aload_n (pc := 1278) dL_law__1278 rfl ?_
    refine ab_iconst (pc := 1279) dL_law__1279 (by decide) ?_
    refine ab_lald (pc := 1280) ho3 (by omega) (by omega) dL_law__1280 ?_
    refine ab_iload (pc := 1281) dL_law__1281 rfl ?_
    refine ab_i2l (pc := 1283) dL_law__1283 ?_
    refine ab_lcm (pc := 1284) dL_law__1284 ?_
    refine ab_if_eq (pc := 1285) 1290 dL_law__1285 (by decide) (fun c1285 => ?_) (fun c1285 => absurd c1285 (fun k9 => k9 (lcmp_0.mpr (ek.2 (by omega)))))
    refine ab_goto (pc := 1290) 1693 dL_law__1290 (by decide) ?_
    exact K _ _ _ _ _ J3
theorem lc_map (hG : ab_G l E) (hb : ∀ j : Int, 0 ≤ j → j < N → -2147483648 ≤ f j ∧ f j < 2147483648) (i0 : 0 ≤ i) (i6 : i + 6 ≤ N) (N0 : N ≤ 3072) (J : JI h x m o z9 sc N B A f s F) {x5 x6 : Option AbV} (K : ∀ (h' : AbH) (s' : Nat → Int) (F' : Nat → Int → Int) (x5 x6 : Option AbV), JI h' x m o z9 sc N B A f s' F' → ab_T l E Y_L_law_ 16 kc ks 1693 [some (vR sc), some (vR x), some (vR m), some (vR o), some (vI i), x5, x6] [] h' Q) : ab_T l E Y_L_law_ 16 (kc + (0 + 8)) (ks + (0 + 444)) 1293 [some (vR sc), some (vR x), some (vR m), some (vR o), some (vI i), x5, x6] [] h Q := by
  obtain ⟨⟨C, SA, la, q, rc⟩, hM, I, ⟨g, ho⟩, ⟨gs, hgs, hs⟩, hz⟩ := J
  refine ab_aload_n (pc := 1293) dL_law__1293 rfl ?_
  refine ab_aload_n (pc := 1294) dL_law__1294 rfl ?_
  refine ab_iload (pc := 1295) dL_law__1295 rfl ?_
  refine ab_iconst (pc := 1297) dL_law__1297 (by decide) ?_
  refine ab_iadd (pc := 1298) dL_law__1298 (by omega) (by omega) ?_
  refine ab_iald (pc := 1299) hs (by omega) (by omega) dL_law__1299 ?_
  refine ab_aload_n (pc := 1300) dL_law__1300 rfl ?_
  refine ab_iload (pc := 1301) dL_law__1301 rfl ?_
  refine ab_iconst (pc := 1303) dL_law__1303 (by decide) ?_
  refine ab_iadd (pc := 1304) dL_law__1304 (by omega) (by omega) ?_
  refine ab_iald (pc := 1305) hs (by omega) (by omega) dL_law__1305 ?_
  refine ab_aload_n (pc := 1306) dL_law__1306 rfl ?_
  refine ab_iload (pc := 1307) dL_law__1307 rfl ?_
  refine ab_iconst (pc := 1309) dL_law__1309 (by decide) ?_
  refine ab_iadd (pc := 1310) dL_law__1310 (by omega) (by omega) ?_
  refine ab_iald (pc := 1311) hs (by omega) (by omega) dL_law__1311 ?_
  refine ab_aload_n (pc := 1312) dL_law__1312 rfl ?_
  refine ab_iload (pc := 1313) dL_law__1313 rfl ?_
  refine ab_iconst (pc := 1315) dL_law__1315 (by decide) ?_
  refine ab_iadd (pc := 1316) dL_law__1316 (by omega) (by omega) ?_
  refine ab_iald (pc := 1317) hs (by omega) (by omega) dL_law__1317 ?_
  refine ab_aload_n (pc := 1318) dL_law__1318 rfl ?_
  refine ab_callSW (pc := 1319) (W_map hG rc.o (c_map hG rc I.2.2.2.2.1 I.2.1 I.2.2.2.2.2.2.2 (b := f (i + 1)) (a := f (i + 2)) (i := f (i + 3)) (fr := f (i + 4))) (fun oc h1 hQ => ⟨hQ.1 _ _ ho (by unfold cP; first | (simp; done) | (simp; omega)), by obtain ⟨_, s1, F1, _, _, _, _, _, hp⟩ := hQ; exact o_map (p0 := f (i + 1)) (p1 := f (i + 2)) (p2 := f (i + 3)) (p3 := f (i + 4)) hp⟩)) ⟨w873, w874, w0, w875, by decide, pd43⟩ rfl (by decide) (by decide) (Nat.le_of_ble_eq_true rfl) dL_law__1319 ?_
  rintro r9 h2 hw9
  obtain ⟨k, g2, ob, s1, F1, C1, SA1, la1, q1, e9, rc1, hM2, ho2, hs2, hz2, hp, hk⟩ := jCls hM ho hs hgs hz (fun g hg => by unfold cP; first | (simp; done) | (simp; omega)) hw9
  cases e9
  refine ab_istore (pc := 1322) dL_law__1322 rfl (Nat.le_of_ble_eq_true rfl) ?_
  refine ab_aload_n (pc := 1324) dL_law__1324 rfl ?_
  refine ab_aload_n (pc := 1325) dL_law__1325 rfl ?_
  refine ab_iload (pc := 1326) dL_law__1326 rfl ?_
  refine ab_iconst (pc := 1328) dL_law__1328 (by decide) ?_
  refine ab_iadd (pc := 1329) dL_law__1329 (by omega) (by omega) ?_
  refine ab_iald (pc := 1330) hs2 (by omega) (by omega) dL_law__1330 ?_
  refine ab_aload_n (pc := 1331) dL_law__1331 rfl ?_
  refine ab_iload (pc := 1332) dL_law__1332 rfl ?_
  refine ab_iconst (pc := 1334) dL_law__1334 (by decide) ?_
  refine ab_iadd (pc := 1335) dL_law__1335 (by omega) (by omega) ?_
  refine ab_iald (pc := 1336) hs2 (by omega) (by omega) dL_law__1336 ?_
  refine ab_aload_n (pc := 1337) dL_law__1337 rfl ?_
  refine ab_iload (pc := 1338) dL_law__1338 rfl ?_
  refine ab_iconst (pc := 1340) dL_law__1340 (by decide) ?_
  refine ab_iadd (pc := 1341) dL_law__1341 (by omega) (by omega) ?_
  refine ab_iald (pc := 1342) hs2 (by omega) (by omega) dL_law__1342 ?_
  refine ab_aload_n (pc := 1343) dL_law__1343 rfl ?_
  refine ab_iload (pc := 1344) dL_law__1344 rfl ?_
  refine ab_iconst (pc := 1346) dL_law__1346 (by decide) ?_
  refine ab_iadd (pc := 1347) dL_law__1347 (by omega) (by omega) ?_
  refine ab_iald (pc := 1348) hs2 (by omega) (by omega) dL_law__1348 ?_
  refine ab_callV (pc := 1349) (m_map hG hM2 I.2.1 I.2.2.2.2.1 (b := f (i + 1)) (a := f (i + 2)) (x := f (i + 3)) (fr := f (i + 4))) hM2.1 rfl ⟨w1348, w5, w1351, by decide, pd44⟩ w1349 w1350 rfl (by decide) (by decide) (Nat.le_of_ble_eq_true rfl) rfl dL_law__1349 (fun _ _ hx => absurd hx mC_no) ?_
  rintro r9 h3 ⟨_, s', F', e9, hW, hm⟩
  cases e9
  have j9 := j_map I hp hm hW.2.2.1 hW.2.2.2
  obtain ⟨J3, ho3⟩ := jRef rc1 ho2 hs2 hgs hz2 hW j9
  obtain ⟨v, rfl, _, _, oc⟩ := j9
  have ek := jK ⟨by decide, by decide⟩ (o_map (p0 := f (i + 1)) (p1 := f (i + 2)) (p2 := f (i + 3)) (p3 := f (i + 4)) hp) hk oc
  refine ab_istore (pc := 1352) dL_law__1352 rfl (Nat.le_of_ble_eq_true rfl) ?_
  refine ab_aload_n (pc := 1354) dL_law__1354 rfl ?_
  refine ab_callV (pc := 1355) (m_thrownP hG J3.2.1) J3.2.1.1 rfl ⟨w1045, w5, w1048, by decide, pd26⟩ w1046 w1047 rfl (by decide) (by decide) (Nat.le_of_ble_eq_true rfl) rfl dL_law__1355 (fun _ _ hx => absurd hx pC_no) ?_
  rintro _ _ ⟨tv, e9, rfl, htv⟩
  cases e9
  refine ab_iload (pc := 1358) dL_law__1358 rfl ?_
  refine ab_icmp_eq (pc := 1360) 1365 dL_law__1360 (by decide) (fun c1360 => ?_) (fun c1360 => absurd c1360 (by omega))
  refine ab_iload (pc := 1365) dL_law__1365 rfl ?_
  refine ab_if_ne (pc := 1367) 1382 dL_law__1367 (by decide) (fun c1367 => ?_) (fun c1367 => ?_)
  · refine ab_goto (pc := 1382) 1693 dL_law__1382 (by decide) ?_
    exact K _ _ _ _ _ J3
  · refine ab_aload_n (pc := 1370) dL_law__1370 rfl ?_
    refine ab_iconst (pc := 1371) dL_law__1371 (by decide) ?_
    refine ab_lald (pc := 1372) ho3 (by omega) (by omega) dL_law__1372 ?_
    refine ab_iload (pc := 1373) dL_law__1373 rfl ?_
    refine ab_i2l (pc := 1375) dL_law__1375 ?_
    refine ab_lcm (pc := 1376) dL_law__1376 ?_
    refine ab_if_eq (pc := 1377) 1382 dL_law__1377 (by decide) (fun c1377 => ?_) (fun c1377 => absurd c1377 (fun k9 => k9 (lcmp_0.mpr (ek.2 (by omega)))))
    refine ab_goto (pc := 1382) 1693 dL_law__1382 (by decide) ?_
    exact K _ _ _ _ _ J3
theorem lc_image (hG : ab_G l E) (hb : ∀ j : Int, 0 ≤ j → j < N → -2147483648 ≤ f j ∧ f j < 2147483648) (i0 : 0 ≤ i) (i6 : i + 6 ≤ N) (N0 : N ≤ 3072) (J : JI h x m o z9 sc N B A f s F) {x5 x6 : Option AbV} (K : ∀ (h' : AbH) (s' : Nat → Int) (F' : Nat → Int → Int) (x5 x6 : Option AbV), JI h' x m o z9 sc N B A f s' F' → ab_T l E Y_L_law_ 16 kc ks 1693 [some (vR sc), some (vR x), some (vR m), some (vR o), some (vI i), x5, x6] [] h' Q) : ab_T l E Y_L_law_ 16 (kc + (0 + 4)) (ks + (0 + 24)) 1385 [some (vR sc), some (vR x), some (vR m), some (vR o), some (vI i), x5, x6] [] h Q := by
  obtain ⟨⟨C, SA, la, q, rc⟩, hM, I, ⟨g, ho⟩, ⟨gs, hgs, hs⟩, hz⟩ := J
  refine ab_aload_n (pc := 1385) dL_law__1385 rfl ?_
  refine ab_aload_n (pc := 1386) dL_law__1386 rfl ?_
  refine ab_iload (pc := 1387) dL_law__1387 rfl ?_
  refine ab_iconst (pc := 1389) dL_law__1389 (by decide) ?_
  refine ab_iadd (pc := 1390) dL_law__1390 (by omega) (by omega) ?_
  refine ab_iald (pc := 1391) hs (by omega) (by omega) dL_law__1391 ?_
  refine ab_aload_n (pc := 1392) dL_law__1392 rfl ?_
  refine ab_iload (pc := 1393) dL_law__1393 rfl ?_
  refine ab_iconst (pc := 1395) dL_law__1395 (by decide) ?_
  refine ab_iadd (pc := 1396) dL_law__1396 (by omega) (by omega) ?_
  refine ab_iald (pc := 1397) hs (by omega) (by omega) dL_law__1397 ?_
  refine ab_aload_n (pc := 1398) dL_law__1398 rfl ?_
  refine ab_iload (pc := 1399) dL_law__1399 rfl ?_
  refine ab_iconst (pc := 1401) dL_law__1401 (by decide) ?_
  refine ab_iadd (pc := 1402) dL_law__1402 (by omega) (by omega) ?_
  refine ab_iald (pc := 1403) hs (by omega) (by omega) dL_law__1403 ?_
  refine ab_aload_n (pc := 1404) dL_law__1404 rfl ?_
  refine ab_iload (pc := 1405) dL_law__1405 rfl ?_
  refine ab_iconst (pc := 1407) dL_law__1407 (by decide) ?_
  refine ab_iadd (pc := 1408) dL_law__1408 (by omega) (by omega) ?_
  refine ab_iald (pc := 1409) hs (by omega) (by omega) dL_law__1409 ?_
  refine ab_aload_n (pc := 1410) dL_law__1410 rfl ?_
  refine ab_callSW (pc := 1411) (W_image hG rc.o (c_image hG rc I.2.2.2.2.1 I.2.1 I.2.2.2.2.2.2.2 (b := f (i + 1)) (i := f (i + 2)) (k := f (i + 3)) (d := f (i + 4))) (fun oc h1 hQ => ⟨hQ.1 _ _ ho (by unfold cP; first | (simp; done) | (simp; omega)), by obtain ⟨_, s1, F1, _, _, _, _, _, hp⟩ := hQ; exact o_image (p0 := f (i + 1)) (p1 := f (i + 2)) (p2 := f (i + 3)) (p3 := f (i + 4)) hp⟩)) ⟨w925, w926, w0, w927, by decide, pd43⟩ rfl (by decide) (by decide) (Nat.le_of_ble_eq_true rfl) dL_law__1411 ?_
  rintro r9 h2 hw9
  obtain ⟨k, g2, ob, s1, F1, C1, SA1, la1, q1, e9, rc1, hM2, ho2, hs2, hz2, hp, hk⟩ := jCls hM ho hs hgs hz (fun g hg => by unfold cP; first | (simp; done) | (simp; omega)) hw9
  cases e9
  refine ab_istore (pc := 1414) dL_law__1414 rfl (Nat.le_of_ble_eq_true rfl) ?_
  refine ab_aload_n (pc := 1416) dL_law__1416 rfl ?_
  refine ab_aload_n (pc := 1417) dL_law__1417 rfl ?_
  refine ab_iload (pc := 1418) dL_law__1418 rfl ?_
  refine ab_iconst (pc := 1420) dL_law__1420 (by decide) ?_
  refine ab_iadd (pc := 1421) dL_law__1421 (by omega) (by omega) ?_
  refine ab_iald (pc := 1422) hs2 (by omega) (by omega) dL_law__1422 ?_
  refine ab_aload_n (pc := 1423) dL_law__1423 rfl ?_
  refine ab_iload (pc := 1424) dL_law__1424 rfl ?_
  refine ab_iconst (pc := 1426) dL_law__1426 (by decide) ?_
  refine ab_iadd (pc := 1427) dL_law__1427 (by omega) (by omega) ?_
  refine ab_iald (pc := 1428) hs2 (by omega) (by omega) dL_law__1428 ?_
  refine ab_aload_n (pc := 1429) dL_law__1429 rfl ?_
  refine ab_iload (pc := 1430) dL_law__1430 rfl ?_
  refine ab_iconst (pc := 1432) dL_law__1432 (by decide) ?_
  refine ab_iadd (pc := 1433) dL_law__1433 (by omega) (by omega) ?_
  refine ab_iald (pc := 1434) hs2 (by omega) (by omega) dL_law__1434 ?_
  refine ab_aload_n (pc := 1435) dL_law__1435 rfl ?_
  refine ab_iload (pc := 1436) dL_law__1436 rfl ?_
  refine ab_iconst (pc := 1438) dL_law__1438 (by decide) ?_
  refine ab_iadd (pc := 1439) dL_law__1439 (by omega) (by omega) ?_
  refine ab_iald (pc := 1440) hs2 (by omega) (by omega) dL_law__1440 ?_
  refine ab_callV (pc := 1441) (m_image hG hM2 I.2.1 I.2.2.2.2.1 I.2.2.2.2.2.2.2 (b := f (i + 1)) (x := f (i + 2)) (k := f (i + 3)) (o := f (i + 4))) hM2.1 rfl ⟨w1352, w5, w1355, by decide, pd44⟩ w1353 w1354 rfl (by decide) (by decide) (Nat.le_of_ble_eq_true rfl) rfl dL_law__1441 (fun _ _ hx => absurd hx mC_no) ?_
  rintro r9 h3 ⟨_, s', F', e9, hW, hm⟩
  cases e9
  have j9 := j_image I hp hm hW.2.2.1 hW.2.2.2
  obtain ⟨J3, ho3⟩ := jRef rc1 ho2 hs2 hgs hz2 hW j9
  obtain ⟨v, rfl, _, _, oc⟩ := j9
  have ek := jK ⟨by decide, by decide⟩ (o_image (p0 := f (i + 1)) (p1 := f (i + 2)) (p2 := f (i + 3)) (p3 := f (i + 4)) hp) hk oc
  refine ab_istore (pc := 1444) dL_law__1444 rfl (Nat.le_of_ble_eq_true rfl) ?_
  refine ab_aload_n (pc := 1446) dL_law__1446 rfl ?_
  refine ab_callV (pc := 1447) (m_thrownP hG J3.2.1) J3.2.1.1 rfl ⟨w1045, w5, w1048, by decide, pd26⟩ w1046 w1047 rfl (by decide) (by decide) (Nat.le_of_ble_eq_true rfl) rfl dL_law__1447 (fun _ _ hx => absurd hx pC_no) ?_
  rintro _ _ ⟨tv, e9, rfl, htv⟩
  cases e9
  refine ab_iload (pc := 1450) dL_law__1450 rfl ?_
  refine ab_icmp_eq (pc := 1452) 1457 dL_law__1452 (by decide) (fun c1452 => ?_) (fun c1452 => absurd c1452 (by omega))
  refine ab_iload (pc := 1457) dL_law__1457 rfl ?_
  refine ab_if_ne (pc := 1459) 1474 dL_law__1459 (by decide) (fun c1459 => ?_) (fun c1459 => ?_)
  · refine ab_goto (pc := 1474) 1693 dL_law__1474 (by decide) ?_
    exact K _ _ _ _ _ J3
  · refine ab_aload_n (pc := 1462) dL_law__1462 rfl ?_
    refine ab_iconst (pc := 1463) dL_law__1463 (by decide) ?_
    refine ab_lald (pc := 1464) ho3 (by omega) (by omega) dL_law__1464 ?_
    refine ab_iload (pc := 1465) dL_law__1465 rfl ?_
    refine ab_i2l (pc := 1467) dL_law__1467 ?_
    refine ab_lcm (pc := 1468) dL_law__1468 ?_
    refine ab_if_eq (pc := 1469) 1474 dL_law__1469 (by decide) (fun c1469 => ?_) (fun c1469 => absurd c1469 (fun k9 => k9 (lcmp_0.mpr (ek.2 (by omega)))))
    refine ab_goto (pc := 1474) 1693 dL_law__1474 (by decide) ?_
    exact K _ _ _ _ _ J3
theorem lc_keeps (hG : ab_G l E) (hb : ∀ j : Int, 0 ≤ j → j < N → -2147483648 ≤ f j ∧ f j < 2147483648) (i0 : 0 ≤ i) (i6 : i + 6 ≤ N) (N0 : N ≤ 3072) (J : JI h x m o z9 sc N B A f s F) {x5 x6 : Option AbV} (K : ∀ (h' : AbH) (s' : Nat → Int) (F' : Nat → Int → Int) (x5 x6 : Option AbV), JI h' x m o z9 sc N B A f s' F' → ab_T l E Y_L_law_ 16 kc ks 1693 [some (vR sc), some (vR x), some (vR m), some (vR o), some (vI i), x5, x6] [] h' Q) : ab_T l E Y_L_law_ 16 (kc + (0 + 2)) (ks + (0 + 12)) 1477 [some (vR sc), some (vR x), some (vR m), some (vR o), some (vI i), x5, x6] [] h Q := by
  obtain ⟨⟨C, SA, la, q, rc⟩, hM, I, ⟨g, ho⟩, ⟨gs, hgs, hs⟩, hz⟩ := J
  refine ab_aload_n (pc := 1477) dL_law__1477 rfl ?_
  refine ab_aload_n (pc := 1478) dL_law__1478 rfl ?_
  refine ab_iload (pc := 1479) dL_law__1479 rfl ?_
  refine ab_iconst (pc := 1481) dL_law__1481 (by decide) ?_
  refine ab_iadd (pc := 1482) dL_law__1482 (by omega) (by omega) ?_
  refine ab_iald (pc := 1483) hs (by omega) (by omega) dL_law__1483 ?_
  refine ab_aload_n (pc := 1484) dL_law__1484 rfl ?_
  refine ab_iload (pc := 1485) dL_law__1485 rfl ?_
  refine ab_iconst (pc := 1487) dL_law__1487 (by decide) ?_
  refine ab_iadd (pc := 1488) dL_law__1488 (by omega) (by omega) ?_
  refine ab_iald (pc := 1489) hs (by omega) (by omega) dL_law__1489 ?_
  refine ab_aload_n (pc := 1490) dL_law__1490 rfl ?_
  refine ab_callSW (pc := 1491) (W_keeps hG rc.o (c_keeps hG (F 30) rc I.2.2.2.2.1 I.2.1 I.2.2.2.2.2.2.2 (b := f (i + 1)) (i := f (i + 2))) (fun oc h1 hQ => ⟨hQ.1 _ _ ho (by unfold cP; first | (simp; done) | (simp; omega)), by obtain ⟨_, s1, F1, _, _, _, _, _, hp⟩ := hQ; exact o_keeps (p0 := f (i + 1)) (p1 := f (i + 2)) hp⟩)) ⟨w957, w958, w0, w959, by decide, pd45⟩ rfl (by decide) (by decide) (Nat.le_of_ble_eq_true rfl) dL_law__1491 ?_
  rintro r9 h2 hw9
  obtain ⟨k, g2, ob, s1, F1, C1, SA1, la1, q1, e9, rc1, hM2, ho2, hs2, hz2, hp, hk⟩ := jCls hM ho hs hgs hz (fun g hg => by unfold cP; first | (simp; done) | (simp; omega)) hw9
  cases e9
  refine ab_istore (pc := 1494) dL_law__1494 rfl (Nat.le_of_ble_eq_true rfl) ?_
  refine ab_aload_n (pc := 1496) dL_law__1496 rfl ?_
  refine ab_aload_n (pc := 1497) dL_law__1497 rfl ?_
  refine ab_iload (pc := 1498) dL_law__1498 rfl ?_
  refine ab_iconst (pc := 1500) dL_law__1500 (by decide) ?_
  refine ab_iadd (pc := 1501) dL_law__1501 (by omega) (by omega) ?_
  refine ab_iald (pc := 1502) hs2 (by omega) (by omega) dL_law__1502 ?_
  refine ab_aload_n (pc := 1503) dL_law__1503 rfl ?_
  refine ab_iload (pc := 1504) dL_law__1504 rfl ?_
  refine ab_iconst (pc := 1506) dL_law__1506 (by decide) ?_
  refine ab_iadd (pc := 1507) dL_law__1507 (by omega) (by omega) ?_
  refine ab_iald (pc := 1508) hs2 (by omega) (by omega) dL_law__1508 ?_
  refine ab_callV (pc := 1509) (m_keeps hG hM2 I.2.2.1 I.2.2.2.1 I.2.2.2.2.2.2.1 I.2.1 I.2.2.2.2.2.2.2 (b := f (i + 1)) (x := f (i + 2))) hM2.1 rfl ⟨w1364, w5, w1367, by decide, pd18⟩ w1365 w1366 rfl (by decide) (by decide) (Nat.le_of_ble_eq_true rfl) rfl dL_law__1509 (fun _ _ hx => absurd hx mC_no) ?_
  rintro r9 h3 ⟨_, s', F', e9, hW, hm⟩
  cases e9
  have j9 := j_keeps I hp hm hW.2.2.1 hW.2.2.2
  obtain ⟨J3, ho3⟩ := jRef rc1 ho2 hs2 hgs hz2 hW j9
  obtain ⟨v, rfl, _, _, oc⟩ := j9
  have ek := jK ⟨by decide, by decide⟩ (o_keeps (p0 := f (i + 1)) (p1 := f (i + 2)) hp) hk oc
  refine ab_istore (pc := 1512) dL_law__1512 rfl (Nat.le_of_ble_eq_true rfl) ?_
  refine ab_aload_n (pc := 1514) dL_law__1514 rfl ?_
  refine ab_callV (pc := 1515) (m_thrownP hG J3.2.1) J3.2.1.1 rfl ⟨w1045, w5, w1048, by decide, pd26⟩ w1046 w1047 rfl (by decide) (by decide) (Nat.le_of_ble_eq_true rfl) rfl dL_law__1515 (fun _ _ hx => absurd hx pC_no) ?_
  rintro _ _ ⟨tv, e9, rfl, htv⟩
  cases e9
  refine ab_iload (pc := 1518) dL_law__1518 rfl ?_
  refine ab_icmp_eq (pc := 1520) 1525 dL_law__1520 (by decide) (fun c1520 => ?_) (fun c1520 => absurd c1520 (by omega))
  refine ab_iload (pc := 1525) dL_law__1525 rfl ?_
  refine ab_if_ne (pc := 1527) 1542 dL_law__1527 (by decide) (fun c1527 => ?_) (fun c1527 => ?_)
  · refine ab_goto (pc := 1542) 1693 dL_law__1542 (by decide) ?_
    exact K _ _ _ _ _ J3
  · refine ab_aload_n (pc := 1530) dL_law__1530 rfl ?_
    refine ab_iconst (pc := 1531) dL_law__1531 (by decide) ?_
    refine ab_lald (pc := 1532) ho3 (by omega) (by omega) dL_law__1532 ?_
    refine ab_iload (pc := 1533) dL_law__1533 rfl ?_
    refine ab_i2l (pc := 1535) dL_law__1535 ?_
    refine ab_lcm (pc := 1536) dL_law__1536 ?_
    refine ab_if_eq (pc := 1537) 1542 dL_law__1537 (by decide) (fun c1537 => ?_) (fun c1537 => absurd c1537 (fun k9 => k9 (lcmp_0.mpr (ek.2 (by omega)))))
    refine ab_goto (pc := 1542) 1693 dL_law__1542 (by decide) ?_
    exact K _ _ _ _ _ J3
theorem lc_at (hG : ab_G l E) (hb : ∀ j : Int, 0 ≤ j → j < N → -2147483648 ≤ f j ∧ f j < 2147483648) (i0 : 0 ≤ i) (i6 : i + 6 ≤ N) (N0 : N ≤ 3072) (J : JI h x m o z9 sc N B A f s F) {x5 x6 : Option AbV} (K : ∀ (h' : AbH) (s' : Nat → Int) (F' : Nat → Int → Int) (x5 x6 : Option AbV), JI h' x m o z9 sc N B A f s' F' → ab_T l E Y_L_law_ 16 kc ks 1693 [some (vR sc), some (vR x), some (vR m), some (vR o), some (vI i), x5, x6] [] h' Q) : ab_T l E Y_L_law_ 16 (kc + (0 + 1)) (ks + (0 + 6)) 1545 [some (vR sc), some (vR x), some (vR m), some (vR o), some (vI i), x5, x6] [] h Q := by
  obtain ⟨⟨C, SA, la, q, rc⟩, hM, I, ⟨g, ho⟩, ⟨gs, hgs, hs⟩, hz⟩ := J
  refine ab_aload_n (pc := 1545) dL_law__1545 rfl ?_
  refine ab_aload_n (pc := 1546) dL_law__1546 rfl ?_
  refine ab_iload (pc := 1547) dL_law__1547 rfl ?_
  refine ab_iconst (pc := 1549) dL_law__1549 (by decide) ?_
  refine ab_iadd (pc := 1550) dL_law__1550 (by omega) (by omega) ?_
  refine ab_iald (pc := 1551) hs (by omega) (by omega) dL_law__1551 ?_
  refine ab_aload_n (pc := 1552) dL_law__1552 rfl ?_
  refine ab_iload (pc := 1553) dL_law__1553 rfl ?_
  refine ab_iconst (pc := 1555) dL_law__1555 (by decide) ?_
  refine ab_iadd (pc := 1556) dL_law__1556 (by omega) (by omega) ?_
  refine ab_iald (pc := 1557) hs (by omega) (by omega) dL_law__1557 ?_
  refine ab_aload_n (pc := 1558) dL_law__1558 rfl ?_
  refine ab_iload (pc := 1559) dL_law__1559 rfl ?_
  refine ab_iconst (pc := 1561) dL_law__1561 (by decide) ?_
  refine ab_iadd (pc := 1562) dL_law__1562 (by omega) (by omega) ?_
  refine ab_iald (pc := 1563) hs (by omega) (by omega) dL_law__1563 ?_
  refine ab_aload_n (pc := 1564) dL_law__1564 rfl ?_
  refine ab_callSW (pc := 1565) (W_at hG rc.o (c_at hG rc I.2.2.2.2.2.2.2 (hb (i + 3) (by omega) (by omega)).2 (b := f (i + 1)) (a := f (i + 2)) (p := f (i + 3))) (fun oc h1 hQ => ⟨hQ.1 _ _ ho (by unfold cP; first | (simp; done) | (simp; omega)), by obtain ⟨_, s1, F1, _, _, _, _, _, hp⟩ := hQ; exact o_at (p0 := f (i + 1)) (p1 := f (i + 2)) (p2 := f (i + 3)) hp⟩)) ⟨w982, w983, w0, w984, by decide, pd7⟩ rfl (by decide) (by decide) (Nat.le_of_ble_eq_true rfl) dL_law__1565 ?_
  rintro r9 h2 hw9
  obtain ⟨k, g2, ob, s1, F1, C1, SA1, la1, q1, e9, rc1, hM2, ho2, hs2, hz2, hp, hk⟩ := jCls hM ho hs hgs hz (fun g hg => by unfold cP; first | (simp; done) | (simp; omega)) hw9
  cases e9
  refine ab_istore (pc := 1568) dL_law__1568 rfl (Nat.le_of_ble_eq_true rfl) ?_
  refine ab_aload_n (pc := 1570) dL_law__1570 rfl ?_
  refine ab_aload_n (pc := 1571) dL_law__1571 rfl ?_
  refine ab_iload (pc := 1572) dL_law__1572 rfl ?_
  refine ab_iconst (pc := 1574) dL_law__1574 (by decide) ?_
  refine ab_iadd (pc := 1575) dL_law__1575 (by omega) (by omega) ?_
  refine ab_iald (pc := 1576) hs2 (by omega) (by omega) dL_law__1576 ?_
  refine ab_aload_n (pc := 1577) dL_law__1577 rfl ?_
  refine ab_iload (pc := 1578) dL_law__1578 rfl ?_
  refine ab_iconst (pc := 1580) dL_law__1580 (by decide) ?_
  refine ab_iadd (pc := 1581) dL_law__1581 (by omega) (by omega) ?_
  refine ab_iald (pc := 1582) hs2 (by omega) (by omega) dL_law__1582 ?_
  refine ab_aload_n (pc := 1583) dL_law__1583 rfl ?_
  refine ab_iload (pc := 1584) dL_law__1584 rfl ?_
  refine ab_iconst (pc := 1586) dL_law__1586 (by decide) ?_
  refine ab_iadd (pc := 1587) dL_law__1587 (by omega) (by omega) ?_
  refine ab_iald (pc := 1588) hs2 (by omega) (by omega) dL_law__1588 ?_
  refine ab_callV (pc := 1589) (m_at hG hM2 (hb (i + 3) (by omega) (by omega)).2 I.2.2.2.2.2.2.2 (b := f (i + 1)) (a := f (i + 2)) (p := f (i + 3))) hM2.1 rfl ⟨w1372, w5, w1375, by decide, pd8⟩ w1373 w1374 rfl (by decide) (by decide) (Nat.le_of_ble_eq_true rfl) rfl dL_law__1589 (fun _ _ hx => absurd hx mC_no) ?_
  rintro r9 h3 ⟨_, s', F', e9, hW, hm⟩
  cases e9
  have j9 := j_at I hp hm hW.2.2.1 hW.2.2.2
  obtain ⟨J3, ho3⟩ := jRef rc1 ho2 hs2 hgs hz2 hW j9
  obtain ⟨v, rfl, _, _, oc⟩ := j9
  have ek := jK ⟨by decide, by decide⟩ (o_at (p0 := f (i + 1)) (p1 := f (i + 2)) (p2 := f (i + 3)) hp) hk oc
  refine ab_istore (pc := 1592) dL_law__1592 rfl (Nat.le_of_ble_eq_true rfl) ?_
  refine ab_aload_n (pc := 1594) dL_law__1594 rfl ?_
  refine ab_callV (pc := 1595) (m_thrownP hG J3.2.1) J3.2.1.1 rfl ⟨w1045, w5, w1048, by decide, pd26⟩ w1046 w1047 rfl (by decide) (by decide) (Nat.le_of_ble_eq_true rfl) rfl dL_law__1595 (fun _ _ hx => absurd hx pC_no) ?_
  rintro _ _ ⟨tv, e9, rfl, htv⟩
  cases e9
  refine ab_iload (pc := 1598) dL_law__1598 rfl ?_
  refine ab_icmp_eq (pc := 1600) 1605 dL_law__1600 (by decide) (fun c1600 => ?_) (fun c1600 => absurd c1600 (by omega))
  refine ab_iload (pc := 1605) dL_law__1605 rfl ?_
  refine ab_if_ne (pc := 1607) 1622 dL_law__1607 (by decide) (fun c1607 => ?_) (fun c1607 => ?_)
  · refine ab_goto (pc := 1622) 1693 dL_law__1622 (by decide) ?_
    exact K _ _ _ _ _ J3
  · refine ab_aload_n (pc := 1610) dL_law__1610 rfl ?_
    refine ab_iconst (pc := 1611) dL_law__1611 (by decide) ?_
    refine ab_lald (pc := 1612) ho3 (by omega) (by omega) dL_law__1612 ?_
    refine ab_iload (pc := 1613) dL_law__1613 rfl ?_
    refine ab_i2l (pc := 1615) dL_law__1615 ?_
    refine ab_lcm (pc := 1616) dL_law__1616 ?_
    refine ab_if_eq (pc := 1617) 1622 dL_law__1617 (by decide) (fun c1617 => ?_) (fun c1617 => absurd c1617 (fun k9 => k9 (lcmp_0.mpr (ek.2 (by omega)))))
    refine ab_goto (pc := 1622) 1693 dL_law__1622 (by decide) ?_
    exact K _ _ _ _ _ J3
theorem lc_shape (hG : ab_G l E) (hzm : ab_zim E z9) (hb : ∀ j : Int, 0 ≤ j → j < N → -2147483648 ≤ f j ∧ f j < 2147483648) (i0 : 0 ≤ i) (i6 : i + 6 ≤ N) (N0 : N ≤ 3072) (J : JI h x m o z9 sc N B A f s F) {x5 x6 : Option AbV} (K : ∀ (h' : AbH) (s' : Nat → Int) (F' : Nat → Int → Int) (x5 x6 : Option AbV), JI h' x m o z9 sc N B A f s' F' → ab_T l E Y_L_law_ 16 kc ks 1693 [some (vR sc), some (vR x), some (vR m), some (vR o), some (vI i), x5, x6] [] h' Q) : ab_T l E Y_L_law_ 16 (kc + (0 + 1)) (ks + (0 + 6)) 1625 [some (vR sc), some (vR x), some (vR m), some (vR o), some (vI i), x5, x6] [] h Q := by
  obtain ⟨⟨C, SA, la, q, rc⟩, hM, I, ⟨g, ho⟩, ⟨gs, hgs, hs⟩, hz⟩ := J
  refine ab_aload_n (pc := 1625) dL_law__1625 rfl ?_
  refine ab_aload_n (pc := 1626) dL_law__1626 rfl ?_
  refine ab_iload (pc := 1627) dL_law__1627 rfl ?_
  refine ab_iconst (pc := 1629) dL_law__1629 (by decide) ?_
  refine ab_iadd (pc := 1630) dL_law__1630 (by omega) (by omega) ?_
  refine ab_iald (pc := 1631) hs (by omega) (by omega) dL_law__1631 ?_
  refine ab_aload_n (pc := 1632) dL_law__1632 rfl ?_
  refine ab_iload (pc := 1633) dL_law__1633 rfl ?_
  refine ab_iconst (pc := 1635) dL_law__1635 (by decide) ?_
  refine ab_iadd (pc := 1636) dL_law__1636 (by omega) (by omega) ?_
  refine ab_iald (pc := 1637) hs (by omega) (by omega) dL_law__1637 ?_
  refine ab_aload_n (pc := 1638) dL_law__1638 rfl ?_
  refine ab_callSW (pc := 1639) (W_shape hG rc.o (c_shapeC hG rc hz hzm I.2.2.1 I.2.2.2.1 I.2.2.2.2.2.2.1 (hb (i + 2) (by omega) (by omega)).2 (i := f (i + 1)) (w := f (i + 2))) (fun oc h1 hQ => ⟨hQ.1 _ _ ho (by unfold cP; first | (simp; done) | (simp; omega)), by obtain ⟨_, s1, F1, _, _, _, _, _, hp⟩ := hQ; exact o_shape (p0 := f (i + 1)) (p1 := f (i + 2)) hp⟩)) ⟨w997, w998, w0, w999, by decide, pd45⟩ rfl (by decide) (by decide) (Nat.le_of_ble_eq_true rfl) dL_law__1639 ?_
  rintro r9 h2 hw9
  obtain ⟨k, g2, ob, s1, F1, C1, SA1, la1, q1, e9, rc1, hM2, ho2, hs2, hz2, hp, hk⟩ := jCls hM ho hs hgs hz (fun g hg => by unfold cP; first | (simp; done) | (simp; omega)) hw9
  cases e9
  refine ab_istore (pc := 1642) dL_law__1642 rfl (Nat.le_of_ble_eq_true rfl) ?_
  refine ab_aload_n (pc := 1644) dL_law__1644 rfl ?_
  refine ab_aload_n (pc := 1645) dL_law__1645 rfl ?_
  refine ab_iload (pc := 1646) dL_law__1646 rfl ?_
  refine ab_iconst (pc := 1648) dL_law__1648 (by decide) ?_
  refine ab_iadd (pc := 1649) dL_law__1649 (by omega) (by omega) ?_
  refine ab_iald (pc := 1650) hs2 (by omega) (by omega) dL_law__1650 ?_
  refine ab_aload_n (pc := 1651) dL_law__1651 rfl ?_
  refine ab_iload (pc := 1652) dL_law__1652 rfl ?_
  refine ab_iconst (pc := 1654) dL_law__1654 (by decide) ?_
  refine ab_iadd (pc := 1655) dL_law__1655 (by omega) (by omega) ?_
  refine ab_iald (pc := 1656) hs2 (by omega) (by omega) dL_law__1656 ?_
  refine ab_callV (pc := 1657) (m_shape hG hM2 (hb (i + 2) (by omega) (by omega)).2 I.2.2.2.1 I.2.2.2.2.2.2.1 (q := f (i + 1)) (w := f (i + 2))) hM2.1 rfl ⟨w1376, w5, w1379, by decide, pd18⟩ w1377 w1378 rfl (by decide) (by decide) (Nat.le_of_ble_eq_true rfl) rfl dL_law__1657 (fun _ _ hx => absurd hx mC_no) ?_
  rintro r9 h3 ⟨_, s', F', e9, hW, hm⟩
  cases e9
  have j9 := j_shape I hp hm hW.2.2.1 hW.2.2.2
  obtain ⟨J3, ho3⟩ := jRef rc1 ho2 hs2 hgs hz2 hW j9
  obtain ⟨v, rfl, _, _, oc⟩ := j9
  have ek := jK ⟨by decide, by decide⟩ (o_shape (p0 := f (i + 1)) (p1 := f (i + 2)) hp) hk oc
  refine ab_istore (pc := 1660) dL_law__1660 rfl (Nat.le_of_ble_eq_true rfl) ?_
  refine ab_aload_n (pc := 1662) dL_law__1662 rfl ?_
  refine ab_callV (pc := 1663) (m_thrownP hG J3.2.1) J3.2.1.1 rfl ⟨w1045, w5, w1048, by decide, pd26⟩ w1046 w1047 rfl (by decide) (by decide) (Nat.le_of_ble_eq_true rfl) rfl dL_law__1663 (fun _ _ hx => absurd hx pC_no) ?_
  rintro _ _ ⟨tv, e9, rfl, htv⟩
  cases e9
  refine ab_iload (pc := 1666) dL_law__1666 rfl ?_
  refine ab_icmp_eq (pc := 1668) 1673 dL_law__1668 (by decide) (fun c1668 => ?_) (fun c1668 => absurd c1668 (by omega))
  refine ab_iload (pc := 1673) dL_law__1673 rfl ?_
  refine ab_if_ne (pc := 1675) 1690 dL_law__1675 (by decide) (fun c1675 => ?_) (fun c1675 => ?_)
  · refine ab_goto (pc := 1690) 1693 dL_law__1690 (by decide) ?_
    exact K _ _ _ _ _ J3
  · refine ab_aload_n (pc := 1678) dL_law__1678 rfl ?_
    refine ab_iconst (pc := 1679) dL_law__1679 (by decide) ?_
    refine ab_lald (pc := 1680) ho3 (by omega) (by omega) dL_law__1680 ?_
    refine ab_iload (pc := 1681) dL_law__1681 rfl ?_
    refine ab_i2l (pc := 1683) dL_law__1683 ?_
    refine ab_lcm (pc := 1684) dL_law__1684 ?_
    refine ab_if_eq (pc := 1685) 1690 dL_law__1685 (by decide) (fun c1685 => ?_) (fun c1685 => absurd c1685 (fun k9 => k9 (lcmp_0.mpr (ek.2 (by omega)))))
    refine ab_goto (pc := 1690) 1693 dL_law__1690 (by decide) ?_
    exact K _ _ _ _ _ J3
end LD
