/-! the reference: steps found -/
section M18
variable {l : Launch} {E : AbE} {m : Nat} {A : Nat → Nat} {s0 : Nat → Int} {F0 : Nat → Int → Int} {h0 : AbH}
def fRes (o : Option (List Nat)) (r : Option AbV) (s' : Nat → Int) (F' : Nat → Int → Int) : Prop := (∃ p : List Nat, o = some p ∧ r = some (vI 1) ∧ s' 46 = (p.length : Int) ∧ ∀ i : Nat, i < p.length → F' 44 (i : Int) = ((p.getD i 0 : Nat) : Int)) ∨ (o = none ∧ r = some (vI 0) ∧ s' 46 = 0)
theorem ls_put {f : Int → Int} {B V n : Int} (n0 : 0 ≤ n) : ls (fun j => ab_f f (B + n) V (B + j)) (n + 1).toNat = ls (fun j => f (B + j)) n.toNat ++ [V.toNat] := by
  rw [show (n + 1).toNat = n.toNat + 1 by omega, ls_succ]
  congr 1
  · exact ls_congr (fun j j0 j1 => ab_f_ne (by omega))
  · rw [ab_f_eq (by omega)]
theorem m_findSteps_125 {o : Option (List Nat)} {a b c : Int → Int} {d set : Nat} {q : Int} (d2 : d ≤ 2) (wk : wdOk a b d) (s8 : set < 8) (hset : c (d : Int) = (set : Int)) (hC : ∀ (n i : Int) (x5 : Option AbV) (h : AbH) (s : Nat → Int) (F : Nat → Int → Int), mW h0 m A s0 F0 [46] [42, 43, 44, 45] h s F → F 43 = b → F 44 = c → (∀ j : Int, j < 7 * (d : Int) + 7 → F 42 j = a j) → 0 ≤ n → n ≤ 6 → ls (fun j => F 42 (7 * ((d + 1 : Nat) : Int) + j)) n.toNat = rem (lw a b d) set → (∀ j : Int, 0 ≤ j → j < n → 0 ≤ F 42 (7 * ((d + 1 : Nat) : Int) + j) ∧ F 42 (7 * ((d + 1 : Nat) : Int) + j) ≤ 2) → ab_T l E Y_X10_findSteps 1 0 0 193 [some (vR m), some (vI q), some (vI (d : Int)), some (vI n), some (vI i), x5] [] h (mC h0 m A s0 F0 [46] [42, 43, 44, 45] (fun r s' F' => fRes o r s' F'))) (fu : Nat) : ∀ (n i : Int) (x5 : Option AbV) (h : AbH) (s : Nat → Int) (F : Nat → Int → Int), mW h0 m A s0 F0 [46] [42, 43, 44, 45] h s F → (b (d : Int) - i).toNat < fu → (F 43 = b) → (F 44 = c) → (∀ j : Int, j < 7 * (d : Int) + 7 → F 42 j = a j) → (0 ≤ n) → (n ≤ i) → (i ≤ b (d : Int)) → (ls (fun j => F 42 (7 * ((d + 1 : Nat) : Int) + j)) n.toNat = rem (ls (fun j => a (7 * (d : Int) + j)) i.toNat) set) → (∀ j : Int, 0 ≤ j → j < n → 0 ≤ F 42 (7 * ((d + 1 : Nat) : Int) + j) ∧ F 42 (7 * ((d + 1 : Nat) : Int) + j) ≤ 2) → ab_T l E Y_X10_findSteps 1 0 0 125 [some (vR m), some (vI q), some (vI (d : Int)), some (vI n), some (vI i), x5] [] h (mC h0 m A s0 F0 [46] [42, 43, 44, 45] (fun r s' F' => fRes o r s' F')) := by
  induction fu with
  | zero => intro n i x5 h s F hW hm; exact absurd hm (Nat.not_lt_zero _)
  | succ fu ih =>
    intro n i x5 h s F hW hm e43 e44 eA n0 ni i1 eL nb
    have b6 := wk.2.1
    refine ab_iload (pc := 125) dX10_findSteps_125 rfl ?_
    refine ab_aload_n (pc := 127) dX10_findSteps_127 rfl ?_
    refine ab_get (pc := 128) (k := 43) (x := vR (A 43)) okX10 hW.obj rfl w1098 rfl dX10_findSteps_128 ?_
    refine ab_iload_n (pc := 131) dX10_findSteps_131 rfl ?_
    refine ab_iald (pc := 132) (n := 10) (f := b) (hW.arr 43 rfl e43) (by omega) (by omega) dX10_findSteps_132 ?_
    refine ab_icmp_ge (pc := 133) 193 dX10_findSteps_133 (by decide) (fun c133 => ?_) (fun c133 => ?_)
    · exact hC _ _ _ _ _ _ hW e43 e44 eA n0 (by omega) (by rw [eL, show i = b (d : Int) by omega]; rfl) nb
    · have l1 := wk.2.2 i (by omega) (by omega)
      have ea : F 42 (7 * (d : Int) + i) = a (7 * (d : Int) + i) := eA _ (by omega)
      have es : ls (fun j => a (7 * (d : Int) + j)) (i + 1).toNat = ls (fun j => a (7 * (d : Int) + j)) i.toNat ++ [(a (7 * (d : Int) + i)).toNat] := by have := ls_succ (t := fun j => a (7 * (d : Int) + j)) (k := i.toNat); rw [show ((i.toNat : Nat) : Int) = i by omega] at this; rw [show (i + 1).toNat = i.toNat + 1 by omega]; exact this
      have hx := has_n (a := set) (x := (a (7 * (d : Int) + i)).toNat) (by omega) (by omega)
      rw [show (((a (7 * (d : Int) + i)).toNat : Nat) : Int) = a (7 * (d : Int) + i) by omega] at hx
      have eB : 7 * (d : Int) + 7 + n = 7 * ((d + 1 : Nat) : Int) + n := by omega
      refine ab_aload_n (pc := 136) dX10_findSteps_136 rfl ?_
      refine ab_get (pc := 137) (k := 42) (x := vR (A 42)) okX10 hW.obj rfl w1097 rfl dX10_findSteps_137 ?_
      refine ab_bipush (pc := 140) dX10_findSteps_140 (by decide) ?_
      refine ab_iload_n (pc := 142) dX10_findSteps_142 rfl ?_
      refine ab_imul (pc := 143) dX10_findSteps_143 (by omega) (by omega) ?_
      refine ab_iload (pc := 144) dX10_findSteps_144 rfl ?_
      refine ab_iadd (pc := 146) dX10_findSteps_146 (by omega) (by omega) ?_
      refine ab_iald (pc := 147) (n := 70) (f := F 42) (hW.arr 42 rfl rfl) (by omega) (by omega) dX10_findSteps_147 ?_
      refine ab_istore (pc := 148) dX10_findSteps_148 rfl (Nat.le_of_ble_eq_true rfl) ?_
      refine ab_aload_n (pc := 150) dX10_findSteps_150 rfl ?_
      refine ab_get (pc := 151) (k := 44) (x := vR (A 44)) okX10 hW.obj rfl w1099 rfl dX10_findSteps_151 ?_
      refine ab_iload_n (pc := 154) dX10_findSteps_154 rfl ?_
      refine ab_iald (pc := 155) (n := 10) (f := c) (hW.arr 44 rfl e44) (by omega) (by omega) dX10_findSteps_155 ?_
      refine ab_iload (pc := 156) dX10_findSteps_156 rfl ?_
      rw [hset, ea]
      refine ab_ishr (pc := 158) dX10_findSteps_158 ?_
      refine ab_iconst (pc := 159) dX10_findSteps_159 (by decide) ?_
      refine ab_iand (pc := 160) dX10_findSteps_160 ?_
      refine ab_iconst (pc := 161) dX10_findSteps_161 (by decide) ?_
      refine ab_icmp_ne (pc := 162) 168 dX10_findSteps_162 (by decide) (fun c162 => ?_) (fun c162 => ?_)
      · refine ab_aload_n (pc := 168) dX10_findSteps_168 rfl ?_
        refine ab_get (pc := 169) (k := 42) (x := vR (A 42)) okX10 hW.obj rfl w1097 rfl dX10_findSteps_169 ?_
        refine ab_bipush (pc := 172) dX10_findSteps_172 (by decide) ?_
        refine ab_iload_n (pc := 174) dX10_findSteps_174 rfl ?_
        refine ab_imul (pc := 175) dX10_findSteps_175 (by omega) (by omega) ?_
        refine ab_bipush (pc := 176) dX10_findSteps_176 (by decide) ?_
        refine ab_iadd (pc := 178) dX10_findSteps_178 (by omega) (by omega) ?_
        refine ab_iload_n (pc := 179) dX10_findSteps_179 rfl ?_
        refine ab_iadd (pc := 180) dX10_findSteps_180 (by omega) (by omega) ?_
        rw [eB, ← ea]
        refine ab_iload (pc := 181) dX10_findSteps_181 rfl ?_
        refine ab_iastG (pc := 183) (n := 70) (f := F 42) (hW.arr 42 rfl rfl) (by decide) (by omega) (by omega) dX10_findSteps_183 (fun h e9 n9 => ?_)
        replace hW := hW.wr (k := 42) rfl e9 n9 (by decide)
        clear e9 n9
        refine ab_iinc (pc := 184) dX10_findSteps_184 rfl rfl (by decide) (by omega) (by omega) ?_
        refine ab_iinc (pc := 187) dX10_findSteps_187 rfl rfl (by decide) (by omega) (by omega) ?_
        refine ab_goto (pc := 190) 125 dX10_findSteps_190 (by decide) ?_
        refine ih (n + 1) (i + 1) _ _ _ _ hW (by omega) e43 e44 (fun j hj => ?_) (by omega) (by omega) (by omega) ?_ (fun j j0 j1 => ?_)
        · show ab_f (F 42) _ _ j = a j
          rw [ab_f_ne (by omega)]
          exact eA j hj
        · show ls (fun j => ab_f (F 42) (7 * ((d + 1 : Nat) : Int) + n) (F 42 (7 * (d : Int) + i)) (7 * ((d + 1 : Nat) : Int) + j)) (n + 1).toNat = _
          rw [ls_put n0, es, rem_snoc, if_neg (fun k => c162 (hx.2.mpr k)), eL, ea]
        · show 0 ≤ ab_f (F 42) (7 * ((d + 1 : Nat) : Int) + n) (F 42 (7 * (d : Int) + i)) (7 * ((d + 1 : Nat) : Int) + j) ∧ ab_f (F 42) (7 * ((d + 1 : Nat) : Int) + n) (F 42 (7 * (d : Int) + i)) (7 * ((d + 1 : Nat) : Int) + j) ≤ 2
          by_cases e : j = n
          · rw [e, ab_f_eq rfl]; omega
          · rw [ab_f_ne (by omega)]; exact nb j j0 (by omega)
      · refine ab_goto (pc := 165) 187 dX10_findSteps_165 (by decide) ?_
        refine ab_iinc (pc := 187) dX10_findSteps_187 rfl rfl (by decide) (by omega) (by omega) ?_
        refine ab_goto (pc := 190) 125 dX10_findSteps_190 (by decide) ?_
        exact ih n (i + 1) _ _ _ _ hW (by omega) e43 e44 eA n0 (by omega) (by omega) (by rw [es, rem_snoc, if_pos (hx.2.mp c162)]; exact eL) nb
theorem m_findSteps_56 {o : Option (List Nat)} {q : Int} (hG : ab_G l E) (fu : Nat) : ∀ (e : Int) (x3 x4 x5 : Option AbV) (h : AbH) (s : Nat → Int) (F : Nat → Int → Int), mW h0 m A s0 F0 [46] [42, 43, 44, 45] h s F → (((muI (F 44) e : Nat) : Int)).toNat < fu → (stI (F 42) (F 43) (F 44) o e) → ab_T l E Y_X10_findSteps 1 0 0 56 [some (vR m), some (vI q), some (vI e), x3, x4, x5] [] h (mC h0 m A s0 F0 [46] [42, 43, 44, 45] (fun r s' F' => fRes o r s' F')) := by
  induction fu with
  | zero => intro e x3 x4 x5 h s F hW hm; exact absurd hm (Nat.not_lt_zero _)
  | succ fu ih =>
    intro e x3 x4 x5 h s F hW hm I
    rcases I with ⟨rfl, I⟩ | ⟨d, rfl, I⟩
    · refine ab_iload_n (pc := 56) dX10_findSteps_56 rfl ?_
      refine ab_if_lt (pc := 57) 217 dX10_findSteps_57 (by decide) (fun c57 => ?_) (fun c57 => absurd c57 (by omega))
      refine ab_aload_n (pc := 217) dX10_findSteps_217 rfl ?_
      refine ab_iconst (pc := 218) dX10_findSteps_218 (by decide) ?_
      refine ab_putG (pc := 219) (k := 46) okX10 hW.obj (by decide) (by decide) trivial w1101 rfl (Or.inl rfl) dX10_findSteps_219 (fun h e9 n9 => ?_)
      replace hW := hW.put e9 n9 rfl (by decide)
      clear e9 n9
      refine ab_iconst (pc := 222) dX10_findSteps_222 (by decide) ?_
      refine ab_zret (pc := 223) dX10_findSteps_223 rfl (by omega) ?_
      exact ⟨_, _, _, rfl, hW, Or.inr ⟨I, rfl, rfl⟩⟩
    · have w9 := I.1 d (Nat.le_refl _)
      have k0 := w9.2.1
      have k7 := w9.2.2.1
      have b0 := w9.1.1
      have b6 := w9.1.2.1
      have dn := w9.2.2.2
      refine ab_iload_n (pc := 56) dX10_findSteps_56 rfl ?_
      refine ab_if_lt (pc := 57) 217 dX10_findSteps_57 (by decide) (fun c57 => absurd c57 (by omega)) (fun c57 => ?_)
      refine ab_aload_n (pc := 60) dX10_findSteps_60 rfl ?_
      refine ab_get (pc := 61) (k := 43) (x := vR (A 43)) okX10 hW.obj rfl w1098 rfl dX10_findSteps_61 ?_
      refine ab_iload_n (pc := 64) dX10_findSteps_64 rfl ?_
      refine ab_iald (pc := 65) (n := 10) (f := F 43) (hW.arr 43 rfl rfl) (by omega) (by omega) dX10_findSteps_65 ?_
      refine ab_if_ne (pc := 66) 76 dX10_findSteps_66 (by decide) (fun c66 => ?_) (fun c66 => ?_)
      · have nn : lw (F 42) (F 43) d ≠ [] := fun k => c66 ((lw_nil w9.1).mp k)
        have nz : nU (lw (F 42) (F 43) d) ≠ 0 := fun k => nn (nU_0 (lw_3 w9.1) k)
        have d2 : d ≤ 2 := by omega
        have hset : F 44 (d : Int) + 1 = ((csF (F 44) d + 1 : Nat) : Int) := by unfold csF; omega
        refine ab_aload_n (pc := 76) dX10_findSteps_76 rfl ?_
        refine ab_get (pc := 77) (k := 44) (x := vR (A 44)) okX10 hW.obj rfl w1099 rfl dX10_findSteps_77 ?_
        refine ab_iload_n (pc := 80) dX10_findSteps_80 rfl ?_
        refine ab_dup2 (pc := 81) dX10_findSteps_81 rfl rfl ?_
        refine ab_iald (pc := 82) (n := 10) (f := F 44) (hW.arr 44 rfl rfl) (by omega) (by omega) dX10_findSteps_82 ?_
        refine ab_iconst (pc := 83) dX10_findSteps_83 (by decide) ?_
        refine ab_iadd (pc := 84) dX10_findSteps_84 (by omega) (by omega) ?_
        refine ab_iastG (pc := 85) (n := 10) (f := F 44) (hW.arr 44 rfl rfl) (by decide) (by omega) (by omega) dX10_findSteps_85 (fun h e9 n9 => ?_)
        replace hW := hW.wr (k := 44) rfl e9 n9 (by decide)
        clear e9 n9
        refine ab_aload_n (pc := 86) dX10_findSteps_86 rfl ?_
        refine ab_get (pc := 87) (k := 44) (x := vR (A 44)) okX10 hW.obj rfl w1099 rfl dX10_findSteps_87 ?_
        refine ab_iload_n (pc := 90) dX10_findSteps_90 rfl ?_
        refine ab_iald (pc := 91) (n := 10) (f := ab_f (F 44) ((d : Int)) ((F 44 ((d : Int)) + 1))) (hW.arr 44 rfl rfl) (by omega) (by omega) dX10_findSteps_91 ?_
        refine ab_bipush (pc := 92) dX10_findSteps_92 (by decide) ?_
        rw [ab_f_eq rfl]
        refine ab_icmp_le (pc := 94) 103 dX10_findSteps_94 (by decide) (fun c94 => ?_) (fun c94 => ?_)
        · have c8 : csF (F 44) d + 1 < 8 := by omega
          refine ab_aload_n (pc := 103) dX10_findSteps_103 rfl ?_
          refine ab_iload_n (pc := 104) dX10_findSteps_104 rfl ?_
          refine ab_aload_n (pc := 105) dX10_findSteps_105 rfl ?_
          refine ab_get (pc := 106) (k := 44) (x := vR (A 44)) okX10 hW.obj rfl w1099 rfl dX10_findSteps_106 ?_
          refine ab_iload_n (pc := 109) dX10_findSteps_109 rfl ?_
          refine ab_iald (pc := 110) (n := 10) (f := ab_f (F 44) ((d : Int)) ((F 44 ((d : Int)) + 1))) (hW.arr 44 rfl rfl) (by omega) (by omega) dX10_findSteps_110 ?_
          rw [ab_f_eq rfl, hset]
          refine ab_callV (pc := 111) (m_isLoose hG hW.1 d2 w9.1 c8) hW.obj rfl ⟨w1388, w5, w1391, by decide, pd73⟩ w1390 sp48 rfl (by decide) (by decide) (Nat.le_of_ble_eq_true rfl) rfl dX10_findSteps_111 (fun _ _ hx => absurd hx mC_no) ?_
          rintro _ h ⟨_, s1, F1, e9, hc1, hp1⟩
          cases e9
          replace hW := hW.call hc1 (by decide) (by decide)
          rcases hp1 with ⟨rfl, lo9⟩ | ⟨rfl, lo9⟩
          · refine ab_if_ne (pc := 114) 120 dX10_findSteps_114 (by decide) (fun c114 => ?_) (fun c114 => absurd c114 (by omega))
            refine ab_iconst (pc := 120) dX10_findSteps_120 (by decide) ?_
            refine ab_istore_n (pc := 121) dX10_findSteps_121 rfl (Nat.le_of_ble_eq_true rfl) ?_
            refine ab_iconst (pc := 122) dX10_findSteps_122 (by decide) ?_
            refine ab_istore (pc := 123) dX10_findSteps_123 rfl (Nat.le_of_ble_eq_true rfl) ?_
            have b43 : _ = F 43 := (hc1.Fv 43 (by decide))
            have b44 : _ = (ab_f (F 44) (d : Int) (F 44 (d : Int) + 1)) := (hc1.Fv 44 (by decide))
            have b42 : _ = F 42 := (hc1.Fv 42 (by decide))
            refine m_findSteps_125 (o := o) (a := F 42) (b := F 43) (c := (ab_f (F 44) (d : Int) (F 44 (d : Int) + 1))) (set := csF (F 44) d + 1) d2 w9.1 c8 ((ab_f_eq rfl).trans hset) (fun n i x5 h s9 F9 hW e43 e44 eA n0 n6 eL nb => ?_) _ 0 0 _ _ _ _ hW (Nat.lt_succ_self _) b43 b44 (fun j _ => by rw [b42]) (by omega) (by omega) (by omega) rfl (fun j j0 j1 => absurd j1 (by omega))
            refine ab_aload_n (pc := 193) dX10_findSteps_193 rfl ?_
            refine ab_get (pc := 194) (k := 43) (x := vR (A 43)) okX10 hW.obj rfl w1098 rfl dX10_findSteps_194 ?_
            refine ab_iload_n (pc := 197) dX10_findSteps_197 rfl ?_
            refine ab_iconst (pc := 198) dX10_findSteps_198 (by decide) ?_
            refine ab_iadd (pc := 199) dX10_findSteps_199 (by omega) (by omega) ?_
            refine ab_iload_n (pc := 200) dX10_findSteps_200 rfl ?_
            refine ab_iastG (pc := 201) (n := 10) (f := (F 43)) (hW.arr 43 rfl e43) (by decide) (by omega) (by omega) dX10_findSteps_201 (fun h e9 n9 => ?_)
            replace hW := hW.wr (k := 43) rfl e9 n9 (by decide)
            clear e9 n9
            refine ab_aload_n (pc := 202) dX10_findSteps_202 rfl ?_
            refine ab_get (pc := 203) (k := 44) (x := vR (A 44)) okX10 hW.obj rfl w1099 rfl dX10_findSteps_203 ?_
            refine ab_iload_n (pc := 206) dX10_findSteps_206 rfl ?_
            refine ab_iconst (pc := 207) dX10_findSteps_207 (by decide) ?_
            refine ab_iadd (pc := 208) dX10_findSteps_208 (by omega) (by omega) ?_
            refine ab_iconst (pc := 209) dX10_findSteps_209 (by decide) ?_
            refine ab_iastG (pc := 210) (n := 10) (f := (ab_f (F 44) (d : Int) (F 44 (d : Int) + 1))) (hW.arr 44 rfl e44) (by decide) (by omega) (by omega) dX10_findSteps_210 (fun h e9 n9 => ?_)
            replace hW := hW.wr (k := 44) rfl e9 n9 (by decide)
            clear e9 n9
            refine ab_iinc (pc := 211) dX10_findSteps_211 rfl rfl (by decide) (by omega) (by omega) ?_
            refine ab_goto (pc := 214) 56 dX10_findSteps_214 (by decide) ?_
            have p1 : ∀ i : Nat, i < d → (ab_f (ab_f (F 44) (d : Int) (F 44 (d : Int) + 1)) ((d : Int) + 1) 0) (i : Int) = F 44 (i : Int) := fun i hi => (ab_f_ne (by omega)).trans (ab_f_ne (by omega))
            have p2 : (ab_f (ab_f (F 44) (d : Int) (F 44 (d : Int) + 1)) ((d : Int) + 1) 0) (d : Int) = F 44 (d : Int) + 1 := (ab_f_ne (by omega)).trans (ab_f_eq rfl)
            have p3 : (ab_f (ab_f (F 44) (d : Int) (F 44 (d : Int) + 1)) ((d : Int) + 1) 0) ((d + 1 : Nat) : Int) = 0 := ab_f_eq (by omega)
            have p4 : ab_f (F 43) ((d : Int) + 1) n ((d + 1 : Nat) : Int) = n := ab_f_eq (by omega)
            have mu9 := mu_push (c := F 44) d2 k0 (by omega) p1 p2 p3
            have st9 : stI (F9 42) (ab_f (F 43) ((d : Int) + 1) n) (ab_f (ab_f (F 44) (d : Int) (F 44 (d : Int) + 1)) ((d : Int) + 1) 0) o ((d : Int) + 1) := I.push c66 (by omega) lo9 eA (fun i hi => ab_f_ne (by omega)) p1 p2 p3 (by unfold lw; rw [p4]; exact eL) (by rw [p4]; exact n0) (by rw [p4]; exact n6) (fun j j0 j1 => nb j j0 (by rw [p4] at j1; exact j1))
            exact ih _ _ _ _ _ _ _ hW (show ((muI (ab_f (ab_f (F 44) (d : Int) (F 44 (d : Int) + 1)) ((d : Int) + 1) 0) ((d : Int) + 1) : Nat) : Int).toNat < fu by omega) st9
          · refine ab_if_ne (pc := 114) 120 dX10_findSteps_114 (by decide) (fun c114 => absurd c114 (by omega)) (fun c114 => ?_)
            refine ab_goto (pc := 117) 56 dX10_findSteps_117 (by decide) ?_
            have mu9 := mu_no (c := F 44) (d := d) k0 (by omega)
            have st9 := I.no c66 (by omega) lo9
            have b42 : _ = F 42 := (hc1.Fv 42 (by decide))
            have b43 : _ = F 43 := (hc1.Fv 43 (by decide))
            have b44 : _ = (ab_f (F 44) (d : Int) (F 44 (d : Int) + 1)) := (hc1.Fv 44 (by decide))
            exact ih _ _ _ _ _ _ _ hW (by rw [b44]; omega) (by rw [b42, b43, b44]; exact st9)
        · refine ab_iinc (pc := 97) dX10_findSteps_97 rfl rfl (by decide) (by omega) (by omega) ?_
          refine ab_goto (pc := 100) 56 dX10_findSteps_100 (by decide) ?_
          have k9 : F 44 (d : Int) = 7 := by omega
          have mu9 := mu_pop (c := F 44) (d := d) k9 (x := F 44 (d : Int) + 1)
          exact ih _ _ _ _ _ _ _ hW (show ((muI (ab_f (F 44) (d : Int) (F 44 (d : Int) + 1)) ((d : Int) + -1) : Nat) : Int).toNat < fu by omega) (I.pop c66 k9)
      · refine ab_aload_n (pc := 69) dX10_findSteps_69 rfl ?_
        refine ab_iload_n (pc := 70) dX10_findSteps_70 rfl ?_
        refine ab_putG (pc := 71) (k := 46) okX10 hW.obj (by decide) (by decide) trivial w1101 rfl (Or.inl rfl) dX10_findSteps_71 (fun h e9 n9 => ?_)
        replace hW := hW.put e9 n9 rfl (by decide)
        clear e9 n9
        refine ab_iconst (pc := 74) dX10_findSteps_74 (by decide) ?_
        refine ab_zret (pc := 75) dX10_findSteps_75 rfl (by omega) ?_
        obtain ⟨p, e1, e2, e3⟩ := I.done c66
        exact ⟨_, _, _, rfl, hW, Or.inl ⟨p, e1, rfl, by rw [e2]; rfl, fun i hi => e3 i (by omega)⟩⟩
theorem st_start {a b c t : Int → Int} {L : Int} (L1 : 0 ≤ L) (L6 : L ≤ 6) (hb : b 0 = L) (ha : ∀ j : Int, 0 ≤ j → j < L → a j = t j) (hc : c 0 = 0) (le : ∀ i : Int, 0 ≤ i → i < L → 0 ≤ t i ∧ t i ≤ 2) : stI a b c (stepsOf t L.toNat) 0 := by
  have e0 : ∀ j : Int, 7 * ((0 : Nat) : Int) + j = j := fun j => by omega
  have el : lw a b 0 = ls t L.toNat := by
    unfold lw
    rw [show b ((0 : Nat) : Int) = L from hb]
    exact ls_congr (fun j j0 j1 => by rw [e0]; exact ha j j0 (by omega))
  refine Or.inr ⟨0, rfl, fun i hi => ?_, ?_, fun i hi => absurd hi (Nat.not_lt_zero _)⟩
  · obtain rfl : i = 0 := by omega
    refine ⟨⟨by rw [show b ((0 : Nat) : Int) = L from hb]; exact L1, by rw [show b ((0 : Nat) : Int) = L from hb]; exact L6, fun j j0 j1 => ?_⟩, by rw [show c ((0 : Nat) : Int) = 0 from hc]; omega, by rw [show c ((0 : Nat) : Int) = 0 from hc]; omega, by have := nU_3 (l := lw a b 0); omega⟩
    rw [show b ((0 : Nat) : Int) = L from hb] at j1
    rw [e0, ha j j0 j1]
    exact le j j0 j1
  · show stepsOf t L.toNat = atD 0 (lw a b 0) (csF c 0)
    have ec : csF c 0 = 0 := by unfold csF; rw [show c ((0 : Nat) : Int) = 0 from hc]; rfl
    rw [ec, atD_0, el]
    rfl
theorem m_findSteps_14 {q : Int} (q0 : 0 ≤ q) (q1 : q < 12) (n1 : 1 ≤ F0 11 q) (n6 : F0 11 q ≤ 6) (le : ∀ i : Int, 0 ≤ i → i < F0 11 q → 0 ≤ F0 12 (80 * q + i) ∧ F0 12 (80 * q + i) ≤ 2) (hG : ab_G l E) (fu : Nat) : ∀ (i : Int) (h : AbH) (s : Nat → Int) (F : Nat → Int → Int), mW h0 m A s0 F0 [46] [42, 43, 44, 45] h s F → (F0 11 q - i).toNat < fu → (0 ≤ i) → (i ≤ F0 11 q) → (F 43 0 = F0 11 q) → (∀ j : Int, 0 ≤ j → j < i → F 42 j = F0 12 (80 * q + j)) → ab_T l E Y_X10_findSteps 1 0 0 14 [some (vR m), some (vI q), some (vI i), none, none, none] [] h (mC h0 m A s0 F0 [46] [42, 43, 44, 45] (fun r s' F' => fRes (stepsOf (fun i => F0 12 (80 * q + i)) (F0 11 q).toNat) r s' F')) := by
  induction fu with
  | zero => intro i h s F hW hm; exact absurd hm (Nat.not_lt_zero _)
  | succ fu ih =>
    intro i h s F hW hm i0 i1 e43 I
    refine ab_iload_n (pc := 14) dX10_findSteps_14 rfl ?_
    refine ab_aload_n (pc := 15) dX10_findSteps_15 rfl ?_
    refine ab_get (pc := 16) (k := 11) (x := vR (A 11)) okX10 hW.obj rfl w1066 rfl dX10_findSteps_16 ?_
    refine ab_iload_n (pc := 19) dX10_findSteps_19 rfl ?_
    refine ab_iald (pc := 20) (n := 12) (f := F0 11) (hW.arr 11 rfl (hW.Fv 11 (by decide))) (by omega) (by omega) dX10_findSteps_20 ?_
    refine ab_icmp_ge (pc := 21) 47 dX10_findSteps_21 (by decide) (fun c21 => ?_) (fun c21 => ?_)
    · refine ab_iconst (pc := 47) dX10_findSteps_47 (by decide) ?_
      refine ab_istore_n (pc := 48) dX10_findSteps_48 rfl (Nat.le_of_ble_eq_true rfl) ?_
      refine ab_aload_n (pc := 49) dX10_findSteps_49 rfl ?_
      refine ab_get (pc := 50) (k := 44) (x := vR (A 44)) okX10 hW.obj rfl w1099 rfl dX10_findSteps_50 ?_
      refine ab_iconst (pc := 53) dX10_findSteps_53 (by decide) ?_
      refine ab_iconst (pc := 54) dX10_findSteps_54 (by decide) ?_
      refine ab_iastG (pc := 55) (n := 10) (f := F 44) (hW.arr 44 rfl rfl) (by decide) (by omega) (by omega) dX10_findSteps_55 (fun h e9 n9 => ?_)
      replace hW := hW.wr (k := 44) rfl e9 n9 (by decide)
      clear e9 n9
      exact m_findSteps_56 hG _ 0 _ _ _ _ _ _ hW (Nat.lt_succ_self _) (st_start (t := fun i => F0 12 (80 * q + i)) (by omega) n6 e43 (fun j j0 j1 => I j j0 (by omega)) (by show ab_f (F 44) 0 0 0 = 0; exact ab_f_eq rfl) le)
    · refine ab_aload_n (pc := 24) dX10_findSteps_24 rfl ?_
      refine ab_get (pc := 25) (k := 42) (x := vR (A 42)) okX10 hW.obj rfl w1097 rfl dX10_findSteps_25 ?_
      refine ab_iload_n (pc := 28) dX10_findSteps_28 rfl ?_
      refine ab_aload_n (pc := 29) dX10_findSteps_29 rfl ?_
      refine ab_get (pc := 30) (k := 12) (x := vR (A 12)) okX10 hW.obj rfl w1067 rfl dX10_findSteps_30 ?_
      refine ab_bipush (pc := 33) dX10_findSteps_33 (by decide) ?_
      refine ab_iload_n (pc := 35) dX10_findSteps_35 rfl ?_
      refine ab_imul (pc := 36) dX10_findSteps_36 (by omega) (by omega) ?_
      refine ab_iload_n (pc := 37) dX10_findSteps_37 rfl ?_
      refine ab_iadd (pc := 38) dX10_findSteps_38 (by omega) (by omega) ?_
      refine ab_iald (pc := 39) (n := 960) (f := F0 12) (hW.arr 12 rfl (hW.Fv 12 (by decide))) (by omega) (by omega) dX10_findSteps_39 ?_
      refine ab_iastG (pc := 40) (n := 70) (f := F 42) (hW.arr 42 rfl rfl) (by decide) (by omega) (by omega) dX10_findSteps_40 (fun h e9 n9 => ?_)
      replace hW := hW.wr (k := 42) rfl e9 n9 (by decide)
      clear e9 n9
      refine ab_iinc (pc := 41) dX10_findSteps_41 rfl rfl (by decide) (by omega) (by omega) ?_
      refine ab_goto (pc := 44) 14 dX10_findSteps_44 (by decide) ?_
      exact ih (i + 1) _ _ _ hW (by omega) (by omega) (by omega) e43 (upto_P (R := fun j z => z = F0 12 (80 * q + j)) I rfl)
theorem m_findSteps (hG : ab_G l E) (hM : mR h0 m A s0 F0) {q : Int} (q0 : 0 ≤ q) (q1 : q < 12) (n1 : 1 ≤ F0 11 q) (n6 : F0 11 q ≤ 6) (le : ∀ i : Int, 0 ≤ i → i < F0 11 q → 0 ≤ F0 12 (80 * q + i) ∧ F0 12 (80 * q + i) ≤ 2) : ab_M l E Y_X10_findSteps 6 1 0 0 [vR m, vI q] h0 (mC h0 m A s0 F0 [46] [42, 43, 44, 45] (fun r s' F' => fRes (stepsOf (fun i => F0 12 (80 * q + i)) (F0 11 q).toNat) r s' F')) := by
  refine ab_M.of (L0 := [some (vR m), some (vI q), none, none, none, none]) hG rfl rfl (Nat.le_of_ble_eq_true rfl) rfl ?_
  have hW : mW h0 m A s0 F0 [46] [42, 43, 44, 45] h0 s0 F0 := mW.start hM
  refine ab_aload_n (pc := 0) dX10_findSteps_0 rfl ?_
  refine ab_get (pc := 1) (k := 43) (x := vR (A 43)) okX10 hW.obj rfl w1098 rfl dX10_findSteps_1 ?_
  refine ab_iconst (pc := 4) dX10_findSteps_4 (by decide) ?_
  refine ab_aload_n (pc := 5) dX10_findSteps_5 rfl ?_
  refine ab_get (pc := 6) (k := 11) (x := vR (A 11)) okX10 hW.obj rfl w1066 rfl dX10_findSteps_6 ?_
  refine ab_iload_n (pc := 9) dX10_findSteps_9 rfl ?_
  refine ab_iald (pc := 10) (n := 12) (f := F0 11) (hW.arr 11 rfl (hW.Fv 11 (by decide))) (by omega) (by omega) dX10_findSteps_10 ?_
  refine ab_iastG (pc := 11) (n := 10) (f := F0 43) (hW.arr 43 rfl rfl) (by decide) (by omega) (by omega) dX10_findSteps_11 (fun h e9 n9 => ?_)
  replace hW := hW.wr (k := 43) rfl e9 n9 (by decide)
  clear e9 n9
  refine ab_iconst (pc := 12) dX10_findSteps_12 (by decide) ?_
  refine ab_istore_n (pc := 13) dX10_findSteps_13 rfl (Nat.le_of_ble_eq_true rfl) ?_
  exact m_findSteps_14 q0 q1 n1 n6 le hG _ 0 _ _ _ hW (Nat.lt_succ_self _) (by omega) (by omega) (by show ab_f (F0 43) 0 (F0 11 q) 0 = _; exact ab_f_eq rfl) (fun j j0 j1 => absurd j1 (by omega))
end M18
