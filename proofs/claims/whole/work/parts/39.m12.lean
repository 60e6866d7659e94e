/-! the reference: rank -/
section M12
variable {l : Launch} {E : AbE} {m : Nat} {A : Nat → Nat} {s0 : Nat → Int} {F0 : Nat → Int → Int} {h0 : AbH}
theorem m_rank_143 {h : AbH} {s : Nat → Int} {F : Nat → Int → Int} (hW : mW h0 m A s0 F0 [0, 6, 20, 21, 22, 23, 24, 25, 26, 27, 28, 29, 31, 32, 33] [5, 13, 14, 15, 30, 34] h s F) {e a x k n : Int} (n0 : 0 ≤ n) (n6 : n ≤ 60) {t9 : Int} {w : Int → Int} (e30 : F 30 = w) (f34 : ∀ j : Int, 0 ≤ j → j < n → F 34 j = rdL F0 x k j) (hC : ∀ u j : Int, ((u = 1 ∧ alike w (rdL F0 x k) n) ∨ (u = 0 ∧ ¬ alike w (rdL F0 x k) n)) → ab_T l E Y_X10_rank 7 0 0 185 [some (vR m), some (vI e), some (vI a), some (vI x), some (vI k), some (vI n), some (vI t9), some (vI u), some (vI j)] [] h (mC h0 m A s0 F0 [0, 6, 20, 21, 22, 23, 24, 25, 26, 27, 28, 29, 31, 32, 33] [5, 13, 14, 15, 30, 34] (fun r s' F' => ∃ c r9 : Int, r = some (vI r9) ∧ s' 0 = c ∧ rankSp s0 F0 (F0 30) e a x k c r9 (s' 23)))) (fu : Nat) : ∀ (j u : Int), (n - j).toNat < fu → (0 ≤ j) → (j ≤ n) → ((u = 1 ∧ ∀ i : Int, 0 ≤ i → i < j → w i = rdL F0 x k i) ∨ (u = 0 ∧ ¬ alike w (rdL F0 x k) n)) → ab_T l E Y_X10_rank 7 0 0 143 [some (vR m), some (vI e), some (vI a), some (vI x), some (vI k), some (vI n), some (vI t9), some (vI u), some (vI j)] [] h (mC h0 m A s0 F0 [0, 6, 20, 21, 22, 23, 24, 25, 26, 27, 28, 29, 31, 32, 33] [5, 13, 14, 15, 30, 34] (fun r s' F' => ∃ c r9 : Int, r = some (vI r9) ∧ s' 0 = c ∧ rankSp s0 F0 (F0 30) e a x k c r9 (s' 23))) := by
  induction fu with
  | zero => intro j u hm; exact absurd hm (Nat.not_lt_zero _)
  | succ fu ih =>
    intro j u hm j0 j1 I
    have u9 : u = 0 ∨ u = 1 := by rcases I with g | g; exact Or.inr g.1; exact Or.inl g.1
    refine ab_iload (pc := 143) dX10_rank_143 rfl ?_
    refine ab_iload (pc := 145) dX10_rank_145 rfl ?_
    refine ab_icmp_ge (pc := 147) 185 dX10_rank_147 (by decide) (fun c147 => ?_) (fun c147 => ?_)
    · refine hC u j ?_
      rcases I with ⟨g, g2⟩ | g
      · first
        | exact Or.inl ⟨g, fun i i0 i1 => g2 i i0 (by omega)⟩
        | (exfalso; omega)
      · exact Or.inr g
    · refine ab_iload (pc := 150) dX10_rank_150 rfl ?_
      refine ab_if_eq (pc := 152) 185 dX10_rank_152 (by decide) (fun c152 => ?_) (fun c152 => ?_)
      · refine hC u j ?_
        rcases I with ⟨g, g2⟩ | g
        · first
          | exact Or.inl ⟨g, fun i i0 i1 => g2 i i0 (by omega)⟩
          | (exfalso; omega)
        · exact Or.inr g
      · refine ab_via (S := []) 177 (fun v : Int => (v = 1 ∧ w j = rdL F0 x k j) ∨ (v = 0 ∧ ¬ w j = rdL F0 x k j)) (fun v hv => ?_) (fun J177 => ?_)
        · refine ab_istore (pc := 177) dX10_rank_177 rfl (Nat.le_of_ble_eq_true rfl) ?_
          refine ab_iinc (pc := 179) dX10_rank_179 rfl rfl (by decide) (by omega) (by omega) ?_
          refine ab_goto (pc := 182) 143 dX10_rank_182 (by decide) ?_
          refine ih (j + 1) v (by omega) (by omega) (by omega) ?_
          rcases I with ⟨g, g2⟩ | g
          · rcases hv with ⟨hv, g3⟩ | ⟨hv, g3⟩
            · refine Or.inl ⟨hv, fun i i0 i1 => ?_⟩
              by_cases e9 : i = j
              · rw [e9]; exact g3
              · exact g2 i i0 (by omega)
            · exact Or.inr ⟨hv, fun g4 => g3 (g4 j j0 (by omega))⟩
          · exact absurd g.1 (by omega)
        · refine ab_aload_n (pc := 155) dX10_rank_155 rfl ?_
          refine ab_get (pc := 156) (k := 30) (x := vR (A 30)) okX10 hW.obj rfl w1085 rfl dX10_rank_156 ?_
          refine ab_iload (pc := 159) dX10_rank_159 rfl ?_
          refine ab_iald (pc := 161) (n := 80) (f := w) (hW.arr 30 rfl e30) (by omega) (by omega) dX10_rank_161 ?_
          refine ab_aload_n (pc := 162) dX10_rank_162 rfl ?_
          refine ab_get (pc := 163) (k := 34) (x := vR (A 34)) okX10 hW.obj rfl w1089 rfl dX10_rank_163 ?_
          refine ab_iload (pc := 166) dX10_rank_166 rfl ?_
          refine ab_iald (pc := 168) (n := 80) (f := F 34) (hW.arr 34 rfl rfl) (by omega) (by omega) dX10_rank_168 ?_
          refine ab_icmp_ne (pc := 169) 176 dX10_rank_169 (by decide) (fun c169 => ?_) (fun c169 => ?_)
          · refine ab_iconst (pc := 176) dX10_rank_176 (by decide) ?_
            have f9 := f34 j j0 (by omega)
            refine J177 (0) ?_
            first
            | exact Or.inl ⟨rfl, by omega⟩
            | exact Or.inr ⟨rfl, by omega⟩
          · refine ab_iconst (pc := 172) dX10_rank_172 (by decide) ?_
            refine ab_goto (pc := 173) 177 dX10_rank_173 (by decide) ?_
            have f9 := f34 j j0 (by omega)
            refine J177 (1) ?_
            first
            | exact Or.inl ⟨rfl, by omega⟩
            | exact Or.inr ⟨rfl, by omega⟩
theorem m_rank_130 (hG : ab_G l E) (b7 : 0 ≤ s0 7) (c7 : s0 7 ≤ 12) (lb : ∀ q : Int, 0 ≤ q → q < s0 7 → lawB F0 q) {e a n co : Int} (a1 : 1 ≤ a) (a8 : a ≤ 8) (n0 : 0 ≤ n) (n6 : n ≤ 60) (hco : costUp F0 e (s0 7) co) (mok : msOk s0 e a) {x k : Int} (hrow : isRow s0 x k) (hrd : isRd F0 x k n) (hlt : ∀ j : Int, 0 ≤ j → j < n → rdL F0 x k j < a) (hkl : ∀ u : Int, 1 ≤ u → u ≤ n → KL F0 (s0 7) e (rdL F0 x k) u) (fu : Nat) : ∀ (t : Nat) (w : Int → Int) (d lk lg : Int) (x7 x8 : Option AbV) (h : AbH) (s : Nat → Int) (F : Nat → Int → Int), mW h0 m A s0 F0 [0, 6, 20, 21, 22, 23, 24, 25, 26, 27, 28, 29, 31, 32, 33] [5, 13, 14, 15, 30, 34] h s F → (20000 - lk).toNat < fu → (s 0 = 0) → (F 30 = w) → (s 28 = d) → (s 23 = lk) → (s 29 = lg) → (s 31 = 0) → (s 33 = sB t) → (s 24 = co) → (s 25 = e) → (s 26 = a) → (s 27 = n) → (s 32 = 0) → (sInv a n w d lk lg) → (sChain (KL F0 (s0 7) e) a n co (F0 30) 0 0 0 t w d lk lg) → (∀ j : Int, 0 ≤ j → j < n → F 34 j = rdL F0 x k j) → (∀ (t' : Nat) (z : SR), t' < t → sEnd (KL F0 (s0 7) e) a n co (F0 30) 0 0 0 t' z → ¬ alike z.2.1 (rdL F0 x k) n) → ab_T l E Y_X10_rank 7 0 0 130 [some (vR m), some (vI e), some (vI a), some (vI x), some (vI k), some (vI n), some (vI (t : Int)), x7, x8] [] h (mC h0 m A s0 F0 [0, 6, 20, 21, 22, 23, 24, 25, 26, 27, 28, 29, 31, 32, 33] [5, 13, 14, 15, 30, 34] (fun r s' F' => ∃ c r9 : Int, r = some (vI r9) ∧ s' 0 = c ∧ rankSp s0 F0 (F0 30) e a x k c r9 (s' 23))) := by
  induction fu with
  | zero => intro t w d lk lg x7 x8 h s F hW hm; exact absurd hm (Nat.not_lt_zero _)
  | succ fu ih =>
    intro t w d lk lg x7 x8 h s F hW hm t0 e30 e28 e23 e29 e31 e33 e24 e25 e26 e27 e32 inv ch f34 no
    have cb := costUp_bd hco
    obtain ⟨v0, v1, v2, v3, v4, v5, v6, v7⟩ := id inv
    have tl := sChain_lk (by omega) t ch
    have tb : (t : Int) ≤ co * t := by rcases cb with e9 | e9 <;> rw [e9] <;> omega
    refine ab_aload_n (pc := 130) dX10_rank_130 rfl ?_
    refine ab_callV (pc := 131) (m_next (kp := KL F0 (s0 7) e) (b := sB t) hG hW.1 (hW.law (by decide)) (hW.sv 7 (by decide)) b7 c7 lb (Or.inl ⟨e32, by rw [e25]⟩) e26 a1 a8 e27 n6 e24 (by omega) (by omega) n0 e30 e28 e23 e29 e31 e33 (by unfold sB; split; exact Or.inl rfl; exact Or.inr rfl) inv) hW.obj rfl ⟨w1316, w5, w1319, by decide, pd20⟩ w1318 sp38 rfl (by decide) (by decide) (Nat.le_of_ble_eq_true rfl) rfl dX10_rank_131 (fun _ _ hx => absurd hx mC_no) ?_
    rintro _ h ⟨_, s1, F1, e9, hc1, ⟨o, w9, d9, lk9, lg9, nx, i30, i28, i23, i29, inv9, ho, hf⟩, i33⟩
    cases e9
    replace hW := hW.call hc1 (by decide) (by decide)
    have nl := sNext_lk (by omega) nx
    have q9 : lk9 ≤ 20000 := inv9.2.2.2.2.2.1
    rcases ho with ⟨rfl, rfl, i31⟩ | ⟨rfl, rfl, i31⟩ | ⟨rfl, rfl, i31⟩
    · refine ab_if_eq (pc := 134) 199 dX10_rank_134 (by decide) (fun c134 => absurd c134 (by omega)) (fun c134 => ?_)
      refine ab_iconst (pc := 137) dX10_rank_137 (by decide) ?_
      refine ab_istore (pc := 138) dX10_rank_138 rfl (Nat.le_of_ble_eq_true rfl) ?_
      refine ab_iconst (pc := 140) dX10_rank_140 (by decide) ?_
      refine ab_istore (pc := 141) dX10_rank_141 rfl (Nat.le_of_ble_eq_true rfl) ?_
      refine m_rank_143 (w := w9) hW n0 n6 i30 (fun j j0 j1 => by rw [(hc1.Fv 34 (by decide))]; exact f34 j j0 j1) (fun u j hu => ?_) _ 0 1 (Nat.lt_succ_self _) (by omega) n0 (Or.inl ⟨rfl, fun i i0 i1 => absurd i1 (by omega)⟩)
      refine ab_iload (pc := 185) dX10_rank_185 rfl ?_
      refine ab_if_eq (pc := 187) 193 dX10_rank_187 (by decide) (fun c187 => ?_) (fun c187 => ?_)
      · refine ab_iinc (pc := 193) dX10_rank_193 rfl rfl (by decide) (by omega) (by omega) ?_
        refine ab_goto (pc := 196) 130 dX10_rank_196 (by decide) ?_
        have na : ¬ alike w9 (rdL F0 x k) n := by rcases hu with g | g; (exfalso; omega); exact g.2
        exact ih (t + 1) w9 d9 lk9 lg9 _ _ _ _ _ hW (by omega) ((hc1.sv 0 (by decide)).trans t0) i30 i28 i23 i29 i31 i33 ((hc1.sv 24 (by decide)).trans e24) ((hc1.sv 25 (by decide)).trans e25) ((hc1.sv 26 (by decide)).trans e26) ((hc1.sv 27 (by decide)).trans e27) ((hc1.sv 32 (by decide)).trans e32) inv9 ⟨w, d, lk, lg, ch, nx⟩ (fun j j0 j1 => by rw [hc1.Fv 34 (by decide)]; exact f34 j j0 j1) (fun t9 z ht hz => by by_cases e9 : t9 = t; (subst e9; rw [sEnd_fun hz ⟨w, d, lk, lg, ch, nx⟩]; exact na); exact no t9 z (by omega) hz)
      · refine ab_iload (pc := 190) dX10_rank_190 rfl ?_
        refine ab_iret (pc := 192) dX10_rank_192 rfl ?_
        have ya : alike w9 (rdL F0 x k) n := by rcases hu with g | g; exact g.2; (exfalso; omega)
        exact ⟨_, _, _, rfl, hW, 0, _, rfl, ((hc1.sv 0 (by decide)).trans t0), Or.inr (Or.inr ⟨mok, hrow, rfl, Or.inr ⟨n, n0, hrd, Or.inr (Or.inr ⟨hlt, hkl, co, t, _, ⟨hco, w, d, lk, lg, ch, nx⟩, i23, no, Or.inl ⟨rfl, ya, rfl⟩⟩)⟩⟩)⟩
    · refine ab_if_eq (pc := 134) 199 dX10_rank_134 (by decide) (fun c134 => ?_) (fun c134 => absurd c134 (by omega))
      refine ab_bipush (pc := 199) dX10_rank_199 (by decide) ?_
      refine ab_iret (pc := 201) dX10_rank_201 rfl ?_
      first
      | (exact ⟨_, _, _, rfl, hW, 0, -2, rfl, ((hc1.sv 0 (by decide)).trans t0), Or.inr (Or.inr ⟨mok, hrow, rfl, Or.inr ⟨n, n0, hrd, Or.inr (Or.inr ⟨hlt, hkl, co, t, _, ⟨hco, w, d, lk, lg, ch, nx⟩, i23, no, Or.inr ⟨(show (0 : Int) ≠ 1 by decide), rfl⟩⟩)⟩⟩)⟩)
      | (exact ⟨_, _, _, rfl, hW, 0, -2, rfl, ((hc1.sv 0 (by decide)).trans t0), Or.inr (Or.inr ⟨mok, hrow, rfl, Or.inr ⟨n, n0, hrd, Or.inr (Or.inr ⟨hlt, hkl, co, t, _, ⟨hco, w, d, lk, lg, ch, nx⟩, i23, no, Or.inr ⟨(show (-2 : Int) ≠ 1 by decide), rfl⟩⟩)⟩⟩)⟩)
    · refine ab_if_eq (pc := 134) 199 dX10_rank_134 (by decide) (fun c134 => ?_) (fun c134 => absurd c134 (by omega))
      refine ab_bipush (pc := 199) dX10_rank_199 (by decide) ?_
      refine ab_iret (pc := 201) dX10_rank_201 rfl ?_
      first
      | (exact ⟨_, _, _, rfl, hW, 0, -2, rfl, ((hc1.sv 0 (by decide)).trans t0), Or.inr (Or.inr ⟨mok, hrow, rfl, Or.inr ⟨n, n0, hrd, Or.inr (Or.inr ⟨hlt, hkl, co, t, _, ⟨hco, w, d, lk, lg, ch, nx⟩, i23, no, Or.inr ⟨(show (0 : Int) ≠ 1 by decide), rfl⟩⟩)⟩⟩)⟩)
      | (exact ⟨_, _, _, rfl, hW, 0, -2, rfl, ((hc1.sv 0 (by decide)).trans t0), Or.inr (Or.inr ⟨mok, hrow, rfl, Or.inr ⟨n, n0, hrd, Or.inr (Or.inr ⟨hlt, hkl, co, t, _, ⟨hco, w, d, lk, lg, ch, nx⟩, i23, no, Or.inr ⟨(show (-2 : Int) ≠ 1 by decide), rfl⟩⟩)⟩⟩)⟩)
theorem m_rank_48 {e a x k n : Int} (n0 : 0 ≤ n) (n6 : n ≤ 60) (mok : msOk s0 e a) (hrow : isRow s0 x k) (hrd : isRd F0 x k n) (hC : ∀ (i : Int) (h : AbH) (s : Nat → Int) (F : Nat → Int → Int), mW h0 m A s0 F0 [0, 6, 20, 21, 22, 23, 24, 25, 26, 27, 28, 29, 31, 32, 33] [5, 13, 14, 15, 30, 34] h s F → s 0 = 0 → s 23 = s0 23 → F 30 = F0 30 → (∀ j : Int, 0 ≤ j → j < n → F 34 j = rdL F0 x k j) → (∀ j : Int, 0 ≤ j → j < n → rdL F0 x k j < a) → ab_T l E Y_X10_rank 7 0 0 88 [some (vR m), some (vI e), some (vI a), some (vI x), some (vI k), some (vI n), some (vI i), none, none] [] h (mC h0 m A s0 F0 [0, 6, 20, 21, 22, 23, 24, 25, 26, 27, 28, 29, 31, 32, 33] [5, 13, 14, 15, 30, 34] (fun r s' F' => ∃ c r9 : Int, r = some (vI r9) ∧ s' 0 = c ∧ rankSp s0 F0 (F0 30) e a x k c r9 (s' 23)))) (fu : Nat) : ∀ (i : Int) (h : AbH) (s : Nat → Int) (F : Nat → Int → Int), mW h0 m A s0 F0 [0, 6, 20, 21, 22, 23, 24, 25, 26, 27, 28, 29, 31, 32, 33] [5, 13, 14, 15, 30, 34] h s F → (n - i).toNat < fu → (0 ≤ i) → (i ≤ n) → (s 0 = 0) → (s 23 = s0 23) → (F 30 = F0 30) → (∀ j : Int, 0 ≤ j → j < n → F 5 j = rdL F0 x k j) → (∀ j : Int, 0 ≤ j → j < i → F 34 j = rdL F0 x k j) → (∀ j : Int, 0 ≤ j → j < i → rdL F0 x k j < a) → ab_T l E Y_X10_rank 7 0 0 48 [some (vR m), some (vI e), some (vI a), some (vI x), some (vI k), some (vI n), some (vI i), none, none] [] h (mC h0 m A s0 F0 [0, 6, 20, 21, 22, 23, 24, 25, 26, 27, 28, 29, 31, 32, 33] [5, 13, 14, 15, 30, 34] (fun r s' F' => ∃ c r9 : Int, r = some (vI r9) ∧ s' 0 = c ∧ rankSp s0 F0 (F0 30) e a x k c r9 (s' 23))) := by
  induction fu with
  | zero => intro i h s F hW hm; exact absurd hm (Nat.not_lt_zero _)
  | succ fu ih =>
    intro i h s F hW hm i0 i1 t0 e23 e30 rd I lo
    refine ab_iload (pc := 48) dX10_rank_48 rfl ?_
    refine ab_iload (pc := 50) dX10_rank_50 rfl ?_
    refine ab_icmp_ge (pc := 52) 88 dX10_rank_52 (by decide) (fun c52 => ?_) (fun c52 => ?_)
    · exact hC _ _ _ _ hW t0 e23 e30 (fun j j0 j1 => I j j0 (by omega)) (fun j j0 j1 => lo j j0 (by omega))
    · refine ab_aload_n (pc := 55) dX10_rank_55 rfl ?_
      refine ab_get (pc := 56) (k := 34) (x := vR (A 34)) okX10 hW.obj rfl w1089 rfl dX10_rank_56 ?_
      refine ab_iload (pc := 59) dX10_rank_59 rfl ?_
      refine ab_aload_n (pc := 61) dX10_rank_61 rfl ?_
      refine ab_get (pc := 62) (k := 5) (x := vR (A 5)) okX10 hW.obj rfl w1060 rfl dX10_rank_62 ?_
      refine ab_iload (pc := 65) dX10_rank_65 rfl ?_
      refine ab_iald (pc := 67) (n := 80) (f := F 5) (hW.arr 5 rfl rfl) (by omega) (by omega) dX10_rank_67 ?_
      refine ab_iastG (pc := 68) (n := 80) (f := F 34) (hW.arr 34 rfl rfl) (by decide) (by omega) (by omega) dX10_rank_68 (fun h e9 n9 => ?_)
      replace hW := hW.wr (k := 34) rfl e9 n9 (by decide)
      clear e9 n9
      refine ab_aload_n (pc := 69) dX10_rank_69 rfl ?_
      refine ab_get (pc := 70) (k := 5) (x := vR (A 5)) okX10 hW.obj rfl w1060 rfl dX10_rank_70 ?_
      refine ab_iload (pc := 73) dX10_rank_73 rfl ?_
      refine ab_iald (pc := 75) (n := 80) (f := F 5) (hW.arr 5 rfl rfl) (by omega) (by omega) dX10_rank_75 ?_
      refine ab_iload_n (pc := 76) dX10_rank_76 rfl ?_
      refine ab_icmp_lt (pc := 77) 82 dX10_rank_77 (by decide) (fun c77 => ?_) (fun c77 => ?_)
      · refine ab_iinc (pc := 82) dX10_rank_82 rfl rfl (by decide) (by omega) (by omega) ?_
        refine ab_goto (pc := 85) 48 dX10_rank_85 (by decide) ?_
        refine ih (i + 1) _ _ _ hW (by omega) (by omega) (by omega) t0 e23 e30 rd (upto_E I (rd i i0 (by omega))) (fun j j0 j1 => ?_)
        by_cases e9 : j = i
        · have := rd i i0 (by omega); rw [e9]; omega
        · exact lo j j0 (by omega)
      · refine ab_iconst (pc := 80) dX10_rank_80 (by decide) ?_
        refine ab_iret (pc := 81) dX10_rank_81 rfl ?_
        have r9 := rd i i0 (by omega)
        exact ⟨_, _, _, rfl, hW, 0, -1, rfl, t0, Or.inr (Or.inr ⟨mok, hrow, rfl, Or.inr ⟨n, n0, hrd, Or.inl ⟨fun g => absurd (g i i0 (by omega)) (by omega), rfl, e23⟩⟩⟩)⟩
theorem m_rank (hG : ab_G l E) (hM : mR h0 m A s0 F0) {e a x k : Int} (n1 : s0 1 ≤ 16) (b3 : ∀ j, 0 ≤ j → j < 160 → -1 ≤ F0 3 j ∧ F0 3 j ≤ 80) (b7 : 0 ≤ s0 7) (c7 : s0 7 ≤ 12) (lb : ∀ q : Int, 0 ≤ q → q < s0 7 → lawB F0 q) : ab_M l E Y_X10_rank 9 7 0 0 [vR m, vI e, vI a, vI x, vI k] h0 (mC h0 m A s0 F0 [0, 6, 20, 21, 22, 23, 24, 25, 26, 27, 28, 29, 31, 32, 33] [5, 13, 14, 15, 30, 34] (fun r s' F' => ∃ c r9 : Int, r = some (vI r9) ∧ s' 0 = c ∧ rankSp s0 F0 (F0 30) e a x k c r9 (s' 23))) := by
  refine ab_M.of (L0 := [some (vR m), some (vI e), some (vI a), some (vI x), some (vI k), none, none, none, none]) hG rfl rfl (Nat.le_of_ble_eq_true rfl) rfl ?_
  have hW : mW h0 m A s0 F0 [0, 6, 20, 21, 22, 23, 24, 25, 26, 27, 28, 29, 31, 32, 33] [5, 13, 14, 15, 30, 34] h0 s0 F0 := mW.start hM
  have rb3 := b3
  refine ab_aload_n (pc := 0) dX10_rank_0 rfl ?_
  refine ab_iconst (pc := 1) dX10_rank_1 (by decide) ?_
  refine ab_putG (pc := 2) (k := 0) okX10 hW.obj (by decide) (by decide) trivial w1055 rfl (Or.inl rfl) dX10_rank_2 (fun h e9 n9 => ?_)
  replace hW := hW.put e9 n9 rfl (by decide)
  clear e9 n9
  refine ab_aload_n (pc := 5) dX10_rank_5 rfl ?_
  refine ab_iload_n (pc := 6) dX10_rank_6 rfl ?_
  refine ab_iload_n (pc := 7) dX10_rank_7 rfl ?_
  refine ab_callV (pc := 8) (m_maySearch (L := s0 7) hG hW.1 rfl (hW.sv 7 (by decide))) hW.obj rfl ⟨w1308, w5, w1311, by decide, pd73⟩ w1310 sp36 rfl (by decide) (by decide) (Nat.le_of_ble_eq_true rfl) rfl dX10_rank_8 (fun _ _ hx => absurd hx mC_no) ?_
  rintro _ h ⟨_, s1, F1, e9, hc1, hp1⟩
  cases e9
  replace hW := hW.call hc1 (by decide) (by decide)
  rcases hp1 with ⟨b1, b2, b3, b4, rfl, t1⟩ | ⟨b1, rfl, t1⟩
  · refine ab_if_eq (pc := 11) 25 dX10_rank_11 (by decide) (fun c11 => absurd c11 (by omega)) (fun c11 => ?_)
    refine ab_aload_n (pc := 14) dX10_rank_14 rfl ?_
    refine ab_iload_n (pc := 15) dX10_rank_15 rfl ?_
    refine ab_iload (pc := 16) dX10_rank_16 rfl ?_
    refine ab_iconst (pc := 18) dX10_rank_18 (by decide) ?_
    refine ab_callV (pc := 19) (m_isRow (n := s0 1) hG hW.1 t1 (by decide) (hW.sv 1 (by decide))) hW.obj rfl ⟨w1213, w5, w1216, by decide, pd51⟩ w1215 sp26 rfl (by decide) (by decide) (Nat.le_of_ble_eq_true rfl) rfl dX10_rank_19 (fun _ _ hx => absurd hx mC_no) ?_
    rintro _ h ⟨_, s2, F2, e9, hc2, hp2⟩
    cases e9
    replace hW := hW.call hc2 (by decide) (by decide)
    rcases hp2 with ⟨a1, a2, a3, a4, rfl, t2⟩ | ⟨a1, rfl, t2⟩
    · refine ab_if_ne (pc := 22) 27 dX10_rank_22 (by decide) (fun c22 => ?_) (fun c22 => absurd c22 (by omega))
      refine ab_aload_n (pc := 27) dX10_rank_27 rfl ?_
      refine ab_iload_n (pc := 28) dX10_rank_28 rfl ?_
      refine ab_iload (pc := 29) dX10_rank_29 rfl ?_
      refine ab_callV (pc := 31) (m_readsG (G := F0) hG hW.1 (hW.Fv 3 (by decide)) (hW.Fv 4 (by decide)) (by omega) (by omega) (by omega) (by omega) rb3) hW.obj rfl ⟨w1233, w5, w1236, by decide, pd73⟩ w1235 sp28 rfl (by decide) (by decide) (Nat.le_of_ble_eq_true rfl) rfl dX10_rank_31 (fun _ _ hx => absurd hx mC_no) ?_
      rintro _ h ⟨_, s3, F3, e9, hc3, hp3⟩
      cases e9
      replace hW := hW.call hc3 (by decide) (by decide)
      rcases hp3 with ⟨rfl, d1, d2, d3, d4, d5⟩ | ⟨rfl, d1, d2⟩
      · refine ab_if_ne (pc := 34) 39 dX10_rank_34 (by decide) (fun c34 => ?_) (fun c34 => absurd c34 (by omega))
        refine ab_aload_n (pc := 39) dX10_rank_39 rfl ?_
        refine ab_get (pc := 40) (k := 6) (x := vI (s3 6)) okX10 hW.obj (mg rfl rfl) w1061 rfl dX10_rank_40 ?_
        refine ab_istore (pc := 43) dX10_rank_43 rfl (Nat.le_of_ble_eq_true rfl) ?_
        refine ab_iconst (pc := 45) dX10_rank_45 (by decide) ?_
        refine ab_istore (pc := 46) dX10_rank_46 rfl (Nat.le_of_ble_eq_true rfl) ?_
        refine m_rank_48 (by omega) (by omega) ⟨⟨b1, b2⟩, b3, b4⟩ ⟨a1, a2, a3, a4⟩ d1 (fun i h s F hW t0 e23 e30 f34 hlt => ?_) _ 0 _ _ _ hW (Nat.lt_succ_self _) (by omega) (by omega) ((hc3.sv 0 (by decide)).trans t2) ((hc3.sv 23 (by decide)).trans ((hc2.sv 23 (by decide)).trans (hc1.sv 23 (by decide)))) ((hc3.Fv 30 (by decide)).trans ((hc2.Fv 30 (by decide)).trans (hc1.Fv 30 (by decide)))) d4 (fun j j0 j1 => absurd j1 (by omega)) (fun j j0 j1 => absurd j1 (by omega))
        have l7 : ∀ j : Int, 0 ≤ j → j < s3 6 → 0 ≤ F 34 j ∧ F 34 j ≤ 7 := fun j j0 j1 => by rw [f34 j j0 j1, ← d4 j j0 j1]; exact d5 j j0 j1
        refine ab_aload_n (pc := 88) dX10_rank_88 rfl ?_
        refine ab_iload_n (pc := 89) dX10_rank_89 rfl ?_
        refine ab_aload_n (pc := 90) dX10_rank_90 rfl ?_
        refine ab_get (pc := 91) (k := 34) (x := vR (A 34)) okX10 hW.obj rfl w1089 rfl dX10_rank_91 ?_
        refine ab_iload (pc := 94) dX10_rank_94 rfl ?_
        refine ab_callV (pc := 96) (m_findClashG (G := F0) (K := 34) hG hW.1 (by unfold wK; decide) (hW.law (by decide)) rfl (hW.sv 7 (by decide)) b7 c7 lb (by show _ ≤ (80 : Int); omega) l7 (by omega)) hW.obj rfl ⟨w1278, w5, w1281, by decide, pd61⟩ w1280 sp31 rfl (by decide) (by decide) (Nat.le_of_ble_eq_true rfl) rfl dX10_rank_96 (fun _ _ hx => absurd hx mC_no) ?_
        rintro _ h ⟨_, s4, F4, e9, hc4, rfl, hcl⟩
        cases e9
        replace hW := hW.call hc4 (by decide) (by decide)
        refine ab_aload_n (pc := 99) dX10_rank_99 rfl ?_
        refine ab_get (pc := 100) (k := 20) (x := vI (s4 20)) okX10 hW.obj (mg rfl rfl) w1075 rfl dX10_rank_100 ?_
        refine ab_iconst (pc := 103) dX10_rank_103 (by decide) ?_
        refine ab_icmp_eq (pc := 104) 109 dX10_rank_104 (by decide) (fun c104 => ?_) (fun c104 => ?_)
        · have hkl : ∀ u : Int, 1 ≤ u → u ≤ ((s3 6)) → KL F0 (s0 7) e (rdL F0 x k) u := by rcases hcl with g | g; exact fun u u0 u1 => (g.2 u u0 u1).congr (fun j j0 j1 => f34 j j0 (by omega)); (exfalso; have := g.1; omega)
          refine ab_aload_n (pc := 109) dX10_rank_109 rfl ?_
          refine ab_iconst (pc := 110) dX10_rank_110 (by decide) ?_
          refine ab_putG (pc := 111) (k := 23) okX10 hW.obj (by decide) (by decide) trivial w1078 rfl (Or.inl rfl) dX10_rank_111 (fun h e9 n9 => ?_)
          replace hW := hW.put e9 n9 rfl (by decide)
          clear e9 n9
          refine ab_aload_n (pc := 114) dX10_rank_114 rfl ?_
          refine ab_iconst (pc := 115) dX10_rank_115 (by decide) ?_
          refine ab_putG (pc := 116) (k := 32) okX10 hW.obj (by decide) (by decide) (by show _ ∨ _; omega) w1087 rfl (Or.inl rfl) dX10_rank_116 (fun h e9 n9 => ?_)
          replace hW := hW.put e9 n9 rfl (by decide)
          clear e9 n9
          refine ab_aload_n (pc := 119) dX10_rank_119 rfl ?_
          refine ab_iload_n (pc := 120) dX10_rank_120 rfl ?_
          refine ab_iload_n (pc := 121) dX10_rank_121 rfl ?_
          refine ab_iload (pc := 122) dX10_rank_122 rfl ?_
          refine ab_callV (pc := 124) (m_beginSearchG (G := F0) hG hW.1 (hW.Fv 8 (by decide)) (hW.sv 7 (by decide)) rfl b7 c7) hW.obj rfl ⟨w1312, w5, w1315, by decide, pd13⟩ w1314 sp37 rfl (by decide) (by decide) (Nat.le_of_ble_eq_true rfl) rfl dX10_rank_124 (fun _ _ hx => absurd hx mC_no) ?_
          rintro _ h ⟨_, s5, F5, e9, hc5, rfl, j25, j26, j27, jco, j28, j29, j33, j31⟩
          cases e9
          replace hW := hW.call hc5 (by decide) (by decide)
          have cb := costUp_bd jco
          refine ab_iconst (pc := 127) dX10_rank_127 (by decide) ?_
          refine ab_istore (pc := 128) dX10_rank_128 rfl (Nat.le_of_ble_eq_true rfl) ?_
          skip
          exact m_rank_130 hG b7 c7 lb b3 b4 d2 d3 jco ⟨⟨b1, b2⟩, b3, b4⟩ ⟨a1, a2, a3, a4⟩ d1 hlt hkl _ 0 (F0 30) 0 0 0 _ _ _ _ _ hW (Nat.lt_succ_self _) ((hc5.sv 0 (by decide)).trans ((hc4.sv 0 (by decide)).trans t0)) ((hc5.Fv 30 (by decide)).trans ((hc4.Fv 30 (by decide)).trans e30)) j28 (hc5.sv 23 (by decide)) j29 j31 j33 rfl j25 j26 j27 (hc5.sv 32 (by decide)) ⟨by omega, by omega, fun j j0 j1 => absurd j1 (by omega), fun e9 => absurd e9 (by omega), by omega, by omega, by omega, by omega⟩ ⟨rfl, rfl, rfl, rfl⟩ (fun j j0 j1 => by rw [((hc5.Fv 34 (by decide)).trans (hc4.Fv 34 (by decide)))]; exact f34 j j0 j1) (fun t9 z ht => absurd ht (Nat.not_lt_zero _))
        · refine ab_iconst (pc := 107) dX10_rank_107 (by decide) ?_
          refine ab_iret (pc := 108) dX10_rank_108 rfl ?_
          have nk : ¬ ∀ u : Int, 1 ≤ u → u ≤ ((s3 6)) → KL F0 (s0 7) e (rdL F0 x k) u := by rcases hcl with g | ⟨g1, g2, g3, g4, g5, g6, g7, g8, g9, g10, g11⟩; (exfalso; have := g.1; omega); exact fun q => q _ g1 g2 _ g4 g5 g6 _ (by omega) (by omega) (g10.congr (fun j j0 j1 => f34 j (by omega) (by omega)))
          exact ⟨_, _, _, rfl, hW, 0, -1, rfl, ((hc4.sv 0 (by decide)).trans t0), Or.inr (Or.inr ⟨⟨⟨b1, b2⟩, b3, b4⟩, ⟨a1, a2, a3, a4⟩, rfl, Or.inr ⟨_, d2, d1, Or.inr (Or.inl ⟨hlt, nk, rfl, ((hc4.sv 23 (by decide)).trans e23)⟩)⟩⟩)⟩
      · refine ab_if_ne (pc := 34) 39 dX10_rank_34 (by decide) (fun c34 => absurd c34 (by omega)) (fun c34 => ?_)
        refine ab_iconst (pc := 37) dX10_rank_37 (by decide) ?_
        refine ab_iret (pc := 38) dX10_rank_38 rfl ?_
        exact ⟨_, _, _, rfl, hW, 0, -1, rfl, ((hc3.sv 0 (by decide)).trans t2), Or.inr (Or.inr ⟨⟨⟨b1, b2⟩, b3, b4⟩, ⟨a1, a2, a3, a4⟩, rfl, Or.inl ⟨d1, rfl, ((hc3.sv 23 (by decide)).trans ((hc2.sv 23 (by decide)).trans (hc1.sv 23 (by decide))))⟩⟩)⟩
    · refine ab_if_ne (pc := 22) 27 dX10_rank_22 (by decide) (fun c22 => absurd c22 (by omega)) (fun c22 => ?_)
      refine ab_iconst (pc := 25) dX10_rank_25 (by decide) ?_
      refine ab_iret (pc := 26) dX10_rank_26 rfl ?_
      first
      | (exact ⟨_, _, _, rfl, hW, 1, 0, rfl, t2, Or.inl ⟨by omega, rfl, rfl, ((hc2.sv 23 (by decide)).trans (hc1.sv 23 (by decide)))⟩⟩)
      | (exact ⟨_, _, _, rfl, hW, 2, 0, rfl, t2, Or.inr (Or.inl ⟨⟨⟨b1, b2⟩, b3, b4⟩, by omega, rfl, rfl, ((hc2.sv 23 (by decide)).trans (hc1.sv 23 (by decide)))⟩)⟩)
  · refine ab_if_eq (pc := 11) 25 dX10_rank_11 (by decide) (fun c11 => ?_) (fun c11 => absurd c11 (by omega))
    refine ab_iconst (pc := 25) dX10_rank_25 (by decide) ?_
    refine ab_iret (pc := 26) dX10_rank_26 rfl ?_
    first
    | (exact ⟨_, _, _, rfl, hW, 1, 0, rfl, t1, Or.inl ⟨by omega, rfl, rfl, (hc1.sv 23 (by decide))⟩⟩)
    | (exact ⟨_, _, _, rfl, hW, 2, 0, rfl, t1, Or.inr (Or.inl ⟨⟨⟨b1, b2⟩, b3, b4⟩, by omega, rfl, rfl, (hc1.sv 23 (by decide))⟩)⟩)
end M12
