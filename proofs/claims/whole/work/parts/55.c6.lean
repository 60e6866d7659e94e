/-! the class: a search -/
section C6
variable {l : Launch} {E : AbE} {h0 : AbH}
theorem c_takeLook (hG : ab_G l E) {sr mk la : Nat} {e al n co lk fo lg sz nx bg : Int} (hs : h0 sr = some (kO 8 3 [vR mk, vR la, vI e, vI al, vI n, vI co, vI lk, vI fo, vI lg, vI sz, vI nx, vI bg])) (l0 : 0 ≤ lk) (l1 : lk ≤ 20000) (c0 : 0 ≤ co) (c1 : co ≤ 10) : ab_M l E Y_X4_takeLook 1 0 0 0 [vR sr] h0 (cC h0 [8] (fun r h' => ∃ v : Int, r = some (vI v) ∧ ((v = 0 ∧ 20000 < lk + co ∧ h' sr = some (kO 8 3 [vR mk, vR la, vI e, vI al, vI n, vI co, vI lk, vI fo, vI lg, vI sz, vI nx, vI bg])) ∨ (v = 1 ∧ ¬ 20000 < lk + co ∧ h' sr = some (kO 8 3 [vR mk, vR la, vI e, vI al, vI n, vI co, vI (lk + co), vI fo, vI lg, vI sz, vI nx, vI bg]))))) := by
  refine ab_M.of (L0 := [some (vR sr)]) hG rfl rfl (Nat.le_of_ble_eq_true rfl) rfl ?_
  have kp : ab_kp (cP [8]) h0 h0 := ab_kp0
  refine ab_aload_n (pc := 0) dX4_takeLook_0 rfl ?_
  refine ab_get (pc := 1) (k := 6) okX4 hs rfl w77 rfl dX4_takeLook_1 ?_
  refine ab_aload_n (pc := 4) dX4_takeLook_4 rfl ?_
  refine ab_get (pc := 5) (k := 5) okX4 hs rfl w76 rfl dX4_takeLook_5 ?_
  refine ab_iadd (pc := 8) dX4_takeLook_8 (by omega) (by omega) ?_
  refine ab_sipush (pc := 9) dX4_takeLook_9 (by decide) ?_
  refine ab_icmp_le (pc := 12) 17 dX4_takeLook_12 (by decide) (fun c12 => ?_) (fun c12 => ?_)
  · refine ab_aload_n (pc := 17) dX4_takeLook_17 rfl ?_
    refine ab_dup (pc := 18) dX4_takeLook_18 rfl ?_
    refine ab_get (pc := 19) (k := 6) okX4 hs rfl w77 rfl dX4_takeLook_19 ?_
    refine ab_aload_n (pc := 22) dX4_takeLook_22 rfl ?_
    refine ab_get (pc := 23) (k := 5) okX4 hs rfl w76 rfl dX4_takeLook_23 ?_
    refine ab_iadd (pc := 26) dX4_takeLook_26 (by omega) (by omega) ?_
    refine ab_putG (pc := 27) (k := 6) okX4 hs (by decide) (by decide) trivial w77 rfl (Or.inl rfl) dX4_takeLook_27 (fun h e9 n9 => ?_)
    replace kp := kp.wr hs (cP_no (by simp)) n9
    replace hs := e9
    clear e9 n9
    refine ab_iconst (pc := 30) dX4_takeLook_30 (by decide) ?_
    refine ab_zret (pc := 31) dX4_takeLook_31 rfl (by omega) ?_
    exact ⟨_, rfl, kp, _, rfl, Or.inr ⟨rfl, by omega, hs⟩⟩
  · refine ab_iconst (pc := 15) dX4_takeLook_15 (by decide) ?_
    refine ab_zret (pc := 16) dX4_takeLook_16 rfl (by omega) ?_
    exact ⟨_, rfl, kp, _, rfl, Or.inl ⟨rfl, by omega, hs⟩⟩
theorem c_putBehind (hG : ab_G l E) {sr mk la gl N9 mb : Nat} {SA : Int → Option Nat} {F : Nat → Int → Int} {G e al n co : Int} (Lm : List Nat) {lk fo lg sz nx bg : Int} {f9 : Int → Int} (hs : h0 sr = some (kO 8 3 [vR mk, vR la, vI e, vI al, vI n, vI co, vI lk, vI fo, vI lg, vI sz, vI nx, vI bg])) (hm : h0 mk = some (kI 9 60 f9)) (hl : h0 la = some (kA gl "WordBench$Law" N9 SA)) (lr : lawsR h0 N9 SA G mb F) (er : -2147483648 ≤ e ∧ e < 2147483648) (N12 : N9 ≤ 12) (GN : G ≤ N9) (m0 : 201 ≤ mb) (gl0 : gl < 200) (gl8 : gl ≠ 8 ∧ gl ≠ 9) (glL : gl ∉ Lm) (l8 : 8 ∉ Lm) (l9 : 9 ∉ Lm) (lb : ∀ q : Int, 0 ≤ q → q < G → lawB F q) (hL : ∀ q : Int, 0 ≤ q → q < G → F 8 q = 5 → 200 ∈ Lm ∧ mb + 8 * N9 < 400) (al8 : al ≤ 8) (fo0 : 0 ≤ fo) (fo1 : fo ≤ 100000) (z0 : 0 ≤ sz) (z1 : sz < n) (n60 : n ≤ 60) (x0 : 0 ≤ nx) (x1 : nx < al) (g0 : 0 ≤ lg) (g1 : lg ≤ 60) (lf : ∀ j : Int, 0 ≤ j → j < sz → 0 ≤ f9 j ∧ f9 j < al) (kpt : ∀ u : Int, 1 ≤ u → u ≤ sz → KL F G e f9 u) : ab_M l E Y_X4_putBehind 1 10 0 0 [vR sr] h0 (cC h0 (8 :: 9 :: Lm) (fun r h' => ∃ v lg2 fo2 sz2 nx2 : Int, r = some (vI v) ∧ h' sr = some (kO 8 3 [vR mk, vR la, vI e, vI al, vI n, vI co, vI lk, vI fo2, vI lg2, vI sz2, vI nx2, vI bg]) ∧ h' mk = some (kI 9 60 (ab_f f9 sz nx)) ∧ lawsR h' N9 SA G mb F ∧ ((v = 0 ∧ ¬ KL F G e (ab_f f9 sz nx) (sz + 1) ∧ lg2 = lg ∧ fo2 = fo ∧ sz2 = sz ∧ nx2 = nx + 1) ∨ (v = 1 ∧ KL F G e (ab_f f9 sz nx) (sz + 1) ∧ n ≤ sz + 1 ∧ lg2 = (if lg < sz + 1 then sz + 1 else lg) ∧ fo2 = fo + 1 ∧ sz2 = sz ∧ nx2 = nx + 1) ∨ (v = 0 ∧ KL F G e (ab_f f9 sz nx) (sz + 1) ∧ sz + 1 < n ∧ lg2 = (if lg < sz + 1 then sz + 1 else lg) ∧ fo2 = fo ∧ sz2 = sz + 1 ∧ nx2 = 0)))) := by
  refine ab_M.of (L0 := [some (vR sr)]) hG rfl rfl (Nat.le_of_ble_eq_true rfl) rfl ?_
  have kp : ab_kp (cP (8 :: 9 :: Lm)) h0 h0 := ab_kp0
  have lt7 : ∀ i : Int, 0 ≤ i → i < sz + 1 → 0 ≤ ab_f f9 sz nx i ∧ ab_f f9 sz nx i ≤ 7 := fun i i0 i1 => by
    by_cases g9 : i = sz
    · rw [ab_f_eq g9]; omega
    · rw [ab_f_ne g9]; have := lf i i0 (by omega); omega
  have kept : ∀ q : Int, 0 ≤ q → q < G → inS e q → F 8 q = 5 → ∀ a u : Int, 0 ≤ a → a < u → u < sz + 1 → ¬ Bar F q (ab_f f9 sz nx) a u := fun q q0 q1 qS _ a u a0 a1 a2 => (kpt u (by omega) (by omega)).congr (fun j j0 j1 => (ab_f_ne (by omega)).symm) q q0 q1 qS a a0 a1
  have hk1 : ∀ v, barR F G e (ab_f f9 sz nx) (sz + 1) v → v ≠ -1 → ¬ KL F G e (ab_f f9 sz nx) (sz + 1) := fun v hb hv hK => by
    rcases hb with ⟨b, _⟩ | ⟨b0, b1, b2, ⟨a, a0, a1, a2⟩, _⟩
    · exact hv b
    · exact hK v b0 b1 b2 a a0 a1 a2
  have hk2 : ∀ v, barR F G e (ab_f f9 sz nx) (sz + 1) v → v = -1 → KL F G e (ab_f f9 sz nx) (sz + 1) := fun v hb hv => by
    rcases hb with ⟨_, b⟩ | ⟨b0, _⟩
    · exact b
    · omega
  refine ab_aload_n (pc := 0) dX4_putBehind_0 rfl ?_
  refine ab_get (pc := 1) (k := 0) okX4 hs rfl w70 rfl dX4_putBehind_1 ?_
  refine ab_aload_n (pc := 4) dX4_putBehind_4 rfl ?_
  refine ab_get (pc := 5) (k := 9) okX4 hs rfl w83 rfl dX4_putBehind_5 ?_
  refine ab_aload_n (pc := 8) dX4_putBehind_8 rfl ?_
  refine ab_get (pc := 9) (k := 10) okX4 hs rfl w84 rfl dX4_putBehind_9 ?_
  refine ab_iastG (pc := 12) hm (by decide) (by omega) (by omega) dX4_putBehind_12 (fun h e9 n9 => ?_)
  replace hs := (n9 _ (ab_ne hs hm (by first | (simp; done) | (simp; omega)))).trans hs
  replace hl := (n9 _ (ab_ne hl hm (by first | (simp; done) | (simp; omega)))).trans hl
  replace lr := lr.kp (ab_kp_wr1 hm n9) (fun j j0 j1 => (by unfold cP; first | (simp; done) | (simp; omega)))
  replace kp := kp.wr hm (cP_no (by simp)) n9
  replace hm := e9
  clear e9 n9
  refine ab_aload_n (pc := 13) dX4_putBehind_13 rfl ?_
  refine ab_dup (pc := 14) dX4_putBehind_14 rfl ?_
  refine ab_get (pc := 15) (k := 10) okX4 hs rfl w84 rfl dX4_putBehind_15 ?_
  refine ab_iconst (pc := 18) dX4_putBehind_18 (by decide) ?_
  refine ab_iadd (pc := 19) dX4_putBehind_19 (by omega) (by omega) ?_
  refine ab_putG (pc := 20) (k := 10) okX4 hs (by decide) (by decide) trivial w84 rfl (Or.inl rfl) dX4_putBehind_20 (fun h e9 n9 => ?_)
  replace hm := (n9 _ (ab_ne hm hs (by first | (simp; done) | (simp; omega)))).trans hm
  replace hl := (n9 _ (ab_ne hl hs (by first | (simp; done) | (simp; omega)))).trans hl
  replace lr := lr.kp (ab_kp_wr1 hs n9) (fun j j0 j1 => (by unfold cP; first | (simp; done) | (simp; omega)))
  replace kp := kp.wr hs (cP_no (by simp)) n9
  replace hs := e9
  clear e9 n9
  refine ab_aload_n (pc := 23) dX4_putBehind_23 rfl ?_
  refine ab_get (pc := 24) (k := 1) okX4 hs rfl w72 rfl dX4_putBehind_24 ?_
  refine ab_aload_n (pc := 27) dX4_putBehind_27 rfl ?_
  refine ab_get (pc := 28) (k := 2) okX4 hs rfl w73 rfl dX4_putBehind_28 ?_
  refine ab_aload_n (pc := 31) dX4_putBehind_31 rfl ?_
  refine ab_get (pc := 32) (k := 0) okX4 hs rfl w70 rfl dX4_putBehind_32 ?_
  refine ab_aload_n (pc := 35) dX4_putBehind_35 rfl ?_
  refine ab_get (pc := 36) (k := 9) okX4 hs rfl w83 rfl dX4_putBehind_36 ?_
  refine ab_iconst (pc := 39) dX4_putBehind_39 (by decide) ?_
  refine ab_iadd (pc := 40) dX4_putBehind_40 (by omega) (by omega) ?_
  refine ab_callSN (pc := 41) (c_barring hG Lm hl hm lr er N12 GN m0 gl0 (by decide) glL l9 (by omega) (by show sz + 1 ≤ (60 : Int); omega) (by decide) lb hL (fun q q0 q1 _ => ⟨Nat.le_refl _, lt7⟩) kept) (fun _ _ hx => absurd hx cC_no) ⟨w840, w1, w755, by decide, pd54⟩ w754 rfl (by omega) (by decide) (Nat.le_of_ble_eq_true rfl) dX4_putBehind_41 ?_
  rintro _ h ⟨_, e9, kq, bv, rfl, lr2, hbv⟩
  cases e9
  replace hs := kq _ _ hs ⟨l8, fun a9 => absurd (show 200 ≤ 8 from a9) (by decide)⟩
  replace hm := kq _ _ hm ⟨l9, fun a9 => absurd (show 200 ≤ 9 from a9) (by decide)⟩
  replace hl := kq _ _ hl ⟨glL, fun a9 => absurd a9 (by show ¬ 200 ≤ gl; omega)⟩
  replace kp := kp.cal kq (fun g hg => Or.inl (by simp [hg]))
  replace lr := lr2
  refine ab_iconst (pc := 44) dX4_putBehind_44 (by decide) ?_
  refine ab_icmp_eq (pc := 45) 50 dX4_putBehind_45 (by decide) (fun c45 => ?_) (fun c45 => ?_)
  · refine ab_aload_n (pc := 50) dX4_putBehind_50 rfl ?_
    refine ab_aload_n (pc := 51) dX4_putBehind_51 rfl ?_
    refine ab_get (pc := 52) (k := 8) okX4 hs rfl w81 rfl dX4_putBehind_52 ?_
    refine ab_aload_n (pc := 55) dX4_putBehind_55 rfl ?_
    refine ab_get (pc := 56) (k := 9) okX4 hs rfl w83 rfl dX4_putBehind_56 ?_
    refine ab_iconst (pc := 59) dX4_putBehind_59 (by decide) ?_
    refine ab_iadd (pc := 60) dX4_putBehind_60 (by omega) (by omega) ?_
    refine ab_callS (pc := 61) (c_max hG) ⟨w841, w19, w360, by decide, pd18⟩ w359 rfl (by omega) (by decide) (Nat.le_of_ble_eq_true rfl) rfl dX4_putBehind_61 (fun _ _ hx => absurd hx pC_no) ?_
    rintro _ _ ⟨mv, e9, rfl, hmv⟩
    cases e9
    have em : mv = (if lg < sz + 1 then sz + 1 else lg) := by split <;> omega
    rw [em]
    refine ab_putG (pc := 64) (k := 8) okX4 hs (by decide) (by decide) trivial w81 rfl (Or.inl rfl) dX4_putBehind_64 (fun h e9 n9 => ?_)
    replace hm := (n9 _ (ab_ne hm hs (by first | (simp; done) | (simp; omega)))).trans hm
    replace hl := (n9 _ (ab_ne hl hs (by first | (simp; done) | (simp; omega)))).trans hl
    replace lr := lr.kp (ab_kp_wr1 hs n9) (fun j j0 j1 => (by unfold cP; first | (simp; done) | (simp; omega)))
    replace kp := kp.wr hs (cP_no (by simp)) n9
    replace hs := e9
    clear e9 n9
    refine ab_aload_n (pc := 67) dX4_putBehind_67 rfl ?_
    refine ab_get (pc := 68) (k := 9) okX4 hs rfl w83 rfl dX4_putBehind_68 ?_
    refine ab_iconst (pc := 71) dX4_putBehind_71 (by decide) ?_
    refine ab_iadd (pc := 72) dX4_putBehind_72 (by omega) (by omega) ?_
    refine ab_aload_n (pc := 73) dX4_putBehind_73 rfl ?_
    refine ab_get (pc := 74) (k := 4) okX4 hs rfl w75 rfl dX4_putBehind_74 ?_
    refine ab_icmp_lt (pc := 77) 92 dX4_putBehind_77 (by decide) (fun c77 => ?_) (fun c77 => ?_)
    · refine ab_aload_n (pc := 92) dX4_putBehind_92 rfl ?_
      refine ab_dup (pc := 93) dX4_putBehind_93 rfl ?_
      refine ab_get (pc := 94) (k := 9) okX4 hs rfl w83 rfl dX4_putBehind_94 ?_
      refine ab_iconst (pc := 97) dX4_putBehind_97 (by decide) ?_
      refine ab_iadd (pc := 98) dX4_putBehind_98 (by omega) (by omega) ?_
      refine ab_putG (pc := 99) (k := 9) okX4 hs (by decide) (by decide) trivial w83 rfl (Or.inl rfl) dX4_putBehind_99 (fun h e9 n9 => ?_)
      replace hm := (n9 _ (ab_ne hm hs (by first | (simp; done) | (simp; omega)))).trans hm
      replace hl := (n9 _ (ab_ne hl hs (by first | (simp; done) | (simp; omega)))).trans hl
      replace lr := lr.kp (ab_kp_wr1 hs n9) (fun j j0 j1 => (by unfold cP; first | (simp; done) | (simp; omega)))
      replace kp := kp.wr hs (cP_no (by simp)) n9
      replace hs := e9
      clear e9 n9
      refine ab_aload_n (pc := 102) dX4_putBehind_102 rfl ?_
      refine ab_iconst (pc := 103) dX4_putBehind_103 (by decide) ?_
      refine ab_putG (pc := 104) (k := 10) okX4 hs (by decide) (by decide) trivial w84 rfl (Or.inl rfl) dX4_putBehind_104 (fun h e9 n9 => ?_)
      replace hm := (n9 _ (ab_ne hm hs (by first | (simp; done) | (simp; omega)))).trans hm
      replace hl := (n9 _ (ab_ne hl hs (by first | (simp; done) | (simp; omega)))).trans hl
      replace lr := lr.kp (ab_kp_wr1 hs n9) (fun j j0 j1 => (by unfold cP; first | (simp; done) | (simp; omega)))
      replace kp := kp.wr hs (cP_no (by simp)) n9
      replace hs := e9
      clear e9 n9
      refine ab_iconst (pc := 107) dX4_putBehind_107 (by decide) ?_
      refine ab_zret (pc := 108) dX4_putBehind_108 rfl (by omega) ?_
      exact ⟨_, rfl, kp, _, _, _, _, _, rfl, hs, hm, lr, Or.inr (Or.inr ⟨rfl, hk2 _ hbv c45, by omega, rfl, rfl, rfl, rfl⟩)⟩
    · refine ab_aload_n (pc := 80) dX4_putBehind_80 rfl ?_
      refine ab_dup (pc := 81) dX4_putBehind_81 rfl ?_
      refine ab_get (pc := 82) (k := 7) okX4 hs rfl w79 rfl dX4_putBehind_82 ?_
      refine ab_iconst (pc := 85) dX4_putBehind_85 (by decide) ?_
      refine ab_iadd (pc := 86) dX4_putBehind_86 (by omega) (by omega) ?_
      refine ab_putG (pc := 87) (k := 7) okX4 hs (by decide) (by decide) trivial w79 rfl (Or.inl rfl) dX4_putBehind_87 (fun h e9 n9 => ?_)
      replace hm := (n9 _ (ab_ne hm hs (by first | (simp; done) | (simp; omega)))).trans hm
      replace hl := (n9 _ (ab_ne hl hs (by first | (simp; done) | (simp; omega)))).trans hl
      replace lr := lr.kp (ab_kp_wr1 hs n9) (fun j j0 j1 => (by unfold cP; first | (simp; done) | (simp; omega)))
      replace kp := kp.wr hs (cP_no (by simp)) n9
      replace hs := e9
      clear e9 n9
      refine ab_iconst (pc := 90) dX4_putBehind_90 (by decide) ?_
      refine ab_zret (pc := 91) dX4_putBehind_91 rfl (by omega) ?_
      exact ⟨_, rfl, kp, _, _, _, _, _, rfl, hs, hm, lr, Or.inr (Or.inl ⟨rfl, hk2 _ hbv c45, by omega, rfl, rfl, rfl, rfl⟩)⟩
  · refine ab_iconst (pc := 48) dX4_putBehind_48 (by decide) ?_
    refine ab_zret (pc := 49) dX4_putBehind_49 rfl (by omega) ?_
    exact ⟨_, rfl, kp, _, _, _, _, _, rfl, hs, hm, lr, Or.inl ⟨rfl, hk1 _ hbv c45, rfl, rfl, rfl, rfl⟩⟩
end C6
