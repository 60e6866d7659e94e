/-! the law: its loop, its start -/
section LO
variable {l : Launch} {E : AbE}
theorem ab_T.more {y : AbY} {d kc ks kc' ks' pc : Nat} {L : List (Option AbV)} {S : List AbV} {h : AbH} {Q : AbO → AbH → Prop} (k : ab_T l E y d kc ks pc L S h Q) (h1 : kc ≤ kc') (h2 : ks ≤ ks') : ab_T l E y d kc' ks' pc L S h Q := by
  intro p e R s m args below meth c H locs cells slots mc ms ls st X hR hP hl hL hS
  exact k p e R s m args below meth c H locs cells slots mc ms ls st X ⟨hR.1, hR.2.1, by have := hR.2.2.1; omega, by have := hR.2.2.2.1; omega, by have := hR.2.2.2.2.1; omega, by have := hR.2.2.2.2.2; omega⟩ hP hl hL hS
def lQ : AbO → AbH → Prop := fun oc _ => oc = .inl (some (vI 1))
theorem law_23 (hG : ab_G l E) {x m o z9 sc N : Nat} {B A : Nat → Nat} {f : Int → Int} (hzm : ab_zim E z9) (hb : ∀ j : Int, 0 ≤ j → j < N → -2147483648 ≤ f j ∧ f j < 2147483648) (N0 : N ≤ 3072) : ∀ (n : Nat) (i : Int) (h : AbH) (s : Nat → Int) (F : Nat → Int → Int) (x5 x6 : Option AbV), 0 ≤ i → (N : Int) < i + 6 * n + 6 → JI h x m o z9 sc N B A f s F → ab_T l E Y_L_law_ 16 (8 * n) (813 * n) 23 [some (vR sc), some (vR x), some (vR m), some (vR o), some (vI i), x5, x6] [] h lQ := by
  intro n
  induction n with
  | zero =>
    intro i h s F x5 x6 i0 iN J
    obtain ⟨_, _, _, _, ⟨gs, hgs, hs⟩, _⟩ := id J
    refine ab_iload (pc := 23) dL_law__23 rfl ?_
    refine ab_aload_n (pc := 25) dL_law__25 rfl ?_
    refine ab_alen (pc := 26) hs dL_law__26 ?_
    refine ab_bipush (pc := 27) dL_law__27 (by decide) ?_
    refine ab_isub (pc := 29) dL_law__29 (by omega) (by omega) ?_
    refine ab_icmp_gt (pc := 30) 1699 dL_law__30 (by decide) (fun c30 => ?_) (fun c30 => absurd c30 (by omega))
    refine ab_iconst (pc := 1699) dL_law__1699 (by decide) ?_
    refine ab_zret (pc := 1700) dL_law__1700 rfl (by omega) ?_
    exact rfl
  | succ n ih =>
    intro i h s F x5 x6 i0 iN J
    obtain ⟨_, _, _, _, ⟨gs, hgs, hs⟩, _⟩ := id J
    have K9 : i + 6 ≤ N → ∀ (h' : AbH) (s' : Nat → Int) (F' : Nat → Int → Int) (x5 x6 : Option AbV), JI h' x m o z9 sc N B A f s' F' → ab_T l E Y_L_law_ 16 (8 * n) (813 * n) 1693 [some (vR sc), some (vR x), some (vR m), some (vR o), some (vI i), x5, x6] [] h' lQ := by
      intro i6 h' s' F' x5 x6 J'
      refine ab_iinc (pc := 1693) dL_law__1693 rfl rfl (by decide) (by omega) (by omega) ?_
      refine ab_goto (pc := 1696) 23 dL_law__1696 (by decide) ?_
      exact ih (i + 6) h' s' F' x5 x6 (by omega) (by omega) J'
    refine ab_iload (pc := 23) dL_law__23 rfl ?_
    refine ab_aload_n (pc := 25) dL_law__25 rfl ?_
    refine ab_alen (pc := 26) hs dL_law__26 ?_
    refine ab_bipush (pc := 27) dL_law__27 (by decide) ?_
    refine ab_isub (pc := 29) dL_law__29 (by omega) (by omega) ?_
    refine ab_icmp_gt (pc := 30) 1699 dL_law__30 (by decide) (fun c30 => ?_) (fun c30 => ?_)
    · refine ab_iconst (pc := 1699) dL_law__1699 (by decide) ?_
      refine ab_zret (pc := 1700) dL_law__1700 rfl (by omega) ?_
      exact rfl
    · replace K9 := K9 (by omega)
      refine ab_aload_n (pc := 33) dL_law__33 rfl ?_
      refine ab_iload (pc := 34) dL_law__34 rfl ?_
      refine ab_iald (pc := 36) hs (by omega) (by omega) dL_law__36 ?_
      refine ab_bipush (pc := 37) dL_law__37 (by decide) ?_
      refine ab_iand (pc := 39) dL_law__39 ?_
      by_cases e0 : ab_and (f i) 31 = 0
      · refine ab_tableIn (pc := 40) (off := 96) 136 dL_law__40 (by omega) (by omega) (by rw [e0]; rfl) (by decide) ?_
        exact (lc_sheet hG hb i0 (by omega) N0 J K9).more (by omega) (by omega)
      by_cases e1 : ab_and (f i) 31 = 1
      · refine ab_tableIn (pc := 40) (off := 152) 192 dL_law__40 (by omega) (by omega) (by rw [e1]; rfl) (by decide) ?_
        exact (lc_row hG hb i0 (by omega) N0 J K9).more (by omega) (by omega)
      by_cases e2 : ab_and (f i) 31 = 2
      · refine ab_tableIn (pc := 40) (off := 232) 272 dL_law__40 (by omega) (by omega) (by rw [e2]; rfl) (by decide) ?_
        exact (lc_put hG hb i0 (by omega) N0 J K9).more (by omega) (by omega)
      by_cases e3 : ab_and (f i) 31 = 3
      · refine ab_tableIn (pc := 40) (off := 324) 364 dL_law__40 (by omega) (by omega) (by rw [e3]; rfl) (by decide) ?_
        exact (lc_tear hG hb i0 (by omega) N0 J K9).more (by omega) (by omega)
      by_cases e4 : ab_and (f i) 31 = 4
      · refine ab_tableIn (pc := 40) (off := 392) 432 dL_law__40 (by omega) (by omega) (by rw [e4]; rfl) (by decide) ?_
        exact (lc_word hG hb i0 (by omega) N0 J K9).more (by omega) (by omega)
      by_cases e5 : ab_and (f i) 31 = 5
      · refine ab_tableIn (pc := 40) (off := 460) 500 dL_law__40 (by omega) (by omega) (by rw [e5]; rfl) (by decide) ?_
        exact (lc_letter hG hb i0 (by omega) N0 J K9).more (by omega) (by omega)
      by_cases e6 : ab_and (f i) 31 = 6
      · refine ab_tableIn (pc := 40) (off := 540) 580 dL_law__40 (by omega) (by omega) (by rw [e6]; rfl) (by decide) ?_
        exact (lc_law hG hb i0 (by omega) N0 J K9).more (by omega) (by omega)
      by_cases e7 : ab_and (f i) 31 = 7
      · refine ab_tableIn (pc := 40) (off := 620) 660 dL_law__40 (by omega) (by omega) (by rw [e7]; rfl) (by decide) ?_
        exact (lc_count hG hb i0 (by omega) N0 J K9).more (by omega) (by omega)
      by_cases e8 : ab_and (f i) 31 = 8
      · refine ab_tableIn (pc := 40) (off := 645) 685 dL_law__40 (by omega) (by omega) (by rw [e8]; rfl) (by decide) ?_
        exact (lc_power hG hb i0 (by omega) N0 J K9).more (by omega) (by omega)
      by_cases e9 : ab_and (f i) 31 = 9
      · refine ab_tableIn (pc := 40) (off := 725) 765 dL_law__40 (by omega) (by omega) (by rw [e9]; rfl) (by decide) ?_
        exact (lc_run hG hb i0 (by omega) N0 J K9).more (by omega) (by omega)
      by_cases e10 : ab_and (f i) 31 = 10
      · refine ab_tableIn (pc := 40) (off := 817) 857 dL_law__40 (by omega) (by omega) (by rw [e10]; rfl) (by decide) ?_
        exact (lc_clash hG hb i0 (by omega) N0 J K9).more (by omega) (by omega)
      by_cases e11 : ab_and (f i) 31 = 11
      · refine ab_tableIn (pc := 40) (off := 909) 949 dL_law__40 (by omega) (by omega) (by rw [e11]; rfl) (by decide) ?_
        exact (lc_many hG hb i0 (by omega) N0 J K9).more (by omega) (by omega)
      by_cases e12 : ab_and (f i) 31 = 12
      · refine ab_tableIn (pc := 40) (off := 989) 1029 dL_law__40 (by omega) (by omega) (by rw [e12]; rfl) (by decide) ?_
        exact (lc_find hG hb i0 (by omega) N0 J K9).more (by omega) (by omega)
      by_cases e13 : ab_and (f i) 31 = 13
      · refine ab_tableIn (pc := 40) (off := 1093) 1133 dL_law__40 (by omega) (by omega) (by rw [e13]; rfl) (by decide) ?_
        exact (lc_rank hG hb i0 (by omega) N0 J K9).more (by omega) (by omega)
      by_cases e14 : ab_and (f i) 31 = 14
      · refine ab_tableIn (pc := 40) (off := 1185) 1225 dL_law__40 (by omega) (by omega) (by rw [e14]; rfl) (by decide) ?_
        exact (lc_longest hG hb i0 (by omega) N0 J K9).more (by omega) (by omega)
      by_cases e15 : ab_and (f i) 31 = 15
      · refine ab_tableIn (pc := 40) (off := 1253) 1293 dL_law__40 (by omega) (by omega) (by rw [e15]; rfl) (by decide) ?_
        exact (lc_map hG hb i0 (by omega) N0 J K9).more (by omega) (by omega)
      by_cases e16 : ab_and (f i) 31 = 16
      · refine ab_tableIn (pc := 40) (off := 1345) 1385 dL_law__40 (by omega) (by omega) (by rw [e16]; rfl) (by decide) ?_
        exact (lc_image hG hb i0 (by omega) N0 J K9).more (by omega) (by omega)
      by_cases e17 : ab_and (f i) 31 = 17
      · refine ab_tableIn (pc := 40) (off := 1437) 1477 dL_law__40 (by omega) (by omega) (by rw [e17]; rfl) (by decide) ?_
        exact (lc_keeps hG hb i0 (by omega) N0 J K9).more (by omega) (by omega)
      by_cases e18 : ab_and (f i) 31 = 18
      · refine ab_tableIn (pc := 40) (off := 1505) 1545 dL_law__40 (by omega) (by omega) (by rw [e18]; rfl) (by decide) ?_
        exact (lc_at hG hb i0 (by omega) N0 J K9).more (by omega) (by omega)
      by_cases e19 : ab_and (f i) 31 = 19
      · refine ab_tableIn (pc := 40) (off := 1585) 1625 dL_law__40 (by omega) (by omega) (by rw [e19]; rfl) (by decide) ?_
        exact (lc_shape hG hzm hb i0 (by omega) N0 J K9).more (by omega) (by omega)
      refine ab_tableOut (pc := 40) 1693 dL_law__40 (by omega) (by decide) ?_
      exact (K9 _ _ _ _ _ J).more (by omega) (by omega)
theorem law_0 (hG : ab_G l E) {zz sc N gs : Nat} {f : Int → Int} {h0 : AbH} (hzm : ab_zim E zz) (hb : ∀ j : Int, 0 ≤ j → j < N → -2147483648 ≤ f j ∧ f j < 2147483648) (N0 : N ≤ 3072) (hgs : gs ≤ 1) (hs : h0 sc = some (kI gs N f)) (hz : h0 zz = some (kI 1 7 zim)) : ab_T l E Y_L_law_ 16 4136 440168 0 [some (vR sc), none, none, none, none, none, none] [] h0 lQ := by
  refine ab_newG (pc := 0) (2) okX9 rfl rfl w31 w32 w1 dL_law__0 (fun x h z9 e9 n9 => ?_)
  replace hs := (n9 _ (ab_nn hs z9)).trans hs
  replace hz := (n9 _ (ab_nn hz z9)).trans hz
  have hx := e9
  clear e9 n9
  refine ab_dup (pc := 3) dL_law__3 rfl ?_
  refine ab_callI (pc := 4) (c_init hG hx) (fun _ _ hx => absurd hx cC_no) ⟨w33, w1, w35, by decide, pd0⟩ w34 ⟨rfl, rfl⟩ rfl (by decide) (by decide) (Nat.le_of_ble_eq_true rfl) dL_law__4 ?_
  rintro _ h ⟨_, e9, kq, rfl, B, C, SA, q9, rcF0⟩
  cases e9
  replace hs := kq _ _ hs (by unfold cP; first | (simp; done) | (simp; omega))
  replace hz := kq _ _ hz (by unfold cP; first | (simp; done) | (simp; omega))
  have rcF := rcF0
  refine ab_astore_n (pc := 7) dL_law__7 rfl (Nat.le_of_ble_eq_true rfl) ?_
  refine ab_newG (pc := 8) (20) okX10 rfl rfl w1049 w1050 w5 dL_law__8 (fun m h z9 e9 n9 => ?_)
  replace hs := (n9 _ (ab_nn hs z9)).trans hs
  replace hz := (n9 _ (ab_nn hz z9)).trans hz
  replace rcF := fun s F a b c d => (rcF s F a b c d).kpA (ab_kp.new (P := cP []) ab_kp0 z9 n9) (fun g hg => (by unfold cP; simp))
  have hm := e9
  clear e9 n9
  refine ab_dup (pc := 11) dL_law__11 rfl ?_
  refine ab_callI (pc := 12) (m_init hG hm) (fun _ _ hx => absurd hx cC_no) ⟨w1051, w5, w1053, by decide, pd0⟩ w1052 ⟨rfl, rfl⟩ rfl (by decide) (by decide) (Nat.le_of_ble_eq_true rfl) dL_law__12 ?_
  rintro _ h ⟨_, e9, kq, rfl, A, F, hM0, f3, fk⟩
  cases e9
  replace hs := kq _ _ hs (by unfold cP; first | (simp; done) | (simp; omega))
  replace hz := kq _ _ hz (by unfold cP; first | (simp; done) | (simp; omega))
  replace rcF := fun s F a b c d => (rcF s F a b c d).kpA kq (fun g hg => (by unfold cP; first | (simp; done) | (simp; omega)))
  have hM := hM0
  refine ab_astore_n (pc := 15) dL_law__15 rfl (Nat.le_of_ble_eq_true rfl) ?_
  refine ab_iconst (pc := 16) dL_law__16 (by decide) ?_
  refine ab_newJG (pc := 17) (12) (1) rfl (by decide) dL_law__17 w900 (fun o h z9 e9 n9 => ?_)
  replace hs := (n9 _ (ab_nn hs z9)).trans hs
  replace hz := (n9 _ (ab_nn hz z9)).trans hz
  replace rcF := fun s F a b c d => (rcF s F a b c d).kpA (ab_kp.new (P := cP []) ab_kp0 z9 n9) (fun g hg => (by unfold cP; simp))
  replace hM := hM.kp (ab_kp.new (P := cP []) ab_kp0 z9 n9) (fun g g0 g1 => (by unfold cP; simp))
  have ho := e9
  clear e9 n9
  refine ab_astore_n (pc := 19) dL_law__19 rfl (Nat.le_of_ble_eq_true rfl) ?_
  refine ab_iconst (pc := 20) dL_law__20 (by decide) ?_
  refine ab_istore (pc := 21) dL_law__21 rfl (Nat.le_of_ble_eq_true rfl) ?_
  have iv : IVj (fun _ => 0) F := ⟨by decide, by decide, by decide, by decide, fun j j0 j1 => by rw [f3 j j0 j1]; decide, fun j j0 j1 => f3 j (by have : (10 : Int) * 0 ≤ j := j0; omega) j1, fun q q0 q1 => absurd q1 (by show ¬ q < (0 : Int); omega), fun b hb => absurd (by rw [fk 35 (by decide)]) hb.2.2⟩
  exact law_23 hG hzm hb N0 512 0 _ (fun _ => 0) F _ _ (Int.le_refl _) (by omega) ⟨⟨C, SA, none, q9, rcF _ F rfl rfl rfl (fun j => by rw [fk 35 (by decide)])⟩, hM, iv, ⟨_, ho⟩, ⟨gs, hgs, hs⟩, hz⟩
end LO
