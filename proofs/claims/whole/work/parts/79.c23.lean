/-! the class: rank -/
section C23
variable {l : Launch} {E : AbE} {h0 : AbH}
theorem c_rank_74 {x : Nat} {B : Nat → Nat} {s : Nat → Int} {F C : Nat → Int → Int} {SA : Nat → Int → Option Nat} {la : Option Nat} {q : Nat → Int} {hb : AbH} {e a i k n co : Int} {fl w0 : Int → Int} (hG : ab_G l E) (rc : RCx hb x B s F C SA la q) (er : -2147483648 ≤ e ∧ e < 2147483648) (b7 : 0 ≤ s 7) (c7 : s 7 ≤ 12) (lb : ∀ q : Int, 0 ≤ q → q < s 7 → lawB F q) (oks : setOk s e) (oka : 1 ≤ a ∧ a ≤ 8) (ir : isRow s i k) (n0 : 0 ≤ n) (n60 : n ≤ 60) (rd : isRd F i k n) (rl : ∀ j : Int, 0 ≤ j → j < n → fl j = rdL F i k j) (bl : ∀ j : Int, 0 ≤ j → j < n → rdL F i k j < a) (kk : ∀ u : Int, 1 ≤ u → u ≤ n → KL F (s 7) e (rdL F i k) u) (hco : costUp F e (s 7) co) (co9 : 1 ≤ co ∧ co ≤ 10) {lim : Int} (hlim : 20001 ≤ lim)   (fu : Nat) : ∀ (t : Nat) (lk lg sz nx d : Int) (f9 w : Int → Int) (h : AbH), (lim - (t : Int)).toNat < fu → h x = some (kO 2 8 [vR (B 0), vI (s 1), vR (B 2), vI (s 7), vR (B 4), vR (B 5), vR (B 6), vR (B 7), vR (B 8)]) → h (B 6) = some (kO 8 3 [vR (B 9), vR (B 2), vI e, vI a, vI n, vI co, vI lk, vI (t : Int), vI lg, vI sz, vI nx, vI (sB t)]) → h (B 9) = some (kI 9 60 f9) → h (B 2) = some (kA 4 "WordBench$Law" 12 (SA 2)) → h (B 7) = some (kI 10 60 fl) → lawsR h 12 (SA 2) (s 7) 208 F → ab_kp (cP [8, 9, 200]) hb h → ab_kp (cP [8, 9, 10, 200]) h0 h → (sS F (s 7) e a n (sB t) f9 sz nx w d lk lg) → (sChain (KL F (s 7) e) a n co w0 0 0 0 t w d lk lg) → (∀ (t' : Nat) (z : SR), t' < t → sEnd (KL F (s 7) e) a n co w0 0 0 0 t' z → ¬ alike z.2.1 (rdL F i k) n) → ab_T l E Y_X9_rank 12 0 0 74 [some (vR x), some (vI e), some (vI a), some (vI i), some (vI k), some (vI n), some (vI (t : Int))] [] h (cW h0 [8, 9, 10, 200] x B (fun o s' F' => ∃ c r9 : Int, rankSp s F w0 e a i k c r9 (s' 23) ∧ (∀ j : Nat, j ≠ 23 → s' j = s j) ∧ F' = F ∧ ((c = 0 ∧ o = .inl (some (vI r9))) ∨ (c = 1 ∧ o = .inr "java/lang/IllegalArgumentException") ∨ (c = 2 ∧ o = .inr "java/lang/IndexOutOfBoundsException")))) := by
  induction fu with
  | zero => intro t lk lg sz nx d f9 w h hms9; exact absurd hms9 (Nat.not_lt_zero _)
  | succ fu ih =>
    intro t lk lg sz nx d f9 w h hms9 hx hs hm hl ht lr kp1 kp hS hC I
    have bd := sS_bd hS
    have tl := sChain_t hC co9.1 (by omega)
    refine ab_iload (pc := 74) dX9_rank_74 rfl ?_
    refine ab_sipush (pc := 76) dX9_rank_76 (by decide) ?_
    refine ab_icmp_gt (pc := 79) 124 dX9_rank_79 (by decide) (fun c79 => absurd c79 (by omega)) (fun c79 => ?_)
    refine ab_aload_n (pc := 82) dX9_rank_82 rfl ?_
    refine ab_get (pc := 83) (k := 6) okX9 hx rfl w118 rfl dX9_rank_83 ?_
    refine ab_callV (pc := 86) (c_adv hG [200] hs hm hl lr er (by decide) c7 (by decide) (by decide) (by decide) (by decide) (by decide) (by decide) lb (fun _ _ _ _ => by decide) oka.2 oka.1 n60 co9.1 co9.2 (by omega) (by omega) n0 hS) hs rfl ⟨w862, w4, w830, by decide, pd26⟩ w828 w829 rfl (by omega) (by decide) (Nat.le_of_ble_eq_true rfl) rfl dX9_rank_86 (fun _ _ hx => absurd hx cC_no) ?_
    rintro _ h ⟨_, e9, kq, o, f2, sz2, nx2, lk2, lg2, fo2, w2, d2, rfl, hs9, hm9, lr9, nx9, q9⟩
    cases e9
    replace hx := kq _ _ hx (by unfold cP; first | (simp; done) | (simp; omega))
    replace hl := kq _ _ hl (by unfold cP; first | (simp; done) | (simp; omega))
    replace ht := kq _ _ ht (by unfold cP; first | (simp; done) | (simp; omega))
    replace kp1 := kp1.cal kq (by simp)
    replace kp := kp.cal kq (by first | (simp; done) | (simp; omega))
    replace hs := hs9
    replace hm := hm9
    replace lr := lr9
    refine ab_iconst (pc := 89) dX9_rank_89 (by decide) ?_
    refine ab_icmp_eq (pc := 90) 96 dX9_rank_90 (by decide) (fun c90 => ?_) (fun c90 => ?_)
    · rcases q9 with ⟨_, rfl, hS9, hF⟩ | ⟨q1, _⟩
      rotate_left
      · omega
      subst c90
      have ak : alike f2 fl n ↔ alike w2 (rdL F i k) n := ⟨fun h j j0 j1 => by rw [← (hF.1 j j0 j1).1, h j j0 j1, rl j j0 j1], fun h j j0 j1 => by rw [(hF.1 j j0 j1).1, h j j0 j1, rl j j0 j1]⟩
      refine ab_aload_n (pc := 96) dX9_rank_96 rfl ?_
      refine ab_get (pc := 97) (k := 6) okX9 hx rfl w118 rfl dX9_rank_97 ?_
      refine ab_getN (pc := 100) (k := 0) okX4 hs rfl w71 rfl dX9_rank_100 ?_
      refine ab_aload_n (pc := 103) dX9_rank_103 rfl ?_
      refine ab_get (pc := 104) (k := 7) okX9 hx rfl w119 rfl dX9_rank_104 ?_
      refine ab_iload (pc := 107) dX9_rank_107 rfl ?_
      refine ab_callS (pc := 109) (c_alike hG hm ht n60) ⟨w863, w1, w865, by decide, pd62⟩ w864 rfl (by omega) (by decide) (Nat.le_of_ble_eq_true rfl) rfl dX9_rank_109 (fun _ _ hx => absurd hx pC_no) ?_
      rintro _ _ ⟨av, e9, rfl, hav⟩
      cases e9
      refine ab_if_eq (pc := 112) 118 dX9_rank_112 (by decide) (fun c112 => ?_) (fun c112 => ?_)
      · refine ab_iinc (pc := 118) dX9_rank_118 rfl rfl (by decide) (by omega) (by omega) ?_
        refine ab_goto (pc := 121) 74 dX9_rank_121 (by decide) ?_
        rw [show (t : Int) + 1 = ((t + 1 : Nat) : Int) by omega] at hs
        rw [← sB_s (t := t)] at hs hS9
        have g9 := ih (t + 1) _ _ _ _ _ _ _ _ (by omega) hx hs hm hl ht lr kp1 kp hS9 ⟨_, _, _, _, hC, nx9⟩ (fun t' z z1 hz => by by_cases g : t' = t; (subst g; rw [sEnd_fun hz ⟨_, _, _, _, hC, nx9⟩]; exact fun h9 => by rcases hav with ⟨b, _⟩ | ⟨_, b⟩; (exact absurd b (by omega)); exact b (ak.mpr h9)); exact I t' z (by omega) hz)
        rw [show ((t + 1 : Nat) : Int) = (t : Int) + 1 by omega] at g9
        exact g9
      · refine ab_iload (pc := 115) dX9_rank_115 rfl ?_
        refine ab_iret (pc := 117) dX9_rank_117 rfl ?_
        exact ⟨kp, _, _, _, _, _, _, (rc.srch kp1 hs hm lr), 0, t, Or.inr (Or.inr ⟨⟨oks, oka⟩, ir, rfl, Or.inr ⟨n, n0, rd, Or.inr (Or.inr ⟨bl, kk, co, t, _, ⟨hco, ⟨_, _, _, _, hC, nx9⟩⟩, by rw [ab_u_eq], I, Or.inl ⟨rfl, ak.mp (by rcases hav with ⟨_, b⟩ | ⟨b, _⟩; exact b; exact absurd b c112), rfl⟩⟩)⟩⟩), (fun j hj => ab_u_ne hj), rfl, Or.inl ⟨rfl, rfl⟩⟩
    · refine ab_bipush (pc := 93) dX9_rank_93 (by decide) ?_
      refine ab_iret (pc := 95) dX9_rank_95 rfl ?_
      rcases q9 with ⟨q1, _⟩ | ⟨q1, q2, _⟩
      · exact absurd q1 c90
      · exact ⟨kp, _, _, _, _, _, _, (rc.srch kp1 hs hm lr), 0, -2, Or.inr (Or.inr ⟨⟨oks, oka⟩, ir, rfl, Or.inr ⟨n, n0, rd, Or.inr (Or.inr ⟨bl, kk, co, t, _, ⟨hco, ⟨_, _, _, _, hC, nx9⟩⟩, by rw [ab_u_eq], I, Or.inr ⟨c90, rfl⟩⟩)⟩⟩), (fun j hj => ab_u_ne hj), rfl, Or.inl ⟨rfl, rfl⟩⟩
theorem c_rank (hG : ab_G l E) {x : Nat} {B : Nat → Nat} {s : Nat → Int} {F C : Nat → Int → Int} {SA : Nat → Int → Option Nat} {la : Option Nat} {q : Nat → Int} {e a i k : Int} (w0 : Int → Int) (rc : RCx h0 x B s F C SA la q) (b3 : ∀ j, 0 ≤ j → j < 160 → -1 ≤ F 3 j ∧ F 3 j ≤ 80) (s16 : s 1 ≤ 16) (er : -2147483648 ≤ e ∧ e < 2147483648) (b7 : 0 ≤ s 7) (c7 : s 7 ≤ 12) (lb : ∀ q : Int, 0 ≤ q → q < s 7 → lawB F q) : ab_M l E Y_X9_rank 7 12 4 24 [vR x, vI e, vI a, vI i, vI k] h0 (cW h0 [8, 9, 10, 200] x B (fun o s' F' => ∃ c r9 : Int, rankSp s F w0 e a i k c r9 (s' 23) ∧ (∀ j : Nat, j ≠ 23 → s' j = s j) ∧ F' = F ∧ ((c = 0 ∧ o = .inl (some (vI r9))) ∨ (c = 1 ∧ o = .inr "java/lang/IllegalArgumentException") ∨ (c = 2 ∧ o = .inr "java/lang/IndexOutOfBoundsException")))) := by
  refine ab_M.of (L0 := [some (vR x), some (vI e), some (vI a), some (vI i), some (vI k), none, none]) hG rfl rfl (Nat.le_of_ble_eq_true rfl) rfl ?_
  have kp : ab_kp (cP [8, 9, 10, 200]) h0 h0 := ab_kp0
  refine ab_aload_n (pc := 0) dX9_rank_0 rfl ?_
  refine ab_iload_n (pc := 1) dX9_rank_1 rfl ?_
  refine ab_callV (pc := 2) (c_needSet hG rc.o er b7 c7) rc.o rfl ⟨w744, w1, w747, by decide, pd5⟩ w746 sp7 rfl (by omega) (by decide) (Nat.le_of_ble_eq_true rfl) rfl dX9_rank_2 (fun X9 h9 hx9 => by obtain ⟨rfl, ⟨r9, _⟩ | ⟨r9, n9⟩⟩ := hx9; cases r9; cases r9; exact ⟨kp, _, _, _, _, _, _, rc, 1, 0, Or.inl ⟨fun kk => n9 kk.1, rfl, rfl, rfl⟩, fun _ _ => rfl, rfl, Or.inr (Or.inl ⟨rfl, rfl⟩)⟩) ?_
  rintro r9 h9 ⟨rfl, hr9⟩
  rcases hr9 with ⟨r9, oks⟩ | ⟨r9, _⟩
  rotate_left
  · cases r9
  cases r9
  refine ab_iload_n (pc := 5) dX9_rank_5 rfl ?_
  refine ab_callS (pc := 6) (c_needAl hG) ⟨w805, w1, w807, by decide, pd5⟩ w806 rfl (by omega) (by decide) (Nat.le_of_ble_eq_true rfl) rfl dX9_rank_6 (fun X9 h9 hx9 => by obtain ⟨rfl, ⟨r9, _⟩ | ⟨r9, n9⟩⟩ := hx9; cases r9; cases r9; exact ⟨kp, _, _, _, _, _, _, rc, 1, 0, Or.inl ⟨fun kk => n9 kk.2, rfl, rfl, rfl⟩, fun _ _ => rfl, rfl, Or.inr (Or.inl ⟨rfl, rfl⟩)⟩) ?_
  rintro r9 h9 ⟨rfl, hr9⟩
  rcases hr9 with ⟨r9, oka⟩ | ⟨r9, _⟩
  rotate_left
  · cases r9
  cases r9
  refine ab_aload_n (pc := 9) dX9_rank_9 rfl ?_
  refine ab_iload_n (pc := 10) dX9_rank_10 rfl ?_
  refine ab_iload (pc := 11) dX9_rank_11 rfl ?_
  refine ab_callV (pc := 13) (c_readWord hG rc b3 s16) rc.o rfl ⟨w601, w1, w604, by decide, pd18⟩ w603 sp3 rfl (by omega) (by decide) (Nat.le_of_ble_eq_true rfl) rfl dX9_rank_13 (fun X9 h9 hx9 => by rcases hx9 with ⟨r9, nr, rfl⟩ | ⟨_, _, _, r9, _⟩; cases r9; exact ⟨kp, _, _, _, _, _, _, rc, 2, 0, Or.inr (Or.inl ⟨⟨oks, oka⟩, nr, rfl, rfl, rfl⟩), fun _ _ => rfl, rfl, Or.inr (Or.inr ⟨rfl, rfl⟩)⟩; cases r9) ?_
  rintro r9 h9 hr9
  rcases hr9 with ⟨r9, _⟩ | ⟨ir, v, fl, r9, kq, hl9, rd, rl⟩
  · cases r9
  cases r9
  replace kp := kp.cal kq (by simp)
  replace rc := rc.let kq hl9
  refine ab_istore (pc := 16) dX9_rank_16 rfl (Nat.le_of_ble_eq_true rfl) ?_
  refine ab_iload (pc := 18) dX9_rank_18 rfl ?_
  refine ab_if_lt (pc := 20) 47 dX9_rank_20 (by decide) (fun c20 => ?_) (fun c20 => ?_)
  · refine ab_iconst (pc := 47) dX9_rank_47 (by decide) ?_
    refine ab_iret (pc := 48) dX9_rank_48 rfl ?_
    have ln := rd.len
    by_cases gv : v = -1
    · subst gv; exact ⟨kp, _, _, _, _, _, _, rc, 0, -1, Or.inr (Or.inr ⟨⟨oks, oka⟩, ir, rfl, Or.inl ⟨rd, rfl, rfl⟩⟩), fun _ _ => rfl, rfl, Or.inl ⟨rfl, rfl⟩⟩
    · first | (exfalso; omega) | (rcases hbv2 with ⟨b, _⟩ | ⟨_, b⟩; (exact absurd b (by omega)); exact ⟨kp, _, _, _, _, _, _, rc, 0, -1, Or.inr (Or.inr ⟨⟨oks, oka⟩, ir, rfl, Or.inr ⟨v, by omega, rd, Or.inl ⟨b, rfl, rfl⟩⟩⟩), fun _ _ => rfl, rfl, Or.inl ⟨rfl, rfl⟩⟩) | (rcases hbv2 with ⟨_, b⟩ | ⟨b, _⟩; (rcases hc2 with ⟨b9, _⟩ | ⟨d1, d2, _, vv, d4, d5⟩; (exact absurd b9 c44); (exact ⟨kp, _, _, _, _, _, _, rc, 0, -1, Or.inr (Or.inr ⟨⟨oks, oka⟩, ir, rfl, Or.inr ⟨v, by omega, rd, Or.inr (Or.inl ⟨b, fun kk => by rcases d4 with ⟨d6, _⟩ | ⟨e1, e2, e3, ⟨f1, f2, f3, f4⟩, _⟩; (exact d5 d6); exact kk c d1 d2 vv e1 e2 e3 f1 f2 f3 f4, rfl, rfl⟩)⟩⟩), fun _ _ => rfl, rfl, Or.inl ⟨rfl, rfl⟩⟩)); exact absurd b c33)
  · refine ab_aload_n (pc := 23) dX9_rank_23 rfl ?_
    refine ab_get (pc := 24) (k := 7) okX9 rc.o rfl w119 rfl dX9_rank_24 ?_
    refine ab_iload (pc := 27) dX9_rank_27 rfl ?_
    refine ab_iload_n (pc := 29) dX9_rank_29 rfl ?_
    refine ab_callS (pc := 30) (c_below hG rc.lt (by decide) (by have := rd.len; show v ≤ (60 : Int); omega)) ⟨w647, w1, w649, by decide, pd50⟩ w648 rfl (by omega) (by decide) (Nat.le_of_ble_eq_true rfl) rfl dX9_rank_30 (fun _ _ hx => absurd hx pC_no) ?_
    rintro _ _ ⟨bv, e9, rfl, hbv⟩
    cases e9
    have ln := rd.len
    have u10 : ab_u C 10 fl 10 = fl := ab_u_eq
    have f7 : ∀ j : Int, 0 ≤ j → j < v → 0 ≤ ab_u C 10 fl 10 j ∧ ab_u C 10 fl 10 j ≤ 7 := fun j j0 j1 => by rw [u10, rl j j0 j1]; exact (ln.2.2 (by omega)).2 j j0 j1
    have hbv2 : (bv = 1 ∧ ∀ j : Int, 0 ≤ j → j < v → rdL F i k j < a) ∨ (bv = 0 ∧ ¬ ∀ j : Int, 0 ≤ j → j < v → rdL F i k j < a) := by
      rw [u10] at hbv
      rcases hbv with ⟨b, b2⟩ | ⟨b, b2⟩
      · exact Or.inl ⟨b, fun j j0 j1 => by rw [← rl j j0 j1]; exact b2 j j0 j1⟩
      · exact Or.inr ⟨b, fun b3 => b2 (fun j j0 j1 => by rw [rl j j0 j1]; exact b3 j j0 j1)⟩
    refine ab_if_eq (pc := 33) 47 dX9_rank_33 (by decide) (fun c33 => ?_) (fun c33 => ?_)
    · refine ab_iconst (pc := 47) dX9_rank_47 (by decide) ?_
      refine ab_iret (pc := 48) dX9_rank_48 rfl ?_
      have ln := rd.len
      by_cases gv : v = -1
      · subst gv; exact ⟨kp, _, _, _, _, _, _, rc, 0, -1, Or.inr (Or.inr ⟨⟨oks, oka⟩, ir, rfl, Or.inl ⟨rd, rfl, rfl⟩⟩), fun _ _ => rfl, rfl, Or.inl ⟨rfl, rfl⟩⟩
      · first | (exfalso; omega) | (rcases hbv2 with ⟨b, _⟩ | ⟨_, b⟩; (exact absurd b (by omega)); exact ⟨kp, _, _, _, _, _, _, rc, 0, -1, Or.inr (Or.inr ⟨⟨oks, oka⟩, ir, rfl, Or.inr ⟨v, by omega, rd, Or.inl ⟨b, rfl, rfl⟩⟩⟩), fun _ _ => rfl, rfl, Or.inl ⟨rfl, rfl⟩⟩) | (rcases hbv2 with ⟨_, b⟩ | ⟨b, _⟩; (rcases hc2 with ⟨b9, _⟩ | ⟨d1, d2, _, vv, d4, d5⟩; (exact absurd b9 c44); (exact ⟨kp, _, _, _, _, _, _, rc, 0, -1, Or.inr (Or.inr ⟨⟨oks, oka⟩, ir, rfl, Or.inr ⟨v, by omega, rd, Or.inr (Or.inl ⟨b, fun kk => by rcases d4 with ⟨d6, _⟩ | ⟨e1, e2, e3, ⟨f1, f2, f3, f4⟩, _⟩; (exact d5 d6); exact kk c d1 d2 vv e1 e2 e3 f1 f2 f3 f4, rfl, rfl⟩)⟩⟩), fun _ _ => rfl, rfl, Or.inl ⟨rfl, rfl⟩⟩)); exact absurd b c33)
    · refine ab_aload_n (pc := 36) dX9_rank_36 rfl ?_
      refine ab_iload_n (pc := 37) dX9_rank_37 rfl ?_
      refine ab_iload (pc := 38) dX9_rank_38 rfl ?_
      refine ab_callV (pc := 40) (c_clL hG rc er b7 c7 lb (by have := rd.len; omega) f7) rc.o rfl ⟨w749, w1, w752, by decide, pd18⟩ w751 sp8 rfl (by omega) (by decide) (Nat.le_of_ble_eq_true rfl) rfl dX9_rank_40 (fun _ _ hx => absurd hx cB_no) ?_
      rintro _ h9 ⟨c, e9, kq, rc9, hc⟩
      cases e9
      replace kp := kp.cal kq (by simp)
      replace rc := rc9
      have hc2 : clL F (s 7) e (rdL F i k) v c := hc.congr (by rw [u10]; exact rl)
      refine ab_iconst (pc := 43) dX9_rank_43 (by decide) ?_
      refine ab_icmp_eq (pc := 44) 49 dX9_rank_44 (by decide) (fun c44 => ?_) (fun c44 => ?_)
      · have hx := rc.o
        have hs := rc.sr
        have hm := rc.mk
        have hl := rc.ls
        have ht := rc.lt
        have lr := rc.lw
        have kp1 := rc.kp0 [8, 9, 200]
        refine ab_aload_n (pc := 49) dX9_rank_49 rfl ?_
        refine ab_get (pc := 50) (k := 6) okX9 hx rfl w118 rfl dX9_rank_50 ?_
        refine ab_callV (pc := 53) (c_forget hG hs) hs rfl ⟨w810, w4, w813, by decide, pd0⟩ w811 w812 rfl (by omega) (by decide) (Nat.le_of_ble_eq_true rfl) rfl dX9_rank_53 (fun _ _ hx => absurd hx cC_no) ?_
        rintro _ h ⟨_, e9, kq, rfl, hs9⟩
        cases e9
        replace hx := kq _ _ hx (by unfold cP; first | (simp; done) | (simp; omega))
        replace hm := kq _ _ hm (by unfold cP; first | (simp; done) | (simp; omega))
        replace hl := kq _ _ hl (by unfold cP; first | (simp; done) | (simp; omega))
        replace ht := kq _ _ ht (by unfold cP; first | (simp; done) | (simp; omega))
        replace lr := lr.kp kq (fun j j0 j1 => (by unfold cP; first | (simp; done) | (simp; omega)))
        replace kp1 := kp1.cal kq (by simp)
        replace kp := kp.cal kq (by first | (simp; done) | (simp; omega))
        replace hs := hs9
        refine ab_aload_n (pc := 56) dX9_rank_56 rfl ?_
        refine ab_get (pc := 57) (k := 6) okX9 hx rfl w118 rfl dX9_rank_57 ?_
        refine ab_aload_n (pc := 60) dX9_rank_60 rfl ?_
        refine ab_get (pc := 61) (k := 2) okX9 hx rfl w114 rfl dX9_rank_61 ?_
        refine ab_iload_n (pc := 64) dX9_rank_64 rfl ?_
        refine ab_iload_n (pc := 65) dX9_rank_65 rfl ?_
        refine ab_iload (pc := 66) dX9_rank_66 rfl ?_
        refine ab_callV (pc := 68) (c_begin hG hs hl lr (by decide) (by decide) (by decide) c7) hs rfl ⟨w814, w4, w817, by decide, pd58⟩ w815 w816 rfl (by omega) (by decide) (Nat.le_of_ble_eq_true rfl) rfl dX9_rank_68 (fun _ _ hx => absurd hx cC_no) ?_
        rintro _ h ⟨_, e9, kq, rfl, co, hco, hs9⟩
        cases e9
        replace hx := kq _ _ hx (by unfold cP; first | (simp; done) | (simp; omega))
        replace hm := kq _ _ hm (by unfold cP; first | (simp; done) | (simp; omega))
        replace hl := kq _ _ hl (by unfold cP; first | (simp; done) | (simp; omega))
        replace ht := kq _ _ ht (by unfold cP; first | (simp; done) | (simp; omega))
        replace lr := lr.kp kq (fun j j0 j1 => (by unfold cP; first | (simp; done) | (simp; omega)))
        replace kp1 := kp1.cal kq (by simp)
        replace kp := kp.cal kq (by first | (simp; done) | (simp; omega))
        replace hs := hs9
        have co9 : 1 ≤ co ∧ co ≤ 10 := by rcases hco with ⟨e, _⟩ | ⟨e, _⟩ <;> omega
        refine ab_iconst (pc := 71) dX9_rank_71 (by decide) ?_
        refine ab_istore (pc := 72) dX9_rank_72 rfl (Nat.le_of_ble_eq_true rfl) ?_
        rw [u10] at ht
        exact c_rank_74 hG rc er b7 c7 lb oks oka ir (by omega) (by omega) rd rl (by rcases hbv2 with ⟨_, b⟩ | ⟨b, _⟩; exact b; exact absurd b c33) (by rcases hc2 with ⟨_, b⟩ | ⟨b, _⟩; exact b; omega) hco co9 (Int.le_refl 20001) _ 0 _ _ _ _ 0 _ w0 _ (Nat.lt_succ_self _) hx hs hm hl ht lr kp1 kp (Or.inl ⟨rfl, rfl, rfl, by omega, by omega, by omega, by omega⟩) ⟨rfl, rfl, rfl, rfl⟩ (fun _ _ h9 => absurd h9 (Nat.not_lt_zero _))
      · refine ab_iconst (pc := 47) dX9_rank_47 (by decide) ?_
        refine ab_iret (pc := 48) dX9_rank_48 rfl ?_
        have ln := rd.len
        by_cases gv : v = -1
        · subst gv; exact ⟨kp, _, _, _, _, _, _, rc, 0, -1, Or.inr (Or.inr ⟨⟨oks, oka⟩, ir, rfl, Or.inl ⟨rd, rfl, rfl⟩⟩), fun _ _ => rfl, rfl, Or.inl ⟨rfl, rfl⟩⟩
        · first | (exfalso; omega) | (rcases hbv2 with ⟨b, _⟩ | ⟨_, b⟩; (exact absurd b (by omega)); exact ⟨kp, _, _, _, _, _, _, rc, 0, -1, Or.inr (Or.inr ⟨⟨oks, oka⟩, ir, rfl, Or.inr ⟨v, by omega, rd, Or.inl ⟨b, rfl, rfl⟩⟩⟩), fun _ _ => rfl, rfl, Or.inl ⟨rfl, rfl⟩⟩) | (rcases hbv2 with ⟨_, b⟩ | ⟨b, _⟩; (rcases hc2 with ⟨b9, _⟩ | ⟨d1, d2, _, vv, d4, d5⟩; (exact absurd b9 c44); (exact ⟨kp, _, _, _, _, _, _, rc, 0, -1, Or.inr (Or.inr ⟨⟨oks, oka⟩, ir, rfl, Or.inr ⟨v, by omega, rd, Or.inr (Or.inl ⟨b, fun kk => by rcases d4 with ⟨d6, _⟩ | ⟨e1, e2, e3, ⟨f1, f2, f3, f4⟩, _⟩; (exact d5 d6); exact kk c d1 d2 vv e1 e2 e3 f1 f2 f3 f4, rfl, rfl⟩)⟩⟩), fun _ _ => rfl, rfl, Or.inl ⟨rfl, rfl⟩⟩)); exact absurd b c33)
end C23
