/-! the class: failures -/
section C27
variable {l : Launch} {E : AbE} {h0 : AbH}
theorem pl_ub {z f : Int → Int} {n : Int} (h : ∀ k : Int, 0 ≤ k → k < n → z (f k) ≤ 20) : ∀ k : Int, 0 ≤ k → k ≤ n → pl z f 0 k ≤ 20 * k := pl_ind (by rw [pl0]; omega) (fun k k0 k1 e => by
  rw [pl0q k0]
  have := h k k0 k1
  omega)
theorem RCx.srch2 {h h' : AbH} {x : Nat} {B : Nat → Nat} {s : Nat → Int} {F : Nat → Int → Int} {C : Nat → Int → Int} {SA : Nat → Int → Option Nat} {la la' : Option Nat} {q : Nat → Int} {lk co fo lg sz nx bg e al n : Int} {f2 u2 : Int → Int} (r : RCx h x B s F C SA la q) (k : ab_kp (cP [8, 9, 11]) h h') (a1 : h' (B 6) = some (kO 8 3 [vR (B 9), vO la', vI e, vI al, vI n, vI co, vI lk, vI fo, vI lg, vI sz, vI nx, vI bg])) (a2 : h' (B 9) = some (kI 9 60 f2)) (a4 : h' (B 8) = some (kI 11 360 u2)) : RCx h' x B (ab_u s 23 lk) F (ab_u (ab_u C 9 f2) 11 u2) SA la' (qF e al n co fo lg sz nx bg) :=
  r.mix k (by simp) (fun j _ hj => ab_u_ne hj) (by rw [ab_u_eq]; exact a1) (by rw [ab_u_ne (by decide), ab_u_eq]; exact a2) (by rw [ab_u_ne (by decide), ab_u_ne (by decide)]; exact k _ _ r.lt (by unfold cP; simp)) (by rw [ab_u_eq]; exact a4) (r.lw.kp k (fun j j0 j1 => by unfold cP; simp; omega))
theorem bar_ns {f : Int → Int} {d v : Int} (h : barR Fsq 1 1 f d v) : (v = -1 ∧ NS f d) ∨ (v ≠ -1 ∧ ¬ NS f d) := by
  rw [← KLsq]
  rcases h with ⟨a, b⟩ | ⟨a, b, c, ⟨d0, d1, d2, d3⟩, _⟩
  · exact Or.inl ⟨a, b⟩
  · exact Or.inr ⟨by omega, fun k => k v a b c d0 d1 d2 d3⟩
theorem cost_sq {co : Int} (h : costUp Fsq 1 1 co) : co = 1 := by
  rcases h with ⟨_, p, _, _, _, e⟩ | ⟨e, _⟩
  · exact absurd e (show ¬ ((1 : Int) = 5) by decide)
  · exact e
theorem c_fail_42 {x : Nat} {B : Nat → Nat} {s : Nat → Int} {am b1 b2 b3 g : Nat} {SQ : Int → Option Nat} {la : Option Nat} {al n e1 al1 n1 co lk fo lg sz nx bg : Int} {z t f9 : Int → Int} {u : Int → Int} (hG : ab_G l E) (g0 : 400 ≤ g) (g1 : g < 500) (hB : mpB al z t) (n1_ : 1 ≤ n) (n18 : n ≤ 18) (hw : kWord NS al n f9) (hp : preOk z (tW t) al (n - 1)) (hi : Img z (tW t) f9 n u)   (fu : Nat) : ∀ (en : Int) (h : AbH), (pl z f9 0 n + 1 - en).toNat < fu → h x = some (kO 2 8 [vR (B 0), vI (s 1), vR (B 2), vI (s 7), vR (B 4), vR (B 5), vR (B 6), vR (B 7), vR (B 8)]) → h (B 6) = some (kO 8 3 [vR (B 9), vO la, vI e1, vI al1, vI n1, vI co, vI lk, vI fo, vI lg, vI sz, vI nx, vI bg]) → h (B 9) = some (kI 9 60 f9) → h (B 8) = some (kI 11 360 u) → h (B 5) = some (kA 6 "WordBench$Law" 1 SQ) → h am = some (kO g 0 [vI al, vR b1, vR b2, vR b3]) → h b1 = some (kI (g + 1) 8 z) → h b2 = some (kI (g + 2) 160 t) → lawsR h 1 SQ 1 600 Fsq → ab_kp (cP [11]) h0 h → (pl z f9 0 (n - 1) + 1 ≤ en) → (en ≤ pl z f9 0 n + 1) → (∀ d : Int, pl z f9 0 (n - 1) < d → d < en → NS u d) → ab_T l E Y_X9_isFailure 10 0 0 42 [some (vR x), some (vR am), some (vI n), some (vI (pl z f9 0 n)), some (vI (pl z f9 0 (n - 1))), some (vI en)] [] h (cC h0 [11] (fun r h' => ∃ (v : Int) (u : Int → Int), r = some (vI v) ∧ h' (B 8) = some (kI 11 360 u) ∧ ((v = 1 ∧ ¬ ImOk z (tW t) f9 n) ∨ (v = 0 ∧ ImOk z (tW t) f9 n)))) := by
  induction fu with
  | zero => intro en h hms9; exact absurd hms9 (Nat.not_lt_zero _)
  | succ fu ih =>
    intro en h hms9 hx hs hm hgr hl ha hz htt lr kp e0 e9_ I
    have al8 := hB.2.1
    have hs1 : ∀ x : Int, 0 ≤ x → x < al → 1 ≤ z x := fun x x0 x1 => (hB.2.2 x x0 x1).1
    have ub := pl_ub (z := z) (f := f9) (n := n) (fun k k0 k1 => (hB.2.2 _ (hw.1 k k0 k1).1 (hw.1 k k0 k1).2).2.1) n (by omega) (Int.le_refl _)
    have st := pl0q (z := z) (sh := f9) (k := n - 1) (by omega)
    rw [show n - 1 + 1 = n by omega] at st
    have p0 := pl_ge (z := z) (sh := f9) (q := 0) (n := n) (fun k k0 k1 => by rw [Int.zero_add]; exact hs1 _ (hw.1 k k0 k1).1 (hw.1 k k0 k1).2) (n - 1) (by omega) (by omega)
    have l9 := hw.1 (n - 1) (by omega) (by omega)
    have z9 := hB.2.2 _ l9.1 l9.2
    have fi := fail_iff n1_ hs1 hw hp hi
    refine ab_iload (pc := 42) dX9_isFailure_42 rfl ?_
    refine ab_iload_n (pc := 44) dX9_isFailure_44 rfl ?_
    refine ab_icmp_gt (pc := 45) 74 dX9_isFailure_45 (by decide) (fun c45 => ?_) (fun c45 => ?_)
    · refine ab_iconst (pc := 74) dX9_isFailure_74 (by decide) ?_
      refine ab_zret (pc := 75) dX9_isFailure_75 rfl (by omega) ?_
      exact ⟨_, rfl, kp, _, _, rfl, hgr, Or.inr ⟨rfl, fi.mpr (fun d d0 d1 => I d d0 (by omega))⟩⟩
    · refine ab_aload_n (pc := 48) dX9_isFailure_48 rfl ?_
      refine ab_get (pc := 49) (k := 5) okX9 hx rfl w117 rfl dX9_isFailure_49 ?_
      refine ab_iconst (pc := 52) dX9_isFailure_52 (by decide) ?_
      refine ab_aload_n (pc := 53) dX9_isFailure_53 rfl ?_
      refine ab_get (pc := 54) (k := 8) okX9 hx rfl w120 rfl dX9_isFailure_54 ?_
      refine ab_iload (pc := 57) dX9_isFailure_57 rfl ?_
      refine ab_callS (pc := 59) (c_barring hG [] hl hgr lr (by decide) (by decide) (by decide) (by decide) (by decide) (by decide) (by simp) (by simp) (by omega) (by show en ≤ (360 : Int); omega) (by decide) lawB_sq (fun q _ _ e5 => absurd e5 (show ¬ ((1 : Int) = 5) by decide)) (fun q _ _ e5 => by rcases e5 with e5 | e5; exact absurd e5 (show ¬ ((1 : Int) = 4) by decide); exact absurd e5 (show ¬ ((1 : Int) = 5) by decide)) (fun q _ _ _ e5 => absurd e5 (show ¬ ((1 : Int) = 5) by decide))) ⟨w753, w1, w755, by decide, pd54⟩ w754 rfl (by omega) (by decide) (Nat.le_of_ble_eq_true rfl) rfl dX9_isFailure_59 (fun _ _ hx => absurd hx cC_no) ?_
      rintro _ h ⟨_, e9, kq, bv, rfl, lr2, hbv⟩
      cases e9
      replace hx := kq _ _ hx (by unfold cP; simp)
      replace hs := kq _ _ hs (by unfold cP; simp)
      replace hm := kq _ _ hm (by unfold cP; simp)
      replace hgr := kq _ _ hgr (by unfold cP; simp)
      replace hl := kq _ _ hl (by unfold cP; simp)
      replace ha := kq _ _ ha (by unfold cP; simp)
      replace hz := kq _ _ hz (by unfold cP; simp)
      replace htt := kq _ _ htt (by unfold cP; simp)
      replace kp := kp.cal kq (by simp)
      replace lr := lr2
      have bn := bar_ns hbv
      refine ab_iconst (pc := 62) dX9_isFailure_62 (by decide) ?_
      refine ab_icmp_eq (pc := 63) 68 dX9_isFailure_63 (by decide) (fun c63 => ?_) (fun c63 => ?_)
      · refine ab_iinc (pc := 68) dX9_isFailure_68 rfl rfl (by decide) (by omega) (by omega) ?_
        refine ab_goto (pc := 71) 42 dX9_isFailure_71 (by decide) ?_
        refine ih (en + 1) _ (by omega) hx hs hm hgr hl ha hz htt lr kp (by omega) (by omega) (fun d d0 d1 => ?_)
        by_cases e : d = en
        · rw [e]; rcases bn with ⟨_, q⟩ | ⟨q, _⟩
          · exact q
          · exact absurd c63 q
        · exact I d d0 (by omega)
      · refine ab_iconst (pc := 66) dX9_isFailure_66 (by decide) ?_
        refine ab_zret (pc := 67) dX9_isFailure_67 rfl (by omega) ?_
        exact ⟨_, rfl, kp, _, _, rfl, hgr, Or.inl ⟨rfl, fun k => by rcases bn with ⟨q, _⟩ | ⟨_, q⟩; (exact c63 q); exact q (fi.mp k en (by omega) (by omega))⟩⟩
theorem c_fail (hG : ab_G l E) {x : Nat} {B : Nat → Nat} {s : Nat → Int} {am b1 b2 b3 g : Nat} {SQ : Int → Option Nat} {la : Option Nat} {al n e1 al1 n1 co lk fo lg sz nx bg : Int} {z t f9 : Int → Int} {u : Int → Int} (hx : h0 x = some (kO 2 8 [vR (B 0), vI (s 1), vR (B 2), vI (s 7), vR (B 4), vR (B 5), vR (B 6), vR (B 7), vR (B 8)])) (hs : h0 (B 6) = some (kO 8 3 [vR (B 9), vO la, vI e1, vI al1, vI n1, vI co, vI lk, vI fo, vI lg, vI sz, vI nx, vI bg])) (hm : h0 (B 9) = some (kI 9 60 f9)) (hgr : h0 (B 8) = some (kI 11 360 u)) (hl : h0 (B 5) = some (kA 6 "WordBench$Law" 1 SQ)) (ha : h0 am = some (kO g 0 [vI al, vR b1, vR b2, vR b3])) (hz : h0 b1 = some (kI (g + 1) 8 z)) (htt : h0 b2 = some (kI (g + 2) 160 t)) (lr : lawsR h0 1 SQ 1 600 Fsq) (g0 : 400 ≤ g) (g1 : g < 500) (hB : mpB al z t) (n1_ : 1 ≤ n) (n18 : n ≤ 18) (hw : kWord NS al n f9) (hp : preOk z (tW t) al (n - 1)) : ab_M l E Y_X9_isFailure 6 10 0 0 [vR x, vR am, vI n] h0 (cC h0 [11] (fun r h' => ∃ (v : Int) (u : Int → Int), r = some (vI v) ∧ h' (B 8) = some (kI 11 360 u) ∧ ((v = 1 ∧ ¬ ImOk z (tW t) f9 n) ∨ (v = 0 ∧ ImOk z (tW t) f9 n)))) := by
  refine ab_M.of (L0 := [some (vR x), some (vR am), some (vI n), none, none, none]) hG rfl rfl (Nat.le_of_ble_eq_true rfl) rfl ?_
  have kp : ab_kp (cP [11]) h0 h0 := ab_kp0
  have al8 := hB.2.1
  have hs1 : ∀ x : Int, 0 ≤ x → x < al → 1 ≤ z x := fun x x0 x1 => (hB.2.2 x x0 x1).1
  have ub := pl_ub (z := z) (f := f9) (n := n) (fun k k0 k1 => (hB.2.2 _ (hw.1 k k0 k1).1 (hw.1 k k0 k1).2).2.1) n (by omega) (Int.le_refl _)
  have st := pl0q (z := z) (sh := f9) (k := n - 1) (by omega)
  rw [show n - 1 + 1 = n by omega] at st
  have p0 := pl_ge (z := z) (sh := f9) (q := 0) (n := n) (fun k k0 k1 => by rw [Int.zero_add]; exact hs1 _ (hw.1 k k0 k1).1 (hw.1 k k0 k1).2) (n - 1) (by omega) (by omega)
  have l9 := hw.1 (n - 1) (by omega) (by omega)
  have z9 := hB.2.2 _ l9.1 l9.2
  refine ab_aload_n (pc := 0) dX9_isFailure_0 rfl ?_
  refine ab_aload_n (pc := 1) dX9_isFailure_1 rfl ?_
  refine ab_get (pc := 2) (k := 6) okX9 hx rfl w118 rfl dX9_isFailure_2 ?_
  refine ab_getN (pc := 5) (k := 0) okX4 hs rfl w71 rfl dX9_isFailure_5 ?_
  refine ab_iload_n (pc := 8) dX9_isFailure_8 rfl ?_
  refine ab_aload_n (pc := 9) dX9_isFailure_9 rfl ?_
  refine ab_get (pc := 10) (k := 8) okX9 hx rfl w120 rfl dX9_isFailure_10 ?_
  refine ab_callV (pc := 13) (c_into hG ha hz htt hm hgr g0 (Or.inl rfl) hB (by omega) (by show n ≤ (60 : Int); omega) (by decide) hw.1) ha rfl ⟨w953, w29, w956, by decide, pd68⟩ w954 w955 rfl (by omega) (by decide) (Nat.le_of_ble_eq_true rfl) rfl dX9_isFailure_13 (fun _ _ hx => absurd hx cC_no) ?_
  rintro _ h ⟨_, e9, kq, iv, u9, rfl, hu9, hi9⟩
  cases e9
  replace hx := kq _ _ hx (by unfold cP; first | (simp; done) | (simp; omega))
  replace hs := kq _ _ hs (by unfold cP; first | (simp; done) | (simp; omega))
  replace hm := kq _ _ hm (by unfold cP; first | (simp; done) | (simp; omega))
  replace hl := kq _ _ hl (by unfold cP; first | (simp; done) | (simp; omega))
  replace ha := kq _ _ ha (by unfold cP; first | (simp; done) | (simp; omega))
  replace hz := kq _ _ hz (by unfold cP; first | (simp; done) | (simp; omega))
  replace htt := kq _ _ htt (by unfold cP; first | (simp; done) | (simp; omega))
  replace lr := lr.kp kq (fun j j0 j1 => (by unfold cP; first | (simp; done) | (simp; omega)))
  replace kp := kp.cal kq (by first | (simp; done) | (simp; omega))
  replace hgr := hu9
  refine ab_istore_n (pc := 16) dX9_isFailure_16 rfl (Nat.le_of_ble_eq_true rfl) ?_
  have q9 : iv = pl z f9 0 n ∧ Img z (tW t) f9 n u9 := by rcases hi9 with ⟨_, q⟩ | ⟨q1, _, q3⟩; (exact absurd q (by omega)); exact ⟨q1, q3⟩
  refine ab_iload_n (pc := 17) dX9_isFailure_17 rfl ?_
  refine ab_aload_n (pc := 18) dX9_isFailure_18 rfl ?_
  refine ab_aload_n (pc := 19) dX9_isFailure_19 rfl ?_
  refine ab_get (pc := 20) (k := 6) okX9 hx rfl w118 rfl dX9_isFailure_20 ?_
  refine ab_getN (pc := 23) (k := 0) okX4 hs rfl w71 rfl dX9_isFailure_23 ?_
  refine ab_iload_n (pc := 26) dX9_isFailure_26 rfl ?_
  refine ab_iconst (pc := 27) dX9_isFailure_27 (by decide) ?_
  refine ab_isub (pc := 28) dX9_isFailure_28 (by omega) (by omega) ?_
  refine ab_iald (pc := 29) hm (by omega) (by omega) dX9_isFailure_29 ?_
  refine ab_callV (pc := 30) (c_sizeFor hG (t := t) ha hz l9.1 (by omega)) ha rfl ⟨w978, w29, w981, by decide, pd2⟩ w979 w980 rfl (by omega) (by decide) (Nat.le_of_ble_eq_true rfl) rfl dX9_isFailure_30 (fun _ _ hx => absurd hx pC_no) ?_
  rintro _ _ ⟨sv, e9, rfl, hsv⟩
  cases e9
  refine ab_isub (pc := 33) dX9_isFailure_33 (by omega) (by omega) ?_
  rw [hsv, show iv - z (f9 (n - 1)) = pl z f9 0 (n - 1) by omega]
  refine ab_istore (pc := 34) dX9_isFailure_34 rfl (Nat.le_of_ble_eq_true rfl) ?_
  refine ab_iload (pc := 36) dX9_isFailure_36 rfl ?_
  refine ab_iconst (pc := 38) dX9_isFailure_38 (by decide) ?_
  refine ab_iadd (pc := 39) dX9_isFailure_39 (by omega) (by omega) ?_
  refine ab_istore (pc := 40) dX9_isFailure_40 rfl (Nat.le_of_ble_eq_true rfl) ?_
  rw [q9.1]
  exact c_fail_42 hG g0 g1 hB n1_ n18 hw hp q9.2 _ _ _ (Nat.lt_succ_self _) hx hs hm hgr hl ha hz htt lr kp (by omega) (by omega) (fun d d0 d1 => absurd d1 (by omega))
theorem c_seekF_19 {x : Nat} {B : Nat → Nat} {s : Nat → Int} {am b1 b2 b3 g : Nat} {SQ : Int → Option Nat} {al n lk0 : Int} {z t w0 : Int → Int} (hG : ab_G l E) (g0 : 400 ≤ g) (g1 : g < 500) (hB : mpB al z t) (n1_ : 1 ≤ n) (n18 : n ≤ 18) (hp : preOk z (tW t) al (n - 1)) (l0 : 0 ≤ lk0) (l1 : lk0 ≤ 20000) {lim : Int} (hlim : 20001 ≤ lim)   (fu : Nat) : ∀ (q : Nat) (lk lg sz nx d : Int) (f9 w u : Int → Int) (x4 : Option AbV) (h : AbH), (lim - (q : Int)).toNat < fu → h x = some (kO 2 8 [vR (B 0), vI (s 1), vR (B 2), vI (s 7), vR (B 4), vR (B 5), vR (B 6), vR (B 7), vR (B 8)]) → h (B 6) = some (kO 8 3 [vR (B 9), vR (B 5), vI 1, vI al, vI n, vI 1, vI lk, vI (q : Int), vI lg, vI sz, vI nx, vI (sB q)]) → h (B 9) = some (kI 9 60 f9) → h (B 8) = some (kI 11 360 u) → h (B 5) = some (kA 6 "WordBench$Law" 1 SQ) → h am = some (kO g 0 [vI al, vR b1, vR b2, vR b3]) → h b1 = some (kI (g + 1) 8 z) → h b2 = some (kI (g + 2) 160 t) → lawsR h 1 SQ 1 600 Fsq → ab_kp (cP [8, 9, 11]) h0 h → (sS Fsq 1 1 al n (sB q) f9 sz nx w d lk lg) → (sChain NS al n 1 w0 0 lk0 0 q w d lk lg) → (∀ (t' : Nat) (y : SR), t' < q → sEnd NS al n 1 w0 0 lk0 0 t' y → ImOk z (tW t) y.2.1 n) → ab_T l E Y_X9_seekFailure 12 0 0 19 [some (vR x), some (vR am), some (vI n), some (vI (q : Int)), x4] [] h (cC h0 [8, 9, 11] (fun r h' => ∃ (q : Nat) (y : SR) (f2 u2 : Int → Int) (fo lg sz nx : Int), r = some (vI y.1) ∧ h' (B 6) = some (kO 8 3 [vR (B 9), vR (B 5), vI 1, vI al, vI n, vI 1, vI y.2.2.2.1, vI fo, vI lg, vI sz, vI nx, vI 1]) ∧ h' (B 9) = some (kI 9 60 f2) ∧ h' (B 8) = some (kI 11 360 u2) ∧ lawsR h' 1 SQ 1 600 Fsq ∧ kStage z (tW t) al n w0 lk0 q y ∧ 0 ≤ y.2.2.2.1 ∧ y.2.2.2.1 ≤ 20000 ∧ ((y.1 = 1 ∧ ¬ ImOk z (tW t) y.2.1 n ∧ ∀ j : Int, 0 ≤ j → j < n → f2 j = y.2.1 j) ∨ y.1 = 0 ∨ y.1 = -2))) := by
  induction fu with
  | zero => intro q lk lg sz nx d f9 w u x4 h hms9; exact absurd hms9 (Nat.not_lt_zero _)
  | succ fu ih =>
    intro q lk lg sz nx d f9 w u x4 h hms9 hx hs hm hgr hl ha hz htt lr kp hS hC I
    have bd := sS_bd hS
    have tl := sChain_t hC (by omega) l0
    refine ab_iload_n (pc := 19) dX9_seekFailure_19 rfl ?_
    refine ab_sipush (pc := 20) dX9_seekFailure_20 (by decide) ?_
    refine ab_icmp_gt (pc := 23) 59 dX9_seekFailure_23 (by decide) (fun c23 => absurd c23 (by omega)) (fun c23 => ?_)
    refine ab_aload_n (pc := 26) dX9_seekFailure_26 rfl ?_
    refine ab_get (pc := 27) (k := 6) okX9 hx rfl w118 rfl dX9_seekFailure_27 ?_
    refine ab_callV (pc := 30) (c_adv hG [] hs hm hl lr (by decide) (by decide) (by decide) (by decide) (by decide) (by decide) (by simp) (by simp) (by simp) lawB_sq (fun q _ _ e5 => absurd e5 (show ¬ ((1 : Int) = 5) by decide)) hB.2.1 hB.1 (by omega) (by omega) (by omega) (by omega) (by omega) (by omega) hS) hs rfl ⟨w862, w4, w830, by decide, pd26⟩ w828 w829 rfl (by omega) (by decide) (Nat.le_of_ble_eq_true rfl) rfl dX9_seekFailure_30 (fun _ _ hx => absurd hx cC_no) ?_
    rintro _ h ⟨_, e9, kq, o, f2, sz2, nx2, lk2, lg2, fo2, w2, d2, rfl, hs9, hm9, lr9, nx9, q9⟩
    cases e9
    replace hx := kq _ _ hx (by unfold cP; first | (simp; done) | (simp; omega))
    replace hgr := kq _ _ hgr (by unfold cP; first | (simp; done) | (simp; omega))
    replace hl := kq _ _ hl (by unfold cP; first | (simp; done) | (simp; omega))
    replace ha := kq _ _ ha (by unfold cP; first | (simp; done) | (simp; omega))
    replace hz := kq _ _ hz (by unfold cP; first | (simp; done) | (simp; omega))
    replace htt := kq _ _ htt (by unfold cP; first | (simp; done) | (simp; omega))
    replace kp := kp.cal kq (by simp)
    replace hs := hs9
    replace hm := hm9
    replace lr := lr9
    rw [KLsq] at nx9
    refine ab_istore (pc := 33) dX9_seekFailure_33 rfl (Nat.le_of_ble_eq_true rfl) ?_
    refine ab_iload (pc := 35) dX9_seekFailure_35 rfl ?_
    refine ab_iconst (pc := 37) dX9_seekFailure_37 (by decide) ?_
    refine ab_icmp_ne (pc := 38) 50 dX9_seekFailure_38 (by decide) (fun c38 => ?_) (fun c38 => ?_)
    · refine ab_iload (pc := 50) dX9_seekFailure_50 rfl ?_
      refine ab_iret (pc := 52) dX9_seekFailure_52 rfl ?_
      first | (rcases q9 with ⟨q1, _⟩ | ⟨q1, q2, q3, q4, _⟩; (exact absurd q1 c38); exact ⟨_, rfl, kp, q, _, _, _, _, _, _, _, rfl, hs, hm, hgr, lr, ⟨⟨_, _, _, _, hC, nx9⟩, I⟩, q3, q4, Or.inr q1⟩) | exact ⟨_, rfl, kp, q, _, _, _, _, _, _, _, rfl, hs, hm, hgr, lr, ⟨⟨_, _, _, _, hC, nx9⟩, I⟩, by have := sS_bd hS9; exact this.1, by have := sS_bd hS9; exact this.2, Or.inl ⟨rfl, fun k => by rcases hfv with ⟨_, b⟩ | ⟨b, _⟩; (exact b (iff9.mpr k)); exact absurd b c47, fun j j0 j1 => (hF.1 j j0 j1).1⟩⟩
    · rcases q9 with ⟨_, rfl, hS9, hF⟩ | ⟨q1, _⟩
      rotate_left
      · omega
      subst c38
      have hwd : kWord NS al n f2 := ⟨fun j j0 j1 => (hF.1 j j0 j1).2, fun e e0 e1 => by have := hF.2 e e0 e1; rw [KLsq] at this; exact this⟩
      have iff9 : ImOk z (tW t) f2 n ↔ ImOk z (tW t) w2 n := ⟨ImOk_congr (by omega) (fun j j0 j1 => (hF.1 j j0 j1).1), ImOk_congr (by omega) (fun j j0 j1 => (hF.1 j j0 j1).1.symm)⟩
      refine ab_aload_n (pc := 41) dX9_seekFailure_41 rfl ?_
      refine ab_aload_n (pc := 42) dX9_seekFailure_42 rfl ?_
      refine ab_iload_n (pc := 43) dX9_seekFailure_43 rfl ?_
      refine ab_callV (pc := 44) (c_fail hG hx hs hm hgr hl ha hz htt lr g0 g1 hB n1_ n18 hwd hp) hx rfl ⟨w974, w1, w977, by decide, pd70⟩ w976 sp20 rfl (by omega) (by decide) (Nat.le_of_ble_eq_true rfl) rfl dX9_seekFailure_44 (fun _ _ hx => absurd hx cC_no) ?_
      rintro _ h ⟨_, e9, kq, fv, u9, rfl, hgr9, hfv⟩
      cases e9
      replace hx := kq _ _ hx (by unfold cP; first | (simp; done) | (simp; omega))
      replace hs := kq _ _ hs (by unfold cP; first | (simp; done) | (simp; omega))
      replace hm := kq _ _ hm (by unfold cP; first | (simp; done) | (simp; omega))
      replace hl := kq _ _ hl (by unfold cP; first | (simp; done) | (simp; omega))
      replace ha := kq _ _ ha (by unfold cP; first | (simp; done) | (simp; omega))
      replace hz := kq _ _ hz (by unfold cP; first | (simp; done) | (simp; omega))
      replace htt := kq _ _ htt (by unfold cP; first | (simp; done) | (simp; omega))
      replace lr := lr.kp kq (fun j j0 j1 => (by unfold cP; first | (simp; done) | (simp; omega)))
      replace kp := kp.cal kq (by first | (simp; done) | (simp; omega))
      replace hgr := hgr9
      refine ab_if_eq (pc := 47) 53 dX9_seekFailure_47 (by decide) (fun c47 => ?_) (fun c47 => ?_)
      · refine ab_iinc (pc := 53) dX9_seekFailure_53 rfl rfl (by decide) (by omega) (by omega) ?_
        refine ab_goto (pc := 56) 19 dX9_seekFailure_56 (by decide) ?_
        rw [show (q : Int) + 1 = ((q + 1 : Nat) : Int) by omega] at hs
        have es : sB (q + 1) = 1 := sB_s
        have hs8 : h (B 6) = some (kO 8 3 [vR (B 9), vR (B 5), vI 1, vI al, vI n, vI 1, vI lk2, vI ((q + 1 : Nat) : Int), vI lg2, vI sz2, vI nx2, vI (sB (q + 1))]) := by rw [es]; exact hs
        rw [← es] at hS9
        have g9 := ih (q + 1) _ _ _ _ _ _ _ _ (some (vI 1)) _ (by omega) hx hs8 hm hgr hl ha hz htt lr kp hS9 ⟨_, _, _, _, hC, nx9⟩ (fun t' y y1 hy => by by_cases g : t' = q; (subst g; rw [sEnd_fun hy ⟨_, _, _, _, hC, nx9⟩]; exact iff9.mp (by rcases hfv with ⟨b, _⟩ | ⟨_, b⟩; (exact absurd b (by omega)); exact b)); exact I t' y (by omega) hy)
        rw [show ((q + 1 : Nat) : Int) = (q : Int) + 1 by omega] at g9
        exact g9
      · refine ab_iload (pc := 50) dX9_seekFailure_50 rfl ?_
        refine ab_iret (pc := 52) dX9_seekFailure_52 rfl ?_
        first | (rcases q9 with ⟨q1, _⟩ | ⟨q1, q2, q3, q4, _⟩; (exact absurd q1 c38); exact ⟨_, rfl, kp, q, _, _, _, _, _, _, _, rfl, hs, hm, hgr, lr, ⟨⟨_, _, _, _, hC, nx9⟩, I⟩, q3, q4, Or.inr q1⟩) | exact ⟨_, rfl, kp, q, _, _, _, _, _, _, _, rfl, hs, hm, hgr, lr, ⟨⟨_, _, _, _, hC, nx9⟩, I⟩, by have := sS_bd hS9; exact this.1, by have := sS_bd hS9; exact this.2, Or.inl ⟨rfl, fun k => by rcases hfv with ⟨_, b⟩ | ⟨b, _⟩; (exact b (iff9.mpr k)); exact absurd b c47, fun j j0 j1 => (hF.1 j j0 j1).1⟩⟩
theorem c_seekF (hG : ab_G l E) {x : Nat} {B : Nat → Nat} {s : Nat → Int} {am b1 b2 b3 g : Nat} {SQ : Int → Option Nat} {la : Option Nat} {al n lk0 e1 al1 n1 co fo lg sz nx bg : Int} {f9 u : Int → Int} {z t : Int → Int} (w0 : Int → Int) (hx : h0 x = some (kO 2 8 [vR (B 0), vI (s 1), vR (B 2), vI (s 7), vR (B 4), vR (B 5), vR (B 6), vR (B 7), vR (B 8)])) (hs : h0 (B 6) = some (kO 8 3 [vR (B 9), vO la, vI e1, vI al1, vI n1, vI co, vI lk0, vI fo, vI lg, vI sz, vI nx, vI bg])) (hm : h0 (B 9) = some (kI 9 60 f9)) (hgr : h0 (B 8) = some (kI 11 360 u)) (hl : h0 (B 5) = some (kA 6 "WordBench$Law" 1 SQ)) (ha : h0 am = some (kO g 0 [vI al, vR b1, vR b2, vR b3])) (hz : h0 b1 = some (kI (g + 1) 8 z)) (htt : h0 b2 = some (kI (g + 2) 160 t)) (lr : lawsR h0 1 SQ 1 600 Fsq) (g0 : 400 ≤ g) (g1 : g < 500) (hB : mpB al z t) (n1_ : 1 ≤ n) (n18 : n ≤ 18) (hp : preOk z (tW t) al (n - 1)) (l0 : 0 ≤ lk0) (l1 : lk0 ≤ 20000) : ab_M l E Y_X9_seekFailure 5 12 0 0 [vR x, vR am, vI n] h0 (cC h0 [8, 9, 11] (fun r h' => ∃ (q : Nat) (y : SR) (f2 u2 : Int → Int) (fo lg sz nx : Int), r = some (vI y.1) ∧ h' (B 6) = some (kO 8 3 [vR (B 9), vR (B 5), vI 1, vI al, vI n, vI 1, vI y.2.2.2.1, vI fo, vI lg, vI sz, vI nx, vI 1]) ∧ h' (B 9) = some (kI 9 60 f2) ∧ h' (B 8) = some (kI 11 360 u2) ∧ lawsR h' 1 SQ 1 600 Fsq ∧ kStage z (tW t) al n w0 lk0 q y ∧ 0 ≤ y.2.2.2.1 ∧ y.2.2.2.1 ≤ 20000 ∧ ((y.1 = 1 ∧ ¬ ImOk z (tW t) y.2.1 n ∧ ∀ j : Int, 0 ≤ j → j < n → f2 j = y.2.1 j) ∨ y.1 = 0 ∨ y.1 = -2))) := by
  refine ab_M.of (L0 := [some (vR x), some (vR am), some (vI n), none, none]) hG rfl rfl (Nat.le_of_ble_eq_true rfl) rfl ?_
  have kp : ab_kp (cP [8, 9, 11]) h0 h0 := ab_kp0
  refine ab_aload_n (pc := 0) dX9_seekFailure_0 rfl ?_
  refine ab_get (pc := 1) (k := 6) okX9 hx rfl w118 rfl dX9_seekFailure_1 ?_
  refine ab_aload_n (pc := 4) dX9_seekFailure_4 rfl ?_
  refine ab_get (pc := 5) (k := 5) okX9 hx rfl w117 rfl dX9_seekFailure_5 ?_
  refine ab_iconst (pc := 8) dX9_seekFailure_8 (by decide) ?_
  refine ab_aload_n (pc := 9) dX9_seekFailure_9 rfl ?_
  refine ab_getN (pc := 10) (k := 0) okX1 ha rfl w887 rfl dX9_seekFailure_10 ?_
  refine ab_iload_n (pc := 13) dX9_seekFailure_13 rfl ?_
  refine ab_callV (pc := 14) (c_begin hG hs hl lr (by decide) (by decide) (by decide) (by decide)) hs rfl ⟨w814, w4, w817, by decide, pd58⟩ w815 w816 rfl (by omega) (by decide) (Nat.le_of_ble_eq_true rfl) rfl dX9_seekFailure_14 (fun _ _ hx => absurd hx cC_no) ?_
  rintro _ h ⟨_, e9, kq, rfl, co9, hco, hs9⟩
  cases e9
  replace hx := kq _ _ hx (by unfold cP; first | (simp; done) | (simp; omega))
  replace hm := kq _ _ hm (by unfold cP; first | (simp; done) | (simp; omega))
  replace hgr := kq _ _ hgr (by unfold cP; first | (simp; done) | (simp; omega))
  replace hl := kq _ _ hl (by unfold cP; first | (simp; done) | (simp; omega))
  replace ha := kq _ _ ha (by unfold cP; first | (simp; done) | (simp; omega))
  replace hz := kq _ _ hz (by unfold cP; first | (simp; done) | (simp; omega))
  replace htt := kq _ _ htt (by unfold cP; first | (simp; done) | (simp; omega))
  replace lr := lr.kp kq (fun j j0 j1 => (by unfold cP; first | (simp; done) | (simp; omega)))
  replace kp := kp.cal kq (by first | (simp; done) | (simp; omega))
  replace hs := hs9
  obtain rfl := cost_sq hco
  refine ab_iconst (pc := 17) dX9_seekFailure_17 (by decide) ?_
  refine ab_istore_n (pc := 18) dX9_seekFailure_18 rfl (Nat.le_of_ble_eq_true rfl) ?_
  exact c_seekF_19 hG g0 g1 hB n1_ n18 hp l0 l1 (Int.le_refl 20001) _ 0 _ _ _ _ 0 _ w0 _ _ _ (Nat.lt_succ_self _) hx hs hm hgr hl ha hz htt lr kp (Or.inl ⟨rfl, rfl, rfl, by omega, by omega, by omega, by omega⟩) ⟨rfl, rfl, rfl, rfl⟩ (fun _ _ h9 => absurd h9 (Nat.not_lt_zero _))
end C27
