/-! the class: clash -/
section C21
variable {l : Launch} {E : AbE} {h0 : AbH}
theorem Bar_min {F : Nat → Int → Int} {q c : Int} {f : Int → Int} (h : ∃ a : Int, 0 ≤ a ∧ a < c ∧ Bar F q f a c) : ∃ z : Int, 1 ≤ z ∧ z ≤ c ∧ Bar F q f (c - z) c ∧ ∀ a : Int, c - z < a → a < c → ¬ Bar F q f a c := by
  have key : ∀ k : Nat, (∃ z : Int, 1 ≤ z ∧ z ≤ c ∧ Bar F q f (c - z) c ∧ ∀ a : Int, c - z < a → a < c → ¬ Bar F q f a c) ∨ ∀ a : Int, c - k ≤ a → 0 ≤ a → a < c → ¬ Bar F q f a c := by
    intro k
    induction k with
    | zero => exact Or.inr (fun a a0 _ a1 => absurd a1 (by omega))
    | succ k ih =>
      rcases ih with ih | ih
      · exact Or.inl ih
      · by_cases g : 0 ≤ c - (k + 1) ∧ Bar F q f (c - (k + 1)) c
        · exact Or.inl ⟨k + 1, by omega, by omega, g.2, fun a a0 a1 => ih a (by omega) (by omega) a1⟩
        · refine Or.inr (fun a a0 a1 a2 hb => ?_)
          by_cases e : a = c - (k + 1)
          · rw [e] at hb a1; exact g ⟨a1, hb⟩
          · exact ih a (by omega) a1 a2 hb
  obtain ⟨a, a0, a1, hb⟩ := h
  rcases key c.toNat with k | k
  · exact k
  · exact absurd hb (k a (by omega) a0 a1)
/-- what is found first -/
def clL (F : Nat → Int → Int) (G e : Int) (f : Int → Int) (n c : Int) : Prop := (c = -1 ∧ ∀ u : Int, 1 ≤ u → u ≤ n → KL F G e f u) ∨ (1 ≤ c ∧ c ≤ n ∧ (∀ u : Int, 1 ≤ u → u < c → KL F G e f u) ∧ ∃ v : Int, barR F G e f c v ∧ v ≠ -1)
theorem barR_uniq {F : Nat → Int → Int} {G e n v v' : Int} {f : Int → Int} (h : barR F G e f n v) (h' : barR F G e f n v') : v = v' := by
  rcases h with ⟨a, k⟩ | ⟨a, b, c, ⟨d, d0, d1, d2⟩, k⟩
  · rcases h' with ⟨a', _⟩ | ⟨a', b', c', ⟨d', d0', d1', d2'⟩, _⟩
    · omega
    · exact absurd d2' (k v' a' b' c' d' d0' d1')
  · rcases h' with ⟨a', k'⟩ | ⟨a', b', c', ⟨d', d0', d1', d2'⟩, k'⟩
    · exact absurd d2 (k' v a b c d d0 d1)
    · rcases Int.lt_trichotomy v v' with g | g | g
      · exact absurd d2 (k' v a g c d d0 d1)
      · exact g
      · exact absurd d2' (k v' a' g c' d' d0' d1')
theorem clL.cl {F : Nat → Int → Int} {G e n c v z : Int} {f : Int → Int} (h : clL F G e f n c) (c1 : c ≠ -1) (hb : barR F G e f c v) (hz : 1 ≤ z ∧ z ≤ c ∧ Bar F v f (c - z) c ∧ ∀ a : Int, c - z < a → a < c → ¬ Bar F v f a c) : Cl F G e f n c v z := by
  rcases h with ⟨e, _⟩ | ⟨a1, a2, a3, v', hv, nv⟩
  · exact absurd e c1
  · obtain rfl := barR_uniq hb hv
    rcases hb with ⟨b, _⟩ | ⟨b1, b2, b3, _, b5⟩
    · exact absurd b nv
    · exact Or.inr ⟨a1, a2, a3, b1, b2, b3, b5, hz⟩
theorem clL.ex {F : Nat → Int → Int} {G e n c : Int} {f : Int → Int} (h : clL F G e f n c) : ∃ q z : Int, Cl F G e f n c q z := by
  have h0 := h
  rcases h with h | ⟨a1, a2, a3, v, hv, nv⟩
  · exact ⟨0, 0, Or.inl h⟩
  · have hv0 := hv
    rcases hv with ⟨b, _⟩ | ⟨b1, b2, b3, b4, b5⟩
    · exact absurd b nv
    · obtain ⟨z, hz⟩ := Bar_min b4
      exact ⟨v, z, h0.cl (by omega) hv0 hz⟩
theorem clL.congr {F : Nat → Int → Int} {G e n c : Int} {f g : Int → Int} (hfg : ∀ j : Int, 0 ≤ j → j < n → f j = g j) (h : clL F G e f n c) : clL F G e g n c := by
  rcases h with ⟨a, k⟩ | ⟨a1, a2, a3, v, hv, nv⟩
  · exact Or.inl ⟨a, fun u u0 u1 => (k u u0 u1).congr (fun j j0 j1 => hfg j j0 (by omega))⟩
  · refine Or.inr ⟨a1, a2, fun u u0 u1 => (a3 u u0 u1).congr (fun j j0 j1 => hfg j j0 (by omega)), v, ?_, nv⟩
    rcases hv with ⟨b, b2⟩ | ⟨b1, b2, b3, ⟨d, d0, d1, d2⟩, b5⟩
    · exact Or.inl ⟨b, b2.congr (fun j j0 j1 => hfg j j0 (by omega))⟩
    · exact Or.inr ⟨b1, b2, b3, ⟨d, d0, d1, d2.congr (fun j j0 j1 => hfg j (by omega) (by omega))⟩, fun p p0 p1 pS a a0 a1' hb => b5 p p0 p1 pS a a0 a1' (hb.congr (fun j j0 j1 => (hfg j (by omega) (by omega)).symm))⟩
/-- the laws' scratch alone has changed -/
def cB (h0 : AbH) (x : Nat) (B : Nat → Nat) (s : Nat → Int) (F C : Nat → Int → Int) (SA : Nat → Int → Option Nat) (la : Option Nat) (q : Nat → Int) (P : Int → Prop) : AbO → AbH → Prop := fun o h' => ∃ v : Int, o = .inl (some (vI v)) ∧ ab_kp (cP [200]) h0 h' ∧ RCx h' x B s F C SA la q ∧ P v
theorem cB_no {h0 : AbH} {x : Nat} {B : Nat → Nat} {s : Nat → Int} {F C : Nat → Int → Int} {SA : Nat → Int → Option Nat} {la : Option Nat} {q : Nat → Int} {P : Int → Prop} {X : String} {h' : AbH} : ¬ cB h0 x B s F C SA la q P (.inr X) h' := fun ⟨_, e, _⟩ => by cases e
theorem c_clL_2 {x : Nat} {B : Nat → Nat} {s : Nat → Int} {F C : Nat → Int → Int} {SA : Nat → Int → Option Nat} {la : Option Nat} {q : Nat → Int} {e n : Int} (hG : ab_G l E) (er : -2147483648 ≤ e ∧ e < 2147483648) (b7 : 0 ≤ s 7) (c7 : s 7 ≤ 12) (lb : ∀ q : Int, 0 ≤ q → q < s 7 → lawB F q) (n6 : n ≤ 60) (f7 : ∀ j : Int, 0 ≤ j → j < n → 0 ≤ C 10 j ∧ C 10 j ≤ 7)   (fu : Nat) : ∀ (c : Int) (h : AbH), (n + 1 - c).toNat < fu → RCx h x B s F C SA la q → ab_kp (cP [200]) h0 h → (1 ≤ c) → (∀ u : Int, 1 ≤ u → u < c → KL F (s 7) e (C 10) u) → ab_T l E Y_X9_clashLetters 10 0 0 2 [some (vR x), some (vI e), some (vI n), some (vI c)] [] h (cB h0 x B s F C SA la q (fun c => clL F (s 7) e (C 10) n c)) := by
  induction fu with
  | zero => intro c h hms9; exact absurd hms9 (Nat.not_lt_zero _)
  | succ fu ih =>
    intro c h hms9 rc kp c0 I
    refine ab_iload_n (pc := 2) dX9_clashLetters_2 rfl ?_
    refine ab_iload_n (pc := 3) dX9_clashLetters_3 rfl ?_
    refine ab_icmp_gt (pc := 4) 32 dX9_clashLetters_4 (by decide) (fun c4 => ?_) (fun c4 => ?_)
    · refine ab_iconst (pc := 32) dX9_clashLetters_32 (by decide) ?_
      refine ab_iret (pc := 33) dX9_clashLetters_33 rfl ?_
      exact ⟨_, rfl, kp, rc, Or.inl ⟨rfl, fun u u0 u1 => I u u0 (by omega)⟩⟩
    · refine ab_aload_n (pc := 7) dX9_clashLetters_7 rfl ?_
      refine ab_get (pc := 8) (k := 2) okX9 rc.o rfl w114 rfl dX9_clashLetters_8 ?_
      refine ab_iload_n (pc := 11) dX9_clashLetters_11 rfl ?_
      refine ab_aload_n (pc := 12) dX9_clashLetters_12 rfl ?_
      refine ab_get (pc := 13) (k := 7) okX9 rc.o rfl w119 rfl dX9_clashLetters_13 ?_
      refine ab_iload_n (pc := 16) dX9_clashLetters_16 rfl ?_
      refine ab_callS (pc := 17) (c_barring hG [200] rc.ls rc.lt rc.lw er (by decide) c7 (by decide) (by decide) (by decide) (by decide) (by decide) (by omega) (by show c ≤ (60 : Int); omega) (by decide) lb (fun _ _ _ _ => by decide) (fun q q0 q1 _ => ⟨Nat.le_refl _, fun i i0 i1 => f7 i i0 (by omega)⟩) (fun q q0 q1 qS _ a u a0 a1 a2 => I u (by omega) a2 q q0 q1 qS a a0 a1)) ⟨w753, w1, w755, by decide, pd54⟩ w754 rfl (by omega) (by decide) (Nat.le_of_ble_eq_true rfl) rfl dX9_clashLetters_17 (fun _ _ hx => absurd hx cC_no) ?_
      rintro _ h ⟨_, e9, kq, bv, rfl, lr2, hbv⟩
      cases e9
      replace kp := kp.cal kq (by first | (simp; done) | (simp; omega))
      replace rc := rc.law kq lr2
      refine ab_iconst (pc := 20) dX9_clashLetters_20 (by decide) ?_
      refine ab_icmp_eq (pc := 21) 26 dX9_clashLetters_21 (by decide) (fun c21 => ?_) (fun c21 => ?_)
      · refine ab_iinc (pc := 26) dX9_clashLetters_26 rfl rfl (by decide) (by omega) (by omega) ?_
        refine ab_goto (pc := 29) 2 dX9_clashLetters_29 (by decide) ?_
        refine ih (c + 1) _ (by omega) rc kp (by omega) (fun u u0 u1 => ?_)
        by_cases g9 : u = c
        · rw [g9]
          rcases hbv with ⟨_, q9⟩ | ⟨q9, _⟩
          · exact q9
          · omega
        · exact I u u0 (by omega)
      · refine ab_iload_n (pc := 24) dX9_clashLetters_24 rfl ?_
        refine ab_iret (pc := 25) dX9_clashLetters_25 rfl ?_
        exact ⟨_, rfl, kp, rc, Or.inr ⟨c0, by omega, I, bv, hbv, c21⟩⟩
theorem c_clL (hG : ab_G l E) {x : Nat} {B : Nat → Nat} {s : Nat → Int} {F C : Nat → Int → Int} {SA : Nat → Int → Option Nat} {la : Option Nat} {q : Nat → Int} {e n : Int} (rc : RCx h0 x B s F C SA la q) (er : -2147483648 ≤ e ∧ e < 2147483648) (b7 : 0 ≤ s 7) (c7 : s 7 ≤ 12) (lb : ∀ q : Int, 0 ≤ q → q < s 7 → lawB F q) (n6 : n ≤ 60) (f7 : ∀ j : Int, 0 ≤ j → j < n → 0 ≤ C 10 j ∧ C 10 j ≤ 7) : ab_M l E Y_X9_clashLetters 4 10 0 0 [vR x, vI e, vI n] h0 (cB h0 x B s F C SA la q (fun c => clL F (s 7) e (C 10) n c)) := by
  refine ab_M.of (L0 := [some (vR x), some (vI e), some (vI n), none]) hG rfl rfl (Nat.le_of_ble_eq_true rfl) rfl ?_
  have kp : ab_kp (cP [200]) h0 h0 := ab_kp0
  refine ab_iconst (pc := 0) dX9_clashLetters_0 (by decide) ?_
  refine ab_istore_n (pc := 1) dX9_clashLetters_1 rfl (Nat.le_of_ble_eq_true rfl) ?_
  exact c_clL_2 hG er b7 c7 lb n6 f7 _ 1 _ (Nat.lt_succ_self _) rc kp (by omega) (fun u u0 u1 => absurd u1 (by omega))
theorem c_clash (hG : ab_G l E) {x : Nat} {B : Nat → Nat} {s : Nat → Int} {F C : Nat → Int → Int} {SA : Nat → Int → Option Nat} {la : Option Nat} {q : Nat → Int} {e i k w : Int} (rc : RCx h0 x B s F C SA la q) (b3 : ∀ j, 0 ≤ j → j < 160 → -1 ≤ F 3 j ∧ F 3 j ≤ 80) (s16 : s 1 ≤ 16) (er : -2147483648 ≤ e ∧ e < 2147483648) (b7 : 0 ≤ s 7) (c7 : s 7 ≤ 12) (lb : ∀ q : Int, 0 ≤ q → q < s 7 → lawB F q) : ab_M l E Y_X9_clash 8 11 4 24 [vR x, vI e, vI i, vI k, vI w] h0 (cW h0 [10, 200] x B (fun o s' F' => ∃ c r9 : Int, clashSp s F e i k w c r9 ∧ s' = s ∧ F' = F ∧ ((c = 0 ∧ o = .inl (some (vI r9))) ∨ (c = 1 ∧ o = .inr "java/lang/IndexOutOfBoundsException") ∨ (c = 2 ∧ o = .inr "java/lang/IllegalArgumentException")))) := by
  refine ab_M.of (L0 := [some (vR x), some (vI e), some (vI i), some (vI k), some (vI w), none, none, none]) hG rfl rfl (Nat.le_of_ble_eq_true rfl) rfl ?_
  have kp : ab_kp (cP [10, 200]) h0 h0 := ab_kp0
  refine ab_aload_n (pc := 0) dX9_clash_0 rfl ?_
  refine ab_iload_n (pc := 1) dX9_clash_1 rfl ?_
  refine ab_iload_n (pc := 2) dX9_clash_2 rfl ?_
  refine ab_callV (pc := 3) (c_readWord hG rc b3 s16) rc.o rfl ⟨w601, w1, w604, by decide, pd18⟩ w603 sp3 rfl (by omega) (by decide) (Nat.le_of_ble_eq_true rfl) rfl dX9_clash_3 (fun X9 h9 hx9 => by rcases hx9 with ⟨r9, nr, rfl⟩ | ⟨_, _, _, r9, _⟩; cases r9; exact ⟨kp, _, _, _, _, _, _, rc, 1, 0, Or.inl ⟨nr, rfl, rfl⟩, rfl, rfl, Or.inr (Or.inl ⟨rfl, rfl⟩)⟩; cases r9) ?_
  rintro r9 h9 hr9
  rcases hr9 with ⟨r9, _⟩ | ⟨ir, v, fl, r9, kq, hl9, rd, rl⟩
  · cases r9
  cases r9
  replace kp := kp.cal kq (by simp)
  replace rc := rc.let kq hl9
  refine ab_istore (pc := 6) dX9_clash_6 rfl (Nat.le_of_ble_eq_true rfl) ?_
  refine ab_aload_n (pc := 8) dX9_clash_8 rfl ?_
  refine ab_iload_n (pc := 9) dX9_clash_9 rfl ?_
  refine ab_callV (pc := 10) (c_needSet hG rc.o er b7 c7) rc.o rfl ⟨w744, w1, w747, by decide, pd5⟩ w746 sp7 rfl (by omega) (by decide) (Nat.le_of_ble_eq_true rfl) rfl dX9_clash_10 (fun X9 h9 hx9 => by obtain ⟨rfl, ⟨r9, _⟩ | ⟨r9, n9⟩⟩ := hx9; cases r9; cases r9; exact ⟨kp, _, _, _, _, _, _, rc, 2, 0, Or.inr (Or.inl ⟨ir, fun kk => n9 kk.1, rfl, rfl⟩), rfl, rfl, Or.inr (Or.inr ⟨rfl, rfl⟩)⟩) ?_
  rintro r9 h9 ⟨rfl, hr9⟩
  rcases hr9 with ⟨r9, oks⟩ | ⟨r9, _⟩
  rotate_left
  · cases r9
  cases r9
  refine ab_iload (pc := 13) dX9_clash_13 rfl ?_
  refine ab_iconst (pc := 15) dX9_clash_15 (by decide) ?_
  refine ab_callS (pc := 16) (c_needWhat hG) ⟨w709, w1, w711, by decide, pd11⟩ w710 rfl (by omega) (by decide) (Nat.le_of_ble_eq_true rfl) rfl dX9_clash_16 (fun X9 h9 hx9 => by obtain ⟨rfl, ⟨r9, _⟩ | ⟨r9, n9⟩⟩ := hx9; cases r9; cases r9; exact ⟨kp, _, _, _, _, _, _, rc, 2, 0, Or.inr (Or.inl ⟨ir, fun kk => n9 kk.2, rfl, rfl⟩), rfl, rfl, Or.inr (Or.inr ⟨rfl, rfl⟩)⟩) ?_
  rintro r9 h9 ⟨rfl, hr9⟩
  rcases hr9 with ⟨r9, okw⟩ | ⟨r9, _⟩
  rotate_left
  · cases r9
  cases r9
  refine ab_iload (pc := 19) dX9_clash_19 rfl ?_
  refine ab_if_ge (pc := 21) 27 dX9_clash_21 (by decide) (fun c21 => ?_) (fun c21 => ?_)
  · have ln := rd.len
    have u10 : ab_u C 10 fl 10 = fl := ab_u_eq
    have f7 : ∀ j : Int, 0 ≤ j → j < v → 0 ≤ ab_u C 10 fl 10 j ∧ ab_u C 10 fl 10 j ≤ 7 := fun j j0 j1 => by rw [u10, rl j j0 j1]; exact (ln.2.2 (by omega)).2 j j0 j1
    refine ab_aload_n (pc := 27) dX9_clash_27 rfl ?_
    refine ab_iload_n (pc := 28) dX9_clash_28 rfl ?_
    refine ab_iload (pc := 29) dX9_clash_29 rfl ?_
    refine ab_callV (pc := 31) (c_clL hG rc er b7 c7 lb (by have := rd.len; omega) f7) rc.o rfl ⟨w749, w1, w752, by decide, pd18⟩ w751 sp8 rfl (by omega) (by decide) (Nat.le_of_ble_eq_true rfl) rfl dX9_clash_31 (fun _ _ hx => absurd hx cB_no) ?_
    rintro _ h9 ⟨c, e9, kq, rc9, hc⟩
    cases e9
    replace kp := kp.cal kq (by simp)
    replace rc := rc9
    have hc2 : clL F (s 7) e (rdL F i k) v c := hc.congr (by rw [u10]; exact rl)
    refine ab_istore (pc := 34) dX9_clash_34 rfl (Nat.le_of_ble_eq_true rfl) ?_
    refine ab_iload (pc := 36) dX9_clash_36 rfl ?_
    refine ab_if_ne (pc := 38) 53 dX9_clash_38 (by decide) (fun c38 => ?_) (fun c38 => ?_)
    · refine ab_iload (pc := 53) dX9_clash_53 rfl ?_
      refine ab_iconst (pc := 55) dX9_clash_55 (by decide) ?_
      refine ab_icmp_eq (pc := 56) 65 dX9_clash_56 (by decide) (fun c56 => ?_) (fun c56 => ?_)
      · refine ab_iload (pc := 65) dX9_clash_65 rfl ?_
        refine ab_iret (pc := 67) dX9_clash_67 rfl ?_
        obtain ⟨qq, zz, hcl⟩ := hc2.ex
        first | exact ⟨kp, _, _, _, _, _, _, rc, 0, c, Or.inr (Or.inr ⟨ir, oks, okw.1, okw.2, rfl, Or.inr ⟨v, c, qq, zz, by omega, rd, hcl, Or.inr (Or.inr (Or.inl ⟨by omega, by omega, by omega⟩))⟩⟩), rfl, rfl, Or.inl ⟨rfl, rfl⟩⟩ | exact ⟨kp, _, _, _, _, _, _, rc, 0, c, Or.inr (Or.inr ⟨ir, oks, okw.1, okw.2, rfl, Or.inr ⟨v, c, qq, zz, by omega, rd, hcl, Or.inr (Or.inr (Or.inr (Or.inl ⟨by omega, by omega, rfl⟩)))⟩⟩), rfl, rfl, Or.inl ⟨rfl, rfl⟩⟩
      · refine ab_iload (pc := 59) dX9_clash_59 rfl ?_
        refine ab_iconst (pc := 61) dX9_clash_61 (by decide) ?_
        refine ab_icmp_ne (pc := 62) 68 dX9_clash_62 (by decide) (fun c62 => ?_) (fun c62 => ?_)
        · have kk : 1 ≤ c ∧ c ≤ v := by rcases hc with ⟨b, _⟩ | ⟨b1, b2, _⟩; omega; omega
          have kk3 : ∀ u : Int, 1 ≤ u → u < c → KL F (s 7) e (ab_u C 10 fl 10) u := by rcases hc with ⟨b, _⟩ | ⟨_, _, b3, _⟩; omega; exact b3
          have nb : ∀ v9, barR F (s 7) e (ab_u C 10 fl 10) c v9 → v9 ≠ -1 := fun v9 h9 => by rcases hc with ⟨b, _⟩ | ⟨_, _, _, v8, h8, n8⟩; omega; rw [barR_uniq h9 h8]; exact n8
          refine ab_aload_n (pc := 68) dX9_clash_68 rfl ?_
          refine ab_get (pc := 69) (k := 2) okX9 rc.o rfl w114 rfl dX9_clash_69 ?_
          refine ab_iload_n (pc := 72) dX9_clash_72 rfl ?_
          refine ab_aload_n (pc := 73) dX9_clash_73 rfl ?_
          refine ab_get (pc := 74) (k := 7) okX9 rc.o rfl w119 rfl dX9_clash_74 ?_
          refine ab_iload (pc := 77) dX9_clash_77 rfl ?_
          refine ab_callS (pc := 79) (c_barring hG [200] rc.ls rc.lt rc.lw er (by decide) c7 (by decide) (by decide) (by decide) (by decide) (by decide) (by omega) (by show c ≤ (60 : Int); omega) (by decide) lb (fun _ _ _ _ => by decide) (fun q q0 q1 _ => ⟨Nat.le_refl _, fun i i0 i1 => f7 i i0 (by omega)⟩) (fun q q0 q1 qS _ a u a0 a1 a2 => kk3 u (by omega) a2 q q0 q1 qS a a0 a1)) ⟨w753, w1, w755, by decide, pd54⟩ w754 rfl (by omega) (by decide) (Nat.le_of_ble_eq_true rfl) rfl dX9_clash_79 (fun _ _ hx => absurd hx cC_no) ?_
          rintro _ h ⟨_, e9, kq, bv, rfl, lr2, hbv⟩
          cases e9
          replace kp := kp.cal kq (by first | (simp; done) | (simp; omega))
          replace rc := rc.law kq lr2
          refine ab_istore (pc := 82) dX9_clash_82 rfl (Nat.le_of_ble_eq_true rfl) ?_
          have bne := nb _ hbv
          have b9 : 0 ≤ bv ∧ bv < s 7 := by rcases hbv with ⟨b, _⟩ | ⟨b1, b2, _⟩; omega; omega
          have bS : inS e bv := by rcases hbv with ⟨b, _⟩ | ⟨_, _, b3, _⟩; omega; exact b3
          have hb2 : barR F (s 7) e (rdL F i k) c bv := by rw [u10] at hbv; rcases hbv with ⟨b, b2⟩ | ⟨b1, b2, b3, ⟨d, d0, d1, d2⟩, b5⟩; exact Or.inl ⟨b, b2.congr (fun j j0 j1 => rl j j0 (by omega))⟩; exact Or.inr ⟨b1, b2, b3, ⟨d, d0, d1, d2.congr (fun j j0 j1 => rl j (by omega) (by omega))⟩, fun p p0 p1 pS a a0 a1 hb => b5 p p0 p1 pS a a0 a1 (hb.congr (fun j j0 j1 => (rl j (by omega) (by omega)).symm))⟩
          refine ab_iload (pc := 84) dX9_clash_84 rfl ?_
          refine ab_iconst (pc := 86) dX9_clash_86 (by decide) ?_
          refine ab_icmp_eq (pc := 87) 96 dX9_clash_87 (by decide) (fun c87 => ?_) (fun c87 => ?_)
          · refine ab_iload (pc := 96) dX9_clash_96 rfl ?_
            refine ab_iret (pc := 98) dX9_clash_98 rfl ?_
            have hb3 := hb2
            rcases hb3 with ⟨b, _⟩ | ⟨_, _, _, b4, _⟩
            · exact absurd b bne
            · obtain ⟨z, hz⟩ := Bar_min b4
              first | exact ⟨kp, _, _, _, _, _, _, rc, 0, bv, Or.inr (Or.inr ⟨ir, oks, okw.1, okw.2, rfl, Or.inr ⟨v, c, bv, z, by omega, rd, hc2.cl (by omega) hb2 hz, Or.inr (Or.inr (Or.inr (Or.inr (Or.inl ⟨by omega, by omega, rfl⟩))))⟩⟩), rfl, rfl, Or.inl ⟨rfl, rfl⟩⟩ | omega
          · refine ab_iload (pc := 90) dX9_clash_90 rfl ?_
            refine ab_iconst (pc := 92) dX9_clash_92 (by decide) ?_
            refine ab_icmp_ne (pc := 93) 99 dX9_clash_93 (by decide) (fun c93 => ?_) (fun c93 => ?_)
            · refine ab_aload_n (pc := 99) dX9_clash_99 rfl ?_
              refine ab_get (pc := 100) (k := 2) okX9 rc.o rfl w114 rfl dX9_clash_100 ?_
              refine ab_iload (pc := 103) dX9_clash_103 rfl ?_
              refine ab_aald (pc := 105) rc.ls (by omega) (by omega) dX9_clash_105 ?_
              refine ab_aload_n (pc := 106) dX9_clash_106 rfl ?_
              refine ab_get (pc := 107) (k := 7) okX9 rc.o rfl w119 rfl dX9_clash_107 ?_
              refine ab_iload (pc := 110) dX9_clash_110 rfl ?_
              obtain ⟨a9, ea, lc9⟩ := (rc.lw bv (by omega) (by show bv < (12 : Int); omega)).1 (by omega)
              rw [ea]
              refine c_sh (pc := 112) hG w756 dX9_clash_112 (by omega) (Nat.le_of_ble_eq_true rfl) lc9 (lb bv (by omega) (by omega)) rc.lt (by omega) (by decide) (by omega) (by show c ≤ (60 : Int); have := rd.len; omega) (by decide) (fun _ => ⟨Nat.le_refl _, fun i i0 i1 => f7 i i0 (by omega)⟩) (fun _ a u a0 a1 a2 => kk3 u (by omega) a2 bv (by omega) (by omega) bS a a0 a1) ?_
              intro z h2 kq lc2 hpu hS
              replace rc := rc.law (kq.sub (by simp; omega)) (rc.lw.step (by decide) (by omega) kq ea lc2)
              replace kp := kp.cal kq (by simp; omega)
              refine ab_iret (pc := 115) dX9_clash_115 rfl ?_
              have hz : 1 ≤ z ∧ z ≤ c ∧ Bar F bv (rdL F i k) (c - z) c ∧ ∀ a : Int, c - z < a → a < c → ¬ Bar F bv (rdL F i k) a c := by
                rw [u10] at hS
                rcases hS with ⟨_, k0⟩ | ⟨k1, k2, k3, k4⟩
                · rcases hbv with ⟨b, _⟩ | ⟨_, _, _, ⟨d, d0, d1, d2⟩, _⟩
                  · exact absurd b bne
                  · rw [u10] at d2; exact absurd d2 (k0 d d0 d1)
                · exact ⟨k1, k2, k3.congr (fun j j0 j1 => rl j (by omega) (by omega)), fun a a0 a1 hb => k4 a a0 a1 (hb.congr (fun j j0 j1 => (rl j (by omega) (by omega)).symm))⟩
              exact ⟨kp, _, _, _, _, _, _, rc, 0, z, Or.inr (Or.inr ⟨ir, oks, okw.1, okw.2, rfl, Or.inr ⟨v, c, bv, z, by omega, rd, hc2.cl (by omega) hb2 hz, Or.inr (Or.inr (Or.inr (Or.inr (Or.inr ⟨by omega, by omega, rfl⟩))))⟩⟩), rfl, rfl, Or.inl ⟨rfl, rfl⟩⟩
            · refine ab_iload (pc := 96) dX9_clash_96 rfl ?_
              refine ab_iret (pc := 98) dX9_clash_98 rfl ?_
              have hb3 := hb2
              rcases hb3 with ⟨b, _⟩ | ⟨_, _, _, b4, _⟩
              · exact absurd b bne
              · obtain ⟨z, hz⟩ := Bar_min b4
                first | exact ⟨kp, _, _, _, _, _, _, rc, 0, bv, Or.inr (Or.inr ⟨ir, oks, okw.1, okw.2, rfl, Or.inr ⟨v, c, bv, z, by omega, rd, hc2.cl (by omega) hb2 hz, Or.inr (Or.inr (Or.inr (Or.inr (Or.inl ⟨by omega, by omega, rfl⟩))))⟩⟩), rfl, rfl, Or.inl ⟨rfl, rfl⟩⟩ | omega
        · refine ab_iload (pc := 65) dX9_clash_65 rfl ?_
          refine ab_iret (pc := 67) dX9_clash_67 rfl ?_
          obtain ⟨qq, zz, hcl⟩ := hc2.ex
          first | exact ⟨kp, _, _, _, _, _, _, rc, 0, c, Or.inr (Or.inr ⟨ir, oks, okw.1, okw.2, rfl, Or.inr ⟨v, c, qq, zz, by omega, rd, hcl, Or.inr (Or.inr (Or.inl ⟨by omega, by omega, by omega⟩))⟩⟩), rfl, rfl, Or.inl ⟨rfl, rfl⟩⟩ | exact ⟨kp, _, _, _, _, _, _, rc, 0, c, Or.inr (Or.inr ⟨ir, oks, okw.1, okw.2, rfl, Or.inr ⟨v, c, qq, zz, by omega, rd, hcl, Or.inr (Or.inr (Or.inr (Or.inl ⟨by omega, by omega, rfl⟩)))⟩⟩), rfl, rfl, Or.inl ⟨rfl, rfl⟩⟩
    · refine ab_iload (pc := 41) dX9_clash_41 rfl ?_
      refine ab_iconst (pc := 43) dX9_clash_43 (by decide) ?_
      refine ab_icmp_ne (pc := 44) 51 dX9_clash_44 (by decide) (fun c44 => ?_) (fun c44 => ?_)
      · refine ab_iconst (pc := 51) dX9_clash_51 (by decide) ?_
        refine ab_iret (pc := 52) dX9_clash_52 rfl ?_
        obtain ⟨qq, zz, hcl⟩ := hc2.ex
        first | exact ⟨kp, _, _, _, _, _, _, rc, 0, 1, Or.inr (Or.inr ⟨ir, oks, okw.1, okw.2, rfl, Or.inr ⟨v, c, qq, zz, by omega, rd, hcl, Or.inl ⟨by omega, by omega, rfl⟩⟩⟩), rfl, rfl, Or.inl ⟨rfl, rfl⟩⟩ | exact ⟨kp, _, _, _, _, _, _, rc, 0, 0, Or.inr (Or.inr ⟨ir, oks, okw.1, okw.2, rfl, Or.inr ⟨v, c, qq, zz, by omega, rd, hcl, Or.inr (Or.inl ⟨by omega, by omega, rfl⟩)⟩⟩), rfl, rfl, Or.inl ⟨rfl, rfl⟩⟩
      · refine ab_iconst (pc := 47) dX9_clash_47 (by decide) ?_
        refine ab_goto (pc := 48) 52 dX9_clash_48 (by decide) ?_
        refine ab_iret (pc := 52) dX9_clash_52 rfl ?_
        obtain ⟨qq, zz, hcl⟩ := hc2.ex
        first | exact ⟨kp, _, _, _, _, _, _, rc, 0, 1, Or.inr (Or.inr ⟨ir, oks, okw.1, okw.2, rfl, Or.inr ⟨v, c, qq, zz, by omega, rd, hcl, Or.inl ⟨by omega, by omega, rfl⟩⟩⟩), rfl, rfl, Or.inl ⟨rfl, rfl⟩⟩ | exact ⟨kp, _, _, _, _, _, _, rc, 0, 0, Or.inr (Or.inr ⟨ir, oks, okw.1, okw.2, rfl, Or.inr ⟨v, c, qq, zz, by omega, rd, hcl, Or.inr (Or.inl ⟨by omega, by omega, rfl⟩)⟩⟩), rfl, rfl, Or.inl ⟨rfl, rfl⟩⟩
  · refine ab_bipush (pc := 24) dX9_clash_24 (by decide) ?_
    refine ab_iret (pc := 26) dX9_clash_26 rfl ?_
    have ln := rd.len
    obtain rfl : v = -1 := by omega
    exact ⟨kp, _, _, _, _, _, _, rc, 0, -2, Or.inr (Or.inr ⟨ir, oks, okw.1, okw.2, rfl, Or.inl ⟨rd, rfl⟩⟩), rfl, rfl, Or.inl ⟨rfl, rfl⟩⟩
end C21
