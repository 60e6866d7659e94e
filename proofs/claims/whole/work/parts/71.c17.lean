/-! the class: power, run -/
section C17
variable {l : Launch} {E : AbE} {h0 : AbH}
theorem lp_ex {f : Int → Int} {n : Int} (n1 : 1 ≤ n) : ∃ p : Int, lp f 0 n p := by
  have key : ∀ k : Nat, (∃ p : Int, lp f 0 n p) ∨ ∀ q : Int, 1 ≤ q → q ≤ k → q < n → ¬ isP f 0 n q := by
    intro k
    induction k with
    | zero => exact Or.inr (fun q q0 q1 _ => absurd q1 (by omega))
    | succ k ih =>
      rcases ih with ih | ih
      · exact Or.inl ih
      · by_cases g : isP f 0 n (k + 1) ∧ (k : Int) + 1 < n
        · exact Or.inl ⟨k + 1, by omega, by omega, g.1, fun q q0 q1 => ih q q0 (by omega) (by omega)⟩
        · refine Or.inr (fun q q0 q1 q2 hq => ?_)
          by_cases e : q = k + 1
          · rw [e] at hq q2; exact g ⟨hq, q2⟩
          · exact ih q q0 (by omega) q2 hq
  rcases key n.toNat with h | h
  · exact h
  · exact ⟨n, n1, by omega, fun j j0 j1 => absurd j1 (by omega), fun q q0 q1 => h q q0 (by omega) q1⟩
def skS (f : Int → Int) (n r wh v : Int) : Prop := (r = -1 ∧ v = ((Lfull f n).length : Int)) ∨ (0 ≤ r ∧ ((((Lfull f n).length : Int) ≤ r ∧ v = -1) ∨ ∃ a b p : Int, (Lfull f n)[r.toNat]? = some (a, b, p) ∧ ((wh = 0 ∧ v = a) ∨ (wh = 1 ∧ v = b) ∨ (wh ≠ 0 ∧ wh ≠ 1 ∧ v = p))))
theorem sk_here {f : Int → Int} {n i p r : Int} (i0 : 0 ≤ i) (p1 : 1 ≤ p) (h : i + 2 * p ≤ n) (hr : isRun f n i p) (e : ((Lat f n i p).length : Int) = r) : (Lfull f n)[r.toNat]? = some (i, pe f i n p, p) := by
  obtain ⟨t, ht⟩ := Lat_pre (f := f) (n := n) (i := i) (p := p + 1) i0 (by omega) (by omega) (by omega)
  rw [ht, Lat_step p1, rr_yes hr, show r.toNat = (Lat f n i p).length by omega]
  simp
theorem skS_congr {f g : Int → Int} {n r wh v : Int} (n0 : 0 ≤ n) (h : ∀ j : Int, 0 ≤ j → j < n → f j = g j) (k : skS f n r wh v) : skS g n r wh v := by
  unfold skS at k ⊢
  rw [← Lfull_congr n0 h]
  exact k
theorem skS_none {f : Int → Int} {r wh v : Int} (r0 : 0 ≤ r) (k : skS f (-1) r wh v) : v = -1 := by
  rcases k with ⟨e, _⟩ | ⟨_, ⟨_, e⟩ | ⟨a, b, p, e, _⟩⟩
  · omega
  · exact e
  · have : Lfull f (-1) = [] := rfl
    rw [this] at e
    simp at e
theorem c_seek_15 {x : Nat} {B : Nat → Nat} {s : Nat → Int} {F C : Nat → Int → Int} {SA : Nat → Int → Option Nat} {la : Option Nat} {q : Nat → Int} {n r wh : Int} {i : Int} (hG : ab_G l E) (n0 : -1 ≤ n) (n6 : n ≤ 60) (r0 : -1 ≤ r) (i0 : 0 ≤ i) (i1 : i < n) (hC : ∀ (p : Int) (x7 : Option AbV) (rn : Int), 1 ≤ p → i + 2 * (p - 1) ≤ n → n < i + 2 * p → rn = ((Lat (C 10) n i p).length : Int) → (0 ≤ r → rn ≤ r) → ab_T l E Y_X9_seekRun 3 0 0 83 [some (vR x), some (vI n), some (vI r), some (vI wh), some (vI rn), some (vI i), some (vI p), x7] [] h0 (pC h0 (fun v => skS (C 10) n r wh v))) (rc : RCx h0 x B s F C SA la q)  (fu : Nat) : ∀ (p rn : Int) (x7 : Option AbV), (n - p).toNat < fu → (1 ≤ p) → (i + 2 * (p - 1) ≤ n) → (rn = ((Lat (C 10) n i p).length : Int)) → (0 ≤ r → rn ≤ r) → ab_T l E Y_X9_seekRun 3 0 0 15 [some (vR x), some (vI n), some (vI r), some (vI wh), some (vI rn), some (vI i), some (vI p), x7] [] h0 (pC h0 (fun v => skS (C 10) n r wh v)) := by
  induction fu with
  | zero => intro p rn x7 hms9; exact absurd hms9 (Nat.not_lt_zero _)
  | succ fu ih =>
    intro p rn x7 hms9 p1 p2 e1 e2
    have lb := Lat_len (f := C 10) (n := n) (i := i) (p := p) n6 (by omega) (by omega)
    refine ab_iload (pc := 15) dX9_seekRun_15 rfl ?_
    refine ab_iconst (pc := 17) dX9_seekRun_17 (by decide) ?_
    refine ab_iload (pc := 18) dX9_seekRun_18 rfl ?_
    refine ab_imul (pc := 20) dX9_seekRun_20 (by omega) (by omega) ?_
    refine ab_iadd (pc := 21) dX9_seekRun_21 (by omega) (by omega) ?_
    refine ab_iload_n (pc := 22) dX9_seekRun_22 rfl ?_
    refine ab_icmp_gt (pc := 23) 83 dX9_seekRun_23 (by decide) (fun c23 => ?_) (fun c23 => ?_)
    · exact hC p _ rn p1 p2 (by omega) e1 e2
    · refine ab_aload_n (pc := 26) dX9_seekRun_26 rfl ?_
      refine ab_iload (pc := 27) dX9_seekRun_27 rfl ?_
      refine ab_iload_n (pc := 29) dX9_seekRun_29 rfl ?_
      refine ab_iload (pc := 30) dX9_seekRun_30 rfl ?_
      refine ab_callV (pc := 32) (c_runEnd hG rc i0 p1 (by omega) n6) rc.o rfl ⟨w717, w1, w720, by decide, pd8⟩ w719 sp6 rfl (by omega) (by decide) (Nat.le_of_ble_eq_true rfl) rfl dX9_seekRun_32 (fun _ _ hx => absurd hx pC_no) ?_
      rintro _ _ ⟨jv, e9, rfl, hj⟩
      cases e9
      refine ab_istore (pc := 35) dX9_seekRun_35 rfl (Nat.le_of_ble_eq_true rfl) ?_
      refine ab_iload (pc := 37) dX9_seekRun_37 rfl ?_
      refine ab_iconst (pc := 39) dX9_seekRun_39 (by decide) ?_
      refine ab_icmp_ne (pc := 40) 46 dX9_seekRun_40 (by decide) (fun c40 => ?_) (fun c40 => ?_)
      · refine ab_iload (pc := 46) dX9_seekRun_46 rfl ?_
        refine ab_iload_n (pc := 48) dX9_seekRun_48 rfl ?_
        refine ab_icmp_ne (pc := 49) 74 dX9_seekRun_49 (by decide) (fun c49 => ?_) (fun c49 => ?_)
        · refine ab_iinc (pc := 74) dX9_seekRun_74 rfl rfl (by decide) (by omega) (by omega) ?_
          refine ab_iinc (pc := 77) dX9_seekRun_77 rfl rfl (by decide) (by omega) (by omega) ?_
          refine ab_goto (pc := 80) 15 dX9_seekRun_80 (by decide) ?_
          rcases hj with ⟨j1, j2⟩ | ⟨j1, j2⟩
          · first | exact absurd j1 c40 | exact ih (p + 1) rn _ (by omega) (by omega) (by omega) (by rw [e1, Lat_step p1, rr_no j2, List.append_nil]) e2
          · first | exact ih (p + 1) (rn + 1) _ (by omega) (by omega) (by omega) (by rw [e1, Lat_step p1, rr_yes j2, List.length_append]; rfl) (fun g => by have := e2 g; omega) | (exfalso; have := (pe_ok (f := C 10) (i := i) (n := n) (p := p) (by omega)).1; omega)
        · refine ab_iload_n (pc := 52) dX9_seekRun_52 rfl ?_
          refine ab_if_ne (pc := 53) 61 dX9_seekRun_53 (by decide) (fun c53 => ?_) (fun c53 => ?_)
          · refine ab_iload_n (pc := 61) dX9_seekRun_61 rfl ?_
            refine ab_iconst (pc := 62) dX9_seekRun_62 (by decide) ?_
            refine ab_icmp_ne (pc := 63) 71 dX9_seekRun_63 (by decide) (fun c63 => ?_) (fun c63 => ?_)
            · refine ab_iload (pc := 71) dX9_seekRun_71 rfl ?_
              refine ab_iret (pc := 73) dX9_seekRun_73 rfl ?_
              rcases hj with ⟨j1, j2⟩ | ⟨j1, j2⟩
              · exact absurd j1 c40
              · exact ⟨_, rfl, rfl, Or.inr ⟨by omega, Or.inr ⟨i, _, p, sk_here i0 p1 (by omega) j2 (by omega), by omega⟩⟩⟩
            · refine ab_iload (pc := 66) dX9_seekRun_66 rfl ?_
              refine ab_goto (pc := 68) 73 dX9_seekRun_68 (by decide) ?_
              refine ab_iret (pc := 73) dX9_seekRun_73 rfl ?_
              rcases hj with ⟨j1, j2⟩ | ⟨j1, j2⟩
              · exact absurd j1 c40
              · exact ⟨_, rfl, rfl, Or.inr ⟨by omega, Or.inr ⟨i, _, p, sk_here i0 p1 (by omega) j2 (by omega), by omega⟩⟩⟩
          · refine ab_iload (pc := 56) dX9_seekRun_56 rfl ?_
            refine ab_goto (pc := 58) 73 dX9_seekRun_58 (by decide) ?_
            refine ab_iret (pc := 73) dX9_seekRun_73 rfl ?_
            rcases hj with ⟨j1, j2⟩ | ⟨j1, j2⟩
            · exact absurd j1 c40
            · exact ⟨_, rfl, rfl, Or.inr ⟨by omega, Or.inr ⟨i, _, p, sk_here i0 p1 (by omega) j2 (by omega), by omega⟩⟩⟩
      · refine ab_goto (pc := 43) 77 dX9_seekRun_43 (by decide) ?_
        refine ab_iinc (pc := 77) dX9_seekRun_77 rfl rfl (by decide) (by omega) (by omega) ?_
        refine ab_goto (pc := 80) 15 dX9_seekRun_80 (by decide) ?_
        rcases hj with ⟨j1, j2⟩ | ⟨j1, j2⟩
        · first | exact absurd j1 c40 | exact ih (p + 1) rn _ (by omega) (by omega) (by omega) (by rw [e1, Lat_step p1, rr_no j2, List.append_nil]) e2
        · first | exact ih (p + 1) (rn + 1) _ (by omega) (by omega) (by omega) (by rw [e1, Lat_step p1, rr_yes j2, List.length_append]; rfl) (fun g => by have := e2 g; omega) | (exfalso; have := (pe_ok (f := C 10) (i := i) (n := n) (p := p) (by omega)).1; omega)
theorem c_seek_6 {x : Nat} {B : Nat → Nat} {s : Nat → Int} {F C : Nat → Int → Int} {SA : Nat → Int → Option Nat} {la : Option Nat} {q : Nat → Int} {n r wh : Int} (hG : ab_G l E) (n0 : -1 ≤ n) (n6 : n ≤ 60) (r0 : -1 ≤ r) (rc : RCx h0 x B s F C SA la q)  (fu : Nat) : ∀ (i rn : Int) (x6 x7 : Option AbV), (n - i).toNat < fu → (0 ≤ i) → (i ≤ n ∨ (i = 0 ∧ n = -1)) → (rn = ((Lat (C 10) n i 1).length : Int)) → (0 ≤ r → rn ≤ r) → ab_T l E Y_X9_seekRun 3 0 0 6 [some (vR x), some (vI n), some (vI r), some (vI wh), some (vI rn), some (vI i), x6, x7] [] h0 (pC h0 (fun v => skS (C 10) n r wh v)) := by
  induction fu with
  | zero => intro i rn x6 x7 hms9; exact absurd hms9 (Nat.not_lt_zero _)
  | succ fu ih =>
    intro i rn x6 x7 hms9 i0 i1 e1 e2
    refine ab_iload (pc := 6) dX9_seekRun_6 rfl ?_
    refine ab_iload_n (pc := 8) dX9_seekRun_8 rfl ?_
    refine ab_icmp_ge (pc := 9) 89 dX9_seekRun_9 (by decide) (fun c9 => ?_) (fun c9 => ?_)
    · refine ab_iload_n (pc := 89) dX9_seekRun_89 rfl ?_
      refine ab_iconst (pc := 90) dX9_seekRun_90 (by decide) ?_
      refine ab_icmp_ne (pc := 91) 99 dX9_seekRun_91 (by decide) (fun c91 => ?_) (fun c91 => ?_)
      · refine ab_iconst (pc := 99) dX9_seekRun_99 (by decide) ?_
        refine ab_iret (pc := 100) dX9_seekRun_100 rfl ?_
        have e1 : rn = ((Lfull (C 10) n).length : Int) := by
          rcases i1 with g | ⟨g, g2⟩
          · obtain rfl : i = n := by omega
            rw [Lat_end] at e1; exact e1
          · rw [g, Lat_begin] at e1; rw [g2]; exact e1
        first | exact ⟨_, rfl, rfl, Or.inl ⟨by omega, by omega⟩⟩ | exact ⟨_, rfl, rfl, Or.inr ⟨by omega, Or.inl ⟨by have := e2 (by omega); omega, rfl⟩⟩⟩
      · refine ab_iload (pc := 94) dX9_seekRun_94 rfl ?_
        refine ab_goto (pc := 96) 100 dX9_seekRun_96 (by decide) ?_
        refine ab_iret (pc := 100) dX9_seekRun_100 rfl ?_
        have e1 : rn = ((Lfull (C 10) n).length : Int) := by
          rcases i1 with g | ⟨g, g2⟩
          · obtain rfl : i = n := by omega
            rw [Lat_end] at e1; exact e1
          · rw [g, Lat_begin] at e1; rw [g2]; exact e1
        first | exact ⟨_, rfl, rfl, Or.inl ⟨by omega, by omega⟩⟩ | exact ⟨_, rfl, rfl, Or.inr ⟨by omega, Or.inl ⟨by have := e2 (by omega); omega, rfl⟩⟩⟩
    · refine ab_iconst (pc := 12) dX9_seekRun_12 (by decide) ?_
      refine ab_istore (pc := 13) dX9_seekRun_13 rfl (Nat.le_of_ble_eq_true rfl) ?_
      refine c_seek_15 hG n0 n6 r0 i0 (by omega) (fun p x7 rn p1 p2 p3 e3 e4 => ?_) rc _ 1 _ _ (Nat.lt_succ_self _) (by omega) (by omega) e1 e2
      refine ab_iinc (pc := 83) dX9_seekRun_83 rfl rfl (by decide) (by omega) (by omega) ?_
      refine ab_goto (pc := 86) 6 dX9_seekRun_86 (by decide) ?_
      refine ih (i + 1) rn _ _ (by omega) (by omega) (by omega) (by rw [e3, Lat_next i0 p1 p2 p3]) e4
theorem c_seek (hG : ab_G l E) {x : Nat} {B : Nat → Nat} {s : Nat → Int} {F C : Nat → Int → Int} {SA : Nat → Int → Option Nat} {la : Option Nat} {q : Nat → Int} {n r wh : Int} (rc : RCx h0 x B s F C SA la q) (n0 : -1 ≤ n) (n6 : n ≤ 60) (r0 : -1 ≤ r) : ab_M l E Y_X9_seekRun 8 3 0 0 [vR x, vI n, vI r, vI wh] h0 (pC h0 (fun v => skS (C 10) n r wh v)) := by
  refine ab_M.of (L0 := [some (vR x), some (vI n), some (vI r), some (vI wh), none, none, none, none]) hG rfl rfl (Nat.le_of_ble_eq_true rfl) rfl ?_
  refine ab_iconst (pc := 0) dX9_seekRun_0 (by decide) ?_
  refine ab_istore (pc := 1) dX9_seekRun_1 rfl (Nat.le_of_ble_eq_true rfl) ?_
  refine ab_iconst (pc := 3) dX9_seekRun_3 (by decide) ?_
  refine ab_istore (pc := 4) dX9_seekRun_4 rfl (Nat.le_of_ble_eq_true rfl) ?_
  exact c_seek_6 hG n0 n6 r0 rc _ 0 0 _ _ (Nat.lt_succ_self _) (by omega) (by omega) (by rw [Lat_begin]; rfl) (fun g => g)
theorem c_powerC (hG : ab_G l E) {x : Nat} {B : Nat → Nat} {s : Nat → Int} {F C : Nat → Int → Int} {SA : Nat → Int → Option Nat} {la : Option Nat} {q : Nat → Int} {i k w : Int} (rc : RCx h0 x B s F C SA la q) (b3 : ∀ j, 0 ≤ j → j < 160 → -1 ≤ F 3 j ∧ F 3 j ≤ 80) (s16 : s 1 ≤ 16) : ab_M l E Y_X9_power 6 9 3 18 [vR x, vI i, vI k, vI w] h0 (cW h0 [10] x B (fun o s' F' => ∃ c r9 : Int, powSp s F i k w c r9 ∧ s' = s ∧ F' = F ∧ ((c = 0 ∧ o = .inl (some (vI r9))) ∨ (c = 1 ∧ o = .inr "java/lang/IndexOutOfBoundsException") ∨ (c = 2 ∧ o = .inr "java/lang/IllegalArgumentException")))) := by
  refine ab_M.of (L0 := [some (vR x), some (vI i), some (vI k), some (vI w), none, none]) hG rfl rfl (Nat.le_of_ble_eq_true rfl) rfl ?_
  have kp : ab_kp (cP [10]) h0 h0 := ab_kp0
  refine ab_aload_n (pc := 0) dX9_power_0 rfl ?_
  refine ab_iload_n (pc := 1) dX9_power_1 rfl ?_
  refine ab_iload_n (pc := 2) dX9_power_2 rfl ?_
  refine ab_callV (pc := 3) (c_readWord hG rc b3 s16) rc.o rfl ⟨w601, w1, w604, by decide, pd18⟩ w603 sp3 rfl (by omega) (by decide) (Nat.le_of_ble_eq_true rfl) rfl dX9_power_3 (fun X9 h9 hx9 => by rcases hx9 with ⟨r9, nr, rfl⟩ | ⟨_, _, _, r9, _⟩; cases r9; exact ⟨kp, _, _, _, _, _, _, rc, 1, 0, Or.inl ⟨nr, rfl, rfl⟩, rfl, rfl, Or.inr (Or.inl ⟨rfl, rfl⟩)⟩; cases r9) ?_
  rintro r9 h9 hr9
  rcases hr9 with ⟨r9, _⟩ | ⟨ir, v, fl, r9, kq, hl9, rd, rl⟩
  · cases r9
  cases r9
  replace kp := kp.cal kq (by simp)
  replace rc := rc.let kq hl9
  refine ab_istore (pc := 6) dX9_power_6 rfl (Nat.le_of_ble_eq_true rfl) ?_
  refine ab_iload_n (pc := 8) dX9_power_8 rfl ?_
  refine ab_iconst (pc := 9) dX9_power_9 (by decide) ?_
  refine ab_callS (pc := 10) (c_needWhat hG) ⟨w709, w1, w711, by decide, pd11⟩ w710 rfl (by omega) (by decide) (Nat.le_of_ble_eq_true rfl) rfl dX9_power_10 (fun X9 h9 hx9 => by obtain ⟨rfl, ⟨r9, _⟩ | ⟨r9, n9⟩⟩ := hx9; cases r9; cases r9; exact ⟨kp, _, _, _, _, _, _, rc, 2, 0, Or.inr (Or.inl ⟨ir, n9, rfl, rfl⟩), rfl, rfl, Or.inr (Or.inr ⟨rfl, rfl⟩)⟩) ?_
  rintro r9 h9 ⟨rfl, hr9⟩
  rcases hr9 with ⟨r9, okw⟩ | ⟨r9, _⟩
  rotate_left
  · cases r9
  cases r9
  refine ab_iload (pc := 13) dX9_power_13 rfl ?_
  refine ab_if_gt (pc := 15) 21 dX9_power_15 (by decide) (fun c15 => ?_) (fun c15 => ?_)
  · refine ab_iload_n (pc := 21) dX9_power_21 rfl ?_
    refine ab_iconst (pc := 22) dX9_power_22 (by decide) ?_
    refine ab_icmp_ne (pc := 23) 35 dX9_power_23 (by decide) (fun c23 => ?_) (fun c23 => ?_)
    · refine ab_aload_n (pc := 35) dX9_power_35 rfl ?_
      refine ab_get (pc := 36) (k := 7) okX9 rc.o rfl w119 rfl dX9_power_36 ?_
      refine ab_iconst (pc := 39) dX9_power_39 (by decide) ?_
      refine ab_iload (pc := 40) dX9_power_40 rfl ?_
      refine ab_callS (pc := 42) (c_lp hG rc.lt (by omega) (by omega) (by have := rd.len; show v ≤ (60 : Int); omega) (by decide)) ⟨w724, w1, w726, by decide, pd53⟩ w725 rfl (by omega) (by decide) (Nat.le_of_ble_eq_true rfl) rfl dX9_power_42 (fun _ _ hx => absurd hx pC_no) ?_
      rintro _ _ ⟨pv, e9, rfl, hpv⟩
      cases e9
      have fe : ∀ j : Int, 0 ≤ j → j < v → fl j = rdL F i k j := rl
      have ln := rd.len
      have u10 : ab_u C 10 fl 10 = fl := ab_u_eq
      rw [u10] at hpv
      have hp2 := lp_congr rl hpv
      have b1 := hp2.1
      have b2 := hp2.2.1
      refine ab_istore (pc := 45) dX9_power_45 rfl (Nat.le_of_ble_eq_true rfl) ?_
      refine ab_iload_n (pc := 47) dX9_power_47 rfl ?_
      refine ab_if_ne (pc := 48) 54 dX9_power_48 (by decide) (fun c48 => ?_) (fun c48 => ?_)
      · refine ab_iload_n (pc := 54) dX9_power_54 rfl ?_
        refine ab_iconst (pc := 55) dX9_power_55 (by decide) ?_
        refine ab_icmp_ne (pc := 56) 64 dX9_power_56 (by decide) (fun c56 => ?_) (fun c56 => ?_)
        · refine ab_iload (pc := 64) dX9_power_64 rfl ?_
          refine ab_iload_n (pc := 66) dX9_power_66 rfl ?_
          refine ab_iconst (pc := 67) dX9_power_67 (by decide) ?_
          refine ab_icmp_ne (pc := 68) 76 dX9_power_68 (by decide) (fun c68 => ?_) (fun c68 => ?_)
          · refine ab_iload (pc := 76) dX9_power_76 rfl ?_
            refine ab_callS (pc := 78) (c_term hG (by omega) (by omega) (by omega) (by omega)) ⟨w727, w1, w729, by decide, pd18⟩ w728 rfl (by omega) (by decide) (Nat.le_of_ble_eq_true rfl) rfl dX9_power_78 (fun _ _ hx => absurd hx pC_no) ?_
            rintro _ _ ⟨tv, e9, rfl, htv⟩
            cases e9
            refine ab_iret (pc := 81) dX9_power_81 rfl ?_
            first | exact ⟨kp, _, _, _, _, _, _, rc, 0, tv, Or.inr (Or.inr ⟨ir, okw.1, okw.2, rfl, Or.inr (Or.inr ⟨v, pv, by omega, rd, hp2, Or.inr (Or.inl ⟨by omega, htv⟩)⟩)⟩), rfl, rfl, Or.inl ⟨rfl, rfl⟩⟩ | (rw [show gcdI pv v = gcdI v pv by unfold gcdI; rw [Nat.gcd_comm]] at htv; exact ⟨kp, _, _, _, _, _, _, rc, 0, tv, Or.inr (Or.inr ⟨ir, okw.1, okw.2, rfl, Or.inr (Or.inr ⟨v, pv, by omega, rd, hp2, Or.inr (Or.inr (Or.inl ⟨by omega, htv⟩))⟩)⟩), rfl, rfl, Or.inl ⟨rfl, rfl⟩⟩) | (exfalso; omega)
          · refine ab_iload (pc := 71) dX9_power_71 rfl ?_
            refine ab_goto (pc := 73) 78 dX9_power_73 (by decide) ?_
            refine ab_callS (pc := 78) (c_term hG (by omega) (by omega) (by omega) (by omega)) ⟨w727, w1, w729, by decide, pd18⟩ w728 rfl (by omega) (by decide) (Nat.le_of_ble_eq_true rfl) rfl dX9_power_78 (fun _ _ hx => absurd hx pC_no) ?_
            rintro _ _ ⟨tv, e9, rfl, htv⟩
            cases e9
            refine ab_iret (pc := 81) dX9_power_81 rfl ?_
            first | exact ⟨kp, _, _, _, _, _, _, rc, 0, tv, Or.inr (Or.inr ⟨ir, okw.1, okw.2, rfl, Or.inr (Or.inr ⟨v, pv, by omega, rd, hp2, Or.inr (Or.inl ⟨by omega, htv⟩)⟩)⟩), rfl, rfl, Or.inl ⟨rfl, rfl⟩⟩ | (rw [show gcdI pv v = gcdI v pv by unfold gcdI; rw [Nat.gcd_comm]] at htv; exact ⟨kp, _, _, _, _, _, _, rc, 0, tv, Or.inr (Or.inr ⟨ir, okw.1, okw.2, rfl, Or.inr (Or.inr ⟨v, pv, by omega, rd, hp2, Or.inr (Or.inr (Or.inl ⟨by omega, htv⟩))⟩)⟩), rfl, rfl, Or.inl ⟨rfl, rfl⟩⟩) | (exfalso; omega)
        · refine ab_iload (pc := 59) dX9_power_59 rfl ?_
          refine ab_goto (pc := 61) 66 dX9_power_61 (by decide) ?_
          refine ab_iload_n (pc := 66) dX9_power_66 rfl ?_
          refine ab_iconst (pc := 67) dX9_power_67 (by decide) ?_
          refine ab_icmp_ne (pc := 68) 76 dX9_power_68 (by decide) (fun c68 => ?_) (fun c68 => ?_)
          · refine ab_iload (pc := 76) dX9_power_76 rfl ?_
            refine ab_callS (pc := 78) (c_term hG (by omega) (by omega) (by omega) (by omega)) ⟨w727, w1, w729, by decide, pd18⟩ w728 rfl (by omega) (by decide) (Nat.le_of_ble_eq_true rfl) rfl dX9_power_78 (fun _ _ hx => absurd hx pC_no) ?_
            rintro _ _ ⟨tv, e9, rfl, htv⟩
            cases e9
            refine ab_iret (pc := 81) dX9_power_81 rfl ?_
            first | exact ⟨kp, _, _, _, _, _, _, rc, 0, tv, Or.inr (Or.inr ⟨ir, okw.1, okw.2, rfl, Or.inr (Or.inr ⟨v, pv, by omega, rd, hp2, Or.inr (Or.inl ⟨by omega, htv⟩)⟩)⟩), rfl, rfl, Or.inl ⟨rfl, rfl⟩⟩ | (rw [show gcdI pv v = gcdI v pv by unfold gcdI; rw [Nat.gcd_comm]] at htv; exact ⟨kp, _, _, _, _, _, _, rc, 0, tv, Or.inr (Or.inr ⟨ir, okw.1, okw.2, rfl, Or.inr (Or.inr ⟨v, pv, by omega, rd, hp2, Or.inr (Or.inr (Or.inl ⟨by omega, htv⟩))⟩)⟩), rfl, rfl, Or.inl ⟨rfl, rfl⟩⟩) | (exfalso; omega)
          · refine ab_iload (pc := 71) dX9_power_71 rfl ?_
            refine ab_goto (pc := 73) 78 dX9_power_73 (by decide) ?_
            refine ab_callS (pc := 78) (c_term hG (by omega) (by omega) (by omega) (by omega)) ⟨w727, w1, w729, by decide, pd18⟩ w728 rfl (by omega) (by decide) (Nat.le_of_ble_eq_true rfl) rfl dX9_power_78 (fun _ _ hx => absurd hx pC_no) ?_
            rintro _ _ ⟨tv, e9, rfl, htv⟩
            cases e9
            refine ab_iret (pc := 81) dX9_power_81 rfl ?_
            first | exact ⟨kp, _, _, _, _, _, _, rc, 0, tv, Or.inr (Or.inr ⟨ir, okw.1, okw.2, rfl, Or.inr (Or.inr ⟨v, pv, by omega, rd, hp2, Or.inr (Or.inl ⟨by omega, htv⟩)⟩)⟩), rfl, rfl, Or.inl ⟨rfl, rfl⟩⟩ | (rw [show gcdI pv v = gcdI v pv by unfold gcdI; rw [Nat.gcd_comm]] at htv; exact ⟨kp, _, _, _, _, _, _, rc, 0, tv, Or.inr (Or.inr ⟨ir, okw.1, okw.2, rfl, Or.inr (Or.inr ⟨v, pv, by omega, rd, hp2, Or.inr (Or.inr (Or.inl ⟨by omega, htv⟩))⟩)⟩), rfl, rfl, Or.inl ⟨rfl, rfl⟩⟩) | (exfalso; omega)
      · refine ab_iload (pc := 51) dX9_power_51 rfl ?_
        refine ab_iret (pc := 53) dX9_power_53 rfl ?_
        exact ⟨kp, _, _, _, _, _, _, rc, 0, pv, Or.inr (Or.inr ⟨ir, okw.1, okw.2, rfl, Or.inr (Or.inr ⟨v, pv, by omega, rd, hp2, Or.inl ⟨by omega, rfl⟩⟩)⟩), rfl, rfl, Or.inl ⟨rfl, rfl⟩⟩
    · refine ab_aload_n (pc := 26) dX9_power_26 rfl ?_
      refine ab_iload (pc := 27) dX9_power_27 rfl ?_
      refine ab_iconst (pc := 29) dX9_power_29 (by decide) ?_
      refine ab_iconst (pc := 30) dX9_power_30 (by decide) ?_
      refine ab_callV (pc := 31) (c_seek hG rc (by omega) (by have := rd.len; omega) (by omega)) rc.o rfl ⟨w713, w1, w716, by decide, pd8⟩ w715 sp5 rfl (by omega) (by decide) (Nat.le_of_ble_eq_true rfl) rfl dX9_power_31 (fun _ _ hx => absurd hx pC_no) ?_
      rintro _ _ ⟨sv, e9, rfl, hsv⟩
      cases e9
      refine ab_iret (pc := 34) dX9_power_34 rfl ?_
      have fe : ∀ j : Int, 0 ≤ j → j < v → fl j = rdL F i k j := rl
      have ln := rd.len
      have u10 : ab_u C 10 fl 10 = fl := ab_u_eq
      rw [u10] at hsv
      replace hsv := skS_congr (by omega) rl hsv
      have lpx := lp_ex (f := rdL F i k) (n := v) (by omega)
      obtain ⟨p, hp⟩ := lpx
      rcases hsv with ⟨_, q2⟩ | ⟨q1, _⟩
      · exact ⟨kp, _, _, _, _, _, _, rc, 0, sv, Or.inr (Or.inr ⟨ir, okw.1, okw.2, rfl, Or.inr (Or.inr ⟨v, p, by omega, rd, hp, Or.inr (Or.inr (Or.inr ⟨by omega, q2⟩))⟩)⟩), rfl, rfl, Or.inl ⟨rfl, rfl⟩⟩
      · omega
  · refine ab_iload (pc := 18) dX9_power_18 rfl ?_
    refine ab_iret (pc := 20) dX9_power_20 rfl ?_
    have ln := rd.len
    by_cases g : v = 0
    · rw [g] at rd
      rw [g]
      exact ⟨kp, _, _, _, _, _, _, rc, 0, 0, Or.inr (Or.inr ⟨ir, okw.1, okw.2, rfl, Or.inr (Or.inl ⟨rd, rfl⟩)⟩), rfl, rfl, Or.inl ⟨rfl, rfl⟩⟩
    · obtain rfl : v = -1 := by omega
      exact ⟨kp, _, _, _, _, _, _, rc, 0, -1, Or.inr (Or.inr ⟨ir, okw.1, okw.2, rfl, Or.inl ⟨rd, rfl⟩⟩), rfl, rfl, Or.inl ⟨rfl, rfl⟩⟩
theorem run_of {f : Int → Int} {n r w v : Int} (h : skS f n r w v) (r0 : 0 ≤ r) (w0 : 0 ≤ w) (w2 : w ≤ 2) : (¬ (0 ≤ r ∧ r < (Lfull f n).length) ∧ v = -1) ∨ ∃ a b p : Int, 0 ≤ r ∧ (Lfull f n)[r.toNat]? = some (a, b, p) ∧ ((w = 0 ∧ v = a) ∨ (w = 1 ∧ v = b) ∨ (w = 2 ∧ v = p)) := by
  rcases h with ⟨e, _⟩ | ⟨_, ⟨e, e2⟩ | ⟨a, b, p, e, e2⟩⟩
  · omega
  · exact Or.inl ⟨by omega, e2⟩
  · exact Or.inr ⟨a, b, p, r0, e, by omega⟩
theorem c_runC (hG : ab_G l E) {x : Nat} {B : Nat → Nat} {s : Nat → Int} {F C : Nat → Int → Int} {SA : Nat → Int → Option Nat} {la : Option Nat} {q : Nat → Int} {i k r w : Int} (rc : RCx h0 x B s F C SA la q) (b3 : ∀ j, 0 ≤ j → j < 160 → -1 ≤ F 3 j ∧ F 3 j ≤ 80) (s16 : s 1 ≤ 16) : ab_M l E Y_X9_run 6 9 3 18 [vR x, vI i, vI k, vI r, vI w] h0 (cW h0 [10] x B (fun o s' F' => ∃ c r9 : Int, runSp s F i k r w c r9 ∧ s' = s ∧ F' = F ∧ ((c = 0 ∧ o = .inl (some (vI r9))) ∨ (c = 1 ∧ o = .inr "java/lang/IndexOutOfBoundsException") ∨ (c = 2 ∧ o = .inr "java/lang/IllegalArgumentException")))) := by
  refine ab_M.of (L0 := [some (vR x), some (vI i), some (vI k), some (vI r), some (vI w), none]) hG rfl rfl (Nat.le_of_ble_eq_true rfl) rfl ?_
  have kp : ab_kp (cP [10]) h0 h0 := ab_kp0
  refine ab_aload_n (pc := 0) dX9_run_0 rfl ?_
  refine ab_iload_n (pc := 1) dX9_run_1 rfl ?_
  refine ab_iload_n (pc := 2) dX9_run_2 rfl ?_
  refine ab_callV (pc := 3) (c_readWord hG rc b3 s16) rc.o rfl ⟨w601, w1, w604, by decide, pd18⟩ w603 sp3 rfl (by omega) (by decide) (Nat.le_of_ble_eq_true rfl) rfl dX9_run_3 (fun X9 h9 hx9 => by rcases hx9 with ⟨r9, nr, rfl⟩ | ⟨_, _, _, r9, _⟩; cases r9; exact ⟨kp, _, _, _, _, _, _, rc, 1, 0, Or.inl ⟨nr, rfl, rfl⟩, rfl, rfl, Or.inr (Or.inl ⟨rfl, rfl⟩)⟩; cases r9) ?_
  rintro r9 h9 hr9
  rcases hr9 with ⟨r9, _⟩ | ⟨ir, v, fl, r9, kq, hl9, rd, rl⟩
  · cases r9
  cases r9
  replace kp := kp.cal kq (by simp)
  replace rc := rc.let kq hl9
  refine ab_istore (pc := 6) dX9_run_6 rfl (Nat.le_of_ble_eq_true rfl) ?_
  refine ab_iload (pc := 8) dX9_run_8 rfl ?_
  refine ab_iconst (pc := 10) dX9_run_10 (by decide) ?_
  refine ab_callS (pc := 11) (c_needWhat hG) ⟨w709, w1, w711, by decide, pd11⟩ w710 rfl (by omega) (by decide) (Nat.le_of_ble_eq_true rfl) rfl dX9_run_11 (fun X9 h9 hx9 => by obtain ⟨rfl, ⟨r9, _⟩ | ⟨r9, n9⟩⟩ := hx9; cases r9; cases r9; exact ⟨kp, _, _, _, _, _, _, rc, 2, 0, Or.inr (Or.inl ⟨ir, n9, rfl, rfl⟩), rfl, rfl, Or.inr (Or.inr ⟨rfl, rfl⟩)⟩) ?_
  rintro r9 h9 ⟨rfl, hr9⟩
  rcases hr9 with ⟨r9, okw⟩ | ⟨r9, _⟩
  rotate_left
  · cases r9
  cases r9
  refine ab_iload_n (pc := 14) dX9_run_14 rfl ?_
  refine ab_if_ge (pc := 15) 22 dX9_run_15 (by decide) (fun c15 => ?_) (fun c15 => ?_)
  · refine ab_aload_n (pc := 22) dX9_run_22 rfl ?_
    refine ab_iload (pc := 23) dX9_run_23 rfl ?_
    refine ab_iload_n (pc := 25) dX9_run_25 rfl ?_
    refine ab_iload (pc := 26) dX9_run_26 rfl ?_
    refine ab_callV (pc := 28) (c_seek hG rc (by have := rd.len; omega) (by have := rd.len; omega) (by omega)) rc.o rfl ⟨w713, w1, w716, by decide, pd8⟩ w715 sp5 rfl (by omega) (by decide) (Nat.le_of_ble_eq_true rfl) rfl dX9_run_28 (fun _ _ hx => absurd hx pC_no) ?_
    rintro _ _ ⟨sv, e9, rfl, hsv⟩
    cases e9
    refine ab_iret (pc := 31) dX9_run_31 rfl ?_
    have ln := rd.len
    have u10 : ab_u C 10 fl 10 = fl := ab_u_eq
    by_cases g0 : v = -1
    · rw [g0] at rd
      first | exact ⟨kp, _, _, _, _, _, _, rc, 0, -1, Or.inr (Or.inr ⟨ir, okw.1, okw.2, rfl, Or.inl ⟨rd, rfl⟩⟩), rfl, rfl, Or.inl ⟨rfl, rfl⟩⟩ | (rw [g0] at hsv; rw [skS_none (by omega) hsv]; exact ⟨kp, _, _, _, _, _, _, rc, 0, -1, Or.inr (Or.inr ⟨ir, okw.1, okw.2, rfl, Or.inl ⟨rd, rfl⟩⟩), rfl, rfl, Or.inl ⟨rfl, rfl⟩⟩)
    · first | exact ⟨kp, _, _, _, _, _, _, rc, 0, -1, Or.inr (Or.inr ⟨ir, okw.1, okw.2, rfl, Or.inr ⟨v, by omega, rd, Or.inl ⟨by omega, rfl⟩⟩⟩), rfl, rfl, Or.inl ⟨rfl, rfl⟩⟩ | (rw [u10] at hsv; replace hsv := skS_congr (by omega) rl hsv; exact ⟨kp, _, _, _, _, _, _, rc, 0, sv, Or.inr (Or.inr ⟨ir, okw.1, okw.2, rfl, Or.inr ⟨v, by omega, rd, run_of hsv (by omega) okw.1 okw.2⟩⟩), rfl, rfl, Or.inl ⟨rfl, rfl⟩⟩)
  · refine ab_iconst (pc := 18) dX9_run_18 (by decide) ?_
    refine ab_goto (pc := 19) 31 dX9_run_19 (by decide) ?_
    refine ab_iret (pc := 31) dX9_run_31 rfl ?_
    have ln := rd.len
    have u10 : ab_u C 10 fl 10 = fl := ab_u_eq
    by_cases g0 : v = -1
    · rw [g0] at rd
      first | exact ⟨kp, _, _, _, _, _, _, rc, 0, -1, Or.inr (Or.inr ⟨ir, okw.1, okw.2, rfl, Or.inl ⟨rd, rfl⟩⟩), rfl, rfl, Or.inl ⟨rfl, rfl⟩⟩ | (rw [g0] at hsv; rw [skS_none (by omega) hsv]; exact ⟨kp, _, _, _, _, _, _, rc, 0, -1, Or.inr (Or.inr ⟨ir, okw.1, okw.2, rfl, Or.inl ⟨rd, rfl⟩⟩), rfl, rfl, Or.inl ⟨rfl, rfl⟩⟩)
    · first | exact ⟨kp, _, _, _, _, _, _, rc, 0, -1, Or.inr (Or.inr ⟨ir, okw.1, okw.2, rfl, Or.inr ⟨v, by omega, rd, Or.inl ⟨by omega, rfl⟩⟩⟩), rfl, rfl, Or.inl ⟨rfl, rfl⟩⟩ | (rw [u10] at hsv; replace hsv := skS_congr (by omega) rl hsv; exact ⟨kp, _, _, _, _, _, _, rc, 0, sv, Or.inr (Or.inr ⟨ir, okw.1, okw.2, rfl, Or.inr ⟨v, by omega, rd, run_of hsv (by omega) okw.1 okw.2⟩⟩), rfl, rfl, Or.inl ⟨rfl, rfl⟩⟩)
end C17
