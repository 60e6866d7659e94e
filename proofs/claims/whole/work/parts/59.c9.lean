/-! the class: so many words -/
section C9
variable {l : Launch} {E : AbE} {h0 : AbH}
def bP (h' : AbH) (r : Option AbV) (sr mk la N9 mb : Nat) (SA : Int → Option Nat) (F : Nat → Int → Int) (G e al n co : Int) (w0 : Int → Int) (lk0 times : Int) : Prop := ∃ (t : Nat) (o : Int) (f2 : Int → Int) (sz2 nx2 lk2 lg2 fo2 : Int) (w2 : Int → Int) (d2 : Int), r = some (vI o) ∧ h' sr = some (kO 8 3 [vR mk, vR la, vI e, vI al, vI n, vI co, vI lk2, vI fo2, vI lg2, vI sz2, vI nx2, vI 1]) ∧ h' mk = some (kI 9 60 f2) ∧ lawsR h' N9 SA G mb F ∧ sEnd (KL F G e) al n co w0 0 lk0 0 t (o, w2, d2, lk2, lg2) ∧ 0 ≤ lk2 ∧ lk2 ≤ 20000 ∧ ((o = 1 ∧ (t : Int) + 1 = times ∧ sFd F G e al n f2 w2) ∨ ((o = 0 ∨ o = -2) ∧ (t : Int) < times ∧ fo2 = t))
theorem sB_s {t : Nat} : sB (t + 1) = 1 := if_neg (by omega)
theorem sS_bd {F : Nat → Int → Int} {G e al n bg : Int} {f9 : Int → Int} {sz nx : Int} {w : Int → Int} {d lk lg : Int} (h : sS F G e al n bg f9 sz nx w d lk lg) : 0 ≤ lk ∧ lk ≤ 20000 := by
  rcases h with h | h | ⟨_, _, h⟩
  · omega
  · omega
  · exact ⟨h.2.2.2.2.2.2.2.2.2.1, h.2.2.2.2.2.2.2.2.2.2.1⟩
theorem sChain_t {kp : (Int → Int) → Int → Prop} {a n co lk0 : Int} {w0 w : Int → Int} {t : Nat} {d lk lg d0 lg0 : Int} (h : sChain kp a n co w0 d0 lk0 lg0 t w d lk lg) (c1 : 1 ≤ co) (l0 : 0 ≤ lk0) : (t : Int) ≤ lk := by
  have a := sChain_lk (by omega) t h
  have b : 1 * (t : Int) ≤ co * t := Int.mul_le_mul_of_nonneg_right c1 (by omega)
  omega
theorem c_advBy_4 {sr mk la gl N9 mb : Nat} {SA : Int → Option Nat} {F : Nat → Int → Int} {G e al n co : Int} (Lm : List Nat) {lk0 times : Int} {w0 : Int → Int} (hG : ab_G l E) (er : -2147483648 ≤ e ∧ e < 2147483648) (N12 : N9 ≤ 12) (GN : G ≤ N9) (m0 : 201 ≤ mb) (gl0 : gl < 200) (gl8 : gl ≠ 8 ∧ gl ≠ 9) (glL : gl ∉ Lm) (l8 : 8 ∉ Lm) (l9 : 9 ∉ Lm) (lb : ∀ q : Int, 0 ≤ q → q < G → lawB F q) (hL : ∀ q : Int, 0 ≤ q → q < G → F 8 q = 5 → 200 ∈ Lm ∧ mb + 8 * N9 < 400) (al8 : al ≤ 8) (al1 : 1 ≤ al) (n60 : n ≤ 60) (co1 : 1 ≤ co) (co2 : co ≤ 10) (n0 : 0 ≤ n) (l0 : 0 ≤ lk0) (t0 : 1 ≤ times) (t1 : times ≤ 20001)   (fu : Nat) : ∀ (t : Nat) (lk lg sz nx d : Int) (f9 w : Int → Int) (h : AbH), (times - t).toNat < fu → h sr = some (kO 8 3 [vR mk, vR la, vI e, vI al, vI n, vI co, vI lk, vI (t : Int), vI lg, vI sz, vI nx, vI (sB t)]) → h mk = some (kI 9 60 f9) → h la = some (kA gl "WordBench$Law" N9 SA) → lawsR h N9 SA G mb F → ab_kp (cP (8 :: 9 :: Lm)) h0 h → (sS F G e al n (sB t) f9 sz nx w d lk lg) → (sChain (KL F G e) al n co w0 0 lk0 0 t w d lk lg) → ((t : Int) ≤ times) → (1 ≤ t → sFd F G e al n f9 w) → ab_T l E Y_X4_advanceBy 12 0 0 4 [some (vR sr), some (vI times), some (vI 1), some (vI (t : Int))] [] h (cC h0 (8 :: 9 :: Lm) (fun r h' => bP h' r sr mk la N9 mb SA F G e al n co w0 lk0 times)) := by
  induction fu with
  | zero => intro t lk lg sz nx d f9 w h hms9; exact absurd hms9 (Nat.not_lt_zero _)
  | succ fu ih =>
    intro t lk lg sz nx d f9 w h hms9 hs hm hl lr kp hS hC tt hFt
    have bd := sS_bd hS
    have tl := sChain_t hC co1 l0
    refine ab_iload_n (pc := 4) dX4_advanceBy_4 rfl ?_
    refine ab_iload_n (pc := 5) dX4_advanceBy_5 rfl ?_
    refine ab_icmp_ge (pc := 6) 25 dX4_advanceBy_6 (by decide) (fun c6 => ?_) (fun c6 => ?_)
    · refine ab_iload_n (pc := 25) dX4_advanceBy_25 rfl ?_
      refine ab_iret (pc := 26) dX4_advanceBy_26 rfl ?_
      first | exact ⟨_, rfl, kp, t, _, _, _, _, _, _, _, _, _, rfl, hs, hm, lr, ⟨_, _, _, _, hC, nx9⟩, b1, b2, Or.inr ⟨ho, by omega, rfl⟩⟩ | (obtain ⟨t9, rfl⟩ : ∃ t9, t = t9 + 1 := ⟨t - 1, by omega⟩; obtain ⟨w1, d1, lk1, lg1, hC1, hN1⟩ := hC; rw [sB_s] at hs; exact ⟨_, rfl, kp, t9, _, _, _, _, _, _, _, _, _, rfl, hs, hm, lr, ⟨_, _, _, _, hC1, hN1⟩, bd.1, bd.2, Or.inl ⟨rfl, by omega, hFt (by omega)⟩⟩)
    · refine ab_iload_n (pc := 9) dX4_advanceBy_9 rfl ?_
      refine ab_iconst (pc := 10) dX4_advanceBy_10 (by decide) ?_
      refine ab_icmp_ne (pc := 11) 25 dX4_advanceBy_11 (by decide) (fun c11 => absurd c11 (by omega)) (fun c11 => ?_)
      refine ab_aload_n (pc := 14) dX4_advanceBy_14 rfl ?_
      refine ab_callV (pc := 15) (c_adv hG Lm hs hm hl lr er N12 GN m0 gl0 gl8 glL l8 l9 lb hL al8 al1 n60 co1 co2 (by omega) (by omega) n0 hS) hs rfl ⟨w827, w4, w830, by decide, pd26⟩ w828 w829 rfl (by omega) (by decide) (Nat.le_of_ble_eq_true rfl) rfl dX4_advanceBy_15 (fun _ _ hx => absurd hx cC_no) ?_
      rintro _ h ⟨_, e9, kq, o, f2, sz2, nx2, lk2, lg2, fo2, w2, d2, rfl, hs9, hm9, lr9, nx9, q9⟩
      cases e9
      replace hl := kq _ _ hl (by unfold cP; simp [glL]; omega)
      replace kp := kp.cal kq (fun g hg => Or.inl hg)
      replace hs := hs9
      replace hm := hm9
      replace lr := lr9
      rcases q9 with ⟨rfl, rfl, hS9, hF⟩ | ⟨ho, rfl, b1, b2, b3, b4⟩
      · refine ab_istore_n (pc := 18) dX4_advanceBy_18 rfl (Nat.le_of_ble_eq_true rfl) ?_
        refine ab_iinc (pc := 19) dX4_advanceBy_19 rfl rfl (by decide) (by omega) (by omega) ?_
        refine ab_goto (pc := 22) 4 dX4_advanceBy_22 (by decide) ?_
        rw [show (t : Int) + 1 = ((t + 1 : Nat) : Int) by omega] at hs
        rw [← sB_s (t := t)] at hs hS9
        have g9 := ih (t + 1) _ _ _ _ _ _ _ _ (by omega) hs hm hl lr kp hS9 ⟨_, _, _, _, hC, nx9⟩ (by omega) (fun _ => hF)
        rw [show ((t + 1 : Nat) : Int) = (t : Int) + 1 by omega] at g9
        exact g9
      · refine ab_istore_n (pc := 18) dX4_advanceBy_18 rfl (Nat.le_of_ble_eq_true rfl) ?_
        refine ab_iinc (pc := 19) dX4_advanceBy_19 rfl rfl (by decide) (by omega) (by omega) ?_
        refine ab_goto (pc := 22) 4 dX4_advanceBy_22 (by decide) ?_
        refine ab_iload_n (pc := 4) dX4_advanceBy_4 rfl ?_
        refine ab_iload_n (pc := 5) dX4_advanceBy_5 rfl ?_
        refine ab_icmp_ge (pc := 6) 25 dX4_advanceBy_6 (by decide) (fun c6 => ?_) (fun c6 => ?_)
        · refine ab_iload_n (pc := 25) dX4_advanceBy_25 rfl ?_
          refine ab_iret (pc := 26) dX4_advanceBy_26 rfl ?_
          first | exact ⟨_, rfl, kp, t, _, _, _, _, _, _, _, _, _, rfl, hs, hm, lr, ⟨_, _, _, _, hC, nx9⟩, b1, b2, Or.inr ⟨ho, by omega, rfl⟩⟩ | (obtain ⟨t9, rfl⟩ : ∃ t9, t = t9 + 1 := ⟨t - 1, by omega⟩; obtain ⟨w1, d1, lk1, lg1, hC1, hN1⟩ := hC; rw [sB_s] at hs; exact ⟨_, rfl, kp, t9, _, _, _, _, _, _, _, _, _, rfl, hs, hm, lr, ⟨_, _, _, _, hC1, hN1⟩, bd.1, bd.2, Or.inl ⟨rfl, by omega, hFt (by omega)⟩⟩)
        · refine ab_iload_n (pc := 9) dX4_advanceBy_9 rfl ?_
          refine ab_iconst (pc := 10) dX4_advanceBy_10 (by decide) ?_
          refine ab_icmp_ne (pc := 11) 25 dX4_advanceBy_11 (by decide) (fun c11 => ?_) (fun c11 => absurd c11 (by omega))
          refine ab_iload_n (pc := 25) dX4_advanceBy_25 rfl ?_
          refine ab_iret (pc := 26) dX4_advanceBy_26 rfl ?_
          first | exact ⟨_, rfl, kp, t, _, _, _, _, _, _, _, _, _, rfl, hs, hm, lr, ⟨_, _, _, _, hC, nx9⟩, b1, b2, Or.inr ⟨ho, by omega, rfl⟩⟩ | (obtain ⟨t9, rfl⟩ : ∃ t9, t = t9 + 1 := ⟨t - 1, by omega⟩; obtain ⟨w1, d1, lk1, lg1, hC1, hN1⟩ := hC; rw [sB_s] at hs; exact ⟨_, rfl, kp, t9, _, _, _, _, _, _, _, _, _, rfl, hs, hm, lr, ⟨_, _, _, _, hC1, hN1⟩, bd.1, bd.2, Or.inl ⟨rfl, by omega, hFt (by omega)⟩⟩)
theorem c_advBy (hG : ab_G l E) {sr mk la gl N9 mb : Nat} {SA : Int → Option Nat} {F : Nat → Int → Int} {G e al n co : Int} (Lm : List Nat) {lk0 times : Int} {f9 : Int → Int} (w0 : Int → Int) (hs : h0 sr = some (kO 8 3 [vR mk, vR la, vI e, vI al, vI n, vI co, vI lk0, vI 0, vI 0, vI 0, vI 0, vI 0])) (hm : h0 mk = some (kI 9 60 f9)) (hl : h0 la = some (kA gl "WordBench$Law" N9 SA)) (lr : lawsR h0 N9 SA G mb F) (er : -2147483648 ≤ e ∧ e < 2147483648) (N12 : N9 ≤ 12) (GN : G ≤ N9) (m0 : 201 ≤ mb) (gl0 : gl < 200) (gl8 : gl ≠ 8 ∧ gl ≠ 9) (glL : gl ∉ Lm) (l8 : 8 ∉ Lm) (l9 : 9 ∉ Lm) (lb : ∀ q : Int, 0 ≤ q → q < G → lawB F q) (hL : ∀ q : Int, 0 ≤ q → q < G → F 8 q = 5 → 200 ∈ Lm ∧ mb + 8 * N9 < 400) (al8 : al ≤ 8) (al1 : 1 ≤ al) (n60 : n ≤ 60) (co1 : 1 ≤ co) (co2 : co ≤ 10) (n0 : 0 ≤ n) (l0 : 0 ≤ lk0) (l1 : lk0 ≤ 20000) (t0 : 1 ≤ times) (t1 : times ≤ 20001) : ab_M l E Y_X4_advanceBy 4 12 0 0 [vR sr, vI times] h0 (cC h0 (8 :: 9 :: Lm) (fun r h' => bP h' r sr mk la N9 mb SA F G e al n co w0 lk0 times)) := by
  refine ab_M.of (L0 := [some (vR sr), some (vI times), none, none]) hG rfl rfl (Nat.le_of_ble_eq_true rfl) rfl ?_
  have kp : ab_kp (cP (8 :: 9 :: Lm)) h0 h0 := ab_kp0
  refine ab_iconst (pc := 0) dX4_advanceBy_0 (by decide) ?_
  refine ab_istore_n (pc := 1) dX4_advanceBy_1 rfl (Nat.le_of_ble_eq_true rfl) ?_
  refine ab_iconst (pc := 2) dX4_advanceBy_2 (by decide) ?_
  refine ab_istore_n (pc := 3) dX4_advanceBy_3 rfl (Nat.le_of_ble_eq_true rfl) ?_
  exact c_advBy_4 Lm hG er N12 GN m0 gl0 gl8 glL l8 l9 lb hL al8 al1 n60 co1 co2 n0 l0 t0 t1 _ 0 _ _ _ _ 0 _ w0 _ (Nat.lt_succ_self _) hs hm hl lr kp (Or.inl ⟨rfl, rfl, rfl, by omega, by omega, by omega, by omega⟩) ⟨rfl, rfl, rfl, rfl⟩ (by show (0 : Int) ≤ _; omega) (fun h9 => absurd h9 (by decide))
end C9
