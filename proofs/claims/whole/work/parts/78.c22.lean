/-! the class: many, find, longest -/
section C22
variable {l : Launch} {E : AbE} {h0 : AbH}
/-- after so many looks no further word is found -/
theorem sEnd_lim {kp : (Int → Int) → Int → Prop} {a n co lk0 : Int} {w0 : Int → Int} {t : Nat} {w2 : Int → Int} {d2 lk2 lg2 : Int} (h : sEnd kp a n co w0 0 lk0 0 t (1, w2, d2, lk2, lg2)) (c1 : 1 ≤ co) (l0 : 0 ≤ lk0) : (t : Int) + 1 ≤ lk2 := by
  obtain ⟨w, d, lk, lg, hC, hN⟩ := h
  have a := sChain_t hC c1 l0
  have b := (sNext_lk (by omega) hN).2 rfl
  omega
theorem c_many (hG : ab_G l E) {x : Nat} {B : Nat → Nat} {s : Nat → Int} {F C : Nat → Int → Int} {SA : Nat → Int → Option Nat} {la : Option Nat} {q : Nat → Int} {e a n : Int} (w0 : Int → Int) (rc : RCx h0 x B s F C SA la q) (er : -2147483648 ≤ e ∧ e < 2147483648) (b7 : 0 ≤ s 7) (c7 : s 7 ≤ 12) (lb : ∀ q : Int, 0 ≤ q → q < s 7 → lawB F q) : ab_M l E Y_X9_many 4 13 3 18 [vR x, vI e, vI a, vI n] h0 (cW h0 [8, 9, 200] x B (fun o s' F' => ∃ c r9 : Int, manySp s F w0 e a n c r9 (s' 23) ∧ (∀ j : Nat, j ≠ 23 → s' j = s j) ∧ F' = F ∧ ((c = 0 ∧ o = .inl (some (vI r9))) ∨ (c = 1 ∧ o = .inr "java/lang/IllegalArgumentException")))) := by
  refine ab_M.of (L0 := [some (vR x), some (vI e), some (vI a), some (vI n)]) hG rfl rfl (Nat.le_of_ble_eq_true rfl) rfl ?_
  have kp : ab_kp (cP [8, 9, 200]) h0 h0 := ab_kp0
  refine ab_aload_n (pc := 0) dX9_many_0 rfl ?_
  refine ab_iload_n (pc := 1) dX9_many_1 rfl ?_
  refine ab_iload_n (pc := 2) dX9_many_2 rfl ?_
  refine ab_iload_n (pc := 3) dX9_many_3 rfl ?_
  refine ab_callV (pc := 4) (c_needSearch hG rc.o er b7 c7) rc.o rfl ⟨w801, w1, w804, by decide, pd13⟩ w803 sp12 rfl (by omega) (by decide) (Nat.le_of_ble_eq_true rfl) rfl dX9_many_4 (fun X9 h9 hx9 => by obtain ⟨rfl, ⟨r9, _⟩ | ⟨r9, n9⟩⟩ := hx9; cases r9; cases r9; exact ⟨kp, _, _, _, _, _, _, rc, 1, 0, Or.inl ⟨n9, rfl, rfl, rfl⟩, fun _ _ => rfl, rfl, Or.inr ⟨rfl, rfl⟩⟩) ?_
  rintro r9 h9 ⟨rfl, hr9⟩
  rcases hr9 with ⟨r9, ok9⟩ | ⟨r9, _⟩
  rotate_left
  · cases r9
  cases r9
  have hx := rc.o
  have hs := rc.sr
  have hm := rc.mk
  have hl := rc.ls
  have ht := rc.lt
  have lr := rc.lw
  have kp1 := rc.kp0 [8, 9, 200]
  refine ab_aload_n (pc := 7) dX9_many_7 rfl ?_
  refine ab_get (pc := 8) (k := 6) okX9 hx rfl w118 rfl dX9_many_8 ?_
  refine ab_callV (pc := 11) (c_forget hG hs) hs rfl ⟨w810, w4, w813, by decide, pd0⟩ w811 w812 rfl (by omega) (by decide) (Nat.le_of_ble_eq_true rfl) rfl dX9_many_11 (fun _ _ hx => absurd hx cC_no) ?_
  rintro _ h ⟨_, e9, kq, rfl, hs9⟩
  cases e9
  replace hx := kq _ _ hx (by unfold cP; first | (simp; done) | (simp; omega))
  replace hm := kq _ _ hm (by unfold cP; first | (simp; done) | (simp; omega))
  replace hl := kq _ _ hl (by unfold cP; first | (simp; done) | (simp; omega))
  replace ht := kq _ _ ht (by unfold cP; first | (simp; done) | (simp; omega))
  replace lr := lr.kp kq (fun j j0 j1 => (by unfold cP; first | (simp; done) | (simp; omega)))
  replace kp1 := kp1.cal kq (by simp)
  replace kp := kp.cal kq (by first | (simp; done) | (simp; omega))
  replace hs := hs9
  refine ab_aload_n (pc := 14) dX9_many_14 rfl ?_
  refine ab_get (pc := 15) (k := 6) okX9 hx rfl w118 rfl dX9_many_15 ?_
  refine ab_aload_n (pc := 18) dX9_many_18 rfl ?_
  refine ab_get (pc := 19) (k := 2) okX9 hx rfl w114 rfl dX9_many_19 ?_
  refine ab_iload_n (pc := 22) dX9_many_22 rfl ?_
  refine ab_iload_n (pc := 23) dX9_many_23 rfl ?_
  refine ab_iload_n (pc := 24) dX9_many_24 rfl ?_
  refine ab_callV (pc := 25) (c_begin hG hs hl lr (by decide) (by decide) (by decide) c7) hs rfl ⟨w814, w4, w817, by decide, pd58⟩ w815 w816 rfl (by omega) (by decide) (Nat.le_of_ble_eq_true rfl) rfl dX9_many_25 (fun _ _ hx => absurd hx cC_no) ?_
  rintro _ h ⟨_, e9, kq, rfl, co, hco, hs9⟩
  cases e9
  replace hx := kq _ _ hx (by unfold cP; first | (simp; done) | (simp; omega))
  replace hm := kq _ _ hm (by unfold cP; first | (simp; done) | (simp; omega))
  replace hl := kq _ _ hl (by unfold cP; first | (simp; done) | (simp; omega))
  replace ht := kq _ _ ht (by unfold cP; first | (simp; done) | (simp; omega))
  replace lr := lr.kp kq (fun j j0 j1 => (by unfold cP; first | (simp; done) | (simp; omega)))
  replace kp1 := kp1.cal kq (by simp)
  replace kp := kp.cal kq (by first | (simp; done) | (simp; omega))
  replace hs := hs9
  have co9 : 1 ≤ co ∧ co ≤ 10 := by rcases hco with ⟨e, _⟩ | ⟨e, _⟩ <;> omega
  refine ab_aload_n (pc := 28) dX9_many_28 rfl ?_
  refine ab_get (pc := 29) (k := 6) okX9 hx rfl w118 rfl dX9_many_29 ?_
  refine ab_sipush (pc := 32) dX9_many_32 (by decide) ?_
  refine ab_callV (pc := 35) (c_advBy hG [200] w0 hs hm hl lr er (by decide) c7 (by decide) (by decide) (by decide) (by decide) (by decide) (by decide) lb (fun _ _ _ _ => by decide) ok9.1.2.2 ok9.1.2.1 ok9.2.2 co9.1 co9.2 ok9.2.1 (by omega) (by omega) (by omega) (by omega)) hs rfl ⟨w823, w4, w826, by decide, pd2⟩ w824 w825 rfl (by omega) (by decide) (Nat.le_of_ble_eq_true rfl) rfl dX9_many_35 (fun _ _ hx => absurd hx cC_no) ?_
  rintro _ h ⟨_, e9, kq, t, o, f2, sz2, nx2, lk2, lg2, fo2, w2, d2, rfl, hs9, hm9, lr9, hE, b1, b2, q9⟩
  cases e9
  replace hx := kq _ _ hx (by unfold cP; first | (simp; done) | (simp; omega))
  replace hl := kq _ _ hl (by unfold cP; first | (simp; done) | (simp; omega))
  replace ht := kq _ _ ht (by unfold cP; first | (simp; done) | (simp; omega))
  replace kp1 := kp1.cal kq (by simp)
  replace kp := kp.cal kq (by first | (simp; done) | (simp; omega))
  replace hs := hs9
  replace hm := hm9
  replace lr := lr9
  refine ab_bipush (pc := 38) dX9_many_38 (by decide) ?_
  refine ab_icmp_ne (pc := 40) 48 dX9_many_40 (by decide) (fun c40 => ?_) (fun c40 => ?_)
  · refine ab_aload_n (pc := 48) dX9_many_48 rfl ?_
    refine ab_get (pc := 49) (k := 6) okX9 hx rfl w118 rfl dX9_many_49 ?_
    refine ab_getN (pc := 52) (k := 7) okX4 hs rfl w80 rfl dX9_many_52 ?_
    refine ab_iret (pc := 55) dX9_many_55 rfl ?_
    rcases q9 with ⟨rfl, q2, q3⟩ | ⟨q1, q2, q3⟩
    · have := sEnd_lim hE co9.1 (by omega); omega
    · first | exact ⟨kp, _, _, _, _, _, _, (rc.srch kp1 hs hm lr), 0, -2, Or.inr ⟨ok9.1, ok9.2.1, ok9.2.2, rfl, co, t, _, ⟨hco, hE⟩, by show o ≠ 1; omega, by rw [ab_u_eq], Or.inl ⟨by show o = -2; omega, rfl⟩⟩, (fun j hj => ab_u_ne hj), rfl, Or.inl ⟨rfl, rfl⟩⟩ | exact ⟨kp, _, _, _, _, _, _, (rc.srch kp1 hs hm lr), 0, fo2, Or.inr ⟨ok9.1, ok9.2.1, ok9.2.2, rfl, co, t, _, ⟨hco, hE⟩, by show o ≠ 1; omega, by rw [ab_u_eq], Or.inr ⟨by show o ≠ -2; omega, q3⟩⟩, (fun j hj => ab_u_ne hj), rfl, Or.inl ⟨rfl, rfl⟩⟩
  · refine ab_bipush (pc := 43) dX9_many_43 (by decide) ?_
    refine ab_goto (pc := 45) 55 dX9_many_45 (by decide) ?_
    refine ab_iret (pc := 55) dX9_many_55 rfl ?_
    rcases q9 with ⟨rfl, q2, q3⟩ | ⟨q1, q2, q3⟩
    · have := sEnd_lim hE co9.1 (by omega); omega
    · first | exact ⟨kp, _, _, _, _, _, _, (rc.srch kp1 hs hm lr), 0, -2, Or.inr ⟨ok9.1, ok9.2.1, ok9.2.2, rfl, co, t, _, ⟨hco, hE⟩, by show o ≠ 1; omega, by rw [ab_u_eq], Or.inl ⟨by show o = -2; omega, rfl⟩⟩, (fun j hj => ab_u_ne hj), rfl, Or.inl ⟨rfl, rfl⟩⟩ | exact ⟨kp, _, _, _, _, _, _, (rc.srch kp1 hs hm lr), 0, fo2, Or.inr ⟨ok9.1, ok9.2.1, ok9.2.2, rfl, co, t, _, ⟨hco, hE⟩, by show o ≠ 1; omega, by rw [ab_u_eq], Or.inr ⟨by show o ≠ -2; omega, q3⟩⟩, (fun j hj => ab_u_ne hj), rfl, Or.inl ⟨rfl, rfl⟩⟩
theorem c_longest (hG : ab_G l E) {x : Nat} {B : Nat → Nat} {s : Nat → Int} {F C : Nat → Int → Int} {SA : Nat → Int → Option Nat} {la : Option Nat} {q : Nat → Int} {e a : Int} (w0 : Int → Int) (rc : RCx h0 x B s F C SA la q) (er : -2147483648 ≤ e ∧ e < 2147483648) (b7 : 0 ≤ s 7) (c7 : s 7 ≤ 12) (lb : ∀ q : Int, 0 ≤ q → q < s 7 → lawB F q) : ab_M l E Y_X9_longest 4 12 2 12 [vR x, vI e, vI a] h0 (cW h0 [8, 9, 200] x B (fun o s' F' => ∃ c r9 : Int, longSp s F w0 e a c r9 (s' 23) ∧ (∀ j : Nat, j ≠ 23 → s' j = s j) ∧ F' = F ∧ ((c = 0 ∧ o = .inl (some (vI r9))) ∨ (c = 1 ∧ o = .inr "java/lang/IllegalArgumentException")))) := by
  refine ab_M.of (L0 := [some (vR x), some (vI e), some (vI a), none]) hG rfl rfl (Nat.le_of_ble_eq_true rfl) rfl ?_
  have kp : ab_kp (cP [8, 9, 200]) h0 h0 := ab_kp0
  refine ab_aload_n (pc := 0) dX9_longest_0 rfl ?_
  refine ab_iload_n (pc := 1) dX9_longest_1 rfl ?_
  refine ab_callV (pc := 2) (c_needSet hG rc.o er b7 c7) rc.o rfl ⟨w744, w1, w747, by decide, pd5⟩ w746 sp7 rfl (by omega) (by decide) (Nat.le_of_ble_eq_true rfl) rfl dX9_longest_2 (fun X9 h9 hx9 => by obtain ⟨rfl, ⟨r9, _⟩ | ⟨r9, n9⟩⟩ := hx9; cases r9; cases r9; exact ⟨kp, _, _, _, _, _, _, rc, 1, 0, Or.inl ⟨fun kk => n9 kk.1, rfl, rfl, rfl⟩, fun _ _ => rfl, rfl, Or.inr ⟨rfl, rfl⟩⟩) ?_
  rintro r9 h9 ⟨rfl, hr9⟩
  rcases hr9 with ⟨r9, oks⟩ | ⟨r9, _⟩
  rotate_left
  · cases r9
  cases r9
  refine ab_iload_n (pc := 5) dX9_longest_5 rfl ?_
  refine ab_callS (pc := 6) (c_needAl hG) ⟨w805, w1, w807, by decide, pd5⟩ w806 rfl (by omega) (by decide) (Nat.le_of_ble_eq_true rfl) rfl dX9_longest_6 (fun X9 h9 hx9 => by obtain ⟨rfl, ⟨r9, _⟩ | ⟨r9, n9⟩⟩ := hx9; cases r9; cases r9; exact ⟨kp, _, _, _, _, _, _, rc, 1, 0, Or.inl ⟨fun kk => n9 kk.2, rfl, rfl, rfl⟩, fun _ _ => rfl, rfl, Or.inr ⟨rfl, rfl⟩⟩) ?_
  rintro r9 h9 ⟨rfl, hr9⟩
  rcases hr9 with ⟨r9, oka⟩ | ⟨r9, _⟩
  rotate_left
  · cases r9
  cases r9
  have hx := rc.o
  have hs := rc.sr
  have hm := rc.mk
  have hl := rc.ls
  have ht := rc.lt
  have lr := rc.lw
  have kp1 := rc.kp0 [8, 9, 200]
  refine ab_aload_n (pc := 9) dX9_longest_9 rfl ?_
  refine ab_get (pc := 10) (k := 6) okX9 hx rfl w118 rfl dX9_longest_10 ?_
  refine ab_callV (pc := 13) (c_forget hG hs) hs rfl ⟨w810, w4, w813, by decide, pd0⟩ w811 w812 rfl (by omega) (by decide) (Nat.le_of_ble_eq_true rfl) rfl dX9_longest_13 (fun _ _ hx => absurd hx cC_no) ?_
  rintro _ h ⟨_, e9, kq, rfl, hs9⟩
  cases e9
  replace hx := kq _ _ hx (by unfold cP; first | (simp; done) | (simp; omega))
  replace hm := kq _ _ hm (by unfold cP; first | (simp; done) | (simp; omega))
  replace hl := kq _ _ hl (by unfold cP; first | (simp; done) | (simp; omega))
  replace ht := kq _ _ ht (by unfold cP; first | (simp; done) | (simp; omega))
  replace lr := lr.kp kq (fun j j0 j1 => (by unfold cP; first | (simp; done) | (simp; omega)))
  replace kp1 := kp1.cal kq (by simp)
  replace kp := kp.cal kq (by first | (simp; done) | (simp; omega))
  replace hs := hs9
  refine ab_aload_n (pc := 16) dX9_longest_16 rfl ?_
  refine ab_get (pc := 17) (k := 6) okX9 hx rfl w118 rfl dX9_longest_17 ?_
  refine ab_aload_n (pc := 20) dX9_longest_20 rfl ?_
  refine ab_get (pc := 21) (k := 2) okX9 hx rfl w114 rfl dX9_longest_21 ?_
  refine ab_iload_n (pc := 24) dX9_longest_24 rfl ?_
  refine ab_iload_n (pc := 25) dX9_longest_25 rfl ?_
  refine ab_bipush (pc := 26) dX9_longest_26 (by decide) ?_
  refine ab_callV (pc := 28) (c_begin hG hs hl lr (by decide) (by decide) (by decide) c7) hs rfl ⟨w814, w4, w817, by decide, pd58⟩ w815 w816 rfl (by omega) (by decide) (Nat.le_of_ble_eq_true rfl) rfl dX9_longest_28 (fun _ _ hx => absurd hx cC_no) ?_
  rintro _ h ⟨_, e9, kq, rfl, co, hco, hs9⟩
  cases e9
  replace hx := kq _ _ hx (by unfold cP; first | (simp; done) | (simp; omega))
  replace hm := kq _ _ hm (by unfold cP; first | (simp; done) | (simp; omega))
  replace hl := kq _ _ hl (by unfold cP; first | (simp; done) | (simp; omega))
  replace ht := kq _ _ ht (by unfold cP; first | (simp; done) | (simp; omega))
  replace lr := lr.kp kq (fun j j0 j1 => (by unfold cP; first | (simp; done) | (simp; omega)))
  replace kp1 := kp1.cal kq (by simp)
  replace kp := kp.cal kq (by first | (simp; done) | (simp; omega))
  replace hs := hs9
  have co9 : 1 ≤ co ∧ co ≤ 10 := by rcases hco with ⟨e, _⟩ | ⟨e, _⟩ <;> omega
  refine ab_aload_n (pc := 31) dX9_longest_31 rfl ?_
  refine ab_get (pc := 32) (k := 6) okX9 hx rfl w118 rfl dX9_longest_32 ?_
  refine ab_callV (pc := 35) (c_adv hG [200] (w := w0) (d := 0) hs hm hl lr er (by decide) c7 (by decide) (by decide) (by decide) (by decide) (by decide) (by decide) lb (fun _ _ _ _ => by decide) oka.2 oka.1 (by omega) co9.1 co9.2 (by omega) (by omega) (by omega) (Or.inl ⟨rfl, rfl, rfl, by omega, by omega, by omega, by omega⟩)) hs rfl ⟨w862, w4, w830, by decide, pd26⟩ w828 w829 rfl (by omega) (by decide) (Nat.le_of_ble_eq_true rfl) rfl dX9_longest_35 (fun _ _ hx => absurd hx cC_no) ?_
  rintro _ h ⟨_, e9, kq, o, f2, sz2, nx2, lk2, lg2, fo2, w2, d2, rfl, hs9, hm9, lr9, hE, q9⟩
  cases e9
  replace hx := kq _ _ hx (by unfold cP; first | (simp; done) | (simp; omega))
  replace hl := kq _ _ hl (by unfold cP; first | (simp; done) | (simp; omega))
  replace ht := kq _ _ ht (by unfold cP; first | (simp; done) | (simp; omega))
  replace kp1 := kp1.cal kq (by simp)
  replace kp := kp.cal kq (by first | (simp; done) | (simp; omega))
  replace hs := hs9
  replace hm := hm9
  replace lr := lr9
  refine ab_istore_n (pc := 38) dX9_longest_38 rfl (Nat.le_of_ble_eq_true rfl) ?_
  refine ab_iload_n (pc := 39) dX9_longest_39 rfl ?_
  refine ab_iconst (pc := 40) dX9_longest_40 (by decide) ?_
  refine ab_icmp_ne (pc := 41) 46 dX9_longest_41 (by decide) (fun c41 => ?_) (fun c41 => ?_)
  · refine ab_iload_n (pc := 46) dX9_longest_46 rfl ?_
    refine ab_bipush (pc := 47) dX9_longest_47 (by decide) ?_
    refine ab_icmp_ne (pc := 49) 57 dX9_longest_49 (by decide) (fun c49 => ?_) (fun c49 => ?_)
    · refine ab_aload_n (pc := 57) dX9_longest_57 rfl ?_
      refine ab_get (pc := 58) (k := 6) okX9 hx rfl w118 rfl dX9_longest_58 ?_
      refine ab_getN (pc := 61) (k := 8) okX4 hs rfl w82 rfl dX9_longest_61 ?_
      refine ab_iret (pc := 64) dX9_longest_64 rfl ?_
      first | exact ⟨kp, _, _, _, _, _, _, (rc.srch kp1 hs hm lr), 0, -2, Or.inr ⟨⟨oks, oka⟩, rfl, co, _, hco, hE, by rw [ab_u_eq], Or.inr (Or.inl ⟨by show o = -2; omega, rfl⟩)⟩, (fun j hj => ab_u_ne hj), rfl, Or.inl ⟨rfl, rfl⟩⟩ | exact ⟨kp, _, _, _, _, _, _, (rc.srch kp1 hs hm lr), 0, lg2, Or.inr ⟨⟨oks, oka⟩, rfl, co, _, hco, hE, by rw [ab_u_eq], Or.inr (Or.inr ⟨by show o ≠ 1; omega, by show o ≠ -2; omega, rfl⟩)⟩, (fun j hj => ab_u_ne hj), rfl, Or.inl ⟨rfl, rfl⟩⟩
    · refine ab_bipush (pc := 52) dX9_longest_52 (by decide) ?_
      refine ab_goto (pc := 54) 64 dX9_longest_54 (by decide) ?_
      refine ab_iret (pc := 64) dX9_longest_64 rfl ?_
      first | exact ⟨kp, _, _, _, _, _, _, (rc.srch kp1 hs hm lr), 0, -2, Or.inr ⟨⟨oks, oka⟩, rfl, co, _, hco, hE, by rw [ab_u_eq], Or.inr (Or.inl ⟨by show o = -2; omega, rfl⟩)⟩, (fun j hj => ab_u_ne hj), rfl, Or.inl ⟨rfl, rfl⟩⟩ | exact ⟨kp, _, _, _, _, _, _, (rc.srch kp1 hs hm lr), 0, lg2, Or.inr ⟨⟨oks, oka⟩, rfl, co, _, hco, hE, by rw [ab_u_eq], Or.inr (Or.inr ⟨by show o ≠ 1; omega, by show o ≠ -2; omega, rfl⟩)⟩, (fun j hj => ab_u_ne hj), rfl, Or.inl ⟨rfl, rfl⟩⟩
  · refine ab_iconst (pc := 44) dX9_longest_44 (by decide) ?_
    refine ab_iret (pc := 45) dX9_longest_45 rfl ?_
    exact ⟨kp, _, _, _, _, _, _, (rc.srch kp1 hs hm lr), 0, -1, Or.inr ⟨⟨oks, oka⟩, rfl, co, _, hco, hE, by rw [ab_u_eq], Or.inl ⟨by show o = 1; omega, rfl⟩⟩, (fun j hj => ab_u_ne hj), rfl, Or.inl ⟨rfl, rfl⟩⟩
theorem c_find (hG : ab_G l E) {x : Nat} {B : Nat → Nat} {s : Nat → Int} {F C : Nat → Int → Int} {SA : Nat → Int → Option Nat} {la : Option Nat} {q : Nat → Int} {e a n k i : Int} (w0 : Int → Int) (rc : RCx h0 x B s F C SA la q) (b3 : ∀ j, 0 ≤ j → j < 160 → -1 ≤ F 3 j ∧ F 3 j ≤ 80) (s16 : s 1 ≤ 16) (er : -2147483648 ≤ e ∧ e < 2147483648) (b7 : 0 ≤ s 7) (c7 : s 7 ≤ 12) (lb : ∀ q : Int, 0 ≤ q → q < s 7 → lawB F q) : ab_M l E Y_X9_find 8 13 4 24 [vR x, vI e, vI a, vI n, vI k, vI i] h0 (cW h0 [8, 9, 101 + 3 * i.toNat, 102 + 3 * i.toNat, 200] x B (fun o s' F' => ∃ (c r9 : Int) (g : Int → Int), findSp s F w0 e a n k i c r9 (s' 23) g ∧ (∀ j : Nat, j ≠ 23 → s' j = s j) ∧ ((c = 0 ∧ r9 = 1 ∧ F' = rowF F i 0 n (fil (F 4) (80 * (10 * i + 0)) 80 (fun j => if j < n then g j else 0))) ∨ (¬ (c = 0 ∧ r9 = 1) ∧ F' = F)) ∧ ((c = 0 ∧ o = .inl (some (vI r9))) ∨ (c = 1 ∧ o = .inr "java/lang/IllegalArgumentException") ∨ (c = 2 ∧ o = .inr "java/lang/IndexOutOfBoundsException")))) := by
  refine ab_M.of (L0 := [some (vR x), some (vI e), some (vI a), some (vI n), some (vI k), some (vI i), none, none]) hG rfl rfl (Nat.le_of_ble_eq_true rfl) rfl ?_
  have kp : ab_kp (cP [8, 9, 101 + 3 * i.toNat, 102 + 3 * i.toNat, 200]) h0 h0 := ab_kp0
  refine ab_aload_n (pc := 0) dX9_find_0 rfl ?_
  refine ab_iload_n (pc := 1) dX9_find_1 rfl ?_
  refine ab_iload_n (pc := 2) dX9_find_2 rfl ?_
  refine ab_iload_n (pc := 3) dX9_find_3 rfl ?_
  refine ab_callV (pc := 4) (c_needSearch hG rc.o er b7 c7) rc.o rfl ⟨w801, w1, w804, by decide, pd13⟩ w803 sp12 rfl (by omega) (by decide) (Nat.le_of_ble_eq_true rfl) rfl dX9_find_4 (fun X9 h9 hx9 => by obtain ⟨rfl, ⟨r9, _⟩ | ⟨r9, n9⟩⟩ := hx9; cases r9; cases r9; exact ⟨kp, _, _, _, _, _, _, rc, 1, 0, w0, Or.inl ⟨n9, rfl, rfl, rfl⟩, fun _ _ => rfl, Or.inr ⟨by omega, rfl⟩, Or.inr (Or.inl ⟨rfl, rfl⟩)⟩) ?_
  rintro r9 h9 ⟨rfl, hr9⟩
  rcases hr9 with ⟨r9, ok9⟩ | ⟨r9, _⟩
  rotate_left
  · cases r9
  cases r9
  refine ab_aload_n (pc := 7) dX9_find_7 rfl ?_
  refine ab_iload (pc := 8) dX9_find_8 rfl ?_
  refine ab_callV (pc := 10) (c_sheetOf hG rc.o rc.ss) rc.o rfl ⟨w269, w1, w272, by decide, pd10⟩ w271 sp2 rfl (by omega) (by decide) (Nat.le_of_ble_eq_true rfl) rfl dX9_find_10 (fun X9 h9 hx9 => by obtain ⟨rfl, ⟨_, r9, _⟩ | ⟨r9, n9⟩⟩ := hx9; cases r9; cases r9; exact ⟨kp, _, _, _, _, _, _, rc, 2, 0, w0, Or.inr (Or.inl ⟨ok9.1, ok9.2.1, ok9.2.2, fun kk => n9 ⟨kk.1, by omega, fun e => by have := rc.sh.nn kk.1 (by omega) e; omega⟩, rfl, rfl, rfl⟩), fun _ _ => rfl, Or.inr ⟨by omega, rfl⟩, Or.inr (Or.inr ⟨rfl, rfl⟩)⟩) ?_
  rintro r9 h9 ⟨rfl, hr9⟩
  rcases hr9 with ⟨v9, r9, a9, e9, rfl, i0, i1⟩ | ⟨r9, _⟩
  rotate_left
  · cases r9
  cases r9
  obtain ⟨b9, c9, g9, z9, hc9⟩ := rc.sh.yes i0 i1 e9
  have iG := rc.sh.no i0 i1 e9
  refine ab_astore (pc := 13) dX9_find_13 rfl (Nat.le_of_ble_eq_true rfl) ?_
  refine ab_iload (pc := 15) dX9_find_15 rfl ?_
  refine ab_if_ge (pc := 17) 22 dX9_find_17 (by decide) (fun c17 => ?_) (fun c17 => ?_)
  · have hx := rc.o
    have hs := rc.sr
    have hm := rc.mk
    have hl := rc.ls
    have ht := rc.lt
    have lr := rc.lw
    have kp1 := rc.kp0 [8, 9, 200]
    refine ab_aload_n (pc := 22) dX9_find_22 rfl ?_
    refine ab_get (pc := 23) (k := 6) okX9 hx rfl w118 rfl dX9_find_23 ?_
    refine ab_callV (pc := 26) (c_forget hG hs) hs rfl ⟨w810, w4, w813, by decide, pd0⟩ w811 w812 rfl (by omega) (by decide) (Nat.le_of_ble_eq_true rfl) rfl dX9_find_26 (fun _ _ hx => absurd hx cC_no) ?_
    rintro _ h ⟨_, e9, kq, rfl, hs9⟩
    cases e9
    replace hx := kq _ _ hx (by unfold cP; first | (simp; done) | (simp; omega))
    replace hm := kq _ _ hm (by unfold cP; first | (simp; done) | (simp; omega))
    replace hl := kq _ _ hl (by unfold cP; first | (simp; done) | (simp; omega))
    replace ht := kq _ _ ht (by unfold cP; first | (simp; done) | (simp; omega))
    replace lr := lr.kp kq (fun j j0 j1 => (by unfold cP; first | (simp; done) | (simp; omega)))
    replace kp1 := kp1.cal kq (by simp)
    replace kp := kp.cal kq (by first | (simp; done) | (simp; omega))
    replace hs := hs9
    refine ab_aload_n (pc := 29) dX9_find_29 rfl ?_
    refine ab_get (pc := 30) (k := 6) okX9 hx rfl w118 rfl dX9_find_30 ?_
    refine ab_aload_n (pc := 33) dX9_find_33 rfl ?_
    refine ab_get (pc := 34) (k := 2) okX9 hx rfl w114 rfl dX9_find_34 ?_
    refine ab_iload_n (pc := 37) dX9_find_37 rfl ?_
    refine ab_iload_n (pc := 38) dX9_find_38 rfl ?_
    refine ab_iload_n (pc := 39) dX9_find_39 rfl ?_
    refine ab_callV (pc := 40) (c_begin hG hs hl lr (by decide) (by decide) (by decide) c7) hs rfl ⟨w814, w4, w817, by decide, pd58⟩ w815 w816 rfl (by omega) (by decide) (Nat.le_of_ble_eq_true rfl) rfl dX9_find_40 (fun _ _ hx => absurd hx cC_no) ?_
    rintro _ h ⟨_, e9, kq, rfl, co, hco, hs9⟩
    cases e9
    replace hx := kq _ _ hx (by unfold cP; first | (simp; done) | (simp; omega))
    replace hm := kq _ _ hm (by unfold cP; first | (simp; done) | (simp; omega))
    replace hl := kq _ _ hl (by unfold cP; first | (simp; done) | (simp; omega))
    replace ht := kq _ _ ht (by unfold cP; first | (simp; done) | (simp; omega))
    replace lr := lr.kp kq (fun j j0 j1 => (by unfold cP; first | (simp; done) | (simp; omega)))
    replace kp1 := kp1.cal kq (by simp)
    replace kp := kp.cal kq (by first | (simp; done) | (simp; omega))
    replace hs := hs9
    have co9 : 1 ≤ co ∧ co ≤ 10 := by rcases hco with ⟨e, _⟩ | ⟨e, _⟩ <;> omega
    refine ab_aload_n (pc := 43) dX9_find_43 rfl ?_
    refine ab_get (pc := 44) (k := 6) okX9 hx rfl w118 rfl dX9_find_44 ?_
    refine ab_iload (pc := 47) dX9_find_47 rfl ?_
    refine ab_sipush (pc := 49) dX9_find_49 (by decide) ?_
    refine ab_callS (pc := 52) (c_min hG) ⟨w849, w19, w378, by decide, pd18⟩ w377 rfl (by omega) (by decide) (Nat.le_of_ble_eq_true rfl) rfl dX9_find_52 (fun _ _ hx => absurd hx pC_no) ?_
    rintro _ _ ⟨mv, e9, rfl, hmv⟩
    cases e9
    refine ab_iconst (pc := 55) dX9_find_55 (by decide) ?_
    refine ab_iadd (pc := 56) dX9_find_56 (by omega) (by omega) ?_
    refine ab_callV (pc := 57) (c_advBy hG [200] w0 hs hm hl lr er (by decide) c7 (by decide) (by decide) (by decide) (by decide) (by decide) (by decide) lb (fun _ _ _ _ => by decide) ok9.1.2.2 ok9.1.2.1 ok9.2.2 co9.1 co9.2 ok9.2.1 (by omega) (by omega) (by omega) (by omega)) hs rfl ⟨w823, w4, w826, by decide, pd2⟩ w824 w825 rfl (by omega) (by decide) (Nat.le_of_ble_eq_true rfl) rfl dX9_find_57 (fun _ _ hx => absurd hx cC_no) ?_
    rintro _ h ⟨_, e9, kq, t, o, f2, sz2, nx2, lk2, lg2, fo2, w2, d2, rfl, hs9, hm9, lr9, hE, b1, b2, q9⟩
    cases e9
    replace hx := kq _ _ hx (by unfold cP; first | (simp; done) | (simp; omega))
    replace hl := kq _ _ hl (by unfold cP; first | (simp; done) | (simp; omega))
    replace ht := kq _ _ ht (by unfold cP; first | (simp; done) | (simp; omega))
    replace kp1 := kp1.cal kq (by simp)
    replace kp := kp.cal kq (by first | (simp; done) | (simp; omega))
    replace hs := hs9
    replace hm := hm9
    replace lr := lr9
    refine ab_istore (pc := 60) dX9_find_60 rfl (Nat.le_of_ble_eq_true rfl) ?_
    refine ab_iload (pc := 62) dX9_find_62 rfl ?_
    refine ab_iconst (pc := 64) dX9_find_64 (by decide) ?_
    refine ab_icmp_ne (pc := 65) 82 dX9_find_65 (by decide) (fun c65 => ?_) (fun c65 => ?_)
    · refine ab_iload (pc := 82) dX9_find_82 rfl ?_
      refine ab_iret (pc := 84) dX9_find_84 rfl ?_
      rcases q9 with ⟨rfl, q2, q3⟩ | ⟨q1, q2, q3⟩
      · have lim := sEnd_lim hE co9.1 (by omega)
        first | exact ⟨kp, _, _, _, _, _, _, rc3, 0, 1, f2, Or.inr (Or.inr ⟨ok9.1, ok9.2.1, ok9.2.2, i0, iG, rfl, Or.inr ⟨by omega, co, t, _, ⟨hco, hE⟩, by rw [ab_u_eq], Or.inl ⟨rfl, by omega, rfl, fun j j0 j1 => (q3.1 j j0 j1).1⟩⟩⟩), (fun j hj => ab_u_ne hj), Or.inl ⟨rfl, rfl, rfl⟩, Or.inl ⟨rfl, rfl⟩⟩ | omega
      · first | omega | (rcases q1 with rfl | rfl; exact ⟨kp, _, _, _, _, _, _, (rc.srch kp1 hs hm lr), 0, 0, w0, Or.inr (Or.inr ⟨ok9.1, ok9.2.1, ok9.2.2, i0, iG, rfl, Or.inr ⟨by omega, co, t, _, ⟨hco, hE⟩, by rw [ab_u_eq], Or.inr (Or.inr ⟨show (0 : Int) ≠ 1 by decide, show (0 : Int) ≠ -2 by decide, by omega, rfl⟩)⟩⟩), (fun j hj => ab_u_ne hj), Or.inr ⟨by omega, rfl⟩, Or.inl ⟨rfl, rfl⟩⟩; exact ⟨kp, _, _, _, _, _, _, (rc.srch kp1 hs hm lr), 0, -2, w0, Or.inr (Or.inr ⟨ok9.1, ok9.2.1, ok9.2.2, i0, iG, rfl, Or.inr ⟨by omega, co, t, _, ⟨hco, hE⟩, by rw [ab_u_eq], Or.inr (Or.inl ⟨rfl, by omega, rfl⟩)⟩⟩), (fun j hj => ab_u_ne hj), Or.inr ⟨by omega, rfl⟩, Or.inl ⟨rfl, rfl⟩⟩)
    · refine ab_aload (pc := 68) dX9_find_68 rfl ?_
      refine ab_iconst (pc := 70) dX9_find_70 (by decide) ?_
      refine ab_aload_n (pc := 71) dX9_find_71 rfl ?_
      refine ab_get (pc := 72) (k := 6) okX9 hx rfl w118 rfl dX9_find_72 ?_
      refine ab_getN (pc := 75) (k := 0) okX4 hs rfl w71 rfl dX9_find_75 ?_
      refine ab_iload_n (pc := 78) dX9_find_78 rfl ?_
      have rc2 := rc.srch kp1 hs hm lr
      have hc8 := hc9.kp kp1 (fun j hj => by unfold cP; simp; omega)
      refine ab_callV (pc := 79) (c_copyIn hG hc8.1 hc8.2.1 hc8.2.2.1 hm (by omega) (by omega) (by omega) (Or.inl rfl) ok9.2.1 ok9.2.2 (by show n ≤ (60 : Int); omega)) hc8.1 rfl ⟨w850, w11, w853, by decide, pd61⟩ w851 w852 rfl (by omega) (by decide) (Nat.le_of_ble_eq_true rfl) rfl dX9_find_79 (fun _ _ hx => absurd hx cC_no) ?_
      rintro _ h ⟨_, e9_, kq, rfl, hb9, hcc9⟩
      cases e9_
      replace kp := kp.cal kq (by simp)
      have rc3 := rc2.row (G4 := fil (F 4) (80 * (10 * i + 0)) 80 (fun j => if j < n then f2 j else 0)) kq i0 i1 (by rw [ab_u_ne (by decide)]; exact iG) e9 hc8 (by omega) (by omega) (by omega) hb9 hcc9 (fun j j0 j1 => by rw [fil_at j0 (by omega), if_pos j1]) (fun j hj => fil_out hj) b3
      refine ab_iload (pc := 82) dX9_find_82 rfl ?_
      refine ab_iret (pc := 84) dX9_find_84 rfl ?_
      rcases q9 with ⟨rfl, q2, q3⟩ | ⟨q1, q2, q3⟩
      · have lim := sEnd_lim hE co9.1 (by omega)
        first | exact ⟨kp, _, _, _, _, _, _, rc3, 0, 1, f2, Or.inr (Or.inr ⟨ok9.1, ok9.2.1, ok9.2.2, i0, iG, rfl, Or.inr ⟨by omega, co, t, _, ⟨hco, hE⟩, by rw [ab_u_eq], Or.inl ⟨rfl, by omega, rfl, fun j j0 j1 => (q3.1 j j0 j1).1⟩⟩⟩), (fun j hj => ab_u_ne hj), Or.inl ⟨rfl, rfl, rfl⟩, Or.inl ⟨rfl, rfl⟩⟩ | omega
      · first | omega | (rcases q1 with rfl | rfl; exact ⟨kp, _, _, _, _, _, _, (rc.srch kp1 hs hm lr), 0, 0, w0, Or.inr (Or.inr ⟨ok9.1, ok9.2.1, ok9.2.2, i0, iG, rfl, Or.inr ⟨by omega, co, t, _, ⟨hco, hE⟩, by rw [ab_u_eq], Or.inr (Or.inr ⟨show (0 : Int) ≠ 1 by decide, show (0 : Int) ≠ -2 by decide, by omega, rfl⟩)⟩⟩), (fun j hj => ab_u_ne hj), Or.inr ⟨by omega, rfl⟩, Or.inl ⟨rfl, rfl⟩⟩; exact ⟨kp, _, _, _, _, _, _, (rc.srch kp1 hs hm lr), 0, -2, w0, Or.inr (Or.inr ⟨ok9.1, ok9.2.1, ok9.2.2, i0, iG, rfl, Or.inr ⟨by omega, co, t, _, ⟨hco, hE⟩, by rw [ab_u_eq], Or.inr (Or.inl ⟨rfl, by omega, rfl⟩)⟩⟩), (fun j hj => ab_u_ne hj), Or.inr ⟨by omega, rfl⟩, Or.inl ⟨rfl, rfl⟩⟩)
  · refine ab_iconst (pc := 20) dX9_find_20 (by decide) ?_
    refine ab_iret (pc := 21) dX9_find_21 rfl ?_
    exact ⟨kp, _, _, _, _, _, _, rc, 0, 0, w0, Or.inr (Or.inr ⟨ok9.1, ok9.2.1, ok9.2.2, i0, iG, rfl, Or.inl ⟨by omega, rfl, rfl⟩⟩), fun _ _ => rfl, Or.inr ⟨by omega, rfl⟩, Or.inl ⟨rfl, rfl⟩⟩
end C22
