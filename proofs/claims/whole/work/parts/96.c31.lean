/-! the class: shapes, steps -/
section C31
variable {l : Launch} {E : AbE} {h0 : AbH}
theorem fold_lt {left : Nat} : ∀ (l : List Nat) (r b : Nat), (∀ x ∈ l, x < 3) → r < 64 → b < 8 → (l.foldl (rs left) (r, b)).1 < 64
  | [], _, _, _, hr, _ => hr
  | x :: l, r, b, h, hr, hb => by
    have q := rs_lt (left := left) hr hb (h x List.mem_cons_self)
    rw [List.foldl_cons]
    exact fold_lt l _ _ (fun y hy => h y (List.mem_cons_of_mem _ hy)) q.1 q.2
theorem rch_lt {left r : Nat} {l : List Nat} (h : ∀ x ∈ l, x < 3) (hr : r < 64) : rch left r l < 64 := fold_lt l r 0 h hr (by decide)
theorem sub_le {a b : Nat} (h : sub a b = true) : a ≤ b := by
  unfold sub at h
  rw [beq_iff_eq] at h
  rw [← h]
  exact Nat.and_le_right
theorem c_loose_5 {a b1 b2 b3 b4 b5 g M : Nat} {tl bs : Int} {t : Int → Int} {set left : Nat} (hG : ab_G l E) (M6 : M ≤ 6) (ht : ∀ j : Int, 0 ≤ j → j < M → 0 ≤ t j ∧ t j ≤ 2) (l8 : left < 8) (s8 : set < 8) (ho : h0 a = some (kO g 4 [vR b1, vI tl, vR b2, vR b3, vR b4, vR b5, vI bs])) (h1 : h0 b1 = some (kI (g + 1) M t))  (fu : Nat) : ∀ (i : Int) (r : Nat), (6 - i).toNat < fu → (0 ≤ i) → (i ≤ 6) → (r < 64) → (rchN left (ls t M) (6 - i).toNat r = rchN left (ls t M) 6 set) → ab_T l E Y_X5_isLoose 1 0 0 5 [some (vR a), some (vI (set : Int)), some (vI (left : Int)), some (vI (r : Int)), some (vI i)] [] h0 (pC h0 (fun v => (v = 1 ∧ loC (ls t M) left set = true) ∨ (v = 0 ∧ loC (ls t M) left set = false))) := by
  induction fu with
  | zero => intro i r hms9; exact absurd hms9 (Nat.not_lt_zero _)
  | succ fu ih =>
    intro i r hms9 i0 i1 rl I
    refine ab_iload (pc := 5) dX5_isLoose_5 rfl ?_
    refine ab_bipush (pc := 7) dX5_isLoose_7 (by decide) ?_
    refine ab_icmp_ge (pc := 9) 25 dX5_isLoose_9 (by decide) (fun c9 => ?_) (fun c9 => ?_)
    · obtain rfl : i = 6 := by omega
      have I9 : r = rchN left (ls t M) 6 set := by rw [show ((6 : Int) - 6).toNat = 0 from rfl] at I; exact I
      have lo9 : loC (ls t M) left set = (r >>> 3 &&& set == 0) := by unfold loC; rw [← I9]
      have ez : ab_and (ab_shr (r : Int) 3) (set : Int) = ((r >>> 3 &&& set : Nat) : Int) := by
        rw [show (3 : Int) = ((3 : Nat) : Int) from rfl, shr_n rl (by decide), and_n (by have := Nat.shiftRight_le r 3; omega) (by omega)]
      refine ab_iload_n (pc := 25) dX5_isLoose_25 rfl ?_
      refine ab_iconst (pc := 26) dX5_isLoose_26 (by decide) ?_
      refine ab_ishr (pc := 27) dX5_isLoose_27 ?_
      refine ab_iload_n (pc := 28) dX5_isLoose_28 rfl ?_
      refine ab_iand (pc := 29) dX5_isLoose_29 ?_
      rw [ez]
      generalize r >>> 3 &&& set = Z at lo9 ⊢
      refine ab_if_ne (pc := 30) 37 dX5_isLoose_30 (by decide) (fun c30 => ?_) (fun c30 => ?_)
      · refine ab_iconst (pc := 37) dX5_isLoose_37 (by decide) ?_
        refine ab_zret (pc := 38) dX5_isLoose_38 rfl (by omega) ?_
        first | exact ⟨_, rfl, rfl, Or.inl ⟨rfl, by rw [lo9, beq_iff_eq]; omega⟩⟩ | exact ⟨_, rfl, rfl, Or.inr ⟨rfl, by rw [lo9, beq_eq_false_iff_ne]; omega⟩⟩
      · refine ab_iconst (pc := 33) dX5_isLoose_33 (by decide) ?_
        refine ab_goto (pc := 34) 38 dX5_isLoose_34 (by decide) ?_
        refine ab_zret (pc := 38) dX5_isLoose_38 rfl (by omega) ?_
        first | exact ⟨_, rfl, rfl, Or.inl ⟨rfl, by rw [lo9, beq_iff_eq]; omega⟩⟩ | exact ⟨_, rfl, rfl, Or.inr ⟨rfl, by rw [lo9, beq_eq_false_iff_ne]; omega⟩⟩
    · refine ab_aload_n (pc := 12) dX5_isLoose_12 rfl ?_
      refine ab_iload_n (pc := 13) dX5_isLoose_13 rfl ?_
      refine ab_iload_n (pc := 14) dX5_isLoose_14 rfl ?_
      refine ab_callV (pc := 15) (c_reach hG ho h1 M6 ht l8 rl) ho rfl ⟨w1037, w26, w1040, by decide, pd18⟩ w1039 sp24 rfl (by omega) (by decide) (Nat.le_of_ble_eq_true rfl) rfl dX5_isLoose_15 (fun _ _ hx => absurd hx pC_no) ?_
      rintro _ _ ⟨rv, e9, rfl, hrv⟩
      cases e9
      subst hrv
      refine ab_istore_n (pc := 18) dX5_isLoose_18 rfl (Nat.le_of_ble_eq_true rfl) ?_
      refine ab_iinc (pc := 19) dX5_isLoose_19 rfl rfl (by decide) (by omega) (by omega) ?_
      refine ab_goto (pc := 22) 5 dX5_isLoose_22 (by decide) ?_
      exact ih (i + 1) (rch left r (ls t M)) (by omega) (by omega) (by omega) (rch_lt (ls_mem ht) rl) (by rw [← I, show (6 - i).toNat = (6 - (i + 1)).toNat + 1 by omega]; rfl)
theorem c_loose (hG : ab_G l E) {a b1 b2 b3 b4 b5 g M : Nat} {tl bs : Int} {t : Int → Int} {set left : Nat} (ho : h0 a = some (kO g 4 [vR b1, vI tl, vR b2, vR b3, vR b4, vR b5, vI bs])) (h1 : h0 b1 = some (kI (g + 1) M t)) (M6 : M ≤ 6) (ht : ∀ j : Int, 0 ≤ j → j < M → 0 ≤ t j ∧ t j ≤ 2) (l8 : left < 8) (s8 : set < 8) : ab_M l E Y_X5_isLoose 5 1 0 0 [vR a, vI (set : Int), vI (left : Int)] h0 (pC h0 (fun v => (v = 1 ∧ loC (ls t M) left set = true) ∨ (v = 0 ∧ loC (ls t M) left set = false))) := by
  refine ab_M.of (L0 := [some (vR a), some (vI (set : Int)), some (vI (left : Int)), none, none]) hG rfl rfl (Nat.le_of_ble_eq_true rfl) rfl ?_
  refine ab_iload_n (pc := 0) dX5_isLoose_0 rfl ?_
  refine ab_istore_n (pc := 1) dX5_isLoose_1 rfl (Nat.le_of_ble_eq_true rfl) ?_
  refine ab_iconst (pc := 2) dX5_isLoose_2 (by decide) ?_
  refine ab_istore (pc := 3) dX5_isLoose_3 rfl (Nat.le_of_ble_eq_true rfl) ?_
  exact c_loose_5 hG M6 ht l8 s8 ho h1 _ 0 set (Nat.lt_succ_self _) (by omega) (by omega) (by omega) rfl
theorem c_take_0 (hG : ab_G l E) {a b1 b2 b3 b4 b5 g M : Nat} {tl bs : Int} {t : Int → Int} {left : Nat} {st : Int → Int} (ho : h0 a = some (kO g 4 [vR b1, vI tl, vR b2, vR b3, vR b4, vR b5, vI bs])) (h1 : h0 b1 = some (kI (g + 1) M t)) (h5 : h0 b5 = some (kI (g + 5) 3 st)) (M6 : M ≤ 6) (ht : ∀ j : Int, 0 ≤ j → j < M → 0 ≤ t j ∧ t j ≤ 2) (g0 : 201 ≤ g) (l8 : left < 8) (sb : sub left (unkN (ls t M)) = true) : ab_M l E Y_X5_takeOff 5 2 0 0 [vR a, vI (left : Int), vI 3] h0 (cC h0 [g + 5] (fun r h' => ∃ st' : Int → Int, r = some (vI (tkN (tk 0 (fl (ls t M) left)) 3)) ∧ h' b5 = some (kI (g + 5) 3 st') ∧ stOk (tk 0 (fl (ls t M) left)) 3 st' ∧ ∀ j : Int, j < (3 : Int) → st' j = st j)) := by
  refine ab_M.of (L0 := [some (vR a), some (vI (left : Int)), some (vI 3), none, none]) hG rfl rfl (Nat.le_of_ble_eq_true rfl) rfl ?_
  have kp : ab_kp (cP [g + 5]) h0 h0 := ab_kp0
  have fn := fl_nil (ls_mem ht) l8 sb
  refine ab_iload_n (pc := 0) dX5_takeOff_0 rfl ?_
  refine ab_if_eq (pc := 1) 13 dX5_takeOff_1 (by decide) (fun c1 => ?_) (fun c1 => ?_)
  · refine ab_iload_n (pc := 13) dX5_takeOff_13 rfl ?_
    refine ab_if_ne (pc := 14) 21 dX5_takeOff_14 (by decide) (fun c14 => ?_) (fun c14 => ?_)
    · refine ab_iconst (pc := 21) dX5_takeOff_21 (by decide) ?_
      refine ab_iret (pc := 22) dX5_takeOff_22 rfl ?_
      first | (have e0 : left = 0 := (by omega); have eT : tk 0 (fl (ls t M) left) = some [] := (by rw [fn.mpr e0]; rfl); refine ⟨_, rfl, kp, st, by rw [eT]; rfl, h5, ?_, fun _ _ => rfl⟩; (rw [eT]; intro p hp i hi; cases hp; cases hi)) | (have e0 : left ≠ 0 := (by omega); have eT : tk 0 (fl (ls t M) left) = none := tk_0 (fun k => e0 (fn.mp k)); refine ⟨_, rfl, kp, st, by rw [eT]; rfl, h5, ?_, fun _ _ => rfl⟩; (rw [eT]; intro p hp; cases hp))
    · refine ab_iload_n (pc := 17) dX5_takeOff_17 rfl ?_
      refine ab_goto (pc := 18) 22 dX5_takeOff_18 (by decide) ?_
      refine ab_iret (pc := 22) dX5_takeOff_22 rfl ?_
      first | (have e0 : left = 0 := (by omega); have eT : tk 0 (fl (ls t M) left) = some [] := (by rw [fn.mpr e0]; rfl); refine ⟨_, rfl, kp, st, by rw [eT]; rfl, h5, ?_, fun _ _ => rfl⟩; (rw [eT]; intro p hp i hi; cases hp; cases hi)) | (have e0 : left ≠ 0 := (by omega); have eT : tk 0 (fl (ls t M) left) = none := tk_0 (fun k => e0 (fn.mp k)); refine ⟨_, rfl, kp, st, by rw [eT]; rfl, h5, ?_, fun _ _ => rfl⟩; (rw [eT]; intro p hp; cases hp))
  · refine ab_iload_n (pc := 4) dX5_takeOff_4 rfl ?_
    refine ab_aload_n (pc := 5) dX5_takeOff_5 rfl ?_
    refine ab_get (pc := 6) (k := 5) okX5 ho rfl w661 rfl dX5_takeOff_6 ?_
    refine ab_alen (pc := 9) h5 dX5_takeOff_9 ?_
    refine ab_icmp_lt (pc := 10) 23 dX5_takeOff_10 (by decide) (fun c10 => absurd c10 (by omega)) (fun c10 => ?_)
    refine ab_iload_n (pc := 13) dX5_takeOff_13 rfl ?_
    refine ab_if_ne (pc := 14) 21 dX5_takeOff_14 (by decide) (fun c14 => ?_) (fun c14 => ?_)
    · refine ab_iconst (pc := 21) dX5_takeOff_21 (by decide) ?_
      refine ab_iret (pc := 22) dX5_takeOff_22 rfl ?_
      first | (have e0 : left = 0 := (by omega); have eT : tk 0 (fl (ls t M) left) = some [] := (by rw [fn.mpr e0]; rfl); refine ⟨_, rfl, kp, st, by rw [eT]; rfl, h5, ?_, fun _ _ => rfl⟩; (rw [eT]; intro p hp i hi; cases hp; cases hi)) | (have e0 : left ≠ 0 := (by omega); have eT : tk 0 (fl (ls t M) left) = none := tk_0 (fun k => e0 (fn.mp k)); refine ⟨_, rfl, kp, st, by rw [eT]; rfl, h5, ?_, fun _ _ => rfl⟩; (rw [eT]; intro p hp; cases hp))
    · refine ab_iload_n (pc := 17) dX5_takeOff_17 rfl ?_
      refine ab_goto (pc := 18) 22 dX5_takeOff_18 (by decide) ?_
      refine ab_iret (pc := 22) dX5_takeOff_22 rfl ?_
      first | (have e0 : left = 0 := (by omega); have eT : tk 0 (fl (ls t M) left) = some [] := (by rw [fn.mpr e0]; rfl); refine ⟨_, rfl, kp, st, by rw [eT]; rfl, h5, ?_, fun _ _ => rfl⟩; (rw [eT]; intro p hp i hi; cases hp; cases hi)) | (have e0 : left ≠ 0 := (by omega); have eT : tk 0 (fl (ls t M) left) = none := tk_0 (fun k => e0 (fn.mp k)); refine ⟨_, rfl, kp, st, by rw [eT]; rfl, h5, ?_, fun _ _ => rfl⟩; (rw [eT]; intro p hp; cases hp))
theorem c_take_25 {a b1 b2 b3 b4 b5 g M : Nat} {tl bs : Int} {t : Int → Int} {left k d : Nat} {st0 : Int → Int} (hG : ab_G l E) (M6 : M ≤ 6) (ht : ∀ j : Int, 0 ≤ j → j < M → 0 ≤ t j ∧ t j ≤ 2) (g0 : 201 ≤ g) (l8 : left < 8) (sb : sub left (unkN (ls t M)) = true) (dk : d + k = 2) (IH : ∀ (h2 : AbH) (left : Nat) (st : Int → Int), h2 a = some (kO g 4 [vR b1, vI tl, vR b2, vR b3, vR b4, vR b5, vI bs]) → h2 b1 = some (kI (g + 1) M t) → h2 b5 = some (kI (g + 5) 3 st) → left < 8 → sub left (unkN (ls t M)) = true → ab_M l E Y_X5_takeOff 5 (k + 2) 0 0 [vR a, vI (left : Int), vI ((d : Int) + 1)] h2 (cC h2 [g + 5] (fun r h' => ∃ st' : Int → Int, r = some (vI (tkN (tk k (fl (ls t M) left)) (d + 1))) ∧ h' b5 = some (kI (g + 5) 3 st') ∧ stOk (tk k (fl (ls t M) left)) (d + 1) st' ∧ ∀ j : Int, j < (d + 1) → st' j = st j)))   (fu : Nat) : ∀ (c : Nat) (st : Int → Int) (x4 : Option AbV) (h : AbH), ((left : Int) + 1 - c).toNat < fu → h a = some (kO g 4 [vR b1, vI tl, vR b2, vR b3, vR b4, vR b5, vI bs]) → h b1 = some (kI (g + 1) M t) → h b5 = some (kI (g + 5) 3 st) → ab_kp (cP [g + 5]) h0 h → (c ≤ left) → (tk (k + 1) (fl (ls t M) left) = tks (tk k) (fl (ls t M) left) (cand c)) → (∀ j : Int, j < d → st j = st0 j) → ab_T l E Y_X5_takeOff (k + 3) 0 0 25 [some (vR a), some (vI (left : Int)), some (vI (d : Int)), some (vI ((c + 1 : Nat) : Int)), x4] [] h (cC h0 [g + 5] (fun r h' => ∃ st' : Int → Int, r = some (vI (tkN (tk (k + 1) (fl (ls t M) left)) d)) ∧ h' b5 = some (kI (g + 5) 3 st') ∧ stOk (tk (k + 1) (fl (ls t M) left)) d st' ∧ ∀ j : Int, j < (d : Int) → st' j = st0 j)) := by
  induction fu with
  | zero => intro c st x4 h hms9; exact absurd hms9 (Nat.not_lt_zero _)
  | succ fu ih =>
    intro c st x4 h hms9 ho h1 h5 kp c1 I sj
    have l3 := ls_mem ht
    have l6 : (ls t M).length ≤ 6 := by rw [ls_len]; exact M6
    refine ab_iload_n (pc := 25) dX5_takeOff_25 rfl ?_
    refine ab_iload_n (pc := 26) dX5_takeOff_26 rfl ?_
    refine ab_icmp_gt (pc := 27) 82 dX5_takeOff_27 (by decide) (fun c27 => ?_) (fun c27 => ?_)
    · have eT : tk (k + 1) (fl (ls t M) left) = none := by
        rw [I]
        refine tks_end (7 - c) c (by omega) (fun s s0 s1 => ?_)
        rw [loM_cl l3 l6 l8 sb (by omega) (by omega)]
        cases g9 : sub s left with
        | false => rfl
        | true => have := sub_le g9; omega
      refine ab_iconst (pc := 82) dX5_takeOff_82 (by decide) ?_
      refine ab_iret (pc := 83) dX5_takeOff_83 rfl ?_
      exact ⟨_, rfl, kp, st, by rw [eT]; rfl, h5, (by rw [eT]; intro p hp; cases hp), sj⟩
    · have c7 : c + 1 < 8 := by omega
      have o8 : (ab_and ((c + 1 : Nat) : Int) (ab_xor (left : Int) (-1)) = 0 ↔ sub (c + 1) left = true) := (off8 ⟨c + 1, c7⟩ ⟨left, l8⟩).1
      have o9 : ab_and (left : Int) (ab_xor ((c + 1 : Nat) : Int) (-1)) = ((left &&& (7 ^^^ (c + 1)) : Nat) : Int) := (off8 ⟨left, l8⟩ ⟨c + 1, c7⟩).2
      have lm := loM_cl l3 l6 l8 sb (show c + 1 ≠ 0 by omega) c7
      refine ab_iload_n (pc := 30) dX5_takeOff_30 rfl ?_
      refine ab_iload_n (pc := 31) dX5_takeOff_31 rfl ?_
      refine ab_iconst (pc := 32) dX5_takeOff_32 (by decide) ?_
      refine ab_ixor (pc := 33) dX5_takeOff_33 ?_
      refine ab_iand (pc := 34) dX5_takeOff_34 ?_
      refine ab_if_ne (pc := 35) 76 dX5_takeOff_35 (by decide) (fun c35 => ?_) (fun c35 => ?_)
      · have nx9 : tks (tk k) (fl (ls t M) left) (cand c) = tks (tk k) (fl (ls t M) left) (cand (c + 1)) := tks_no (by omega) (by rw [lm]; cases g9 : sub (c + 1) left with
          | false => rfl
          | true => exact absurd (o8.mpr g9) c35)
        refine ab_iinc (pc := 76) dX5_takeOff_76 rfl rfl (by decide) (by omega) (by omega) ?_
        refine ab_goto (pc := 79) 25 dX5_takeOff_79 (by decide) ?_
        have g9 := ih (c + 1) st (x4) _ (by omega) ho h1 h5 kp (by omega) (I.trans nx9) sj
        rw [show ((c + 1 + 1 : Nat) : Int) = ((c + 1 : Nat) : Int) + 1 by omega] at g9
        exact g9
      · have sb9 : sub (c + 1) left = true := o8.mp c35
        refine ab_aload_n (pc := 38) dX5_takeOff_38 rfl ?_
        refine ab_iload_n (pc := 39) dX5_takeOff_39 rfl ?_
        refine ab_iload_n (pc := 40) dX5_takeOff_40 rfl ?_
        refine ab_callV (pc := 41) (c_loose hG ho h1 M6 ht l8 c7) ho rfl ⟨w1033, w26, w1036, by decide, pd73⟩ w1035 sp23 rfl (by omega) (by decide) (Nat.le_of_ble_eq_true rfl) rfl dX5_takeOff_41 (fun _ _ hx => absurd hx pC_no) ?_
        rintro _ _ ⟨lv, e9, rfl, hlv⟩
        cases e9
        refine ab_if_eq (pc := 44) 76 dX5_takeOff_44 (by decide) (fun c44 => ?_) (fun c44 => ?_)
        · have nx9 : tks (tk k) (fl (ls t M) left) (cand c) = tks (tk k) (fl (ls t M) left) (cand (c + 1)) := tks_no (by omega) (by rw [lm, sb9, Bool.true_and]; rcases hlv with ⟨q, _⟩ | ⟨_, q⟩; (exact absurd q (by omega)); exact q)
          refine ab_iinc (pc := 76) dX5_takeOff_76 rfl rfl (by decide) (by omega) (by omega) ?_
          refine ab_goto (pc := 79) 25 dX5_takeOff_79 (by decide) ?_
          have g9 := ih (c + 1) st (x4) _ (by omega) ho h1 h5 kp (by omega) (I.trans nx9) sj
          rw [show ((c + 1 + 1 : Nat) : Int) = ((c + 1 : Nat) : Int) + 1 by omega] at g9
          exact g9
        · have lo9 : loM (fl (ls t M) left) (c + 1) = true := by rw [lm, sb9, Bool.true_and]; rcases hlv with ⟨_, q⟩ | ⟨q, _⟩; (exact q); exact absurd q (by omega)
          have ty := tks_yes (f := tk k) (by omega : c < 7) lo9
          have so := sub_off l8 c7 (unk8 l3) sb
          have fr := fl_rem l3 l8 c7
          refine ab_aload_n (pc := 47) dX5_takeOff_47 rfl ?_
          refine ab_get (pc := 48) (k := 5) okX5 ho rfl w661 rfl dX5_takeOff_48 ?_
          refine ab_iload_n (pc := 51) dX5_takeOff_51 rfl ?_
          refine ab_iload_n (pc := 52) dX5_takeOff_52 rfl ?_
          refine ab_iastG (pc := 53) h5 (by omega) (by omega) (by omega) dX5_takeOff_53 (fun h e9 n9 => ?_)
          replace ho := (n9 _ (ab_ne ho h5 (by first | (simp; done) | (simp; omega)))).trans ho
          replace h1 := (n9 _ (ab_ne h1 h5 (by first | (simp; done) | (simp; omega)))).trans h1
          replace kp := kp.wr h5 (cP_no (by simp)) n9
          replace h5 := e9
          clear e9 n9
          refine ab_aload_n (pc := 54) dX5_takeOff_54 rfl ?_
          refine ab_iload_n (pc := 55) dX5_takeOff_55 rfl ?_
          refine ab_iload_n (pc := 56) dX5_takeOff_56 rfl ?_
          refine ab_iconst (pc := 57) dX5_takeOff_57 (by decide) ?_
          refine ab_ixor (pc := 58) dX5_takeOff_58 ?_
          refine ab_iand (pc := 59) dX5_takeOff_59 ?_
          rw [o9]
          refine ab_iload_n (pc := 60) dX5_takeOff_60 rfl ?_
          refine ab_iconst (pc := 61) dX5_takeOff_61 (by decide) ?_
          refine ab_iadd (pc := 62) dX5_takeOff_62 (by omega) (by omega) ?_
          refine ab_callV (pc := 63) (IH _ _ _ ho h1 h5 so.1 so.2) ho rfl ⟨w1029, w26, w1032, by decide, pd18⟩ w1031 sp22 rfl (by omega) (by decide) (Nat.le_of_ble_eq_true rfl) rfl dX5_takeOff_63 (fun _ _ hx => absurd hx cC_no) ?_
          rintro _ h ⟨_, e9, kq, st2, rfl, h59, sk, sj2⟩
          cases e9
          replace ho := kq _ _ ho (by unfold cP; first | (simp; done) | (simp; omega))
          replace h1 := kq _ _ h1 (by unfold cP; first | (simp; done) | (simp; omega))
          replace kp := kp.cal kq (by first | (simp; done) | (simp; omega))
          replace h5 := h59
          refine ab_istore (pc := 66) dX5_takeOff_66 rfl (Nat.le_of_ble_eq_true rfl) ?_
          refine ab_iload (pc := 68) dX5_takeOff_68 rfl ?_
          refine ab_if_le (pc := 70) 76 dX5_takeOff_70 (by decide) (fun c70 => ?_) (fun c70 => ?_)
          · have nx9 : tks (tk k) (fl (ls t M) left) (cand c) = tks (tk k) (fl (ls t M) left) (cand (c + 1)) := by
              rw [ty, ← fr]
              cases g9 : tk k (fl (ls t M) (left &&& (7 ^^^ (c + 1)))) with
              | none => rfl
              | some p => rw [g9] at c70; exact absurd c70 (by show ¬ (((d + 1 + p.length : Nat) : Int) ≤ 0); omega)
            refine ab_iinc (pc := 76) dX5_takeOff_76 rfl rfl (by decide) (by omega) (by omega) ?_
            refine ab_goto (pc := 79) 25 dX5_takeOff_79 (by decide) ?_
            have g9 := ih (c + 1) st2 (some (vI ((tkN (tk k (fl (ls t M) (left &&& (7 ^^^ (c + 1))))) (d + 1))))) _ (by omega) ho h1 h5 kp (by omega) (I.trans nx9) (fun j hj => by rw [sj2 j (by omega), ab_f_ne (by omega)]; exact sj j hj)
            rw [show ((c + 1 + 1 : Nat) : Int) = ((c + 1 : Nat) : Int) + 1 by omega] at g9
            exact g9
          · refine ab_iload (pc := 73) dX5_takeOff_73 rfl ?_
            refine ab_iret (pc := 75) dX5_takeOff_75 rfl ?_
            cases g9 : tk k (fl (ls t M) (left &&& (7 ^^^ (c + 1)))) with
            | none => rw [g9] at c70; exact absurd (show (0 : Int) ≤ 0 by omega) c70
            | some p =>
              have eT : tk (k + 1) (fl (ls t M) left) = some ((c + 1) :: p) := by rw [I, ty, ← fr, g9]
              refine ⟨_, rfl, kp, st2, ?_, h5, ?_, fun j hj => ?_⟩
              · rw [eT]; show some (vI (((d + 1 + p.length : Nat) : Int))) = some (vI (((d + (p.length + 1) : Nat) : Int))); rw [show d + 1 + p.length = d + (p.length + 1) by omega]
              · rw [eT]; intro p2 hp2 i hi
                cases hp2
                cases i with
                | zero => rw [sj2 _ (by omega), ab_f_eq (by omega)]; rfl
                | succ i =>
                  have q9 := sk p g9 i (by simp at hi; omega)
                  rw [show d + 1 + i = d + (i + 1) by omega] at q9
                  exact q9
              · rw [sj2 j (by omega), ab_f_ne (by omega)]; exact sj j hj
theorem c_take_s (hG : ab_G l E) {a b1 b2 b3 b4 b5 g M : Nat} {tl bs : Int} {t : Int → Int} {left k d : Nat} {st : Int → Int} (ho : h0 a = some (kO g 4 [vR b1, vI tl, vR b2, vR b3, vR b4, vR b5, vI bs])) (h1 : h0 b1 = some (kI (g + 1) M t)) (h5 : h0 b5 = some (kI (g + 5) 3 st)) (M6 : M ≤ 6) (ht : ∀ j : Int, 0 ≤ j → j < M → 0 ≤ t j ∧ t j ≤ 2) (g0 : 201 ≤ g) (l8 : left < 8) (sb : sub left (unkN (ls t M)) = true) (dk : d + k = 2) (IH : ∀ (h2 : AbH) (left : Nat) (st : Int → Int), h2 a = some (kO g 4 [vR b1, vI tl, vR b2, vR b3, vR b4, vR b5, vI bs]) → h2 b1 = some (kI (g + 1) M t) → h2 b5 = some (kI (g + 5) 3 st) → left < 8 → sub left (unkN (ls t M)) = true → ab_M l E Y_X5_takeOff 5 (k + 2) 0 0 [vR a, vI (left : Int), vI ((d : Int) + 1)] h2 (cC h2 [g + 5] (fun r h' => ∃ st' : Int → Int, r = some (vI (tkN (tk k (fl (ls t M) left)) (d + 1))) ∧ h' b5 = some (kI (g + 5) 3 st') ∧ stOk (tk k (fl (ls t M) left)) (d + 1) st' ∧ ∀ j : Int, j < (d + 1) → st' j = st j))) : ab_M l E Y_X5_takeOff 5 (k + 3) 0 0 [vR a, vI (left : Int), vI (d : Int)] h0 (cC h0 [g + 5] (fun r h' => ∃ st' : Int → Int, r = some (vI (tkN (tk (k + 1) (fl (ls t M) left)) d)) ∧ h' b5 = some (kI (g + 5) 3 st') ∧ stOk (tk (k + 1) (fl (ls t M) left)) d st' ∧ ∀ j : Int, j < (d : Int) → st' j = st j)) := by
  refine ab_M.of (L0 := [some (vR a), some (vI (left : Int)), some (vI (d : Int)), none, none]) hG rfl rfl (Nat.le_of_ble_eq_true rfl) rfl ?_
  have kp : ab_kp (cP [g + 5]) h0 h0 := ab_kp0
  have fn := fl_nil (ls_mem ht) l8 sb
  refine ab_iload_n (pc := 0) dX5_takeOff_0 rfl ?_
  refine ab_if_eq (pc := 1) 13 dX5_takeOff_1 (by decide) (fun c1 => ?_) (fun c1 => ?_)
  · refine ab_iload_n (pc := 13) dX5_takeOff_13 rfl ?_
    refine ab_if_ne (pc := 14) 21 dX5_takeOff_14 (by decide) (fun c14 => absurd c14 (by omega)) (fun c14 => ?_)
    refine ab_iload_n (pc := 17) dX5_takeOff_17 rfl ?_
    refine ab_goto (pc := 18) 22 dX5_takeOff_18 (by decide) ?_
    refine ab_iret (pc := 22) dX5_takeOff_22 rfl ?_
    have e0 : left = 0 := by omega
    have eT : tk (k + 1) (fl (ls t M) left) = some [] := by rw [fn.mpr e0]; exact tk_nil
    exact ⟨_, rfl, kp, st, by rw [eT]; rfl, h5, (by rw [eT]; intro p hp i hi; cases hp; cases hi), fun _ _ => rfl⟩
  · refine ab_iload_n (pc := 4) dX5_takeOff_4 rfl ?_
    refine ab_aload_n (pc := 5) dX5_takeOff_5 rfl ?_
    refine ab_get (pc := 6) (k := 5) okX5 ho rfl w661 rfl dX5_takeOff_6 ?_
    refine ab_alen (pc := 9) h5 dX5_takeOff_9 ?_
    refine ab_icmp_lt (pc := 10) 23 dX5_takeOff_10 (by decide) (fun c10 => ?_) (fun c10 => absurd c10 (by omega))
    refine ab_iconst (pc := 23) dX5_takeOff_23 (by decide) ?_
    refine ab_istore_n (pc := 24) dX5_takeOff_24 rfl (Nat.le_of_ble_eq_true rfl) ?_
    exact c_take_25 hG M6 ht g0 l8 sb dk IH _ 0 st _ _ (Nat.lt_succ_self _) ho h1 h5 kp (by omega) (tk_s (fun k => c1 (by have := fn.mp k; omega))) (fun _ _ => rfl)
theorem c_take (hG : ab_G l E) {a b1 b2 b3 b4 b5 g M : Nat} {tl bs : Int} {t : Int → Int} (M6 : M ≤ 6) (ht : ∀ j : Int, 0 ≤ j → j < M → 0 ≤ t j ∧ t j ≤ 2) (g0 : 201 ≤ g) : ∀ k d : Nat, d + k = 3 → ∀ (h2 : AbH) (left : Nat) (st : Int → Int), h2 a = some (kO g 4 [vR b1, vI tl, vR b2, vR b3, vR b4, vR b5, vI bs]) → h2 b1 = some (kI (g + 1) M t) → h2 b5 = some (kI (g + 5) 3 st) → left < 8 → sub left (unkN (ls t M)) = true → ab_M l E Y_X5_takeOff 5 (k + 2) 0 0 [vR a, vI (left : Int), vI (d : Int)] h2 (cC h2 [g + 5] (fun r h' => ∃ st' : Int → Int, r = some (vI (tkN (tk k (fl (ls t M) left)) d)) ∧ h' b5 = some (kI (g + 5) 3 st') ∧ stOk (tk k (fl (ls t M) left)) d st' ∧ ∀ j : Int, j < (d : Int) → st' j = st j)
) := by
  intro k
  induction k with
  | zero =>
    intro d hd h2 left st a1 a2 a3 l8 sb
    obtain rfl : d = 3 := by omega
    exact c_take_0 hG a1 a2 a3 M6 ht g0 l8 sb
  | succ k ih =>
    intro d hd h2 left st a1 a2 a3 l8 sb
    exact c_take_s hG a1 a2 a3 M6 ht g0 l8 sb (by omega) (fun h2 left st b1 b2 b3 b4 b5 => ih (d + 1) (by omega) h2 left st b1 b2 b3 b4 b5)
theorem c_seekSt (hG : ab_G l E) {a b1 b2 b3 b4 b5 g M : Nat} {tl bs : Int} {t : Int → Int} {st : Int → Int} (ho : h0 a = some (kO g 4 [vR b1, vI tl, vR b2, vR b3, vR b4, vR b5, vI bs])) (h1 : h0 b1 = some (kI (g + 1) M t)) (h5 : h0 b5 = some (kI (g + 5) 3 st)) (M6 : M ≤ 6) (ht : ∀ j : Int, 0 ≤ j → j < M → 0 ≤ t j ∧ t j ≤ 2) (g0 : 201 ≤ g) : ab_M l E Y_X5_seekSteps 1 6 0 0 [vR a] h0 (cC h0 [g + 5] (fun r h' => ∃ st' : Int → Int, r = some (vI (tkN (stepsOf t M) 0)) ∧ h' b5 = some (kI (g + 5) 3 st') ∧ stOk (stepsOf t M) 0 st')) := by
  refine ab_M.of (L0 := [some (vR a)]) hG rfl rfl (Nat.le_of_ble_eq_true rfl) rfl ?_
  have kp : ab_kp (cP [g + 5]) h0 h0 := ab_kp0
  refine ab_aload_n (pc := 0) dX5_seekSteps_0 rfl ?_
  refine ab_aload_n (pc := 1) dX5_seekSteps_1 rfl ?_
  refine ab_callV (pc := 2) (c_unk hG ho h1 M6 ht) ho rfl ⟨w1012, w26, w1015, by decide, pd26⟩ w1014 sp21 rfl (by omega) (by decide) (Nat.le_of_ble_eq_true rfl) rfl dX5_seekSteps_2 (fun _ _ hx => absurd hx pC_no) ?_
  rintro _ _ ⟨uv, e9, rfl, huv⟩
  cases e9
  subst huv
  refine ab_iconst (pc := 5) dX5_seekSteps_5 (by decide) ?_
  refine ab_callV (pc := 6) ((c_take hG M6 ht g0 3 0 rfl) _ _ _ ho h1 h5 (unk8 (ls_mem ht)) sub_rfl) ho rfl ⟨w1029, w26, w1032, by decide, pd18⟩ w1031 sp22 rfl (by omega) (by decide) (Nat.le_of_ble_eq_true rfl) rfl dX5_seekSteps_6 (fun _ _ hx => absurd hx cC_no) ?_
  rintro _ h ⟨_, e9, kq, st2, rfl, h59, sk, _⟩
  cases e9
  replace ho := kq _ _ ho (by unfold cP; first | (simp; done) | (simp; omega))
  replace h1 := kq _ _ h1 (by unfold cP; first | (simp; done) | (simp; omega))
  replace kp := kp.cal kq (by first | (simp; done) | (simp; omega))
  replace h5 := h59
  refine ab_iret (pc := 9) dX5_seekSteps_9 rfl ?_
  rw [fl_all] at sk ⊢
  exact ⟨_, rfl, kp, st2, rfl, h5, sk⟩
theorem c_stepAt (hG : ab_G l E) {a b1 b2 b3 b4 b5 g M : Nat} {tl bs : Int} {t : Int → Int} {i : Int} {st : Int → Int} (ho : h0 a = some (kO g 4 [vR b1, vI tl, vR b2, vR b3, vR b4, vR b5, vI bs])) (h1 : h0 b1 = some (kI (g + 1) M t)) (h5 : h0 b5 = some (kI (g + 5) 3 st)) : ab_M l E Y_X5_stepAt 2 0 0 0 [vR a, vI i] h0 (pC h0 (fun v => (0 ≤ i ∧ i < 3 ∧ v = st i) ∨ (¬ (0 ≤ i ∧ i < 3) ∧ v = 0))) := by
  refine ab_M.of (L0 := [some (vR a), some (vI i)]) hG rfl rfl (Nat.le_of_ble_eq_true rfl) rfl ?_
  refine ab_iload_n (pc := 0) dX5_stepAt_0 rfl ?_
  refine ab_if_lt (pc := 1) 22 dX5_stepAt_1 (by decide) (fun c1 => ?_) (fun c1 => ?_)
  · refine ab_iconst (pc := 22) dX5_stepAt_22 (by decide) ?_
    refine ab_iret (pc := 23) dX5_stepAt_23 rfl ?_
    first | exact ⟨_, rfl, rfl, Or.inl ⟨by omega, by omega, rfl⟩⟩ | exact ⟨_, rfl, rfl, Or.inr ⟨by omega, rfl⟩⟩
  · refine ab_iload_n (pc := 4) dX5_stepAt_4 rfl ?_
    refine ab_aload_n (pc := 5) dX5_stepAt_5 rfl ?_
    refine ab_get (pc := 6) (k := 5) okX5 ho rfl w661 rfl dX5_stepAt_6 ?_
    refine ab_alen (pc := 9) h5 dX5_stepAt_9 ?_
    refine ab_icmp_ge (pc := 10) 22 dX5_stepAt_10 (by decide) (fun c10 => ?_) (fun c10 => ?_)
    · refine ab_iconst (pc := 22) dX5_stepAt_22 (by decide) ?_
      refine ab_iret (pc := 23) dX5_stepAt_23 rfl ?_
      first | exact ⟨_, rfl, rfl, Or.inl ⟨by omega, by omega, rfl⟩⟩ | exact ⟨_, rfl, rfl, Or.inr ⟨by omega, rfl⟩⟩
    · refine ab_aload_n (pc := 13) dX5_stepAt_13 rfl ?_
      refine ab_get (pc := 14) (k := 5) okX5 ho rfl w661 rfl dX5_stepAt_14 ?_
      refine ab_iload_n (pc := 17) dX5_stepAt_17 rfl ?_
      refine ab_iald (pc := 18) h5 (by omega) (by omega) dX5_stepAt_18 ?_
      refine ab_goto (pc := 19) 23 dX5_stepAt_19 (by decide) ?_
      refine ab_iret (pc := 23) dX5_stepAt_23 rfl ?_
      first | exact ⟨_, rfl, rfl, Or.inl ⟨by omega, by omega, rfl⟩⟩ | exact ⟨_, rfl, rfl, Or.inr ⟨by omega, rfl⟩⟩
end C31
