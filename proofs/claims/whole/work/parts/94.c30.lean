/-! the class: shapes, looseness -/
section C30
variable {l : Launch} {E : AbE} {h0 : AbH}
theorem c_unk_13 {a b1 b2 b3 b4 b5 g M : Nat} {tl bs : Int} {t : Int → Int} (M6 : M ≤ 6) (ht : ∀ j : Int, 0 ≤ j → j < M → 0 ≤ t j ∧ t j ≤ 2) (ho : h0 a = some (kO g 4 [vR b1, vI tl, vR b2, vR b3, vR b4, vR b5, vI bs])) (h1 : h0 b1 = some (kI (g + 1) M t))  (fu : Nat) : ∀ (i : Int) (x5 : Option AbV), (M - i).toNat < fu → (0 ≤ i) → (i ≤ M) → ab_T l E Y_X5_unknowns 0 0 0 13 [some (vR a), some (vI (unkN (ls t i.toNat) : Int)), some (vR b1), some (vI (M : Int)), some (vI i), x5] [] h0 (pC h0 (fun v => v = (unkN (ls t M) : Int))) := by
  induction fu with
  | zero => intro i x5 hms9; exact absurd hms9 (Nat.not_lt_zero _)
  | succ fu ih =>
    intro i x5 hms9 i0 i1
    refine ab_iload (pc := 13) dX5_unknowns_13 rfl ?_
    refine ab_iload_n (pc := 15) dX5_unknowns_15 rfl ?_
    refine ab_icmp_ge (pc := 16) 38 dX5_unknowns_16 (by decide) (fun c16 => ?_) (fun c16 => ?_)
    · refine ab_iload_n (pc := 38) dX5_unknowns_38 rfl ?_
      refine ab_iret (pc := 39) dX5_unknowns_39 rfl ?_
      obtain rfl : i = M := by omega
      exact ⟨_, rfl, rfl, by rw [Int.toNat_natCast]⟩
    · have tk := ht i i0 (by omega)
      have et : (((t i).toNat : Nat) : Int) = t i := by omega
      have es : ls t (i.toNat + 1) = ls t i.toNat ++ [(t i).toNat] := by have := ls_succ (t := t) (k := i.toNat); rw [show ((i.toNat : Nat) : Int) = i by omega] at this; exact this
      have nx : (i + 1).toNat = i.toNat + 1 := by omega
      have ul := unkN_lt (ls t i.toNat) 0 (ls_mem (fun j j0 j1 => ht j j0 (by omega))) (by decide)
      have eo : ab_or (unkN (ls t i.toNat) : Int) (ab_shl 1 (t i)) = (unkN (ls t (i + 1).toNat) : Int) := by
        rw [nx, es, unkN_snoc, ← et, shl_n (by omega), or_n (by unfold unkN; omega) (by have : (t i).toNat = 0 ∨ (t i).toNat = 1 ∨ (t i).toNat = 2 := (by omega); rcases this with e | e | e <;> (rw [e]; decide)), et]
      refine ab_aload_n (pc := 19) dX5_unknowns_19 rfl ?_
      refine ab_iload (pc := 20) dX5_unknowns_20 rfl ?_
      refine ab_iald (pc := 22) h1 (by omega) (by omega) dX5_unknowns_22 ?_
      refine ab_istore (pc := 23) dX5_unknowns_23 rfl (Nat.le_of_ble_eq_true rfl) ?_
      refine ab_iload_n (pc := 25) dX5_unknowns_25 rfl ?_
      refine ab_iconst (pc := 26) dX5_unknowns_26 (by decide) ?_
      refine ab_iload (pc := 27) dX5_unknowns_27 rfl ?_
      refine ab_ishl (pc := 29) dX5_unknowns_29 ?_
      refine ab_ior (pc := 30) dX5_unknowns_30 ?_
      rw [eo]
      refine ab_istore_n (pc := 31) dX5_unknowns_31 rfl (Nat.le_of_ble_eq_true rfl) ?_
      refine ab_iinc (pc := 32) dX5_unknowns_32 rfl rfl (by decide) (by omega) (by omega) ?_
      refine ab_goto (pc := 35) 13 dX5_unknowns_35 (by decide) ?_
      exact ih (i + 1) _ (by omega) (by omega) (by omega)
theorem c_unk (hG : ab_G l E) {a b1 b2 b3 b4 b5 g M : Nat} {tl bs : Int} {t : Int → Int} (ho : h0 a = some (kO g 4 [vR b1, vI tl, vR b2, vR b3, vR b4, vR b5, vI bs])) (h1 : h0 b1 = some (kI (g + 1) M t)) (M6 : M ≤ 6) (ht : ∀ j : Int, 0 ≤ j → j < M → 0 ≤ t j ∧ t j ≤ 2) : ab_M l E Y_X5_unknowns 6 0 0 0 [vR a] h0 (pC h0 (fun v => v = (unkN (ls t M) : Int))) := by
  refine ab_M.of (L0 := [some (vR a), none, none, none, none, none]) hG rfl rfl (Nat.le_of_ble_eq_true rfl) rfl ?_
  refine ab_iconst (pc := 0) dX5_unknowns_0 (by decide) ?_
  refine ab_istore_n (pc := 1) dX5_unknowns_1 rfl (Nat.le_of_ble_eq_true rfl) ?_
  refine ab_aload_n (pc := 2) dX5_unknowns_2 rfl ?_
  refine ab_get (pc := 3) (k := 0) okX5 ho rfl w656 rfl dX5_unknowns_3 ?_
  refine ab_astore_n (pc := 6) dX5_unknowns_6 rfl (Nat.le_of_ble_eq_true rfl) ?_
  refine ab_aload_n (pc := 7) dX5_unknowns_7 rfl ?_
  refine ab_alen (pc := 8) h1 dX5_unknowns_8 ?_
  refine ab_istore_n (pc := 9) dX5_unknowns_9 rfl (Nat.le_of_ble_eq_true rfl) ?_
  refine ab_iconst (pc := 10) dX5_unknowns_10 (by decide) ?_
  refine ab_istore (pc := 11) dX5_unknowns_11 rfl (Nat.le_of_ble_eq_true rfl) ?_
  exact c_unk_13 M6 ht ho h1 _ 0 _ (Nat.lt_succ_self _) (by omega) (by omega)
theorem c_reach_16 {a b1 b2 b3 b4 b5 g M : Nat} {tl bs : Int} {t : Int → Int} {r0 left : Nat} (M6 : M ≤ 6) (ht : ∀ j : Int, 0 ≤ j → j < M → 0 ≤ t j ∧ t j ≤ 2) (l8 : left < 8) (ho : h0 a = some (kO g 4 [vR b1, vI tl, vR b2, vR b3, vR b4, vR b5, vI bs])) (h1 : h0 b1 = some (kI (g + 1) M t))  (fu : Nat) : ∀ (i : Int) (r b : Nat) (x7 x8 : Option AbV), (M - i).toNat < fu → (0 ≤ i) → (i ≤ M) → (r < 64) → (b < 8) → ((ls t i.toNat).foldl (rs left) (r0, 0) = (r, b)) → ab_T l E Y_X5_reachOn 0 0 0 16 [some (vR a), some (vI (r : Int)), some (vI (left : Int)), some (vI (b : Int)), some (vR b1), some (vI (M : Int)), some (vI i), x7, x8] [] h0 (pC h0 (fun v => v = (rch left r0 (ls t M) : Int))) := by
  induction fu with
  | zero => intro i r b x7 x8 hms9; exact absurd hms9 (Nat.not_lt_zero _)
  | succ fu ih =>
    intro i r b x7 x8 hms9 i0 i1 rl bl hst
    refine ab_iload (pc := 16) dX5_reachOn_16 rfl ?_
    refine ab_iload (pc := 18) dX5_reachOn_18 rfl ?_
    refine ab_icmp_ge (pc := 20) 79 dX5_reachOn_20 (by decide) (fun c20 => ?_) (fun c20 => ?_)
    · refine ab_iload_n (pc := 79) dX5_reachOn_79 rfl ?_
      refine ab_iret (pc := 80) dX5_reachOn_80 rfl ?_
      obtain rfl : i = M := by omega
      rw [Int.toNat_natCast] at hst
      exact ⟨_, rfl, rfl, by unfold rch; rw [hst]⟩
    · have tk := ht i i0 (by omega)
      have et : (((t i).toNat : Nat) : Int) = t i := by omega
      have es : ls t (i.toNat + 1) = ls t i.toNat ++ [(t i).toNat] := by have := ls_succ (t := t) (k := i.toNat); rw [show ((i.toNat : Nat) : Int) = i by omega] at this; exact this
      have nx : (i + 1).toNat = i.toNat + 1 := by omega
      have s1 : 1 <<< ((t i).toNat + 3) < 64 ∧ 1 <<< (t i).toNat < 8 := by have : (t i).toNat = 0 ∨ (t i).toNat = 1 ∨ (t i).toNat = 2 := (by omega); rcases this with e | e | e <;> (rw [e]; decide)
      have hh := has_n (a := left) (x := (t i).toNat) (by omega) (by omega)
      rw [et] at hh
      have e3 : ab_shl 1 (t i + 3) = ((1 <<< ((t i).toNat + 3) : Nat) : Int) := by rw [← et, show (((t i).toNat : Nat) : Int) + 3 = (((t i).toNat + 3 : Nat) : Int) by omega, shl_n (by omega), Int.toNat_natCast]
      have e0 : ab_shl 1 (t i) = ((1 <<< (t i).toNat : Nat) : Int) := by rw [← et, shl_n (by omega), Int.toNat_natCast]
      have ej : ab_or (b : Int) (((1 <<< ((t i).toNat + 3) : Nat)) : Int) = ((b ||| 1 <<< ((t i).toNat + 3) : Nat) : Int) := or_n (by omega) s1.1
      have jl : b ||| 1 <<< ((t i).toNat + 3) < 64 := or_lt 6 (by omega) s1.1
      have ea : ab_and (r : Int) ((b ||| 1 <<< ((t i).toNat + 3) : Nat) : Int) = ((r &&& (b ||| 1 <<< ((t i).toNat + 3)) : Nat) : Int) := and_n rl jl
      have eo : ab_or (r : Int) ((b ||| 1 <<< ((t i).toNat + 3) : Nat) : Int) = ((r ||| (b ||| 1 <<< ((t i).toNat + 3)) : Nat) : Int) := or_n rl jl
      have st9 : (ls t (i + 1).toNat).foldl (rs left) (r0, 0) = rs left (r, b) (t i).toNat := by rw [nx, es, List.foldl_append, hst]; rfl
      have lt9 := rs_lt (left := left) rl bl (show (t i).toNat < 3 by omega)
      refine ab_aload (pc := 23) dX5_reachOn_23 rfl ?_
      refine ab_iload (pc := 25) dX5_reachOn_25 rfl ?_
      refine ab_iald (pc := 27) h1 (by omega) (by omega) dX5_reachOn_27 ?_
      refine ab_istore (pc := 28) dX5_reachOn_28 rfl (Nat.le_of_ble_eq_true rfl) ?_
      refine ab_iload_n (pc := 30) dX5_reachOn_30 rfl ?_
      refine ab_iload (pc := 31) dX5_reachOn_31 rfl ?_
      refine ab_ishr (pc := 33) dX5_reachOn_33 ?_
      refine ab_iconst (pc := 34) dX5_reachOn_34 (by decide) ?_
      refine ab_iand (pc := 35) dX5_reachOn_35 ?_
      refine ab_if_ne (pc := 36) 42 dX5_reachOn_36 (by decide) (fun c36 => ?_) (fun c36 => ?_)
      · refine ab_iload_n (pc := 42) dX5_reachOn_42 rfl ?_
        refine ab_iconst (pc := 43) dX5_reachOn_43 (by decide) ?_
        refine ab_iload (pc := 44) dX5_reachOn_44 rfl ?_
        refine ab_iconst (pc := 46) dX5_reachOn_46 (by decide) ?_
        refine ab_iadd (pc := 47) dX5_reachOn_47 (by omega) (by omega) ?_
        refine ab_ishl (pc := 48) dX5_reachOn_48 ?_
        rw [e3]
        refine ab_ior (pc := 49) dX5_reachOn_49 ?_
        rw [ej]
        refine ab_istore (pc := 50) dX5_reachOn_50 rfl (Nat.le_of_ble_eq_true rfl) ?_
        refine ab_iload_n (pc := 52) dX5_reachOn_52 rfl ?_
        refine ab_if_eq (pc := 53) 68 dX5_reachOn_53 (by decide) (fun c53 => ?_) (fun c53 => ?_)
        · refine ab_iconst (pc := 68) dX5_reachOn_68 (by decide) ?_
          refine ab_iload (pc := 69) dX5_reachOn_69 rfl ?_
          refine ab_ishl (pc := 71) dX5_reachOn_71 ?_
          rw [e0]
          refine ab_istore_n (pc := 72) dX5_reachOn_72 rfl (Nat.le_of_ble_eq_true rfl) ?_
          refine ab_iinc (pc := 73) dX5_reachOn_73 rfl rfl (by decide) (by omega) (by omega) ?_
          refine ab_goto (pc := 76) 16 dX5_reachOn_76 (by decide) ?_
          first | exact ih (i + 1) r b _ _ (by omega) (by omega) (by omega) rl bl (st9.trans (rs_skip (hh.1.mp c36))) | exact ih (i + 1) r _ _ _ (by omega) (by omega) (by omega) rl s1.2 (st9.trans (rs_no (hh.2.mp (and_ne c36)) (Or.inl (by omega)))) | exact ih (i + 1) r _ _ _ (by omega) (by omega) (by omega) rl s1.2 (st9.trans (rs_no (hh.2.mp (and_ne c36)) (Or.inr (by omega)))) | exact ih (i + 1) _ _ _ _ (by omega) (by omega) (by omega) (or_lt 6 rl jl) s1.2 (st9.trans (rs_yes (hh.2.mp (and_ne c36)) (by omega) (by omega)))
        · refine ab_iload_n (pc := 56) dX5_reachOn_56 rfl ?_
          refine ab_iload (pc := 57) dX5_reachOn_57 rfl ?_
          refine ab_iand (pc := 59) dX5_reachOn_59 ?_
          rw [ea]
          refine ab_if_eq (pc := 60) 68 dX5_reachOn_60 (by decide) (fun c60 => ?_) (fun c60 => ?_)
          · refine ab_iconst (pc := 68) dX5_reachOn_68 (by decide) ?_
            refine ab_iload (pc := 69) dX5_reachOn_69 rfl ?_
            refine ab_ishl (pc := 71) dX5_reachOn_71 ?_
            rw [e0]
            refine ab_istore_n (pc := 72) dX5_reachOn_72 rfl (Nat.le_of_ble_eq_true rfl) ?_
            refine ab_iinc (pc := 73) dX5_reachOn_73 rfl rfl (by decide) (by omega) (by omega) ?_
            refine ab_goto (pc := 76) 16 dX5_reachOn_76 (by decide) ?_
            first | exact ih (i + 1) r b _ _ (by omega) (by omega) (by omega) rl bl (st9.trans (rs_skip (hh.1.mp c36))) | exact ih (i + 1) r _ _ _ (by omega) (by omega) (by omega) rl s1.2 (st9.trans (rs_no (hh.2.mp (and_ne c36)) (Or.inl (by omega)))) | exact ih (i + 1) r _ _ _ (by omega) (by omega) (by omega) rl s1.2 (st9.trans (rs_no (hh.2.mp (and_ne c36)) (Or.inr (by omega)))) | exact ih (i + 1) _ _ _ _ (by omega) (by omega) (by omega) (or_lt 6 rl jl) s1.2 (st9.trans (rs_yes (hh.2.mp (and_ne c36)) (by omega) (by omega)))
          · refine ab_iload_n (pc := 63) dX5_reachOn_63 rfl ?_
            refine ab_iload (pc := 64) dX5_reachOn_64 rfl ?_
            refine ab_ior (pc := 66) dX5_reachOn_66 ?_
            rw [eo]
            refine ab_istore_n (pc := 67) dX5_reachOn_67 rfl (Nat.le_of_ble_eq_true rfl) ?_
            refine ab_iconst (pc := 68) dX5_reachOn_68 (by decide) ?_
            refine ab_iload (pc := 69) dX5_reachOn_69 rfl ?_
            refine ab_ishl (pc := 71) dX5_reachOn_71 ?_
            rw [e0]
            refine ab_istore_n (pc := 72) dX5_reachOn_72 rfl (Nat.le_of_ble_eq_true rfl) ?_
            refine ab_iinc (pc := 73) dX5_reachOn_73 rfl rfl (by decide) (by omega) (by omega) ?_
            refine ab_goto (pc := 76) 16 dX5_reachOn_76 (by decide) ?_
            first | exact ih (i + 1) r b _ _ (by omega) (by omega) (by omega) rl bl (st9.trans (rs_skip (hh.1.mp c36))) | exact ih (i + 1) r _ _ _ (by omega) (by omega) (by omega) rl s1.2 (st9.trans (rs_no (hh.2.mp (and_ne c36)) (Or.inl (by omega)))) | exact ih (i + 1) r _ _ _ (by omega) (by omega) (by omega) rl s1.2 (st9.trans (rs_no (hh.2.mp (and_ne c36)) (Or.inr (by omega)))) | exact ih (i + 1) _ _ _ _ (by omega) (by omega) (by omega) (or_lt 6 rl jl) s1.2 (st9.trans (rs_yes (hh.2.mp (and_ne c36)) (by omega) (by omega)))
      · refine ab_goto (pc := 39) 73 dX5_reachOn_39 (by decide) ?_
        refine ab_iinc (pc := 73) dX5_reachOn_73 rfl rfl (by decide) (by omega) (by omega) ?_
        refine ab_goto (pc := 76) 16 dX5_reachOn_76 (by decide) ?_
        first | exact ih (i + 1) r b _ _ (by omega) (by omega) (by omega) rl bl (st9.trans (rs_skip (hh.1.mp c36))) | exact ih (i + 1) r _ _ _ (by omega) (by omega) (by omega) rl s1.2 (st9.trans (rs_no (hh.2.mp (and_ne c36)) (Or.inl (by omega)))) | exact ih (i + 1) r _ _ _ (by omega) (by omega) (by omega) rl s1.2 (st9.trans (rs_no (hh.2.mp (and_ne c36)) (Or.inr (by omega)))) | exact ih (i + 1) _ _ _ _ (by omega) (by omega) (by omega) (or_lt 6 rl jl) s1.2 (st9.trans (rs_yes (hh.2.mp (and_ne c36)) (by omega) (by omega)))
theorem c_reach (hG : ab_G l E) {a b1 b2 b3 b4 b5 g M : Nat} {tl bs : Int} {t : Int → Int} {r0 left : Nat} (ho : h0 a = some (kO g 4 [vR b1, vI tl, vR b2, vR b3, vR b4, vR b5, vI bs])) (h1 : h0 b1 = some (kI (g + 1) M t)) (M6 : M ≤ 6) (ht : ∀ j : Int, 0 ≤ j → j < M → 0 ≤ t j ∧ t j ≤ 2) (l8 : left < 8) (r6 : r0 < 64) : ab_M l E Y_X5_reachOn 9 0 0 0 [vR a, vI (r0 : Int), vI (left : Int)] h0 (pC h0 (fun v => v = (rch left r0 (ls t M) : Int))) := by
  refine ab_M.of (L0 := [some (vR a), some (vI (r0 : Int)), some (vI (left : Int)), none, none, none, none, none, none]) hG rfl rfl (Nat.le_of_ble_eq_true rfl) rfl ?_
  refine ab_iconst (pc := 0) dX5_reachOn_0 (by decide) ?_
  refine ab_istore_n (pc := 1) dX5_reachOn_1 rfl (Nat.le_of_ble_eq_true rfl) ?_
  refine ab_aload_n (pc := 2) dX5_reachOn_2 rfl ?_
  refine ab_get (pc := 3) (k := 0) okX5 ho rfl w656 rfl dX5_reachOn_3 ?_
  refine ab_astore (pc := 6) dX5_reachOn_6 rfl (Nat.le_of_ble_eq_true rfl) ?_
  refine ab_aload (pc := 8) dX5_reachOn_8 rfl ?_
  refine ab_alen (pc := 10) h1 dX5_reachOn_10 ?_
  refine ab_istore (pc := 11) dX5_reachOn_11 rfl (Nat.le_of_ble_eq_true rfl) ?_
  refine ab_iconst (pc := 13) dX5_reachOn_13 (by decide) ?_
  refine ab_istore (pc := 14) dX5_reachOn_14 rfl (Nat.le_of_ble_eq_true rfl) ?_
  exact c_reach_16 M6 ht l8 ho h1 _ 0 r0 0 _ _ (Nat.lt_succ_self _) (by omega) (by omega) r6 (by decide) rfl
end C30
