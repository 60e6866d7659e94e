/-! the class: sheets -/
section C2
variable {l : Launch} {E : AbE} {h0 : AbH}
theorem c_sizeOf (hG : ab_G l E) {a b c i9 : Nat} {wd : Int} {g z : Int → Int} {k : Int} (ho : h0 a = some (kO (100 + 3 * i9) 5 [vI wd, vR b, vR c])) (hb : h0 b = some (kI (101 + 3 * i9) 800 (g))) (hc : h0 c = some (kI (102 + 3 * i9) 10 (z))) (k0 : 0 ≤ k) (k1 : k < 10) : ab_M l E Y_X6_sizeOf 2 0 0 0 [vR a, vI k] h0 (pC h0 (fun v => v = z k)) := by
  refine ab_M.of (L0 := [some (vR a), some (vI k)]) hG rfl rfl (Nat.le_of_ble_eq_true rfl) rfl ?_
  refine ab_aload_n (pc := 0) dX6_sizeOf_0 rfl ?_
  refine ab_get (pc := 1) (k := 2) okX6 ho rfl w249 rfl dX6_sizeOf_1 ?_
  refine ab_iload_n (pc := 4) dX6_sizeOf_4 rfl ?_
  refine ab_iald (pc := 5) hc (by omega) (by omega) dX6_sizeOf_5 ?_
  refine ab_iret (pc := 6) dX6_sizeOf_6 rfl ?_
  exact ⟨_, rfl, rfl, rfl⟩
theorem c_renew (hG : ab_G l E) {a b c i9 : Nat} {wd : Int} {g z : Int → Int} {k n : Int} (ho : h0 a = some (kO (100 + 3 * i9) 5 [vI wd, vR b, vR c])) (hb : h0 b = some (kI (101 + 3 * i9) 800 (g))) (hc : h0 c = some (kI (102 + 3 * i9) 10 (z))) (i16 : i9 < 16) (k0 : 0 ≤ k) (k1 : k < 10) (q0 : 0 ≤ n) (q1 : n ≤ 80) : ab_M l E Y_X6_renew 3 2 0 0 [vR a, vI k, vI n] h0 (cC h0 [101 + 3 * i9, 102 + 3 * i9] (fun r h' => r = none ∧ h' b = some (kI (101 + 3 * i9) 800 (fil g (80 * k) n (fun _ => 0))) ∧ h' c = some (kI (102 + 3 * i9) 10 (ab_f z k n)))) := by
  refine ab_M.of (L0 := [some (vR a), some (vI k), some (vI n)]) hG rfl rfl (Nat.le_of_ble_eq_true rfl) rfl ?_
  have kp : ab_kp (cP [101 + 3 * i9, 102 + 3 * i9]) h0 h0 := ab_kp0
  refine ab_aload_n (pc := 0) dX6_renew_0 rfl ?_
  refine ab_get (pc := 1) (k := 1) okX6 ho rfl w248 rfl dX6_renew_1 ?_
  refine ab_iload_n (pc := 4) dX6_renew_4 rfl ?_
  refine ab_bipush (pc := 5) dX6_renew_5 (by decide) ?_
  refine ab_imul (pc := 7) dX6_renew_7 (by omega) (by omega) ?_
  refine ab_iload_n (pc := 8) dX6_renew_8 rfl ?_
  refine ab_bipush (pc := 9) dX6_renew_9 (by decide) ?_
  refine ab_imul (pc := 11) dX6_renew_11 (by omega) (by omega) ?_
  refine ab_iload_n (pc := 12) dX6_renew_12 rfl ?_
  refine ab_iadd (pc := 13) dX6_renew_13 (by omega) (by omega) ?_
  refine ab_iconst (pc := 14) dX6_renew_14 (by decide) ?_
  refine ab_callS (pc := 15) (c_fill3 hG (by omega) (by omega) (by omega) (by show _ ≤ (800 : Int); omega) (by omega) hb) ⟨w297, w12, w299, by decide, pd12⟩ w298 rfl (by decide) (by decide) (Nat.le_of_ble_eq_true rfl) rfl dX6_renew_15 (fun _ _ hx => absurd hx cC_no) ?_
  rintro _ h ⟨_, e9, kq, rfl, hb9⟩
  cases e9
  replace ho := kq _ _ ho (by unfold cP; first | (simp; done) | (simp; omega))
  replace hc := kq _ _ hc (by unfold cP; first | (simp; done) | (simp; omega))
  replace kp := kp.cal kq (by first | (simp; done) | (simp; omega))
  replace hb := hb9
  refine ab_aload_n (pc := 18) dX6_renew_18 rfl ?_
  refine ab_get (pc := 19) (k := 2) okX6 ho rfl w249 rfl dX6_renew_19 ?_
  refine ab_iload_n (pc := 22) dX6_renew_22 rfl ?_
  refine ab_iload_n (pc := 23) dX6_renew_23 rfl ?_
  refine ab_iastG (pc := 24) hc (by omega) (by omega) (by omega) dX6_renew_24 (fun h e9 n9 => ?_)
  replace ho := (n9 _ (ab_ne ho hc (by first | (simp; done) | (simp; omega)))).trans ho
  replace hb := (n9 _ (ab_ne hb hc (by first | (simp; done) | (simp; omega)))).trans hb
  replace kp := kp.wr hc (cP_no (by simp)) n9
  replace hc := e9
  clear e9 n9
  refine ab_vret (pc := 25) dX6_renew_25 rfl ?_
  rw [show k * 80 = 80 * k by omega, show 80 * k + n - 80 * k = n by omega] at hb
  exact ⟨_, rfl, kp, rfl, hb, hc⟩
theorem c_write (hG : ab_G l E) {a b c i9 : Nat} {wd : Int} {g z : Int → Int} {k i v9 : Int} (ho : h0 a = some (kO (100 + 3 * i9) 5 [vI wd, vR b, vR c])) (hb : h0 b = some (kI (101 + 3 * i9) 800 (g))) (hc : h0 c = some (kI (102 + 3 * i9) 10 (z))) (i16 : i9 < 16) (k0 : 0 ≤ k) (k1 : k < 10) (q0 : 0 ≤ i) (q1 : i < 80) : ab_M l E Y_X6_write 4 0 0 0 [vR a, vI k, vI i, vI v9] h0 (cC h0 [101 + 3 * i9] (fun r h' => r = none ∧ h' b = some (kI (101 + 3 * i9) 800 (ab_f g (80 * k + i) (cutW wd v9))))) := by
  refine ab_M.of (L0 := [some (vR a), some (vI k), some (vI i), some (vI v9)]) hG rfl rfl (Nat.le_of_ble_eq_true rfl) rfl ?_
  have kp : ab_kp (cP [101 + 3 * i9]) h0 h0 := ab_kp0
  refine ab_aload_n (pc := 0) dX6_write_0 rfl ?_
  refine ab_get (pc := 1) (k := 1) okX6 ho rfl w248 rfl dX6_write_1 ?_
  refine ab_iload_n (pc := 4) dX6_write_4 rfl ?_
  refine ab_bipush (pc := 5) dX6_write_5 (by decide) ?_
  refine ab_imul (pc := 7) dX6_write_7 (by omega) (by omega) ?_
  refine ab_iload_n (pc := 8) dX6_write_8 rfl ?_
  refine ab_iadd (pc := 9) dX6_write_9 (by omega) (by omega) ?_
  refine ab_via (S := [vI (((k * 80) + i)), vR b]) 36 (fun v : Int => v = cutW wd v9) (fun v hv => ?_) (fun J36 => ?_)
  · refine ab_iastG (pc := 36) hb (by omega) (by omega) (by omega) dX6_write_36 (fun h e9 n9 => ?_)
    replace ho := (n9 _ (ab_ne ho hb (by first | (simp; done) | (simp; omega)))).trans ho
    replace hc := (n9 _ (ab_ne hc hb (by first | (simp; done) | (simp; omega)))).trans hc
    replace kp := kp.wr hb (cP_no (by simp)) n9
    replace hb := e9
    clear e9 n9
    refine ab_vret (pc := 37) dX6_write_37 rfl ?_
    rw [hv, show k * 80 = 80 * k by omega] at hb
    exact ⟨_, rfl, kp, rfl, hb⟩
  · refine ab_aload_n (pc := 10) dX6_write_10 rfl ?_
    refine ab_get (pc := 11) (k := 0) okX6 ho rfl w247 rfl dX6_write_11 ?_
    refine ab_if_ne (pc := 14) 22 dX6_write_14 (by decide) (fun c14 => ?_) (fun c14 => ?_)
    · refine ab_aload_n (pc := 22) dX6_write_22 rfl ?_
      refine ab_get (pc := 23) (k := 0) okX6 ho rfl w247 rfl dX6_write_23 ?_
      refine ab_iconst (pc := 26) dX6_write_26 (by decide) ?_
      refine ab_icmp_ne (pc := 27) 35 dX6_write_27 (by decide) (fun c27 => ?_) (fun c27 => ?_)
      · refine ab_iload_n (pc := 35) dX6_write_35 rfl ?_
        refine J36 _ ?_
        simp [cutW, *]
      · refine ab_iload_n (pc := 30) dX6_write_30 rfl ?_
        refine ab_i2s (pc := 31) dX6_write_31 ?_
        refine ab_goto (pc := 32) 36 dX6_write_32 (by decide) ?_
        refine J36 _ ?_
        simp [cutW, *]
    · refine ab_iload_n (pc := 17) dX6_write_17 rfl ?_
      refine ab_i2b (pc := 18) dX6_write_18 ?_
      refine ab_goto (pc := 19) 36 dX6_write_19 (by decide) ?_
      refine J36 _ ?_
      simp [cutW, *]
theorem c_drop (hG : ab_G l E) {a b c i9 : Nat} {wd : Int} {g z : Int → Int} {k : Int} (ho : h0 a = some (kO (100 + 3 * i9) 5 [vI wd, vR b, vR c])) (hb : h0 b = some (kI (101 + 3 * i9) 800 (g))) (hc : h0 c = some (kI (102 + 3 * i9) 10 (z))) (i16 : i9 < 16) (k0 : 0 ≤ k) (k1 : k < 10) : ab_M l E Y_X6_drop 3 0 0 0 [vR a, vI k] h0 (cC h0 [102 + 3 * i9] (fun r h' => r = some (vI (z k)) ∧ h' c = some (kI (102 + 3 * i9) 10 (ab_f z k (-1))))) := by
  refine ab_M.of (L0 := [some (vR a), some (vI k), none]) hG rfl rfl (Nat.le_of_ble_eq_true rfl) rfl ?_
  have kp : ab_kp (cP [102 + 3 * i9]) h0 h0 := ab_kp0
  refine ab_aload_n (pc := 0) dX6_drop_0 rfl ?_
  refine ab_get (pc := 1) (k := 2) okX6 ho rfl w249 rfl dX6_drop_1 ?_
  refine ab_iload_n (pc := 4) dX6_drop_4 rfl ?_
  refine ab_iald (pc := 5) hc (by omega) (by omega) dX6_drop_5 ?_
  refine ab_istore_n (pc := 6) dX6_drop_6 rfl (Nat.le_of_ble_eq_true rfl) ?_
  refine ab_aload_n (pc := 7) dX6_drop_7 rfl ?_
  refine ab_get (pc := 8) (k := 2) okX6 ho rfl w249 rfl dX6_drop_8 ?_
  refine ab_iload_n (pc := 11) dX6_drop_11 rfl ?_
  refine ab_iconst (pc := 12) dX6_drop_12 (by decide) ?_
  refine ab_iastG (pc := 13) hc (by omega) (by omega) (by omega) dX6_drop_13 (fun h e9 n9 => ?_)
  replace ho := (n9 _ (ab_ne ho hc (by first | (simp; done) | (simp; omega)))).trans ho
  replace hb := (n9 _ (ab_ne hb hc (by first | (simp; done) | (simp; omega)))).trans hb
  replace kp := kp.wr hc (cP_no (by simp)) n9
  replace hc := e9
  clear e9 n9
  refine ab_iload_n (pc := 14) dX6_drop_14 rfl ?_
  refine ab_iret (pc := 15) dX6_drop_15 rfl ?_
  exact ⟨_, rfl, kp, rfl, hc⟩
theorem c_copyIn (hG : ab_G l E) {a b c i9 : Nat} {wd : Int} {g z : Int → Int} {k n : Int} {w g4 N : Nat} {f : Int → Int} (ho : h0 a = some (kO (100 + 3 * i9) 5 [vI wd, vR b, vR c])) (hb : h0 b = some (kI (101 + 3 * i9) 800 (g))) (hc : h0 c = some (kI (102 + 3 * i9) 10 (z))) (hw : h0 w = some (kI g4 N f)) (i16 : i9 < 16) (k0 : 0 ≤ k) (k1 : k < 10) (m4 : g4 = 9 ∨ g4 = 11) (q0 : 0 ≤ n) (q1 : n ≤ 60) (q2 : n ≤ N) : ab_M l E Y_X6_copyIn 4 2 0 0 [vR a, vI k, vR w, vI n] h0 (cC h0 [101 + 3 * i9, 102 + 3 * i9] (fun r h' => r = none ∧ h' b = some (kI (101 + 3 * i9) 800 (fil g (80 * k) n f)) ∧ h' c = some (kI (102 + 3 * i9) 10 (ab_f z k n)))) := by
  refine ab_M.of (L0 := [some (vR a), some (vI k), some (vR w), some (vI n)]) hG rfl rfl (Nat.le_of_ble_eq_true rfl) rfl ?_
  have kp : ab_kp (cP [101 + 3 * i9, 102 + 3 * i9]) h0 h0 := ab_kp0
  refine ab_aload_n (pc := 0) dX6_copyIn_0 rfl ?_
  refine ab_iconst (pc := 1) dX6_copyIn_1 (by decide) ?_
  refine ab_aload_n (pc := 2) dX6_copyIn_2 rfl ?_
  refine ab_get (pc := 3) (k := 1) okX6 ho rfl w248 rfl dX6_copyIn_3 ?_
  refine ab_iload_n (pc := 6) dX6_copyIn_6 rfl ?_
  refine ab_bipush (pc := 7) dX6_copyIn_7 (by decide) ?_
  refine ab_imul (pc := 9) dX6_copyIn_9 (by omega) (by omega) ?_
  refine ab_iload_n (pc := 10) dX6_copyIn_10 rfl ?_
  refine ab_copyG (pc := 11) hw hb (by omega) (by omega) (by omega) (by omega) (by omega) (by omega) w854 w381 w380 w20 (by decide) (Nat.le_of_ble_eq_true rfl) dX6_copyIn_11 (fun h e9 n9 => ?_)
  replace ho := (n9 _ (ab_ne ho hb (by first | (simp; done) | (simp; omega)))).trans ho
  replace hc := (n9 _ (ab_ne hc hb (by first | (simp; done) | (simp; omega)))).trans hc
  replace hw := (n9 _ (ab_ne hw hb (by first | (simp; done) | (simp; omega)))).trans hw
  replace kp := kp.wr hb (cP_no (by simp)) n9
  replace hb := e9
  clear e9 n9
  refine ab_aload_n (pc := 14) dX6_copyIn_14 rfl ?_
  refine ab_get (pc := 15) (k := 2) okX6 ho rfl w249 rfl dX6_copyIn_15 ?_
  refine ab_iload_n (pc := 18) dX6_copyIn_18 rfl ?_
  refine ab_iload_n (pc := 19) dX6_copyIn_19 rfl ?_
  refine ab_iastG (pc := 20) hc (by omega) (by omega) (by omega) dX6_copyIn_20 (fun h e9 n9 => ?_)
  replace ho := (n9 _ (ab_ne ho hc (by first | (simp; done) | (simp; omega)))).trans ho
  replace hb := (n9 _ (ab_ne hb hc (by first | (simp; done) | (simp; omega)))).trans hb
  replace hw := (n9 _ (ab_ne hw hc (by first | (simp; done) | (simp; omega)))).trans hw
  replace kp := kp.wr hc (cP_no (by simp)) n9
  replace hc := e9
  clear e9 n9
  refine ab_vret (pc := 21) dX6_copyIn_21 rfl ?_
  have e9 : ab_cpy f g 0 (k * 80) n = fil g (80 * k) n f := by funext j; unfold ab_cpy fil; rw [show k * 80 = 80 * k by omega, Int.zero_add]
  rw [e9] at hb
  exact ⟨_, rfl, kp, rfl, hb, hc⟩
theorem c_readInto_28 {a b c i9 : Nat} {wd : Int} {g z : Int → Int} {k n : Int} {w : Nat} (i16 : i9 < 16) (k0 : 0 ≤ k) (k1 : k < 10) (zb : z k ≤ 80) (n0 : 0 ≤ n) (n6 : n ≤ 60) (hz : n = z k ∨ (n = 0 ∧ z k = -1))   (fu : Nat) : ∀ (i : Int) (f : Int → Int) (h : AbH), (n - i).toNat < fu → h a = some (kO (100 + 3 * i9) 5 [vI wd, vR b, vR c]) → h b = some (kI (101 + 3 * i9) 800 (g)) → h c = some (kI (102 + 3 * i9) 10 (z)) → h w = some (kI 10 60 f) → ab_kp (cP [10]) h0 h → (0 ≤ i) → (i ≤ n) → (∀ j : Int, 0 ≤ j → j < i → f j = g (80 * k + j)) → (∀ j : Int, 0 ≤ j → j < i → 0 ≤ g (80 * k + j) ∧ g (80 * k + j) ≤ 7) → ab_T l E Y_X6_readInto 1 0 0 28 [some (vR a), some (vI k), some (vR w), some (vI n), some (vI i)] [] h (cC h0 [10] (fun r h' => ∃ v : Int, r = some (vI v) ∧ rdW (z k) (fun j => g (80 * k + j)) v ∧ ∃ f' : Int → Int, h' w = some (kI 10 60 f') ∧ ∀ j : Int, 0 ≤ j → j < v → f' j = g (80 * k + j))) := by
  induction fu with
  | zero => intro i f h hm; exact absurd hm (Nat.not_lt_zero _)
  | succ fu ih =>
    intro i f h hm ho hb hc hw kp i0 i1 I I2
    refine ab_iload (pc := 28) dX6_readInto_28 rfl ?_
    refine ab_iload_n (pc := 30) dX6_readInto_30 rfl ?_
    refine ab_icmp_ge (pc := 31) 74 dX6_readInto_31 (by decide) (fun c31 => ?_) (fun c31 => ?_)
    · refine ab_iload_n (pc := 74) dX6_readInto_74 rfl ?_
      refine ab_iret (pc := 75) dX6_readInto_75 rfl ?_
      exact ⟨_, rfl, kp, _, rfl, Or.inr ⟨n0, n6, hz, fun j j0 j1 => I2 j j0 (by omega)⟩, _, hw, fun j j0 j1 => I j j0 (by omega)⟩
    · refine ab_aload_n (pc := 34) dX6_readInto_34 rfl ?_
      refine ab_iload (pc := 35) dX6_readInto_35 rfl ?_
      refine ab_aload_n (pc := 37) dX6_readInto_37 rfl ?_
      refine ab_get (pc := 38) (k := 1) okX6 ho rfl w248 rfl dX6_readInto_38 ?_
      refine ab_iload_n (pc := 41) dX6_readInto_41 rfl ?_
      refine ab_bipush (pc := 42) dX6_readInto_42 (by decide) ?_
      refine ab_imul (pc := 44) dX6_readInto_44 (by omega) (by omega) ?_
      refine ab_iload (pc := 45) dX6_readInto_45 rfl ?_
      refine ab_iadd (pc := 47) dX6_readInto_47 (by omega) (by omega) ?_
      refine ab_iald (pc := 48) hb (by omega) (by omega) dX6_readInto_48 ?_
      refine ab_iastG (pc := 49) hw (by decide) (by omega) (by omega) dX6_readInto_49 (fun h e9 n9 => ?_)
      replace ho := (n9 _ (ab_ne ho hw (by first | (simp; done) | (simp; omega)))).trans ho
      replace hb := (n9 _ (ab_ne hb hw (by first | (simp; done) | (simp; omega)))).trans hb
      replace hc := (n9 _ (ab_ne hc hw (by first | (simp; done) | (simp; omega)))).trans hc
      replace kp := kp.wr hw (cP_no (by simp)) n9
      replace hw := e9
      clear e9 n9
      rw [show k * 80 = 80 * k by omega] at hw
      refine ab_aload_n (pc := 50) dX6_readInto_50 rfl ?_
      refine ab_iload (pc := 51) dX6_readInto_51 rfl ?_
      refine ab_iald (pc := 53) hw (by omega) (by omega) dX6_readInto_53 ?_
      refine ab_if_lt (pc := 54) 66 dX6_readInto_54 (by decide) (fun c54 => ?_) (fun c54 => ?_)
      · rw [ab_f_eq rfl] at c54
        refine ab_iconst (pc := 66) dX6_readInto_66 (by decide) ?_
        refine ab_iret (pc := 67) dX6_readInto_67 rfl ?_
        exact ⟨_, rfl, kp, _, rfl, Or.inl ⟨rfl, Or.inr ⟨i, i0, by omega, by show ¬ (0 ≤ g (80 * k + i) ∧ g (80 * k + i) ≤ 7); omega⟩⟩, _, hw, fun j j0 j1 => absurd j1 (by omega)⟩
      · rw [ab_f_eq rfl] at c54
        refine ab_aload_n (pc := 57) dX6_readInto_57 rfl ?_
        refine ab_iload (pc := 58) dX6_readInto_58 rfl ?_
        refine ab_iald (pc := 60) hw (by omega) (by omega) dX6_readInto_60 ?_
        refine ab_bipush (pc := 61) dX6_readInto_61 (by decide) ?_
        refine ab_icmp_lt (pc := 63) 68 dX6_readInto_63 (by decide) (fun c63 => ?_) (fun c63 => ?_)
        · rw [ab_f_eq rfl] at c63
          refine ab_iinc (pc := 68) dX6_readInto_68 rfl rfl (by decide) (by omega) (by omega) ?_
          refine ab_goto (pc := 71) 28 dX6_readInto_71 (by decide) ?_
          refine ih (i + 1) _ _ (by omega) ho hb hc hw kp (by omega) (by omega) (upto_E (g := fun j => g (80 * k + j)) I rfl) (fun j j0 j1 => ?_)
          by_cases e : j = i
          · rw [e]; omega
          · exact I2 j j0 (by omega)
        · rw [ab_f_eq rfl] at c63
          refine ab_iconst (pc := 66) dX6_readInto_66 (by decide) ?_
          refine ab_iret (pc := 67) dX6_readInto_67 rfl ?_
          exact ⟨_, rfl, kp, _, rfl, Or.inl ⟨rfl, Or.inr ⟨i, i0, by omega, by show ¬ (0 ≤ g (80 * k + i) ∧ g (80 * k + i) ≤ 7); omega⟩⟩, _, hw, fun j j0 j1 => absurd j1 (by omega)⟩
theorem c_readInto (hG : ab_G l E) {a b c i9 : Nat} {wd : Int} {g z : Int → Int} {k : Int} {w : Nat} {f : Int → Int} (ho : h0 a = some (kO (100 + 3 * i9) 5 [vI wd, vR b, vR c])) (hb : h0 b = some (kI (101 + 3 * i9) 800 (g))) (hc : h0 c = some (kI (102 + 3 * i9) 10 (z))) (hw : h0 w = some (kI 10 60 f)) (i16 : i9 < 16) (k0 : 0 ≤ k) (k1 : k < 10) (zb : z k ≤ 80) (zm : -1 ≤ z k) : ab_M l E Y_X6_readInto 5 1 0 0 [vR a, vI k, vR w] h0 (cC h0 [10] (fun r h' => ∃ v : Int, r = some (vI v) ∧ rdW (z k) (fun j => g (80 * k + j)) v ∧ ∃ f' : Int → Int, h' w = some (kI 10 60 f') ∧ ∀ j : Int, 0 ≤ j → j < v → f' j = g (80 * k + j))) := by
  refine ab_M.of (L0 := [some (vR a), some (vI k), some (vR w), none, none]) hG rfl rfl (Nat.le_of_ble_eq_true rfl) rfl ?_
  have kp : ab_kp (cP [10]) h0 h0 := ab_kp0
  refine ab_aload_n (pc := 0) dX6_readInto_0 rfl ?_
  refine ab_get (pc := 1) (k := 2) okX6 ho rfl w249 rfl dX6_readInto_1 ?_
  refine ab_iload_n (pc := 4) dX6_readInto_4 rfl ?_
  refine ab_iald (pc := 5) hc (by omega) (by omega) dX6_readInto_5 ?_
  refine ab_iconst (pc := 6) dX6_readInto_6 (by decide) ?_
  refine ab_callS (pc := 7) (c_max hG) ⟨w609, w19, w360, by decide, pd18⟩ w359 rfl (by decide) (by decide) (Nat.le_of_ble_eq_true rfl) rfl dX6_readInto_7 (fun _ _ hx => absurd hx pC_no) ?_
  rintro _ _ ⟨mv, e9, rfl, hmv⟩
  cases e9
  refine ab_istore_n (pc := 10) dX6_readInto_10 rfl (Nat.le_of_ble_eq_true rfl) ?_
  refine ab_iload_n (pc := 11) dX6_readInto_11 rfl ?_
  refine ab_bipush (pc := 12) dX6_readInto_12 (by decide) ?_
  refine ab_icmp_gt (pc := 14) 23 dX6_readInto_14 (by decide) (fun c14 => ?_) (fun c14 => ?_)
  · refine ab_iconst (pc := 23) dX6_readInto_23 (by decide) ?_
    refine ab_iret (pc := 24) dX6_readInto_24 rfl ?_
    exact ⟨_, rfl, kp, _, rfl, Or.inl ⟨rfl, Or.inl (by omega)⟩, _, hw, fun j j0 j1 => absurd j1 (by omega)⟩
  · refine ab_iload_n (pc := 17) dX6_readInto_17 rfl ?_
    refine ab_aload_n (pc := 18) dX6_readInto_18 rfl ?_
    refine ab_alen (pc := 19) hw dX6_readInto_19 ?_
    refine ab_icmp_le (pc := 20) 25 dX6_readInto_20 (by decide) (fun c20 => ?_) (fun c20 => ?_)
    · refine ab_iconst (pc := 25) dX6_readInto_25 (by decide) ?_
      refine ab_istore (pc := 26) dX6_readInto_26 rfl (Nat.le_of_ble_eq_true rfl) ?_
      exact c_readInto_28 i16 k0 k1 zb (by omega) (by omega) (by omega) _ 0 f _ (Nat.lt_succ_self _) ho hb hc hw kp (by omega) (by omega) (fun j j0 j1 => absurd j1 (by omega)) (fun j j0 j1 => absurd j1 (by omega))
    · refine ab_iconst (pc := 23) dX6_readInto_23 (by decide) ?_
      refine ab_iret (pc := 24) dX6_readInto_24 rfl ?_
      exact ⟨_, rfl, kp, _, rfl, Or.inl ⟨rfl, Or.inl (by omega)⟩, _, hw, fun j j0 j1 => absurd j1 (by omega)⟩
theorem c_newSheet (hG : ab_G l E) {a : Nat} (i9 : Nat) {w9 : Int} (ho : h0 a = some (kO (100 + 3 * i9) 5 [vI 0, vN, vN])) (i16 : i9 < 16) : ab_M l E Y_X6_init 2 1 2 810 [vR a, vI w9] h0 (cC h0 [100 + 3 * i9, 102 + 3 * i9] (fun r h' => r = none ∧ ∃ b c : Nat, h' a = some (kO (100 + 3 * i9) 5 [vI w9, vR b, vR c]) ∧ h' b = some (kI (101 + 3 * i9) 800 (fun _ => 0)) ∧ ∃ z : Int → Int, h' c = some (kI (102 + 3 * i9) 10 z) ∧ ∀ k : Int, 0 ≤ k → k < 10 → z k = -1)) := by
  refine ab_M.of (L0 := [some (vR a), some (vI w9)]) hG rfl rfl (Nat.le_of_ble_eq_true rfl) rfl ?_
  have kp : ab_kp (cP [100 + 3 * i9, 102 + 3 * i9]) h0 h0 := ab_kp0
  refine ab_aload_n (pc := 0) dX6_init_0 rfl ?_
  refine ab_obj (pc := 1) w243 w37 w38 (by decide) (Nat.le_of_ble_eq_true rfl) dX6_init_1 ?_
  refine ab_aload_n (pc := 4) dX6_init_4 rfl ?_
  refine ab_sipush (pc := 5) dX6_init_5 (by decide) ?_
  refine ab_newIG (pc := 8) (101 + 3 * i9) (800) rfl (by decide) dX6_init_8 w111 (fun a_hb h z9 e9 n9 => ?_)
  replace ho := (n9 _ (ab_nn ho z9)).trans ho
  replace kp := kp.new z9 n9
  have hb := e9
  clear e9 n9
  refine ab_putG (pc := 10) (k := 1) okX6 ho (by omega) (by decide) trivial w248 rfl (Or.inr ⟨rfl, rfl, rfl⟩) dX6_init_10 (fun h e9 n9 => ?_)
  replace hb := (n9 _ (ab_ne hb ho (by first | (simp; done) | (simp; omega)))).trans hb
  replace kp := kp.wr ho (cP_no (by simp)) n9
  replace ho := e9
  clear e9 n9
  refine ab_aload_n (pc := 13) dX6_init_13 rfl ?_
  refine ab_bipush (pc := 14) dX6_init_14 (by decide) ?_
  refine ab_newIG (pc := 16) (102 + 3 * i9) (10) rfl (by decide) dX6_init_16 w111 (fun a_hc h z9 e9 n9 => ?_)
  replace ho := (n9 _ (ab_nn ho z9)).trans ho
  replace hb := (n9 _ (ab_nn hb z9)).trans hb
  replace kp := kp.new z9 n9
  have hc := e9
  clear e9 n9
  refine ab_putG (pc := 18) (k := 2) okX6 ho (by omega) (by decide) trivial w249 rfl (Or.inr ⟨rfl, rfl, rfl⟩) dX6_init_18 (fun h e9 n9 => ?_)
  replace hb := (n9 _ (ab_ne hb ho (by first | (simp; done) | (simp; omega)))).trans hb
  replace hc := (n9 _ (ab_ne hc ho (by first | (simp; done) | (simp; omega)))).trans hc
  replace kp := kp.wr ho (cP_no (by simp)) n9
  replace ho := e9
  clear e9 n9
  refine ab_aload_n (pc := 21) dX6_init_21 rfl ?_
  refine ab_iload_n (pc := 22) dX6_init_22 rfl ?_
  refine ab_putG (pc := 23) (k := 0) okX6 ho (by omega) (by decide) trivial w247 rfl (Or.inr ⟨rfl, rfl, rfl⟩) dX6_init_23 (fun h e9 n9 => ?_)
  replace hb := (n9 _ (ab_ne hb ho (by first | (simp; done) | (simp; omega)))).trans hb
  replace hc := (n9 _ (ab_ne hc ho (by first | (simp; done) | (simp; omega)))).trans hc
  replace kp := kp.wr ho (cP_no (by simp)) n9
  replace ho := e9
  clear e9 n9
  refine ab_aload_n (pc := 26) dX6_init_26 rfl ?_
  refine ab_get (pc := 27) (k := 2) okX6 ho rfl w249 rfl dX6_init_27 ?_
  refine ab_iconst (pc := 30) dX6_init_30 (by decide) ?_
  refine ab_callS (pc := 31) (c_fill1 hG (by omega) (by decide) hc) ⟨w244, w12, w246, by decide, pd6⟩ w245 rfl (by decide) (by decide) (Nat.le_of_ble_eq_true rfl) rfl dX6_init_31 (fun _ _ hx => absurd hx cC_no) ?_
  rintro _ h ⟨_, e9, kq, rfl, hc9⟩
  cases e9
  replace ho := kq _ _ ho (by unfold cP; first | (simp; done) | (simp; omega))
  replace hb := kq _ _ hb (by unfold cP; first | (simp; done) | (simp; omega))
  replace kp := kp.cal kq (by first | (simp; done) | (simp; omega))
  replace hc := hc9
  refine ab_vret (pc := 34) dX6_init_34 rfl ?_
  exact ⟨_, rfl, kp, rfl, _, _, ho, hb, _, hc, fun k k0 k1 => fil_in (by omega) (by show k < 0 + (10 : Int); omega)⟩
end C2
