/-! the class: library rows, sheets -/
section C1
variable {l : Launch} {E : AbE} {h0 : AbH}
theorem c_max (hG : ab_G l E) {a b : Int}  : ab_M l E Y_J9_max_7cf53 2 0 0 0 [vI a, vI b] h0 (pC h0 (fun v => (v = a ∧ b ≤ a) ∨ (v = b ∧ a < b))) := by
  refine ab_M.ofF (L0 := [some (vI a), some (vI b)]) hG (by decide +kernel) rfl (Nat.le_of_ble_eq_true rfl) rfl ?_
  refine ab_iload_n (pc := 0) dJ9_max_7cf53_0 rfl ?_
  refine ab_iload_n (pc := 1) dJ9_max_7cf53_1 rfl ?_
  refine ab_icmp_lt (pc := 2) 9 dJ9_max_7cf53_2 (by decide) (fun c2 => ?_) (fun c2 => ?_)
  · refine ab_iload_n (pc := 9) dJ9_max_7cf53_9 rfl ?_
    refine ab_iret (pc := 10) dJ9_max_7cf53_10 rfl ?_
    exact ⟨_, rfl, rfl, by omega⟩
  · refine ab_iload_n (pc := 5) dJ9_max_7cf53_5 rfl ?_
    refine ab_goto (pc := 6) 10 dJ9_max_7cf53_6 (by decide) ?_
    refine ab_iret (pc := 10) dJ9_max_7cf53_10 rfl ?_
    exact ⟨_, rfl, rfl, by omega⟩
theorem c_min (hG : ab_G l E) {a b : Int}  : ab_M l E Y_J9_min_7cf53 2 0 0 0 [vI a, vI b] h0 (pC h0 (fun v => (v = a ∧ a ≤ b) ∨ (v = b ∧ b < a))) := by
  refine ab_M.ofF (L0 := [some (vI a), some (vI b)]) hG (by decide +kernel) rfl (Nat.le_of_ble_eq_true rfl) rfl ?_
  refine ab_iload_n (pc := 0) dJ9_min_7cf53_0 rfl ?_
  refine ab_iload_n (pc := 1) dJ9_min_7cf53_1 rfl ?_
  refine ab_icmp_gt (pc := 2) 9 dJ9_min_7cf53_2 (by decide) (fun c2 => ?_) (fun c2 => ?_)
  · refine ab_iload_n (pc := 9) dJ9_min_7cf53_9 rfl ?_
    refine ab_iret (pc := 10) dJ9_min_7cf53_10 rfl ?_
    exact ⟨_, rfl, rfl, by omega⟩
  · refine ab_iload_n (pc := 5) dJ9_min_7cf53_5 rfl ?_
    refine ab_goto (pc := 6) 10 dJ9_min_7cf53_6 (by decide) ?_
    refine ab_iret (pc := 10) dJ9_min_7cf53_10 rfl ?_
    exact ⟨_, rfl, rfl, by omega⟩
theorem c_rangeCheck (hG : ab_G l E) {n a b : Int}  (h1 : a ≤ b) (h2 : 0 ≤ a) (h3 : b ≤ n) : ab_M l E Y_J7_rangeCheck_23922 3 0 0 0 [vI n, vI a, vI b] h0 (pV h0) := by
  refine ab_M.of (L0 := [some (vI n), some (vI a), some (vI b)]) hG rfl rfl (Nat.le_of_ble_eq_true rfl) rfl ?_
  refine ab_iload_n (pc := 0) dJ7_rangeCheck_23922_0 rfl ?_
  refine ab_iload_n (pc := 1) dJ7_rangeCheck_23922_1 rfl ?_
  refine ab_icmp_le (pc := 2) 46 dJ7_rangeCheck_23922_2 (by decide) (fun c2 => ?_) (fun c2 => absurd c2 (by omega))
  refine ab_iload_n (pc := 46) dJ7_rangeCheck_23922_46 rfl ?_
  refine ab_if_ge (pc := 47) 59 dJ7_rangeCheck_23922_47 (by decide) (fun c47 => ?_) (fun c47 => absurd c47 (by omega))
  refine ab_iload_n (pc := 59) dJ7_rangeCheck_23922_59 rfl ?_
  refine ab_iload_n (pc := 60) dJ7_rangeCheck_23922_60 rfl ?_
  refine ab_icmp_le (pc := 61) 73 dJ7_rangeCheck_23922_61 (by decide) (fun c61 => ?_) (fun c61 => absurd c61 (by omega))
  refine ab_vret (pc := 73) dJ7_rangeCheck_23922_73 rfl ?_
  exact ⟨rfl, rfl⟩
theorem c_fill3_10 {w g N : Nat} {f : Int → Int} {a b x : Int} {d : Nat} (m2 : 2 ≤ g) (h1 : a ≤ b) (h2 : 0 ≤ a) (h3 : b ≤ N) (hN : N < 100000)   (fu : Nat) : ∀ (i : Int) (h : AbH), (b - a - i).toNat < fu → h w = some (kI g N (fil f a i (fun _ => x))) → ab_kp (cP [g]) h0 h → (0 ≤ i) → (i ≤ b - a) → ab_T l E Y_J7_fill_fda19 d 0 0 10 [some (vR w), some (vI a), some (vI b), some (vI x), some (vI (a + i))] [] h (cC h0 [g] (fun r h' => r = none ∧ h' w = some (kI g N (fil f a (b - a) (fun _ => x))))) := by
  induction fu with
  | zero => intro i h hm; exact absurd hm (Nat.not_lt_zero _)
  | succ fu ih =>
    intro i h hm hw kp i0 i1
    refine ab_iload (pc := 10) dJ7_fill_fda19_10 rfl ?_
    refine ab_iload_n (pc := 12) dJ7_fill_fda19_12 rfl ?_
    refine ab_icmp_ge (pc := 13) 27 dJ7_fill_fda19_13 (by decide) (fun c13 => ?_) (fun c13 => ?_)
    · refine ab_vret (pc := 27) dJ7_fill_fda19_27 rfl ?_
      obtain rfl : i = b - a := by omega
      exact ⟨_, rfl, kp, rfl, hw⟩
    · refine ab_aload_n (pc := 16) dJ7_fill_fda19_16 rfl ?_
      refine ab_iload (pc := 17) dJ7_fill_fda19_17 rfl ?_
      refine ab_iload_n (pc := 19) dJ7_fill_fda19_19 rfl ?_
      refine ab_iastG (pc := 20) hw m2 (by omega) (by omega) dJ7_fill_fda19_20 (fun h e9 n9 => ?_)
      replace kp := kp.wr hw (cP_no (by simp)) n9
      replace hw := e9
      clear e9 n9
      have e8 := hw
      refine ab_iinc (pc := 21) dJ7_fill_fda19_21 rfl rfl (by decide) (by omega) (by omega) ?_
      refine ab_goto (pc := 24) 10 dJ7_fill_fda19_24 (by decide) ?_
      have g9 := ih (i + 1) _ (by omega) (e8.trans (by rw [fil_step i0 rfl])) kp (by omega) (by omega)
      rw [show a + (i + 1) = a + i + 1 by omega] at g9
      exact g9
theorem c_fill3 (hG : ab_G l E) {w g N : Nat} {f : Int → Int} {a b x : Int} (m2 : 2 ≤ g) (h1 : a ≤ b) (h2 : 0 ≤ a) (h3 : b ≤ N) (hN : N < 100000) (hw : h0 w = some (kI g N f)) : ab_M l E Y_J7_fill_fda19 5 1 0 0 [vR w, vI a, vI b, vI x] h0 (cC h0 [g] (fun r h' => r = none ∧ h' w = some (kI g N (fil f a (b - a) (fun _ => x))))) := by
  refine ab_M.of (L0 := [some (vR w), some (vI a), some (vI b), some (vI x), none]) hG rfl rfl (Nat.le_of_ble_eq_true rfl) rfl ?_
  have kp : ab_kp (cP [g]) h0 h0 := ab_kp0
  refine ab_aload_n (pc := 0) dJ7_fill_fda19_0 rfl ?_
  refine ab_alen (pc := 1) hw dJ7_fill_fda19_1 ?_
  refine ab_iload_n (pc := 2) dJ7_fill_fda19_2 rfl ?_
  refine ab_iload_n (pc := 3) dJ7_fill_fda19_3 rfl ?_
  refine ab_callS (pc := 4) (c_rangeCheck hG (by omega) (by omega) (by omega)) ⟨w300, w12, w302, by decide, pd13⟩ w301 rfl (by decide) (by decide) (Nat.le_of_ble_eq_true rfl) rfl dJ7_fill_fda19_4 (fun _ _ hx => absurd hx pV_no) ?_
  rintro _ _ ⟨e9, rfl⟩
  cases e9
  refine ab_iload_n (pc := 7) dJ7_fill_fda19_7 rfl ?_
  refine ab_istore (pc := 8) dJ7_fill_fda19_8 rfl (Nat.le_of_ble_eq_true rfl) ?_
  have g9 := c_fill3_10 (l := l) (E := E) (f := f) (a := a) (b := b) (x := x) (d := 1) m2 h1 h2 h3 hN _ 0 _ (Nat.lt_succ_self _) (hw.trans (by rw [← fil0])) kp (by omega) (by omega)
  rw [Int.add_zero] at g9
  exact g9
theorem c_fill1_5 {w g N : Nat} {f : Int → Int} {x : Int} {d : Nat} (m2 : 2 ≤ g) (hN : N < 100000)   (fu : Nat) : ∀ (i : Int) (h : AbH), (N - i).toNat < fu → h w = some (kI g N (fil f 0 i (fun _ => x))) → ab_kp (cP [g]) h0 h → (0 ≤ i) → (i ≤ N) → ab_T l E Y_J7_fill_53178 d 0 0 5 [some (vR w), some (vI x), some (vI i), some (vI (N : Int))] [] h (cC h0 [g] (fun r h' => r = none ∧ h' w = some (kI g N (fil f 0 N (fun _ => x))))) := by
  induction fu with
  | zero => intro i h hm; exact absurd hm (Nat.not_lt_zero _)
  | succ fu ih =>
    intro i h hm hw kp i0 i1
    refine ab_iload_n (pc := 5) dJ7_fill_53178_5 rfl ?_
    refine ab_iload_n (pc := 6) dJ7_fill_53178_6 rfl ?_
    refine ab_icmp_ge (pc := 7) 20 dJ7_fill_53178_7 (by decide) (fun c7 => ?_) (fun c7 => ?_)
    · refine ab_vret (pc := 20) dJ7_fill_53178_20 rfl ?_
      obtain rfl : i = N := by omega
      exact ⟨_, rfl, kp, rfl, hw⟩
    · refine ab_aload_n (pc := 10) dJ7_fill_53178_10 rfl ?_
      refine ab_iload_n (pc := 11) dJ7_fill_53178_11 rfl ?_
      refine ab_iload_n (pc := 12) dJ7_fill_53178_12 rfl ?_
      refine ab_iastG (pc := 13) hw m2 (by omega) (by omega) dJ7_fill_53178_13 (fun h e9 n9 => ?_)
      replace kp := kp.wr hw (cP_no (by simp)) n9
      replace hw := e9
      clear e9 n9
      have e8 := hw
      refine ab_iinc (pc := 14) dJ7_fill_53178_14 rfl rfl (by decide) (by omega) (by omega) ?_
      refine ab_goto (pc := 17) 5 dJ7_fill_53178_17 (by decide) ?_
      refine ih (i + 1) _ (by omega) (e8.trans (by rw [← fil_step i0 rfl, Int.zero_add])) kp (by omega) (by omega)
theorem c_fill1 (hG : ab_G l E) {w g N : Nat} {f : Int → Int} {x : Int} (m2 : 2 ≤ g) (hN : N < 100000) (hw : h0 w = some (kI g N f)) : ab_M l E Y_J7_fill_53178 4 0 0 0 [vR w, vI x] h0 (cC h0 [g] (fun r h' => r = none ∧ h' w = some (kI g N (fil f 0 N (fun _ => x))))) := by
  refine ab_M.of (L0 := [some (vR w), some (vI x), none, none]) hG rfl rfl (Nat.le_of_ble_eq_true rfl) rfl ?_
  have kp : ab_kp (cP [g]) h0 h0 := ab_kp0
  refine ab_iconst (pc := 0) dJ7_fill_53178_0 (by decide) ?_
  refine ab_istore_n (pc := 1) dJ7_fill_53178_1 rfl (Nat.le_of_ble_eq_true rfl) ?_
  refine ab_aload_n (pc := 2) dJ7_fill_53178_2 rfl ?_
  refine ab_alen (pc := 3) hw dJ7_fill_53178_3 ?_
  refine ab_istore_n (pc := 4) dJ7_fill_53178_4 rfl (Nat.le_of_ble_eq_true rfl) ?_
  exact c_fill1_5 (f := f) m2 hN _ 0 _ (Nat.lt_succ_self _) (hw.trans (by rw [← fil0])) kp (by omega) (by omega)
end C1
