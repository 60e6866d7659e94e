/-! the class: what must be there, else a throw -/
section C13
variable {l : Launch} {E : AbE} {h0 : AbH}
theorem ab_astoO {y : AbY} {d kc ks pc : Nat} {L : List (Option AbV)} {S : List AbV} {h : AbH} {Q : AbO → AbH → Prop} {i : Fin 4} {r : Option Nat} (hd : decode y.2.1 pc = .ok (.astore_n i, 1)) (hn : ab_nl L i = true) (hi : (i : Nat) < L.length) (k : ab_T l E y d kc ks (pc + 1) (L.set i (some (vO r))) S h Q) : ab_T l E y d kc ks pc L (vO r :: S) h Q := by
  cases r with
  | some x => exact ab_astore_n hd hn hi k
  | none =>
    intro p e R s m args below meth c H locs cells slots mc ms ls st X hR hP hl hL hS
    obtain ⟨w, r, rfl, hv, hS⟩ := hS
    cases (show w = .null from hv)
    refine lv_astore_nN X.1 X.2.1 hd rfl (ab_all_has hL.2.1) (by rw [hL.1]; exact hi) rfl fun ls' h' => ?_
    exact k p e R s m args below meth c H locs cells slots mc ms ls' r (by rw [List.length_set]; exact X) hR hP hl (ab_st1 hL hn hi rfl h') hS
theorem ab_aloO {y : AbY} {d kc ks pc : Nat} {L : List (Option AbV)} {S : List AbV} {h : AbH} {Q : AbO → AbH → Prop} {i : Fin 4} {r : Option Nat} (hd : decode y.2.1 pc = .ok (.aload_n i, 1)) (hl9 : L[(i : Nat)]? = some (some (vO r))) (k : ab_T l E y d kc ks (pc + 1) L (vO r :: S) h Q) : ab_T l E y d kc ks pc L S h Q := by
  cases r with
  | some x => exact ab_aload_n hd hl9 k
  | none =>
    intro p e R s m args below meth c H locs cells slots mc ms ls st X hR hP hl hL hS
    obtain ⟨w, hw, hv⟩ := hL.2.2 _ _ hl9
    cases (show w = .null from hv)
    exact lv_aload_nN X.1 X.2.1 hd rfl hw (k p e R s m args below meth c H locs cells slots mc ms ls _ X hR hP hl hL ⟨_, _, rfl, rfl, hS⟩)
/-- nothing changes; it comes back or throws -/
def pT (h0 : AbH) (ok : Prop) (X : String) : AbO → AbH → Prop := fun o h' => h' = h0 ∧ ((o = .inl none ∧ ok) ∨ (o = .inr X ∧ ¬ ok))
/-- nothing changes; it answers or throws -/
def pX (h0 : AbH) (P : AbV → Prop) (X : String) (no : Prop) : AbO → AbH → Prop := fun o h' => h' = h0 ∧ ((∃ v : AbV, o = .inl (some v) ∧ P v) ∨ (o = .inr X ∧ no))
theorem c_needRow (hG : ab_G l E) {k : Int}  : ab_M l E Y_X9_needRow 1 6 1 6 [vI k] h0 (pT h0 (0 ≤ k ∧ k < 10) "java/lang/IndexOutOfBoundsException") := by
  refine ab_M.of (L0 := [some (vI k)]) hG rfl rfl (Nat.le_of_ble_eq_true rfl) rfl ?_
  refine ab_iload_n (pc := 0) dX9_needRow_0 rfl ?_
  refine ab_if_lt (pc := 1) 10 dX9_needRow_1 (by decide) (fun c1 => ?_) (fun c1 => ?_)
  · refine ab_throw (pc := 10) tw_IOB w292 (by decide) (Nat.le_of_ble_eq_true rfl) rfl dX9_needRow_10 dX9_needRow_13 dX9_needRow_14 dX9_needRow_16 dX9_needRow_19 ?_
    exact ⟨rfl, Or.inr ⟨rfl, by omega⟩⟩
  · refine ab_iload_n (pc := 4) dX9_needRow_4 rfl ?_
    refine ab_bipush (pc := 5) dX9_needRow_5 (by decide) ?_
    refine ab_icmp_lt (pc := 7) 20 dX9_needRow_7 (by decide) (fun c7 => ?_) (fun c7 => ?_)
    · refine ab_vret (pc := 20) dX9_needRow_20 rfl ?_
      exact ⟨rfl, Or.inl ⟨rfl, by omega⟩⟩
    · refine ab_throw (pc := 10) tw_IOB w292 (by decide) (Nat.le_of_ble_eq_true rfl) rfl dX9_needRow_10 dX9_needRow_13 dX9_needRow_14 dX9_needRow_16 dX9_needRow_19 ?_
      exact ⟨rfl, Or.inr ⟨rfl, by omega⟩⟩
theorem c_needWhat (hG : ab_G l E) {k n : Int}  : ab_M l E Y_X9_needWhat 2 6 1 6 [vI k, vI n] h0 (pT h0 (0 ≤ k ∧ k ≤ n) "java/lang/IllegalArgumentException") := by
  refine ab_M.of (L0 := [some (vI k), some (vI n)]) hG rfl rfl (Nat.le_of_ble_eq_true rfl) rfl ?_
  refine ab_iload_n (pc := 0) dX9_needWhat_0 rfl ?_
  refine ab_if_lt (pc := 1) 9 dX9_needWhat_1 (by decide) (fun c1 => ?_) (fun c1 => ?_)
  · refine ab_throw (pc := 9) tw_IAE w712 (by decide) (Nat.le_of_ble_eq_true rfl) rfl dX9_needWhat_9 dX9_needWhat_12 dX9_needWhat_13 dX9_needWhat_15 dX9_needWhat_18 ?_
    exact ⟨rfl, Or.inr ⟨rfl, by omega⟩⟩
  · refine ab_iload_n (pc := 4) dX9_needWhat_4 rfl ?_
    refine ab_iload_n (pc := 5) dX9_needWhat_5 rfl ?_
    refine ab_icmp_le (pc := 6) 19 dX9_needWhat_6 (by decide) (fun c6 => ?_) (fun c6 => ?_)
    · refine ab_vret (pc := 19) dX9_needWhat_19 rfl ?_
      exact ⟨rfl, Or.inl ⟨rfl, by omega⟩⟩
    · refine ab_throw (pc := 9) tw_IAE w712 (by decide) (Nat.le_of_ble_eq_true rfl) rfl dX9_needWhat_9 dX9_needWhat_12 dX9_needWhat_13 dX9_needWhat_15 dX9_needWhat_18 ?_
      exact ⟨rfl, Or.inr ⟨rfl, by omega⟩⟩
theorem c_needAl (hG : ab_G l E) {k : Int}  : ab_M l E Y_X9_needAlphabet 1 6 1 6 [vI k] h0 (pT h0 (1 ≤ k ∧ k ≤ 8) "java/lang/IllegalArgumentException") := by
  refine ab_M.of (L0 := [some (vI k)]) hG rfl rfl (Nat.le_of_ble_eq_true rfl) rfl ?_
  refine ab_iload_n (pc := 0) dX9_needAlphabet_0 rfl ?_
  refine ab_iconst (pc := 1) dX9_needAlphabet_1 (by decide) ?_
  refine ab_icmp_lt (pc := 2) 11 dX9_needAlphabet_2 (by decide) (fun c2 => ?_) (fun c2 => ?_)
  · refine ab_throwW (pc := 11) tw_IAE w808 (by decide) (Nat.le_of_ble_eq_true rfl) rfl dX9_needAlphabet_11 dX9_needAlphabet_14 dX9_needAlphabet_15 dX9_needAlphabet_18 dX9_needAlphabet_21 ?_
    exact ⟨rfl, Or.inr ⟨rfl, by omega⟩⟩
  · refine ab_iload_n (pc := 5) dX9_needAlphabet_5 rfl ?_
    refine ab_bipush (pc := 6) dX9_needAlphabet_6 (by decide) ?_
    refine ab_icmp_le (pc := 8) 22 dX9_needAlphabet_8 (by decide) (fun c8 => ?_) (fun c8 => ?_)
    · refine ab_vret (pc := 22) dX9_needAlphabet_22 rfl ?_
      exact ⟨rfl, Or.inl ⟨rfl, by omega⟩⟩
    · refine ab_throwW (pc := 11) tw_IAE w808 (by decide) (Nat.le_of_ble_eq_true rfl) rfl dX9_needAlphabet_11 dX9_needAlphabet_14 dX9_needAlphabet_15 dX9_needAlphabet_18 dX9_needAlphabet_21 ?_
      exact ⟨rfl, Or.inr ⟨rfl, by omega⟩⟩
theorem c_needSet (hG : ab_G l E) {x : Nat} {B : Nat → Nat} {s : Nat → Int} {e : Int} (hx : h0 x = some (kO 2 8 [vR (B 0), vI (s 1), vR (B 2), vI (s 7), vR (B 4), vR (B 5), vR (B 6), vR (B 7), vR (B 8)])) (er : -2147483648 ≤ e ∧ e < 2147483648) (b7 : 0 ≤ s 7) (c7 : s 7 ≤ 12) : ab_M l E Y_X9_needSet 2 6 1 6 [vR x, vI e] h0 (pT h0 (setOk s e) "java/lang/IllegalArgumentException") := by
  refine ab_M.of (L0 := [some (vR x), some (vI e)]) hG rfl rfl (Nat.le_of_ble_eq_true rfl) rfl ?_
  refine ab_iload_n (pc := 0) dX9_needSet_0 rfl ?_
  refine ab_aload_n (pc := 1) dX9_needSet_1 rfl ?_
  refine ab_get (pc := 2) (k := 3) okX9 hx rfl w115 rfl dX9_needSet_2 ?_
  refine ab_iushr (pc := 5) dX9_needSet_5 ?_
  refine ab_if_eq (pc := 6) 19 dX9_needSet_6 (by decide) (fun c6 => ?_) (fun c6 => ?_)
  · rw [ushr_0 er.1 er.2 b7 c7] at c6
    refine ab_vret (pc := 19) dX9_needSet_19 rfl ?_
    exact ⟨rfl, Or.inl ⟨rfl, c6⟩⟩
  · rw [ushr_0 er.1 er.2 b7 c7] at c6
    refine ab_throw (pc := 9) tw_IAE w748 (by decide) (Nat.le_of_ble_eq_true rfl) rfl dX9_needSet_9 dX9_needSet_12 dX9_needSet_13 dX9_needSet_15 dX9_needSet_18 ?_
    exact ⟨rfl, Or.inr ⟨rfl, c6⟩⟩
theorem c_needSearch (hG : ab_G l E) {x : Nat} {B : Nat → Nat} {s : Nat → Int} {e a n : Int} (hx : h0 x = some (kO 2 8 [vR (B 0), vI (s 1), vR (B 2), vI (s 7), vR (B 4), vR (B 5), vR (B 6), vR (B 7), vR (B 8)])) (er : -2147483648 ≤ e ∧ e < 2147483648) (b7 : 0 ≤ s 7) (c7 : s 7 ≤ 12) : ab_M l E Y_X9_needSearch 4 7 3 18 [vR x, vI e, vI a, vI n] h0 (pT h0 (msOk s e a ∧ 0 ≤ n ∧ n ≤ 60) "java/lang/IllegalArgumentException") := by
  refine ab_M.of (L0 := [some (vR x), some (vI e), some (vI a), some (vI n)]) hG rfl rfl (Nat.le_of_ble_eq_true rfl) rfl ?_
  refine ab_aload_n (pc := 0) dX9_needSearch_0 rfl ?_
  refine ab_iload_n (pc := 1) dX9_needSearch_1 rfl ?_
  refine ab_callV (pc := 2) (c_needSet hG hx er b7 c7) hx rfl ⟨w744, w1, w747, by decide, pd5⟩ w746 sp7 rfl (by omega) (by decide) (Nat.le_of_ble_eq_true rfl) rfl dX9_needSearch_2 (fun X9 h9 hx9 => by obtain ⟨rfl, ⟨r9, _⟩ | ⟨r9, n9⟩⟩ := hx9; cases r9; cases r9; exact ⟨rfl, Or.inr ⟨rfl, fun k9 => n9 k9.1.1⟩⟩) ?_
  rintro r9 h9 ⟨rfl, hr9⟩
  rcases hr9 with ⟨r9, ok1⟩ | ⟨r9, _⟩
  rotate_left
  · cases r9
  cases r9
  refine ab_iload_n (pc := 5) dX9_needSearch_5 rfl ?_
  refine ab_callS (pc := 6) (c_needAl hG) ⟨w805, w1, w807, by decide, pd5⟩ w806 rfl (by omega) (by decide) (Nat.le_of_ble_eq_true rfl) rfl dX9_needSearch_6 (fun X9 h9 hx9 => by obtain ⟨rfl, ⟨r9, _⟩ | ⟨r9, n9⟩⟩ := hx9; cases r9; cases r9; exact ⟨rfl, Or.inr ⟨rfl, fun k9 => n9 k9.1.2⟩⟩) ?_
  rintro r9 h9 ⟨rfl, hr9⟩
  rcases hr9 with ⟨r9, ok2⟩ | ⟨r9, _⟩
  rotate_left
  · cases r9
  cases r9
  refine ab_iload_n (pc := 9) dX9_needSearch_9 rfl ?_
  refine ab_if_lt (pc := 10) 19 dX9_needSearch_10 (by decide) (fun c10 => ?_) (fun c10 => ?_)
  · refine ab_throwW (pc := 19) tw_IAE w809 (by decide) (Nat.le_of_ble_eq_true rfl) rfl dX9_needSearch_19 dX9_needSearch_22 dX9_needSearch_23 dX9_needSearch_26 dX9_needSearch_29 ?_
    exact ⟨rfl, Or.inr ⟨rfl, fun k9 => by have := k9.2; omega⟩⟩
  · refine ab_iload_n (pc := 13) dX9_needSearch_13 rfl ?_
    refine ab_bipush (pc := 14) dX9_needSearch_14 (by decide) ?_
    refine ab_icmp_le (pc := 16) 30 dX9_needSearch_16 (by decide) (fun c16 => ?_) (fun c16 => ?_)
    · refine ab_vret (pc := 30) dX9_needSearch_30 rfl ?_
      exact ⟨rfl, Or.inl ⟨rfl, ⟨ok1, ok2⟩, by omega⟩⟩
    · refine ab_throwW (pc := 19) tw_IAE w809 (by decide) (Nat.le_of_ble_eq_true rfl) rfl dX9_needSearch_19 dX9_needSearch_22 dX9_needSearch_23 dX9_needSearch_26 dX9_needSearch_29 ?_
      exact ⟨rfl, Or.inr ⟨rfl, fun k9 => by have := k9.2; omega⟩⟩
theorem c_sheetOf (hG : ab_G l E) {x : Nat} {B : Nat → Nat} {s : Nat → Int} {SS : Int → Option Nat} {i : Int} (hx : h0 x = some (kO 2 8 [vR (B 0), vI (s 1), vR (B 2), vI (s 7), vR (B 4), vR (B 5), vR (B 6), vR (B 7), vR (B 8)])) (hS : h0 (B 0) = some (kA 3 "WordBench$Sheet" 16 SS)) : ab_M l E Y_X9_sheetOf 3 6 1 6 [vR x, vI i] h0 (pX h0 (fun v => ∃ a : Nat, SS i = some a ∧ v = vR a ∧ 0 ≤ i ∧ i < 16) "java/lang/IndexOutOfBoundsException" (¬ (0 ≤ i ∧ i < 16 ∧ SS i ≠ none))) := by
  refine ab_M.of (L0 := [some (vR x), some (vI i), none]) hG rfl rfl (Nat.le_of_ble_eq_true rfl) rfl ?_
  refine ab_iload_n (pc := 0) dX9_sheetOf_0 rfl ?_
  refine ab_if_lt (pc := 1) 22 dX9_sheetOf_1 (by decide) (fun c1 => ?_) (fun c1 => ?_)
  · refine ab_null (pc := 22) dX9_sheetOf_22 ?_
    refine ab_astoO (pc := 23) dX9_sheetOf_23 rfl (Nat.le_of_ble_eq_true rfl) ?_
    refine ab_aloO (pc := 24) dX9_sheetOf_24 rfl ?_
    refine ab_nonnull (pc := 25) 38 dX9_sheetOf_25 (by decide) (fun a9 c9 => by cases c9) (fun c9 => ?_)
    refine ab_throw (pc := 28) tw_IOB w282 (by decide) (Nat.le_of_ble_eq_true rfl) rfl dX9_sheetOf_28 dX9_sheetOf_31 dX9_sheetOf_32 dX9_sheetOf_34 dX9_sheetOf_37 ?_
    first | exact ⟨rfl, Or.inr ⟨rfl, fun k9 => k9.2.2 c25⟩⟩ | exact ⟨rfl, Or.inr ⟨rfl, fun k9 => by have := k9.1; have := k9.2.1; omega⟩⟩
  · refine ab_iload_n (pc := 4) dX9_sheetOf_4 rfl ?_
    refine ab_aload_n (pc := 5) dX9_sheetOf_5 rfl ?_
    refine ab_get (pc := 6) (k := 0) okX9 hx rfl w112 rfl dX9_sheetOf_6 ?_
    refine ab_alenA (pc := 9) hS dX9_sheetOf_9 ?_
    refine ab_icmp_ge (pc := 10) 22 dX9_sheetOf_10 (by decide) (fun c10 => ?_) (fun c10 => ?_)
    · refine ab_null (pc := 22) dX9_sheetOf_22 ?_
      refine ab_astoO (pc := 23) dX9_sheetOf_23 rfl (Nat.le_of_ble_eq_true rfl) ?_
      refine ab_aloO (pc := 24) dX9_sheetOf_24 rfl ?_
      refine ab_nonnull (pc := 25) 38 dX9_sheetOf_25 (by decide) (fun a9 c9 => by cases c9) (fun c9 => ?_)
      refine ab_throw (pc := 28) tw_IOB w282 (by decide) (Nat.le_of_ble_eq_true rfl) rfl dX9_sheetOf_28 dX9_sheetOf_31 dX9_sheetOf_32 dX9_sheetOf_34 dX9_sheetOf_37 ?_
      first | exact ⟨rfl, Or.inr ⟨rfl, fun k9 => k9.2.2 c25⟩⟩ | exact ⟨rfl, Or.inr ⟨rfl, fun k9 => by have := k9.1; have := k9.2.1; omega⟩⟩
    · refine ab_aload_n (pc := 13) dX9_sheetOf_13 rfl ?_
      refine ab_get (pc := 14) (k := 0) okX9 hx rfl w112 rfl dX9_sheetOf_14 ?_
      refine ab_iload_n (pc := 17) dX9_sheetOf_17 rfl ?_
      refine ab_aald (pc := 18) hS (by omega) (by omega) dX9_sheetOf_18 ?_
      refine ab_goto (pc := 19) 23 dX9_sheetOf_19 (by decide) ?_
      refine ab_astoO (pc := 23) dX9_sheetOf_23 rfl (Nat.le_of_ble_eq_true rfl) ?_
      refine ab_aloO (pc := 24) dX9_sheetOf_24 rfl ?_
      refine ab_nonnull (pc := 25) 38 dX9_sheetOf_25 (by decide) (fun a25 c25 => ?_) (fun c25 => ?_)
      · refine ab_aloO (pc := 38) dX9_sheetOf_38 rfl ?_
        rw [c25]
        refine ab_aret (pc := 39) dX9_sheetOf_39 rfl (Or.inl ⟨_, rfl⟩) ?_
        exact ⟨rfl, Or.inl ⟨_, rfl, _, rfl, rfl, by omega, by omega⟩⟩
      · refine ab_throw (pc := 28) tw_IOB w282 (by decide) (Nat.le_of_ble_eq_true rfl) rfl dX9_sheetOf_28 dX9_sheetOf_31 dX9_sheetOf_32 dX9_sheetOf_34 dX9_sheetOf_37 ?_
        first | exact ⟨rfl, Or.inr ⟨rfl, fun k9 => k9.2.2 c25⟩⟩ | exact ⟨rfl, Or.inr ⟨rfl, fun k9 => by have := k9.1; have := k9.2.1; omega⟩⟩
theorem c_sheetRow (hG : ab_G l E) {x : Nat} {B : Nat → Nat} {s : Nat → Int} {SS : Int → Option Nat} {i k : Int} (hx : h0 x = some (kO 2 8 [vR (B 0), vI (s 1), vR (B 2), vI (s 7), vR (B 4), vR (B 5), vR (B 6), vR (B 7), vR (B 8)])) (hS : h0 (B 0) = some (kA 3 "WordBench$Sheet" 16 SS)) : ab_M l E Y_X9_sheetWithRow 4 7 2 12 [vR x, vI i, vI k] h0 (pX h0 (fun v => ∃ a : Nat, SS i = some a ∧ v = vR a ∧ 0 ≤ i ∧ i < 16 ∧ 0 ≤ k ∧ k < 10) "java/lang/IndexOutOfBoundsException" (¬ (0 ≤ i ∧ i < 16 ∧ SS i ≠ none ∧ 0 ≤ k ∧ k < 10))) := by
  refine ab_M.of (L0 := [some (vR x), some (vI i), some (vI k), none]) hG rfl rfl (Nat.le_of_ble_eq_true rfl) rfl ?_
  refine ab_aload_n (pc := 0) dX9_sheetWithRow_0 rfl ?_
  refine ab_iload_n (pc := 1) dX9_sheetWithRow_1 rfl ?_
  refine ab_callV (pc := 2) (c_sheetOf hG hx hS) hx rfl ⟨w269, w1, w272, by decide, pd10⟩ w271 sp2 rfl (by omega) (by decide) (Nat.le_of_ble_eq_true rfl) rfl dX9_sheetWithRow_2 (fun X9 h9 hx9 => by obtain ⟨rfl, ⟨_, r9, _⟩ | ⟨r9, n9⟩⟩ := hx9; cases r9; cases r9; exact ⟨rfl, Or.inr ⟨rfl, fun k9 => n9 ⟨k9.1, k9.2.1, k9.2.2.1⟩⟩⟩) ?_
  rintro r9 h9 ⟨rfl, hr9⟩
  rcases hr9 with ⟨v9, r9, a9, e9, rfl, i0, i1⟩ | ⟨r9, _⟩
  rotate_left
  · cases r9
  cases r9
  refine ab_astore_n (pc := 5) dX9_sheetWithRow_5 rfl (Nat.le_of_ble_eq_true rfl) ?_
  refine ab_iload_n (pc := 6) dX9_sheetWithRow_6 rfl ?_
  refine ab_callS (pc := 7) (c_needRow hG) ⟨w289, w1, w291, by decide, pd5⟩ w290 rfl (by omega) (by decide) (Nat.le_of_ble_eq_true rfl) rfl dX9_sheetWithRow_7 (fun X9 h9 hx9 => by obtain ⟨rfl, ⟨r9, _⟩ | ⟨r9, n9⟩⟩ := hx9; cases r9; cases r9; exact ⟨rfl, Or.inr ⟨rfl, fun k9 => n9 k9.2.2.2⟩⟩) ?_
  rintro r9 h9 ⟨rfl, hr9⟩
  rcases hr9 with ⟨r9, ok9⟩ | ⟨r9, _⟩
  rotate_left
  · cases r9
  cases r9
  refine ab_aload_n (pc := 10) dX9_sheetWithRow_10 rfl ?_
  refine ab_aret (pc := 11) dX9_sheetWithRow_11 rfl (Or.inl ⟨_, rfl⟩) ?_
  exact ⟨rfl, Or.inl ⟨_, rfl, _, e9, rfl, i0, i1, ok9.1, ok9.2⟩⟩
end C13
