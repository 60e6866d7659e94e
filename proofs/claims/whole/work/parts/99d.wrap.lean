/-! the law: calls that may throw -/
section W1
variable {l : Launch} {E : AbE} {h0 : AbH}
/-- the number of what is thrown -/
def cdf (a b : String) : String → Int := fun X => if X = a then 1 else if X = b then 2 else 0
theorem cdf1 {a b : String} : cdf a b a = 1 := if_pos rfl
theorem cdf2 {a b : String} (h : b ≠ a) : cdf a b b = 2 := (if_neg h).trans (if_pos rfl)
/-- a call of the class's method, its answer in out -/
def wQ (o : Nat) (g : Int → Int) (cd : String → Int) (Qc : AbO → AbH → Prop) : AbO → AbH → Prop := fun oc h' => (∃ (r : Int) (h1 : AbH), Qc (.inl (some (vI r))) h1 ∧ oc = .inl (some (vI 0)) ∧ h' o = some (kJ 12 1 (ab_f g 0 r)) ∧ ∀ q, q ≠ o → h' q = h1 q) ∨ (∃ X : String, Qc (.inr X) h' ∧ oc = .inl (some (vI (cd X))))
theorem wQ_no {o : Nat} {g : Int → Int} {cd : String → Int} {Qc : AbO → AbH → Prop} {X : String} {h' : AbH} : ¬ wQ o g cd Qc (.inr X) h' := by
  rintro (⟨_, _, _, e, _⟩ | ⟨_, _, e⟩) <;> cases e
/-- what a call of the class comes to -/
def oQ (o : Nat) (g : Int → Int) (a b : String) (Qc : AbO → AbH → Prop) : Prop := ∀ oc h1, Qc oc h1 → h1 o = some (kJ 12 1 g) ∧ ((∃ r : Int, oc = .inl (some (vI r))) ∨ oc = .inr a ∨ oc = .inr b)
theorem W_sheet (hG : ab_G l E) {x o : Nat} {p0 : Int} {fs : List AbV} {g : Int → Int} {d2 kc2 ks2 : Nat} {Qc : AbO → AbH → Prop} (hx : h0 x = some (kO 2 8 fs)) (hM : ab_M l E Y_X9_sheet 2 d2 kc2 ks2 [vR x, vI p0] h0 Qc) (hq : oQ o g "java/lang/IllegalArgumentException" "java/lang/IllegalStateException" Qc) : ab_MW l E Y_L_sheet 4 (d2 + 1) (0 + kc2) (0 + ks2) [vR x, vI p0, vR o] h0 (wQ o g (cdf "java/lang/IllegalArgumentException" "java/lang/IllegalStateException") Qc) := by
  refine ab_MW.of (L0 := [some (vR x), some (vI p0), some (vR o), none]) hG rfl (Nat.le_of_ble_eq_true rfl) rfl (fun _ _ => wQ_no) ?_
  refine ab_aload_n (pc := 0) dL_sheet_0 rfl ?_
  refine ab_iconst (pc := 1) dL_sheet_1 (by decide) ?_
  refine ab_aload_n (pc := 2) dL_sheet_2 rfl ?_
  refine ab_iload_n (pc := 3) dL_sheet_3 rfl ?_
  refine ab_callVX (pc := 4) hM hx rfl ⟨w149, w1, w152, by decide, pd2⟩ w150 w151 rfl (Nat.le_refl _) (by decide) (Nat.le_of_ble_eq_true rfl) dL_sheet_4 (fun Xn h9 hQ => ?_) (fun r9 h9 hQ => ?_)
  · obtain ⟨ho, hc⟩ := hq _ _ hQ
    rcases hc with ⟨r, e⟩ | e | e
    · cases e
    · cases e
      refine ⟨[], (0, 9, 12, 13), [(0, 9, 15, 15)], rfl, (fun z hz => by cases hz), by decide, by decide, w147, w155, fun q9 => ?_⟩
      refine ab_astore_n (pc := 12) dL_sheet_12 rfl (Nat.le_of_ble_eq_true rfl) ?_
      refine ab_iconst (pc := 13) dL_sheet_13 (by decide) ?_
      refine ab_iret (pc := 14) dL_sheet_14 rfl ?_
      exact Or.inr ⟨_, hQ, by rw [cdf1]⟩
    · cases e
      refine ⟨[(0, 9, 12, 13)], (0, 9, 15, 15), [], rfl, (fun z hz => by rw [List.mem_singleton.mp hz]; exact ⟨by decide, "java/lang/IllegalArgumentException", w147, by decide +kernel⟩), by decide, by decide, w148, w225, fun q9 => ?_⟩
      refine ab_astore_n (pc := 15) dL_sheet_15 rfl (Nat.le_of_ble_eq_true rfl) ?_
      refine ab_iconst (pc := 16) dL_sheet_16 (by decide) ?_
      refine ab_iret (pc := 17) dL_sheet_17 rfl ?_
      exact Or.inr ⟨_, hQ, by rw [cdf2 (by decide)]⟩
  · obtain ⟨ho, hc⟩ := hq _ _ hQ
    rcases hc with ⟨r, e⟩ | e | e
    rotate_left
    · cases e
    · cases e
    cases e
    refine ab_i2l (pc := 7) dL_sheet_7 ?_
    refine ab_lastG (pc := 8) ho (by decide) (by omega) (by omega) dL_sheet_8 (fun h e9 n9 => ?_)
    refine ab_goto (pc := 9) 18 dL_sheet_9 (by decide) ?_
    refine ab_iconst (pc := 18) dL_sheet_18 (by decide) ?_
    refine ab_iret (pc := 19) dL_sheet_19 rfl ?_
    exact Or.inl ⟨r, _, hQ, rfl, e9, n9⟩
theorem W_row (hG : ab_G l E) {x o : Nat} {p0 p1 p2 : Int} {fs : List AbV} {g : Int → Int} {d2 kc2 ks2 : Nat} {Qc : AbO → AbH → Prop} (hx : h0 x = some (kO 2 8 fs)) (hM : ab_M l E Y_X9_row 5 d2 kc2 ks2 [vR x, vI p0, vI p1, vI p2] h0 Qc) (hq : oQ o g "java/lang/IndexOutOfBoundsException" "java/lang/IndexOutOfBoundsException" Qc) : ab_MW l E Y_L_row 6 (d2 + 1) (0 + kc2) (0 + ks2) [vR x, vI p0, vI p1, vI p2, vR o] h0 (wQ o g (cdf "java/lang/IndexOutOfBoundsException" "java/lang/IndexOutOfBoundsException") Qc) := by
  refine ab_MW.of (L0 := [some (vR x), some (vI p0), some (vI p1), some (vI p2), some (vR o), none]) hG rfl (Nat.le_of_ble_eq_true rfl) rfl (fun _ _ => wQ_no) ?_
  refine ab_aload (pc := 0) dL_row_0 rfl ?_
  refine ab_iconst (pc := 2) dL_row_2 (by decide) ?_
  refine ab_aload_n (pc := 3) dL_row_3 rfl ?_
  refine ab_iload_n (pc := 4) dL_row_4 rfl ?_
  refine ab_iload_n (pc := 5) dL_row_5 rfl ?_
  refine ab_iload_n (pc := 6) dL_row_6 rfl ?_
  refine ab_callVX (pc := 7) hM hx rfl ⟨w261, w1, w264, by decide, pd8⟩ w262 w263 rfl (Nat.le_refl _) (by decide) (Nat.le_of_ble_eq_true rfl) dL_row_7 (fun Xn h9 hQ => ?_) (fun r9 h9 hQ => ?_)
  · obtain ⟨ho, hc⟩ := hq _ _ hQ
    rcases hc with ⟨r, e⟩ | e | e
    · cases e
    · cases e
      refine ⟨[], (0, 12, 15, 21), [], rfl, (fun z hz => by cases hz), by decide, by decide, w260, w275, fun q9 => ?_⟩
      refine ab_astore (pc := 15) dL_row_15 rfl (Nat.le_of_ble_eq_true rfl) ?_
      refine ab_iconst (pc := 17) dL_row_17 (by decide) ?_
      refine ab_iret (pc := 18) dL_row_18 rfl ?_
      exact Or.inr ⟨_, hQ, by rw [cdf1]⟩
    · cases e
      refine ⟨[], (0, 12, 15, 21), [], rfl, (fun z hz => by cases hz), by decide, by decide, w260, w275, fun q9 => ?_⟩
      refine ab_astore (pc := 15) dL_row_15 rfl (Nat.le_of_ble_eq_true rfl) ?_
      refine ab_iconst (pc := 17) dL_row_17 (by decide) ?_
      refine ab_iret (pc := 18) dL_row_18 rfl ?_
      exact Or.inr ⟨_, hQ, by rw [cdf1]⟩
  · obtain ⟨ho, hc⟩ := hq _ _ hQ
    rcases hc with ⟨r, e⟩ | e | e
    rotate_left
    · cases e
    · cases e
    cases e
    refine ab_i2l (pc := 10) dL_row_10 ?_
    refine ab_lastG (pc := 11) ho (by decide) (by omega) (by omega) dL_row_11 (fun h e9 n9 => ?_)
    refine ab_goto (pc := 12) 19 dL_row_12 (by decide) ?_
    refine ab_iconst (pc := 19) dL_row_19 (by decide) ?_
    refine ab_iret (pc := 20) dL_row_20 rfl ?_
    exact Or.inl ⟨r, _, hQ, rfl, e9, n9⟩
theorem W_put (hG : ab_G l E) {x o : Nat} {p0 p1 p2 p3 : Int} {fs : List AbV} {g : Int → Int} {d2 kc2 ks2 : Nat} {Qc : AbO → AbH → Prop} (hx : h0 x = some (kO 2 8 fs)) (hM : ab_M l E Y_X9_put 7 d2 kc2 ks2 [vR x, vI p0, vI p1, vI p2, vI p3] h0 Qc) (hq : oQ o g "java/lang/IndexOutOfBoundsException" "java/lang/IndexOutOfBoundsException" Qc) : ab_MW l E Y_L_put 7 (d2 + 1) (0 + kc2) (0 + ks2) [vR x, vI p0, vI p1, vI p2, vI p3, vR o] h0 (wQ o g (cdf "java/lang/IndexOutOfBoundsException" "java/lang/IndexOutOfBoundsException") Qc) := by
  refine ab_MW.of (L0 := [some (vR x), some (vI p0), some (vI p1), some (vI p2), some (vI p3), some (vR o), none]) hG rfl (Nat.le_of_ble_eq_true rfl) rfl (fun _ _ => wQ_no) ?_
  refine ab_aload (pc := 0) dL_put_0 rfl ?_
  refine ab_iconst (pc := 2) dL_put_2 (by decide) ?_
  refine ab_aload_n (pc := 3) dL_put_3 rfl ?_
  refine ab_iload_n (pc := 4) dL_put_4 rfl ?_
  refine ab_iload_n (pc := 5) dL_put_5 rfl ?_
  refine ab_iload_n (pc := 6) dL_put_6 rfl ?_
  refine ab_iload (pc := 7) dL_put_7 rfl ?_
  refine ab_callVX (pc := 9) hM hx rfl ⟨w571, w1, w574, by decide, pd44⟩ w572 w573 rfl (Nat.le_refl _) (by decide) (Nat.le_of_ble_eq_true rfl) dL_put_9 (fun Xn h9 hQ => ?_) (fun r9 h9 hQ => ?_)
  · obtain ⟨ho, hc⟩ := hq _ _ hQ
    rcases hc with ⟨r, e⟩ | e | e
    · cases e
    · cases e
      refine ⟨[], (0, 14, 17, 21), [], rfl, (fun z hz => by cases hz), by decide, by decide, w260, w275, fun q9 => ?_⟩
      refine ab_astore (pc := 17) dL_put_17 rfl (Nat.le_of_ble_eq_true rfl) ?_
      refine ab_iconst (pc := 19) dL_put_19 (by decide) ?_
      refine ab_iret (pc := 20) dL_put_20 rfl ?_
      exact Or.inr ⟨_, hQ, by rw [cdf1]⟩
    · cases e
      refine ⟨[], (0, 14, 17, 21), [], rfl, (fun z hz => by cases hz), by decide, by decide, w260, w275, fun q9 => ?_⟩
      refine ab_astore (pc := 17) dL_put_17 rfl (Nat.le_of_ble_eq_true rfl) ?_
      refine ab_iconst (pc := 19) dL_put_19 (by decide) ?_
      refine ab_iret (pc := 20) dL_put_20 rfl ?_
      exact Or.inr ⟨_, hQ, by rw [cdf1]⟩
  · obtain ⟨ho, hc⟩ := hq _ _ hQ
    rcases hc with ⟨r, e⟩ | e | e
    rotate_left
    · cases e
    · cases e
    cases e
    refine ab_i2l (pc := 12) dL_put_12 ?_
    refine ab_lastG (pc := 13) ho (by decide) (by omega) (by omega) dL_put_13 (fun h e9 n9 => ?_)
    refine ab_goto (pc := 14) 21 dL_put_14 (by decide) ?_
    refine ab_iconst (pc := 21) dL_put_21 (by decide) ?_
    refine ab_iret (pc := 22) dL_put_22 rfl ?_
    exact Or.inl ⟨r, _, hQ, rfl, e9, n9⟩
theorem W_tear (hG : ab_G l E) {x o : Nat} {p0 p1 : Int} {fs : List AbV} {g : Int → Int} {d2 kc2 ks2 : Nat} {Qc : AbO → AbH → Prop} (hx : h0 x = some (kO 2 8 fs)) (hM : ab_M l E Y_X9_tear 3 d2 kc2 ks2 [vR x, vI p0, vI p1] h0 Qc) (hq : oQ o g "java/lang/IndexOutOfBoundsException" "java/lang/IndexOutOfBoundsException" Qc) : ab_MW l E Y_L_tear 5 (d2 + 1) (0 + kc2) (0 + ks2) [vR x, vI p0, vI p1, vR o] h0 (wQ o g (cdf "java/lang/IndexOutOfBoundsException" "java/lang/IndexOutOfBoundsException") Qc) := by
  refine ab_MW.of (L0 := [some (vR x), some (vI p0), some (vI p1), some (vR o), none]) hG rfl (Nat.le_of_ble_eq_true rfl) rfl (fun _ _ => wQ_no) ?_
  refine ab_aload_n (pc := 0) dL_tear_0 rfl ?_
  refine ab_iconst (pc := 1) dL_tear_1 (by decide) ?_
  refine ab_aload_n (pc := 2) dL_tear_2 rfl ?_
  refine ab_iload_n (pc := 3) dL_tear_3 rfl ?_
  refine ab_iload_n (pc := 4) dL_tear_4 rfl ?_
  refine ab_callVX (pc := 5) hM hx rfl ⟨w586, w1, w589, by decide, pd18⟩ w587 w588 rfl (Nat.le_refl _) (by decide) (Nat.le_of_ble_eq_true rfl) dL_tear_5 (fun Xn h9 hQ => ?_) (fun r9 h9 hQ => ?_)
  · obtain ⟨ho, hc⟩ := hq _ _ hQ
    rcases hc with ⟨r, e⟩ | e | e
    · cases e
    · cases e
      refine ⟨[], (0, 10, 13, 21), [], rfl, (fun z hz => by cases hz), by decide, by decide, w260, w275, fun q9 => ?_⟩
      refine ab_astore (pc := 13) dL_tear_13 rfl (Nat.le_of_ble_eq_true rfl) ?_
      refine ab_iconst (pc := 15) dL_tear_15 (by decide) ?_
      refine ab_iret (pc := 16) dL_tear_16 rfl ?_
      exact Or.inr ⟨_, hQ, by rw [cdf1]⟩
    · cases e
      refine ⟨[], (0, 10, 13, 21), [], rfl, (fun z hz => by cases hz), by decide, by decide, w260, w275, fun q9 => ?_⟩
      refine ab_astore (pc := 13) dL_tear_13 rfl (Nat.le_of_ble_eq_true rfl) ?_
      refine ab_iconst (pc := 15) dL_tear_15 (by decide) ?_
      refine ab_iret (pc := 16) dL_tear_16 rfl ?_
      exact Or.inr ⟨_, hQ, by rw [cdf1]⟩
  · obtain ⟨ho, hc⟩ := hq _ _ hQ
    rcases hc with ⟨r, e⟩ | e | e
    rotate_left
    · cases e
    · cases e
    cases e
    refine ab_i2l (pc := 8) dL_tear_8 ?_
    refine ab_lastG (pc := 9) ho (by decide) (by omega) (by omega) dL_tear_9 (fun h e9 n9 => ?_)
    refine ab_goto (pc := 10) 17 dL_tear_10 (by decide) ?_
    refine ab_iconst (pc := 17) dL_tear_17 (by decide) ?_
    refine ab_iret (pc := 18) dL_tear_18 rfl ?_
    exact Or.inl ⟨r, _, hQ, rfl, e9, n9⟩
theorem W_word (hG : ab_G l E) {x o : Nat} {p0 p1 : Int} {fs : List AbV} {g : Int → Int} {d2 kc2 ks2 : Nat} {Qc : AbO → AbH → Prop} (hx : h0 x = some (kO 2 8 fs)) (hM : ab_M l E Y_X9_word 3 d2 kc2 ks2 [vR x, vI p0, vI p1] h0 Qc) (hq : oQ o g "java/lang/IndexOutOfBoundsException" "java/lang/IndexOutOfBoundsException" Qc) : ab_MW l E Y_L_word 5 (d2 + 1) (0 + kc2) (0 + ks2) [vR x, vI p0, vI p1, vR o] h0 (wQ o g (cdf "java/lang/IndexOutOfBoundsException" "java/lang/IndexOutOfBoundsException") Qc) := by
  refine ab_MW.of (L0 := [some (vR x), some (vI p0), some (vI p1), some (vR o), none]) hG rfl (Nat.le_of_ble_eq_true rfl) rfl (fun _ _ => wQ_no) ?_
  refine ab_aload_n (pc := 0) dL_word_0 rfl ?_
  refine ab_iconst (pc := 1) dL_word_1 (by decide) ?_
  refine ab_aload_n (pc := 2) dL_word_2 rfl ?_
  refine ab_iload_n (pc := 3) dL_word_3 rfl ?_
  refine ab_iload_n (pc := 4) dL_word_4 rfl ?_
  refine ab_callVX (pc := 5) hM hx rfl ⟨w597, w1, w600, by decide, pd18⟩ w598 w599 rfl (Nat.le_refl _) (by decide) (Nat.le_of_ble_eq_true rfl) dL_word_5 (fun Xn h9 hQ => ?_) (fun r9 h9 hQ => ?_)
  · obtain ⟨ho, hc⟩ := hq _ _ hQ
    rcases hc with ⟨r, e⟩ | e | e
    · cases e
    · cases e
      refine ⟨[], (0, 10, 13, 21), [], rfl, (fun z hz => by cases hz), by decide, by decide, w260, w275, fun q9 => ?_⟩
      refine ab_astore (pc := 13) dL_word_13 rfl (Nat.le_of_ble_eq_true rfl) ?_
      refine ab_iconst (pc := 15) dL_word_15 (by decide) ?_
      refine ab_iret (pc := 16) dL_word_16 rfl ?_
      exact Or.inr ⟨_, hQ, by rw [cdf1]⟩
    · cases e
      refine ⟨[], (0, 10, 13, 21), [], rfl, (fun z hz => by cases hz), by decide, by decide, w260, w275, fun q9 => ?_⟩
      refine ab_astore (pc := 13) dL_word_13 rfl (Nat.le_of_ble_eq_true rfl) ?_
      refine ab_iconst (pc := 15) dL_word_15 (by decide) ?_
      refine ab_iret (pc := 16) dL_word_16 rfl ?_
      exact Or.inr ⟨_, hQ, by rw [cdf1]⟩
  · obtain ⟨ho, hc⟩ := hq _ _ hQ
    rcases hc with ⟨r, e⟩ | e | e
    rotate_left
    · cases e
    · cases e
    cases e
    refine ab_i2l (pc := 8) dL_word_8 ?_
    refine ab_lastG (pc := 9) ho (by decide) (by omega) (by omega) dL_word_9 (fun h e9 n9 => ?_)
    refine ab_goto (pc := 10) 17 dL_word_10 (by decide) ?_
    refine ab_iconst (pc := 17) dL_word_17 (by decide) ?_
    refine ab_iret (pc := 18) dL_word_18 rfl ?_
    exact Or.inl ⟨r, _, hQ, rfl, e9, n9⟩
theorem W_letter (hG : ab_G l E) {x o : Nat} {p0 p1 p2 : Int} {fs : List AbV} {g : Int → Int} {d2 kc2 ks2 : Nat} {Qc : AbO → AbH → Prop} (hx : h0 x = some (kO 2 8 fs)) (hM : ab_M l E Y_X9_letter 5 d2 kc2 ks2 [vR x, vI p0, vI p1, vI p2] h0 Qc) (hq : oQ o g "java/lang/IndexOutOfBoundsException" "java/lang/IndexOutOfBoundsException" Qc) : ab_MW l E Y_L_letter 6 (d2 + 1) (0 + kc2) (0 + ks2) [vR x, vI p0, vI p1, vI p2, vR o] h0 (wQ o g (cdf "java/lang/IndexOutOfBoundsException" "java/lang/IndexOutOfBoundsException") Qc) := by
  refine ab_MW.of (L0 := [some (vR x), some (vI p0), some (vI p1), some (vI p2), some (vR o), none]) hG rfl (Nat.le_of_ble_eq_true rfl) rfl (fun _ _ => wQ_no) ?_
  refine ab_aload (pc := 0) dL_letter_0 rfl ?_
  refine ab_iconst (pc := 2) dL_letter_2 (by decide) ?_
  refine ab_aload_n (pc := 3) dL_letter_3 rfl ?_
  refine ab_iload_n (pc := 4) dL_letter_4 rfl ?_
  refine ab_iload_n (pc := 5) dL_letter_5 rfl ?_
  refine ab_iload_n (pc := 6) dL_letter_6 rfl ?_
  refine ab_callVX (pc := 7) hM hx rfl ⟨w613, w1, w616, by decide, pd8⟩ w614 w615 rfl (Nat.le_refl _) (by decide) (Nat.le_of_ble_eq_true rfl) dL_letter_7 (fun Xn h9 hQ => ?_) (fun r9 h9 hQ => ?_)
  · obtain ⟨ho, hc⟩ := hq _ _ hQ
    rcases hc with ⟨r, e⟩ | e | e
    · cases e
    · cases e
      refine ⟨[], (0, 12, 15, 21), [], rfl, (fun z hz => by cases hz), by decide, by decide, w260, w275, fun q9 => ?_⟩
      refine ab_astore (pc := 15) dL_letter_15 rfl (Nat.le_of_ble_eq_true rfl) ?_
      refine ab_iconst (pc := 17) dL_letter_17 (by decide) ?_
      refine ab_iret (pc := 18) dL_letter_18 rfl ?_
      exact Or.inr ⟨_, hQ, by rw [cdf1]⟩
    · cases e
      refine ⟨[], (0, 12, 15, 21), [], rfl, (fun z hz => by cases hz), by decide, by decide, w260, w275, fun q9 => ?_⟩
      refine ab_astore (pc := 15) dL_letter_15 rfl (Nat.le_of_ble_eq_true rfl) ?_
      refine ab_iconst (pc := 17) dL_letter_17 (by decide) ?_
      refine ab_iret (pc := 18) dL_letter_18 rfl ?_
      exact Or.inr ⟨_, hQ, by rw [cdf1]⟩
  · obtain ⟨ho, hc⟩ := hq _ _ hQ
    rcases hc with ⟨r, e⟩ | e | e
    rotate_left
    · cases e
    · cases e
    cases e
    refine ab_i2l (pc := 10) dL_letter_10 ?_
    refine ab_lastG (pc := 11) ho (by decide) (by omega) (by omega) dL_letter_11 (fun h e9 n9 => ?_)
    refine ab_goto (pc := 12) 19 dL_letter_12 (by decide) ?_
    refine ab_iconst (pc := 19) dL_letter_19 (by decide) ?_
    refine ab_iret (pc := 20) dL_letter_20 rfl ?_
    exact Or.inl ⟨r, _, hQ, rfl, e9, n9⟩
theorem W_law (hG : ab_G l E) {x o : Nat} {p0 p1 p2 : Int} {fs : List AbV} {g : Int → Int} {d2 kc2 ks2 : Nat} {Qc : AbO → AbH → Prop} (hx : h0 x = some (kO 2 8 fs)) (hM : ab_M l E Y_X9_law 6 d2 kc2 ks2 [vR x, vI p0, vI p1, vI p2] h0 Qc) (hq : oQ o g "java/lang/IllegalArgumentException" "java/lang/IndexOutOfBoundsException" Qc) : ab_MW l E Y_L_law 6 (d2 + 1) (0 + kc2) (0 + ks2) [vR x, vI p0, vI p1, vI p2, vR o] h0 (wQ o g (cdf "java/lang/IllegalArgumentException" "java/lang/IndexOutOfBoundsException") Qc) := by
  refine ab_MW.of (L0 := [some (vR x), some (vI p0), some (vI p1), some (vI p2), some (vR o), none]) hG rfl (Nat.le_of_ble_eq_true rfl) rfl (fun _ _ => wQ_no) ?_
  refine ab_aload (pc := 0) dL_law_0 rfl ?_
  refine ab_iconst (pc := 2) dL_law_2 (by decide) ?_
  refine ab_aload_n (pc := 3) dL_law_3 rfl ?_
  refine ab_iload_n (pc := 4) dL_law_4 rfl ?_
  refine ab_iload_n (pc := 5) dL_law_5 rfl ?_
  refine ab_iload_n (pc := 6) dL_law_6 rfl ?_
  refine ab_callVX (pc := 7) hM hx rfl ⟨w620, w1, w623, by decide, pd8⟩ w621 w622 rfl (Nat.le_refl _) (by decide) (Nat.le_of_ble_eq_true rfl) dL_law_7 (fun Xn h9 hQ => ?_) (fun r9 h9 hQ => ?_)
  · obtain ⟨ho, hc⟩ := hq _ _ hQ
    rcases hc with ⟨r, e⟩ | e | e
    · cases e
    · cases e
      refine ⟨[], (0, 12, 15, 13), [(0, 12, 19, 21)], rfl, (fun z hz => by cases hz), by decide, by decide, w147, w155, fun q9 => ?_⟩
      refine ab_astore (pc := 15) dL_law_15 rfl (Nat.le_of_ble_eq_true rfl) ?_
      refine ab_iconst (pc := 17) dL_law_17 (by decide) ?_
      refine ab_iret (pc := 18) dL_law_18 rfl ?_
      exact Or.inr ⟨_, hQ, by rw [cdf1]⟩
    · cases e
      refine ⟨[(0, 12, 15, 13)], (0, 12, 19, 21), [], rfl, (fun z hz => by rw [List.mem_singleton.mp hz]; exact ⟨by decide, "java/lang/IllegalArgumentException", w147, by decide +kernel⟩), by decide, by decide, w260, w275, fun q9 => ?_⟩
      refine ab_astore (pc := 19) dL_law_19 rfl (Nat.le_of_ble_eq_true rfl) ?_
      refine ab_iconst (pc := 21) dL_law_21 (by decide) ?_
      refine ab_iret (pc := 22) dL_law_22 rfl ?_
      exact Or.inr ⟨_, hQ, by rw [cdf2 (by decide)]⟩
  · obtain ⟨ho, hc⟩ := hq _ _ hQ
    rcases hc with ⟨r, e⟩ | e | e
    rotate_left
    · cases e
    · cases e
    cases e
    refine ab_i2l (pc := 10) dL_law_10 ?_
    refine ab_lastG (pc := 11) ho (by decide) (by omega) (by omega) dL_law_11 (fun h e9 n9 => ?_)
    refine ab_goto (pc := 12) 23 dL_law_12 (by decide) ?_
    refine ab_iconst (pc := 23) dL_law_23 (by decide) ?_
    refine ab_iret (pc := 24) dL_law_24 rfl ?_
    exact Or.inl ⟨r, _, hQ, rfl, e9, n9⟩
theorem W_power (hG : ab_G l E) {x o : Nat} {p0 p1 p2 : Int} {fs : List AbV} {g : Int → Int} {d2 kc2 ks2 : Nat} {Qc : AbO → AbH → Prop} (hx : h0 x = some (kO 2 8 fs)) (hM : ab_M l E Y_X9_power 6 d2 kc2 ks2 [vR x, vI p0, vI p1, vI p2] h0 Qc) (hq : oQ o g "java/lang/IndexOutOfBoundsException" "java/lang/IllegalArgumentException" Qc) : ab_MW l E Y_L_power 6 (d2 + 1) (0 + kc2) (0 + ks2) [vR x, vI p0, vI p1, vI p2, vR o] h0 (wQ o g (cdf "java/lang/IndexOutOfBoundsException" "java/lang/IllegalArgumentException") Qc) := by
  refine ab_MW.of (L0 := [some (vR x), some (vI p0), some (vI p1), some (vI p2), some (vR o), none]) hG rfl (Nat.le_of_ble_eq_true rfl) rfl (fun _ _ => wQ_no) ?_
  refine ab_aload (pc := 0) dL_power_0 rfl ?_
  refine ab_iconst (pc := 2) dL_power_2 (by decide) ?_
  refine ab_aload_n (pc := 3) dL_power_3 rfl ?_
  refine ab_iload_n (pc := 4) dL_power_4 rfl ?_
  refine ab_iload_n (pc := 5) dL_power_5 rfl ?_
  refine ab_iload_n (pc := 6) dL_power_6 rfl ?_
  refine ab_callVX (pc := 7) hM hx rfl ⟨w705, w1, w708, by decide, pd8⟩ w706 w707 rfl (Nat.le_refl _) (by decide) (Nat.le_of_ble_eq_true rfl) dL_power_7 (fun Xn h9 hQ => ?_) (fun r9 h9 hQ => ?_)
  · obtain ⟨ho, hc⟩ := hq _ _ hQ
    rcases hc with ⟨r, e⟩ | e | e
    · cases e
    · cases e
      refine ⟨[], (0, 12, 15, 21), [(0, 12, 19, 13)], rfl, (fun z hz => by cases hz), by decide, by decide, w260, w275, fun q9 => ?_⟩
      refine ab_astore (pc := 15) dL_power_15 rfl (Nat.le_of_ble_eq_true rfl) ?_
      refine ab_iconst (pc := 17) dL_power_17 (by decide) ?_
      refine ab_iret (pc := 18) dL_power_18 rfl ?_
      exact Or.inr ⟨_, hQ, by rw [cdf1]⟩
    · cases e
      refine ⟨[(0, 12, 15, 21)], (0, 12, 19, 13), [], rfl, (fun z hz => by rw [List.mem_singleton.mp hz]; exact ⟨by decide, "java/lang/IndexOutOfBoundsException", w260, by decide +kernel⟩), by decide, by decide, w147, w155, fun q9 => ?_⟩
      refine ab_astore (pc := 19) dL_power_19 rfl (Nat.le_of_ble_eq_true rfl) ?_
      refine ab_iconst (pc := 21) dL_power_21 (by decide) ?_
      refine ab_iret (pc := 22) dL_power_22 rfl ?_
      exact Or.inr ⟨_, hQ, by rw [cdf2 (by decide)]⟩
  · obtain ⟨ho, hc⟩ := hq _ _ hQ
    rcases hc with ⟨r, e⟩ | e | e
    rotate_left
    · cases e
    · cases e
    cases e
    refine ab_i2l (pc := 10) dL_power_10 ?_
    refine ab_lastG (pc := 11) ho (by decide) (by omega) (by omega) dL_power_11 (fun h e9 n9 => ?_)
    refine ab_goto (pc := 12) 23 dL_power_12 (by decide) ?_
    refine ab_iconst (pc := 23) dL_power_23 (by decide) ?_
    refine ab_iret (pc := 24) dL_power_24 rfl ?_
    exact Or.inl ⟨r, _, hQ, rfl, e9, n9⟩
theorem W_run (hG : ab_G l E) {x o : Nat} {p0 p1 p2 p3 : Int} {fs : List AbV} {g : Int → Int} {d2 kc2 ks2 : Nat} {Qc : AbO → AbH → Prop} (hx : h0 x = some (kO 2 8 fs)) (hM : ab_M l E Y_X9_run 6 d2 kc2 ks2 [vR x, vI p0, vI p1, vI p2, vI p3] h0 Qc) (hq : oQ o g "java/lang/IndexOutOfBoundsException" "java/lang/IllegalArgumentException" Qc) : ab_MW l E Y_L_run 7 (d2 + 1) (0 + kc2) (0 + ks2) [vR x, vI p0, vI p1, vI p2, vI p3, vR o] h0 (wQ o g (cdf "java/lang/IndexOutOfBoundsException" "java/lang/IllegalArgumentException") Qc) := by
  refine ab_MW.of (L0 := [some (vR x), some (vI p0), some (vI p1), some (vI p2), some (vI p3), some (vR o), none]) hG rfl (Nat.le_of_ble_eq_true rfl) rfl (fun _ _ => wQ_no) ?_
  refine ab_aload (pc := 0) dL_run_0 rfl ?_
  refine ab_iconst (pc := 2) dL_run_2 (by decide) ?_
  refine ab_aload_n (pc := 3) dL_run_3 rfl ?_
  refine ab_iload_n (pc := 4) dL_run_4 rfl ?_
  refine ab_iload_n (pc := 5) dL_run_5 rfl ?_
  refine ab_iload_n (pc := 6) dL_run_6 rfl ?_
  refine ab_iload (pc := 7) dL_run_7 rfl ?_
  refine ab_callVX (pc := 9) hM hx rfl ⟨w733, w1, w736, by decide, pd44⟩ w734 w735 rfl (Nat.le_refl _) (by decide) (Nat.le_of_ble_eq_true rfl) dL_run_9 (fun Xn h9 hQ => ?_) (fun r9 h9 hQ => ?_)
  · obtain ⟨ho, hc⟩ := hq _ _ hQ
    rcases hc with ⟨r, e⟩ | e | e
    · cases e
    · cases e
      refine ⟨[], (0, 14, 17, 21), [(0, 14, 21, 13)], rfl, (fun z hz => by cases hz), by decide, by decide, w260, w275, fun q9 => ?_⟩
      refine ab_astore (pc := 17) dL_run_17 rfl (Nat.le_of_ble_eq_true rfl) ?_
      refine ab_iconst (pc := 19) dL_run_19 (by decide) ?_
      refine ab_iret (pc := 20) dL_run_20 rfl ?_
      exact Or.inr ⟨_, hQ, by rw [cdf1]⟩
    · cases e
      refine ⟨[(0, 14, 17, 21)], (0, 14, 21, 13), [], rfl, (fun z hz => by rw [List.mem_singleton.mp hz]; exact ⟨by decide, "java/lang/IndexOutOfBoundsException", w260, by decide +kernel⟩), by decide, by decide, w147, w155, fun q9 => ?_⟩
      refine ab_astore (pc := 21) dL_run_21 rfl (Nat.le_of_ble_eq_true rfl) ?_
      refine ab_iconst (pc := 23) dL_run_23 (by decide) ?_
      refine ab_iret (pc := 24) dL_run_24 rfl ?_
      exact Or.inr ⟨_, hQ, by rw [cdf2 (by decide)]⟩
  · obtain ⟨ho, hc⟩ := hq _ _ hQ
    rcases hc with ⟨r, e⟩ | e | e
    rotate_left
    · cases e
    · cases e
    cases e
    refine ab_i2l (pc := 12) dL_run_12 ?_
    refine ab_lastG (pc := 13) ho (by decide) (by omega) (by omega) dL_run_13 (fun h e9 n9 => ?_)
    refine ab_goto (pc := 14) 25 dL_run_14 (by decide) ?_
    refine ab_iconst (pc := 25) dL_run_25 (by decide) ?_
    refine ab_iret (pc := 26) dL_run_26 rfl ?_
    exact Or.inl ⟨r, _, hQ, rfl, e9, n9⟩
theorem W_clash (hG : ab_G l E) {x o : Nat} {p0 p1 p2 p3 : Int} {fs : List AbV} {g : Int → Int} {d2 kc2 ks2 : Nat} {Qc : AbO → AbH → Prop} (hx : h0 x = some (kO 2 8 fs)) (hM : ab_M l E Y_X9_clash 8 d2 kc2 ks2 [vR x, vI p0, vI p1, vI p2, vI p3] h0 Qc) (hq : oQ o g "java/lang/IndexOutOfBoundsException" "java/lang/IllegalArgumentException" Qc) : ab_MW l E Y_L_clash 7 (d2 + 1) (0 + kc2) (0 + ks2) [vR x, vI p0, vI p1, vI p2, vI p3, vR o] h0 (wQ o g (cdf "java/lang/IndexOutOfBoundsException" "java/lang/IllegalArgumentException") Qc) := by
  refine ab_MW.of (L0 := [some (vR x), some (vI p0), some (vI p1), some (vI p2), some (vI p3), some (vR o), none]) hG rfl (Nat.le_of_ble_eq_true rfl) rfl (fun _ _ => wQ_no) ?_
  refine ab_aload (pc := 0) dL_clash_0 rfl ?_
  refine ab_iconst (pc := 2) dL_clash_2 (by decide) ?_
  refine ab_aload_n (pc := 3) dL_clash_3 rfl ?_
  refine ab_iload_n (pc := 4) dL_clash_4 rfl ?_
  refine ab_iload_n (pc := 5) dL_clash_5 rfl ?_
  refine ab_iload_n (pc := 6) dL_clash_6 rfl ?_
  refine ab_iload (pc := 7) dL_clash_7 rfl ?_
  refine ab_callVX (pc := 9) hM hx rfl ⟨w740, w1, w743, by decide, pd44⟩ w741 w742 rfl (Nat.le_refl _) (by decide) (Nat.le_of_ble_eq_true rfl) dL_clash_9 (fun Xn h9 hQ => ?_) (fun r9 h9 hQ => ?_)
  · obtain ⟨ho, hc⟩ := hq _ _ hQ
    rcases hc with ⟨r, e⟩ | e | e
    · cases e
    · cases e
      refine ⟨[], (0, 14, 17, 21), [(0, 14, 21, 13)], rfl, (fun z hz => by cases hz), by decide, by decide, w260, w275, fun q9 => ?_⟩
      refine ab_astore (pc := 17) dL_clash_17 rfl (Nat.le_of_ble_eq_true rfl) ?_
      refine ab_iconst (pc := 19) dL_clash_19 (by decide) ?_
      refine ab_iret (pc := 20) dL_clash_20 rfl ?_
      exact Or.inr ⟨_, hQ, by rw [cdf1]⟩
    · cases e
      refine ⟨[(0, 14, 17, 21)], (0, 14, 21, 13), [], rfl, (fun z hz => by rw [List.mem_singleton.mp hz]; exact ⟨by decide, "java/lang/IndexOutOfBoundsException", w260, by decide +kernel⟩), by decide, by decide, w147, w155, fun q9 => ?_⟩
      refine ab_astore (pc := 21) dL_clash_21 rfl (Nat.le_of_ble_eq_true rfl) ?_
      refine ab_iconst (pc := 23) dL_clash_23 (by decide) ?_
      refine ab_iret (pc := 24) dL_clash_24 rfl ?_
      exact Or.inr ⟨_, hQ, by rw [cdf2 (by decide)]⟩
  · obtain ⟨ho, hc⟩ := hq _ _ hQ
    rcases hc with ⟨r, e⟩ | e | e
    rotate_left
    · cases e
    · cases e
    cases e
    refine ab_i2l (pc := 12) dL_clash_12 ?_
    refine ab_lastG (pc := 13) ho (by decide) (by omega) (by omega) dL_clash_13 (fun h e9 n9 => ?_)
    refine ab_goto (pc := 14) 25 dL_clash_14 (by decide) ?_
    refine ab_iconst (pc := 25) dL_clash_25 (by decide) ?_
    refine ab_iret (pc := 26) dL_clash_26 rfl ?_
    exact Or.inl ⟨r, _, hQ, rfl, e9, n9⟩
theorem W_many (hG : ab_G l E) {x o : Nat} {p0 p1 p2 : Int} {fs : List AbV} {g : Int → Int} {d2 kc2 ks2 : Nat} {Qc : AbO → AbH → Prop} (hx : h0 x = some (kO 2 8 fs)) (hM : ab_M l E Y_X9_many 4 d2 kc2 ks2 [vR x, vI p0, vI p1, vI p2] h0 Qc) (hq : oQ o g "java/lang/IllegalArgumentException" "java/lang/IllegalArgumentException" Qc) : ab_MW l E Y_L_many 6 (d2 + 1) (0 + kc2) (0 + ks2) [vR x, vI p0, vI p1, vI p2, vR o] h0 (wQ o g (cdf "java/lang/IllegalArgumentException" "java/lang/IllegalArgumentException") Qc) := by
  refine ab_MW.of (L0 := [some (vR x), some (vI p0), some (vI p1), some (vI p2), some (vR o), none]) hG rfl (Nat.le_of_ble_eq_true rfl) rfl (fun _ _ => wQ_no) ?_
  refine ab_aload (pc := 0) dL_many_0 rfl ?_
  refine ab_iconst (pc := 2) dL_many_2 (by decide) ?_
  refine ab_aload_n (pc := 3) dL_many_3 rfl ?_
  refine ab_iload_n (pc := 4) dL_many_4 rfl ?_
  refine ab_iload_n (pc := 5) dL_many_5 rfl ?_
  refine ab_iload_n (pc := 6) dL_many_6 rfl ?_
  refine ab_callVX (pc := 7) hM hx rfl ⟨w797, w1, w800, by decide, pd8⟩ w798 w799 rfl (Nat.le_refl _) (by decide) (Nat.le_of_ble_eq_true rfl) dL_many_7 (fun Xn h9 hQ => ?_) (fun r9 h9 hQ => ?_)
  · obtain ⟨ho, hc⟩ := hq _ _ hQ
    rcases hc with ⟨r, e⟩ | e | e
    · cases e
    · cases e
      refine ⟨[], (0, 12, 15, 13), [], rfl, (fun z hz => by cases hz), by decide, by decide, w147, w155, fun q9 => ?_⟩
      refine ab_astore (pc := 15) dL_many_15 rfl (Nat.le_of_ble_eq_true rfl) ?_
      refine ab_iconst (pc := 17) dL_many_17 (by decide) ?_
      refine ab_iret (pc := 18) dL_many_18 rfl ?_
      exact Or.inr ⟨_, hQ, by rw [cdf1]⟩
    · cases e
      refine ⟨[], (0, 12, 15, 13), [], rfl, (fun z hz => by cases hz), by decide, by decide, w147, w155, fun q9 => ?_⟩
      refine ab_astore (pc := 15) dL_many_15 rfl (Nat.le_of_ble_eq_true rfl) ?_
      refine ab_iconst (pc := 17) dL_many_17 (by decide) ?_
      refine ab_iret (pc := 18) dL_many_18 rfl ?_
      exact Or.inr ⟨_, hQ, by rw [cdf1]⟩
  · obtain ⟨ho, hc⟩ := hq _ _ hQ
    rcases hc with ⟨r, e⟩ | e | e
    rotate_left
    · cases e
    · cases e
    cases e
    refine ab_i2l (pc := 10) dL_many_10 ?_
    refine ab_lastG (pc := 11) ho (by decide) (by omega) (by omega) dL_many_11 (fun h e9 n9 => ?_)
    refine ab_goto (pc := 12) 19 dL_many_12 (by decide) ?_
    refine ab_iconst (pc := 19) dL_many_19 (by decide) ?_
    refine ab_iret (pc := 20) dL_many_20 rfl ?_
    exact Or.inl ⟨r, _, hQ, rfl, e9, n9⟩
theorem W_find (hG : ab_G l E) {x o : Nat} {p0 p1 p2 p3 p4 : Int} {fs : List AbV} {g : Int → Int} {d2 kc2 ks2 : Nat} {Qc : AbO → AbH → Prop} (hx : h0 x = some (kO 2 8 fs)) (hM : ab_M l E Y_X9_find 8 d2 kc2 ks2 [vR x, vI p0, vI p1, vI p2, vI p3, vI p4] h0 Qc) (hq : oQ o g "java/lang/IllegalArgumentException" "java/lang/IndexOutOfBoundsException" Qc) : ab_MW l E Y_L_find 8 (d2 + 1) (0 + kc2) (0 + ks2) [vR x, vI p0, vI p1, vI p2, vI p3, vI p4, vR o] h0 (wQ o g (cdf "java/lang/IllegalArgumentException" "java/lang/IndexOutOfBoundsException") Qc) := by
  refine ab_MW.of (L0 := [some (vR x), some (vI p0), some (vI p1), some (vI p2), some (vI p3), some (vI p4), some (vR o), none]) hG rfl (Nat.le_of_ble_eq_true rfl) rfl (fun _ _ => wQ_no) ?_
  refine ab_aload (pc := 0) dL_find_0 rfl ?_
  refine ab_iconst (pc := 2) dL_find_2 (by decide) ?_
  refine ab_aload_n (pc := 3) dL_find_3 rfl ?_
  refine ab_iload_n (pc := 4) dL_find_4 rfl ?_
  refine ab_iload_n (pc := 5) dL_find_5 rfl ?_
  refine ab_iload_n (pc := 6) dL_find_6 rfl ?_
  refine ab_iload (pc := 7) dL_find_7 rfl ?_
  refine ab_iload (pc := 9) dL_find_9 rfl ?_
  refine ab_callVX (pc := 11) hM hx rfl ⟨w845, w1, w848, by decide, pd60⟩ w846 w847 rfl (Nat.le_refl _) (by decide) (Nat.le_of_ble_eq_true rfl) dL_find_11 (fun Xn h9 hQ => ?_) (fun r9 h9 hQ => ?_)
  · obtain ⟨ho, hc⟩ := hq _ _ hQ
    rcases hc with ⟨r, e⟩ | e | e
    · cases e
    · cases e
      refine ⟨[], (0, 16, 19, 13), [(0, 16, 23, 21)], rfl, (fun z hz => by cases hz), by decide, by decide, w147, w155, fun q9 => ?_⟩
      refine ab_astore (pc := 19) dL_find_19 rfl (Nat.le_of_ble_eq_true rfl) ?_
      refine ab_iconst (pc := 21) dL_find_21 (by decide) ?_
      refine ab_iret (pc := 22) dL_find_22 rfl ?_
      exact Or.inr ⟨_, hQ, by rw [cdf1]⟩
    · cases e
      refine ⟨[(0, 16, 19, 13)], (0, 16, 23, 21), [], rfl, (fun z hz => by rw [List.mem_singleton.mp hz]; exact ⟨by decide, "java/lang/IllegalArgumentException", w147, by decide +kernel⟩), by decide, by decide, w260, w275, fun q9 => ?_⟩
      refine ab_astore (pc := 23) dL_find_23 rfl (Nat.le_of_ble_eq_true rfl) ?_
      refine ab_iconst (pc := 25) dL_find_25 (by decide) ?_
      refine ab_iret (pc := 26) dL_find_26 rfl ?_
      exact Or.inr ⟨_, hQ, by rw [cdf2 (by decide)]⟩
  · obtain ⟨ho, hc⟩ := hq _ _ hQ
    rcases hc with ⟨r, e⟩ | e | e
    rotate_left
    · cases e
    · cases e
    cases e
    refine ab_i2l (pc := 14) dL_find_14 ?_
    refine ab_lastG (pc := 15) ho (by decide) (by omega) (by omega) dL_find_15 (fun h e9 n9 => ?_)
    refine ab_goto (pc := 16) 27 dL_find_16 (by decide) ?_
    refine ab_iconst (pc := 27) dL_find_27 (by decide) ?_
    refine ab_iret (pc := 28) dL_find_28 rfl ?_
    exact Or.inl ⟨r, _, hQ, rfl, e9, n9⟩
theorem W_rank (hG : ab_G l E) {x o : Nat} {p0 p1 p2 p3 : Int} {fs : List AbV} {g : Int → Int} {d2 kc2 ks2 : Nat} {Qc : AbO → AbH → Prop} (hx : h0 x = some (kO 2 8 fs)) (hM : ab_M l E Y_X9_rank 7 d2 kc2 ks2 [vR x, vI p0, vI p1, vI p2, vI p3] h0 Qc) (hq : oQ o g "java/lang/IllegalArgumentException" "java/lang/IndexOutOfBoundsException" Qc) : ab_MW l E Y_L_rank 7 (d2 + 1) (0 + kc2) (0 + ks2) [vR x, vI p0, vI p1, vI p2, vI p3, vR o] h0 (wQ o g (cdf "java/lang/IllegalArgumentException" "java/lang/IndexOutOfBoundsException") Qc) := by
  refine ab_MW.of (L0 := [some (vR x), some (vI p0), some (vI p1), some (vI p2), some (vI p3), some (vR o), none]) hG rfl (Nat.le_of_ble_eq_true rfl) rfl (fun _ _ => wQ_no) ?_
  refine ab_aload (pc := 0) dL_rank_0 rfl ?_
  refine ab_iconst (pc := 2) dL_rank_2 (by decide) ?_
  refine ab_aload_n (pc := 3) dL_rank_3 rfl ?_
  refine ab_iload_n (pc := 4) dL_rank_4 rfl ?_
  refine ab_iload_n (pc := 5) dL_rank_5 rfl ?_
  refine ab_iload_n (pc := 6) dL_rank_6 rfl ?_
  refine ab_iload (pc := 7) dL_rank_7 rfl ?_
  refine ab_callVX (pc := 9) hM hx rfl ⟨w858, w1, w861, by decide, pd44⟩ w859 w860 rfl (Nat.le_refl _) (by decide) (Nat.le_of_ble_eq_true rfl) dL_rank_9 (fun Xn h9 hQ => ?_) (fun r9 h9 hQ => ?_)
  · obtain ⟨ho, hc⟩ := hq _ _ hQ
    rcases hc with ⟨r, e⟩ | e | e
    · cases e
    · cases e
      refine ⟨[], (0, 14, 17, 13), [(0, 14, 21, 21)], rfl, (fun z hz => by cases hz), by decide, by decide, w147, w155, fun q9 => ?_⟩
      refine ab_astore (pc := 17) dL_rank_17 rfl (Nat.le_of_ble_eq_true rfl) ?_
      refine ab_iconst (pc := 19) dL_rank_19 (by decide) ?_
      refine ab_iret (pc := 20) dL_rank_20 rfl ?_
      exact Or.inr ⟨_, hQ, by rw [cdf1]⟩
    · cases e
      refine ⟨[(0, 14, 17, 13)], (0, 14, 21, 21), [], rfl, (fun z hz => by rw [List.mem_singleton.mp hz]; exact ⟨by decide, "java/lang/IllegalArgumentException", w147, by decide +kernel⟩), by decide, by decide, w260, w275, fun q9 => ?_⟩
      refine ab_astore (pc := 21) dL_rank_21 rfl (Nat.le_of_ble_eq_true rfl) ?_
      refine ab_iconst (pc := 23) dL_rank_23 (by decide) ?_
      refine ab_iret (pc := 24) dL_rank_24 rfl ?_
      exact Or.inr ⟨_, hQ, by rw [cdf2 (by decide)]⟩
  · obtain ⟨ho, hc⟩ := hq _ _ hQ
    rcases hc with ⟨r, e⟩ | e | e
    rotate_left
    · cases e
    · cases e
    cases e
    refine ab_i2l (pc := 12) dL_rank_12 ?_
    refine ab_lastG (pc := 13) ho (by decide) (by omega) (by omega) dL_rank_13 (fun h e9 n9 => ?_)
    refine ab_goto (pc := 14) 25 dL_rank_14 (by decide) ?_
    refine ab_iconst (pc := 25) dL_rank_25 (by decide) ?_
    refine ab_iret (pc := 26) dL_rank_26 rfl ?_
    exact Or.inl ⟨r, _, hQ, rfl, e9, n9⟩
theorem W_longest (hG : ab_G l E) {x o : Nat} {p0 p1 : Int} {fs : List AbV} {g : Int → Int} {d2 kc2 ks2 : Nat} {Qc : AbO → AbH → Prop} (hx : h0 x = some (kO 2 8 fs)) (hM : ab_M l E Y_X9_longest 4 d2 kc2 ks2 [vR x, vI p0, vI p1] h0 Qc) (hq : oQ o g "java/lang/IllegalArgumentException" "java/lang/IllegalArgumentException" Qc) : ab_MW l E Y_L_longest 5 (d2 + 1) (0 + kc2) (0 + ks2) [vR x, vI p0, vI p1, vR o] h0 (wQ o g (cdf "java/lang/IllegalArgumentException" "java/lang/IllegalArgumentException") Qc) := by
  refine ab_MW.of (L0 := [some (vR x), some (vI p0), some (vI p1), some (vR o), none]) hG rfl (Nat.le_of_ble_eq_true rfl) rfl (fun _ _ => wQ_no) ?_
  refine ab_aload_n (pc := 0) dL_longest_0 rfl ?_
  refine ab_iconst (pc := 1) dL_longest_1 (by decide) ?_
  refine ab_aload_n (pc := 2) dL_longest_2 rfl ?_
  refine ab_iload_n (pc := 3) dL_longest_3 rfl ?_
  refine ab_iload_n (pc := 4) dL_longest_4 rfl ?_
  refine ab_callVX (pc := 5) hM hx rfl ⟨w869, w1, w872, by decide, pd18⟩ w870 w871 rfl (Nat.le_refl _) (by decide) (Nat.le_of_ble_eq_true rfl) dL_longest_5 (fun Xn h9 hQ => ?_) (fun r9 h9 hQ => ?_)
  · obtain ⟨ho, hc⟩ := hq _ _ hQ
    rcases hc with ⟨r, e⟩ | e | e
    · cases e
    · cases e
      refine ⟨[], (0, 10, 13, 13), [], rfl, (fun z hz => by cases hz), by decide, by decide, w147, w155, fun q9 => ?_⟩
      refine ab_astore (pc := 13) dL_longest_13 rfl (Nat.le_of_ble_eq_true rfl) ?_
      refine ab_iconst (pc := 15) dL_longest_15 (by decide) ?_
      refine ab_iret (pc := 16) dL_longest_16 rfl ?_
      exact Or.inr ⟨_, hQ, by rw [cdf1]⟩
    · cases e
      refine ⟨[], (0, 10, 13, 13), [], rfl, (fun z hz => by cases hz), by decide, by decide, w147, w155, fun q9 => ?_⟩
      refine ab_astore (pc := 13) dL_longest_13 rfl (Nat.le_of_ble_eq_true rfl) ?_
      refine ab_iconst (pc := 15) dL_longest_15 (by decide) ?_
      refine ab_iret (pc := 16) dL_longest_16 rfl ?_
      exact Or.inr ⟨_, hQ, by rw [cdf1]⟩
  · obtain ⟨ho, hc⟩ := hq _ _ hQ
    rcases hc with ⟨r, e⟩ | e | e
    rotate_left
    · cases e
    · cases e
    cases e
    refine ab_i2l (pc := 8) dL_longest_8 ?_
    refine ab_lastG (pc := 9) ho (by decide) (by omega) (by omega) dL_longest_9 (fun h e9 n9 => ?_)
    refine ab_goto (pc := 10) 17 dL_longest_10 (by decide) ?_
    refine ab_iconst (pc := 17) dL_longest_17 (by decide) ?_
    refine ab_iret (pc := 18) dL_longest_18 rfl ?_
    exact Or.inl ⟨r, _, hQ, rfl, e9, n9⟩
theorem W_map (hG : ab_G l E) {x o : Nat} {p0 p1 p2 p3 : Int} {fs : List AbV} {g : Int → Int} {d2 kc2 ks2 : Nat} {Qc : AbO → AbH → Prop} (hx : h0 x = some (kO 2 8 fs)) (hM : ab_M l E Y_X9_map 8 d2 kc2 ks2 [vR x, vI p0, vI p1, vI p2, vI p3] h0 Qc) (hq : oQ o g "java/lang/IllegalArgumentException" "java/lang/IndexOutOfBoundsException" Qc) : ab_MW l E Y_L_map 7 (d2 + 1) (0 + kc2) (0 + ks2) [vR x, vI p0, vI p1, vI p2, vI p3, vR o] h0 (wQ o g (cdf "java/lang/IllegalArgumentException" "java/lang/IndexOutOfBoundsException") Qc) := by
  refine ab_MW.of (L0 := [some (vR x), some (vI p0), some (vI p1), some (vI p2), some (vI p3), some (vR o), none]) hG rfl (Nat.le_of_ble_eq_true rfl) rfl (fun _ _ => wQ_no) ?_
  refine ab_aload (pc := 0) dL_map_0 rfl ?_
  refine ab_iconst (pc := 2) dL_map_2 (by decide) ?_
  refine ab_aload_n (pc := 3) dL_map_3 rfl ?_
  refine ab_iload_n (pc := 4) dL_map_4 rfl ?_
  refine ab_iload_n (pc := 5) dL_map_5 rfl ?_
  refine ab_iload_n (pc := 6) dL_map_6 rfl ?_
  refine ab_iload (pc := 7) dL_map_7 rfl ?_
  refine ab_callVX (pc := 9) hM hx rfl ⟨w876, w1, w879, by decide, pd44⟩ w877 w878 rfl (Nat.le_refl _) (by decide) (Nat.le_of_ble_eq_true rfl) dL_map_9 (fun Xn h9 hQ => ?_) (fun r9 h9 hQ => ?_)
  · obtain ⟨ho, hc⟩ := hq _ _ hQ
    rcases hc with ⟨r, e⟩ | e | e
    · cases e
    · cases e
      refine ⟨[], (0, 14, 17, 13), [(0, 14, 21, 21)], rfl, (fun z hz => by cases hz), by decide, by decide, w147, w155, fun q9 => ?_⟩
      refine ab_astore (pc := 17) dL_map_17 rfl (Nat.le_of_ble_eq_true rfl) ?_
      refine ab_iconst (pc := 19) dL_map_19 (by decide) ?_
      refine ab_iret (pc := 20) dL_map_20 rfl ?_
      exact Or.inr ⟨_, hQ, by rw [cdf1]⟩
    · cases e
      refine ⟨[(0, 14, 17, 13)], (0, 14, 21, 21), [], rfl, (fun z hz => by rw [List.mem_singleton.mp hz]; exact ⟨by decide, "java/lang/IllegalArgumentException", w147, by decide +kernel⟩), by decide, by decide, w260, w275, fun q9 => ?_⟩
      refine ab_astore (pc := 21) dL_map_21 rfl (Nat.le_of_ble_eq_true rfl) ?_
      refine ab_iconst (pc := 23) dL_map_23 (by decide) ?_
      refine ab_iret (pc := 24) dL_map_24 rfl ?_
      exact Or.inr ⟨_, hQ, by rw [cdf2 (by decide)]⟩
  · obtain ⟨ho, hc⟩ := hq _ _ hQ
    rcases hc with ⟨r, e⟩ | e | e
    rotate_left
    · cases e
    · cases e
    cases e
    refine ab_i2l (pc := 12) dL_map_12 ?_
    refine ab_lastG (pc := 13) ho (by decide) (by omega) (by omega) dL_map_13 (fun h e9 n9 => ?_)
    refine ab_goto (pc := 14) 25 dL_map_14 (by decide) ?_
    refine ab_iconst (pc := 25) dL_map_25 (by decide) ?_
    refine ab_iret (pc := 26) dL_map_26 rfl ?_
    exact Or.inl ⟨r, _, hQ, rfl, e9, n9⟩
theorem W_image (hG : ab_G l E) {x o : Nat} {p0 p1 p2 p3 : Int} {fs : List AbV} {g : Int → Int} {d2 kc2 ks2 : Nat} {Qc : AbO → AbH → Prop} (hx : h0 x = some (kO 2 8 fs)) (hM : ab_M l E Y_X9_image 9 d2 kc2 ks2 [vR x, vI p0, vI p1, vI p2, vI p3] h0 Qc) (hq : oQ o g "java/util/NoSuchElementException" "java/lang/IndexOutOfBoundsException" Qc) : ab_MW l E Y_L_image 7 (d2 + 1) (0 + kc2) (0 + ks2) [vR x, vI p0, vI p1, vI p2, vI p3, vR o] h0 (wQ o g (cdf "java/util/NoSuchElementException" "java/lang/IndexOutOfBoundsException") Qc) := by
  refine ab_MW.of (L0 := [some (vR x), some (vI p0), some (vI p1), some (vI p2), some (vI p3), some (vR o), none]) hG rfl (Nat.le_of_ble_eq_true rfl) rfl (fun _ _ => wQ_no) ?_
  refine ab_aload (pc := 0) dL_image_0 rfl ?_
  refine ab_iconst (pc := 2) dL_image_2 (by decide) ?_
  refine ab_aload_n (pc := 3) dL_image_3 rfl ?_
  refine ab_iload_n (pc := 4) dL_image_4 rfl ?_
  refine ab_iload_n (pc := 5) dL_image_5 rfl ?_
  refine ab_iload_n (pc := 6) dL_image_6 rfl ?_
  refine ab_iload (pc := 7) dL_image_7 rfl ?_
  refine ab_callVX (pc := 9) hM hx rfl ⟨w929, w1, w932, by decide, pd44⟩ w930 w931 rfl (Nat.le_refl _) (by decide) (Nat.le_of_ble_eq_true rfl) dL_image_9 (fun Xn h9 hQ => ?_) (fun r9 h9 hQ => ?_)
  · obtain ⟨ho, hc⟩ := hq _ _ hQ
    rcases hc with ⟨r, e⟩ | e | e
    · cases e
    · cases e
      refine ⟨[], (0, 14, 17, 68), [(0, 14, 21, 21)], rfl, (fun z hz => by cases hz), by decide, by decide, w928, w939, fun q9 => ?_⟩
      refine ab_astore (pc := 17) dL_image_17 rfl (Nat.le_of_ble_eq_true rfl) ?_
      refine ab_iconst (pc := 19) dL_image_19 (by decide) ?_
      refine ab_iret (pc := 20) dL_image_20 rfl ?_
      exact Or.inr ⟨_, hQ, by rw [cdf1]⟩
    · cases e
      refine ⟨[(0, 14, 17, 68)], (0, 14, 21, 21), [], rfl, (fun z hz => by rw [List.mem_singleton.mp hz]; exact ⟨by decide, "java/util/NoSuchElementException", w928, by decide +kernel⟩), by decide, by decide, w260, w275, fun q9 => ?_⟩
      refine ab_astore (pc := 21) dL_image_21 rfl (Nat.le_of_ble_eq_true rfl) ?_
      refine ab_iconst (pc := 23) dL_image_23 (by decide) ?_
      refine ab_iret (pc := 24) dL_image_24 rfl ?_
      exact Or.inr ⟨_, hQ, by rw [cdf2 (by decide)]⟩
  · obtain ⟨ho, hc⟩ := hq _ _ hQ
    rcases hc with ⟨r, e⟩ | e | e
    rotate_left
    · cases e
    · cases e
    cases e
    refine ab_i2l (pc := 12) dL_image_12 ?_
    refine ab_lastG (pc := 13) ho (by decide) (by omega) (by omega) dL_image_13 (fun h e9 n9 => ?_)
    refine ab_goto (pc := 14) 25 dL_image_14 (by decide) ?_
    refine ab_iconst (pc := 25) dL_image_25 (by decide) ?_
    refine ab_iret (pc := 26) dL_image_26 rfl ?_
    exact Or.inl ⟨r, _, hQ, rfl, e9, n9⟩
theorem W_keeps (hG : ab_G l E) {x o : Nat} {p0 p1 : Int} {fs : List AbV} {g : Int → Int} {d2 kc2 ks2 : Nat} {Qc : AbO → AbH → Prop} (hx : h0 x = some (kO 2 8 fs)) (hM : ab_M l E Y_X9_keeps 8 d2 kc2 ks2 [vR x, vI p0, vI p1] h0 Qc) (hq : oQ o g "java/util/NoSuchElementException" "java/lang/IndexOutOfBoundsException" Qc) : ab_MW l E Y_L_keeps 5 (d2 + 1) (0 + kc2) (0 + ks2) [vR x, vI p0, vI p1, vR o] h0 (wQ o g (cdf "java/util/NoSuchElementException" "java/lang/IndexOutOfBoundsException") Qc) := by
  refine ab_MW.of (L0 := [some (vR x), some (vI p0), some (vI p1), some (vR o), none]) hG rfl (Nat.le_of_ble_eq_true rfl) rfl (fun _ _ => wQ_no) ?_
  refine ab_aload_n (pc := 0) dL_keeps_0 rfl ?_
  refine ab_iconst (pc := 1) dL_keeps_1 (by decide) ?_
  refine ab_aload_n (pc := 2) dL_keeps_2 rfl ?_
  refine ab_iload_n (pc := 3) dL_keeps_3 rfl ?_
  refine ab_iload_n (pc := 4) dL_keeps_4 rfl ?_
  refine ab_callVX (pc := 5) hM hx rfl ⟨w960, w1, w963, by decide, pd18⟩ w961 w962 rfl (Nat.le_refl _) (by decide) (Nat.le_of_ble_eq_true rfl) dL_keeps_5 (fun Xn h9 hQ => ?_) (fun r9 h9 hQ => ?_)
  · obtain ⟨ho, hc⟩ := hq _ _ hQ
    rcases hc with ⟨r, e⟩ | e | e
    · cases e
    · cases e
      refine ⟨[], (0, 10, 13, 68), [(0, 10, 17, 21)], rfl, (fun z hz => by cases hz), by decide, by decide, w928, w939, fun q9 => ?_⟩
      refine ab_astore (pc := 13) dL_keeps_13 rfl (Nat.le_of_ble_eq_true rfl) ?_
      refine ab_iconst (pc := 15) dL_keeps_15 (by decide) ?_
      refine ab_iret (pc := 16) dL_keeps_16 rfl ?_
      exact Or.inr ⟨_, hQ, by rw [cdf1]⟩
    · cases e
      refine ⟨[(0, 10, 13, 68)], (0, 10, 17, 21), [], rfl, (fun z hz => by rw [List.mem_singleton.mp hz]; exact ⟨by decide, "java/util/NoSuchElementException", w928, by decide +kernel⟩), by decide, by decide, w260, w275, fun q9 => ?_⟩
      refine ab_astore (pc := 17) dL_keeps_17 rfl (Nat.le_of_ble_eq_true rfl) ?_
      refine ab_iconst (pc := 19) dL_keeps_19 (by decide) ?_
      refine ab_iret (pc := 20) dL_keeps_20 rfl ?_
      exact Or.inr ⟨_, hQ, by rw [cdf2 (by decide)]⟩
  · obtain ⟨ho, hc⟩ := hq _ _ hQ
    rcases hc with ⟨r, e⟩ | e | e
    rotate_left
    · cases e
    · cases e
    cases e
    refine ab_i2l (pc := 8) dL_keeps_8 ?_
    refine ab_lastG (pc := 9) ho (by decide) (by omega) (by omega) dL_keeps_9 (fun h e9 n9 => ?_)
    refine ab_goto (pc := 10) 21 dL_keeps_10 (by decide) ?_
    refine ab_iconst (pc := 21) dL_keeps_21 (by decide) ?_
    refine ab_iret (pc := 22) dL_keeps_22 rfl ?_
    exact Or.inl ⟨r, _, hQ, rfl, e9, n9⟩
theorem W_at (hG : ab_G l E) {x o : Nat} {p0 p1 p2 : Int} {fs : List AbV} {g : Int → Int} {d2 kc2 ks2 : Nat} {Qc : AbO → AbH → Prop} (hx : h0 x = some (kO 2 8 fs)) (hM : ab_M l E Y_X9_at 5 d2 kc2 ks2 [vR x, vI p0, vI p1, vI p2] h0 Qc) (hq : oQ o g "java/util/NoSuchElementException" "java/util/NoSuchElementException" Qc) : ab_MW l E Y_L_at 6 (d2 + 1) (0 + kc2) (0 + ks2) [vR x, vI p0, vI p1, vI p2, vR o] h0 (wQ o g (cdf "java/util/NoSuchElementException" "java/util/NoSuchElementException") Qc) := by
  refine ab_MW.of (L0 := [some (vR x), some (vI p0), some (vI p1), some (vI p2), some (vR o), none]) hG rfl (Nat.le_of_ble_eq_true rfl) rfl (fun _ _ => wQ_no) ?_
  refine ab_aload (pc := 0) dL_at_0 rfl ?_
  refine ab_iconst (pc := 2) dL_at_2 (by decide) ?_
  refine ab_aload_n (pc := 3) dL_at_3 rfl ?_
  refine ab_iload_n (pc := 4) dL_at_4 rfl ?_
  refine ab_iload_n (pc := 5) dL_at_5 rfl ?_
  refine ab_iload_n (pc := 6) dL_at_6 rfl ?_
  refine ab_callVX (pc := 7) hM hx rfl ⟨w985, w1, w988, by decide, pd8⟩ w986 w987 rfl (Nat.le_refl _) (by decide) (Nat.le_of_ble_eq_true rfl) dL_at_7 (fun Xn h9 hQ => ?_) (fun r9 h9 hQ => ?_)
  · obtain ⟨ho, hc⟩ := hq _ _ hQ
    rcases hc with ⟨r, e⟩ | e | e
    · cases e
    · cases e
      refine ⟨[], (0, 12, 15, 68), [], rfl, (fun z hz => by cases hz), by decide, by decide, w928, w939, fun q9 => ?_⟩
      refine ab_astore (pc := 15) dL_at_15 rfl (Nat.le_of_ble_eq_true rfl) ?_
      refine ab_iconst (pc := 17) dL_at_17 (by decide) ?_
      refine ab_iret (pc := 18) dL_at_18 rfl ?_
      exact Or.inr ⟨_, hQ, by rw [cdf1]⟩
    · cases e
      refine ⟨[], (0, 12, 15, 68), [], rfl, (fun z hz => by cases hz), by decide, by decide, w928, w939, fun q9 => ?_⟩
      refine ab_astore (pc := 15) dL_at_15 rfl (Nat.le_of_ble_eq_true rfl) ?_
      refine ab_iconst (pc := 17) dL_at_17 (by decide) ?_
      refine ab_iret (pc := 18) dL_at_18 rfl ?_
      exact Or.inr ⟨_, hQ, by rw [cdf1]⟩
  · obtain ⟨ho, hc⟩ := hq _ _ hQ
    rcases hc with ⟨r, e⟩ | e | e
    rotate_left
    · cases e
    · cases e
    cases e
    refine ab_i2l (pc := 10) dL_at_10 ?_
    refine ab_lastG (pc := 11) ho (by decide) (by omega) (by omega) dL_at_11 (fun h e9 n9 => ?_)
    refine ab_goto (pc := 12) 19 dL_at_12 (by decide) ?_
    refine ab_iconst (pc := 19) dL_at_19 (by decide) ?_
    refine ab_iret (pc := 20) dL_at_20 rfl ?_
    exact Or.inl ⟨r, _, hQ, rfl, e9, n9⟩
theorem W_shape (hG : ab_G l E) {x o : Nat} {p0 p1 : Int} {fs : List AbV} {g : Int → Int} {d2 kc2 ks2 : Nat} {Qc : AbO → AbH → Prop} (hx : h0 x = some (kO 2 8 fs)) (hM : ab_M l E Y_X9_shape 3 d2 kc2 ks2 [vR x, vI p0, vI p1] h0 Qc) (hq : oQ o g "java/lang/IndexOutOfBoundsException" "java/lang/IllegalArgumentException" Qc) : ab_MW l E Y_L_shape 5 (d2 + 1) (0 + kc2) (0 + ks2) [vR x, vI p0, vI p1, vR o] h0 (wQ o g (cdf "java/lang/IndexOutOfBoundsException" "java/lang/IllegalArgumentException") Qc) := by
  refine ab_MW.of (L0 := [some (vR x), some (vI p0), some (vI p1), some (vR o), none]) hG rfl (Nat.le_of_ble_eq_true rfl) rfl (fun _ _ => wQ_no) ?_
  refine ab_aload_n (pc := 0) dL_shape_0 rfl ?_
  refine ab_iconst (pc := 1) dL_shape_1 (by decide) ?_
  refine ab_aload_n (pc := 2) dL_shape_2 rfl ?_
  refine ab_iload_n (pc := 3) dL_shape_3 rfl ?_
  refine ab_iload_n (pc := 4) dL_shape_4 rfl ?_
  refine ab_callVX (pc := 5) hM hx rfl ⟨w1000, w1, w1003, by decide, pd18⟩ w1001 w1002 rfl (Nat.le_refl _) (by decide) (Nat.le_of_ble_eq_true rfl) dL_shape_5 (fun Xn h9 hQ => ?_) (fun r9 h9 hQ => ?_)
  · obtain ⟨ho, hc⟩ := hq _ _ hQ
    rcases hc with ⟨r, e⟩ | e | e
    · cases e
    · cases e
      refine ⟨[], (0, 10, 13, 21), [(0, 10, 17, 13)], rfl, (fun z hz => by cases hz), by decide, by decide, w260, w275, fun q9 => ?_⟩
      refine ab_astore (pc := 13) dL_shape_13 rfl (Nat.le_of_ble_eq_true rfl) ?_
      refine ab_iconst (pc := 15) dL_shape_15 (by decide) ?_
      refine ab_iret (pc := 16) dL_shape_16 rfl ?_
      exact Or.inr ⟨_, hQ, by rw [cdf1]⟩
    · cases e
      refine ⟨[(0, 10, 13, 21)], (0, 10, 17, 13), [], rfl, (fun z hz => by rw [List.mem_singleton.mp hz]; exact ⟨by decide, "java/lang/IndexOutOfBoundsException", w260, by decide +kernel⟩), by decide, by decide, w147, w155, fun q9 => ?_⟩
      refine ab_astore (pc := 17) dL_shape_17 rfl (Nat.le_of_ble_eq_true rfl) ?_
      refine ab_iconst (pc := 19) dL_shape_19 (by decide) ?_
      refine ab_iret (pc := 20) dL_shape_20 rfl ?_
      exact Or.inr ⟨_, hQ, by rw [cdf2 (by decide)]⟩
  · obtain ⟨ho, hc⟩ := hq _ _ hQ
    rcases hc with ⟨r, e⟩ | e | e
    rotate_left
    · cases e
    · cases e
    cases e
    refine ab_i2l (pc := 8) dL_shape_8 ?_
    refine ab_lastG (pc := 9) ho (by decide) (by omega) (by omega) dL_shape_9 (fun h e9 n9 => ?_)
    refine ab_goto (pc := 10) 21 dL_shape_10 (by decide) ?_
    refine ab_iconst (pc := 21) dL_shape_21 (by decide) ?_
    refine ab_iret (pc := 22) dL_shape_22 rfl ?_
    exact Or.inl ⟨r, _, hQ, rfl, e9, n9⟩
end W1
