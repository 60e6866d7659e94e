/-! what is new: the reference, the class -/
section C29
variable {l : Launch} {E : AbE} {h0 : AbH}
theorem ab_newA2 {y : AbY} {d kc ks pc : Nat} {L : List (Option AbV)} {S : List AbV} {h : AbH} {Q : AbO → AbH → Prop} {n : Int} {ix : Nat} {C : String} (g N : Nat) (hn : n = (N : Int)) (hN : N ≤ 100000) (hd : decode y.2.1 pc = .ok (.anewarray ix, 3)) (hw1 : Cond.classLink y.1.cls ix C ∈ lw_tbl) (hw2 : Cond.arrayOver (.object C) ∈ lw_tbl)
    (K : ∀ a : Nat, h a = none → ab_T l E y d kc ks (pc + 3) L (vR a :: S) (ab_up h a (kA g C N (fun _ => none))) Q) : ab_T l E y d (kc + 1) (ks + N) pc L (vI n :: S) h Q := by
  intro p e R s m args below meth c H locs cells slots mc ms ls st X hR hP hl hL hS
  obtain ⟨hx9, hb, hml, hown, hr, hlk, hnm, htb, hW, ho, hG⟩ := id X
  obtain ⟨_, rst, rfl, ⟨v, rfl, hv⟩, hS⟩ := hS
  have e0 := ab_nat (v := v) (by omega)
  have eN : v.toNatClampNeg = N := by omega
  refine W.anew hx9 hb hown (ab_word hG hw1 rfl hW args) (va_AO.use (va_AO.moved hW.alike (va_AO.of (hG.2.1 _ hw2)))) rfl hd rfl (fun g => by have := Int32.lt_iff_toInt_lt.mp g; rw [Int32.toInt_zero] at this; omega) (by rw [eN]; omega) (by have := hR.2.2.1; omega) (by rw [eN]; have := hR.2.2.2.1; omega) fun cA kA9 comp k1 k2 k3 k4 => ?_
  rw [eN]
  obtain ⟨k', hk', hke⟩ := hW.alike.symm.2.2 _ _ k2
  have hcmp : E.1.vm.findClass C = some comp := by rw [← hW.alike.findClass]; exact k4
  refine K H.size hP.fresh p e R s m args below meth c _ locs _ _ mc ms ls _ X (ab_room hR) (hP.push (c1 := kA g C N (fun _ => none)) ?_ (by simp) (fun q hq => by rw [Array.getElem?_push, if_neg (Nat.ne_of_lt hq)])) hl hL ⟨_, _, rfl, rfl, hS⟩
  have e1 : (H.push ({ cls := cA, slots := Array.replicate N .null, vm := .none } : Cell))[H.size]? = some (arrV cA N (fun _ => .null)) := by rw [← arrV_new]; simp
  have hA9 : E.1.isArrayOf (arrV cA N (fun _ => .null)) (.object C) := ⟨fun q hq => (by cases hq), k', hk', comp, by rw [hke]; exact k3⟩
  exact ⟨ab_blank e1 hA9 hN (fun _ => rfl), _, k', comp, e1, hk', by rw [hke]; exact k3, hcmp⟩
theorem ab_newAG2 {y : AbY} {d kc ks pc : Nat} {L : List (Option AbV)} {S : List AbV} {h : AbH} {Q : AbO → AbH → Prop} {n : Int} {ix : Nat} {C : String} (g N : Nat) (hn : n = (N : Int)) (hN : N ≤ 100000) (hd : decode y.2.1 pc = .ok (.anewarray ix, 3)) (hw1 : Cond.classLink y.1.cls ix C ∈ lw_tbl) (hw2 : Cond.arrayOver (.object C) ∈ lw_tbl)
    (K : ∀ (a : Nat) (h1 : AbH), h a = none → h1 a = some (kA g C N (fun _ => none)) → (∀ q, q ≠ a → h1 q = h q) → ab_T l E y d kc ks (pc + 3) L (vR a :: S) h1 Q) : ab_T l E y d (kc + 1) (ks + N) pc L (vI n :: S) h Q := ab_newA2 g N hn hN hd hw1 hw2 fun a ha => K a _ ha ab_up_eq ab_up_ne
theorem mIs_in : ∀ k : Nat, k < 50 → mIs k = true → k ∈ [2, 3, 4, 5, 8, 9, 10, 11, 12, 13, 14, 15, 16, 17, 18, 30, 34, 36, 37, 38, 39, 42, 43, 44, 45, 47] := by decide
theorem m_init_237 {m : Nat} {a_2 a_3 a_4 a_5 a_8 a_9 a_10 a_11 a_12 a_13 a_14 a_15 a_16 a_17 a_18 a_30 a_34 a_35 a_36 a_37 a_38 a_39 a_41 a_42 a_43 a_44 a_45 a_47 : Nat}   (fu : Nat) : ∀ (i : Int) (f3 : Int → Int) (h : AbH), (160 - i).toNat < fu → h m = some (kO 20 9 [vI 0, vI 0, vR a_2, vR a_3, vR a_4, vR a_5, vI 0, vI 0, vR a_8, vR a_9, vR a_10, vR a_11, vR a_12, vR a_13, vR a_14, vR a_15, vR a_16, vR a_17, vR a_18, vI 0, vI 0, vI 0, vI 0, vI 0, vI 0, vI 0, vI 0, vI 0, vI 0, vI 0, vR a_30, vI 0, vI 0, vI 0, vR a_34, vR a_35, vR a_36, vR a_37, vR a_38, vR a_39, vI 0, vR a_41, vR a_42, vR a_43, vR a_44, vR a_45, vI 0, vR a_47]) → h a_2 = some (kI 32 16 (fun _ => 0)) → h a_3 = some (kI 33 160 f3) → h a_4 = some (kI 34 12800 (fun _ => 0)) → h a_5 = some (kI 35 80 (fun _ => 0)) → h a_8 = some (kI 38 12 (fun _ => 0)) → h a_9 = some (kI 39 12 (fun _ => 0)) → h a_10 = some (kI 40 12 (fun _ => 0)) → h a_11 = some (kI 41 12 (fun _ => 0)) → h a_12 = some (kI 42 960 (fun _ => 0)) → h a_13 = some (kI 43 8 (fun _ => 0)) → h a_14 = some (kI 44 3 (fun _ => 0)) → h a_15 = some (kI 45 3 (fun _ => 0)) → h a_16 = some (kI 46 2000 (fun _ => 0)) → h a_17 = some (kI 47 2000 (fun _ => 0)) → h a_18 = some (kI 48 2000 (fun _ => 0)) → h a_30 = some (kI 60 80 (fun _ => 0)) → h a_34 = some (kI 64 80 (fun _ => 0)) → h a_35 = some (kZ 65 8 (fun _ => 0)) → h a_36 = some (kI 66 8 (fun _ => 0)) → h a_37 = some (kI 67 64 (fun _ => 0)) → h a_38 = some (kI 68 1280 (fun _ => 0)) → h a_39 = some (kI 69 1300 (fun _ => 0)) → h a_41 = some (kJ 71 320 (fun _ => 0)) → h a_42 = some (kI 72 70 (fun _ => 0)) → h a_43 = some (kI 73 10 (fun _ => 0)) → h a_44 = some (kI 74 10 (fun _ => 0)) → h a_45 = some (kI 75 6 (fun _ => 0)) → h a_47 = some (kI 77 8 (fun _ => 0)) → ab_kp (cP [20, 33]) h0 h → (0 ≤ i) → (i ≤ 160) → (∀ j : Int, 0 ≤ j → j < i → f3 j = -1) → ab_T l E Y_X10_init 1 0 0 237 [some (vR m), some (vI i)] [] h (cC h0 [20, 33] (fun r h' => r = none ∧ ∃ (A : Nat → Nat) (F : Nat → Int → Int), mR h' m A (fun _ => 0) F ∧ (∀ j : Int, 0 ≤ j → j < 160 → F 3 j = -1) ∧ ∀ k : Nat, k ≠ 3 → F k = fun _ => 0)) := by
  induction fu with
  | zero => intro i f3 h hms9; exact absurd hms9 (Nat.not_lt_zero _)
  | succ fu ih =>
    intro i f3 h hms9 hO h_2 h_3 h_4 h_5 h_8 h_9 h_10 h_11 h_12 h_13 h_14 h_15 h_16 h_17 h_18 h_30 h_34 h_35 h_36 h_37 h_38 h_39 h_41 h_42 h_43 h_44 h_45 h_47 kp i0 i1 I
    refine ab_iload_n (pc := 237) dX10_init_237 rfl ?_
    refine ab_sipush (pc := 238) dX10_init_238 (by decide) ?_
    refine ab_icmp_ge (pc := 241) 257 dX10_init_241 (by decide) (fun c241 => ?_) (fun c241 => ?_)
    · refine ab_vret (pc := 257) dX10_init_257 rfl ?_
      refine ⟨_, rfl, kp, rfl, (fun k => ([0, 0, a_2, a_3, a_4, a_5, 0, 0, a_8, a_9, a_10, a_11, a_12, a_13, a_14, a_15, a_16, a_17, a_18, 0, 0, 0, 0, 0, 0, 0, 0, 0, 0, 0, a_30, 0, 0, 0, a_34, a_35, a_36, a_37, a_38, a_39, 0, a_41, a_42, a_43, a_44, a_45, 0, a_47] : List Nat).getD k 0), (fun k => if k = 3 then f3 else fun _ => 0), ⟨hO, fun k hk => ?_, h_35, h_41⟩, fun j j0 j1 => ?_, fun k hk => if_neg hk⟩
      · have q := mIs_in k (mIs_lt hk) hk
        simp only [List.mem_cons, List.not_mem_nil, or_false] at q
        rcases q with rfl | rfl | rfl | rfl | rfl | rfl | rfl | rfl | rfl | rfl | rfl | rfl | rfl | rfl | rfl | rfl | rfl | rfl | rfl | rfl | rfl | rfl | rfl | rfl | rfl | rfl
        · exact h_2
        · exact h_3
        · exact h_4
        · exact h_5
        · exact h_8
        · exact h_9
        · exact h_10
        · exact h_11
        · exact h_12
        · exact h_13
        · exact h_14
        · exact h_15
        · exact h_16
        · exact h_17
        · exact h_18
        · exact h_30
        · exact h_34
        · exact h_36
        · exact h_37
        · exact h_38
        · exact h_39
        · exact h_42
        · exact h_43
        · exact h_44
        · exact h_45
        · exact h_47
      · show f3 j = -1
        exact I j j0 (by omega)
    · refine ab_aload_n (pc := 244) dX10_init_244 rfl ?_
      refine ab_get (pc := 245) (k := 3) okX10 hO rfl w1058 rfl dX10_init_245 ?_
      refine ab_iload_n (pc := 248) dX10_init_248 rfl ?_
      refine ab_iconst (pc := 249) dX10_init_249 (by decide) ?_
      refine ab_iastG (pc := 250) h_3 (by decide) (by omega) (by omega) dX10_init_250 (fun h e9 n9 => ?_)
      replace hO := (n9 _ (ab_ne hO h_3 (by first | (simp; done) | (simp; omega)))).trans hO
      replace h_2 := (n9 _ (ab_ne h_2 h_3 (by first | (simp; done) | (simp; omega)))).trans h_2
      replace h_4 := (n9 _ (ab_ne h_4 h_3 (by first | (simp; done) | (simp; omega)))).trans h_4
      replace h_5 := (n9 _ (ab_ne h_5 h_3 (by first | (simp; done) | (simp; omega)))).trans h_5
      replace h_8 := (n9 _ (ab_ne h_8 h_3 (by first | (simp; done) | (simp; omega)))).trans h_8
      replace h_9 := (n9 _ (ab_ne h_9 h_3 (by first | (simp; done) | (simp; omega)))).trans h_9
      replace h_10 := (n9 _ (ab_ne h_10 h_3 (by first | (simp; done) | (simp; omega)))).trans h_10
      replace h_11 := (n9 _ (ab_ne h_11 h_3 (by first | (simp; done) | (simp; omega)))).trans h_11
      replace h_12 := (n9 _ (ab_ne h_12 h_3 (by first | (simp; done) | (simp; omega)))).trans h_12
      replace h_13 := (n9 _ (ab_ne h_13 h_3 (by first | (simp; done) | (simp; omega)))).trans h_13
      replace h_14 := (n9 _ (ab_ne h_14 h_3 (by first | (simp; done) | (simp; omega)))).trans h_14
      replace h_15 := (n9 _ (ab_ne h_15 h_3 (by first | (simp; done) | (simp; omega)))).trans h_15
      replace h_16 := (n9 _ (ab_ne h_16 h_3 (by first | (simp; done) | (simp; omega)))).trans h_16
      replace h_17 := (n9 _ (ab_ne h_17 h_3 (by first | (simp; done) | (simp; omega)))).trans h_17
      replace h_18 := (n9 _ (ab_ne h_18 h_3 (by first | (simp; done) | (simp; omega)))).trans h_18
      replace h_30 := (n9 _ (ab_ne h_30 h_3 (by first | (simp; done) | (simp; omega)))).trans h_30
      replace h_34 := (n9 _ (ab_ne h_34 h_3 (by first | (simp; done) | (simp; omega)))).trans h_34
      replace h_35 := (n9 _ (ab_ne h_35 h_3 (by first | (simp; done) | (simp; omega)))).trans h_35
      replace h_36 := (n9 _ (ab_ne h_36 h_3 (by first | (simp; done) | (simp; omega)))).trans h_36
      replace h_37 := (n9 _ (ab_ne h_37 h_3 (by first | (simp; done) | (simp; omega)))).trans h_37
      replace h_38 := (n9 _ (ab_ne h_38 h_3 (by first | (simp; done) | (simp; omega)))).trans h_38
      replace h_39 := (n9 _ (ab_ne h_39 h_3 (by first | (simp; done) | (simp; omega)))).trans h_39
      replace h_41 := (n9 _ (ab_ne h_41 h_3 (by first | (simp; done) | (simp; omega)))).trans h_41
      replace h_42 := (n9 _ (ab_ne h_42 h_3 (by first | (simp; done) | (simp; omega)))).trans h_42
      replace h_43 := (n9 _ (ab_ne h_43 h_3 (by first | (simp; done) | (simp; omega)))).trans h_43
      replace h_44 := (n9 _ (ab_ne h_44 h_3 (by first | (simp; done) | (simp; omega)))).trans h_44
      replace h_45 := (n9 _ (ab_ne h_45 h_3 (by first | (simp; done) | (simp; omega)))).trans h_45
      replace h_47 := (n9 _ (ab_ne h_47 h_3 (by first | (simp; done) | (simp; omega)))).trans h_47
      replace kp := kp.wr h_3 (cP_no (by simp)) n9
      replace h_3 := e9
      clear e9 n9
      refine ab_iinc (pc := 251) dX10_init_251 rfl rfl (by decide) (by omega) (by omega) ?_
      refine ab_goto (pc := 254) 237 dX10_init_254 (by decide) ?_
      exact ih (i + 1) _ _ (by omega) hO h_2 h_3 h_4 h_5 h_8 h_9 h_10 h_11 h_12 h_13 h_14 h_15 h_16 h_17 h_18 h_30 h_34 h_35 h_36 h_37 h_38 h_39 h_41 h_42 h_43 h_44 h_45 h_47 kp (by omega) (by omega) (upto_P (R := fun _ z => z = -1) I rfl)
theorem m_init_s24 (hG : ab_G l E) {m : Nat} {a_2 a_3 a_4 a_5 a_8 a_9 a_10 a_11 a_12 a_13 a_14 a_15 a_16 a_17 a_18 a_30 a_34 a_35 a_36 a_37 a_38 a_39 a_41 a_42 : Nat} {h : AbH} (hO : h m = some (kO 20 9 [vI 0, vI 0, vR a_2, vR a_3, vR a_4, vR a_5, vI 0, vI 0, vR a_8, vR a_9, vR a_10, vR a_11, vR a_12, vR a_13, vR a_14, vR a_15, vR a_16, vR a_17, vR a_18, vI 0, vI 0, vI 0, vI 0, vI 0, vI 0, vI 0, vI 0, vI 0, vI 0, vI 0, vR a_30, vI 0, vI 0, vI 0, vR a_34, vR a_35, vR a_36, vR a_37, vR a_38, vR a_39, vI 0, vR a_41, vR a_42, vN, vN, vN, vI 0, vN])) (h_2 : h a_2 = some (kI 32 16 (fun _ => 0))) (h_3 : h a_3 = some (kI 33 160 (fun _ => 0))) (h_4 : h a_4 = some (kI 34 12800 (fun _ => 0))) (h_5 : h a_5 = some (kI 35 80 (fun _ => 0))) (h_8 : h a_8 = some (kI 38 12 (fun _ => 0))) (h_9 : h a_9 = some (kI 39 12 (fun _ => 0))) (h_10 : h a_10 = some (kI 40 12 (fun _ => 0))) (h_11 : h a_11 = some (kI 41 12 (fun _ => 0))) (h_12 : h a_12 = some (kI 42 960 (fun _ => 0))) (h_13 : h a_13 = some (kI 43 8 (fun _ => 0))) (h_14 : h a_14 = some (kI 44 3 (fun _ => 0))) (h_15 : h a_15 = some (kI 45 3 (fun _ => 0))) (h_16 : h a_16 = some (kI 46 2000 (fun _ => 0))) (h_17 : h a_17 = some (kI 47 2000 (fun _ => 0))) (h_18 : h a_18 = some (kI 48 2000 (fun _ => 0))) (h_30 : h a_30 = some (kI 60 80 (fun _ => 0))) (h_34 : h a_34 = some (kI 64 80 (fun _ => 0))) (h_35 : h a_35 = some (kZ 65 8 (fun _ => 0))) (h_36 : h a_36 = some (kI 66 8 (fun _ => 0))) (h_37 : h a_37 = some (kI 67 64 (fun _ => 0))) (h_38 : h a_38 = some (kI 68 1280 (fun _ => 0))) (h_39 : h a_39 = some (kI 69 1300 (fun _ => 0))) (h_41 : h a_41 = some (kJ 71 320 (fun _ => 0))) (h_42 : h a_42 = some (kI 72 70 (fun _ => 0))) (kp : ab_kp (cP [20, 33]) h0 h) : ab_T l E Y_X10_init 1 4 34 203 [some (vR m), none] [] h (cC h0 [20, 33] (fun r h' => r = none ∧ ∃ (A : Nat → Nat) (F : Nat → Int → Int), mR h' m A (fun _ => 0) F ∧ (∀ j : Int, 0 ≤ j → j < 160 → F 3 j = -1) ∧ ∀ k : Nat, k ≠ 3 → F k = fun _ => 0)) := by
  refine ab_aload_n (pc := 203) dX10_init_203 rfl ?_
  refine ab_bipush (pc := 204) dX10_init_204 (by decide) ?_
  refine ab_newIG (pc := 206) (73) (10) rfl (by decide) dX10_init_206 w111 (fun a_43 h z9 e9 n9 => ?_)
  replace hO := (n9 _ (ab_nn hO z9)).trans hO
  replace h_2 := (n9 _ (ab_nn h_2 z9)).trans h_2
  replace h_3 := (n9 _ (ab_nn h_3 z9)).trans h_3
  replace h_4 := (n9 _ (ab_nn h_4 z9)).trans h_4
  replace h_5 := (n9 _ (ab_nn h_5 z9)).trans h_5
  replace h_8 := (n9 _ (ab_nn h_8 z9)).trans h_8
  replace h_9 := (n9 _ (ab_nn h_9 z9)).trans h_9
  replace h_10 := (n9 _ (ab_nn h_10 z9)).trans h_10
  replace h_11 := (n9 _ (ab_nn h_11 z9)).trans h_11
  replace h_12 := (n9 _ (ab_nn h_12 z9)).trans h_12
  replace h_13 := (n9 _ (ab_nn h_13 z9)).trans h_13
  replace h_14 := (n9 _ (ab_nn h_14 z9)).trans h_14
  replace h_15 := (n9 _ (ab_nn h_15 z9)).trans h_15
  replace h_16 := (n9 _ (ab_nn h_16 z9)).trans h_16
  replace h_17 := (n9 _ (ab_nn h_17 z9)).trans h_17
  replace h_18 := (n9 _ (ab_nn h_18 z9)).trans h_18
  replace h_30 := (n9 _ (ab_nn h_30 z9)).trans h_30
  replace h_34 := (n9 _ (ab_nn h_34 z9)).trans h_34
  replace h_35 := (n9 _ (ab_nn h_35 z9)).trans h_35
  replace h_36 := (n9 _ (ab_nn h_36 z9)).trans h_36
  replace h_37 := (n9 _ (ab_nn h_37 z9)).trans h_37
  replace h_38 := (n9 _ (ab_nn h_38 z9)).trans h_38
  replace h_39 := (n9 _ (ab_nn h_39 z9)).trans h_39
  replace h_41 := (n9 _ (ab_nn h_41 z9)).trans h_41
  replace h_42 := (n9 _ (ab_nn h_42 z9)).trans h_42
  replace kp := kp.new z9 n9
  have h_43 := e9
  clear e9 n9
  refine ab_putG (pc := 208) (k := 43) okX10 hO (by decide) (by decide) trivial w1098 rfl (Or.inr ⟨rfl, rfl, rfl⟩) dX10_init_208 (fun h e9 n9 => ?_)
  replace h_2 := (n9 _ (ab_ne h_2 hO (by first | (simp; done) | (simp; omega)))).trans h_2
  replace h_3 := (n9 _ (ab_ne h_3 hO (by first | (simp; done) | (simp; omega)))).trans h_3
  replace h_4 := (n9 _ (ab_ne h_4 hO (by first | (simp; done) | (simp; omega)))).trans h_4
  replace h_5 := (n9 _ (ab_ne h_5 hO (by first | (simp; done) | (simp; omega)))).trans h_5
  replace h_8 := (n9 _ (ab_ne h_8 hO (by first | (simp; done) | (simp; omega)))).trans h_8
  replace h_9 := (n9 _ (ab_ne h_9 hO (by first | (simp; done) | (simp; omega)))).trans h_9
  replace h_10 := (n9 _ (ab_ne h_10 hO (by first | (simp; done) | (simp; omega)))).trans h_10
  replace h_11 := (n9 _ (ab_ne h_11 hO (by first | (simp; done) | (simp; omega)))).trans h_11
  replace h_12 := (n9 _ (ab_ne h_12 hO (by first | (simp; done) | (simp; omega)))).trans h_12
  replace h_13 := (n9 _ (ab_ne h_13 hO (by first | (simp; done) | (simp; omega)))).trans h_13
  replace h_14 := (n9 _ (ab_ne h_14 hO (by first | (simp; done) | (simp; omega)))).trans h_14
  replace h_15 := (n9 _ (ab_ne h_15 hO (by first | (simp; done) | (simp; omega)))).trans h_15
  replace h_16 := (n9 _ (ab_ne h_16 hO (by first | (simp; done) | (simp; omega)))).trans h_16
  replace h_17 := (n9 _ (ab_ne h_17 hO (by first | (simp; done) | (simp; omega)))).trans h_17
  replace h_18 := (n9 _ (ab_ne h_18 hO (by first | (simp; done) | (simp; omega)))).trans h_18
  replace h_30 := (n9 _ (ab_ne h_30 hO (by first | (simp; done) | (simp; omega)))).trans h_30
  replace h_34 := (n9 _ (ab_ne h_34 hO (by first | (simp; done) | (simp; omega)))).trans h_34
  replace h_35 := (n9 _ (ab_ne h_35 hO (by first | (simp; done) | (simp; omega)))).trans h_35
  replace h_36 := (n9 _ (ab_ne h_36 hO (by first | (simp; done) | (simp; omega)))).trans h_36
  replace h_37 := (n9 _ (ab_ne h_37 hO (by first | (simp; done) | (simp; omega)))).trans h_37
  replace h_38 := (n9 _ (ab_ne h_38 hO (by first | (simp; done) | (simp; omega)))).trans h_38
  replace h_39 := (n9 _ (ab_ne h_39 hO (by first | (simp; done) | (simp; omega)))).trans h_39
  replace h_41 := (n9 _ (ab_ne h_41 hO (by first | (simp; done) | (simp; omega)))).trans h_41
  replace h_42 := (n9 _ (ab_ne h_42 hO (by first | (simp; done) | (simp; omega)))).trans h_42
  replace h_43 := (n9 _ (ab_ne h_43 hO (by first | (simp; done) | (simp; omega)))).trans h_43
  replace kp := kp.wr hO (cP_no (by simp)) n9
  replace hO := e9
  clear e9 n9
  replace hO : h m = some (kO 20 9 [vI 0, vI 0, vR a_2, vR a_3, vR a_4, vR a_5, vI 0, vI 0, vR a_8, vR a_9, vR a_10, vR a_11, vR a_12, vR a_13, vR a_14, vR a_15, vR a_16, vR a_17, vR a_18, vI 0, vI 0, vI 0, vI 0, vI 0, vI 0, vI 0, vI 0, vI 0, vI 0, vI 0, vR a_30, vI 0, vI 0, vI 0, vR a_34, vR a_35, vR a_36, vR a_37, vR a_38, vR a_39, vI 0, vR a_41, vR a_42, vR a_43, vN, vN, vI 0, vN]) := hO
  refine ab_aload_n (pc := 211) dX10_init_211 rfl ?_
  refine ab_bipush (pc := 212) dX10_init_212 (by decide) ?_
  refine ab_newIG (pc := 214) (74) (10) rfl (by decide) dX10_init_214 w111 (fun a_44 h z9 e9 n9 => ?_)
  replace hO := (n9 _ (ab_nn hO z9)).trans hO
  replace h_2 := (n9 _ (ab_nn h_2 z9)).trans h_2
  replace h_3 := (n9 _ (ab_nn h_3 z9)).trans h_3
  replace h_4 := (n9 _ (ab_nn h_4 z9)).trans h_4
  replace h_5 := (n9 _ (ab_nn h_5 z9)).trans h_5
  replace h_8 := (n9 _ (ab_nn h_8 z9)).trans h_8
  replace h_9 := (n9 _ (ab_nn h_9 z9)).trans h_9
  replace h_10 := (n9 _ (ab_nn h_10 z9)).trans h_10
  replace h_11 := (n9 _ (ab_nn h_11 z9)).trans h_11
  replace h_12 := (n9 _ (ab_nn h_12 z9)).trans h_12
  replace h_13 := (n9 _ (ab_nn h_13 z9)).trans h_13
  replace h_14 := (n9 _ (ab_nn h_14 z9)).trans h_14
  replace h_15 := (n9 _ (ab_nn h_15 z9)).trans h_15
  replace h_16 := (n9 _ (ab_nn h_16 z9)).trans h_16
  replace h_17 := (n9 _ (ab_nn h_17 z9)).trans h_17
  replace h_18 := (n9 _ (ab_nn h_18 z9)).trans h_18
  replace h_30 := (n9 _ (ab_nn h_30 z9)).trans h_30
  replace h_34 := (n9 _ (ab_nn h_34 z9)).trans h_34
  replace h_35 := (n9 _ (ab_nn h_35 z9)).trans h_35
  replace h_36 := (n9 _ (ab_nn h_36 z9)).trans h_36
  replace h_37 := (n9 _ (ab_nn h_37 z9)).trans h_37
  replace h_38 := (n9 _ (ab_nn h_38 z9)).trans h_38
  replace h_39 := (n9 _ (ab_nn h_39 z9)).trans h_39
  replace h_41 := (n9 _ (ab_nn h_41 z9)).trans h_41
  replace h_42 := (n9 _ (ab_nn h_42 z9)).trans h_42
  replace h_43 := (n9 _ (ab_nn h_43 z9)).trans h_43
  replace kp := kp.new z9 n9
  have h_44 := e9
  clear e9 n9
  refine ab_putG (pc := 216) (k := 44) okX10 hO (by decide) (by decide) trivial w1099 rfl (Or.inr ⟨rfl, rfl, rfl⟩) dX10_init_216 (fun h e9 n9 => ?_)
  replace h_2 := (n9 _ (ab_ne h_2 hO (by first | (simp; done) | (simp; omega)))).trans h_2
  replace h_3 := (n9 _ (ab_ne h_3 hO (by first | (simp; done) | (simp; omega)))).trans h_3
  replace h_4 := (n9 _ (ab_ne h_4 hO (by first | (simp; done) | (simp; omega)))).trans h_4
  replace h_5 := (n9 _ (ab_ne h_5 hO (by first | (simp; done) | (simp; omega)))).trans h_5
  replace h_8 := (n9 _ (ab_ne h_8 hO (by first | (simp; done) | (simp; omega)))).trans h_8
  replace h_9 := (n9 _ (ab_ne h_9 hO (by first | (simp; done) | (simp; omega)))).trans h_9
  replace h_10 := (n9 _ (ab_ne h_10 hO (by first | (simp; done) | (simp; omega)))).trans h_10
  replace h_11 := (n9 _ (ab_ne h_11 hO (by first | (simp; done) | (simp; omega)))).trans h_11
  replace h_12 := (n9 _ (ab_ne h_12 hO (by first | (simp; done) | (simp; omega)))).trans h_12
  replace h_13 := (n9 _ (ab_ne h_13 hO (by first | (simp; done) | (simp; omega)))).trans h_13
  replace h_14 := (n9 _ (ab_ne h_14 hO (by first | (simp; done) | (simp; omega)))).trans h_14
  replace h_15 := (n9 _ (ab_ne h_15 hO (by first | (simp; done) | (simp; omega)))).trans h_15
  replace h_16 := (n9 _ (ab_ne h_16 hO (by first | (simp; done) | (simp; omega)))).trans h_16
  replace h_17 := (n9 _ (ab_ne h_17 hO (by first | (simp; done) | (simp; omega)))).trans h_17
  replace h_18 := (n9 _ (ab_ne h_18 hO (by first | (simp; done) | (simp; omega)))).trans h_18
  replace h_30 := (n9 _ (ab_ne h_30 hO (by first | (simp; done) | (simp; omega)))).trans h_30
  replace h_34 := (n9 _ (ab_ne h_34 hO (by first | (simp; done) | (simp; omega)))).trans h_34
  replace h_35 := (n9 _ (ab_ne h_35 hO (by first | (simp; done) | (simp; omega)))).trans h_35
  replace h_36 := (n9 _ (ab_ne h_36 hO (by first | (simp; done) | (simp; omega)))).trans h_36
  replace h_37 := (n9 _ (ab_ne h_37 hO (by first | (simp; done) | (simp; omega)))).trans h_37
  replace h_38 := (n9 _ (ab_ne h_38 hO (by first | (simp; done) | (simp; omega)))).trans h_38
  replace h_39 := (n9 _ (ab_ne h_39 hO (by first | (simp; done) | (simp; omega)))).trans h_39
  replace h_41 := (n9 _ (ab_ne h_41 hO (by first | (simp; done) | (simp; omega)))).trans h_41
  replace h_42 := (n9 _ (ab_ne h_42 hO (by first | (simp; done) | (simp; omega)))).trans h_42
  replace h_43 := (n9 _ (ab_ne h_43 hO (by first | (simp; done) | (simp; omega)))).trans h_43
  replace h_44 := (n9 _ (ab_ne h_44 hO (by first | (simp; done) | (simp; omega)))).trans h_44
  replace kp := kp.wr hO (cP_no (by simp)) n9
  replace hO := e9
  clear e9 n9
  replace hO : h m = some (kO 20 9 [vI 0, vI 0, vR a_2, vR a_3, vR a_4, vR a_5, vI 0, vI 0, vR a_8, vR a_9, vR a_10, vR a_11, vR a_12, vR a_13, vR a_14, vR a_15, vR a_16, vR a_17, vR a_18, vI 0, vI 0, vI 0, vI 0, vI 0, vI 0, vI 0, vI 0, vI 0, vI 0, vI 0, vR a_30, vI 0, vI 0, vI 0, vR a_34, vR a_35, vR a_36, vR a_37, vR a_38, vR a_39, vI 0, vR a_41, vR a_42, vR a_43, vR a_44, vN, vI 0, vN]) := hO
  refine ab_aload_n (pc := 219) dX10_init_219 rfl ?_
  refine ab_bipush (pc := 220) dX10_init_220 (by decide) ?_
  refine ab_newIG (pc := 222) (75) (6) rfl (by decide) dX10_init_222 w111 (fun a_45 h z9 e9 n9 => ?_)
  replace hO := (n9 _ (ab_nn hO z9)).trans hO
  replace h_2 := (n9 _ (ab_nn h_2 z9)).trans h_2
  replace h_3 := (n9 _ (ab_nn h_3 z9)).trans h_3
  replace h_4 := (n9 _ (ab_nn h_4 z9)).trans h_4
  replace h_5 := (n9 _ (ab_nn h_5 z9)).trans h_5
  replace h_8 := (n9 _ (ab_nn h_8 z9)).trans h_8
  replace h_9 := (n9 _ (ab_nn h_9 z9)).trans h_9
  replace h_10 := (n9 _ (ab_nn h_10 z9)).trans h_10
  replace h_11 := (n9 _ (ab_nn h_11 z9)).trans h_11
  replace h_12 := (n9 _ (ab_nn h_12 z9)).trans h_12
  replace h_13 := (n9 _ (ab_nn h_13 z9)).trans h_13
  replace h_14 := (n9 _ (ab_nn h_14 z9)).trans h_14
  replace h_15 := (n9 _ (ab_nn h_15 z9)).trans h_15
  replace h_16 := (n9 _ (ab_nn h_16 z9)).trans h_16
  replace h_17 := (n9 _ (ab_nn h_17 z9)).trans h_17
  replace h_18 := (n9 _ (ab_nn h_18 z9)).trans h_18
  replace h_30 := (n9 _ (ab_nn h_30 z9)).trans h_30
  replace h_34 := (n9 _ (ab_nn h_34 z9)).trans h_34
  replace h_35 := (n9 _ (ab_nn h_35 z9)).trans h_35
  replace h_36 := (n9 _ (ab_nn h_36 z9)).trans h_36
  replace h_37 := (n9 _ (ab_nn h_37 z9)).trans h_37
  replace h_38 := (n9 _ (ab_nn h_38 z9)).trans h_38
  replace h_39 := (n9 _ (ab_nn h_39 z9)).trans h_39
  replace h_41 := (n9 _ (ab_nn h_41 z9)).trans h_41
  replace h_42 := (n9 _ (ab_nn h_42 z9)).trans h_42
  replace h_43 := (n9 _ (ab_nn h_43 z9)).trans h_43
  replace h_44 := (n9 _ (ab_nn h_44 z9)).trans h_44
  replace kp := kp.new z9 n9
  have h_45 := e9
  clear e9 n9
  refine ab_putG (pc := 224) (k := 45) okX10 hO (by decide) (by decide) trivial w1100 rfl (Or.inr ⟨rfl, rfl, rfl⟩) dX10_init_224 (fun h e9 n9 => ?_)
  replace h_2 := (n9 _ (ab_ne h_2 hO (by first | (simp; done) | (simp; omega)))).trans h_2
  replace h_3 := (n9 _ (ab_ne h_3 hO (by first | (simp; done) | (simp; omega)))).trans h_3
  replace h_4 := (n9 _ (ab_ne h_4 hO (by first | (simp; done) | (simp; omega)))).trans h_4
  replace h_5 := (n9 _ (ab_ne h_5 hO (by first | (simp; done) | (simp; omega)))).trans h_5
  replace h_8 := (n9 _ (ab_ne h_8 hO (by first | (simp; done) | (simp; omega)))).trans h_8
  replace h_9 := (n9 _ (ab_ne h_9 hO (by first | (simp; done) | (simp; omega)))).trans h_9
  replace h_10 := (n9 _ (ab_ne h_10 hO (by first | (simp; done) | (simp; omega)))).trans h_10
  replace h_11 := (n9 _ (ab_ne h_11 hO (by first | (simp; done) | (simp; omega)))).trans h_11
  replace h_12 := (n9 _ (ab_ne h_12 hO (by first | (simp; done) | (simp; omega)))).trans h_12
  replace h_13 := (n9 _ (ab_ne h_13 hO (by first | (simp; done) | (simp; omega)))).trans h_13
  replace h_14 := (n9 _ (ab_ne h_14 hO (by first | (simp; done) | (simp; omega)))).trans h_14
  replace h_15 := (n9 _ (ab_ne h_15 hO (by first | (simp; done) | (simp; omega)))).trans h_15
  replace h_16 := (n9 _ (ab_ne h_16 hO (by first | (simp; done) | (simp; omega)))).trans h_16
  replace h_17 := (n9 _ (ab_ne h_17 hO (by first | (simp; done) | (simp; omega)))).trans h_17
  replace h_18 := (n9 _ (ab_ne h_18 hO (by first | (simp; done) | (simp; omega)))).trans h_18
  replace h_30 := (n9 _ (ab_ne h_30 hO (by first | (simp; done) | (simp; omega)))).trans h_30
  replace h_34 := (n9 _ (ab_ne h_34 hO (by first | (simp; done) | (simp; omega)))).trans h_34
  replace h_35 := (n9 _ (ab_ne h_35 hO (by first | (simp; done) | (simp; omega)))).trans h_35
  replace h_36 := (n9 _ (ab_ne h_36 hO (by first | (simp; done) | (simp; omega)))).trans h_36
  replace h_37 := (n9 _ (ab_ne h_37 hO (by first | (simp; done) | (simp; omega)))).trans h_37
  replace h_38 := (n9 _ (ab_ne h_38 hO (by first | (simp; done) | (simp; omega)))).trans h_38
  replace h_39 := (n9 _ (ab_ne h_39 hO (by first | (simp; done) | (simp; omega)))).trans h_39
  replace h_41 := (n9 _ (ab_ne h_41 hO (by first | (simp; done) | (simp; omega)))).trans h_41
  replace h_42 := (n9 _ (ab_ne h_42 hO (by first | (simp; done) | (simp; omega)))).trans h_42
  replace h_43 := (n9 _ (ab_ne h_43 hO (by first | (simp; done) | (simp; omega)))).trans h_43
  replace h_44 := (n9 _ (ab_ne h_44 hO (by first | (simp; done) | (simp; omega)))).trans h_44
  replace h_45 := (n9 _ (ab_ne h_45 hO (by first | (simp; done) | (simp; omega)))).trans h_45
  replace kp := kp.wr hO (cP_no (by simp)) n9
  replace hO := e9
  clear e9 n9
  replace hO : h m = some (kO 20 9 [vI 0, vI 0, vR a_2, vR a_3, vR a_4, vR a_5, vI 0, vI 0, vR a_8, vR a_9, vR a_10, vR a_11, vR a_12, vR a_13, vR a_14, vR a_15, vR a_16, vR a_17, vR a_18, vI 0, vI 0, vI 0, vI 0, vI 0, vI 0, vI 0, vI 0, vI 0, vI 0, vI 0, vR a_30, vI 0, vI 0, vI 0, vR a_34, vR a_35, vR a_36, vR a_37, vR a_38, vR a_39, vI 0, vR a_41, vR a_42, vR a_43, vR a_44, vR a_45, vI 0, vN]) := hO
  refine ab_aload_n (pc := 227) dX10_init_227 rfl ?_
  refine ab_bipush (pc := 228) dX10_init_228 (by decide) ?_
  refine ab_newIG (pc := 230) (77) (8) rfl (by decide) dX10_init_230 w111 (fun a_47 h z9 e9 n9 => ?_)
  replace hO := (n9 _ (ab_nn hO z9)).trans hO
  replace h_2 := (n9 _ (ab_nn h_2 z9)).trans h_2
  replace h_3 := (n9 _ (ab_nn h_3 z9)).trans h_3
  replace h_4 := (n9 _ (ab_nn h_4 z9)).trans h_4
  replace h_5 := (n9 _ (ab_nn h_5 z9)).trans h_5
  replace h_8 := (n9 _ (ab_nn h_8 z9)).trans h_8
  replace h_9 := (n9 _ (ab_nn h_9 z9)).trans h_9
  replace h_10 := (n9 _ (ab_nn h_10 z9)).trans h_10
  replace h_11 := (n9 _ (ab_nn h_11 z9)).trans h_11
  replace h_12 := (n9 _ (ab_nn h_12 z9)).trans h_12
  replace h_13 := (n9 _ (ab_nn h_13 z9)).trans h_13
  replace h_14 := (n9 _ (ab_nn h_14 z9)).trans h_14
  replace h_15 := (n9 _ (ab_nn h_15 z9)).trans h_15
  replace h_16 := (n9 _ (ab_nn h_16 z9)).trans h_16
  replace h_17 := (n9 _ (ab_nn h_17 z9)).trans h_17
  replace h_18 := (n9 _ (ab_nn h_18 z9)).trans h_18
  replace h_30 := (n9 _ (ab_nn h_30 z9)).trans h_30
  replace h_34 := (n9 _ (ab_nn h_34 z9)).trans h_34
  replace h_35 := (n9 _ (ab_nn h_35 z9)).trans h_35
  replace h_36 := (n9 _ (ab_nn h_36 z9)).trans h_36
  replace h_37 := (n9 _ (ab_nn h_37 z9)).trans h_37
  replace h_38 := (n9 _ (ab_nn h_38 z9)).trans h_38
  replace h_39 := (n9 _ (ab_nn h_39 z9)).trans h_39
  replace h_41 := (n9 _ (ab_nn h_41 z9)).trans h_41
  replace h_42 := (n9 _ (ab_nn h_42 z9)).trans h_42
  replace h_43 := (n9 _ (ab_nn h_43 z9)).trans h_43
  replace h_44 := (n9 _ (ab_nn h_44 z9)).trans h_44
  replace h_45 := (n9 _ (ab_nn h_45 z9)).trans h_45
  replace kp := kp.new z9 n9
  have h_47 := e9
  clear e9 n9
  refine ab_putG (pc := 232) (k := 47) okX10 hO (by decide) (by decide) trivial w1102 rfl (Or.inr ⟨rfl, rfl, rfl⟩) dX10_init_232 (fun h e9 n9 => ?_)
  replace h_2 := (n9 _ (ab_ne h_2 hO (by first | (simp; done) | (simp; omega)))).trans h_2
  replace h_3 := (n9 _ (ab_ne h_3 hO (by first | (simp; done) | (simp; omega)))).trans h_3
  replace h_4 := (n9 _ (ab_ne h_4 hO (by first | (simp; done) | (simp; omega)))).trans h_4
  replace h_5 := (n9 _ (ab_ne h_5 hO (by first | (simp; done) | (simp; omega)))).trans h_5
  replace h_8 := (n9 _ (ab_ne h_8 hO (by first | (simp; done) | (simp; omega)))).trans h_8
  replace h_9 := (n9 _ (ab_ne h_9 hO (by first | (simp; done) | (simp; omega)))).trans h_9
  replace h_10 := (n9 _ (ab_ne h_10 hO (by first | (simp; done) | (simp; omega)))).trans h_10
  replace h_11 := (n9 _ (ab_ne h_11 hO (by first | (simp; done) | (simp; omega)))).trans h_11
  replace h_12 := (n9 _ (ab_ne h_12 hO (by first | (simp; done) | (simp; omega)))).trans h_12
  replace h_13 := (n9 _ (ab_ne h_13 hO (by first | (simp; done) | (simp; omega)))).trans h_13
  replace h_14 := (n9 _ (ab_ne h_14 hO (by first | (simp; done) | (simp; omega)))).trans h_14
  replace h_15 := (n9 _ (ab_ne h_15 hO (by first | (simp; done) | (simp; omega)))).trans h_15
  replace h_16 := (n9 _ (ab_ne h_16 hO (by first | (simp; done) | (simp; omega)))).trans h_16
  replace h_17 := (n9 _ (ab_ne h_17 hO (by first | (simp; done) | (simp; omega)))).trans h_17
  replace h_18 := (n9 _ (ab_ne h_18 hO (by first | (simp; done) | (simp; omega)))).trans h_18
  replace h_30 := (n9 _ (ab_ne h_30 hO (by first | (simp; done) | (simp; omega)))).trans h_30
  replace h_34 := (n9 _ (ab_ne h_34 hO (by first | (simp; done) | (simp; omega)))).trans h_34
  replace h_35 := (n9 _ (ab_ne h_35 hO (by first | (simp; done) | (simp; omega)))).trans h_35
  replace h_36 := (n9 _ (ab_ne h_36 hO (by first | (simp; done) | (simp; omega)))).trans h_36
  replace h_37 := (n9 _ (ab_ne h_37 hO (by first | (simp; done) | (simp; omega)))).trans h_37
  replace h_38 := (n9 _ (ab_ne h_38 hO (by first | (simp; done) | (simp; omega)))).trans h_38
  replace h_39 := (n9 _ (ab_ne h_39 hO (by first | (simp; done) | (simp; omega)))).trans h_39
  replace h_41 := (n9 _ (ab_ne h_41 hO (by first | (simp; done) | (simp; omega)))).trans h_41
  replace h_42 := (n9 _ (ab_ne h_42 hO (by first | (simp; done) | (simp; omega)))).trans h_42
  replace h_43 := (n9 _ (ab_ne h_43 hO (by first | (simp; done) | (simp; omega)))).trans h_43
  replace h_44 := (n9 _ (ab_ne h_44 hO (by first | (simp; done) | (simp; omega)))).trans h_44
  replace h_45 := (n9 _ (ab_ne h_45 hO (by first | (simp; done) | (simp; omega)))).trans h_45
  replace h_47 := (n9 _ (ab_ne h_47 hO (by first | (simp; done) | (simp; omega)))).trans h_47
  replace kp := kp.wr hO (cP_no (by simp)) n9
  replace hO := e9
  clear e9 n9
  replace hO : h m = some (kO 20 9 [vI 0, vI 0, vR a_2, vR a_3, vR a_4, vR a_5, vI 0, vI 0, vR a_8, vR a_9, vR a_10, vR a_11, vR a_12, vR a_13, vR a_14, vR a_15, vR a_16, vR a_17, vR a_18, vI 0, vI 0, vI 0, vI 0, vI 0, vI 0, vI 0, vI 0, vI 0, vI 0, vI 0, vR a_30, vI 0, vI 0, vI 0, vR a_34, vR a_35, vR a_36, vR a_37, vR a_38, vR a_39, vI 0, vR a_41, vR a_42, vR a_43, vR a_44, vR a_45, vI 0, vR a_47]) := hO
  refine ab_iconst (pc := 235) dX10_init_235 (by decide) ?_
  refine ab_istore_n (pc := 236) dX10_init_236 rfl (Nat.le_of_ble_eq_true rfl) ?_
  exact m_init_237 _ 0 _ _ (Nat.lt_succ_self _) hO h_2 h_3 h_4 h_5 h_8 h_9 h_10 h_11 h_12 h_13 h_14 h_15 h_16 h_17 h_18 h_30 h_34 h_35 h_36 h_37 h_38 h_39 h_41 h_42 h_43 h_44 h_45 h_47 kp (by omega) (by omega) (fun j j0 j1 => absurd j1 (by omega))
theorem m_init_s20 (hG : ab_G l E) {m : Nat} {a_2 a_3 a_4 a_5 a_8 a_9 a_10 a_11 a_12 a_13 a_14 a_15 a_16 a_17 a_18 a_30 a_34 a_35 a_36 a_37 : Nat} {h : AbH} (hO : h m = some (kO 20 9 [vI 0, vI 0, vR a_2, vR a_3, vR a_4, vR a_5, vI 0, vI 0, vR a_8, vR a_9, vR a_10, vR a_11, vR a_12, vR a_13, vR a_14, vR a_15, vR a_16, vR a_17, vR a_18, vI 0, vI 0, vI 0, vI 0, vI 0, vI 0, vI 0, vI 0, vI 0, vI 0, vI 0, vR a_30, vI 0, vI 0, vI 0, vR a_34, vR a_35, vR a_36, vR a_37, vN, vN, vI 0, vN, vN, vN, vN, vN, vI 0, vN])) (h_2 : h a_2 = some (kI 32 16 (fun _ => 0))) (h_3 : h a_3 = some (kI 33 160 (fun _ => 0))) (h_4 : h a_4 = some (kI 34 12800 (fun _ => 0))) (h_5 : h a_5 = some (kI 35 80 (fun _ => 0))) (h_8 : h a_8 = some (kI 38 12 (fun _ => 0))) (h_9 : h a_9 = some (kI 39 12 (fun _ => 0))) (h_10 : h a_10 = some (kI 40 12 (fun _ => 0))) (h_11 : h a_11 = some (kI 41 12 (fun _ => 0))) (h_12 : h a_12 = some (kI 42 960 (fun _ => 0))) (h_13 : h a_13 = some (kI 43 8 (fun _ => 0))) (h_14 : h a_14 = some (kI 44 3 (fun _ => 0))) (h_15 : h a_15 = some (kI 45 3 (fun _ => 0))) (h_16 : h a_16 = some (kI 46 2000 (fun _ => 0))) (h_17 : h a_17 = some (kI 47 2000 (fun _ => 0))) (h_18 : h a_18 = some (kI 48 2000 (fun _ => 0))) (h_30 : h a_30 = some (kI 60 80 (fun _ => 0))) (h_34 : h a_34 = some (kI 64 80 (fun _ => 0))) (h_35 : h a_35 = some (kZ 65 8 (fun _ => 0))) (h_36 : h a_36 = some (kI 66 8 (fun _ => 0))) (h_37 : h a_37 = some (kI 67 64 (fun _ => 0))) (kp : ab_kp (cP [20, 33]) h0 h) : ab_T l E Y_X10_init 1 8 3004 168 [some (vR m), none] [] h (cC h0 [20, 33] (fun r h' => r = none ∧ ∃ (A : Nat → Nat) (F : Nat → Int → Int), mR h' m A (fun _ => 0) F ∧ (∀ j : Int, 0 ≤ j → j < 160 → F 3 j = -1) ∧ ∀ k : Nat, k ≠ 3 → F k = fun _ => 0)) := by
  refine ab_aload_n (pc := 168) dX10_init_168 rfl ?_
  refine ab_sipush (pc := 169) dX10_init_169 (by decide) ?_
  refine ab_newIG (pc := 172) (68) (1280) rfl (by decide) dX10_init_172 w111 (fun a_38 h z9 e9 n9 => ?_)
  replace hO := (n9 _ (ab_nn hO z9)).trans hO
  replace h_2 := (n9 _ (ab_nn h_2 z9)).trans h_2
  replace h_3 := (n9 _ (ab_nn h_3 z9)).trans h_3
  replace h_4 := (n9 _ (ab_nn h_4 z9)).trans h_4
  replace h_5 := (n9 _ (ab_nn h_5 z9)).trans h_5
  replace h_8 := (n9 _ (ab_nn h_8 z9)).trans h_8
  replace h_9 := (n9 _ (ab_nn h_9 z9)).trans h_9
  replace h_10 := (n9 _ (ab_nn h_10 z9)).trans h_10
  replace h_11 := (n9 _ (ab_nn h_11 z9)).trans h_11
  replace h_12 := (n9 _ (ab_nn h_12 z9)).trans h_12
  replace h_13 := (n9 _ (ab_nn h_13 z9)).trans h_13
  replace h_14 := (n9 _ (ab_nn h_14 z9)).trans h_14
  replace h_15 := (n9 _ (ab_nn h_15 z9)).trans h_15
  replace h_16 := (n9 _ (ab_nn h_16 z9)).trans h_16
  replace h_17 := (n9 _ (ab_nn h_17 z9)).trans h_17
  replace h_18 := (n9 _ (ab_nn h_18 z9)).trans h_18
  replace h_30 := (n9 _ (ab_nn h_30 z9)).trans h_30
  replace h_34 := (n9 _ (ab_nn h_34 z9)).trans h_34
  replace h_35 := (n9 _ (ab_nn h_35 z9)).trans h_35
  replace h_36 := (n9 _ (ab_nn h_36 z9)).trans h_36
  replace h_37 := (n9 _ (ab_nn h_37 z9)).trans h_37
  replace kp := kp.new z9 n9
  have h_38 := e9
  clear e9 n9
  refine ab_putG (pc := 174) (k := 38) okX10 hO (by decide) (by decide) trivial w1093 rfl (Or.inr ⟨rfl, rfl, rfl⟩) dX10_init_174 (fun h e9 n9 => ?_)
  replace h_2 := (n9 _ (ab_ne h_2 hO (by first | (simp; done) | (simp; omega)))).trans h_2
  replace h_3 := (n9 _ (ab_ne h_3 hO (by first | (simp; done) | (simp; omega)))).trans h_3
  replace h_4 := (n9 _ (ab_ne h_4 hO (by first | (simp; done) | (simp; omega)))).trans h_4
  replace h_5 := (n9 _ (ab_ne h_5 hO (by first | (simp; done) | (simp; omega)))).trans h_5
  replace h_8 := (n9 _ (ab_ne h_8 hO (by first | (simp; done) | (simp; omega)))).trans h_8
  replace h_9 := (n9 _ (ab_ne h_9 hO (by first | (simp; done) | (simp; omega)))).trans h_9
  replace h_10 := (n9 _ (ab_ne h_10 hO (by first | (simp; done) | (simp; omega)))).trans h_10
  replace h_11 := (n9 _ (ab_ne h_11 hO (by first | (simp; done) | (simp; omega)))).trans h_11
  replace h_12 := (n9 _ (ab_ne h_12 hO (by first | (simp; done) | (simp; omega)))).trans h_12
  replace h_13 := (n9 _ (ab_ne h_13 hO (by first | (simp; done) | (simp; omega)))).trans h_13
  replace h_14 := (n9 _ (ab_ne h_14 hO (by first | (simp; done) | (simp; omega)))).trans h_14
  replace h_15 := (n9 _ (ab_ne h_15 hO (by first | (simp; done) | (simp; omega)))).trans h_15
  replace h_16 := (n9 _ (ab_ne h_16 hO (by first | (simp; done) | (simp; omega)))).trans h_16
  replace h_17 := (n9 _ (ab_ne h_17 hO (by first | (simp; done) | (simp; omega)))).trans h_17
  replace h_18 := (n9 _ (ab_ne h_18 hO (by first | (simp; done) | (simp; omega)))).trans h_18
  replace h_30 := (n9 _ (ab_ne h_30 hO (by first | (simp; done) | (simp; omega)))).trans h_30
  replace h_34 := (n9 _ (ab_ne h_34 hO (by first | (simp; done) | (simp; omega)))).trans h_34
  replace h_35 := (n9 _ (ab_ne h_35 hO (by first | (simp; done) | (simp; omega)))).trans h_35
  replace h_36 := (n9 _ (ab_ne h_36 hO (by first | (simp; done) | (simp; omega)))).trans h_36
  replace h_37 := (n9 _ (ab_ne h_37 hO (by first | (simp; done) | (simp; omega)))).trans h_37
  replace h_38 := (n9 _ (ab_ne h_38 hO (by first | (simp; done) | (simp; omega)))).trans h_38
  replace kp := kp.wr hO (cP_no (by simp)) n9
  replace hO := e9
  clear e9 n9
  replace hO : h m = some (kO 20 9 [vI 0, vI 0, vR a_2, vR a_3, vR a_4, vR a_5, vI 0, vI 0, vR a_8, vR a_9, vR a_10, vR a_11, vR a_12, vR a_13, vR a_14, vR a_15, vR a_16, vR a_17, vR a_18, vI 0, vI 0, vI 0, vI 0, vI 0, vI 0, vI 0, vI 0, vI 0, vI 0, vI 0, vR a_30, vI 0, vI 0, vI 0, vR a_34, vR a_35, vR a_36, vR a_37, vR a_38, vN, vI 0, vN, vN, vN, vN, vN, vI 0, vN]) := hO
  refine ab_aload_n (pc := 177) dX10_init_177 rfl ?_
  refine ab_sipush (pc := 178) dX10_init_178 (by decide) ?_
  refine ab_newIG (pc := 181) (69) (1300) rfl (by decide) dX10_init_181 w111 (fun a_39 h z9 e9 n9 => ?_)
  replace hO := (n9 _ (ab_nn hO z9)).trans hO
  replace h_2 := (n9 _ (ab_nn h_2 z9)).trans h_2
  replace h_3 := (n9 _ (ab_nn h_3 z9)).trans h_3
  replace h_4 := (n9 _ (ab_nn h_4 z9)).trans h_4
  replace h_5 := (n9 _ (ab_nn h_5 z9)).trans h_5
  replace h_8 := (n9 _ (ab_nn h_8 z9)).trans h_8
  replace h_9 := (n9 _ (ab_nn h_9 z9)).trans h_9
  replace h_10 := (n9 _ (ab_nn h_10 z9)).trans h_10
  replace h_11 := (n9 _ (ab_nn h_11 z9)).trans h_11
  replace h_12 := (n9 _ (ab_nn h_12 z9)).trans h_12
  replace h_13 := (n9 _ (ab_nn h_13 z9)).trans h_13
  replace h_14 := (n9 _ (ab_nn h_14 z9)).trans h_14
  replace h_15 := (n9 _ (ab_nn h_15 z9)).trans h_15
  replace h_16 := (n9 _ (ab_nn h_16 z9)).trans h_16
  replace h_17 := (n9 _ (ab_nn h_17 z9)).trans h_17
  replace h_18 := (n9 _ (ab_nn h_18 z9)).trans h_18
  replace h_30 := (n9 _ (ab_nn h_30 z9)).trans h_30
  replace h_34 := (n9 _ (ab_nn h_34 z9)).trans h_34
  replace h_35 := (n9 _ (ab_nn h_35 z9)).trans h_35
  replace h_36 := (n9 _ (ab_nn h_36 z9)).trans h_36
  replace h_37 := (n9 _ (ab_nn h_37 z9)).trans h_37
  replace h_38 := (n9 _ (ab_nn h_38 z9)).trans h_38
  replace kp := kp.new z9 n9
  have h_39 := e9
  clear e9 n9
  refine ab_putG (pc := 183) (k := 39) okX10 hO (by decide) (by decide) trivial w1094 rfl (Or.inr ⟨rfl, rfl, rfl⟩) dX10_init_183 (fun h e9 n9 => ?_)
  replace h_2 := (n9 _ (ab_ne h_2 hO (by first | (simp; done) | (simp; omega)))).trans h_2
  replace h_3 := (n9 _ (ab_ne h_3 hO (by first | (simp; done) | (simp; omega)))).trans h_3
  replace h_4 := (n9 _ (ab_ne h_4 hO (by first | (simp; done) | (simp; omega)))).trans h_4
  replace h_5 := (n9 _ (ab_ne h_5 hO (by first | (simp; done) | (simp; omega)))).trans h_5
  replace h_8 := (n9 _ (ab_ne h_8 hO (by first | (simp; done) | (simp; omega)))).trans h_8
  replace h_9 := (n9 _ (ab_ne h_9 hO (by first | (simp; done) | (simp; omega)))).trans h_9
  replace h_10 := (n9 _ (ab_ne h_10 hO (by first | (simp; done) | (simp; omega)))).trans h_10
  replace h_11 := (n9 _ (ab_ne h_11 hO (by first | (simp; done) | (simp; omega)))).trans h_11
  replace h_12 := (n9 _ (ab_ne h_12 hO (by first | (simp; done) | (simp; omega)))).trans h_12
  replace h_13 := (n9 _ (ab_ne h_13 hO (by first | (simp; done) | (simp; omega)))).trans h_13
  replace h_14 := (n9 _ (ab_ne h_14 hO (by first | (simp; done) | (simp; omega)))).trans h_14
  replace h_15 := (n9 _ (ab_ne h_15 hO (by first | (simp; done) | (simp; omega)))).trans h_15
  replace h_16 := (n9 _ (ab_ne h_16 hO (by first | (simp; done) | (simp; omega)))).trans h_16
  replace h_17 := (n9 _ (ab_ne h_17 hO (by first | (simp; done) | (simp; omega)))).trans h_17
  replace h_18 := (n9 _ (ab_ne h_18 hO (by first | (simp; done) | (simp; omega)))).trans h_18
  replace h_30 := (n9 _ (ab_ne h_30 hO (by first | (simp; done) | (simp; omega)))).trans h_30
  replace h_34 := (n9 _ (ab_ne h_34 hO (by first | (simp; done) | (simp; omega)))).trans h_34
  replace h_35 := (n9 _ (ab_ne h_35 hO (by first | (simp; done) | (simp; omega)))).trans h_35
  replace h_36 := (n9 _ (ab_ne h_36 hO (by first | (simp; done) | (simp; omega)))).trans h_36
  replace h_37 := (n9 _ (ab_ne h_37 hO (by first | (simp; done) | (simp; omega)))).trans h_37
  replace h_38 := (n9 _ (ab_ne h_38 hO (by first | (simp; done) | (simp; omega)))).trans h_38
  replace h_39 := (n9 _ (ab_ne h_39 hO (by first | (simp; done) | (simp; omega)))).trans h_39
  replace kp := kp.wr hO (cP_no (by simp)) n9
  replace hO := e9
  clear e9 n9
  replace hO : h m = some (kO 20 9 [vI 0, vI 0, vR a_2, vR a_3, vR a_4, vR a_5, vI 0, vI 0, vR a_8, vR a_9, vR a_10, vR a_11, vR a_12, vR a_13, vR a_14, vR a_15, vR a_16, vR a_17, vR a_18, vI 0, vI 0, vI 0, vI 0, vI 0, vI 0, vI 0, vI 0, vI 0, vI 0, vI 0, vR a_30, vI 0, vI 0, vI 0, vR a_34, vR a_35, vR a_36, vR a_37, vR a_38, vR a_39, vI 0, vN, vN, vN, vN, vN, vI 0, vN]) := hO
  refine ab_aload_n (pc := 186) dX10_init_186 rfl ?_
  refine ab_sipush (pc := 187) dX10_init_187 (by decide) ?_
  refine ab_newJG (pc := 190) (71) (320) rfl (by decide) dX10_init_190 w900 (fun a_41 h z9 e9 n9 => ?_)
  replace hO := (n9 _ (ab_nn hO z9)).trans hO
  replace h_2 := (n9 _ (ab_nn h_2 z9)).trans h_2
  replace h_3 := (n9 _ (ab_nn h_3 z9)).trans h_3
  replace h_4 := (n9 _ (ab_nn h_4 z9)).trans h_4
  replace h_5 := (n9 _ (ab_nn h_5 z9)).trans h_5
  replace h_8 := (n9 _ (ab_nn h_8 z9)).trans h_8
  replace h_9 := (n9 _ (ab_nn h_9 z9)).trans h_9
  replace h_10 := (n9 _ (ab_nn h_10 z9)).trans h_10
  replace h_11 := (n9 _ (ab_nn h_11 z9)).trans h_11
  replace h_12 := (n9 _ (ab_nn h_12 z9)).trans h_12
  replace h_13 := (n9 _ (ab_nn h_13 z9)).trans h_13
  replace h_14 := (n9 _ (ab_nn h_14 z9)).trans h_14
  replace h_15 := (n9 _ (ab_nn h_15 z9)).trans h_15
  replace h_16 := (n9 _ (ab_nn h_16 z9)).trans h_16
  replace h_17 := (n9 _ (ab_nn h_17 z9)).trans h_17
  replace h_18 := (n9 _ (ab_nn h_18 z9)).trans h_18
  replace h_30 := (n9 _ (ab_nn h_30 z9)).trans h_30
  replace h_34 := (n9 _ (ab_nn h_34 z9)).trans h_34
  replace h_35 := (n9 _ (ab_nn h_35 z9)).trans h_35
  replace h_36 := (n9 _ (ab_nn h_36 z9)).trans h_36
  replace h_37 := (n9 _ (ab_nn h_37 z9)).trans h_37
  replace h_38 := (n9 _ (ab_nn h_38 z9)).trans h_38
  replace h_39 := (n9 _ (ab_nn h_39 z9)).trans h_39
  replace kp := kp.new z9 n9
  have h_41 := e9
  clear e9 n9
  refine ab_putG (pc := 192) (k := 41) okX10 hO (by decide) (by decide) trivial w1096 rfl (Or.inr ⟨rfl, rfl, rfl⟩) dX10_init_192 (fun h e9 n9 => ?_)
  replace h_2 := (n9 _ (ab_ne h_2 hO (by first | (simp; done) | (simp; omega)))).trans h_2
  replace h_3 := (n9 _ (ab_ne h_3 hO (by first | (simp; done) | (simp; omega)))).trans h_3
  replace h_4 := (n9 _ (ab_ne h_4 hO (by first | (simp; done) | (simp; omega)))).trans h_4
  replace h_5 := (n9 _ (ab_ne h_5 hO (by first | (simp; done) | (simp; omega)))).trans h_5
  replace h_8 := (n9 _ (ab_ne h_8 hO (by first | (simp; done) | (simp; omega)))).trans h_8
  replace h_9 := (n9 _ (ab_ne h_9 hO (by first | (simp; done) | (simp; omega)))).trans h_9
  replace h_10 := (n9 _ (ab_ne h_10 hO (by first | (simp; done) | (simp; omega)))).trans h_10
  replace h_11 := (n9 _ (ab_ne h_11 hO (by first | (simp; done) | (simp; omega)))).trans h_11
  replace h_12 := (n9 _ (ab_ne h_12 hO (by first | (simp; done) | (simp; omega)))).trans h_12
  replace h_13 := (n9 _ (ab_ne h_13 hO (by first | (simp; done) | (simp; omega)))).trans h_13
  replace h_14 := (n9 _ (ab_ne h_14 hO (by first | (simp; done) | (simp; omega)))).trans h_14
  replace h_15 := (n9 _ (ab_ne h_15 hO (by first | (simp; done) | (simp; omega)))).trans h_15
  replace h_16 := (n9 _ (ab_ne h_16 hO (by first | (simp; done) | (simp; omega)))).trans h_16
  replace h_17 := (n9 _ (ab_ne h_17 hO (by first | (simp; done) | (simp; omega)))).trans h_17
  replace h_18 := (n9 _ (ab_ne h_18 hO (by first | (simp; done) | (simp; omega)))).trans h_18
  replace h_30 := (n9 _ (ab_ne h_30 hO (by first | (simp; done) | (simp; omega)))).trans h_30
  replace h_34 := (n9 _ (ab_ne h_34 hO (by first | (simp; done) | (simp; omega)))).trans h_34
  replace h_35 := (n9 _ (ab_ne h_35 hO (by first | (simp; done) | (simp; omega)))).trans h_35
  replace h_36 := (n9 _ (ab_ne h_36 hO (by first | (simp; done) | (simp; omega)))).trans h_36
  replace h_37 := (n9 _ (ab_ne h_37 hO (by first | (simp; done) | (simp; omega)))).trans h_37
  replace h_38 := (n9 _ (ab_ne h_38 hO (by first | (simp; done) | (simp; omega)))).trans h_38
  replace h_39 := (n9 _ (ab_ne h_39 hO (by first | (simp; done) | (simp; omega)))).trans h_39
  replace h_41 := (n9 _ (ab_ne h_41 hO (by first | (simp; done) | (simp; omega)))).trans h_41
  replace kp := kp.wr hO (cP_no (by simp)) n9
  replace hO := e9
  clear e9 n9
  replace hO : h m = some (kO 20 9 [vI 0, vI 0, vR a_2, vR a_3, vR a_4, vR a_5, vI 0, vI 0, vR a_8, vR a_9, vR a_10, vR a_11, vR a_12, vR a_13, vR a_14, vR a_15, vR a_16, vR a_17, vR a_18, vI 0, vI 0, vI 0, vI 0, vI 0, vI 0, vI 0, vI 0, vI 0, vI 0, vI 0, vR a_30, vI 0, vI 0, vI 0, vR a_34, vR a_35, vR a_36, vR a_37, vR a_38, vR a_39, vI 0, vR a_41, vN, vN, vN, vN, vI 0, vN]) := hO
  refine ab_aload_n (pc := 195) dX10_init_195 rfl ?_
  refine ab_bipush (pc := 196) dX10_init_196 (by decide) ?_
  refine ab_newIG (pc := 198) (72) (70) rfl (by decide) dX10_init_198 w111 (fun a_42 h z9 e9 n9 => ?_)
  replace hO := (n9 _ (ab_nn hO z9)).trans hO
  replace h_2 := (n9 _ (ab_nn h_2 z9)).trans h_2
  replace h_3 := (n9 _ (ab_nn h_3 z9)).trans h_3
  replace h_4 := (n9 _ (ab_nn h_4 z9)).trans h_4
  replace h_5 := (n9 _ (ab_nn h_5 z9)).trans h_5
  replace h_8 := (n9 _ (ab_nn h_8 z9)).trans h_8
  replace h_9 := (n9 _ (ab_nn h_9 z9)).trans h_9
  replace h_10 := (n9 _ (ab_nn h_10 z9)).trans h_10
  replace h_11 := (n9 _ (ab_nn h_11 z9)).trans h_11
  replace h_12 := (n9 _ (ab_nn h_12 z9)).trans h_12
  replace h_13 := (n9 _ (ab_nn h_13 z9)).trans h_13
  replace h_14 := (n9 _ (ab_nn h_14 z9)).trans h_14
  replace h_15 := (n9 _ (ab_nn h_15 z9)).trans h_15
  replace h_16 := (n9 _ (ab_nn h_16 z9)).trans h_16
  replace h_17 := (n9 _ (ab_nn h_17 z9)).trans h_17
  replace h_18 := (n9 _ (ab_nn h_18 z9)).trans h_18
  replace h_30 := (n9 _ (ab_nn h_30 z9)).trans h_30
  replace h_34 := (n9 _ (ab_nn h_34 z9)).trans h_34
  replace h_35 := (n9 _ (ab_nn h_35 z9)).trans h_35
  replace h_36 := (n9 _ (ab_nn h_36 z9)).trans h_36
  replace h_37 := (n9 _ (ab_nn h_37 z9)).trans h_37
  replace h_38 := (n9 _ (ab_nn h_38 z9)).trans h_38
  replace h_39 := (n9 _ (ab_nn h_39 z9)).trans h_39
  replace h_41 := (n9 _ (ab_nn h_41 z9)).trans h_41
  replace kp := kp.new z9 n9
  have h_42 := e9
  clear e9 n9
  refine ab_putG (pc := 200) (k := 42) okX10 hO (by decide) (by decide) trivial w1097 rfl (Or.inr ⟨rfl, rfl, rfl⟩) dX10_init_200 (fun h e9 n9 => ?_)
  replace h_2 := (n9 _ (ab_ne h_2 hO (by first | (simp; done) | (simp; omega)))).trans h_2
  replace h_3 := (n9 _ (ab_ne h_3 hO (by first | (simp; done) | (simp; omega)))).trans h_3
  replace h_4 := (n9 _ (ab_ne h_4 hO (by first | (simp; done) | (simp; omega)))).trans h_4
  replace h_5 := (n9 _ (ab_ne h_5 hO (by first | (simp; done) | (simp; omega)))).trans h_5
  replace h_8 := (n9 _ (ab_ne h_8 hO (by first | (simp; done) | (simp; omega)))).trans h_8
  replace h_9 := (n9 _ (ab_ne h_9 hO (by first | (simp; done) | (simp; omega)))).trans h_9
  replace h_10 := (n9 _ (ab_ne h_10 hO (by first | (simp; done) | (simp; omega)))).trans h_10
  replace h_11 := (n9 _ (ab_ne h_11 hO (by first | (simp; done) | (simp; omega)))).trans h_11
  replace h_12 := (n9 _ (ab_ne h_12 hO (by first | (simp; done) | (simp; omega)))).trans h_12
  replace h_13 := (n9 _ (ab_ne h_13 hO (by first | (simp; done) | (simp; omega)))).trans h_13
  replace h_14 := (n9 _ (ab_ne h_14 hO (by first | (simp; done) | (simp; omega)))).trans h_14
  replace h_15 := (n9 _ (ab_ne h_15 hO (by first | (simp; done) | (simp; omega)))).trans h_15
  replace h_16 := (n9 _ (ab_ne h_16 hO (by first | (simp; done) | (simp; omega)))).trans h_16
  replace h_17 := (n9 _ (ab_ne h_17 hO (by first | (simp; done) | (simp; omega)))).trans h_17
  replace h_18 := (n9 _ (ab_ne h_18 hO (by first | (simp; done) | (simp; omega)))).trans h_18
  replace h_30 := (n9 _ (ab_ne h_30 hO (by first | (simp; done) | (simp; omega)))).trans h_30
  replace h_34 := (n9 _ (ab_ne h_34 hO (by first | (simp; done) | (simp; omega)))).trans h_34
  replace h_35 := (n9 _ (ab_ne h_35 hO (by first | (simp; done) | (simp; omega)))).trans h_35
  replace h_36 := (n9 _ (ab_ne h_36 hO (by first | (simp; done) | (simp; omega)))).trans h_36
  replace h_37 := (n9 _ (ab_ne h_37 hO (by first | (simp; done) | (simp; omega)))).trans h_37
  replace h_38 := (n9 _ (ab_ne h_38 hO (by first | (simp; done) | (simp; omega)))).trans h_38
  replace h_39 := (n9 _ (ab_ne h_39 hO (by first | (simp; done) | (simp; omega)))).trans h_39
  replace h_41 := (n9 _ (ab_ne h_41 hO (by first | (simp; done) | (simp; omega)))).trans h_41
  replace h_42 := (n9 _ (ab_ne h_42 hO (by first | (simp; done) | (simp; omega)))).trans h_42
  replace kp := kp.wr hO (cP_no (by simp)) n9
  replace hO := e9
  clear e9 n9
  replace hO : h m = some (kO 20 9 [vI 0, vI 0, vR a_2, vR a_3, vR a_4, vR a_5, vI 0, vI 0, vR a_8, vR a_9, vR a_10, vR a_11, vR a_12, vR a_13, vR a_14, vR a_15, vR a_16, vR a_17, vR a_18, vI 0, vI 0, vI 0, vI 0, vI 0, vI 0, vI 0, vI 0, vI 0, vI 0, vI 0, vR a_30, vI 0, vI 0, vI 0, vR a_34, vR a_35, vR a_36, vR a_37, vR a_38, vR a_39, vI 0, vR a_41, vR a_42, vN, vN, vN, vI 0, vN]) := hO
  exact m_init_s24 hG hO h_2 h_3 h_4 h_5 h_8 h_9 h_10 h_11 h_12 h_13 h_14 h_15 h_16 h_17 h_18 h_30 h_34 h_35 h_36 h_37 h_38 h_39 h_41 h_42 kp
theorem m_init_s16 (hG : ab_G l E) {m : Nat} {a_2 a_3 a_4 a_5 a_8 a_9 a_10 a_11 a_12 a_13 a_14 a_15 a_16 a_17 a_18 a_30 : Nat} {h : AbH} (hO : h m = some (kO 20 9 [vI 0, vI 0, vR a_2, vR a_3, vR a_4, vR a_5, vI 0, vI 0, vR a_8, vR a_9, vR a_10, vR a_11, vR a_12, vR a_13, vR a_14, vR a_15, vR a_16, vR a_17, vR a_18, vI 0, vI 0, vI 0, vI 0, vI 0, vI 0, vI 0, vI 0, vI 0, vI 0, vI 0, vR a_30, vI 0, vI 0, vI 0, vN, vN, vN, vN, vN, vN, vI 0, vN, vN, vN, vN, vN, vI 0, vN])) (h_2 : h a_2 = some (kI 32 16 (fun _ => 0))) (h_3 : h a_3 = some (kI 33 160 (fun _ => 0))) (h_4 : h a_4 = some (kI 34 12800 (fun _ => 0))) (h_5 : h a_5 = some (kI 35 80 (fun _ => 0))) (h_8 : h a_8 = some (kI 38 12 (fun _ => 0))) (h_9 : h a_9 = some (kI 39 12 (fun _ => 0))) (h_10 : h a_10 = some (kI 40 12 (fun _ => 0))) (h_11 : h a_11 = some (kI 41 12 (fun _ => 0))) (h_12 : h a_12 = some (kI 42 960 (fun _ => 0))) (h_13 : h a_13 = some (kI 43 8 (fun _ => 0))) (h_14 : h a_14 = some (kI 44 3 (fun _ => 0))) (h_15 : h a_15 = some (kI 45 3 (fun _ => 0))) (h_16 : h a_16 = some (kI 46 2000 (fun _ => 0))) (h_17 : h a_17 = some (kI 47 2000 (fun _ => 0))) (h_18 : h a_18 = some (kI 48 2000 (fun _ => 0))) (h_30 : h a_30 = some (kI 60 80 (fun _ => 0))) (kp : ab_kp (cP [20, 33]) h0 h) : ab_T l E Y_X10_init 1 12 3164 136 [some (vR m), none] [] h (cC h0 [20, 33] (fun r h' => r = none ∧ ∃ (A : Nat → Nat) (F : Nat → Int → Int), mR h' m A (fun _ => 0) F ∧ (∀ j : Int, 0 ≤ j → j < 160 → F 3 j = -1) ∧ ∀ k : Nat, k ≠ 3 → F k = fun _ => 0)) := by
  refine ab_aload_n (pc := 136) dX10_init_136 rfl ?_
  refine ab_bipush (pc := 137) dX10_init_137 (by decide) ?_
  refine ab_newIG (pc := 139) (64) (80) rfl (by decide) dX10_init_139 w111 (fun a_34 h z9 e9 n9 => ?_)
  replace hO := (n9 _ (ab_nn hO z9)).trans hO
  replace h_2 := (n9 _ (ab_nn h_2 z9)).trans h_2
  replace h_3 := (n9 _ (ab_nn h_3 z9)).trans h_3
  replace h_4 := (n9 _ (ab_nn h_4 z9)).trans h_4
  replace h_5 := (n9 _ (ab_nn h_5 z9)).trans h_5
  replace h_8 := (n9 _ (ab_nn h_8 z9)).trans h_8
  replace h_9 := (n9 _ (ab_nn h_9 z9)).trans h_9
  replace h_10 := (n9 _ (ab_nn h_10 z9)).trans h_10
  replace h_11 := (n9 _ (ab_nn h_11 z9)).trans h_11
  replace h_12 := (n9 _ (ab_nn h_12 z9)).trans h_12
  replace h_13 := (n9 _ (ab_nn h_13 z9)).trans h_13
  replace h_14 := (n9 _ (ab_nn h_14 z9)).trans h_14
  replace h_15 := (n9 _ (ab_nn h_15 z9)).trans h_15
  replace h_16 := (n9 _ (ab_nn h_16 z9)).trans h_16
  replace h_17 := (n9 _ (ab_nn h_17 z9)).trans h_17
  replace h_18 := (n9 _ (ab_nn h_18 z9)).trans h_18
  replace h_30 := (n9 _ (ab_nn h_30 z9)).trans h_30
  replace kp := kp.new z9 n9
  have h_34 := e9
  clear e9 n9
  refine ab_putG (pc := 141) (k := 34) okX10 hO (by decide) (by decide) trivial w1089 rfl (Or.inr ⟨rfl, rfl, rfl⟩) dX10_init_141 (fun h e9 n9 => ?_)
  replace h_2 := (n9 _ (ab_ne h_2 hO (by first | (simp; done) | (simp; omega)))).trans h_2
  replace h_3 := (n9 _ (ab_ne h_3 hO (by first | (simp; done) | (simp; omega)))).trans h_3
  replace h_4 := (n9 _ (ab_ne h_4 hO (by first | (simp; done) | (simp; omega)))).trans h_4
  replace h_5 := (n9 _ (ab_ne h_5 hO (by first | (simp; done) | (simp; omega)))).trans h_5
  replace h_8 := (n9 _ (ab_ne h_8 hO (by first | (simp; done) | (simp; omega)))).trans h_8
  replace h_9 := (n9 _ (ab_ne h_9 hO (by first | (simp; done) | (simp; omega)))).trans h_9
  replace h_10 := (n9 _ (ab_ne h_10 hO (by first | (simp; done) | (simp; omega)))).trans h_10
  replace h_11 := (n9 _ (ab_ne h_11 hO (by first | (simp; done) | (simp; omega)))).trans h_11
  replace h_12 := (n9 _ (ab_ne h_12 hO (by first | (simp; done) | (simp; omega)))).trans h_12
  replace h_13 := (n9 _ (ab_ne h_13 hO (by first | (simp; done) | (simp; omega)))).trans h_13
  replace h_14 := (n9 _ (ab_ne h_14 hO (by first | (simp; done) | (simp; omega)))).trans h_14
  replace h_15 := (n9 _ (ab_ne h_15 hO (by first | (simp; done) | (simp; omega)))).trans h_15
  replace h_16 := (n9 _ (ab_ne h_16 hO (by first | (simp; done) | (simp; omega)))).trans h_16
  replace h_17 := (n9 _ (ab_ne h_17 hO (by first | (simp; done) | (simp; omega)))).trans h_17
  replace h_18 := (n9 _ (ab_ne h_18 hO (by first | (simp; done) | (simp; omega)))).trans h_18
  replace h_30 := (n9 _ (ab_ne h_30 hO (by first | (simp; done) | (simp; omega)))).trans h_30
  replace h_34 := (n9 _ (ab_ne h_34 hO (by first | (simp; done) | (simp; omega)))).trans h_34
  replace kp := kp.wr hO (cP_no (by simp)) n9
  replace hO := e9
  clear e9 n9
  replace hO : h m = some (kO 20 9 [vI 0, vI 0, vR a_2, vR a_3, vR a_4, vR a_5, vI 0, vI 0, vR a_8, vR a_9, vR a_10, vR a_11, vR a_12, vR a_13, vR a_14, vR a_15, vR a_16, vR a_17, vR a_18, vI 0, vI 0, vI 0, vI 0, vI 0, vI 0, vI 0, vI 0, vI 0, vI 0, vI 0, vR a_30, vI 0, vI 0, vI 0, vR a_34, vN, vN, vN, vN, vN, vI 0, vN, vN, vN, vN, vN, vI 0, vN]) := hO
  refine ab_aload_n (pc := 144) dX10_init_144 rfl ?_
  refine ab_bipush (pc := 145) dX10_init_145 (by decide) ?_
  refine ab_newZG (pc := 147) (65) (8) rfl (by decide) dX10_init_147 w1200 (fun a_35 h z9 e9 n9 => ?_)
  replace hO := (n9 _ (ab_nn hO z9)).trans hO
  replace h_2 := (n9 _ (ab_nn h_2 z9)).trans h_2
  replace h_3 := (n9 _ (ab_nn h_3 z9)).trans h_3
  replace h_4 := (n9 _ (ab_nn h_4 z9)).trans h_4
  replace h_5 := (n9 _ (ab_nn h_5 z9)).trans h_5
  replace h_8 := (n9 _ (ab_nn h_8 z9)).trans h_8
  replace h_9 := (n9 _ (ab_nn h_9 z9)).trans h_9
  replace h_10 := (n9 _ (ab_nn h_10 z9)).trans h_10
  replace h_11 := (n9 _ (ab_nn h_11 z9)).trans h_11
  replace h_12 := (n9 _ (ab_nn h_12 z9)).trans h_12
  replace h_13 := (n9 _ (ab_nn h_13 z9)).trans h_13
  replace h_14 := (n9 _ (ab_nn h_14 z9)).trans h_14
  replace h_15 := (n9 _ (ab_nn h_15 z9)).trans h_15
  replace h_16 := (n9 _ (ab_nn h_16 z9)).trans h_16
  replace h_17 := (n9 _ (ab_nn h_17 z9)).trans h_17
  replace h_18 := (n9 _ (ab_nn h_18 z9)).trans h_18
  replace h_30 := (n9 _ (ab_nn h_30 z9)).trans h_30
  replace h_34 := (n9 _ (ab_nn h_34 z9)).trans h_34
  replace kp := kp.new z9 n9
  have h_35 := e9
  clear e9 n9
  refine ab_putG (pc := 149) (k := 35) okX10 hO (by decide) (by decide) trivial w1090 rfl (Or.inr ⟨rfl, rfl, rfl⟩) dX10_init_149 (fun h e9 n9 => ?_)
  replace h_2 := (n9 _ (ab_ne h_2 hO (by first | (simp; done) | (simp; omega)))).trans h_2
  replace h_3 := (n9 _ (ab_ne h_3 hO (by first | (simp; done) | (simp; omega)))).trans h_3
  replace h_4 := (n9 _ (ab_ne h_4 hO (by first | (simp; done) | (simp; omega)))).trans h_4
  replace h_5 := (n9 _ (ab_ne h_5 hO (by first | (simp; done) | (simp; omega)))).trans h_5
  replace h_8 := (n9 _ (ab_ne h_8 hO (by first | (simp; done) | (simp; omega)))).trans h_8
  replace h_9 := (n9 _ (ab_ne h_9 hO (by first | (simp; done) | (simp; omega)))).trans h_9
  replace h_10 := (n9 _ (ab_ne h_10 hO (by first | (simp; done) | (simp; omega)))).trans h_10
  replace h_11 := (n9 _ (ab_ne h_11 hO (by first | (simp; done) | (simp; omega)))).trans h_11
  replace h_12 := (n9 _ (ab_ne h_12 hO (by first | (simp; done) | (simp; omega)))).trans h_12
  replace h_13 := (n9 _ (ab_ne h_13 hO (by first | (simp; done) | (simp; omega)))).trans h_13
  replace h_14 := (n9 _ (ab_ne h_14 hO (by first | (simp; done) | (simp; omega)))).trans h_14
  replace h_15 := (n9 _ (ab_ne h_15 hO (by first | (simp; done) | (simp; omega)))).trans h_15
  replace h_16 := (n9 _ (ab_ne h_16 hO (by first | (simp; done) | (simp; omega)))).trans h_16
  replace h_17 := (n9 _ (ab_ne h_17 hO (by first | (simp; done) | (simp; omega)))).trans h_17
  replace h_18 := (n9 _ (ab_ne h_18 hO (by first | (simp; done) | (simp; omega)))).trans h_18
  replace h_30 := (n9 _ (ab_ne h_30 hO (by first | (simp; done) | (simp; omega)))).trans h_30
  replace h_34 := (n9 _ (ab_ne h_34 hO (by first | (simp; done) | (simp; omega)))).trans h_34
  replace h_35 := (n9 _ (ab_ne h_35 hO (by first | (simp; done) | (simp; omega)))).trans h_35
  replace kp := kp.wr hO (cP_no (by simp)) n9
  replace hO := e9
  clear e9 n9
  replace hO : h m = some (kO 20 9 [vI 0, vI 0, vR a_2, vR a_3, vR a_4, vR a_5, vI 0, vI 0, vR a_8, vR a_9, vR a_10, vR a_11, vR a_12, vR a_13, vR a_14, vR a_15, vR a_16, vR a_17, vR a_18, vI 0, vI 0, vI 0, vI 0, vI 0, vI 0, vI 0, vI 0, vI 0, vI 0, vI 0, vR a_30, vI 0, vI 0, vI 0, vR a_34, vR a_35, vN, vN, vN, vN, vI 0, vN, vN, vN, vN, vN, vI 0, vN]) := hO
  refine ab_aload_n (pc := 152) dX10_init_152 rfl ?_
  refine ab_bipush (pc := 153) dX10_init_153 (by decide) ?_
  refine ab_newIG (pc := 155) (66) (8) rfl (by decide) dX10_init_155 w111 (fun a_36 h z9 e9 n9 => ?_)
  replace hO := (n9 _ (ab_nn hO z9)).trans hO
  replace h_2 := (n9 _ (ab_nn h_2 z9)).trans h_2
  replace h_3 := (n9 _ (ab_nn h_3 z9)).trans h_3
  replace h_4 := (n9 _ (ab_nn h_4 z9)).trans h_4
  replace h_5 := (n9 _ (ab_nn h_5 z9)).trans h_5
  replace h_8 := (n9 _ (ab_nn h_8 z9)).trans h_8
  replace h_9 := (n9 _ (ab_nn h_9 z9)).trans h_9
  replace h_10 := (n9 _ (ab_nn h_10 z9)).trans h_10
  replace h_11 := (n9 _ (ab_nn h_11 z9)).trans h_11
  replace h_12 := (n9 _ (ab_nn h_12 z9)).trans h_12
  replace h_13 := (n9 _ (ab_nn h_13 z9)).trans h_13
  replace h_14 := (n9 _ (ab_nn h_14 z9)).trans h_14
  replace h_15 := (n9 _ (ab_nn h_15 z9)).trans h_15
  replace h_16 := (n9 _ (ab_nn h_16 z9)).trans h_16
  replace h_17 := (n9 _ (ab_nn h_17 z9)).trans h_17
  replace h_18 := (n9 _ (ab_nn h_18 z9)).trans h_18
  replace h_30 := (n9 _ (ab_nn h_30 z9)).trans h_30
  replace h_34 := (n9 _ (ab_nn h_34 z9)).trans h_34
  replace h_35 := (n9 _ (ab_nn h_35 z9)).trans h_35
  replace kp := kp.new z9 n9
  have h_36 := e9
  clear e9 n9
  refine ab_putG (pc := 157) (k := 36) okX10 hO (by decide) (by decide) trivial w1091 rfl (Or.inr ⟨rfl, rfl, rfl⟩) dX10_init_157 (fun h e9 n9 => ?_)
  replace h_2 := (n9 _ (ab_ne h_2 hO (by first | (simp; done) | (simp; omega)))).trans h_2
  replace h_3 := (n9 _ (ab_ne h_3 hO (by first | (simp; done) | (simp; omega)))).trans h_3
  replace h_4 := (n9 _ (ab_ne h_4 hO (by first | (simp; done) | (simp; omega)))).trans h_4
  replace h_5 := (n9 _ (ab_ne h_5 hO (by first | (simp; done) | (simp; omega)))).trans h_5
  replace h_8 := (n9 _ (ab_ne h_8 hO (by first | (simp; done) | (simp; omega)))).trans h_8
  replace h_9 := (n9 _ (ab_ne h_9 hO (by first | (simp; done) | (simp; omega)))).trans h_9
  replace h_10 := (n9 _ (ab_ne h_10 hO (by first | (simp; done) | (simp; omega)))).trans h_10
  replace h_11 := (n9 _ (ab_ne h_11 hO (by first | (simp; done) | (simp; omega)))).trans h_11
  replace h_12 := (n9 _ (ab_ne h_12 hO (by first | (simp; done) | (simp; omega)))).trans h_12
  replace h_13 := (n9 _ (ab_ne h_13 hO (by first | (simp; done) | (simp; omega)))).trans h_13
  replace h_14 := (n9 _ (ab_ne h_14 hO (by first | (simp; done) | (simp; omega)))).trans h_14
  replace h_15 := (n9 _ (ab_ne h_15 hO (by first | (simp; done) | (simp; omega)))).trans h_15
  replace h_16 := (n9 _ (ab_ne h_16 hO (by first | (simp; done) | (simp; omega)))).trans h_16
  replace h_17 := (n9 _ (ab_ne h_17 hO (by first | (simp; done) | (simp; omega)))).trans h_17
  replace h_18 := (n9 _ (ab_ne h_18 hO (by first | (simp; done) | (simp; omega)))).trans h_18
  replace h_30 := (n9 _ (ab_ne h_30 hO (by first | (simp; done) | (simp; omega)))).trans h_30
  replace h_34 := (n9 _ (ab_ne h_34 hO (by first | (simp; done) | (simp; omega)))).trans h_34
  replace h_35 := (n9 _ (ab_ne h_35 hO (by first | (simp; done) | (simp; omega)))).trans h_35
  replace h_36 := (n9 _ (ab_ne h_36 hO (by first | (simp; done) | (simp; omega)))).trans h_36
  replace kp := kp.wr hO (cP_no (by simp)) n9
  replace hO := e9
  clear e9 n9
  replace hO : h m = some (kO 20 9 [vI 0, vI 0, vR a_2, vR a_3, vR a_4, vR a_5, vI 0, vI 0, vR a_8, vR a_9, vR a_10, vR a_11, vR a_12, vR a_13, vR a_14, vR a_15, vR a_16, vR a_17, vR a_18, vI 0, vI 0, vI 0, vI 0, vI 0, vI 0, vI 0, vI 0, vI 0, vI 0, vI 0, vR a_30, vI 0, vI 0, vI 0, vR a_34, vR a_35, vR a_36, vN, vN, vN, vI 0, vN, vN, vN, vN, vN, vI 0, vN]) := hO
  refine ab_aload_n (pc := 160) dX10_init_160 rfl ?_
  refine ab_bipush (pc := 161) dX10_init_161 (by decide) ?_
  refine ab_newIG (pc := 163) (67) (64) rfl (by decide) dX10_init_163 w111 (fun a_37 h z9 e9 n9 => ?_)
  replace hO := (n9 _ (ab_nn hO z9)).trans hO
  replace h_2 := (n9 _ (ab_nn h_2 z9)).trans h_2
  replace h_3 := (n9 _ (ab_nn h_3 z9)).trans h_3
  replace h_4 := (n9 _ (ab_nn h_4 z9)).trans h_4
  replace h_5 := (n9 _ (ab_nn h_5 z9)).trans h_5
  replace h_8 := (n9 _ (ab_nn h_8 z9)).trans h_8
  replace h_9 := (n9 _ (ab_nn h_9 z9)).trans h_9
  replace h_10 := (n9 _ (ab_nn h_10 z9)).trans h_10
  replace h_11 := (n9 _ (ab_nn h_11 z9)).trans h_11
  replace h_12 := (n9 _ (ab_nn h_12 z9)).trans h_12
  replace h_13 := (n9 _ (ab_nn h_13 z9)).trans h_13
  replace h_14 := (n9 _ (ab_nn h_14 z9)).trans h_14
  replace h_15 := (n9 _ (ab_nn h_15 z9)).trans h_15
  replace h_16 := (n9 _ (ab_nn h_16 z9)).trans h_16
  replace h_17 := (n9 _ (ab_nn h_17 z9)).trans h_17
  replace h_18 := (n9 _ (ab_nn h_18 z9)).trans h_18
  replace h_30 := (n9 _ (ab_nn h_30 z9)).trans h_30
  replace h_34 := (n9 _ (ab_nn h_34 z9)).trans h_34
  replace h_35 := (n9 _ (ab_nn h_35 z9)).trans h_35
  replace h_36 := (n9 _ (ab_nn h_36 z9)).trans h_36
  replace kp := kp.new z9 n9
  have h_37 := e9
  clear e9 n9
  refine ab_putG (pc := 165) (k := 37) okX10 hO (by decide) (by decide) trivial w1092 rfl (Or.inr ⟨rfl, rfl, rfl⟩) dX10_init_165 (fun h e9 n9 => ?_)
  replace h_2 := (n9 _ (ab_ne h_2 hO (by first | (simp; done) | (simp; omega)))).trans h_2
  replace h_3 := (n9 _ (ab_ne h_3 hO (by first | (simp; done) | (simp; omega)))).trans h_3
  replace h_4 := (n9 _ (ab_ne h_4 hO (by first | (simp; done) | (simp; omega)))).trans h_4
  replace h_5 := (n9 _ (ab_ne h_5 hO (by first | (simp; done) | (simp; omega)))).trans h_5
  replace h_8 := (n9 _ (ab_ne h_8 hO (by first | (simp; done) | (simp; omega)))).trans h_8
  replace h_9 := (n9 _ (ab_ne h_9 hO (by first | (simp; done) | (simp; omega)))).trans h_9
  replace h_10 := (n9 _ (ab_ne h_10 hO (by first | (simp; done) | (simp; omega)))).trans h_10
  replace h_11 := (n9 _ (ab_ne h_11 hO (by first | (simp; done) | (simp; omega)))).trans h_11
  replace h_12 := (n9 _ (ab_ne h_12 hO (by first | (simp; done) | (simp; omega)))).trans h_12
  replace h_13 := (n9 _ (ab_ne h_13 hO (by first | (simp; done) | (simp; omega)))).trans h_13
  replace h_14 := (n9 _ (ab_ne h_14 hO (by first | (simp; done) | (simp; omega)))).trans h_14
  replace h_15 := (n9 _ (ab_ne h_15 hO (by first | (simp; done) | (simp; omega)))).trans h_15
  replace h_16 := (n9 _ (ab_ne h_16 hO (by first | (simp; done) | (simp; omega)))).trans h_16
  replace h_17 := (n9 _ (ab_ne h_17 hO (by first | (simp; done) | (simp; omega)))).trans h_17
  replace h_18 := (n9 _ (ab_ne h_18 hO (by first | (simp; done) | (simp; omega)))).trans h_18
  replace h_30 := (n9 _ (ab_ne h_30 hO (by first | (simp; done) | (simp; omega)))).trans h_30
  replace h_34 := (n9 _ (ab_ne h_34 hO (by first | (simp; done) | (simp; omega)))).trans h_34
  replace h_35 := (n9 _ (ab_ne h_35 hO (by first | (simp; done) | (simp; omega)))).trans h_35
  replace h_36 := (n9 _ (ab_ne h_36 hO (by first | (simp; done) | (simp; omega)))).trans h_36
  replace h_37 := (n9 _ (ab_ne h_37 hO (by first | (simp; done) | (simp; omega)))).trans h_37
  replace kp := kp.wr hO (cP_no (by simp)) n9
  replace hO := e9
  clear e9 n9
  replace hO : h m = some (kO 20 9 [vI 0, vI 0, vR a_2, vR a_3, vR a_4, vR a_5, vI 0, vI 0, vR a_8, vR a_9, vR a_10, vR a_11, vR a_12, vR a_13, vR a_14, vR a_15, vR a_16, vR a_17, vR a_18, vI 0, vI 0, vI 0, vI 0, vI 0, vI 0, vI 0, vI 0, vI 0, vI 0, vI 0, vR a_30, vI 0, vI 0, vI 0, vR a_34, vR a_35, vR a_36, vR a_37, vN, vN, vI 0, vN, vN, vN, vN, vN, vI 0, vN]) := hO
  exact m_init_s20 hG hO h_2 h_3 h_4 h_5 h_8 h_9 h_10 h_11 h_12 h_13 h_14 h_15 h_16 h_17 h_18 h_30 h_34 h_35 h_36 h_37 kp
theorem m_init_s12 (hG : ab_G l E) {m : Nat} {a_2 a_3 a_4 a_5 a_8 a_9 a_10 a_11 a_12 a_13 a_14 a_15 : Nat} {h : AbH} (hO : h m = some (kO 20 9 [vI 0, vI 0, vR a_2, vR a_3, vR a_4, vR a_5, vI 0, vI 0, vR a_8, vR a_9, vR a_10, vR a_11, vR a_12, vR a_13, vR a_14, vR a_15, vN, vN, vN, vI 0, vI 0, vI 0, vI 0, vI 0, vI 0, vI 0, vI 0, vI 0, vI 0, vI 0, vN, vI 0, vI 0, vI 0, vN, vN, vN, vN, vN, vN, vI 0, vN, vN, vN, vN, vN, vI 0, vN])) (h_2 : h a_2 = some (kI 32 16 (fun _ => 0))) (h_3 : h a_3 = some (kI 33 160 (fun _ => 0))) (h_4 : h a_4 = some (kI 34 12800 (fun _ => 0))) (h_5 : h a_5 = some (kI 35 80 (fun _ => 0))) (h_8 : h a_8 = some (kI 38 12 (fun _ => 0))) (h_9 : h a_9 = some (kI 39 12 (fun _ => 0))) (h_10 : h a_10 = some (kI 40 12 (fun _ => 0))) (h_11 : h a_11 = some (kI 41 12 (fun _ => 0))) (h_12 : h a_12 = some (kI 42 960 (fun _ => 0))) (h_13 : h a_13 = some (kI 43 8 (fun _ => 0))) (h_14 : h a_14 = some (kI 44 3 (fun _ => 0))) (h_15 : h a_15 = some (kI 45 3 (fun _ => 0))) (kp : ab_kp (cP [20, 33]) h0 h) : ab_T l E Y_X10_init 1 16 9244 101 [some (vR m), none] [] h (cC h0 [20, 33] (fun r h' => r = none ∧ ∃ (A : Nat → Nat) (F : Nat → Int → Int), mR h' m A (fun _ => 0) F ∧ (∀ j : Int, 0 ≤ j → j < 160 → F 3 j = -1) ∧ ∀ k : Nat, k ≠ 3 → F k = fun _ => 0)) := by
  refine ab_aload_n (pc := 101) dX10_init_101 rfl ?_
  refine ab_sipush (pc := 102) dX10_init_102 (by decide) ?_
  refine ab_newIG (pc := 105) (46) (2000) rfl (by decide) dX10_init_105 w111 (fun a_16 h z9 e9 n9 => ?_)
  replace hO := (n9 _ (ab_nn hO z9)).trans hO
  replace h_2 := (n9 _ (ab_nn h_2 z9)).trans h_2
  replace h_3 := (n9 _ (ab_nn h_3 z9)).trans h_3
  replace h_4 := (n9 _ (ab_nn h_4 z9)).trans h_4
  replace h_5 := (n9 _ (ab_nn h_5 z9)).trans h_5
  replace h_8 := (n9 _ (ab_nn h_8 z9)).trans h_8
  replace h_9 := (n9 _ (ab_nn h_9 z9)).trans h_9
  replace h_10 := (n9 _ (ab_nn h_10 z9)).trans h_10
  replace h_11 := (n9 _ (ab_nn h_11 z9)).trans h_11
  replace h_12 := (n9 _ (ab_nn h_12 z9)).trans h_12
  replace h_13 := (n9 _ (ab_nn h_13 z9)).trans h_13
  replace h_14 := (n9 _ (ab_nn h_14 z9)).trans h_14
  replace h_15 := (n9 _ (ab_nn h_15 z9)).trans h_15
  replace kp := kp.new z9 n9
  have h_16 := e9
  clear e9 n9
  refine ab_putG (pc := 107) (k := 16) okX10 hO (by decide) (by decide) trivial w1071 rfl (Or.inr ⟨rfl, rfl, rfl⟩) dX10_init_107 (fun h e9 n9 => ?_)
  replace h_2 := (n9 _ (ab_ne h_2 hO (by first | (simp; done) | (simp; omega)))).trans h_2
  replace h_3 := (n9 _ (ab_ne h_3 hO (by first | (simp; done) | (simp; omega)))).trans h_3
  replace h_4 := (n9 _ (ab_ne h_4 hO (by first | (simp; done) | (simp; omega)))).trans h_4
  replace h_5 := (n9 _ (ab_ne h_5 hO (by first | (simp; done) | (simp; omega)))).trans h_5
  replace h_8 := (n9 _ (ab_ne h_8 hO (by first | (simp; done) | (simp; omega)))).trans h_8
  replace h_9 := (n9 _ (ab_ne h_9 hO (by first | (simp; done) | (simp; omega)))).trans h_9
  replace h_10 := (n9 _ (ab_ne h_10 hO (by first | (simp; done) | (simp; omega)))).trans h_10
  replace h_11 := (n9 _ (ab_ne h_11 hO (by first | (simp; done) | (simp; omega)))).trans h_11
  replace h_12 := (n9 _ (ab_ne h_12 hO (by first | (simp; done) | (simp; omega)))).trans h_12
  replace h_13 := (n9 _ (ab_ne h_13 hO (by first | (simp; done) | (simp; omega)))).trans h_13
  replace h_14 := (n9 _ (ab_ne h_14 hO (by first | (simp; done) | (simp; omega)))).trans h_14
  replace h_15 := (n9 _ (ab_ne h_15 hO (by first | (simp; done) | (simp; omega)))).trans h_15
  replace h_16 := (n9 _ (ab_ne h_16 hO (by first | (simp; done) | (simp; omega)))).trans h_16
  replace kp := kp.wr hO (cP_no (by simp)) n9
  replace hO := e9
  clear e9 n9
  replace hO : h m = some (kO 20 9 [vI 0, vI 0, vR a_2, vR a_3, vR a_4, vR a_5, vI 0, vI 0, vR a_8, vR a_9, vR a_10, vR a_11, vR a_12, vR a_13, vR a_14, vR a_15, vR a_16, vN, vN, vI 0, vI 0, vI 0, vI 0, vI 0, vI 0, vI 0, vI 0, vI 0, vI 0, vI 0, vN, vI 0, vI 0, vI 0, vN, vN, vN, vN, vN, vN, vI 0, vN, vN, vN, vN, vN, vI 0, vN]) := hO
  refine ab_aload_n (pc := 110) dX10_init_110 rfl ?_
  refine ab_sipush (pc := 111) dX10_init_111 (by decide) ?_
  refine ab_newIG (pc := 114) (47) (2000) rfl (by decide) dX10_init_114 w111 (fun a_17 h z9 e9 n9 => ?_)
  replace hO := (n9 _ (ab_nn hO z9)).trans hO
  replace h_2 := (n9 _ (ab_nn h_2 z9)).trans h_2
  replace h_3 := (n9 _ (ab_nn h_3 z9)).trans h_3
  replace h_4 := (n9 _ (ab_nn h_4 z9)).trans h_4
  replace h_5 := (n9 _ (ab_nn h_5 z9)).trans h_5
  replace h_8 := (n9 _ (ab_nn h_8 z9)).trans h_8
  replace h_9 := (n9 _ (ab_nn h_9 z9)).trans h_9
  replace h_10 := (n9 _ (ab_nn h_10 z9)).trans h_10
  replace h_11 := (n9 _ (ab_nn h_11 z9)).trans h_11
  replace h_12 := (n9 _ (ab_nn h_12 z9)).trans h_12
  replace h_13 := (n9 _ (ab_nn h_13 z9)).trans h_13
  replace h_14 := (n9 _ (ab_nn h_14 z9)).trans h_14
  replace h_15 := (n9 _ (ab_nn h_15 z9)).trans h_15
  replace h_16 := (n9 _ (ab_nn h_16 z9)).trans h_16
  replace kp := kp.new z9 n9
  have h_17 := e9
  clear e9 n9
  refine ab_putG (pc := 116) (k := 17) okX10 hO (by decide) (by decide) trivial w1072 rfl (Or.inr ⟨rfl, rfl, rfl⟩) dX10_init_116 (fun h e9 n9 => ?_)
  replace h_2 := (n9 _ (ab_ne h_2 hO (by first | (simp; done) | (simp; omega)))).trans h_2
  replace h_3 := (n9 _ (ab_ne h_3 hO (by first | (simp; done) | (simp; omega)))).trans h_3
  replace h_4 := (n9 _ (ab_ne h_4 hO (by first | (simp; done) | (simp; omega)))).trans h_4
  replace h_5 := (n9 _ (ab_ne h_5 hO (by first | (simp; done) | (simp; omega)))).trans h_5
  replace h_8 := (n9 _ (ab_ne h_8 hO (by first | (simp; done) | (simp; omega)))).trans h_8
  replace h_9 := (n9 _ (ab_ne h_9 hO (by first | (simp; done) | (simp; omega)))).trans h_9
  replace h_10 := (n9 _ (ab_ne h_10 hO (by first | (simp; done) | (simp; omega)))).trans h_10
  replace h_11 := (n9 _ (ab_ne h_11 hO (by first | (simp; done) | (simp; omega)))).trans h_11
  replace h_12 := (n9 _ (ab_ne h_12 hO (by first | (simp; done) | (simp; omega)))).trans h_12
  replace h_13 := (n9 _ (ab_ne h_13 hO (by first | (simp; done) | (simp; omega)))).trans h_13
  replace h_14 := (n9 _ (ab_ne h_14 hO (by first | (simp; done) | (simp; omega)))).trans h_14
  replace h_15 := (n9 _ (ab_ne h_15 hO (by first | (simp; done) | (simp; omega)))).trans h_15
  replace h_16 := (n9 _ (ab_ne h_16 hO (by first | (simp; done) | (simp; omega)))).trans h_16
  replace h_17 := (n9 _ (ab_ne h_17 hO (by first | (simp; done) | (simp; omega)))).trans h_17
  replace kp := kp.wr hO (cP_no (by simp)) n9
  replace hO := e9
  clear e9 n9
  replace hO : h m = some (kO 20 9 [vI 0, vI 0, vR a_2, vR a_3, vR a_4, vR a_5, vI 0, vI 0, vR a_8, vR a_9, vR a_10, vR a_11, vR a_12, vR a_13, vR a_14, vR a_15, vR a_16, vR a_17, vN, vI 0, vI 0, vI 0, vI 0, vI 0, vI 0, vI 0, vI 0, vI 0, vI 0, vI 0, vN, vI 0, vI 0, vI 0, vN, vN, vN, vN, vN, vN, vI 0, vN, vN, vN, vN, vN, vI 0, vN]) := hO
  refine ab_aload_n (pc := 119) dX10_init_119 rfl ?_
  refine ab_sipush (pc := 120) dX10_init_120 (by decide) ?_
  refine ab_newIG (pc := 123) (48) (2000) rfl (by decide) dX10_init_123 w111 (fun a_18 h z9 e9 n9 => ?_)
  replace hO := (n9 _ (ab_nn hO z9)).trans hO
  replace h_2 := (n9 _ (ab_nn h_2 z9)).trans h_2
  replace h_3 := (n9 _ (ab_nn h_3 z9)).trans h_3
  replace h_4 := (n9 _ (ab_nn h_4 z9)).trans h_4
  replace h_5 := (n9 _ (ab_nn h_5 z9)).trans h_5
  replace h_8 := (n9 _ (ab_nn h_8 z9)).trans h_8
  replace h_9 := (n9 _ (ab_nn h_9 z9)).trans h_9
  replace h_10 := (n9 _ (ab_nn h_10 z9)).trans h_10
  replace h_11 := (n9 _ (ab_nn h_11 z9)).trans h_11
  replace h_12 := (n9 _ (ab_nn h_12 z9)).trans h_12
  replace h_13 := (n9 _ (ab_nn h_13 z9)).trans h_13
  replace h_14 := (n9 _ (ab_nn h_14 z9)).trans h_14
  replace h_15 := (n9 _ (ab_nn h_15 z9)).trans h_15
  replace h_16 := (n9 _ (ab_nn h_16 z9)).trans h_16
  replace h_17 := (n9 _ (ab_nn h_17 z9)).trans h_17
  replace kp := kp.new z9 n9
  have h_18 := e9
  clear e9 n9
  refine ab_putG (pc := 125) (k := 18) okX10 hO (by decide) (by decide) trivial w1073 rfl (Or.inr ⟨rfl, rfl, rfl⟩) dX10_init_125 (fun h e9 n9 => ?_)
  replace h_2 := (n9 _ (ab_ne h_2 hO (by first | (simp; done) | (simp; omega)))).trans h_2
  replace h_3 := (n9 _ (ab_ne h_3 hO (by first | (simp; done) | (simp; omega)))).trans h_3
  replace h_4 := (n9 _ (ab_ne h_4 hO (by first | (simp; done) | (simp; omega)))).trans h_4
  replace h_5 := (n9 _ (ab_ne h_5 hO (by first | (simp; done) | (simp; omega)))).trans h_5
  replace h_8 := (n9 _ (ab_ne h_8 hO (by first | (simp; done) | (simp; omega)))).trans h_8
  replace h_9 := (n9 _ (ab_ne h_9 hO (by first | (simp; done) | (simp; omega)))).trans h_9
  replace h_10 := (n9 _ (ab_ne h_10 hO (by first | (simp; done) | (simp; omega)))).trans h_10
  replace h_11 := (n9 _ (ab_ne h_11 hO (by first | (simp; done) | (simp; omega)))).trans h_11
  replace h_12 := (n9 _ (ab_ne h_12 hO (by first | (simp; done) | (simp; omega)))).trans h_12
  replace h_13 := (n9 _ (ab_ne h_13 hO (by first | (simp; done) | (simp; omega)))).trans h_13
  replace h_14 := (n9 _ (ab_ne h_14 hO (by first | (simp; done) | (simp; omega)))).trans h_14
  replace h_15 := (n9 _ (ab_ne h_15 hO (by first | (simp; done) | (simp; omega)))).trans h_15
  replace h_16 := (n9 _ (ab_ne h_16 hO (by first | (simp; done) | (simp; omega)))).trans h_16
  replace h_17 := (n9 _ (ab_ne h_17 hO (by first | (simp; done) | (simp; omega)))).trans h_17
  replace h_18 := (n9 _ (ab_ne h_18 hO (by first | (simp; done) | (simp; omega)))).trans h_18
  replace kp := kp.wr hO (cP_no (by simp)) n9
  replace hO := e9
  clear e9 n9
  replace hO : h m = some (kO 20 9 [vI 0, vI 0, vR a_2, vR a_3, vR a_4, vR a_5, vI 0, vI 0, vR a_8, vR a_9, vR a_10, vR a_11, vR a_12, vR a_13, vR a_14, vR a_15, vR a_16, vR a_17, vR a_18, vI 0, vI 0, vI 0, vI 0, vI 0, vI 0, vI 0, vI 0, vI 0, vI 0, vI 0, vN, vI 0, vI 0, vI 0, vN, vN, vN, vN, vN, vN, vI 0, vN, vN, vN, vN, vN, vI 0, vN]) := hO
  refine ab_aload_n (pc := 128) dX10_init_128 rfl ?_
  refine ab_bipush (pc := 129) dX10_init_129 (by decide) ?_
  refine ab_newIG (pc := 131) (60) (80) rfl (by decide) dX10_init_131 w111 (fun a_30 h z9 e9 n9 => ?_)
  replace hO := (n9 _ (ab_nn hO z9)).trans hO
  replace h_2 := (n9 _ (ab_nn h_2 z9)).trans h_2
  replace h_3 := (n9 _ (ab_nn h_3 z9)).trans h_3
  replace h_4 := (n9 _ (ab_nn h_4 z9)).trans h_4
  replace h_5 := (n9 _ (ab_nn h_5 z9)).trans h_5
  replace h_8 := (n9 _ (ab_nn h_8 z9)).trans h_8
  replace h_9 := (n9 _ (ab_nn h_9 z9)).trans h_9
  replace h_10 := (n9 _ (ab_nn h_10 z9)).trans h_10
  replace h_11 := (n9 _ (ab_nn h_11 z9)).trans h_11
  replace h_12 := (n9 _ (ab_nn h_12 z9)).trans h_12
  replace h_13 := (n9 _ (ab_nn h_13 z9)).trans h_13
  replace h_14 := (n9 _ (ab_nn h_14 z9)).trans h_14
  replace h_15 := (n9 _ (ab_nn h_15 z9)).trans h_15
  replace h_16 := (n9 _ (ab_nn h_16 z9)).trans h_16
  replace h_17 := (n9 _ (ab_nn h_17 z9)).trans h_17
  replace h_18 := (n9 _ (ab_nn h_18 z9)).trans h_18
  replace kp := kp.new z9 n9
  have h_30 := e9
  clear e9 n9
  refine ab_putG (pc := 133) (k := 30) okX10 hO (by decide) (by decide) trivial w1085 rfl (Or.inr ⟨rfl, rfl, rfl⟩) dX10_init_133 (fun h e9 n9 => ?_)
  replace h_2 := (n9 _ (ab_ne h_2 hO (by first | (simp; done) | (simp; omega)))).trans h_2
  replace h_3 := (n9 _ (ab_ne h_3 hO (by first | (simp; done) | (simp; omega)))).trans h_3
  replace h_4 := (n9 _ (ab_ne h_4 hO (by first | (simp; done) | (simp; omega)))).trans h_4
  replace h_5 := (n9 _ (ab_ne h_5 hO (by first | (simp; done) | (simp; omega)))).trans h_5
  replace h_8 := (n9 _ (ab_ne h_8 hO (by first | (simp; done) | (simp; omega)))).trans h_8
  replace h_9 := (n9 _ (ab_ne h_9 hO (by first | (simp; done) | (simp; omega)))).trans h_9
  replace h_10 := (n9 _ (ab_ne h_10 hO (by first | (simp; done) | (simp; omega)))).trans h_10
  replace h_11 := (n9 _ (ab_ne h_11 hO (by first | (simp; done) | (simp; omega)))).trans h_11
  replace h_12 := (n9 _ (ab_ne h_12 hO (by first | (simp; done) | (simp; omega)))).trans h_12
  replace h_13 := (n9 _ (ab_ne h_13 hO (by first | (simp; done) | (simp; omega)))).trans h_13
  replace h_14 := (n9 _ (ab_ne h_14 hO (by first | (simp; done) | (simp; omega)))).trans h_14
  replace h_15 := (n9 _ (ab_ne h_15 hO (by first | (simp; done) | (simp; omega)))).trans h_15
  replace h_16 := (n9 _ (ab_ne h_16 hO (by first | (simp; done) | (simp; omega)))).trans h_16
  replace h_17 := (n9 _ (ab_ne h_17 hO (by first | (simp; done) | (simp; omega)))).trans h_17
  replace h_18 := (n9 _ (ab_ne h_18 hO (by first | (simp; done) | (simp; omega)))).trans h_18
  replace h_30 := (n9 _ (ab_ne h_30 hO (by first | (simp; done) | (simp; omega)))).trans h_30
  replace kp := kp.wr hO (cP_no (by simp)) n9
  replace hO := e9
  clear e9 n9
  replace hO : h m = some (kO 20 9 [vI 0, vI 0, vR a_2, vR a_3, vR a_4, vR a_5, vI 0, vI 0, vR a_8, vR a_9, vR a_10, vR a_11, vR a_12, vR a_13, vR a_14, vR a_15, vR a_16, vR a_17, vR a_18, vI 0, vI 0, vI 0, vI 0, vI 0, vI 0, vI 0, vI 0, vI 0, vI 0, vI 0, vR a_30, vI 0, vI 0, vI 0, vN, vN, vN, vN, vN, vN, vI 0, vN, vN, vN, vN, vN, vI 0, vN]) := hO
  exact m_init_s16 hG hO h_2 h_3 h_4 h_5 h_8 h_9 h_10 h_11 h_12 h_13 h_14 h_15 h_16 h_17 h_18 h_30 kp
theorem m_init_s8 (hG : ab_G l E) {m : Nat} {a_2 a_3 a_4 a_5 a_8 a_9 a_10 a_11 : Nat} {h : AbH} (hO : h m = some (kO 20 9 [vI 0, vI 0, vR a_2, vR a_3, vR a_4, vR a_5, vI 0, vI 0, vR a_8, vR a_9, vR a_10, vR a_11, vN, vN, vN, vN, vN, vN, vN, vI 0, vI 0, vI 0, vI 0, vI 0, vI 0, vI 0, vI 0, vI 0, vI 0, vI 0, vN, vI 0, vI 0, vI 0, vN, vN, vN, vN, vN, vN, vI 0, vN, vN, vN, vN, vN, vI 0, vN])) (h_2 : h a_2 = some (kI 32 16 (fun _ => 0))) (h_3 : h a_3 = some (kI 33 160 (fun _ => 0))) (h_4 : h a_4 = some (kI 34 12800 (fun _ => 0))) (h_5 : h a_5 = some (kI 35 80 (fun _ => 0))) (h_8 : h a_8 = some (kI 38 12 (fun _ => 0))) (h_9 : h a_9 = some (kI 39 12 (fun _ => 0))) (h_10 : h a_10 = some (kI 40 12 (fun _ => 0))) (h_11 : h a_11 = some (kI 41 12 (fun _ => 0))) (kp : ab_kp (cP [20, 33]) h0 h) : ab_T l E Y_X10_init 1 20 10218 70 [some (vR m), none] [] h (cC h0 [20, 33] (fun r h' => r = none ∧ ∃ (A : Nat → Nat) (F : Nat → Int → Int), mR h' m A (fun _ => 0) F ∧ (∀ j : Int, 0 ≤ j → j < 160 → F 3 j = -1) ∧ ∀ k : Nat, k ≠ 3 → F k = fun _ => 0)) := by
  refine ab_aload_n (pc := 70) dX10_init_70 rfl ?_
  refine ab_sipush (pc := 71) dX10_init_71 (by decide) ?_
  refine ab_newIG (pc := 74) (42) (960) rfl (by decide) dX10_init_74 w111 (fun a_12 h z9 e9 n9 => ?_)
  replace hO := (n9 _ (ab_nn hO z9)).trans hO
  replace h_2 := (n9 _ (ab_nn h_2 z9)).trans h_2
  replace h_3 := (n9 _ (ab_nn h_3 z9)).trans h_3
  replace h_4 := (n9 _ (ab_nn h_4 z9)).trans h_4
  replace h_5 := (n9 _ (ab_nn h_5 z9)).trans h_5
  replace h_8 := (n9 _ (ab_nn h_8 z9)).trans h_8
  replace h_9 := (n9 _ (ab_nn h_9 z9)).trans h_9
  replace h_10 := (n9 _ (ab_nn h_10 z9)).trans h_10
  replace h_11 := (n9 _ (ab_nn h_11 z9)).trans h_11
  replace kp := kp.new z9 n9
  have h_12 := e9
  clear e9 n9
  refine ab_putG (pc := 76) (k := 12) okX10 hO (by decide) (by decide) trivial w1067 rfl (Or.inr ⟨rfl, rfl, rfl⟩) dX10_init_76 (fun h e9 n9 => ?_)
  replace h_2 := (n9 _ (ab_ne h_2 hO (by first | (simp; done) | (simp; omega)))).trans h_2
  replace h_3 := (n9 _ (ab_ne h_3 hO (by first | (simp; done) | (simp; omega)))).trans h_3
  replace h_4 := (n9 _ (ab_ne h_4 hO (by first | (simp; done) | (simp; omega)))).trans h_4
  replace h_5 := (n9 _ (ab_ne h_5 hO (by first | (simp; done) | (simp; omega)))).trans h_5
  replace h_8 := (n9 _ (ab_ne h_8 hO (by first | (simp; done) | (simp; omega)))).trans h_8
  replace h_9 := (n9 _ (ab_ne h_9 hO (by first | (simp; done) | (simp; omega)))).trans h_9
  replace h_10 := (n9 _ (ab_ne h_10 hO (by first | (simp; done) | (simp; omega)))).trans h_10
  replace h_11 := (n9 _ (ab_ne h_11 hO (by first | (simp; done) | (simp; omega)))).trans h_11
  replace h_12 := (n9 _ (ab_ne h_12 hO (by first | (simp; done) | (simp; omega)))).trans h_12
  replace kp := kp.wr hO (cP_no (by simp)) n9
  replace hO := e9
  clear e9 n9
  replace hO : h m = some (kO 20 9 [vI 0, vI 0, vR a_2, vR a_3, vR a_4, vR a_5, vI 0, vI 0, vR a_8, vR a_9, vR a_10, vR a_11, vR a_12, vN, vN, vN, vN, vN, vN, vI 0, vI 0, vI 0, vI 0, vI 0, vI 0, vI 0, vI 0, vI 0, vI 0, vI 0, vN, vI 0, vI 0, vI 0, vN, vN, vN, vN, vN, vN, vI 0, vN, vN, vN, vN, vN, vI 0, vN]) := hO
  refine ab_aload_n (pc := 79) dX10_init_79 rfl ?_
  refine ab_bipush (pc := 80) dX10_init_80 (by decide) ?_
  refine ab_newIG (pc := 82) (43) (8) rfl (by decide) dX10_init_82 w111 (fun a_13 h z9 e9 n9 => ?_)
  replace hO := (n9 _ (ab_nn hO z9)).trans hO
  replace h_2 := (n9 _ (ab_nn h_2 z9)).trans h_2
  replace h_3 := (n9 _ (ab_nn h_3 z9)).trans h_3
  replace h_4 := (n9 _ (ab_nn h_4 z9)).trans h_4
  replace h_5 := (n9 _ (ab_nn h_5 z9)).trans h_5
  replace h_8 := (n9 _ (ab_nn h_8 z9)).trans h_8
  replace h_9 := (n9 _ (ab_nn h_9 z9)).trans h_9
  replace h_10 := (n9 _ (ab_nn h_10 z9)).trans h_10
  replace h_11 := (n9 _ (ab_nn h_11 z9)).trans h_11
  replace h_12 := (n9 _ (ab_nn h_12 z9)).trans h_12
  replace kp := kp.new z9 n9
  have h_13 := e9
  clear e9 n9
  refine ab_putG (pc := 84) (k := 13) okX10 hO (by decide) (by decide) trivial w1068 rfl (Or.inr ⟨rfl, rfl, rfl⟩) dX10_init_84 (fun h e9 n9 => ?_)
  replace h_2 := (n9 _ (ab_ne h_2 hO (by first | (simp; done) | (simp; omega)))).trans h_2
  replace h_3 := (n9 _ (ab_ne h_3 hO (by first | (simp; done) | (simp; omega)))).trans h_3
  replace h_4 := (n9 _ (ab_ne h_4 hO (by first | (simp; done) | (simp; omega)))).trans h_4
  replace h_5 := (n9 _ (ab_ne h_5 hO (by first | (simp; done) | (simp; omega)))).trans h_5
  replace h_8 := (n9 _ (ab_ne h_8 hO (by first | (simp; done) | (simp; omega)))).trans h_8
  replace h_9 := (n9 _ (ab_ne h_9 hO (by first | (simp; done) | (simp; omega)))).trans h_9
  replace h_10 := (n9 _ (ab_ne h_10 hO (by first | (simp; done) | (simp; omega)))).trans h_10
  replace h_11 := (n9 _ (ab_ne h_11 hO (by first | (simp; done) | (simp; omega)))).trans h_11
  replace h_12 := (n9 _ (ab_ne h_12 hO (by first | (simp; done) | (simp; omega)))).trans h_12
  replace h_13 := (n9 _ (ab_ne h_13 hO (by first | (simp; done) | (simp; omega)))).trans h_13
  replace kp := kp.wr hO (cP_no (by simp)) n9
  replace hO := e9
  clear e9 n9
  replace hO : h m = some (kO 20 9 [vI 0, vI 0, vR a_2, vR a_3, vR a_4, vR a_5, vI 0, vI 0, vR a_8, vR a_9, vR a_10, vR a_11, vR a_12, vR a_13, vN, vN, vN, vN, vN, vI 0, vI 0, vI 0, vI 0, vI 0, vI 0, vI 0, vI 0, vI 0, vI 0, vI 0, vN, vI 0, vI 0, vI 0, vN, vN, vN, vN, vN, vN, vI 0, vN, vN, vN, vN, vN, vI 0, vN]) := hO
  refine ab_aload_n (pc := 87) dX10_init_87 rfl ?_
  refine ab_iconst (pc := 88) dX10_init_88 (by decide) ?_
  refine ab_newIG (pc := 89) (44) (3) rfl (by decide) dX10_init_89 w111 (fun a_14 h z9 e9 n9 => ?_)
  replace hO := (n9 _ (ab_nn hO z9)).trans hO
  replace h_2 := (n9 _ (ab_nn h_2 z9)).trans h_2
  replace h_3 := (n9 _ (ab_nn h_3 z9)).trans h_3
  replace h_4 := (n9 _ (ab_nn h_4 z9)).trans h_4
  replace h_5 := (n9 _ (ab_nn h_5 z9)).trans h_5
  replace h_8 := (n9 _ (ab_nn h_8 z9)).trans h_8
  replace h_9 := (n9 _ (ab_nn h_9 z9)).trans h_9
  replace h_10 := (n9 _ (ab_nn h_10 z9)).trans h_10
  replace h_11 := (n9 _ (ab_nn h_11 z9)).trans h_11
  replace h_12 := (n9 _ (ab_nn h_12 z9)).trans h_12
  replace h_13 := (n9 _ (ab_nn h_13 z9)).trans h_13
  replace kp := kp.new z9 n9
  have h_14 := e9
  clear e9 n9
  refine ab_putG (pc := 91) (k := 14) okX10 hO (by decide) (by decide) trivial w1069 rfl (Or.inr ⟨rfl, rfl, rfl⟩) dX10_init_91 (fun h e9 n9 => ?_)
  replace h_2 := (n9 _ (ab_ne h_2 hO (by first | (simp; done) | (simp; omega)))).trans h_2
  replace h_3 := (n9 _ (ab_ne h_3 hO (by first | (simp; done) | (simp; omega)))).trans h_3
  replace h_4 := (n9 _ (ab_ne h_4 hO (by first | (simp; done) | (simp; omega)))).trans h_4
  replace h_5 := (n9 _ (ab_ne h_5 hO (by first | (simp; done) | (simp; omega)))).trans h_5
  replace h_8 := (n9 _ (ab_ne h_8 hO (by first | (simp; done) | (simp; omega)))).trans h_8
  replace h_9 := (n9 _ (ab_ne h_9 hO (by first | (simp; done) | (simp; omega)))).trans h_9
  replace h_10 := (n9 _ (ab_ne h_10 hO (by first | (simp; done) | (simp; omega)))).trans h_10
  replace h_11 := (n9 _ (ab_ne h_11 hO (by first | (simp; done) | (simp; omega)))).trans h_11
  replace h_12 := (n9 _ (ab_ne h_12 hO (by first | (simp; done) | (simp; omega)))).trans h_12
  replace h_13 := (n9 _ (ab_ne h_13 hO (by first | (simp; done) | (simp; omega)))).trans h_13
  replace h_14 := (n9 _ (ab_ne h_14 hO (by first | (simp; done) | (simp; omega)))).trans h_14
  replace kp := kp.wr hO (cP_no (by simp)) n9
  replace hO := e9
  clear e9 n9
  replace hO : h m = some (kO 20 9 [vI 0, vI 0, vR a_2, vR a_3, vR a_4, vR a_5, vI 0, vI 0, vR a_8, vR a_9, vR a_10, vR a_11, vR a_12, vR a_13, vR a_14, vN, vN, vN, vN, vI 0, vI 0, vI 0, vI 0, vI 0, vI 0, vI 0, vI 0, vI 0, vI 0, vI 0, vN, vI 0, vI 0, vI 0, vN, vN, vN, vN, vN, vN, vI 0, vN, vN, vN, vN, vN, vI 0, vN]) := hO
  refine ab_aload_n (pc := 94) dX10_init_94 rfl ?_
  refine ab_iconst (pc := 95) dX10_init_95 (by decide) ?_
  refine ab_newIG (pc := 96) (45) (3) rfl (by decide) dX10_init_96 w111 (fun a_15 h z9 e9 n9 => ?_)
  replace hO := (n9 _ (ab_nn hO z9)).trans hO
  replace h_2 := (n9 _ (ab_nn h_2 z9)).trans h_2
  replace h_3 := (n9 _ (ab_nn h_3 z9)).trans h_3
  replace h_4 := (n9 _ (ab_nn h_4 z9)).trans h_4
  replace h_5 := (n9 _ (ab_nn h_5 z9)).trans h_5
  replace h_8 := (n9 _ (ab_nn h_8 z9)).trans h_8
  replace h_9 := (n9 _ (ab_nn h_9 z9)).trans h_9
  replace h_10 := (n9 _ (ab_nn h_10 z9)).trans h_10
  replace h_11 := (n9 _ (ab_nn h_11 z9)).trans h_11
  replace h_12 := (n9 _ (ab_nn h_12 z9)).trans h_12
  replace h_13 := (n9 _ (ab_nn h_13 z9)).trans h_13
  replace h_14 := (n9 _ (ab_nn h_14 z9)).trans h_14
  replace kp := kp.new z9 n9
  have h_15 := e9
  clear e9 n9
  refine ab_putG (pc := 98) (k := 15) okX10 hO (by decide) (by decide) trivial w1070 rfl (Or.inr ⟨rfl, rfl, rfl⟩) dX10_init_98 (fun h e9 n9 => ?_)
  replace h_2 := (n9 _ (ab_ne h_2 hO (by first | (simp; done) | (simp; omega)))).trans h_2
  replace h_3 := (n9 _ (ab_ne h_3 hO (by first | (simp; done) | (simp; omega)))).trans h_3
  replace h_4 := (n9 _ (ab_ne h_4 hO (by first | (simp; done) | (simp; omega)))).trans h_4
  replace h_5 := (n9 _ (ab_ne h_5 hO (by first | (simp; done) | (simp; omega)))).trans h_5
  replace h_8 := (n9 _ (ab_ne h_8 hO (by first | (simp; done) | (simp; omega)))).trans h_8
  replace h_9 := (n9 _ (ab_ne h_9 hO (by first | (simp; done) | (simp; omega)))).trans h_9
  replace h_10 := (n9 _ (ab_ne h_10 hO (by first | (simp; done) | (simp; omega)))).trans h_10
  replace h_11 := (n9 _ (ab_ne h_11 hO (by first | (simp; done) | (simp; omega)))).trans h_11
  replace h_12 := (n9 _ (ab_ne h_12 hO (by first | (simp; done) | (simp; omega)))).trans h_12
  replace h_13 := (n9 _ (ab_ne h_13 hO (by first | (simp; done) | (simp; omega)))).trans h_13
  replace h_14 := (n9 _ (ab_ne h_14 hO (by first | (simp; done) | (simp; omega)))).trans h_14
  replace h_15 := (n9 _ (ab_ne h_15 hO (by first | (simp; done) | (simp; omega)))).trans h_15
  replace kp := kp.wr hO (cP_no (by simp)) n9
  replace hO := e9
  clear e9 n9
  replace hO : h m = some (kO 20 9 [vI 0, vI 0, vR a_2, vR a_3, vR a_4, vR a_5, vI 0, vI 0, vR a_8, vR a_9, vR a_10, vR a_11, vR a_12, vR a_13, vR a_14, vR a_15, vN, vN, vN, vI 0, vI 0, vI 0, vI 0, vI 0, vI 0, vI 0, vI 0, vI 0, vI 0, vI 0, vN, vI 0, vI 0, vI 0, vN, vN, vN, vN, vN, vN, vI 0, vN, vN, vN, vN, vN, vI 0, vN]) := hO
  exact m_init_s12 hG hO h_2 h_3 h_4 h_5 h_8 h_9 h_10 h_11 h_12 h_13 h_14 h_15 kp
theorem m_init_s4 (hG : ab_G l E) {m : Nat} {a_2 a_3 a_4 a_5 : Nat} {h : AbH} (hO : h m = some (kO 20 9 [vI 0, vI 0, vR a_2, vR a_3, vR a_4, vR a_5, vI 0, vI 0, vN, vN, vN, vN, vN, vN, vN, vN, vN, vN, vN, vI 0, vI 0, vI 0, vI 0, vI 0, vI 0, vI 0, vI 0, vI 0, vI 0, vI 0, vN, vI 0, vI 0, vI 0, vN, vN, vN, vN, vN, vN, vI 0, vN, vN, vN, vN, vN, vI 0, vN])) (h_2 : h a_2 = some (kI 32 16 (fun _ => 0))) (h_3 : h a_3 = some (kI 33 160 (fun _ => 0))) (h_4 : h a_4 = some (kI 34 12800 (fun _ => 0))) (h_5 : h a_5 = some (kI 35 80 (fun _ => 0))) (kp : ab_kp (cP [20, 33]) h0 h) : ab_T l E Y_X10_init 1 24 10266 38 [some (vR m), none] [] h (cC h0 [20, 33] (fun r h' => r = none ∧ ∃ (A : Nat → Nat) (F : Nat → Int → Int), mR h' m A (fun _ => 0) F ∧ (∀ j : Int, 0 ≤ j → j < 160 → F 3 j = -1) ∧ ∀ k : Nat, k ≠ 3 → F k = fun _ => 0)) := by
  refine ab_aload_n (pc := 38) dX10_init_38 rfl ?_
  refine ab_bipush (pc := 39) dX10_init_39 (by decide) ?_
  refine ab_newIG (pc := 41) (38) (12) rfl (by decide) dX10_init_41 w111 (fun a_8 h z9 e9 n9 => ?_)
  replace hO := (n9 _ (ab_nn hO z9)).trans hO
  replace h_2 := (n9 _ (ab_nn h_2 z9)).trans h_2
  replace h_3 := (n9 _ (ab_nn h_3 z9)).trans h_3
  replace h_4 := (n9 _ (ab_nn h_4 z9)).trans h_4
  replace h_5 := (n9 _ (ab_nn h_5 z9)).trans h_5
  replace kp := kp.new z9 n9
  have h_8 := e9
  clear e9 n9
  refine ab_putG (pc := 43) (k := 8) okX10 hO (by decide) (by decide) trivial w1063 rfl (Or.inr ⟨rfl, rfl, rfl⟩) dX10_init_43 (fun h e9 n9 => ?_)
  replace h_2 := (n9 _ (ab_ne h_2 hO (by first | (simp; done) | (simp; omega)))).trans h_2
  replace h_3 := (n9 _ (ab_ne h_3 hO (by first | (simp; done) | (simp; omega)))).trans h_3
  replace h_4 := (n9 _ (ab_ne h_4 hO (by first | (simp; done) | (simp; omega)))).trans h_4
  replace h_5 := (n9 _ (ab_ne h_5 hO (by first | (simp; done) | (simp; omega)))).trans h_5
  replace h_8 := (n9 _ (ab_ne h_8 hO (by first | (simp; done) | (simp; omega)))).trans h_8
  replace kp := kp.wr hO (cP_no (by simp)) n9
  replace hO := e9
  clear e9 n9
  replace hO : h m = some (kO 20 9 [vI 0, vI 0, vR a_2, vR a_3, vR a_4, vR a_5, vI 0, vI 0, vR a_8, vN, vN, vN, vN, vN, vN, vN, vN, vN, vN, vI 0, vI 0, vI 0, vI 0, vI 0, vI 0, vI 0, vI 0, vI 0, vI 0, vI 0, vN, vI 0, vI 0, vI 0, vN, vN, vN, vN, vN, vN, vI 0, vN, vN, vN, vN, vN, vI 0, vN]) := hO
  refine ab_aload_n (pc := 46) dX10_init_46 rfl ?_
  refine ab_bipush (pc := 47) dX10_init_47 (by decide) ?_
  refine ab_newIG (pc := 49) (39) (12) rfl (by decide) dX10_init_49 w111 (fun a_9 h z9 e9 n9 => ?_)
  replace hO := (n9 _ (ab_nn hO z9)).trans hO
  replace h_2 := (n9 _ (ab_nn h_2 z9)).trans h_2
  replace h_3 := (n9 _ (ab_nn h_3 z9)).trans h_3
  replace h_4 := (n9 _ (ab_nn h_4 z9)).trans h_4
  replace h_5 := (n9 _ (ab_nn h_5 z9)).trans h_5
  replace h_8 := (n9 _ (ab_nn h_8 z9)).trans h_8
  replace kp := kp.new z9 n9
  have h_9 := e9
  clear e9 n9
  refine ab_putG (pc := 51) (k := 9) okX10 hO (by decide) (by decide) trivial w1064 rfl (Or.inr ⟨rfl, rfl, rfl⟩) dX10_init_51 (fun h e9 n9 => ?_)
  replace h_2 := (n9 _ (ab_ne h_2 hO (by first | (simp; done) | (simp; omega)))).trans h_2
  replace h_3 := (n9 _ (ab_ne h_3 hO (by first | (simp; done) | (simp; omega)))).trans h_3
  replace h_4 := (n9 _ (ab_ne h_4 hO (by first | (simp; done) | (simp; omega)))).trans h_4
  replace h_5 := (n9 _ (ab_ne h_5 hO (by first | (simp; done) | (simp; omega)))).trans h_5
  replace h_8 := (n9 _ (ab_ne h_8 hO (by first | (simp; done) | (simp; omega)))).trans h_8
  replace h_9 := (n9 _ (ab_ne h_9 hO (by first | (simp; done) | (simp; omega)))).trans h_9
  replace kp := kp.wr hO (cP_no (by simp)) n9
  replace hO := e9
  clear e9 n9
  replace hO : h m = some (kO 20 9 [vI 0, vI 0, vR a_2, vR a_3, vR a_4, vR a_5, vI 0, vI 0, vR a_8, vR a_9, vN, vN, vN, vN, vN, vN, vN, vN, vN, vI 0, vI 0, vI 0, vI 0, vI 0, vI 0, vI 0, vI 0, vI 0, vI 0, vI 0, vN, vI 0, vI 0, vI 0, vN, vN, vN, vN, vN, vN, vI 0, vN, vN, vN, vN, vN, vI 0, vN]) := hO
  refine ab_aload_n (pc := 54) dX10_init_54 rfl ?_
  refine ab_bipush (pc := 55) dX10_init_55 (by decide) ?_
  refine ab_newIG (pc := 57) (40) (12) rfl (by decide) dX10_init_57 w111 (fun a_10 h z9 e9 n9 => ?_)
  replace hO := (n9 _ (ab_nn hO z9)).trans hO
  replace h_2 := (n9 _ (ab_nn h_2 z9)).trans h_2
  replace h_3 := (n9 _ (ab_nn h_3 z9)).trans h_3
  replace h_4 := (n9 _ (ab_nn h_4 z9)).trans h_4
  replace h_5 := (n9 _ (ab_nn h_5 z9)).trans h_5
  replace h_8 := (n9 _ (ab_nn h_8 z9)).trans h_8
  replace h_9 := (n9 _ (ab_nn h_9 z9)).trans h_9
  replace kp := kp.new z9 n9
  have h_10 := e9
  clear e9 n9
  refine ab_putG (pc := 59) (k := 10) okX10 hO (by decide) (by decide) trivial w1065 rfl (Or.inr ⟨rfl, rfl, rfl⟩) dX10_init_59 (fun h e9 n9 => ?_)
  replace h_2 := (n9 _ (ab_ne h_2 hO (by first | (simp; done) | (simp; omega)))).trans h_2
  replace h_3 := (n9 _ (ab_ne h_3 hO (by first | (simp; done) | (simp; omega)))).trans h_3
  replace h_4 := (n9 _ (ab_ne h_4 hO (by first | (simp; done) | (simp; omega)))).trans h_4
  replace h_5 := (n9 _ (ab_ne h_5 hO (by first | (simp; done) | (simp; omega)))).trans h_5
  replace h_8 := (n9 _ (ab_ne h_8 hO (by first | (simp; done) | (simp; omega)))).trans h_8
  replace h_9 := (n9 _ (ab_ne h_9 hO (by first | (simp; done) | (simp; omega)))).trans h_9
  replace h_10 := (n9 _ (ab_ne h_10 hO (by first | (simp; done) | (simp; omega)))).trans h_10
  replace kp := kp.wr hO (cP_no (by simp)) n9
  replace hO := e9
  clear e9 n9
  replace hO : h m = some (kO 20 9 [vI 0, vI 0, vR a_2, vR a_3, vR a_4, vR a_5, vI 0, vI 0, vR a_8, vR a_9, vR a_10, vN, vN, vN, vN, vN, vN, vN, vN, vI 0, vI 0, vI 0, vI 0, vI 0, vI 0, vI 0, vI 0, vI 0, vI 0, vI 0, vN, vI 0, vI 0, vI 0, vN, vN, vN, vN, vN, vN, vI 0, vN, vN, vN, vN, vN, vI 0, vN]) := hO
  refine ab_aload_n (pc := 62) dX10_init_62 rfl ?_
  refine ab_bipush (pc := 63) dX10_init_63 (by decide) ?_
  refine ab_newIG (pc := 65) (41) (12) rfl (by decide) dX10_init_65 w111 (fun a_11 h z9 e9 n9 => ?_)
  replace hO := (n9 _ (ab_nn hO z9)).trans hO
  replace h_2 := (n9 _ (ab_nn h_2 z9)).trans h_2
  replace h_3 := (n9 _ (ab_nn h_3 z9)).trans h_3
  replace h_4 := (n9 _ (ab_nn h_4 z9)).trans h_4
  replace h_5 := (n9 _ (ab_nn h_5 z9)).trans h_5
  replace h_8 := (n9 _ (ab_nn h_8 z9)).trans h_8
  replace h_9 := (n9 _ (ab_nn h_9 z9)).trans h_9
  replace h_10 := (n9 _ (ab_nn h_10 z9)).trans h_10
  replace kp := kp.new z9 n9
  have h_11 := e9
  clear e9 n9
  refine ab_putG (pc := 67) (k := 11) okX10 hO (by decide) (by decide) trivial w1066 rfl (Or.inr ⟨rfl, rfl, rfl⟩) dX10_init_67 (fun h e9 n9 => ?_)
  replace h_2 := (n9 _ (ab_ne h_2 hO (by first | (simp; done) | (simp; omega)))).trans h_2
  replace h_3 := (n9 _ (ab_ne h_3 hO (by first | (simp; done) | (simp; omega)))).trans h_3
  replace h_4 := (n9 _ (ab_ne h_4 hO (by first | (simp; done) | (simp; omega)))).trans h_4
  replace h_5 := (n9 _ (ab_ne h_5 hO (by first | (simp; done) | (simp; omega)))).trans h_5
  replace h_8 := (n9 _ (ab_ne h_8 hO (by first | (simp; done) | (simp; omega)))).trans h_8
  replace h_9 := (n9 _ (ab_ne h_9 hO (by first | (simp; done) | (simp; omega)))).trans h_9
  replace h_10 := (n9 _ (ab_ne h_10 hO (by first | (simp; done) | (simp; omega)))).trans h_10
  replace h_11 := (n9 _ (ab_ne h_11 hO (by first | (simp; done) | (simp; omega)))).trans h_11
  replace kp := kp.wr hO (cP_no (by simp)) n9
  replace hO := e9
  clear e9 n9
  replace hO : h m = some (kO 20 9 [vI 0, vI 0, vR a_2, vR a_3, vR a_4, vR a_5, vI 0, vI 0, vR a_8, vR a_9, vR a_10, vR a_11, vN, vN, vN, vN, vN, vN, vN, vI 0, vI 0, vI 0, vI 0, vI 0, vI 0, vI 0, vI 0, vI 0, vI 0, vI 0, vN, vI 0, vI 0, vI 0, vN, vN, vN, vN, vN, vN, vI 0, vN, vN, vN, vN, vN, vI 0, vN]) := hO
  exact m_init_s8 hG hO h_2 h_3 h_4 h_5 h_8 h_9 h_10 h_11 kp
theorem m_init (hG : ab_G l E) {m : Nat} (hO : h0 m = some (kO 20 9 [vI 0, vI 0, vN, vN, vN, vN, vI 0, vI 0, vN, vN, vN, vN, vN, vN, vN, vN, vN, vN, vN, vI 0, vI 0, vI 0, vI 0, vI 0, vI 0, vI 0, vI 0, vI 0, vI 0, vI 0, vN, vI 0, vI 0, vI 0, vN, vN, vN, vN, vN, vN, vI 0, vN, vN, vN, vN, vN, vI 0, vN])) : ab_M l E Y_X10_init 2 1 28 23322 [vR m] h0 (cC h0 [20, 33] (fun r h' => r = none ∧ ∃ (A : Nat → Nat) (F : Nat → Int → Int), mR h' m A (fun _ => 0) F ∧ (∀ j : Int, 0 ≤ j → j < 160 → F 3 j = -1) ∧ ∀ k : Nat, k ≠ 3 → F k = fun _ => 0)) := by
  refine ab_M.of (L0 := [some (vR m), none]) hG rfl rfl (Nat.le_of_ble_eq_true rfl) rfl ?_
  have kp : ab_kp (cP [20, 33]) h0 h0 := ab_kp0
  refine ab_aload_n (pc := 0) dX10_init_0 rfl ?_
  refine ab_obj (pc := 1) w1054 w37 w38 (by decide) (Nat.le_of_ble_eq_true rfl) dX10_init_1 ?_
  refine ab_aload_n (pc := 4) dX10_init_4 rfl ?_
  refine ab_bipush (pc := 5) dX10_init_5 (by decide) ?_
  refine ab_newIG (pc := 7) (32) (16) rfl (by decide) dX10_init_7 w111 (fun a_2 h z9 e9 n9 => ?_)
  replace hO := (n9 _ (ab_nn hO z9)).trans hO
  replace kp := kp.new z9 n9
  have h_2 := e9
  clear e9 n9
  refine ab_putG (pc := 9) (k := 2) okX10 hO (by decide) (by decide) trivial w1057 rfl (Or.inr ⟨rfl, rfl, rfl⟩) dX10_init_9 (fun h e9 n9 => ?_)
  replace h_2 := (n9 _ (ab_ne h_2 hO (by first | (simp; done) | (simp; omega)))).trans h_2
  replace kp := kp.wr hO (cP_no (by simp)) n9
  replace hO := e9
  clear e9 n9
  replace hO : h m = some (kO 20 9 [vI 0, vI 0, vR a_2, vN, vN, vN, vI 0, vI 0, vN, vN, vN, vN, vN, vN, vN, vN, vN, vN, vN, vI 0, vI 0, vI 0, vI 0, vI 0, vI 0, vI 0, vI 0, vI 0, vI 0, vI 0, vN, vI 0, vI 0, vI 0, vN, vN, vN, vN, vN, vN, vI 0, vN, vN, vN, vN, vN, vI 0, vN]) := hO
  refine ab_aload_n (pc := 12) dX10_init_12 rfl ?_
  refine ab_sipush (pc := 13) dX10_init_13 (by decide) ?_
  refine ab_newIG (pc := 16) (33) (160) rfl (by decide) dX10_init_16 w111 (fun a_3 h z9 e9 n9 => ?_)
  replace hO := (n9 _ (ab_nn hO z9)).trans hO
  replace h_2 := (n9 _ (ab_nn h_2 z9)).trans h_2
  replace kp := kp.new z9 n9
  have h_3 := e9
  clear e9 n9
  refine ab_putG (pc := 18) (k := 3) okX10 hO (by decide) (by decide) trivial w1058 rfl (Or.inr ⟨rfl, rfl, rfl⟩) dX10_init_18 (fun h e9 n9 => ?_)
  replace h_2 := (n9 _ (ab_ne h_2 hO (by first | (simp; done) | (simp; omega)))).trans h_2
  replace h_3 := (n9 _ (ab_ne h_3 hO (by first | (simp; done) | (simp; omega)))).trans h_3
  replace kp := kp.wr hO (cP_no (by simp)) n9
  replace hO := e9
  clear e9 n9
  replace hO : h m = some (kO 20 9 [vI 0, vI 0, vR a_2, vR a_3, vN, vN, vI 0, vI 0, vN, vN, vN, vN, vN, vN, vN, vN, vN, vN, vN, vI 0, vI 0, vI 0, vI 0, vI 0, vI 0, vI 0, vI 0, vI 0, vI 0, vI 0, vN, vI 0, vI 0, vI 0, vN, vN, vN, vN, vN, vN, vI 0, vN, vN, vN, vN, vN, vI 0, vN]) := hO
  refine ab_aload_n (pc := 21) dX10_init_21 rfl ?_
  refine ab_sipush (pc := 22) dX10_init_22 (by decide) ?_
  refine ab_newIG (pc := 25) (34) (12800) rfl (by decide) dX10_init_25 w111 (fun a_4 h z9 e9 n9 => ?_)
  replace hO := (n9 _ (ab_nn hO z9)).trans hO
  replace h_2 := (n9 _ (ab_nn h_2 z9)).trans h_2
  replace h_3 := (n9 _ (ab_nn h_3 z9)).trans h_3
  replace kp := kp.new z9 n9
  have h_4 := e9
  clear e9 n9
  refine ab_putG (pc := 27) (k := 4) okX10 hO (by decide) (by decide) trivial w1059 rfl (Or.inr ⟨rfl, rfl, rfl⟩) dX10_init_27 (fun h e9 n9 => ?_)
  replace h_2 := (n9 _ (ab_ne h_2 hO (by first | (simp; done) | (simp; omega)))).trans h_2
  replace h_3 := (n9 _ (ab_ne h_3 hO (by first | (simp; done) | (simp; omega)))).trans h_3
  replace h_4 := (n9 _ (ab_ne h_4 hO (by first | (simp; done) | (simp; omega)))).trans h_4
  replace kp := kp.wr hO (cP_no (by simp)) n9
  replace hO := e9
  clear e9 n9
  replace hO : h m = some (kO 20 9 [vI 0, vI 0, vR a_2, vR a_3, vR a_4, vN, vI 0, vI 0, vN, vN, vN, vN, vN, vN, vN, vN, vN, vN, vN, vI 0, vI 0, vI 0, vI 0, vI 0, vI 0, vI 0, vI 0, vI 0, vI 0, vI 0, vN, vI 0, vI 0, vI 0, vN, vN, vN, vN, vN, vN, vI 0, vN, vN, vN, vN, vN, vI 0, vN]) := hO
  refine ab_aload_n (pc := 30) dX10_init_30 rfl ?_
  refine ab_bipush (pc := 31) dX10_init_31 (by decide) ?_
  refine ab_newIG (pc := 33) (35) (80) rfl (by decide) dX10_init_33 w111 (fun a_5 h z9 e9 n9 => ?_)
  replace hO := (n9 _ (ab_nn hO z9)).trans hO
  replace h_2 := (n9 _ (ab_nn h_2 z9)).trans h_2
  replace h_3 := (n9 _ (ab_nn h_3 z9)).trans h_3
  replace h_4 := (n9 _ (ab_nn h_4 z9)).trans h_4
  replace kp := kp.new z9 n9
  have h_5 := e9
  clear e9 n9
  refine ab_putG (pc := 35) (k := 5) okX10 hO (by decide) (by decide) trivial w1060 rfl (Or.inr ⟨rfl, rfl, rfl⟩) dX10_init_35 (fun h e9 n9 => ?_)
  replace h_2 := (n9 _ (ab_ne h_2 hO (by first | (simp; done) | (simp; omega)))).trans h_2
  replace h_3 := (n9 _ (ab_ne h_3 hO (by first | (simp; done) | (simp; omega)))).trans h_3
  replace h_4 := (n9 _ (ab_ne h_4 hO (by first | (simp; done) | (simp; omega)))).trans h_4
  replace h_5 := (n9 _ (ab_ne h_5 hO (by first | (simp; done) | (simp; omega)))).trans h_5
  replace kp := kp.wr hO (cP_no (by simp)) n9
  replace hO := e9
  clear e9 n9
  replace hO : h m = some (kO 20 9 [vI 0, vI 0, vR a_2, vR a_3, vR a_4, vR a_5, vI 0, vI 0, vN, vN, vN, vN, vN, vN, vN, vN, vN, vN, vN, vI 0, vI 0, vI 0, vI 0, vI 0, vI 0, vI 0, vI 0, vI 0, vI 0, vI 0, vN, vI 0, vI 0, vI 0, vN, vN, vN, vN, vN, vN, vI 0, vN, vN, vN, vN, vN, vI 0, vN]) := hO
  exact m_init_s4 hG hO h_2 h_3 h_4 h_5 kp
theorem c_newSearch (hG : ab_G l E) {a : Nat} (hs : h0 a = some (kO 8 3 [vN, vN, vI 0, vI 0, vI 0, vI 0, vI 0, vI 0, vI 0, vI 0, vI 0, vI 0])) : ab_M l E Y_X4_init 1 1 1 60 [vR a] h0 (cC h0 [8] (fun r h' => r = none ∧ ∃ b : Nat, h' a = some (kO 8 3 [vR b, vN, vI 0, vI 0, vI 0, vI 0, vI 0, vI 0, vI 0, vI 0, vI 0, vI 0]) ∧ h' b = some (kI 9 60 (fun _ => 0)))) := by
  refine ab_M.of (L0 := [some (vR a)]) hG rfl rfl (Nat.le_of_ble_eq_true rfl) rfl ?_
  have kp : ab_kp (cP [8]) h0 h0 := ab_kp0
  refine ab_aload_n (pc := 0) dX4_init_0 rfl ?_
  refine ab_obj (pc := 1) w69 w37 w38 (by decide) (Nat.le_of_ble_eq_true rfl) dX4_init_1 ?_
  refine ab_aload_n (pc := 4) dX4_init_4 rfl ?_
  refine ab_bipush (pc := 5) dX4_init_5 (by decide) ?_
  refine ab_newIG (pc := 7) (9) (60) rfl (by decide) dX4_init_7 w111 (fun a_hm h z9 e9 n9 => ?_)
  replace hs := (n9 _ (ab_nn hs z9)).trans hs
  replace kp := kp.new z9 n9
  have hm := e9
  clear e9 n9
  refine ab_putG (pc := 9) (k := 0) okX4 hs (by decide) (by decide) trivial w70 rfl (Or.inr ⟨rfl, rfl, rfl⟩) dX4_init_9 (fun h e9 n9 => ?_)
  replace hm := (n9 _ (ab_ne hm hs (by first | (simp; done) | (simp; omega)))).trans hm
  replace kp := kp.wr hs (cP_no (by simp)) n9
  replace hs := e9
  clear e9 n9
  refine ab_vret (pc := 12) dX4_init_12 rfl ?_
  exact ⟨_, rfl, kp, rfl, _, hs, hm⟩
theorem c_init (hG : ab_G l E) {x : Nat} (hx : h0 x = some (kO 2 8 [vN, vI 0, vN, vI 0, vN, vN, vN, vN, vN])) : ab_M l E Y_X9_init 1 3 9 532 [vR x] h0 (cC h0 [2, 6, 8, 600] (fun r h' => r = none ∧ ∃ (B : Nat → Nat) (C : Nat → Int → Int) (SA : Nat → Int → Option Nat) (q : Nat → Int), ∀ (s : Nat → Int) (F : Nat → Int → Int), s 1 = 0 → s 7 = 0 → s 23 = 0 → (∀ j : Int, F 35 j = 0) → RCx h' x B s F C SA none q)) := by
  refine ab_M.of (L0 := [some (vR x)]) hG rfl rfl (Nat.le_of_ble_eq_true rfl) rfl ?_
  have kp : ab_kp (cP [2, 6, 8, 600]) h0 h0 := ab_kp0
  refine ab_aload_n (pc := 0) dX9_init_0 rfl ?_
  refine ab_obj (pc := 1) w36 w37 w38 (by decide) (Nat.le_of_ble_eq_true rfl) dX9_init_1 ?_
  refine ab_aload_n (pc := 4) dX9_init_4 rfl ?_
  refine ab_bipush (pc := 5) dX9_init_5 (by decide) ?_
  refine ab_newAG2 (pc := 7) (3) (16) rfl (by decide) dX9_init_7 w39 w40 (fun a_hS h z9 e9 n9 => ?_)
  replace hx := (n9 _ (ab_nn hx z9)).trans hx
  replace kp := kp.new z9 n9
  have hS := e9
  clear e9 n9
  refine ab_putG (pc := 10) (k := 0) okX9 hx (by decide) (by decide) trivial w112 rfl (Or.inr ⟨rfl, rfl, rfl⟩) dX9_init_10 (fun h e9 n9 => ?_)
  replace hS := (n9 _ (ab_ne hS hx (by first | (simp; done) | (simp; omega)))).trans hS
  replace kp := kp.wr hx (cP_no (by simp)) n9
  replace hx := e9
  clear e9 n9
  refine ab_aload_n (pc := 13) dX9_init_13 rfl ?_
  refine ab_bipush (pc := 14) dX9_init_14 (by decide) ?_
  refine ab_newAG2 (pc := 16) (4) (12) rfl (by decide) dX9_init_16 w41 w42 (fun a_hL h z9 e9 n9 => ?_)
  replace hx := (n9 _ (ab_nn hx z9)).trans hx
  replace hS := (n9 _ (ab_nn hS z9)).trans hS
  replace kp := kp.new z9 n9
  have hL := e9
  clear e9 n9
  refine ab_putG (pc := 19) (k := 2) okX9 hx (by decide) (by decide) trivial w114 rfl (Or.inr ⟨rfl, rfl, rfl⟩) dX9_init_19 (fun h e9 n9 => ?_)
  replace hS := (n9 _ (ab_ne hS hx (by first | (simp; done) | (simp; omega)))).trans hS
  replace hL := (n9 _ (ab_ne hL hx (by first | (simp; done) | (simp; omega)))).trans hL
  replace kp := kp.wr hx (cP_no (by simp)) n9
  replace hx := e9
  clear e9 n9
  refine ab_aload_n (pc := 22) dX9_init_22 rfl ?_
  refine ab_bipush (pc := 23) dX9_init_23 (by decide) ?_
  refine ab_newAG2 (pc := 25) (5) (8) rfl (by decide) dX9_init_25 w43 w44 (fun a_hM h z9 e9 n9 => ?_)
  replace hx := (n9 _ (ab_nn hx z9)).trans hx
  replace hS := (n9 _ (ab_nn hS z9)).trans hS
  replace hL := (n9 _ (ab_nn hL z9)).trans hL
  replace kp := kp.new z9 n9
  have hM := e9
  clear e9 n9
  refine ab_putG (pc := 28) (k := 4) okX9 hx (by decide) (by decide) trivial w116 rfl (Or.inr ⟨rfl, rfl, rfl⟩) dX9_init_28 (fun h e9 n9 => ?_)
  replace hS := (n9 _ (ab_ne hS hx (by first | (simp; done) | (simp; omega)))).trans hS
  replace hL := (n9 _ (ab_ne hL hx (by first | (simp; done) | (simp; omega)))).trans hL
  replace hM := (n9 _ (ab_ne hM hx (by first | (simp; done) | (simp; omega)))).trans hM
  replace kp := kp.wr hx (cP_no (by simp)) n9
  replace hx := e9
  clear e9 n9
  refine ab_aload_n (pc := 31) dX9_init_31 rfl ?_
  refine ab_iconst (pc := 32) dX9_init_32 (by decide) ?_
  refine ab_newAG2 (pc := 33) (6) (1) rfl (by decide) dX9_init_33 w41 w42 (fun a_hQ h z9 e9 n9 => ?_)
  replace hx := (n9 _ (ab_nn hx z9)).trans hx
  replace hS := (n9 _ (ab_nn hS z9)).trans hS
  replace hL := (n9 _ (ab_nn hL z9)).trans hL
  replace hM := (n9 _ (ab_nn hM z9)).trans hM
  replace kp := kp.new z9 n9
  have hQ := e9
  clear e9 n9
  refine ab_dup (pc := 36) dX9_init_36 rfl ?_
  refine ab_iconst (pc := 37) dX9_init_37 (by decide) ?_
  refine ab_newG (pc := 38) (600) okX3 rfl rfl w45 w46 w3 dX9_init_38 (fun a_hp h z9 e9 n9 => ?_)
  replace hx := (n9 _ (ab_nn hx z9)).trans hx
  replace hS := (n9 _ (ab_nn hS z9)).trans hS
  replace hL := (n9 _ (ab_nn hL z9)).trans hL
  replace hM := (n9 _ (ab_nn hM z9)).trans hM
  replace hQ := (n9 _ (ab_nn hQ z9)).trans hQ
  replace kp := kp.new z9 n9
  have hp := e9
  clear e9 n9
  refine ab_dup (pc := 41) dX9_init_41 rfl ?_
  refine ab_iconst (pc := 42) dX9_init_42 (by decide) ?_
  refine ab_iconst (pc := 43) dX9_init_43 (by decide) ?_
  refine ab_iconst (pc := 44) dX9_init_44 (by decide) ?_
  refine ab_callI (pc := 45) (c_newPower hG hp (by decide) (Or.inl rfl)) (fun _ _ hx => absurd hx cC_no) ⟨w47, w3, w49, by decide, pd1⟩ w48 ⟨rfl, rfl⟩ rfl (by omega) (by decide) (Nat.le_of_ble_eq_true rfl) dX9_init_45 ?_
  rintro _ h ⟨_, e9, kq, rfl, hp9⟩
  cases e9
  replace hx := kq _ _ hx (by unfold cP; first | (simp; done) | (simp; omega))
  replace hS := kq _ _ hS (by unfold cP; first | (simp; done) | (simp; omega))
  replace hL := kq _ _ hL (by unfold cP; first | (simp; done) | (simp; omega))
  replace hM := kq _ _ hM (by unfold cP; first | (simp; done) | (simp; omega))
  replace hQ := kq _ _ hQ (by unfold cP; first | (simp; done) | (simp; omega))
  replace kp := kp.cal kq (by first | (simp; done) | (simp; omega))
  replace hp := hp9
  refine ab_aastG (pc := 48) hQ (by first | decide | omega) hp rfl (Or.inl w1421) (by omega) (by omega) dX9_init_48 (fun h e9 n9 => ?_)
  replace hx := (n9 _ (ab_ne hx hQ (by first | (simp; done) | (simp; omega)))).trans hx
  replace hS := (n9 _ (ab_ne hS hQ (by first | (simp; done) | (simp; omega)))).trans hS
  replace hL := (n9 _ (ab_ne hL hQ (by first | (simp; done) | (simp; omega)))).trans hL
  replace hM := (n9 _ (ab_ne hM hQ (by first | (simp; done) | (simp; omega)))).trans hM
  replace hp := (n9 _ (ab_ne hp hQ (by first | (simp; done) | (simp; omega)))).trans hp
  replace kp := kp.wr hQ (cP_no (by simp)) n9
  replace hQ := e9
  clear e9 n9
  refine ab_putG (pc := 49) (k := 5) okX9 hx (by decide) (by decide) trivial w117 rfl (Or.inr ⟨rfl, rfl, rfl⟩) dX9_init_49 (fun h e9 n9 => ?_)
  replace hS := (n9 _ (ab_ne hS hx (by first | (simp; done) | (simp; omega)))).trans hS
  replace hL := (n9 _ (ab_ne hL hx (by first | (simp; done) | (simp; omega)))).trans hL
  replace hM := (n9 _ (ab_ne hM hx (by first | (simp; done) | (simp; omega)))).trans hM
  replace hQ := (n9 _ (ab_ne hQ hx (by first | (simp; done) | (simp; omega)))).trans hQ
  replace hp := (n9 _ (ab_ne hp hx (by first | (simp; done) | (simp; omega)))).trans hp
  replace kp := kp.wr hx (cP_no (by simp)) n9
  replace hx := e9
  clear e9 n9
  refine ab_aload_n (pc := 52) dX9_init_52 rfl ?_
  refine ab_newG (pc := 53) (8) okX4 rfl rfl w64 w65 w4 dX9_init_53 (fun a_hs h z9 e9 n9 => ?_)
  replace hx := (n9 _ (ab_nn hx z9)).trans hx
  replace hS := (n9 _ (ab_nn hS z9)).trans hS
  replace hL := (n9 _ (ab_nn hL z9)).trans hL
  replace hM := (n9 _ (ab_nn hM z9)).trans hM
  replace hQ := (n9 _ (ab_nn hQ z9)).trans hQ
  replace hp := (n9 _ (ab_nn hp z9)).trans hp
  replace kp := kp.new z9 n9
  have hs := e9
  clear e9 n9
  refine ab_dup (pc := 56) dX9_init_56 rfl ?_
  refine ab_callIN (pc := 57) (c_newSearch hG hs) (fun _ _ hx => absurd hx cC_no) ⟨w66, w4, w68, by decide, pd0⟩ w67 ⟨rfl, rfl⟩ rfl (by omega) (by decide) (Nat.le_of_ble_eq_true rfl) dX9_init_57 ?_
  rintro _ h ⟨_, e9, kq, rfl, b9, hs9, hm9⟩
  cases e9
  replace hx := kq _ _ hx (by unfold cP; first | (simp; done) | (simp; omega))
  replace hS := kq _ _ hS (by unfold cP; first | (simp; done) | (simp; omega))
  replace hL := kq _ _ hL (by unfold cP; first | (simp; done) | (simp; omega))
  replace hM := kq _ _ hM (by unfold cP; first | (simp; done) | (simp; omega))
  replace hQ := kq _ _ hQ (by unfold cP; first | (simp; done) | (simp; omega))
  replace hp := kq _ _ hp (by unfold cP; first | (simp; done) | (simp; omega))
  replace kp := kp.cal kq (by first | (simp; done) | (simp; omega))
  replace hs := hs9
  have hm := hm9
  refine ab_putG (pc := 60) (k := 6) okX9 hx (by decide) (by decide) trivial w118 rfl (Or.inr ⟨rfl, rfl, rfl⟩) dX9_init_60 (fun h e9 n9 => ?_)
  replace hS := (n9 _ (ab_ne hS hx (by first | (simp; done) | (simp; omega)))).trans hS
  replace hL := (n9 _ (ab_ne hL hx (by first | (simp; done) | (simp; omega)))).trans hL
  replace hM := (n9 _ (ab_ne hM hx (by first | (simp; done) | (simp; omega)))).trans hM
  replace hQ := (n9 _ (ab_ne hQ hx (by first | (simp; done) | (simp; omega)))).trans hQ
  replace hp := (n9 _ (ab_ne hp hx (by first | (simp; done) | (simp; omega)))).trans hp
  replace hs := (n9 _ (ab_ne hs hx (by first | (simp; done) | (simp; omega)))).trans hs
  replace hm := (n9 _ (ab_ne hm hx (by first | (simp; done) | (simp; omega)))).trans hm
  replace kp := kp.wr hx (cP_no (by simp)) n9
  replace hx := e9
  clear e9 n9
  refine ab_aload_n (pc := 63) dX9_init_63 rfl ?_
  refine ab_bipush (pc := 64) dX9_init_64 (by decide) ?_
  refine ab_newIG (pc := 66) (10) (60) rfl (by decide) dX9_init_66 w111 (fun a_hl h z9 e9 n9 => ?_)
  replace hx := (n9 _ (ab_nn hx z9)).trans hx
  replace hS := (n9 _ (ab_nn hS z9)).trans hS
  replace hL := (n9 _ (ab_nn hL z9)).trans hL
  replace hM := (n9 _ (ab_nn hM z9)).trans hM
  replace hQ := (n9 _ (ab_nn hQ z9)).trans hQ
  replace hp := (n9 _ (ab_nn hp z9)).trans hp
  replace hs := (n9 _ (ab_nn hs z9)).trans hs
  replace hm := (n9 _ (ab_nn hm z9)).trans hm
  replace kp := kp.new z9 n9
  have hl := e9
  clear e9 n9
  refine ab_putG (pc := 68) (k := 7) okX9 hx (by decide) (by decide) trivial w119 rfl (Or.inr ⟨rfl, rfl, rfl⟩) dX9_init_68 (fun h e9 n9 => ?_)
  replace hS := (n9 _ (ab_ne hS hx (by first | (simp; done) | (simp; omega)))).trans hS
  replace hL := (n9 _ (ab_ne hL hx (by first | (simp; done) | (simp; omega)))).trans hL
  replace hM := (n9 _ (ab_ne hM hx (by first | (simp; done) | (simp; omega)))).trans hM
  replace hQ := (n9 _ (ab_ne hQ hx (by first | (simp; done) | (simp; omega)))).trans hQ
  replace hp := (n9 _ (ab_ne hp hx (by first | (simp; done) | (simp; omega)))).trans hp
  replace hs := (n9 _ (ab_ne hs hx (by first | (simp; done) | (simp; omega)))).trans hs
  replace hm := (n9 _ (ab_ne hm hx (by first | (simp; done) | (simp; omega)))).trans hm
  replace hl := (n9 _ (ab_ne hl hx (by first | (simp; done) | (simp; omega)))).trans hl
  replace kp := kp.wr hx (cP_no (by simp)) n9
  replace hx := e9
  clear e9 n9
  refine ab_aload_n (pc := 71) dX9_init_71 rfl ?_
  refine ab_sipush (pc := 72) dX9_init_72 (by decide) ?_
  refine ab_newIG (pc := 75) (11) (360) rfl (by decide) dX9_init_75 w111 (fun a_hg h z9 e9 n9 => ?_)
  replace hx := (n9 _ (ab_nn hx z9)).trans hx
  replace hS := (n9 _ (ab_nn hS z9)).trans hS
  replace hL := (n9 _ (ab_nn hL z9)).trans hL
  replace hM := (n9 _ (ab_nn hM z9)).trans hM
  replace hQ := (n9 _ (ab_nn hQ z9)).trans hQ
  replace hp := (n9 _ (ab_nn hp z9)).trans hp
  replace hs := (n9 _ (ab_nn hs z9)).trans hs
  replace hm := (n9 _ (ab_nn hm z9)).trans hm
  replace hl := (n9 _ (ab_nn hl z9)).trans hl
  replace kp := kp.new z9 n9
  have hg := e9
  clear e9 n9
  refine ab_putG (pc := 77) (k := 8) okX9 hx (by decide) (by decide) trivial w120 rfl (Or.inr ⟨rfl, rfl, rfl⟩) dX9_init_77 (fun h e9 n9 => ?_)
  replace hS := (n9 _ (ab_ne hS hx (by first | (simp; done) | (simp; omega)))).trans hS
  replace hL := (n9 _ (ab_ne hL hx (by first | (simp; done) | (simp; omega)))).trans hL
  replace hM := (n9 _ (ab_ne hM hx (by first | (simp; done) | (simp; omega)))).trans hM
  replace hQ := (n9 _ (ab_ne hQ hx (by first | (simp; done) | (simp; omega)))).trans hQ
  replace hp := (n9 _ (ab_ne hp hx (by first | (simp; done) | (simp; omega)))).trans hp
  replace hs := (n9 _ (ab_ne hs hx (by first | (simp; done) | (simp; omega)))).trans hs
  replace hm := (n9 _ (ab_ne hm hx (by first | (simp; done) | (simp; omega)))).trans hm
  replace hl := (n9 _ (ab_ne hl hx (by first | (simp; done) | (simp; omega)))).trans hl
  replace hg := (n9 _ (ab_ne hg hx (by first | (simp; done) | (simp; omega)))).trans hg
  replace kp := kp.wr hx (cP_no (by simp)) n9
  replace hx := e9
  clear e9 n9
  refine ab_vret (pc := 80) dX9_init_80 rfl ?_
  refine ⟨_, rfl, kp, rfl, (fun k => ([a_hS, 0, a_hL, 0, a_hM, a_hQ, a_hs, a_hl, a_hg, b9] : List Nat).getD k 0), (fun _ _ => 0), (fun k => if k = 5 then ab_f (fun _ => none) 0 (some a_hp) else fun _ => none), (fun _ => 0), fun s F s1 s7 s23 f35 => ?_⟩
  refine ⟨by rw [s1, s7]; exact hx, hS, hL, hM, hQ, by rw [s23]; exact hs, hm, hl, hg, fun i hi => ⟨fun g => by omega, fun _ => rfl⟩, fun q q0 q1 => ⟨fun g => by omega, fun _ => rfl⟩, fun m hm9 => ⟨fun g => absurd (f35 _) g, fun _ => rfl⟩, fun q q0 q1 => ?_⟩
  obtain rfl : q = 0 := by omega
  exact ⟨fun _ => ⟨a_hp, rfl, Or.inr (Or.inl ⟨rfl, hp⟩)⟩, fun g => by omega⟩
end C29
