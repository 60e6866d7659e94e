/-! the class: law, called -/
section C20
variable {l : Launch} {E : AbE} {h0 : AbH}
theorem ab_astoP {y : AbY} {d kc ks pc : Nat} {L : List (Option AbV)} {S : List AbV} {h : AbH} {Q : AbO → AbH → Prop} {i : Nat} {r : Option Nat} (hd : decode y.2.1 pc = .ok (.astore i, 2)) (hn : ab_nl L i = true) (hi : i < L.length) (k : ab_T l E y d kc ks (pc + 2) (L.set i (some (vO r))) S h Q) : ab_T l E y d kc ks pc L (vO r :: S) h Q := by
  cases r with
  | some x => exact ab_astore hd hn hi k
  | none =>
    intro p e R s m args below meth c H locs cells slots mc ms ls st X hR hP hl hL hS
    obtain ⟨w, r, rfl, hv, hS⟩ := hS
    cases (show w = .null from hv)
    refine lv_astoreN X.1 X.2.1 hd (ab_all_has hL.2.1) (by rw [hL.1]; exact hi) rfl fun ls' h' => ?_
    exact k p e R s m args below meth c H locs cells slots mc ms ls' r (by rw [List.length_set]; exact X) hR hP hl (ab_st1 hL hn hi rfl h') hS
theorem ab_aloP {y : AbY} {d kc ks pc : Nat} {L : List (Option AbV)} {S : List AbV} {h : AbH} {Q : AbO → AbH → Prop} {i : Nat} {r : Option Nat} (hd : decode y.2.1 pc = .ok (.aload i, 2)) (hl9 : L[i]? = some (some (vO r))) (k : ab_T l E y d kc ks (pc + 2) L (vO r :: S) h Q) : ab_T l E y d kc ks pc L S h Q := by
  cases r with
  | some x => exact ab_aload hd hl9 k
  | none =>
    intro p e R s m args below meth c H locs cells slots mc ms ls st X hR hP hl hL hS
    obtain ⟨w, hw, hv⟩ := hL.2.2 _ _ hl9
    cases (show w = .null from hv)
    exact lv_aloadN X.1 X.2.1 hd hw (k p e R s m args below meth c H locs cells slots mc ms ls _ X hR hP hl hL ⟨_, _, rfl, rfl, hS⟩)
theorem RCx.kp0 {h : AbH} {x : Nat} {B : Nat → Nat} {s : Nat → Int} {F : Nat → Int → Int} {C : Nat → Int → Int} {SA : Nat → Int → Option Nat} {la : Option Nat} {q : Nat → Int} (L : List Nat) (_ : RCx h x B s F C SA la q) : ab_kp (cP L) h h := ab_kp0
theorem c_storeLaw {y : AbY} {d kc ks pc : Nat} {L : List (Option AbV)} {S : List AbV} {h : AbH} {Q : AbO → AbH → Prop} {g a b : Nat} {t u v n i : Int} {w : Int → Int} {f : Int → Option Nat} (mk : mkL h g a t u v n w) (hb : h b = some (kA 4 "WordBench$Law" 12 f)) (i0 : 0 ≤ i) (i1 : i < 12) (hd : decode y.2.1 pc = .ok (.aastore, 1)) (K : ∀ h1 : AbH, h1 b = some (kA 4 "WordBench$Law" 12 (ab_f f i (some a))) → (∀ q, q ≠ b → h1 q = h q) → ab_T l E y d kc ks (pc + 1) L S h1 Q) : ab_T l E y d kc ks pc L (vR a :: vI i :: vR b :: S) h Q := by
  rcases mk with ⟨c, b, t, c1, c2, c3⟩ | ⟨c, c1⟩ | ⟨c, c1⟩ | ⟨c, c1⟩ | ⟨c, c1⟩ | ⟨c, t, c1, c2⟩
  · exact ab_aastG hb (by decide) c1 rfl (Or.inl w1422) i0 i1 hd K
  · exact ab_aastG hb (by decide) c1 rfl (Or.inl w1421) i0 i1 hd K
  · exact ab_aastG hb (by decide) c1 rfl (Or.inl w1421) i0 i1 hd K
  · exact ab_aastG hb (by decide) c1 rfl (Or.inl w1424) i0 i1 hd K
  · exact ab_aastG hb (by decide) c1 rfl (Or.inl w1425) i0 i1 hd K
  · obtain ⟨b1, b2, b3, b4, b5, tl, bs, tm, en, st, s0, _⟩ := c1
    exact ab_aastG hb (by decide) s0 rfl (Or.inl w1423) i0 i1 hd K
theorem c_law (hG : ab_G l E) {x : Nat} {B : Nat → Nat} {s : Nat → Int} {F C : Nat → Int → Int} {SA : Nat → Int → Option Nat} {la : Option Nat} {q : Nat → Int} {t a b : Int} (rc : RCx h0 x B s F C SA la q) (b3 : ∀ j, 0 ≤ j → j < 160 → -1 ≤ F 3 j ∧ F 3 j ≤ 80) (s16 : s 1 ≤ 16) (b7 : 0 ≤ s 7) (c7 : s 7 ≤ 12) (lb : ∀ q : Int, 0 ≤ q → q < s 7 → lawB F q) : ab_M l E Y_X9_law 6 10 8 91 [vR x, vI t, vI a, vI b] h0 (cW h0 [2, 4, 10, 208 + 8 * (s 7).toNat, 208 + 8 * (s 7).toNat + 1, 208 + 8 * (s 7).toNat + 2] x B (fun o s' F' => ∃ c r9 n9 : Int, lawSp s F t a b c r9 n9 ∧ (((c ≠ 0 ∨ r9 < 0) ∧ s' = s ∧ F' = F) ∨ (c = 0 ∧ 0 ≤ r9 ∧ s' = ab_u s 7 (s 7 + 1) ∧ F' = lawF F (s 7) t a b n9 (rdL F a b))) ∧ ((c = 0 ∧ o = .inl (some (vI r9))) ∨ (c = 1 ∧ o = .inr "java/lang/IllegalArgumentException") ∨ (c = 2 ∧ o = .inr "java/lang/IndexOutOfBoundsException")))) := by
  refine ab_M.of (L0 := [some (vR x), some (vI t), some (vI a), some (vI b), none, none]) hG rfl rfl (Nat.le_of_ble_eq_true rfl) rfl ?_
  have kp : ab_kp (cP [2, 4, 10, 208 + 8 * (s 7).toNat, 208 + 8 * (s 7).toNat + 1, 208 + 8 * (s 7).toNat + 2]) h0 h0 := ab_kp0
  refine ab_iload_n (pc := 0) dX9_law_0 rfl ?_
  refine ab_if_lt (pc := 1) 9 dX9_law_1 (by decide) (fun c1 => ?_) (fun c1 => ?_)
  · refine ab_throw (pc := 9) tw_IAE w624 (by decide) (Nat.le_of_ble_eq_true rfl) rfl dX9_law_9 dX9_law_12 dX9_law_13 dX9_law_15 dX9_law_18 ?_
    exact ⟨kp, _, _, _, _, _, _, rc, 1, 0, 0, Or.inl ⟨by unfold lawOk; omega, rfl, rfl, rfl⟩, Or.inl ⟨by omega, rfl, rfl⟩, Or.inr (Or.inl ⟨rfl, rfl⟩)⟩
  · refine ab_iload_n (pc := 4) dX9_law_4 rfl ?_
    refine ab_iconst (pc := 5) dX9_law_5 (by decide) ?_
    refine ab_icmp_le (pc := 6) 19 dX9_law_6 (by decide) (fun c6 => ?_) (fun c6 => ?_)
    · refine ab_iload_n (pc := 19) dX9_law_19 rfl ?_
      refine ab_if_eq (pc := 20) 28 dX9_law_20 (by decide) (fun c20 => ?_) (fun c20 => ?_)
      · refine ab_iconst (pc := 28) dX9_law_28 (by decide) ?_
        refine ab_goto (pc := 29) 33 dX9_law_29 (by decide) ?_
        refine ab_istore (pc := 33) dX9_law_33 rfl (Nat.le_of_ble_eq_true rfl) ?_
        refine ab_iload (pc := 35) dX9_law_35 rfl ?_
        refine ab_if_eq (pc := 37) 50 dX9_law_37 (by decide) (fun c37 => absurd c37 (by omega)) (fun c37 => ?_)
        refine ab_aload_n (pc := 40) dX9_law_40 rfl ?_
        refine ab_iload_n (pc := 41) dX9_law_41 rfl ?_
        refine ab_iload_n (pc := 42) dX9_law_42 rfl ?_
        refine ab_iload_n (pc := 43) dX9_law_43 rfl ?_
        refine ab_callV (pc := 44) (c_lawRow hG rc b3 s16 (by omega) b7 c7) rc.o rfl ⟨w625, w1, w628, by decide, pd47⟩ w627 sp4 rfl (by omega) (by decide) (Nat.le_of_ble_eq_true rfl) rfl dX9_law_44 (fun X9 h9 hx9 => by rcases hx9 with ⟨nr, r9, rfl⟩ | ⟨_, _, _, ⟨r9, _⟩ | ⟨_, _, r9, _⟩⟩; cases r9; exact ⟨kp, _, _, _, _, _, _, rc, 2, 0, 0, Or.inr (Or.inl ⟨(by unfold lawOk; omega), by omega, nr, rfl, rfl, rfl⟩), Or.inl ⟨by omega, rfl, rfl⟩, Or.inr (Or.inr ⟨rfl, rfl⟩)⟩; cases r9; cases r9) ?_
        rintro r9 h9 hr9
        rcases hr9 with ⟨_, r9, _⟩ | ⟨ir, kq, ⟨C1, rc1⟩, ⟨r9, nW⟩ | ⟨a9, n, r9, lw, mk⟩⟩
        · cases r9
        · cases r9
          replace kp := kp.cal kq (by simp)
          replace rc := rc1
          refine ab_goto (pc := 47) 56 dX9_law_47 (by decide) ?_
          refine ab_astoP (pc := 56) dX9_law_56 rfl (Nat.le_of_ble_eq_true rfl) ?_
          refine ab_aloP (pc := 58) dX9_law_58 rfl ?_
          refine ab_nonnull (pc := 60) 65 dX9_law_60 (by decide) (fun a9 c9 => by cases c9) (fun c9 => ?_)
          refine ab_iconst (pc := 63) dX9_law_63 (by decide) ?_
          refine ab_iret (pc := 64) dX9_law_64 rfl ?_
          exact ⟨kp, _, _, _, _, _, _, rc, 0, -1, 0, Or.inr (Or.inr (Or.inl ⟨(by unfold lawOk; omega), by omega, ir, nW, rfl, rfl, rfl⟩)), Or.inl ⟨by omega, rfl, rfl⟩, Or.inl ⟨rfl, rfl⟩⟩
        · cases r9
          replace kp := kp.cal kq (by simp)
          replace rc := rc1
          have lw2 : (t ≠ 0 ∧ t ≠ 5 ∧ n = 0) ∨ ((t = 0 ∨ t = 5) ∧ isRow s a b ∧ lawW F t a b n) := Or.inr ⟨by omega, ir, lw⟩
          have lok : lawOk t a b := (by unfold lawOk; omega)
          refine ab_goto (pc := 47) 56 dX9_law_47 (by decide) ?_
          refine ab_astore (pc := 56) dX9_law_56 rfl (Nat.le_of_ble_eq_true rfl) ?_
          refine ab_aload (pc := 58) dX9_law_58 rfl ?_
          refine ab_nonnull (pc := 60) 65 dX9_law_60 (by decide) (fun a9 c9 => ?_) (fun c9 => by cases c9)
          refine ab_aload_n (pc := 65) dX9_law_65 rfl ?_
          refine ab_get (pc := 66) (k := 3) okX9 rc.o rfl w115 rfl dX9_law_66 ?_
          refine ab_aload_n (pc := 69) dX9_law_69 rfl ?_
          refine ab_get (pc := 70) (k := 2) okX9 rc.o rfl w114 rfl dX9_law_70 ?_
          refine ab_alenA (pc := 73) rc.ls dX9_law_73 ?_
          refine ab_icmp_lt (pc := 74) 80 dX9_law_74 (by decide) (fun c74 => ?_) (fun c74 => ?_)
          · have rc1 := rc
            have hx := rc.o
            have hL := rc.ls
            have kp1 := rc.kp0 [2, 4]
            refine ab_aload_n (pc := 80) dX9_law_80 rfl ?_
            refine ab_get (pc := 81) (k := 2) okX9 hx rfl w114 rfl dX9_law_81 ?_
            refine ab_aload_n (pc := 84) dX9_law_84 rfl ?_
            refine ab_get (pc := 85) (k := 3) okX9 hx rfl w115 rfl dX9_law_85 ?_
            refine ab_aload (pc := 88) dX9_law_88 rfl ?_
            refine c_storeLaw (pc := 90) mk hL (by omega) (by omega) dX9_law_90 (fun h e9 n9 => ?_)
            replace hx := (n9 _ (ab_ne hx hL (by first | (simp; done) | (simp; omega)))).trans hx
            replace mk := mk.kp (ab_kp_wr1 hL n9) (fun j hj => by first | exact (by unfold cP; first | (simp; done) | (simp; omega)) | (unfold cP; simp; omega))
            replace kp1 := kp1.cal (ab_kp_wr1 hL n9) (by simp)
            replace kp := kp.wr hL (cP_no (by simp)) n9
            replace hL := e9
            clear e9 n9
            refine ab_aload_n (pc := 91) dX9_law_91 rfl ?_
            refine ab_dup (pc := 92) dX9_law_92 rfl ?_
            refine ab_get (pc := 93) (k := 3) okX9 hx rfl w115 rfl dX9_law_93 ?_
            refine ab_iconst (pc := 96) dX9_law_96 (by decide) ?_
            refine ab_iadd (pc := 97) dX9_law_97 (by omega) (by omega) ?_
            refine ab_putG (pc := 98) (k := 3) okX9 hx (by decide) (by decide) trivial w115 rfl (Or.inl rfl) dX9_law_98 (fun h e9 n9 => ?_)
            replace hL := (n9 _ (ab_ne hL hx (by first | (simp; done) | (simp; omega)))).trans hL
            replace mk := mk.kp (ab_kp_wr1 hx n9) (fun j hj => by first | exact (by unfold cP; first | (simp; done) | (simp; omega)) | (unfold cP; simp; omega))
            replace kp1 := kp1.cal (ab_kp_wr1 hx n9) (by simp)
            replace kp := kp.wr hx (cP_no (by simp)) n9
            replace hx := e9
            clear e9 n9
            refine ab_aload_n (pc := 101) dX9_law_101 rfl ?_
            refine ab_get (pc := 102) (k := 3) okX9 hx rfl w115 rfl dX9_law_102 ?_
            refine ab_iconst (pc := 105) dX9_law_105 (by decide) ?_
            refine ab_isub (pc := 106) dX9_law_106 (by omega) (by omega) ?_
            refine ab_iret (pc := 107) dX9_law_107 rfl ?_
            rw [show s 7 + 1 - 1 = s 7 by omega]
            exact ⟨kp, _, _, _, _, _, _, rc1.addLaw kp1 b7 (by omega) hx hL mk lb, 0, s 7, n, Or.inr (Or.inr (Or.inr ⟨lok, rfl, lw2, Or.inr ⟨by omega, rfl⟩⟩)), Or.inr ⟨rfl, b7, rfl, rfl⟩, Or.inl ⟨rfl, rfl⟩⟩
          · refine ab_bipush (pc := 77) dX9_law_77 (by decide) ?_
            refine ab_iret (pc := 79) dX9_law_79 rfl ?_
            exact ⟨kp, _, _, _, _, _, _, rc, 0, -2, n, Or.inr (Or.inr (Or.inr ⟨lok, rfl, lw2, Or.inl ⟨by omega, rfl⟩⟩)), Or.inl ⟨by omega, rfl, rfl⟩, Or.inl ⟨rfl, rfl⟩⟩
      · refine ab_iload_n (pc := 23) dX9_law_23 rfl ?_
        refine ab_iconst (pc := 24) dX9_law_24 (by decide) ?_
        refine ab_icmp_ne (pc := 25) 32 dX9_law_25 (by decide) (fun c25 => ?_) (fun c25 => ?_)
        · refine ab_iconst (pc := 32) dX9_law_32 (by decide) ?_
          refine ab_istore (pc := 33) dX9_law_33 rfl (Nat.le_of_ble_eq_true rfl) ?_
          refine ab_iload (pc := 35) dX9_law_35 rfl ?_
          refine ab_if_eq (pc := 37) 50 dX9_law_37 (by decide) (fun c37 => ?_) (fun c37 => absurd c37 (by omega))
          refine ab_iload_n (pc := 50) dX9_law_50 rfl ?_
          refine ab_iload_n (pc := 51) dX9_law_51 rfl ?_
          refine ab_iload_n (pc := 52) dX9_law_52 rfl ?_
          refine ab_callS (pc := 53) (c_lawNum hG (w9 := rdL F a b) (s 7).toNat (by omega)) ⟨w678, w1, w680, by decide, pd47⟩ w679 rfl (by omega) (by decide) (Nat.le_of_ble_eq_true rfl) rfl dX9_law_53 (fun X9 h9 hx9 => by rcases hx9 with ⟨nr, r9, rfl⟩ | ⟨_, _, _, r9, _⟩; cases r9; exact ⟨kp, _, _, _, _, _, _, rc, 1, 0, 0, Or.inl ⟨nr, rfl, rfl, rfl⟩, Or.inl ⟨by omega, rfl, rfl⟩, Or.inr (Or.inl ⟨rfl, rfl⟩)⟩; cases r9) ?_
          rintro r9 h9 hr9
          rcases hr9 with ⟨_, r9, _⟩ | ⟨lok, kq, a9, r9, mk⟩
          · cases r9
          cases r9
          replace kp := kp.cal kq (by simp)
          replace rc := rc.fr kq (fun j hj => by unfold cOwn at hj; unfold cP; simp; omega)
          obtain ⟨n, n0⟩ : ∃ n : Int, n = 0 := ⟨0, rfl⟩
          rw [← n0] at mk
          have lw2 : (t ≠ 0 ∧ t ≠ 5 ∧ n = 0) ∨ ((t = 0 ∨ t = 5) ∧ isRow s a b ∧ lawW F t a b n) := Or.inl ⟨by omega, by omega, n0⟩
          refine ab_astore (pc := 56) dX9_law_56 rfl (Nat.le_of_ble_eq_true rfl) ?_
          refine ab_aload (pc := 58) dX9_law_58 rfl ?_
          refine ab_nonnull (pc := 60) 65 dX9_law_60 (by decide) (fun a9 c9 => ?_) (fun c9 => by cases c9)
          refine ab_aload_n (pc := 65) dX9_law_65 rfl ?_
          refine ab_get (pc := 66) (k := 3) okX9 rc.o rfl w115 rfl dX9_law_66 ?_
          refine ab_aload_n (pc := 69) dX9_law_69 rfl ?_
          refine ab_get (pc := 70) (k := 2) okX9 rc.o rfl w114 rfl dX9_law_70 ?_
          refine ab_alenA (pc := 73) rc.ls dX9_law_73 ?_
          refine ab_icmp_lt (pc := 74) 80 dX9_law_74 (by decide) (fun c74 => ?_) (fun c74 => ?_)
          · have rc1 := rc
            have hx := rc.o
            have hL := rc.ls
            have kp1 := rc.kp0 [2, 4]
            refine ab_aload_n (pc := 80) dX9_law_80 rfl ?_
            refine ab_get (pc := 81) (k := 2) okX9 hx rfl w114 rfl dX9_law_81 ?_
            refine ab_aload_n (pc := 84) dX9_law_84 rfl ?_
            refine ab_get (pc := 85) (k := 3) okX9 hx rfl w115 rfl dX9_law_85 ?_
            refine ab_aload (pc := 88) dX9_law_88 rfl ?_
            refine c_storeLaw (pc := 90) mk hL (by omega) (by omega) dX9_law_90 (fun h e9 n9 => ?_)
            replace hx := (n9 _ (ab_ne hx hL (by first | (simp; done) | (simp; omega)))).trans hx
            replace mk := mk.kp (ab_kp_wr1 hL n9) (fun j hj => by first | exact (by unfold cP; first | (simp; done) | (simp; omega)) | (unfold cP; simp; omega))
            replace kp1 := kp1.cal (ab_kp_wr1 hL n9) (by simp)
            replace kp := kp.wr hL (cP_no (by simp)) n9
            replace hL := e9
            clear e9 n9
            refine ab_aload_n (pc := 91) dX9_law_91 rfl ?_
            refine ab_dup (pc := 92) dX9_law_92 rfl ?_
            refine ab_get (pc := 93) (k := 3) okX9 hx rfl w115 rfl dX9_law_93 ?_
            refine ab_iconst (pc := 96) dX9_law_96 (by decide) ?_
            refine ab_iadd (pc := 97) dX9_law_97 (by omega) (by omega) ?_
            refine ab_putG (pc := 98) (k := 3) okX9 hx (by decide) (by decide) trivial w115 rfl (Or.inl rfl) dX9_law_98 (fun h e9 n9 => ?_)
            replace hL := (n9 _ (ab_ne hL hx (by first | (simp; done) | (simp; omega)))).trans hL
            replace mk := mk.kp (ab_kp_wr1 hx n9) (fun j hj => by first | exact (by unfold cP; first | (simp; done) | (simp; omega)) | (unfold cP; simp; omega))
            replace kp1 := kp1.cal (ab_kp_wr1 hx n9) (by simp)
            replace kp := kp.wr hx (cP_no (by simp)) n9
            replace hx := e9
            clear e9 n9
            refine ab_aload_n (pc := 101) dX9_law_101 rfl ?_
            refine ab_get (pc := 102) (k := 3) okX9 hx rfl w115 rfl dX9_law_102 ?_
            refine ab_iconst (pc := 105) dX9_law_105 (by decide) ?_
            refine ab_isub (pc := 106) dX9_law_106 (by omega) (by omega) ?_
            refine ab_iret (pc := 107) dX9_law_107 rfl ?_
            rw [show s 7 + 1 - 1 = s 7 by omega]
            exact ⟨kp, _, _, _, _, _, _, rc1.addLaw kp1 b7 (by omega) hx hL mk lb, 0, s 7, n, Or.inr (Or.inr (Or.inr ⟨lok, rfl, lw2, Or.inr ⟨by omega, rfl⟩⟩)), Or.inr ⟨rfl, b7, rfl, rfl⟩, Or.inl ⟨rfl, rfl⟩⟩
          · refine ab_bipush (pc := 77) dX9_law_77 (by decide) ?_
            refine ab_iret (pc := 79) dX9_law_79 rfl ?_
            exact ⟨kp, _, _, _, _, _, _, rc, 0, -2, n, Or.inr (Or.inr (Or.inr ⟨lok, rfl, lw2, Or.inl ⟨by omega, rfl⟩⟩)), Or.inl ⟨by omega, rfl, rfl⟩, Or.inl ⟨rfl, rfl⟩⟩
        · refine ab_iconst (pc := 28) dX9_law_28 (by decide) ?_
          refine ab_goto (pc := 29) 33 dX9_law_29 (by decide) ?_
          refine ab_istore (pc := 33) dX9_law_33 rfl (Nat.le_of_ble_eq_true rfl) ?_
          refine ab_iload (pc := 35) dX9_law_35 rfl ?_
          refine ab_if_eq (pc := 37) 50 dX9_law_37 (by decide) (fun c37 => absurd c37 (by omega)) (fun c37 => ?_)
          refine ab_aload_n (pc := 40) dX9_law_40 rfl ?_
          refine ab_iload_n (pc := 41) dX9_law_41 rfl ?_
          refine ab_iload_n (pc := 42) dX9_law_42 rfl ?_
          refine ab_iload_n (pc := 43) dX9_law_43 rfl ?_
          refine ab_callV (pc := 44) (c_lawRow hG rc b3 s16 (by omega) b7 c7) rc.o rfl ⟨w625, w1, w628, by decide, pd47⟩ w627 sp4 rfl (by omega) (by decide) (Nat.le_of_ble_eq_true rfl) rfl dX9_law_44 (fun X9 h9 hx9 => by rcases hx9 with ⟨nr, r9, rfl⟩ | ⟨_, _, _, ⟨r9, _⟩ | ⟨_, _, r9, _⟩⟩; cases r9; exact ⟨kp, _, _, _, _, _, _, rc, 2, 0, 0, Or.inr (Or.inl ⟨(by unfold lawOk; omega), by omega, nr, rfl, rfl, rfl⟩), Or.inl ⟨by omega, rfl, rfl⟩, Or.inr (Or.inr ⟨rfl, rfl⟩)⟩; cases r9; cases r9) ?_
          rintro r9 h9 hr9
          rcases hr9 with ⟨_, r9, _⟩ | ⟨ir, kq, ⟨C1, rc1⟩, ⟨r9, nW⟩ | ⟨a9, n, r9, lw, mk⟩⟩
          · cases r9
          · cases r9
            replace kp := kp.cal kq (by simp)
            replace rc := rc1
            refine ab_goto (pc := 47) 56 dX9_law_47 (by decide) ?_
            refine ab_astoP (pc := 56) dX9_law_56 rfl (Nat.le_of_ble_eq_true rfl) ?_
            refine ab_aloP (pc := 58) dX9_law_58 rfl ?_
            refine ab_nonnull (pc := 60) 65 dX9_law_60 (by decide) (fun a9 c9 => by cases c9) (fun c9 => ?_)
            refine ab_iconst (pc := 63) dX9_law_63 (by decide) ?_
            refine ab_iret (pc := 64) dX9_law_64 rfl ?_
            exact ⟨kp, _, _, _, _, _, _, rc, 0, -1, 0, Or.inr (Or.inr (Or.inl ⟨(by unfold lawOk; omega), by omega, ir, nW, rfl, rfl, rfl⟩)), Or.inl ⟨by omega, rfl, rfl⟩, Or.inl ⟨rfl, rfl⟩⟩
          · cases r9
            replace kp := kp.cal kq (by simp)
            replace rc := rc1
            have lw2 : (t ≠ 0 ∧ t ≠ 5 ∧ n = 0) ∨ ((t = 0 ∨ t = 5) ∧ isRow s a b ∧ lawW F t a b n) := Or.inr ⟨by omega, ir, lw⟩
            have lok : lawOk t a b := (by unfold lawOk; omega)
            refine ab_goto (pc := 47) 56 dX9_law_47 (by decide) ?_
            refine ab_astore (pc := 56) dX9_law_56 rfl (Nat.le_of_ble_eq_true rfl) ?_
            refine ab_aload (pc := 58) dX9_law_58 rfl ?_
            refine ab_nonnull (pc := 60) 65 dX9_law_60 (by decide) (fun a9 c9 => ?_) (fun c9 => by cases c9)
            refine ab_aload_n (pc := 65) dX9_law_65 rfl ?_
            refine ab_get (pc := 66) (k := 3) okX9 rc.o rfl w115 rfl dX9_law_66 ?_
            refine ab_aload_n (pc := 69) dX9_law_69 rfl ?_
            refine ab_get (pc := 70) (k := 2) okX9 rc.o rfl w114 rfl dX9_law_70 ?_
            refine ab_alenA (pc := 73) rc.ls dX9_law_73 ?_
            refine ab_icmp_lt (pc := 74) 80 dX9_law_74 (by decide) (fun c74 => ?_) (fun c74 => ?_)
            · have rc1 := rc
              have hx := rc.o
              have hL := rc.ls
              have kp1 := rc.kp0 [2, 4]
              refine ab_aload_n (pc := 80) dX9_law_80 rfl ?_
              refine ab_get (pc := 81) (k := 2) okX9 hx rfl w114 rfl dX9_law_81 ?_
              refine ab_aload_n (pc := 84) dX9_law_84 rfl ?_
              refine ab_get (pc := 85) (k := 3) okX9 hx rfl w115 rfl dX9_law_85 ?_
              refine ab_aload (pc := 88) dX9_law_88 rfl ?_
              refine c_storeLaw (pc := 90) mk hL (by omega) (by omega) dX9_law_90 (fun h e9 n9 => ?_)
              replace hx := (n9 _ (ab_ne hx hL (by first | (simp; done) | (simp; omega)))).trans hx
              replace mk := mk.kp (ab_kp_wr1 hL n9) (fun j hj => by first | exact (by unfold cP; first | (simp; done) | (simp; omega)) | (unfold cP; simp; omega))
              replace kp1 := kp1.cal (ab_kp_wr1 hL n9) (by simp)
              replace kp := kp.wr hL (cP_no (by simp)) n9
              replace hL := e9
              clear e9 n9
              refine ab_aload_n (pc := 91) dX9_law_91 rfl ?_
              refine ab_dup (pc := 92) dX9_law_92 rfl ?_
              refine ab_get (pc := 93) (k := 3) okX9 hx rfl w115 rfl dX9_law_93 ?_
              refine ab_iconst (pc := 96) dX9_law_96 (by decide) ?_
              refine ab_iadd (pc := 97) dX9_law_97 (by omega) (by omega) ?_
              refine ab_putG (pc := 98) (k := 3) okX9 hx (by decide) (by decide) trivial w115 rfl (Or.inl rfl) dX9_law_98 (fun h e9 n9 => ?_)
              replace hL := (n9 _ (ab_ne hL hx (by first | (simp; done) | (simp; omega)))).trans hL
              replace mk := mk.kp (ab_kp_wr1 hx n9) (fun j hj => by first | exact (by unfold cP; first | (simp; done) | (simp; omega)) | (unfold cP; simp; omega))
              replace kp1 := kp1.cal (ab_kp_wr1 hx n9) (by simp)
              replace kp := kp.wr hx (cP_no (by simp)) n9
              replace hx := e9
              clear e9 n9
              refine ab_aload_n (pc := 101) dX9_law_101 rfl ?_
              refine ab_get (pc := 102) (k := 3) okX9 hx rfl w115 rfl dX9_law_102 ?_
              refine ab_iconst (pc := 105) dX9_law_105 (by decide) ?_
              refine ab_isub (pc := 106) dX9_law_106 (by omega) (by omega) ?_
              refine ab_iret (pc := 107) dX9_law_107 rfl ?_
              rw [show s 7 + 1 - 1 = s 7 by omega]
              exact ⟨kp, _, _, _, _, _, _, rc1.addLaw kp1 b7 (by omega) hx hL mk lb, 0, s 7, n, Or.inr (Or.inr (Or.inr ⟨lok, rfl, lw2, Or.inr ⟨by omega, rfl⟩⟩)), Or.inr ⟨rfl, b7, rfl, rfl⟩, Or.inl ⟨rfl, rfl⟩⟩
            · refine ab_bipush (pc := 77) dX9_law_77 (by decide) ?_
              refine ab_iret (pc := 79) dX9_law_79 rfl ?_
              exact ⟨kp, _, _, _, _, _, _, rc, 0, -2, n, Or.inr (Or.inr (Or.inr ⟨lok, rfl, lw2, Or.inl ⟨by omega, rfl⟩⟩)), Or.inl ⟨by omega, rfl, rfl⟩, Or.inl ⟨rfl, rfl⟩⟩
    · refine ab_throw (pc := 9) tw_IAE w624 (by decide) (Nat.le_of_ble_eq_true rfl) rfl dX9_law_9 dX9_law_12 dX9_law_13 dX9_law_15 dX9_law_18 ?_
      exact ⟨kp, _, _, _, _, _, _, rc, 1, 0, 0, Or.inl ⟨by unfold lawOk; omega, rfl, rfl, rfl⟩, Or.inl ⟨by omega, rfl, rfl⟩, Or.inr (Or.inl ⟨rfl, rfl⟩)⟩
end C20
