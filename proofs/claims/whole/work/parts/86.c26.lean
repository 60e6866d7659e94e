/-! the class: map, called -/
section C26
variable {l : Launch} {E : AbE} {h0 : AbH}
theorem ab_Td {y : AbY} {d d9 kc ks pc : Nat} {L : List (Option AbV)} {S : List AbV} {h : AbH} {Q : AbO → AbH → Prop} (k : ab_T l E y d kc ks pc L S h Q) (hd : d ≤ d9) : ab_T l E y d9 kc ks pc L S h Q := by
  intro p e R s m args below meth c H locs cells slots mc ms ls st X hR
  exact k p e R s m args below meth c H locs cells slots mc ms ls st X ⟨by have := hR.1; omega, by have := hR.2.1; omega, hR.2.2⟩
theorem c_map_45 {x : Nat} {B : Nat → Nat} {s : Nat → Int} {F : Nat → Int → Int} {SA : Nat → Int → Option Nat} {la : Option Nat} {q : Nat → Int} {a9 b9 c9 : Nat} {g9 z9 : Int → Int} {b a i fr : Int} (hG : ab_G l E) (b0 : 0 ≤ b) (b8 : b < 8) (a1 : 1 ≤ a) (a8 : a ≤ 8) (i0 : 0 ≤ i) (i1 : i < 16) (iG : i < s 1) (f0 : 0 ≤ fr) (f9_ : fr + a ≤ 10) (b3 : ∀ j, 0 ≤ j → j < 160 → -1 ≤ F 3 j ∧ F 3 j ≤ 80) (s16 : s 1 ≤ 16) (mbs : ∀ b : Int, mkOk F b → mapB F b)   (fu : Nat) : ∀ (u : Int) (C : Nat → Int → Int) (x7 : Option AbV) (h : AbH), (a - u).toNat < fu → RCx h x B s F C SA la q → sheetC h i.toNat a9 b9 c9 g9 z9 F → ab_kp (cP (mpL b)) h0 h → (0 ≤ u) → (u ≤ a) → (∀ w : Int, 0 ≤ w → w < u → wOk F i (fr + w) a) → ab_T l E Y_X9_map 7 4 420 45 [some (vR x), some (vI b), some (vI a), some (vI i), some (vI fr), some (vR a9), some (vI u), x7] [] h (cW h0 (mpL b) x B (fun o s' F' => ∃ c r9 : Int, mapSp s F b a i fr c r9 ∧ s' = s ∧ ((c = 0 ∧ r9 = 1 ∧ mapIn F F' i fr b a ∧ F' 35 = ab_f (F 35) b 1 ∧ F' 36 = ab_f (F 36) b a ∧ ∀ j : Nat, j ≠ 35 → j ≠ 36 → j ≠ 37 → j ≠ 38 → F' j = F j) ∨ (¬ (c = 0 ∧ r9 = 1) ∧ F' = F)) ∧ ((c = 0 ∧ o = .inl (some (vI r9))) ∨ (c = 1 ∧ o = .inr "java/lang/IllegalArgumentException") ∨ (c = 2 ∧ o = .inr "java/lang/IndexOutOfBoundsException")))) := by
  induction fu with
  | zero => intro u C x7 h hms9; exact absurd hms9 (Nat.not_lt_zero _)
  | succ fu ih =>
    intro u C x7 h hms9 rc hc9 kp u0 u1 mo
    refine ab_iload (pc := 45) dX9_map_45 rfl ?_
    refine ab_iload_n (pc := 47) dX9_map_47 rfl ?_
    refine ab_icmp_ge (pc := 48) 101 dX9_map_48 (by decide) (fun c48 => ?_) (fun c48 => ?_)
    · obtain rfl : u = a := by omega
      have hx := rc.o
      have hM := rc.ms
      have ht := rc.lt
      have kp1 := rc.kp0 (mpL b)
      refine ab_aload_n (pc := 101) dX9_map_101 rfl ?_
      refine ab_get (pc := 102) (k := 4) okX9 hx rfl w116 rfl dX9_map_102 ?_
      refine ab_iload_n (pc := 105) dX9_map_105 rfl ?_
      refine ab_aald (pc := 106) hM (by omega) (by omega) dX9_map_106 ?_
      refine ab_nonnull (pc := 107) 123 dX9_map_107 (by decide) (fun a107 c107 => ?_) (fun c107 => ?_)
      · obtain ⟨b1, b2, b3_, z, t, gz, ha, hz, htt, hg, _⟩ := (rc.mp.no b0 b8 c107).2
        obtain ⟨am, ea⟩ : ∃ am, am = a107 := ⟨_, rfl⟩
        rw [← ea] at ha
        have eS : ab_f (SA 4) b (some am) = SA 4 := funext fun j => by unfold ab_f; split; (rename_i e9; rw [e9, c107, ea]); rfl
        rw [← eS] at hM
        refine ab_aload_n (pc := 123) dX9_map_123 rfl ?_
        refine ab_aload_n (pc := 124) dX9_map_124 rfl ?_
        refine ab_get (pc := 125) (k := 4) okX9 hx rfl w116 rfl dX9_map_125 ?_
        refine ab_iload_n (pc := 128) dX9_map_128 rfl ?_
        refine ab_aald (pc := 129) hM (by omega) (by omega) dX9_map_129 ?_
        rw [ab_f_eq rfl]
        refine ab_iload_n (pc := 130) dX9_map_130 rfl ?_
        refine ab_aload (pc := 131) dX9_map_131 rfl ?_
        refine ab_iload (pc := 133) dX9_map_133 rfl ?_
        refine ab_callV (pc := 135) (c_fillMap hG hx ht ha hz htt hg hc9 (by omega) i0 i1 f0 (by omega) a1 a8 mo b3) hx rfl ⟨w901, w1, w904, by decide, pd63⟩ w903 sp16 rfl (by omega) (by decide) (Nat.le_of_ble_eq_true rfl) rfl dX9_map_135 (fun _ _ hx => absurd hx cC_no) ?_
        rintro _ h ⟨_, e9, kq, rfl, z2, t2, gz2, f2, ha9, hz9, htt9, hg9, ht9, hI, hI2, hgr⟩
        cases e9
        replace hx := kq _ _ hx (by unfold cP; first | (simp; done) | (simp; omega))
        replace hM := kq _ _ hM (by unfold cP; first | (simp; done) | (simp; omega))
        replace hc9 := hc9.kp kq (fun j hj => (by unfold cP; first | (simp; done) | (simp; omega)))
        replace kp1 := kp1.cal kq (by unfold mpL; first | (simp; done) | (simp; omega))
        replace kp := kp.cal kq (by unfold mpL; simp)
        replace ha := ha9
        replace hz := hz9
        replace htt := htt9
        replace hg := hg9
        replace ht := ht9
        refine ab_iconst (pc := 138) dX9_map_138 (by decide) ?_
        refine ab_iret (pc := 139) dX9_map_139 rfl ?_
        exact ⟨kp, _, _, _, _, _, _, rc.setMap kp1 b0 b8 a1 a8 hM ht ha hz htt hg (fun v v0 v1 => (hI v v0 v1).1) hgr mbs, 0, 1, Or.inr (Or.inr ⟨b0, b8, a1, a8, i0, iG, f0, by omega, rfl, Or.inr ⟨mo, rfl⟩⟩), rfl, Or.inl ⟨rfl, rfl, mapIn_F b0 a1 hI hI2, mapF35, mapF36, fun j j1 j2 j3 j4 => mapF_ne j1 j2 j3 j4⟩, Or.inl ⟨rfl, rfl⟩⟩
      · refine ab_aload_n (pc := 110) dX9_map_110 rfl ?_
        refine ab_get (pc := 111) (k := 4) okX9 hx rfl w116 rfl dX9_map_111 ?_
        refine ab_iload_n (pc := 114) dX9_map_114 rfl ?_
        refine ab_newG (pc := 115) (400 + 4 * b.toNat) okX1 rfl rfl w43 w881 w29 dX9_map_115 (fun am h z9 e9 n9 => ?_)
        replace hx := (n9 _ (ab_nn hx z9)).trans hx
        replace hM := (n9 _ (ab_nn hM z9)).trans hM
        replace ht := (n9 _ (ab_nn ht z9)).trans ht
        replace hc9 := hc9.kp (ab_kp.new (P := cP []) ab_kp0 z9 n9) (fun j hj => (by unfold cP; simp))
        replace kp1 := kp1.cal (ab_kp.new (P := cP []) ab_kp0 z9 n9) (by unfold mpL; first | (simp; done) | (simp; omega))
        replace kp := kp.new z9 n9
        have ha := e9
        clear e9 n9
        refine ab_dup (pc := 118) dX9_map_118 rfl ?_
        refine ab_callIN (pc := 119) (c_newMap hG (400 + 4 * b.toNat) ha (by omega)) (fun _ _ hx => absurd hx cC_no) ⟨w882, w29, w884, by decide, pd0⟩ w883 ⟨rfl, rfl⟩ rfl (by omega) (by decide) (Nat.le_of_ble_eq_true rfl) dX9_map_119 ?_
        rintro _ h ⟨_, e9, kq, rfl, b1, b2, b3_, ha9, hz9, htt9, hg9⟩
        cases e9
        replace hx := kq _ _ hx (by unfold cP; first | (simp; done) | (simp; omega))
        replace hM := kq _ _ hM (by unfold cP; first | (simp; done) | (simp; omega))
        replace ht := kq _ _ ht (by unfold cP; first | (simp; done) | (simp; omega))
        replace hc9 := hc9.kp kq (fun j hj => (by unfold cP; first | (simp; done) | (simp; omega)))
        replace kp1 := kp1.cal kq (by unfold mpL; first | (simp; done) | (simp; omega))
        replace kp := kp.cal kq (by unfold mpL; simp)
        replace ha := ha9
        have hz := hz9
        have htt := htt9
        have hg := hg9
        refine ab_aastG (pc := 122) hM (by decide) ha rfl (Or.inr rfl) (by omega) (by omega) dX9_map_122 (fun h e9 n9 => ?_)
        replace hx := (n9 _ (ab_ne hx hM (by first | (simp; done) | (simp; omega)))).trans hx
        replace ht := (n9 _ (ab_ne ht hM (by first | (simp; done) | (simp; omega)))).trans ht
        replace hc9 := hc9.kp (ab_kp_wr1 hM n9) (fun j hj => (by unfold cP; first | (simp; done) | (simp; omega)))
        replace kp1 := kp1.cal (ab_kp_wr1 hM n9) (by unfold mpL; first | (simp; done) | (simp; omega))
        replace ha := (n9 _ (ab_ne ha hM (by first | (simp; done) | (simp; omega)))).trans ha
        replace hz := (n9 _ (ab_ne hz hM (by first | (simp; done) | (simp; omega)))).trans hz
        replace htt := (n9 _ (ab_ne htt hM (by first | (simp; done) | (simp; omega)))).trans htt
        replace hg := (n9 _ (ab_ne hg hM (by first | (simp; done) | (simp; omega)))).trans hg
        replace kp := kp.wr hM (cP_no (by simp)) n9
        replace hM := e9
        clear e9 n9
        refine ab_aload_n (pc := 123) dX9_map_123 rfl ?_
        refine ab_aload_n (pc := 124) dX9_map_124 rfl ?_
        refine ab_get (pc := 125) (k := 4) okX9 hx rfl w116 rfl dX9_map_125 ?_
        refine ab_iload_n (pc := 128) dX9_map_128 rfl ?_
        refine ab_aald (pc := 129) hM (by omega) (by omega) dX9_map_129 ?_
        rw [ab_f_eq rfl]
        refine ab_iload_n (pc := 130) dX9_map_130 rfl ?_
        refine ab_aload (pc := 131) dX9_map_131 rfl ?_
        refine ab_iload (pc := 133) dX9_map_133 rfl ?_
        refine ab_callV (pc := 135) (c_fillMap hG hx ht ha hz htt hg hc9 (by omega) i0 i1 f0 (by omega) a1 a8 mo b3) hx rfl ⟨w901, w1, w904, by decide, pd63⟩ w903 sp16 rfl (by omega) (by decide) (Nat.le_of_ble_eq_true rfl) rfl dX9_map_135 (fun _ _ hx => absurd hx cC_no) ?_
        rintro _ h ⟨_, e9, kq, rfl, z2, t2, gz2, f2, ha9, hz9, htt9, hg9, ht9, hI, hI2, hgr⟩
        cases e9
        replace hx := kq _ _ hx (by unfold cP; first | (simp; done) | (simp; omega))
        replace hM := kq _ _ hM (by unfold cP; first | (simp; done) | (simp; omega))
        replace hc9 := hc9.kp kq (fun j hj => (by unfold cP; first | (simp; done) | (simp; omega)))
        replace kp1 := kp1.cal kq (by unfold mpL; first | (simp; done) | (simp; omega))
        replace kp := kp.cal kq (by unfold mpL; simp)
        replace ha := ha9
        replace hz := hz9
        replace htt := htt9
        replace hg := hg9
        replace ht := ht9
        refine ab_iconst (pc := 138) dX9_map_138 (by decide) ?_
        refine ab_iret (pc := 139) dX9_map_139 rfl ?_
        exact ⟨kp, _, _, _, _, _, _, rc.setMap kp1 b0 b8 a1 a8 hM ht ha hz htt hg (fun v v0 v1 => (hI v v0 v1).1) hgr mbs, 0, 1, Or.inr (Or.inr ⟨b0, b8, a1, a8, i0, iG, f0, by omega, rfl, Or.inr ⟨mo, rfl⟩⟩), rfl, Or.inl ⟨rfl, rfl, mapIn_F b0 a1 hI hI2, mapF35, mapF36, fun j j1 j2 j3 j4 => mapF_ne j1 j2 j3 j4⟩, Or.inl ⟨rfl, rfl⟩⟩
    · refine ab_aload (pc := 51) dX9_map_51 rfl ?_
      refine ab_iload (pc := 53) dX9_map_53 rfl ?_
      refine ab_iload (pc := 55) dX9_map_55 rfl ?_
      refine ab_iadd (pc := 57) dX9_map_57 (by omega) (by omega) ?_
      refine ab_aload_n (pc := 58) dX9_map_58 rfl ?_
      refine ab_get (pc := 59) (k := 7) okX9 rc.o rfl w119 rfl dX9_map_59 ?_
      refine ab_callV (pc := 62) (c_readInto hG hc9.1 hc9.2.1 hc9.2.2.1 rc.lt (i9 := i.toNat) (by omega) (by omega) (by omega) (by rw [(hc9.zI i0).1 _ (by omega) (by omega)]; exact (b3 _ (by omega) (by omega)).2) (by rw [(hc9.zI i0).1 _ (by omega) (by omega)]; exact (b3 _ (by omega) (by omega)).1)) hc9.1 rfl ⟨w605, w11, w608, by decide, pd46⟩ w606 w607 rfl (by omega) (by decide) (Nat.le_of_ble_eq_true rfl) rfl dX9_map_62 (fun _ _ hx => absurd hx cC_no) ?_
      rintro _ h ⟨_, e9, kq, v, rfl, rd0, f9, hl9, rl0⟩
      cases e9
      replace hc9 := hc9.kp kq (fun j hj => (by unfold cP; simp; omega))
      replace kp := kp.cal kq (by simp)
      replace rc := rc.let kq hl9
      obtain ⟨rd, rl1⟩ := hc9.rdk i0 (by omega) (by omega) rd0
      have rl := rl1 f9 rl0
      have ln := rd.len
      refine ab_istore (pc := 65) dX9_map_65 rfl (Nat.le_of_ble_eq_true rfl) ?_
      refine ab_iload (pc := 67) dX9_map_67 rfl ?_
      refine ab_iconst (pc := 69) dX9_map_69 (by decide) ?_
      refine ab_icmp_lt (pc := 70) 93 dX9_map_70 (by decide) (fun c70 => ?_) (fun c70 => ?_)
      · refine ab_iconst (pc := 93) dX9_map_93 (by decide) ?_
        refine ab_iret (pc := 94) dX9_map_94 rfl ?_
        first | exact ⟨kp, _, _, _, _, _, _, rc, 0, 0, Or.inr (Or.inr ⟨b0, b8, a1, a8, i0, iG, f0, by omega, rfl, Or.inl ⟨fun kk => wOk_no rd (by omega) (kk u u0 (by omega)), rfl⟩⟩), rfl, Or.inr ⟨by omega, rfl⟩, Or.inl ⟨rfl, rfl⟩⟩ | exact ⟨kp, _, _, _, _, _, _, rc, 0, 0, Or.inr (Or.inr ⟨b0, b8, a1, a8, i0, iG, f0, by omega, rfl, Or.inl ⟨fun kk => wOk_no rd (Or.inr (Or.inr (fun k9 => by rcases hbv with ⟨q, _⟩ | ⟨_, q⟩; (exact absurd q (by omega)); exact q (fun j j0 j1 => by rw [rl j j0 j1]; exact k9 j j0 j1)))) (kk u u0 (by omega)), rfl⟩⟩), rfl, Or.inr ⟨by omega, rfl⟩, Or.inl ⟨rfl, rfl⟩⟩
      · refine ab_iload (pc := 73) dX9_map_73 rfl ?_
        refine ab_bipush (pc := 75) dX9_map_75 (by decide) ?_
        refine ab_icmp_gt (pc := 77) 93 dX9_map_77 (by decide) (fun c77 => ?_) (fun c77 => ?_)
        · refine ab_iconst (pc := 93) dX9_map_93 (by decide) ?_
          refine ab_iret (pc := 94) dX9_map_94 rfl ?_
          first | exact ⟨kp, _, _, _, _, _, _, rc, 0, 0, Or.inr (Or.inr ⟨b0, b8, a1, a8, i0, iG, f0, by omega, rfl, Or.inl ⟨fun kk => wOk_no rd (by omega) (kk u u0 (by omega)), rfl⟩⟩), rfl, Or.inr ⟨by omega, rfl⟩, Or.inl ⟨rfl, rfl⟩⟩ | exact ⟨kp, _, _, _, _, _, _, rc, 0, 0, Or.inr (Or.inr ⟨b0, b8, a1, a8, i0, iG, f0, by omega, rfl, Or.inl ⟨fun kk => wOk_no rd (Or.inr (Or.inr (fun k9 => by rcases hbv with ⟨q, _⟩ | ⟨_, q⟩; (exact absurd q (by omega)); exact q (fun j j0 j1 => by rw [rl j j0 j1]; exact k9 j j0 j1)))) (kk u u0 (by omega)), rfl⟩⟩), rfl, Or.inr ⟨by omega, rfl⟩, Or.inl ⟨rfl, rfl⟩⟩
        · refine ab_aload_n (pc := 80) dX9_map_80 rfl ?_
          refine ab_get (pc := 81) (k := 7) okX9 rc.o rfl w119 rfl dX9_map_81 ?_
          refine ab_iload (pc := 84) dX9_map_84 rfl ?_
          refine ab_iload_n (pc := 86) dX9_map_86 rfl ?_
          refine ab_callS (pc := 87) (c_below hG rc.lt (by decide) (by show v ≤ (60 : Int); omega)) ⟨w647, w1, w649, by decide, pd50⟩ w648 rfl (by omega) (by decide) (Nat.le_of_ble_eq_true rfl) rfl dX9_map_87 (fun _ _ hx => absurd hx pC_no) ?_
          rintro _ _ ⟨bv, e9, rfl, hbv⟩
          cases e9
          rw [show ab_u C 10 f9 10 = f9 from ab_u_eq] at hbv
          refine ab_if_ne (pc := 90) 95 dX9_map_90 (by decide) (fun c90 => ?_) (fun c90 => ?_)
          · refine ab_iinc (pc := 95) dX9_map_95 rfl rfl (by decide) (by omega) (by omega) ?_
            refine ab_goto (pc := 98) 45 dX9_map_98 (by decide) ?_
            refine ih (u + 1) _ _ _ (by omega) rc hc9 kp (by omega) (by omega) (fun w w0 w1 => ?_)
            by_cases e : w = u
            · rw [e]; refine ⟨v, rd, by omega, by omega, fun j j0 j1 => ?_⟩
              rw [← rl j j0 j1]
              rcases hbv with ⟨_, q⟩ | ⟨q, _⟩
              · exact q j j0 j1
              · exact absurd q c90
            · exact mo w w0 (by omega)
          · refine ab_iconst (pc := 93) dX9_map_93 (by decide) ?_
            refine ab_iret (pc := 94) dX9_map_94 rfl ?_
            first | exact ⟨kp, _, _, _, _, _, _, rc, 0, 0, Or.inr (Or.inr ⟨b0, b8, a1, a8, i0, iG, f0, by omega, rfl, Or.inl ⟨fun kk => wOk_no rd (by omega) (kk u u0 (by omega)), rfl⟩⟩), rfl, Or.inr ⟨by omega, rfl⟩, Or.inl ⟨rfl, rfl⟩⟩ | exact ⟨kp, _, _, _, _, _, _, rc, 0, 0, Or.inr (Or.inr ⟨b0, b8, a1, a8, i0, iG, f0, by omega, rfl, Or.inl ⟨fun kk => wOk_no rd (Or.inr (Or.inr (fun k9 => by rcases hbv with ⟨q, _⟩ | ⟨_, q⟩; (exact absurd q (by omega)); exact q (fun j j0 j1 => by rw [rl j j0 j1]; exact k9 j j0 j1)))) (kk u u0 (by omega)), rfl⟩⟩), rfl, Or.inr ⟨by omega, rfl⟩, Or.inl ⟨rfl, rfl⟩⟩
theorem c_map (hG : ab_G l E) {x : Nat} {B : Nat → Nat} {s : Nat → Int} {F C : Nat → Int → Int} {SA : Nat → Int → Option Nat} {la : Option Nat} {q : Nat → Int} {b a i fr : Int} (rc : RCx h0 x B s F C SA la q) (b3 : ∀ j, 0 ≤ j → j < 160 → -1 ≤ F 3 j ∧ F 3 j ≤ 80) (s16 : s 1 ≤ 16) (mbs : ∀ b : Int, mkOk F b → mapB F b) : ab_M l E Y_X9_map 8 8 8 444 [vR x, vI b, vI a, vI i, vI fr] h0 (cW h0 (mpL b) x B (fun o s' F' => ∃ c r9 : Int, mapSp s F b a i fr c r9 ∧ s' = s ∧ ((c = 0 ∧ r9 = 1 ∧ mapIn F F' i fr b a ∧ F' 35 = ab_f (F 35) b 1 ∧ F' 36 = ab_f (F 36) b a ∧ ∀ j : Nat, j ≠ 35 → j ≠ 36 → j ≠ 37 → j ≠ 38 → F' j = F j) ∨ (¬ (c = 0 ∧ r9 = 1) ∧ F' = F)) ∧ ((c = 0 ∧ o = .inl (some (vI r9))) ∨ (c = 1 ∧ o = .inr "java/lang/IllegalArgumentException") ∨ (c = 2 ∧ o = .inr "java/lang/IndexOutOfBoundsException")))) := by
  refine ab_M.of (L0 := [some (vR x), some (vI b), some (vI a), some (vI i), some (vI fr), none, none, none]) hG rfl rfl (Nat.le_of_ble_eq_true rfl) rfl ?_
  have kp : ab_kp (cP (mpL b)) h0 h0 := ab_kp0
  refine ab_iload_n (pc := 0) dX9_map_0 rfl ?_
  refine ab_if_lt (pc := 1) 10 dX9_map_1 (by decide) (fun c1 => ?_) (fun c1 => ?_)
  · refine ab_throw (pc := 10) tw_IAE w880 (by decide) (Nat.le_of_ble_eq_true rfl) rfl dX9_map_10 dX9_map_13 dX9_map_14 dX9_map_16 dX9_map_19 ?_
    exact ⟨kp, _, _, _, _, _, _, rc, 1, 0, Or.inl ⟨fun kk => by omega, rfl, rfl⟩, rfl, Or.inr ⟨by omega, rfl⟩, Or.inr (Or.inl ⟨rfl, rfl⟩)⟩
  · refine ab_iload_n (pc := 4) dX9_map_4 rfl ?_
    refine ab_bipush (pc := 5) dX9_map_5 (by decide) ?_
    refine ab_icmp_lt (pc := 7) 20 dX9_map_7 (by decide) (fun c7 => ?_) (fun c7 => ?_)
    · refine ab_iload_n (pc := 20) dX9_map_20 rfl ?_
      refine ab_callS (pc := 21) (c_needAl hG) ⟨w805, w1, w807, by decide, pd5⟩ w806 rfl (by omega) (by decide) (Nat.le_of_ble_eq_true rfl) rfl dX9_map_21 (fun X9 h9 hx9 => by obtain ⟨rfl, ⟨r9, _⟩ | ⟨r9, n9⟩⟩ := hx9; cases r9; cases r9; exact ⟨kp, _, _, _, _, _, _, rc, 1, 0, Or.inl ⟨fun kk => n9 kk.2.2, rfl, rfl⟩, rfl, Or.inr ⟨by omega, rfl⟩, Or.inr (Or.inl ⟨rfl, rfl⟩)⟩) ?_
      rintro r9 h9 ⟨rfl, hr9⟩
      rcases hr9 with ⟨r9, oka⟩ | ⟨r9, _⟩
      rotate_left
      · cases r9
      cases r9
      refine ab_aload_n (pc := 24) dX9_map_24 rfl ?_
      refine ab_iload_n (pc := 25) dX9_map_25 rfl ?_
      refine ab_iload (pc := 26) dX9_map_26 rfl ?_
      refine ab_callV (pc := 28) (c_sheetRow hG rc.o rc.ss) rc.o rfl ⟨w265, w1, w268, by decide, pd9⟩ w267 sp1 rfl (by omega) (by decide) (Nat.le_of_ble_eq_true rfl) rfl dX9_map_28 (fun X9 h9 hx9 => by obtain ⟨rfl, ⟨_, r9, _⟩ | ⟨r9, n9⟩⟩ := hx9; cases r9; cases r9; exact ⟨kp, _, _, _, _, _, _, rc, 2, 0, Or.inr (Or.inl ⟨by omega, by omega, oka.1, oka.2, fun kk => n9 ⟨kk.1, by have := kk.2.1; omega, fun e => by have := rc.sh.nn kk.1 (by have := kk.2.1; omega) e; have := kk.2.1; omega, kk.2.2.1, by have := kk.2.2.2; omega⟩, rfl, rfl⟩), rfl, Or.inr ⟨by omega, rfl⟩, Or.inr (Or.inr ⟨rfl, rfl⟩)⟩) ?_
      rintro r9 h9 ⟨rfl, hr9⟩
      rcases hr9 with ⟨v9, r9, a9, e9, rfl, i0, i1, k0, k1⟩ | ⟨r9, _⟩
      rotate_left
      · cases r9
      cases r9
      obtain ⟨b9, c9, g9, z9, hc9⟩ := rc.sh.yes i0 i1 e9
      have iG := rc.sh.no i0 i1 e9
      refine ab_astore (pc := 31) dX9_map_31 rfl (Nat.le_of_ble_eq_true rfl) ?_
      refine ab_iload (pc := 33) dX9_map_33 rfl ?_
      refine ab_iload_n (pc := 35) dX9_map_35 rfl ?_
      refine ab_iadd (pc := 36) dX9_map_36 (by omega) (by omega) ?_
      refine ab_iconst (pc := 37) dX9_map_37 (by decide) ?_
      refine ab_isub (pc := 38) dX9_map_38 (by omega) (by omega) ?_
      refine ab_callS (pc := 39) (c_needRow hG) ⟨w289, w1, w291, by decide, pd5⟩ w290 rfl (by omega) (by decide) (Nat.le_of_ble_eq_true rfl) rfl dX9_map_39 (fun X9 h9 hx9 => by obtain ⟨rfl, ⟨r9, _⟩ | ⟨r9, n9⟩⟩ := hx9; cases r9; cases r9; exact ⟨kp, _, _, _, _, _, _, rc, 2, 0, Or.inr (Or.inl ⟨by omega, by omega, oka.1, oka.2, fun kk => by have := kk.2.2; omega, rfl, rfl⟩), rfl, Or.inr ⟨by omega, rfl⟩, Or.inr (Or.inr ⟨rfl, rfl⟩)⟩) ?_
      rintro r9 h9 ⟨rfl, hr9⟩
      rcases hr9 with ⟨r9, okr⟩ | ⟨r9, _⟩
      rotate_left
      · cases r9
      cases r9
      refine ab_iconst (pc := 42) dX9_map_42 (by decide) ?_
      refine ab_istore (pc := 43) dX9_map_43 rfl (Nat.le_of_ble_eq_true rfl) ?_
      refine ab_T.less (ab_Td (d9 := 8) (c_map_45 hG (by omega) (by omega) oka.1 oka.2 i0 i1 iG k0 (by omega) b3 s16 mbs _ 0 C _ _ (Nat.lt_succ_self _) rc hc9 kp (by omega) (by omega) (fun w w0 w1 => absurd w1 (by omega))) (by decide)) (by decide) (by decide)
    · refine ab_throw (pc := 10) tw_IAE w880 (by decide) (Nat.le_of_ble_eq_true rfl) rfl dX9_map_10 dX9_map_13 dX9_map_14 dX9_map_16 dX9_map_19 ?_
      exact ⟨kp, _, _, _, _, _, _, rc, 1, 0, Or.inl ⟨fun kk => by omega, rfl, rfl⟩, rfl, Or.inr ⟨by omega, rfl⟩, Or.inr (Or.inl ⟨rfl, rfl⟩)⟩
end C26
