/-! the class: keeps -/
section C28
variable {l : Launch} {E : AbE} {h0 : AbH}
theorem c_keeps_29 {x : Nat} {B : Nat → Nat} {s : Nat → Int} {F C : Nat → Int → Int} {SA : Nat → Int → Option Nat} {la0 : Option Nat} {q0 : Nat → Int} {hb : AbH} {am b1 b2 b3 g a9 b9 c9 : Nat} {b i last : Int} {z t g9 z9 w0 : Int → Int} (hG : ab_G l E) (rc : RCx hb x B s F C SA la0 q0) (bb3 : ∀ j, 0 ≤ j → j < 160 → -1 ≤ F 3 j ∧ F 3 j ≤ 80) (mk9 : mkOk F b) (i0 : 0 ≤ i) (i1 : i < 16) (iG : i < s 1) (e9 : SA 0 i = some a9) (hc9 : sheetC hb i.toNat a9 b9 c9 g9 z9 F) (g0 : 400 ≤ g) (g1 : g < 500) (hB : mpB (F 36 b) z t) (hE : mEq (F 36 b) z (tW t) (mSz F b) (mWd F b)) (hla : kLast F b last) (l18 : last ≤ 18)   (fu : Nat) : ∀ (j : Nat) (la : Option Nat) (e1 al1 n1 co lk fo lg sz nx bg : Int) (f9 u wv1 : Int → Int) (x7 : Option AbV) (h : AbH), (last - (j : Int)).toNat < fu → h x = some (kO 2 8 [vR (B 0), vI (s 1), vR (B 2), vI (s 7), vR (B 4), vR (B 5), vR (B 6), vR (B 7), vR (B 8)]) → h (B 6) = some (kO 8 3 [vR (B 9), vO la, vI e1, vI al1, vI n1, vI co, vI lk, vI fo, vI lg, vI sz, vI nx, vI bg]) → h (B 9) = some (kI 9 60 f9) → h (B 8) = some (kI 11 360 u) → h (B 5) = some (kA 6 "WordBench$Law" 1 (SA 5)) → h am = some (kO g 0 [vI (F 36 b), vR b1, vR b2, vR b3]) → h b1 = some (kI (g + 1) 8 z) → h b2 = some (kI (g + 2) 160 t) → lawsR h 1 (SA 5) 1 600 Fsq → ab_kp (cP [8, 9, 11]) hb h → ab_kp (cP [8, 9, 11, 101 + 3 * i.toNat, 102 + 3 * i.toNat]) h0 h → (0 ≤ lk) → (lk ≤ 20000) → ((j : Int) ≤ last) → (kPass (mSz F b) (mWd F b) (F 36 b) w0 j wv1 lk) → (preOk z (tW t) (F 36 b) j) → ab_T l E Y_X9_keeps 13 0 0 29 [some (vR x), some (vI b), some (vI i), some (vR am), some (vR a9), some (vI last), some (vI ((j : Int) + 1)), x7] [] h (cW h0 [8, 9, 11, 101 + 3 * i.toNat, 102 + 3 * i.toNat] x B (fun o s' F' => ∃ (c r9 n9 : Int) (gg : Int → Int), keepSp s F w0 b i c r9 (s' 23) n9 gg ∧ (∀ j : Nat, j ≠ 23 → s' j = s j) ∧ ((c = 0 ∧ r9 = 0 ∧ 0 ≤ n9 ∧ n9 ≤ 60 ∧ F' = rowF F i 0 n9 (fil (F 4) (80 * (10 * i + 0)) 80 (fun j => if j < n9 then gg j else 0))) ∨ (¬ (c = 0 ∧ r9 = 0) ∧ F' = F)) ∧ ((c = 0 ∧ o = .inl (some (vI r9))) ∨ (c = 1 ∧ o = .inr "java/util/NoSuchElementException") ∨ (c = 2 ∧ o = .inr "java/lang/IndexOutOfBoundsException")))) := by
  induction fu with
  | zero => intro j la e1 al1 n1 co lk fo lg sz nx bg f9 u wv1 x7 h hms9; exact absurd hms9 (Nat.not_lt_zero _)
  | succ fu ih =>
    intro j la e1 al1 n1 co lk fo lg sz nx bg f9 u wv1 x7 h hms9 hx hs hm hgr hl ha hz htt lr kp1 kp l0 l1 jl hP hpre
    refine ab_iload (pc := 29) dX9_keeps_29 rfl ?_
    refine ab_iload (pc := 31) dX9_keeps_31 rfl ?_
    refine ab_icmp_gt (pc := 33) 84 dX9_keeps_33 (by decide) (fun c33 => ?_) (fun c33 => ?_)
    · refine ab_iconst (pc := 84) dX9_keeps_84 (by decide) ?_
      refine ab_iret (pc := 85) dX9_keeps_85 rfl ?_
      obtain rfl : last = (j : Int) := by omega
      exact ⟨kp, _, _, _, _, _, _, (rc.srch2 kp1 hs hm hgr), 0, 1, 0, w0, Or.inr (Or.inr ⟨mk9, i0, iG, rfl, _, hla, Or.inl ⟨rfl, rfl, wv1, by rw [ab_u_eq, Int.toNat_natCast]; exact hP⟩⟩), (fun j hj => ab_u_ne hj), Or.inr ⟨by omega, rfl⟩, Or.inl ⟨rfl, rfl⟩⟩
    · refine ab_aload_n (pc := 36) dX9_keeps_36 rfl ?_
      refine ab_aload_n (pc := 37) dX9_keeps_37 rfl ?_
      refine ab_iload (pc := 38) dX9_keeps_38 rfl ?_
      refine ab_callV (pc := 40) (c_seekF hG wv1 hx hs hm hgr hl ha hz htt lr g0 g1 hB (by omega) (by omega) (by rw [show (j : Int) + 1 - 1 = j by omega]; exact hpre) l0 l1) hx rfl ⟨w970, w1, w973, by decide, pd69⟩ w972 sp19 rfl (by omega) (by decide) (Nat.le_of_ble_eq_true rfl) rfl dX9_keeps_40 (fun _ _ hx => absurd hx cC_no) ?_
      rintro _ h ⟨_, e9, kq, q9, y9, f2, u2, fo2, lg2, sz2, nx2, rfl, hs9, hm9, hgr9, lr9, hst, y0, y1, hy⟩
      cases e9
      replace hx := kq _ _ hx (by unfold cP; first | (simp; done) | (simp; omega))
      replace hl := kq _ _ hl (by unfold cP; first | (simp; done) | (simp; omega))
      replace ha := kq _ _ ha (by unfold cP; first | (simp; done) | (simp; omega))
      replace hz := kq _ _ hz (by unfold cP; first | (simp; done) | (simp; omega))
      replace htt := kq _ _ htt (by unfold cP; first | (simp; done) | (simp; omega))
      replace kp1 := kp1.cal kq (by simp)
      replace kp := kp.cal kq (by first | (simp; done) | (simp; omega))
      replace hs := hs9
      replace hm := hm9
      replace hgr := hgr9
      replace lr := lr9
      have hst2 := kStage_eq hE (by omega) hB.1 hst
      refine ab_istore (pc := 43) dX9_keeps_43 rfl (Nat.le_of_ble_eq_true rfl) ?_
      refine ab_iload (pc := 45) dX9_keeps_45 rfl ?_
      refine ab_bipush (pc := 47) dX9_keeps_47 (by decide) ?_
      refine ab_icmp_ne (pc := 49) 55 dX9_keeps_49 (by decide) (fun c49 => ?_) (fun c49 => ?_)
      · refine ab_iload (pc := 55) dX9_keeps_55 rfl ?_
        refine ab_iconst (pc := 57) dX9_keeps_57 (by decide) ?_
        refine ab_icmp_ne (pc := 58) 78 dX9_keeps_58 (by decide) (fun c58 => ?_) (fun c58 => ?_)
        · refine ab_iinc (pc := 78) dX9_keeps_78 rfl rfl (by decide) (by omega) (by omega) ?_
          refine ab_goto (pc := 81) 29 dX9_keeps_81 (by decide) ?_
          have hy0 : y9.1 = 0 := by rcases hy with ⟨q, _⟩ | q | q; (exact absurd q c58); (exact q); exact absurd q c49
          have g9 := ih (j + 1) _ _ _ _ _ _ _ _ _ _ _ _ _ y9.2.1 (some (vI y9.1)) _ (by omega) hx hs hm hgr hl ha hz htt lr kp1 kp y0 y1 (by omega) ⟨wv1, lk, q9, y9, hP, hst2, hy0, rfl, rfl⟩ (by rw [show ((j + 1 : Nat) : Int) = (j : Int) + 1 by omega]; exact hst.pre (by omega) hy0)
          rw [show ((j + 1 : Nat) : Int) + 1 = (j : Int) + 1 + 1 by omega] at g9
          exact g9
        · refine ab_aload (pc := 61) dX9_keeps_61 rfl ?_
          refine ab_iconst (pc := 63) dX9_keeps_63 (by decide) ?_
          refine ab_aload_n (pc := 64) dX9_keeps_64 rfl ?_
          refine ab_get (pc := 65) (k := 6) okX9 hx rfl w118 rfl dX9_keeps_65 ?_
          refine ab_getN (pc := 68) (k := 0) okX4 hs rfl w71 rfl dX9_keeps_68 ?_
          refine ab_iload (pc := 71) dX9_keeps_71 rfl ?_
          have rc2 := rc.srch2 kp1 hs hm hgr
          have hc8 := hc9.kp kp1 (fun j hj => by unfold cP; simp; omega)
          refine ab_callV (pc := 73) (c_copyIn hG hc8.1 hc8.2.1 hc8.2.2.1 hm (by omega) (by omega) (by omega) (Or.inl rfl) (by omega) (by omega) (by show (j : Int) + 1 ≤ (60 : Int); omega)) hc8.1 rfl ⟨w850, w11, w853, by decide, pd61⟩ w851 w852 rfl (by omega) (by decide) (Nat.le_of_ble_eq_true rfl) rfl dX9_keeps_73 (fun _ _ hx => absurd hx cC_no) ?_
          rintro _ h ⟨_, e9_, kq, rfl, hb9, hcc9⟩
          cases e9_
          replace kp := kp.cal kq (by simp)
          have rc3 := rc2.row (G4 := fil (F 4) (80 * (10 * i + 0)) 80 (fun u => if u < (j : Int) + 1 then f2 u else 0)) kq i0 i1 (by rw [ab_u_ne (by decide)]; exact iG) e9 hc8 (by omega) (by omega) (by omega) hb9 hcc9 (fun u u0 u1 => by rw [fil_at u0 (by omega), if_pos u1]) (fun u hu => fil_out hu) bb3
          refine ab_iconst (pc := 76) dX9_keeps_76 (by decide) ?_
          refine ab_iret (pc := 77) dX9_keeps_77 rfl ?_
          rcases hy with ⟨y1_, y2_, y3_⟩ | q | q
          · exact ⟨kp, _, _, _, _, _, _, rc3, 0, 0, (j : Int) + 1, f2, Or.inr (Or.inr ⟨mk9, i0, iG, rfl, last, hla, Or.inr ⟨j, wv1, lk, q9, y9, by omega, rfl, hP, hst2, by rw [ab_u_eq], Or.inl ⟨rfl, y1_, fun k => y2_ (mEq_ok (mEq_symm hE) (by omega) (sEnd_rng (by omega) hB.1 hst.1 y1_) k), y3_⟩⟩⟩), (fun j hj => ab_u_ne hj), Or.inl ⟨rfl, rfl, by omega, by omega, rfl⟩, Or.inl ⟨rfl, rfl⟩⟩
          · omega
          · omega
      · refine ab_bipush (pc := 52) dX9_keeps_52 (by decide) ?_
        refine ab_iret (pc := 54) dX9_keeps_54 rfl ?_
        exact ⟨kp, _, _, _, _, _, _, (rc.srch2 kp1 hs hm hgr), 0, -2, (j : Int) + 1, w0, Or.inr (Or.inr ⟨mk9, i0, iG, rfl, last, hla, Or.inr ⟨j, wv1, lk, q9, y9, by omega, rfl, hP, hst2, by rw [ab_u_eq], Or.inr ⟨rfl, c49⟩⟩⟩), (fun j hj => ab_u_ne hj), Or.inr ⟨by omega, rfl⟩, Or.inl ⟨rfl, rfl⟩⟩
theorem c_keeps (hG : ab_G l E) {x : Nat} {B : Nat → Nat} {s : Nat → Int} {F C : Nat → Int → Int} {SA : Nat → Int → Option Nat} {la : Option Nat} {q : Nat → Int} {b i : Int} (w0 : Int → Int) (rc : RCx h0 x B s F C SA la q) (b3 : ∀ j, 0 ≤ j → j < 160 → -1 ≤ F 3 j ∧ F 3 j ≤ 80) (s16 : s 1 ≤ 16) (mbs : ∀ b : Int, mkOk F b → mapB F b) : ab_M l E Y_X9_keeps 8 13 2 12 [vR x, vI b, vI i] h0 (cW h0 [8, 9, 11, 101 + 3 * i.toNat, 102 + 3 * i.toNat] x B (fun o s' F' => ∃ (c r9 n9 : Int) (gg : Int → Int), keepSp s F w0 b i c r9 (s' 23) n9 gg ∧ (∀ j : Nat, j ≠ 23 → s' j = s j) ∧ ((c = 0 ∧ r9 = 0 ∧ 0 ≤ n9 ∧ n9 ≤ 60 ∧ F' = rowF F i 0 n9 (fil (F 4) (80 * (10 * i + 0)) 80 (fun j => if j < n9 then gg j else 0))) ∨ (¬ (c = 0 ∧ r9 = 0) ∧ F' = F)) ∧ ((c = 0 ∧ o = .inl (some (vI r9))) ∨ (c = 1 ∧ o = .inr "java/util/NoSuchElementException") ∨ (c = 2 ∧ o = .inr "java/lang/IndexOutOfBoundsException")))) := by
  refine ab_M.of (L0 := [some (vR x), some (vI b), some (vI i), none, none, none, none, none]) hG rfl rfl (Nat.le_of_ble_eq_true rfl) rfl ?_
  have kp : ab_kp (cP [8, 9, 11, 101 + 3 * i.toNat, 102 + 3 * i.toNat]) h0 h0 := ab_kp0
  refine ab_aload_n (pc := 0) dX9_keeps_0 rfl ?_
  refine ab_iload_n (pc := 1) dX9_keeps_1 rfl ?_
  refine ab_callV (pc := 2) (c_mapOf hG rc.o rc.ms) rc.o rfl ⟨w933, w1, w936, by decide, pd67⟩ w935 sp18 rfl (by omega) (by decide) (Nat.le_of_ble_eq_true rfl) rfl dX9_keeps_2 (fun X9 h9 hx9 => by obtain ⟨rfl, ⟨_, r9, _⟩ | ⟨r9, n9⟩⟩ := hx9; cases r9; cases r9; exact ⟨kp, _, _, _, _, _, _, rc, 1, 0, 0, w0, Or.inl ⟨fun kk => n9 ⟨kk.1, kk.2.1, fun e => rc.mp.nn e kk⟩, rfl, rfl, rfl⟩, fun _ _ => rfl, Or.inr ⟨by omega, rfl⟩, Or.inr (Or.inl ⟨rfl, rfl⟩)⟩) ?_
  rintro r9 h9 ⟨rfl, hr9⟩
  rcases hr9 with ⟨v9, r9, a9m, em, rfl, m0, m1⟩ | ⟨r9, _⟩
  rotate_left
  · cases r9
  cases r9
  have mk9 := (rc.mp.no m0 m1 em).1
  refine ab_astore_n (pc := 5) dX9_keeps_5 rfl (Nat.le_of_ble_eq_true rfl) ?_
  refine ab_aload_n (pc := 6) dX9_keeps_6 rfl ?_
  refine ab_iload_n (pc := 7) dX9_keeps_7 rfl ?_
  refine ab_callV (pc := 8) (c_sheetOf hG rc.o rc.ss) rc.o rfl ⟨w269, w1, w272, by decide, pd10⟩ w271 sp2 rfl (by omega) (by decide) (Nat.le_of_ble_eq_true rfl) rfl dX9_keeps_8 (fun X9 h9 hx9 => by obtain ⟨rfl, ⟨_, r9, _⟩ | ⟨r9, n9⟩⟩ := hx9; cases r9; cases r9; exact ⟨kp, _, _, _, _, _, _, rc, 2, 0, 0, w0, Or.inr (Or.inl ⟨mk9, fun kk => n9 ⟨kk.1, by have := kk.2; omega, fun e => by have := rc.sh.nn kk.1 (by have := kk.2; omega) e; have := kk.2; omega⟩, rfl, rfl, rfl⟩), fun _ _ => rfl, Or.inr ⟨by omega, rfl⟩, Or.inr (Or.inr ⟨rfl, rfl⟩)⟩) ?_
  rintro r9 h9 ⟨rfl, hr9⟩
  rcases hr9 with ⟨v9, r9, a9, e9, rfl, i0, i1⟩ | ⟨r9, _⟩
  rotate_left
  · cases r9
  cases r9
  obtain ⟨b9, c9, g9, z9, hc9⟩ := rc.sh.yes i0 i1 e9
  have iG := rc.sh.no i0 i1 e9
  refine ab_astore (pc := 11) dX9_keeps_11 rfl (Nat.le_of_ble_eq_true rfl) ?_
  obtain ⟨b1, b2, b3_, z, t, gz, ha, hz, htt, hg2, hB, hE, hgr⟩ := (rc.mp.no m0 m1 em).2.b (mbs _ mk9)
  have hx := rc.o
  have hs := rc.sr
  have hm := rc.mk
  have hgr := rc.gr
  have hl := rc.qs
  have lr := rc.sq
  have kp1 := rc.kp0 [8, 9, 11]
  refine ab_aload_n (pc := 13) dX9_keeps_13 rfl ?_
  refine ab_get (pc := 14) (k := 6) okX9 hx rfl w118 rfl dX9_keeps_14 ?_
  refine ab_callV (pc := 17) (c_forget hG hs) hs rfl ⟨w810, w4, w813, by decide, pd0⟩ w811 w812 rfl (by omega) (by decide) (Nat.le_of_ble_eq_true rfl) rfl dX9_keeps_17 (fun _ _ hx => absurd hx cC_no) ?_
  rintro _ h ⟨_, e9, kq, rfl, hs9⟩
  cases e9
  replace hx := kq _ _ hx (by unfold cP; first | (simp; done) | (simp; omega))
  replace hm := kq _ _ hm (by unfold cP; first | (simp; done) | (simp; omega))
  replace hgr := kq _ _ hgr (by unfold cP; first | (simp; done) | (simp; omega))
  replace hl := kq _ _ hl (by unfold cP; first | (simp; done) | (simp; omega))
  replace ha := kq _ _ ha (by unfold cP; first | (simp; done) | (simp; omega))
  replace hz := kq _ _ hz (by unfold cP; first | (simp; done) | (simp; omega))
  replace htt := kq _ _ htt (by unfold cP; first | (simp; done) | (simp; omega))
  replace lr := lr.kp kq (fun j j0 j1 => (by unfold cP; first | (simp; done) | (simp; omega)))
  replace kp1 := kp1.cal kq (by simp)
  replace hg2 := kq _ _ hg2 (by unfold cP; first | (simp; done) | (simp; omega))
  replace kp := kp.cal kq (by first | (simp; done) | (simp; omega))
  replace hs := hs9
  refine ab_aload_n (pc := 20) dX9_keeps_20 rfl ?_
  refine ab_callV (pc := 21) (c_len hG ha hz hB) ha rfl ⟨w964, w29, w967, by decide, pd26⟩ w965 w966 rfl (by omega) (by decide) (Nat.le_of_ble_eq_true rfl) rfl dX9_keeps_21 (fun _ _ hx => absurd hx pC_no) ?_
  rintro _ _ ⟨lv, e9, rfl, hlv⟩
  cases e9
  have lbd := lenS_bd hB hlv
  refine ab_istore (pc := 24) dX9_keeps_24 rfl (Nat.le_of_ble_eq_true rfl) ?_
  refine ab_iconst (pc := 26) dX9_keeps_26 (by decide) ?_
  refine ab_istore (pc := 27) dX9_keeps_27 rfl (Nat.le_of_ble_eq_true rfl) ?_
  exact c_keeps_29 hG rc b3 mk9 i0 i1 iG e9 hc9 (by omega) (by omega) hB hE (len_last hE hlv) lbd.2 _ 0 _ _ _ _ _ 0 _ _ _ _ _ _ _ w0 _ _ (Nat.lt_succ_self _) hx hs hm hgr hl ha hz htt lr kp1 kp (by omega) (by omega) (by show (0 : Int) ≤ _; omega) ⟨rfl, rfl⟩ preOk_0
end C28
