/-! the class: map -/
section C25
variable {l : Launch} {E : AbE} {h0 : AbH}
theorem wOk.rd {F : Nat → Int → Int} {i k a v : Int} (h : wOk F i k a) (r : isRd F i k v) : 1 ≤ v ∧ v ≤ 20 ∧ ∀ j : Int, 0 ≤ j → j < v → 0 ≤ rdL F i k j ∧ rdL F i k j < a := by
  obtain ⟨n, n1, n2, n3, n4⟩ := h
  obtain rfl := n1.uniq r
  exact ⟨n2, n3, fun j j0 j1 => ⟨((n1.len).2.2 (by omega)).2 j j0 j1 |>.1, n4 j j0 j1⟩⟩
theorem wOk_no {F : Nat → Int → Int} {i k a v : Int} (r : isRd F i k v) (h : v < 1 ∨ 20 < v ∨ ¬ ∀ j : Int, 0 ≤ j → j < v → rdL F i k j < a) : ¬ wOk F i k a := fun w => by
  have := w.rd r
  rcases h with h | h | h
  · omega
  · omega
  · exact h (fun j j0 j1 => (this.2.2 j j0 j1).2)
theorem sheetC.rdk {h : AbH} {F : Nat → Int → Int} {a b c : Nat} {g z : Int → Int} {i k v : Int} (i0 : 0 ≤ i) (r : sheetC h i.toNat a b c g z F) (k0 : 0 ≤ k) (k1 : k < 10) (rd : rdW (z k) (fun j => g (80 * k + j)) v) : isRd F i k v ∧ ∀ f : Int → Int, (∀ j : Int, 0 ≤ j → j < v → f j = g (80 * k + j)) → ∀ j : Int, 0 ≤ j → j < v → f j = rdL F i k j := by
  obtain ⟨z1, g1⟩ := r.zI i0
  rw [z1 k k0 k1] at rd
  have rd2 := rd.congr (g' := rdL F i k) (fun j j0 j1 => g1 k k0 k1 j j0 j1)
  refine ⟨rd2, fun f hf j j0 j1 => ?_⟩
  rw [hf j j0 j1]
  exact g1 k k0 k1 j j0 (by have := (rd2.len).2.2 (by omega); omega)
theorem c_fillMap_8 {x : Nat} {B : Nat → Nat} {s : Nat → Int} {F : Nat → Int → Int} {am b1 b2 b3 g a9 b9 c9 : Nat} {a i fr : Int} {g9 z9 : Int → Int} {gz : Int → Int} (hG : ab_G l E) (g0 : 400 ≤ g) (i0 : 0 ≤ i) (i1 : i < 16) (f0 : 0 ≤ fr) (f1 : fr + a ≤ 10) (a1 : 1 ≤ a) (a8 : a ≤ 8) (mo : mapOk F i fr a) (bb3 : ∀ j, 0 ≤ j → j < 160 → -1 ≤ F 3 j ∧ F 3 j ≤ 80)   (fu : Nat) : ∀ (u : Int) (z t fl : Int → Int) (h : AbH), (a - u).toNat < fu → h x = some (kO 2 8 [vR (B 0), vI (s 1), vR (B 2), vI (s 7), vR (B 4), vR (B 5), vR (B 6), vR (B 7), vR (B 8)]) → h (B 7) = some (kI 10 60 fl) → h am = some (kO g 0 [vI a, vR b1, vR b2, vR b3]) → h b1 = some (kI (g + 1) 8 z) → h b2 = some (kI (g + 2) 160 t) → h b3 = some (kJ (g + 3) 248 gz) → sheetC h i.toNat a9 b9 c9 g9 z9 F → ab_kp (cP [10, g, g + 1, g + 2, g + 3]) h0 h → (0 ≤ u) → (u ≤ a) → (∀ v : Int, 0 ≤ v → v < u → (z v ≤ 20 ∧ isRd F i (fr + v) (z v)) ∧ 1 ≤ z v) → (∀ v : Int, 0 ≤ v → v < u → ∀ j : Int, 0 ≤ j → j < z v → t (20 * v + j) = rdL F i (fr + v) j) → ab_T l E Y_X9_fillMap 3 0 0 8 [some (vR x), some (vR am), some (vI a), some (vR a9), some (vI fr), some (vI u)] [] h (cC h0 [10, g, g + 1, g + 2, g + 3] (fun r h' => r = none ∧ ∃ z t gz f : Int → Int, h' am = some (kO g 0 [vI a, vR b1, vR b2, vR b3]) ∧ h' b1 = some (kI (g + 1) 8 z) ∧ h' b2 = some (kI (g + 2) 160 t) ∧ h' b3 = some (kJ (g + 3) 248 gz) ∧ h' (B 7) = some (kI 10 60 f) ∧ (∀ v : Int, 0 ≤ v → v < a → z v ≤ 20 ∧ isRd F i (fr + v) (z v)) ∧ (∀ v : Int, 0 ≤ v → v < a → ∀ j : Int, 0 ≤ j → j < z v → t (20 * v + j) = rdL F i (fr + v) j) ∧ grOk gz z t a 31)) := by
  induction fu with
  | zero => intro u z t fl h hms9; exact absurd hms9 (Nat.not_lt_zero _)
  | succ fu ih =>
    intro u z t fl h hms9 hx ht ha hz htt hg hc9 kp u0 u1 I I2
    refine ab_iload (pc := 8) dX9_fillMap_8 rfl ?_
    refine ab_iload_n (pc := 10) dX9_fillMap_10 rfl ?_
    refine ab_icmp_ge (pc := 11) 43 dX9_fillMap_11 (by decide) (fun c11 => ?_) (fun c11 => ?_)
    · obtain rfl : u = a := by omega
      have hB : mpB u z t := ⟨a1, a8, fun v v0 v1 => ⟨(I v v0 v1).2, (I v v0 v1).1.1, fun j j0 j1 => by rw [I2 v v0 v1 j j0 j1]; exact ((mo v v0 v1).rd (I v v0 v1).1.2).2.2 j j0 j1⟩⟩
      refine ab_aload_n (pc := 43) dX9_fillMap_43 rfl ?_
      refine ab_callV (pc := 44) (c_measure hG ha hz htt hg hB (by omega)) ha rfl ⟨w910, w29, w913, by decide, pd0⟩ w911 w912 rfl (by omega) (by decide) (Nat.le_of_ble_eq_true rfl) rfl dX9_fillMap_44 (fun _ _ hx => absurd hx cC_no) ?_
      rintro _ h ⟨_, e9, kq, rfl, gz9, hg9, hgr⟩
      cases e9
      replace hx := kq _ _ hx (by unfold cP; first | (simp; done) | (simp; omega))
      replace ht := kq _ _ ht (by unfold cP; first | (simp; done) | (simp; omega))
      replace ha := kq _ _ ha (by unfold cP; first | (simp; done) | (simp; omega))
      replace hz := kq _ _ hz (by unfold cP; first | (simp; done) | (simp; omega))
      replace htt := kq _ _ htt (by unfold cP; first | (simp; done) | (simp; omega))
      replace hc9 := hc9.kp kq (fun j hj => (by unfold cP; first | (simp; done) | (simp; omega)))
      replace kp := kp.cal kq (by first | (simp; done) | (simp; omega))
      replace hg := hg9
      refine ab_vret (pc := 47) dX9_fillMap_47 rfl ?_
      exact ⟨_, rfl, kp, rfl, _, _, _, _, ha, hz, htt, hg, ht, fun v v0 v1 => (I v v0 v1).1, I2, hgr⟩
    · refine ab_aload_n (pc := 14) dX9_fillMap_14 rfl ?_
      refine ab_iload (pc := 15) dX9_fillMap_15 rfl ?_
      refine ab_aload_n (pc := 17) dX9_fillMap_17 rfl ?_
      refine ab_get (pc := 18) (k := 7) okX9 hx rfl w119 rfl dX9_fillMap_18 ?_
      refine ab_aload_n (pc := 21) dX9_fillMap_21 rfl ?_
      refine ab_iload (pc := 22) dX9_fillMap_22 rfl ?_
      refine ab_iload (pc := 24) dX9_fillMap_24 rfl ?_
      refine ab_iadd (pc := 26) dX9_fillMap_26 (by omega) (by omega) ?_
      refine ab_aload_n (pc := 27) dX9_fillMap_27 rfl ?_
      refine ab_get (pc := 28) (k := 7) okX9 hx rfl w119 rfl dX9_fillMap_28 ?_
      refine ab_callV (pc := 31) (c_readInto hG hc9.1 hc9.2.1 hc9.2.2.1 ht (i9 := i.toNat) (by omega) (by omega) (by omega) (by rw [(hc9.zI i0).1 _ (by omega) (by omega)]; exact (bb3 _ (by omega) (by omega)).2) (by rw [(hc9.zI i0).1 _ (by omega) (by omega)]; exact (bb3 _ (by omega) (by omega)).1)) hc9.1 rfl ⟨w605, w11, w608, by decide, pd46⟩ w606 w607 rfl (by omega) (by decide) (Nat.le_of_ble_eq_true rfl) rfl dX9_fillMap_31 (fun _ _ hx => absurd hx cC_no) ?_
      rintro _ h ⟨_, e9, kq, v, rfl, rd0, f9, hl9, rl0⟩
      cases e9
      replace hx := kq _ _ hx (by unfold cP; first | (simp; done) | (simp; omega))
      replace ha := kq _ _ ha (by unfold cP; first | (simp; done) | (simp; omega))
      replace hz := kq _ _ hz (by unfold cP; first | (simp; done) | (simp; omega))
      replace htt := kq _ _ htt (by unfold cP; first | (simp; done) | (simp; omega))
      replace hg := kq _ _ hg (by unfold cP; first | (simp; done) | (simp; omega))
      replace hc9 := hc9.kp kq (fun j hj => (by unfold cP; first | (simp; done) | (simp; omega)))
      replace kp := kp.cal kq (by first | (simp; done) | (simp; omega))
      replace ht := hl9
      obtain ⟨rd, rl1⟩ := hc9.rdk i0 (by omega) (by omega) rd0
      have rl := rl1 f9 rl0
      have wk := (mo u u0 (by omega)).rd rd
      refine ab_callV (pc := 34) (c_tell hG ha hz htt ht (by omega) u0 (by omega) (by omega) wk.2.1) ha rfl ⟨w905, w29, w908, by decide, pd61⟩ w906 w907 rfl (by omega) (by decide) (Nat.le_of_ble_eq_true rfl) rfl dX9_fillMap_34 (fun _ _ hx => absurd hx cC_no) ?_
      rintro _ h ⟨_, e9, kq, rfl, hz9, htt9⟩
      cases e9
      replace hx := kq _ _ hx (by unfold cP; first | (simp; done) | (simp; omega))
      replace ht := kq _ _ ht (by unfold cP; first | (simp; done) | (simp; omega))
      replace ha := kq _ _ ha (by unfold cP; first | (simp; done) | (simp; omega))
      replace hg := kq _ _ hg (by unfold cP; first | (simp; done) | (simp; omega))
      replace hc9 := hc9.kp kq (fun j hj => (by unfold cP; first | (simp; done) | (simp; omega)))
      replace kp := kp.cal kq (by first | (simp; done) | (simp; omega))
      replace hz := hz9
      replace htt := htt9
      refine ab_iinc (pc := 37) dX9_fillMap_37 rfl rfl (by decide) (by omega) (by omega) ?_
      refine ab_goto (pc := 40) 8 dX9_fillMap_40 (by decide) ?_
      refine ih (u + 1) _ _ _ _ (by omega) hx ht ha hz htt hg hc9 kp (by omega) (by omega) (fun w w0 w1 => ?_) (fun w w0 w1 j j0 j1 => ?_)
      · by_cases e : w = u
        · subst e; rw [ab_f_eq rfl]; exact ⟨⟨wk.2.1, rd⟩, wk.1⟩
        · rw [ab_f_ne e]; exact I w w0 (by omega)
      · by_cases e : w = u
        · subst e
          rw [ab_f_eq rfl] at j1
          rw [fil_at j0 j1]; exact rl j j0 j1
        · rw [ab_f_ne e] at j1
          have := (I w w0 (by omega)).1.1
          rw [fil_out (by omega)]; exact I2 w w0 (by omega) j j0 j1
theorem c_fillMap (hG : ab_G l E) {x : Nat} {B : Nat → Nat} {s : Nat → Int} {F : Nat → Int → Int} {am b1 b2 b3 g a9 b9 c9 : Nat} {a i fr : Int} {g9 z9 : Int → Int} {al : Int} {z t gz fl : Int → Int} (hx : h0 x = some (kO 2 8 [vR (B 0), vI (s 1), vR (B 2), vI (s 7), vR (B 4), vR (B 5), vR (B 6), vR (B 7), vR (B 8)])) (ht : h0 (B 7) = some (kI 10 60 fl)) (ha : h0 am = some (kO g 0 [vI al, vR b1, vR b2, vR b3])) (hz : h0 b1 = some (kI (g + 1) 8 z)) (htt : h0 b2 = some (kI (g + 2) 160 t)) (hg : h0 b3 = some (kJ (g + 3) 248 gz)) (hc9 : sheetC h0 i.toNat a9 b9 c9 g9 z9 F) (g0 : 400 ≤ g) (i0 : 0 ≤ i) (i1 : i < 16) (f0 : 0 ≤ fr) (f1 : fr + a ≤ 10) (a1 : 1 ≤ a) (a8 : a ≤ 8) (mo : mapOk F i fr a) (bb3 : ∀ j, 0 ≤ j → j < 160 → -1 ≤ F 3 j ∧ F 3 j ≤ 80) : ab_M l E Y_X9_fillMap 6 3 0 0 [vR x, vR am, vI a, vR a9, vI fr] h0 (cC h0 [10, g, g + 1, g + 2, g + 3] (fun r h' => r = none ∧ ∃ z t gz f : Int → Int, h' am = some (kO g 0 [vI a, vR b1, vR b2, vR b3]) ∧ h' b1 = some (kI (g + 1) 8 z) ∧ h' b2 = some (kI (g + 2) 160 t) ∧ h' b3 = some (kJ (g + 3) 248 gz) ∧ h' (B 7) = some (kI 10 60 f) ∧ (∀ v : Int, 0 ≤ v → v < a → z v ≤ 20 ∧ isRd F i (fr + v) (z v)) ∧ (∀ v : Int, 0 ≤ v → v < a → ∀ j : Int, 0 ≤ j → j < z v → t (20 * v + j) = rdL F i (fr + v) j) ∧ grOk gz z t a 31)) := by
  refine ab_M.of (L0 := [some (vR x), some (vR am), some (vI a), some (vR a9), some (vI fr), none]) hG rfl rfl (Nat.le_of_ble_eq_true rfl) rfl ?_
  have kp : ab_kp (cP [10, g, g + 1, g + 2, g + 3]) h0 h0 := ab_kp0
  refine ab_aload_n (pc := 0) dX9_fillMap_0 rfl ?_
  refine ab_iload_n (pc := 1) dX9_fillMap_1 rfl ?_
  refine ab_putGN (pc := 2) (k := 0) okX1 ha (by omega) (by decide) trivial w887 rfl rfl dX9_fillMap_2 (fun h e9 n9 => ?_)
  replace hx := (n9 _ (ab_ne hx ha (by first | (simp; done) | (simp; omega)))).trans hx
  replace ht := (n9 _ (ab_ne ht ha (by first | (simp; done) | (simp; omega)))).trans ht
  replace hz := (n9 _ (ab_ne hz ha (by first | (simp; done) | (simp; omega)))).trans hz
  replace htt := (n9 _ (ab_ne htt ha (by first | (simp; done) | (simp; omega)))).trans htt
  replace hg := (n9 _ (ab_ne hg ha (by first | (simp; done) | (simp; omega)))).trans hg
  replace hc9 := hc9.kp (ab_kp_wr1 ha n9) (fun j hj => (by unfold cP; first | (simp; done) | (simp; omega)))
  replace kp := kp.wr ha (cP_no (by simp)) n9
  replace ha := e9
  clear e9 n9
  refine ab_iconst (pc := 5) dX9_fillMap_5 (by decide) ?_
  refine ab_istore (pc := 6) dX9_fillMap_6 rfl (Nat.le_of_ble_eq_true rfl) ?_
  exact c_fillMap_8 hG g0 i0 i1 f0 f1 a1 a8 mo bb3 _ 0 z t fl _ (Nat.lt_succ_self _) hx ht ha hz htt hg hc9 kp (by omega) (by omega) (fun v v0 v1 => absurd v1 (by omega)) (fun v v0 v1 => absurd v1 (by omega))
end C25
