/-! the reference: where a shape comes -/
section M5
variable {l : Launch} {E : AbE} {m : Nat} {A : Nat → Nat} {s0 : Nat → Int} {F0 : Nat → Int → Int} {h0 : AbH}
def z3 (x y z : Int) : Int → Int := fun u => if u = 0 then x else if u = 1 then y else if u = 2 then z else 1
theorem pl_part {z sh : Int → Int} {q n k : Int} (hz : ∀ k : Int, 0 ≤ k → k < n → 1 ≤ z (sh (q + k))) (k0 : 0 ≤ k) (k1 : k < n) : z (sh (q + k)) ≤ pl z sh q n := by
  have h1 := pl_ge hz k k0 (by omega)
  have h2 := pl_mono hz (j := k + 1) (by omega) n (by omega) (Int.le_refl _) (by omega)
  rw [pl_step k0] at h2
  omega
theorem m_fitsZ (hG : ab_G l E) (hM : mR h0 m A s0 F0) {K : Nat} (hK : wK K) {q n a b x y z : Int} {sh f : Int → Int} (e12 : F0 12 = sh) (eK : F0 K = f) (q0 : 0 ≤ q) (q1 : q + n ≤ 960) (n0 : 0 ≤ n) (n6 : n ≤ 6) (a0 : 0 ≤ a) (ab : a ≤ b) (bN : b ≤ mLen K) (sl : ∀ k : Int, 0 ≤ k → k < n → 0 ≤ sh (q + k) ∧ sh (q + k) ≤ 2) (ex : F0 15 0 = x) (ey : F0 15 1 = y) (ez : F0 15 2 = z) (bx : 1 ≤ x ∧ x ≤ 100) (by9 : 1 ≤ y ∧ y ≤ 100) (bz : 1 ≤ z ∧ z ≤ 100) : ab_M l E Y_X10_fits 12 0 0 0 [vR m, vR (A 12), vI q, vI n, vR (A K), vI a, vI b] h0 (mC h0 m A s0 F0 [] [14] (fun r s' F' => (r = some (vI 1) ∧ Fit (z3 x y z) sh q n f a b) ∨ (r = some (vI 0) ∧ ¬ Fit (z3 x y z) sh q n f a b))) := by
  subst e12 eK
  have hv : ∀ u : Int, 0 ≤ u → u ≤ 2 → F0 15 u = z3 x y z u := by
    intro u u0 u1
    unfold z3
    by_cases e : u = 0
    · rw [if_pos e, e, ex]
    · rw [if_neg e]
      by_cases e2 : u = 1
      · rw [if_pos e2, e2, ey]
      · rw [if_neg e2, if_pos (by omega), show u = 2 by omega, ez]
  have hc : ∀ k : Int, 0 ≤ k → k < n → F0 15 (F0 12 (q + k)) = z3 x y z (F0 12 (q + k)) := fun k k0 k1 => hv _ (sl k k0 k1).1 (sl k k0 k1).2
  refine (m_fits hG hM hK q0 q1 n0 n6 a0 ab bN sl (fun u u0 u1 => ?_)).mono ?_
  · have : u = 0 ∨ u = 1 ∨ u = 2 := by omega
    rcases this with e | e | e <;> subst e
    · rw [ex]; exact bx
    · rw [ey]; exact by9
    · rw [ez]; exact bz
  · rintro o h' ⟨r, s', F', e1, e2, e3⟩
    refine ⟨r, s', F', e1, e2, ?_⟩
    rcases e3 with ⟨e3, e4⟩ | ⟨e3, e4⟩
    · exact Or.inl ⟨e3, Fit.congr n0 hc e4⟩
    · exact Or.inr ⟨e3, fun e => e4 (Fit.congr n0 (fun k k0 k1 => (hc k k0 k1).symm) e)⟩
theorem z3_pos {x y z : Int} (hx : 1 ≤ x) (hy : 1 ≤ y) (hz : 1 ≤ z) (u : Int) : 1 ≤ z3 x y z u := by
  unfold z3
  split
  · exact hx
  · split
    · exact hy
    · split
      · exact hz
      · omega
/-- no sizes fit: these were looked at -/
def No2 (sh : Int → Int) (q n : Int) (f : Int → Int) (a b x y : Int) : Prop := ∀ z : Int, 1 ≤ z → z ≤ b - a → (¬ hasU sh q n 2 → z = 1) → ¬ Fit (z3 x y z) sh q n f a b
def No1 (sh : Int → Int) (q n : Int) (f : Int → Int) (a b x : Int) : Prop := ∀ y : Int, 1 ≤ y → y ≤ b - a → (¬ hasU sh q n 1 → y = 1) → No2 sh q n f a b x y
def No0 (sh : Int → Int) (q n : Int) (f : Int → Int) (a b : Int) : Prop := ∀ x : Int, 1 ≤ x → x ≤ b - a → (¬ hasU sh q n 0 → x = 1) → No1 sh q n f a b x
theorem No0.no {sh : Int → Int} {q n : Int} {f : Int → Int} {a b : Int} (h : No0 sh q n f a b) (n1 : 1 ≤ n) (sl : ∀ k : Int, 0 ≤ k → k < n → 0 ≤ sh (q + k) ∧ sh (q + k) ≤ 2) : ¬ Comes sh q n f a b := by
  rintro ⟨z, z1, hf⟩
  have tot := hf.1
  have gz : ∀ k : Int, 0 ≤ k → k < n → 1 ≤ z (sh (q + k)) := fun k _ _ => z1 _
  have one : 1 ≤ b - a := by have := pl_ge gz n (by omega) (Int.le_refl _); omega
  have key : ∀ u : Int, ∃ x : Int, 1 ≤ x ∧ x ≤ b - a ∧ (¬ hasU sh q n u → x = 1) ∧ (hasU sh q n u → x = z u) := by
    intro u
    by_cases e : hasU sh q n u
    · obtain ⟨k, k0, k1, k2⟩ := id e
      have := pl_part gz k0 k1
      rw [k2] at this
      exact ⟨z u, z1 u, by omega, fun e2 => absurd e e2, fun _ => rfl⟩
    · exact ⟨1, by omega, one, fun _ => rfl, fun e2 => absurd e2 e⟩
  obtain ⟨x, x1, x2, x3, x4⟩ := key 0
  obtain ⟨y, y1, y2, y3, y4⟩ := key 1
  obtain ⟨w, w1, w2, w3, w4⟩ := key 2
  refine h x x1 x2 x3 y y1 y2 y3 w w1 w2 w3 (Fit.congr (by omega) (fun k k0 k1 => ?_) hf)
  have := sl k k0 k1
  have hu : ∀ u, sh (q + k) = u → hasU sh q n u := fun u e => ⟨k, k0, k1, e⟩
  have c3 : sh (q + k) = 0 ∨ sh (q + k) = 1 ∨ sh (q + k) = 2 := by omega
  rcases c3 with e | e | e
  · rw [e]; exact (x4 (hu 0 e)).symm
  · rw [e]; exact (y4 (hu 1 e)).symm
  · rw [e]; exact (w4 (hu 2 e)).symm
theorem m_comes_30 (hG : ab_G l E) {K : Nat} (hK : wK K) {q n a b : Int} (q0 : 0 ≤ q) (q1 : q + n ≤ 960) (n0 : 1 ≤ n) (n6 : n ≤ 6) (a0 : 0 ≤ a) (ab : a ≤ b) (bN : b ≤ mLen K) (sl : ∀ k : Int, 0 ≤ k → k < n → 0 ≤ F0 12 (q + k) ∧ F0 12 (q + k) ≤ 2) {x y : Int} (x1 : 1 ≤ x) (x2 : x ≤ b - a) (y1 : 1 ≤ y) (y2 : y ≤ b - a) (hC : No2 (F0 12) q n (F0 K) a b x y → ∀ (z : Int) (h : AbH) (s : Nat → Int) (F : Nat → Int → Int), mW h0 m A s0 F0 [] [14, 15] h s F → ab_T l E Y_X10_comesOf 1 0 0 98 [some (vR m), some (vR (A 12)), some (vI q), some (vI n), some (vR (A K)), some (vI a), some (vI b), some (vI (b - a)), some (vI x), some (vI y), some (vI z)] [] h (mC h0 m A s0 F0 [] [14, 15] (fun r s' F' => (r = some (vI 1) ∧ Comes (F0 12) q n (F0 K) a b) ∨ (r = some (vI 0) ∧ ¬ Comes (F0 12) q n (F0 K) a b)))) (fu : Nat) : ∀ (z : Int) (h : AbH) (s : Nat → Int) (F : Nat → Int → Int), mW h0 m A s0 F0 [] [14, 15] h s F → (b - a + 1 - z).toNat < fu → (1 ≤ z) → (∀ u : Int, 1 ≤ u → u < z → ¬ Fit (z3 x y u) (F0 12) q n (F0 K) a b) → ab_T l E Y_X10_comesOf 1 0 0 30 [some (vR m), some (vR (A 12)), some (vI q), some (vI n), some (vR (A K)), some (vI a), some (vI b), some (vI (b - a)), some (vI x), some (vI y), some (vI z)] [] h (mC h0 m A s0 F0 [] [14, 15] (fun r s' F' => (r = some (vI 1) ∧ Comes (F0 12) q n (F0 K) a b) ∨ (r = some (vI 0) ∧ ¬ Comes (F0 12) q n (F0 K) a b))) := by
  induction fu with
  | zero => intro z h s F hW hm; exact absurd hm (Nat.not_lt_zero _)
  | succ fu ih =>
    intro z h s F hW hm z1 I
    have hk8 := wK_le hK
    refine ab_iload (pc := 30) dX10_comesOf_30 rfl ?_
    refine ab_iload (pc := 32) dX10_comesOf_32 rfl ?_
    refine ab_icmp_gt (pc := 34) 98 dX10_comesOf_34 (by decide) (fun c34 => ?_) (fun c34 => ?_)
    · first
      | exact hC (fun u u1 u2 u3 => I u u1 (by omega)) _ _ _ _ hW
      | (refine hC (fun u u1 u2 u3 => ?_) _ _ _ _ hW; rcases hp2 with hp2 | hp2; (exfalso; omega); have u4 := u3 hp2.2; by_cases e : u = z; (rw [e]; exact ft); exact I u u1 (by omega))
    · refine ab_aload_n (pc := 37) dX10_comesOf_37 rfl ?_
      refine ab_get (pc := 38) (k := 15) (x := vR (A 15)) okX10 hW.obj rfl w1070 rfl dX10_comesOf_38 ?_
      refine ab_iconst (pc := 41) dX10_comesOf_41 (by decide) ?_
      refine ab_iload (pc := 42) dX10_comesOf_42 rfl ?_
      refine ab_iastG (pc := 44) (n := 3) (f := F 15) (hW.arr 15 rfl rfl) (by decide) (by omega) (by omega) dX10_comesOf_44 (fun h e9 n9 => ?_)
      replace hW := hW.wr (k := 15) rfl e9 n9 (by decide)
      clear e9 n9
      refine ab_aload_n (pc := 45) dX10_comesOf_45 rfl ?_
      refine ab_get (pc := 46) (k := 15) (x := vR (A 15)) okX10 hW.obj rfl w1070 rfl dX10_comesOf_46 ?_
      refine ab_iconst (pc := 49) dX10_comesOf_49 (by decide) ?_
      refine ab_iload (pc := 50) dX10_comesOf_50 rfl ?_
      refine ab_iastG (pc := 52) (n := 3) (f := ab_f (F 15) (0) (x)) (hW.arr 15 rfl rfl) (by decide) (by omega) (by omega) dX10_comesOf_52 (fun h e9 n9 => ?_)
      replace hW := hW.wr (k := 15) rfl e9 n9 (by decide)
      clear e9 n9
      refine ab_aload_n (pc := 53) dX10_comesOf_53 rfl ?_
      refine ab_get (pc := 54) (k := 15) (x := vR (A 15)) okX10 hW.obj rfl w1070 rfl dX10_comesOf_54 ?_
      refine ab_iconst (pc := 57) dX10_comesOf_57 (by decide) ?_
      refine ab_iload (pc := 58) dX10_comesOf_58 rfl ?_
      refine ab_iastG (pc := 60) (n := 3) (f := ab_f (ab_f (F 15) (0) (x)) (1) (y)) (hW.arr 15 rfl rfl) (by decide) (by omega) (by omega) dX10_comesOf_60 (fun h e9 n9 => ?_)
      replace hW := hW.wr (k := 15) rfl e9 n9 (by decide)
      clear e9 n9
      refine ab_aload_n (pc := 61) dX10_comesOf_61 rfl ?_
      refine ab_aload_n (pc := 62) dX10_comesOf_62 rfl ?_
      refine ab_iload_n (pc := 63) dX10_comesOf_63 rfl ?_
      refine ab_iload_n (pc := 64) dX10_comesOf_64 rfl ?_
      refine ab_aload (pc := 65) dX10_comesOf_65 rfl ?_
      refine ab_iload (pc := 67) dX10_comesOf_67 rfl ?_
      refine ab_iload (pc := 69) dX10_comesOf_69 rfl ?_
      refine ab_callV (pc := 71) (m_fitsZ (x := x) (y := y) (z := z) hG hW.1 hK (hW.Fv 12 (by decide)) (hW.Fv K (by unfold wK at hK; simp; omega)) q0 q1 (by omega) n6 a0 ab bN sl rfl rfl rfl ⟨by omega, by omega⟩ ⟨by omega, by omega⟩ ⟨by omega, by omega⟩) hW.obj rfl ⟨w1297, w5, w1300, by decide, pd76⟩ w1299 sp35 rfl (by decide) (by decide) (Nat.le_of_ble_eq_true rfl) rfl dX10_comesOf_71 (fun _ _ hx => absurd hx mC_no) ?_
      rintro _ h ⟨_, s1, F1, e9, hc1, hp1⟩
      cases e9
      replace hW := hW.call hc1 (by decide) (by decide)
      rcases hp1 with ⟨rfl, ft⟩ | ⟨rfl, ft⟩
      · refine ab_if_eq (pc := 74) 79 dX10_comesOf_74 (by decide) (fun c74 => absurd c74 (by omega)) (fun c74 => ?_)
        refine ab_iconst (pc := 77) dX10_comesOf_77 (by decide) ?_
        refine ab_zret (pc := 78) dX10_comesOf_78 rfl (by omega) ?_
        exact ⟨_, _, _, rfl, hW, Or.inl ⟨rfl, _, z3_pos x1 y1 z1, ft⟩⟩
      · refine ab_if_eq (pc := 74) 79 dX10_comesOf_74 (by decide) (fun c74 => ?_) (fun c74 => absurd c74 (by omega))
        refine ab_aload_n (pc := 79) dX10_comesOf_79 rfl ?_
        refine ab_iload_n (pc := 80) dX10_comesOf_80 rfl ?_
        refine ab_iload_n (pc := 81) dX10_comesOf_81 rfl ?_
        refine ab_iconst (pc := 82) dX10_comesOf_82 (by decide) ?_
        refine ab_callS (pc := 83) (m_has hG (hW.arr 12 rfl (hW.Fv 12 (by decide))) (by decide) (by omega) (by show _ ≤ (960 : Int); omega)) ⟨w1301, w5, w1303, by decide, pd56⟩ w1302 rfl (by decide) (by decide) (Nat.le_of_ble_eq_true rfl) rfl dX10_comesOf_83 (fun _ _ hx => absurd hx pC_no) ?_
        rintro _ _ ⟨v2, e9, rfl, hp2⟩
        cases e9
        refine ab_if_ne (pc := 86) 92 dX10_comesOf_86 (by decide) (fun c86 => ?_) (fun c86 => ?_)
        · refine ab_iinc (pc := 92) dX10_comesOf_92 rfl rfl (by decide) (by omega) (by omega) ?_
          refine ab_goto (pc := 95) 30 dX10_comesOf_95 (by decide) ?_
          refine ih (z + 1) _ _ _ hW (by omega) (by omega) (fun u u1 u2 => ?_)
          by_cases e : u = z
          · rw [e]; exact ft
          · exact I u u1 (by omega)
        · refine ab_goto (pc := 89) 98 dX10_comesOf_89 (by decide) ?_
          first
          | exact hC (fun u u1 u2 u3 => I u u1 (by omega)) _ _ _ _ hW
          | (refine hC (fun u u1 u2 u3 => ?_) _ _ _ _ hW; rcases hp2 with hp2 | hp2; (exfalso; omega); have u4 := u3 hp2.2; by_cases e : u = z; (rw [e]; exact ft); exact I u u1 (by omega))
theorem m_comes_20 (hG : ab_G l E) {K : Nat} (hK : wK K) {q n a b : Int} (q0 : 0 ≤ q) (q1 : q + n ≤ 960) (n0 : 1 ≤ n) (n6 : n ≤ 6) (a0 : 0 ≤ a) (ab : a ≤ b) (bN : b ≤ mLen K) (sl : ∀ k : Int, 0 ≤ k → k < n → 0 ≤ F0 12 (q + k) ∧ F0 12 (q + k) ≤ 2) {x : Int} (x1 : 1 ≤ x) (x2 : x ≤ b - a) (hC : No1 (F0 12) q n (F0 K) a b x → ∀ (y : Int) (x10 : Option AbV) (h : AbH) (s : Nat → Int) (F : Nat → Int → Int), mW h0 m A s0 F0 [] [14, 15] h s F → ab_T l E Y_X10_comesOf 1 0 0 117 [some (vR m), some (vR (A 12)), some (vI q), some (vI n), some (vR (A K)), some (vI a), some (vI b), some (vI (b - a)), some (vI x), some (vI y), x10] [] h (mC h0 m A s0 F0 [] [14, 15] (fun r s' F' => (r = some (vI 1) ∧ Comes (F0 12) q n (F0 K) a b) ∨ (r = some (vI 0) ∧ ¬ Comes (F0 12) q n (F0 K) a b)))) (fu : Nat) : ∀ (y : Int) (x10 : Option AbV) (h : AbH) (s : Nat → Int) (F : Nat → Int → Int), mW h0 m A s0 F0 [] [14, 15] h s F → (b - a + 1 - y).toNat < fu → (1 ≤ y) → (∀ u : Int, 1 ≤ u → u < y → No2 (F0 12) q n (F0 K) a b x u) → ab_T l E Y_X10_comesOf 1 0 0 20 [some (vR m), some (vR (A 12)), some (vI q), some (vI n), some (vR (A K)), some (vI a), some (vI b), some (vI (b - a)), some (vI x), some (vI y), x10] [] h (mC h0 m A s0 F0 [] [14, 15] (fun r s' F' => (r = some (vI 1) ∧ Comes (F0 12) q n (F0 K) a b) ∨ (r = some (vI 0) ∧ ¬ Comes (F0 12) q n (F0 K) a b))) := by
  induction fu with
  | zero => intro y x10 h s F hW hm; exact absurd hm (Nat.not_lt_zero _)
  | succ fu ih =>
    intro y x10 h s F hW hm y1 I
    have hk8 := wK_le hK
    refine ab_iload (pc := 20) dX10_comesOf_20 rfl ?_
    refine ab_iload (pc := 22) dX10_comesOf_22 rfl ?_
    refine ab_icmp_gt (pc := 24) 117 dX10_comesOf_24 (by decide) (fun c24 => ?_) (fun c24 => ?_)
    · first
      | exact hC (fun u u1 u2 u3 => I u u1 (by omega)) _ _ _ _ _ hW
      | (refine hC (fun u u1 u2 u3 => ?_) _ _ _ _ _ hW; rcases hp1 with hp2 | hp2; (exfalso; omega); have u4 := u3 hp2.2; by_cases e : u = y; (rw [e]; exact ft); exact I u u1 (by omega))
    · refine ab_iconst (pc := 27) dX10_comesOf_27 (by decide) ?_
      refine ab_istore (pc := 28) dX10_comesOf_28 rfl (Nat.le_of_ble_eq_true rfl) ?_
      refine m_comes_30 hG hK q0 q1 n0 n6 a0 ab bN sl x1 x2 y1 (by omega) (fun ft z h s F hW => ?_) _ 1 _ _ _ hW (Nat.lt_succ_self _) (by omega) (fun u u1 u2 => absurd u2 (by omega))
      refine ab_aload_n (pc := 98) dX10_comesOf_98 rfl ?_
      refine ab_iload_n (pc := 99) dX10_comesOf_99 rfl ?_
      refine ab_iload_n (pc := 100) dX10_comesOf_100 rfl ?_
      refine ab_iconst (pc := 101) dX10_comesOf_101 (by decide) ?_
      refine ab_callS (pc := 102) (m_has hG (hW.arr 12 rfl (hW.Fv 12 (by decide))) (by decide) (by omega) (by show _ ≤ (960 : Int); omega)) ⟨w1301, w5, w1303, by decide, pd56⟩ w1302 rfl (by decide) (by decide) (Nat.le_of_ble_eq_true rfl) rfl dX10_comesOf_102 (fun _ _ hx => absurd hx pC_no) ?_
      rintro _ _ ⟨v1, e9, rfl, hp1⟩
      cases e9
      refine ab_if_ne (pc := 105) 111 dX10_comesOf_105 (by decide) (fun c105 => ?_) (fun c105 => ?_)
      · refine ab_iinc (pc := 111) dX10_comesOf_111 rfl rfl (by decide) (by omega) (by omega) ?_
        refine ab_goto (pc := 114) 20 dX10_comesOf_114 (by decide) ?_
        refine ih (y + 1) _ _ _ _ hW (by omega) (by omega) (fun u u1 u2 => ?_)
        by_cases e : u = y
        · rw [e]; exact ft
        · exact I u u1 (by omega)
      · refine ab_goto (pc := 108) 117 dX10_comesOf_108 (by decide) ?_
        first
        | exact hC (fun u u1 u2 u3 => I u u1 (by omega)) _ _ _ _ _ hW
        | (refine hC (fun u u1 u2 u3 => ?_) _ _ _ _ _ hW; rcases hp1 with hp2 | hp2; (exfalso; omega); have u4 := u3 hp2.2; by_cases e : u = y; (rw [e]; exact ft); exact I u u1 (by omega))
theorem m_comes_10 (hG : ab_G l E) {K : Nat} (hK : wK K) {q n a b : Int} (q0 : 0 ≤ q) (q1 : q + n ≤ 960) (n0 : 1 ≤ n) (n6 : n ≤ 6) (a0 : 0 ≤ a) (ab : a ≤ b) (bN : b ≤ mLen K) (sl : ∀ k : Int, 0 ≤ k → k < n → 0 ≤ F0 12 (q + k) ∧ F0 12 (q + k) ≤ 2) (fu : Nat) : ∀ (x : Int) (x9 x10 : Option AbV) (h : AbH) (s : Nat → Int) (F : Nat → Int → Int), mW h0 m A s0 F0 [] [14, 15] h s F → (b - a + 1 - x).toNat < fu → (1 ≤ x) → (∀ u : Int, 1 ≤ u → u < x → No1 (F0 12) q n (F0 K) a b u) → ab_T l E Y_X10_comesOf 1 0 0 10 [some (vR m), some (vR (A 12)), some (vI q), some (vI n), some (vR (A K)), some (vI a), some (vI b), some (vI (b - a)), some (vI x), x9, x10] [] h (mC h0 m A s0 F0 [] [14, 15] (fun r s' F' => (r = some (vI 1) ∧ Comes (F0 12) q n (F0 K) a b) ∨ (r = some (vI 0) ∧ ¬ Comes (F0 12) q n (F0 K) a b))) := by
  induction fu with
  | zero => intro x x9 x10 h s F hW hm; exact absurd hm (Nat.not_lt_zero _)
  | succ fu ih =>
    intro x x9 x10 h s F hW hm x1 I
    have hk8 := wK_le hK
    refine ab_iload (pc := 10) dX10_comesOf_10 rfl ?_
    refine ab_iload (pc := 12) dX10_comesOf_12 rfl ?_
    refine ab_icmp_gt (pc := 14) 136 dX10_comesOf_14 (by decide) (fun c14 => ?_) (fun c14 => ?_)
    · have no : No0 (F0 12) q n (F0 K) a b := by
        first
        | exact (fun u u1 u2 u3 => I u u1 (by omega))
        | (intro u u1 u2 u3; rcases hp1 with hp2 | hp2; (exfalso; omega); have u4 := u3 hp2.2; by_cases e : u = x; (rw [e]; exact ft); exact I u u1 (by omega))
      refine ab_iconst (pc := 136) dX10_comesOf_136 (by decide) ?_
      refine ab_zret (pc := 137) dX10_comesOf_137 rfl (by omega) ?_
      exact ⟨_, _, _, rfl, hW, Or.inr ⟨rfl, no.no n0 sl⟩⟩
    · refine ab_iconst (pc := 17) dX10_comesOf_17 (by decide) ?_
      refine ab_istore (pc := 18) dX10_comesOf_18 rfl (Nat.le_of_ble_eq_true rfl) ?_
      refine m_comes_20 hG hK q0 q1 n0 n6 a0 ab bN sl x1 (by omega) (fun ft y x10 h s F hW => ?_) _ 1 _ _ _ _ hW (Nat.lt_succ_self _) (by omega) (fun u u1 u2 => absurd u2 (by omega))
      refine ab_aload_n (pc := 117) dX10_comesOf_117 rfl ?_
      refine ab_iload_n (pc := 118) dX10_comesOf_118 rfl ?_
      refine ab_iload_n (pc := 119) dX10_comesOf_119 rfl ?_
      refine ab_iconst (pc := 120) dX10_comesOf_120 (by decide) ?_
      refine ab_callS (pc := 121) (m_has hG (hW.arr 12 rfl (hW.Fv 12 (by decide))) (by decide) (by omega) (by show _ ≤ (960 : Int); omega)) ⟨w1301, w5, w1303, by decide, pd56⟩ w1302 rfl (by decide) (by decide) (Nat.le_of_ble_eq_true rfl) rfl dX10_comesOf_121 (fun _ _ hx => absurd hx pC_no) ?_
      rintro _ _ ⟨v1, e9, rfl, hp1⟩
      cases e9
      refine ab_if_ne (pc := 124) 130 dX10_comesOf_124 (by decide) (fun c124 => ?_) (fun c124 => ?_)
      · refine ab_iinc (pc := 130) dX10_comesOf_130 rfl rfl (by decide) (by omega) (by omega) ?_
        refine ab_goto (pc := 133) 10 dX10_comesOf_133 (by decide) ?_
        refine ih (x + 1) _ _ _ _ _ hW (by omega) (by omega) (fun u u1 u2 => ?_)
        by_cases e : u = x
        · rw [e]; exact ft
        · exact I u u1 (by omega)
      · refine ab_goto (pc := 127) 136 dX10_comesOf_127 (by decide) ?_
        have no : No0 (F0 12) q n (F0 K) a b := by
          first
          | exact (fun u u1 u2 u3 => I u u1 (by omega))
          | (intro u u1 u2 u3; rcases hp1 with hp2 | hp2; (exfalso; omega); have u4 := u3 hp2.2; by_cases e : u = x; (rw [e]; exact ft); exact I u u1 (by omega))
        refine ab_iconst (pc := 136) dX10_comesOf_136 (by decide) ?_
        refine ab_zret (pc := 137) dX10_comesOf_137 rfl (by omega) ?_
        exact ⟨_, _, _, rfl, hW, Or.inr ⟨rfl, no.no n0 sl⟩⟩
theorem m_comesOf (hG : ab_G l E) (hM : mR h0 m A s0 F0) {K : Nat} (hK : wK K) {q n a b : Int} (q0 : 0 ≤ q) (q1 : q + n ≤ 960) (n0 : 1 ≤ n) (n6 : n ≤ 6) (a0 : 0 ≤ a) (ab : a ≤ b) (bN : b ≤ mLen K) (sl : ∀ k : Int, 0 ≤ k → k < n → 0 ≤ F0 12 (q + k) ∧ F0 12 (q + k) ≤ 2) : ab_M l E Y_X10_comesOf 11 1 0 0 [vR m, vR (A 12), vI q, vI n, vR (A K), vI a, vI b] h0 (mC h0 m A s0 F0 [] [14, 15] (fun r s' F' => (r = some (vI 1) ∧ Comes (F0 12) q n (F0 K) a b) ∨ (r = some (vI 0) ∧ ¬ Comes (F0 12) q n (F0 K) a b))) := by
  refine ab_M.of (L0 := [some (vR m), some (vR (A 12)), some (vI q), some (vI n), some (vR (A K)), some (vI a), some (vI b), none, none, none, none]) hG rfl rfl (Nat.le_of_ble_eq_true rfl) rfl ?_
  have hW : mW h0 m A s0 F0 [] [14, 15] h0 s0 F0 := mW.start hM
  have hk8 := wK_le hK
  refine ab_iload (pc := 0) dX10_comesOf_0 rfl ?_
  refine ab_iload (pc := 2) dX10_comesOf_2 rfl ?_
  refine ab_isub (pc := 4) dX10_comesOf_4 (by omega) (by omega) ?_
  refine ab_istore (pc := 5) dX10_comesOf_5 rfl (Nat.le_of_ble_eq_true rfl) ?_
  refine ab_iconst (pc := 7) dX10_comesOf_7 (by decide) ?_
  refine ab_istore (pc := 8) dX10_comesOf_8 rfl (Nat.le_of_ble_eq_true rfl) ?_
  exact m_comes_10 hG hK q0 q1 n0 n6 a0 ab bN sl _ 1 _ _ _ _ _ hW (Nat.lt_succ_self _) (by omega) (fun u u1 u2 => absurd u2 (by omega))
end M5
