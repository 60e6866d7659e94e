/-! the reference: kept words, clashes -/
section M7
variable {l : Launch} {E : AbE} {m : Nat} {A : Nat → Nat} {s0 : Nat → Int} {F0 : Nat → Int → Int} {h0 : AbH}
theorem m_isBarredG (hG : ab_G l E) (hM : mR h0 m A s0 F0) {K : Nat} (hK : wK K) {G : Nat → Int → Int} {f : Int → Int} (eL : lawEq F0 G) (eK : F0 K = f) {q a b : Int} (q0 : 0 ≤ q) (q1 : q < 12) (a0 : 0 ≤ a) (ab : a < b) (bN : b ≤ mLen K) (le : ∀ j : Int, a ≤ j → j < b → 0 ≤ f j ∧ f j ≤ 7) (lb : lawB G q) : ab_M l E Y_X10_isBarred 9 2 0 0 [vR m, vI q, vR (A K), vI a, vI b] h0 (mC h0 m A s0 F0 [] [13, 14, 15] (fun r s' F' => (r = some (vI 1) ∧ Bar G q f a b) ∨ (r = some (vI 0) ∧ ¬ Bar G q f a b))) := by
  subst eK
  rw [← eL.lawB] at lb
  have g := m_isBarred hG hM hK q0 q1 a0 ab bN le lb
  rw [eL.bar] at g
  exact g
theorem wK_ni {K : Nat} (hK : wK K) {L : List Nat} (hn : ∀ j ∈ L, j ≠ 5 ∧ j ≠ 30 ∧ j ≠ 34 ∧ j ≠ 47) : K ∉ L := fun e => by
  have := hn K e
  unfold wK at hK
  omega
theorem mW.law {h0 h : AbH} {m : Nat} {A : Nat → Nat} {s0 s : Nat → Int} {F0 F : Nat → Int → Int} {ks kF : List Nat} (hW : mW h0 m A s0 F0 ks kF h s F) (hn : ∀ j ∈ kF, j < 8 ∨ 12 < j) : lawEq F F0 := by
  have k : ∀ j : Nat, 8 ≤ j → j ≤ 12 → F j = F0 j := fun j j0 j1 => hW.Fv j (fun e => by have := hn j e; omega)
  exact ⟨k 8 (by omega) (by omega), k 9 (by omega) (by omega), k 10 (by omega) (by omega), k 11 (by omega) (by omega), k 12 (by omega) (by omega)⟩
theorem m_keepsLast_24 (hG : ab_G l E) {K : Nat} (hK : wK K) {e n : Int} (l0 : 0 ≤ s0 7) (l1 : s0 7 ≤ 12) (lb : ∀ q : Int, 0 ≤ q → q < s0 7 → lawB F0 q) (nN : n ≤ mLen K) (le : ∀ j : Int, 0 ≤ j → j < n → 0 ≤ F0 K j ∧ F0 K j ≤ 7) {q : Int} (q0 : 0 ≤ q) (q1 : q < s0 7) (qi : inS e q) (hC : (∀ a : Int, 0 ≤ a → a < n → ¬ Bar F0 q (F0 K) a n) → ∀ (i : Int) (h : AbH) (s : Nat → Int) (F : Nat → Int → Int), mW h0 m A s0 F0 [] [13, 14, 15] h s F → ab_T l E Y_X10_keepsLast 4 0 0 51 [some (vR m), some (vI e), some (vR (A K)), some (vI n), some (vI q), some (vI i)] [] h (mC h0 m A s0 F0 [] [13, 14, 15] (fun r s' F' => (r = some (vI 1) ∧ KL F0 (s0 7) e (F0 K) n) ∨ (r = some (vI 0) ∧ ¬ KL F0 (s0 7) e (F0 K) n)))) (fu : Nat) : ∀ (i : Int) (h : AbH) (s : Nat → Int) (F : Nat → Int → Int), mW h0 m A s0 F0 [] [13, 14, 15] h s F → (n - i).toNat < fu → (0 ≤ i) → (∀ a : Int, 0 ≤ a → a < i → ¬ Bar F0 q (F0 K) a n) → ab_T l E Y_X10_keepsLast 4 0 0 24 [some (vR m), some (vI e), some (vR (A K)), some (vI n), some (vI q), some (vI i)] [] h (mC h0 m A s0 F0 [] [13, 14, 15] (fun r s' F' => (r = some (vI 1) ∧ KL F0 (s0 7) e (F0 K) n) ∨ (r = some (vI 0) ∧ ¬ KL F0 (s0 7) e (F0 K) n))) := by
  induction fu with
  | zero => intro i h s F hW hm; exact absurd hm (Nat.not_lt_zero _)
  | succ fu ih =>
    intro i h s F hW hm i0 I
    have hk8 := wK_le hK
    refine ab_iload (pc := 24) dX10_keepsLast_24 rfl ?_
    refine ab_iload_n (pc := 26) dX10_keepsLast_26 rfl ?_
    refine ab_icmp_ge (pc := 27) 51 dX10_keepsLast_27 (by decide) (fun c27 => ?_) (fun c27 => ?_)
    · exact hC (fun a a0 a1 => I a a0 (by omega)) _ _ _ _ hW
    · refine ab_aload_n (pc := 30) dX10_keepsLast_30 rfl ?_
      refine ab_iload (pc := 31) dX10_keepsLast_31 rfl ?_
      refine ab_aload_n (pc := 33) dX10_keepsLast_33 rfl ?_
      refine ab_iload (pc := 34) dX10_keepsLast_34 rfl ?_
      refine ab_iload_n (pc := 36) dX10_keepsLast_36 rfl ?_
      refine ab_callV (pc := 37) (m_isBarredG hG hW.1 hK (hW.law (by decide)) (hW.Fv K (wK_ni hK (by decide))) (by omega) (by omega) (by omega) (by omega) (by omega) (fun j j0 j1 => le j (by omega) (by omega)) (lb q (by omega) (by omega))) hW.obj rfl ⟨w1285, w5, w1288, by decide, pd75⟩ w1287 sp32 rfl (by decide) (by decide) (Nat.le_of_ble_eq_true rfl) rfl dX10_keepsLast_37 (fun _ _ hx => absurd hx mC_no) ?_
      rintro _ h ⟨_, s1, F1, e9, hc1, hp1⟩
      cases e9
      replace hW := hW.call hc1 (by decide) (by decide)
      rcases hp1 with ⟨rfl, ft⟩ | ⟨rfl, ft⟩
      · refine ab_if_eq (pc := 40) 45 dX10_keepsLast_40 (by decide) (fun c40 => absurd c40 (by omega)) (fun c40 => ?_)
        refine ab_iconst (pc := 43) dX10_keepsLast_43 (by decide) ?_
        refine ab_zret (pc := 44) dX10_keepsLast_44 rfl (by omega) ?_
        exact ⟨_, _, _, rfl, hW, Or.inr ⟨rfl, fun g => g q q0 q1 qi i i0 (by omega) ft⟩⟩
      · refine ab_if_eq (pc := 40) 45 dX10_keepsLast_40 (by decide) (fun c40 => ?_) (fun c40 => absurd c40 (by omega))
        refine ab_iinc (pc := 45) dX10_keepsLast_45 rfl rfl (by decide) (by omega) (by omega) ?_
        refine ab_goto (pc := 48) 24 dX10_keepsLast_48 (by decide) ?_
        refine ih (i + 1) _ _ _ hW (by omega) (by omega) (fun a a0 a1 => ?_)
        by_cases e9 : a = i
        · rw [e9]; exact ft
        · exact I a a0 (by omega)
theorem m_keepsLast_3 (hG : ab_G l E) {K : Nat} (hK : wK K) {e n : Int} (l0 : 0 ≤ s0 7) (l1 : s0 7 ≤ 12) (lb : ∀ q : Int, 0 ≤ q → q < s0 7 → lawB F0 q) (nN : n ≤ mLen K) (le : ∀ j : Int, 0 ≤ j → j < n → 0 ≤ F0 K j ∧ F0 K j ≤ 7) (fu : Nat) : ∀ (q : Int) (x9 : Option AbV) (h : AbH) (s : Nat → Int) (F : Nat → Int → Int), mW h0 m A s0 F0 [] [13, 14, 15] h s F → (s0 7 - q).toNat < fu → (0 ≤ q) → (∀ p : Int, 0 ≤ p → p < q → inS e p → ∀ a : Int, 0 ≤ a → a < n → ¬ Bar F0 p (F0 K) a n) → ab_T l E Y_X10_keepsLast 4 0 0 3 [some (vR m), some (vI e), some (vR (A K)), some (vI n), some (vI q), x9] [] h (mC h0 m A s0 F0 [] [13, 14, 15] (fun r s' F' => (r = some (vI 1) ∧ KL F0 (s0 7) e (F0 K) n) ∨ (r = some (vI 0) ∧ ¬ KL F0 (s0 7) e (F0 K) n))) := by
  induction fu with
  | zero => intro q x9 h s F hW hm; exact absurd hm (Nat.not_lt_zero _)
  | succ fu ih =>
    intro q x9 h s F hW hm q0 I
    refine ab_iload (pc := 3) dX10_keepsLast_3 rfl ?_
    refine ab_aload_n (pc := 5) dX10_keepsLast_5 rfl ?_
    refine ab_get (pc := 6) (k := 7) (x := vI (s0 7)) okX10 hW.obj (mg rfl (hW.sv 7 (by decide))) w1062 rfl dX10_keepsLast_6 ?_
    refine ab_icmp_ge (pc := 9) 57 dX10_keepsLast_9 (by decide) (fun c9 => ?_) (fun c9 => ?_)
    · refine ab_iconst (pc := 57) dX10_keepsLast_57 (by decide) ?_
      refine ab_zret (pc := 58) dX10_keepsLast_58 rfl (by omega) ?_
      exact ⟨_, _, _, rfl, hW, Or.inl ⟨rfl, fun p p0 p1 pi => I p p0 (by omega) pi⟩⟩
    · refine ab_iload_n (pc := 12) dX10_keepsLast_12 rfl ?_
      refine ab_iload (pc := 13) dX10_keepsLast_13 rfl ?_
      refine ab_callS (pc := 15) (m_isIn hG) ⟨w1282, w5, w1284, by decide, pd73⟩ w1283 rfl (by decide) (by decide) (Nat.le_of_ble_eq_true rfl) rfl dX10_keepsLast_15 (fun _ _ hx => absurd hx pC_no) ?_
      rintro _ _ ⟨v1, e9, rfl, hp1⟩
      cases e9
      refine ab_if_eq (pc := 18) 51 dX10_keepsLast_18 (by decide) (fun c18 => ?_) (fun c18 => ?_)
      · refine ab_iinc (pc := 51) dX10_keepsLast_51 rfl rfl (by decide) (by omega) (by omega) ?_
        refine ab_goto (pc := 54) 3 dX10_keepsLast_54 (by decide) ?_
        refine ih (q + 1) _ _ _ _ hW (by omega) (by omega) (fun p p0 p1 pi a a0 a1 => ?_)
        by_cases e9 : p = q
        · first
          | (rw [e9]; exact ft a a0 a1)
          | (rw [e9] at pi; exfalso; rcases hp1 with g | g; omega; exact g.2 pi)
        · exact I p p0 (by omega) pi a a0 a1
      · refine ab_iconst (pc := 21) dX10_keepsLast_21 (by decide) ?_
        refine ab_istore (pc := 22) dX10_keepsLast_22 rfl (Nat.le_of_ble_eq_true rfl) ?_
        have qi : inS e q := by rcases hp1 with g | g; exact g.2; omega
        refine m_keepsLast_24 hG hK l0 l1 lb nN le q0 (by omega) qi (fun ft i h s F hW => ?_) _ 0 _ _ _ hW (Nat.lt_succ_self _) (by omega) (fun a a0 a1 => absurd a1 (by omega))
        refine ab_iinc (pc := 51) dX10_keepsLast_51 rfl rfl (by decide) (by omega) (by omega) ?_
        refine ab_goto (pc := 54) 3 dX10_keepsLast_54 (by decide) ?_
        refine ih (q + 1) _ _ _ _ hW (by omega) (by omega) (fun p p0 p1 pi a a0 a1 => ?_)
        by_cases e9 : p = q
        · first
          | (rw [e9]; exact ft a a0 a1)
          | (rw [e9] at pi; exfalso; rcases hp1 with g | g; omega; exact g.2 pi)
        · exact I p p0 (by omega) pi a a0 a1
theorem m_keepsLast (hG : ab_G l E) (hM : mR h0 m A s0 F0) {K : Nat} (hK : wK K) {e n : Int} (l0 : 0 ≤ s0 7) (l1 : s0 7 ≤ 12) (lb : ∀ q : Int, 0 ≤ q → q < s0 7 → lawB F0 q) (nN : n ≤ mLen K) (le : ∀ j : Int, 0 ≤ j → j < n → 0 ≤ F0 K j ∧ F0 K j ≤ 7) : ab_M l E Y_X10_keepsLast 6 4 0 0 [vR m, vI e, vR (A K), vI n] h0 (mC h0 m A s0 F0 [] [13, 14, 15] (fun r s' F' => (r = some (vI 1) ∧ KL F0 (s0 7) e (F0 K) n) ∨ (r = some (vI 0) ∧ ¬ KL F0 (s0 7) e (F0 K) n))) := by
  refine ab_M.of (L0 := [some (vR m), some (vI e), some (vR (A K)), some (vI n), none, none]) hG rfl rfl (Nat.le_of_ble_eq_true rfl) rfl ?_
  have hW : mW h0 m A s0 F0 [] [13, 14, 15] h0 s0 F0 := mW.start hM
  refine ab_iconst (pc := 0) dX10_keepsLast_0 (by decide) ?_
  refine ab_istore (pc := 1) dX10_keepsLast_1 rfl (Nat.le_of_ble_eq_true rfl) ?_
  exact m_keepsLast_3 hG hK l0 l1 lb nN le _ 0 _ _ _ _ hW (Nat.lt_succ_self _) (by omega) (fun p p0 p1 => absurd p1 (by omega))
end M7
