/-! the class: a law by its kind, the least law that bars -/
section C5
variable {l : Launch} {E : AbE} {h0 : AbH}
theorem c_sh {y : AbY} {d kc ks pc ix : Nat} {L : List (Option AbV)} {S : List AbV} {Q : AbO → AbH → Prop} {h : AbH} {a g w gw N : Nat} {F : Nat → Int → Int} {q : Int} {f : Int → Int} {n : Int} (hG : ab_G l E) (hix : Cond.methodLink y.1.cls ix ⟨"WordBench$Law", "shortest", "([II)I"⟩ ∈ lw_tbl) (hd : decode y.2.1 pc = .ok (.invokevirtual ix, 3)) (hd9 : 9 ≤ d) (hS9 : (S.map ab_w).sum ≤ 8) (lc : lawC h g a F q) (lb : lawB F q) (hw : h w = some (kI gw N f)) (g0 : 201 ≤ g) (gw0 : gw < 200) (n0 : 1 ≤ n) (n1 : n ≤ N) (n4 : N ≤ 400) (big : F 8 q = 4 ∨ F 8 q = 5 → N ≤ 60 ∧ ∀ i : Int, 0 ≤ i → i < n → 0 ≤ f i ∧ f i ≤ 7) (hk : F 8 q = 5 → ∀ a u : Int, 0 ≤ a → a < u → u < n → ¬ Bar F q f a u)
    (K : ∀ (v : Int) (h' : AbH), ab_kp (cP [g, g + 3, g + 4]) h h' → lawC h' g a F q → (F 8 q ≠ 5 → h' = h) → Sh F q f n v → ab_T l E y d kc ks (pc + 3) L (vI v :: S) h' Q) : ab_T l E y d kc ks pc L (vI n :: vR w :: vR a :: S) h Q := by
  have lc9 := lc
  unfold lawB at lb
  rcases lc with ⟨c, b, t, c1, c2, c3⟩ | ⟨c, c1⟩ | ⟨c, c1⟩ | ⟨c, c1⟩ | ⟨c, c1⟩ | ⟨c, t, c1, c2⟩
  · have lL : 1 ≤ F 11 q := by omega
    refine ab_callU (c_told hG c1 c2 hw n0 n1 n4) (fun _ _ hx => absurd hx pC_no) c1 rfl ⟨hix, w758, w757, by decide, pd55⟩ ⟨w784, w785, w25, w786⟩ rfl (by omega) (by decide) hS9 hd ?_
    rintro _ _ ⟨v, e9, rfl, T⟩
    cases e9
    rw [show (((F 11 q).toNat : Nat) : Int) = F 11 q by omega] at T
    exact K v _ ab_kp0 lc9 (fun _ => rfl) (Sh_told c lL c3 T)
  · refine ab_callU (c_power hG c1 hw n0 n1 n4 (by unfold pwB; omega)) (fun _ _ hx => absurd hx pC_no) c1 rfl ⟨hix, w758, w757, by decide, pd55⟩ ⟨w767, w768, w3, w769⟩ rfl (by omega) (by decide) hS9 hd ?_
    rintro _ _ ⟨v, e9, rfl, T⟩
    cases e9
    exact K v _ ab_kp0 lc9 (fun _ => rfl) (Sh_pw (Or.inl ⟨c, rfl⟩) T)
  · refine ab_callU (c_power hG c1 hw n0 n1 n4 (by unfold pwB; omega)) (fun _ _ hx => absurd hx pC_no) c1 rfl ⟨hix, w758, w757, by decide, pd55⟩ ⟨w767, w768, w3, w769⟩ rfl (by omega) (by decide) hS9 hd ?_
    rintro _ _ ⟨v, e9, rfl, T⟩
    cases e9
    exact K v _ ab_kp0 lc9 (fun _ => rfl) (Sh_pw (Or.inr ⟨c, rfl⟩) T)
  · refine ab_callU (c_near hG c1 hw n0 n1 n4 (by omega) (by omega)) (fun _ _ hx => absurd hx pC_no) c1 rfl ⟨hix, w758, w757, by decide, pd55⟩ ⟨w759, w760, w27, w761⟩ rfl (by omega) (by decide) hS9 hd ?_
    rintro _ _ ⟨v, e9, rfl, T⟩
    cases e9
    exact K v _ ab_kp0 lc9 (fun _ => rfl) (Sh_near c T)
  · have big9 := big (Or.inl c)
    refine ab_callU (c_turn hG c1 hw n0 n1 n4 (by omega) big9.2) (fun _ _ hx => absurd hx pC_no) c1 rfl ⟨hix, w758, w757, by decide, pd55⟩ ⟨w787, w788, w28, w789⟩ rfl (by omega) (by decide) hS9 hd ?_
    rintro _ _ ⟨v, e9, rfl, T⟩
    cases e9
    exact K v _ ab_kp0 lc9 (fun _ => rfl) (Sh_turn c (by omega) (by omega) big9.2 T)
  · have big9 := big (Or.inr c)
    have lL : 1 ≤ F 11 q ∧ F 11 q ≤ 6 := by omega
    have tb : ∀ j : Int, 0 ≤ j → j < F 11 q → 0 ≤ t j ∧ t j ≤ 2 := fun j j0 j1 => by
      rw [c2 j j0 j1]
      rcases lb with ⟨e, _⟩ | ⟨e, _⟩ | ⟨e, _⟩ | ⟨e, _⟩ | e | ⟨_, _, _, k⟩
      · omega
      · omega
      · omega
      · omega
      · omega
      · exact k j j0 j1
    obtain ⟨b1, b2, b3, b4, b5, tl, bs, tm, en, st, s0, s1, s2, s3, s4, s5, s6, s7⟩ := c1
    have eL : (((F 11 q).toNat : Nat) : Int) = F 11 q := by omega
    refine ab_callU (c_shape_ hG s0 s1 s2 s3 s4 hw s5 g0 gw0 (by omega) n1 big9.1 (by omega) (by omega) (by rw [eL]; exact tb) s6 s7 (fun a u a0 a1 a2 hc => hk c a u a0 a1 a2 ((Bar_shape c).mpr (Comes_told eL (by omega) (fun i i0 i1 => c2 i i0 (by omega)) hc)))) (fun _ _ hx => absurd hx cC_no) s0 rfl ⟨hix, w758, w757, by decide, pd55⟩ ⟨w770, w771, w26, w772⟩ rfl (by omega) (by decide) hS9 hd ?_
    rintro _ h2 ⟨_, e9, kq, v, rfl, cS, bs', en1, en2, T1, T2⟩
    cases e9
    exact K v h2 kq (Or.inr (Or.inr (Or.inr (Or.inr (Or.inr ⟨c, t, cS, c2⟩))))) (fun g9 => absurd c g9) (Sh_shape c eL (by omega) (fun i i0 i1 => c2 i i0 (by omega)) T1 T2)

theorem c_barring_16 {la gl w gw N N9 mb : Nat} {SA : Int → Option Nat} {F : Nat → Int → Int} {G e n : Int} {f : Int → Int} (Lm : List Nat) (hG : ab_G l E) (er : -2147483648 ≤ e ∧ e < 2147483648) (N12 : N9 ≤ 12) (GN : G ≤ N9) (m0 : 201 ≤ mb) (gl0 : gl < 200) (gw0 : gw < 200) (glL : gl ∉ Lm) (gwL : gw ∉ Lm) (n0 : 1 ≤ n) (n1 : n ≤ N) (n4 : N ≤ 400) (lb : ∀ q : Int, 0 ≤ q → q < G → lawB F q) (hL : ∀ q : Int, 0 ≤ q → q < G → F 8 q = 5 → 200 ∈ Lm ∧ mb + 8 * N9 < 400) (big : ∀ q : Int, 0 ≤ q → q < G → F 8 q = 4 ∨ F 8 q = 5 → N ≤ 60 ∧ ∀ i : Int, 0 ≤ i → i < n → 0 ≤ f i ∧ f i ≤ 7) (hk : ∀ q : Int, 0 ≤ q → q < G → inS e q → F 8 q = 5 → ∀ a u : Int, 0 ≤ a → a < u → u < n → ¬ Bar F q f a u)   (fu : Nat) : ∀ (i : Int) (h : AbH), (N9 - i).toNat < fu → h la = some (kA gl "WordBench$Law" N9 SA) → h w = some (kI gw N f) → ab_kp (cP Lm) h0 h → (0 ≤ i) → (i ≤ N9) → (lawsR h N9 SA G mb F) → (∀ p : Int, 0 ≤ p → p < i → inS e p → ∀ a : Int, 0 ≤ a → a < n → (p < G → ¬ Bar F p f a n)) → ab_T l E Y_X9_barringLaw 9 0 0 16 [some (vR la), some (vI e), some (vR w), some (vI n), some (vI i)] [] h (cC h0 Lm (fun r h' => ∃ v : Int, r = some (vI v) ∧ lawsR h' N9 SA G mb F ∧ barR F G e f n v)) := by
  induction fu with
  | zero => intro i h hm; exact absurd hm (Nat.not_lt_zero _)
  | succ fu ih =>
    intro i h hm hl hw kp i0 i1 lr I
    refine ab_iload (pc := 16) dX9_barringLaw_16 rfl ?_
    refine ab_aload_n (pc := 18) dX9_barringLaw_18 rfl ?_
    refine ab_alenA (pc := 19) hl dX9_barringLaw_19 ?_
    refine ab_icmp_ge (pc := 20) 67 dX9_barringLaw_20 (by decide) (fun c20 => ?_) (fun c20 => ?_)
    · refine ab_iconst (pc := 67) dX9_barringLaw_67 (by decide) ?_
      refine ab_iret (pc := 68) dX9_barringLaw_68 rfl ?_
      refine ⟨_, rfl, kp, _, rfl, lr, Or.inl ⟨rfl, fun p p0 p1 pS a a0 a1 => ?_⟩⟩
      by_cases g9 : p < i
      · exact I p p0 g9 pS a a0 a1 p1
      · first | omega | exact absurd pS (inS_none er.1 er.2 i0 (by omega) (by omega) c27)
    · refine ab_iload_n (pc := 23) dX9_barringLaw_23 rfl ?_
      refine ab_iload (pc := 24) dX9_barringLaw_24 rfl ?_
      refine ab_ishr (pc := 26) dX9_barringLaw_26 ?_
      refine ab_if_eq (pc := 27) 67 dX9_barringLaw_27 (by decide) (fun c27 => ?_) (fun c27 => ?_)
      · refine ab_iconst (pc := 67) dX9_barringLaw_67 (by decide) ?_
        refine ab_iret (pc := 68) dX9_barringLaw_68 rfl ?_
        refine ⟨_, rfl, kp, _, rfl, lr, Or.inl ⟨rfl, fun p p0 p1 pS a a0 a1 => ?_⟩⟩
        by_cases g9 : p < i
        · exact I p p0 g9 pS a a0 a1 p1
        · first | omega | exact absurd pS (inS_none er.1 er.2 i0 (by omega) (by omega) c27)
      · refine ab_iload_n (pc := 30) dX9_barringLaw_30 rfl ?_
        refine ab_iload (pc := 31) dX9_barringLaw_31 rfl ?_
        refine ab_ishr (pc := 33) dX9_barringLaw_33 ?_
        refine ab_iconst (pc := 34) dX9_barringLaw_34 (by decide) ?_
        refine ab_iand (pc := 35) dX9_barringLaw_35 ?_
        refine ab_if_eq (pc := 36) 61 dX9_barringLaw_36 (by decide) (fun c36 => ?_) (fun c36 => ?_)
        · refine ab_iinc (pc := 61) dX9_barringLaw_61 rfl rfl (by decide) (by omega) (by omega) ?_
          refine ab_goto (pc := 64) 16 dX9_barringLaw_64 (by decide) ?_
          refine ih (i + 1) _ (by omega) hl hw kp (by omega) (by omega) lr (fun p p0 p1 pS a a0 a1 pG => ?_)
          by_cases g9 : p = i
          · subst g9
            first | exact absurd pS (not_inS c36) | exact Sh_0 hS c55 a a0 a1 | (rw [((lr p i0 (by omega)).1 pG).choose_spec.1] at c43; cases c43)
          · exact I p p0 (by omega) pS a a0 a1 pG
        · refine ab_aload_n (pc := 39) dX9_barringLaw_39 rfl ?_
          refine ab_iload (pc := 40) dX9_barringLaw_40 rfl ?_
          refine ab_aald (pc := 42) hl (by omega) (by omega) dX9_barringLaw_42 ?_
          refine ab_ifnull (pc := 43) 61 dX9_barringLaw_43 (by decide) (fun c43 => ?_) (fun a43 c43 => ?_)
          · refine ab_iinc (pc := 61) dX9_barringLaw_61 rfl rfl (by decide) (by omega) (by omega) ?_
            refine ab_goto (pc := 64) 16 dX9_barringLaw_64 (by decide) ?_
            refine ih (i + 1) _ (by omega) hl hw kp (by omega) (by omega) lr (fun p p0 p1 pS a a0 a1 pG => ?_)
            by_cases g9 : p = i
            · subst g9
              first | exact absurd pS (not_inS c36) | exact Sh_0 hS c55 a a0 a1 | (rw [((lr p i0 (by omega)).1 pG).choose_spec.1] at c43; cases c43)
            · exact I p p0 (by omega) pS a a0 a1 pG
          · refine ab_aload_n (pc := 46) dX9_barringLaw_46 rfl ?_
            refine ab_iload (pc := 47) dX9_barringLaw_47 rfl ?_
            refine ab_aald (pc := 49) hl (by omega) (by omega) dX9_barringLaw_49 ?_
            rw [c43]
            refine ab_aload_n (pc := 50) dX9_barringLaw_50 rfl ?_
            refine ab_iload_n (pc := 51) dX9_barringLaw_51 rfl ?_
            have lt : i < G := by
              rcases Int.lt_or_le i G with g9 | g9
              · exact g9
              · rw [(lr i i0 (by omega)).2 g9] at c43; cases c43
            obtain ⟨a9, ea, lc⟩ := (lr i i0 (by omega)).1 lt
            obtain rfl : a9 = a43 := by rw [c43] at ea; exact (Option.some.inj ea).symm
            refine c_sh (pc := 52) hG w756 dX9_barringLaw_52 (by omega) (Nat.le_of_ble_eq_true rfl) lc (lb i i0 lt) hw (by omega) gw0 n0 n1 n4 (big i i0 lt) (hk i i0 lt (and_ne c36)) ?_
            intro v h2 kq lc2 hpu hS
            replace hl := kq _ _ hl (by unfold cP; simp; omega)
            replace hw := kq _ _ hw (by unfold cP; simp; omega)
            replace lr := lr.step m0 i0 kq c43 lc2
            replace kp : ab_kp (cP Lm) h0 h2 := by
              by_cases f5 : F 8 i = 5
              · exact kp.cal kq (by have q9 := hL i i0 lt f5; have q8 := q9.1; simp [q8]; omega)
              · rw [hpu f5]; exact kp
            refine ab_if_le (pc := 55) 61 dX9_barringLaw_55 (by decide) (fun c55 => ?_) (fun c55 => ?_)
            · refine ab_iinc (pc := 61) dX9_barringLaw_61 rfl rfl (by decide) (by omega) (by omega) ?_
              refine ab_goto (pc := 64) 16 dX9_barringLaw_64 (by decide) ?_
              refine ih (i + 1) _ (by omega) hl hw kp (by omega) (by omega) lr (fun p p0 p1 pS a a0 a1 pG => ?_)
              by_cases g9 : p = i
              · subst g9
                first | exact absurd pS (not_inS c36) | exact Sh_0 hS c55 a a0 a1 | (rw [((lr p i0 (by omega)).1 pG).choose_spec.1] at c43; cases c43)
              · exact I p p0 (by omega) pS a a0 a1 pG
            · refine ab_iload (pc := 58) dX9_barringLaw_58 rfl ?_
              refine ab_iret (pc := 60) dX9_barringLaw_60 rfl ?_
              exact ⟨_, rfl, kp, _, rfl, lr, Or.inr ⟨i0, lt, and_ne c36, Sh_1 hS c55, fun p p0 p1 pS a a0 a1 => I p p0 p1 pS a a0 a1 (by omega)⟩⟩
theorem c_barring (hG : ab_G l E) {la gl w gw N N9 mb : Nat} {SA : Int → Option Nat} {F : Nat → Int → Int} {G e n : Int} {f : Int → Int} (Lm : List Nat) (hl : h0 la = some (kA gl "WordBench$Law" N9 SA)) (hw : h0 w = some (kI gw N f)) (lr : lawsR h0 N9 SA G mb F) (er : -2147483648 ≤ e ∧ e < 2147483648) (N12 : N9 ≤ 12) (GN : G ≤ N9) (m0 : 201 ≤ mb) (gl0 : gl < 200) (gw0 : gw < 200) (glL : gl ∉ Lm) (gwL : gw ∉ Lm) (n0 : 1 ≤ n) (n1 : n ≤ N) (n4 : N ≤ 400) (lb : ∀ q : Int, 0 ≤ q → q < G → lawB F q) (hL : ∀ q : Int, 0 ≤ q → q < G → F 8 q = 5 → 200 ∈ Lm ∧ mb + 8 * N9 < 400) (big : ∀ q : Int, 0 ≤ q → q < G → F 8 q = 4 ∨ F 8 q = 5 → N ≤ 60 ∧ ∀ i : Int, 0 ≤ i → i < n → 0 ≤ f i ∧ f i ≤ 7) (hk : ∀ q : Int, 0 ≤ q → q < G → inS e q → F 8 q = 5 → ∀ a u : Int, 0 ≤ a → a < u → u < n → ¬ Bar F q f a u) : ab_M l E Y_X9_barringLaw 5 9 0 0 [vR la, vI e, vR w, vI n] h0 (cC h0 Lm (fun r h' => ∃ v : Int, r = some (vI v) ∧ lawsR h' N9 SA G mb F ∧ barR F G e f n v)) := by
  refine ab_M.of (L0 := [some (vR la), some (vI e), some (vR w), some (vI n), none]) hG rfl rfl (Nat.le_of_ble_eq_true rfl) rfl ?_
  have kp : ab_kp (cP Lm) h0 h0 := ab_kp0
  refine ab_iload_n (pc := 0) dX9_barringLaw_0 rfl ?_
  refine ab_iconst (pc := 1) dX9_barringLaw_1 (by decide) ?_
  refine ab_icmp_lt (pc := 2) 11 dX9_barringLaw_2 (by decide) (fun c2 => absurd c2 (by omega)) (fun c2 => ?_)
  refine ab_iload_n (pc := 5) dX9_barringLaw_5 rfl ?_
  refine ab_aload_n (pc := 6) dX9_barringLaw_6 rfl ?_
  refine ab_alen (pc := 7) hw dX9_barringLaw_7 ?_
  refine ab_icmp_le (pc := 8) 13 dX9_barringLaw_8 (by decide) (fun c8 => ?_) (fun c8 => absurd c8 (by omega))
  refine ab_iconst (pc := 13) dX9_barringLaw_13 (by decide) ?_
  refine ab_istore (pc := 14) dX9_barringLaw_14 rfl (Nat.le_of_ble_eq_true rfl) ?_
  exact c_barring_16 Lm hG er N12 GN m0 gl0 gw0 glL gwL n0 n1 n4 lb hL big hk _ 0 _ (Nat.lt_succ_self _) hl hw kp (by omega) (by omega) lr (fun p p0 p1 => absurd p1 (by omega))
end C5
