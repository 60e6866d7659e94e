/-! what a call answers is told by the spec alone -/
section UQ
variable {s : Nat → Int} {F : Nat → Int → Int}
theorem lawSp_fun {t a b c r n c' r' n' : Int} (h : lawSp s F t a b c r n) (h' : lawSp s F t a b c' r' n') : c = c' ∧ r = r' ∧ n = n' := by
  rcases h with ⟨p1, p2, p3, p4⟩ | ⟨p1, p2, p3, p4, p5, p6⟩ | ⟨p1, p2, p3, p4, p5, p6, p7⟩ | ⟨p1, p2, p3, p4⟩ <;> rcases h' with ⟨q1, q2, q3, q4⟩ | ⟨q1, q2, q3, q4, q5, q6⟩ | ⟨q1, q2, q3, q4, q5, q6, q7⟩ | ⟨q1, q2, q3, q4⟩
  · omega
  · exact absurd q1 p1
  · exact absurd q1 p1
  · exact absurd q1 p1
  · exact absurd p1 q1
  · omega
  · exact absurd q3 p3
  · exfalso
    rcases q3 with ⟨e1, e2, _⟩ | ⟨_, e2, _⟩
    · omega
    · exact p3 e2
  · exact absurd p1 q1
  · exact absurd p3 q3
  · omega
  · exfalso
    rcases q3 with ⟨e1, e2, _⟩ | ⟨_, _, e3⟩
    · omega
    · exact p4 ⟨_, e3⟩
  · exact absurd p1 q1
  · exfalso
    rcases p3 with ⟨e1, e2, _⟩ | ⟨_, e2, _⟩
    · omega
    · exact q3 e2
  · exfalso
    rcases p3 with ⟨e1, e2, _⟩ | ⟨_, _, e3⟩
    · omega
    · exact q4 ⟨_, e3⟩
  · refine ⟨by omega, by omega, ?_⟩
    rcases p3 with ⟨e1, e2, e3⟩ | ⟨e0, _, e3⟩ <;> rcases q3 with ⟨f1, f2, f3⟩ | ⟨f0, _, f3⟩
    · omega
    · omega
    · omega
    · exact rdW_fun e3.1 f3.1
theorem clR_fun {w c q z r q' z' r' : Int} (h : clR w c q z r) (h' : clR w c q' z' r') (e : c ≠ -1 → q = q' ∧ z = z') : r = r' := by
  unfold clR at h h'
  by_cases g : c = -1
  · omega
  · obtain ⟨rfl, rfl⟩ := e g
    omega
theorem clashSp_fun {e x k w c r c' r' : Int} (h : clashSp s F e x k w c r) (h' : clashSp s F e x k w c' r') : c = c' ∧ r = r' := by
  rcases h with ⟨p1, p2, p3⟩ | ⟨p1, p2, p3, p4⟩ | ⟨p1, p2, p3, p4, p5, p6⟩ <;> rcases h' with ⟨q1, q2, q3⟩ | ⟨q1, q2, q3, q4⟩ | ⟨q1, q2, q3, q4, q5, q6⟩
  · omega
  · exact absurd q1 p1
  · exact absurd q1 p1
  · exact absurd p1 q1
  · omega
  · exact absurd ⟨q2, q3, q4⟩ p2
  · exact absurd p1 q1
  · exact absurd ⟨p2, p3, p4⟩ q2
  · refine ⟨by omega, ?_⟩
    rcases p6 with ⟨a1, a2⟩ | ⟨n, c9, q, z, a0, a1, a2, a3⟩ <;> rcases q6 with ⟨b1, b2⟩ | ⟨n', c9', q', z', b0, b1, b2, b3⟩
    · omega
    · have := rdW_fun a1 b1; omega
    · have := rdW_fun a1 b1; omega
    · obtain rfl := rdW_fun a1 b1
      obtain ⟨rfl, e2⟩ := a2.unique b2
      refine clR_fun a3 b3 (fun g => e2 ?_)
      rcases a2 with ⟨a, _⟩ | ⟨a, _⟩
      · exact absurd a g
      · exact a
theorem powSp_fun {x k w c r c' r' : Int} (h : powSp s F x k w c r) (h' : powSp s F x k w c' r') : c = c' ∧ r = r' := by
  rcases h with ⟨p1, p2, p3⟩ | ⟨p1, p2, p3, p4⟩ | ⟨p1, p3, p4, p5, p6⟩ <;> rcases h' with ⟨q1, q2, q3⟩ | ⟨q1, q2, q3, q4⟩ | ⟨q1, q3, q4, q5, q6⟩
  · omega
  · exact absurd q1 p1
  · exact absurd q1 p1
  · exact absurd p1 q1
  · omega
  · exact absurd ⟨q3, q4⟩ p2
  · exact absurd p1 q1
  · exact absurd ⟨p3, p4⟩ q2
  · refine ⟨by omega, ?_⟩
    rcases p6 with ⟨a1, a2⟩ | ⟨a1, a2⟩ | ⟨n, p, a0, a1, a2, a3⟩ <;> rcases q6 with ⟨b1, b2⟩ | ⟨b1, b2⟩ | ⟨n', p', b0, b1, b2, b3⟩
    · omega
    · have := rdW_fun a1 b1; omega
    · have := rdW_fun a1 b1; omega
    · have := rdW_fun a1 b1; omega
    · omega
    · have := rdW_fun a1 b1; omega
    · have := rdW_fun a1 b1; omega
    · have := rdW_fun a1 b1; omega
    · obtain rfl := rdW_fun a1 b1
      obtain rfl := lp_uniq a2 b2
      rcases a3 with ⟨u, v⟩ | ⟨u, v⟩ | ⟨u, v⟩ | ⟨u, v⟩ <;> rcases b3 with ⟨u', v'⟩ | ⟨u', v'⟩ | ⟨u', v'⟩ | ⟨u', v'⟩ <;> first | (rw [v, v']; done) | omega
theorem runSp_fun {x k q w c r c' r' : Int} (h : runSp s F x k q w c r) (h' : runSp s F x k q w c' r') : c = c' ∧ r = r' := by
  rcases h with ⟨p1, p2, p3⟩ | ⟨p1, p2, p3, p4⟩ | ⟨p1, p3, p4, p5, p6⟩ <;> rcases h' with ⟨q1, q2, q3⟩ | ⟨q1, q2, q3, q4⟩ | ⟨q1, q3, q4, q5, q6⟩
  · omega
  · exact absurd q1 p1
  · exact absurd q1 p1
  · exact absurd p1 q1
  · omega
  · exact absurd ⟨q3, q4⟩ p2
  · exact absurd p1 q1
  · exact absurd ⟨p3, p4⟩ q2
  · refine ⟨by omega, ?_⟩
    rcases p6 with ⟨a1, a2⟩ | ⟨n, a0, a1, a2⟩ <;> rcases q6 with ⟨b1, b2⟩ | ⟨n', b0, b1, b2⟩
    · omega
    · have := rdW_fun a1 b1; omega
    · have := rdW_fun a1 b1; omega
    · obtain rfl := rdW_fun a1 b1
      rcases a2 with ⟨u1, u2⟩ | ⟨e1, e2, e3, u1, u2, u3⟩ <;> rcases b2 with ⟨v1, v2⟩ | ⟨f1, f2, f3, v1, v2, v3⟩
      · omega
      · exfalso
        obtain ⟨lt, _⟩ := List.getElem?_eq_some_iff.mp v2
        exact u1 ⟨v1, by omega⟩
      · exfalso
        obtain ⟨lt, _⟩ := List.getElem?_eq_some_iff.mp u2
        exact v1 ⟨u1, by omega⟩
      · rw [u2] at v2
        cases v2
        omega
theorem sEnd_one {kp : (Int → Int) → Int → Prop} {a n c : Int} {w0 : Int → Int} {d0 lk0 lg0 : Int} {t t' : Nat} {x y : SR} (h1 : sEnd kp a n c w0 d0 lk0 lg0 t x) (h2 : sEnd kp a n c w0 d0 lk0 lg0 t' y) (hy : y.1 ≠ 1) (ht : t' ≤ t) : t = t' ∧ x = y := by
  rcases Nat.lt_or_ge t' t with g | g
  · exfalso
    obtain ⟨w, d, lk, lg, hc, hn⟩ := h1
    obtain ⟨w', d', lk', lg', e⟩ := sChain_less t hc t' g
    have := sEnd_fun e h2
    rw [← this] at hy
    exact hy rfl
  · obtain rfl : t = t' := by omega
    exact ⟨rfl, sEnd_fun h1 h2⟩
theorem manySp_fun {w0 : Int → Int} {e a n c r lk c' r' lk' : Int} (h : manySp s F w0 e a n c r lk) (h' : manySp s F w0 e a n c' r' lk') : c = c' ∧ r = r' ∧ lk = lk' := by
  rcases h with ⟨p1, p2, p3, p4⟩ | ⟨p1, p2, p3, p4, co, t, x, ⟨k1, k2⟩, k3, k4, k5⟩ <;> rcases h' with ⟨q1, q2, q3, q4⟩ | ⟨q1, q2, q3, q4, co', t', x', ⟨m1, m2⟩, m3, m4, m5⟩
  · omega
  · exact absurd ⟨q1, q2, q3⟩ p1
  · exact absurd ⟨p1, p2, p3⟩ q1
  · obtain rfl := costUp_fun k1 m1
    obtain ⟨rfl, rfl⟩ := sEnd_uniq k2 m2 k3 m3
    omega
theorem findSp_fun {w0 : Int → Int} {e a n k x c r lk c' r' lk' : Int} {g g' : Int → Int} (h : findSp s F w0 e a n k x c r lk g) (h' : findSp s F w0 e a n k x c' r' lk' g') : c = c' ∧ r = r' ∧ lk = lk' ∧ (c = 0 → r = 1 → ∀ j : Int, 0 ≤ j → j < n → g j = g' j) := by
  rcases h with ⟨p1, p2, p3, p4⟩ | ⟨p1, p2, p3, p4, p5, p6, p7⟩ | ⟨p1, p2, p3, p4, p5, p6, p7⟩ <;> rcases h' with ⟨q1, q2, q3, q4⟩ | ⟨q1, q2, q3, q4, q5, q6, q7⟩ | ⟨q1, q2, q3, q4, q5, q6, q7⟩
  · exact ⟨by omega, by omega, by omega, fun _ _ => by omega⟩
  · exact absurd ⟨q1, q2, q3⟩ p1
  · exact absurd ⟨q1, q2, q3⟩ p1
  · exact absurd ⟨p1, p2, p3⟩ q1
  · exact ⟨by omega, by omega, by omega, fun _ _ => by omega⟩
  · exact absurd ⟨q4, q5⟩ p4
  · exact absurd ⟨p1, p2, p3⟩ q1
  · exact absurd ⟨p4, p5⟩ q4
  · refine ⟨by omega, ?_⟩
    rcases p7 with ⟨a1, a2, a3⟩ | ⟨a1, co, t, y, ⟨k1, k2⟩, k3, k4⟩ <;> rcases q7 with ⟨b1, b2, b3⟩ | ⟨b1, co', t', y', ⟨m1, m2⟩, m3, m4⟩
    · exact ⟨by omega, by omega, fun _ _ => by omega⟩
    · omega
    · omega
    · obtain rfl := costUp_fun k1 m1
      have key : t = t' ∧ y = y' := by
        by_cases g1 : y.1 = 1
        · by_cases g2 : y'.1 = 1
          · obtain rfl : t = t' := by omega
            exact ⟨rfl, sEnd_fun k2 m2⟩
          · exact sEnd_one k2 m2 g2 (by omega)
        · by_cases g2 : y'.1 = 1
          · obtain ⟨e1, e2⟩ := sEnd_one m2 k2 g1 (by omega)
            exact ⟨e1.symm, e2.symm⟩
          · exact sEnd_uniq k2 m2 g1 g2
      obtain ⟨rfl, rfl⟩ := key
      refine ⟨by omega, by omega, fun _ r1 j j0 j1 => ?_⟩
      rcases k4 with ⟨_, _, _, u⟩ | ⟨_, _, u⟩ | ⟨_, _, _, u⟩ <;> rcases m4 with ⟨_, _, _, v⟩ | ⟨_, _, v⟩ | ⟨_, _, _, v⟩
      · rw [u j j0 j1, v j j0 j1]
      · omega
      · omega
      · omega
      · omega
      · omega
      · omega
      · omega
      · omega
theorem rankSp_fun {w0 : Int → Int} {e a x k c r lk c' r' lk' : Int} (h : rankSp s F w0 e a x k c r lk) (h' : rankSp s F w0 e a x k c' r' lk') : c = c' ∧ r = r' ∧ lk = lk' := by
  rcases h with ⟨p1, p2, p3, p4⟩ | ⟨p1, p2, p3, p4, p5⟩ | ⟨p1, p2, p3, p4⟩ <;> rcases h' with ⟨q1, q2, q3, q4⟩ | ⟨q1, q2, q3, q4, q5⟩ | ⟨q1, q2, q3, q4⟩
  · omega
  · exact absurd q1 p1
  · exact absurd q1 p1
  · exact absurd p1 q1
  · omega
  · exact absurd q2 p2
  · exact absurd p1 q1
  · exact absurd p2 q2
  · refine ⟨by omega, ?_⟩
    rcases p4 with ⟨a1, a2, a3⟩ | ⟨n, a0, a1, a2⟩ <;> rcases q4 with ⟨b1, b2, b3⟩ | ⟨n', b0, b1, b2⟩
    · omega
    · have := rdW_fun a1 b1; omega
    · have := rdW_fun a1 b1; omega
    · obtain rfl := rdW_fun a1 b1
      rcases a2 with ⟨c1, c2, c3⟩ | ⟨c0, c1, c2, c3⟩ | ⟨c0, c1, co, t, y, ⟨k1, k2⟩, k3, k4, k5⟩ <;> rcases b2 with ⟨d1, d2, d3⟩ | ⟨d0, d1, d2, d3⟩ | ⟨d0, d1, co', t', y', ⟨m1, m2⟩, m3, m4, m5⟩
      · omega
      · exact absurd d0 c1
      · exact absurd d0 c1
      · exact absurd c0 d1
      · omega
      · exact absurd d1 c1
      · exact absurd c0 d1
      · exact absurd c1 d1
      · obtain rfl := costUp_fun k1 m1
        have key : t = t' ∧ y = y' := by
          rcases Nat.lt_trichotomy t t' with g | g | g
          · rcases k5 with ⟨u1, u2, _⟩ | ⟨u1, _⟩
            · exact absurd u2 (m4 t y g k2)
            · obtain ⟨e1, e2⟩ := sEnd_one m2 k2 u1 (by omega)
              exact ⟨e1.symm, e2.symm⟩
          · subst g
            exact ⟨rfl, sEnd_fun k2 m2⟩
          · rcases m5 with ⟨u1, u2, _⟩ | ⟨u1, _⟩
            · exact absurd u2 (k4 t' y' g m2)
            · exact sEnd_one k2 m2 u1 (by omega)
        obtain ⟨rfl, rfl⟩ := key
        refine ⟨?_, by omega⟩
        rcases k5 with ⟨u1, _, u2⟩ | ⟨u1, u2⟩ <;> rcases m5 with ⟨v1, _, v2⟩ | ⟨v1, v2⟩ <;> omega
theorem longSp_fun {w0 : Int → Int} {e a c r lk c' r' lk' : Int} (h : longSp s F w0 e a c r lk) (h' : longSp s F w0 e a c' r' lk') : c = c' ∧ r = r' ∧ lk = lk' := by
  rcases h with ⟨p1, p2, p3, p4⟩ | ⟨p1, p2, co, x, k1, k2, k3, k4⟩ <;> rcases h' with ⟨q1, q2, q3, q4⟩ | ⟨q1, q2, co', x', m1, m2, m3, m4⟩
  · omega
  · exact absurd q1 p1
  · exact absurd p1 q1
  · obtain rfl := costUp_fun k1 m1
    obtain rfl := sNext_uniq k2 m2
    omega
theorem mapSp_fun {b a x fr c r c' r' : Int} (h : mapSp s F b a x fr c r) (h' : mapSp s F b a x fr c' r') : c = c' ∧ r = r' := by
  rcases h with ⟨p1, p2, p3⟩ | ⟨p1, p2, p3, p4, p5, p6, p7⟩ | ⟨p1, p2, p3, p4, p5, p6, p7, p8, p9, p10⟩ <;> rcases h' with ⟨q1, q2, q3⟩ | ⟨q1, q2, q3, q4, q5, q6, q7⟩ | ⟨q1, q2, q3, q4, q5, q6, q7, q8, q9, q10⟩
  · omega
  · omega
  · omega
  · omega
  · omega
  · omega
  · omega
  · omega
  · refine ⟨by omega, ?_⟩
    rcases p10 with ⟨u, v⟩ | ⟨u, v⟩ <;> rcases q10 with ⟨u', v'⟩ | ⟨u', v'⟩
    · omega
    · exact absurd u' u
    · exact absurd u u'
    · omega
theorem imgSp_fun {b x k o c r c' r' : Int} {g g' : Int → Int} (mb : mkOk F b → mapB F b) (h : imgSp s F b x k o c r g) (h' : imgSp s F b x k o c' r' g') : c = c' ∧ r = r' ∧ (c = 0 → 0 ≤ r → r ≤ 60 ∧ ∀ j : Int, 0 ≤ j → j < r → g j = g' j) := by
  rcases h with ⟨p1, p2, p3⟩ | ⟨p1, p2, p3, p4⟩ | ⟨p1, p2, p3, p4, p5, p6⟩ <;> rcases h' with ⟨q1, q2, q3⟩ | ⟨q1, q2, q3, q4⟩ | ⟨q1, q2, q3, q4, q5, q6⟩
  · exact ⟨by omega, by omega, fun _ _ => by omega⟩
  · exact absurd q1 p1
  · exact absurd q1 p1
  · exact absurd p1 q1
  · exact ⟨by omega, by omega, fun _ _ => by omega⟩
  · exact absurd ⟨q2, q3, q4⟩ p2
  · exact absurd p1 q1
  · exact absurd ⟨p2, p3, p4⟩ q2
  · refine ⟨by omega, ?_⟩
    rcases p6 with ⟨a1, a2⟩ | ⟨n, a0, a1, a2⟩ <;> rcases q6 with ⟨b1, b2⟩ | ⟨n', b0, b1, b2⟩
    · exact ⟨by omega, fun _ _ => by omega⟩
    · have := rdW_fun a1 b1; omega
    · have := rdW_fun a1 b1; omega
    · obtain rfl := rdW_fun a1 b1
      rcases a2 with ⟨c1, c2⟩ | ⟨c1, c2⟩ <;> rcases b2 with ⟨d1, d2⟩ | ⟨d1, d2⟩
      · exact ⟨by omega, fun _ _ => by omega⟩
      · exact absurd d1 c1
      · exact absurd c1 d1
      · rcases c2 with ⟨u1, u2⟩ | ⟨u1, u2, u3⟩ <;> rcases d2 with ⟨v1, v2⟩ | ⟨v1, v2, v3⟩
        · exact ⟨by omega, fun _ _ => by omega⟩
        · omega
        · omega
        · refine ⟨by omega, fun _ _ => ⟨by omega, fun j j0 j1 => ?_⟩⟩
          have hb := mb p1
          refine Img_uniq (fun i i0 i1 => ?_) a0 u3 v3 j j0 (by omega)
          have l1 := ((a1.len).2.2 a0).2 i i0 i1
          exact (hb.2.2 _ l1.1 (c1 i i0 i1)).1
theorem kLast_0 {b l : Int} (h : kLast F b l) : 0 ≤ l := by
  obtain ⟨mo, fe, _, _, _, e⟩ := h
  rw [e]
  split <;> omega
theorem keepSp_fun {w0 : Int → Int} {b x c r lk n c' r' lk' n' : Int} {g g' : Int → Int} (h : keepSp s F w0 b x c r lk n g) (h' : keepSp s F w0 b x c' r' lk' n' g') : c = c' ∧ r = r' ∧ lk = lk' ∧ (c = 0 → r = 0 → n = n' ∧ ∀ j : Int, 0 ≤ j → j < n → g j = g' j) := by
  rcases h with ⟨p1, p2, p3, p4⟩ | ⟨p1, p2, p3, p4, p5⟩ | ⟨p1, p2, p3, p4, la, p5, p6⟩ <;> rcases h' with ⟨q1, q2, q3, q4⟩ | ⟨q1, q2, q3, q4, q5⟩ | ⟨q1, q2, q3, q4, la', q5, q6⟩
  · exact ⟨by omega, by omega, by omega, fun _ _ => by omega⟩
  · exact absurd q1 p1
  · exact absurd q1 p1
  · exact absurd p1 q1
  · exact ⟨by omega, by omega, by omega, fun _ _ => by omega⟩
  · exact absurd ⟨q2, q3⟩ p2
  · exact absurd p1 q1
  · exact absurd ⟨p2, p3⟩ q2
  · obtain rfl := kLast_uniq p5 q5
    obtain ⟨e1, e2, e3, e4⟩ := kEnd_uniq (kLast_0 p5) p6 q6
    exact ⟨by omega, e1, e2, fun _ r0 => ⟨e3, e4 r0⟩⟩
end UQ
