/-! a field of a nest mate is written -/
section PUTN
theorem ab_putN {l : Launch} {E : AbE} {y : AbY} {d kc ks pc : Nat} {L : List (Option AbV)} {S : List AbV} {h : AbH} {Q : AbO → AbH → Prop} {host : String} {ci N k ix g a : Nat} {C : String} {T : u_T} {ty : Nat → FieldType} {fs : List AbV} {x : AbV} (ok : ab_ok ci C T N ty) (ha : h a = some (kO g ci fs)) (hg : 2 ≤ g) (hk : k < N) (hf : ab_fit (ty k) x) (hw : Cond.fieldLinkNest y.1.cls ix C (T k).2.1 (T k).2.2.1 host ∈ lw_tbl) (ht : (T k).1 = C) (hfin : (T k).2.2.2 = false) (hd : decode y.2.1 pc = .ok (.putfield ix, 3))
    (K : ab_T l E y d kc ks (pc + 3) L S (ab_up h a (kO g ci (fs.set k x))) Q) : ab_T l E y d kc ks pc L (x :: vR a :: S) h Q := by
  intro p e R s m args below meth c H locs cells slots mc ms ls st X hR hP hl hL hS
  obtain ⟨hx9, hb, hml, hown, hr, hlk, hnm, htb, hW, ho, hG⟩ := id X
  obtain ⟨v, rst0, rfl, hv, w, rst, rfl, hwv, hS⟩ := hS
  cases (show w = .ref a from hwv)
  have hap := ab_apart ok hG hW
  obtain ⟨hc, hin, hty, hnn⟩ := ok
  obtain ⟨r, ws, h1, h2, h3, cell, q1, q2, q3, q4⟩ := (hP.2 a _ ha).1
  cases Option.some.inj (h1.symm.trans hc)
  obtain ⟨hSl, hfc, kC, hkC, hkind⟩ := (ab_K hG hW).1 ci _ hc
  obtain ⟨cf, kf, fi, f, hi, hsl⟩ := hSl k hk
  have hts := ab_lays hG hin hW args
  have hla := u_lays (k := k) hts (fun w h => h) hk
  have hst := (u_facts hfc hkC hla hi).1
  obtain ⟨n1, n2⟩ := ab_fits hf hv
  have hi' : s.fieldFound? C (T k).2.1 (T k).2.2.1 = some (cf, kf, fi, f) := by rw [← ht]; exact hi
  have hlen : k < ws.length := by rw [ab_vs_len h3, h2]; exact hk
  have fin : ∀ H' : Heap, H'[a]? = some (cell.setSlot f.slot v) → H'.size = H.size → (∀ q, q ≠ a → H'[q]? = H[q]?) → W p l e R s m args below meth c H' (locs ++ [⟨a, f.slot⟩]) cells slots (vx_MQ below (ab_Q E Q) (ab_QX E Q) args s mc ms (ab_A E)) (F0 m (pc + 3) ls rst) := by
    intro H' e1 e2 e3
    rw [hsl] at e1
    refine K p e R s m args below meth c H' _ cells slots mc ms ls _ X hR (hP.set ha hg (c1 := kO g ci (fs.set k x)) ?_ e2 e3) ?_ hL hS
    · exact ⟨_, ws.set k v, hc, by rw [List.length_set]; exact h2, ab_vs_set h3 hv, t_OB.to (V := updV (vp_V ws) k v) ⟨_, e1, q2, q3, t_set q4 hap hk v⟩ (fun j _ => vp_updV_set hlen v j)⟩
    · intro z hz
      rcases List.mem_append.mp hz with g1 | g1
      · exact hl z g1
      · rw [List.mem_singleton.mp g1]
        exact (hP.2 a _ ha).2 hg
  have hlay := hts _ (u_in_lay hk)
  unfold u_lay at hlay
  rw [if_neg (by rw [hfin]; decide)] at hlay
  have h6 := u_store hfc hkC hkind hlay hi (hty k hk) n1 n2
  exact va_WputK hx9 hb (f := f) hown (va_Nw.use rfl (va_Nw.warmF hW (ab_nw hG hw rfl))) hi' hst (by rw [q2]; exact h6) q1 q3 (by rw [hsl]; exact k2_hasslot (q4 k hk)) rfl rfl hd fin
theorem ab_putGN {l : Launch} {E : AbE} {y : AbY} {d kc ks pc : Nat} {L : List (Option AbV)} {S : List AbV} {h : AbH} {Q : AbO → AbH → Prop} {host : String} {ci N k ix g a : Nat} {C : String} {T : u_T} {ty : Nat → FieldType} {fs : List AbV} {x : AbV} (ok : ab_ok ci C T N ty) (ha : h a = some (kO g ci fs)) (hg : 2 ≤ g) (hk : k < N) (hf : ab_fit (ty k) x) (hw : Cond.fieldLinkNest y.1.cls ix C (T k).2.1 (T k).2.2.1 host ∈ lw_tbl) (ht : (T k).1 = C) (hfin : (T k).2.2.2 = false) (hd : decode y.2.1 pc = .ok (.putfield ix, 3))
    (K : ∀ h1 : AbH, h1 a = some (kO g ci (fs.set k x)) → (∀ q, q ≠ a → h1 q = h q) → ab_T l E y d kc ks (pc + 3) L S h1 Q) : ab_T l E y d kc ks pc L (x :: vR a :: S) h Q := ab_putN ok ha hg hk hf hw ht hfin hd (K _ ab_up_eq ab_up_ne)
end PUTN
/-! a map is told anew -/
section REL8
variable {h h' : AbH} {x : Nat} {B : Nat → Nat} {s : Nat → Int} {F : Nat → Int → Int} {C : Nat → Int → Int} {SA : Nat → Int → Option Nat} {la : Option Nat} {q : Nat → Int}
def mapF (F : Nat → Int → Int) (b a : Int) (z t : Int → Int) : Nat → Int → Int := ab_u (ab_u (ab_u (ab_u F 35 (ab_f (F 35) b 1)) 36 (ab_f (F 36) b a)) 37 (fil (F 37) (8 * b) a z)) 38 (fil (F 38) (160 * b) (20 * a) t)
theorem mapF35 {b a : Int} {z t : Int → Int} : mapF F b a z t 35 = ab_f (F 35) b 1 := by simp [mapF, ab_u]
theorem mapF36 {b a : Int} {z t : Int → Int} : mapF F b a z t 36 = ab_f (F 36) b a := by simp [mapF, ab_u]
theorem mapF37 {b a : Int} {z t : Int → Int} : mapF F b a z t 37 = fil (F 37) (8 * b) a z := by simp [mapF, ab_u]
theorem mapF38 {b a : Int} {z t : Int → Int} : mapF F b a z t 38 = fil (F 38) (160 * b) (20 * a) t := by simp [mapF, ab_u]
theorem mapF_ne {b a : Int} {z t : Int → Int} {j : Nat} (h1 : j ≠ 35) (h2 : j ≠ 36) (h3 : j ≠ 37) (h4 : j ≠ 38) : mapF F b a z t j = F j := by
  unfold mapF
  rw [ab_u_ne h4, ab_u_ne h3, ab_u_ne h2, ab_u_ne h1]
theorem mapC_eq {F' : Nat → Int → Int} {g a : Nat} {m : Int} (e36 : F' 36 m = F 36 m) (e37 : ∀ x : Int, 0 ≤ x → x < F 36 m → mSz F' m x = mSz F m x) (e38 : ∀ x : Int, 0 ≤ x → x < F 36 m → ∀ i : Int, 0 ≤ i → i < mSz F m x → mWd F' m x i = mWd F m x i) (c : mapC h g a F m) : mapC h g a F' m := by
  obtain ⟨b1, b2, b3, z, t, gz, c0, c1, c2, c3, c4, c5, c6⟩ := c
  refine ⟨b1, b2, b3, z, t, gz, by rw [e36]; exact c0, c1, c2, c3, fun x x0 x1 => ?_, fun x x0 x1 i i0 i1 => ?_, by rw [e36]; exact c6⟩
  · rw [e36] at x1; rw [e37 x x0 x1]; exact c4 x x0 x1
  · rw [e36] at x1
    rw [e37 x x0 x1] at i1
    rw [e38 x x0 x1 i i0 i1]; exact c5 x x0 x1 i i0 i1
/-- the map's marks -/
abbrev mpL (b : Int) : List Nat := [5, 10, 400 + 4 * b.toNat, 400 + 4 * b.toNat + 1, 400 + 4 * b.toNat + 2, 400 + 4 * b.toNat + 3]
theorem RCx.setMap {a9 b1 b2 b3 : Nat} {b a : Int} {z t gz f : Int → Int} (r : RCx h x B s F C SA la q) (k : ab_kp (cP (mpL b)) h h') (b0 : 0 ≤ b) (b8 : b < 8) (a1 : 1 ≤ a) (a8 : a ≤ 8) (hM : h' (B 4) = some (kA 5 "WordBench$LetterMap" 8 (ab_f (SA 4) b (some a9)))) (ht : h' (B 7) = some (kI 10 60 f)) (h0 : h' a9 = some (kO (400 + 4 * b.toNat) 0 [vI a, vR b1, vR b2, vR b3])) (h1 : h' b1 = some (kI (400 + 4 * b.toNat + 1) 8 z)) (h2 : h' b2 = some (kI (400 + 4 * b.toNat + 2) 160 t)) (h3 : h' b3 = some (kJ (400 + 4 * b.toNat + 3) 248 gz)) (hz : ∀ v : Int, 0 ≤ v → v < a → z v ≤ 20) (hg : grOk gz z t a 31) (mbs : ∀ b : Int, mkOk F b → mapB F b) : RCx h' x B s (mapF F b a z t) (ab_u C 10 f) (ab_u SA 4 (ab_f (SA 4) b (some a9))) la q := by
  have pp : ∀ g : Nat, g ≠ 5 → g ≠ 10 → (g < 400 + 4 * b.toNat ∨ 404 + 4 * b.toNat ≤ g) → cP (mpL b) g := fun g a b c => by unfold cP mpL; simp; omega
  refine ⟨k _ _ r.o (pp 2 (by decide) (by decide) (by omega)), by rw [ab_u_ne (by decide)]; exact k _ _ r.ss (pp 3 (by decide) (by decide) (by omega)), by rw [ab_u_ne (by decide)]; exact k _ _ r.ls (pp 4 (by decide) (by decide) (by omega)), by rw [ab_u_eq]; exact hM, by rw [ab_u_ne (by decide)]; exact k _ _ r.qs (pp 6 (by decide) (by decide) (by omega)), k _ _ r.sr (pp 8 (by decide) (by decide) (by omega)), by rw [ab_u_ne (by decide)]; exact k _ _ r.mk (pp 9 (by decide) (by decide) (by omega)), by rw [ab_u_eq]; exact ht, by rw [ab_u_ne (by decide)]; exact k _ _ r.gr (pp 11 (by decide) (by decide) (by omega)), ?_, ?_, ?_, by rw [ab_u_ne (by decide)]; exact r.sq.kp k (fun j j0 j1 => pp j (by omega) (by omega) (by omega))⟩
  · rw [ab_u_ne (by decide)]
    intro i hi
    have q9 := (r.sh.kp k (fun j j0 j1 => pp j (by omega) (by omega) (by omega))) i hi
    refine ⟨fun g9 => ?_, q9.2⟩
    obtain ⟨a1, b1, c1, gg, z1, e1, r1⟩ := q9.1 g9
    refine ⟨a1, b1, c1, gg, z1, e1, ?_⟩
    unfold sheetC at r1 ⊢
    rw [mapF_ne (j := 2) (by decide) (by decide) (by decide) (by decide), mapF_ne (j := 3) (by decide) (by decide) (by decide) (by decide), mapF_ne (j := 4) (by decide) (by decide) (by decide) (by decide)]
    exact r1
  · rw [ab_u_ne (show ¬ 2 = 4 by decide)]
    intro p p0 p1
    have q9 := (r.lw.kp k (fun j j0 j1 => pp j (by omega) (by omega) (by omega))) p p0 p1
    refine ⟨fun g9 => ?_, q9.2⟩
    obtain ⟨a2, e2, c2⟩ := q9.1 g9
    refine ⟨a2, e2, ?_⟩
    unfold lawC at c2 ⊢
    rw [mapF_ne (j := 8) (by decide) (by decide) (by decide) (by decide), mapF_ne (j := 9) (by decide) (by decide) (by decide) (by decide), mapF_ne (j := 10) (by decide) (by decide) (by decide) (by decide), mapF_ne (j := 11) (by decide) (by decide) (by decide) (by decide), mapF_ne (j := 12) (by decide) (by decide) (by decide) (by decide)]
    exact c2
  · rw [ab_u_eq]
    intro m hm
    rw [mapF35]
    by_cases e : (m : Int) = b
    · have em : m = b.toNat := by omega
      rw [ab_f_eq e, ab_f_eq e]
      refine ⟨fun _ => ⟨a9, rfl, ?_⟩, fun g9 => absurd g9 (by decide)⟩
      rw [em, show ((b.toNat : Nat) : Int) = b by omega]
      refine ⟨b1, b2, b3, z, t, gz, by rw [mapF36, ab_f_eq rfl]; exact h0, h1, h2, h3, fun x x0 x1 => ?_, fun x x0 x1 i i0 i1 => ?_, by rw [mapF36, ab_f_eq rfl]; exact hg⟩
      · rw [mapF36, ab_f_eq rfl] at x1
        show z x = mapF F b a z t 37 (8 * b + x)
        rw [mapF37, fil_at x0 x1]
      · rw [mapF36, ab_f_eq rfl] at x1
        have i2 : i < z x := by
          have i3 : i < mapF F b a z t 37 (8 * b + x) := i1
          rw [mapF37, fil_at x0 x1] at i3
          exact i3
        have := hz x x0 x1
        show t (20 * x + i) = mapF F b a z t 38 (20 * (8 * b + x) + i)
        rw [mapF38, show 20 * (8 * b + x) + i = 160 * b + (20 * x + i) by omega, fil_at (by omega) (by omega)]
    · rw [ab_f_ne e, ab_f_ne e]
      have q9 := r.mp m hm
      refine ⟨fun g9 => ?_, q9.2⟩
      obtain ⟨a2, e2, c2⟩ := q9.1 g9
      have mb := mbs m ⟨by omega, by omega, g9⟩
      refine ⟨a2, e2, mapC_eq ?_ (fun x x0 x1 => ?_) (fun x x0 x1 i i0 i1 => ?_) (c2.kp k (fun j hj => pp _ (by omega) (by omega) (by omega)))⟩
      · rw [mapF36, ab_f_ne e]
      · have := mb.2.1
        show mapF F b a z t 37 (8 * (m : Int) + x) = _
        rw [mapF37, fil_out (by omega)]
      · have := mb.2.1
        have := (mb.2.2 x x0 x1).2.1
        show mapF F b a z t 38 (20 * (8 * (m : Int) + x) + i) = _
        rw [mapF38, fil_out (by omega)]
theorem mapIn_F {b a i fr : Int} {z t : Int → Int} (b0 : 0 ≤ b) (a1 : 1 ≤ a) (hz : ∀ v : Int, 0 ≤ v → v < a → z v ≤ 20 ∧ isRd F i (fr + v) (z v)) (ht : ∀ v : Int, 0 ≤ v → v < a → ∀ j : Int, 0 ≤ j → j < z v → t (20 * v + j) = rdL F i (fr + v) j) : mapIn F (mapF F b a z t) i fr b a := by
  refine ⟨fun v v0 v1 => ?_, fun v v0 v1 j j0 j1 => ?_, fun p hp => ?_, fun p hp => ?_⟩
  · rw [mapF37, fil_at v0 v1]; exact (hz v v0 v1).2
  · rw [mapF37, fil_at v0 v1] at j1
    have := (hz v v0 v1).1
    rw [mapF38, show 20 * (8 * b + v) + j = 160 * b + (20 * v + j) by omega, fil_at (by omega) (by omega)]
    exact ht v v0 v1 j j0 j1
  · rw [mapF37, fil_out hp]
  · rw [mapF38, fil_out hp]
end REL8
