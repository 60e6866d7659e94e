/-! one row an instruction, over the abstract walk: constants, locals, arithmetic, branches -/
section ABB
variable {l : Launch} {E : AbE} {y : AbY} {d kc ks pc : Nat} {L : List (Option AbV)} {S : List AbV} {h : AbH} {Q : AbO → AbH → Prop}
theorem ab_iconst {n : Int} (hd : decode y.2.1 pc = .ok (.iconst n, 1)) (hn : (Int32.ofInt n).toInt = n) (k : ab_T l E y d kc ks (pc + 1) L (vI n :: S) h Q) : ab_T l E y d kc ks pc L S h Q := by
  intro p e R s m args below meth c H locs cells slots mc ms ls st X hR hP hl hL hS
  exact lv_iconst X.1 X.2.1 hd rfl (k p e R s m args below meth c H locs cells slots mc ms ls _ X hR hP hl hL ⟨_, _, rfl, ⟨_, rfl, hn⟩, hS⟩)
theorem ab_bipush {n : Int} (hd : decode y.2.1 pc = .ok (.bipush n, 2)) (hn : (Int8.ofInt n).toInt32.toInt = n) (k : ab_T l E y d kc ks (pc + 2) L (vI n :: S) h Q) : ab_T l E y d kc ks pc L S h Q := by
  intro p e R s m args below meth c H locs cells slots mc ms ls st X hR hP hl hL hS
  exact lv_bipush X.1 X.2.1 hd rfl (k p e R s m args below meth c H locs cells slots mc ms ls _ X hR hP hl hL ⟨_, _, rfl, ⟨_, rfl, hn⟩, hS⟩)
theorem ab_sipush {n : Int} (hd : decode y.2.1 pc = .ok (.sipush n, 3)) (hn : (Int16.ofInt n).toInt32.toInt = n) (k : ab_T l E y d kc ks (pc + 3) L (vI n :: S) h Q) : ab_T l E y d kc ks pc L S h Q := by
  intro p e R s m args below meth c H locs cells slots mc ms ls st X hR hP hl hL hS
  exact lv_sipush X.1 X.2.1 hd rfl (k p e R s m args below meth c H locs cells slots mc ms ls _ X hR hP hl hL ⟨_, _, rfl, ⟨_, rfl, hn⟩, hS⟩)
theorem ab_lconst {n : Fin 2} (hd : decode y.2.1 pc = .ok (.lconst n, 1)) (z : Int) (hn : (Int64.ofNat (n : Nat)).toInt = z) (k : ab_T l E y d kc ks (pc + 1) L (vL z :: S) h Q) : ab_T l E y d kc ks pc L S h Q := by
  intro p e R s m args below meth c H locs cells slots mc ms ls st X hR hP hl hL hS
  exact lv_lconst X.1 X.2.1 hd rfl (k p e R s m args below meth c H locs cells slots mc ms ls _ X hR hP hl hL ⟨_, _, rfl, ⟨_, rfl, hn⟩, hS⟩)
theorem ab_null (hd : decode y.2.1 pc = .ok (.aconst_null, 1)) (k : ab_T l E y d kc ks (pc + 1) L (vN :: S) h Q) : ab_T l E y d kc ks pc L S h Q := by
  intro p e R s m args below meth c H locs cells slots mc ms ls st X hR hP hl hL hS
  exact lv_null X.1 X.2.1 hd (k p e R s m args below meth c H locs cells slots mc ms ls _ X hR hP hl hL ⟨_, _, rfl, rfl, hS⟩)
theorem ab_ldc {ix : Nat} {v : Int32} (hd : decode y.2.1 pc = .ok (.ldc ix, 2)) (hw : Cond.constant y.1.cls ix v ∈ lw_tbl) (k : ab_T l E y d kc ks (pc + 2) L (vI v.toInt :: S) h Q) : ab_T l E y d kc ks pc L S h Q := by
  intro p e R s m args below meth c H locs cells slots mc ms ls st X hR hP hl hL hS
  obtain ⟨hx, hb, hml, hown, hr, hlk, hnm, htb, hW, ho, hG⟩ := id X
  exact W.ldc hx hb hown (ab_word hG hw rfl hW args) rfl hd (k p e R s m args below meth c H locs cells slots mc ms ls _ X hR hP hl hL ⟨_, _, rfl, ⟨_, rfl, rfl⟩, hS⟩)
theorem ab_ldc2 {ix : Nat} {v : Int64} (hd : decode y.2.1 pc = .ok (.ldc2_w ix, 3)) (hw : Cond.constantLong y.1.cls ix v ∈ lw_tbl) (k : ab_T l E y d kc ks (pc + 3) L (vL v.toInt :: S) h Q) : ab_T l E y d kc ks pc L S h Q := by
  intro p e R s m args below meth c H locs cells slots mc ms ls st X hR hP hl hL hS
  obtain ⟨hx, hb, hml, hown, hr, hlk, hnm, htb, hW, ho, hG⟩ := id X
  exact W.ldc2 hx hb hown (ab_word hG hw rfl hW args) rfl hd (k p e R s m args below meth c H locs cells slots mc ms ls _ X hR hP hl hL ⟨_, _, rfl, ⟨_, rfl, rfl⟩, hS⟩)
/-! loads -/
theorem ab_iload_n {i : Fin 4} {x : Int} (hd : decode y.2.1 pc = .ok (.iload_n i, 1)) (hl9 : L[(i : Nat)]? = some (some (vI x))) (k : ab_T l E y d kc ks (pc + 1) L (vI x :: S) h Q) : ab_T l E y d kc ks pc L S h Q := by
  intro p e R s m args below meth c H locs cells slots mc ms ls st X hR hP hl hL hS
  obtain ⟨w, hw, v, rfl, hv⟩ := hL.2.2 _ _ hl9
  exact lv_iload_n X.1 X.2.1 hd rfl hw (k p e R s m args below meth c H locs cells slots mc ms ls _ X hR hP hl hL ⟨_, _, rfl, ⟨_, rfl, hv⟩, hS⟩)
theorem ab_iload {i : Nat} {x : Int} (hd : decode y.2.1 pc = .ok (.iload i, 2)) (hl9 : L[i]? = some (some (vI x))) (k : ab_T l E y d kc ks (pc + 2) L (vI x :: S) h Q) : ab_T l E y d kc ks pc L S h Q := by
  intro p e R s m args below meth c H locs cells slots mc ms ls st X hR hP hl hL hS
  obtain ⟨w, hw, v, rfl, hv⟩ := hL.2.2 _ _ hl9
  exact lv_iload X.1 X.2.1 hd hw (k p e R s m args below meth c H locs cells slots mc ms ls _ X hR hP hl hL ⟨_, _, rfl, ⟨_, rfl, hv⟩, hS⟩)
theorem ab_lload_n {i : Fin 4} {x : Int} (hd : decode y.2.1 pc = .ok (.lload_n i, 1)) (hl9 : L[(i : Nat)]? = some (some (vL x))) (k : ab_T l E y d kc ks (pc + 1) L (vL x :: S) h Q) : ab_T l E y d kc ks pc L S h Q := by
  intro p e R s m args below meth c H locs cells slots mc ms ls st X hR hP hl hL hS
  obtain ⟨w, hw, v, rfl, hv⟩ := hL.2.2 _ _ hl9
  exact lv_lload_n X.1 X.2.1 hd rfl hw (k p e R s m args below meth c H locs cells slots mc ms ls _ X hR hP hl hL ⟨_, _, rfl, ⟨_, rfl, hv⟩, hS⟩)
theorem ab_lload {i : Nat} {x : Int} (hd : decode y.2.1 pc = .ok (.lload i, 2)) (hl9 : L[i]? = some (some (vL x))) (k : ab_T l E y d kc ks (pc + 2) L (vL x :: S) h Q) : ab_T l E y d kc ks pc L S h Q := by
  intro p e R s m args below meth c H locs cells slots mc ms ls st X hR hP hl hL hS
  obtain ⟨w, hw, v, rfl, hv⟩ := hL.2.2 _ _ hl9
  exact lv_lload X.1 X.2.1 hd hw (k p e R s m args below meth c H locs cells slots mc ms ls _ X hR hP hl hL ⟨_, _, rfl, ⟨_, rfl, hv⟩, hS⟩)
theorem ab_aload_n {i : Fin 4} {x : Nat} (hd : decode y.2.1 pc = .ok (.aload_n i, 1)) (hl9 : L[(i : Nat)]? = some (some (vR x))) (k : ab_T l E y d kc ks (pc + 1) L (vR x :: S) h Q) : ab_T l E y d kc ks pc L S h Q := by
  intro p e R s m args below meth c H locs cells slots mc ms ls st X hR hP hl hL hS
  obtain ⟨w, hw, hv⟩ := hL.2.2 _ _ hl9
  cases (show w = .ref x from hv)
  exact lv_aload_n X.1 X.2.1 hd rfl hw (k p e R s m args below meth c H locs cells slots mc ms ls _ X hR hP hl hL ⟨_, _, rfl, rfl, hS⟩)
theorem ab_aload {i : Nat} {x : Nat} (hd : decode y.2.1 pc = .ok (.aload i, 2)) (hl9 : L[i]? = some (some (vR x))) (k : ab_T l E y d kc ks (pc + 2) L (vR x :: S) h Q) : ab_T l E y d kc ks pc L S h Q := by
  intro p e R s m args below meth c H locs cells slots mc ms ls st X hR hP hl hL hS
  obtain ⟨w, hw, hv⟩ := hL.2.2 _ _ hl9
  cases (show w = .ref x from hv)
  exact lv_aload X.1 X.2.1 hd hw (k p e R s m args below meth c H locs cells slots mc ms ls _ X hR hP hl hL ⟨_, _, rfl, rfl, hS⟩)
/-! stores -/
theorem ab_istore_n {i : Fin 4} {x : Int} (hd : decode y.2.1 pc = .ok (.istore_n i, 1)) (hn : ab_nl L i = true) (hi : (i : Nat) < L.length) (k : ab_T l E y d kc ks (pc + 1) (L.set i (some (vI x))) S h Q) : ab_T l E y d kc ks pc L (vI x :: S) h Q := by
  intro p e R s m args below meth c H locs cells slots mc ms ls st X hR hP hl hL hS
  obtain ⟨w, r, rfl, ⟨v, rfl, hv⟩, hS⟩ := hS
  refine lv_istore_n X.1 X.2.1 hd rfl (ab_all_has hL.2.1) (by rw [hL.1]; exact hi) rfl fun ls' h' => ?_
  exact k p e R s m args below meth c H locs cells slots mc ms ls' r (by rw [List.length_set]; exact X) hR hP hl (ab_st1 hL hn hi ⟨v, rfl, hv⟩ h') hS
theorem ab_istore {i : Nat} {x : Int} (hd : decode y.2.1 pc = .ok (.istore i, 2)) (hn : ab_nl L i = true) (hi : i < L.length) (k : ab_T l E y d kc ks (pc + 2) (L.set i (some (vI x))) S h Q) : ab_T l E y d kc ks pc L (vI x :: S) h Q := by
  intro p e R s m args below meth c H locs cells slots mc ms ls st X hR hP hl hL hS
  obtain ⟨w, r, rfl, ⟨v, rfl, hv⟩, hS⟩ := hS
  refine lv_istore X.1 X.2.1 hd (ab_all_has hL.2.1) (by rw [hL.1]; exact hi) rfl fun ls' h' => ?_
  exact k p e R s m args below meth c H locs cells slots mc ms ls' r (by rw [List.length_set]; exact X) hR hP hl (ab_st1 hL hn hi ⟨v, rfl, hv⟩ h') hS
theorem ab_lstore_n {i : Fin 4} {x : Int} (hd : decode y.2.1 pc = .ok (.lstore_n i, 1)) (hn : ab_nl L i = true) (hi : (i : Nat) + 1 < L.length) (k : ab_T l E y d kc ks (pc + 1) ((L.set i (some (vL x))).set (i + 1) none) S h Q) : ab_T l E y d kc ks pc L (vL x :: S) h Q := by
  intro p e R s m args below meth c H locs cells slots mc ms ls st X hR hP hl hL hS
  obtain ⟨w, r, rfl, ⟨v, rfl, hv⟩, hS⟩ := hS
  refine lv_lstore_n X.1 X.2.1 hd rfl (ab_all_has hL.2.1) (by rw [hL.1]; exact hi) rfl fun ls' h' => ?_
  exact k p e R s m args below meth c H locs cells slots mc ms ls' r (by rw [List.length_set, List.length_set]; exact X) hR hP hl (ab_st2 hL hn hi ⟨v, rfl, hv⟩ h') hS
theorem ab_lstore {i : Nat} {x : Int} (hd : decode y.2.1 pc = .ok (.lstore i, 2)) (hn : ab_nl L i = true) (hi : i + 1 < L.length) (k : ab_T l E y d kc ks (pc + 2) ((L.set i (some (vL x))).set (i + 1) none) S h Q) : ab_T l E y d kc ks pc L (vL x :: S) h Q := by
  intro p e R s m args below meth c H locs cells slots mc ms ls st X hR hP hl hL hS
  obtain ⟨w, r, rfl, ⟨v, rfl, hv⟩, hS⟩ := hS
  refine lv_lstore X.1 X.2.1 hd (ab_all_has hL.2.1) (by rw [hL.1]; exact hi) rfl fun ls' h' => ?_
  exact k p e R s m args below meth c H locs cells slots mc ms ls' r (by rw [List.length_set, List.length_set]; exact X) hR hP hl (ab_st2 hL hn hi ⟨v, rfl, hv⟩ h') hS
theorem ab_astore_n {i : Fin 4} {x : Nat} (hd : decode y.2.1 pc = .ok (.astore_n i, 1)) (hn : ab_nl L i = true) (hi : (i : Nat) < L.length) (k : ab_T l E y d kc ks (pc + 1) (L.set i (some (vR x))) S h Q) : ab_T l E y d kc ks pc L (vR x :: S) h Q := by
  intro p e R s m args below meth c H locs cells slots mc ms ls st X hR hP hl hL hS
  obtain ⟨w, r, rfl, hv, hS⟩ := hS
  cases (show w = .ref x from hv)
  refine lv_astore_n X.1 X.2.1 hd rfl (ab_all_has hL.2.1) (by rw [hL.1]; exact hi) rfl fun ls' h' => ?_
  exact k p e R s m args below meth c H locs cells slots mc ms ls' r (by rw [List.length_set]; exact X) hR hP hl (ab_st1 hL hn hi rfl h') hS
theorem ab_astore {i : Nat} {x : Nat} (hd : decode y.2.1 pc = .ok (.astore i, 2)) (hn : ab_nl L i = true) (hi : i < L.length) (k : ab_T l E y d kc ks (pc + 2) (L.set i (some (vR x))) S h Q) : ab_T l E y d kc ks pc L (vR x :: S) h Q := by
  intro p e R s m args below meth c H locs cells slots mc ms ls st X hR hP hl hL hS
  obtain ⟨w, r, rfl, hv, hS⟩ := hS
  cases (show w = .ref x from hv)
  refine lv_astore X.1 X.2.1 hd (ab_all_has hL.2.1) (by rw [hL.1]; exact hi) rfl fun ls' h' => ?_
  exact k p e R s m args below meth c H locs cells slots mc ms ls' r (by rw [List.length_set]; exact X) hR hP hl (ab_st1 hL hn hi rfl h') hS
theorem ab_add32 {x y : Int32} {a b : Int} (hx : x.toInt = a) (hy : y.toInt = b) (h1 : -2147483648 ≤ a + b) (h2 : a + b < 2147483648) : (x + y).toInt = a + b := by
  rw [Int32.toInt_add, hx, hy, ab_bm h1 h2]
theorem ab_iinc {i : Nat} {n x : Int} (hd : decode y.2.1 pc = .ok (.iinc i n, 3)) (hl9 : L[i]? = some (some (vI x))) (hn : ab_nl L i = true) (hk : (Int32.ofInt n).toInt = n) (h1 : -2147483648 ≤ x + n) (h2 : x + n < 2147483648) (k : ab_T l E y d kc ks (pc + 3) (L.set i (some (vI (x + n)))) S h Q) : ab_T l E y d kc ks pc L S h Q := by
  intro p e R s m args below meth c H locs cells slots mc ms ls st X hR hP hl hL hS
  obtain ⟨w, hw, v, rfl, hv⟩ := hL.2.2 _ _ hl9
  have hi : i < L.length := (List.getElem?_eq_some_iff.mp hl9).1
  obtain ⟨q, hq⟩ := List.getElem?_of_mem (ab_all_mem.mpr hw)
  refine lv_iinc (k := q) X.1 X.2.1 hd (ab_all_has hL.2.1) hq rfl (by rw [hL.1]; exact hi) rfl fun ls' h' => ?_
  exact k p e R s m args below meth c H locs cells slots mc ms ls' st (by rw [List.length_set]; exact X) hR hP hl (ab_st1 hL hn hi ⟨_, rfl, ab_add32 hv hk h1 h2⟩ h') hS
/-! arithmetic -/
theorem ab_iadd {a b : Int} (hd : decode y.2.1 pc = .ok (.iadd, 1)) (h1 : -2147483648 ≤ a + b) (h2 : a + b < 2147483648) (k : ab_T l E y d kc ks (pc + 1) L (vI (a + b) :: S) h Q) : ab_T l E y d kc ks pc L (vI b :: vI a :: S) h Q := by
  intro p e R s m args below meth c H locs cells slots mc ms ls st X hR hP hl hL hS
  obtain ⟨_, _, rfl, ⟨v, rfl, hv⟩, _, _, rfl, ⟨u, rfl, hu⟩, hS⟩ := hS
  exact lv_iadd X.1 X.2.1 hd (k p e R s m args below meth c H locs cells slots mc ms ls _ X hR hP hl hL ⟨_, _, rfl, ⟨_, rfl, ab_add32 hu hv h1 h2⟩, hS⟩)
theorem ab_isub {a b : Int} (hd : decode y.2.1 pc = .ok (.isub, 1)) (h1 : -2147483648 ≤ a - b) (h2 : a - b < 2147483648) (k : ab_T l E y d kc ks (pc + 1) L (vI (a - b) :: S) h Q) : ab_T l E y d kc ks pc L (vI b :: vI a :: S) h Q := by
  intro p e R s m args below meth c H locs cells slots mc ms ls st X hR hP hl hL hS
  obtain ⟨_, _, rfl, ⟨v, rfl, hv⟩, _, _, rfl, ⟨u, rfl, hu⟩, hS⟩ := hS
  exact lv_isub X.1 X.2.1 hd (k p e R s m args below meth c H locs cells slots mc ms ls _ X hR hP hl hL ⟨_, _, rfl, ⟨_, rfl, by rw [Int32.toInt_sub, hu, hv, ab_bm h1 h2]⟩, hS⟩)
theorem ab_imul {a b : Int} (hd : decode y.2.1 pc = .ok (.imul, 1)) (h1 : -2147483648 ≤ a * b) (h2 : a * b < 2147483648) (k : ab_T l E y d kc ks (pc + 1) L (vI (a * b) :: S) h Q) : ab_T l E y d kc ks pc L (vI b :: vI a :: S) h Q := by
  intro p e R s m args below meth c H locs cells slots mc ms ls st X hR hP hl hL hS
  obtain ⟨_, _, rfl, ⟨v, rfl, hv⟩, _, _, rfl, ⟨u, rfl, hu⟩, hS⟩ := hS
  exact lv_imul X.1 X.2.1 hd (k p e R s m args below meth c H locs cells slots mc ms ls _ X hR hP hl hL ⟨_, _, rfl, ⟨_, rfl, by rw [Int32.toInt_mul, hu, hv, ab_bm h1 h2]⟩, hS⟩)
theorem ab_ne0 {v : Int32} {b : Int} (hv : v.toInt = b) (hb : 0 < b) : ¬ v = 0 := by
  intro e
  rw [e, Int32.toInt_zero] at hv
  omega
theorem ab_idiv {a b : Int} (hd : decode y.2.1 pc = .ok (.idiv, 1)) (hb : 0 < b) (k : ab_T l E y d kc ks (pc + 1) L (vI (a.tdiv b) :: S) h Q) : ab_T l E y d kc ks pc L (vI b :: vI a :: S) h Q := by
  intro p e R s m args below meth c H locs cells slots mc ms ls st X hR hP hl hL hS
  obtain ⟨_, _, rfl, ⟨v, rfl, hv⟩, _, _, rfl, ⟨u, rfl, hu⟩, hS⟩ := hS
  have hq : (u / v).toInt = a.tdiv b := by
    have g1 := ab_rg u
    have g3 : (a.tdiv b).natAbs ≤ a.natAbs := by
      rw [Int.natAbs_tdiv]
      exact Nat.div_le_self _ _
    rw [Int32.toInt_div, hu, hv, ab_bm]
    · rw [hu] at g1; omega
    · rcases Int.lt_or_le a 0 with g | g
      · have : a.tdiv b ≤ 0 := by
          have g5 : (-a).tdiv b = -(a.tdiv b) := Int.neg_tdiv a b
          have g6 : 0 ≤ (-a).tdiv b := Int.tdiv_nonneg (by omega) (by omega)
          omega
        omega
      · rw [hu] at g1; omega
  exact lv_idiv X.1 X.2.1 hd (ab_ne0 hv hb) (k p e R s m args below meth c H locs cells slots mc ms ls _ X hR hP hl hL ⟨_, _, rfl, ⟨_, rfl, hq⟩, hS⟩)
theorem ab_irem {a b : Int} (hd : decode y.2.1 pc = .ok (.irem, 1)) (hb : 0 < b) (k : ab_T l E y d kc ks (pc + 1) L (vI (a.tmod b) :: S) h Q) : ab_T l E y d kc ks pc L (vI b :: vI a :: S) h Q := by
  intro p e R s m args below meth c H locs cells slots mc ms ls st X hR hP hl hL hS
  obtain ⟨_, _, rfl, ⟨v, rfl, hv⟩, _, _, rfl, ⟨u, rfl, hu⟩, hS⟩ := hS
  exact lv_irem X.1 X.2.1 hd (ab_ne0 hv hb) (k p e R s m args below meth c H locs cells slots mc ms ls _ X hR hP hl hL ⟨_, _, rfl, ⟨_, rfl, by rw [rem_toInt, hu, hv]⟩, hS⟩)
/-- bits by the machine's own words -/
def ab_and (a b : Int) : Int := (Int32.ofInt a &&& Int32.ofInt b).toInt
def ab_or (a b : Int) : Int := (Int32.ofInt a ||| Int32.ofInt b).toInt
def ab_xor (a b : Int) : Int := (Int32.ofInt a ^^^ Int32.ofInt b).toInt
def ab_shl (a b : Int) : Int := (Int32.ofInt a <<< (Int32.ofInt b &&& 31)).toInt
def ab_shr (a b : Int) : Int := (Int32.ofInt a >>> (Int32.ofInt b &&& 31)).toInt
def ab_ushr (a b : Int) : Int := ((Int32.ofInt a).toUInt32 >>> ((Int32.ofInt b).toUInt32 &&& Int32.toUInt32 31)).toInt32.toInt
def ab_b8 (a : Int) : Int := (Int32.ofInt a).toInt8.toInt32.toInt
def ab_b16 (a : Int) : Int := (Int32.ofInt a).toInt16.toInt32.toInt
theorem ab_of {v : Int32} {a : Int} (h : v.toInt = a) : v = Int32.ofInt a := by rw [← h, Int32.ofInt_toInt]
theorem ab_iand {a b : Int} (hd : decode y.2.1 pc = .ok (.iand, 1)) (k : ab_T l E y d kc ks (pc + 1) L (vI (ab_and a b) :: S) h Q) : ab_T l E y d kc ks pc L (vI b :: vI a :: S) h Q := by
  intro p e R s m args below meth c H locs cells slots mc ms ls st X hR hP hl hL hS
  obtain ⟨_, _, rfl, ⟨v, rfl, hv⟩, _, _, rfl, ⟨u, rfl, hu⟩, hS⟩ := hS
  exact lv_iand X.1 X.2.1 hd (k p e R s m args below meth c H locs cells slots mc ms ls _ X hR hP hl hL ⟨_, _, rfl, ⟨_, rfl, by rw [ab_of hu, ab_of hv]; rfl⟩, hS⟩)
theorem ab_ior {a b : Int} (hd : decode y.2.1 pc = .ok (.ior, 1)) (k : ab_T l E y d kc ks (pc + 1) L (vI (ab_or a b) :: S) h Q) : ab_T l E y d kc ks pc L (vI b :: vI a :: S) h Q := by
  intro p e R s m args below meth c H locs cells slots mc ms ls st X hR hP hl hL hS
  obtain ⟨_, _, rfl, ⟨v, rfl, hv⟩, _, _, rfl, ⟨u, rfl, hu⟩, hS⟩ := hS
  exact lv_ior X.1 X.2.1 hd (k p e R s m args below meth c H locs cells slots mc ms ls _ X hR hP hl hL ⟨_, _, rfl, ⟨_, rfl, by rw [ab_of hu, ab_of hv]; rfl⟩, hS⟩)
theorem ab_ixor {a b : Int} (hd : decode y.2.1 pc = .ok (.ixor, 1)) (k : ab_T l E y d kc ks (pc + 1) L (vI (ab_xor a b) :: S) h Q) : ab_T l E y d kc ks pc L (vI b :: vI a :: S) h Q := by
  intro p e R s m args below meth c H locs cells slots mc ms ls st X hR hP hl hL hS
  obtain ⟨_, _, rfl, ⟨v, rfl, hv⟩, _, _, rfl, ⟨u, rfl, hu⟩, hS⟩ := hS
  exact lv_ixor X.1 X.2.1 hd (k p e R s m args below meth c H locs cells slots mc ms ls _ X hR hP hl hL ⟨_, _, rfl, ⟨_, rfl, by rw [ab_of hu, ab_of hv]; rfl⟩, hS⟩)
theorem ab_ishl {a b : Int} (hd : decode y.2.1 pc = .ok (.ishl, 1)) (k : ab_T l E y d kc ks (pc + 1) L (vI (ab_shl a b) :: S) h Q) : ab_T l E y d kc ks pc L (vI b :: vI a :: S) h Q := by
  intro p e R s m args below meth c H locs cells slots mc ms ls st X hR hP hl hL hS
  obtain ⟨_, _, rfl, ⟨v, rfl, hv⟩, _, _, rfl, ⟨u, rfl, hu⟩, hS⟩ := hS
  exact lv_ishl X.1 X.2.1 hd (k p e R s m args below meth c H locs cells slots mc ms ls _ X hR hP hl hL ⟨_, _, rfl, ⟨_, rfl, by rw [ab_of hu, ab_of hv]; rfl⟩, hS⟩)
theorem ab_ishr {a b : Int} (hd : decode y.2.1 pc = .ok (.ishr, 1)) (k : ab_T l E y d kc ks (pc + 1) L (vI (ab_shr a b) :: S) h Q) : ab_T l E y d kc ks pc L (vI b :: vI a :: S) h Q := by
  intro p e R s m args below meth c H locs cells slots mc ms ls st X hR hP hl hL hS
  obtain ⟨_, _, rfl, ⟨v, rfl, hv⟩, _, _, rfl, ⟨u, rfl, hu⟩, hS⟩ := hS
  exact lv_ishr X.1 X.2.1 hd (k p e R s m args below meth c H locs cells slots mc ms ls _ X hR hP hl hL ⟨_, _, rfl, ⟨_, rfl, by rw [ab_of hu, ab_of hv]; rfl⟩, hS⟩)
theorem ab_iushr {a b : Int} (hd : decode y.2.1 pc = .ok (.iushr, 1)) (k : ab_T l E y d kc ks (pc + 1) L (vI (ab_ushr a b) :: S) h Q) : ab_T l E y d kc ks pc L (vI b :: vI a :: S) h Q := by
  intro p e R s m args below meth c H locs cells slots mc ms ls st X hR hP hl hL hS
  obtain ⟨_, _, rfl, ⟨v, rfl, hv⟩, _, _, rfl, ⟨u, rfl, hu⟩, hS⟩ := hS
  exact lv_iushr X.1 X.2.1 hd rfl (k p e R s m args below meth c H locs cells slots mc ms ls _ X hR hP hl hL ⟨_, _, rfl, ⟨_, rfl, by rw [ab_of hu, ab_of hv]; rfl⟩, hS⟩)
theorem ab_i2b {a : Int} (hd : decode y.2.1 pc = .ok (.i2b, 1)) (k : ab_T l E y d kc ks (pc + 1) L (vI (ab_b8 a) :: S) h Q) : ab_T l E y d kc ks pc L (vI a :: S) h Q := by
  intro p e R s m args below meth c H locs cells slots mc ms ls st X hR hP hl hL hS
  obtain ⟨_, _, rfl, ⟨v, rfl, hv⟩, hS⟩ := hS
  exact lv_i2b X.1 X.2.1 hd rfl (k p e R s m args below meth c H locs cells slots mc ms ls _ X hR hP hl hL ⟨_, _, rfl, ⟨_, rfl, by rw [ab_of hv]; rfl⟩, hS⟩)
theorem ab_i2s {a : Int} (hd : decode y.2.1 pc = .ok (.i2s, 1)) (k : ab_T l E y d kc ks (pc + 1) L (vI (ab_b16 a) :: S) h Q) : ab_T l E y d kc ks pc L (vI a :: S) h Q := by
  intro p e R s m args below meth c H locs cells slots mc ms ls st X hR hP hl hL hS
  obtain ⟨_, _, rfl, ⟨v, rfl, hv⟩, hS⟩ := hS
  exact lv_i2s X.1 X.2.1 hd rfl (k p e R s m args below meth c H locs cells slots mc ms ls _ X hR hP hl hL ⟨_, _, rfl, ⟨_, rfl, by rw [ab_of hv]; rfl⟩, hS⟩)
theorem ab_i2l {a : Int} (hd : decode y.2.1 pc = .ok (.i2l, 1)) (k : ab_T l E y d kc ks (pc + 1) L (vL a :: S) h Q) : ab_T l E y d kc ks pc L (vI a :: S) h Q := by
  intro p e R s m args below meth c H locs cells slots mc ms ls st X hR hP hl hL hS
  obtain ⟨_, _, rfl, ⟨v, rfl, hv⟩, hS⟩ := hS
  exact lv_i2l X.1 X.2.1 hd rfl (k p e R s m args below meth c H locs cells slots mc ms ls _ X hR hP hl hL ⟨_, _, rfl, ⟨_, rfl, by rw [Int32.toInt_toInt64, hv]⟩, hS⟩)
/-- longs go round at 2^64 -/
def ab_w64 (x : Int) : Int := x.bmod (2 ^ 64)
theorem ab_w64_eq {x : Int} (h1 : -9223372036854775808 ≤ x) (h2 : x < 9223372036854775808) : ab_w64 x = x := ab_bm64 h1 h2
theorem ab_ladd {a b : Int} (hd : decode y.2.1 pc = .ok (.ladd, 1)) (k : ab_T l E y d kc ks (pc + 1) L (vL (ab_w64 (a + b)) :: S) h Q) : ab_T l E y d kc ks pc L (vL b :: vL a :: S) h Q := by
  intro p e R s m args below meth c H locs cells slots mc ms ls st X hR hP hl hL hS
  obtain ⟨_, _, rfl, ⟨v, rfl, hv⟩, _, _, rfl, ⟨u, rfl, hu⟩, hS⟩ := hS
  exact lv_ladd X.1 X.2.1 hd (k p e R s m args below meth c H locs cells slots mc ms ls _ X hR hP hl hL ⟨_, _, rfl, ⟨_, rfl, by rw [Int64.toInt_add, hu, hv]; rfl⟩, hS⟩)
theorem ab_lsub {a b : Int} (hd : decode y.2.1 pc = .ok (.lsub, 1)) (k : ab_T l E y d kc ks (pc + 1) L (vL (ab_w64 (a - b)) :: S) h Q) : ab_T l E y d kc ks pc L (vL b :: vL a :: S) h Q := by
  intro p e R s m args below meth c H locs cells slots mc ms ls st X hR hP hl hL hS
  obtain ⟨_, _, rfl, ⟨v, rfl, hv⟩, _, _, rfl, ⟨u, rfl, hu⟩, hS⟩ := hS
  exact lv_lsub X.1 X.2.1 hd (k p e R s m args below meth c H locs cells slots mc ms ls _ X hR hP hl hL ⟨_, _, rfl, ⟨_, rfl, by rw [Int64.toInt_sub, hu, hv]; rfl⟩, hS⟩)
theorem ab_lmul {a b : Int} (hd : decode y.2.1 pc = .ok (.lmul, 1)) (k : ab_T l E y d kc ks (pc + 1) L (vL (ab_w64 (a * b)) :: S) h Q) : ab_T l E y d kc ks pc L (vL b :: vL a :: S) h Q := by
  intro p e R s m args below meth c H locs cells slots mc ms ls st X hR hP hl hL hS
  obtain ⟨_, _, rfl, ⟨v, rfl, hv⟩, _, _, rfl, ⟨u, rfl, hu⟩, hS⟩ := hS
  exact lv_lmul X.1 X.2.1 hd (k p e R s m args below meth c H locs cells slots mc ms ls _ X hR hP hl hL ⟨_, _, rfl, ⟨_, rfl, by rw [Int64.toInt_mul, hu, hv]; rfl⟩, hS⟩)
theorem ab_of64 {v : Int64} {a : Int} (h : v.toInt = a) : v = Int64.ofInt a := by rw [← h, Int64.ofInt_toInt]
def ab_lsh (a b : Int) : Int := (Int64.ofInt a <<< ((Int32.ofInt b).toInt64 &&& 63)).toInt
theorem ab_lshl {a b : Int} (hd : decode y.2.1 pc = .ok (.lshl, 1)) (k : ab_T l E y d kc ks (pc + 1) L (vL (ab_lsh a b) :: S) h Q) : ab_T l E y d kc ks pc L (vI b :: vL a :: S) h Q := by
  intro p e R s m args below meth c H locs cells slots mc ms ls st X hR hP hl hL hS
  obtain ⟨_, _, rfl, ⟨v, rfl, hv⟩, _, _, rfl, ⟨u, rfl, hu⟩, hS⟩ := hS
  exact lv_lshl X.1 X.2.1 hd rfl (k p e R s m args below meth c H locs cells slots mc ms ls _ X hR hP hl hL ⟨_, _, rfl, ⟨_, rfl, by rw [ab_of64 hu, ab_of hv]; rfl⟩, hS⟩)
def ab_lcmp (a b : Int) : Int := if b < a then 1 else if a = b then 0 else -1
theorem ab_lcm {a b : Int} (hd : decode y.2.1 pc = .ok (.lcmp, 1)) (k : ab_T l E y d kc ks (pc + 1) L (vI (ab_lcmp a b) :: S) h Q) : ab_T l E y d kc ks pc L (vL b :: vL a :: S) h Q := by
  intro p e R s m args below meth c H locs cells slots mc ms ls st X hR hP hl hL hS
  obtain ⟨_, _, rfl, ⟨v, rfl, hv⟩, _, _, rfl, ⟨u, rfl, hu⟩, hS⟩ := hS
  have hq : (lg_cmp u v).toInt = ab_lcmp a b := by
    unfold lg_cmp ab_lcmp
    rcases lg_tri u v with g | g | g
    · have g1 : a < b := by rw [← hu, ← hv]; exact Int64.lt_iff_toInt_lt.mp g
      rw [if_neg (lg_lt_not g), if_neg (lg_lt_ne g), if_neg (by omega), if_neg (by omega)]
      rfl
    · subst g
      have g1 : a = b := hu.symm.trans hv
      rw [if_neg (by rw [GT.gt, Int64.lt_iff_toInt_lt]; omega), if_pos rfl, if_neg (by omega), if_pos g1]
      rfl
    · have g1 : b < a := by rw [← hu, ← hv]; exact Int64.lt_iff_toInt_lt.mp g
      rw [if_pos g, if_pos g1]
      rfl
  exact W.lcmp X.1 X.2.1 hd (k p e R s m args below meth c H locs cells slots mc ms ls _ X hR hP hl hL ⟨_, _, rfl, ⟨_, rfl, hq⟩, hS⟩)
/-! the stack -/
theorem ab_dup {x : AbV} (hd : decode y.2.1 pc = .ok (.dup, 1)) (hx : ab_w x = 1) (k : ab_T l E y d kc ks (pc + 1) L (x :: x :: S) h Q) : ab_T l E y d kc ks pc L (x :: S) h Q := by
  intro p e R s m args below meth c H locs cells slots mc ms ls st X hR hP hl hL hS
  obtain ⟨w, r, rfl, hw, hS⟩ := hS
  exact lv_dup X.1 X.2.1 hd ((ab_cat hw).trans hx) (k p e R s m args below meth c H locs cells slots mc ms ls _ X hR hP hl hL ⟨_, _, rfl, hw, _, _, rfl, hw, hS⟩)
theorem ab_dup2 {x z : AbV} (hd : decode y.2.1 pc = .ok (.dup2, 1)) (hx : ab_w x = 1) (hz : ab_w z = 1) (k : ab_T l E y d kc ks (pc + 1) L (x :: z :: x :: z :: S) h Q) : ab_T l E y d kc ks pc L (x :: z :: S) h Q := by
  intro p e R s m args below meth c H locs cells slots mc ms ls st X hR hP hl hL hS
  obtain ⟨w, r, rfl, hw, w2, r2, rfl, hw2, hS⟩ := hS
  exact lv_dup2_11 X.1 X.2.1 hd ((ab_cat hw).trans hx) ((ab_cat hw2).trans hz) (k p e R s m args below meth c H locs cells slots mc ms ls _ X hR hP hl hL ⟨_, _, rfl, hw, _, _, rfl, hw2, _, _, rfl, hw, _, _, rfl, hw2, hS⟩)
theorem ab_pop {x : AbV} (hd : decode y.2.1 pc = .ok (.pop, 1)) (hx : ab_w x = 1) (k : ab_T l E y d kc ks (pc + 1) L S h Q) : ab_T l E y d kc ks pc L (x :: S) h Q := by
  intro p e R s m args below meth c H locs cells slots mc ms ls st X hR hP hl hL hS
  obtain ⟨w, r, rfl, hw, hS⟩ := hS
  exact lv_pop X.1 X.2.1 hd ((ab_cat hw).trans hx) (k p e R s m args below meth c H locs cells slots mc ms ls _ X hR hP hl hL hS)
/-! branches -/
theorem ab_goto {off : Int} (tgt : Nat) (hd : decode y.2.1 pc = .ok (.goto off, 3)) (ht : (pc : Int) + off = (tgt : Int)) (k : ab_T l E y d kc ks tgt L S h Q) : ab_T l E y d kc ks pc L S h Q := by
  intro p e R s m args below meth c H locs cells slots mc ms ls st X hR hP hl hL hS
  exact lv_goto X.1 X.2.1 hd ht (k p e R s m args below meth c H locs cells slots mc ms ls _ X hR hP hl hL hS)
theorem ab_icmp_lt {a b off : Int} (tgt : Nat) (hd : decode y.2.1 pc = .ok (.if_icmp .lt off, 3)) (ht : (pc : Int) + off = (tgt : Int)) (kt : a < b → ab_T l E y d kc ks tgt L S h Q) (kf : ¬ a < b → ab_T l E y d kc ks (pc + 3) L S h Q) : ab_T l E y d kc ks pc L (vI b :: vI a :: S) h Q := by
  intro p e R s m args below meth c H locs cells slots mc ms ls st X hR hP hl hL hS
  obtain ⟨_, _, rfl, ⟨v, rfl, hv⟩, _, _, rfl, ⟨u, rfl, hu⟩, hS⟩ := hS
  exact lv_icmp_lt X.1 X.2.1 hd ht (fun g => kt (by have g2 := Int32.lt_iff_toInt_lt.mp g; simp only [hu, hv] at g2; exact g2) p e R s m args below meth c H locs cells slots mc ms ls _ X hR hP hl hL hS) (fun g => kf (fun g2 => g (Int32.lt_iff_toInt_lt.mpr (by simp only [hu, hv]; exact g2))) p e R s m args below meth c H locs cells slots mc ms ls _ X hR hP hl hL hS)
theorem ab_if_lt {a off : Int} (tgt : Nat) (hd : decode y.2.1 pc = .ok (.ifCond .lt off, 3)) (ht : (pc : Int) + off = (tgt : Int)) (kt : a < 0 → ab_T l E y d kc ks tgt L S h Q) (kf : ¬ a < 0 → ab_T l E y d kc ks (pc + 3) L S h Q) : ab_T l E y d kc ks pc L (vI a :: S) h Q := by
  intro p e R s m args below meth c H locs cells slots mc ms ls st X hR hP hl hL hS
  obtain ⟨_, _, rfl, ⟨u, rfl, hu⟩, hS⟩ := hS
  exact lv_if_lt X.1 X.2.1 hd ht (fun g => kt (by have g2 := Int32.lt_iff_toInt_lt.mp g; simp only [hu, Int32.toInt_zero] at g2; exact g2) p e R s m args below meth c H locs cells slots mc ms ls _ X hR hP hl hL hS) (fun g => kf (fun g2 => g (Int32.lt_iff_toInt_lt.mpr (by simp only [hu, Int32.toInt_zero]; exact g2))) p e R s m args below meth c H locs cells slots mc ms ls _ X hR hP hl hL hS)
theorem ab_icmp_ge {a b off : Int} (tgt : Nat) (hd : decode y.2.1 pc = .ok (.if_icmp .ge off, 3)) (ht : (pc : Int) + off = (tgt : Int)) (kt : b ≤ a → ab_T l E y d kc ks tgt L S h Q) (kf : ¬ b ≤ a → ab_T l E y d kc ks (pc + 3) L S h Q) : ab_T l E y d kc ks pc L (vI b :: vI a :: S) h Q := by
  intro p e R s m args below meth c H locs cells slots mc ms ls st X hR hP hl hL hS
  obtain ⟨_, _, rfl, ⟨v, rfl, hv⟩, _, _, rfl, ⟨u, rfl, hu⟩, hS⟩ := hS
  exact lv_icmp_ge X.1 X.2.1 hd ht (fun g => kt (by have g2 := Int32.le_iff_toInt_le.mp g; simp only [hu, hv] at g2; exact g2) p e R s m args below meth c H locs cells slots mc ms ls _ X hR hP hl hL hS) (fun g => kf (fun g2 => g (Int32.le_iff_toInt_le.mpr (by simp only [hu, hv]; exact g2))) p e R s m args below meth c H locs cells slots mc ms ls _ X hR hP hl hL hS)
theorem ab_if_ge {a off : Int} (tgt : Nat) (hd : decode y.2.1 pc = .ok (.ifCond .ge off, 3)) (ht : (pc : Int) + off = (tgt : Int)) (kt : 0 ≤ a → ab_T l E y d kc ks tgt L S h Q) (kf : ¬ 0 ≤ a → ab_T l E y d kc ks (pc + 3) L S h Q) : ab_T l E y d kc ks pc L (vI a :: S) h Q := by
  intro p e R s m args below meth c H locs cells slots mc ms ls st X hR hP hl hL hS
  obtain ⟨_, _, rfl, ⟨u, rfl, hu⟩, hS⟩ := hS
  exact lv_if_ge X.1 X.2.1 hd ht (fun g => kt (by have g2 := Int32.le_iff_toInt_le.mp g; simp only [hu, Int32.toInt_zero] at g2; exact g2) p e R s m args below meth c H locs cells slots mc ms ls _ X hR hP hl hL hS) (fun g => kf (fun g2 => g (Int32.le_iff_toInt_le.mpr (by simp only [hu, Int32.toInt_zero]; exact g2))) p e R s m args below meth c H locs cells slots mc ms ls _ X hR hP hl hL hS)
theorem ab_icmp_gt {a b off : Int} (tgt : Nat) (hd : decode y.2.1 pc = .ok (.if_icmp .gt off, 3)) (ht : (pc : Int) + off = (tgt : Int)) (kt : b < a → ab_T l E y d kc ks tgt L S h Q) (kf : ¬ b < a → ab_T l E y d kc ks (pc + 3) L S h Q) : ab_T l E y d kc ks pc L (vI b :: vI a :: S) h Q := by
  intro p e R s m args below meth c H locs cells slots mc ms ls st X hR hP hl hL hS
  obtain ⟨_, _, rfl, ⟨v, rfl, hv⟩, _, _, rfl, ⟨u, rfl, hu⟩, hS⟩ := hS
  exact lv_icmp_gt X.1 X.2.1 hd ht (fun g => kt (by have g2 := Int32.lt_iff_toInt_lt.mp g; simp only [hu, hv] at g2; exact g2) p e R s m args below meth c H locs cells slots mc ms ls _ X hR hP hl hL hS) (fun g => kf (fun g2 => g (Int32.lt_iff_toInt_lt.mpr (by simp only [hu, hv]; exact g2))) p e R s m args below meth c H locs cells slots mc ms ls _ X hR hP hl hL hS)
theorem ab_if_gt {a off : Int} (tgt : Nat) (hd : decode y.2.1 pc = .ok (.ifCond .gt off, 3)) (ht : (pc : Int) + off = (tgt : Int)) (kt : 0 < a → ab_T l E y d kc ks tgt L S h Q) (kf : ¬ 0 < a → ab_T l E y d kc ks (pc + 3) L S h Q) : ab_T l E y d kc ks pc L (vI a :: S) h Q := by
  intro p e R s m args below meth c H locs cells slots mc ms ls st X hR hP hl hL hS
  obtain ⟨_, _, rfl, ⟨u, rfl, hu⟩, hS⟩ := hS
  exact lv_if_gt X.1 X.2.1 hd ht (fun g => kt (by have g2 := Int32.lt_iff_toInt_lt.mp g; simp only [hu, Int32.toInt_zero] at g2; exact g2) p e R s m args below meth c H locs cells slots mc ms ls _ X hR hP hl hL hS) (fun g => kf (fun g2 => g (Int32.lt_iff_toInt_lt.mpr (by simp only [hu, Int32.toInt_zero]; exact g2))) p e R s m args below meth c H locs cells slots mc ms ls _ X hR hP hl hL hS)
theorem ab_icmp_le {a b off : Int} (tgt : Nat) (hd : decode y.2.1 pc = .ok (.if_icmp .le off, 3)) (ht : (pc : Int) + off = (tgt : Int)) (kt : a ≤ b → ab_T l E y d kc ks tgt L S h Q) (kf : ¬ a ≤ b → ab_T l E y d kc ks (pc + 3) L S h Q) : ab_T l E y d kc ks pc L (vI b :: vI a :: S) h Q := by
  intro p e R s m args below meth c H locs cells slots mc ms ls st X hR hP hl hL hS
  obtain ⟨_, _, rfl, ⟨v, rfl, hv⟩, _, _, rfl, ⟨u, rfl, hu⟩, hS⟩ := hS
  exact lv_icmp_le X.1 X.2.1 hd ht (fun g => kt (by have g2 := Int32.le_iff_toInt_le.mp g; simp only [hu, hv] at g2; exact g2) p e R s m args below meth c H locs cells slots mc ms ls _ X hR hP hl hL hS) (fun g => kf (fun g2 => g (Int32.le_iff_toInt_le.mpr (by simp only [hu, hv]; exact g2))) p e R s m args below meth c H locs cells slots mc ms ls _ X hR hP hl hL hS)
theorem ab_if_le {a off : Int} (tgt : Nat) (hd : decode y.2.1 pc = .ok (.ifCond .le off, 3)) (ht : (pc : Int) + off = (tgt : Int)) (kt : a ≤ 0 → ab_T l E y d kc ks tgt L S h Q) (kf : ¬ a ≤ 0 → ab_T l E y d kc ks (pc + 3) L S h Q) : ab_T l E y d kc ks pc L (vI a :: S) h Q := by
  intro p e R s m args below meth c H locs cells slots mc ms ls st X hR hP hl hL hS
  obtain ⟨_, _, rfl, ⟨u, rfl, hu⟩, hS⟩ := hS
  exact lv_if_le X.1 X.2.1 hd ht (fun g => kt (by have g2 := Int32.le_iff_toInt_le.mp g; simp only [hu, Int32.toInt_zero] at g2; exact g2) p e R s m args below meth c H locs cells slots mc ms ls _ X hR hP hl hL hS) (fun g => kf (fun g2 => g (Int32.le_iff_toInt_le.mpr (by simp only [hu, Int32.toInt_zero]; exact g2))) p e R s m args below meth c H locs cells slots mc ms ls _ X hR hP hl hL hS)
theorem ab_icmp_eq {a b off : Int} (tgt : Nat) (hd : decode y.2.1 pc = .ok (.if_icmp .eq off, 3)) (ht : (pc : Int) + off = (tgt : Int)) (kt : a = b → ab_T l E y d kc ks tgt L S h Q) (kf : ¬ a = b → ab_T l E y d kc ks (pc + 3) L S h Q) : ab_T l E y d kc ks pc L (vI b :: vI a :: S) h Q := by
  intro p e R s m args below meth c H locs cells slots mc ms ls st X hR hP hl hL hS
  obtain ⟨_, _, rfl, ⟨v, rfl, hv⟩, _, _, rfl, ⟨u, rfl, hu⟩, hS⟩ := hS
  exact lv_icmp_eq X.1 X.2.1 hd ht (fun g => kt (by rw [← hu, ← hv, g]) p e R s m args below meth c H locs cells slots mc ms ls _ X hR hP hl hL hS) (fun g => kf (fun g2 => g (Int32.toInt_inj.mp (by rw [hu, hv]; exact g2))) p e R s m args below meth c H locs cells slots mc ms ls _ X hR hP hl hL hS)
theorem ab_if_eq {a off : Int} (tgt : Nat) (hd : decode y.2.1 pc = .ok (.ifCond .eq off, 3)) (ht : (pc : Int) + off = (tgt : Int)) (kt : a = 0 → ab_T l E y d kc ks tgt L S h Q) (kf : ¬ a = 0 → ab_T l E y d kc ks (pc + 3) L S h Q) : ab_T l E y d kc ks pc L (vI a :: S) h Q := by
  intro p e R s m args below meth c H locs cells slots mc ms ls st X hR hP hl hL hS
  obtain ⟨_, _, rfl, ⟨u, rfl, hu⟩, hS⟩ := hS
  exact lv_if_eq X.1 X.2.1 hd ht (fun g => kt (by rw [← hu, g, Int32.toInt_zero]) p e R s m args below meth c H locs cells slots mc ms ls _ X hR hP hl hL hS) (fun g => kf (fun g2 => g (Int32.toInt_inj.mp (by rw [hu, Int32.toInt_zero]; exact g2))) p e R s m args below meth c H locs cells slots mc ms ls _ X hR hP hl hL hS)
theorem ab_icmp_ne {a b off : Int} (tgt : Nat) (hd : decode y.2.1 pc = .ok (.if_icmp .ne off, 3)) (ht : (pc : Int) + off = (tgt : Int)) (kt : ¬ a = b → ab_T l E y d kc ks tgt L S h Q) (kf : a = b → ab_T l E y d kc ks (pc + 3) L S h Q) : ab_T l E y d kc ks pc L (vI b :: vI a :: S) h Q := by
  intro p e R s m args below meth c H locs cells slots mc ms ls st X hR hP hl hL hS
  obtain ⟨_, _, rfl, ⟨v, rfl, hv⟩, _, _, rfl, ⟨u, rfl, hu⟩, hS⟩ := hS
  exact lv_icmp_ne X.1 X.2.1 hd ht (fun g => kt (fun g2 => g (Int32.toInt_inj.mp (by rw [hu, hv]; exact g2))) p e R s m args below meth c H locs cells slots mc ms ls _ X hR hP hl hL hS) (fun g => kf (by rw [← hu, ← hv, g]) p e R s m args below meth c H locs cells slots mc ms ls _ X hR hP hl hL hS)
theorem ab_if_ne {a off : Int} (tgt : Nat) (hd : decode y.2.1 pc = .ok (.ifCond .ne off, 3)) (ht : (pc : Int) + off = (tgt : Int)) (kt : ¬ a = 0 → ab_T l E y d kc ks tgt L S h Q) (kf : a = 0 → ab_T l E y d kc ks (pc + 3) L S h Q) : ab_T l E y d kc ks pc L (vI a :: S) h Q := by
  intro p e R s m args below meth c H locs cells slots mc ms ls st X hR hP hl hL hS
  obtain ⟨_, _, rfl, ⟨u, rfl, hu⟩, hS⟩ := hS
  exact lv_if_ne X.1 X.2.1 hd ht (fun g => kt (fun g2 => g (Int32.toInt_inj.mp (by rw [hu, Int32.toInt_zero]; exact g2))) p e R s m args below meth c H locs cells slots mc ms ls _ X hR hP hl hL hS) (fun g => kf (by rw [← hu, g, Int32.toInt_zero]) p e R s m args below meth c H locs cells slots mc ms ls _ X hR hP hl hL hS)
theorem ab_nonnull {r : Option Nat} {off : Int} (tgt : Nat) (hd : decode y.2.1 pc = .ok (.ifnonnull off, 3)) (ht : (pc : Int) + off = (tgt : Int)) (kt : ∀ a, r = some a → ab_T l E y d kc ks tgt L S h Q) (kf : r = none → ab_T l E y d kc ks (pc + 3) L S h Q) : ab_T l E y d kc ks pc L (vO r :: S) h Q := by
  intro p e R s m args below meth c H locs cells slots mc ms ls st X hR hP hl hL hS
  obtain ⟨w, _, rfl, hw, hS⟩ := hS
  cases r with
  | none =>
    cases (show w = .null from hw)
    exact lv_ifnonnullN X.1 X.2.1 hd (kf rfl p e R s m args below meth c H locs cells slots mc ms ls _ X hR hP hl hL hS)
  | some a =>
    cases (show w = .ref a from hw)
    exact lv_ifnonnull X.1 X.2.1 hd ht (kt a rfl p e R s m args below meth c H locs cells slots mc ms ls _ X hR hP hl hL hS)
theorem ab_ifnull {r : Option Nat} {off : Int} (tgt : Nat) (hd : decode y.2.1 pc = .ok (.ifnull off, 3)) (ht : (pc : Int) + off = (tgt : Int)) (kt : r = none → ab_T l E y d kc ks tgt L S h Q) (kf : ∀ a, r = some a → ab_T l E y d kc ks (pc + 3) L S h Q) : ab_T l E y d kc ks pc L (vO r :: S) h Q := by
  intro p e R s m args below meth c H locs cells slots mc ms ls st X hR hP hl hL hS
  obtain ⟨w, _, rfl, hw, hS⟩ := hS
  cases r with
  | none =>
    cases (show w = .null from hw)
    exact lv_ifnullN X.1 X.2.1 hd ht (kt rfl p e R s m args below meth c H locs cells slots mc ms ls _ X hR hP hl hL hS)
  | some a =>
    cases (show w = .ref a from hw)
    exact lv_ifnull X.1 X.2.1 hd (kf a rfl p e R s m args below meth c H locs cells slots mc ms ls _ X hR hP hl hL hS)
theorem ab_tableOut {a : Int} {dflt lo hi : Int} {offs : Array Int} {len : Nat} (tgt : Nat) (hd : decode y.2.1 pc = .ok (.tableswitch dflt lo hi offs, len)) (hh : a < lo ∨ hi < a) (ht : (pc : Int) + dflt = (tgt : Int)) (k : ab_T l E y d kc ks tgt L S h Q) : ab_T l E y d kc ks pc L (vI a :: S) h Q := by
  intro p e R s m args below meth c H locs cells slots mc ms ls st X hR hP hl hL hS
  obtain ⟨_, _, rfl, ⟨u, rfl, hu⟩, hS⟩ := hS
  exact lv_tableOut X.1 X.2.1 hd (by rw [hu]; exact hh) ht (k p e R s m args below meth c H locs cells slots mc ms ls _ X hR hP hl hL hS)
theorem ab_tableIn {a : Int} {dflt lo hi : Int} {offs : Array Int} {len : Nat} {off : Int} (tgt : Nat) (hd : decode y.2.1 pc = .ok (.tableswitch dflt lo hi offs, len)) (h1 : lo ≤ a) (h2 : a ≤ hi) (ho : offs[(a - lo).toNat]? = some off) (ht : (pc : Int) + off = (tgt : Int)) (k : ab_T l E y d kc ks tgt L S h Q) : ab_T l E y d kc ks pc L (vI a :: S) h Q := by
  intro p e R s m args below meth c H locs cells slots mc ms ls st X hR hP hl hL hS
  obtain ⟨_, _, rfl, ⟨u, rfl, hu⟩, hS⟩ := hS
  exact lv_tableIn X.1 X.2.1 hd (by rw [hu]; omega) (by rw [hu]; omega) (by rw [hu]; exact ho) ht (k p e R s m args below meth c H locs cells slots mc ms ls _ X hR hP hl hL hS)
end ABB
