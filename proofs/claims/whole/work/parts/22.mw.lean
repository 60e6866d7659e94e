/-! the reference under way: from (h0, s0, F0) to (h, s, F); only the numbers ks and the rows kF may have changed -/
section MW
def mK {α : Type} (ks : List Nat) (a b : Nat → α) : Prop := ∀ k, k ∉ ks → b k = a k
theorem mK.trans {α : Type} {ks js : List Nat} {a b c : Nat → α} (h1 : mK ks a b) (h2 : mK js b c) (hs : ∀ k ∈ js, k ∈ ks) : mK ks a c := fun k hk => (h2 k (fun e => hk (hs k e))).trans (h1 k hk)
theorem mK.u {α : Type} {ks : List Nat} {a b : Nat → α} (h1 : mK ks a b) {k : Nat} {x : α} (hk : k ∈ ks) : mK ks a (ab_u b k x) := fun j hj => by
  rw [ab_u_ne (fun e => hj (by rw [e]; exact hk))]
  exact h1 j hj
def mW (h0 : AbH) (m : Nat) (A : Nat → Nat) (s0 : Nat → Int) (F0 : Nat → Int → Int) (ks kF : List Nat) (h : AbH) (s : Nat → Int) (F : Nat → Int → Int) : Prop := mR h m A s F ∧ ab_kp mX h0 h ∧ mK ks s0 s ∧ mK kF F0 F
variable {h0 h h1 : AbH} {m : Nat} {A : Nat → Nat} {s0 s : Nat → Int} {F0 F : Nat → Int → Int} {ks kF : List Nat}
theorem mW.start (hM : mR h m A s F) : mW h m A s F ks kF h s F := ⟨hM, ab_kp0, fun _ _ => rfl, fun _ _ => rfl⟩
theorem mW.obj (hW : mW h0 m A s0 F0 ks kF h s F) : h m = some (kO 20 9 (mO A s)) := hW.1.1
theorem mW.arr (hW : mW h0 m A s0 F0 ks kF h s F) (k : Nat) (hk : mIs k = true) {f : Int → Int} (e : F k = f) : h (A k) = some (kI (30 + k) (mLen k) f) := by
  rw [← e]
  exact hW.1.2.1 k hk
theorem mW.arrZ (hW : mW h0 m A s0 F0 ks kF h s F) {f : Int → Int} (e : F 35 = f) : h (A 35) = some (kZ 65 8 f) := by
  rw [← e]
  exact hW.1.2.2.1
theorem mW.arrJ (hW : mW h0 m A s0 F0 ks kF h s F) {f : Int → Int} (e : F 41 = f) : h (A 41) = some (kJ 71 320 f) := by
  rw [← e]
  exact hW.1.2.2.2
theorem mW.sv (hW : mW h0 m A s0 F0 ks kF h s F) (k : Nat) (hk : k ∉ ks) : s k = s0 k := hW.2.2.1 k hk
theorem mW.Fv (hW : mW h0 m A s0 F0 ks kF h s F) (k : Nat) (hk : k ∉ kF) : F k = F0 k := hW.2.2.2 k hk
theorem mg {k : Nat} {x : Int} (h : (mO A s)[k]? = some (vI (s k))) (e : s k = x) : (mO A s)[k]? = some (vI x) := by rw [h, e]
theorem mW.put (hW : mW h0 m A s0 F0 ks kF h s F) {k : Nat} {x : Int} (e9 : h1 m = some (kO 20 9 ((mO A s).set k (vI x)))) (n9 : ∀ q, q ≠ m → h1 q = h q) (hk : (mO A s).set k (vI x) = mO A (ab_u s k x)) (hin : k ∈ ks) : mW h0 m A s0 F0 ks kF h1 (ab_u s k x) F := ⟨hW.1.put e9 n9 hk, hW.2.1.wr hW.1.1 (mX_no (by simp) (by simp)) n9, hW.2.2.1.u hin, hW.2.2.2⟩
theorem mW.wr (hW : mW h0 m A s0 F0 ks kF h s F) {k : Nat} {f : Int → Int} (hk : mIs k = true) (e9 : h1 (A k) = some (kI (30 + k) (mLen k) f)) (n9 : ∀ q, q ≠ A k → h1 q = h q) (hin : k ∈ kF) : mW h0 m A s0 F0 ks kF h1 s (ab_u F k f) := ⟨hW.1.wr hk e9 n9, hW.2.1.wr (hW.1.2.1 k hk) (mX_no (by simp; omega) (by have := mIs_lt hk; simp; omega)) n9, hW.2.2.1, hW.2.2.2.u hin⟩
theorem mW.wrZ (hW : mW h0 m A s0 F0 ks kF h s F) {f : Int → Int} (e9 : h1 (A 35) = some (kZ 65 8 f)) (n9 : ∀ q, q ≠ A 35 → h1 q = h q) (hin : 35 ∈ kF) : mW h0 m A s0 F0 ks kF h1 s (ab_u F 35 f) := ⟨hW.1.wrZ e9 n9, hW.2.1.wr hW.1.2.2.1 (mX_no (by simp) (by simp)) n9, hW.2.2.1, hW.2.2.2.u hin⟩
theorem mW.wrJ (hW : mW h0 m A s0 F0 ks kF h s F) {f : Int → Int} (e9 : h1 (A 41) = some (kJ 71 320 f)) (n9 : ∀ q, q ≠ A 41 → h1 q = h q) (hin : 41 ∈ kF) : mW h0 m A s0 F0 ks kF h1 s (ab_u F 41 f) := ⟨hW.1.wrJ e9 n9, hW.2.1.wr hW.1.2.2.2 (mX_no (by simp) (by simp)) n9, hW.2.2.1, hW.2.2.2.u hin⟩
theorem mW.call {ks2 kF2 : List Nat} {h' : AbH} {s' : Nat → Int} {F' : Nat → Int → Int} (a : mW h0 m A s0 F0 ks kF h s F) (b : mW h m A s F ks2 kF2 h' s' F') (e1 : ∀ k ∈ ks2, k ∈ ks) (e2 : ∀ k ∈ kF2, k ∈ kF) : mW h0 m A s0 F0 ks kF h' s' F' := ⟨b.1, a.2.1.trans b.2.1, a.2.2.1.trans b.2.2.1 e1, a.2.2.2.trans b.2.2.2 e2⟩
def mC (h0 : AbH) (m : Nat) (A : Nat → Nat) (s0 : Nat → Int) (F0 : Nat → Int → Int) (ks kF : List Nat) (P : Option AbV → (Nat → Int) → (Nat → Int → Int) → Prop) : AbO → AbH → Prop := fun o h' => ∃ (r : Option AbV) (s' : Nat → Int) (F' : Nat → Int → Int), o = .inl r ∧ mW h0 m A s0 F0 ks kF h' s' F' ∧ P r s' F'
theorem mC_no {P : Option AbV → (Nat → Int) → (Nat → Int → Int) → Prop} {X : String} {h' : AbH} : ¬ mC h0 m A s0 F0 ks kF P (.inr X) h' := fun ⟨_, _, _, e, _⟩ => by cases e
/-- a join: the walk to pc2 with one more number on the stack, and what is behind it -/
theorem ab_via {l : Launch} {E : AbE} {y : AbY} {d kc ks pc : Nat} {L : List (Option AbV)} {S S0 : List AbV} {Q : AbO → AbH → Prop} (pc2 : Nat) (P : Int → Prop) (J : ∀ v, P v → ab_T l E y d kc ks pc2 L (vI v :: S) h Q) (K : (∀ v, P v → ab_T l E y d kc ks pc2 L (vI v :: S) h Q) → ab_T l E y d kc ks pc L S0 h Q) : ab_T l E y d kc ks pc L S0 h Q := K J
/-- a join with nothing new on the stack -/
theorem ab_jn {l : Launch} {E : AbE} {y : AbY} {d kc ks pc : Nat} {L : List (Option AbV)} {S S0 : List AbV} {Q : AbO → AbH → Prop} (pc2 : Nat) (P : Prop) (J : P → ab_T l E y d kc ks pc2 L S h Q) (K : (P → ab_T l E y d kc ks pc2 L S h Q) → ab_T l E y d kc ks pc L S0 h Q) : ab_T l E y d kc ks pc L S0 h Q := K J
/-- a method that changes nothing and answers a number -/
def pC (h0 : AbH) (P : Int → Prop) : AbO → AbH → Prop := fun o h' => ∃ v : Int, o = .inl (some (vI v)) ∧ h' = h0 ∧ P v
theorem pC_no {P : Int → Prop} {X : String} {h' : AbH} : ¬ pC h0 P (.inr X) h' := fun ⟨_, e, _⟩ => by cases e
/-- a row with n numbers from b on told anew -/
def fil (g : Int → Int) (b n : Int) (c : Int → Int) : Int → Int := fun j => if b ≤ j ∧ j < b + n then c (j - b) else g j
theorem fil0 {g : Int → Int} {b : Int} {c : Int → Int} : g = fil g b 0 c := funext fun j => (if_neg (by omega)).symm
theorem fil_step {g : Int → Int} {b i x : Int} {c : Int → Int} (hi : 0 ≤ i) (hx : x = c i) : ab_f (fil g b i c) (b + i) x = fil g b (i + 1) c := funext fun j => by
  unfold ab_f fil
  by_cases e : j = b + i
  · subst e
    rw [if_pos rfl, if_pos (by omega), hx]
    congr 1
    omega
  · rw [if_neg e]
    by_cases e2 : b ≤ j ∧ j < b + i
    · rw [if_pos e2, if_pos (by omega)]
    · rw [if_neg e2, if_neg (by omega)]
theorem fil_in {g : Int → Int} {b n j : Int} {c : Int → Int} (h1 : b ≤ j) (h2 : j < b + n) : fil g b n c j = c (j - b) := if_pos ⟨h1, h2⟩
theorem fil_at {g : Int → Int} {b n j : Int} {c : Int → Int} (h1 : 0 ≤ j) (h2 : j < n) : fil g b n c (b + j) = c j := by
  rw [fil_in (by omega) (by omega)]
  congr 1
  omega
theorem fil_out {g : Int → Int} {b n j : Int} {c : Int → Int} (h1 : ¬ (b ≤ j ∧ j < b + n)) : fil g b n c j = g j := if_neg h1
theorem upto_P {f : Int → Int} {i x : Int} {R : Int → Int → Prop} (I : ∀ j : Int, 0 ≤ j → j < i → R j (f j)) (hx : R i x) : ∀ j : Int, 0 ≤ j → j < i + 1 → R j (ab_f f i x j) := by
  intro j j0 j1
  by_cases e : j = i
  · rw [ab_f_eq e, e]
    exact hx
  · rw [ab_f_ne e]
    exact I j j0 (by omega)
theorem upto_E {f g : Int → Int} {i x : Int} (I : ∀ j : Int, 0 ≤ j → j < i → f j = g j) (hx : x = g i) : ∀ j : Int, 0 ≤ j → j < i + 1 → ab_f f i x j = g j := upto_P (R := fun j z => z = g j) I hx
/-- a join with one local told anew -/
theorem ab_jl {l : Launch} {E : AbE} {y : AbY} {d kc ks pc : Nat} {L : List (Option AbV)} {S S0 : List AbV} {Q : AbO → AbH → Prop} (pc2 k : Nat) (P : Int → Prop) (J : ∀ v, P v → ab_T l E y d kc ks pc2 (L.set k (some (vI v))) S h Q) (K : (∀ v, P v → ab_T l E y d kc ks pc2 (L.set k (some (vI v))) S h Q) → ab_T l E y d kc ks pc L S0 h Q) : ab_T l E y d kc ks pc L S0 h Q := K J
end MW
