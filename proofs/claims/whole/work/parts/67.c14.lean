/-! the class: rows -/
section C14
variable {l : Launch} {E : AbE} {h0 : AbH}
def rwQ (h0 : AbH) (B : Nat → Nat) (s : Nat → Int) (F : Nat → Int → Int) (i k : Int) : AbO → AbH → Prop := fun o h' => (o = .inr "java/lang/IndexOutOfBoundsException" ∧ ¬ isRow s i k ∧ h' = h0) ∨ (isRow s i k ∧ ∃ (v : Int) (f : Int → Int), o = .inl (some (vI v)) ∧ ab_kp (cP [10]) h0 h' ∧ h' (B 7) = some (kI 10 60 f) ∧ isRd F i k v ∧ ∀ j : Int, 0 ≤ j → j < v → f j = rdL F i k j)
theorem c_readWord (hG : ab_G l E) {x : Nat} {B : Nat → Nat} {s : Nat → Int} {F C : Nat → Int → Int} {SA : Nat → Int → Option Nat} {la : Option Nat} {q : Nat → Int} {i k : Int} (rc : RCx h0 x B s F C SA la q) (b3 : ∀ j, 0 ≤ j → j < 160 → -1 ≤ F 3 j ∧ F 3 j ≤ 80) (s16 : s 1 ≤ 16) : ab_M l E Y_X9_readWord 3 8 2 12 [vR x, vI i, vI k] h0 (rwQ h0 B s F i k) := by
  refine ab_M.of (L0 := [some (vR x), some (vI i), some (vI k)]) hG rfl rfl (Nat.le_of_ble_eq_true rfl) rfl ?_
  have kp : ab_kp (cP [10]) h0 h0 := ab_kp0
  refine ab_aload_n (pc := 0) dX9_readWord_0 rfl ?_
  refine ab_iload_n (pc := 1) dX9_readWord_1 rfl ?_
  refine ab_iload_n (pc := 2) dX9_readWord_2 rfl ?_
  refine ab_callV (pc := 3) (c_sheetRow hG rc.o rc.ss) rc.o rfl ⟨w265, w1, w268, by decide, pd9⟩ w267 sp1 rfl (by omega) (by decide) (Nat.le_of_ble_eq_true rfl) rfl dX9_readWord_3 (fun X9 h9 hx9 => by obtain ⟨rfl, ⟨_, r9, _⟩ | ⟨r9, n9⟩⟩ := hx9; cases r9; cases r9; exact Or.inl ⟨rfl, fun kk => n9 ⟨kk.1, by have := kk.2.1; have := s16; omega, fun e => by have := rc.sh.nn kk.1 (by have := kk.2.1; have := s16; omega) e; have := kk.2.1; omega, kk.2.2.1, kk.2.2.2⟩, rfl⟩) ?_
  rintro r9 h9 ⟨rfl, hr9⟩
  rcases hr9 with ⟨v9, r9, a9, e9, rfl, i0, i1, k0, k1⟩ | ⟨r9, _⟩
  rotate_left
  · cases r9
  cases r9
  obtain ⟨b9, c9, g9, z9, hc9⟩ := rc.sh.yes i0 i1 e9
  have iG := rc.sh.no i0 i1 e9
  have ez : z9 k = F 3 (10 * i + k) := by have := hc9.2.2.2.1 k k0 k1; rw [show ((i.toNat : Nat) : Int) = i by omega] at this; exact this
  refine ab_iload_n (pc := 6) dX9_readWord_6 rfl ?_
  refine ab_aload_n (pc := 7) dX9_readWord_7 rfl ?_
  refine ab_get (pc := 8) (k := 7) okX9 rc.o rfl w119 rfl dX9_readWord_8 ?_
  refine ab_callV (pc := 11) (c_readInto hG hc9.1 hc9.2.1 hc9.2.2.1 rc.lt (i9 := i.toNat) (by omega) k0 k1 (by have := b3 (10 * i + k) (by omega) (by omega); rw [ez]; omega) (by have := b3 (10 * i + k) (by omega) (by omega); rw [ez]; omega)) hc9.1 rfl ⟨w605, w11, w608, by decide, pd46⟩ w606 w607 rfl (by omega) (by decide) (Nat.le_of_ble_eq_true rfl) rfl dX9_readWord_11 (fun _ _ hx => absurd hx cC_no) ?_
  rintro _ h ⟨_, e9, kq, v, rfl, rd, f9, hl9, rl⟩
  cases e9
  replace kp := kp.cal kq (by first | (simp; done) | (simp; omega))
  refine ab_iret (pc := 14) dX9_readWord_14 rfl ?_
  have gz : ∀ j : Int, 0 ≤ j → j < F 3 (10 * i + k) → g9 (80 * k + j) = rdL F i k j := fun j j0 j1 => by have := hc9.2.2.2.2 k k0 k1 j j0 (by rw [show ((i.toNat : Nat) : Int) = i by omega]; exact j1); rw [show ((i.toNat : Nat) : Int) = i by omega] at this; exact this
  rw [ez] at rd
  have rd2 := rd.congr gz
  exact Or.inr ⟨⟨i0, iG, k0, k1⟩, v, f9, rfl, kp, hl9, rd2, fun j j0 j1 => by rw [rl j j0 j1]; exact gz j j0 (by have := (rd2.len).2.2 (by omega); omega)⟩
end C14
