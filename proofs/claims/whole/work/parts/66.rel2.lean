/-! the class's public methods: what they leave behind -/
section REL2
/-- what always holds of the numbers and rows -/
def IV (s : Nat → Int) (F : Nat → Int → Int) : Prop := 0 ≤ s 1 ∧ s 1 ≤ 16 ∧ 0 ≤ s 7 ∧ s 7 ≤ 12 ∧ 0 ≤ s 23 ∧ s 23 ≤ 20000 ∧ (∀ j, 0 ≤ j → j < 160 → -1 ≤ F 3 j ∧ F 3 j ≤ 80) ∧ (∀ q : Int, 0 ≤ q → q < s 7 → lawB F q) ∧ ∀ b : Int, mkOk F b → mapB F b
def cW (h0 : AbH) (L : List Nat) (x : Nat) (B : Nat → Nat) (P : AbO → (Nat → Int) → (Nat → Int → Int) → Prop) : AbO → AbH → Prop := fun o h' => ab_kp (cP L) h0 h' ∧ ∃ (s' : Nat → Int) (F' C' : Nat → Int → Int) (SA' : Nat → Int → Option Nat) (la' : Option Nat) (q' : Nat → Int), RCx h' x B s' F' C' SA' la' q' ∧ P o s' F'
theorem rdW.congr {z r : Int} {g g' : Int → Int} (h : rdW z g r) (e : ∀ j : Int, 0 ≤ j → j < z → g j = g' j) : rdW z g' r := by
  rcases h with ⟨a, b⟩ | ⟨a, b, c, d⟩
  · refine Or.inl ⟨a, ?_⟩
    rcases b with b | ⟨j, j0, j1, j2⟩
    · exact Or.inl b
    · exact Or.inr ⟨j, j0, j1, by rw [← e j j0 j1]; exact j2⟩
  · exact Or.inr ⟨a, b, c, fun j j0 j1 => by rw [← e j j0 (by omega)]; exact d j j0 j1⟩
theorem rdW.len {z r : Int} {g : Int → Int} (h : rdW z g r) : -1 ≤ r ∧ r ≤ 60 ∧ (0 ≤ r → (r = z ∨ (r = 0 ∧ z = -1)) ∧ ∀ j : Int, 0 ≤ j → j < r → 0 ≤ g j ∧ g j ≤ 7) := by
  rcases h with ⟨a, b⟩ | ⟨a, b, c, d⟩
  · exact ⟨by omega, by omega, fun h => by omega⟩
  · exact ⟨by omega, b, fun _ => ⟨c, d⟩⟩
theorem rdW.uniq {z r r' : Int} {g : Int → Int} (h : rdW z g r) (h' : rdW z g r') : r = r' := by
  rcases h with ⟨a, b⟩ | ⟨a, b, c, d⟩
  · rcases h' with ⟨a', _⟩ | ⟨a', b', c', d'⟩
    · omega
    · rcases b with b | ⟨j, j0, j1, j2⟩
      · omega
      · exact absurd (d' j j0 (by omega)) j2
  · rcases h' with ⟨a', b'⟩ | ⟨a', b', c', d'⟩
    · rcases b' with b' | ⟨j, j0, j1, j2⟩
      · omega
      · exact absurd (d j j0 (by omega)) j2
    · omega
end REL2
