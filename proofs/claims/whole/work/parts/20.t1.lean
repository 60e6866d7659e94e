/-! WordBench.areBelow -/
section
variable {l : Launch} {E : AbE} {d : Nat} {h : AbH}
def q_areBelow (h : AbH) (N : Nat) (f : Int → Int) (n b : Int) : AbO → AbH → Prop := fun o h' => h' = h ∧ ∃ r : Int, o = .inl (some (vI r)) ∧ ((r = 1 ∧ ∀ j : Int, 0 ≤ j → j < n → j < N → f j < b) ∨ (r = 0 ∧ ∃ j : Int, 0 ≤ j ∧ j < n ∧ j < N ∧ b ≤ f j))
theorem t_areBelow_2 {g w N : Nat} {f : Int → Int} {n b : Int} {kc ks : Nat} (hw : h w = some (kI g N f)) (hN : N < 100000) (k : Nat) : ∀ i : Int, 0 ≤ i → (N - i).toNat < k → (∀ j : Int, 0 ≤ j → j < i → f j < b) → ab_T l E Y_X9_areBelow d kc ks 2 [some (vR w), some (vI n), some (vI b), some (vI i)] [] h (q_areBelow h N f n b) := by
  induction k with
  | zero => intro i _ hk; exact absurd hk (Nat.not_lt_zero _)
  | succ k ih =>
    intro i h0 hk hi
    refine ab_iload_n (pc := 2) dX9_areBelow_2 rfl ?_
    refine ab_iload_n (pc := 3) dX9_areBelow_3 rfl ?_
    refine ab_icmp_ge (pc := 4) 28 dX9_areBelow_4 (by decide) (fun c4 => ?_) (fun c4 => ?_)
    · refine ab_iconst (pc := 28) dX9_areBelow_28 (by decide) ?_
      refine ab_zret (pc := 29) dX9_areBelow_29 rfl (by omega) ?_
      exact ⟨rfl, 1, rfl, Or.inl ⟨rfl, fun j h1 h2 h3 => hi j h1 (by omega)⟩⟩
    · refine ab_iload_n (pc := 7) dX9_areBelow_7 rfl ?_
      refine ab_aload_n (pc := 8) dX9_areBelow_8 rfl ?_
      refine ab_alen (pc := 9) hw dX9_areBelow_9 ?_
      refine ab_icmp_ge (pc := 10) 28 dX9_areBelow_10 (by decide) (fun c10 => ?_) (fun c10 => ?_)
      · refine ab_iconst (pc := 28) dX9_areBelow_28 (by decide) ?_
        refine ab_zret (pc := 29) dX9_areBelow_29 rfl (by omega) ?_
        exact ⟨rfl, 1, rfl, Or.inl ⟨rfl, fun j h1 h2 h3 => hi j h1 (by omega)⟩⟩
      · refine ab_aload_n (pc := 13) dX9_areBelow_13 rfl ?_
        refine ab_iload_n (pc := 14) dX9_areBelow_14 rfl ?_
        refine ab_iald (pc := 15) hw (by omega) (by omega) dX9_areBelow_15 ?_
        refine ab_iload_n (pc := 16) dX9_areBelow_16 rfl ?_
        refine ab_icmp_lt (pc := 17) 22 dX9_areBelow_17 (by decide) (fun c17 => ?_) (fun c17 => ?_)
        · refine ab_iinc (pc := 22) dX9_areBelow_22 rfl rfl (by decide) (by omega) (by omega) ?_
          refine ab_goto (pc := 25) 2 dX9_areBelow_25 (by decide) ?_
          exact ih (i + 1) (by omega) (by omega) (fun j h1 h2 => by rcases Int.lt_or_le j i with g | g; exact hi j h1 g; rw [show j = i by omega]; exact (by omega))
        · refine ab_iconst (pc := 20) dX9_areBelow_20 (by decide) ?_
          refine ab_zret (pc := 21) dX9_areBelow_21 rfl (by omega) ?_
          exact ⟨rfl, 0, rfl, Or.inr ⟨rfl, i, h0, by omega, by omega, by omega⟩⟩
theorem c_areBelow (hG : ab_G l E) {g w N : Nat} {f : Int → Int} {n b : Int} (hw : h w = some (kI g N f)) (hN : N < 100000) : ab_M l E Y_X9_areBelow 4 d 0 0 [vR w, vI n, vI b] h (q_areBelow h N f n b) := by
  refine ab_M.of hG rfl rfl (Nat.le_of_ble_eq_true rfl) rfl ?_
  refine ab_iconst (pc := 0) dX9_areBelow_0 (by decide) ?_
  refine ab_istore_n (pc := 1) dX9_areBelow_1 rfl (Nat.le_of_ble_eq_true rfl) ?_
  exact t_areBelow_2 hw hN _ 0 (by omega) (Nat.lt_succ_self _) (fun j h1 h2 => absurd h1 (by omega))
end
