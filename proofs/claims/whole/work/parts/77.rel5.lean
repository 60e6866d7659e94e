/-! a search has gone on -/
section REL6
variable {h h' : AbH} {x : Nat} {B : Nat → Nat} {s : Nat → Int} {F : Nat → Int → Int} {C : Nat → Int → Int} {SA : Nat → Int → Option Nat} {la la' : Option Nat} {q : Nat → Int}
def qF (a b c d e f g h i : Int) : Nat → Int := fun j => match j with
  | 2 => a
  | 3 => b
  | 4 => c
  | 5 => d
  | 7 => e
  | 8 => f
  | 9 => g
  | 10 => h
  | 11 => i
  | _ => 0
theorem RCx.srch {lk co fo lg sz nx bg e al n : Int} {f2 : Int → Int} (r : RCx h x B s F C SA la q) (k : ab_kp (cP [8, 9, 200]) h h') (a1 : h' (B 6) = some (kO 8 3 [vR (B 9), vO la', vI e, vI al, vI n, vI co, vI lk, vI fo, vI lg, vI sz, vI nx, vI bg])) (a2 : h' (B 9) = some (kI 9 60 f2)) (a5 : lawsR h' 12 (SA 2) (s 7) 208 F) : RCx h' x B (ab_u s 23 lk) F (ab_u C 9 f2) SA la' (qF e al n co fo lg sz nx bg) :=
  r.mix k (by simp) (fun j _ hj => ab_u_ne hj) (by rw [ab_u_eq]; exact a1) (by rw [ab_u_eq]; exact a2) (by rw [ab_u_ne (by decide)]; exact k _ _ r.lt (by unfold cP; simp)) (by rw [ab_u_ne (by decide)]; exact k _ _ r.gr (by unfold cP; simp)) a5
end REL6
