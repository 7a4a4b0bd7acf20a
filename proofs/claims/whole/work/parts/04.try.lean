section TRY
variable {ro : Nat → Int × (Int → Int)}
-- Model.in
theorem try_in_0 {cal : Nat → List am_V → am_H → (Option am_V → am_H → Prop) → Prop} {Q : Option am_V → am_H → Prop} {v lo hi : Int} {h : am_H} (H : (am_cmp .lt v lo → am_ex cal ro am_M155 Q (14, [some (am_I v), some (am_I lo), some (am_I hi)], [], h, 0, 0)) ∧ (¬ am_cmp .lt v lo → am_ex cal ro am_M155 Q (5, [some (am_I v), some (am_I lo), some (am_I hi)], [], h, 0, 0))) : am_ex cal ro am_M155 Q (0, [some (am_I v), some (am_I lo), some (am_I hi)], [], h, 0, 0) := am_go 3 H
end TRY
