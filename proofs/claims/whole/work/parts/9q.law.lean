section LAW

variable {ro : Nat → Int × (Int → Int)} {d : Nat} {Q : Option am_V → am_H → Prop} {b : Bool} {I L : Nat → Int → Int} {S : List am_K} {i x : Int} {bc bs : Nat}
set_option maxRecDepth 20000 in
theorem am_sw_of {P : Nat → Prop} {x : Int} {e : Nat} (h0 : P e) : ∀ sw : List (Int × Nat), (∀ q ∈ sw, P q.2) → am_sw P x e sw
  | [], _ => h0
  | (_, _) :: r, h => ⟨fun _ => h _ List.mem_cons_self, fun _ => am_sw_of h0 r (fun q hq => h q (List.mem_cons_of_mem _ hq))⟩
set_option maxRecDepth 20000 in
theorem lx_b18 (h1 : am_r ((ro 0).1 - 5)) (kt : (ro 0).1 - 5 < i → am_ex (am_m ro (d + 47)) ro am_M258 Q (1658, [some (am_O 0), some (am_R 0), some (am_R 66), some (am_I i)], [], (sh b, I, L), bc, bs)) (kf : ¬ (ro 0).1 - 5 < i → am_ex (am_m ro (d + 47)) ro am_M258 Q (26, [some (am_O 0), some (am_R 0), some (am_R 66), some (am_I i)], [], (sh b, I, L), bc, bs)) : am_ex (am_m ro (d + 47)) ro am_M258 Q (18, [some (am_O 0), some (am_R 0), some (am_R 66), some (am_I i)], [], (sh b, I, L), bc, bs) := am_go 6 (And.intro h1 (And.intro kt kf))
set_option maxRecDepth 20000 in
theorem lx_b26 (h1 : 0 ≤ i ∧ i < (ro 0).1) (k : am_sw (fun t => am_ex (am_m ro (d + 47)) ro am_M258 Q (t, [some (am_O 0), some (am_R 0), some (am_R 66), some (am_I i)], [], (sh b, I, L), bc, bs)) (am_and ((ro 0).2 i) 63) 1652 [(0, 224), (1, 257), (2, 280), (3, 313), (4, 356), (5, 409), (6, 452), (7, 485), (8, 519), (9, 562), (10, 605), (11, 638), (12, 681), (13, 724), (14, 757), (15, 790), (16, 823), (17, 866), (18, 909), (19, 942), (20, 955), (21, 988), (22, 1031), (23, 1074), (24, 1097), (25, 1110), (26, 1153), (27, 1187), (28, 1221), (29, 1265), (30, 1309), (31, 1332), (32, 1345), (33, 1378), (34, 1401), (35, 1445), (36, 1468), (37, 1481), (38, 1494), (39, 1517), (40, 1550), (41, 1563), (42, 1586), (43, 1629)]) : am_ex (am_m ro (d + 47)) ro am_M258 Q (26, [some (am_O 0), some (am_R 0), some (am_R 66), some (am_I i)], [], (sh b, I, L), bc, bs) := am_go 6 (And.intro h1 k)
set_option maxRecDepth 20000 in
theorem lx_b1658 (k : Q (some (am_I 1)) (sh b, I, L)) : am_ex (am_m ro (d + 47)) ro am_M258 Q (1658, [some (am_O 0), some (am_R 0), some (am_R 66), some (am_I i)], [], (sh b, I, L), bc, bs) := am_go 2 (And.intro (Or.inr rfl) k)
set_option maxRecDepth 20000 in
theorem lx_b1652 (h1 : am_r (i + 5)) (k : am_ex (am_m ro (d + 47)) ro am_M258 Q (18, [some (am_O 0), some (am_R 0), some (am_R 66), some (am_I (i + 5))], [], (sh b, I, L), bc, bs)) : am_ex (am_m ro (d + 47)) ro am_M258 Q (1652, [some (am_O 0), some (am_R 0), some (am_R 66), some (am_I i)], [], (sh b, I, L), bc, bs) := am_go 2 (And.intro h1 k)
set_option maxRecDepth 20000 in
theorem lx_p0 (o1 : am_r (i + 1)) (p1 : 0 ≤ i + 1 ∧ i + 1 < (ro 0).1) (o2 : am_r (i + 2)) (p2 : 0 ≤ i + 2 ∧ i + 2 < (ro 0).1) (k : am_m ro (d + 47) 1 [am_R 0, am_I ((ro 0).2 (i + 1)), am_I ((ro 0).2 (i + 2))] (sh b, I, L) (fun r h => am_ex (am_m ro (d + 47)) ro am_M258 Q (238, [some (am_O 0), some (am_R 0), some (am_R 66), some (am_I i)], am_push r [], h, bc, bs))) : am_ex (am_m ro (d + 47)) ro am_M258 Q (224, [some (am_O 0), some (am_R 0), some (am_R 66), some (am_I i)], [], (sh b, I, L), bc, bs) := am_go 12 (And.intro o1 (And.intro p1 (And.intro o2 (And.intro p2 k))))
set_option maxRecDepth 20000 in
theorem lx_m0 (o1 : am_r (i + 1)) (p1 : 0 ≤ i + 1 ∧ i + 1 < (ro 0).1) (o2 : am_r (i + 2)) (p2 : 0 ≤ i + 2 ∧ i + 2 < (ro 0).1) (k : am_ex (am_m ro (d + 47)) ro am_M258 Q (249, [some (am_O 0), some (am_R 0), some (am_R 66), some (am_I i)], [am_I ((ro 0).2 (i + 2)), am_I ((ro 0).2 (i + 1)), am_R 66, am_I x], (S, I, L), bc, bs)) : am_ex (am_m ro (d + 47)) ro am_M258 Q (238, [some (am_O 0), some (am_R 0), some (am_R 66), some (am_I i)], [am_I x], (S, I, L), bc, bs) := am_go 11 (And.intro o1 (And.intro p1 (And.intro o2 (And.intro p2 k))))
set_option maxRecDepth 20000 in
theorem lx_e0 (k : am_ex (am_m ro (d + 47)) ro am_M258 Q (1652, [some (am_O 0), some (am_R 0), some (am_R 66), some (am_I i)], [], (sh b, I, L), bc, bs)) : am_ex (am_m ro (d + 47)) ro am_M258 Q (252, [some (am_O 0), some (am_R 0), some (am_R 66), some (am_I i)], [am_I x, am_I x], (sh b, I, L), bc, bs) := am_go 1 (And.intro (fun _ => k) (fun c => (c rfl).elim))
set_option maxRecDepth 20000 in
theorem lx_c0 (hro : RoK ro) (hw : RoW ro) (h0 : ∀ j, am_r ((ro 0).2 j)) (hi : 0 ≤ i) (hN : i + 5 ≤ (ro 0).1) (hM : (ro 0).1 ≤ 2560) (hb : 44 ≤ bc ∧ 5827 ≤ bs) (hI : Inv b I L) (K : ∀ (b : Bool) (I L : Nat → Int → Int) (c2 s2 : Nat), Inv b I L → bc ≤ c2 + 44 → bs ≤ s2 + 5827 → am_ex (am_m ro (d + 47)) ro am_M258 Q (1652, [some (am_O 0), some (am_R 0), some (am_R 66), some (am_I i)], [], (sh b, I, L), c2, s2)) : am_ex (am_m ro (d + 47)) ro am_M258 Q (224, [some (am_O 0), some (am_R 0), some (am_R 66), some (am_I i)], [], (sh b, I, L), bc, bs) := by
  refine lx_p0 (by omega) (by omega) (by omega) (by omega) (am_call (am_mI (d := d + 46) rfl (by decide +kernel) (A_library (d := d + 44) hI)) ?_)
  rintro r ⟨S, I1, L1⟩ ⟨q, hx, x, rfl⟩
  obtain ⟨fs, hS⟩ := hx 66 12 _ rfl
  refine lx_m0 (by omega) (by omega) (by omega) (by omega) ?_
  refine am_inv0 rfl rfl hS rfl ?_
  refine am_call q ?_
  rintro r2 h2 ⟨v, b2, I2, L2, e1, rfl, rfl, hI2⟩
  cases e1
  exact lx_e0 (K b2 I2 L2 _ _ hI2 (by omega) (by omega))
set_option maxRecDepth 20000 in
theorem lx_p1 (o1 : am_r (i + 1)) (p1 : 0 ≤ i + 1 ∧ i + 1 < (ro 0).1) (k : am_m ro (d + 47) 2 [am_R 0, am_I ((ro 0).2 (i + 1))] (sh b, I, L) (fun r h => am_ex (am_m ro (d + 47)) ro am_M258 Q (266, [some (am_O 0), some (am_R 0), some (am_R 66), some (am_I i)], am_push r [], h, bc, bs))) : am_ex (am_m ro (d + 47)) ro am_M258 Q (257, [some (am_O 0), some (am_R 0), some (am_R 66), some (am_I i)], [], (sh b, I, L), bc, bs) := am_go 7 (And.intro o1 (And.intro p1 k))
set_option maxRecDepth 20000 in
theorem lx_m1 (o1 : am_r (i + 1)) (p1 : 0 ≤ i + 1 ∧ i + 1 < (ro 0).1) (k : am_ex (am_m ro (d + 47)) ro am_M258 Q (272, [some (am_O 0), some (am_R 0), some (am_R 66), some (am_I i)], [am_I ((ro 0).2 (i + 1)), am_R 66, am_I x], (S, I, L), bc, bs)) : am_ex (am_m ro (d + 47)) ro am_M258 Q (266, [some (am_O 0), some (am_R 0), some (am_R 66), some (am_I i)], [am_I x], (S, I, L), bc, bs) := am_go 6 (And.intro o1 (And.intro p1 k))
set_option maxRecDepth 20000 in
theorem lx_e1 (k : am_ex (am_m ro (d + 47)) ro am_M258 Q (1652, [some (am_O 0), some (am_R 0), some (am_R 66), some (am_I i)], [], (sh b, I, L), bc, bs)) : am_ex (am_m ro (d + 47)) ro am_M258 Q (275, [some (am_O 0), some (am_R 0), some (am_R 66), some (am_I i)], [am_I x, am_I x], (sh b, I, L), bc, bs) := am_go 1 (And.intro (fun _ => k) (fun c => (c rfl).elim))
set_option maxRecDepth 20000 in
theorem lx_c1 (hro : RoK ro) (hw : RoW ro) (h0 : ∀ j, am_r ((ro 0).2 j)) (hi : 0 ≤ i) (hN : i + 5 ≤ (ro 0).1) (hM : (ro 0).1 ≤ 2560) (hb : 44 ≤ bc ∧ 5827 ≤ bs) (hI : Inv b I L) (K : ∀ (b : Bool) (I L : Nat → Int → Int) (c2 s2 : Nat), Inv b I L → bc ≤ c2 + 44 → bs ≤ s2 + 5827 → am_ex (am_m ro (d + 47)) ro am_M258 Q (1652, [some (am_O 0), some (am_R 0), some (am_R 66), some (am_I i)], [], (sh b, I, L), c2, s2)) : am_ex (am_m ro (d + 47)) ro am_M258 Q (257, [some (am_O 0), some (am_R 0), some (am_R 66), some (am_I i)], [], (sh b, I, L), bc, bs) := by
  refine lx_p1 (by omega) (by omega) (am_call (am_mI (d := d + 46) rfl (by decide +kernel) (A_draw (d := d + 44) hI (h0 _))) ?_)
  rintro r ⟨S, I1, L1⟩ ⟨q, hx, x, rfl⟩
  obtain ⟨fs, hS⟩ := hx 66 12 _ rfl
  refine lx_m1 (by omega) (by omega) ?_
  refine am_inv0 rfl rfl hS rfl ?_
  refine am_call q ?_
  rintro r2 h2 ⟨v, b2, I2, L2, e1, rfl, rfl, hI2⟩
  cases e1
  exact lx_e1 (K b2 I2 L2 _ _ hI2 (by omega) (by omega))
set_option maxRecDepth 20000 in
theorem lx_p2 (o1 : am_r (i + 1)) (p1 : 0 ≤ i + 1 ∧ i + 1 < (ro 0).1) (o2 : am_r (i + 2)) (p2 : 0 ≤ i + 2 ∧ i + 2 < (ro 0).1) (k : am_m ro (d + 47) 3 [am_R 0, am_I ((ro 0).2 (i + 1)), am_I ((ro 0).2 (i + 2))] (sh b, I, L) (fun r h => am_ex (am_m ro (d + 47)) ro am_M258 Q (294, [some (am_O 0), some (am_R 0), some (am_R 66), some (am_I i)], am_push r [], h, bc, bs))) : am_ex (am_m ro (d + 47)) ro am_M258 Q (280, [some (am_O 0), some (am_R 0), some (am_R 66), some (am_I i)], [], (sh b, I, L), bc, bs) := am_go 12 (And.intro o1 (And.intro p1 (And.intro o2 (And.intro p2 k))))
set_option maxRecDepth 20000 in
theorem lx_m2 (o1 : am_r (i + 1)) (p1 : 0 ≤ i + 1 ∧ i + 1 < (ro 0).1) (o2 : am_r (i + 2)) (p2 : 0 ≤ i + 2 ∧ i + 2 < (ro 0).1) (k : am_ex (am_m ro (d + 47)) ro am_M258 Q (305, [some (am_O 0), some (am_R 0), some (am_R 66), some (am_I i)], [am_I ((ro 0).2 (i + 2)), am_I ((ro 0).2 (i + 1)), am_R 66, am_I x], (S, I, L), bc, bs)) : am_ex (am_m ro (d + 47)) ro am_M258 Q (294, [some (am_O 0), some (am_R 0), some (am_R 66), some (am_I i)], [am_I x], (S, I, L), bc, bs) := am_go 11 (And.intro o1 (And.intro p1 (And.intro o2 (And.intro p2 k))))
set_option maxRecDepth 20000 in
theorem lx_e2 (k : am_ex (am_m ro (d + 47)) ro am_M258 Q (1652, [some (am_O 0), some (am_R 0), some (am_R 66), some (am_I i)], [], (sh b, I, L), bc, bs)) : am_ex (am_m ro (d + 47)) ro am_M258 Q (308, [some (am_O 0), some (am_R 0), some (am_R 66), some (am_I i)], [am_I x, am_I x], (sh b, I, L), bc, bs) := am_go 1 (And.intro (fun _ => k) (fun c => (c rfl).elim))
set_option maxRecDepth 20000 in
theorem lx_c2 (hro : RoK ro) (hw : RoW ro) (h0 : ∀ j, am_r ((ro 0).2 j)) (hi : 0 ≤ i) (hN : i + 5 ≤ (ro 0).1) (hM : (ro 0).1 ≤ 2560) (hb : 44 ≤ bc ∧ 5827 ≤ bs) (hI : Inv b I L) (K : ∀ (b : Bool) (I L : Nat → Int → Int) (c2 s2 : Nat), Inv b I L → bc ≤ c2 + 44 → bs ≤ s2 + 5827 → am_ex (am_m ro (d + 47)) ro am_M258 Q (1652, [some (am_O 0), some (am_R 0), some (am_R 66), some (am_I i)], [], (sh b, I, L), c2, s2)) : am_ex (am_m ro (d + 47)) ro am_M258 Q (280, [some (am_O 0), some (am_R 0), some (am_R 66), some (am_I i)], [], (sh b, I, L), bc, bs) := by
  refine lx_p2 (by omega) (by omega) (by omega) (by omega) (am_call (am_mI (d := d + 46) rfl (by decide +kernel) (A_all (d := d + 44) hI)) ?_)
  rintro r ⟨S, I1, L1⟩ ⟨q, hx, x, rfl⟩
  obtain ⟨fs, hS⟩ := hx 66 12 _ rfl
  refine lx_m2 (by omega) (by omega) (by omega) (by omega) ?_
  refine am_inv0 rfl rfl hS rfl ?_
  refine am_call q ?_
  rintro r2 h2 ⟨v, b2, I2, L2, e1, rfl, rfl, hI2⟩
  cases e1
  exact lx_e2 (K b2 I2 L2 _ _ hI2 (by omega) (by omega))
set_option maxRecDepth 20000 in
theorem lx_p3 (o1 : am_r (i + 1)) (p1 : 0 ≤ i + 1 ∧ i + 1 < (ro 0).1) (o2 : am_r (i + 2)) (p2 : 0 ≤ i + 2 ∧ i + 2 < (ro 0).1) (o3 : am_r (i + 3)) (p3 : 0 ≤ i + 3 ∧ i + 3 < (ro 0).1) (k : am_m ro (d + 47) 4 [am_R 0, am_I ((ro 0).2 (i + 1)), am_I ((ro 0).2 (i + 2)), am_I ((ro 0).2 (i + 3))] (sh b, I, L) (fun r h => am_ex (am_m ro (d + 47)) ro am_M258 Q (332, [some (am_O 0), some (am_R 0), some (am_R 66), some (am_I i)], am_push r [], h, bc, bs))) : am_ex (am_m ro (d + 47)) ro am_M258 Q (313, [some (am_O 0), some (am_R 0), some (am_R 66), some (am_I i)], [], (sh b, I, L), bc, bs) := am_go 17 (And.intro o1 (And.intro p1 (And.intro o2 (And.intro p2 (And.intro o3 (And.intro p3 k))))))
set_option maxRecDepth 20000 in
theorem lx_m3 (o1 : am_r (i + 1)) (p1 : 0 ≤ i + 1 ∧ i + 1 < (ro 0).1) (o2 : am_r (i + 2)) (p2 : 0 ≤ i + 2 ∧ i + 2 < (ro 0).1) (o3 : am_r (i + 3)) (p3 : 0 ≤ i + 3 ∧ i + 3 < (ro 0).1) (k : am_ex (am_m ro (d + 47)) ro am_M258 Q (348, [some (am_O 0), some (am_R 0), some (am_R 66), some (am_I i)], [am_I ((ro 0).2 (i + 3)), am_I ((ro 0).2 (i + 2)), am_I ((ro 0).2 (i + 1)), am_R 66, am_I x], (S, I, L), bc, bs)) : am_ex (am_m ro (d + 47)) ro am_M258 Q (332, [some (am_O 0), some (am_R 0), some (am_R 66), some (am_I i)], [am_I x], (S, I, L), bc, bs) := am_go 16 (And.intro o1 (And.intro p1 (And.intro o2 (And.intro p2 (And.intro o3 (And.intro p3 k))))))
set_option maxRecDepth 20000 in
theorem lx_e3 (k : am_ex (am_m ro (d + 47)) ro am_M258 Q (1652, [some (am_O 0), some (am_R 0), some (am_R 66), some (am_I i)], [], (sh b, I, L), bc, bs)) : am_ex (am_m ro (d + 47)) ro am_M258 Q (351, [some (am_O 0), some (am_R 0), some (am_R 66), some (am_I i)], [am_I x, am_I x], (sh b, I, L), bc, bs) := am_go 1 (And.intro (fun _ => k) (fun c => (c rfl).elim))
set_option maxRecDepth 20000 in
theorem lx_c3 (hro : RoK ro) (hw : RoW ro) (h0 : ∀ j, am_r ((ro 0).2 j)) (hi : 0 ≤ i) (hN : i + 5 ≤ (ro 0).1) (hM : (ro 0).1 ≤ 2560) (hb : 44 ≤ bc ∧ 5827 ≤ bs) (hI : Inv b I L) (K : ∀ (b : Bool) (I L : Nat → Int → Int) (c2 s2 : Nat), Inv b I L → bc ≤ c2 + 44 → bs ≤ s2 + 5827 → am_ex (am_m ro (d + 47)) ro am_M258 Q (1652, [some (am_O 0), some (am_R 0), some (am_R 66), some (am_I i)], [], (sh b, I, L), c2, s2)) : am_ex (am_m ro (d + 47)) ro am_M258 Q (313, [some (am_O 0), some (am_R 0), some (am_R 66), some (am_I i)], [], (sh b, I, L), bc, bs) := by
  refine lx_p3 (by omega) (by omega) (by omega) (by omega) (by omega) (by omega) (am_call (am_mI (d := d + 46) rfl (by decide +kernel) (A_lent (d := d + 42) hI)) ?_)
  rintro r ⟨S, I1, L1⟩ ⟨q, hx, x, rfl⟩
  obtain ⟨fs, hS⟩ := hx 66 12 _ rfl
  refine lx_m3 (by omega) (by omega) (by omega) (by omega) (by omega) (by omega) ?_
  refine am_inv0 rfl rfl hS rfl ?_
  refine am_call q ?_
  rintro r2 h2 ⟨v, b2, I2, L2, e1, rfl, rfl, hI2⟩
  cases e1
  exact lx_e3 (K b2 I2 L2 _ _ hI2 (by omega) (by omega))
set_option maxRecDepth 20000 in
theorem lx_p4 (o1 : am_r (i + 1)) (p1 : 0 ≤ i + 1 ∧ i + 1 < (ro 0).1) (o2 : am_r (i + 2)) (p2 : 0 ≤ i + 2 ∧ i + 2 < (ro 0).1) (o3 : am_r (i + 3)) (p3 : 0 ≤ i + 3 ∧ i + 3 < (ro 0).1) (o4 : am_r (i + 4)) (p4 : 0 ≤ i + 4 ∧ i + 4 < (ro 0).1) (k : am_m ro (d + 47) 5 [am_R 0, am_I ((ro 0).2 (i + 1)), am_I ((ro 0).2 (i + 2)), am_I ((ro 0).2 (i + 3)), am_I ((ro 0).2 (i + 4))] (sh b, I, L) (fun r h => am_ex (am_m ro (d + 47)) ro am_M258 Q (380, [some (am_O 0), some (am_R 0), some (am_R 66), some (am_I i)], am_push r [], h, bc, bs))) : am_ex (am_m ro (d + 47)) ro am_M258 Q (356, [some (am_O 0), some (am_R 0), some (am_R 66), some (am_I i)], [], (sh b, I, L), bc, bs) := am_go 22 (And.intro o1 (And.intro p1 (And.intro o2 (And.intro p2 (And.intro o3 (And.intro p3 (And.intro o4 (And.intro p4 k))))))))
set_option maxRecDepth 20000 in
theorem lx_m4 (o1 : am_r (i + 1)) (p1 : 0 ≤ i + 1 ∧ i + 1 < (ro 0).1) (o2 : am_r (i + 2)) (p2 : 0 ≤ i + 2 ∧ i + 2 < (ro 0).1) (o3 : am_r (i + 3)) (p3 : 0 ≤ i + 3 ∧ i + 3 < (ro 0).1) (o4 : am_r (i + 4)) (p4 : 0 ≤ i + 4 ∧ i + 4 < (ro 0).1) (k : am_ex (am_m ro (d + 47)) ro am_M258 Q (401, [some (am_O 0), some (am_R 0), some (am_R 66), some (am_I i)], [am_I ((ro 0).2 (i + 4)), am_I ((ro 0).2 (i + 3)), am_I ((ro 0).2 (i + 2)), am_I ((ro 0).2 (i + 1)), am_R 66, am_I x], (S, I, L), bc, bs)) : am_ex (am_m ro (d + 47)) ro am_M258 Q (380, [some (am_O 0), some (am_R 0), some (am_R 66), some (am_I i)], [am_I x], (S, I, L), bc, bs) := am_go 21 (And.intro o1 (And.intro p1 (And.intro o2 (And.intro p2 (And.intro o3 (And.intro p3 (And.intro o4 (And.intro p4 k))))))))
set_option maxRecDepth 20000 in
theorem lx_e4 (k : am_ex (am_m ro (d + 47)) ro am_M258 Q (1652, [some (am_O 0), some (am_R 0), some (am_R 66), some (am_I i)], [], (sh b, I, L), bc, bs)) : am_ex (am_m ro (d + 47)) ro am_M258 Q (404, [some (am_O 0), some (am_R 0), some (am_R 66), some (am_I i)], [am_I x, am_I x], (sh b, I, L), bc, bs) := am_go 1 (And.intro (fun _ => k) (fun c => (c rfl).elim))
set_option maxRecDepth 20000 in
theorem lx_c4 (hro : RoK ro) (hw : RoW ro) (h0 : ∀ j, am_r ((ro 0).2 j)) (hi : 0 ≤ i) (hN : i + 5 ≤ (ro 0).1) (hM : (ro 0).1 ≤ 2560) (hb : 44 ≤ bc ∧ 5827 ≤ bs) (hI : Inv b I L) (K : ∀ (b : Bool) (I L : Nat → Int → Int) (c2 s2 : Nat), Inv b I L → bc ≤ c2 + 44 → bs ≤ s2 + 5827 → am_ex (am_m ro (d + 47)) ro am_M258 Q (1652, [some (am_O 0), some (am_R 0), some (am_R 66), some (am_I i)], [], (sh b, I, L), c2, s2)) : am_ex (am_m ro (d + 47)) ro am_M258 Q (356, [some (am_O 0), some (am_R 0), some (am_R 66), some (am_I i)], [], (sh b, I, L), bc, bs) := by
  refine lx_p4 (by omega) (by omega) (by omega) (by omega) (by omega) (by omega) (by omega) (by omega) (am_call (am_mI (d := d + 46) rfl (by decide +kernel) (A_put (d := d + 42) hI)) ?_)
  rintro r ⟨S, I1, L1⟩ ⟨q, hx, x, rfl⟩
  obtain ⟨fs, hS⟩ := hx 66 12 _ rfl
  refine lx_m4 (by omega) (by omega) (by omega) (by omega) (by omega) (by omega) (by omega) (by omega) ?_
  refine am_inv0 rfl rfl hS rfl ?_
  refine am_call q ?_
  rintro r2 h2 ⟨v, b2, I2, L2, e1, rfl, rfl, hI2⟩
  cases e1
  exact lx_e4 (K b2 I2 L2 _ _ hI2 (by omega) (by omega))
set_option maxRecDepth 20000 in
theorem lx_p5 (o1 : am_r (i + 1)) (p1 : 0 ≤ i + 1 ∧ i + 1 < (ro 0).1) (o2 : am_r (i + 2)) (p2 : 0 ≤ i + 2 ∧ i + 2 < (ro 0).1) (o3 : am_r (i + 3)) (p3 : 0 ≤ i + 3 ∧ i + 3 < (ro 0).1) (k : am_m ro (d + 47) 6 [am_R 0, am_I ((ro 0).2 (i + 1)), am_I ((ro 0).2 (i + 2)), am_I ((ro 0).2 (i + 3))] (sh b, I, L) (fun r h => am_ex (am_m ro (d + 47)) ro am_M258 Q (428, [some (am_O 0), some (am_R 0), some (am_R 66), some (am_I i)], am_push r [], h, bc, bs))) : am_ex (am_m ro (d + 47)) ro am_M258 Q (409, [some (am_O 0), some (am_R 0), some (am_R 66), some (am_I i)], [], (sh b, I, L), bc, bs) := am_go 17 (And.intro o1 (And.intro p1 (And.intro o2 (And.intro p2 (And.intro o3 (And.intro p3 k))))))
set_option maxRecDepth 20000 in
theorem lx_m5 (o1 : am_r (i + 1)) (p1 : 0 ≤ i + 1 ∧ i + 1 < (ro 0).1) (o2 : am_r (i + 2)) (p2 : 0 ≤ i + 2 ∧ i + 2 < (ro 0).1) (o3 : am_r (i + 3)) (p3 : 0 ≤ i + 3 ∧ i + 3 < (ro 0).1) (k : am_ex (am_m ro (d + 47)) ro am_M258 Q (444, [some (am_O 0), some (am_R 0), some (am_R 66), some (am_I i)], [am_I ((ro 0).2 (i + 3)), am_I ((ro 0).2 (i + 2)), am_I ((ro 0).2 (i + 1)), am_R 66, am_I x], (S, I, L), bc, bs)) : am_ex (am_m ro (d + 47)) ro am_M258 Q (428, [some (am_O 0), some (am_R 0), some (am_R 66), some (am_I i)], [am_I x], (S, I, L), bc, bs) := am_go 16 (And.intro o1 (And.intro p1 (And.intro o2 (And.intro p2 (And.intro o3 (And.intro p3 k))))))
set_option maxRecDepth 20000 in
theorem lx_e5 (k : am_ex (am_m ro (d + 47)) ro am_M258 Q (1652, [some (am_O 0), some (am_R 0), some (am_R 66), some (am_I i)], [], (sh b, I, L), bc, bs)) : am_ex (am_m ro (d + 47)) ro am_M258 Q (447, [some (am_O 0), some (am_R 0), some (am_R 66), some (am_I i)], [am_I x, am_I x], (sh b, I, L), bc, bs) := am_go 1 (And.intro (fun _ => k) (fun c => (c rfl).elim))
set_option maxRecDepth 20000 in
theorem lx_c5 (hro : RoK ro) (hw : RoW ro) (h0 : ∀ j, am_r ((ro 0).2 j)) (hi : 0 ≤ i) (hN : i + 5 ≤ (ro 0).1) (hM : (ro 0).1 ≤ 2560) (hb : 44 ≤ bc ∧ 5827 ≤ bs) (hI : Inv b I L) (K : ∀ (b : Bool) (I L : Nat → Int → Int) (c2 s2 : Nat), Inv b I L → bc ≤ c2 + 44 → bs ≤ s2 + 5827 → am_ex (am_m ro (d + 47)) ro am_M258 Q (1652, [some (am_O 0), some (am_R 0), some (am_R 66), some (am_I i)], [], (sh b, I, L), c2, s2)) : am_ex (am_m ro (d + 47)) ro am_M258 Q (409, [some (am_O 0), some (am_R 0), some (am_R 66), some (am_I i)], [], (sh b, I, L), bc, bs) := by
  refine lx_p5 (by omega) (by omega) (by omega) (by omega) (by omega) (by omega) (am_call (am_mI (d := d + 46) rfl (by decide +kernel) (A_known (d := d + 43) hI (h0 _))) ?_)
  rintro r ⟨S, I1, L1⟩ ⟨q, hx, x, rfl⟩
  obtain ⟨fs, hS⟩ := hx 66 12 _ rfl
  refine lx_m5 (by omega) (by omega) (by omega) (by omega) (by omega) (by omega) ?_
  refine am_inv0 rfl rfl hS rfl ?_
  refine am_call q ?_
  rintro r2 h2 ⟨v, b2, I2, L2, e1, rfl, rfl, hI2⟩
  cases e1
  exact lx_e5 (K b2 I2 L2 _ _ hI2 (by omega) (by omega))
set_option maxRecDepth 20000 in
theorem lx_p6 (o1 : am_r (i + 1)) (p1 : 0 ≤ i + 1 ∧ i + 1 < (ro 0).1) (o2 : am_r (i + 2)) (p2 : 0 ≤ i + 2 ∧ i + 2 < (ro 0).1) (k : am_m ro (d + 47) 7 [am_R 0, am_I ((ro 0).2 (i + 1)), am_I ((ro 0).2 (i + 2))] (sh b, I, L) (fun r h => am_ex (am_m ro (d + 47)) ro am_M258 Q (466, [some (am_O 0), some (am_R 0), some (am_R 66), some (am_I i)], am_push r [], h, bc, bs))) : am_ex (am_m ro (d + 47)) ro am_M258 Q (452, [some (am_O 0), some (am_R 0), some (am_R 66), some (am_I i)], [], (sh b, I, L), bc, bs) := am_go 12 (And.intro o1 (And.intro p1 (And.intro o2 (And.intro p2 k))))
set_option maxRecDepth 20000 in
theorem lx_m6 (o1 : am_r (i + 1)) (p1 : 0 ≤ i + 1 ∧ i + 1 < (ro 0).1) (o2 : am_r (i + 2)) (p2 : 0 ≤ i + 2 ∧ i + 2 < (ro 0).1) (k : am_ex (am_m ro (d + 47)) ro am_M258 Q (477, [some (am_O 0), some (am_R 0), some (am_R 66), some (am_I i)], [am_I ((ro 0).2 (i + 2)), am_I ((ro 0).2 (i + 1)), am_R 66, am_I x], (S, I, L), bc, bs)) : am_ex (am_m ro (d + 47)) ro am_M258 Q (466, [some (am_O 0), some (am_R 0), some (am_R 66), some (am_I i)], [am_I x], (S, I, L), bc, bs) := am_go 11 (And.intro o1 (And.intro p1 (And.intro o2 (And.intro p2 k))))
set_option maxRecDepth 20000 in
theorem lx_e6 (k : am_ex (am_m ro (d + 47)) ro am_M258 Q (1652, [some (am_O 0), some (am_R 0), some (am_R 66), some (am_I i)], [], (sh b, I, L), bc, bs)) : am_ex (am_m ro (d + 47)) ro am_M258 Q (480, [some (am_O 0), some (am_R 0), some (am_R 66), some (am_I i)], [am_I x, am_I x], (sh b, I, L), bc, bs) := am_go 1 (And.intro (fun _ => k) (fun c => (c rfl).elim))
set_option maxRecDepth 20000 in
theorem lx_c6 (hro : RoK ro) (hw : RoW ro) (h0 : ∀ j, am_r ((ro 0).2 j)) (hi : 0 ≤ i) (hN : i + 5 ≤ (ro 0).1) (hM : (ro 0).1 ≤ 2560) (hb : 44 ≤ bc ∧ 5827 ≤ bs) (hI : Inv b I L) (K : ∀ (b : Bool) (I L : Nat → Int → Int) (c2 s2 : Nat), Inv b I L → bc ≤ c2 + 44 → bs ≤ s2 + 5827 → am_ex (am_m ro (d + 47)) ro am_M258 Q (1652, [some (am_O 0), some (am_R 0), some (am_R 66), some (am_I i)], [], (sh b, I, L), c2, s2)) : am_ex (am_m ro (d + 47)) ro am_M258 Q (452, [some (am_O 0), some (am_R 0), some (am_R 66), some (am_I i)], [], (sh b, I, L), bc, bs) := by
  refine lx_p6 (by omega) (by omega) (by omega) (by omega) (am_call (am_mI (d := d + 46) rfl (by decide +kernel) (A_look (d := d + 43) hI)) ?_)
  rintro r ⟨S, I1, L1⟩ ⟨q, hx, x, rfl⟩
  obtain ⟨fs, hS⟩ := hx 66 12 _ rfl
  refine lx_m6 (by omega) (by omega) (by omega) (by omega) ?_
  refine am_inv0 rfl rfl hS rfl ?_
  refine am_call q ?_
  rintro r2 h2 ⟨v, b2, I2, L2, e1, rfl, rfl, hI2⟩
  cases e1
  exact lx_e6 (K b2 I2 L2 _ _ hI2 (by omega) (by omega))
set_option maxRecDepth 20000 in
theorem lx_p7 (o1 : am_r (i + 1)) (p1 : 0 ≤ i + 1 ∧ i + 1 < (ro 0).1) (o2 : am_r (i + 2)) (p2 : 0 ≤ i + 2 ∧ i + 2 < (ro 0).1) (k : am_m ro (d + 47) 8 [am_R 0, am_I ((ro 0).2 (i + 1)), am_I ((ro 0).2 (i + 2))] (sh b, I, L) (fun r h => am_ex (am_m ro (d + 47)) ro am_M258 Q (499, [some (am_O 0), some (am_R 0), some (am_R 66), some (am_I i)], am_push r [], h, bc, bs))) : am_ex (am_m ro (d + 47)) ro am_M258 Q (485, [some (am_O 0), some (am_R 0), some (am_R 66), some (am_I i)], [], (sh b, I, L), bc, bs) := am_go 12 (And.intro o1 (And.intro p1 (And.intro o2 (And.intro p2 k))))
set_option maxRecDepth 20000 in
theorem lx_m7 (o1 : am_r (i + 1)) (p1 : 0 ≤ i + 1 ∧ i + 1 < (ro 0).1) (o2 : am_r (i + 2)) (p2 : 0 ≤ i + 2 ∧ i + 2 < (ro 0).1) (k : am_ex (am_m ro (d + 47)) ro am_M258 Q (510, [some (am_O 0), some (am_R 0), some (am_R 66), some (am_I i)], [am_I ((ro 0).2 (i + 2)), am_I ((ro 0).2 (i + 1)), am_R 66, am_L x], (S, I, L), bc, bs)) : am_ex (am_m ro (d + 47)) ro am_M258 Q (499, [some (am_O 0), some (am_R 0), some (am_R 66), some (am_I i)], [am_L x], (S, I, L), bc, bs) := am_go 11 (And.intro o1 (And.intro p1 (And.intro o2 (And.intro p2 k))))
set_option maxRecDepth 20000 in
theorem lx_e7 (k : am_ex (am_m ro (d + 47)) ro am_M258 Q (1652, [some (am_O 0), some (am_R 0), some (am_R 66), some (am_I i)], [], (sh b, I, L), bc, bs)) : am_ex (am_m ro (d + 47)) ro am_M258 Q (513, [some (am_O 0), some (am_R 0), some (am_R 66), some (am_I i)], [am_L x, am_L x], (sh b, I, L), bc, bs) := am_go 2 (And.intro (fun _ => k) (fun c => (c rfl).elim))
set_option maxRecDepth 20000 in
theorem lx_c7 (hro : RoK ro) (hw : RoW ro) (h0 : ∀ j, am_r ((ro 0).2 j)) (hi : 0 ≤ i) (hN : i + 5 ≤ (ro 0).1) (hM : (ro 0).1 ≤ 2560) (hb : 44 ≤ bc ∧ 5827 ≤ bs) (hI : Inv b I L) (K : ∀ (b : Bool) (I L : Nat → Int → Int) (c2 s2 : Nat), Inv b I L → bc ≤ c2 + 44 → bs ≤ s2 + 5827 → am_ex (am_m ro (d + 47)) ro am_M258 Q (1652, [some (am_O 0), some (am_R 0), some (am_R 66), some (am_I i)], [], (sh b, I, L), c2, s2)) : am_ex (am_m ro (d + 47)) ro am_M258 Q (485, [some (am_O 0), some (am_R 0), some (am_R 66), some (am_I i)], [], (sh b, I, L), bc, bs) := by
  refine lx_p7 (by omega) (by omega) (by omega) (by omega) (am_call (am_mL (d := d + 46) rfl (by decide +kernel) (A_year (d := d + 43) hI)) ?_)
  rintro r ⟨S, I1, L1⟩ ⟨q, hx, x, rfl⟩
  obtain ⟨fs, hS⟩ := hx 66 12 _ rfl
  refine lx_m7 (by omega) (by omega) (by omega) (by omega) ?_
  refine am_inv0 rfl rfl hS rfl ?_
  refine am_call q ?_
  rintro r2 h2 ⟨v, b2, I2, L2, e1, rfl, rfl, hI2⟩
  cases e1
  exact lx_e7 (K b2 I2 L2 _ _ hI2 (by omega) (by omega))
set_option maxRecDepth 20000 in
theorem lx_p8 (o1 : am_r (i + 1)) (p1 : 0 ≤ i + 1 ∧ i + 1 < (ro 0).1) (o2 : am_r (i + 2)) (p2 : 0 ≤ i + 2 ∧ i + 2 < (ro 0).1) (o3 : am_r (i + 3)) (p3 : 0 ≤ i + 3 ∧ i + 3 < (ro 0).1) (k : am_m ro (d + 47) 9 [am_R 0, am_I ((ro 0).2 (i + 1)), am_I ((ro 0).2 (i + 2)), am_I ((ro 0).2 (i + 3))] (sh b, I, L) (fun r h => am_ex (am_m ro (d + 47)) ro am_M258 Q (538, [some (am_O 0), some (am_R 0), some (am_R 66), some (am_I i)], am_push r [], h, bc, bs))) : am_ex (am_m ro (d + 47)) ro am_M258 Q (519, [some (am_O 0), some (am_R 0), some (am_R 66), some (am_I i)], [], (sh b, I, L), bc, bs) := am_go 17 (And.intro o1 (And.intro p1 (And.intro o2 (And.intro p2 (And.intro o3 (And.intro p3 k))))))
set_option maxRecDepth 20000 in
theorem lx_m8 (o1 : am_r (i + 1)) (p1 : 0 ≤ i + 1 ∧ i + 1 < (ro 0).1) (o2 : am_r (i + 2)) (p2 : 0 ≤ i + 2 ∧ i + 2 < (ro 0).1) (o3 : am_r (i + 3)) (p3 : 0 ≤ i + 3 ∧ i + 3 < (ro 0).1) (k : am_ex (am_m ro (d + 47)) ro am_M258 Q (554, [some (am_O 0), some (am_R 0), some (am_R 66), some (am_I i)], [am_I ((ro 0).2 (i + 3)), am_I ((ro 0).2 (i + 2)), am_I ((ro 0).2 (i + 1)), am_R 66, am_I x], (S, I, L), bc, bs)) : am_ex (am_m ro (d + 47)) ro am_M258 Q (538, [some (am_O 0), some (am_R 0), some (am_R 66), some (am_I i)], [am_I x], (S, I, L), bc, bs) := am_go 16 (And.intro o1 (And.intro p1 (And.intro o2 (And.intro p2 (And.intro o3 (And.intro p3 k))))))
set_option maxRecDepth 20000 in
theorem lx_e8 (k : am_ex (am_m ro (d + 47)) ro am_M258 Q (1652, [some (am_O 0), some (am_R 0), some (am_R 66), some (am_I i)], [], (sh b, I, L), bc, bs)) : am_ex (am_m ro (d + 47)) ro am_M258 Q (557, [some (am_O 0), some (am_R 0), some (am_R 66), some (am_I i)], [am_I x, am_I x], (sh b, I, L), bc, bs) := am_go 1 (And.intro (fun _ => k) (fun c => (c rfl).elim))
set_option maxRecDepth 20000 in
theorem lx_c8 (hro : RoK ro) (hw : RoW ro) (h0 : ∀ j, am_r ((ro 0).2 j)) (hi : 0 ≤ i) (hN : i + 5 ≤ (ro 0).1) (hM : (ro 0).1 ≤ 2560) (hb : 44 ≤ bc ∧ 5827 ≤ bs) (hI : Inv b I L) (K : ∀ (b : Bool) (I L : Nat → Int → Int) (c2 s2 : Nat), Inv b I L → bc ≤ c2 + 44 → bs ≤ s2 + 5827 → am_ex (am_m ro (d + 47)) ro am_M258 Q (1652, [some (am_O 0), some (am_R 0), some (am_R 66), some (am_I i)], [], (sh b, I, L), c2, s2)) : am_ex (am_m ro (d + 47)) ro am_M258 Q (519, [some (am_O 0), some (am_R 0), some (am_R 66), some (am_I i)], [], (sh b, I, L), bc, bs) := by
  refine lx_p8 (by omega) (by omega) (by omega) (by omega) (by omega) (by omega) (am_call (am_mI (d := d + 46) rfl (by decide +kernel) (A_edition (d := d + 44) hI)) ?_)
  rintro r ⟨S, I1, L1⟩ ⟨q, hx, x, rfl⟩
  obtain ⟨fs, hS⟩ := hx 66 12 _ rfl
  refine lx_m8 (by omega) (by omega) (by omega) (by omega) (by omega) (by omega) ?_
  refine am_inv0 rfl rfl hS rfl ?_
  refine am_call q ?_
  rintro r2 h2 ⟨v, b2, I2, L2, e1, rfl, rfl, hI2⟩
  cases e1
  exact lx_e8 (K b2 I2 L2 _ _ hI2 (by omega) (by omega))
set_option maxRecDepth 20000 in
theorem lx_p9 (o1 : am_r (i + 1)) (p1 : 0 ≤ i + 1 ∧ i + 1 < (ro 0).1) (o2 : am_r (i + 2)) (p2 : 0 ≤ i + 2 ∧ i + 2 < (ro 0).1) (o3 : am_r (i + 3)) (p3 : 0 ≤ i + 3 ∧ i + 3 < (ro 0).1) (k : am_m ro (d + 47) 10 [am_R 0, am_I ((ro 0).2 (i + 1)), am_I ((ro 0).2 (i + 2)), am_I ((ro 0).2 (i + 3))] (sh b, I, L) (fun r h => am_ex (am_m ro (d + 47)) ro am_M258 Q (581, [some (am_O 0), some (am_R 0), some (am_R 66), some (am_I i)], am_push r [], h, bc, bs))) : am_ex (am_m ro (d + 47)) ro am_M258 Q (562, [some (am_O 0), some (am_R 0), some (am_R 66), some (am_I i)], [], (sh b, I, L), bc, bs) := am_go 17 (And.intro o1 (And.intro p1 (And.intro o2 (And.intro p2 (And.intro o3 (And.intro p3 k))))))
set_option maxRecDepth 20000 in
theorem lx_m9 (o1 : am_r (i + 1)) (p1 : 0 ≤ i + 1 ∧ i + 1 < (ro 0).1) (o2 : am_r (i + 2)) (p2 : 0 ≤ i + 2 ∧ i + 2 < (ro 0).1) (o3 : am_r (i + 3)) (p3 : 0 ≤ i + 3 ∧ i + 3 < (ro 0).1) (k : am_ex (am_m ro (d + 47)) ro am_M258 Q (597, [some (am_O 0), some (am_R 0), some (am_R 66), some (am_I i)], [am_I ((ro 0).2 (i + 3)), am_I ((ro 0).2 (i + 2)), am_I ((ro 0).2 (i + 1)), am_R 66, am_I x], (S, I, L), bc, bs)) : am_ex (am_m ro (d + 47)) ro am_M258 Q (581, [some (am_O 0), some (am_R 0), some (am_R 66), some (am_I i)], [am_I x], (S, I, L), bc, bs) := am_go 16 (And.intro o1 (And.intro p1 (And.intro o2 (And.intro p2 (And.intro o3 (And.intro p3 k))))))
set_option maxRecDepth 20000 in
theorem lx_e9 (k : am_ex (am_m ro (d + 47)) ro am_M258 Q (1652, [some (am_O 0), some (am_R 0), some (am_R 66), some (am_I i)], [], (sh b, I, L), bc, bs)) : am_ex (am_m ro (d + 47)) ro am_M258 Q (600, [some (am_O 0), some (am_R 0), some (am_R 66), some (am_I i)], [am_I x, am_I x], (sh b, I, L), bc, bs) := am_go 1 (And.intro (fun _ => k) (fun c => (c rfl).elim))
set_option maxRecDepth 20000 in
theorem lx_c9 (hro : RoK ro) (hw : RoW ro) (h0 : ∀ j, am_r ((ro 0).2 j)) (hi : 0 ≤ i) (hN : i + 5 ≤ (ro 0).1) (hM : (ro 0).1 ≤ 2560) (hb : 44 ≤ bc ∧ 5827 ≤ bs) (hI : Inv b I L) (K : ∀ (b : Bool) (I L : Nat → Int → Int) (c2 s2 : Nat), Inv b I L → bc ≤ c2 + 44 → bs ≤ s2 + 5827 → am_ex (am_m ro (d + 47)) ro am_M258 Q (1652, [some (am_O 0), some (am_R 0), some (am_R 66), some (am_I i)], [], (sh b, I, L), c2, s2)) : am_ex (am_m ro (d + 47)) ro am_M258 Q (562, [some (am_O 0), some (am_R 0), some (am_R 66), some (am_I i)], [], (sh b, I, L), bc, bs) := by
  refine lx_p9 (by omega) (by omega) (by omega) (by omega) (by omega) (by omega) (am_call (am_mI (d := d + 46) rfl (by decide +kernel) (A_person (d := d + 44) hI)) ?_)
  rintro r ⟨S, I1, L1⟩ ⟨q, hx, x, rfl⟩
  obtain ⟨fs, hS⟩ := hx 66 12 _ rfl
  refine lx_m9 (by omega) (by omega) (by omega) (by omega) (by omega) (by omega) ?_
  refine am_inv0 rfl rfl hS rfl ?_
  refine am_call q ?_
  rintro r2 h2 ⟨v, b2, I2, L2, e1, rfl, rfl, hI2⟩
  cases e1
  exact lx_e9 (K b2 I2 L2 _ _ hI2 (by omega) (by omega))
set_option maxRecDepth 20000 in
theorem lx_p10 (o1 : am_r (i + 1)) (p1 : 0 ≤ i + 1 ∧ i + 1 < (ro 0).1) (o2 : am_r (i + 2)) (p2 : 0 ≤ i + 2 ∧ i + 2 < (ro 0).1) (k : am_m ro (d + 47) 11 [am_R 0, am_I ((ro 0).2 (i + 1)), am_I ((ro 0).2 (i + 2))] (sh b, I, L) (fun r h => am_ex (am_m ro (d + 47)) ro am_M258 Q (619, [some (am_O 0), some (am_R 0), some (am_R 66), some (am_I i)], am_push r [], h, bc, bs))) : am_ex (am_m ro (d + 47)) ro am_M258 Q (605, [some (am_O 0), some (am_R 0), some (am_R 66), some (am_I i)], [], (sh b, I, L), bc, bs) := am_go 12 (And.intro o1 (And.intro p1 (And.intro o2 (And.intro p2 k))))
set_option maxRecDepth 20000 in
theorem lx_m10 (o1 : am_r (i + 1)) (p1 : 0 ≤ i + 1 ∧ i + 1 < (ro 0).1) (o2 : am_r (i + 2)) (p2 : 0 ≤ i + 2 ∧ i + 2 < (ro 0).1) (k : am_ex (am_m ro (d + 47)) ro am_M258 Q (630, [some (am_O 0), some (am_R 0), some (am_R 66), some (am_I i)], [am_I ((ro 0).2 (i + 2)), am_I ((ro 0).2 (i + 1)), am_R 66, am_I x], (S, I, L), bc, bs)) : am_ex (am_m ro (d + 47)) ro am_M258 Q (619, [some (am_O 0), some (am_R 0), some (am_R 66), some (am_I i)], [am_I x], (S, I, L), bc, bs) := am_go 11 (And.intro o1 (And.intro p1 (And.intro o2 (And.intro p2 k))))
set_option maxRecDepth 20000 in
theorem lx_e10 (k : am_ex (am_m ro (d + 47)) ro am_M258 Q (1652, [some (am_O 0), some (am_R 0), some (am_R 66), some (am_I i)], [], (sh b, I, L), bc, bs)) : am_ex (am_m ro (d + 47)) ro am_M258 Q (633, [some (am_O 0), some (am_R 0), some (am_R 66), some (am_I i)], [am_I x, am_I x], (sh b, I, L), bc, bs) := am_go 1 (And.intro (fun _ => k) (fun c => (c rfl).elim))
set_option maxRecDepth 20000 in
theorem lx_c10 (hro : RoK ro) (hw : RoW ro) (h0 : ∀ j, am_r ((ro 0).2 j)) (hi : 0 ≤ i) (hN : i + 5 ≤ (ro 0).1) (hM : (ro 0).1 ≤ 2560) (hb : 44 ≤ bc ∧ 5827 ≤ bs) (hI : Inv b I L) (K : ∀ (b : Bool) (I L : Nat → Int → Int) (c2 s2 : Nat), Inv b I L → bc ≤ c2 + 44 → bs ≤ s2 + 5827 → am_ex (am_m ro (d + 47)) ro am_M258 Q (1652, [some (am_O 0), some (am_R 0), some (am_R 66), some (am_I i)], [], (sh b, I, L), c2, s2)) : am_ex (am_m ro (d + 47)) ro am_M258 Q (605, [some (am_O 0), some (am_R 0), some (am_R 66), some (am_I i)], [], (sh b, I, L), bc, bs) := by
  refine lx_p10 (by omega) (by omega) (by omega) (by omega) (am_call (am_mI (d := d + 46) rfl (by decide +kernel) (A_died (d := d + 44) hI)) ?_)
  rintro r ⟨S, I1, L1⟩ ⟨q, hx, x, rfl⟩
  obtain ⟨fs, hS⟩ := hx 66 12 _ rfl
  refine lx_m10 (by omega) (by omega) (by omega) (by omega) ?_
  refine am_inv0 rfl rfl hS rfl ?_
  refine am_call q ?_
  rintro r2 h2 ⟨v, b2, I2, L2, e1, rfl, rfl, hI2⟩
  cases e1
  exact lx_e10 (K b2 I2 L2 _ _ hI2 (by omega) (by omega))
set_option maxRecDepth 20000 in
theorem lx_p11 (o1 : am_r (i + 1)) (p1 : 0 ≤ i + 1 ∧ i + 1 < (ro 0).1) (o2 : am_r (i + 2)) (p2 : 0 ≤ i + 2 ∧ i + 2 < (ro 0).1) (o3 : am_r (i + 3)) (p3 : 0 ≤ i + 3 ∧ i + 3 < (ro 0).1) (k : am_m ro (d + 47) 12 [am_R 0, am_I ((ro 0).2 (i + 1)), am_I ((ro 0).2 (i + 2)), am_I ((ro 0).2 (i + 3))] (sh b, I, L) (fun r h => am_ex (am_m ro (d + 47)) ro am_M258 Q (657, [some (am_O 0), some (am_R 0), some (am_R 66), some (am_I i)], am_push r [], h, bc, bs))) : am_ex (am_m ro (d + 47)) ro am_M258 Q (638, [some (am_O 0), some (am_R 0), some (am_R 66), some (am_I i)], [], (sh b, I, L), bc, bs) := am_go 17 (And.intro o1 (And.intro p1 (And.intro o2 (And.intro p2 (And.intro o3 (And.intro p3 k))))))
set_option maxRecDepth 20000 in
theorem lx_m11 (o1 : am_r (i + 1)) (p1 : 0 ≤ i + 1 ∧ i + 1 < (ro 0).1) (o2 : am_r (i + 2)) (p2 : 0 ≤ i + 2 ∧ i + 2 < (ro 0).1) (o3 : am_r (i + 3)) (p3 : 0 ≤ i + 3 ∧ i + 3 < (ro 0).1) (k : am_ex (am_m ro (d + 47)) ro am_M258 Q (673, [some (am_O 0), some (am_R 0), some (am_R 66), some (am_I i)], [am_I ((ro 0).2 (i + 3)), am_I ((ro 0).2 (i + 2)), am_I ((ro 0).2 (i + 1)), am_R 66, am_I x], (S, I, L), bc, bs)) : am_ex (am_m ro (d + 47)) ro am_M258 Q (657, [some (am_O 0), some (am_R 0), some (am_R 66), some (am_I i)], [am_I x], (S, I, L), bc, bs) := am_go 16 (And.intro o1 (And.intro p1 (And.intro o2 (And.intro p2 (And.intro o3 (And.intro p3 k))))))
set_option maxRecDepth 20000 in
theorem lx_e11 (k : am_ex (am_m ro (d + 47)) ro am_M258 Q (1652, [some (am_O 0), some (am_R 0), some (am_R 66), some (am_I i)], [], (sh b, I, L), bc, bs)) : am_ex (am_m ro (d + 47)) ro am_M258 Q (676, [some (am_O 0), some (am_R 0), some (am_R 66), some (am_I i)], [am_I x, am_I x], (sh b, I, L), bc, bs) := am_go 1 (And.intro (fun _ => k) (fun c => (c rfl).elim))
set_option maxRecDepth 20000 in
theorem lx_c11 (hro : RoK ro) (hw : RoW ro) (h0 : ∀ j, am_r ((ro 0).2 j)) (hi : 0 ≤ i) (hN : i + 5 ≤ (ro 0).1) (hM : (ro 0).1 ≤ 2560) (hb : 44 ≤ bc ∧ 5827 ≤ bs) (hI : Inv b I L) (K : ∀ (b : Bool) (I L : Nat → Int → Int) (c2 s2 : Nat), Inv b I L → bc ≤ c2 + 44 → bs ≤ s2 + 5827 → am_ex (am_m ro (d + 47)) ro am_M258 Q (1652, [some (am_O 0), some (am_R 0), some (am_R 66), some (am_I i)], [], (sh b, I, L), c2, s2)) : am_ex (am_m ro (d + 47)) ro am_M258 Q (638, [some (am_O 0), some (am_R 0), some (am_R 66), some (am_I i)], [], (sh b, I, L), bc, bs) := by
  refine lx_p11 (by omega) (by omega) (by omega) (by omega) (by omega) (by omega) (am_call (am_mI (d := d + 46) rfl (by decide +kernel) (A_heir (d := d + 44) hI)) ?_)
  rintro r ⟨S, I1, L1⟩ ⟨q, hx, x, rfl⟩
  obtain ⟨fs, hS⟩ := hx 66 12 _ rfl
  refine lx_m11 (by omega) (by omega) (by omega) (by omega) (by omega) (by omega) ?_
  refine am_inv0 rfl rfl hS rfl ?_
  refine am_call q ?_
  rintro r2 h2 ⟨v, b2, I2, L2, e1, rfl, rfl, hI2⟩
  cases e1
  exact lx_e11 (K b2 I2 L2 _ _ hI2 (by omega) (by omega))
set_option maxRecDepth 20000 in
theorem lx_p12 (o1 : am_r (i + 1)) (p1 : 0 ≤ i + 1 ∧ i + 1 < (ro 0).1) (o2 : am_r (i + 2)) (p2 : 0 ≤ i + 2 ∧ i + 2 < (ro 0).1) (o3 : am_r (i + 3)) (p3 : 0 ≤ i + 3 ∧ i + 3 < (ro 0).1) (k : am_m ro (d + 47) 13 [am_R 0, am_I ((ro 0).2 (i + 1)), am_I ((ro 0).2 (i + 2)), am_I ((ro 0).2 (i + 3))] (sh b, I, L) (fun r h => am_ex (am_m ro (d + 47)) ro am_M258 Q (700, [some (am_O 0), some (am_R 0), some (am_R 66), some (am_I i)], am_push r [], h, bc, bs))) : am_ex (am_m ro (d + 47)) ro am_M258 Q (681, [some (am_O 0), some (am_R 0), some (am_R 66), some (am_I i)], [], (sh b, I, L), bc, bs) := am_go 17 (And.intro o1 (And.intro p1 (And.intro o2 (And.intro p2 (And.intro o3 (And.intro p3 k))))))
set_option maxRecDepth 20000 in
theorem lx_m12 (o1 : am_r (i + 1)) (p1 : 0 ≤ i + 1 ∧ i + 1 < (ro 0).1) (o2 : am_r (i + 2)) (p2 : 0 ≤ i + 2 ∧ i + 2 < (ro 0).1) (o3 : am_r (i + 3)) (p3 : 0 ≤ i + 3 ∧ i + 3 < (ro 0).1) (k : am_ex (am_m ro (d + 47)) ro am_M258 Q (716, [some (am_O 0), some (am_R 0), some (am_R 66), some (am_I i)], [am_I ((ro 0).2 (i + 3)), am_I ((ro 0).2 (i + 2)), am_I ((ro 0).2 (i + 1)), am_R 66, am_I x], (S, I, L), bc, bs)) : am_ex (am_m ro (d + 47)) ro am_M258 Q (700, [some (am_O 0), some (am_R 0), some (am_R 66), some (am_I i)], [am_I x], (S, I, L), bc, bs) := am_go 16 (And.intro o1 (And.intro p1 (And.intro o2 (And.intro p2 (And.intro o3 (And.intro p3 k))))))
set_option maxRecDepth 20000 in
theorem lx_e12 (k : am_ex (am_m ro (d + 47)) ro am_M258 Q (1652, [some (am_O 0), some (am_R 0), some (am_R 66), some (am_I i)], [], (sh b, I, L), bc, bs)) : am_ex (am_m ro (d + 47)) ro am_M258 Q (719, [some (am_O 0), some (am_R 0), some (am_R 66), some (am_I i)], [am_I x, am_I x], (sh b, I, L), bc, bs) := am_go 1 (And.intro (fun _ => k) (fun c => (c rfl).elim))
set_option maxRecDepth 20000 in
theorem lx_c12 (hro : RoK ro) (hw : RoW ro) (h0 : ∀ j, am_r ((ro 0).2 j)) (hi : 0 ≤ i) (hN : i + 5 ≤ (ro 0).1) (hM : (ro 0).1 ≤ 2560) (hb : 44 ≤ bc ∧ 5827 ≤ bs) (hI : Inv b I L) (K : ∀ (b : Bool) (I L : Nat → Int → Int) (c2 s2 : Nat), Inv b I L → bc ≤ c2 + 44 → bs ≤ s2 + 5827 → am_ex (am_m ro (d + 47)) ro am_M258 Q (1652, [some (am_O 0), some (am_R 0), some (am_R 66), some (am_I i)], [], (sh b, I, L), c2, s2)) : am_ex (am_m ro (d + 47)) ro am_M258 Q (681, [some (am_O 0), some (am_R 0), some (am_R 66), some (am_I i)], [], (sh b, I, L), bc, bs) := by
  refine lx_p12 (by omega) (by omega) (by omega) (by omega) (by omega) (by omega) (am_call (am_mI (d := d + 46) rfl (by decide +kernel) (A_share (d := d + 44) hI (h0 _))) ?_)
  rintro r ⟨S, I1, L1⟩ ⟨q, hx, x, rfl⟩
  obtain ⟨fs, hS⟩ := hx 66 12 _ rfl
  refine lx_m12 (by omega) (by omega) (by omega) (by omega) (by omega) (by omega) ?_
  refine am_inv0 rfl rfl hS rfl ?_
  refine am_call q ?_
  rintro r2 h2 ⟨v, b2, I2, L2, e1, rfl, rfl, hI2⟩
  cases e1
  exact lx_e12 (K b2 I2 L2 _ _ hI2 (by omega) (by omega))
set_option maxRecDepth 20000 in
theorem lx_p13 (o1 : am_r (i + 1)) (p1 : 0 ≤ i + 1 ∧ i + 1 < (ro 0).1) (o2 : am_r (i + 2)) (p2 : 0 ≤ i + 2 ∧ i + 2 < (ro 0).1) (k : am_m ro (d + 47) 14 [am_R 0, am_I ((ro 0).2 (i + 1)), am_I ((ro 0).2 (i + 2))] (sh b, I, L) (fun r h => am_ex (am_m ro (d + 47)) ro am_M258 Q (738, [some (am_O 0), some (am_R 0), some (am_R 66), some (am_I i)], am_push r [], h, bc, bs))) : am_ex (am_m ro (d + 47)) ro am_M258 Q (724, [some (am_O 0), some (am_R 0), some (am_R 66), some (am_I i)], [], (sh b, I, L), bc, bs) := am_go 12 (And.intro o1 (And.intro p1 (And.intro o2 (And.intro p2 k))))
set_option maxRecDepth 20000 in
theorem lx_m13 (o1 : am_r (i + 1)) (p1 : 0 ≤ i + 1 ∧ i + 1 < (ro 0).1) (o2 : am_r (i + 2)) (p2 : 0 ≤ i + 2 ∧ i + 2 < (ro 0).1) (k : am_ex (am_m ro (d + 47)) ro am_M258 Q (749, [some (am_O 0), some (am_R 0), some (am_R 66), some (am_I i)], [am_I ((ro 0).2 (i + 2)), am_I ((ro 0).2 (i + 1)), am_R 66, am_I x], (S, I, L), bc, bs)) : am_ex (am_m ro (d + 47)) ro am_M258 Q (738, [some (am_O 0), some (am_R 0), some (am_R 66), some (am_I i)], [am_I x], (S, I, L), bc, bs) := am_go 11 (And.intro o1 (And.intro p1 (And.intro o2 (And.intro p2 k))))
set_option maxRecDepth 20000 in
theorem lx_e13 (k : am_ex (am_m ro (d + 47)) ro am_M258 Q (1652, [some (am_O 0), some (am_R 0), some (am_R 66), some (am_I i)], [], (sh b, I, L), bc, bs)) : am_ex (am_m ro (d + 47)) ro am_M258 Q (752, [some (am_O 0), some (am_R 0), some (am_R 66), some (am_I i)], [am_I x, am_I x], (sh b, I, L), bc, bs) := am_go 1 (And.intro (fun _ => k) (fun c => (c rfl).elim))
set_option maxRecDepth 20000 in
theorem lx_c13 (hro : RoK ro) (hw : RoW ro) (h0 : ∀ j, am_r ((ro 0).2 j)) (hi : 0 ≤ i) (hN : i + 5 ≤ (ro 0).1) (hM : (ro 0).1 ≤ 2560) (hb : 44 ≤ bc ∧ 5827 ≤ bs) (hI : Inv b I L) (K : ∀ (b : Bool) (I L : Nat → Int → Int) (c2 s2 : Nat), Inv b I L → bc ≤ c2 + 44 → bs ≤ s2 + 5827 → am_ex (am_m ro (d + 47)) ro am_M258 Q (1652, [some (am_O 0), some (am_R 0), some (am_R 66), some (am_I i)], [], (sh b, I, L), c2, s2)) : am_ex (am_m ro (d + 47)) ro am_M258 Q (724, [some (am_O 0), some (am_R 0), some (am_R 66), some (am_I i)], [], (sh b, I, L), bc, bs) := by
  refine lx_p13 (by omega) (by omega) (by omega) (by omega) (am_call (am_mI (d := d + 46) rfl (by decide +kernel) (A_editionOf (d := d + 44) hI)) ?_)
  rintro r ⟨S, I1, L1⟩ ⟨q, hx, x, rfl⟩
  obtain ⟨fs, hS⟩ := hx 66 12 _ rfl
  refine lx_m13 (by omega) (by omega) (by omega) (by omega) ?_
  refine am_inv0 rfl rfl hS rfl ?_
  refine am_call q ?_
  rintro r2 h2 ⟨v, b2, I2, L2, e1, rfl, rfl, hI2⟩
  cases e1
  exact lx_e13 (K b2 I2 L2 _ _ hI2 (by omega) (by omega))
set_option maxRecDepth 20000 in
theorem lx_p14 (o1 : am_r (i + 1)) (p1 : 0 ≤ i + 1 ∧ i + 1 < (ro 0).1) (o2 : am_r (i + 2)) (p2 : 0 ≤ i + 2 ∧ i + 2 < (ro 0).1) (k : am_m ro (d + 47) 15 [am_R 0, am_I ((ro 0).2 (i + 1)), am_I ((ro 0).2 (i + 2))] (sh b, I, L) (fun r h => am_ex (am_m ro (d + 47)) ro am_M258 Q (771, [some (am_O 0), some (am_R 0), some (am_R 66), some (am_I i)], am_push r [], h, bc, bs))) : am_ex (am_m ro (d + 47)) ro am_M258 Q (757, [some (am_O 0), some (am_R 0), some (am_R 66), some (am_I i)], [], (sh b, I, L), bc, bs) := am_go 12 (And.intro o1 (And.intro p1 (And.intro o2 (And.intro p2 k))))
set_option maxRecDepth 20000 in
theorem lx_m14 (o1 : am_r (i + 1)) (p1 : 0 ≤ i + 1 ∧ i + 1 < (ro 0).1) (o2 : am_r (i + 2)) (p2 : 0 ≤ i + 2 ∧ i + 2 < (ro 0).1) (k : am_ex (am_m ro (d + 47)) ro am_M258 Q (782, [some (am_O 0), some (am_R 0), some (am_R 66), some (am_I i)], [am_I ((ro 0).2 (i + 2)), am_I ((ro 0).2 (i + 1)), am_R 66, am_I x], (S, I, L), bc, bs)) : am_ex (am_m ro (d + 47)) ro am_M258 Q (771, [some (am_O 0), some (am_R 0), some (am_R 66), some (am_I i)], [am_I x], (S, I, L), bc, bs) := am_go 11 (And.intro o1 (And.intro p1 (And.intro o2 (And.intro p2 k))))
set_option maxRecDepth 20000 in
theorem lx_e14 (k : am_ex (am_m ro (d + 47)) ro am_M258 Q (1652, [some (am_O 0), some (am_R 0), some (am_R 66), some (am_I i)], [], (sh b, I, L), bc, bs)) : am_ex (am_m ro (d + 47)) ro am_M258 Q (785, [some (am_O 0), some (am_R 0), some (am_R 66), some (am_I i)], [am_I x, am_I x], (sh b, I, L), bc, bs) := am_go 1 (And.intro (fun _ => k) (fun c => (c rfl).elim))
set_option maxRecDepth 20000 in
theorem lx_c14 (hro : RoK ro) (hw : RoW ro) (h0 : ∀ j, am_r ((ro 0).2 j)) (hi : 0 ≤ i) (hN : i + 5 ≤ (ro 0).1) (hM : (ro 0).1 ≤ 2560) (hb : 44 ≤ bc ∧ 5827 ≤ bs) (hI : Inv b I L) (K : ∀ (b : Bool) (I L : Nat → Int → Int) (c2 s2 : Nat), Inv b I L → bc ≤ c2 + 44 → bs ≤ s2 + 5827 → am_ex (am_m ro (d + 47)) ro am_M258 Q (1652, [some (am_O 0), some (am_R 0), some (am_R 66), some (am_I i)], [], (sh b, I, L), c2, s2)) : am_ex (am_m ro (d + 47)) ro am_M258 Q (757, [some (am_O 0), some (am_R 0), some (am_R 66), some (am_I i)], [], (sh b, I, L), bc, bs) := by
  refine lx_p14 (by omega) (by omega) (by omega) (by omega) (am_call (am_mI (d := d + 46) rfl (by decide +kernel) (A_personOf (d := d + 44) hI)) ?_)
  rintro r ⟨S, I1, L1⟩ ⟨q, hx, x, rfl⟩
  obtain ⟨fs, hS⟩ := hx 66 12 _ rfl
  refine lx_m14 (by omega) (by omega) (by omega) (by omega) ?_
  refine am_inv0 rfl rfl hS rfl ?_
  refine am_call q ?_
  rintro r2 h2 ⟨v, b2, I2, L2, e1, rfl, rfl, hI2⟩
  cases e1
  exact lx_e14 (K b2 I2 L2 _ _ hI2 (by omega) (by omega))
set_option maxRecDepth 20000 in
theorem lx_p15 (o1 : am_r (i + 1)) (p1 : 0 ≤ i + 1 ∧ i + 1 < (ro 0).1) (o2 : am_r (i + 2)) (p2 : 0 ≤ i + 2 ∧ i + 2 < (ro 0).1) (k : am_m ro (d + 47) 16 [am_R 0, am_I ((ro 0).2 (i + 1)), am_I ((ro 0).2 (i + 2))] (sh b, I, L) (fun r h => am_ex (am_m ro (d + 47)) ro am_M258 Q (804, [some (am_O 0), some (am_R 0), some (am_R 66), some (am_I i)], am_push r [], h, bc, bs))) : am_ex (am_m ro (d + 47)) ro am_M258 Q (790, [some (am_O 0), some (am_R 0), some (am_R 66), some (am_I i)], [], (sh b, I, L), bc, bs) := am_go 12 (And.intro o1 (And.intro p1 (And.intro o2 (And.intro p2 k))))
set_option maxRecDepth 20000 in
theorem lx_m15 (o1 : am_r (i + 1)) (p1 : 0 ≤ i + 1 ∧ i + 1 < (ro 0).1) (o2 : am_r (i + 2)) (p2 : 0 ≤ i + 2 ∧ i + 2 < (ro 0).1) (k : am_ex (am_m ro (d + 47)) ro am_M258 Q (815, [some (am_O 0), some (am_R 0), some (am_R 66), some (am_I i)], [am_I ((ro 0).2 (i + 2)), am_I ((ro 0).2 (i + 1)), am_R 66, am_I x], (S, I, L), bc, bs)) : am_ex (am_m ro (d + 47)) ro am_M258 Q (804, [some (am_O 0), some (am_R 0), some (am_R 66), some (am_I i)], [am_I x], (S, I, L), bc, bs) := am_go 11 (And.intro o1 (And.intro p1 (And.intro o2 (And.intro p2 k))))
set_option maxRecDepth 20000 in
theorem lx_e15 (k : am_ex (am_m ro (d + 47)) ro am_M258 Q (1652, [some (am_O 0), some (am_R 0), some (am_R 66), some (am_I i)], [], (sh b, I, L), bc, bs)) : am_ex (am_m ro (d + 47)) ro am_M258 Q (818, [some (am_O 0), some (am_R 0), some (am_R 66), some (am_I i)], [am_I x, am_I x], (sh b, I, L), bc, bs) := am_go 1 (And.intro (fun _ => k) (fun c => (c rfl).elim))
set_option maxRecDepth 20000 in
theorem lx_c15 (hro : RoK ro) (hw : RoW ro) (h0 : ∀ j, am_r ((ro 0).2 j)) (hi : 0 ≤ i) (hN : i + 5 ≤ (ro 0).1) (hM : (ro 0).1 ≤ 2560) (hb : 44 ≤ bc ∧ 5827 ≤ bs) (hI : Inv b I L) (K : ∀ (b : Bool) (I L : Nat → Int → Int) (c2 s2 : Nat), Inv b I L → bc ≤ c2 + 44 → bs ≤ s2 + 5827 → am_ex (am_m ro (d + 47)) ro am_M258 Q (1652, [some (am_O 0), some (am_R 0), some (am_R 66), some (am_I i)], [], (sh b, I, L), c2, s2)) : am_ex (am_m ro (d + 47)) ro am_M258 Q (790, [some (am_O 0), some (am_R 0), some (am_R 66), some (am_I i)], [], (sh b, I, L), bc, bs) := by
  refine lx_p15 (by omega) (by omega) (by omega) (by omega) (am_call (am_mI (d := d + 46) rfl (by decide +kernel) (A_shareOf (d := d + 44) hI)) ?_)
  rintro r ⟨S, I1, L1⟩ ⟨q, hx, x, rfl⟩
  obtain ⟨fs, hS⟩ := hx 66 12 _ rfl
  refine lx_m15 (by omega) (by omega) (by omega) (by omega) ?_
  refine am_inv0 rfl rfl hS rfl ?_
  refine am_call q ?_
  rintro r2 h2 ⟨v, b2, I2, L2, e1, rfl, rfl, hI2⟩
  cases e1
  exact lx_e15 (K b2 I2 L2 _ _ hI2 (by omega) (by omega))
set_option maxRecDepth 20000 in
theorem lx_p16 (o1 : am_r (i + 1)) (p1 : 0 ≤ i + 1 ∧ i + 1 < (ro 0).1) (o2 : am_r (i + 2)) (p2 : 0 ≤ i + 2 ∧ i + 2 < (ro 0).1) (o3 : am_r (i + 3)) (p3 : 0 ≤ i + 3 ∧ i + 3 < (ro 0).1) (k : am_m ro (d + 47) 17 [am_R 0, am_I ((ro 0).2 (i + 1)), am_I ((ro 0).2 (i + 2)), am_I ((ro 0).2 (i + 3))] (sh b, I, L) (fun r h => am_ex (am_m ro (d + 47)) ro am_M258 Q (842, [some (am_O 0), some (am_R 0), some (am_R 66), some (am_I i)], am_push r [], h, bc, bs))) : am_ex (am_m ro (d + 47)) ro am_M258 Q (823, [some (am_O 0), some (am_R 0), some (am_R 66), some (am_I i)], [], (sh b, I, L), bc, bs) := am_go 17 (And.intro o1 (And.intro p1 (And.intro o2 (And.intro p2 (And.intro o3 (And.intro p3 k))))))
set_option maxRecDepth 20000 in
theorem lx_m16 (o1 : am_r (i + 1)) (p1 : 0 ≤ i + 1 ∧ i + 1 < (ro 0).1) (o2 : am_r (i + 2)) (p2 : 0 ≤ i + 2 ∧ i + 2 < (ro 0).1) (o3 : am_r (i + 3)) (p3 : 0 ≤ i + 3 ∧ i + 3 < (ro 0).1) (k : am_ex (am_m ro (d + 47)) ro am_M258 Q (858, [some (am_O 0), some (am_R 0), some (am_R 66), some (am_I i)], [am_I ((ro 0).2 (i + 3)), am_I ((ro 0).2 (i + 2)), am_I ((ro 0).2 (i + 1)), am_R 66, am_I x], (S, I, L), bc, bs)) : am_ex (am_m ro (d + 47)) ro am_M258 Q (842, [some (am_O 0), some (am_R 0), some (am_R 66), some (am_I i)], [am_I x], (S, I, L), bc, bs) := am_go 16 (And.intro o1 (And.intro p1 (And.intro o2 (And.intro p2 (And.intro o3 (And.intro p3 k))))))
set_option maxRecDepth 20000 in
theorem lx_e16 (k : am_ex (am_m ro (d + 47)) ro am_M258 Q (1652, [some (am_O 0), some (am_R 0), some (am_R 66), some (am_I i)], [], (sh b, I, L), bc, bs)) : am_ex (am_m ro (d + 47)) ro am_M258 Q (861, [some (am_O 0), some (am_R 0), some (am_R 66), some (am_I i)], [am_I x, am_I x], (sh b, I, L), bc, bs) := am_go 1 (And.intro (fun _ => k) (fun c => (c rfl).elim))
set_option maxRecDepth 20000 in
theorem lx_c16 (hro : RoK ro) (hw : RoW ro) (h0 : ∀ j, am_r ((ro 0).2 j)) (hi : 0 ≤ i) (hN : i + 5 ≤ (ro 0).1) (hM : (ro 0).1 ≤ 2560) (hb : 44 ≤ bc ∧ 5827 ≤ bs) (hI : Inv b I L) (K : ∀ (b : Bool) (I L : Nat → Int → Int) (c2 s2 : Nat), Inv b I L → bc ≤ c2 + 44 → bs ≤ s2 + 5827 → am_ex (am_m ro (d + 47)) ro am_M258 Q (1652, [some (am_O 0), some (am_R 0), some (am_R 66), some (am_I i)], [], (sh b, I, L), c2, s2)) : am_ex (am_m ro (d + 47)) ro am_M258 Q (823, [some (am_O 0), some (am_R 0), some (am_R 66), some (am_I i)], [], (sh b, I, L), bc, bs) := by
  refine lx_p16 (by omega) (by omega) (by omega) (by omega) (by omega) (by omega) (am_call (am_mI (d := d + 46) rfl (by decide +kernel) (A_same (d := d + 43) hI)) ?_)
  rintro r ⟨S, I1, L1⟩ ⟨q, hx, x, rfl⟩
  obtain ⟨fs, hS⟩ := hx 66 12 _ rfl
  refine lx_m16 (by omega) (by omega) (by omega) (by omega) (by omega) (by omega) ?_
  refine am_inv0 rfl rfl hS rfl ?_
  refine am_call q ?_
  rintro r2 h2 ⟨v, b2, I2, L2, e1, rfl, rfl, hI2⟩
  cases e1
  exact lx_e16 (K b2 I2 L2 _ _ hI2 (by omega) (by omega))
set_option maxRecDepth 20000 in
theorem lx_p17 (o1 : am_r (i + 1)) (p1 : 0 ≤ i + 1 ∧ i + 1 < (ro 0).1) (o2 : am_r (i + 2)) (p2 : 0 ≤ i + 2 ∧ i + 2 < (ro 0).1) (o3 : am_r (i + 3)) (p3 : 0 ≤ i + 3 ∧ i + 3 < (ro 0).1) (k : am_m ro (d + 47) 18 [am_R 0, am_I ((ro 0).2 (i + 1)), am_I ((ro 0).2 (i + 2)), am_I ((ro 0).2 (i + 3))] (sh b, I, L) (fun r h => am_ex (am_m ro (d + 47)) ro am_M258 Q (885, [some (am_O 0), some (am_R 0), some (am_R 66), some (am_I i)], am_push r [], h, bc, bs))) : am_ex (am_m ro (d + 47)) ro am_M258 Q (866, [some (am_O 0), some (am_R 0), some (am_R 66), some (am_I i)], [], (sh b, I, L), bc, bs) := am_go 17 (And.intro o1 (And.intro p1 (And.intro o2 (And.intro p2 (And.intro o3 (And.intro p3 k))))))
set_option maxRecDepth 20000 in
theorem lx_m17 (o1 : am_r (i + 1)) (p1 : 0 ≤ i + 1 ∧ i + 1 < (ro 0).1) (o2 : am_r (i + 2)) (p2 : 0 ≤ i + 2 ∧ i + 2 < (ro 0).1) (o3 : am_r (i + 3)) (p3 : 0 ≤ i + 3 ∧ i + 3 < (ro 0).1) (k : am_ex (am_m ro (d + 47)) ro am_M258 Q (901, [some (am_O 0), some (am_R 0), some (am_R 66), some (am_I i)], [am_I ((ro 0).2 (i + 3)), am_I ((ro 0).2 (i + 2)), am_I ((ro 0).2 (i + 1)), am_R 66, am_I x], (S, I, L), bc, bs)) : am_ex (am_m ro (d + 47)) ro am_M258 Q (885, [some (am_O 0), some (am_R 0), some (am_R 66), some (am_I i)], [am_I x], (S, I, L), bc, bs) := am_go 16 (And.intro o1 (And.intro p1 (And.intro o2 (And.intro p2 (And.intro o3 (And.intro p3 k))))))
set_option maxRecDepth 20000 in
theorem lx_e17 (k : am_ex (am_m ro (d + 47)) ro am_M258 Q (1652, [some (am_O 0), some (am_R 0), some (am_R 66), some (am_I i)], [], (sh b, I, L), bc, bs)) : am_ex (am_m ro (d + 47)) ro am_M258 Q (904, [some (am_O 0), some (am_R 0), some (am_R 66), some (am_I i)], [am_I x, am_I x], (sh b, I, L), bc, bs) := am_go 1 (And.intro (fun _ => k) (fun c => (c rfl).elim))
set_option maxRecDepth 20000 in
theorem lx_c17 (hro : RoK ro) (hw : RoW ro) (h0 : ∀ j, am_r ((ro 0).2 j)) (hi : 0 ≤ i) (hN : i + 5 ≤ (ro 0).1) (hM : (ro 0).1 ≤ 2560) (hb : 44 ≤ bc ∧ 5827 ≤ bs) (hI : Inv b I L) (K : ∀ (b : Bool) (I L : Nat → Int → Int) (c2 s2 : Nat), Inv b I L → bc ≤ c2 + 44 → bs ≤ s2 + 5827 → am_ex (am_m ro (d + 47)) ro am_M258 Q (1652, [some (am_O 0), some (am_R 0), some (am_R 66), some (am_I i)], [], (sh b, I, L), c2, s2)) : am_ex (am_m ro (d + 47)) ro am_M258 Q (866, [some (am_O 0), some (am_R 0), some (am_R 66), some (am_I i)], [], (sh b, I, L), bc, bs) := by
  refine lx_p17 (by omega) (by omega) (by omega) (by omega) (by omega) (by omega) (am_call (am_mI (d := d + 46) rfl (by decide +kernel) (A_join (d := d + 43) hI)) ?_)
  rintro r ⟨S, I1, L1⟩ ⟨q, hx, x, rfl⟩
  obtain ⟨fs, hS⟩ := hx 66 12 _ rfl
  refine lx_m17 (by omega) (by omega) (by omega) (by omega) (by omega) (by omega) ?_
  refine am_inv0 rfl rfl hS rfl ?_
  refine am_call q ?_
  rintro r2 h2 ⟨v, b2, I2, L2, e1, rfl, rfl, hI2⟩
  cases e1
  exact lx_e17 (K b2 I2 L2 _ _ hI2 (by omega) (by omega))
set_option maxRecDepth 20000 in
theorem lx_p18 (o1 : am_r (i + 1)) (p1 : 0 ≤ i + 1 ∧ i + 1 < (ro 0).1) (o2 : am_r (i + 2)) (p2 : 0 ≤ i + 2 ∧ i + 2 < (ro 0).1) (k : am_m ro (d + 47) 19 [am_R 0, am_I ((ro 0).2 (i + 1)), am_I ((ro 0).2 (i + 2))] (sh b, I, L) (fun r h => am_ex (am_m ro (d + 47)) ro am_M258 Q (923, [some (am_O 0), some (am_R 0), some (am_R 66), some (am_I i)], am_push r [], h, bc, bs))) : am_ex (am_m ro (d + 47)) ro am_M258 Q (909, [some (am_O 0), some (am_R 0), some (am_R 66), some (am_I i)], [], (sh b, I, L), bc, bs) := am_go 12 (And.intro o1 (And.intro p1 (And.intro o2 (And.intro p2 k))))
set_option maxRecDepth 20000 in
theorem lx_m18 (o1 : am_r (i + 1)) (p1 : 0 ≤ i + 1 ∧ i + 1 < (ro 0).1) (o2 : am_r (i + 2)) (p2 : 0 ≤ i + 2 ∧ i + 2 < (ro 0).1) (k : am_ex (am_m ro (d + 47)) ro am_M258 Q (934, [some (am_O 0), some (am_R 0), some (am_R 66), some (am_I i)], [am_I ((ro 0).2 (i + 2)), am_I ((ro 0).2 (i + 1)), am_R 66, am_I x], (S, I, L), bc, bs)) : am_ex (am_m ro (d + 47)) ro am_M258 Q (923, [some (am_O 0), some (am_R 0), some (am_R 66), some (am_I i)], [am_I x], (S, I, L), bc, bs) := am_go 11 (And.intro o1 (And.intro p1 (And.intro o2 (And.intro p2 k))))
set_option maxRecDepth 20000 in
theorem lx_e18 (k : am_ex (am_m ro (d + 47)) ro am_M258 Q (1652, [some (am_O 0), some (am_R 0), some (am_R 66), some (am_I i)], [], (sh b, I, L), bc, bs)) : am_ex (am_m ro (d + 47)) ro am_M258 Q (937, [some (am_O 0), some (am_R 0), some (am_R 66), some (am_I i)], [am_I x, am_I x], (sh b, I, L), bc, bs) := am_go 1 (And.intro (fun _ => k) (fun c => (c rfl).elim))
set_option maxRecDepth 20000 in
theorem lx_c18 (hro : RoK ro) (hw : RoW ro) (h0 : ∀ j, am_r ((ro 0).2 j)) (hi : 0 ≤ i) (hN : i + 5 ≤ (ro 0).1) (hM : (ro 0).1 ≤ 2560) (hb : 44 ≤ bc ∧ 5827 ≤ bs) (hI : Inv b I L) (K : ∀ (b : Bool) (I L : Nat → Int → Int) (c2 s2 : Nat), Inv b I L → bc ≤ c2 + 44 → bs ≤ s2 + 5827 → am_ex (am_m ro (d + 47)) ro am_M258 Q (1652, [some (am_O 0), some (am_R 0), some (am_R 66), some (am_I i)], [], (sh b, I, L), c2, s2)) : am_ex (am_m ro (d + 47)) ro am_M258 Q (909, [some (am_O 0), some (am_R 0), some (am_R 66), some (am_I i)], [], (sh b, I, L), bc, bs) := by
  refine lx_p18 (by omega) (by omega) (by omega) (by omega) (am_call (am_mI (d := d + 46) rfl (by decide +kernel) (A_feed (d := d + 45) hI)) ?_)
  rintro r ⟨S, I1, L1⟩ ⟨q, hx, x, rfl⟩
  obtain ⟨fs, hS⟩ := hx 66 12 _ rfl
  refine lx_m18 (by omega) (by omega) (by omega) (by omega) ?_
  refine am_inv0 rfl rfl hS rfl ?_
  refine am_call q ?_
  rintro r2 h2 ⟨v, b2, I2, L2, e1, rfl, rfl, hI2⟩
  cases e1
  exact lx_e18 (K b2 I2 L2 _ _ hI2 (by omega) (by omega))
set_option maxRecDepth 20000 in
theorem lx_p19  (k : am_m ro (d + 47) 20 [am_R 0] (sh b, I, L) (fun r h => am_ex (am_m ro (d + 47)) ro am_M258 Q (946, [some (am_O 0), some (am_R 0), some (am_R 66), some (am_I i)], am_push r [], h, bc, bs))) : am_ex (am_m ro (d + 47)) ro am_M258 Q (942, [some (am_O 0), some (am_R 0), some (am_R 66), some (am_I i)], [], (sh b, I, L), bc, bs) := am_go 2 k
set_option maxRecDepth 20000 in
theorem lx_m19  (k : am_ex (am_m ro (d + 47)) ro am_M258 Q (947, [some (am_O 0), some (am_R 0), some (am_R 66), some (am_I i)], [am_R 66, am_I x], (S, I, L), bc, bs)) : am_ex (am_m ro (d + 47)) ro am_M258 Q (946, [some (am_O 0), some (am_R 0), some (am_R 66), some (am_I i)], [am_I x], (S, I, L), bc, bs) := am_go 1 k
set_option maxRecDepth 20000 in
theorem lx_e19 (k : am_ex (am_m ro (d + 47)) ro am_M258 Q (1652, [some (am_O 0), some (am_R 0), some (am_R 66), some (am_I i)], [], (sh b, I, L), bc, bs)) : am_ex (am_m ro (d + 47)) ro am_M258 Q (950, [some (am_O 0), some (am_R 0), some (am_R 66), some (am_I i)], [am_I x, am_I x], (sh b, I, L), bc, bs) := am_go 1 (And.intro (fun _ => k) (fun c => (c rfl).elim))
set_option maxRecDepth 20000 in
theorem lx_c19 (hro : RoK ro) (hw : RoW ro) (h0 : ∀ j, am_r ((ro 0).2 j)) (hi : 0 ≤ i) (hN : i + 5 ≤ (ro 0).1) (hM : (ro 0).1 ≤ 2560) (hb : 44 ≤ bc ∧ 5827 ≤ bs) (hI : Inv b I L) (K : ∀ (b : Bool) (I L : Nat → Int → Int) (c2 s2 : Nat), Inv b I L → bc ≤ c2 + 44 → bs ≤ s2 + 5827 → am_ex (am_m ro (d + 47)) ro am_M258 Q (1652, [some (am_O 0), some (am_R 0), some (am_R 66), some (am_I i)], [], (sh b, I, L), c2, s2)) : am_ex (am_m ro (d + 47)) ro am_M258 Q (942, [some (am_O 0), some (am_R 0), some (am_R 66), some (am_I i)], [], (sh b, I, L), bc, bs) := by
  refine lx_p19  (am_call (am_mI (d := d + 46) rfl (by decide +kernel) (A_wipe (d := d + 46) hI)) ?_)
  rintro r ⟨S, I1, L1⟩ ⟨q, hx, x, rfl⟩
  obtain ⟨fs, hS⟩ := hx 66 12 _ rfl
  refine lx_m19  ?_
  refine am_inv0 rfl rfl hS rfl ?_
  refine am_call q ?_
  rintro r2 h2 ⟨v, b2, I2, L2, e1, rfl, rfl, hI2⟩
  cases e1
  exact lx_e19 (K b2 I2 L2 _ _ hI2 (by omega) (by omega))
set_option maxRecDepth 20000 in
theorem lx_p20 (o1 : am_r (i + 1)) (p1 : 0 ≤ i + 1 ∧ i + 1 < (ro 0).1) (o2 : am_r (i + 2)) (p2 : 0 ≤ i + 2 ∧ i + 2 < (ro 0).1) (k : am_m ro (d + 47) 21 [am_R 0, am_I ((ro 0).2 (i + 1)), am_I ((ro 0).2 (i + 2))] (sh b, I, L) (fun r h => am_ex (am_m ro (d + 47)) ro am_M258 Q (969, [some (am_O 0), some (am_R 0), some (am_R 66), some (am_I i)], am_push r [], h, bc, bs))) : am_ex (am_m ro (d + 47)) ro am_M258 Q (955, [some (am_O 0), some (am_R 0), some (am_R 66), some (am_I i)], [], (sh b, I, L), bc, bs) := am_go 12 (And.intro o1 (And.intro p1 (And.intro o2 (And.intro p2 k))))
set_option maxRecDepth 20000 in
theorem lx_m20 (o1 : am_r (i + 1)) (p1 : 0 ≤ i + 1 ∧ i + 1 < (ro 0).1) (o2 : am_r (i + 2)) (p2 : 0 ≤ i + 2 ∧ i + 2 < (ro 0).1) (k : am_ex (am_m ro (d + 47)) ro am_M258 Q (980, [some (am_O 0), some (am_R 0), some (am_R 66), some (am_I i)], [am_I ((ro 0).2 (i + 2)), am_I ((ro 0).2 (i + 1)), am_R 66, am_I x], (S, I, L), bc, bs)) : am_ex (am_m ro (d + 47)) ro am_M258 Q (969, [some (am_O 0), some (am_R 0), some (am_R 66), some (am_I i)], [am_I x], (S, I, L), bc, bs) := am_go 11 (And.intro o1 (And.intro p1 (And.intro o2 (And.intro p2 k))))
set_option maxRecDepth 20000 in
theorem lx_e20 (k : am_ex (am_m ro (d + 47)) ro am_M258 Q (1652, [some (am_O 0), some (am_R 0), some (am_R 66), some (am_I i)], [], (sh b, I, L), bc, bs)) : am_ex (am_m ro (d + 47)) ro am_M258 Q (983, [some (am_O 0), some (am_R 0), some (am_R 66), some (am_I i)], [am_I x, am_I x], (sh b, I, L), bc, bs) := am_go 1 (And.intro (fun _ => k) (fun c => (c rfl).elim))
set_option maxRecDepth 20000 in
theorem lx_c20 (hro : RoK ro) (hw : RoW ro) (h0 : ∀ j, am_r ((ro 0).2 j)) (hi : 0 ≤ i) (hN : i + 5 ≤ (ro 0).1) (hM : (ro 0).1 ≤ 2560) (hb : 44 ≤ bc ∧ 5827 ≤ bs) (hI : Inv b I L) (K : ∀ (b : Bool) (I L : Nat → Int → Int) (c2 s2 : Nat), Inv b I L → bc ≤ c2 + 44 → bs ≤ s2 + 5827 → am_ex (am_m ro (d + 47)) ro am_M258 Q (1652, [some (am_O 0), some (am_R 0), some (am_R 66), some (am_I i)], [], (sh b, I, L), c2, s2)) : am_ex (am_m ro (d + 47)) ro am_M258 Q (955, [some (am_O 0), some (am_R 0), some (am_R 66), some (am_I i)], [], (sh b, I, L), bc, bs) := by
  refine lx_p20 (by omega) (by omega) (by omega) (by omega) (am_call (am_mI (d := d + 46) rfl (by decide +kernel) (A_rule (d := d + 0) hI hw)) ?_)
  rintro r ⟨S, I1, L1⟩ ⟨q, hx, x, rfl⟩
  obtain ⟨fs, hS⟩ := hx 66 12 _ rfl
  refine lx_m20 (by omega) (by omega) (by omega) (by omega) ?_
  refine am_inv0 rfl rfl hS rfl ?_
  refine am_call q ?_
  rintro r2 h2 ⟨v, b2, I2, L2, e1, rfl, rfl, hI2⟩
  cases e1
  exact lx_e20 (K b2 I2 L2 _ _ hI2 (by omega) (by omega))
set_option maxRecDepth 20000 in
theorem lx_p21 (o1 : am_r (i + 1)) (p1 : 0 ≤ i + 1 ∧ i + 1 < (ro 0).1) (o2 : am_r (i + 2)) (p2 : 0 ≤ i + 2 ∧ i + 2 < (ro 0).1) (o3 : am_r (i + 3)) (p3 : 0 ≤ i + 3 ∧ i + 3 < (ro 0).1) (k : am_m ro (d + 47) 22 [am_R 0, am_I ((ro 0).2 (i + 1)), am_I ((ro 0).2 (i + 2)), am_I ((ro 0).2 (i + 3))] (sh b, I, L) (fun r h => am_ex (am_m ro (d + 47)) ro am_M258 Q (1007, [some (am_O 0), some (am_R 0), some (am_R 66), some (am_I i)], am_push r [], h, bc, bs))) : am_ex (am_m ro (d + 47)) ro am_M258 Q (988, [some (am_O 0), some (am_R 0), some (am_R 66), some (am_I i)], [], (sh b, I, L), bc, bs) := am_go 17 (And.intro o1 (And.intro p1 (And.intro o2 (And.intro p2 (And.intro o3 (And.intro p3 k))))))
set_option maxRecDepth 20000 in
theorem lx_m21 (o1 : am_r (i + 1)) (p1 : 0 ≤ i + 1 ∧ i + 1 < (ro 0).1) (o2 : am_r (i + 2)) (p2 : 0 ≤ i + 2 ∧ i + 2 < (ro 0).1) (o3 : am_r (i + 3)) (p3 : 0 ≤ i + 3 ∧ i + 3 < (ro 0).1) (k : am_ex (am_m ro (d + 47)) ro am_M258 Q (1023, [some (am_O 0), some (am_R 0), some (am_R 66), some (am_I i)], [am_I ((ro 0).2 (i + 3)), am_I ((ro 0).2 (i + 2)), am_I ((ro 0).2 (i + 1)), am_R 66, am_I x], (S, I, L), bc, bs)) : am_ex (am_m ro (d + 47)) ro am_M258 Q (1007, [some (am_O 0), some (am_R 0), some (am_R 66), some (am_I i)], [am_I x], (S, I, L), bc, bs) := am_go 16 (And.intro o1 (And.intro p1 (And.intro o2 (And.intro p2 (And.intro o3 (And.intro p3 k))))))
set_option maxRecDepth 20000 in
theorem lx_e21 (k : am_ex (am_m ro (d + 47)) ro am_M258 Q (1652, [some (am_O 0), some (am_R 0), some (am_R 66), some (am_I i)], [], (sh b, I, L), bc, bs)) : am_ex (am_m ro (d + 47)) ro am_M258 Q (1026, [some (am_O 0), some (am_R 0), some (am_R 66), some (am_I i)], [am_I x, am_I x], (sh b, I, L), bc, bs) := am_go 1 (And.intro (fun _ => k) (fun c => (c rfl).elim))
set_option maxRecDepth 20000 in
theorem lx_c21 (hro : RoK ro) (hw : RoW ro) (h0 : ∀ j, am_r ((ro 0).2 j)) (hi : 0 ≤ i) (hN : i + 5 ≤ (ro 0).1) (hM : (ro 0).1 ≤ 2560) (hb : 44 ≤ bc ∧ 5827 ≤ bs) (hI : Inv b I L) (K : ∀ (b : Bool) (I L : Nat → Int → Int) (c2 s2 : Nat), Inv b I L → bc ≤ c2 + 44 → bs ≤ s2 + 5827 → am_ex (am_m ro (d + 47)) ro am_M258 Q (1652, [some (am_O 0), some (am_R 0), some (am_R 66), some (am_I i)], [], (sh b, I, L), c2, s2)) : am_ex (am_m ro (d + 47)) ro am_M258 Q (988, [some (am_O 0), some (am_R 0), some (am_R 66), some (am_I i)], [], (sh b, I, L), bc, bs) := by
  refine lx_p21 (by omega) (by omega) (by omega) (by omega) (by omega) (by omega) (am_call (am_mI (d := d + 46) rfl (by decide +kernel) (A_says (d := d + 41) hro hI)) ?_)
  rintro r ⟨S, I1, L1⟩ ⟨q, hx, x, rfl⟩
  obtain ⟨fs, hS⟩ := hx 66 12 _ rfl
  refine lx_m21 (by omega) (by omega) (by omega) (by omega) (by omega) (by omega) ?_
  refine am_inv0 rfl rfl hS rfl ?_
  refine am_call q ?_
  rintro r2 h2 ⟨v, b2, I2, L2, e1, rfl, rfl, hI2⟩
  cases e1
  exact lx_e21 (K b2 I2 L2 _ _ hI2 (by omega) (by omega))
set_option maxRecDepth 20000 in
theorem lx_p22 (o1 : am_r (i + 1)) (p1 : 0 ≤ i + 1 ∧ i + 1 < (ro 0).1) (o2 : am_r (i + 2)) (p2 : 0 ≤ i + 2 ∧ i + 2 < (ro 0).1) (o3 : am_r (i + 3)) (p3 : 0 ≤ i + 3 ∧ i + 3 < (ro 0).1) (k : am_m ro (d + 47) 23 [am_R 0, am_I ((ro 0).2 (i + 1)), am_I ((ro 0).2 (i + 2)), am_I ((ro 0).2 (i + 3))] (sh b, I, L) (fun r h => am_ex (am_m ro (d + 47)) ro am_M258 Q (1050, [some (am_O 0), some (am_R 0), some (am_R 66), some (am_I i)], am_push r [], h, bc, bs))) : am_ex (am_m ro (d + 47)) ro am_M258 Q (1031, [some (am_O 0), some (am_R 0), some (am_R 66), some (am_I i)], [], (sh b, I, L), bc, bs) := am_go 17 (And.intro o1 (And.intro p1 (And.intro o2 (And.intro p2 (And.intro o3 (And.intro p3 k))))))
set_option maxRecDepth 20000 in
theorem lx_m22 (o1 : am_r (i + 1)) (p1 : 0 ≤ i + 1 ∧ i + 1 < (ro 0).1) (o2 : am_r (i + 2)) (p2 : 0 ≤ i + 2 ∧ i + 2 < (ro 0).1) (o3 : am_r (i + 3)) (p3 : 0 ≤ i + 3 ∧ i + 3 < (ro 0).1) (k : am_ex (am_m ro (d + 47)) ro am_M258 Q (1066, [some (am_O 0), some (am_R 0), some (am_R 66), some (am_I i)], [am_I ((ro 0).2 (i + 3)), am_I ((ro 0).2 (i + 2)), am_I ((ro 0).2 (i + 1)), am_R 66, am_I x], (S, I, L), bc, bs)) : am_ex (am_m ro (d + 47)) ro am_M258 Q (1050, [some (am_O 0), some (am_R 0), some (am_R 66), some (am_I i)], [am_I x], (S, I, L), bc, bs) := am_go 16 (And.intro o1 (And.intro p1 (And.intro o2 (And.intro p2 (And.intro o3 (And.intro p3 k))))))
set_option maxRecDepth 20000 in
theorem lx_e22 (k : am_ex (am_m ro (d + 47)) ro am_M258 Q (1652, [some (am_O 0), some (am_R 0), some (am_R 66), some (am_I i)], [], (sh b, I, L), bc, bs)) : am_ex (am_m ro (d + 47)) ro am_M258 Q (1069, [some (am_O 0), some (am_R 0), some (am_R 66), some (am_I i)], [am_I x, am_I x], (sh b, I, L), bc, bs) := am_go 1 (And.intro (fun _ => k) (fun c => (c rfl).elim))
set_option maxRecDepth 20000 in
theorem lx_c22 (hro : RoK ro) (hw : RoW ro) (h0 : ∀ j, am_r ((ro 0).2 j)) (hi : 0 ≤ i) (hN : i + 5 ≤ (ro 0).1) (hM : (ro 0).1 ≤ 2560) (hb : 44 ≤ bc ∧ 5827 ≤ bs) (hI : Inv b I L) (K : ∀ (b : Bool) (I L : Nat → Int → Int) (c2 s2 : Nat), Inv b I L → bc ≤ c2 + 44 → bs ≤ s2 + 5827 → am_ex (am_m ro (d + 47)) ro am_M258 Q (1652, [some (am_O 0), some (am_R 0), some (am_R 66), some (am_I i)], [], (sh b, I, L), c2, s2)) : am_ex (am_m ro (d + 47)) ro am_M258 Q (1031, [some (am_O 0), some (am_R 0), some (am_R 66), some (am_I i)], [], (sh b, I, L), bc, bs) := by
  refine lx_p22 (by omega) (by omega) (by omega) (by omega) (by omega) (by omega) (am_call (am_mI (d := d + 46) rfl (by decide +kernel) (A_why (d := d + 41) hI)) ?_)
  rintro r ⟨S, I1, L1⟩ ⟨q, hx, x, rfl⟩
  obtain ⟨fs, hS⟩ := hx 66 12 _ rfl
  refine lx_m22 (by omega) (by omega) (by omega) (by omega) (by omega) (by omega) ?_
  refine am_inv0 rfl rfl hS rfl ?_
  refine am_call q ?_
  rintro r2 h2 ⟨v, b2, I2, L2, e1, rfl, rfl, hI2⟩
  cases e1
  exact lx_e22 (K b2 I2 L2 _ _ hI2 (by omega) (by omega))
set_option maxRecDepth 20000 in
theorem lx_p23 (o1 : am_r (i + 1)) (p1 : 0 ≤ i + 1 ∧ i + 1 < (ro 0).1) (k : am_m ro (d + 47) 24 [am_R 0, am_I ((ro 0).2 (i + 1))] (sh b, I, L) (fun r h => am_ex (am_m ro (d + 47)) ro am_M258 Q (1083, [some (am_O 0), some (am_R 0), some (am_R 66), some (am_I i)], am_push r [], h, bc, bs))) : am_ex (am_m ro (d + 47)) ro am_M258 Q (1074, [some (am_O 0), some (am_R 0), some (am_R 66), some (am_I i)], [], (sh b, I, L), bc, bs) := am_go 7 (And.intro o1 (And.intro p1 k))
set_option maxRecDepth 20000 in
theorem lx_m23 (o1 : am_r (i + 1)) (p1 : 0 ≤ i + 1 ∧ i + 1 < (ro 0).1) (k : am_ex (am_m ro (d + 47)) ro am_M258 Q (1089, [some (am_O 0), some (am_R 0), some (am_R 66), some (am_I i)], [am_I ((ro 0).2 (i + 1)), am_R 66, am_I x], (S, I, L), bc, bs)) : am_ex (am_m ro (d + 47)) ro am_M258 Q (1083, [some (am_O 0), some (am_R 0), some (am_R 66), some (am_I i)], [am_I x], (S, I, L), bc, bs) := am_go 6 (And.intro o1 (And.intro p1 k))
set_option maxRecDepth 20000 in
theorem lx_e23 (k : am_ex (am_m ro (d + 47)) ro am_M258 Q (1652, [some (am_O 0), some (am_R 0), some (am_R 66), some (am_I i)], [], (sh b, I, L), bc, bs)) : am_ex (am_m ro (d + 47)) ro am_M258 Q (1092, [some (am_O 0), some (am_R 0), some (am_R 66), some (am_I i)], [am_I x, am_I x], (sh b, I, L), bc, bs) := am_go 1 (And.intro (fun _ => k) (fun c => (c rfl).elim))
set_option maxRecDepth 20000 in
theorem lx_c23 (hro : RoK ro) (hw : RoW ro) (h0 : ∀ j, am_r ((ro 0).2 j)) (hi : 0 ≤ i) (hN : i + 5 ≤ (ro 0).1) (hM : (ro 0).1 ≤ 2560) (hb : 44 ≤ bc ∧ 5827 ≤ bs) (hI : Inv b I L) (K : ∀ (b : Bool) (I L : Nat → Int → Int) (c2 s2 : Nat), Inv b I L → bc ≤ c2 + 44 → bs ≤ s2 + 5827 → am_ex (am_m ro (d + 47)) ro am_M258 Q (1652, [some (am_O 0), some (am_R 0), some (am_R 66), some (am_I i)], [], (sh b, I, L), c2, s2)) : am_ex (am_m ro (d + 47)) ro am_M258 Q (1074, [some (am_O 0), some (am_R 0), some (am_R 66), some (am_I i)], [], (sh b, I, L), bc, bs) := by
  refine lx_p23 (by omega) (by omega) (am_call (am_mI (d := d + 46) rfl (by decide +kernel) (A_fund (d := d + 44) hI)) ?_)
  rintro r ⟨S, I1, L1⟩ ⟨q, hx, x, rfl⟩
  obtain ⟨fs, hS⟩ := hx 66 12 _ rfl
  refine lx_m23 (by omega) (by omega) ?_
  refine am_inv0 rfl rfl hS rfl ?_
  refine am_call q ?_
  rintro r2 h2 ⟨v, b2, I2, L2, e1, rfl, rfl, hI2⟩
  cases e1
  exact lx_e23 (K b2 I2 L2 _ _ hI2 (by omega) (by omega))
set_option maxRecDepth 20000 in
theorem lx_p24  (k : am_m ro (d + 47) 25 [am_R 0] (sh b, I, L) (fun r h => am_ex (am_m ro (d + 47)) ro am_M258 Q (1101, [some (am_O 0), some (am_R 0), some (am_R 66), some (am_I i)], am_push r [], h, bc, bs))) : am_ex (am_m ro (d + 47)) ro am_M258 Q (1097, [some (am_O 0), some (am_R 0), some (am_R 66), some (am_I i)], [], (sh b, I, L), bc, bs) := am_go 2 k
set_option maxRecDepth 20000 in
theorem lx_m24  (k : am_ex (am_m ro (d + 47)) ro am_M258 Q (1102, [some (am_O 0), some (am_R 0), some (am_R 66), some (am_I i)], [am_R 66, am_I x], (S, I, L), bc, bs)) : am_ex (am_m ro (d + 47)) ro am_M258 Q (1101, [some (am_O 0), some (am_R 0), some (am_R 66), some (am_I i)], [am_I x], (S, I, L), bc, bs) := am_go 1 k
set_option maxRecDepth 20000 in
theorem lx_e24 (k : am_ex (am_m ro (d + 47)) ro am_M258 Q (1652, [some (am_O 0), some (am_R 0), some (am_R 66), some (am_I i)], [], (sh b, I, L), bc, bs)) : am_ex (am_m ro (d + 47)) ro am_M258 Q (1105, [some (am_O 0), some (am_R 0), some (am_R 66), some (am_I i)], [am_I x, am_I x], (sh b, I, L), bc, bs) := am_go 1 (And.intro (fun _ => k) (fun c => (c rfl).elim))
set_option maxRecDepth 20000 in
theorem lx_c24 (hro : RoK ro) (hw : RoW ro) (h0 : ∀ j, am_r ((ro 0).2 j)) (hi : 0 ≤ i) (hN : i + 5 ≤ (ro 0).1) (hM : (ro 0).1 ≤ 2560) (hb : 44 ≤ bc ∧ 5827 ≤ bs) (hI : Inv b I L) (K : ∀ (b : Bool) (I L : Nat → Int → Int) (c2 s2 : Nat), Inv b I L → bc ≤ c2 + 44 → bs ≤ s2 + 5827 → am_ex (am_m ro (d + 47)) ro am_M258 Q (1652, [some (am_O 0), some (am_R 0), some (am_R 66), some (am_I i)], [], (sh b, I, L), c2, s2)) : am_ex (am_m ro (d + 47)) ro am_M258 Q (1097, [some (am_O 0), some (am_R 0), some (am_R 66), some (am_I i)], [], (sh b, I, L), bc, bs) := by
  refine lx_p24  (am_call (am_mI (d := d + 46) rfl (by decide +kernel) (A_close (d := d + 37) hro hI)) ?_)
  rintro r ⟨S, I1, L1⟩ ⟨q, hx, x, rfl⟩
  obtain ⟨fs, hS⟩ := hx 66 12 _ rfl
  refine lx_m24  ?_
  refine am_inv0 rfl rfl hS rfl ?_
  refine am_call q ?_
  rintro r2 h2 ⟨v, b2, I2, L2, e1, rfl, rfl, hI2⟩
  cases e1
  exact lx_e24 (K b2 I2 L2 _ _ hI2 (by omega) (by omega))
set_option maxRecDepth 20000 in
theorem lx_p25 (o1 : am_r (i + 1)) (p1 : 0 ≤ i + 1 ∧ i + 1 < (ro 0).1) (o2 : am_r (i + 2)) (p2 : 0 ≤ i + 2 ∧ i + 2 < (ro 0).1) (o3 : am_r (i + 3)) (p3 : 0 ≤ i + 3 ∧ i + 3 < (ro 0).1) (k : am_m ro (d + 47) 26 [am_R 0, am_I ((ro 0).2 (i + 1)), am_I ((ro 0).2 (i + 2)), am_I ((ro 0).2 (i + 3))] (sh b, I, L) (fun r h => am_ex (am_m ro (d + 47)) ro am_M258 Q (1129, [some (am_O 0), some (am_R 0), some (am_R 66), some (am_I i)], am_push r [], h, bc, bs))) : am_ex (am_m ro (d + 47)) ro am_M258 Q (1110, [some (am_O 0), some (am_R 0), some (am_R 66), some (am_I i)], [], (sh b, I, L), bc, bs) := am_go 17 (And.intro o1 (And.intro p1 (And.intro o2 (And.intro p2 (And.intro o3 (And.intro p3 k))))))
set_option maxRecDepth 20000 in
theorem lx_m25 (o1 : am_r (i + 1)) (p1 : 0 ≤ i + 1 ∧ i + 1 < (ro 0).1) (o2 : am_r (i + 2)) (p2 : 0 ≤ i + 2 ∧ i + 2 < (ro 0).1) (o3 : am_r (i + 3)) (p3 : 0 ≤ i + 3 ∧ i + 3 < (ro 0).1) (k : am_ex (am_m ro (d + 47)) ro am_M258 Q (1145, [some (am_O 0), some (am_R 0), some (am_R 66), some (am_I i)], [am_I ((ro 0).2 (i + 3)), am_I ((ro 0).2 (i + 2)), am_I ((ro 0).2 (i + 1)), am_R 66, am_I x], (S, I, L), bc, bs)) : am_ex (am_m ro (d + 47)) ro am_M258 Q (1129, [some (am_O 0), some (am_R 0), some (am_R 66), some (am_I i)], [am_I x], (S, I, L), bc, bs) := am_go 16 (And.intro o1 (And.intro p1 (And.intro o2 (And.intro p2 (And.intro o3 (And.intro p3 k))))))
set_option maxRecDepth 20000 in
theorem lx_e25 (k : am_ex (am_m ro (d + 47)) ro am_M258 Q (1652, [some (am_O 0), some (am_R 0), some (am_R 66), some (am_I i)], [], (sh b, I, L), bc, bs)) : am_ex (am_m ro (d + 47)) ro am_M258 Q (1148, [some (am_O 0), some (am_R 0), some (am_R 66), some (am_I i)], [am_I x, am_I x], (sh b, I, L), bc, bs) := am_go 1 (And.intro (fun _ => k) (fun c => (c rfl).elim))
set_option maxRecDepth 20000 in
theorem lx_c25 (hro : RoK ro) (hw : RoW ro) (h0 : ∀ j, am_r ((ro 0).2 j)) (hi : 0 ≤ i) (hN : i + 5 ≤ (ro 0).1) (hM : (ro 0).1 ≤ 2560) (hb : 44 ≤ bc ∧ 5827 ≤ bs) (hI : Inv b I L) (K : ∀ (b : Bool) (I L : Nat → Int → Int) (c2 s2 : Nat), Inv b I L → bc ≤ c2 + 44 → bs ≤ s2 + 5827 → am_ex (am_m ro (d + 47)) ro am_M258 Q (1652, [some (am_O 0), some (am_R 0), some (am_R 66), some (am_I i)], [], (sh b, I, L), c2, s2)) : am_ex (am_m ro (d + 47)) ro am_M258 Q (1110, [some (am_O 0), some (am_R 0), some (am_R 66), some (am_I i)], [], (sh b, I, L), bc, bs) := by
  refine lx_p25 (by omega) (by omega) (by omega) (by omega) (by omega) (by omega) (am_call (am_mI (d := d + 46) rfl (by decide +kernel) (A_estimate (d := d + 42) hI)) ?_)
  rintro r ⟨S, I1, L1⟩ ⟨q, hx, x, rfl⟩
  obtain ⟨fs, hS⟩ := hx 66 12 _ rfl
  refine lx_m25 (by omega) (by omega) (by omega) (by omega) (by omega) (by omega) ?_
  refine am_inv0 rfl rfl hS rfl ?_
  refine am_call q ?_
  rintro r2 h2 ⟨v, b2, I2, L2, e1, rfl, rfl, hI2⟩
  cases e1
  exact lx_e25 (K b2 I2 L2 _ _ hI2 (by omega) (by omega))
set_option maxRecDepth 20000 in
theorem lx_p26 (o1 : am_r (i + 1)) (p1 : 0 ≤ i + 1 ∧ i + 1 < (ro 0).1) (o2 : am_r (i + 2)) (p2 : 0 ≤ i + 2 ∧ i + 2 < (ro 0).1) (k : am_m ro (d + 47) 27 [am_R 0, am_I ((ro 0).2 (i + 1)), am_I ((ro 0).2 (i + 2))] (sh b, I, L) (fun r h => am_ex (am_m ro (d + 47)) ro am_M258 Q (1167, [some (am_O 0), some (am_R 0), some (am_R 66), some (am_I i)], am_push r [], h, bc, bs))) : am_ex (am_m ro (d + 47)) ro am_M258 Q (1153, [some (am_O 0), some (am_R 0), some (am_R 66), some (am_I i)], [], (sh b, I, L), bc, bs) := am_go 12 (And.intro o1 (And.intro p1 (And.intro o2 (And.intro p2 k))))
set_option maxRecDepth 20000 in
theorem lx_m26 (o1 : am_r (i + 1)) (p1 : 0 ≤ i + 1 ∧ i + 1 < (ro 0).1) (o2 : am_r (i + 2)) (p2 : 0 ≤ i + 2 ∧ i + 2 < (ro 0).1) (k : am_ex (am_m ro (d + 47)) ro am_M258 Q (1178, [some (am_O 0), some (am_R 0), some (am_R 66), some (am_I i)], [am_I ((ro 0).2 (i + 2)), am_I ((ro 0).2 (i + 1)), am_R 66, am_L x], (S, I, L), bc, bs)) : am_ex (am_m ro (d + 47)) ro am_M258 Q (1167, [some (am_O 0), some (am_R 0), some (am_R 66), some (am_I i)], [am_L x], (S, I, L), bc, bs) := am_go 11 (And.intro o1 (And.intro p1 (And.intro o2 (And.intro p2 k))))
set_option maxRecDepth 20000 in
theorem lx_e26 (k : am_ex (am_m ro (d + 47)) ro am_M258 Q (1652, [some (am_O 0), some (am_R 0), some (am_R 66), some (am_I i)], [], (sh b, I, L), bc, bs)) : am_ex (am_m ro (d + 47)) ro am_M258 Q (1181, [some (am_O 0), some (am_R 0), some (am_R 66), some (am_I i)], [am_L x, am_L x], (sh b, I, L), bc, bs) := am_go 2 (And.intro (fun _ => k) (fun c => (c rfl).elim))
set_option maxRecDepth 20000 in
theorem lx_c26 (hro : RoK ro) (hw : RoW ro) (h0 : ∀ j, am_r ((ro 0).2 j)) (hi : 0 ≤ i) (hN : i + 5 ≤ (ro 0).1) (hM : (ro 0).1 ≤ 2560) (hb : 44 ≤ bc ∧ 5827 ≤ bs) (hI : Inv b I L) (K : ∀ (b : Bool) (I L : Nat → Int → Int) (c2 s2 : Nat), Inv b I L → bc ≤ c2 + 44 → bs ≤ s2 + 5827 → am_ex (am_m ro (d + 47)) ro am_M258 Q (1652, [some (am_O 0), some (am_R 0), some (am_R 66), some (am_I i)], [], (sh b, I, L), c2, s2)) : am_ex (am_m ro (d + 47)) ro am_M258 Q (1153, [some (am_O 0), some (am_R 0), some (am_R 66), some (am_I i)], [], (sh b, I, L), bc, bs) := by
  refine lx_p26 (by omega) (by omega) (by omega) (by omega) (am_call (am_mL (d := d + 46) rfl (by decide +kernel) (A_book (d := d + 42) hI)) ?_)
  rintro r ⟨S, I1, L1⟩ ⟨q, hx, x, rfl⟩
  obtain ⟨fs, hS⟩ := hx 66 12 _ rfl
  refine lx_m26 (by omega) (by omega) (by omega) (by omega) ?_
  refine am_inv0 rfl rfl hS rfl ?_
  refine am_call q ?_
  rintro r2 h2 ⟨v, b2, I2, L2, e1, rfl, rfl, hI2⟩
  cases e1
  exact lx_e26 (K b2 I2 L2 _ _ hI2 (by omega) (by omega))
set_option maxRecDepth 20000 in
theorem lx_p27 (o1 : am_r (i + 1)) (p1 : 0 ≤ i + 1 ∧ i + 1 < (ro 0).1) (o2 : am_r (i + 2)) (p2 : 0 ≤ i + 2 ∧ i + 2 < (ro 0).1) (k : am_m ro (d + 47) 28 [am_R 0, am_I ((ro 0).2 (i + 1)), am_I ((ro 0).2 (i + 2))] (sh b, I, L) (fun r h => am_ex (am_m ro (d + 47)) ro am_M258 Q (1201, [some (am_O 0), some (am_R 0), some (am_R 66), some (am_I i)], am_push r [], h, bc, bs))) : am_ex (am_m ro (d + 47)) ro am_M258 Q (1187, [some (am_O 0), some (am_R 0), some (am_R 66), some (am_I i)], [], (sh b, I, L), bc, bs) := am_go 12 (And.intro o1 (And.intro p1 (And.intro o2 (And.intro p2 k))))
set_option maxRecDepth 20000 in
theorem lx_m27 (o1 : am_r (i + 1)) (p1 : 0 ≤ i + 1 ∧ i + 1 < (ro 0).1) (o2 : am_r (i + 2)) (p2 : 0 ≤ i + 2 ∧ i + 2 < (ro 0).1) (k : am_ex (am_m ro (d + 47)) ro am_M258 Q (1212, [some (am_O 0), some (am_R 0), some (am_R 66), some (am_I i)], [am_I ((ro 0).2 (i + 2)), am_I ((ro 0).2 (i + 1)), am_R 66, am_L x], (S, I, L), bc, bs)) : am_ex (am_m ro (d + 47)) ro am_M258 Q (1201, [some (am_O 0), some (am_R 0), some (am_R 66), some (am_I i)], [am_L x], (S, I, L), bc, bs) := am_go 11 (And.intro o1 (And.intro p1 (And.intro o2 (And.intro p2 k))))
set_option maxRecDepth 20000 in
theorem lx_e27 (k : am_ex (am_m ro (d + 47)) ro am_M258 Q (1652, [some (am_O 0), some (am_R 0), some (am_R 66), some (am_I i)], [], (sh b, I, L), bc, bs)) : am_ex (am_m ro (d + 47)) ro am_M258 Q (1215, [some (am_O 0), some (am_R 0), some (am_R 66), some (am_I i)], [am_L x, am_L x], (sh b, I, L), bc, bs) := am_go 2 (And.intro (fun _ => k) (fun c => (c rfl).elim))
set_option maxRecDepth 20000 in
theorem lx_c27 (hro : RoK ro) (hw : RoW ro) (h0 : ∀ j, am_r ((ro 0).2 j)) (hi : 0 ≤ i) (hN : i + 5 ≤ (ro 0).1) (hM : (ro 0).1 ≤ 2560) (hb : 44 ≤ bc ∧ 5827 ≤ bs) (hI : Inv b I L) (K : ∀ (b : Bool) (I L : Nat → Int → Int) (c2 s2 : Nat), Inv b I L → bc ≤ c2 + 44 → bs ≤ s2 + 5827 → am_ex (am_m ro (d + 47)) ro am_M258 Q (1652, [some (am_O 0), some (am_R 0), some (am_R 66), some (am_I i)], [], (sh b, I, L), c2, s2)) : am_ex (am_m ro (d + 47)) ro am_M258 Q (1187, [some (am_O 0), some (am_R 0), some (am_R 66), some (am_I i)], [], (sh b, I, L), bc, bs) := by
  refine lx_p27 (by omega) (by omega) (by omega) (by omega) (am_call (am_mL (d := d + 46) rfl (by decide +kernel) (A_points (d := d + 39) hro hI)) ?_)
  rintro r ⟨S, I1, L1⟩ ⟨q, hx, x, rfl⟩
  obtain ⟨fs, hS⟩ := hx 66 12 _ rfl
  refine lx_m27 (by omega) (by omega) (by omega) (by omega) ?_
  refine am_inv0 rfl rfl hS rfl ?_
  refine am_call q ?_
  rintro r2 h2 ⟨v, b2, I2, L2, e1, rfl, rfl, hI2⟩
  cases e1
  exact lx_e27 (K b2 I2 L2 _ _ hI2 (by omega) (by omega))
set_option maxRecDepth 20000 in
theorem lx_p28 (o1 : am_r (i + 1)) (p1 : 0 ≤ i + 1 ∧ i + 1 < (ro 0).1) (o2 : am_r (i + 2)) (p2 : 0 ≤ i + 2 ∧ i + 2 < (ro 0).1) (o3 : am_r (i + 3)) (p3 : 0 ≤ i + 3 ∧ i + 3 < (ro 0).1) (k : am_m ro (d + 47) 29 [am_R 0, am_I ((ro 0).2 (i + 1)), am_I ((ro 0).2 (i + 2)), am_I ((ro 0).2 (i + 3))] (sh b, I, L) (fun r h => am_ex (am_m ro (d + 47)) ro am_M258 Q (1240, [some (am_O 0), some (am_R 0), some (am_R 66), some (am_I i)], am_push r [], h, bc, bs))) : am_ex (am_m ro (d + 47)) ro am_M258 Q (1221, [some (am_O 0), some (am_R 0), some (am_R 66), some (am_I i)], [], (sh b, I, L), bc, bs) := am_go 17 (And.intro o1 (And.intro p1 (And.intro o2 (And.intro p2 (And.intro o3 (And.intro p3 k))))))
set_option maxRecDepth 20000 in
theorem lx_m28 (o1 : am_r (i + 1)) (p1 : 0 ≤ i + 1 ∧ i + 1 < (ro 0).1) (o2 : am_r (i + 2)) (p2 : 0 ≤ i + 2 ∧ i + 2 < (ro 0).1) (o3 : am_r (i + 3)) (p3 : 0 ≤ i + 3 ∧ i + 3 < (ro 0).1) (k : am_ex (am_m ro (d + 47)) ro am_M258 Q (1256, [some (am_O 0), some (am_R 0), some (am_R 66), some (am_I i)], [am_I ((ro 0).2 (i + 3)), am_I ((ro 0).2 (i + 2)), am_I ((ro 0).2 (i + 1)), am_R 66, am_L x], (S, I, L), bc, bs)) : am_ex (am_m ro (d + 47)) ro am_M258 Q (1240, [some (am_O 0), some (am_R 0), some (am_R 66), some (am_I i)], [am_L x], (S, I, L), bc, bs) := am_go 16 (And.intro o1 (And.intro p1 (And.intro o2 (And.intro p2 (And.intro o3 (And.intro p3 k))))))
set_option maxRecDepth 20000 in
theorem lx_e28 (k : am_ex (am_m ro (d + 47)) ro am_M258 Q (1652, [some (am_O 0), some (am_R 0), some (am_R 66), some (am_I i)], [], (sh b, I, L), bc, bs)) : am_ex (am_m ro (d + 47)) ro am_M258 Q (1259, [some (am_O 0), some (am_R 0), some (am_R 66), some (am_I i)], [am_L x, am_L x], (sh b, I, L), bc, bs) := am_go 2 (And.intro (fun _ => k) (fun c => (c rfl).elim))
set_option maxRecDepth 20000 in
theorem lx_c28 (hro : RoK ro) (hw : RoW ro) (h0 : ∀ j, am_r ((ro 0).2 j)) (hi : 0 ≤ i) (hN : i + 5 ≤ (ro 0).1) (hM : (ro 0).1 ≤ 2560) (hb : 44 ≤ bc ∧ 5827 ≤ bs) (hI : Inv b I L) (K : ∀ (b : Bool) (I L : Nat → Int → Int) (c2 s2 : Nat), Inv b I L → bc ≤ c2 + 44 → bs ≤ s2 + 5827 → am_ex (am_m ro (d + 47)) ro am_M258 Q (1652, [some (am_O 0), some (am_R 0), some (am_R 66), some (am_I i)], [], (sh b, I, L), c2, s2)) : am_ex (am_m ro (d + 47)) ro am_M258 Q (1221, [some (am_O 0), some (am_R 0), some (am_R 66), some (am_I i)], [], (sh b, I, L), bc, bs) := by
  refine lx_p28 (by omega) (by omega) (by omega) (by omega) (by omega) (by omega) (am_call (am_mL (d := d + 46) rfl (by decide +kernel) (A_paid (d := d + 38) hro hI)) ?_)
  rintro r ⟨S, I1, L1⟩ ⟨q, hx, x, rfl⟩
  obtain ⟨fs, hS⟩ := hx 66 12 _ rfl
  refine lx_m28 (by omega) (by omega) (by omega) (by omega) (by omega) (by omega) ?_
  refine am_inv0 rfl rfl hS rfl ?_
  refine am_call q ?_
  rintro r2 h2 ⟨v, b2, I2, L2, e1, rfl, rfl, hI2⟩
  cases e1
  exact lx_e28 (K b2 I2 L2 _ _ hI2 (by omega) (by omega))
set_option maxRecDepth 20000 in
theorem lx_p29 (o1 : am_r (i + 1)) (p1 : 0 ≤ i + 1 ∧ i + 1 < (ro 0).1) (o2 : am_r (i + 2)) (p2 : 0 ≤ i + 2 ∧ i + 2 < (ro 0).1) (o3 : am_r (i + 3)) (p3 : 0 ≤ i + 3 ∧ i + 3 < (ro 0).1) (k : am_m ro (d + 47) 30 [am_R 0, am_I ((ro 0).2 (i + 1)), am_I ((ro 0).2 (i + 2)), am_I ((ro 0).2 (i + 3))] (sh b, I, L) (fun r h => am_ex (am_m ro (d + 47)) ro am_M258 Q (1284, [some (am_O 0), some (am_R 0), some (am_R 66), some (am_I i)], am_push r [], h, bc, bs))) : am_ex (am_m ro (d + 47)) ro am_M258 Q (1265, [some (am_O 0), some (am_R 0), some (am_R 66), some (am_I i)], [], (sh b, I, L), bc, bs) := am_go 17 (And.intro o1 (And.intro p1 (And.intro o2 (And.intro p2 (And.intro o3 (And.intro p3 k))))))
set_option maxRecDepth 20000 in
theorem lx_m29 (o1 : am_r (i + 1)) (p1 : 0 ≤ i + 1 ∧ i + 1 < (ro 0).1) (o2 : am_r (i + 2)) (p2 : 0 ≤ i + 2 ∧ i + 2 < (ro 0).1) (o3 : am_r (i + 3)) (p3 : 0 ≤ i + 3 ∧ i + 3 < (ro 0).1) (k : am_ex (am_m ro (d + 47)) ro am_M258 Q (1300, [some (am_O 0), some (am_R 0), some (am_R 66), some (am_I i)], [am_I ((ro 0).2 (i + 3)), am_I ((ro 0).2 (i + 2)), am_I ((ro 0).2 (i + 1)), am_R 66, am_L x], (S, I, L), bc, bs)) : am_ex (am_m ro (d + 47)) ro am_M258 Q (1284, [some (am_O 0), some (am_R 0), some (am_R 66), some (am_I i)], [am_L x], (S, I, L), bc, bs) := am_go 16 (And.intro o1 (And.intro p1 (And.intro o2 (And.intro p2 (And.intro o3 (And.intro p3 k))))))
set_option maxRecDepth 20000 in
theorem lx_e29 (k : am_ex (am_m ro (d + 47)) ro am_M258 Q (1652, [some (am_O 0), some (am_R 0), some (am_R 66), some (am_I i)], [], (sh b, I, L), bc, bs)) : am_ex (am_m ro (d + 47)) ro am_M258 Q (1303, [some (am_O 0), some (am_R 0), some (am_R 66), some (am_I i)], [am_L x, am_L x], (sh b, I, L), bc, bs) := am_go 2 (And.intro (fun _ => k) (fun c => (c rfl).elim))
set_option maxRecDepth 20000 in
theorem lx_c29 (hro : RoK ro) (hw : RoW ro) (h0 : ∀ j, am_r ((ro 0).2 j)) (hi : 0 ≤ i) (hN : i + 5 ≤ (ro 0).1) (hM : (ro 0).1 ≤ 2560) (hb : 44 ≤ bc ∧ 5827 ≤ bs) (hI : Inv b I L) (K : ∀ (b : Bool) (I L : Nat → Int → Int) (c2 s2 : Nat), Inv b I L → bc ≤ c2 + 44 → bs ≤ s2 + 5827 → am_ex (am_m ro (d + 47)) ro am_M258 Q (1652, [some (am_O 0), some (am_R 0), some (am_R 66), some (am_I i)], [], (sh b, I, L), c2, s2)) : am_ex (am_m ro (d + 47)) ro am_M258 Q (1265, [some (am_O 0), some (am_R 0), some (am_R 66), some (am_I i)], [], (sh b, I, L), bc, bs) := by
  refine lx_p29 (by omega) (by omega) (by omega) (by omega) (by omega) (by omega) (am_call (am_mL (d := d + 46) rfl (by decide +kernel) (A_gain (d := d + 38) hro hI)) ?_)
  rintro r ⟨S, I1, L1⟩ ⟨q, hx, x, rfl⟩
  obtain ⟨fs, hS⟩ := hx 66 12 _ rfl
  refine lx_m29 (by omega) (by omega) (by omega) (by omega) (by omega) (by omega) ?_
  refine am_inv0 rfl rfl hS rfl ?_
  refine am_call q ?_
  rintro r2 h2 ⟨v, b2, I2, L2, e1, rfl, rfl, hI2⟩
  cases e1
  exact lx_e29 (K b2 I2 L2 _ _ hI2 (by omega) (by omega))
set_option maxRecDepth 20000 in
theorem lx_p30 (o1 : am_r (i + 1)) (p1 : 0 ≤ i + 1 ∧ i + 1 < (ro 0).1) (k : am_m ro (d + 47) 31 [am_R 0, am_I ((ro 0).2 (i + 1))] (sh b, I, L) (fun r h => am_ex (am_m ro (d + 47)) ro am_M258 Q (1318, [some (am_O 0), some (am_R 0), some (am_R 66), some (am_I i)], am_push r [], h, bc, bs))) : am_ex (am_m ro (d + 47)) ro am_M258 Q (1309, [some (am_O 0), some (am_R 0), some (am_R 66), some (am_I i)], [], (sh b, I, L), bc, bs) := am_go 7 (And.intro o1 (And.intro p1 k))
set_option maxRecDepth 20000 in
theorem lx_m30 (o1 : am_r (i + 1)) (p1 : 0 ≤ i + 1 ∧ i + 1 < (ro 0).1) (k : am_ex (am_m ro (d + 47)) ro am_M258 Q (1324, [some (am_O 0), some (am_R 0), some (am_R 66), some (am_I i)], [am_I ((ro 0).2 (i + 1)), am_R 66, am_I x], (S, I, L), bc, bs)) : am_ex (am_m ro (d + 47)) ro am_M258 Q (1318, [some (am_O 0), some (am_R 0), some (am_R 66), some (am_I i)], [am_I x], (S, I, L), bc, bs) := am_go 6 (And.intro o1 (And.intro p1 k))
set_option maxRecDepth 20000 in
theorem lx_e30 (k : am_ex (am_m ro (d + 47)) ro am_M258 Q (1652, [some (am_O 0), some (am_R 0), some (am_R 66), some (am_I i)], [], (sh b, I, L), bc, bs)) : am_ex (am_m ro (d + 47)) ro am_M258 Q (1327, [some (am_O 0), some (am_R 0), some (am_R 66), some (am_I i)], [am_I x, am_I x], (sh b, I, L), bc, bs) := am_go 1 (And.intro (fun _ => k) (fun c => (c rfl).elim))
set_option maxRecDepth 20000 in
theorem lx_c30 (hro : RoK ro) (hw : RoW ro) (h0 : ∀ j, am_r ((ro 0).2 j)) (hi : 0 ≤ i) (hN : i + 5 ≤ (ro 0).1) (hM : (ro 0).1 ≤ 2560) (hb : 44 ≤ bc ∧ 5827 ≤ bs) (hI : Inv b I L) (K : ∀ (b : Bool) (I L : Nat → Int → Int) (c2 s2 : Nat), Inv b I L → bc ≤ c2 + 44 → bs ≤ s2 + 5827 → am_ex (am_m ro (d + 47)) ro am_M258 Q (1652, [some (am_O 0), some (am_R 0), some (am_R 66), some (am_I i)], [], (sh b, I, L), c2, s2)) : am_ex (am_m ro (d + 47)) ro am_M258 Q (1309, [some (am_O 0), some (am_R 0), some (am_R 66), some (am_I i)], [], (sh b, I, L), bc, bs) := by
  refine lx_p30 (by omega) (by omega) (am_call (am_mI (d := d + 46) rfl (by decide +kernel) (A_bestDraw (d := d + 44) hI)) ?_)
  rintro r ⟨S, I1, L1⟩ ⟨q, hx, x, rfl⟩
  obtain ⟨fs, hS⟩ := hx 66 12 _ rfl
  refine lx_m30 (by omega) (by omega) ?_
  refine am_inv0 rfl rfl hS rfl ?_
  refine am_call q ?_
  rintro r2 h2 ⟨v, b2, I2, L2, e1, rfl, rfl, hI2⟩
  cases e1
  exact lx_e30 (K b2 I2 L2 _ _ hI2 (by omega) (by omega))
set_option maxRecDepth 20000 in
theorem lx_p31  (k : am_m ro (d + 47) 32 [am_R 0] (sh b, I, L) (fun r h => am_ex (am_m ro (d + 47)) ro am_M258 Q (1336, [some (am_O 0), some (am_R 0), some (am_R 66), some (am_I i)], am_push r [], h, bc, bs))) : am_ex (am_m ro (d + 47)) ro am_M258 Q (1332, [some (am_O 0), some (am_R 0), some (am_R 66), some (am_I i)], [], (sh b, I, L), bc, bs) := am_go 2 k
set_option maxRecDepth 20000 in
theorem lx_m31  (k : am_ex (am_m ro (d + 47)) ro am_M258 Q (1337, [some (am_O 0), some (am_R 0), some (am_R 66), some (am_I i)], [am_R 66, am_I x], (S, I, L), bc, bs)) : am_ex (am_m ro (d + 47)) ro am_M258 Q (1336, [some (am_O 0), some (am_R 0), some (am_R 66), some (am_I i)], [am_I x], (S, I, L), bc, bs) := am_go 1 k
set_option maxRecDepth 20000 in
theorem lx_e31 (k : am_ex (am_m ro (d + 47)) ro am_M258 Q (1652, [some (am_O 0), some (am_R 0), some (am_R 66), some (am_I i)], [], (sh b, I, L), bc, bs)) : am_ex (am_m ro (d + 47)) ro am_M258 Q (1340, [some (am_O 0), some (am_R 0), some (am_R 66), some (am_I i)], [am_I x, am_I x], (sh b, I, L), bc, bs) := am_go 1 (And.intro (fun _ => k) (fun c => (c rfl).elim))
set_option maxRecDepth 20000 in
theorem lx_c31 (hro : RoK ro) (hw : RoW ro) (h0 : ∀ j, am_r ((ro 0).2 j)) (hi : 0 ≤ i) (hN : i + 5 ≤ (ro 0).1) (hM : (ro 0).1 ≤ 2560) (hb : 44 ≤ bc ∧ 5827 ≤ bs) (hI : Inv b I L) (K : ∀ (b : Bool) (I L : Nat → Int → Int) (c2 s2 : Nat), Inv b I L → bc ≤ c2 + 44 → bs ≤ s2 + 5827 → am_ex (am_m ro (d + 47)) ro am_M258 Q (1652, [some (am_O 0), some (am_R 0), some (am_R 66), some (am_I i)], [], (sh b, I, L), c2, s2)) : am_ex (am_m ro (d + 47)) ro am_M258 Q (1332, [some (am_O 0), some (am_R 0), some (am_R 66), some (am_I i)], [], (sh b, I, L), bc, bs) := by
  refine lx_p31  (am_call (am_mI (d := d + 46) rfl (by decide +kernel) (A_judge (d := d + 44) hI)) ?_)
  rintro r ⟨S, I1, L1⟩ ⟨q, hx, x, rfl⟩
  obtain ⟨fs, hS⟩ := hx 66 12 _ rfl
  refine lx_m31  ?_
  refine am_inv0 rfl rfl hS rfl ?_
  refine am_call q ?_
  rintro r2 h2 ⟨v, b2, I2, L2, e1, rfl, rfl, hI2⟩
  cases e1
  exact lx_e31 (K b2 I2 L2 _ _ hI2 (by omega) (by omega))
set_option maxRecDepth 20000 in
theorem lx_p32 (o1 : am_r (i + 1)) (p1 : 0 ≤ i + 1 ∧ i + 1 < (ro 0).1) (o2 : am_r (i + 2)) (p2 : 0 ≤ i + 2 ∧ i + 2 < (ro 0).1) (k : am_m ro (d + 47) 33 [am_R 0, am_I ((ro 0).2 (i + 1)), am_I ((ro 0).2 (i + 2))] (sh b, I, L) (fun r h => am_ex (am_m ro (d + 47)) ro am_M258 Q (1359, [some (am_O 0), some (am_R 0), some (am_R 66), some (am_I i)], am_push r [], h, bc, bs))) : am_ex (am_m ro (d + 47)) ro am_M258 Q (1345, [some (am_O 0), some (am_R 0), some (am_R 66), some (am_I i)], [], (sh b, I, L), bc, bs) := am_go 12 (And.intro o1 (And.intro p1 (And.intro o2 (And.intro p2 k))))
set_option maxRecDepth 20000 in
theorem lx_m32 (o1 : am_r (i + 1)) (p1 : 0 ≤ i + 1 ∧ i + 1 < (ro 0).1) (o2 : am_r (i + 2)) (p2 : 0 ≤ i + 2 ∧ i + 2 < (ro 0).1) (k : am_ex (am_m ro (d + 47)) ro am_M258 Q (1370, [some (am_O 0), some (am_R 0), some (am_R 66), some (am_I i)], [am_I ((ro 0).2 (i + 2)), am_I ((ro 0).2 (i + 1)), am_R 66, am_I x], (S, I, L), bc, bs)) : am_ex (am_m ro (d + 47)) ro am_M258 Q (1359, [some (am_O 0), some (am_R 0), some (am_R 66), some (am_I i)], [am_I x], (S, I, L), bc, bs) := am_go 11 (And.intro o1 (And.intro p1 (And.intro o2 (And.intro p2 k))))
set_option maxRecDepth 20000 in
theorem lx_e32 (k : am_ex (am_m ro (d + 47)) ro am_M258 Q (1652, [some (am_O 0), some (am_R 0), some (am_R 66), some (am_I i)], [], (sh b, I, L), bc, bs)) : am_ex (am_m ro (d + 47)) ro am_M258 Q (1373, [some (am_O 0), some (am_R 0), some (am_R 66), some (am_I i)], [am_I x, am_I x], (sh b, I, L), bc, bs) := am_go 1 (And.intro (fun _ => k) (fun c => (c rfl).elim))
set_option maxRecDepth 20000 in
theorem lx_c32 (hro : RoK ro) (hw : RoW ro) (h0 : ∀ j, am_r ((ro 0).2 j)) (hi : 0 ≤ i) (hN : i + 5 ≤ (ro 0).1) (hM : (ro 0).1 ≤ 2560) (hb : 44 ≤ bc ∧ 5827 ≤ bs) (hI : Inv b I L) (K : ∀ (b : Bool) (I L : Nat → Int → Int) (c2 s2 : Nat), Inv b I L → bc ≤ c2 + 44 → bs ≤ s2 + 5827 → am_ex (am_m ro (d + 47)) ro am_M258 Q (1652, [some (am_O 0), some (am_R 0), some (am_R 66), some (am_I i)], [], (sh b, I, L), c2, s2)) : am_ex (am_m ro (d + 47)) ro am_M258 Q (1345, [some (am_O 0), some (am_R 0), some (am_R 66), some (am_I i)], [], (sh b, I, L), bc, bs) := by
  refine lx_p32 (by omega) (by omega) (by omega) (by omega) (am_call (am_mI (d := d + 46) rfl (by decide +kernel) (A_moved (d := d + 42) hI (h0 _))) ?_)
  rintro r ⟨S, I1, L1⟩ ⟨q, hx, x, rfl⟩
  obtain ⟨fs, hS⟩ := hx 66 12 _ rfl
  refine lx_m32 (by omega) (by omega) (by omega) (by omega) ?_
  refine am_inv0 rfl rfl hS rfl ?_
  refine am_call q ?_
  rintro r2 h2 ⟨v, b2, I2, L2, e1, rfl, rfl, hI2⟩
  cases e1
  exact lx_e32 (K b2 I2 L2 _ _ hI2 (by omega) (by omega))
set_option maxRecDepth 20000 in
theorem lx_p33 (o1 : am_r (i + 1)) (p1 : 0 ≤ i + 1 ∧ i + 1 < (ro 0).1) (k : am_m ro (d + 47) 34 [am_R 0, am_I ((ro 0).2 (i + 1))] (sh b, I, L) (fun r h => am_ex (am_m ro (d + 47)) ro am_M258 Q (1387, [some (am_O 0), some (am_R 0), some (am_R 66), some (am_I i)], am_push r [], h, bc, bs))) : am_ex (am_m ro (d + 47)) ro am_M258 Q (1378, [some (am_O 0), some (am_R 0), some (am_R 66), some (am_I i)], [], (sh b, I, L), bc, bs) := am_go 7 (And.intro o1 (And.intro p1 k))
set_option maxRecDepth 20000 in
theorem lx_m33 (o1 : am_r (i + 1)) (p1 : 0 ≤ i + 1 ∧ i + 1 < (ro 0).1) (k : am_ex (am_m ro (d + 47)) ro am_M258 Q (1393, [some (am_O 0), some (am_R 0), some (am_R 66), some (am_I i)], [am_I ((ro 0).2 (i + 1)), am_R 66, am_I x], (S, I, L), bc, bs)) : am_ex (am_m ro (d + 47)) ro am_M258 Q (1387, [some (am_O 0), some (am_R 0), some (am_R 66), some (am_I i)], [am_I x], (S, I, L), bc, bs) := am_go 6 (And.intro o1 (And.intro p1 k))
set_option maxRecDepth 20000 in
theorem lx_e33 (k : am_ex (am_m ro (d + 47)) ro am_M258 Q (1652, [some (am_O 0), some (am_R 0), some (am_R 66), some (am_I i)], [], (sh b, I, L), bc, bs)) : am_ex (am_m ro (d + 47)) ro am_M258 Q (1396, [some (am_O 0), some (am_R 0), some (am_R 66), some (am_I i)], [am_I x, am_I x], (sh b, I, L), bc, bs) := am_go 1 (And.intro (fun _ => k) (fun c => (c rfl).elim))
set_option maxRecDepth 20000 in
theorem lx_c33 (hro : RoK ro) (hw : RoW ro) (h0 : ∀ j, am_r ((ro 0).2 j)) (hi : 0 ≤ i) (hN : i + 5 ≤ (ro 0).1) (hM : (ro 0).1 ≤ 2560) (hb : 44 ≤ bc ∧ 5827 ≤ bs) (hI : Inv b I L) (K : ∀ (b : Bool) (I L : Nat → Int → Int) (c2 s2 : Nat), Inv b I L → bc ≤ c2 + 44 → bs ≤ s2 + 5827 → am_ex (am_m ro (d + 47)) ro am_M258 Q (1652, [some (am_O 0), some (am_R 0), some (am_R 66), some (am_I i)], [], (sh b, I, L), c2, s2)) : am_ex (am_m ro (d + 47)) ro am_M258 Q (1378, [some (am_O 0), some (am_R 0), some (am_R 66), some (am_I i)], [], (sh b, I, L), bc, bs) := by
  refine lx_p33 (by omega) (by omega) (am_call (am_mI (d := d + 46) rfl (by decide +kernel) (A_movedMany (d := d + 42) hI)) ?_)
  rintro r ⟨S, I1, L1⟩ ⟨q, hx, x, rfl⟩
  obtain ⟨fs, hS⟩ := hx 66 12 _ rfl
  refine lx_m33 (by omega) (by omega) ?_
  refine am_inv0 rfl rfl hS rfl ?_
  refine am_call q ?_
  rintro r2 h2 ⟨v, b2, I2, L2, e1, rfl, rfl, hI2⟩
  cases e1
  exact lx_e33 (K b2 I2 L2 _ _ hI2 (by omega) (by omega))
set_option maxRecDepth 20000 in
theorem lx_p34 (o1 : am_r (i + 1)) (p1 : 0 ≤ i + 1 ∧ i + 1 < (ro 0).1) (o2 : am_r (i + 2)) (p2 : 0 ≤ i + 2 ∧ i + 2 < (ro 0).1) (o3 : am_r (i + 3)) (p3 : 0 ≤ i + 3 ∧ i + 3 < (ro 0).1) (k : am_m ro (d + 47) 35 [am_R 0, am_I ((ro 0).2 (i + 1)), am_I ((ro 0).2 (i + 2)), am_I ((ro 0).2 (i + 3))] (sh b, I, L) (fun r h => am_ex (am_m ro (d + 47)) ro am_M258 Q (1420, [some (am_O 0), some (am_R 0), some (am_R 66), some (am_I i)], am_push r [], h, bc, bs))) : am_ex (am_m ro (d + 47)) ro am_M258 Q (1401, [some (am_O 0), some (am_R 0), some (am_R 66), some (am_I i)], [], (sh b, I, L), bc, bs) := am_go 17 (And.intro o1 (And.intro p1 (And.intro o2 (And.intro p2 (And.intro o3 (And.intro p3 k))))))
set_option maxRecDepth 20000 in
theorem lx_m34 (o1 : am_r (i + 1)) (p1 : 0 ≤ i + 1 ∧ i + 1 < (ro 0).1) (o2 : am_r (i + 2)) (p2 : 0 ≤ i + 2 ∧ i + 2 < (ro 0).1) (o3 : am_r (i + 3)) (p3 : 0 ≤ i + 3 ∧ i + 3 < (ro 0).1) (k : am_ex (am_m ro (d + 47)) ro am_M258 Q (1436, [some (am_O 0), some (am_R 0), some (am_R 66), some (am_I i)], [am_I ((ro 0).2 (i + 3)), am_I ((ro 0).2 (i + 2)), am_I ((ro 0).2 (i + 1)), am_R 66, am_L x], (S, I, L), bc, bs)) : am_ex (am_m ro (d + 47)) ro am_M258 Q (1420, [some (am_O 0), some (am_R 0), some (am_R 66), some (am_I i)], [am_L x], (S, I, L), bc, bs) := am_go 16 (And.intro o1 (And.intro p1 (And.intro o2 (And.intro p2 (And.intro o3 (And.intro p3 k))))))
set_option maxRecDepth 20000 in
theorem lx_e34 (k : am_ex (am_m ro (d + 47)) ro am_M258 Q (1652, [some (am_O 0), some (am_R 0), some (am_R 66), some (am_I i)], [], (sh b, I, L), bc, bs)) : am_ex (am_m ro (d + 47)) ro am_M258 Q (1439, [some (am_O 0), some (am_R 0), some (am_R 66), some (am_I i)], [am_L x, am_L x], (sh b, I, L), bc, bs) := am_go 2 (And.intro (fun _ => k) (fun c => (c rfl).elim))
set_option maxRecDepth 20000 in
theorem lx_c34 (hro : RoK ro) (hw : RoW ro) (h0 : ∀ j, am_r ((ro 0).2 j)) (hi : 0 ≤ i) (hN : i + 5 ≤ (ro 0).1) (hM : (ro 0).1 ≤ 2560) (hb : 44 ≤ bc ∧ 5827 ≤ bs) (hI : Inv b I L) (K : ∀ (b : Bool) (I L : Nat → Int → Int) (c2 s2 : Nat), Inv b I L → bc ≤ c2 + 44 → bs ≤ s2 + 5827 → am_ex (am_m ro (d + 47)) ro am_M258 Q (1652, [some (am_O 0), some (am_R 0), some (am_R 66), some (am_I i)], [], (sh b, I, L), c2, s2)) : am_ex (am_m ro (d + 47)) ro am_M258 Q (1401, [some (am_O 0), some (am_R 0), some (am_R 66), some (am_I i)], [], (sh b, I, L), bc, bs) := by
  refine lx_p34 (by omega) (by omega) (by omega) (by omega) (by omega) (by omega) (am_call (am_mL (d := d + 46) rfl (by decide +kernel) (A_span (d := d + 43) hI)) ?_)
  rintro r ⟨S, I1, L1⟩ ⟨q, hx, x, rfl⟩
  obtain ⟨fs, hS⟩ := hx 66 12 _ rfl
  refine lx_m34 (by omega) (by omega) (by omega) (by omega) (by omega) (by omega) ?_
  refine am_inv0 rfl rfl hS rfl ?_
  refine am_call q ?_
  rintro r2 h2 ⟨v, b2, I2, L2, e1, rfl, rfl, hI2⟩
  cases e1
  exact lx_e34 (K b2 I2 L2 _ _ hI2 (by omega) (by omega))
set_option maxRecDepth 20000 in
theorem lx_p35 (o1 : am_r (i + 1)) (p1 : 0 ≤ i + 1 ∧ i + 1 < (ro 0).1) (k : am_m ro (d + 47) 36 [am_R 0, am_I ((ro 0).2 (i + 1))] (sh b, I, L) (fun r h => am_ex (am_m ro (d + 47)) ro am_M258 Q (1454, [some (am_O 0), some (am_R 0), some (am_R 66), some (am_I i)], am_push r [], h, bc, bs))) : am_ex (am_m ro (d + 47)) ro am_M258 Q (1445, [some (am_O 0), some (am_R 0), some (am_R 66), some (am_I i)], [], (sh b, I, L), bc, bs) := am_go 7 (And.intro o1 (And.intro p1 k))
set_option maxRecDepth 20000 in
theorem lx_m35 (o1 : am_r (i + 1)) (p1 : 0 ≤ i + 1 ∧ i + 1 < (ro 0).1) (k : am_ex (am_m ro (d + 47)) ro am_M258 Q (1460, [some (am_O 0), some (am_R 0), some (am_R 66), some (am_I i)], [am_I ((ro 0).2 (i + 1)), am_R 66, am_I x], (S, I, L), bc, bs)) : am_ex (am_m ro (d + 47)) ro am_M258 Q (1454, [some (am_O 0), some (am_R 0), some (am_R 66), some (am_I i)], [am_I x], (S, I, L), bc, bs) := am_go 6 (And.intro o1 (And.intro p1 k))
set_option maxRecDepth 20000 in
theorem lx_e35 (k : am_ex (am_m ro (d + 47)) ro am_M258 Q (1652, [some (am_O 0), some (am_R 0), some (am_R 66), some (am_I i)], [], (sh b, I, L), bc, bs)) : am_ex (am_m ro (d + 47)) ro am_M258 Q (1463, [some (am_O 0), some (am_R 0), some (am_R 66), some (am_I i)], [am_I x, am_I x], (sh b, I, L), bc, bs) := am_go 1 (And.intro (fun _ => k) (fun c => (c rfl).elim))
set_option maxRecDepth 20000 in
theorem lx_c35 (hro : RoK ro) (hw : RoW ro) (h0 : ∀ j, am_r ((ro 0).2 j)) (hi : 0 ≤ i) (hN : i + 5 ≤ (ro 0).1) (hM : (ro 0).1 ≤ 2560) (hb : 44 ≤ bc ∧ 5827 ≤ bs) (hI : Inv b I L) (K : ∀ (b : Bool) (I L : Nat → Int → Int) (c2 s2 : Nat), Inv b I L → bc ≤ c2 + 44 → bs ≤ s2 + 5827 → am_ex (am_m ro (d + 47)) ro am_M258 Q (1652, [some (am_O 0), some (am_R 0), some (am_R 66), some (am_I i)], [], (sh b, I, L), c2, s2)) : am_ex (am_m ro (d + 47)) ro am_M258 Q (1445, [some (am_O 0), some (am_R 0), some (am_R 66), some (am_I i)], [], (sh b, I, L), bc, bs) := by
  refine lx_p35 (by omega) (by omega) (am_call (am_mI (d := d + 46) rfl (by decide +kernel) (A_count (d := d + 44) hI)) ?_)
  rintro r ⟨S, I1, L1⟩ ⟨q, hx, x, rfl⟩
  obtain ⟨fs, hS⟩ := hx 66 12 _ rfl
  refine lx_m35 (by omega) (by omega) ?_
  refine am_inv0 rfl rfl hS rfl ?_
  refine am_call q ?_
  rintro r2 h2 ⟨v, b2, I2, L2, e1, rfl, rfl, hI2⟩
  cases e1
  exact lx_e35 (K b2 I2 L2 _ _ hI2 (by omega) (by omega))
set_option maxRecDepth 20000 in
theorem lx_p36  (oa : 44 ≤ bc ∧ 5827 ≤ bs) (k : am_m ro (d + 47) 37 [am_R 0] (sh b, I, L) (fun r h => am_ex (am_m ro (d + 47)) ro am_M258 Q (1472, [some (am_O 0), some (am_R 0), some (am_R 66), some (am_I i)], am_push r [], h, bc - 44, bs - 5827))) : am_ex (am_m ro (d + 47)) ro am_M258 Q (1468, [some (am_O 0), some (am_R 0), some (am_R 66), some (am_I i)], [], (sh b, I, L), bc, bs) := am_go 2 (And.intro oa k)
set_option maxRecDepth 20000 in
theorem lx_m36  (k : am_ex (am_m ro (d + 47)) ro am_M258 Q (1473, [some (am_O 0), some (am_R 0), some (am_R 66), some (am_I i)], [am_R 66, am_I x], (S, I, L), bc, bs)) : am_ex (am_m ro (d + 47)) ro am_M258 Q (1472, [some (am_O 0), some (am_R 0), some (am_R 66), some (am_I i)], [am_I x], (S, I, L), bc, bs) := am_go 1 k
set_option maxRecDepth 20000 in
theorem lx_e36 (k : am_ex (am_m ro (d + 47)) ro am_M258 Q (1652, [some (am_O 0), some (am_R 0), some (am_R 66), some (am_I i)], [], (sh b, I, L), bc, bs)) : am_ex (am_m ro (d + 47)) ro am_M258 Q (1476, [some (am_O 0), some (am_R 0), some (am_R 66), some (am_I i)], [am_I x, am_I x], (sh b, I, L), bc, bs) := am_go 1 (And.intro (fun _ => k) (fun c => (c rfl).elim))
set_option maxRecDepth 20000 in
theorem lx_c36 (hro : RoK ro) (hw : RoW ro) (h0 : ∀ j, am_r ((ro 0).2 j)) (hi : 0 ≤ i) (hN : i + 5 ≤ (ro 0).1) (hM : (ro 0).1 ≤ 2560) (hb : 44 ≤ bc ∧ 5827 ≤ bs) (hI : Inv b I L) (K : ∀ (b : Bool) (I L : Nat → Int → Int) (c2 s2 : Nat), Inv b I L → bc ≤ c2 + 44 → bs ≤ s2 + 5827 → am_ex (am_m ro (d + 47)) ro am_M258 Q (1652, [some (am_O 0), some (am_R 0), some (am_R 66), some (am_I i)], [], (sh b, I, L), c2, s2)) : am_ex (am_m ro (d + 47)) ro am_M258 Q (1468, [some (am_O 0), some (am_R 0), some (am_R 66), some (am_I i)], [], (sh b, I, L), bc, bs) := by
  refine lx_p36  hb (am_call (am_mI (d := d + 46) rfl (by decide +kernel) (A_image (d := d + 44) hI)) ?_)
  rintro r ⟨S, I1, L1⟩ ⟨q, hx, x, rfl⟩
  obtain ⟨fs, hS⟩ := hx 66 12 _ rfl
  refine lx_m36  ?_
  refine am_inv0 rfl rfl hS rfl ?_
  refine am_call q ?_
  rintro r2 h2 ⟨v, b2, I2, L2, e1, rfl, rfl, hI2⟩
  cases e1
  exact lx_e36 (K b2 I2 L2 _ _ hI2 (by omega) (by omega))
set_option maxRecDepth 20000 in
theorem lx_p37  (k : am_m ro (d + 47) 38 [am_R 0] (sh b, I, L) (fun r h => am_ex (am_m ro (d + 47)) ro am_M258 Q (1485, [some (am_O 0), some (am_R 0), some (am_R 66), some (am_I i)], am_push r [], h, bc, bs))) : am_ex (am_m ro (d + 47)) ro am_M258 Q (1481, [some (am_O 0), some (am_R 0), some (am_R 66), some (am_I i)], [], (sh b, I, L), bc, bs) := am_go 2 k
set_option maxRecDepth 20000 in
theorem lx_m37  (k : am_ex (am_m ro (d + 47)) ro am_M258 Q (1486, [some (am_O 0), some (am_R 0), some (am_R 66), some (am_I i)], [am_R 66, am_I x], (S, I, L), bc, bs)) : am_ex (am_m ro (d + 47)) ro am_M258 Q (1485, [some (am_O 0), some (am_R 0), some (am_R 66), some (am_I i)], [am_I x], (S, I, L), bc, bs) := am_go 1 k
set_option maxRecDepth 20000 in
theorem lx_e37 (k : am_ex (am_m ro (d + 47)) ro am_M258 Q (1652, [some (am_O 0), some (am_R 0), some (am_R 66), some (am_I i)], [], (sh b, I, L), bc, bs)) : am_ex (am_m ro (d + 47)) ro am_M258 Q (1489, [some (am_O 0), some (am_R 0), some (am_R 66), some (am_I i)], [am_I x, am_I x], (sh b, I, L), bc, bs) := am_go 1 (And.intro (fun _ => k) (fun c => (c rfl).elim))
set_option maxRecDepth 20000 in
theorem lx_c37 (hro : RoK ro) (hw : RoW ro) (h0 : ∀ j, am_r ((ro 0).2 j)) (hi : 0 ≤ i) (hN : i + 5 ≤ (ro 0).1) (hM : (ro 0).1 ≤ 2560) (hb : 44 ≤ bc ∧ 5827 ≤ bs) (hI : Inv b I L) (K : ∀ (b : Bool) (I L : Nat → Int → Int) (c2 s2 : Nat), Inv b I L → bc ≤ c2 + 44 → bs ≤ s2 + 5827 → am_ex (am_m ro (d + 47)) ro am_M258 Q (1652, [some (am_O 0), some (am_R 0), some (am_R 66), some (am_I i)], [], (sh b, I, L), c2, s2)) : am_ex (am_m ro (d + 47)) ro am_M258 Q (1481, [some (am_O 0), some (am_R 0), some (am_R 66), some (am_I i)], [], (sh b, I, L), bc, bs) := by
  refine lx_p37  (am_call (am_mI (d := d + 46) rfl (by decide +kernel) (A_back (d := d + 44) hI)) ?_)
  rintro r ⟨S, I1, L1⟩ ⟨q, hx, x, rfl⟩
  obtain ⟨fs, hS⟩ := hx 66 12 _ rfl
  refine lx_m37  ?_
  refine am_inv0 rfl rfl hS rfl ?_
  refine am_call q ?_
  rintro r2 h2 ⟨v, b2, I2, L2, e1, rfl, rfl, hI2⟩
  cases e1
  exact lx_e37 (K b2 I2 L2 _ _ hI2 (by omega) (by omega))
set_option maxRecDepth 20000 in
theorem lx_p38 (o1 : am_r (i + 1)) (p1 : 0 ≤ i + 1 ∧ i + 1 < (ro 0).1) (k : am_m ro (d + 47) 39 [am_R 0, am_I ((ro 0).2 (i + 1))] (sh b, I, L) (fun r h => am_ex (am_m ro (d + 47)) ro am_M258 Q (1503, [some (am_O 0), some (am_R 0), some (am_R 66), some (am_I i)], am_push r [], h, bc, bs))) : am_ex (am_m ro (d + 47)) ro am_M258 Q (1494, [some (am_O 0), some (am_R 0), some (am_R 66), some (am_I i)], [], (sh b, I, L), bc, bs) := am_go 7 (And.intro o1 (And.intro p1 k))
set_option maxRecDepth 20000 in
theorem lx_m38 (o1 : am_r (i + 1)) (p1 : 0 ≤ i + 1 ∧ i + 1 < (ro 0).1) (k : am_ex (am_m ro (d + 47)) ro am_M258 Q (1509, [some (am_O 0), some (am_R 0), some (am_R 66), some (am_I i)], [am_I ((ro 0).2 (i + 1)), am_R 66, am_I x], (S, I, L), bc, bs)) : am_ex (am_m ro (d + 47)) ro am_M258 Q (1503, [some (am_O 0), some (am_R 0), some (am_R 66), some (am_I i)], [am_I x], (S, I, L), bc, bs) := am_go 6 (And.intro o1 (And.intro p1 k))
set_option maxRecDepth 20000 in
theorem lx_e38 (k : am_ex (am_m ro (d + 47)) ro am_M258 Q (1652, [some (am_O 0), some (am_R 0), some (am_R 66), some (am_I i)], [], (sh b, I, L), bc, bs)) : am_ex (am_m ro (d + 47)) ro am_M258 Q (1512, [some (am_O 0), some (am_R 0), some (am_R 66), some (am_I i)], [am_I x, am_I x], (sh b, I, L), bc, bs) := am_go 1 (And.intro (fun _ => k) (fun c => (c rfl).elim))
set_option maxRecDepth 20000 in
theorem lx_c38 (hro : RoK ro) (hw : RoW ro) (h0 : ∀ j, am_r ((ro 0).2 j)) (hi : 0 ≤ i) (hN : i + 5 ≤ (ro 0).1) (hM : (ro 0).1 ≤ 2560) (hb : 44 ≤ bc ∧ 5827 ≤ bs) (hI : Inv b I L) (K : ∀ (b : Bool) (I L : Nat → Int → Int) (c2 s2 : Nat), Inv b I L → bc ≤ c2 + 44 → bs ≤ s2 + 5827 → am_ex (am_m ro (d + 47)) ro am_M258 Q (1652, [some (am_O 0), some (am_R 0), some (am_R 66), some (am_I i)], [], (sh b, I, L), c2, s2)) : am_ex (am_m ro (d + 47)) ro am_M258 Q (1494, [some (am_O 0), some (am_R 0), some (am_R 66), some (am_I i)], [], (sh b, I, L), bc, bs) := by
  refine lx_p38 (by omega) (by omega) (am_call (am_mI (d := d + 46) rfl (by decide +kernel) (A_lay (d := d + 45) hI)) ?_)
  rintro r ⟨S, I1, L1⟩ ⟨q, hx, x, rfl⟩
  obtain ⟨fs, hS⟩ := hx 66 12 _ rfl
  refine lx_m38 (by omega) (by omega) ?_
  refine am_inv0 rfl rfl hS rfl ?_
  refine am_call q ?_
  rintro r2 h2 ⟨v, b2, I2, L2, e1, rfl, rfl, hI2⟩
  cases e1
  exact lx_e38 (K b2 I2 L2 _ _ hI2 (by omega) (by omega))
set_option maxRecDepth 20000 in
theorem lx_p39 (o1 : am_r (i + 1)) (p1 : 0 ≤ i + 1 ∧ i + 1 < (ro 0).1) (o2 : am_r (i + 2)) (p2 : 0 ≤ i + 2 ∧ i + 2 < (ro 0).1) (k : am_m ro (d + 47) 40 [am_R 0, am_I ((ro 0).2 (i + 1)), am_I ((ro 0).2 (i + 2))] (sh b, I, L) (fun r h => am_ex (am_m ro (d + 47)) ro am_M258 Q (1531, [some (am_O 0), some (am_R 0), some (am_R 66), some (am_I i)], am_push r [], h, bc, bs))) : am_ex (am_m ro (d + 47)) ro am_M258 Q (1517, [some (am_O 0), some (am_R 0), some (am_R 66), some (am_I i)], [], (sh b, I, L), bc, bs) := am_go 12 (And.intro o1 (And.intro p1 (And.intro o2 (And.intro p2 k))))
set_option maxRecDepth 20000 in
theorem lx_m39 (o1 : am_r (i + 1)) (p1 : 0 ≤ i + 1 ∧ i + 1 < (ro 0).1) (o2 : am_r (i + 2)) (p2 : 0 ≤ i + 2 ∧ i + 2 < (ro 0).1) (k : am_ex (am_m ro (d + 47)) ro am_M258 Q (1542, [some (am_O 0), some (am_R 0), some (am_R 66), some (am_I i)], [am_I ((ro 0).2 (i + 2)), am_I ((ro 0).2 (i + 1)), am_R 66, am_I x], (S, I, L), bc, bs)) : am_ex (am_m ro (d + 47)) ro am_M258 Q (1531, [some (am_O 0), some (am_R 0), some (am_R 66), some (am_I i)], [am_I x], (S, I, L), bc, bs) := am_go 11 (And.intro o1 (And.intro p1 (And.intro o2 (And.intro p2 k))))
set_option maxRecDepth 20000 in
theorem lx_e39 (k : am_ex (am_m ro (d + 47)) ro am_M258 Q (1652, [some (am_O 0), some (am_R 0), some (am_R 66), some (am_I i)], [], (sh b, I, L), bc, bs)) : am_ex (am_m ro (d + 47)) ro am_M258 Q (1545, [some (am_O 0), some (am_R 0), some (am_R 66), some (am_I i)], [am_I x, am_I x], (sh b, I, L), bc, bs) := am_go 1 (And.intro (fun _ => k) (fun c => (c rfl).elim))
set_option maxRecDepth 20000 in
theorem lx_c39 (hro : RoK ro) (hw : RoW ro) (h0 : ∀ j, am_r ((ro 0).2 j)) (hi : 0 ≤ i) (hN : i + 5 ≤ (ro 0).1) (hM : (ro 0).1 ≤ 2560) (hb : 44 ≤ bc ∧ 5827 ≤ bs) (hI : Inv b I L) (K : ∀ (b : Bool) (I L : Nat → Int → Int) (c2 s2 : Nat), Inv b I L → bc ≤ c2 + 44 → bs ≤ s2 + 5827 → am_ex (am_m ro (d + 47)) ro am_M258 Q (1652, [some (am_O 0), some (am_R 0), some (am_R 66), some (am_I i)], [], (sh b, I, L), c2, s2)) : am_ex (am_m ro (d + 47)) ro am_M258 Q (1517, [some (am_O 0), some (am_R 0), some (am_R 66), some (am_I i)], [], (sh b, I, L), bc, bs) := by
  refine lx_p39 (by omega) (by omega) (by omega) (by omega) (am_call (am_mI (d := d + 46) rfl (by decide +kernel) (A_set (d := d + 44) hI)) ?_)
  rintro r ⟨S, I1, L1⟩ ⟨q, hx, x, rfl⟩
  obtain ⟨fs, hS⟩ := hx 66 12 _ rfl
  refine lx_m39 (by omega) (by omega) (by omega) (by omega) ?_
  refine am_inv0 rfl rfl hS rfl ?_
  refine am_call q ?_
  rintro r2 h2 ⟨v, b2, I2, L2, e1, rfl, rfl, hI2⟩
  cases e1
  exact lx_e39 (K b2 I2 L2 _ _ hI2 (by omega) (by omega))
set_option maxRecDepth 20000 in
theorem lx_p40  (k : am_m ro (d + 47) 41 [am_R 0] (sh b, I, L) (fun r h => am_ex (am_m ro (d + 47)) ro am_M258 Q (1554, [some (am_O 0), some (am_R 0), some (am_R 66), some (am_I i)], am_push r [], h, bc, bs))) : am_ex (am_m ro (d + 47)) ro am_M258 Q (1550, [some (am_O 0), some (am_R 0), some (am_R 66), some (am_I i)], [], (sh b, I, L), bc, bs) := am_go 2 k
set_option maxRecDepth 20000 in
theorem lx_m40  (k : am_ex (am_m ro (d + 47)) ro am_M258 Q (1555, [some (am_O 0), some (am_R 0), some (am_R 66), some (am_I i)], [am_R 66, am_I x], (S, I, L), bc, bs)) : am_ex (am_m ro (d + 47)) ro am_M258 Q (1554, [some (am_O 0), some (am_R 0), some (am_R 66), some (am_I i)], [am_I x], (S, I, L), bc, bs) := am_go 1 k
set_option maxRecDepth 20000 in
theorem lx_e40 (k : am_ex (am_m ro (d + 47)) ro am_M258 Q (1652, [some (am_O 0), some (am_R 0), some (am_R 66), some (am_I i)], [], (sh b, I, L), bc, bs)) : am_ex (am_m ro (d + 47)) ro am_M258 Q (1558, [some (am_O 0), some (am_R 0), some (am_R 66), some (am_I i)], [am_I x, am_I x], (sh b, I, L), bc, bs) := am_go 1 (And.intro (fun _ => k) (fun c => (c rfl).elim))
set_option maxRecDepth 20000 in
theorem lx_c40 (hro : RoK ro) (hw : RoW ro) (h0 : ∀ j, am_r ((ro 0).2 j)) (hi : 0 ≤ i) (hN : i + 5 ≤ (ro 0).1) (hM : (ro 0).1 ≤ 2560) (hb : 44 ≤ bc ∧ 5827 ≤ bs) (hI : Inv b I L) (K : ∀ (b : Bool) (I L : Nat → Int → Int) (c2 s2 : Nat), Inv b I L → bc ≤ c2 + 44 → bs ≤ s2 + 5827 → am_ex (am_m ro (d + 47)) ro am_M258 Q (1652, [some (am_O 0), some (am_R 0), some (am_R 66), some (am_I i)], [], (sh b, I, L), c2, s2)) : am_ex (am_m ro (d + 47)) ro am_M258 Q (1550, [some (am_O 0), some (am_R 0), some (am_R 66), some (am_I i)], [], (sh b, I, L), bc, bs) := by
  refine lx_p40  (am_call (am_mI (d := d + 46) rfl (by decide +kernel) (A_tear (d := d + 46) hI)) ?_)
  rintro r ⟨S, I1, L1⟩ ⟨q, hx, x, rfl⟩
  obtain ⟨fs, hS⟩ := hx 66 12 _ rfl
  refine lx_m40  ?_
  refine am_inv0 rfl rfl hS rfl ?_
  refine am_call q ?_
  rintro r2 h2 ⟨v, b2, I2, L2, e1, rfl, rfl, hI2⟩
  cases e1
  exact lx_e40 (K b2 I2 L2 _ _ hI2 (by omega) (by omega))
set_option maxRecDepth 20000 in
theorem lx_p41 (o1 : am_r (i + 1)) (p1 : 0 ≤ i + 1 ∧ i + 1 < (ro 0).1) (k : am_m ro (d + 47) 42 [am_R 0, am_I ((ro 0).2 (i + 1))] (sh b, I, L) (fun r h => am_ex (am_m ro (d + 47)) ro am_M258 Q (1572, [some (am_O 0), some (am_R 0), some (am_R 66), some (am_I i)], am_push r [], h, bc, bs))) : am_ex (am_m ro (d + 47)) ro am_M258 Q (1563, [some (am_O 0), some (am_R 0), some (am_R 66), some (am_I i)], [], (sh b, I, L), bc, bs) := am_go 7 (And.intro o1 (And.intro p1 k))
set_option maxRecDepth 20000 in
theorem lx_m41 (o1 : am_r (i + 1)) (p1 : 0 ≤ i + 1 ∧ i + 1 < (ro 0).1) (k : am_ex (am_m ro (d + 47)) ro am_M258 Q (1578, [some (am_O 0), some (am_R 0), some (am_R 66), some (am_I i)], [am_I ((ro 0).2 (i + 1)), am_R 66, am_I x], (S, I, L), bc, bs)) : am_ex (am_m ro (d + 47)) ro am_M258 Q (1572, [some (am_O 0), some (am_R 0), some (am_R 66), some (am_I i)], [am_I x], (S, I, L), bc, bs) := am_go 6 (And.intro o1 (And.intro p1 k))
set_option maxRecDepth 20000 in
theorem lx_e41 (k : am_ex (am_m ro (d + 47)) ro am_M258 Q (1652, [some (am_O 0), some (am_R 0), some (am_R 66), some (am_I i)], [], (sh b, I, L), bc, bs)) : am_ex (am_m ro (d + 47)) ro am_M258 Q (1581, [some (am_O 0), some (am_R 0), some (am_R 66), some (am_I i)], [am_I x, am_I x], (sh b, I, L), bc, bs) := am_go 1 (And.intro (fun _ => k) (fun c => (c rfl).elim))
set_option maxRecDepth 20000 in
theorem lx_c41 (hro : RoK ro) (hw : RoW ro) (h0 : ∀ j, am_r ((ro 0).2 j)) (hi : 0 ≤ i) (hN : i + 5 ≤ (ro 0).1) (hM : (ro 0).1 ≤ 2560) (hb : 44 ≤ bc ∧ 5827 ≤ bs) (hI : Inv b I L) (K : ∀ (b : Bool) (I L : Nat → Int → Int) (c2 s2 : Nat), Inv b I L → bc ≤ c2 + 44 → bs ≤ s2 + 5827 → am_ex (am_m ro (d + 47)) ro am_M258 Q (1652, [some (am_O 0), some (am_R 0), some (am_R 66), some (am_I i)], [], (sh b, I, L), c2, s2)) : am_ex (am_m ro (d + 47)) ro am_M258 Q (1563, [some (am_O 0), some (am_R 0), some (am_R 66), some (am_I i)], [], (sh b, I, L), bc, bs) := by
  refine lx_p41 (by omega) (by omega) (am_call (am_mI (d := d + 46) rfl (by decide +kernel) (A_row (d := d + 44) hI)) ?_)
  rintro r ⟨S, I1, L1⟩ ⟨q, hx, x, rfl⟩
  obtain ⟨fs, hS⟩ := hx 66 12 _ rfl
  refine lx_m41 (by omega) (by omega) ?_
  refine am_inv0 rfl rfl hS rfl ?_
  refine am_call q ?_
  rintro r2 h2 ⟨v, b2, I2, L2, e1, rfl, rfl, hI2⟩
  cases e1
  exact lx_e41 (K b2 I2 L2 _ _ hI2 (by omega) (by omega))
set_option maxRecDepth 20000 in
theorem lx_p42 (o1 : am_r (i + 1)) (p1 : 0 ≤ i + 1 ∧ i + 1 < (ro 0).1) (o2 : am_r (i + 2)) (p2 : 0 ≤ i + 2 ∧ i + 2 < (ro 0).1) (o3 : am_r (i + 3)) (p3 : 0 ≤ i + 3 ∧ i + 3 < (ro 0).1) (k : am_m ro (d + 47) 43 [am_R 0, am_I ((ro 0).2 (i + 1)), am_I ((ro 0).2 (i + 2)), am_I ((ro 0).2 (i + 3))] (sh b, I, L) (fun r h => am_ex (am_m ro (d + 47)) ro am_M258 Q (1605, [some (am_O 0), some (am_R 0), some (am_R 66), some (am_I i)], am_push r [], h, bc, bs))) : am_ex (am_m ro (d + 47)) ro am_M258 Q (1586, [some (am_O 0), some (am_R 0), some (am_R 66), some (am_I i)], [], (sh b, I, L), bc, bs) := am_go 17 (And.intro o1 (And.intro p1 (And.intro o2 (And.intro p2 (And.intro o3 (And.intro p3 k))))))
set_option maxRecDepth 20000 in
theorem lx_m42 (o1 : am_r (i + 1)) (p1 : 0 ≤ i + 1 ∧ i + 1 < (ro 0).1) (o2 : am_r (i + 2)) (p2 : 0 ≤ i + 2 ∧ i + 2 < (ro 0).1) (o3 : am_r (i + 3)) (p3 : 0 ≤ i + 3 ∧ i + 3 < (ro 0).1) (k : am_ex (am_m ro (d + 47)) ro am_M258 Q (1621, [some (am_O 0), some (am_R 0), some (am_R 66), some (am_I i)], [am_I ((ro 0).2 (i + 3)), am_I ((ro 0).2 (i + 2)), am_I ((ro 0).2 (i + 1)), am_R 66, am_I x], (S, I, L), bc, bs)) : am_ex (am_m ro (d + 47)) ro am_M258 Q (1605, [some (am_O 0), some (am_R 0), some (am_R 66), some (am_I i)], [am_I x], (S, I, L), bc, bs) := am_go 16 (And.intro o1 (And.intro p1 (And.intro o2 (And.intro p2 (And.intro o3 (And.intro p3 k))))))
set_option maxRecDepth 20000 in
theorem lx_e42 (k : am_ex (am_m ro (d + 47)) ro am_M258 Q (1652, [some (am_O 0), some (am_R 0), some (am_R 66), some (am_I i)], [], (sh b, I, L), bc, bs)) : am_ex (am_m ro (d + 47)) ro am_M258 Q (1624, [some (am_O 0), some (am_R 0), some (am_R 66), some (am_I i)], [am_I x, am_I x], (sh b, I, L), bc, bs) := am_go 1 (And.intro (fun _ => k) (fun c => (c rfl).elim))
set_option maxRecDepth 20000 in
theorem lx_c42 (hro : RoK ro) (hw : RoW ro) (h0 : ∀ j, am_r ((ro 0).2 j)) (hi : 0 ≤ i) (hN : i + 5 ≤ (ro 0).1) (hM : (ro 0).1 ≤ 2560) (hb : 44 ≤ bc ∧ 5827 ≤ bs) (hI : Inv b I L) (K : ∀ (b : Bool) (I L : Nat → Int → Int) (c2 s2 : Nat), Inv b I L → bc ≤ c2 + 44 → bs ≤ s2 + 5827 → am_ex (am_m ro (d + 47)) ro am_M258 Q (1652, [some (am_O 0), some (am_R 0), some (am_R 66), some (am_I i)], [], (sh b, I, L), c2, s2)) : am_ex (am_m ro (d + 47)) ro am_M258 Q (1586, [some (am_O 0), some (am_R 0), some (am_R 66), some (am_I i)], [], (sh b, I, L), bc, bs) := by
  refine lx_p42 (by omega) (by omega) (by omega) (by omega) (by omega) (by omega) (am_call (am_mI (d := d + 46) rfl (by decide +kernel) (A_copy (d := d + 45) hI)) ?_)
  rintro r ⟨S, I1, L1⟩ ⟨q, hx, x, rfl⟩
  obtain ⟨fs, hS⟩ := hx 66 12 _ rfl
  refine lx_m42 (by omega) (by omega) (by omega) (by omega) (by omega) (by omega) ?_
  refine am_inv0 rfl rfl hS rfl ?_
  refine am_call q ?_
  rintro r2 h2 ⟨v, b2, I2, L2, e1, rfl, rfl, hI2⟩
  cases e1
  exact lx_e42 (K b2 I2 L2 _ _ hI2 (by omega) (by omega))
set_option maxRecDepth 20000 in
theorem lx_p43 (o1 : am_r (i + 1)) (p1 : 0 ≤ i + 1 ∧ i + 1 < (ro 0).1) (k : am_m ro (d + 47) 44 [am_R 0, am_I ((ro 0).2 (i + 1))] (sh b, I, L) (fun r h => am_ex (am_m ro (d + 47)) ro am_M258 Q (1638, [some (am_O 0), some (am_R 0), some (am_R 66), some (am_I i)], am_push r [], h, bc, bs))) : am_ex (am_m ro (d + 47)) ro am_M258 Q (1629, [some (am_O 0), some (am_R 0), some (am_R 66), some (am_I i)], [], (sh b, I, L), bc, bs) := am_go 7 (And.intro o1 (And.intro p1 k))
set_option maxRecDepth 20000 in
theorem lx_m43 (o1 : am_r (i + 1)) (p1 : 0 ≤ i + 1 ∧ i + 1 < (ro 0).1) (k : am_ex (am_m ro (d + 47)) ro am_M258 Q (1644, [some (am_O 0), some (am_R 0), some (am_R 66), some (am_I i)], [am_I ((ro 0).2 (i + 1)), am_R 66, am_I x], (S, I, L), bc, bs)) : am_ex (am_m ro (d + 47)) ro am_M258 Q (1638, [some (am_O 0), some (am_R 0), some (am_R 66), some (am_I i)], [am_I x], (S, I, L), bc, bs) := am_go 6 (And.intro o1 (And.intro p1 k))
set_option maxRecDepth 20000 in
theorem lx_e43 (k : am_ex (am_m ro (d + 47)) ro am_M258 Q (1652, [some (am_O 0), some (am_R 0), some (am_R 66), some (am_I i)], [], (sh b, I, L), bc, bs)) : am_ex (am_m ro (d + 47)) ro am_M258 Q (1647, [some (am_O 0), some (am_R 0), some (am_R 66), some (am_I i)], [am_I x, am_I x], (sh b, I, L), bc, bs) := am_go 1 (And.intro (fun _ => k) (fun c => (c rfl).elim))
set_option maxRecDepth 20000 in
theorem lx_c43 (hro : RoK ro) (hw : RoW ro) (h0 : ∀ j, am_r ((ro 0).2 j)) (hi : 0 ≤ i) (hN : i + 5 ≤ (ro 0).1) (hM : (ro 0).1 ≤ 2560) (hb : 44 ≤ bc ∧ 5827 ≤ bs) (hI : Inv b I L) (K : ∀ (b : Bool) (I L : Nat → Int → Int) (c2 s2 : Nat), Inv b I L → bc ≤ c2 + 44 → bs ≤ s2 + 5827 → am_ex (am_m ro (d + 47)) ro am_M258 Q (1652, [some (am_O 0), some (am_R 0), some (am_R 66), some (am_I i)], [], (sh b, I, L), c2, s2)) : am_ex (am_m ro (d + 47)) ro am_M258 Q (1629, [some (am_O 0), some (am_R 0), some (am_R 66), some (am_I i)], [], (sh b, I, L), bc, bs) := by
  refine lx_p43 (by omega) (by omega) (am_call (am_mI (d := d + 46) rfl (by decide +kernel) (A_status (d := d + 44) hI)) ?_)
  rintro r ⟨S, I1, L1⟩ ⟨q, hx, x, rfl⟩
  obtain ⟨fs, hS⟩ := hx 66 12 _ rfl
  refine lx_m43 (by omega) (by omega) ?_
  refine am_inv0 rfl rfl hS rfl ?_
  refine am_call q ?_
  rintro r2 h2 ⟨v, b2, I2, L2, e1, rfl, rfl, hI2⟩
  cases e1
  exact lx_e43 (K b2 I2 L2 _ _ hI2 (by omega) (by omega))
set_option maxRecDepth 20000 in
theorem lx_lp (hro : RoK ro) (hw : RoW ro) (h0 : ∀ j, am_r ((ro 0).2 j)) (hM : 0 ≤ (ro 0).1 ∧ (ro 0).1 ≤ 2560) (hQ : ∀ h, Q (some (am_I 1)) h) : ∀ (n : Nat) (b : Bool) (I L : Nat → Int → Int) (i : Int) (bc bs : Nat), Inv b I L → 0 ≤ i → i ≤ 2560 → (ro 0).1 - 5 - i < 5 * (n : Int) → 44 * n ≤ bc → 5827 * n ≤ bs → am_ex (am_m ro (d + 47)) ro am_M258 Q (18, [some (am_O 0), some (am_R 0), some (am_R 66), some (am_I i)], [], (sh b, I, L), bc, bs) := by
  intro n
  induction n with
  | zero =>
    intro b I L i bc bs hI i0 i1 i2 _ _
    exact lx_b18 (by omega) (fun _ => lx_b1658 (hQ _)) (fun c => absurd (by omega) c)
  | succ n ih =>
    intro b I L i bc bs hI i0 i1 i2 i3 i4
    refine lx_b18 (by omega) (fun _ => lx_b1658 (hQ _)) (fun c => ?_)
    have K : ∀ (b : Bool) (I L : Nat → Int → Int) (c2 s2 : Nat), Inv b I L → bc ≤ c2 + 44 → bs ≤ s2 + 5827 → am_ex (am_m ro (d + 47)) ro am_M258 Q (1652, [some (am_O 0), some (am_R 0), some (am_R 66), some (am_I i)], [], (sh b, I, L), c2, s2) := fun b I L c2 s2 hI e1 e2 => lx_b1652 (by omega) (ih b I L (i + 5) c2 s2 hI (by omega) (by omega) (by omega) (by omega) (by omega))
    refine lx_b26 (by omega) (am_sw_of (K _ _ _ _ _ hI (by omega) (by omega)) _ ?_)
    exact List.forall_mem_cons.mpr ⟨lx_c0 hro hw h0 i0 (by omega) hM.2 (by omega) hI K, List.forall_mem_cons.mpr ⟨lx_c1 hro hw h0 i0 (by omega) hM.2 (by omega) hI K, List.forall_mem_cons.mpr ⟨lx_c2 hro hw h0 i0 (by omega) hM.2 (by omega) hI K, List.forall_mem_cons.mpr ⟨lx_c3 hro hw h0 i0 (by omega) hM.2 (by omega) hI K, List.forall_mem_cons.mpr ⟨lx_c4 hro hw h0 i0 (by omega) hM.2 (by omega) hI K, List.forall_mem_cons.mpr ⟨lx_c5 hro hw h0 i0 (by omega) hM.2 (by omega) hI K, List.forall_mem_cons.mpr ⟨lx_c6 hro hw h0 i0 (by omega) hM.2 (by omega) hI K, List.forall_mem_cons.mpr ⟨lx_c7 hro hw h0 i0 (by omega) hM.2 (by omega) hI K, List.forall_mem_cons.mpr ⟨lx_c8 hro hw h0 i0 (by omega) hM.2 (by omega) hI K, List.forall_mem_cons.mpr ⟨lx_c9 hro hw h0 i0 (by omega) hM.2 (by omega) hI K, List.forall_mem_cons.mpr ⟨lx_c10 hro hw h0 i0 (by omega) hM.2 (by omega) hI K, List.forall_mem_cons.mpr ⟨lx_c11 hro hw h0 i0 (by omega) hM.2 (by omega) hI K, List.forall_mem_cons.mpr ⟨lx_c12 hro hw h0 i0 (by omega) hM.2 (by omega) hI K, List.forall_mem_cons.mpr ⟨lx_c13 hro hw h0 i0 (by omega) hM.2 (by omega) hI K, List.forall_mem_cons.mpr ⟨lx_c14 hro hw h0 i0 (by omega) hM.2 (by omega) hI K, List.forall_mem_cons.mpr ⟨lx_c15 hro hw h0 i0 (by omega) hM.2 (by omega) hI K, List.forall_mem_cons.mpr ⟨lx_c16 hro hw h0 i0 (by omega) hM.2 (by omega) hI K, List.forall_mem_cons.mpr ⟨lx_c17 hro hw h0 i0 (by omega) hM.2 (by omega) hI K, List.forall_mem_cons.mpr ⟨lx_c18 hro hw h0 i0 (by omega) hM.2 (by omega) hI K, List.forall_mem_cons.mpr ⟨lx_c19 hro hw h0 i0 (by omega) hM.2 (by omega) hI K, List.forall_mem_cons.mpr ⟨lx_c20 hro hw h0 i0 (by omega) hM.2 (by omega) hI K, List.forall_mem_cons.mpr ⟨lx_c21 hro hw h0 i0 (by omega) hM.2 (by omega) hI K, List.forall_mem_cons.mpr ⟨lx_c22 hro hw h0 i0 (by omega) hM.2 (by omega) hI K, List.forall_mem_cons.mpr ⟨lx_c23 hro hw h0 i0 (by omega) hM.2 (by omega) hI K, List.forall_mem_cons.mpr ⟨lx_c24 hro hw h0 i0 (by omega) hM.2 (by omega) hI K, List.forall_mem_cons.mpr ⟨lx_c25 hro hw h0 i0 (by omega) hM.2 (by omega) hI K, List.forall_mem_cons.mpr ⟨lx_c26 hro hw h0 i0 (by omega) hM.2 (by omega) hI K, List.forall_mem_cons.mpr ⟨lx_c27 hro hw h0 i0 (by omega) hM.2 (by omega) hI K, List.forall_mem_cons.mpr ⟨lx_c28 hro hw h0 i0 (by omega) hM.2 (by omega) hI K, List.forall_mem_cons.mpr ⟨lx_c29 hro hw h0 i0 (by omega) hM.2 (by omega) hI K, List.forall_mem_cons.mpr ⟨lx_c30 hro hw h0 i0 (by omega) hM.2 (by omega) hI K, List.forall_mem_cons.mpr ⟨lx_c31 hro hw h0 i0 (by omega) hM.2 (by omega) hI K, List.forall_mem_cons.mpr ⟨lx_c32 hro hw h0 i0 (by omega) hM.2 (by omega) hI K, List.forall_mem_cons.mpr ⟨lx_c33 hro hw h0 i0 (by omega) hM.2 (by omega) hI K, List.forall_mem_cons.mpr ⟨lx_c34 hro hw h0 i0 (by omega) hM.2 (by omega) hI K, List.forall_mem_cons.mpr ⟨lx_c35 hro hw h0 i0 (by omega) hM.2 (by omega) hI K, List.forall_mem_cons.mpr ⟨lx_c36 hro hw h0 i0 (by omega) hM.2 (by omega) hI K, List.forall_mem_cons.mpr ⟨lx_c37 hro hw h0 i0 (by omega) hM.2 (by omega) hI K, List.forall_mem_cons.mpr ⟨lx_c38 hro hw h0 i0 (by omega) hM.2 (by omega) hI K, List.forall_mem_cons.mpr ⟨lx_c39 hro hw h0 i0 (by omega) hM.2 (by omega) hI K, List.forall_mem_cons.mpr ⟨lx_c40 hro hw h0 i0 (by omega) hM.2 (by omega) hI K, List.forall_mem_cons.mpr ⟨lx_c41 hro hw h0 i0 (by omega) hM.2 (by omega) hI K, List.forall_mem_cons.mpr ⟨lx_c42 hro hw h0 i0 (by omega) hM.2 (by omega) hI K, List.forall_mem_cons.mpr ⟨lx_c43 hro hw h0 i0 (by omega) hM.2 (by omega) hI K, fun _ h => absurd h List.not_mem_nil⟩⟩⟩⟩⟩⟩⟩⟩⟩⟩⟩⟩⟩⟩⟩⟩⟩⟩⟩⟩⟩⟩⟩⟩⟩⟩⟩⟩⟩⟩⟩⟩⟩⟩⟩⟩⟩⟩⟩⟩⟩⟩⟩⟩
set_option maxRecDepth 20000 in
theorem lx_b0 (k : am_m ro (d + 47) 0 [am_R 0] (zs212, am_z I 0, am_z L 0) (fun r h => am_ex (am_m ro (d + 47)) ro am_M258 Q (7, [some (am_O 0), none, none, none], am_push r [am_R 0], h, 258054, 8320820))) : am_ex (am_m ro (d + 47)) ro am_M258 Q (0, [some (am_O 0), none, none, none], [], ([], I, L), 258120, 8327888) := am_go 3 (And.intro (by decide) (And.intro (And.intro (by decide) (by decide)) k))
set_option maxRecDepth 20000 in
theorem lx_b7 (k : am_m ro (d + 47) 154 [am_R 66] (zs222, am_z I 66, am_z L 66) (fun r h => am_ex (am_m ro (d + 47)) ro am_M258 Q (15, [some (am_O 0), some (am_R 0), none, none], am_push r [am_R 66], h, 258035, 8307945))) : am_ex (am_m ro (d + 47)) ro am_M258 Q (7, [some (am_O 0), none, none, none], [am_R 0], (zs220, I, L), 258054, 8320820) := am_go 4 (And.intro (by decide) (And.intro (And.intro (by decide) (by decide)) k))
set_option maxRecDepth 20000 in
theorem lx_b15 (k : am_ex (am_m ro (d + 47)) ro am_M258 Q (18, [some (am_O 0), some (am_R 0), some (am_R 66), some (am_I 0)], [], (sh false, I, L), bc, bs)) : am_ex (am_m ro (d + 47)) ro am_M258 Q (15, [some (am_O 0), some (am_R 0), none, none], [am_R 66], (sh false, I, L), bc, bs) := am_go 3 k
set_option maxRecDepth 20000 in
theorem lx_all (hro : RoK ro) (hw : RoW ro) (h0 : ∀ j, am_r ((ro 0).2 j)) (hM : 0 ≤ (ro 0).1 ∧ (ro 0).1 ≤ 2560) (hQ : ∀ h, Q (some (am_I 1)) h) : am_ex (am_m ro (d + 47)) ro am_M258 Q (0, [some (am_O 0), none, none, none], [], ([], I, L), 258120, 8327888) := by
  refine lx_b0 (o_P_init (d := d + 44) (fun I1 L1 a1 a2 a3 a4 => ?_))
  refine lx_b7 (o_M_init (d := d + 46) (fun I2 L2 c1 c2 c3 c4 c5 c6 c7 c8 => ?_))
  refine lx_b15 (lx_lp hro hw h0 hM hQ 512 false I2 L2 0 _ _ ?_ (by omega) (by omega) (by omega) (by omega) (by omega))
  refine Inv_new (fun k i k1 k2 k3 k4 => ?_) (fun k i k1 k2 => ?_) ?_ (fun i q1 q2 => ?_) c4 c5 c7 c8
  · by_cases e : k < 66
    · rw [(c1 k i e).1, z_n (by omega)]
      exact (a4 k i (by omega) e).1
    · exact (c6 k i (by omega) k1).1 k4
  · by_cases e : k < 66
    · rw [(c1 k i e).2, z_n (by omega)]
      by_cases e0 : k = 0
      · subst e0
        rw [a2]
        exact z_s
      · exact (a4 k i (by omega) e).2
    · by_cases e6 : k = 66
      · subst e6
        rw [c3 i]
        exact z_s
      · exact (c6 k i (by omega) k1).2 k2
  · rw [(c1 0 6 (by omega)).1, z_n (by omega)]
    exact a3
  · rw [c2 i q1 q2]
    exact z_s
end LAW
