/-! QUERIES: ways, whose: the reference's isRight; the two calls -/
theorem v_ir_0 {n : Nat}  (c : Nat) {σ : Mm} {P : Int → Mm → Prop} (l1 : R 260 4 [some (vr 85), some (vi (c : Int)), some (vi 0), some (vi 0)] [] (shF n) 0 0 σ (Qi (shF n) P)) : Ci 260 [vr 85, vi (c : Int)] (shF n) σ P :=
  show R 260 0 [some (vr 85), some (vi (c : Int)), none, none] [] (shF n) 0 0 σ (Qi (shF n) P) from wpK_R 5 [4] ((l1))
theorem v_ir_4 {n : Nat}  (c : Nat) (hd : Int) (j : Nat) {σ : Mm} {P : Int → Mm → Prop} (o1 : (j : Int) < (gi σ 85 12) → (0 ≤ (gi σ 85 12) ∧ (gi σ 85 12) ≤ 5)) (o2 : (j : Int) < (gi σ 85 12) → (0 ≤ (j : Int) ∧ (j : Int) ≤ 6)) (o3 : (j : Int) < (gi σ 85 12) → ∀ x2 : Int, x2 = (((gi σ 85 12).toNat ^ (j : Int).toNat : Nat) : Int) → (0 ≤ (c : Int) ∧ (c : Int) < 2147483648 ∧ 0 < x2)) (o4 : (j : Int) < (gi σ 85 12) → ∀ x2 : Int, x2 = (((gi σ 85 12).toNat ^ (j : Int).toNat : Nat) : Int) → (0 ≤ ((c : Int) / x2) ∧ 0 < (gi σ 85 12))) (o5 : (j : Int) < (gi σ 85 12) → ∀ x2 : Int, x2 = (((gi σ 85 12).toNat ^ (j : Int).toNat : Nat) : Int) → (0 ≤ (j : Int) ∧ (j : Int) < 5)) (o6 : (j : Int) < (gi σ 85 12) → ∀ x2 : Int, x2 = (((gi σ 85 12).toNat ^ (j : Int).toNat : Nat) : Int) → ∀ t6 : Mm, t6 = si σ 128 j (((c : Int) / x2) % (gi σ 85 12)) → (oand (oshr hd (gi t6 128 j)) (1 : Int)) ≠ (1 : Int) → ∀ x8 : Int, x8 = oor hd (oshl (1 : Int) (gi t6 128 j)) → rg ((j : Int) + 1)) (l1 : (gi σ 85 12) ≤ (j : Int) → R 260 67 [some (vr 85), some (vi (c : Int)), some (vi hd), some (vi 0)] [] (shF n) 0 0 σ (Qi (shF n) P)) (l2 : (j : Int) < (gi σ 85 12) → ∀ x2 : Int, x2 = (((gi σ 85 12).toNat ^ (j : Int).toNat : Nat) : Int) → ∀ t6 : Mm, t6 = si σ 128 j (((c : Int) / x2) % (gi σ 85 12)) → (oand (oshr hd (gi t6 128 j)) (1 : Int)) ≠ (1 : Int) → ∀ x8 : Int, x8 = oor hd (oshl (1 : Int) (gi t6 128 j)) → R 260 4 [some (vr 85), some (vi (c : Int)), some (vi x8), some (vi ((j : Int) + 1))] [] (shF n) 0 0 t6 (Qi (shF n) P)) (l3 : (j : Int) < (gi σ 85 12) → ∀ x2 : Int, x2 = (((gi σ 85 12).toNat ^ (j : Int).toNat : Nat) : Int) → ∀ t6 : Mm, t6 = si σ 128 j (((c : Int) / x2) % (gi σ 85 12)) → (oand (oshr hd (gi t6 128 j)) (1 : Int)) = (1 : Int) → P 0 t6) : R 260 4 [some (vr 85), some (vi (c : Int)), some (vi hd), some (vi (j : Int))] [] (shF n) 0 0 σ (Qi (shF n) P) :=
  wpK_R 36 [4, 67] (And.intro (fun q1 => (l1 q1)) (fun q1 => (c_pw  (o1 (Int.not_le.mp q1)) (o2 (Int.not_le.mp q1)) ((have k3 := (o3 (Int.not_le.mp q1) _ rfl); And.intro k3 ((have k4 := (o4 (Int.not_le.mp q1) _ rfl); And.intro k4 ((have k5 := (o5 (Int.not_le.mp q1) _ rfl); And.intro k5 (And.intro k5 ((show R 158 0 [_, _] [] (shF n) 0 0 _ _ from wpK_R 10 [] (And.intro (fun q7 => And.intro ret0 (And.intro (Or.inl rfl) ⟨rfl, _, rfl, And.intro (fun _ => And.intro k5 ((have k9 := (o6 (Int.not_le.mp q1) _ rfl _ rfl q7 _ rfl); And.intro k9 ((l2 (Int.not_le.mp q1) _ rfl _ rfl q7 _ rfl))))) (fun q => absurd (show (0 : Int) = 0 by decide) q)⟩)) (fun q7 => And.intro ret0 (And.intro (Or.inr rfl) ⟨rfl, _, rfl, And.intro (fun q => absurd q (show ¬ ((1 : Int) = 0) by decide)) (fun _ => And.intro ret0 (And.intro (Or.inl rfl) ⟨rfl, _, rfl, (l3 (Int.not_le.mp q1) _ rfl _ rfl (Classical.not_not.mp q7))⟩))⟩)))))))))))))))
theorem v_ir_67 {n : Nat}  (c : Nat) (hd : Int) (k : Nat) {M1 : Int → Mm → Prop} {M2 : Int → Mm → Prop} {σ : Mm} {P : Int → Mm → Prop} (o1 : (0 : Int) ≤ (gi σ 85 77) → (k : Int) < (gi σ 85 77) → (0 ≤ (k : Int) ∧ (k : Int) < 24)) (o2 : (0 : Int) ≤ (gi σ 85 77) → (k : Int) < (gi σ 85 77) → (gi σ 127 k) = (0 : Int) → rg ((k : Int) + 1)) (o3 : (0 : Int) ≤ (gi σ 85 77) → (k : Int) < (gi σ 85 77) → (gi σ 127 k) ≠ (0 : Int) → rg ((3 : Int) * (k : Int))) (o4 : (0 : Int) ≤ (gi σ 85 77) → (k : Int) < (gi σ 85 77) → (gi σ 127 k) ≠ (0 : Int) → (0 ≤ ((3 : Int) * (k : Int)) ∧ ((3 : Int) * (k : Int)) < 72)) (o5 : (0 : Int) ≤ (gi σ 85 77) → (k : Int) < (gi σ 85 77) → (gi σ 127 k) ≠ (0 : Int) → (0 : Int) ≤ (gi σ 126 (3 * k)) → rg (((3 : Int) * (k : Int)) + 1)) (o6 : (0 : Int) ≤ (gi σ 85 77) → (k : Int) < (gi σ 85 77) → (gi σ 127 k) ≠ (0 : Int) → (0 : Int) ≤ (gi σ 126 (3 * k)) → (0 ≤ (((3 : Int) * (k : Int)) + 1) ∧ (((3 : Int) * (k : Int)) + 1) < 72)) (o7 : (0 : Int) ≤ (gi σ 85 77) → (k : Int) < (gi σ 85 77) → (gi σ 127 k) ≠ (0 : Int) → (0 : Int) ≤ (gi σ 126 (3 * k)) → (0 ≤ (gi σ 126 ((3 * k) + 1)) ∧ (gi σ 126 ((3 * k) + 1)) < 5)) (o8 : (0 : Int) ≤ (gi σ 85 77) → (k : Int) < (gi σ 85 77) → (gi σ 127 k) ≠ (0 : Int) → (0 : Int) ≤ (gi σ 126 (3 * k)) → Ci 259 [vr 85, vi (gi σ 126 (3 * k)), vi (gi σ 128 (gi σ 126 ((3 * k) + 1)).toNat)] (shF n) σ M1) (o9 : (0 : Int) ≤ (gi σ 85 77) → (k : Int) < (gi σ 85 77) → (gi σ 127 k) ≠ (0 : Int) → (0 : Int) ≤ (gi σ 126 (3 * k)) → ∀ (v14 : Int) (s13 : Mm), M1 v14 s13 → rg (((3 : Int) * (k : Int)) + 2)) (o10 : (0 : Int) ≤ (gi σ 85 77) → (k : Int) < (gi σ 85 77) → (gi σ 127 k) ≠ (0 : Int) → (0 : Int) ≤ (gi σ 126 (3 * k)) → ∀ (v14 : Int) (s13 : Mm), M1 v14 s13 → (0 ≤ (((3 : Int) * (k : Int)) + 2) ∧ (((3 : Int) * (k : Int)) + 2) < 72)) (o11 : (0 : Int) ≤ (gi σ 85 77) → (k : Int) < (gi σ 85 77) → (gi σ 127 k) ≠ (0 : Int) → (0 : Int) ≤ (gi σ 126 (3 * k)) → ∀ (v14 : Int) (s13 : Mm), M1 v14 s13 → (gi s13 126 ((3 * k) + 2)) ≠ (1 : Int) → v14 = (0 : Int) → rg ((k : Int) + 1)) (o12 : (0 : Int) ≤ (gi σ 85 77) → (k : Int) < (gi σ 85 77) → (gi σ 127 k) ≠ (0 : Int) → (0 : Int) ≤ (gi σ 126 (3 * k)) → ∀ (v14 : Int) (s13 : Mm), M1 v14 s13 → (gi s13 126 ((3 * k) + 2)) = (1 : Int) → v14 = (1 : Int) → rg ((k : Int) + 1)) (o13 : (0 : Int) ≤ (gi σ 85 77) → (k : Int) < (gi σ 85 77) → (gi σ 127 k) ≠ (0 : Int) → (gi σ 126 (3 * k)) < (0 : Int) → rg ((k : Int) + 1)) (o14 : (gi σ 85 77) < (0 : Int) → (k : Int) < (gi σ 85 76) → (0 ≤ (k : Int) ∧ (k : Int) < 24)) (o15 : (gi σ 85 77) < (0 : Int) → (k : Int) < (gi σ 85 76) → (gi σ 127 k) = (0 : Int) → rg ((k : Int) + 1)) (o16 : (gi σ 85 77) < (0 : Int) → (k : Int) < (gi σ 85 76) → (gi σ 127 k) ≠ (0 : Int) → rg ((3 : Int) * (k : Int))) (o17 : (gi σ 85 77) < (0 : Int) → (k : Int) < (gi σ 85 76) → (gi σ 127 k) ≠ (0 : Int) → (0 ≤ ((3 : Int) * (k : Int)) ∧ ((3 : Int) * (k : Int)) < 72)) (o18 : (gi σ 85 77) < (0 : Int) → (k : Int) < (gi σ 85 76) → (gi σ 127 k) ≠ (0 : Int) → (0 : Int) ≤ (gi σ 126 (3 * k)) → rg (((3 : Int) * (k : Int)) + 1)) (o19 : (gi σ 85 77) < (0 : Int) → (k : Int) < (gi σ 85 76) → (gi σ 127 k) ≠ (0 : Int) → (0 : Int) ≤ (gi σ 126 (3 * k)) → (0 ≤ (((3 : Int) * (k : Int)) + 1) ∧ (((3 : Int) * (k : Int)) + 1) < 72)) (o20 : (gi σ 85 77) < (0 : Int) → (k : Int) < (gi σ 85 76) → (gi σ 127 k) ≠ (0 : Int) → (0 : Int) ≤ (gi σ 126 (3 * k)) → (0 ≤ (gi σ 126 ((3 * k) + 1)) ∧ (gi σ 126 ((3 * k) + 1)) < 5)) (o21 : (gi σ 85 77) < (0 : Int) → (k : Int) < (gi σ 85 76) → (gi σ 127 k) ≠ (0 : Int) → (0 : Int) ≤ (gi σ 126 (3 * k)) → Ci 259 [vr 85, vi (gi σ 126 (3 * k)), vi (gi σ 128 (gi σ 126 ((3 * k) + 1)).toNat)] (shF n) σ M2) (o22 : (gi σ 85 77) < (0 : Int) → (k : Int) < (gi σ 85 76) → (gi σ 127 k) ≠ (0 : Int) → (0 : Int) ≤ (gi σ 126 (3 * k)) → ∀ (v35 : Int) (s34 : Mm), M2 v35 s34 → rg (((3 : Int) * (k : Int)) + 2)) (o23 : (gi σ 85 77) < (0 : Int) → (k : Int) < (gi σ 85 76) → (gi σ 127 k) ≠ (0 : Int) → (0 : Int) ≤ (gi σ 126 (3 * k)) → ∀ (v35 : Int) (s34 : Mm), M2 v35 s34 → (0 ≤ (((3 : Int) * (k : Int)) + 2) ∧ (((3 : Int) * (k : Int)) + 2) < 72)) (o24 : (gi σ 85 77) < (0 : Int) → (k : Int) < (gi σ 85 76) → (gi σ 127 k) ≠ (0 : Int) → (0 : Int) ≤ (gi σ 126 (3 * k)) → ∀ (v35 : Int) (s34 : Mm), M2 v35 s34 → (gi s34 126 ((3 * k) + 2)) ≠ (1 : Int) → v35 = (0 : Int) → rg ((k : Int) + 1)) (o25 : (gi σ 85 77) < (0 : Int) → (k : Int) < (gi σ 85 76) → (gi σ 127 k) ≠ (0 : Int) → (0 : Int) ≤ (gi σ 126 (3 * k)) → ∀ (v35 : Int) (s34 : Mm), M2 v35 s34 → (gi s34 126 ((3 * k) + 2)) = (1 : Int) → v35 = (1 : Int) → rg ((k : Int) + 1)) (o26 : (gi σ 85 77) < (0 : Int) → (k : Int) < (gi σ 85 76) → (gi σ 127 k) ≠ (0 : Int) → (gi σ 126 (3 * k)) < (0 : Int) → rg ((k : Int) + 1)) (l1 : (0 : Int) ≤ (gi σ 85 77) → (gi σ 85 77) ≤ (k : Int) → P 1 σ) (l2 : (0 : Int) ≤ (gi σ 85 77) → (k : Int) < (gi σ 85 77) → (gi σ 127 k) = (0 : Int) → R 260 67 [some (vr 85), some (vi (c : Int)), some (vi hd), some (vi ((k : Int) + 1))] [] (shF n) 0 0 σ (Qi (shF n) P)) (l3 : (0 : Int) ≤ (gi σ 85 77) → (k : Int) < (gi σ 85 77) → (gi σ 127 k) ≠ (0 : Int) → (0 : Int) ≤ (gi σ 126 (3 * k)) → ∀ (v14 : Int) (s13 : Mm), M1 v14 s13 → (gi s13 126 ((3 * k) + 2)) ≠ (1 : Int) → v14 = (0 : Int) → R 260 67 [some (vr 85), some (vi (c : Int)), some (vi hd), some (vi ((k : Int) + 1))] [] (shF n) 0 0 s13 (Qi (shF n) P)) (l4 : (0 : Int) ≤ (gi σ 85 77) → (k : Int) < (gi σ 85 77) → (gi σ 127 k) ≠ (0 : Int) → (0 : Int) ≤ (gi σ 126 (3 * k)) → ∀ (v14 : Int) (s13 : Mm), M1 v14 s13 → (gi s13 126 ((3 * k) + 2)) ≠ (1 : Int) → v14 ≠ (0 : Int) → P 0 s13) (l5 : (0 : Int) ≤ (gi σ 85 77) → (k : Int) < (gi σ 85 77) → (gi σ 127 k) ≠ (0 : Int) → (0 : Int) ≤ (gi σ 126 (3 * k)) → ∀ (v14 : Int) (s13 : Mm), M1 v14 s13 → (gi s13 126 ((3 * k) + 2)) = (1 : Int) → v14 = (1 : Int) → R 260 67 [some (vr 85), some (vi (c : Int)), some (vi hd), some (vi ((k : Int) + 1))] [] (shF n) 0 0 s13 (Qi (shF n) P)) (l6 : (0 : Int) ≤ (gi σ 85 77) → (k : Int) < (gi σ 85 77) → (gi σ 127 k) ≠ (0 : Int) → (0 : Int) ≤ (gi σ 126 (3 * k)) → ∀ (v14 : Int) (s13 : Mm), M1 v14 s13 → (gi s13 126 ((3 * k) + 2)) = (1 : Int) → v14 ≠ (1 : Int) → P 0 s13) (l7 : (0 : Int) ≤ (gi σ 85 77) → (k : Int) < (gi σ 85 77) → (gi σ 127 k) ≠ (0 : Int) → (gi σ 126 (3 * k)) < (0 : Int) → R 260 67 [some (vr 85), some (vi (c : Int)), some (vi hd), some (vi ((k : Int) + 1))] [] (shF n) 0 0 σ (Qi (shF n) P)) (l8 : (gi σ 85 77) < (0 : Int) → (gi σ 85 76) ≤ (k : Int) → P 1 σ) (l9 : (gi σ 85 77) < (0 : Int) → (k : Int) < (gi σ 85 76) → (gi σ 127 k) = (0 : Int) → R 260 67 [some (vr 85), some (vi (c : Int)), some (vi hd), some (vi ((k : Int) + 1))] [] (shF n) 0 0 σ (Qi (shF n) P)) (l10 : (gi σ 85 77) < (0 : Int) → (k : Int) < (gi σ 85 76) → (gi σ 127 k) ≠ (0 : Int) → (0 : Int) ≤ (gi σ 126 (3 * k)) → ∀ (v35 : Int) (s34 : Mm), M2 v35 s34 → (gi s34 126 ((3 * k) + 2)) ≠ (1 : Int) → v35 = (0 : Int) → R 260 67 [some (vr 85), some (vi (c : Int)), some (vi hd), some (vi ((k : Int) + 1))] [] (shF n) 0 0 s34 (Qi (shF n) P)) (l11 : (gi σ 85 77) < (0 : Int) → (k : Int) < (gi σ 85 76) → (gi σ 127 k) ≠ (0 : Int) → (0 : Int) ≤ (gi σ 126 (3 * k)) → ∀ (v35 : Int) (s34 : Mm), M2 v35 s34 → (gi s34 126 ((3 * k) + 2)) ≠ (1 : Int) → v35 ≠ (0 : Int) → P 0 s34) (l12 : (gi σ 85 77) < (0 : Int) → (k : Int) < (gi σ 85 76) → (gi σ 127 k) ≠ (0 : Int) → (0 : Int) ≤ (gi σ 126 (3 * k)) → ∀ (v35 : Int) (s34 : Mm), M2 v35 s34 → (gi s34 126 ((3 * k) + 2)) = (1 : Int) → v35 = (1 : Int) → R 260 67 [some (vr 85), some (vi (c : Int)), some (vi hd), some (vi ((k : Int) + 1))] [] (shF n) 0 0 s34 (Qi (shF n) P)) (l13 : (gi σ 85 77) < (0 : Int) → (k : Int) < (gi σ 85 76) → (gi σ 127 k) ≠ (0 : Int) → (0 : Int) ≤ (gi σ 126 (3 * k)) → ∀ (v35 : Int) (s34 : Mm), M2 v35 s34 → (gi s34 126 ((3 * k) + 2)) = (1 : Int) → v35 ≠ (1 : Int) → P 0 s34) (l14 : (gi σ 85 77) < (0 : Int) → (k : Int) < (gi σ 85 76) → (gi σ 127 k) ≠ (0 : Int) → (gi σ 126 (3 * k)) < (0 : Int) → R 260 67 [some (vr 85), some (vi (c : Int)), some (vi hd), some (vi ((k : Int) + 1))] [] (shF n) 0 0 σ (Qi (shF n) P)) : R 260 67 [some (vr 85), some (vi (c : Int)), some (vi hd), some (vi (k : Int))] [] (shF n) 0 0 σ (Qi (shF n) P) :=
  wpK_R 51 [67] ((show R 258 0 [some (vr 85)] [] (shF n) 0 0 _ _ from wpK_R 7 [] (And.intro (fun q1 => And.intro ret0 ⟨rfl, _, rfl, And.intro (fun q2 => And.intro ret0 (And.intro (Or.inr rfl) ⟨rfl, _, rfl, (l1 q1 q2)⟩)) (fun q2 => (have k3 := (o1 q1 (Int.not_le.mp q2)); And.intro k3 (And.intro (fun q4 => (have k5 := (o2 q1 (Int.not_le.mp q2) q4); And.intro k5 ((l2 q1 (Int.not_le.mp q2) q4)))) (fun q4 => (have k6 := (o3 q1 (Int.not_le.mp q2) q4); And.intro k6 ((have k7 := (o4 q1 (Int.not_le.mp q2) q4); And.intro k7 (And.intro (fun q8 => And.intro k6 (And.intro k7 (And.intro k6 ((have k9 := (o5 q1 (Int.not_le.mp q2) q4 q8); And.intro k9 ((have k10 := (o6 q1 (Int.not_le.mp q2) q4 q8); And.intro k10 ((have k11 := (o7 q1 (Int.not_le.mp q2) q4 q8); And.intro k11 ((Ci_mono (o8 q1 (Int.not_le.mp q2) q4 q8) (fun v14 s13 h12 => And.intro k6 ((have k15 := (o9 q1 (Int.not_le.mp q2) q4 q8 v14 s13 h12); And.intro k15 ((have k16 := (o10 q1 (Int.not_le.mp q2) q4 q8 v14 s13 h12); And.intro k16 (And.intro (fun q17 => And.intro (fun q18 => (have k19 := (o11 q1 (Int.not_le.mp q2) q4 q8 v14 s13 h12 q17 q18); And.intro k19 ((l3 q1 (Int.not_le.mp q2) q4 q8 v14 s13 h12 q17 q18)))) (fun q18 => And.intro ret0 (And.intro (Or.inl rfl) ⟨rfl, _, rfl, (l4 q1 (Int.not_le.mp q2) q4 q8 v14 s13 h12 q17 q18)⟩))) (fun q17 => And.intro (fun q20 => (have k21 := (o12 q1 (Int.not_le.mp q2) q4 q8 v14 s13 h12 (Classical.not_not.mp q17) q20); And.intro k21 ((l5 q1 (Int.not_le.mp q2) q4 q8 v14 s13 h12 (Classical.not_not.mp q17) q20)))) (fun q20 => And.intro ret0 (And.intro (Or.inl rfl) ⟨rfl, _, rfl, (l6 q1 (Int.not_le.mp q2) q4 q8 v14 s13 h12 (Classical.not_not.mp q17) q20)⟩)))))))))))))))))))) (fun q8 => (have k22 := (o13 q1 (Int.not_le.mp q2) q4 (Int.not_le.mp q8)); And.intro k22 ((l7 q1 (Int.not_le.mp q2) q4 (Int.not_le.mp q8)))))))))))))⟩) (fun q1 => And.intro ret0 ⟨rfl, _, rfl, And.intro (fun q23 => And.intro ret0 (And.intro (Or.inr rfl) ⟨rfl, _, rfl, (l8 (Int.not_le.mp q1) q23)⟩)) (fun q23 => (have k24 := (o14 (Int.not_le.mp q1) (Int.not_le.mp q23)); And.intro k24 (And.intro (fun q25 => (have k26 := (o15 (Int.not_le.mp q1) (Int.not_le.mp q23) q25); And.intro k26 ((l9 (Int.not_le.mp q1) (Int.not_le.mp q23) q25)))) (fun q25 => (have k27 := (o16 (Int.not_le.mp q1) (Int.not_le.mp q23) q25); And.intro k27 ((have k28 := (o17 (Int.not_le.mp q1) (Int.not_le.mp q23) q25); And.intro k28 (And.intro (fun q29 => And.intro k27 (And.intro k28 (And.intro k27 ((have k30 := (o18 (Int.not_le.mp q1) (Int.not_le.mp q23) q25 q29); And.intro k30 ((have k31 := (o19 (Int.not_le.mp q1) (Int.not_le.mp q23) q25 q29); And.intro k31 ((have k32 := (o20 (Int.not_le.mp q1) (Int.not_le.mp q23) q25 q29); And.intro k32 ((Ci_mono (o21 (Int.not_le.mp q1) (Int.not_le.mp q23) q25 q29) (fun v35 s34 h33 => And.intro k27 ((have k36 := (o22 (Int.not_le.mp q1) (Int.not_le.mp q23) q25 q29 v35 s34 h33); And.intro k36 ((have k37 := (o23 (Int.not_le.mp q1) (Int.not_le.mp q23) q25 q29 v35 s34 h33); And.intro k37 (And.intro (fun q38 => And.intro (fun q39 => (have k40 := (o24 (Int.not_le.mp q1) (Int.not_le.mp q23) q25 q29 v35 s34 h33 q38 q39); And.intro k40 ((l10 (Int.not_le.mp q1) (Int.not_le.mp q23) q25 q29 v35 s34 h33 q38 q39)))) (fun q39 => And.intro ret0 (And.intro (Or.inl rfl) ⟨rfl, _, rfl, (l11 (Int.not_le.mp q1) (Int.not_le.mp q23) q25 q29 v35 s34 h33 q38 q39)⟩))) (fun q38 => And.intro (fun q41 => (have k42 := (o25 (Int.not_le.mp q1) (Int.not_le.mp q23) q25 q29 v35 s34 h33 (Classical.not_not.mp q38) q41); And.intro k42 ((l12 (Int.not_le.mp q1) (Int.not_le.mp q23) q25 q29 v35 s34 h33 (Classical.not_not.mp q38) q41)))) (fun q41 => And.intro ret0 (And.intro (Or.inl rfl) ⟨rfl, _, rfl, (l13 (Int.not_le.mp q1) (Int.not_le.mp q23) q25 q29 v35 s34 h33 (Classical.not_not.mp q38) q41)⟩)))))))))))))))))))) (fun q29 => (have k43 := (o26 (Int.not_le.mp q1) (Int.not_le.mp q23) q25 (Int.not_le.mp q29)); And.intro k43 ((l14 (Int.not_le.mp q1) (Int.not_le.mp q23) q25 (Int.not_le.mp q29)))))))))))))⟩))))
def ftS (σ : Mm) : Nat → Nat → Bool := ftC σ (wv σ 40)
def okS (σ : Mm) (c : Nat) : Bool := okC (gi σ 5 0).toNat (ftS σ) (gi σ 5 0).toNat 0 (fun _ => false) c
theorem c_ir {xs : Nat → Int} {N n c : Nat} {σ τ : Mm} {P : Int → Mm → Prop} (h : Rel xs N σ) (fr : ∀ a i, a ≠ 127 → a ≠ 128 → ¬ (a = 85 ∧ i = 2) → gi τ a i = gi σ a i) (hc : ∀ i, i < Kf σ → gi τ 127 i = b2i (!skN (gi σ 78) (gi σ 76) (Kf σ) (Kf σ) i)) (hcb : c < 2147483648) (hP : ∀ s, (∀ a i, a ≠ 128 → gi s a i = gi τ a i) → (okS σ c = true → ∀ j, j < (gi σ 5 0).toNat → gi s 128 j = ((c / (gi σ 5 0).toNat ^ j % (gi σ 5 0).toNat : Nat) : Int)) → P (b2i (okS σ c)) s) : Ci 260 [vr 85, vi (c : Int)] (shF n) τ P := by
  obtain ⟨c0, c1, c2, c3, c5, d0, d1, d2, d3, -⟩ := Rel_cnt h
  have hf := Rel_FP h
  obtain ⟨K1, K2, K3⟩ := FP_K hf
  obtain ⟨r1, r2, r3, r4, r5⟩ := h.2.2.2.2.2.2.2.2.2.2.2.2.1
  have T0 : vw σ 5 0 0 = gi σ 5 0 := rfl
  obtain ⟨J, hJ⟩ : ∃ J : Nat, gi σ 5 0 = (J : Int) := ⟨(gi σ 5 0).toNat, by omega⟩
  have hJn : (gi σ 5 0).toNat = J := by omega
  rw [hJn] at hP
  obtain ⟨dg, hdg⟩ : ∃ dg : Nat → Nat, dg = fun t => c / J ^ t % J := ⟨_, rfl⟩
  have hdgt : ∀ t, dg t = c / J ^ t % J := fun t => by rw [hdg]
  have hdJ : 0 < J → ∀ t, dg t < J := fun q t => by rw [hdgt]; exact Nat.mod_lt _ q
  have hiff : okS σ c = true ↔ ∀ t, t < J → (∀ t', t' < t → dg t' ≠ dg t) ∧ ftS σ t (dg t) = true := by
    unfold okS
    rw [hJn, okC_iff]
    constructor
    · intro q t ht
      obtain ⟨-, b, d⟩ := q t ht
      rw [Nat.zero_add] at d
      exact ⟨fun t' ht' => by rw [hdgt, hdgt]; exact b t' ht', by rw [hdgt]; exact d⟩
    · intro q t ht
      obtain ⟨b, d⟩ := q t ht
      rw [Nat.zero_add]
      exact ⟨rfl, fun t' ht' => by rw [← hdgt, ← hdgt]; exact b t' ht', by rw [← hdgt]; exact d⟩
  have hfalse : ∀ s, (∀ a i, a ≠ 128 → gi s a i = gi τ a i) → ¬ (okS σ c = true) → P 0 s := fun s q z => by
    have e : okS σ c = false := by cases y : okS σ c with | false => rfl | true => exact absurd y z
    have := hP s q (fun y => absurd y z)
    rw [e] at this
    exact this
  refine v_ir_0 c ?_
  refine loopUp (N := J) (I := fun j => ∀ (hd : Int) (τ' : Mm), (∀ a i, a ≠ 128 → gi τ' a i = gi τ a i) → (∀ t, t < j → gi τ' 128 t = (dg t : Int)) → (∀ x, x < 32 → bi hd x = anyF (fun t => decide (dg t = x)) j) → (∀ t, t < j → ∀ t', t' < t → dg t' ≠ dg t) → R 260 4 [some (vr 85), some (vi (c : Int)), some (vi hd), some (vi (j : Int))] [] (shF n) 0 0 τ' (Qi (shF n) P)) (fun j hj ih => ?_) 0 (by omega) 0 τ (fun _ _ _ => rfl) (fun _ q => by omega) (fun x _ => bi_0 x) (fun _ q => by omega)
  intro hd τ' f1 f2 f3 f4
  have e12 : gi τ' 85 12 = (J : Int) := by rw [f1 _ _ (by omega), fr _ _ (by omega) (by omega) (by omega)]; omega
  have hpw : j < J → 0 < J ^ j ∧ J ^ j ≤ 15625 := fun q => ⟨Nat.pow_pos (by omega), pw_bd (by omega) (by omega)⟩
  have hx2 : ∀ x2 : Int, x2 = (((gi τ' 85 12).toNat ^ (j : Int).toNat : Nat) : Int) → x2 = ((J ^ j : Nat) : Int) := fun x2 e => by rw [e, e12, Int.toNat_natCast, Int.toNat_natCast]
  have hdj : ∀ x2 : Int, x2 = (((gi τ' 85 12).toNat ^ (j : Int).toNat : Nat) : Int) → ((c : Int) / x2) % (gi τ' 85 12) = (dg j : Int) := fun x2 e => by rw [hx2 x2 e, e12, hdgt, Int.natCast_emod, Int.natCast_ediv]
  refine v_ir_4 c hd j (by intros; first | omega | (have q := hpw (by omega); have q2 := hx2 _ ‹_›; first | omega | exact ⟨Int.ediv_nonneg (by omega) (by omega), by omega⟩) | (unfold rg; omega)) (by intros; first | omega | (have q := hpw (by omega); have q2 := hx2 _ ‹_›; first | omega | exact ⟨Int.ediv_nonneg (by omega) (by omega), by omega⟩) | (unfold rg; omega)) (by intros; first | omega | (have q := hpw (by omega); have q2 := hx2 _ ‹_›; first | omega | exact ⟨Int.ediv_nonneg (by omega) (by omega), by omega⟩) | (unfold rg; omega)) (by intros; first | omega | (have q := hpw (by omega); have q2 := hx2 _ ‹_›; first | omega | exact ⟨Int.ediv_nonneg (by omega) (by omega), by omega⟩) | (unfold rg; omega)) (by intros; first | omega | (have q := hpw (by omega); have q2 := hx2 _ ‹_›; first | omega | exact ⟨Int.ediv_nonneg (by omega) (by omega), by omega⟩) | (unfold rg; omega)) (by intros; first | omega | (have q := hpw (by omega); have q2 := hx2 _ ‹_›; first | omega | exact ⟨Int.ediv_nonneg (by omega) (by omega), by omega⟩) | (unfold rg; omega)) ?_ ?_ ?_
  · intro hge
    have hjJ : j = J := by omega
    subst hjJ
    clear ih
    have hbad : ∀ i, i < Kf σ → gi σ 78 i ≠ 2 → (gi σ 77 i).toNat < j ∧ (0 ≤ gi σ 77 i ∧ gi σ 77 i < (j : Int)) ∧ (0 ≤ gi σ 76 i ∧ gi σ 76 i < 10) ∧ gi σ 126 (3 * i) = gi σ 76 i ∧ gi σ 126 (3 * i + 1) = gi σ 77 i ∧ gi σ 126 (3 * i + 2) = gi σ 78 i := fun i hi hne => by
      have hC : 0 ≤ gi σ 5 1 ∧ gi σ 5 1 ≤ 10 := c1
      have T1 : vw σ 5 0 1 = gi σ 5 1 := rfl
      rcases r5 i (by omega) with ⟨w1, -⟩ | ⟨w1, w2, w3, w4, w5, w6⟩
      · exact absurd w1 hne
      · exact ⟨by omega, by omega, by omega, w4, w5, w6⟩
    have hft : (∀ i, i < Kf σ → ∀ t, bdC σ (wv σ 40) t (dg t) i = true → False) → okS σ c = true := fun q => by
      rw [hiff]
      intro t ht
      refine ⟨f4 t ht, ?_⟩
      unfold ftS ftC
      cases y : anyF (bdC σ (wv σ 40) t (dg t)) (Kf σ) with
      | false => rfl
      | true => obtain ⟨i, hi, hb⟩ := anyF_iff.mp y; exact absurd hb (fun z => q i hi t z)
    refine loopUp (N := Kf σ) (I := fun k => (∀ i, i < k → ∀ t, bdC σ (wv σ 40) t (dg t) i = true → False) → R 260 67 [some (vr 85), some (vi (c : Int)), some (vi hd), some (vi (k : Int))] [] (shF n) 0 0 τ' (Qi (shF n) P)) (fun k hk ih => ?_) 0 (by omega) (fun _ q => by omega)
    intro hgood
    have e77 : gi τ' 85 77 = gi σ 75 7 := by rw [f1 _ _ (by omega), fr _ _ (by omega) (by omega) (by omega)]; omega
    have e76 : gi τ' 85 76 = gi σ 75 6 := by rw [f1 _ _ (by omega), fr _ _ (by omega) (by omega) (by omega)]; omega
    have hK7 : 0 ≤ gi σ 75 7 → (Kf σ : Int) = gi σ 75 7 := fun q => by rw [if_neg (by omega)] at K1; exact K1
    have hK6 : gi σ 75 7 < 0 → (Kf σ : Int) = gi σ 75 6 := fun q => by rw [if_pos (by omega)] at K1; exact K1
    have hkK : (0 ≤ gi τ' 85 77 ∧ (k : Int) < gi τ' 85 77) ∨ (gi τ' 85 77 < 0 ∧ (k : Int) < gi τ' 85 76) → k < Kf σ := fun q => by
      rcases q with q | q
      · have := hK7 (by omega); omega
      · have := hK6 (by omega); omega
    have g126 : ∀ i, gi τ' 126 i = gi σ 126 i := fun i => by rw [f1 _ _ (by omega), fr _ _ (by omega) (by omega) (by omega)]
    have g127 : k < Kf σ → gi τ' 127 k = b2i (!skN (gi σ 78) (gi σ 76) (Kf σ) (Kf σ) k) := fun q => by rw [f1 _ _ (by omega)]; exact hc k q
    have hne2 : k < Kf σ → 0 ≤ gi τ' 126 (3 * k) → gi σ 78 k ≠ 2 := fun q z => by
      rw [g126] at z
      rcases r5 k (by omega) with ⟨w1, w2, w3, w4⟩ | ⟨w1, -⟩ <;> omega
    have h2 : k < Kf σ → gi τ' 126 (3 * k) < 0 → gi σ 78 k = 2 := fun q z => by
      rw [g126] at z
      rcases r5 k (by omega) with ⟨w1, w2, w3, w4⟩ | ⟨w1, w2, w3, w4, w5, w6⟩
      · exact w1
      · omega
    obtain ⟨u, hu⟩ : ∃ u, u = dg (gi σ 77 k).toNat := ⟨_, rfl⟩
    have hcall : k < Kf σ → 0 ≤ gi τ' 126 (3 * k) → Ci 259 [vr 85, vi (gi τ' 126 (3 * k)), vi (gi τ' 128 (gi τ' 126 (3 * k + 1)).toNat)] (shF n) τ' (fun v s => v = b2i (lies (wv σ 40) u (wv σ 40 6 u) (gi σ 76 k).toNat) ∧ s = τ') := fun q z => by
      obtain ⟨b1, b2, b3, b4, b5, b6⟩ := hbad k q (hne2 q z)
      have hu5 : u < 5 := by have := hdJ (by omega) (gi σ 77 k).toNat; omega
      have w5 := Rel_w5 h hu5
      have e113 : gi τ' 113 u = gi σ 46 u := by rw [f1 _ _ (by omega), fr _ _ (by omega) (by omega) (by omega)]; exact w5.2.2.1
      rw [g126, g126, b4, b5, f2 _ b1, ← hu]
      refine c_it hu5 b3.1 (by rw [e113]; exact w5.2.2.2.2.1) ⟨?_, rfl⟩
      rw [e113]
      rw [lies_c (V' := wv σ 40) (fun p hp => by
        show gi τ' 114 (u * 8 + p) = gi σ 47 (u * 8 + p)
        rw [f1 _ _ (by omega), fr _ _ (by omega) (by omega) (by omega)]
        exact (Rel_w0 h).2.2.1 _ (by omega))]
      rfl
    have hnext : k < Kf σ → (∀ t, bdC σ (wv σ 40) t (dg t) k = true → False) → R 260 67 [some (vr 85), some (vi (c : Int)), some (vi hd), some (vi ((k : Int) + 1))] [] (shF n) 0 0 τ' (Qi (shF n) P) := fun q z => R_eq (ih (by omega) (fun i hi => by
      by_cases e : i = k
      · rw [e]; exact z
      · exact hgood i (by omega))) rfl
    have hend : k < Kf σ → bdC σ (wv σ 40) (gi σ 77 k).toNat u k = true → P 0 τ' := fun q z => by
      refine hfalse τ' f1 (fun y => ?_)
      have hne : gi σ 78 k ≠ 2 := by
        unfold bdC at z
        simp only [Bool.and_eq_true, decide_eq_true_eq] at z
        exact z.1.1.1
      have hb := (hbad k q hne).1
      have := ((hiff.mp y) (gi σ 77 k).toNat hb).2
      unfold ftS ftC at this
      rw [← hu, anyF_iff.mpr ⟨k, q, z⟩] at this
      exact absurd this (by decide)
    have hb2 : k < Kf σ → gi τ' 127 k ≠ 0 → 0 ≤ gi τ' 126 (3 * k) → ∀ v, v = b2i (lies (wv σ 40) u (wv σ 40 6 u) (gi σ 76 k).toNat) → (gi σ 78 k ≠ 1 → v ≠ 0 → P 0 τ') ∧ (gi σ 78 k = 1 → v ≠ 1 → P 0 τ') ∧ (gi σ 78 k ≠ 1 → v = 0 → ∀ t, bdC σ (wv σ 40) t (dg t) k = true → False) ∧ (gi σ 78 k = 1 → v = 1 → ∀ t, bdC σ (wv σ 40) t (dg t) k = true → False) := fun q z1 z2 v hv => by
      have hne := hne2 q z2
      obtain ⟨b1, b2, b3, b4, b5, b6⟩ := hbad k q hne
      rw [g127 q] at z1
      have hst : skN (gi σ 78) (gi σ 76) (Kf σ) (Kf σ) k = false := by
        have := b2i_nz z1
        simpa using this
      have mkb : ∀ bb : Bool, (lies (wv σ 40) u (wv σ 40 6 u) (gi σ 76 k).toNat != decide (gi σ 78 k = 1)) = bb → bdC σ (wv σ 40) (gi σ 77 k).toNat u k = bb := fun bb e => by
        unfold bdC
        rw [e, hst, decide_eq_true hne, decide_eq_true (show gi σ 77 k = (((gi σ 77 k).toNat : Nat) : Int) by omega)]
        simp
      have noo : bdC σ (wv σ 40) (gi σ 77 k).toNat u k = false → ∀ t, bdC σ (wv σ 40) t (dg t) k = true → False := fun e t y => by
        have et : t = (gi σ 77 k).toNat := by
          unfold bdC at y
          simp only [Bool.and_eq_true, decide_eq_true_eq] at y
          have := y.1.2
          omega
        rw [et, ← hu, e] at y
        exact Bool.noConfusion y
      refine ⟨fun a1 a2 => hend q (mkb true ?_), fun a1 a2 => hend q (mkb true ?_), fun a1 a2 => noo (mkb false ?_), fun a1 a2 => noo (mkb false ?_)⟩
      · rw [hv] at a2; rw [b2i_nz a2, decide_eq_false a1]; rfl
      · cases y : lies (wv σ 40) u (wv σ 40 6 u) (gi σ 76 k).toNat with
        | false => rw [decide_eq_true a1]; rfl
        | true => rw [hv, y] at a2; exact absurd rfl a2
      · rw [hv] at a2; rw [b2i_z a2, decide_eq_false a1]; rfl
      · cases y : lies (wv σ 40) u (wv σ 40 6 u) (gi σ 76 k).toNat with
        | true => rw [decide_eq_true a1]; rfl
        | false => rw [hv, y] at a2; exact absurd a2 (by decide)
    have e78 : k < Kf σ → 0 ≤ gi τ' 126 (3 * k) → gi τ' 126 (3 * k + 2) = gi σ 78 k := fun q z => by rw [g126]; exact (hbad k q (hne2 q z)).2.2.2.2.2
    have hskip0 : k < Kf σ → gi τ' 127 k = 0 → ∀ t, bdC σ (wv σ 40) t (dg t) k = true → False := fun q z t y => by
      rw [g127 q] at z
      have := b2i_z z
      unfold bdC at y
      rw [show skN (gi σ 78) (gi σ 76) (Kf σ) (Kf σ) k = true by simpa using this] at y
      simp at y
    have hskip2 : k < Kf σ → gi τ' 126 (3 * k) < 0 → ∀ t, bdC σ (wv σ 40) t (dg t) k = true → False := fun q z t y => by
      unfold bdC at y
      rw [decide_eq_false (fun w => w (h2 q z))] at y
      simp at y
    have hdone : (Kf σ : Int) ≤ (k : Int) → P 1 τ' := fun q => by
      have hok := hft (fun i hi => hgood i (by omega))
      have := hP τ' f1 (fun _ t ht => by rw [f2 t ht, hdgt])
      rw [hok] at this
      exact this
    have hin5 : k < Kf σ → 0 ≤ gi τ' 126 (3 * k) → 0 ≤ gi τ' 126 (3 * k + 1) ∧ gi τ' 126 (3 * k + 1) < 5 := fun q z => by
      have := hbad k q (hne2 q z)
      rw [g126]; omega
    have hk1 : 0 ≤ gi τ' 85 77 → (k : Int) < gi τ' 85 77 → k < Kf σ := fun a b => hkK (Or.inl ⟨a, b⟩)
    have hk2 : gi τ' 85 77 < 0 → (k : Int) < gi τ' 85 76 → k < Kf σ := fun a b => hkK (Or.inr ⟨a, b⟩)
    have hdone1 : 0 ≤ gi τ' 85 77 → gi τ' 85 77 ≤ (k : Int) → P 1 τ' := fun a b => hdone (by have := hK7 (by omega); omega)
    have hdone2 : gi τ' 85 77 < 0 → gi τ' 85 76 ≤ (k : Int) → P 1 τ' := fun a b => hdone (by have := hK6 (by omega); omega)
    have hrg : k < Kf σ → (0 ≤ (k : Int) ∧ (k : Int) < 24) ∧ rg ((k : Int) + 1) ∧ rg ((3 : Int) * (k : Int)) ∧ (0 ≤ ((3 : Int) * (k : Int)) ∧ ((3 : Int) * (k : Int)) < 72) ∧ rg (((3 : Int) * (k : Int)) + 1) ∧ (0 ≤ (((3 : Int) * (k : Int)) + 1) ∧ (((3 : Int) * (k : Int)) + 1) < 72) ∧ rg (((3 : Int) * (k : Int)) + 2) ∧ (0 ≤ (((3 : Int) * (k : Int)) + 2) ∧ (((3 : Int) * (k : Int)) + 2) < 72) := fun q => by
      have : k < 24 := by omega
      clear hb2 hend hnext hcall hgood ih hft hbad hiff hfalse hP r5
      refine ⟨by omega, ?_, ?_, by omega, ?_, by omega, ?_, by omega⟩ <;> (unfold rg; omega)
    have lv1 : k < Kf σ → gi τ' 127 k ≠ 0 → 0 ≤ gi τ' 126 (3 * k) → ∀ (v : Int) (s : Mm), (fun v s => v = b2i (lies (wv σ 40) u (wv σ 40 6 u) (gi σ 76 k).toNat) ∧ s = τ') v s → gi s 126 (3 * k + 2) ≠ 1 → v = 0 → R 260 67 [some (vr 85), some (vi (c : Int)), some (vi hd), some (vi ((k : Int) + 1))] [] (shF n) 0 0 s (Qi (shF n) P) := fun kk q3 q4 v s m q5 q6 => by
      obtain ⟨m1, rfl⟩ := m
      rw [e78 kk q4] at q5
      exact hnext kk ((hb2 kk q3 q4 v m1).2.2.1 q5 q6)
    have lv2 : k < Kf σ → gi τ' 127 k ≠ 0 → 0 ≤ gi τ' 126 (3 * k) → ∀ (v : Int) (s : Mm), (fun v s => v = b2i (lies (wv σ 40) u (wv σ 40 6 u) (gi σ 76 k).toNat) ∧ s = τ') v s → gi s 126 (3 * k + 2) ≠ 1 → v ≠ 0 → P 0 s := fun kk q3 q4 v s m q5 q6 => by
      obtain ⟨m1, rfl⟩ := m
      rw [e78 kk q4] at q5
      exact (hb2 kk q3 q4 v m1).1 q5 q6
    have lv3 : k < Kf σ → gi τ' 127 k ≠ 0 → 0 ≤ gi τ' 126 (3 * k) → ∀ (v : Int) (s : Mm), (fun v s => v = b2i (lies (wv σ 40) u (wv σ 40 6 u) (gi σ 76 k).toNat) ∧ s = τ') v s → gi s 126 (3 * k + 2) = 1 → v = 1 → R 260 67 [some (vr 85), some (vi (c : Int)), some (vi hd), some (vi ((k : Int) + 1))] [] (shF n) 0 0 s (Qi (shF n) P) := fun kk q3 q4 v s m q5 q6 => by
      obtain ⟨m1, rfl⟩ := m
      rw [e78 kk q4] at q5
      exact hnext kk ((hb2 kk q3 q4 v m1).2.2.2 q5 q6)
    have lv4 : k < Kf σ → gi τ' 127 k ≠ 0 → 0 ≤ gi τ' 126 (3 * k) → ∀ (v : Int) (s : Mm), (fun v s => v = b2i (lies (wv σ 40) u (wv σ 40 6 u) (gi σ 76 k).toNat) ∧ s = τ') v s → gi s 126 (3 * k + 2) = 1 → v ≠ 1 → P 0 s := fun kk q3 q4 v s m q5 q6 => by
      obtain ⟨m1, rfl⟩ := m
      rw [e78 kk q4] at q5
      exact (hb2 kk q3 q4 v m1).2.1 q5 q6
    exact v_ir_67 c hd k (M1 := (fun v s => v = b2i (lies (wv σ 40) u (wv σ 40 6 u) (gi σ 76 k).toNat) ∧ s = τ')) (M2 := (fun v s => v = b2i (lies (wv σ 40) u (wv σ 40 6 u) (gi σ 76 k).toNat) ∧ s = τ')) (fun a b => (hrg (hk1 a b)).1) (fun a b _ => (hrg (hk1 a b)).2.1) (fun a b _ => (hrg (hk1 a b)).2.2.1) (fun a b _ => (hrg (hk1 a b)).2.2.2.1) (fun a b _ _ => (hrg (hk1 a b)).2.2.2.2.1) (fun a b _ _ => (hrg (hk1 a b)).2.2.2.2.2.1) (fun a b _ d => hin5 (hk1 a b) d) (fun a b _ d => hcall (hk1 a b) d) (fun a b _ _ _ _ _ => (hrg (hk1 a b)).2.2.2.2.2.2.1) (fun a b _ _ _ _ _ => (hrg (hk1 a b)).2.2.2.2.2.2.2) (fun a b _ _ _ _ _ _ _ => (hrg (hk1 a b)).2.1) (fun a b _ _ _ _ _ _ _ => (hrg (hk1 a b)).2.1) (fun a b _ _ => (hrg (hk1 a b)).2.1) (fun a b => (hrg (hk2 a b)).1) (fun a b _ => (hrg (hk2 a b)).2.1) (fun a b _ => (hrg (hk2 a b)).2.2.1) (fun a b _ => (hrg (hk2 a b)).2.2.2.1) (fun a b _ _ => (hrg (hk2 a b)).2.2.2.2.1) (fun a b _ _ => (hrg (hk2 a b)).2.2.2.2.2.1) (fun a b _ d => hin5 (hk2 a b) d) (fun a b _ d => hcall (hk2 a b) d) (fun a b _ _ _ _ _ => (hrg (hk2 a b)).2.2.2.2.2.2.1) (fun a b _ _ _ _ _ => (hrg (hk2 a b)).2.2.2.2.2.2.2) (fun a b _ _ _ _ _ _ _ => (hrg (hk2 a b)).2.1) (fun a b _ _ _ _ _ _ _ => (hrg (hk2 a b)).2.1) (fun a b _ _ => (hrg (hk2 a b)).2.1) (fun a b => hdone1 a b) (fun a b d => hnext (hk1 a b) (hskip0 (hk1 a b) d)) (fun a b d e v s m f g => lv1 (hk1 a b) d e v s m f g) (fun a b d e v s m f g => lv2 (hk1 a b) d e v s m f g) (fun a b d e v s m f g => lv3 (hk1 a b) d e v s m f g) (fun a b d e v s m f g => lv4 (hk1 a b) d e v s m f g) (fun a b d e => hnext (hk1 a b) (hskip2 (hk1 a b) e)) (fun a b => hdone2 a b) (fun a b d => hnext (hk2 a b) (hskip0 (hk2 a b) d)) (fun a b d e v s m f g => lv1 (hk2 a b) d e v s m f g) (fun a b d e v s m f g => lv2 (hk2 a b) d e v s m f g) (fun a b d e v s m f g => lv3 (hk2 a b) d e v s m f g) (fun a b d e v s m f g => lv4 (hk2 a b) d e v s m f g) (fun a b d e => hnext (hk2 a b) (hskip2 (hk2 a b) e))
  · intro hlt x2 e2 t6 e6 hno x8 e8
    rw [hdj x2 e2] at e6
    have g128 : gi t6 128 j = (dg j : Int) := by rw [e6, gi_si, if_pos ⟨rfl, rfl⟩]
    have hdl := hdJ (by omega) j
    rw [g128, shr1 (by omega)] at hno
    rw [g128] at e8
    have hbf : bi hd (dg j) = false := by
      cases y : bi hd (dg j) with
      | false => rfl
      | true => rw [y] at hno; simp at hno
    rw [f3 _ (by omega)] at hbf
    refine R_eq (ih (by omega) x8 t6 (fun a i p => by rw [e6, gi_ne p]; exact f1 a i p) (fun t ht => ?_) (fun x hx => ?_) (fun t ht t' ht' => ?_)) rfl
    · rw [e6, gi_si]
      by_cases e : t = j
      · rw [if_pos ⟨rfl, e⟩, e]
      · rw [if_neg (fun z => e z.2)]; exact f2 t (by omega)
    · rw [e8, bi_or, f3 x hx, shl1 (by omega) hx, anyF_s]
      congr 1
      exact decide_eq_decide.mpr ⟨fun q => q.symm, fun q => q.symm⟩
    · by_cases e : t = j
      · subst e
        intro z
        rw [anyF_iff.mpr ⟨t', ht', decide_eq_true z⟩] at hbf
        exact Bool.noConfusion hbf
      · exact f4 t (by omega) t' ht'
  · intro hlt x2 e2 t6 e6 hyes
    rw [hdj x2 e2] at e6
    have g128 : gi t6 128 j = (dg j : Int) := by rw [e6, gi_si, if_pos ⟨rfl, rfl⟩]
    have hdl := hdJ (by omega) j
    rw [g128, shr1 (by omega)] at hyes
    have hbt : bi hd (dg j) = true := by
      cases y : bi hd (dg j) with
      | true => rfl
      | false => rw [y] at hyes; simp at hyes
    rw [f3 _ (by omega)] at hbt
    obtain ⟨t, ht, hd'⟩ := anyF_iff.mp hbt
    refine hfalse t6 (fun a i p => by rw [e6, gi_ne p]; exact f1 a i p) (fun y => ?_)
    exact ((hiff.mp y) j (by omega)).1 t ht (of_decide_eq_true hd')
