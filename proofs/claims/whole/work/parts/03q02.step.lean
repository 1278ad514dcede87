/-! TEXT: the class's step -/
def TkC (b : Nat → Int) (L q : Nat) (nx k v : Int) : Prop :=
  (L ≤ q ∧ k = 0 ∧ v = 0 ∧ nx = (q : Int)) ∨
  (q < L ∧ isL (b q) = true ∧ nx = (lr (fun i => isL (b i)) L q : Int) ∧ wdS b q (lr (fun i => isL (b i)) L q) k v) ∨
  (q < L ∧ isD (b q) = true ∧ nx = (lr (fun i => isD (b i)) L q : Int) ∧ k = 3 ∧ v = nvC b q (lr (fun i => isD (b i)) L q - q)) ∨
  (q < L ∧ isL (b q) = false ∧ isD (b q) = false ∧ sgR (b q) (if q + 1 < L then b (q + 1) else 0) k v (nx - (q : Int)))
def TkR (σ s : Mm) : Prop := fr37 σ s ∧ gi s 37 9 = (lB σ (gi σ 37 8).toNat : Int) ∧ TkC (gi σ 4) (gi σ 37 7).toNat (lB σ (gi σ 37 8).toNat) (gi s 37 8) (gi s 37 10) (gi s 37 11)
def Lx (σ : Mm) : Prop := (0 ≤ gi σ 37 8 ∧ gi σ 37 8 ≤ gi σ 37 7 ∧ gi σ 37 7 ≤ 700) ∧ (∀ i, i < 19 → gi σ 38 i = cdF i)
theorem v_stp_0 {n : Nat}   {σ : Mm} {P : Mm → Prop} (o1 : (gi σ 37 8) < (gi σ 37 7) → (0 ≤ (gi σ 37 8) ∧ (gi σ 37 8) < 700)) (o2 : (gi σ 37 8) < (gi σ 37 7) → (gi σ 4 (gi σ 37 8).toNat) = (10 : Int) → rg ((gi σ 37 8) + 1)) (o3 : (gi σ 37 8) < (gi σ 37 7) → (gi σ 4 (gi σ 37 8).toNat) ≠ (10 : Int) → (gi σ 4 (gi σ 37 8).toNat) = (32 : Int) → rg ((gi σ 37 8) + 1)) (l1 : (gi σ 37 7) ≤ (gi σ 37 8) → R 63 39 [some (vr 37)] [] (shF n) 0 0 σ (Qv (shF n) P)) (l2 : (gi σ 37 8) < (gi σ 37 7) → (gi σ 4 (gi σ 37 8).toNat) = (10 : Int) → ∀ t5 : Mm, t5 = si σ 37 8 ((gi σ 37 8) + 1) → R 63 0 [some (vr 37)] [] (shF n) 0 0 t5 (Qv (shF n) P)) (l3 : (gi σ 37 8) < (gi σ 37 7) → (gi σ 4 (gi σ 37 8).toNat) ≠ (10 : Int) → (gi σ 4 (gi σ 37 8).toNat) ≠ (32 : Int) → R 63 39 [some (vr 37)] [] (shF n) 0 0 σ (Qv (shF n) P)) (l4 : (gi σ 37 8) < (gi σ 37 7) → (gi σ 4 (gi σ 37 8).toNat) ≠ (10 : Int) → (gi σ 4 (gi σ 37 8).toNat) = (32 : Int) → ∀ t8 : Mm, t8 = si σ 37 8 ((gi σ 37 8) + 1) → R 63 0 [some (vr 37)] [] (shF n) 0 0 t8 (Qv (shF n) P)) : Cv 63 [vr 37] (shF n) σ P :=
  show R 63 0 [some (vr 37)] [] (shF n) 0 0 σ (Qv (shF n) P) from wpK_R 20 [0, 39] (And.intro (fun q1 => (l1 q1)) (fun q1 => (have k2 := (o1 (Int.not_le.mp q1)); And.intro k2 ((show R 64 0 [_] [] (shF n) 0 0 _ _ from wpK_R 9 [] (And.intro (fun q3 => And.intro ret0 (And.intro (Or.inr rfl) ⟨rfl, _, rfl, And.intro (fun q => absurd q (show ¬ ((1 : Int) = 0) by decide)) (fun _ => (have k4 := (o2 (Int.not_le.mp q1) q3); And.intro k4 ((l2 (Int.not_le.mp q1) q3 _ rfl))))⟩)) (fun q3 => And.intro (fun q6 => And.intro ret0 (And.intro (Or.inl rfl) ⟨rfl, _, rfl, And.intro (fun _ => (l3 (Int.not_le.mp q1) q3 q6)) (fun q => absurd (show (0 : Int) = 0 by decide) q)⟩)) (fun q6 => And.intro ret0 (And.intro (Or.inr rfl) ⟨rfl, _, rfl, And.intro (fun q => absurd q (show ¬ ((1 : Int) = 0) by decide)) (fun _ => (have k7 := (o3 (Int.not_le.mp q1) q3 (Classical.not_not.mp q6)); And.intro k7 ((l4 (Int.not_le.mp q1) q3 (Classical.not_not.mp q6) _ rfl))))⟩)))))))))
theorem v_stp_39 {n : Nat}   {σ : Mm} {P : Mm → Prop} (o1 : ∀ t1 : Mm, t1 = si σ 37 9 (gi σ 37 8) → ∀ t2 : Mm, t2 = si t1 37 11 (0 : Int) → (gi σ 37 8) < (gi σ 37 7) → (0 ≤ (gi σ 37 8) ∧ (gi σ 37 8) < 700)) (o2 : ∀ t1 : Mm, t1 = si σ 37 9 (gi σ 37 8) → ∀ t2 : Mm, t2 = si t1 37 11 (0 : Int) → (gi σ 37 8) < (gi σ 37 7) → (gi σ 4 (gi σ 37 8).toNat) < (97 : Int) → (gi σ 4 (gi σ 37 8).toNat) < (48 : Int) → (0 ≤ gi t2 37 8 ∧ gi t2 37 8 < gi t2 37 7 ∧ gi t2 37 7 ≤ 700)) (o3 : ∀ t1 : Mm, t1 = si σ 37 9 (gi σ 37 8) → ∀ t2 : Mm, t2 = si t1 37 11 (0 : Int) → (gi σ 37 8) < (gi σ 37 7) → (gi σ 4 (gi σ 37 8).toNat) < (97 : Int) → (48 : Int) ≤ (gi σ 4 (gi σ 37 8).toNat) → (57 : Int) < (gi σ 4 (gi σ 37 8).toNat) → (0 ≤ gi t2 37 8 ∧ gi t2 37 8 < gi t2 37 7 ∧ gi t2 37 7 ≤ 700)) (o4 : ∀ t1 : Mm, t1 = si σ 37 9 (gi σ 37 8) → ∀ t2 : Mm, t2 = si t1 37 11 (0 : Int) → (gi σ 37 8) < (gi σ 37 7) → (gi σ 4 (gi σ 37 8).toNat) < (97 : Int) → (48 : Int) ≤ (gi σ 4 (gi σ 37 8).toNat) → (gi σ 4 (gi σ 37 8).toNat) ≤ (57 : Int) → (0 ≤ gi t2 37 8 ∧ gi t2 37 8 ≤ gi t2 37 7 ∧ gi t2 37 7 ≤ 700)) (o5 : ∀ t1 : Mm, t1 = si σ 37 9 (gi σ 37 8) → ∀ t2 : Mm, t2 = si t1 37 11 (0 : Int) → (gi σ 37 8) < (gi σ 37 7) → (gi σ 4 (gi σ 37 8).toNat) < (97 : Int) → (48 : Int) ≤ (gi σ 4 (gi σ 37 8).toNat) → (gi σ 4 (gi σ 37 8).toNat) ≤ (57 : Int) → (gi t2 37 9 = gi t2 37 8)) (o6 : ∀ t1 : Mm, t1 = si σ 37 9 (gi σ 37 8) → ∀ t2 : Mm, t2 = si t1 37 11 (0 : Int) → (gi σ 37 8) < (gi σ 37 7) → (gi σ 4 (gi σ 37 8).toNat) < (97 : Int) → (48 : Int) ≤ (gi σ 4 (gi σ 37 8).toNat) → (gi σ 4 (gi σ 37 8).toNat) ≤ (57 : Int) → (gi t2 37 11 = 0)) (o7 : ∀ t1 : Mm, t1 = si σ 37 9 (gi σ 37 8) → ∀ t2 : Mm, t2 = si t1 37 11 (0 : Int) → (gi σ 37 8) < (gi σ 37 7) → (97 : Int) ≤ (gi σ 4 (gi σ 37 8).toNat) → (122 : Int) < (gi σ 4 (gi σ 37 8).toNat) → (gi σ 4 (gi σ 37 8).toNat) < (48 : Int) → (0 ≤ gi t2 37 8 ∧ gi t2 37 8 < gi t2 37 7 ∧ gi t2 37 7 ≤ 700)) (o8 : ∀ t1 : Mm, t1 = si σ 37 9 (gi σ 37 8) → ∀ t2 : Mm, t2 = si t1 37 11 (0 : Int) → (gi σ 37 8) < (gi σ 37 7) → (97 : Int) ≤ (gi σ 4 (gi σ 37 8).toNat) → (122 : Int) < (gi σ 4 (gi σ 37 8).toNat) → (48 : Int) ≤ (gi σ 4 (gi σ 37 8).toNat) → (57 : Int) < (gi σ 4 (gi σ 37 8).toNat) → (0 ≤ gi t2 37 8 ∧ gi t2 37 8 < gi t2 37 7 ∧ gi t2 37 7 ≤ 700)) (o9 : ∀ t1 : Mm, t1 = si σ 37 9 (gi σ 37 8) → ∀ t2 : Mm, t2 = si t1 37 11 (0 : Int) → (gi σ 37 8) < (gi σ 37 7) → (97 : Int) ≤ (gi σ 4 (gi σ 37 8).toNat) → (122 : Int) < (gi σ 4 (gi σ 37 8).toNat) → (48 : Int) ≤ (gi σ 4 (gi σ 37 8).toNat) → (gi σ 4 (gi σ 37 8).toNat) ≤ (57 : Int) → (0 ≤ gi t2 37 8 ∧ gi t2 37 8 ≤ gi t2 37 7 ∧ gi t2 37 7 ≤ 700)) (o10 : ∀ t1 : Mm, t1 = si σ 37 9 (gi σ 37 8) → ∀ t2 : Mm, t2 = si t1 37 11 (0 : Int) → (gi σ 37 8) < (gi σ 37 7) → (97 : Int) ≤ (gi σ 4 (gi σ 37 8).toNat) → (122 : Int) < (gi σ 4 (gi σ 37 8).toNat) → (48 : Int) ≤ (gi σ 4 (gi σ 37 8).toNat) → (gi σ 4 (gi σ 37 8).toNat) ≤ (57 : Int) → (gi t2 37 9 = gi t2 37 8)) (o11 : ∀ t1 : Mm, t1 = si σ 37 9 (gi σ 37 8) → ∀ t2 : Mm, t2 = si t1 37 11 (0 : Int) → (gi σ 37 8) < (gi σ 37 7) → (97 : Int) ≤ (gi σ 4 (gi σ 37 8).toNat) → (122 : Int) < (gi σ 4 (gi σ 37 8).toNat) → (48 : Int) ≤ (gi σ 4 (gi σ 37 8).toNat) → (gi σ 4 (gi σ 37 8).toNat) ≤ (57 : Int) → (gi t2 37 11 = 0)) (o12 : ∀ t1 : Mm, t1 = si σ 37 9 (gi σ 37 8) → ∀ t2 : Mm, t2 = si t1 37 11 (0 : Int) → (gi σ 37 8) < (gi σ 37 7) → (97 : Int) ≤ (gi σ 4 (gi σ 37 8).toNat) → (gi σ 4 (gi σ 37 8).toNat) ≤ (122 : Int) → (0 ≤ gi t2 37 8 ∧ gi t2 37 8 ≤ gi t2 37 7 ∧ gi t2 37 7 ≤ 700)) (o13 : ∀ t1 : Mm, t1 = si σ 37 9 (gi σ 37 8) → ∀ t2 : Mm, t2 = si t1 37 11 (0 : Int) → (gi σ 37 8) < (gi σ 37 7) → (97 : Int) ≤ (gi σ 4 (gi σ 37 8).toNat) → (gi σ 4 (gi σ 37 8).toNat) ≤ (122 : Int) → (gi t2 37 9 = gi t2 37 8)) (o14 : ∀ t1 : Mm, t1 = si σ 37 9 (gi σ 37 8) → ∀ t2 : Mm, t2 = si t1 37 11 (0 : Int) → (gi σ 37 8) < (gi σ 37 7) → (97 : Int) ≤ (gi σ 4 (gi σ 37 8).toNat) → (gi σ 4 (gi σ 37 8).toNat) ≤ (122 : Int) → (gi t2 37 11 = 0)) (o15 : ∀ t1 : Mm, t1 = si σ 37 9 (gi σ 37 8) → ∀ t2 : Mm, t2 = si t1 37 11 (0 : Int) → (gi σ 37 8) < (gi σ 37 7) → (97 : Int) ≤ (gi σ 4 (gi σ 37 8).toNat) → (gi σ 4 (gi σ 37 8).toNat) ≤ (122 : Int) → (∀ i, i < 19 → gi t2 38 i = cdF i)) (l1 : ∀ t1 : Mm, t1 = si σ 37 9 (gi σ 37 8) → ∀ t2 : Mm, t2 = si t1 37 11 (0 : Int) → (gi σ 37 8) < (gi σ 37 7) → (gi σ 4 (gi σ 37 8).toNat) < (97 : Int) → (gi σ 4 (gi σ 37 8).toNat) < (48 : Int) → ∀ s8 : Mm, Sgn t2 s8 → P s8) (l2 : ∀ t1 : Mm, t1 = si σ 37 9 (gi σ 37 8) → ∀ t2 : Mm, t2 = si t1 37 11 (0 : Int) → (gi σ 37 8) < (gi σ 37 7) → (gi σ 4 (gi σ 37 8).toNat) < (97 : Int) → (48 : Int) ≤ (gi σ 4 (gi σ 37 8).toNat) → (57 : Int) < (gi σ 4 (gi σ 37 8).toNat) → ∀ s12 : Mm, Sgn t2 s12 → P s12) (l3 : ∀ t1 : Mm, t1 = si σ 37 9 (gi σ 37 8) → ∀ t2 : Mm, t2 = si t1 37 11 (0 : Int) → (gi σ 37 8) < (gi σ 37 7) → (gi σ 4 (gi σ 37 8).toNat) < (97 : Int) → (48 : Int) ≤ (gi σ 4 (gi σ 37 8).toNat) → (gi σ 4 (gi σ 37 8).toNat) ≤ (57 : Int) → ∀ s15 : Mm, Nb t2 s15 → P s15) (l4 : ∀ t1 : Mm, t1 = si σ 37 9 (gi σ 37 8) → ∀ t2 : Mm, t2 = si t1 37 11 (0 : Int) → (gi σ 37 8) < (gi σ 37 7) → (97 : Int) ≤ (gi σ 4 (gi σ 37 8).toNat) → (122 : Int) < (gi σ 4 (gi σ 37 8).toNat) → (gi σ 4 (gi σ 37 8).toNat) < (48 : Int) → ∀ s20 : Mm, Sgn t2 s20 → P s20) (l5 : ∀ t1 : Mm, t1 = si σ 37 9 (gi σ 37 8) → ∀ t2 : Mm, t2 = si t1 37 11 (0 : Int) → (gi σ 37 8) < (gi σ 37 7) → (97 : Int) ≤ (gi σ 4 (gi σ 37 8).toNat) → (122 : Int) < (gi σ 4 (gi σ 37 8).toNat) → (48 : Int) ≤ (gi σ 4 (gi σ 37 8).toNat) → (57 : Int) < (gi σ 4 (gi σ 37 8).toNat) → ∀ s24 : Mm, Sgn t2 s24 → P s24) (l6 : ∀ t1 : Mm, t1 = si σ 37 9 (gi σ 37 8) → ∀ t2 : Mm, t2 = si t1 37 11 (0 : Int) → (gi σ 37 8) < (gi σ 37 7) → (97 : Int) ≤ (gi σ 4 (gi σ 37 8).toNat) → (122 : Int) < (gi σ 4 (gi σ 37 8).toNat) → (48 : Int) ≤ (gi σ 4 (gi σ 37 8).toNat) → (gi σ 4 (gi σ 37 8).toNat) ≤ (57 : Int) → ∀ s27 : Mm, Nb t2 s27 → P s27) (l7 : ∀ t1 : Mm, t1 = si σ 37 9 (gi σ 37 8) → ∀ t2 : Mm, t2 = si t1 37 11 (0 : Int) → (gi σ 37 8) < (gi σ 37 7) → (97 : Int) ≤ (gi σ 4 (gi σ 37 8).toNat) → (gi σ 4 (gi σ 37 8).toNat) ≤ (122 : Int) → ∀ s30 : Mm, Wd t2 s30 → P s30) (l8 : ∀ t1 : Mm, t1 = si σ 37 9 (gi σ 37 8) → ∀ t2 : Mm, t2 = si t1 37 11 (0 : Int) → (gi σ 37 7) ≤ (gi σ 37 8) → ∀ t32 : Mm, t32 = si t2 37 10 (0 : Int) → P t32) : R 63 39 [some (vr 37)] [] (shF n) 0 0 σ (Qv (shF n) P) :=
  wpK_R 30 [0] (And.intro (fun q3 => (have k4 := (o1 _ rfl _ rfl q3); And.intro k4 ((show R 65 0 [_] [] (shF n) 0 0 _ _ from wpK_R 9 [] (And.intro (fun q5 => And.intro ret0 (And.intro (Or.inl rfl) ⟨rfl, _, rfl, And.intro (fun _ => And.intro k4 ((show R 66 0 [_] [] (shF n) 0 0 _ _ from wpK_R 9 [] (And.intro (fun q6 => And.intro ret0 (And.intro (Or.inl rfl) ⟨rfl, _, rfl, And.intro (fun _ => (c_sgn  (o2 _ rfl _ rfl q3 q5 q6) (fun s8 h9 => And.intro ret0 ⟨rfl, rfl, (l1 _ rfl _ rfl q3 q5 q6 s8 h9)⟩))) (fun q => absurd (show (0 : Int) = 0 by decide) q)⟩)) (fun q6 => And.intro (fun q10 => And.intro ret0 (And.intro (Or.inl rfl) ⟨rfl, _, rfl, And.intro (fun _ => (c_sgn  (o3 _ rfl _ rfl q3 q5 (Int.not_lt.mp q6) q10) (fun s12 h13 => And.intro ret0 ⟨rfl, rfl, (l2 _ rfl _ rfl q3 q5 (Int.not_lt.mp q6) q10 s12 h13)⟩))) (fun q => absurd (show (0 : Int) = 0 by decide) q)⟩)) (fun q10 => And.intro ret0 (And.intro (Or.inr rfl) ⟨rfl, _, rfl, And.intro (fun q => absurd q (show ¬ ((1 : Int) = 0) by decide)) (fun _ => (c_nb  (o4 _ rfl _ rfl q3 q5 (Int.not_lt.mp q6) (Int.not_lt.mp q10)) (o5 _ rfl _ rfl q3 q5 (Int.not_lt.mp q6) (Int.not_lt.mp q10)) (o6 _ rfl _ rfl q3 q5 (Int.not_lt.mp q6) (Int.not_lt.mp q10)) (fun s15 h16 => And.intro ret0 ⟨rfl, rfl, (l3 _ rfl _ rfl q3 q5 (Int.not_lt.mp q6) (Int.not_lt.mp q10) s15 h16)⟩)))⟩))))))) (fun q => absurd (show (0 : Int) = 0 by decide) q)⟩)) (fun q5 => And.intro (fun q17 => And.intro ret0 (And.intro (Or.inl rfl) ⟨rfl, _, rfl, And.intro (fun _ => And.intro k4 ((show R 66 0 [_] [] (shF n) 0 0 _ _ from wpK_R 9 [] (And.intro (fun q18 => And.intro ret0 (And.intro (Or.inl rfl) ⟨rfl, _, rfl, And.intro (fun _ => (c_sgn  (o7 _ rfl _ rfl q3 (Int.not_lt.mp q5) q17 q18) (fun s20 h21 => And.intro ret0 ⟨rfl, rfl, (l4 _ rfl _ rfl q3 (Int.not_lt.mp q5) q17 q18 s20 h21)⟩))) (fun q => absurd (show (0 : Int) = 0 by decide) q)⟩)) (fun q18 => And.intro (fun q22 => And.intro ret0 (And.intro (Or.inl rfl) ⟨rfl, _, rfl, And.intro (fun _ => (c_sgn  (o8 _ rfl _ rfl q3 (Int.not_lt.mp q5) q17 (Int.not_lt.mp q18) q22) (fun s24 h25 => And.intro ret0 ⟨rfl, rfl, (l5 _ rfl _ rfl q3 (Int.not_lt.mp q5) q17 (Int.not_lt.mp q18) q22 s24 h25)⟩))) (fun q => absurd (show (0 : Int) = 0 by decide) q)⟩)) (fun q22 => And.intro ret0 (And.intro (Or.inr rfl) ⟨rfl, _, rfl, And.intro (fun q => absurd q (show ¬ ((1 : Int) = 0) by decide)) (fun _ => (c_nb  (o9 _ rfl _ rfl q3 (Int.not_lt.mp q5) q17 (Int.not_lt.mp q18) (Int.not_lt.mp q22)) (o10 _ rfl _ rfl q3 (Int.not_lt.mp q5) q17 (Int.not_lt.mp q18) (Int.not_lt.mp q22)) (o11 _ rfl _ rfl q3 (Int.not_lt.mp q5) q17 (Int.not_lt.mp q18) (Int.not_lt.mp q22)) (fun s27 h28 => And.intro ret0 ⟨rfl, rfl, (l6 _ rfl _ rfl q3 (Int.not_lt.mp q5) q17 (Int.not_lt.mp q18) (Int.not_lt.mp q22) s27 h28)⟩)))⟩))))))) (fun q => absurd (show (0 : Int) = 0 by decide) q)⟩)) (fun q17 => And.intro ret0 (And.intro (Or.inr rfl) ⟨rfl, _, rfl, And.intro (fun q => absurd q (show ¬ ((1 : Int) = 0) by decide)) (fun _ => (c_wd  (o12 _ rfl _ rfl q3 (Int.not_lt.mp q5) (Int.not_lt.mp q17)) (o13 _ rfl _ rfl q3 (Int.not_lt.mp q5) (Int.not_lt.mp q17)) (o14 _ rfl _ rfl q3 (Int.not_lt.mp q5) (Int.not_lt.mp q17)) (o15 _ rfl _ rfl q3 (Int.not_lt.mp q5) (Int.not_lt.mp q17)) (fun s30 h31 => And.intro ret0 ⟨rfl, rfl, (l7 _ rfl _ rfl q3 (Int.not_lt.mp q5) (Int.not_lt.mp q17) s30 h31)⟩)))⟩)))))))) (fun q3 => And.intro ret0 ⟨rfl, rfl, (l8 _ rfl _ rfl (Int.not_lt.mp q3) _ rfl)⟩))
theorem stp_39 {n : Nat} {σ : Mm} {P : Mm → Prop} {q L : Nat} (hq : gi σ 37 8 = (q : Int)) (hL : gi σ 37 7 = (L : Int)) (hqL : q ≤ L) (hL7 : L ≤ 700) (hcd : ∀ i, i < 19 → gi σ 38 i = cdF i) (hP : ∀ s, fr37 σ s → gi s 37 9 = (q : Int) → TkC (gi σ 4) L q (gi s 37 8) (gi s 37 10) (gi s 37 11) → P s) : R 63 39 [some (vr 37)] [] (shF n) 0 0 σ (Qv (shF n) P) := by
  have g4 : gi σ 4 (gi σ 37 8).toNat = gi σ 4 q := by rw [hq, Int.toNat_natCast]
  have ht : ∀ t1 t2 : Mm, t1 = si σ 37 9 (gi σ 37 8) → t2 = si t1 37 11 (0 : Int) → fr37 σ t2 ∧ gi t2 37 8 = (q : Int) ∧ gi t2 37 7 = (L : Int) ∧ gi t2 37 9 = (q : Int) ∧ gi t2 37 11 = 0 ∧ gi t2 4 = gi σ 4 ∧ (∀ i, i < 19 → gi t2 38 i = cdF i) := fun t1 t2 e1 e2 => by
    have hf : fr37 σ t2 := by rw [e2, e1]; exact fr37_si (fr37_si (fr37_rf σ) (by omega)) (by omega)
    refine ⟨hf, ?_, by rw [hf 37 7 (by omega)]; exact hL, ?_, by rw [e2, g37, if_pos rfl], funext fun i => hf 4 i (by omega), fun i hi => by rw [hf 38 i (by omega)]; exact hcd i hi⟩
    · rw [e2, e1, g37, if_neg (by omega), g37, if_neg (by omega)]; exact hq
    · rw [e2, e1, g37, if_neg (by omega), g37, if_pos rfl]; exact hq
  have htr : ∀ t s : Mm, fr37 σ t → fr37 t s → fr37 σ s := fun t s a b x i p => (b x i p).trans (a x i p)
  have hS : ∀ t1 t2 : Mm, t1 = si σ 37 9 (gi σ 37 8) → t2 = si t1 37 11 (0 : Int) → q < L → isL (gi σ 4 q) = false → isD (gi σ 4 q) = false → ∀ s : Mm, Sgn t2 s → P s := fun t1 t2 e1 e2 a b c s z => by
    obtain ⟨k1, k2, k3, k4, k5, k6, k7⟩ := ht t1 t2 e1 e2
    obtain ⟨z1, z2, z3⟩ := z
    have hb : bhd t2 = if q + 1 < L then gi σ 4 (q + 1) else 0 := by
      unfold bhd
      rw [k2, k3, k6]
      by_cases y : q + 1 < L
      · rw [if_pos (by omega), if_pos y, show ((q : Int) + 1).toNat = q + 1 by omega]
      · rw [if_neg (by omega), if_neg y]
    rw [hb, k6, k2, Int.toNat_natCast] at z3
    exact hP s (htr t2 s k1 z1) (by rw [z2]; exact k4) (Or.inr (Or.inr (Or.inr ⟨a, b, c, z3⟩)))
  have hN : ∀ t1 t2 : Mm, t1 = si σ 37 9 (gi σ 37 8) → t2 = si t1 37 11 (0 : Int) → q < L → isD (gi σ 4 q) = true → ∀ s : Mm, Nb t2 s → P s := fun t1 t2 e1 e2 a b s z => by
    obtain ⟨k1, k2, k3, k4, k5, k6, k7⟩ := ht t1 t2 e1 e2
    obtain ⟨z1, z2, z3, z4, z5⟩ := z
    unfold lD at z3 z5
    rw [k4, k6, k3, Int.toNat_natCast, Int.toNat_natCast] at z3 z5
    exact hP s (htr t2 s k1 z1) (by rw [z2]; exact k4) (Or.inr (Or.inr (Or.inl ⟨a, b, z3, z4, z5⟩)))
  refine v_stp_39 (by intros; (first | omega | (have z := ht _ _ (by assumption) (by assumption); first | omega | (exact z.2.2.2.2.2.2 _ (by assumption))))) (by intros; (first | omega | (have z := ht _ _ (by assumption) (by assumption); first | omega | (exact z.2.2.2.2.2.2 _ (by assumption))))) (by intros; (first | omega | (have z := ht _ _ (by assumption) (by assumption); first | omega | (exact z.2.2.2.2.2.2 _ (by assumption))))) (by intros; (first | omega | (have z := ht _ _ (by assumption) (by assumption); first | omega | (exact z.2.2.2.2.2.2 _ (by assumption))))) (by intros; (first | omega | (have z := ht _ _ (by assumption) (by assumption); first | omega | (exact z.2.2.2.2.2.2 _ (by assumption))))) (by intros; (first | omega | (have z := ht _ _ (by assumption) (by assumption); first | omega | (exact z.2.2.2.2.2.2 _ (by assumption))))) (by intros; (first | omega | (have z := ht _ _ (by assumption) (by assumption); first | omega | (exact z.2.2.2.2.2.2 _ (by assumption))))) (by intros; (first | omega | (have z := ht _ _ (by assumption) (by assumption); first | omega | (exact z.2.2.2.2.2.2 _ (by assumption))))) (by intros; (first | omega | (have z := ht _ _ (by assumption) (by assumption); first | omega | (exact z.2.2.2.2.2.2 _ (by assumption))))) (by intros; (first | omega | (have z := ht _ _ (by assumption) (by assumption); first | omega | (exact z.2.2.2.2.2.2 _ (by assumption))))) (by intros; (first | omega | (have z := ht _ _ (by assumption) (by assumption); first | omega | (exact z.2.2.2.2.2.2 _ (by assumption))))) (by intros; (first | omega | (have z := ht _ _ (by assumption) (by assumption); first | omega | (exact z.2.2.2.2.2.2 _ (by assumption))))) (by intros; (first | omega | (have z := ht _ _ (by assumption) (by assumption); first | omega | (exact z.2.2.2.2.2.2 _ (by assumption))))) (by intros; (first | omega | (have z := ht _ _ (by assumption) (by assumption); first | omega | (exact z.2.2.2.2.2.2 _ (by assumption))))) (by intros; (first | omega | (have z := ht _ _ (by assumption) (by assumption); first | omega | (exact z.2.2.2.2.2.2 _ (by assumption))))) ?_ ?_ ?_ ?_ ?_ ?_ ?_ ?_
  · intro t1 e1 t2 e2 a1 a2 a3; rw [g4] at a2 a3; exact hS t1 t2 e1 e2 (by omega) (isL_f.mpr (by omega)) (isD_f.mpr (by omega))
  · intro t1 e1 t2 e2 a1 a2 a3 a4; rw [g4] at a2 a3 a4; exact hS t1 t2 e1 e2 (by omega) (isL_f.mpr (by omega)) (isD_f.mpr (by omega))
  · intro t1 e1 t2 e2 a1 a2 a3 a4; rw [g4] at a2 a3 a4; exact hN t1 t2 e1 e2 (by omega) (isD_t.mpr (by omega))
  · intro t1 e1 t2 e2 a1 a2 a3 a4; omega
  · intro t1 e1 t2 e2 a1 a2 a3 a4 a5; rw [g4] at a2 a3 a4 a5; exact hS t1 t2 e1 e2 (by omega) (isL_f.mpr (by omega)) (isD_f.mpr (by omega))
  · intro t1 e1 t2 e2 a1 a2 a3 a4 a5; omega
  · intro t1 e1 t2 e2 a1 a2 a3 s z
    rw [g4] at a2 a3
    obtain ⟨k1, k2, k3, k4, k5, k6, k7⟩ := ht t1 t2 e1 e2
    obtain ⟨z1, z2, z3, z4⟩ := z
    unfold lL at z3 z4
    rw [k4, k6, k3, Int.toNat_natCast, Int.toNat_natCast] at z3 z4
    exact hP s (htr t2 s k1 z1) (by rw [z2]; exact k4) (Or.inr (Or.inl ⟨by omega, isL_t.mpr ⟨a2, a3⟩, z3, z4⟩))
  · intro t1 e1 t2 e2 a1 t3 e3
    obtain ⟨k1, k2, k3, k4, k5, k6, k7⟩ := ht t1 t2 e1 e2
    subst e3
    refine hP _ (fr37_si k1 (by omega)) (by rw [g37, if_neg (by omega)]; exact k4) (Or.inl ⟨by omega, by rw [g37, if_pos rfl], by rw [g37, if_neg (by omega)]; exact k5, by rw [g37, if_neg (by omega)]; exact k2⟩)
theorem c_stp {n : Nat} {σ : Mm} {P : Mm → Prop} (h : Lx σ) (hP : ∀ s, TkR σ s → P s) : Cv 63 [vr 37] (shF n) σ P := by
  obtain ⟨h0, hcd⟩ := h
  obtain ⟨q, hq⟩ : ∃ q : Nat, gi σ 37 8 = (q : Int) := ⟨(gi σ 37 8).toNat, by omega⟩
  obtain ⟨L, hL⟩ : ∃ L : Nat, gi σ 37 7 = (L : Int) := ⟨(gi σ 37 7).toNat, by omega⟩
  obtain ⟨E, hE⟩ : ∃ E, E = lr (fun i => isB (gi σ 4 i)) L q := ⟨_, rfl⟩
  obtain ⟨e1, e2, e3, e4⟩ := lr_in (f := fun i => isB (gi σ 4 i)) (n := L) (p := q) (by omega)
  rw [← hE] at e1 e2 e3 e4
  have hlB : lB σ (gi σ 37 8).toNat = E := by unfold lB; rw [hq, hL, Int.toNat_natCast, Int.toNat_natCast, ← hE]
  refine loopUp (N := E) (I := fun e => q ≤ e → ∀ τ : Mm, (∀ a i, ¬ (a = 37 ∧ i = 8) → gi τ a i = gi σ a i) → gi τ 37 8 = (e : Int) → Cv 63 [vr 37] (shF n) τ P) (fun e he ih => ?_) q e1 (Nat.le_refl _) σ (fun _ _ _ => rfl) hq
  intro hqe τ f1 f2
  have g7 : gi τ 37 7 = (L : Int) := by rw [f1 37 7 (by omega)]; exact hL
  have g4 : gi τ 4 (gi τ 37 8).toNat = gi σ 4 e := by rw [f2, Int.toNat_natCast, f1 4 e (by omega)]
  have g4' : gi τ 4 = gi σ 4 := funext fun i => f1 4 i (by omega)
  have hle : e < E → (gi σ 4 e = 10 ∨ gi σ 4 e = 32) := fun z => isB_t.mp (e4 e hqe z)
  have hexit : e = E → R 63 39 [some (vr 37)] [] (shF n) 0 0 τ (Qv (shF n) P) := fun z => by
    refine stp_39 (q := e) (L := L) f2 g7 (by omega) (by omega) (fun i hi => by rw [f1 38 i (by omega)]; exact hcd i hi) fun s a b c => hP s ⟨fun x i p => (a x i p).trans (f1 x i (by omega)), ?_, ?_⟩
    · rw [hlB, ← z]; exact b
    · rw [hlB, ← z, hL, Int.toNat_natCast, ← g4']; exact c
  have hend : (L : Int) ≤ (e : Int) ∨ ¬ (gi σ 4 e = 10 ∨ gi σ 4 e = 32) → e = E := fun z => by
    rcases z with z | z
    · omega
    · refine Classical.byContradiction fun y => z (hle (by omega))
  have hgo : (e : Int) < (L : Int) → (gi σ 4 e = 10 ∨ gi σ 4 e = 32) → e < E := fun z y => by
    refine Classical.byContradiction fun x => ?_
    have x' : E = e := by omega
    rw [x'] at e3
    exact isB_f.mp (e3 (by omega)) y
  have hnx : ∀ t : Mm, e < E → t = si τ 37 8 (gi τ 37 8 + 1) → R 63 0 [some (vr 37)] [] (shF n) 0 0 t (Qv (shF n) P) := fun t z et => by
    subst et
    exact ih z (by omega) _ (fun a i p => by rw [gi_si, if_neg p]; exact f1 a i p) (by rw [g37, if_pos rfl, f2]; rfl)
  refine v_stp_0 (by intros; (first | omega | (unfold rg; omega))) (by intros; (first | omega | (unfold rg; omega))) (by intros; (first | omega | (unfold rg; omega))) ?_ ?_ ?_ ?_
  · intro a1; exact hexit (hend (by omega))
  · intro a1 a2 t e; rw [g4] at a2; exact hnx t (hgo (by omega) (Or.inl a2)) e
  · intro a1 a2 a3; rw [g4] at a2 a3; exact hexit (hend (by omega))
  · intro a1 a2 a3 t e; rw [g4] at a3; exact hnx t (hgo (by omega) (Or.inr a3)) e
theorem sgR_in {x h k v d : Int} (s : sgR x h k v d) : (d = 1 ∨ d = 2) ∧ (k = 4 ∨ k = 5) ∧ (d = 2 → h = 61 ∨ h = 62) := by
  rcases s with s | s | s | s
  · omega
  · omega
  · omega
  · refine ⟨Or.inl s.2.2.2.2, ?_, fun q => by omega⟩
    rcases s.2.2.2.1 with y | y <;> omega
theorem TkC_in {b : Nat → Int} {L q : Nat} {nx k v : Int} (hq : q ≤ L) (h : TkC b L q nx k v) : ((q : Int) ≤ nx ∧ nx ≤ (L : Int)) ∧ (0 ≤ k ∧ k ≤ 5) ∧ (k = 0 → q = L) ∧ (k ≠ 0 → (q : Int) < nx) ∧ (k = 1 → 0 ≤ v ∧ v < 19) ∧ (k = 3 → 0 ≤ v ∧ v ≤ 99999) := by
  rcases h with h | ⟨a, b1, c, d⟩ | ⟨a, b1, c, d, e⟩ | ⟨a, b1, c, d⟩
  · omega
  · have z := lr_in (f := fun i => isL (b i)) (n := L) (p := q) (by omega)
    have z2 := lr_lt (f := fun i => isL (b i)) (n := L) (p := q) a b1
    have z3 := plF_in (f := cdF) (z := ((pkN b q (lr (fun i => isL (b i)) L q) 6 : Nat) : Int)) 19
    rcases d with d | ⟨d, d' | d'⟩ <;> omega
  · have z := lr_in (f := fun i => isD (b i)) (n := L) (p := q) (by omega)
    have z2 := lr_lt (f := fun i => isD (b i)) (n := L) (p := q) a b1
    have z3 := (nv_rel (b := b) (p := q) (lr (fun i => isD (b i)) L q - q) fun i hi => z.2.2.2 (q + i) (by omega) (by omega)).1
    omega
  · have z := sgR_in d
    have : nx - (q : Int) = 2 → q + 1 < L := fun y => by
      refine Classical.byContradiction fun u => ?_
      rw [if_neg u] at z
      omega
    omega
theorem Tk_in {σ s : Mm} (h : Lx σ) (t : TkR σ s) : Lx s ∧ gi σ 37 8 ≤ gi s 37 9 ∧ gi s 37 9 ≤ gi s 37 8 ∧ (0 ≤ gi s 37 10 ∧ gi s 37 10 ≤ 5) ∧ (gi s 37 10 = 0 → gi s 37 9 = gi s 37 7) ∧ (gi s 37 10 ≠ 0 → gi s 37 9 < gi s 37 8) ∧ (gi s 37 10 = 1 → 0 ≤ gi s 37 11 ∧ gi s 37 11 < 19) ∧ (gi s 37 10 = 3 → 0 ≤ gi s 37 11 ∧ gi s 37 11 ≤ 99999) := by
  obtain ⟨h0, hcd⟩ := h
  obtain ⟨t1, t2, t3⟩ := t
  have e7 := t1 37 7 (by omega)
  obtain ⟨z1, z2, -, -⟩ := lr_in (f := fun i => isB (gi σ 4 i)) (n := (gi σ 37 7).toNat) (p := (gi σ 37 8).toNat) (by omega)
  have zz : lB σ (gi σ 37 8).toNat = lr (fun i => isB (gi σ 4 i)) (gi σ 37 7).toNat (gi σ 37 8).toNat := rfl
  rw [← zz] at z1 z2
  have y := TkC_in (by omega) t3
  refine ⟨⟨by omega, fun i hi => by rw [t1 38 i (by omega)]; exact hcd i hi⟩, by omega, by omega, y.2.1, fun q => ?_, fun q => ?_, y.2.2.2.2.1, y.2.2.2.2.2⟩
  · have := y.2.2.1 q; omega
  · have := y.2.2.2.1 q; omega
