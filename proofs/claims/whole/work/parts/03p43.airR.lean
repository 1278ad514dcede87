/-! A CUSHION AIRED: the reference's loop -/
theorem v_airR_0 {n : Nat}  (b : Nat) (u : Nat) {M1 : Int → Mm → Prop} {σ : Mm} {P : Mm → Prop} (o1 : Ci 210 [vr 85, vi (b : Int), vi (u : Int)] (shF n) σ M1) (l1 : ∀ (v3 : Int) (s2 : Mm), M1 v3 s2 → R 213 10 [some (vr 85), some (vi (b : Int)), some (vi (u : Int)), some (vi v3), some (vi 0), none, none, none] [] (shF n) 0 0 s2 (Qv (shF n) P)) : Cv 213 [vr 85, vi (b : Int), vi (u : Int)] (shF n) σ P :=
  show R 213 0 [some (vr 85), some (vi (b : Int)), some (vi (u : Int)), none, none, none, none, none] [] (shF n) 0 0 σ (Qv (shF n) P) from wpK_R 8 [10, 100] ((Ci_mono (o1) (fun v3 s2 h1 => (l1 v3 s2 h1))))
theorem v_airR_10 {n : Nat}  (b : Nat) (u : Nat) (m : Int) (k : Nat) (z1 : Option PV) (z2 : Option PV) (z3 : Option PV) {σ : Mm} {P : Mm → Prop} (o1 : (k : Int) < m → rg ((5 : Int) * (b : Int))) (o2 : (k : Int) < m → rg (((5 : Int) * (b : Int)) + (u : Int))) (o3 : (k : Int) < m → (0 ≤ (((5 : Int) * (b : Int)) + (u : Int)) ∧ (((5 : Int) * (b : Int)) + (u : Int)) < 10)) (o4 : (k : Int) < m → (0 : Int) < (gi σ 113 ((5 * b) + u)) → rg ((gi σ 113 ((5 * b) + u)) - 1)) (o5 : (k : Int) < m → (0 : Int) < (gi σ 113 ((5 * b) + u)) → ∀ t7 : Mm, t7 = si σ 113 ((5 * b) + u) ((gi σ 113 ((5 * b) + u)) - 1) → ∀ x8 : Int, x8 = gi t7 113 ((5 * b) + u) → rg ((40 : Int) * (b : Int))) (o6 : (k : Int) < m → (0 : Int) < (gi σ 113 ((5 * b) + u)) → ∀ t7 : Mm, t7 = si σ 113 ((5 * b) + u) ((gi σ 113 ((5 * b) + u)) - 1) → ∀ x8 : Int, x8 = gi t7 113 ((5 * b) + u) → rg ((8 : Int) * (u : Int))) (o7 : (k : Int) < m → (0 : Int) < (gi σ 113 ((5 * b) + u)) → ∀ t7 : Mm, t7 = si σ 113 ((5 * b) + u) ((gi σ 113 ((5 * b) + u)) - 1) → ∀ x8 : Int, x8 = gi t7 113 ((5 * b) + u) → rg (((40 : Int) * (b : Int)) + ((8 : Int) * (u : Int)))) (o8 : (k : Int) < m → (0 : Int) < (gi σ 113 ((5 * b) + u)) → ∀ t7 : Mm, t7 = si σ 113 ((5 * b) + u) ((gi σ 113 ((5 * b) + u)) - 1) → ∀ x8 : Int, x8 = gi t7 113 ((5 * b) + u) → rg ((((40 : Int) * (b : Int)) + ((8 : Int) * (u : Int))) + x8)) (o9 : (k : Int) < m → (0 : Int) < (gi σ 113 ((5 * b) + u)) → ∀ t7 : Mm, t7 = si σ 113 ((5 * b) + u) ((gi σ 113 ((5 * b) + u)) - 1) → ∀ x8 : Int, x8 = gi t7 113 ((5 * b) + u) → (0 ≤ ((((40 : Int) * (b : Int)) + ((8 : Int) * (u : Int))) + x8) ∧ ((((40 : Int) * (b : Int)) + ((8 : Int) * (u : Int))) + x8) < 80)) (o10 : (k : Int) < m → (0 : Int) < (gi σ 113 ((5 * b) + u)) → ∀ t7 : Mm, t7 = si σ 113 ((5 * b) + u) ((gi σ 113 ((5 * b) + u)) - 1) → ∀ x8 : Int, x8 = gi t7 113 ((5 * b) + u) → ∀ x14 : Int, x14 = gi σ 114 ((((40 : Int) * (b : Int)) + ((8 : Int) * (u : Int))) + x8).toNat → rg ((10 : Int) * (b : Int))) (o11 : (k : Int) < m → (0 : Int) < (gi σ 113 ((5 * b) + u)) → ∀ t7 : Mm, t7 = si σ 113 ((5 * b) + u) ((gi σ 113 ((5 * b) + u)) - 1) → ∀ x8 : Int, x8 = gi t7 113 ((5 * b) + u) → ∀ x14 : Int, x14 = gi σ 114 ((((40 : Int) * (b : Int)) + ((8 : Int) * (u : Int))) + x8).toNat → rg (((10 : Int) * (b : Int)) + x14)) (o12 : (k : Int) < m → (0 : Int) < (gi σ 113 ((5 * b) + u)) → ∀ t7 : Mm, t7 = si σ 113 ((5 * b) + u) ((gi σ 113 ((5 * b) + u)) - 1) → ∀ x8 : Int, x8 = gi t7 113 ((5 * b) + u) → ∀ x14 : Int, x14 = gi σ 114 ((((40 : Int) * (b : Int)) + ((8 : Int) * (u : Int))) + x8).toNat → (0 ≤ (((10 : Int) * (b : Int)) + x14) ∧ (((10 : Int) * (b : Int)) + x14) < 20)) (o13 : (k : Int) < m → (0 : Int) < (gi σ 113 ((5 * b) + u)) → ∀ t7 : Mm, t7 = si σ 113 ((5 * b) + u) ((gi σ 113 ((5 * b) + u)) - 1) → ∀ x8 : Int, x8 = gi t7 113 ((5 * b) + u) → ∀ x14 : Int, x14 = gi σ 114 ((((40 : Int) * (b : Int)) + ((8 : Int) * (u : Int))) + x8).toNat → ∀ t18 : Mm, t18 = si t7 118 (((10 : Int) * (b : Int)) + x14).toNat (2 : Int) → (0 ≤ (b : Int) ∧ (b : Int) < 2)) (o14 : (k : Int) < m → (0 : Int) < (gi σ 113 ((5 * b) + u)) → ∀ t7 : Mm, t7 = si σ 113 ((5 * b) + u) ((gi σ 113 ((5 * b) + u)) - 1) → ∀ x8 : Int, x8 = gi t7 113 ((5 * b) + u) → ∀ x14 : Int, x14 = gi σ 114 ((((40 : Int) * (b : Int)) + ((8 : Int) * (u : Int))) + x8).toNat → ∀ t18 : Mm, t18 = si t7 118 (((10 : Int) * (b : Int)) + x14).toNat (2 : Int) → rg ((gi σ 121 b) + 1)) (l1 : m ≤ (k : Int) → P σ) (l2 : (k : Int) < m → (gi σ 113 ((5 * b) + u)) ≤ (0 : Int) → P σ) (l3 : (k : Int) < m → (0 : Int) < (gi σ 113 ((5 * b) + u)) → ∀ t7 : Mm, t7 = si σ 113 ((5 * b) + u) ((gi σ 113 ((5 * b) + u)) - 1) → ∀ x8 : Int, x8 = gi t7 113 ((5 * b) + u) → ∀ x14 : Int, x14 = gi σ 114 ((((40 : Int) * (b : Int)) + ((8 : Int) * (u : Int))) + x8).toNat → ∀ t18 : Mm, t18 = si t7 118 (((10 : Int) * (b : Int)) + x14).toNat (2 : Int) → ∀ t21 : Mm, t21 = si t18 121 b ((gi σ 121 b) + 1) → R 213 100 [some (vr 85), some (vi (b : Int)), some (vi (u : Int)), some (vi m), some (vi (k : Int)), some (vi x8), some (vi x14), some (vi 0)] [] (shF n) 0 0 t21 (Qv (shF n) P)) : R 213 10 [some (vr 85), some (vi (b : Int)), some (vi (u : Int)), some (vi m), some (vi (k : Int)), z1, z2, z3] [] (shF n) 0 0 σ (Qv (shF n) P) :=
  wpK_R 66 [10, 100] (And.intro (fun q1 => And.intro ret0 ⟨rfl, rfl, (l1 q1)⟩) (fun q1 => (have k2 := (o1 (Int.not_le.mp q1)); And.intro k2 ((have k3 := (o2 (Int.not_le.mp q1)); And.intro k3 ((have k4 := (o3 (Int.not_le.mp q1)); And.intro k4 (And.intro (fun q5 => And.intro ret0 ⟨rfl, rfl, (l2 (Int.not_le.mp q1) q5)⟩) (fun q5 => And.intro k2 (And.intro k3 (And.intro k4 ((have k6 := (o4 (Int.not_le.mp q1) (Int.not_le.mp q5)); And.intro k6 (And.intro k4 (And.intro k2 (And.intro k3 (And.intro k4 ((have k9 := (o5 (Int.not_le.mp q1) (Int.not_le.mp q5) _ rfl _ rfl); And.intro k9 ((have k10 := (o6 (Int.not_le.mp q1) (Int.not_le.mp q5) _ rfl _ rfl); And.intro k10 ((have k11 := (o7 (Int.not_le.mp q1) (Int.not_le.mp q5) _ rfl _ rfl); And.intro k11 ((have k12 := (o8 (Int.not_le.mp q1) (Int.not_le.mp q5) _ rfl _ rfl); And.intro k12 ((have k13 := (o9 (Int.not_le.mp q1) (Int.not_le.mp q5) _ rfl _ rfl); And.intro k13 ((have k15 := (o10 (Int.not_le.mp q1) (Int.not_le.mp q5) _ rfl _ rfl _ rfl); And.intro k15 ((have k16 := (o11 (Int.not_le.mp q1) (Int.not_le.mp q5) _ rfl _ rfl _ rfl); And.intro k16 ((have k17 := (o12 (Int.not_le.mp q1) (Int.not_le.mp q5) _ rfl _ rfl _ rfl); And.intro k17 ((have k19 := (o13 (Int.not_le.mp q1) (Int.not_le.mp q5) _ rfl _ rfl _ rfl _ rfl); And.intro k19 ((have k20 := (o14 (Int.not_le.mp q1) (Int.not_le.mp q5) _ rfl _ rfl _ rfl _ rfl); And.intro k20 (And.intro k19 ((l3 (Int.not_le.mp q1) (Int.not_le.mp q5) _ rfl _ rfl _ rfl _ rfl _ rfl))))))))))))))))))))))))))))))))))))))))
theorem v_airR_100 {n : Nat}  (b : Nat) (u : Nat) (m : Int) (k : Nat) (be : Int) (x : Nat) (i : Nat) {σ : Mm} {P : Mm → Prop} (o1 : (gi σ 85 14) ≤ (i : Int) → rg ((k : Int) + 1)) (o2 : (i : Int) < (gi σ 85 14) → (0 ≤ (i : Int) ∧ (i : Int) < 10)) (o3 : (i : Int) < (gi σ 85 14) → (0 ≤ (b : Int) ∧ (b : Int) < 2)) (o4 : (i : Int) < (gi σ 85 14) → (0 ≤ (gi σ 120 b) ∧ 0 < (7 : Int))) (o5 : (i : Int) < (gi σ 85 14) → (oand (oshr (gi σ 98 i) ((gi σ 120 b) % (7 : Int))) (1 : Int)) ≠ (1 : Int) → rg ((i : Int) + 1)) (o6 : (i : Int) < (gi σ 85 14) → (oand (oshr (gi σ 98 i) ((gi σ 120 b) % (7 : Int))) (1 : Int)) = (1 : Int) → be ≤ (gi σ 99 i) → rg ((5 : Int) * (b : Int))) (o7 : (i : Int) < (gi σ 85 14) → (oand (oshr (gi σ 98 i) ((gi σ 120 b) % (7 : Int))) (1 : Int)) = (1 : Int) → be ≤ (gi σ 99 i) → rg (((5 : Int) * (b : Int)) + (i : Int))) (o8 : (i : Int) < (gi σ 85 14) → (oand (oshr (gi σ 98 i) ((gi σ 120 b) % (7 : Int))) (1 : Int)) = (1 : Int) → be ≤ (gi σ 99 i) → (0 ≤ (((5 : Int) * (b : Int)) + (i : Int)) ∧ (((5 : Int) * (b : Int)) + (i : Int)) < 10)) (o9 : (i : Int) < (gi σ 85 14) → (oand (oshr (gi σ 98 i) ((gi σ 120 b) % (7 : Int))) (1 : Int)) = (1 : Int) → be ≤ (gi σ 99 i) → ∀ t12 : Mm, t12 = si σ 119 ((5 * b) + i) (oor (gi σ 119 ((5 * b) + i)) (oshl (1 : Int) (x : Int))) → ∀ t13 : Mm, t13 = si t12 85 64 (oor (gi σ 85 64) (oshl (1 : Int) (i : Int))) → rg ((i : Int) + 1)) (o10 : (i : Int) < (gi σ 85 14) → (oand (oshr (gi σ 98 i) ((gi σ 120 b) % (7 : Int))) (1 : Int)) = (1 : Int) → (gi σ 99 i) < be → rg ((i : Int) + 1)) (l1 : (gi σ 85 14) ≤ (i : Int) → R 213 10 [some (vr 85), some (vi (b : Int)), some (vi (u : Int)), some (vi m), some (vi ((k : Int) + 1)), some (vi be), some (vi (x : Int)), some (vi (i : Int))] [] (shF n) 0 0 σ (Qv (shF n) P)) (l2 : (i : Int) < (gi σ 85 14) → (oand (oshr (gi σ 98 i) ((gi σ 120 b) % (7 : Int))) (1 : Int)) ≠ (1 : Int) → R 213 100 [some (vr 85), some (vi (b : Int)), some (vi (u : Int)), some (vi m), some (vi (k : Int)), some (vi be), some (vi (x : Int)), some (vi ((i : Int) + 1))] [] (shF n) 0 0 σ (Qv (shF n) P)) (l3 : (i : Int) < (gi σ 85 14) → (oand (oshr (gi σ 98 i) ((gi σ 120 b) % (7 : Int))) (1 : Int)) = (1 : Int) → be ≤ (gi σ 99 i) → ∀ t12 : Mm, t12 = si σ 119 ((5 * b) + i) (oor (gi σ 119 ((5 * b) + i)) (oshl (1 : Int) (x : Int))) → ∀ t13 : Mm, t13 = si t12 85 64 (oor (gi σ 85 64) (oshl (1 : Int) (i : Int))) → R 213 100 [some (vr 85), some (vi (b : Int)), some (vi (u : Int)), some (vi m), some (vi (k : Int)), some (vi be), some (vi (x : Int)), some (vi ((i : Int) + 1))] [] (shF n) 0 0 t13 (Qv (shF n) P)) (l4 : (i : Int) < (gi σ 85 14) → (oand (oshr (gi σ 98 i) ((gi σ 120 b) % (7 : Int))) (1 : Int)) = (1 : Int) → (gi σ 99 i) < be → R 213 100 [some (vr 85), some (vi (b : Int)), some (vi (u : Int)), some (vi m), some (vi (k : Int)), some (vi be), some (vi (x : Int)), some (vi ((i : Int) + 1))] [] (shF n) 0 0 σ (Qv (shF n) P)) : R 213 100 [some (vr 85), some (vi (b : Int)), some (vi (u : Int)), some (vi m), some (vi (k : Int)), some (vi be), some (vi (x : Int)), some (vi (i : Int))] [] (shF n) 0 0 σ (Qv (shF n) P) :=
  wpK_R 47 [10, 100] (And.intro (fun q1 => (have k2 := (o1 q1); And.intro k2 ((l1 q1)))) (fun q1 => (have k3 := (o2 (Int.not_le.mp q1)); And.intro k3 ((have k4 := (o3 (Int.not_le.mp q1)); And.intro k4 ((have k5 := (o4 (Int.not_le.mp q1)); And.intro k5 ((show R 158 0 [_, _] [] (shF n) 0 0 _ _ from wpK_R 10 [] (And.intro (fun q6 => And.intro ret0 (And.intro (Or.inl rfl) ⟨rfl, _, rfl, And.intro (fun _ => (have k7 := (o5 (Int.not_le.mp q1) q6); And.intro k7 ((l2 (Int.not_le.mp q1) q6)))) (fun q => absurd (show (0 : Int) = 0 by decide) q)⟩)) (fun q6 => And.intro ret0 (And.intro (Or.inr rfl) ⟨rfl, _, rfl, And.intro (fun q => absurd q (show ¬ ((1 : Int) = 0) by decide)) (fun _ => And.intro k3 (And.intro (fun q8 => (have k9 := (o6 (Int.not_le.mp q1) (Classical.not_not.mp q6) q8); And.intro k9 ((have k10 := (o7 (Int.not_le.mp q1) (Classical.not_not.mp q6) q8); And.intro k10 ((have k11 := (o8 (Int.not_le.mp q1) (Classical.not_not.mp q6) q8); And.intro k11 (And.intro k11 ((have k14 := (o9 (Int.not_le.mp q1) (Classical.not_not.mp q6) q8 _ rfl _ rfl); And.intro k14 ((l3 (Int.not_le.mp q1) (Classical.not_not.mp q6) q8 _ rfl _ rfl))))))))))) (fun q8 => (have k15 := (o10 (Int.not_le.mp q1) (Classical.not_not.mp q6) (Int.not_le.mp q8)); And.intro k15 ((l4 (Int.not_le.mp q1) (Classical.not_not.mp q6) (Int.not_le.mp q8)))))))⟩))))))))))))
theorem RG_pp {b : Nat} {σ τ : Mm} (h : RG b σ τ) (hp : PP σ) : PP τ := by
  unfold PP
  rw [h.1 85 68 (by unfold hf; omega) (by omega), h.1 85 67 (by unfold hf; omega) (by omega)]; exact hp
theorem air_body {n b u : Nat} {T U V0 : Nat → Nat → Int} {τ : Mm} {P : Mm → Prop} {m : Int} {k s x : Nat} (hb2 : b < 2) (hk8 : k < 8) (hb : BkOK T) (hr : RB T τ) (hw : RW T U τ b) (hi : WI T U) (hu : u < 5) (hss : U 6 u = ((s + 1 : Nat) : Int)) (hx : U 7 (u * 8 + s) = (x : Int)) (hn : HN (gi τ 85 64) V0 U)
    (t21 : Mm) (ht : t21 = si (si (si τ 113 (5 * b + u) (s : Int)) 118 (10 * b + x) 2) 121 b (gi τ 121 b + 1))
    (hP : ∀ (τ' : Mm) (z : Option PV), RG b τ τ' → gi τ' 85 72 = gi τ 85 72 → RW T (airU T U u 1) τ' b → WI T (airU T U u 1) → HN (gi τ' 85 64) V0 (airU T U u 1) → R 213 10 [some (vr 85), some (vi (b : Int)), some (vi (u : Int)), some (vi m), some (vi ((k : Int) + 1)), some (vi (s : Int)), some (vi (x : Int)), z] [] (shF n) 0 0 τ' (Qv (shF n) P)) :
    R 213 100 [some (vr 85), some (vi (b : Int)), some (vi (u : Int)), some (vi m), some (vi (k : Int)), some (vi (s : Int)), some (vi (x : Int)), some (vi 0)] [] (shF n) 0 0 t21 (Qv (shF n) P) := by
  have hC := hb.2.1
  have hK := hb.2.2.1
  have hi0 := hi
  obtain ⟨⟨s1, s2, s3, s4, s5⟩, w1, -⟩ := hi
  have hxC := (s4 u s hu (by omega)).2
  have hx1 := w1 u s hu (by omega)
  rw [hx] at hxC hx1
  rw [Int.toNat_natCast] at hx1
  have hx10 : x < 10 := by omega
  obtain ⟨d, hd⟩ := Int.eq_ofNat_of_zero_le s5
  have e120 : gi τ 120 b = (d : Int) := by rw [hw.1, hd]
  have hd7 : ((d : Int) % 7) = ((d % 7 : Nat) : Int) := rfl
  have e14 := hr.1.2.2.1
  have hd7' : ((U 0 0) % 7).toNat = d % 7 := by rw [hd]; omega
  refine loopUp (N := (T 0 2).toNat) (I := fun i => ∀ τ1 : Mm, (∀ a y, a ≠ 119 → ¬ (a = 85 ∧ y = 64) → gi τ1 a y = gi t21 a y) → τ1.2 = t21.2 → (∀ y, ¬ (5 * b ≤ y ∧ y < 5 * b + 5) → gi τ1 119 y = gi τ 119 y) → (∀ q : Nat, q < 5 → gi τ1 119 (5 * b + q) = if q < i ∧ ((q : Int) < T 0 2 ∧ bi (T 9 q) (d % 7) = true ∧ (s : Int) ≤ T 10 q) then oor (U 8 q) (oshl 1 (x : Int)) else U 8 q) → (0 ≤ gi τ1 85 64 ∧ gi τ1 85 64 < 32) → (∀ q : Nat, q < 5 → (bi (gi τ1 85 64) q = true ↔ bi (gi τ 85 64) q = true ∨ (q < i ∧ ((q : Int) < T 0 2 ∧ bi (T 9 q) (d % 7) = true ∧ (s : Int) ≤ T 10 q)))) → R 213 100 [some (vr 85), some (vi (b : Int)), some (vi (u : Int)), some (vi m), some (vi (k : Int)), some (vi (s : Int)), some (vi (x : Int)), some (vi (i : Int))] [] (shF n) 0 0 τ1 (Qv (shF n) P)) (fun i hi' ih => ?_) 0 (by omega) t21 (fun _ _ _ _ => rfl) rfl (fun y _ => by rw [ht, gi_ne (by omega), gi_ne (by omega), gi_ne (by omega)]) (fun q hq => by rw [if_neg (by omega), ht, gi_ne (by omega), gi_ne (by omega), gi_ne (by omega)]; exact (hw.2.2.2.1 q hq).2.2.2) (by rw [ht, gi_ne (by omega), gi_ne (by omega), gi_ne (by omega)]; exact hn.1) (fun q hq => by rw [ht, gi_ne (by omega), gi_ne (by omega), gi_ne (by omega)]; exact ⟨fun z => Or.inl z, fun z => z.elim id (fun z => absurd z.1 (Nat.not_lt_zero _))⟩)
  intro τ1 e1 e2 e3 e4 e5 e6
  have gt : ∀ a y, a ≠ 113 → a ≠ 118 → a ≠ 119 → a ≠ 121 → ¬ (a = 85 ∧ y = 64) → gi τ1 a y = gi τ a y := fun a y h1 h2 h3 h4 h5 => by rw [e1 a y h3 h5, ht, gi_ne h4, gi_ne h2, gi_ne h1]
  have g14 : gi τ1 85 14 = T 0 2 := by rw [gt _ _ (by omega) (by omega) (by omega) (by omega) (by omega), e14]
  have g120 : gi τ1 120 b = (d : Int) := by rw [gt _ _ (by omega) (by omega) (by omega) (by omega) (by omega), e120]
  have g98 : (i : Int) < T 0 2 → gi τ1 98 i = T 9 i := fun h => by rw [gt _ _ (by omega) (by omega) (by omega) (by omega) (by omega)]; exact (hr.2.2.2.1 i h).2.1
  have g99 : (i : Int) < T 0 2 → gi τ1 99 i = T 10 i := fun h => by rw [gt _ _ (by omega) (by omega) (by omega) (by omega) (by omega)]; exact (hr.2.2.2.1 i h).2.2
  have hsh := shr1 (n := d % 7) (by omega) (T 9 i)
  refine v_airR_100 b u m k (s : Int) x i (by intros; rw [g14] at *; first | omega | (unfold rg; omega) | (rw [g120]; omega)) (by intros; rw [g14] at *; first | omega | (unfold rg; omega) | (rw [g120]; omega)) (by intros; rw [g14] at *; first | omega | (unfold rg; omega) | (rw [g120]; omega)) (by intros; rw [g14] at *; first | omega | (unfold rg; omega) | (rw [g120]; omega)) (by intros; rw [g14] at *; first | omega | (unfold rg; omega) | (rw [g120]; omega)) (by intros; rw [g14] at *; first | omega | (unfold rg; omega) | (rw [g120]; omega)) (by intros; rw [g14] at *; first | omega | (unfold rg; omega) | (rw [g120]; omega)) (by intros; rw [g14] at *; first | omega | (unfold rg; omega) | (rw [g120]; omega)) (by intros; rw [g14] at *; first | omega | (unfold rg; omega) | (rw [g120]; omega)) (by intros; rw [g14] at *; first | omega | (unfold rg; omega) | (rw [g120]; omega)) ?_ ?_ ?_ ?_
  · intro h
    rw [g14] at h
    have hii : i = (T 0 2).toNat := by omega
    have hq5 : ∀ q : Nat, (q < i ∧ ((q : Int) < T 0 2 ∧ bi (T 9 q) (d % 7) = true ∧ (s : Int) ≤ T 10 q)) ↔ ((q : Int) < T 0 2 ∧ bi (T 9 q) ((U 0 0) % 7).toNat = true ∧ (s : Int) ≤ T 10 q) := fun q => by
      rw [hd7']
      constructor
      · exact fun z => z.2
      · exact fun z => ⟨by omega, z⟩
    refine hP τ1 (some (vi (i : Int))) ⟨fun a y p q => ?_, fun a y _ _ => ?_⟩ (by rw [gt _ _ (by omega) (by omega) (by omega) (by omega) (by omega)]) (RW_air1 hw hss hx hx10 hx1 (fun a y h1 h2 h3 h4 h5 => gt a y h2 h3 h4 h5 (fun z => h1 z.1)) (fun y => ?_) (fun y => ?_) (fun q hq => ?_) ?_) (WI_air1 hb hi0 hu (by omega)) (HN_air1 hi0 hC.2 hu hss hx hx10 hn e5 (fun q hq => ?_))
    · unfold hf at p
      by_cases h119 : a = 119
      · subst h119; exact e3 y (by omega)
      · rw [e1 a y h119 (by omega), ht, gi_si, if_neg (by omega), gi_si, if_neg (by omega), gi_si, if_neg (by omega)]
    · show τ1.2 a y = τ.2 a y
      rw [e2, ht]; rfl
    · rw [e1 _ _ (by omega) (by omega), ht, gi_ne (by omega), gi_ne (by omega), gi_same]
    · rw [e1 _ _ (by omega) (by omega), ht, gi_ne (by omega), gi_same, gi_ne (by omega)]
    · rw [e4 q hq]; simp only [hq5]
    · rw [e1 _ _ (by omega) (by omega), ht, gi_hit]
    · rw [e6 q hq, hq5]
  · intro h1 h2
    rw [g14] at h1
    rw [g98 h1, g120, hd7, hsh] at h2
    have hnb : bi (T 9 i) (d % 7) ≠ true := fun z => by rw [z] at h2; exact h2 rfl
    refine ih (by omega) τ1 e1 e2 e3 (fun q hq => ?_) e5 (fun q hq => ?_)
    · rw [e4 q hq]
      by_cases hqi : q = i
      · subst hqi; rw [if_neg (by omega), if_neg (fun z => hnb z.2.2.1)]
      · have : q < i ↔ q < i + 1 := by omega
        simp only [this]
    · rw [e6 q hq]
      by_cases hqi : q = i
      · subst hqi
        exact ⟨fun z => z.elim Or.inl (fun z => absurd z.1 (by omega)), fun z => z.elim Or.inl (fun z => absurd z.2.2.1 hnb)⟩
      · have : q < i ↔ q < i + 1 := by omega
        simp only [this]
  · intro h1 h2 h3 t12 h12 t13 h13
    rw [g14] at h1
    rw [g98 h1, g120, hd7, hsh] at h2
    rw [g99 h1] at h3
    have hyb : bi (T 9 i) (d % 7) = true := by
      cases hq : bi (T 9 i) (d % 7) with
      | true => rfl
      | false => rw [hq] at h2; simp at h2
    have hi5 : i < 5 := by omega
    have g119 : gi τ1 119 (5 * b + i) = U 8 i := by rw [e4 i hi5, if_neg (by omega)]
    rw [g119] at h12
    have gh := oor_bnd (N := 5) (by omega) (a := gi τ1 85 64) (by simpa using e5) hi5
    refine ih (by omega) t13 (fun a y p q => by rw [h13, gi_si, if_neg q, h12, gi_ne p]; exact e1 a y p q) (by rw [h13, h12]; exact e2) (fun y p => by rw [h13, gi_ne (by omega), h12, gi_si, if_neg (by omega)]; exact e3 y p) (fun q hq => ?_) (by rw [h13, gi_hit]; simpa using gh) (fun q hq => ?_)
    · rw [h13, gi_ne (by omega), h12, gi_same]
      by_cases hqi : q = i
      · subst hqi
        rw [if_pos rfl, if_pos ⟨by omega, h1, hyb, h3⟩]
      · rw [if_neg (by omega), e4 q hq]
        have : q < i ↔ q < i + 1 := by omega
        simp only [this]
    · rw [h13, gi_hit, bi_or, shl1 (by omega) (by omega)]
      by_cases hqi : q = i
      · subst hqi
        simp only [decide_true, Bool.or_true, true_iff]
        exact Or.inr ⟨by omega, h1, hyb, h3⟩
      · rw [decide_eq_false hqi, Bool.or_false, e6 q hq]
        have : q < i ↔ q < i + 1 := by omega
        simp only [this]
  · intro h1 h2 h3
    rw [g14] at h1
    rw [g99 h1] at h3
    refine ih (by omega) τ1 e1 e2 e3 (fun q hq => ?_) e5 (fun q hq => ?_)
    · rw [e4 q hq]
      by_cases hqi : q = i
      · subst hqi; rw [if_neg (by omega), if_neg (by omega)]
      · have : q < i ↔ q < i + 1 := by omega
        simp only [this]
    · rw [e6 q hq]
      by_cases hqi : q = i
      · subst hqi
        exact ⟨fun z => z.elim Or.inl (fun z => absurd z.1 (by omega)), fun z => z.elim Or.inl (fun z => absurd z.2.2.2 (by omega))⟩
      · have : q < i ↔ q < i + 1 := by omega
        simp only [this]
theorem c_airR {n b u j : Nat} {T V V0 : Nat → Nat → Int} {σ : Mm} {P : Mm → Prop} (hb2 : b < 2) (hb : BkOK T) (hr : RB T σ) (hw : RW T V σ b) (hi : WI T V) (hp : PP σ) (hu : (u : Int) < T 0 0) (hj : (j : Int) < T 0 0) (hju : V 5 j = (u : Int)) (hd : V 0 0 < 100000) (hn : HN (gi σ 85 64) V0 V)
    (hP : ∀ σ', RG b σ σ' → gi σ' 85 72 = gi σ 85 72 → RW T (airU T V u (outN T V (moD T (dmR σ) (V 0 0)) (btR T σ) j u)) σ' b → WI T (airU T V u (outN T V (moD T (dmR σ) (V 0 0)) (btR T σ) j u)) → HN (gi σ' 85 64) V0 (airU T V u (outN T V (moD T (dmR σ) (V 0 0)) (btR T σ) j u)) → P σ') : Cv 213 [vr 85, vi (b : Int), vi (u : Int)] (shF n) σ P := by
  have hJ := hb.1
  have hC := hb.2.1
  have hsz := hi.1.2.2.1 u (by omega)
  obtain ⟨fl, hfl⟩ : ∃ fl, fl = flyS T (nmF (T 2 j) (T 3 j) (V 6 u) (moD T (dmR σ) (V 0 0)) (V 0 0)) (btR T σ) := ⟨_, rfl⟩
  have hfi := flyS_in T (nmF (T 2 j) (T 3 j) (V 6 u) (moD T (dmR σ) (V 0 0)) (V 0 0)) (btR T σ)
  rw [← hfl] at hfi
  have hout : outN T V (moD T (dmR σ) (V 0 0)) (btR T σ) j u = (if V 6 u < fl then V 6 u else fl).toNat := by simp only [outN, ← hfl]
  rw [hout] at hP
  obtain ⟨N, hN⟩ : ∃ N, N = (if V 6 u < fl then V 6 u else fl).toNat := ⟨_, rfl⟩
  rw [← hN] at hP
  refine v_airR_0 b u (M1 := fun v s => Rk σ s ∧ v = fl) (by exact c_flyR hb2 hb hr hw hi hp hu hj hju hd (fun s hk => ⟨hk, hfl.symm⟩)) ?_
  intro v s hvs
  obtain ⟨hk, hv⟩ := hvs
  subst hv
  refine loopUp (N := N) (I := fun k => ∀ (τ : Mm) (z1 z2 z3 : Option PV), RG b σ τ → gi τ 85 72 = gi σ 85 72 → RW T (airU T V u k) τ b → WI T (airU T V u k) → HN (gi τ 85 64) V0 (airU T V u k) → R 213 10 [some (vr 85), some (vi (b : Int)), some (vi (u : Int)), some (vi v), some (vi (k : Int)), z1, z2, z3] [] (shF n) 0 0 τ (Qv (shF n) P)) (fun k hkN ih => ?_) 0 (by omega) s none none none (RG.rk hk) (hk.1 _ _ (by omega)) (by rw [airU_0]; exact RW_rk hk hw) (by rw [airU_0]; exact hi) (by rw [airU_0, hk.1 _ _ (by omega)]; exact hn)
  intro τ z1 z2 z3 f1 f2 f3 f4 f5
  have e6 : airU T V u k 6 u = V 6 u - (k : Int) := by simp [airU]
  have g113 : gi τ 113 (5 * b + u) = V 6 u - (k : Int) := by rw [(f3.2.2.2.1 u (by omega)).2.2.1, e6]
  obtain ⟨s0, hs0⟩ : ∃ s0 : Nat, k < N → V 6 u - (k : Int) = ((s0 + 1 : Nat) : Int) := ⟨(V 6 u - (k : Int)).toNat - 1, fun h => by omega⟩
  have hx4 : k < N → 0 ≤ airU T V u k 7 (u * 8 + s0) ∧ airU T V u k 7 (u * 8 + s0) < T 0 1 := fun h => f4.1.2.2.2.1 u s0 (by omega) (by have := hs0 h; rw [e6]; omega)
  have g114 : k < N → gi τ 114 (40 * b + (u * 8 + s0)) = airU T V u k 7 (u * 8 + s0) := fun h => f3.2.2.2.2.1 (u * 8 + s0) (by have := hs0 h; omega)
  have i40 : ((40 : Int) * (b : Int) + (8 : Int) * (u : Int) + (s0 : Int)).toNat = 40 * b + (u * 8 + s0) := by omega
  have hsv : k < N → V 6 u - (k : Int) - 1 = (s0 : Int) := fun h => by have := hs0 h; omega
  have hrτ := f1.rb hr
  have g121 := f3.2.2.2.2.2.1
  have hcnt := cnt_in (fun x => decide (airU T V u k 4 x = 2)) 10
  have lt : (k : Int) < v → 0 < V 6 u - (k : Int) → k < N := fun h1 h2 => by omega
  have fin : k = N → P τ := fun h => by subst h; exact hP τ f1 f2 f3 f4 f5
  refine v_airR_10 b u v k z1 z2 z3 ?_ ?_ ?_ ?_ ?_ ?_ ?_ ?_ ?_ ?_ ?_ ?_ ?_ ?_ ?_ ?_ ?_
  all_goals (try simp only [g113])
  all_goals first
    | (intros; omega)
    | (intros; unfold rg; omega)
    | (intros; exact fin (by omega))
    | (intro h1 h2 t7 h7 x8 h8
       have hlt := lt h1 h2
       have hs1 := hsv hlt
       have hs2 := hs0 hlt
       have hx5 := hx4 hlt
       rw [h7, gi_hit, hs1] at h8
       subst h8
       first
        | (intros; omega)
        | (intros; unfold rg; omega)
        | (intro x14 h14
           rw [i40, g114 hlt] at h14
           first
            | (intros; omega)
            | (intros; unfold rg; omega)
            | (intro t18 h18 t21 h21
               obtain ⟨x, hx⟩ := Int.eq_ofNat_of_zero_le hx5.1
               rw [hx] at h14
               subst h14
               rw [show ((10 : Int) * (b : Int) + (x : Int)).toNat = 10 * b + x by omega] at h18
               subst h18 h7
               rw [hs1] at h21
               refine air_body (V0 := V0) hb2 (by omega) hb hrτ f3 f4 (by omega) (by rw [e6]; exact hs2) hx f5 t21 h21 (fun τ' z q1 q2 q3 q4 q5 => ?_)
               rw [airU_s (by omega)] at q3 q4 q5
               exact ih hlt τ' _ _ z (f1.tr q1) (q2.trans f2) q3 q4 q5)))
