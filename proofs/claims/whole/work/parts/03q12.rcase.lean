/-! TEXT: the reference's line of a case -/
theorem v_cL {n : Nat}   {σ : Mm} {P : Int → Mm → Prop} (o1 : (gi σ 85 18) ≠ (10 : Int) → Mx σ) (o2 : (gi σ 85 18) ≠ (10 : Int) → ∀ s3 : Mm, TkM σ s3 ∧ Mx s3 ∧ E4 σ s3 → Mx s3) (o3 : (gi σ 85 18) ≠ (10 : Int) → ∀ s3 : Mm, TkM σ s3 ∧ Mx s3 ∧ E4 σ s3 → (0 ≤ (gi s3 85 18) ∧ (gi s3 85 18) < 10)) (o4 : (gi σ 85 18) ≠ (10 : Int) → ∀ s3 : Mm, TkM σ s3 ∧ Mx s3 ∧ E4 σ s3 → ∀ (v5 : Int) (s6 : Mm), NwR 93 10 ((gi s3 85 18)).toNat s3 v5 s6 ∧ Mx s6 ∧ E4 s3 s6 → v5 ≠ (0 : Int) → rg ((10 : Int) + (gi s6 85 18))) (o5 : (gi σ 85 18) ≠ (10 : Int) → ∀ s3 : Mm, TkM σ s3 ∧ Mx s3 ∧ E4 σ s3 → ∀ (v5 : Int) (s6 : Mm), NwR 93 10 ((gi s3 85 18)).toNat s3 v5 s6 ∧ Mx s6 ∧ E4 s3 s6 → v5 ≠ (0 : Int) → ∀ x10 : Int, x10 = (10 : Int) + (gi s6 85 18) → (gi s6 85 8) = (2 : Int) → (0 ≤ (gi s6 85 17) ∧ 0 ≤ (5 : Int) ∧ (5 : Int) + (gi s6 85 17) ≤ 10)) (o6 : (gi σ 85 18) ≠ (10 : Int) → ∀ s3 : Mm, TkM σ s3 ∧ Mx s3 ∧ E4 σ s3 → ∀ (v5 : Int) (s6 : Mm), NwR 93 10 ((gi s3 85 18)).toNat s3 v5 s6 ∧ Mx s6 ∧ E4 s3 s6 → v5 ≠ (0 : Int) → ∀ x10 : Int, x10 = (10 : Int) + (gi s6 85 18) → (gi s6 85 8) = (2 : Int) → ∀ x12 : Int, x12 = plF (fun k => gi s6 90 (5 + k)) (gi s6 85 9) ((gi s6 85 17)).toNat → (0 : Int) ≤ x12 → Mx s6) (o7 : (gi σ 85 18) ≠ (10 : Int) → ∀ s3 : Mm, TkM σ s3 ∧ Mx s3 ∧ E4 σ s3 → ∀ (v5 : Int) (s6 : Mm), NwR 93 10 ((gi s3 85 18)).toNat s3 v5 s6 ∧ Mx s6 ∧ E4 s3 s6 → v5 ≠ (0 : Int) → ∀ x10 : Int, x10 = (10 : Int) + (gi s6 85 18) → (gi s6 85 8) = (2 : Int) → ∀ x12 : Int, x12 = plF (fun k => gi s6 90 (5 + k)) (gi s6 85 9) ((gi s6 85 17)).toNat → (0 : Int) ≤ x12 → ∀ s15 : Mm, TkM s6 s15 ∧ Mx s15 ∧ E4 s6 s15 → (0 ≤ x10 ∧ x10 < 20)) (o8 : (gi σ 85 18) ≠ (10 : Int) → ∀ s3 : Mm, TkM σ s3 ∧ Mx s3 ∧ E4 σ s3 → ∀ (v5 : Int) (s6 : Mm), NwR 93 10 ((gi s3 85 18)).toNat s3 v5 s6 ∧ Mx s6 ∧ E4 s3 s6 → v5 ≠ (0 : Int) → ∀ x10 : Int, x10 = (10 : Int) + (gi s6 85 18) → (gi s6 85 8) = (2 : Int) → ∀ x12 : Int, x12 = plF (fun k => gi s6 90 (5 + k)) (gi s6 85 9) ((gi s6 85 17)).toNat → (0 : Int) ≤ x12 → ∀ s15 : Mm, TkM s6 s15 ∧ Mx s15 ∧ E4 s6 s15 → ∀ t18 : Mm, t18 = si s15 94 x10.toNat x12 → Mx t18) (o9 : (gi σ 85 18) ≠ (10 : Int) → ∀ s3 : Mm, TkM σ s3 ∧ Mx s3 ∧ E4 σ s3 → ∀ (v5 : Int) (s6 : Mm), NwR 93 10 ((gi s3 85 18)).toNat s3 v5 s6 ∧ Mx s6 ∧ E4 s3 s6 → v5 ≠ (0 : Int) → ∀ x10 : Int, x10 = (10 : Int) + (gi s6 85 18) → (gi s6 85 8) = (2 : Int) → ∀ x12 : Int, x12 = plF (fun k => gi s6 90 (5 + k)) (gi s6 85 9) ((gi s6 85 17)).toNat → (0 : Int) ≤ x12 → ∀ s15 : Mm, TkM s6 s15 ∧ Mx s15 ∧ E4 s6 s15 → ∀ t18 : Mm, t18 = si s15 94 x10.toNat x12 → ∀ (v19 : Int) (s20 : Mm), NuR (99 : Int) t18 v19 s20 ∧ Mx s20 ∧ E4 t18 s20 → v19 ≠ (0 : Int) → ∀ t23 : Mm, t23 = si s20 95 x10.toNat (gi s20 85 11) → Mx t23) (o10 : (gi σ 85 18) ≠ (10 : Int) → ∀ s3 : Mm, TkM σ s3 ∧ Mx s3 ∧ E4 σ s3 → ∀ (v5 : Int) (s6 : Mm), NwR 93 10 ((gi s3 85 18)).toNat s3 v5 s6 ∧ Mx s6 ∧ E4 s3 s6 → v5 ≠ (0 : Int) → ∀ x10 : Int, x10 = (10 : Int) + (gi s6 85 18) → (gi s6 85 8) = (2 : Int) → ∀ x12 : Int, x12 = plF (fun k => gi s6 90 (5 + k)) (gi s6 85 9) ((gi s6 85 17)).toNat → (0 : Int) ≤ x12 → ∀ s15 : Mm, TkM s6 s15 ∧ Mx s15 ∧ E4 s6 s15 → ∀ t18 : Mm, t18 = si s15 94 x10.toNat x12 → ∀ (v19 : Int) (s20 : Mm), NuR (99 : Int) t18 v19 s20 ∧ Mx s20 ∧ E4 t18 s20 → v19 ≠ (0 : Int) → ∀ t23 : Mm, t23 = si s20 95 x10.toNat (gi s20 85 11) → ∀ (v24 : Int) (s25 : Mm), NuR (99 : Int) t23 v24 s25 ∧ Mx s25 ∧ E4 t23 s25 → v24 ≠ (0 : Int) → ∀ t28 : Mm, t28 = si s25 96 x10.toNat (gi s25 85 11) → rg ((gi s25 85 18) + 1)) (l1 : (gi σ 85 18) ≠ (10 : Int) → ∀ s3 : Mm, TkM σ s3 ∧ Mx s3 ∧ E4 σ s3 → ∀ (v5 : Int) (s6 : Mm), NwR 93 10 ((gi s3 85 18)).toNat s3 v5 s6 ∧ Mx s6 ∧ E4 s3 s6 → v5 ≠ (0 : Int) → ∀ x10 : Int, x10 = (10 : Int) + (gi s6 85 18) → (gi s6 85 8) = (2 : Int) → ∀ x12 : Int, x12 = plF (fun k => gi s6 90 (5 + k)) (gi s6 85 9) ((gi s6 85 17)).toNat → (0 : Int) ≤ x12 → ∀ s15 : Mm, TkM s6 s15 ∧ Mx s15 ∧ E4 s6 s15 → ∀ t18 : Mm, t18 = si s15 94 x10.toNat x12 → ∀ (v19 : Int) (s20 : Mm), NuR (99 : Int) t18 v19 s20 ∧ Mx s20 ∧ E4 t18 s20 → v19 ≠ (0 : Int) → ∀ t23 : Mm, t23 = si s20 95 x10.toNat (gi s20 85 11) → ∀ (v24 : Int) (s25 : Mm), NuR (99 : Int) t23 v24 s25 ∧ Mx s25 ∧ E4 t23 s25 → v24 ≠ (0 : Int) → ∀ t28 : Mm, t28 = si s25 96 x10.toNat (gi s25 85 11) → ∀ t30 : Mm, t30 = si t28 85 18 ((gi s25 85 18) + 1) → P 1 t30) (l2 : (gi σ 85 18) ≠ (10 : Int) → ∀ s3 : Mm, TkM σ s3 ∧ Mx s3 ∧ E4 σ s3 → ∀ (v5 : Int) (s6 : Mm), NwR 93 10 ((gi s3 85 18)).toNat s3 v5 s6 ∧ Mx s6 ∧ E4 s3 s6 → v5 ≠ (0 : Int) → ∀ x10 : Int, x10 = (10 : Int) + (gi s6 85 18) → (gi s6 85 8) = (2 : Int) → ∀ x12 : Int, x12 = plF (fun k => gi s6 90 (5 + k)) (gi s6 85 9) ((gi s6 85 17)).toNat → (0 : Int) ≤ x12 → ∀ s15 : Mm, TkM s6 s15 ∧ Mx s15 ∧ E4 s6 s15 → ∀ t18 : Mm, t18 = si s15 94 x10.toNat x12 → ∀ (v19 : Int) (s20 : Mm), NuR (99 : Int) t18 v19 s20 ∧ Mx s20 ∧ E4 t18 s20 → v19 ≠ (0 : Int) → ∀ t23 : Mm, t23 = si s20 95 x10.toNat (gi s20 85 11) → ∀ (v24 : Int) (s25 : Mm), NuR (99 : Int) t23 v24 s25 ∧ Mx s25 ∧ E4 t23 s25 → v24 = (0 : Int) → P 0 s25) (l3 : (gi σ 85 18) ≠ (10 : Int) → ∀ s3 : Mm, TkM σ s3 ∧ Mx s3 ∧ E4 σ s3 → ∀ (v5 : Int) (s6 : Mm), NwR 93 10 ((gi s3 85 18)).toNat s3 v5 s6 ∧ Mx s6 ∧ E4 s3 s6 → v5 ≠ (0 : Int) → ∀ x10 : Int, x10 = (10 : Int) + (gi s6 85 18) → (gi s6 85 8) = (2 : Int) → ∀ x12 : Int, x12 = plF (fun k => gi s6 90 (5 + k)) (gi s6 85 9) ((gi s6 85 17)).toNat → (0 : Int) ≤ x12 → ∀ s15 : Mm, TkM s6 s15 ∧ Mx s15 ∧ E4 s6 s15 → ∀ t18 : Mm, t18 = si s15 94 x10.toNat x12 → ∀ (v19 : Int) (s20 : Mm), NuR (99 : Int) t18 v19 s20 ∧ Mx s20 ∧ E4 t18 s20 → v19 = (0 : Int) → P 0 s20) (l4 : (gi σ 85 18) ≠ (10 : Int) → ∀ s3 : Mm, TkM σ s3 ∧ Mx s3 ∧ E4 σ s3 → ∀ (v5 : Int) (s6 : Mm), NwR 93 10 ((gi s3 85 18)).toNat s3 v5 s6 ∧ Mx s6 ∧ E4 s3 s6 → v5 ≠ (0 : Int) → ∀ x10 : Int, x10 = (10 : Int) + (gi s6 85 18) → (gi s6 85 8) = (2 : Int) → ∀ x12 : Int, x12 = plF (fun k => gi s6 90 (5 + k)) (gi s6 85 9) ((gi s6 85 17)).toNat → x12 < (0 : Int) → ∀ t31 : Mm, t31 = si s6 85 4 (4 : Int) → ∀ t32 : Mm, t32 = si t31 85 5 (gi s6 85 10) → P 0 t32) (l5 : (gi σ 85 18) ≠ (10 : Int) → ∀ s3 : Mm, TkM σ s3 ∧ Mx s3 ∧ E4 σ s3 → ∀ (v5 : Int) (s6 : Mm), NwR 93 10 ((gi s3 85 18)).toNat s3 v5 s6 ∧ Mx s6 ∧ E4 s3 s6 → v5 ≠ (0 : Int) → ∀ x10 : Int, x10 = (10 : Int) + (gi s6 85 18) → (gi s6 85 8) ≠ (2 : Int) → ∀ t33 : Mm, t33 = si s6 85 4 (1 : Int) → ∀ t34 : Mm, t34 = si t33 85 5 (gi s6 85 10) → P 0 t34) (l6 : (gi σ 85 18) ≠ (10 : Int) → ∀ s3 : Mm, TkM σ s3 ∧ Mx s3 ∧ E4 σ s3 → ∀ (v5 : Int) (s6 : Mm), NwR 93 10 ((gi s3 85 18)).toNat s3 v5 s6 ∧ Mx s6 ∧ E4 s3 s6 → v5 = (0 : Int) → P 0 s6) (l7 : (gi σ 85 18) = (10 : Int) → ∀ t35 : Mm, t35 = si σ 85 4 (2 : Int) → ∀ t36 : Mm, t36 = si t35 85 5 (gi σ 85 10) → P 0 t36) : Ci 175 [vr 85] (shF n) σ P :=
  show R 175 0 [some (vr 85), none, none] [] (shF n) 0 0 σ (Qi (shF n) P) from wpK_R 71 [] (And.intro (fun q1 => (c_tkm2  (o1 q1) (fun s3 h4 => (c_nwn2_93  (o2 q1 s3 h4) (o3 q1 s3 h4) (fun v5 s6 h7 => And.intro (fun q8 => (have k9 := (o4 q1 s3 h4 v5 s6 h7 q8); And.intro k9 (And.intro (fun q11 => (c_sk_90  (o5 q1 s3 h4 v5 s6 h7 q8 _ rfl q11) (And.intro (fun q13 => (c_tkm2  (o6 q1 s3 h4 v5 s6 h7 q8 _ rfl q11 _ rfl q13) (fun s15 h16 => (have k17 := (o7 q1 s3 h4 v5 s6 h7 q8 _ rfl q11 _ rfl q13 s15 h16); And.intro k17 ((c_num2  (o8 q1 s3 h4 v5 s6 h7 q8 _ rfl q11 _ rfl q13 s15 h16 _ rfl) (fun v19 s20 h21 => And.intro (fun q22 => And.intro k17 ((c_num2  (o9 q1 s3 h4 v5 s6 h7 q8 _ rfl q11 _ rfl q13 s15 h16 _ rfl v19 s20 h21 q22 _ rfl) (fun v24 s25 h26 => And.intro (fun q27 => And.intro k17 ((have k29 := (o10 q1 s3 h4 v5 s6 h7 q8 _ rfl q11 _ rfl q13 s15 h16 _ rfl v19 s20 h21 q22 _ rfl v24 s25 h26 q27 _ rfl); And.intro k29 (And.intro ret0 (And.intro (Or.inr rfl) ⟨rfl, _, rfl, (l1 q1 s3 h4 v5 s6 h7 q8 _ rfl q11 _ rfl q13 s15 h16 _ rfl v19 s20 h21 q22 _ rfl v24 s25 h26 q27 _ rfl _ rfl)⟩))))) (fun q27 => And.intro ret0 (And.intro (Or.inl rfl) ⟨rfl, _, rfl, (l2 q1 s3 h4 v5 s6 h7 q8 _ rfl q11 _ rfl q13 s15 h16 _ rfl v19 s20 h21 q22 _ rfl v24 s25 h26 (Classical.not_not.mp q27))⟩)))))) (fun q22 => And.intro ret0 (And.intro (Or.inl rfl) ⟨rfl, _, rfl, (l3 q1 s3 h4 v5 s6 h7 q8 _ rfl q11 _ rfl q13 s15 h16 _ rfl v19 s20 h21 (Classical.not_not.mp q22))⟩))))))))) (fun q13 => (show R 159 0 [some (vr 85), some (vi 4)] [] (shF n) 0 0 _ _ from wpK_R 9 [] (And.intro ret0 (And.intro (Or.inl rfl) ⟨rfl, _, rfl, And.intro ret0 (And.intro (Or.inl rfl) ⟨rfl, _, rfl, (l4 q1 s3 h4 v5 s6 h7 q8 _ rfl q11 _ rfl (Int.not_le.mp q13) _ rfl _ rfl)⟩)⟩))))))) (fun q11 => (show R 159 0 [some (vr 85), some (vi 1)] [] (shF n) 0 0 _ _ from wpK_R 9 [] (And.intro ret0 (And.intro (Or.inl rfl) ⟨rfl, _, rfl, And.intro ret0 (And.intro (Or.inl rfl) ⟨rfl, _, rfl, (l5 q1 s3 h4 v5 s6 h7 q8 _ rfl q11 _ rfl _ rfl)⟩)⟩))))))) (fun q8 => And.intro ret0 (And.intro (Or.inl rfl) ⟨rfl, _, rfl, (l6 q1 s3 h4 v5 s6 h7 (Classical.not_not.mp q8))⟩))))))) (fun q1 => (show R 159 0 [some (vr 85), some (vi 2)] [] (shF n) 0 0 _ _ from wpK_R 9 [] (And.intro ret0 (And.intro (Or.inl rfl) ⟨rfl, _, rfl, And.intro ret0 (And.intro (Or.inl rfl) ⟨rfl, _, rfl, (l7 (Classical.not_not.mp q1) _ rfl _ rfl)⟩)⟩)))))
theorem r_case {n : Nat} {σ s ρ : Mm} {P : Int → Mm → Prop} (ht : TQ σ ρ) (hr : RD σ ρ) (hj : ClC σ s) (hF : ∀ ρ', FQ s ρ' → kR ρ ρ' → P 0 ρ') (hO : ∀ ρ', TQ s ρ' → RD s ρ' → kR ρ ρ' → P 1 ρ') : Ci 175 [vr 85] (shF n) ρ P := by
  have hx := ht.2.1
  obtain ⟨hJ, hC, hK, hA, hT, hL⟩ := hr
  have hJ0 := hJ
  obtain ⟨i1, i2, i3⟩ := hJ
  obtain ⟨j1, j2, j3⟩ := hC
  obtain ⟨s1, s2, s3, s4, s5, c1, c2, c3, c4, c5, c6⟩ := hj
  obtain ⟨J, eJ⟩ : ∃ J : Nat, gi σ 21 1 = (J : Int) := ⟨(gi σ 21 1).toNat, by omega⟩
  have hfin : ∀ ρ', FQ s5 ρ' → kR ρ ρ' → P 0 ρ' := fun ρ' f k => by
    rcases c6 with c | c
    · exact absurd c.1 f.1
    · exact hF ρ' (by rw [c.2]; exact f) k
  have hw0 : gi σ 21 1 < 10 → cnW (gi σ 21 1) 10 = 0 := fun q => by unfold cnW; rw [if_neg (by omega)]
  rw [eJ, Int.toNat_natCast] at c2
  rw [eJ] at j2
  have row1 : ∀ τ, TkM ρ τ → ∀ j, j < J → gi τ 93 (10 + j) = gi s1 25 j := fun τ t j q => by
    rw [t.1 93 _ (by omega), TkS_fr c1 25 j (by omega)]; exact (j3 j (by omega)).1
  have e21 : gi s2 21 0 = gi σ 21 0 := by rw [TkS_fr c2 21 0 (by omega), TkS_fr c1 21 0 (by omega)]
  have row2 : ∀ r1 r2 : Mm, TkM ρ r1 → (∀ x i, ¬ (x = 85 ∧ (i = 4 ∨ i = 5 ∨ (7 ≤ i ∧ i ≤ 11))) → ¬ (x = 93 ∧ i = 10 + J) → gi r2 x i = gi r1 x i) → plF (fun k => gi r2 90 (5 + k)) (gi r2 85 9) (gi r2 85 17).toNat = plF (gi s2 22) (gi r2 85 9) (gi s2 21 0).toNat := fun r1 r2 t f => by
    rw [f 85 17 (by omega) (by omega), t.1 85 17 (by omega), i2, e21]
    refine plF_cong _ fun i hi => ?_
    rw [f 90 _ (by omega) (by omega), t.1 90 _ (by omega), TkS_fr c2 22 i (by omega), TkS_fr c1 22 i (by omega)]
    exact (i3 i (by omega)).1
  refine v_cL (by intros; first | omega | exact hx | (unfold rg; omega) | exact (And.left (And.right (by assumption))) | (subst_vars; refine Mx_si ?_ (by omega); first | exact hx | exact (And.left (And.right (by assumption)))) | (subst_vars; simp only [E4, gi_ne (show (85 : Nat) ≠ 88 by decide), gi_ne (show (85 : Nat) ≠ 89 by decide), gi_ne (show (85 : Nat) ≠ 91 by decide), gi_ne (show (85 : Nat) ≠ 92 by decide), gi_ne (show (85 : Nat) ≠ 94 by decide), gi_ne (show (85 : Nat) ≠ 95 by decide), gi_ne (show (85 : Nat) ≠ 96 by decide), gi_ne (show (85 : Nat) ≠ 98 by decide), gi_ne (show (85 : Nat) ≠ 99 by decide), gi_ne (show (85 : Nat) ≠ 100 by decide)] at *; first | omega | (unfold rg; omega))) (by intros; first | omega | exact hx | (unfold rg; omega) | exact (And.left (And.right (by assumption))) | (subst_vars; refine Mx_si ?_ (by omega); first | exact hx | exact (And.left (And.right (by assumption)))) | (subst_vars; simp only [E4, gi_ne (show (85 : Nat) ≠ 88 by decide), gi_ne (show (85 : Nat) ≠ 89 by decide), gi_ne (show (85 : Nat) ≠ 91 by decide), gi_ne (show (85 : Nat) ≠ 92 by decide), gi_ne (show (85 : Nat) ≠ 94 by decide), gi_ne (show (85 : Nat) ≠ 95 by decide), gi_ne (show (85 : Nat) ≠ 96 by decide), gi_ne (show (85 : Nat) ≠ 98 by decide), gi_ne (show (85 : Nat) ≠ 99 by decide), gi_ne (show (85 : Nat) ≠ 100 by decide)] at *; first | omega | (unfold rg; omega))) (by intros; first | omega | exact hx | (unfold rg; omega) | exact (And.left (And.right (by assumption))) | (subst_vars; refine Mx_si ?_ (by omega); first | exact hx | exact (And.left (And.right (by assumption)))) | (subst_vars; simp only [E4, gi_ne (show (85 : Nat) ≠ 88 by decide), gi_ne (show (85 : Nat) ≠ 89 by decide), gi_ne (show (85 : Nat) ≠ 91 by decide), gi_ne (show (85 : Nat) ≠ 92 by decide), gi_ne (show (85 : Nat) ≠ 94 by decide), gi_ne (show (85 : Nat) ≠ 95 by decide), gi_ne (show (85 : Nat) ≠ 96 by decide), gi_ne (show (85 : Nat) ≠ 98 by decide), gi_ne (show (85 : Nat) ≠ 99 by decide), gi_ne (show (85 : Nat) ≠ 100 by decide)] at *; first | omega | (unfold rg; omega))) (by intros; first | omega | exact hx | (unfold rg; omega) | exact (And.left (And.right (by assumption))) | (subst_vars; refine Mx_si ?_ (by omega); first | exact hx | exact (And.left (And.right (by assumption)))) | (subst_vars; simp only [E4, gi_ne (show (85 : Nat) ≠ 88 by decide), gi_ne (show (85 : Nat) ≠ 89 by decide), gi_ne (show (85 : Nat) ≠ 91 by decide), gi_ne (show (85 : Nat) ≠ 92 by decide), gi_ne (show (85 : Nat) ≠ 94 by decide), gi_ne (show (85 : Nat) ≠ 95 by decide), gi_ne (show (85 : Nat) ≠ 96 by decide), gi_ne (show (85 : Nat) ≠ 98 by decide), gi_ne (show (85 : Nat) ≠ 99 by decide), gi_ne (show (85 : Nat) ≠ 100 by decide)] at *; first | omega | (unfold rg; omega))) (by intros; first | omega | exact hx | (unfold rg; omega) | exact (And.left (And.right (by assumption))) | (subst_vars; refine Mx_si ?_ (by omega); first | exact hx | exact (And.left (And.right (by assumption)))) | (subst_vars; simp only [E4, gi_ne (show (85 : Nat) ≠ 88 by decide), gi_ne (show (85 : Nat) ≠ 89 by decide), gi_ne (show (85 : Nat) ≠ 91 by decide), gi_ne (show (85 : Nat) ≠ 92 by decide), gi_ne (show (85 : Nat) ≠ 94 by decide), gi_ne (show (85 : Nat) ≠ 95 by decide), gi_ne (show (85 : Nat) ≠ 96 by decide), gi_ne (show (85 : Nat) ≠ 98 by decide), gi_ne (show (85 : Nat) ≠ 99 by decide), gi_ne (show (85 : Nat) ≠ 100 by decide)] at *; first | omega | (unfold rg; omega))) (by intros; first | omega | exact hx | (unfold rg; omega) | exact (And.left (And.right (by assumption))) | (subst_vars; refine Mx_si ?_ (by omega); first | exact hx | exact (And.left (And.right (by assumption)))) | (subst_vars; simp only [E4, gi_ne (show (85 : Nat) ≠ 88 by decide), gi_ne (show (85 : Nat) ≠ 89 by decide), gi_ne (show (85 : Nat) ≠ 91 by decide), gi_ne (show (85 : Nat) ≠ 92 by decide), gi_ne (show (85 : Nat) ≠ 94 by decide), gi_ne (show (85 : Nat) ≠ 95 by decide), gi_ne (show (85 : Nat) ≠ 96 by decide), gi_ne (show (85 : Nat) ≠ 98 by decide), gi_ne (show (85 : Nat) ≠ 99 by decide), gi_ne (show (85 : Nat) ≠ 100 by decide)] at *; first | omega | (unfold rg; omega))) (by intros; first | omega | exact hx | (unfold rg; omega) | exact (And.left (And.right (by assumption))) | (subst_vars; refine Mx_si ?_ (by omega); first | exact hx | exact (And.left (And.right (by assumption)))) | (subst_vars; simp only [E4, gi_ne (show (85 : Nat) ≠ 88 by decide), gi_ne (show (85 : Nat) ≠ 89 by decide), gi_ne (show (85 : Nat) ≠ 91 by decide), gi_ne (show (85 : Nat) ≠ 92 by decide), gi_ne (show (85 : Nat) ≠ 94 by decide), gi_ne (show (85 : Nat) ≠ 95 by decide), gi_ne (show (85 : Nat) ≠ 96 by decide), gi_ne (show (85 : Nat) ≠ 98 by decide), gi_ne (show (85 : Nat) ≠ 99 by decide), gi_ne (show (85 : Nat) ≠ 100 by decide)] at *; first | omega | (unfold rg; omega))) (by intros; first | omega | exact hx | (unfold rg; omega) | exact (And.left (And.right (by assumption))) | (subst_vars; refine Mx_si ?_ (by omega); first | exact hx | exact (And.left (And.right (by assumption)))) | (subst_vars; simp only [E4, gi_ne (show (85 : Nat) ≠ 88 by decide), gi_ne (show (85 : Nat) ≠ 89 by decide), gi_ne (show (85 : Nat) ≠ 91 by decide), gi_ne (show (85 : Nat) ≠ 92 by decide), gi_ne (show (85 : Nat) ≠ 94 by decide), gi_ne (show (85 : Nat) ≠ 95 by decide), gi_ne (show (85 : Nat) ≠ 96 by decide), gi_ne (show (85 : Nat) ≠ 98 by decide), gi_ne (show (85 : Nat) ≠ 99 by decide), gi_ne (show (85 : Nat) ≠ 100 by decide)] at *; first | omega | (unfold rg; omega))) (by intros; first | omega | exact hx | (unfold rg; omega) | exact (And.left (And.right (by assumption))) | (subst_vars; refine Mx_si ?_ (by omega); first | exact hx | exact (And.left (And.right (by assumption)))) | (subst_vars; simp only [E4, gi_ne (show (85 : Nat) ≠ 88 by decide), gi_ne (show (85 : Nat) ≠ 89 by decide), gi_ne (show (85 : Nat) ≠ 91 by decide), gi_ne (show (85 : Nat) ≠ 92 by decide), gi_ne (show (85 : Nat) ≠ 94 by decide), gi_ne (show (85 : Nat) ≠ 95 by decide), gi_ne (show (85 : Nat) ≠ 96 by decide), gi_ne (show (85 : Nat) ≠ 98 by decide), gi_ne (show (85 : Nat) ≠ 99 by decide), gi_ne (show (85 : Nat) ≠ 100 by decide)] at *; first | omega | (unfold rg; omega))) (by intros; first | omega | exact hx | (unfold rg; omega) | exact (And.left (And.right (by assumption))) | (subst_vars; refine Mx_si ?_ (by omega); first | exact hx | exact (And.left (And.right (by assumption)))) | (subst_vars; simp only [E4, gi_ne (show (85 : Nat) ≠ 88 by decide), gi_ne (show (85 : Nat) ≠ 89 by decide), gi_ne (show (85 : Nat) ≠ 91 by decide), gi_ne (show (85 : Nat) ≠ 92 by decide), gi_ne (show (85 : Nat) ≠ 94 by decide), gi_ne (show (85 : Nat) ≠ 95 by decide), gi_ne (show (85 : Nat) ≠ 96 by decide), gi_ne (show (85 : Nat) ≠ 98 by decide), gi_ne (show (85 : Nat) ≠ 99 by decide), gi_ne (show (85 : Nat) ≠ 100 by decide)] at *; first | omega | (unfold rg; omega))) ?_ ?_ ?_ ?_ ?_ ?_ ?_
  · rintro a r1 ⟨t1, -, e1⟩ v2 r2 ⟨t2, -, e2⟩ n2 x ex a8 y ey hy r3 ⟨t3, -, e3⟩ u1 eu1 v4 r4 ⟨t4, -, e4⟩ n4 u2 eu2 v5 r5 ⟨t5, -, e5⟩ n5 u3 eu3 u4 eu4
    have g18 : (gi r1 85 18).toNat = J := by omega
    rw [g18] at t2
    have k1 := sy_tok ht (hw0 (by omega)) c1 t1
    obtain ⟨f2, k2⟩ := sy_new k1 (by omega) (row1 r1 t1) c2 t2
    obtain ⟨-, k2, q2⟩ := k2.resolve_left (by omega)
    have p2 : plF (fun k => gi r2 90 (5 + k)) (gi r2 85 9) (gi r2 85 17).toNat = plF (gi s2 22) (gi r2 85 9) (gi s2 21 0).toNat := row2 r1 r2 t1 f2
    have TR := k2.2.2.2.2.2.2.1
    unfold TRl at TR
    rw [p2] at ey
    have e9 : gi r2 85 9 = gi s2 37 11 := by omega
    rw [e9] at ey
    have hin := plF_in (f := gi s2 22) (z := gi s2 37 11) (gi s2 21 0).toNat
    have hwj : jdW (gi s2 37 10) (plF (gi s2 22) (gi s2 37 11) (gi s2 21 0).toNat) = 0 := by unfold jdW; rw [if_neg (by omega), if_neg (by omega)]
    have k3 := sy_tok k2 hwj c3 t3
    have hx5 : x.toNat = 10 + J := by omega
    rw [hx5] at eu1
    have k3' : TQ s3 u1 := TQ_eq k3 (fun _ _ _ => rfl) (fun b i p => by rw [eu1, gi_si, if_neg (by omega)])
    obtain ⟨f4, k4⟩ := sy_num k3' (by omega) c4 t4
    obtain ⟨-, k4, q4⟩ := k4.resolve_left (by omega)
    rw [hx5] at eu2
    have k4' : TQ s4 u2 := TQ_eq k4 (fun _ _ _ => rfl) (fun b i p => by rw [eu2, gi_si, if_neg (by omega)])
    obtain ⟨f5, k5⟩ := sy_num k4' (by omega) c5 t5
    obtain ⟨-, k5, q5⟩ := k5.resolve_left (by omega)
    rw [hx5] at eu3
    have fr : ∀ b i, ¬ (b = 85 ∧ (i = 4 ∨ i = 5 ∨ (7 ≤ i ∧ i ≤ 11) ∨ i = 18)) → ¬ ((93 ≤ b ∧ b ≤ 96) ∧ i = 10 + J) → gi u4 b i = gi ρ b i := fun b i p q => by
      rw [eu4, gi_si, if_neg (by omega), eu3, gi_si, if_neg (by omega), f5 b i (by omega), eu2, gi_si, if_neg (by omega), f4 b i (by omega), eu1, gi_si, if_neg (by omega), t3.1 b i (by omega), f2 b i (by omega) (by omega), t1.1 b i (by omega)]
    have cf : ∀ b i, ¬ (b = 37 ∧ (8 ≤ i ∧ i ≤ 13)) → gi s5 b i = gi σ b i := fun b i p => by
      rw [TkS_fr c5 b i p, TkS_fr c4 b i p, TkS_fr c3 b i p, TkS_fr c2 b i p, TkS_fr c1 b i p]
    rcases c6 with ⟨z1, z2, z3⟩ | ⟨z1, z3⟩
    · rw [eJ, Int.toNat_natCast, ← ey] at z3
      have cs : ∀ b i, ¬ (b = 37 ∧ (8 ≤ i ∧ i ≤ 13)) → ¬ (b = 21 ∧ i = 1) → ¬ ((25 ≤ b ∧ b ≤ 28) ∧ i = J) → gi s b i = gi σ b i := fun b i p q r => by
        rw [z3, gi_si, if_neg (by omega), gi_si, if_neg (by omega), gi_si, if_neg (by omega), gi_si, if_neg (by omega), gi_si, if_neg (by omega)]; exact cf b i p
      have s21 : gi s 21 1 = (J : Int) + 1 := by rw [z3, gi_hit, cf 21 1 (by omega), eJ]
      have s20 : gi s 21 0 = gi σ 21 0 := cs 21 0 (by omega) (by omega) (by omega)
      have a25 : gi s 25 J = gi s1 37 11 := by rw [z3, gi_si, if_neg (by omega), gi_si, if_neg (by omega), gi_si, if_neg (by omega), gi_si, if_neg (by omega), gi_hit]
      have a26 : gi s 26 J = y := by rw [z3, gi_si, if_neg (by omega), gi_si, if_neg (by omega), gi_si, if_neg (by omega), gi_hit]
      have a27 : gi s 27 J = gi s3 37 11 := by rw [z3, gi_si, if_neg (by omega), gi_si, if_neg (by omega), gi_hit]
      have a28 : gi s 28 J = gi s4 37 11 := by rw [z3, gi_si, if_neg (by omega), gi_hit]
      have b18 : gi u4 85 18 = (J : Int) + 1 := by
        have x1 : gi u1 85 18 = gi r3 85 18 := by rw [eu1, gi_si, if_neg (by omega)]
        have x2 : gi u2 85 18 = gi r4 85 18 := by rw [eu2, gi_si, if_neg (by omega)]
        rw [eu4, gi_hit]; omega
      have b93 : gi u4 93 (10 + J) = gi s1 37 11 := by
        rw [eu4, gi_si, if_neg (by omega), eu3, gi_si, if_neg (by omega), f5 93 _ (by omega), eu2, gi_si, if_neg (by omega), f4 93 _ (by omega), eu1, gi_si, if_neg (by omega), t3.1 93 _ (by omega)]; exact q2
      have b94 : gi u4 94 (10 + J) = y := by
        rw [eu4, gi_si, if_neg (by omega), eu3, gi_si, if_neg (by omega), f5 94 _ (by omega), eu2, gi_si, if_neg (by omega), f4 94 _ (by omega), eu1, gi_hit]
      have b95 : gi u4 95 (10 + J) = gi s3 37 11 := by
        rw [eu4, gi_si, if_neg (by omega), eu3, gi_si, if_neg (by omega), f5 95 _ (by omega), eu2, gi_hit]; exact q4.1
      have b96 : gi u4 96 (10 + J) = gi s4 37 11 := by
        rw [eu4, gi_si, if_neg (by omega), eu3, gi_hit]; exact q5.1
      refine hO u4 (TQ_eq k5 (fun b i p => ?_) (fun b i p => ?_)) ⟨RJ_eq hJ0 (fun b i p => cs b i (by omega) (by omega) (by omega)) (fun b i p => fr b i (by omega) (by omega)), ⟨by omega, by rw [b18, s21], fun j hj => ?_⟩, RK_eq hK (fun b i p => cs b i (by omega) (by omega) (by omega)) (fun b i p => fr b i (by omega) (by omega)), RA_eq hA (fun b i p => cs b i (by omega) (by omega) (by omega)) (fun b i p => fr b i (by omega) (by omega)), RT_eq hT (fun b i p => cs b i (by omega) (by omega) (by omega)) (fun b i p => fr b i (by omega) (by omega)), RLw_eq hL (fun b i p => cs b i (by omega) (by omega) (by omega)) (fun b i p => fr b i (by omega) (by omega))⟩ (fun b i p => fr b i (by unfold chM at p; omega) (by unfold chM at p; omega))
      · rw [z3, gi_si, if_neg (by omega), gi_si, if_neg (by omega), gi_si, if_neg (by omega), gi_si, if_neg (by omega), gi_si, if_neg (by omega)]
      · rw [eu4, gi_si, if_neg (by omega), eu3, gi_si, if_neg (by omega)]
      · by_cases w : j = J
        · subst w
          rw [b93, b94, b95, b96, a25, a26, a27, a28, s20]
          exact ⟨rfl, rfl, rfl, rfl, by omega, q4.2, q5.2⟩
        · rw [fr 93 _ (by omega) (by omega), fr 94 _ (by omega) (by omega), fr 95 _ (by omega) (by omega), fr 96 _ (by omega) (by omega), cs 25 j (by omega) (by omega) (by omega), cs 26 j (by omega) (by omega) (by omega), cs 27 j (by omega) (by omega) (by omega), cs 28 j (by omega) (by omega) (by omega), s20]
          exact j3 j (by omega)
    · have := k5.2.2.2.2.2.2.2.1
      omega
  · rintro a r1 ⟨t1, -, e1⟩ v2 r2 ⟨t2, -, e2⟩ n2 x ex a8 y ey hy r3 ⟨t3, -, e3⟩ u1 eu1 v4 r4 ⟨t4, -, e4⟩ n4 u2 eu2 v5 r5 ⟨t5, -, e5⟩ n5
    have g18 : (gi r1 85 18).toNat = J := by omega
    rw [g18] at t2
    have k1 := sy_tok ht (hw0 (by omega)) c1 t1
    obtain ⟨f2, k2⟩ := sy_new k1 (by omega) (row1 r1 t1) c2 t2
    obtain ⟨-, k2, q2⟩ := k2.resolve_left (by omega)
    have p2 : plF (fun k => gi r2 90 (5 + k)) (gi r2 85 9) (gi r2 85 17).toNat = plF (gi s2 22) (gi r2 85 9) (gi s2 21 0).toNat := row2 r1 r2 t1 f2
    have TR := k2.2.2.2.2.2.2.1
    unfold TRl at TR
    rw [p2] at ey
    have e9 : gi r2 85 9 = gi s2 37 11 := by omega
    rw [e9] at ey
    have hin := plF_in (f := gi s2 22) (z := gi s2 37 11) (gi s2 21 0).toNat
    have hwj : jdW (gi s2 37 10) (plF (gi s2 22) (gi s2 37 11) (gi s2 21 0).toNat) = 0 := by unfold jdW; rw [if_neg (by omega), if_neg (by omega)]
    have k3 := sy_tok k2 hwj c3 t3
    have hx5 : x.toNat = 10 + J := by omega
    rw [hx5] at eu1
    have k3' : TQ s3 u1 := TQ_eq k3 (fun _ _ _ => rfl) (fun b i p => by rw [eu1, gi_si, if_neg (by omega)])
    obtain ⟨f4, k4⟩ := sy_num k3' (by omega) c4 t4
    obtain ⟨-, k4, q4⟩ := k4.resolve_left (by omega)
    rw [hx5] at eu2
    have k4' : TQ s4 u2 := TQ_eq k4 (fun _ _ _ => rfl) (fun b i p => by rw [eu2, gi_si, if_neg (by omega)])
    obtain ⟨f5, k5⟩ := sy_num k4' (by omega) c5 t5
    obtain ⟨-, k5⟩ := k5.resolve_right (by omega)
    exact hfin _ k5 (kR_tr (kR_fr t1.1) (kR_tr (fun b i p => f2 b i (by unfold chM at p; omega) (by unfold chM at p; omega)) (kR_tr (kR_fr t3.1) (kR_tr (by rw [eu1]; exact kR_si (by unfold chM; omega)) (kR_tr (kR_f f4) (kR_tr (by rw [eu2]; exact kR_si (by unfold chM; omega)) (kR_f f5)))))))
  · rintro a r1 ⟨t1, -, e1⟩ v2 r2 ⟨t2, -, e2⟩ n2 x ex a8 y ey hy r3 ⟨t3, -, e3⟩ u1 eu1 v4 r4 ⟨t4, -, e4⟩ n4
    have g18 : (gi r1 85 18).toNat = J := by omega
    rw [g18] at t2
    have k1 := sy_tok ht (hw0 (by omega)) c1 t1
    obtain ⟨f2, k2⟩ := sy_new k1 (by omega) (row1 r1 t1) c2 t2
    obtain ⟨-, k2, q2⟩ := k2.resolve_left (by omega)
    have p2 : plF (fun k => gi r2 90 (5 + k)) (gi r2 85 9) (gi r2 85 17).toNat = plF (gi s2 22) (gi r2 85 9) (gi s2 21 0).toNat := row2 r1 r2 t1 f2
    have TR := k2.2.2.2.2.2.2.1
    unfold TRl at TR
    rw [p2] at ey
    have e9 : gi r2 85 9 = gi s2 37 11 := by omega
    rw [e9] at ey
    have hin := plF_in (f := gi s2 22) (z := gi s2 37 11) (gi s2 21 0).toNat
    have hwj : jdW (gi s2 37 10) (plF (gi s2 22) (gi s2 37 11) (gi s2 21 0).toNat) = 0 := by unfold jdW; rw [if_neg (by omega), if_neg (by omega)]
    have k3 := sy_tok k2 hwj c3 t3
    have hx5 : x.toNat = 10 + J := by omega
    rw [hx5] at eu1
    have k3' : TQ s3 u1 := TQ_eq k3 (fun _ _ _ => rfl) (fun b i p => by rw [eu1, gi_si, if_neg (by omega)])
    obtain ⟨f4, k4⟩ := sy_num k3' (by omega) c4 t4
    obtain ⟨-, k4⟩ := k4.resolve_right (by omega)
    exact hfin _ (FQ_keep k4 c5) (kR_tr (kR_fr t1.1) (kR_tr (fun b i p => f2 b i (by unfold chM at p; omega) (by unfold chM at p; omega)) (kR_tr (kR_fr t3.1) (kR_tr (by rw [eu1]; exact kR_si (by unfold chM; omega)) (kR_f f4)))))
  · rintro a r1 ⟨t1, -, e1⟩ v2 r2 ⟨t2, -, e2⟩ n2 x ex a8 y ey hy t et t' et'
    have g18 : (gi r1 85 18).toNat = J := by omega
    rw [g18] at t2
    have k1 := sy_tok ht (hw0 (by omega)) c1 t1
    obtain ⟨f2, k2⟩ := sy_new k1 (by omega) (row1 r1 t1) c2 t2
    obtain ⟨-, k2, q2⟩ := k2.resolve_left (by omega)
    have p2 : plF (fun k => gi r2 90 (5 + k)) (gi r2 85 9) (gi r2 85 17).toNat = plF (gi s2 22) (gi r2 85 9) (gi s2 21 0).toNat := row2 r1 r2 t1 f2
    have TR := k2.2.2.2.2.2.2.1
    unfold TRl at TR
    subst et et'
    rw [p2] at ey
    have e9 : gi r2 85 9 = gi s2 37 11 := by omega
    rw [e9] at ey
    have hin := plF_in (f := gi s2 22) (z := gi s2 37 11) (gi s2 21 0).toNat
    have hwj : jdW (gi s2 37 10) (plF (gi s2 22) (gi s2 37 11) (gi s2 21 0).toNat) = 4 := by unfold jdW; rw [if_neg (by omega), if_pos (by omega)]
    rw [hwj] at c3
    exact hfin _ (FQ_keep (FQ_keep (FQ_wr k2 (by omega) c3) c4) c5) (kR_tr (kR_fr t1.1) (kR_tr (fun b i p => f2 b i (by unfold chM at p; omega) (by unfold chM at p; omega)) (kR_f f85_wr)))
  · rintro a r1 ⟨t1, -, e1⟩ v2 r2 ⟨t2, -, e2⟩ n2 x ex a8 t et t' et'
    have g18 : (gi r1 85 18).toNat = J := by omega
    rw [g18] at t2
    have k1 := sy_tok ht (hw0 (by omega)) c1 t1
    obtain ⟨f2, k2⟩ := sy_new k1 (by omega) (row1 r1 t1) c2 t2
    obtain ⟨-, k2, q2⟩ := k2.resolve_left (by omega)
    have p2 : plF (fun k => gi r2 90 (5 + k)) (gi r2 85 9) (gi r2 85 17).toNat = plF (gi s2 22) (gi r2 85 9) (gi s2 21 0).toNat := row2 r1 r2 t1 f2
    have TR := k2.2.2.2.2.2.2.1
    unfold TRl at TR
    subst et et'
    have hwj : jdW (gi s2 37 10) (plF (gi s2 22) (gi s2 37 11) (gi s2 21 0).toNat) = 1 := by unfold jdW; rw [if_pos (by omega)]
    rw [hwj] at c3
    exact hfin _ (FQ_keep (FQ_keep (FQ_wr k2 (by omega) c3) c4) c5) (kR_tr (kR_fr t1.1) (kR_tr (fun b i p => f2 b i (by unfold chM at p; omega) (by unfold chM at p; omega)) (kR_f f85_wr)))
  · rintro a r1 ⟨t1, -, e1⟩ v2 r2 ⟨t2, -, e2⟩ n2
    have g18 : (gi r1 85 18).toNat = J := by omega
    rw [g18] at t2
    have k1 := sy_tok ht (hw0 (by omega)) c1 t1
    obtain ⟨f2, k2⟩ := sy_new k1 (by omega) (row1 r1 t1) c2 t2
    obtain ⟨-, k2⟩ := k2.resolve_right (by omega)
    exact hfin _ (FQ_keep (FQ_keep (FQ_keep k2 c3) c4) c5) (kR_tr (kR_fr t1.1) (fun b i p => f2 b i (by unfold chM at p; omega) (by unfold chM at p; omega)))
  · intro a t et t' et'
    subst et et'
    have hw : cnW (gi σ 21 1) 10 = 2 := by unfold cnW; rw [if_pos (by omega)]
    rw [hw] at c1
    exact hfin _ (FQ_keep (FQ_keep (FQ_keep (FQ_keep (FQ_wr ht (by omega) c1) c2) c3) c4) c5) (kR_f f85_wr)
