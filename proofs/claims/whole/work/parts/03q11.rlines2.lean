/-! TEXT: the reference's lines of clerks, damp, beat -/
theorem v_kL {n : Nat}   {σ : Mm} {P : Int → Mm → Prop} (o1 : (gi σ 85 19) ≠ (5 : Int) → Mx σ) (o2 : (gi σ 85 19) ≠ (5 : Int) → ∀ s3 : Mm, TkM σ s3 ∧ Mx s3 ∧ E4 σ s3 → Mx s3) (o3 : (gi σ 85 19) ≠ (5 : Int) → ∀ s3 : Mm, TkM σ s3 ∧ Mx s3 ∧ E4 σ s3 → (0 ≤ (gi s3 85 19) ∧ (gi s3 85 19) < 5)) (o4 : (gi σ 85 19) ≠ (5 : Int) → ∀ s3 : Mm, TkM σ s3 ∧ Mx s3 ∧ E4 σ s3 → ∀ (v5 : Int) (s6 : Mm), NwR 97 5 ((gi s3 85 19)).toNat s3 v5 s6 ∧ Mx s6 ∧ E4 s3 s6 → v5 ≠ (0 : Int) → rg ((5 : Int) + (gi s6 85 19))) (o5 : (gi σ 85 19) ≠ (5 : Int) → ∀ s3 : Mm, TkM σ s3 ∧ Mx s3 ∧ E4 σ s3 → ∀ (v5 : Int) (s6 : Mm), NwR 97 5 ((gi s3 85 19)).toNat s3 v5 s6 ∧ Mx s6 ∧ E4 s3 s6 → v5 ≠ (0 : Int) → ∀ x10 : Int, x10 = (5 : Int) + (gi s6 85 19) → Mx s6) (o6 : (gi σ 85 19) ≠ (5 : Int) → ∀ s3 : Mm, TkM σ s3 ∧ Mx s3 ∧ E4 σ s3 → ∀ (v5 : Int) (s6 : Mm), NwR 97 5 ((gi s3 85 19)).toNat s3 v5 s6 ∧ Mx s6 ∧ E4 s3 s6 → v5 ≠ (0 : Int) → ∀ x10 : Int, x10 = (5 : Int) + (gi s6 85 19) → ∀ (v11 : Int) (s12 : Mm), NuR (127 : Int) s6 v11 s12 ∧ Mx s12 ∧ E4 s6 s12 → v11 ≠ (0 : Int) → (0 ≤ x10 ∧ x10 < 10)) (o7 : (gi σ 85 19) ≠ (5 : Int) → ∀ s3 : Mm, TkM σ s3 ∧ Mx s3 ∧ E4 σ s3 → ∀ (v5 : Int) (s6 : Mm), NwR 97 5 ((gi s3 85 19)).toNat s3 v5 s6 ∧ Mx s6 ∧ E4 s3 s6 → v5 ≠ (0 : Int) → ∀ x10 : Int, x10 = (5 : Int) + (gi s6 85 19) → ∀ (v11 : Int) (s12 : Mm), NuR (127 : Int) s6 v11 s12 ∧ Mx s12 ∧ E4 s6 s12 → v11 ≠ (0 : Int) → ∀ t16 : Mm, t16 = si s12 98 x10.toNat (gi s12 85 11) → Mx t16) (o8 : (gi σ 85 19) ≠ (5 : Int) → ∀ s3 : Mm, TkM σ s3 ∧ Mx s3 ∧ E4 σ s3 → ∀ (v5 : Int) (s6 : Mm), NwR 97 5 ((gi s3 85 19)).toNat s3 v5 s6 ∧ Mx s6 ∧ E4 s3 s6 → v5 ≠ (0 : Int) → ∀ x10 : Int, x10 = (5 : Int) + (gi s6 85 19) → ∀ (v11 : Int) (s12 : Mm), NuR (127 : Int) s6 v11 s12 ∧ Mx s12 ∧ E4 s6 s12 → v11 ≠ (0 : Int) → ∀ t16 : Mm, t16 = si s12 98 x10.toNat (gi s12 85 11) → ∀ (v17 : Int) (s18 : Mm), NuR (9 : Int) t16 v17 s18 ∧ Mx s18 ∧ E4 t16 s18 → v17 ≠ (0 : Int) → ∀ t21 : Mm, t21 = si s18 99 x10.toNat (gi s18 85 11) → rg ((gi s18 85 19) + 1)) (l1 : (gi σ 85 19) ≠ (5 : Int) → ∀ s3 : Mm, TkM σ s3 ∧ Mx s3 ∧ E4 σ s3 → ∀ (v5 : Int) (s6 : Mm), NwR 97 5 ((gi s3 85 19)).toNat s3 v5 s6 ∧ Mx s6 ∧ E4 s3 s6 → v5 ≠ (0 : Int) → ∀ x10 : Int, x10 = (5 : Int) + (gi s6 85 19) → ∀ (v11 : Int) (s12 : Mm), NuR (127 : Int) s6 v11 s12 ∧ Mx s12 ∧ E4 s6 s12 → v11 ≠ (0 : Int) → ∀ t16 : Mm, t16 = si s12 98 x10.toNat (gi s12 85 11) → ∀ (v17 : Int) (s18 : Mm), NuR (9 : Int) t16 v17 s18 ∧ Mx s18 ∧ E4 t16 s18 → v17 ≠ (0 : Int) → ∀ t21 : Mm, t21 = si s18 99 x10.toNat (gi s18 85 11) → ∀ t23 : Mm, t23 = si t21 85 19 ((gi s18 85 19) + 1) → P 1 t23) (l2 : (gi σ 85 19) ≠ (5 : Int) → ∀ s3 : Mm, TkM σ s3 ∧ Mx s3 ∧ E4 σ s3 → ∀ (v5 : Int) (s6 : Mm), NwR 97 5 ((gi s3 85 19)).toNat s3 v5 s6 ∧ Mx s6 ∧ E4 s3 s6 → v5 ≠ (0 : Int) → ∀ x10 : Int, x10 = (5 : Int) + (gi s6 85 19) → ∀ (v11 : Int) (s12 : Mm), NuR (127 : Int) s6 v11 s12 ∧ Mx s12 ∧ E4 s6 s12 → v11 ≠ (0 : Int) → ∀ t16 : Mm, t16 = si s12 98 x10.toNat (gi s12 85 11) → ∀ (v17 : Int) (s18 : Mm), NuR (9 : Int) t16 v17 s18 ∧ Mx s18 ∧ E4 t16 s18 → v17 = (0 : Int) → P 0 s18) (l3 : (gi σ 85 19) ≠ (5 : Int) → ∀ s3 : Mm, TkM σ s3 ∧ Mx s3 ∧ E4 σ s3 → ∀ (v5 : Int) (s6 : Mm), NwR 97 5 ((gi s3 85 19)).toNat s3 v5 s6 ∧ Mx s6 ∧ E4 s3 s6 → v5 ≠ (0 : Int) → ∀ x10 : Int, x10 = (5 : Int) + (gi s6 85 19) → ∀ (v11 : Int) (s12 : Mm), NuR (127 : Int) s6 v11 s12 ∧ Mx s12 ∧ E4 s6 s12 → v11 = (0 : Int) → P 0 s12) (l4 : (gi σ 85 19) ≠ (5 : Int) → ∀ s3 : Mm, TkM σ s3 ∧ Mx s3 ∧ E4 σ s3 → ∀ (v5 : Int) (s6 : Mm), NwR 97 5 ((gi s3 85 19)).toNat s3 v5 s6 ∧ Mx s6 ∧ E4 s3 s6 → v5 = (0 : Int) → P 0 s6) (l5 : (gi σ 85 19) = (5 : Int) → ∀ t24 : Mm, t24 = si σ 85 4 (2 : Int) → ∀ t25 : Mm, t25 = si t24 85 5 (gi σ 85 10) → P 0 t25) : Ci 176 [vr 85] (shF n) σ P :=
  show R 176 0 [some (vr 85), none] [] (shF n) 0 0 σ (Qi (shF n) P) from wpK_R 49 [] (And.intro (fun q1 => (c_tkm2  (o1 q1) (fun s3 h4 => (c_nwn2_97  (o2 q1 s3 h4) (o3 q1 s3 h4) (fun v5 s6 h7 => And.intro (fun q8 => (have k9 := (o4 q1 s3 h4 v5 s6 h7 q8); And.intro k9 ((c_num2  (o5 q1 s3 h4 v5 s6 h7 q8 _ rfl) (fun v11 s12 h13 => And.intro (fun q14 => (have k15 := (o6 q1 s3 h4 v5 s6 h7 q8 _ rfl v11 s12 h13 q14); And.intro k15 ((c_num2  (o7 q1 s3 h4 v5 s6 h7 q8 _ rfl v11 s12 h13 q14 _ rfl) (fun v17 s18 h19 => And.intro (fun q20 => And.intro k15 ((have k22 := (o8 q1 s3 h4 v5 s6 h7 q8 _ rfl v11 s12 h13 q14 _ rfl v17 s18 h19 q20 _ rfl); And.intro k22 (And.intro ret0 (And.intro (Or.inr rfl) ⟨rfl, _, rfl, (l1 q1 s3 h4 v5 s6 h7 q8 _ rfl v11 s12 h13 q14 _ rfl v17 s18 h19 q20 _ rfl _ rfl)⟩))))) (fun q20 => And.intro ret0 (And.intro (Or.inl rfl) ⟨rfl, _, rfl, (l2 q1 s3 h4 v5 s6 h7 q8 _ rfl v11 s12 h13 q14 _ rfl v17 s18 h19 (Classical.not_not.mp q20))⟩))))))) (fun q14 => And.intro ret0 (And.intro (Or.inl rfl) ⟨rfl, _, rfl, (l3 q1 s3 h4 v5 s6 h7 q8 _ rfl v11 s12 h13 (Classical.not_not.mp q14))⟩))))))) (fun q8 => And.intro ret0 (And.intro (Or.inl rfl) ⟨rfl, _, rfl, (l4 q1 s3 h4 v5 s6 h7 (Classical.not_not.mp q8))⟩))))))) (fun q1 => (show R 159 0 [some (vr 85), some (vi 2)] [] (shF n) 0 0 _ _ from wpK_R 9 [] (And.intro ret0 (And.intro (Or.inl rfl) ⟨rfl, _, rfl, And.intro ret0 (And.intro (Or.inl rfl) ⟨rfl, _, rfl, (l5 (Classical.not_not.mp q1) _ rfl _ rfl)⟩)⟩)))))
theorem r_clerk {n : Nat} {σ s ρ : Mm} {P : Int → Mm → Prop} (ht : TQ σ ρ) (hr : RD σ ρ) (hj : KlC σ s) (hF : ∀ ρ', FQ s ρ' → kR ρ ρ' → P 0 ρ') (hO : ∀ ρ', TQ s ρ' → RD s ρ' → kR ρ ρ' → P 1 ρ') : Ci 176 [vr 85] (shF n) ρ P := by
  have hx := ht.2.1
  obtain ⟨hJ, hC, hK, hA, hT, hL⟩ := hr
  obtain ⟨j1, j2, j3⟩ := hK
  obtain ⟨s1, s2, s3, s4, c1, c2, c3, c4, c5⟩ := hj
  obtain ⟨J, eJ⟩ : ∃ J : Nat, gi σ 21 2 = (J : Int) := ⟨(gi σ 21 2).toNat, by omega⟩
  have hfin : ∀ ρ', FQ s4 ρ' → kR ρ ρ' → P 0 ρ' := fun ρ' f k => by
    rcases c5 with c | c
    · exact absurd c.1 f.1
    · exact hF ρ' (by rw [c.2]; exact f) k
  have hw0 : gi σ 21 2 < 5 → cnW (gi σ 21 2) 5 = 0 := fun q => by unfold cnW; rw [if_neg (by omega)]
  rw [eJ, Int.toNat_natCast] at c2
  rw [eJ] at j2
  have row1 : ∀ τ, TkM ρ τ → ∀ j, j < J → gi τ 97 (5 + j) = gi s1 29 j := fun τ t j q => by
    rw [t.1 97 _ (by omega), TkS_fr c1 29 j (by omega)]; exact (j3 j (by omega)).1
  refine v_kL (by intros; first | omega | exact hx | (unfold rg; omega) | exact (And.left (And.right (by assumption))) | (subst_vars; refine Mx_si ?_ (by omega); first | exact hx | exact (And.left (And.right (by assumption)))) | (subst_vars; simp only [E4, gi_ne (show (85 : Nat) ≠ 88 by decide), gi_ne (show (85 : Nat) ≠ 89 by decide), gi_ne (show (85 : Nat) ≠ 91 by decide), gi_ne (show (85 : Nat) ≠ 92 by decide), gi_ne (show (85 : Nat) ≠ 94 by decide), gi_ne (show (85 : Nat) ≠ 95 by decide), gi_ne (show (85 : Nat) ≠ 96 by decide), gi_ne (show (85 : Nat) ≠ 98 by decide), gi_ne (show (85 : Nat) ≠ 99 by decide), gi_ne (show (85 : Nat) ≠ 100 by decide)] at *; first | omega | (unfold rg; omega))) (by intros; first | omega | exact hx | (unfold rg; omega) | exact (And.left (And.right (by assumption))) | (subst_vars; refine Mx_si ?_ (by omega); first | exact hx | exact (And.left (And.right (by assumption)))) | (subst_vars; simp only [E4, gi_ne (show (85 : Nat) ≠ 88 by decide), gi_ne (show (85 : Nat) ≠ 89 by decide), gi_ne (show (85 : Nat) ≠ 91 by decide), gi_ne (show (85 : Nat) ≠ 92 by decide), gi_ne (show (85 : Nat) ≠ 94 by decide), gi_ne (show (85 : Nat) ≠ 95 by decide), gi_ne (show (85 : Nat) ≠ 96 by decide), gi_ne (show (85 : Nat) ≠ 98 by decide), gi_ne (show (85 : Nat) ≠ 99 by decide), gi_ne (show (85 : Nat) ≠ 100 by decide)] at *; first | omega | (unfold rg; omega))) (by intros; first | omega | exact hx | (unfold rg; omega) | exact (And.left (And.right (by assumption))) | (subst_vars; refine Mx_si ?_ (by omega); first | exact hx | exact (And.left (And.right (by assumption)))) | (subst_vars; simp only [E4, gi_ne (show (85 : Nat) ≠ 88 by decide), gi_ne (show (85 : Nat) ≠ 89 by decide), gi_ne (show (85 : Nat) ≠ 91 by decide), gi_ne (show (85 : Nat) ≠ 92 by decide), gi_ne (show (85 : Nat) ≠ 94 by decide), gi_ne (show (85 : Nat) ≠ 95 by decide), gi_ne (show (85 : Nat) ≠ 96 by decide), gi_ne (show (85 : Nat) ≠ 98 by decide), gi_ne (show (85 : Nat) ≠ 99 by decide), gi_ne (show (85 : Nat) ≠ 100 by decide)] at *; first | omega | (unfold rg; omega))) (by intros; first | omega | exact hx | (unfold rg; omega) | exact (And.left (And.right (by assumption))) | (subst_vars; refine Mx_si ?_ (by omega); first | exact hx | exact (And.left (And.right (by assumption)))) | (subst_vars; simp only [E4, gi_ne (show (85 : Nat) ≠ 88 by decide), gi_ne (show (85 : Nat) ≠ 89 by decide), gi_ne (show (85 : Nat) ≠ 91 by decide), gi_ne (show (85 : Nat) ≠ 92 by decide), gi_ne (show (85 : Nat) ≠ 94 by decide), gi_ne (show (85 : Nat) ≠ 95 by decide), gi_ne (show (85 : Nat) ≠ 96 by decide), gi_ne (show (85 : Nat) ≠ 98 by decide), gi_ne (show (85 : Nat) ≠ 99 by decide), gi_ne (show (85 : Nat) ≠ 100 by decide)] at *; first | omega | (unfold rg; omega))) (by intros; first | omega | exact hx | (unfold rg; omega) | exact (And.left (And.right (by assumption))) | (subst_vars; refine Mx_si ?_ (by omega); first | exact hx | exact (And.left (And.right (by assumption)))) | (subst_vars; simp only [E4, gi_ne (show (85 : Nat) ≠ 88 by decide), gi_ne (show (85 : Nat) ≠ 89 by decide), gi_ne (show (85 : Nat) ≠ 91 by decide), gi_ne (show (85 : Nat) ≠ 92 by decide), gi_ne (show (85 : Nat) ≠ 94 by decide), gi_ne (show (85 : Nat) ≠ 95 by decide), gi_ne (show (85 : Nat) ≠ 96 by decide), gi_ne (show (85 : Nat) ≠ 98 by decide), gi_ne (show (85 : Nat) ≠ 99 by decide), gi_ne (show (85 : Nat) ≠ 100 by decide)] at *; first | omega | (unfold rg; omega))) (by intros; first | omega | exact hx | (unfold rg; omega) | exact (And.left (And.right (by assumption))) | (subst_vars; refine Mx_si ?_ (by omega); first | exact hx | exact (And.left (And.right (by assumption)))) | (subst_vars; simp only [E4, gi_ne (show (85 : Nat) ≠ 88 by decide), gi_ne (show (85 : Nat) ≠ 89 by decide), gi_ne (show (85 : Nat) ≠ 91 by decide), gi_ne (show (85 : Nat) ≠ 92 by decide), gi_ne (show (85 : Nat) ≠ 94 by decide), gi_ne (show (85 : Nat) ≠ 95 by decide), gi_ne (show (85 : Nat) ≠ 96 by decide), gi_ne (show (85 : Nat) ≠ 98 by decide), gi_ne (show (85 : Nat) ≠ 99 by decide), gi_ne (show (85 : Nat) ≠ 100 by decide)] at *; first | omega | (unfold rg; omega))) (by intros; first | omega | exact hx | (unfold rg; omega) | exact (And.left (And.right (by assumption))) | (subst_vars; refine Mx_si ?_ (by omega); first | exact hx | exact (And.left (And.right (by assumption)))) | (subst_vars; simp only [E4, gi_ne (show (85 : Nat) ≠ 88 by decide), gi_ne (show (85 : Nat) ≠ 89 by decide), gi_ne (show (85 : Nat) ≠ 91 by decide), gi_ne (show (85 : Nat) ≠ 92 by decide), gi_ne (show (85 : Nat) ≠ 94 by decide), gi_ne (show (85 : Nat) ≠ 95 by decide), gi_ne (show (85 : Nat) ≠ 96 by decide), gi_ne (show (85 : Nat) ≠ 98 by decide), gi_ne (show (85 : Nat) ≠ 99 by decide), gi_ne (show (85 : Nat) ≠ 100 by decide)] at *; first | omega | (unfold rg; omega))) (by intros; first | omega | exact hx | (unfold rg; omega) | exact (And.left (And.right (by assumption))) | (subst_vars; refine Mx_si ?_ (by omega); first | exact hx | exact (And.left (And.right (by assumption)))) | (subst_vars; simp only [E4, gi_ne (show (85 : Nat) ≠ 88 by decide), gi_ne (show (85 : Nat) ≠ 89 by decide), gi_ne (show (85 : Nat) ≠ 91 by decide), gi_ne (show (85 : Nat) ≠ 92 by decide), gi_ne (show (85 : Nat) ≠ 94 by decide), gi_ne (show (85 : Nat) ≠ 95 by decide), gi_ne (show (85 : Nat) ≠ 96 by decide), gi_ne (show (85 : Nat) ≠ 98 by decide), gi_ne (show (85 : Nat) ≠ 99 by decide), gi_ne (show (85 : Nat) ≠ 100 by decide)] at *; first | omega | (unfold rg; omega))) ?_ ?_ ?_ ?_ ?_
  · rintro a r1 ⟨t1, -, e1⟩ v2 r2 ⟨t2, -, e2⟩ n2 x ex v3 r3 ⟨t3, -, e3⟩ n3 u1 eu1 v4 r4 ⟨t4, -, e4⟩ n4 u2 eu2 u3 eu3
    have g19 : (gi r1 85 19).toNat = J := by omega
    rw [g19] at t2
    have k1 := sy_tok ht (hw0 (by omega)) c1 t1
    obtain ⟨f2, k2⟩ := sy_new k1 (by omega) (row1 r1 t1) c2 t2
    obtain ⟨-, k2, q2⟩ := k2.resolve_left (by omega)
    obtain ⟨f3, k3⟩ := sy_num k2 (by omega) c3 t3
    obtain ⟨-, k3, q3⟩ := k3.resolve_left (by omega)
    have hx5 : x.toNat = 5 + J := by omega
    rw [hx5] at eu1 eu2
    have k3' : TQ s3 u1 := TQ_eq k3 (fun _ _ _ => rfl) (fun b i p => by rw [eu1, gi_si, if_neg (by omega)])
    obtain ⟨f4, k4⟩ := sy_num k3' (by omega) c4 t4
    obtain ⟨-, k4, q4⟩ := k4.resolve_left (by omega)
    have fr : ∀ b i, ¬ (b = 85 ∧ (i = 4 ∨ i = 5 ∨ (7 ≤ i ∧ i ≤ 11) ∨ i = 19)) → ¬ ((97 ≤ b ∧ b ≤ 99) ∧ i = 5 + J) → gi u3 b i = gi ρ b i := fun b i p q => by
      rw [eu3, gi_si, if_neg (by omega), eu2, gi_si, if_neg (by omega), f4 b i (by omega), eu1, gi_si, if_neg (by omega), f3 b i (by omega), f2 b i (by omega) (by omega), t1.1 b i (by omega)]
    have cf : ∀ b i, ¬ (b = 37 ∧ (8 ≤ i ∧ i ≤ 13)) → gi s4 b i = gi σ b i := fun b i p => by
      rw [TkS_fr c4 b i p, TkS_fr c3 b i p, TkS_fr c2 b i p, TkS_fr c1 b i p]
    rcases c5 with ⟨z1, z2, z3⟩ | ⟨z1, z3⟩
    · rw [eJ, Int.toNat_natCast] at z3
      have cs : ∀ b i, ¬ (b = 37 ∧ (8 ≤ i ∧ i ≤ 13)) → ¬ (b = 21 ∧ i = 2) → ¬ ((29 ≤ b ∧ b ≤ 31) ∧ i = J) → gi s b i = gi σ b i := fun b i p q r => by
        rw [z3, gi_si, if_neg (by omega), gi_si, if_neg (by omega), gi_si, if_neg (by omega), gi_si, if_neg (by omega)]; exact cf b i p
      have s21 : gi s 21 2 = (J : Int) + 1 := by rw [z3, gi_hit, cf 21 2 (by omega), eJ]
      have a29 : gi s 29 J = gi s1 37 11 := by rw [z3, gi_si, if_neg (by omega), gi_si, if_neg (by omega), gi_si, if_neg (by omega), gi_hit]
      have a30 : gi s 30 J = gi s2 37 11 := by rw [z3, gi_si, if_neg (by omega), gi_si, if_neg (by omega), gi_hit]
      have a31 : gi s 31 J = gi s3 37 11 := by rw [z3, gi_si, if_neg (by omega), gi_hit]
      have b19 : gi u3 85 19 = (J : Int) + 1 := by
        have e5 : gi u1 85 19 = gi r3 85 19 := by rw [eu1, gi_si, if_neg (by omega)]
        rw [eu3, gi_hit]; omega
      have b97 : gi u3 97 (5 + J) = gi s1 37 11 := by rw [eu3, gi_si, if_neg (by omega), eu2, gi_si, if_neg (by omega), f4 97 _ (by omega), eu1, gi_si, if_neg (by omega), f3 97 _ (by omega)]; exact q2
      have b98 : gi u3 98 (5 + J) = gi s2 37 11 := by rw [eu3, gi_si, if_neg (by omega), eu2, gi_si, if_neg (by omega), f4 98 _ (by omega), eu1, gi_hit]; exact q3.1
      have b99 : gi u3 99 (5 + J) = gi s3 37 11 := by rw [eu3, gi_si, if_neg (by omega), eu2, gi_hit]; exact q4.1
      refine hO u3 (TQ_eq k4 (fun b i p => ?_) (fun b i p => ?_)) ⟨RJ_eq hJ (fun b i p => cs b i (by omega) (by omega) (by omega)) (fun b i p => fr b i (by omega) (by omega)), RC_eq hC (fun b i p => cs b i (by omega) (by omega) (by omega)) (Int.le_of_eq (cs 21 0 (by omega) (by omega) (by omega)).symm) (fun b i p => fr b i (by omega) (by omega)), ⟨by omega, by rw [b19, s21], fun j hj => ?_⟩, RA_eq hA (fun b i p => cs b i (by omega) (by omega) (by omega)) (fun b i p => fr b i (by omega) (by omega)), RT_eq hT (fun b i p => cs b i (by omega) (by omega) (by omega)) (fun b i p => fr b i (by omega) (by omega)), RLw_eq hL (fun b i p => cs b i (by omega) (by omega) (by omega)) (fun b i p => fr b i (by omega) (by omega))⟩ (fun b i p => fr b i (by unfold chM at p; omega) (by unfold chM at p; omega))
      · rw [z3, gi_si, if_neg (by omega), gi_si, if_neg (by omega), gi_si, if_neg (by omega), gi_si, if_neg (by omega)]
      · rw [eu3, gi_si, if_neg (by omega), eu2, gi_si, if_neg (by omega)]
      · by_cases y : j = J
        · subst y
          rw [b97, b98, b99, a29, a30, a31]
          exact ⟨rfl, rfl, rfl, q3.2, q4.2⟩
        · rw [fr 97 _ (by omega) (by omega), fr 98 _ (by omega) (by omega), fr 99 _ (by omega) (by omega), cs 29 j (by omega) (by omega) (by omega), cs 30 j (by omega) (by omega) (by omega), cs 31 j (by omega) (by omega) (by omega)]
          exact j3 j (by omega)
    · have := k4.2.2.2.2.2.2.2.1
      omega
  · rintro a r1 ⟨t1, -, e1⟩ v2 r2 ⟨t2, -, e2⟩ n2 x ex v3 r3 ⟨t3, -, e3⟩ n3 u1 eu1 v4 r4 ⟨t4, -, e4⟩ n4
    have g19 : (gi r1 85 19).toNat = J := by omega
    rw [g19] at t2
    have k1 := sy_tok ht (hw0 (by omega)) c1 t1
    obtain ⟨f2, k2⟩ := sy_new k1 (by omega) (row1 r1 t1) c2 t2
    obtain ⟨-, k2, q2⟩ := k2.resolve_left (by omega)
    obtain ⟨f3, k3⟩ := sy_num k2 (by omega) c3 t3
    obtain ⟨-, k3, q3⟩ := k3.resolve_left (by omega)
    have hx5 : x.toNat = 5 + J := by omega
    rw [hx5] at eu1
    have k3' : TQ s3 u1 := TQ_eq k3 (fun _ _ _ => rfl) (fun b i p => by rw [eu1, gi_si, if_neg (by omega)])
    obtain ⟨f4, k4⟩ := sy_num k3' (by omega) c4 t4
    obtain ⟨-, k4⟩ := k4.resolve_right (by omega)
    refine hfin _ k4 (kR_tr (kR_fr t1.1) (kR_tr (fun b i p => f2 b i (by unfold chM at p; omega) (by unfold chM at p; omega)) (kR_tr (kR_f f3) (kR_tr (by rw [eu1]; exact kR_si (by unfold chM; omega)) (kR_f f4)))))
  · rintro a r1 ⟨t1, -, e1⟩ v2 r2 ⟨t2, -, e2⟩ n2 x ex v3 r3 ⟨t3, -, e3⟩ n3
    have g19 : (gi r1 85 19).toNat = J := by omega
    rw [g19] at t2
    have k1 := sy_tok ht (hw0 (by omega)) c1 t1
    obtain ⟨f2, k2⟩ := sy_new k1 (by omega) (row1 r1 t1) c2 t2
    obtain ⟨-, k2, q2⟩ := k2.resolve_left (by omega)
    obtain ⟨f3, k3⟩ := sy_num k2 (by omega) c3 t3
    obtain ⟨-, k3⟩ := k3.resolve_right (by omega)
    exact hfin _ (FQ_keep k3 c4) (kR_tr (kR_fr t1.1) (kR_tr (fun b i p => f2 b i (by unfold chM at p; omega) (by unfold chM at p; omega)) (kR_f f3)))
  · rintro a r1 ⟨t1, -, e1⟩ v2 r2 ⟨t2, -, e2⟩ n2
    have g19 : (gi r1 85 19).toNat = J := by omega
    rw [g19] at t2
    have k1 := sy_tok ht (hw0 (by omega)) c1 t1
    obtain ⟨f2, k2⟩ := sy_new k1 (by omega) (row1 r1 t1) c2 t2
    obtain ⟨-, k2⟩ := k2.resolve_right (by omega)
    exact hfin _ (FQ_keep (FQ_keep k2 c3) c4) (kR_tr (kR_fr t1.1) (fun b i p => f2 b i (by unfold chM at p; omega) (by unfold chM at p; omega)))
  · intro a t et t' et'
    subst et et'
    have hw : cnW (gi σ 21 2) 5 = 2 := by unfold cnW; rw [if_pos (by omega)]
    rw [hw] at c1
    exact hfin _ (FQ_keep (FQ_keep (FQ_keep (FQ_wr ht (by omega) c1) c2) c3) c4) (kR_f f85_wr)
theorem v_dL {n : Nat}   {σ : Mm} {P : Int → Mm → Prop} (o1 : (gi σ 85 20) ≠ (8 : Int) → Mx σ) (o2 : (gi σ 85 20) ≠ (8 : Int) → ∀ s3 : Mm, TkM σ s3 ∧ Mx s3 ∧ E4 σ s3 → Mx s3) (o3 : (gi σ 85 20) ≠ (8 : Int) → ∀ s3 : Mm, TkM σ s3 ∧ Mx s3 ∧ E4 σ s3 → ∀ (v5 : Int) (s6 : Mm), NuR (9 : Int) s3 v5 s6 ∧ Mx s6 ∧ E4 s3 s6 → v5 ≠ (0 : Int) → rg ((8 : Int) + (gi s6 85 20))) (o4 : (gi σ 85 20) ≠ (8 : Int) → ∀ s3 : Mm, TkM σ s3 ∧ Mx s3 ∧ E4 σ s3 → ∀ (v5 : Int) (s6 : Mm), NuR (9 : Int) s3 v5 s6 ∧ Mx s6 ∧ E4 s3 s6 → v5 ≠ (0 : Int) → (0 ≤ ((8 : Int) + (gi s6 85 20)) ∧ ((8 : Int) + (gi s6 85 20)) < 16)) (o5 : (gi σ 85 20) ≠ (8 : Int) → ∀ s3 : Mm, TkM σ s3 ∧ Mx s3 ∧ E4 σ s3 → ∀ (v5 : Int) (s6 : Mm), NuR (9 : Int) s3 v5 s6 ∧ Mx s6 ∧ E4 s3 s6 → v5 ≠ (0 : Int) → ∀ t11 : Mm, t11 = si s6 100 ((8 : Int) + (gi s6 85 20)).toNat (gi s6 85 11) → rg ((gi s6 85 20) + 1)) (l1 : (gi σ 85 20) ≠ (8 : Int) → ∀ s3 : Mm, TkM σ s3 ∧ Mx s3 ∧ E4 σ s3 → ∀ (v5 : Int) (s6 : Mm), NuR (9 : Int) s3 v5 s6 ∧ Mx s6 ∧ E4 s3 s6 → v5 ≠ (0 : Int) → ∀ t11 : Mm, t11 = si s6 100 ((8 : Int) + (gi s6 85 20)).toNat (gi s6 85 11) → ∀ t13 : Mm, t13 = si t11 85 20 ((gi s6 85 20) + 1) → P 1 t13) (l2 : (gi σ 85 20) ≠ (8 : Int) → ∀ s3 : Mm, TkM σ s3 ∧ Mx s3 ∧ E4 σ s3 → ∀ (v5 : Int) (s6 : Mm), NuR (9 : Int) s3 v5 s6 ∧ Mx s6 ∧ E4 s3 s6 → v5 = (0 : Int) → P 0 s6) (l3 : (gi σ 85 20) = (8 : Int) → ∀ t14 : Mm, t14 = si σ 85 4 (2 : Int) → ∀ t15 : Mm, t15 = si t14 85 5 (gi σ 85 10) → P 0 t15) : Ci 177 [vr 85] (shF n) σ P :=
  show R 177 0 [some (vr 85)] [] (shF n) 0 0 σ (Qi (shF n) P) from wpK_R 28 [] (And.intro (fun q1 => (c_tkm2  (o1 q1) (fun s3 h4 => (c_num2  (o2 q1 s3 h4) (fun v5 s6 h7 => And.intro (fun q8 => (have k9 := (o3 q1 s3 h4 v5 s6 h7 q8); And.intro k9 ((have k10 := (o4 q1 s3 h4 v5 s6 h7 q8); And.intro k10 ((have k12 := (o5 q1 s3 h4 v5 s6 h7 q8 _ rfl); And.intro k12 (And.intro ret0 (And.intro (Or.inr rfl) ⟨rfl, _, rfl, (l1 q1 s3 h4 v5 s6 h7 q8 _ rfl _ rfl)⟩)))))))) (fun q8 => And.intro ret0 (And.intro (Or.inl rfl) ⟨rfl, _, rfl, (l2 q1 s3 h4 v5 s6 h7 (Classical.not_not.mp q8))⟩))))))) (fun q1 => (show R 159 0 [some (vr 85), some (vi 2)] [] (shF n) 0 0 _ _ from wpK_R 9 [] (And.intro ret0 (And.intro (Or.inl rfl) ⟨rfl, _, rfl, And.intro ret0 (And.intro (Or.inl rfl) ⟨rfl, _, rfl, (l3 (Classical.not_not.mp q1) _ rfl _ rfl)⟩)⟩)))))
theorem r_damp {n : Nat} {σ s ρ : Mm} {P : Int → Mm → Prop} (ht : TQ σ ρ) (hr : RD σ ρ) (hj : DlC σ s) (hF : ∀ ρ', FQ s ρ' → kR ρ ρ' → P 0 ρ') (hO : ∀ ρ', TQ s ρ' → RD s ρ' → kR ρ ρ' → P 1 ρ') : Ci 177 [vr 85] (shF n) ρ P := by
  have hx := ht.2.1
  obtain ⟨hJ, hC, hK, hA, hT, hL⟩ := hr
  obtain ⟨j1, j2, j3⟩ := hA
  obtain ⟨s1, s2, c1, c2, c5⟩ := hj
  obtain ⟨J, eJ⟩ : ∃ J : Nat, gi σ 21 3 = (J : Int) := ⟨(gi σ 21 3).toNat, by omega⟩
  have hfin : ∀ ρ', FQ s2 ρ' → kR ρ ρ' → P 0 ρ' := fun ρ' f k => by
    rcases c5 with c | c
    · exact absurd c.1 f.1
    · exact hF ρ' (by rw [c.2]; exact f) k
  have hw0 : gi σ 21 3 < 8 → cnW (gi σ 21 3) 8 = 0 := fun q => by unfold cnW; rw [if_neg (by omega)]
  rw [eJ] at j2
  refine v_dL (by intros; first | omega | exact hx | (unfold rg; omega) | exact (And.left (And.right (by assumption))) | (subst_vars; refine Mx_si ?_ (by omega); first | exact hx | exact (And.left (And.right (by assumption)))) | (subst_vars; simp only [E4, gi_ne (show (85 : Nat) ≠ 88 by decide), gi_ne (show (85 : Nat) ≠ 89 by decide), gi_ne (show (85 : Nat) ≠ 91 by decide), gi_ne (show (85 : Nat) ≠ 92 by decide), gi_ne (show (85 : Nat) ≠ 94 by decide), gi_ne (show (85 : Nat) ≠ 95 by decide), gi_ne (show (85 : Nat) ≠ 96 by decide), gi_ne (show (85 : Nat) ≠ 98 by decide), gi_ne (show (85 : Nat) ≠ 99 by decide), gi_ne (show (85 : Nat) ≠ 100 by decide)] at *; first | omega | (unfold rg; omega))) (by intros; first | omega | exact hx | (unfold rg; omega) | exact (And.left (And.right (by assumption))) | (subst_vars; refine Mx_si ?_ (by omega); first | exact hx | exact (And.left (And.right (by assumption)))) | (subst_vars; simp only [E4, gi_ne (show (85 : Nat) ≠ 88 by decide), gi_ne (show (85 : Nat) ≠ 89 by decide), gi_ne (show (85 : Nat) ≠ 91 by decide), gi_ne (show (85 : Nat) ≠ 92 by decide), gi_ne (show (85 : Nat) ≠ 94 by decide), gi_ne (show (85 : Nat) ≠ 95 by decide), gi_ne (show (85 : Nat) ≠ 96 by decide), gi_ne (show (85 : Nat) ≠ 98 by decide), gi_ne (show (85 : Nat) ≠ 99 by decide), gi_ne (show (85 : Nat) ≠ 100 by decide)] at *; first | omega | (unfold rg; omega))) (by intros; first | omega | exact hx | (unfold rg; omega) | exact (And.left (And.right (by assumption))) | (subst_vars; refine Mx_si ?_ (by omega); first | exact hx | exact (And.left (And.right (by assumption)))) | (subst_vars; simp only [E4, gi_ne (show (85 : Nat) ≠ 88 by decide), gi_ne (show (85 : Nat) ≠ 89 by decide), gi_ne (show (85 : Nat) ≠ 91 by decide), gi_ne (show (85 : Nat) ≠ 92 by decide), gi_ne (show (85 : Nat) ≠ 94 by decide), gi_ne (show (85 : Nat) ≠ 95 by decide), gi_ne (show (85 : Nat) ≠ 96 by decide), gi_ne (show (85 : Nat) ≠ 98 by decide), gi_ne (show (85 : Nat) ≠ 99 by decide), gi_ne (show (85 : Nat) ≠ 100 by decide)] at *; first | omega | (unfold rg; omega))) (by intros; first | omega | exact hx | (unfold rg; omega) | exact (And.left (And.right (by assumption))) | (subst_vars; refine Mx_si ?_ (by omega); first | exact hx | exact (And.left (And.right (by assumption)))) | (subst_vars; simp only [E4, gi_ne (show (85 : Nat) ≠ 88 by decide), gi_ne (show (85 : Nat) ≠ 89 by decide), gi_ne (show (85 : Nat) ≠ 91 by decide), gi_ne (show (85 : Nat) ≠ 92 by decide), gi_ne (show (85 : Nat) ≠ 94 by decide), gi_ne (show (85 : Nat) ≠ 95 by decide), gi_ne (show (85 : Nat) ≠ 96 by decide), gi_ne (show (85 : Nat) ≠ 98 by decide), gi_ne (show (85 : Nat) ≠ 99 by decide), gi_ne (show (85 : Nat) ≠ 100 by decide)] at *; first | omega | (unfold rg; omega))) (by intros; first | omega | exact hx | (unfold rg; omega) | exact (And.left (And.right (by assumption))) | (subst_vars; refine Mx_si ?_ (by omega); first | exact hx | exact (And.left (And.right (by assumption)))) | (subst_vars; simp only [E4, gi_ne (show (85 : Nat) ≠ 88 by decide), gi_ne (show (85 : Nat) ≠ 89 by decide), gi_ne (show (85 : Nat) ≠ 91 by decide), gi_ne (show (85 : Nat) ≠ 92 by decide), gi_ne (show (85 : Nat) ≠ 94 by decide), gi_ne (show (85 : Nat) ≠ 95 by decide), gi_ne (show (85 : Nat) ≠ 96 by decide), gi_ne (show (85 : Nat) ≠ 98 by decide), gi_ne (show (85 : Nat) ≠ 99 by decide), gi_ne (show (85 : Nat) ≠ 100 by decide)] at *; first | omega | (unfold rg; omega))) ?_ ?_ ?_
  · rintro a r1 ⟨t1, -, e1⟩ v2 r2 ⟨t2, -, e2⟩ n2 u2 eu2 u3 eu3
    have k1 := sy_tok ht (hw0 (by omega)) c1 t1
    obtain ⟨f2, k2⟩ := sy_num k1 (by omega) c2 t2
    obtain ⟨-, k2, q2⟩ := k2.resolve_left (by omega)
    have hx5 : ((8 : Int) + gi r2 85 20).toNat = 8 + J := by omega
    rw [hx5] at eu2
    have fr : ∀ b i, ¬ (b = 85 ∧ (i = 4 ∨ i = 5 ∨ (7 ≤ i ∧ i ≤ 11) ∨ i = 20)) → ¬ (b = 100 ∧ i = 8 + J) → gi u3 b i = gi ρ b i := fun b i p q => by
      rw [eu3, gi_si, if_neg (by omega), eu2, gi_si, if_neg (by omega), f2 b i (by omega), t1.1 b i (by omega)]
    have cf : ∀ b i, ¬ (b = 37 ∧ (8 ≤ i ∧ i ≤ 13)) → gi s2 b i = gi σ b i := fun b i p => by
      rw [TkS_fr c2 b i p, TkS_fr c1 b i p]
    rcases c5 with ⟨z1, z2, z3⟩ | ⟨z1, z3⟩
    · rw [eJ, Int.toNat_natCast] at z3
      have cs : ∀ b i, ¬ (b = 37 ∧ (8 ≤ i ∧ i ≤ 13)) → ¬ (b = 21 ∧ i = 3) → ¬ (b = 32 ∧ i = J) → gi s b i = gi σ b i := fun b i p q r => by
        rw [z3, gi_si, if_neg (by omega), gi_si, if_neg (by omega)]; exact cf b i p
      have s21 : gi s 21 3 = (J : Int) + 1 := by rw [z3, gi_hit, cf 21 3 (by omega), eJ]
      have a32 : gi s 32 J = gi s1 37 11 := by rw [z3, gi_si, if_neg (by omega), gi_hit]
      have b20 : gi u3 85 20 = (J : Int) + 1 := by rw [eu3, gi_hit]; omega
      have b100 : gi u3 100 (8 + J) = gi s1 37 11 := by rw [eu3, gi_si, if_neg (by omega), eu2, gi_hit]; exact q2.1
      refine hO u3 (TQ_eq k2 (fun b i p => ?_) (fun b i p => ?_)) ⟨RJ_eq hJ (fun b i p => cs b i (by omega) (by omega) (by omega)) (fun b i p => fr b i (by omega) (by omega)), RC_eq hC (fun b i p => cs b i (by omega) (by omega) (by omega)) (Int.le_of_eq (cs 21 0 (by omega) (by omega) (by omega)).symm) (fun b i p => fr b i (by omega) (by omega)), RK_eq hK (fun b i p => cs b i (by omega) (by omega) (by omega)) (fun b i p => fr b i (by omega) (by omega)), ⟨by omega, by rw [b20, s21], fun j hj => ?_⟩, RT_eq hT (fun b i p => cs b i (by omega) (by omega) (by omega)) (fun b i p => fr b i (by omega) (by omega)), RLw_eq hL (fun b i p => cs b i (by omega) (by omega) (by omega)) (fun b i p => fr b i (by omega) (by omega))⟩ (fun b i p => fr b i (by unfold chM at p; omega) (by unfold chM at p; omega))
      · rw [z3, gi_si, if_neg (by omega), gi_si, if_neg (by omega)]
      · rw [eu3, gi_si, if_neg (by omega), eu2, gi_si, if_neg (by omega)]
      · by_cases y : j = J
        · subst y
          rw [b100, a32]
          exact ⟨rfl, q2.2⟩
        · rw [fr 100 _ (by omega) (by omega), cs 32 j (by omega) (by omega) (by omega)]
          exact j3 j (by omega)
    · have := k2.2.2.2.2.2.2.2.1
      omega
  · rintro a r1 ⟨t1, -, e1⟩ v2 r2 ⟨t2, -, e2⟩ n2
    have k1 := sy_tok ht (hw0 (by omega)) c1 t1
    obtain ⟨f2, k2⟩ := sy_num k1 (by omega) c2 t2
    obtain ⟨-, k2⟩ := k2.resolve_right (by omega)
    exact hfin _ k2 (kR_tr (kR_fr t1.1) (kR_f f2))
  · intro a t et t' et'
    subst et et'
    have hw : cnW (gi σ 21 3) 8 = 2 := by unfold cnW; rw [if_pos (by omega)]
    rw [hw] at c1
    exact hfin _ (FQ_keep (FQ_wr ht (by omega) c1) c2) (kR_f f85_wr)
theorem v_bL {n : Nat}   {σ : Mm} {P : Int → Mm → Prop} (o1 : (gi σ 88 0) = (0 : Int) → ∀ t2 : Mm, t2 = si σ 88 0 (1 : Int) → Mx t2) (o2 : (gi σ 88 0) = (0 : Int) → ∀ t2 : Mm, t2 = si σ 88 0 (1 : Int) → ∀ s4 : Mm, TkM t2 s4 ∧ Mx s4 ∧ E4 t2 s4 → Mx s4) (l1 : (gi σ 88 0) = (0 : Int) → ∀ t2 : Mm, t2 = si σ 88 0 (1 : Int) → ∀ s4 : Mm, TkM t2 s4 ∧ Mx s4 ∧ E4 t2 s4 → ∀ (v6 : Int) (s7 : Mm), NuR (9 : Int) s4 v6 s7 ∧ Mx s7 ∧ E4 s4 s7 → v6 ≠ (0 : Int) → ∀ t10 : Mm, t10 = si s7 89 1 (gi s7 85 11) → P 1 t10) (l2 : (gi σ 88 0) = (0 : Int) → ∀ t2 : Mm, t2 = si σ 88 0 (1 : Int) → ∀ s4 : Mm, TkM t2 s4 ∧ Mx s4 ∧ E4 t2 s4 → ∀ (v6 : Int) (s7 : Mm), NuR (9 : Int) s4 v6 s7 ∧ Mx s7 ∧ E4 s4 s7 → v6 = (0 : Int) → P 0 s7) (l3 : (gi σ 88 0) ≠ (0 : Int) → ∀ t11 : Mm, t11 = si σ 85 4 (3 : Int) → ∀ t12 : Mm, t12 = si t11 85 5 (gi σ 85 10) → P 0 t12) : Ci 178 [vr 85] (shF n) σ P :=
  show R 178 0 [some (vr 85)] [] (shF n) 0 0 σ (Qi (shF n) P) from wpK_R 25 [] (And.intro (by decide) (And.intro (fun q1 => And.intro (by decide) (And.intro (Or.inr rfl) ((c_tkm2  (o1 q1 _ rfl) (fun s4 h5 => (c_num2  (o2 q1 _ rfl s4 h5) (fun v6 s7 h8 => And.intro (fun q9 => And.intro (by decide) (And.intro ret0 (And.intro (Or.inr rfl) ⟨rfl, _, rfl, (l1 q1 _ rfl s4 h5 v6 s7 h8 q9 _ rfl)⟩))) (fun q9 => And.intro ret0 (And.intro (Or.inl rfl) ⟨rfl, _, rfl, (l2 q1 _ rfl s4 h5 v6 s7 h8 (Classical.not_not.mp q9))⟩))))))))) (fun q1 => (show R 159 0 [some (vr 85), some (vi 3)] [] (shF n) 0 0 _ _ from wpK_R 9 [] (And.intro ret0 (And.intro (Or.inl rfl) ⟨rfl, _, rfl, And.intro ret0 (And.intro (Or.inl rfl) ⟨rfl, _, rfl, (l3 q1 _ rfl _ rfl)⟩)⟩))))))
theorem r_beat {n : Nat} {σ s ρ : Mm} {P : Int → Mm → Prop} (ht : TQ σ ρ) (hr : RD σ ρ) (hj : BlC σ s) (hF : ∀ ρ', FQ s ρ' → kR ρ ρ' → P 0 ρ') (hO : ∀ ρ', TQ s ρ' → RD s ρ' → kR ρ ρ' → P 1 ρ') : Ci 178 [vr 85] (shF n) ρ P := by
  have hx := ht.2.1
  obtain ⟨hJ, hC, hK, hA, hT, hL⟩ := hr
  obtain ⟨j1, j2, j3, j4⟩ := hT
  obtain ⟨s1, s2, c1, c2, c5⟩ := hj
  have hfin : ∀ ρ', FQ s2 ρ' → kR ρ ρ' → P 0 ρ' := fun ρ' f k => by
    rcases c5 with c | c
    · exact absurd c.1 f.1
    · exact hF ρ' (by rw [c.2]; exact f) k
  have hw0 : gi σ 21 6 = 0 → fuW (gi σ 21 6) 3 = 0 := fun q => by unfold fuW; rw [if_pos q]
  refine v_bL (by intros; first | omega | exact hx | (unfold rg; omega) | exact (And.left (And.right (by assumption))) | (subst_vars; refine Mx_si ?_ (by omega); first | exact hx | exact (And.left (And.right (by assumption)))) | (subst_vars; simp only [E4, gi_ne (show (85 : Nat) ≠ 88 by decide), gi_ne (show (85 : Nat) ≠ 89 by decide), gi_ne (show (85 : Nat) ≠ 91 by decide), gi_ne (show (85 : Nat) ≠ 92 by decide), gi_ne (show (85 : Nat) ≠ 94 by decide), gi_ne (show (85 : Nat) ≠ 95 by decide), gi_ne (show (85 : Nat) ≠ 96 by decide), gi_ne (show (85 : Nat) ≠ 98 by decide), gi_ne (show (85 : Nat) ≠ 99 by decide), gi_ne (show (85 : Nat) ≠ 100 by decide)] at *; first | omega | (unfold rg; omega))) (by intros; first | omega | exact hx | (unfold rg; omega) | exact (And.left (And.right (by assumption))) | (subst_vars; refine Mx_si ?_ (by omega); first | exact hx | exact (And.left (And.right (by assumption)))) | (subst_vars; simp only [E4, gi_ne (show (85 : Nat) ≠ 88 by decide), gi_ne (show (85 : Nat) ≠ 89 by decide), gi_ne (show (85 : Nat) ≠ 91 by decide), gi_ne (show (85 : Nat) ≠ 92 by decide), gi_ne (show (85 : Nat) ≠ 94 by decide), gi_ne (show (85 : Nat) ≠ 95 by decide), gi_ne (show (85 : Nat) ≠ 96 by decide), gi_ne (show (85 : Nat) ≠ 98 by decide), gi_ne (show (85 : Nat) ≠ 99 by decide), gi_ne (show (85 : Nat) ≠ 100 by decide)] at *; first | omega | (unfold rg; omega))) ?_ ?_ ?_
  · rintro a u1 eu1 r1 ⟨t1, -, e1⟩ v2 r2 ⟨t2, -, e2⟩ n2 u3 eu3
    have k0 : TQ σ u1 := TQ_eq ht (fun _ _ _ => rfl) (fun b i p => by rw [eu1, gi_si, if_neg (by omega)])
    have k1 := sy_tok k0 (hw0 (by omega)) c1 t1
    obtain ⟨f2, k2⟩ := sy_num k1 (by omega) c2 t2
    obtain ⟨-, k2, q2⟩ := k2.resolve_left (by omega)
    have fr : ∀ b i, ¬ (b = 85 ∧ (i = 4 ∨ i = 5 ∨ (7 ≤ i ∧ i ≤ 11))) → ¬ (b = 88 ∧ i = 0) → ¬ (b = 89 ∧ i = 1) → gi u3 b i = gi ρ b i := fun b i p q r => by
      rw [eu3, gi_si, if_neg (by omega), f2 b i (by omega), t1.1 b i (by omega), eu1, gi_si, if_neg (by omega)]
    have cf : ∀ b i, ¬ (b = 37 ∧ (8 ≤ i ∧ i ≤ 13)) → gi s2 b i = gi σ b i := fun b i p => by
      rw [TkS_fr c2 b i p, TkS_fr c1 b i p]
    rcases c5 with ⟨z1, z3⟩ | ⟨z1, z3⟩
    · have cs : ∀ b i, ¬ (b = 37 ∧ (8 ≤ i ∧ i ≤ 13)) → ¬ (b = 21 ∧ (i = 5 ∨ i = 6)) → gi s b i = gi σ b i := fun b i p q => by
        rw [z3, gi_si, if_neg (by omega), gi_si, if_neg (by omega)]; exact cf b i p
      have s5 : gi s 21 5 = gi s1 37 11 := by rw [z3, gi_si, if_neg (by omega), gi_hit]
      have s6 : gi s 21 6 = 1 := by rw [z3, gi_hit]
      have b89 : gi u3 89 1 = gi s1 37 11 := by rw [eu3, gi_hit]; exact q2.1
      have b88 : gi u3 88 0 = 1 := by rw [eu3, gi_si, if_neg (by omega), f2 88 _ (by omega), t1.1 88 _ (by omega), eu1, gi_hit]
      refine hO u3 (TQ_eq k2 (fun b i p => ?_) (fun b i p => ?_)) ⟨RJ_eq hJ (fun b i p => cs b i (by omega) (by omega)) (fun b i p => fr b i (by omega) (by omega) (by omega)), RC_eq hC (fun b i p => cs b i (by omega) (by omega)) (Int.le_of_eq (cs 21 0 (by omega) (by omega)).symm) (fun b i p => fr b i (by omega) (by omega) (by omega)), RK_eq hK (fun b i p => cs b i (by omega) (by omega)) (fun b i p => fr b i (by omega) (by omega) (by omega)), RA_eq hA (fun b i p => cs b i (by omega) (by omega)) (fun b i p => fr b i (by omega) (by omega) (by omega)), ⟨by omega, by rw [b89, s5], Or.inr s6, by rw [b88, s6]⟩, RLw_eq hL (fun b i p => cs b i (by omega) (by omega)) (fun b i p => fr b i (by omega) (by omega) (by omega))⟩ (fun b i p => fr b i (by unfold chM at p; omega) (by unfold chM at p; omega) (by unfold chM at p; omega))
      · rw [z3, gi_si, if_neg (by omega), gi_si, if_neg (by omega)]
      · rw [eu3, gi_si, if_neg (by omega)]
    · have := k2.2.2.2.2.2.2.2.1
      omega
  · rintro a u1 eu1 r1 ⟨t1, -, e1⟩ v2 r2 ⟨t2, -, e2⟩ n2
    have k0 : TQ σ u1 := TQ_eq ht (fun _ _ _ => rfl) (fun b i p => by rw [eu1, gi_si, if_neg (by omega)])
    have k1 := sy_tok k0 (hw0 (by omega)) c1 t1
    obtain ⟨f2, k2⟩ := sy_num k1 (by omega) c2 t2
    obtain ⟨-, k2⟩ := k2.resolve_right (by omega)
    exact hfin _ k2 (kR_tr (by rw [eu1]; exact kR_si (by unfold chM; omega)) (kR_tr (kR_fr t1.1) (kR_f f2)))
  · intro a t et t' et'
    subst et et'
    have hw : fuW (gi σ 21 6) 3 = 3 := by unfold fuW; rw [if_neg (by omega)]
    rw [hw] at c1
    exact hfin _ (FQ_keep (FQ_wr ht (by omega) c1) c2) (kR_f f85_wr)
