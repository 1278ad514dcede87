/-! TEXT: the reference reads a line -/
theorem RD_fr {t u ρ ρ' : Mm} (h : RD t ρ) (c : ∀ a i, ¬ (a = 37 ∧ (8 ≤ i ∧ i ≤ 13)) → ¬ (a = 21 ∧ i = 4) → gi u a i = gi t a i) (d : ∀ a i, ¬ (a = 85 ∧ (4 ≤ i ∧ i ≤ 11)) → gi ρ' a i = gi ρ a i) : RD u ρ' := by
  obtain ⟨hJ, hC, hK, hA, hT, hL⟩ := h
  exact ⟨RJ_eq hJ (fun b i p => c b i (by omega) (by omega)) (fun b i p => d b i (by omega)), RC_eq hC (fun b i p => c b i (by omega) (by omega)) (Int.le_of_eq (c 21 0 (by omega) (by omega)).symm) (fun b i p => d b i (by omega)), RK_eq hK (fun b i p => c b i (by omega) (by omega)) (fun b i p => d b i (by omega)), RA_eq hA (fun b i p => c b i (by omega) (by omega)) (fun b i p => d b i (by omega)), RT_eq hT (fun b i p => c b i (by omega) (by omega)) (fun b i p => d b i (by omega)), RLw_eq hL (fun b i p => c b i (by omega) (by omega)) (fun b i p => d b i (by omega))⟩
theorem FQ_rf {w : Int} {σ ρ : Mm} (h : TQ σ ρ) (hw : w ≠ 0) : FQ (rfM σ w) (wrM ρ w) := by
  have h10 := h.2.2.2.2.2.1
  refine ⟨by rw [rfM_12]; exact hw, ?_, ?_⟩
  · rw [rfM_12]; unfold wrM; rw [gi_si, if_neg (by omega), gi_hit]
  · unfold wrM rfM; rw [gi_hit, gi_hit]; exact h10
theorem kw_c {σ ρ : Mm} (h : TQ σ ρ) : (gi ρ 85 8 = 1 ∧ gi σ 37 10 = 1 ∧ 0 ≤ gi σ 37 11 ∧ ((gi σ 37 11 < 9 ∧ gi ρ 85 9 = gi σ 37 11) ∨ (9 ≤ gi σ 37 11 ∧ 9 ≤ gi ρ 85 9))) ∨ (gi ρ 85 8 ≠ 1 ∧ gi σ 37 10 ≠ 1) := by
  have t := h.2.2.2.2.2.2.1
  unfold TRl at t
  rcases t with t | ⟨t1, t2, t3, t4, t5⟩ | t | t | t | t | t
  · exact Or.inr (by omega)
  · refine Or.inl ⟨t2, t1, t3, ?_⟩
    rw [t5]; unfold swI
    by_cases q : gi σ 37 11 = 9
    · rw [if_pos q]; omega
    · rw [if_neg q]
      by_cases q' : gi σ 37 11 = 10
      · rw [if_pos q']; omega
      · rw [if_neg q']; omega
  · exact Or.inr (by omega)
  · exact Or.inr (by omega)
  · exact Or.inr (by omega)
  · exact Or.inr (by omega)
  · exact Or.inr (by omega)
theorem st_c {σ ρ : Mm} (h : TQ σ ρ) : (isSg ρ 59 ≠ 0 ∧ stW (gi σ 37 10) (gi σ 37 11) = 0) ∨ (isSg ρ 59 = 0 ∧ stW (gi σ 37 10) (gi σ 37 11) = 1) := by
  have t := h.2.2.2.2.2.2.1
  unfold TRl at t
  unfold isSg stW
  by_cases q : gi σ 37 10 = 4 ∧ gi σ 37 11 = -23
  · rw [if_pos q, if_pos (by omega)]; exact Or.inl ⟨by omega, rfl⟩
  · rw [if_neg q, if_neg (by omega)]; exact Or.inr ⟨rfl, rfl⟩
theorem v_lnE {n : Nat}  (v : Int) (p : Option PV) {σ : Mm} {P : Int → Mm → Prop} (o1 : v ≠ (0 : Int) → ∀ x2 : Int, x2 = isSg σ (59 : Int) → x2 ≠ (0 : Int) → Mx σ) (l1 : v ≠ (0 : Int) → ∀ x2 : Int, x2 = isSg σ (59 : Int) → x2 ≠ (0 : Int) → ∀ s5 : Mm, TkM σ s5 → P 1 s5) (l2 : v ≠ (0 : Int) → ∀ x2 : Int, x2 = isSg σ (59 : Int) → x2 = (0 : Int) → ∀ t7 : Mm, t7 = si σ 85 4 (1 : Int) → ∀ t8 : Mm, t8 = si t7 85 5 (gi σ 85 10) → P 0 t8) (l3 : v = (0 : Int) → P 0 σ) : R 179 197 [some (vr 85), some (vi v), p] [] (shF n) 0 0 σ (Qi (shF n) P) :=
  wpK_R 10 [] (And.intro (fun q1 => (c_isS   (And.intro (fun q3 => (c_tkm  (o1 q1 _ rfl q3) (fun s5 h6 => And.intro ret0 (And.intro (Or.inr rfl) ⟨rfl, _, rfl, (l1 q1 _ rfl q3 s5 h6)⟩)))) (fun q3 => (show R 159 0 [some (vr 85), some (vi 1)] [] (shF n) 0 0 _ _ from wpK_R 9 [] (And.intro ret0 (And.intro (Or.inl rfl) ⟨rfl, _, rfl, And.intro ret0 (And.intro (Or.inl rfl) ⟨rfl, _, rfl, (l2 q1 _ rfl (Classical.not_not.mp q3) _ rfl _ rfl)⟩)⟩))))))) (fun q1 => And.intro ret0 (And.intro (Or.inl rfl) ⟨rfl, _, rfl, (l3 (Classical.not_not.mp q1))⟩)))
theorem r_lnE {n : Nat} {p : Option PV} {t u ρ : Mm} {P : Int → Mm → Prop} (ht : TQ t ρ) (hr : RD t ρ) (tk : TkS (stW (gi t 37 10) (gi t 37 11)) t u) (hF : ∀ ρ', FQ u ρ' → kR ρ ρ' → P 0 ρ') (hO : ∀ ρ', TQ u ρ' → RD u ρ' → kR ρ ρ' → P 1 ρ') : R 179 197 [some (vr 85), some (vi 1), p] [] (shF n) 0 0 ρ (Qi (shF n) P) := by
  have hx := ht.2.1
  have sc := st_c ht
  refine v_lnE 1 p (by intros; exact hx) ?_ ?_ ?_
  · intro _ x ex nx s5 tm
    have q : stW (gi t 37 10) (gi t 37 11) = 0 := by omega
    exact hO s5 (sy_tok ht q tk tm) (RD_fr hr (fun a i p _ => TkS_fr tk a i p) (fun a i p => tm.1 a i (by omega))) (kR_fr tm.1)
  · intro _ x ex nx t7 e7 t8 e8
    have q : stW (gi t 37 10) (gi t 37 11) = 1 := by omega
    rw [q] at tk
    subst e7; subst e8
    exact hF (wrM ρ 1) (FQ_wr ht (by omega) tk) (kR_f f85_wr)
  · intro q; exact absurd q (by omega)
def Mq (t ρ : Mm) (v : Int) (ρ' : Mm) : Prop := (v = 0 ∧ FQ t ρ' ∧ kR ρ ρ') ∨ (v = 1 ∧ TQ t ρ' ∧ RD t ρ' ∧ kR ρ ρ')
def Ml (a w : Nat) (σ s3 ρ : Mm) (v : Int) (ρ' : Mm) : Prop := (v = 0 ∧ FQ s3 ρ' ∧ kR ρ ρ') ∨ (v = 1 ∧ TQ s3 ρ' ∧ LwO a s3 ρ' ∧ (∀ i : Nat, i < a → gi s3 34 i = gi σ 34 i) ∧ (∀ x i, ¬ chS x i → ¬ ((x = 101 ∨ x = 102) ∧ i = 3 + w) → gi ρ' x i = gi ρ x i) ∧ gi ρ' 101 (3 + w) = 1 ∧ gi ρ' 102 (3 + w) = (a : Int) ∧ fKn a ρ ρ')
theorem r_lnX {n : Nat} {p : Option PV} {v : Int} {t u ρ0 ρ : Mm} {P : Int → Mm → Prop} (hm : Mq t ρ0 v ρ) (tk : TkS (stW (gi t 37 10) (gi t 37 11)) t u) (hF : ∀ ρ', FQ u ρ' → kR ρ0 ρ' → P 0 ρ') (hO : ∀ ρ', TQ u ρ' → RD u ρ' → kR ρ0 ρ' → P 1 ρ') : R 179 197 [some (vr 85), some (vi v), p] [] (shF n) 0 0 ρ (Qi (shF n) P) := by
  rcases hm with ⟨e, f, k⟩ | ⟨e, q, r, k⟩
  · subst e
    refine v_lnE 0 p (by intros; exfalso; omega) ?_ ?_ ?_
    · intro q; exact absurd rfl q
    · intro q; exact absurd rfl q
    · intro _; exact hF ρ (FQ_keep f tk) k
  · subst e
    exact r_lnE q r tk (fun ρ' a b => hF ρ' a (kR_tr k b)) (fun ρ' a b c => hO ρ' a b (kR_tr k c))
theorem lw_c {s1 ρ1 : Mm} (q : TQ s1 ρ1) (hl : ∀ w : Nat, w < 3 → gi ρ1 101 (3 + w) = b2i (decide (gi s1 35 w < gi s1 36 w))) : (lwW s1 = 1 ∧ (gi ρ1 85 8 ≠ 1 ∨ gi ρ1 85 9 < 6 ∨ 8 < gi ρ1 85 9)) ∨ (gi ρ1 85 8 = 1 ∧ ∃ w : Nat, w < 3 ∧ gi s1 37 11 = 6 + (w : Int) ∧ gi ρ1 85 9 = 6 + (w : Int) ∧ ((lwW s1 = 3 ∧ gi ρ1 101 (3 + w) = 1) ∨ (lwW s1 = 0 ∧ gi ρ1 101 (3 + w) = 0 ∧ ¬ (gi s1 35 w < gi s1 36 w)))) := by
  have k := kw_c q
  unfold lwW
  by_cases c : gi s1 37 10 ≠ 1 ∨ gi s1 37 11 < 6 ∨ 9 ≤ gi s1 37 11
  · rw [if_pos c]; exact Or.inl ⟨rfl, by omega⟩
  · rw [if_neg c]
    have hw : gi s1 37 11 = 6 + ((gi s1 37 11 - 6).toNat : Int) := by omega
    generalize (gi s1 37 11 - 6).toNat = w at hw
    refine Or.inr ⟨by omega, w, by omega, hw, by omega, ?_⟩
    rw [hl w (by omega)]
    by_cases z : gi s1 35 w < gi s1 36 w
    · rw [if_pos z, decide_eq_true z]; exact Or.inl ⟨rfl, rfl⟩
    · rw [if_neg z, decide_eq_false z]; exact Or.inr ⟨rfl, rfl, z⟩
theorem v_ln {n : Nat}   {M1 : Int → Mm → Prop} {M2 : Int → Mm → Prop} {M3 : Int → Mm → Prop} {M4 : Int → Mm → Prop} {M5 : Int → Mm → Prop} {M6 : Int → Mm → Prop} {σ : Mm} {P : Int → Mm → Prop} (o1 : (gi σ 85 8) = (1 : Int) → (gi σ 85 9) ≤ (5 : Int) → ((gi σ 85 9) < 0 ∨ 4 < (gi σ 85 9)) → Mx σ) (o2 : (gi σ 85 8) = (1 : Int) → (gi σ 85 9) ≤ (5 : Int) → ((gi σ 85 9) < 0 ∨ 4 < (gi σ 85 9)) → ∀ s7 : Mm, TkM σ s7 → (gi s7 85 8) = (1 : Int) → (6 : Int) ≤ (gi s7 85 9) → (gi s7 85 9) ≤ (8 : Int) → rg ((3 : Int) + (gi s7 85 9))) (o3 : (gi σ 85 8) = (1 : Int) → (gi σ 85 9) ≤ (5 : Int) → ((gi σ 85 9) < 0 ∨ 4 < (gi σ 85 9)) → ∀ s7 : Mm, TkM σ s7 → (gi s7 85 8) = (1 : Int) → (6 : Int) ≤ (gi s7 85 9) → (gi s7 85 9) ≤ (8 : Int) → rg (((3 : Int) + (gi s7 85 9)) - 6)) (o4 : (gi σ 85 8) = (1 : Int) → (gi σ 85 9) ≤ (5 : Int) → ((gi σ 85 9) < 0 ∨ 4 < (gi σ 85 9)) → ∀ s7 : Mm, TkM σ s7 → (gi s7 85 8) = (1 : Int) → (6 : Int) ≤ (gi s7 85 9) → (gi s7 85 9) ≤ (8 : Int) → ∀ x18 : Int, x18 = ((3 : Int) + (gi s7 85 9)) - 6 → (0 ≤ x18 ∧ x18 < 6)) (o5 : (gi σ 85 8) = (1 : Int) → (gi σ 85 9) ≤ (5 : Int) → ((gi σ 85 9) < 0 ∨ 4 < (gi σ 85 9)) → ∀ s7 : Mm, TkM σ s7 → (gi s7 85 8) = (1 : Int) → (6 : Int) ≤ (gi s7 85 9) → (gi s7 85 9) ≤ (8 : Int) → ∀ x18 : Int, x18 = ((3 : Int) + (gi s7 85 9)) - 6 → (gi s7 101 x18.toNat) = (0 : Int) → ∀ t21 : Mm, t21 = si s7 101 x18.toNat (1 : Int) → Mx t21) (o6 : (gi σ 85 8) = (1 : Int) → (gi σ 85 9) ≤ (5 : Int) → ((gi σ 85 9) < 0 ∨ 4 < (gi σ 85 9)) → ∀ s7 : Mm, TkM σ s7 → (gi s7 85 8) = (1 : Int) → (6 : Int) ≤ (gi s7 85 9) → (gi s7 85 9) ≤ (8 : Int) → ∀ x18 : Int, x18 = ((3 : Int) + (gi s7 85 9)) - 6 → (gi s7 101 x18.toNat) = (0 : Int) → ∀ t21 : Mm, t21 = si s7 101 x18.toNat (1 : Int) → ∀ s23 : Mm, TkM t21 s23 → ∀ t25 : Mm, t25 = si s23 102 x18.toNat (gi s23 85 21) → Ci 192 [vr 85] (shF n) t25 M1) (o7 : (gi σ 85 8) = (1 : Int) → (gi σ 85 9) ≤ (5 : Int) → (gi σ 85 9) = 0 → Ci 174 [vr 85] (shF n) σ M2) (o8 : (gi σ 85 8) = (1 : Int) → (gi σ 85 9) ≤ (5 : Int) → (gi σ 85 9) = 1 → Ci 175 [vr 85] (shF n) σ M3) (o9 : (gi σ 85 8) = (1 : Int) → (gi σ 85 9) ≤ (5 : Int) → (gi σ 85 9) = 2 → Ci 176 [vr 85] (shF n) σ M4) (o10 : (gi σ 85 8) = (1 : Int) → (gi σ 85 9) ≤ (5 : Int) → (gi σ 85 9) = 3 → Ci 177 [vr 85] (shF n) σ M5) (o11 : (gi σ 85 8) = (1 : Int) → (gi σ 85 9) ≤ (5 : Int) → (gi σ 85 9) = 4 → Ci 178 [vr 85] (shF n) σ M6) (l1 : (gi σ 85 8) ≠ (1 : Int) → ∀ t2 : Mm, t2 = si σ 85 4 (1 : Int) → ∀ t3 : Mm, t3 = si t2 85 5 (gi σ 85 10) → P 0 t3) (l2 : (gi σ 85 8) = (1 : Int) → (gi σ 85 9) ≤ (5 : Int) → ((gi σ 85 9) < 0 ∨ 4 < (gi σ 85 9)) → ∀ s7 : Mm, TkM σ s7 → (gi s7 85 8) ≠ (1 : Int) → ∀ t10 : Mm, t10 = si s7 85 4 (1 : Int) → ∀ t11 : Mm, t11 = si t10 85 5 (gi s7 85 10) → P 0 t11) (l3 : (gi σ 85 8) = (1 : Int) → (gi σ 85 9) ≤ (5 : Int) → ((gi σ 85 9) < 0 ∨ 4 < (gi σ 85 9)) → ∀ s7 : Mm, TkM σ s7 → (gi s7 85 8) = (1 : Int) → (gi s7 85 9) < (6 : Int) → ∀ t13 : Mm, t13 = si s7 85 4 (1 : Int) → ∀ t14 : Mm, t14 = si t13 85 5 (gi s7 85 10) → P 0 t14) (l4 : (gi σ 85 8) = (1 : Int) → (gi σ 85 9) ≤ (5 : Int) → ((gi σ 85 9) < 0 ∨ 4 < (gi σ 85 9)) → ∀ s7 : Mm, TkM σ s7 → (gi s7 85 8) = (1 : Int) → (6 : Int) ≤ (gi s7 85 9) → (gi s7 85 9) ≤ (8 : Int) → ∀ x18 : Int, x18 = ((3 : Int) + (gi s7 85 9)) - 6 → (gi s7 101 x18.toNat) = (0 : Int) → ∀ t21 : Mm, t21 = si s7 101 x18.toNat (1 : Int) → ∀ s23 : Mm, TkM t21 s23 → ∀ t25 : Mm, t25 = si s23 102 x18.toNat (gi s23 85 21) → ∀ (v28 : Int) (s27 : Mm), M1 v28 s27 → ∀ t29 : Mm, t29 = si s27 103 x18.toNat (gi s27 85 21) → R 179 197 [some (vr 85), some (vi v28), some (vi x18)] [] (shF n) 0 0 t29 (Qi (shF n) P)) (l5 : (gi σ 85 8) = (1 : Int) → (gi σ 85 9) ≤ (5 : Int) → ((gi σ 85 9) < 0 ∨ 4 < (gi σ 85 9)) → ∀ s7 : Mm, TkM σ s7 → (gi s7 85 8) = (1 : Int) → (6 : Int) ≤ (gi s7 85 9) → (gi s7 85 9) ≤ (8 : Int) → ∀ x18 : Int, x18 = ((3 : Int) + (gi s7 85 9)) - 6 → (gi s7 101 x18.toNat) ≠ (0 : Int) → ∀ t30 : Mm, t30 = si s7 85 4 (3 : Int) → ∀ t31 : Mm, t31 = si t30 85 5 (gi s7 85 10) → P 0 t31) (l6 : (gi σ 85 8) = (1 : Int) → (gi σ 85 9) ≤ (5 : Int) → ((gi σ 85 9) < 0 ∨ 4 < (gi σ 85 9)) → ∀ s7 : Mm, TkM σ s7 → (gi s7 85 8) = (1 : Int) → (6 : Int) ≤ (gi s7 85 9) → (8 : Int) < (gi s7 85 9) → ∀ t32 : Mm, t32 = si s7 85 4 (1 : Int) → ∀ t33 : Mm, t33 = si t32 85 5 (gi s7 85 10) → P 0 t33) (l7 : (gi σ 85 8) = (1 : Int) → (gi σ 85 9) ≤ (5 : Int) → (gi σ 85 9) = 0 → ∀ (v36 : Int) (s35 : Mm), M2 v36 s35 → R 179 197 [some (vr 85), some (vi v36), none] [] (shF n) 0 0 s35 (Qi (shF n) P)) (l8 : (gi σ 85 8) = (1 : Int) → (gi σ 85 9) ≤ (5 : Int) → (gi σ 85 9) = 1 → ∀ (v39 : Int) (s38 : Mm), M3 v39 s38 → R 179 197 [some (vr 85), some (vi v39), none] [] (shF n) 0 0 s38 (Qi (shF n) P)) (l9 : (gi σ 85 8) = (1 : Int) → (gi σ 85 9) ≤ (5 : Int) → (gi σ 85 9) = 2 → ∀ (v42 : Int) (s41 : Mm), M4 v42 s41 → R 179 197 [some (vr 85), some (vi v42), none] [] (shF n) 0 0 s41 (Qi (shF n) P)) (l10 : (gi σ 85 8) = (1 : Int) → (gi σ 85 9) ≤ (5 : Int) → (gi σ 85 9) = 3 → ∀ (v45 : Int) (s44 : Mm), M5 v45 s44 → R 179 197 [some (vr 85), some (vi v45), none] [] (shF n) 0 0 s44 (Qi (shF n) P)) (l11 : (gi σ 85 8) = (1 : Int) → (gi σ 85 9) ≤ (5 : Int) → (gi σ 85 9) = 4 → ∀ (v48 : Int) (s47 : Mm), M6 v48 s47 → R 179 197 [some (vr 85), some (vi v48), none] [] (shF n) 0 0 s47 (Qi (shF n) P)) (l12 : (gi σ 85 8) = (1 : Int) → (5 : Int) < (gi σ 85 9) → ∀ t49 : Mm, t49 = si σ 85 4 (1 : Int) → ∀ t50 : Mm, t50 = si t49 85 5 (gi σ 85 10) → P 0 t50) : Ci 179 [vr 85] (shF n) σ P :=
  show R 179 0 [some (vr 85), none, none] [] (shF n) 0 0 σ (Qi (shF n) P) from wpK_R 60 [197] (And.intro (fun q1 => (show R 159 0 [some (vr 85), some (vi 1)] [] (shF n) 0 0 _ _ from wpK_R 9 [] (And.intro ret0 (And.intro (Or.inl rfl) ⟨rfl, _, rfl, And.intro ret0 (And.intro (Or.inl rfl) ⟨rfl, _, rfl, (l1 q1 _ rfl _ rfl)⟩)⟩)))) (fun q1 => And.intro (fun q4 => And.intro (fun q5 => (c_tkm  (o1 (Classical.not_not.mp q1) q4 q5) (fun s7 h8 => And.intro (fun q9 => (show R 159 0 [some (vr 85), some (vi 1)] [] (shF n) 0 0 _ _ from wpK_R 9 [] (And.intro ret0 (And.intro (Or.inl rfl) ⟨rfl, _, rfl, And.intro ret0 (And.intro (Or.inl rfl) ⟨rfl, _, rfl, (l2 (Classical.not_not.mp q1) q4 q5 s7 h8 q9 _ rfl _ rfl)⟩)⟩)))) (fun q9 => And.intro (fun q12 => (show R 159 0 [some (vr 85), some (vi 1)] [] (shF n) 0 0 _ _ from wpK_R 9 [] (And.intro ret0 (And.intro (Or.inl rfl) ⟨rfl, _, rfl, And.intro ret0 (And.intro (Or.inl rfl) ⟨rfl, _, rfl, (l3 (Classical.not_not.mp q1) q4 q5 s7 h8 (Classical.not_not.mp q9) q12 _ rfl _ rfl)⟩)⟩)))) (fun q12 => And.intro (fun q15 => (have k16 := (o2 (Classical.not_not.mp q1) q4 q5 s7 h8 (Classical.not_not.mp q9) (Int.not_lt.mp q12) q15); And.intro k16 ((have k17 := (o3 (Classical.not_not.mp q1) q4 q5 s7 h8 (Classical.not_not.mp q9) (Int.not_lt.mp q12) q15); And.intro k17 ((have k19 := (o4 (Classical.not_not.mp q1) q4 q5 s7 h8 (Classical.not_not.mp q9) (Int.not_lt.mp q12) q15 _ rfl); And.intro k19 (And.intro (fun q20 => And.intro k19 (And.intro (Or.inr rfl) ((c_tkm  (o5 (Classical.not_not.mp q1) q4 q5 s7 h8 (Classical.not_not.mp q9) (Int.not_lt.mp q12) q15 _ rfl q20 _ rfl) (fun s23 h24 => And.intro k19 ((Ci_mono (o6 (Classical.not_not.mp q1) q4 q5 s7 h8 (Classical.not_not.mp q9) (Int.not_lt.mp q12) q15 _ rfl q20 _ rfl s23 h24 _ rfl) (fun v28 s27 h26 => And.intro k19 ((l4 (Classical.not_not.mp q1) q4 q5 s7 h8 (Classical.not_not.mp q9) (Int.not_lt.mp q12) q15 _ rfl q20 _ rfl s23 h24 _ rfl v28 s27 h26 _ rfl)))))))))) (fun q20 => (show R 159 0 [some (vr 85), some (vi 3)] [] (shF n) 0 0 _ _ from wpK_R 9 [] (And.intro ret0 (And.intro (Or.inl rfl) ⟨rfl, _, rfl, And.intro ret0 (And.intro (Or.inl rfl) ⟨rfl, _, rfl, (l5 (Classical.not_not.mp q1) q4 q5 s7 h8 (Classical.not_not.mp q9) (Int.not_lt.mp q12) q15 _ rfl q20 _ rfl _ rfl)⟩)⟩))))))))))) (fun q15 => (show R 159 0 [some (vr 85), some (vi 1)] [] (shF n) 0 0 _ _ from wpK_R 9 [] (And.intro ret0 (And.intro (Or.inl rfl) ⟨rfl, _, rfl, And.intro ret0 (And.intro (Or.inl rfl) ⟨rfl, _, rfl, (l6 (Classical.not_not.mp q1) q4 q5 s7 h8 (Classical.not_not.mp q9) (Int.not_lt.mp q12) (Int.not_le.mp q15) _ rfl _ rfl)⟩)⟩))))))))) (And.intro (fun q5 => (Ci_mono (o7 (Classical.not_not.mp q1) q4 q5) (fun v36 s35 h34 => (l7 (Classical.not_not.mp q1) q4 q5 v36 s35 h34)))) (And.intro (fun q5 => (Ci_mono (o8 (Classical.not_not.mp q1) q4 q5) (fun v39 s38 h37 => (l8 (Classical.not_not.mp q1) q4 q5 v39 s38 h37)))) (And.intro (fun q5 => (Ci_mono (o9 (Classical.not_not.mp q1) q4 q5) (fun v42 s41 h40 => (l9 (Classical.not_not.mp q1) q4 q5 v42 s41 h40)))) (And.intro (fun q5 => (Ci_mono (o10 (Classical.not_not.mp q1) q4 q5) (fun v45 s44 h43 => (l10 (Classical.not_not.mp q1) q4 q5 v45 s44 h43)))) (And.intro (fun q5 => (Ci_mono (o11 (Classical.not_not.mp q1) q4 q5) (fun v48 s47 h46 => (l11 (Classical.not_not.mp q1) q4 q5 v48 s47 h46)))) (trivial))))))) (fun q4 => (show R 159 0 [some (vr 85), some (vi 1)] [] (shF n) 0 0 _ _ from wpK_R 9 [] (And.intro ret0 (And.intro (Or.inl rfl) ⟨rfl, _, rfl, And.intro ret0 (And.intro (Or.inl rfl) ⟨rfl, _, rfl, (l12 (Classical.not_not.mp q1) (Int.not_le.mp q4) _ rfl _ rfl)⟩)⟩))))))
theorem r_ln_0 {n : Nat} {σ t u ρ : Mm} {P : Int → Mm → Prop} (ht : TQ σ ρ) (hr : RD σ ρ) (h1 : gi σ 37 10 = 1) (h2 : gi σ 37 11 = 0) (hj : JlC σ t) (tk : TkS (stW (gi t 37 10) (gi t 37 11)) t u) (hF : ∀ ρ', FQ u ρ' → kR ρ ρ' → P 0 ρ') (hO : ∀ ρ', TQ u ρ' → RD u ρ' → kR ρ ρ' → P 1 ρ') : Ci 179 [vr 85] (shF n) ρ P := by
  have kw := kw_c ht
  have k8 : gi ρ 85 8 = 1 := by omega
  have k9 : gi ρ 85 9 = 0 := by omega
  clear kw
  refine v_ln (M1 := Mq t ρ) (M2 := Mq t ρ) (M3 := Mq t ρ) (M4 := Mq t ρ) (M5 := Mq t ρ) (M6 := Mq t ρ) (by intros; first | (exfalso; omega) | exact r_judge ht hr hj (fun ρ' a b => Or.inl ⟨rfl, a, b⟩) (fun ρ' a b c => Or.inr ⟨rfl, a, b, c⟩)) (by intros; first | (exfalso; omega) | exact r_judge ht hr hj (fun ρ' a b => Or.inl ⟨rfl, a, b⟩) (fun ρ' a b c => Or.inr ⟨rfl, a, b, c⟩)) (by intros; first | (exfalso; omega) | exact r_judge ht hr hj (fun ρ' a b => Or.inl ⟨rfl, a, b⟩) (fun ρ' a b c => Or.inr ⟨rfl, a, b, c⟩)) (by intros; first | (exfalso; omega) | exact r_judge ht hr hj (fun ρ' a b => Or.inl ⟨rfl, a, b⟩) (fun ρ' a b c => Or.inr ⟨rfl, a, b, c⟩)) (by intros; first | (exfalso; omega) | exact r_judge ht hr hj (fun ρ' a b => Or.inl ⟨rfl, a, b⟩) (fun ρ' a b c => Or.inr ⟨rfl, a, b, c⟩)) (by intros; first | (exfalso; omega) | exact r_judge ht hr hj (fun ρ' a b => Or.inl ⟨rfl, a, b⟩) (fun ρ' a b c => Or.inr ⟨rfl, a, b, c⟩)) (by intros; first | (exfalso; omega) | exact r_judge ht hr hj (fun ρ' a b => Or.inl ⟨rfl, a, b⟩) (fun ρ' a b c => Or.inr ⟨rfl, a, b, c⟩)) (by intros; first | (exfalso; omega) | exact r_judge ht hr hj (fun ρ' a b => Or.inl ⟨rfl, a, b⟩) (fun ρ' a b c => Or.inr ⟨rfl, a, b, c⟩)) (by intros; first | (exfalso; omega) | exact r_judge ht hr hj (fun ρ' a b => Or.inl ⟨rfl, a, b⟩) (fun ρ' a b c => Or.inr ⟨rfl, a, b, c⟩)) (by intros; first | (exfalso; omega) | exact r_judge ht hr hj (fun ρ' a b => Or.inl ⟨rfl, a, b⟩) (fun ρ' a b c => Or.inr ⟨rfl, a, b, c⟩)) (by intros; first | (exfalso; omega) | exact r_judge ht hr hj (fun ρ' a b => Or.inl ⟨rfl, a, b⟩) (fun ρ' a b c => Or.inr ⟨rfl, a, b, c⟩)) ?_ ?_ ?_ ?_ ?_ ?_ ?_ ?_ ?_ ?_ ?_ ?_
  all_goals intros
  all_goals first
    | (exfalso; omega)
    | exact r_lnX (by assumption) tk hF hO
theorem r_ln_1 {n : Nat} {σ t u ρ : Mm} {P : Int → Mm → Prop} (ht : TQ σ ρ) (hr : RD σ ρ) (h1 : gi σ 37 10 = 1) (h2 : gi σ 37 11 = 1) (hj : ClC σ t) (tk : TkS (stW (gi t 37 10) (gi t 37 11)) t u) (hF : ∀ ρ', FQ u ρ' → kR ρ ρ' → P 0 ρ') (hO : ∀ ρ', TQ u ρ' → RD u ρ' → kR ρ ρ' → P 1 ρ') : Ci 179 [vr 85] (shF n) ρ P := by
  have kw := kw_c ht
  have k8 : gi ρ 85 8 = 1 := by omega
  have k9 : gi ρ 85 9 = 1 := by omega
  clear kw
  refine v_ln (M1 := Mq t ρ) (M2 := Mq t ρ) (M3 := Mq t ρ) (M4 := Mq t ρ) (M5 := Mq t ρ) (M6 := Mq t ρ) (by intros; first | (exfalso; omega) | exact r_case ht hr hj (fun ρ' a b => Or.inl ⟨rfl, a, b⟩) (fun ρ' a b c => Or.inr ⟨rfl, a, b, c⟩)) (by intros; first | (exfalso; omega) | exact r_case ht hr hj (fun ρ' a b => Or.inl ⟨rfl, a, b⟩) (fun ρ' a b c => Or.inr ⟨rfl, a, b, c⟩)) (by intros; first | (exfalso; omega) | exact r_case ht hr hj (fun ρ' a b => Or.inl ⟨rfl, a, b⟩) (fun ρ' a b c => Or.inr ⟨rfl, a, b, c⟩)) (by intros; first | (exfalso; omega) | exact r_case ht hr hj (fun ρ' a b => Or.inl ⟨rfl, a, b⟩) (fun ρ' a b c => Or.inr ⟨rfl, a, b, c⟩)) (by intros; first | (exfalso; omega) | exact r_case ht hr hj (fun ρ' a b => Or.inl ⟨rfl, a, b⟩) (fun ρ' a b c => Or.inr ⟨rfl, a, b, c⟩)) (by intros; first | (exfalso; omega) | exact r_case ht hr hj (fun ρ' a b => Or.inl ⟨rfl, a, b⟩) (fun ρ' a b c => Or.inr ⟨rfl, a, b, c⟩)) (by intros; first | (exfalso; omega) | exact r_case ht hr hj (fun ρ' a b => Or.inl ⟨rfl, a, b⟩) (fun ρ' a b c => Or.inr ⟨rfl, a, b, c⟩)) (by intros; first | (exfalso; omega) | exact r_case ht hr hj (fun ρ' a b => Or.inl ⟨rfl, a, b⟩) (fun ρ' a b c => Or.inr ⟨rfl, a, b, c⟩)) (by intros; first | (exfalso; omega) | exact r_case ht hr hj (fun ρ' a b => Or.inl ⟨rfl, a, b⟩) (fun ρ' a b c => Or.inr ⟨rfl, a, b, c⟩)) (by intros; first | (exfalso; omega) | exact r_case ht hr hj (fun ρ' a b => Or.inl ⟨rfl, a, b⟩) (fun ρ' a b c => Or.inr ⟨rfl, a, b, c⟩)) (by intros; first | (exfalso; omega) | exact r_case ht hr hj (fun ρ' a b => Or.inl ⟨rfl, a, b⟩) (fun ρ' a b c => Or.inr ⟨rfl, a, b, c⟩)) ?_ ?_ ?_ ?_ ?_ ?_ ?_ ?_ ?_ ?_ ?_ ?_
  all_goals intros
  all_goals first
    | (exfalso; omega)
    | exact r_lnX (by assumption) tk hF hO
theorem r_ln_2 {n : Nat} {σ t u ρ : Mm} {P : Int → Mm → Prop} (ht : TQ σ ρ) (hr : RD σ ρ) (h1 : gi σ 37 10 = 1) (h2 : gi σ 37 11 = 2) (hj : KlC σ t) (tk : TkS (stW (gi t 37 10) (gi t 37 11)) t u) (hF : ∀ ρ', FQ u ρ' → kR ρ ρ' → P 0 ρ') (hO : ∀ ρ', TQ u ρ' → RD u ρ' → kR ρ ρ' → P 1 ρ') : Ci 179 [vr 85] (shF n) ρ P := by
  have kw := kw_c ht
  have k8 : gi ρ 85 8 = 1 := by omega
  have k9 : gi ρ 85 9 = 2 := by omega
  clear kw
  refine v_ln (M1 := Mq t ρ) (M2 := Mq t ρ) (M3 := Mq t ρ) (M4 := Mq t ρ) (M5 := Mq t ρ) (M6 := Mq t ρ) (by intros; first | (exfalso; omega) | exact r_clerk ht hr hj (fun ρ' a b => Or.inl ⟨rfl, a, b⟩) (fun ρ' a b c => Or.inr ⟨rfl, a, b, c⟩)) (by intros; first | (exfalso; omega) | exact r_clerk ht hr hj (fun ρ' a b => Or.inl ⟨rfl, a, b⟩) (fun ρ' a b c => Or.inr ⟨rfl, a, b, c⟩)) (by intros; first | (exfalso; omega) | exact r_clerk ht hr hj (fun ρ' a b => Or.inl ⟨rfl, a, b⟩) (fun ρ' a b c => Or.inr ⟨rfl, a, b, c⟩)) (by intros; first | (exfalso; omega) | exact r_clerk ht hr hj (fun ρ' a b => Or.inl ⟨rfl, a, b⟩) (fun ρ' a b c => Or.inr ⟨rfl, a, b, c⟩)) (by intros; first | (exfalso; omega) | exact r_clerk ht hr hj (fun ρ' a b => Or.inl ⟨rfl, a, b⟩) (fun ρ' a b c => Or.inr ⟨rfl, a, b, c⟩)) (by intros; first | (exfalso; omega) | exact r_clerk ht hr hj (fun ρ' a b => Or.inl ⟨rfl, a, b⟩) (fun ρ' a b c => Or.inr ⟨rfl, a, b, c⟩)) (by intros; first | (exfalso; omega) | exact r_clerk ht hr hj (fun ρ' a b => Or.inl ⟨rfl, a, b⟩) (fun ρ' a b c => Or.inr ⟨rfl, a, b, c⟩)) (by intros; first | (exfalso; omega) | exact r_clerk ht hr hj (fun ρ' a b => Or.inl ⟨rfl, a, b⟩) (fun ρ' a b c => Or.inr ⟨rfl, a, b, c⟩)) (by intros; first | (exfalso; omega) | exact r_clerk ht hr hj (fun ρ' a b => Or.inl ⟨rfl, a, b⟩) (fun ρ' a b c => Or.inr ⟨rfl, a, b, c⟩)) (by intros; first | (exfalso; omega) | exact r_clerk ht hr hj (fun ρ' a b => Or.inl ⟨rfl, a, b⟩) (fun ρ' a b c => Or.inr ⟨rfl, a, b, c⟩)) (by intros; first | (exfalso; omega) | exact r_clerk ht hr hj (fun ρ' a b => Or.inl ⟨rfl, a, b⟩) (fun ρ' a b c => Or.inr ⟨rfl, a, b, c⟩)) ?_ ?_ ?_ ?_ ?_ ?_ ?_ ?_ ?_ ?_ ?_ ?_
  all_goals intros
  all_goals first
    | (exfalso; omega)
    | exact r_lnX (by assumption) tk hF hO
theorem r_ln_3 {n : Nat} {σ t u ρ : Mm} {P : Int → Mm → Prop} (ht : TQ σ ρ) (hr : RD σ ρ) (h1 : gi σ 37 10 = 1) (h2 : gi σ 37 11 = 3) (hj : DlC σ t) (tk : TkS (stW (gi t 37 10) (gi t 37 11)) t u) (hF : ∀ ρ', FQ u ρ' → kR ρ ρ' → P 0 ρ') (hO : ∀ ρ', TQ u ρ' → RD u ρ' → kR ρ ρ' → P 1 ρ') : Ci 179 [vr 85] (shF n) ρ P := by
  have kw := kw_c ht
  have k8 : gi ρ 85 8 = 1 := by omega
  have k9 : gi ρ 85 9 = 3 := by omega
  clear kw
  refine v_ln (M1 := Mq t ρ) (M2 := Mq t ρ) (M3 := Mq t ρ) (M4 := Mq t ρ) (M5 := Mq t ρ) (M6 := Mq t ρ) (by intros; first | (exfalso; omega) | exact r_damp ht hr hj (fun ρ' a b => Or.inl ⟨rfl, a, b⟩) (fun ρ' a b c => Or.inr ⟨rfl, a, b, c⟩)) (by intros; first | (exfalso; omega) | exact r_damp ht hr hj (fun ρ' a b => Or.inl ⟨rfl, a, b⟩) (fun ρ' a b c => Or.inr ⟨rfl, a, b, c⟩)) (by intros; first | (exfalso; omega) | exact r_damp ht hr hj (fun ρ' a b => Or.inl ⟨rfl, a, b⟩) (fun ρ' a b c => Or.inr ⟨rfl, a, b, c⟩)) (by intros; first | (exfalso; omega) | exact r_damp ht hr hj (fun ρ' a b => Or.inl ⟨rfl, a, b⟩) (fun ρ' a b c => Or.inr ⟨rfl, a, b, c⟩)) (by intros; first | (exfalso; omega) | exact r_damp ht hr hj (fun ρ' a b => Or.inl ⟨rfl, a, b⟩) (fun ρ' a b c => Or.inr ⟨rfl, a, b, c⟩)) (by intros; first | (exfalso; omega) | exact r_damp ht hr hj (fun ρ' a b => Or.inl ⟨rfl, a, b⟩) (fun ρ' a b c => Or.inr ⟨rfl, a, b, c⟩)) (by intros; first | (exfalso; omega) | exact r_damp ht hr hj (fun ρ' a b => Or.inl ⟨rfl, a, b⟩) (fun ρ' a b c => Or.inr ⟨rfl, a, b, c⟩)) (by intros; first | (exfalso; omega) | exact r_damp ht hr hj (fun ρ' a b => Or.inl ⟨rfl, a, b⟩) (fun ρ' a b c => Or.inr ⟨rfl, a, b, c⟩)) (by intros; first | (exfalso; omega) | exact r_damp ht hr hj (fun ρ' a b => Or.inl ⟨rfl, a, b⟩) (fun ρ' a b c => Or.inr ⟨rfl, a, b, c⟩)) (by intros; first | (exfalso; omega) | exact r_damp ht hr hj (fun ρ' a b => Or.inl ⟨rfl, a, b⟩) (fun ρ' a b c => Or.inr ⟨rfl, a, b, c⟩)) (by intros; first | (exfalso; omega) | exact r_damp ht hr hj (fun ρ' a b => Or.inl ⟨rfl, a, b⟩) (fun ρ' a b c => Or.inr ⟨rfl, a, b, c⟩)) ?_ ?_ ?_ ?_ ?_ ?_ ?_ ?_ ?_ ?_ ?_ ?_
  all_goals intros
  all_goals first
    | (exfalso; omega)
    | exact r_lnX (by assumption) tk hF hO
theorem r_ln_4 {n : Nat} {σ t u ρ : Mm} {P : Int → Mm → Prop} (ht : TQ σ ρ) (hr : RD σ ρ) (h1 : gi σ 37 10 = 1) (h2 : gi σ 37 11 = 4) (hj : BlC σ t) (tk : TkS (stW (gi t 37 10) (gi t 37 11)) t u) (hF : ∀ ρ', FQ u ρ' → kR ρ ρ' → P 0 ρ') (hO : ∀ ρ', TQ u ρ' → RD u ρ' → kR ρ ρ' → P 1 ρ') : Ci 179 [vr 85] (shF n) ρ P := by
  have kw := kw_c ht
  have k8 : gi ρ 85 8 = 1 := by omega
  have k9 : gi ρ 85 9 = 4 := by omega
  clear kw
  refine v_ln (M1 := Mq t ρ) (M2 := Mq t ρ) (M3 := Mq t ρ) (M4 := Mq t ρ) (M5 := Mq t ρ) (M6 := Mq t ρ) (by intros; first | (exfalso; omega) | exact r_beat ht hr hj (fun ρ' a b => Or.inl ⟨rfl, a, b⟩) (fun ρ' a b c => Or.inr ⟨rfl, a, b, c⟩)) (by intros; first | (exfalso; omega) | exact r_beat ht hr hj (fun ρ' a b => Or.inl ⟨rfl, a, b⟩) (fun ρ' a b c => Or.inr ⟨rfl, a, b, c⟩)) (by intros; first | (exfalso; omega) | exact r_beat ht hr hj (fun ρ' a b => Or.inl ⟨rfl, a, b⟩) (fun ρ' a b c => Or.inr ⟨rfl, a, b, c⟩)) (by intros; first | (exfalso; omega) | exact r_beat ht hr hj (fun ρ' a b => Or.inl ⟨rfl, a, b⟩) (fun ρ' a b c => Or.inr ⟨rfl, a, b, c⟩)) (by intros; first | (exfalso; omega) | exact r_beat ht hr hj (fun ρ' a b => Or.inl ⟨rfl, a, b⟩) (fun ρ' a b c => Or.inr ⟨rfl, a, b, c⟩)) (by intros; first | (exfalso; omega) | exact r_beat ht hr hj (fun ρ' a b => Or.inl ⟨rfl, a, b⟩) (fun ρ' a b c => Or.inr ⟨rfl, a, b, c⟩)) (by intros; first | (exfalso; omega) | exact r_beat ht hr hj (fun ρ' a b => Or.inl ⟨rfl, a, b⟩) (fun ρ' a b c => Or.inr ⟨rfl, a, b, c⟩)) (by intros; first | (exfalso; omega) | exact r_beat ht hr hj (fun ρ' a b => Or.inl ⟨rfl, a, b⟩) (fun ρ' a b c => Or.inr ⟨rfl, a, b, c⟩)) (by intros; first | (exfalso; omega) | exact r_beat ht hr hj (fun ρ' a b => Or.inl ⟨rfl, a, b⟩) (fun ρ' a b c => Or.inr ⟨rfl, a, b, c⟩)) (by intros; first | (exfalso; omega) | exact r_beat ht hr hj (fun ρ' a b => Or.inl ⟨rfl, a, b⟩) (fun ρ' a b c => Or.inr ⟨rfl, a, b, c⟩)) (by intros; first | (exfalso; omega) | exact r_beat ht hr hj (fun ρ' a b => Or.inl ⟨rfl, a, b⟩) (fun ρ' a b c => Or.inr ⟨rfl, a, b, c⟩)) ?_ ?_ ?_ ?_ ?_ ?_ ?_ ?_ ?_ ?_ ?_ ?_
  all_goals intros
  all_goals first
    | (exfalso; omega)
    | exact r_lnX (by assumption) tk hF hO
theorem r_ln_bad {n : Nat} {σ u ρ : Mm} {P : Int → Mm → Prop} (ht : TQ σ ρ) (hn : ¬ (gi σ 37 10 = 1 ∧ 0 ≤ gi σ 37 11 ∧ gi σ 37 11 ≤ 5)) {w : Int} (tk : TkS w (rfM σ 1) u) (hF : ∀ ρ', FQ u ρ' → kR ρ ρ' → P 0 ρ') : Ci 179 [vr 85] (shF n) ρ P := by
  have kw := kw_c ht
  have kn : gi ρ 85 8 ≠ 1 ∨ 5 < gi ρ 85 9 := by omega
  have hB : P 0 (wrM ρ 1) := hF _ (FQ_keep (FQ_rf ht (by omega)) tk) (kR_f f85_wr)
  clear kw hn
  refine v_ln (M1 := Mq σ ρ) (M2 := Mq σ ρ) (M3 := Mq σ ρ) (M4 := Mq σ ρ) (M5 := Mq σ ρ) (M6 := Mq σ ρ) (by intros; exfalso; omega) (by intros; exfalso; omega) (by intros; exfalso; omega) (by intros; exfalso; omega) (by intros; exfalso; omega) (by intros; exfalso; omega) (by intros; exfalso; omega) (by intros; exfalso; omega) (by intros; exfalso; omega) (by intros; exfalso; omega) (by intros; exfalso; omega) ?_ ?_ ?_ ?_ ?_ ?_ ?_ ?_ ?_ ?_ ?_ ?_
  all_goals intros
  all_goals first
    | (exfalso; omega)
    | (subst_vars; exact hB)
theorem r_ln_L0 {n : Nat} {σ s1 u ρ : Mm} {P : Int → Mm → Prop} (ht : TQ σ ρ) (hr : RD σ ρ) (h1 : gi σ 37 10 = 1) (h2 : gi σ 37 11 = 5) (t1 : TkR σ s1) (w1 : lwW s1 ≠ 0) {w : Int} (tk : TkS w (rfM s1 (lwW s1)) u) (hF : ∀ ρ', FQ u ρ' → kR ρ ρ' → P 0 ρ') : Ci 179 [vr 85] (shF n) ρ P := by
  have kw := kw_c ht
  have k8 : gi ρ 85 8 = 1 := by omega
  have k9 : gi ρ 85 9 = 5 := by omega
  clear kw
  have hx := ht.2.1
  have hB : ∀ s7, TkM ρ s7 → P 0 (wrM s7 (lwW s1)) := fun s7 a => hF _ (FQ_keep (FQ_rf (TQ_tok ht t1 a) w1) tk) (kR_tr (kR_fr a.1) (kR_f f85_wr))
  have hL := hr.2.2.2.2.2
  have hC : ∀ s7, TkM ρ s7 → (lwW s1 = 1 ∧ (gi s7 85 8 ≠ 1 ∨ gi s7 85 9 < 6 ∨ 8 < gi s7 85 9)) ∨ (gi s7 85 8 = 1 ∧ ∃ w : Nat, w < 3 ∧ gi s7 85 9 = 6 + (w : Int) ∧ lwW s1 = 3 ∧ gi s7 101 (3 + w) = 1) := fun s7 a => by
    rcases lw_c (TQ_tok ht t1 a) (fun w hw => by rw [a.1 101 _ (by omega), (hL.2.2.2.2 w hw).2.1, t1.1 35 w (by omega), t1.1 36 w (by omega)]) with z | ⟨z, w, z1, z2, z3, z4 | z4⟩
    · exact Or.inl z
    · exact Or.inr ⟨z, w, z1, z3, z4.1, z4.2⟩
    · exact absurd z4.1 w1
  have hD : ∀ s7 x, TkM ρ s7 → gi s7 85 8 = 1 → 6 ≤ gi s7 85 9 → gi s7 85 9 ≤ 8 → x = (3 : Int) + gi s7 85 9 - 6 → lwW s1 = 3 ∧ gi s7 101 x.toNat = 1 := fun s7 x a b c d e => by
    rcases hC s7 a with z | ⟨z, w, z1, z2, z3, z4⟩
    · exfalso; omega
    · have : x.toNat = 3 + w := by omega
      rw [this]; exact ⟨z3, z4⟩
  have hE : ∀ s7, TkM ρ s7 → (gi s7 85 8 ≠ 1 ∨ gi s7 85 9 < 6 ∨ 8 < gi s7 85 9) → lwW s1 = 1 := fun s7 a b => by
    rcases hC s7 a with z | ⟨z, w, z1, z2, z3, z4⟩ <;> omega
  refine v_ln (M1 := Mq σ ρ) (M2 := Mq σ ρ) (M3 := Mq σ ρ) (M4 := Mq σ ρ) (M5 := Mq σ ρ) (M6 := Mq σ ρ) (by intros; first | exact hx | (exfalso; omega) | omega | (unfold rg; omega) | (exfalso; have z := (hD _ _ (by assumption) (by assumption) (by assumption) (by assumption) (by assumption)).2; omega)) (by intros; first | exact hx | (exfalso; omega) | omega | (unfold rg; omega) | (exfalso; have z := (hD _ _ (by assumption) (by assumption) (by assumption) (by assumption) (by assumption)).2; omega)) (by intros; first | exact hx | (exfalso; omega) | omega | (unfold rg; omega) | (exfalso; have z := (hD _ _ (by assumption) (by assumption) (by assumption) (by assumption) (by assumption)).2; omega)) (by intros; first | exact hx | (exfalso; omega) | omega | (unfold rg; omega) | (exfalso; have z := (hD _ _ (by assumption) (by assumption) (by assumption) (by assumption) (by assumption)).2; omega)) (by intros; first | exact hx | (exfalso; omega) | omega | (unfold rg; omega) | (exfalso; have z := (hD _ _ (by assumption) (by assumption) (by assumption) (by assumption) (by assumption)).2; omega)) (by intros; first | exact hx | (exfalso; omega) | omega | (unfold rg; omega) | (exfalso; have z := (hD _ _ (by assumption) (by assumption) (by assumption) (by assumption) (by assumption)).2; omega)) (by intros; first | exact hx | (exfalso; omega) | omega | (unfold rg; omega) | (exfalso; have z := (hD _ _ (by assumption) (by assumption) (by assumption) (by assumption) (by assumption)).2; omega)) (by intros; first | exact hx | (exfalso; omega) | omega | (unfold rg; omega) | (exfalso; have z := (hD _ _ (by assumption) (by assumption) (by assumption) (by assumption) (by assumption)).2; omega)) (by intros; first | exact hx | (exfalso; omega) | omega | (unfold rg; omega) | (exfalso; have z := (hD _ _ (by assumption) (by assumption) (by assumption) (by assumption) (by assumption)).2; omega)) (by intros; first | exact hx | (exfalso; omega) | omega | (unfold rg; omega) | (exfalso; have z := (hD _ _ (by assumption) (by assumption) (by assumption) (by assumption) (by assumption)).2; omega)) (by intros; first | exact hx | (exfalso; omega) | omega | (unfold rg; omega) | (exfalso; have z := (hD _ _ (by assumption) (by assumption) (by assumption) (by assumption) (by assumption)).2; omega)) ?_ ?_ ?_ ?_ ?_ ?_ ?_ ?_ ?_ ?_ ?_ ?_
  · intro q; exfalso; omega
  · intro _ _ _ s7 a b t10 e10 t11 e11
    have z := hE s7 a (by omega)
    have y := hB s7 a; rw [z] at y; subst e10; subst e11; exact y
  · intro _ _ _ s7 a b c t10 e10 t11 e11
    have z := hE s7 a (by omega)
    have y := hB s7 a; rw [z] at y; subst e10; subst e11; exact y
  · intro _ _ _ s7 a b c d x ex q
    have z := (hD s7 x a b c d ex).2
    exfalso; omega
  · intro _ _ _ s7 a b c d x ex q t10 e10 t11 e11
    have z := (hD s7 x a b c d ex).1
    have y := hB s7 a; rw [z] at y; subst e10; subst e11; exact y
  · intro _ _ _ s7 a b c d t10 e10 t11 e11
    have z := hE s7 a (by omega)
    have y := hB s7 a; rw [z] at y; subst e10; subst e11; exact y
  all_goals (intros; exfalso; omega)
/-- a law that was read is told -/
theorem law_RD {a w : Nat} {x2 : Int} {σ s3 t ρ ρ1 ρ2 : Mm} (hr : RD σ ρ) (hw : w < 3) (ha : gi σ 33 0 = (a : Int)) (nt : ¬ (gi σ 35 w < gi σ 36 w)) (g35 : ∀ i, gi s3 35 i = if i = w then (a : Int) else gi σ 35 i) (g36 : ∀ i, gi s3 36 i = gi σ 36 i) (gc : ∀ x i, (21 ≤ x ∧ x ≤ 32) → gi s3 x i = gi σ x i) (et : t = si s3 36 w (gi s3 33 0)) (lo : LwO a s3 ρ1) (h34 : ∀ i : Nat, i < a → gi s3 34 i = gi σ 34 i) (fr : ∀ x i, ¬ chS x i → ¬ ((x = 101 ∨ x = 102) ∧ i = 3 + w) → gi ρ1 x i = gi ρ x i) (r1 : gi ρ1 101 (3 + w) = 1) (r2 : gi ρ1 102 (3 + w) = (a : Int)) (fk : fKn a ρ ρ1) (e2 : ρ2 = si ρ1 103 (3 + w) (gi ρ1 85 21)) : RD t ρ2 := by
  have f2 : ∀ x i, ¬ (x = 103 ∧ i = 3 + w) → gi ρ2 x i = gi ρ1 x i := fun x i p => by rw [e2, gi_si, if_neg p]
  have f3 : gi ρ2 103 (3 + w) = gi ρ1 85 21 := by rw [e2, gi_hit]
  have ft : ∀ x i, ¬ (x = 36 ∧ i = w) → gi t x i = gi s3 x i := fun x i p => by rw [et, gi_si, if_neg p]
  have ft3 : gi t 36 w = gi s3 33 0 := by rw [et, gi_hit]
  clear e2 et
  obtain ⟨hJ, hC, hK, hA, hT, hL⟩ := hr
  obtain ⟨l1, l2, l3, l4, l5⟩ := hL
  obtain ⟨M, m1, m2, m3, m4, m5, m6, m7, m8⟩ := lo
  have d : ∀ x i, (x = 85 ∧ (17 ≤ i ∧ i ≤ 20)) ∨ (88 ≤ x ∧ x ≤ 100) → gi ρ2 x i = gi ρ x i := fun x i p => by
    rw [f2 x i (by omega), fr x i (by unfold chS; omega) (by omega)]
  have c : ∀ x i, (21 ≤ x ∧ x ≤ 32) → gi t x i = gi σ x i := fun x i p => by rw [ft x i (by omega), gc x i p]
  refine ⟨RJ_eq hJ (fun b i p => c b i (by omega)) (fun b i p => d b i (by omega)), RC_eq hC (fun b i p => c b i (by omega)) (Int.le_of_eq (c 21 0 (by omega)).symm) (fun b i p => d b i (by omega)), RK_eq hK (fun b i p => c b i (by omega)) (fun b i p => d b i (by omega)), RA_eq hA (fun b i p => c b i (by omega)) (fun b i p => d b i (by omega)), RT_eq hT (fun b i p => c b i (by omega)) (fun b i p => d b i (by omega)), ?_⟩
  have e34 : gi t 34 = gi s3 34 := by funext i; exact ft 34 i (by omega)
  unfold RLw
  rw [ft 33 0 (by omega), ft 37 6 (by omega), f2 85 21 (by omega), f2 85 46 (by omega), e34]
  refine ⟨by omega, m4, m5, m6, fun w' hw' => ?_⟩
  have o1 := l5 w' hw'
  by_cases z : w' = w
  · subst z
    have q35 : gi t 35 w' = (a : Int) := by rw [ft 35 w' (by omega), g35, if_pos rfl]
    rw [q35, ft3, f2 101 _ (by omega), f2 102 _ (by omega), f3, r1, r2, decide_eq_true (by omega : (a : Int) < gi s3 33 0)]
    refine ⟨by omega, rfl, fun _ => ⟨rfl, m5, ?_, ?_⟩⟩
    · have e : (gi s3 33 0 - (a : Int)).toNat = M := by omega
      rw [e, Int.toNat_natCast]
      exact KnR_cg m7 (fun _ _ => rfl) (fun x i _ _ _ => f2 x _ (by omega))
    · have e : (gi s3 33 0 - (a : Int)).toNat = M := by omega
      rw [e, Int.toNat_natCast]; exact m8
  · rw [ft 35 w' (by omega), ft 36 w' (by omega), g35, if_neg z, g36, f2 101 _ (by omega), f2 102 _ (by omega), f2 103 _ (by omega), fr 101 _ (by unfold chS; omega) (by omega), fr 102 _ (by unfold chS; omega) (by omega), fr 103 _ (by unfold chS; omega) (by omega)]
    obtain ⟨o2, o3, o4⟩ := o1
    refine ⟨by omega, o3, fun q => ?_⟩
    obtain ⟨o5, o6, o7, o8⟩ := o4 q
    refine ⟨o5, o6, KnR_cg o7 (fun i hi => h34 _ (by omega)) (fun x i u1 u2 u3 => by rw [f2 x _ (by omega)]; exact fk x _ u1 u2 (by omega)), ?_⟩
    rw [hS_cg _ (fun i hi => h34 _ (by omega))]; exact o8
theorem r_ln_L1 {n : Nat} {σ s1 s2 s3 t u ρ : Mm} {P : Int → Mm → Prop} (ht : TQ σ ρ) (hr : RD σ ρ) (h1 : gi σ 37 10 = 1) (h2 : gi σ 37 11 = 5) (t1 : TkR σ s1) (w0 : lwW s1 = 0) (t2 : TkR s1 s2) (ex : ExC (si s2 35 (gi s1 37 11 - 6).toNat (gi s2 33 0)) s3) (et : t = si s3 36 (gi s1 37 11 - 6).toNat (gi s3 33 0)) (tk : TkS (stW (gi t 37 10) (gi t 37 11)) t u) (hF : ∀ ρ', FQ u ρ' → kR ρ ρ' → P 0 ρ') (hO : ∀ ρ', TQ u ρ' → RD u ρ' → kR ρ ρ' → P 1 ρ') : Ci 179 [vr 85] (shF n) ρ P := by
  have kw := kw_c ht
  have k8 : gi ρ 85 8 = 1 := by omega
  have k9 : gi ρ 85 9 = 5 := by omega
  clear kw
  have hx := ht.2.1
  have hL := hr.2.2.2.2.2
  obtain ⟨l1, l2, l3, l4, l5⟩ := hL
  have hw : gi s1 37 10 = 1 ∧ (gi s1 37 11 = 6 + ((gi s1 37 11 - 6).toNat : Int)) ∧ (gi s1 37 11 - 6).toNat < 3 ∧ ¬ (gi s1 35 (gi s1 37 11 - 6).toNat < gi s1 36 (gi s1 37 11 - 6).toNat) := by
    unfold lwW at w0
    by_cases c : gi s1 37 10 ≠ 1 ∨ gi s1 37 11 < 6 ∨ 9 ≤ gi s1 37 11
    · rw [if_pos c] at w0; omega
    · rw [if_neg c] at w0
      refine ⟨by omega, by omega, by omega, fun z => ?_⟩
      rw [if_pos z] at w0; omega
  generalize (gi s1 37 11 - 6).toNat = w at hw ex et
  obtain ⟨w1, w2, w3, w4⟩ := hw
  rw [t1.1 35 w (by omega), t1.1 36 w (by omega)] at w4
  have ha : gi σ 33 0 = ((gi σ 33 0).toNat : Int) := by omega
  have ha2 : (gi σ 33 0).toNat ≤ 64 := by omega
  generalize (gi σ 33 0).toNat = a at ha ha2
  have e33 : gi s2 33 0 = (a : Int) := by rw [t2.1 33 0 (by omega), t1.1 33 0 (by omega)]; exact ha
  have hC : ∀ s7, TkM ρ s7 → TQ s1 s7 ∧ gi s7 85 8 = 1 ∧ gi s7 85 9 = 6 + (w : Int) ∧ gi s7 101 (3 + w) = 0 := fun s7 b => by
    have q := TQ_tok ht t1 b
    have k := kw_c q
    refine ⟨q, by omega, by omega, ?_⟩
    rw [b.1 101 _ (by omega), (l5 w w3).2.1, decide_eq_false w4]; rfl
  have kx := ex.2.2.1
  have gs : ∀ x i, ¬ (33 ≤ x ∧ x ≤ 35) → x ≠ 39 → ¬ (x = 37 ∧ 4 ≤ i) → gi s3 x i = gi σ x i := fun x i p q r => by
    rw [kx x i (by omega), gi_si, if_neg (by omega), t2.1 x i (by omega), t1.1 x i (by omega)]
  have g35 : ∀ i, gi s3 35 i = if i = w then (a : Int) else gi σ 35 i := fun i => by
    rw [kx 35 i (by omega), gi_si]
    by_cases z : i = w
    · rw [if_pos ⟨rfl, z⟩, if_pos z, e33]
    · rw [if_neg (by omega), if_neg z, t2.1 35 i (by omega), t1.1 35 i (by omega)]
  have hS : ∀ (s7 s23 t25 : Mm) (x : Nat), TkM ρ s7 → x = 3 + w → TkM (si s7 101 x 1) s23 → t25 = si s23 102 x (gi s23 85 21) → Ci 192 [vr 85] (shF n) t25 (Ml a w σ s3 ρ) := fun s7 s23 t25 x b ex2 b2 e25 => by
    subst ex2
    obtain ⟨q1, q2, q3, q4⟩ := hC s7 b
    have q5 : TQ s2 s23 := TQ_tok (TQ_eq q1 (fun _ _ _ => rfl) (fun y i p => by rw [gi_si, if_neg (by omega)])) t2 b2
    have fr : ∀ y i, ¬ (y = 85 ∧ (7 ≤ i ∧ i ≤ 10)) → ¬ ((y = 101 ∨ y = 102) ∧ i = 3 + w) → gi t25 y i = gi ρ y i := fun y i p q => by
      rw [e25, gi_si, if_neg (by omega), b2.1 y i p, gi_si, if_neg (by omega), b.1 y i p]
    have q101 : gi t25 101 (3 + w) = 1 := by rw [e25, gi_si, if_neg (by omega), b2.1 101 _ (by omega), gi_hit]
    have q21 : gi s23 85 21 = gi ρ 85 21 := by rw [b2.1 85 21 (by omega), gi_si, if_neg (by omega), b.1 85 21 (by omega)]
    have q102 : gi t25 102 (3 + w) = (a : Int) := by rw [e25, gi_hit, q21, l3]; exact ha
    have q6 : TQ (si s2 35 w (gi s2 33 0)) t25 := TQ_eq q5 (fun y i p => by rw [gi_si, if_neg (by omega)]) (fun y i p => by rw [e25, gi_si, if_neg (by omega)])
    have q7 : kR ρ t25 := fun y i p => fr y i (by unfold chM at p; omega) (by unfold chM at p; omega)
    have g33 : gi (si s2 35 w (gi s2 33 0)) 33 0 = (a : Int) := by rw [gi_si, if_neg (by omega)]; exact e33
    have g6 : gi (si s2 35 w (gi s2 33 0)) 37 6 = gi (si s2 35 w (gi s2 33 0)) 33 0 := by
      rw [g33, gi_si, if_neg (by omega), t2.1 37 6 (by omega), t1.1 37 6 (by omega), l2]; exact ha
    refine c_sum q6 (T4_eq (TkR_4 t2) fun i _ _ => by rw [gi_si, if_neg (by omega)]) g33 ha2 g6 ?_ ?_ ex (fun ρ' u1 u2 => Or.inl ⟨rfl, u1, kR_tr q7 (kS_R u2)⟩) (fun ρ' u1 u2 u3 u4 u5 u6 => Or.inr ⟨rfl, u1, u2, fun i hi => ?_, fun y i p q => ?_, ?_, ?_, fun y i p q r => ?_⟩)
    · rw [g33, fr 85 21 (by omega) (by omega), l3]; exact ha
    · rw [g33, fr 85 46 (by omega) (by omega), l4]; exact ha
    · rw [u4 i hi, gi_si, if_neg (by omega), t2.1 34 i (by omega), t1.1 34 i (by omega)]
    · rw [u5 y i p, fr y i (by unfold chS at p; omega) q]
    · rw [u5 101 _ (by unfold chS; omega)]; exact q101
    · rw [u5 102 _ (by unfold chS; omega)]; exact q102
    · rw [u6 y i p q r, fr y i (by omega) (by omega)]
  have hm : ∀ (v : Int) (s27 t29 : Mm) (x : Nat), Ml a w σ s3 ρ v s27 → x = 3 + w → t29 = si s27 103 x (gi s27 85 21) → Mq t ρ v t29 := fun v s27 t29 x m ex2 e29 => by
    subst ex2
    have f : ∀ y i, ¬ (y = 103 ∧ i = 3 + w) → gi t29 y i = gi s27 y i := fun y i p => by rw [e29, gi_si, if_neg p]
    have ft : ∀ y i, ¬ (y = 36) → gi t y i = gi s3 y i := fun y i p => by rw [et, gi_si, if_neg (by omega)]
    have k2 : kR s27 t29 := fun y i p => f y i (by unfold chM at p; omega)
    rcases m with ⟨v0, m1, m2⟩ | ⟨v1, m1, m2, m3, m4, m5, m6, m7⟩
    · refine Or.inl ⟨v0, ?_, kR_tr m2 k2⟩
      unfold FQ at m1 ⊢
      rw [f 85 4 (by omega), f 85 5 (by omega), ft 37 12 (by omega), ft 37 13 (by omega)]; exact m1
    · refine Or.inr ⟨v1, TQ_eq m1 (fun y i p => ft y i (by omega)) (fun y i p => f y i (by omega)), law_RD (x2 := 0) hr w3 ha w4 g35 (fun i => gs 36 i (by omega) (by omega) (by omega)) (fun y i p => gs y i (by omega) (by omega) (by omega)) et m2 m3 m4 m5 m6 m7 e29, kR_tr (fun y i p => m4 y i (by unfold chM at p; unfold chS; omega) (by unfold chM at p; omega)) k2⟩
  refine v_ln (M1 := Ml a w σ s3 ρ) (M2 := Mq t ρ) (M3 := Mq t ρ) (M4 := Mq t ρ) (M5 := Mq t ρ) (M6 := Mq t ρ) (by intros; first | exact hx | (exfalso; omega) | omega | (unfold rg; omega) | (subst_vars; exact Mx_si (Mx_tk hx (by assumption)) (by omega)) | (rename_i s7 b _ _ _ x ex _ t21 e21 s23 b2 t25 e25; subst e21; exact hS s7 s23 t25 x.toNat b (by have := hC s7 b; omega) b2 e25)) (by intros; first | exact hx | (exfalso; omega) | omega | (unfold rg; omega) | (subst_vars; exact Mx_si (Mx_tk hx (by assumption)) (by omega)) | (rename_i s7 b _ _ _ x ex _ t21 e21 s23 b2 t25 e25; subst e21; exact hS s7 s23 t25 x.toNat b (by have := hC s7 b; omega) b2 e25)) (by intros; first | exact hx | (exfalso; omega) | omega | (unfold rg; omega) | (subst_vars; exact Mx_si (Mx_tk hx (by assumption)) (by omega)) | (rename_i s7 b _ _ _ x ex _ t21 e21 s23 b2 t25 e25; subst e21; exact hS s7 s23 t25 x.toNat b (by have := hC s7 b; omega) b2 e25)) (by intros; first | exact hx | (exfalso; omega) | omega | (unfold rg; omega) | (subst_vars; exact Mx_si (Mx_tk hx (by assumption)) (by omega)) | (rename_i s7 b _ _ _ x ex _ t21 e21 s23 b2 t25 e25; subst e21; exact hS s7 s23 t25 x.toNat b (by have := hC s7 b; omega) b2 e25)) (by intros; first | exact hx | (exfalso; omega) | omega | (unfold rg; omega) | (subst_vars; exact Mx_si (Mx_tk hx (by assumption)) (by omega)) | (rename_i s7 b _ _ _ x ex _ t21 e21 s23 b2 t25 e25; subst e21; exact hS s7 s23 t25 x.toNat b (by have := hC s7 b; omega) b2 e25)) (by intros; first | exact hx | (exfalso; omega) | omega | (unfold rg; omega) | (subst_vars; exact Mx_si (Mx_tk hx (by assumption)) (by omega)) | (rename_i s7 b _ _ _ x ex _ t21 e21 s23 b2 t25 e25; subst e21; exact hS s7 s23 t25 x.toNat b (by have := hC s7 b; omega) b2 e25)) (by intros; first | exact hx | (exfalso; omega) | omega | (unfold rg; omega) | (subst_vars; exact Mx_si (Mx_tk hx (by assumption)) (by omega)) | (rename_i s7 b _ _ _ x ex _ t21 e21 s23 b2 t25 e25; subst e21; exact hS s7 s23 t25 x.toNat b (by have := hC s7 b; omega) b2 e25)) (by intros; first | exact hx | (exfalso; omega) | omega | (unfold rg; omega) | (subst_vars; exact Mx_si (Mx_tk hx (by assumption)) (by omega)) | (rename_i s7 b _ _ _ x ex _ t21 e21 s23 b2 t25 e25; subst e21; exact hS s7 s23 t25 x.toNat b (by have := hC s7 b; omega) b2 e25)) (by intros; first | exact hx | (exfalso; omega) | omega | (unfold rg; omega) | (subst_vars; exact Mx_si (Mx_tk hx (by assumption)) (by omega)) | (rename_i s7 b _ _ _ x ex _ t21 e21 s23 b2 t25 e25; subst e21; exact hS s7 s23 t25 x.toNat b (by have := hC s7 b; omega) b2 e25)) (by intros; first | exact hx | (exfalso; omega) | omega | (unfold rg; omega) | (subst_vars; exact Mx_si (Mx_tk hx (by assumption)) (by omega)) | (rename_i s7 b _ _ _ x ex _ t21 e21 s23 b2 t25 e25; subst e21; exact hS s7 s23 t25 x.toNat b (by have := hC s7 b; omega) b2 e25)) (by intros; first | exact hx | (exfalso; omega) | omega | (unfold rg; omega) | (subst_vars; exact Mx_si (Mx_tk hx (by assumption)) (by omega)) | (rename_i s7 b _ _ _ x ex _ t21 e21 s23 b2 t25 e25; subst e21; exact hS s7 s23 t25 x.toNat b (by have := hC s7 b; omega) b2 e25)) ?_ ?_ ?_ ?_ ?_ ?_ ?_ ?_ ?_ ?_ ?_ ?_
  · intro q; exfalso; omega
  · intro _ _ _ s7 b; intros; exfalso; have := hC s7 b; omega
  · intro _ _ _ s7 b; intros; exfalso; have := hC s7 b; omega
  · intro _ _ _ s7 b _ _ _ x ex _ t21 e21 s23 b2 t25 e25 v28 s27 m t29 e29
    exact r_lnX (hm v28 s27 t29 x.toNat m (by have := hC s7 b; omega) e29) tk hF hO
  · intro _ _ _ s7 b _ _ _ x ex q; intros; exfalso
    obtain ⟨c1, c2, c3, c4⟩ := hC s7 b
    have e : x.toNat = 3 + w := by omega
    rw [e] at q; exact q c4
  · intro _ _ _ s7 b; intros; exfalso; have := hC s7 b; omega
  all_goals (intros; exfalso; omega)
theorem r_line {n : Nat} {σ s ρ : Mm} {P : Int → Mm → Prop} (ht : TQ σ ρ) (hr : RD σ ρ) (h : LnR σ s) (hF : ∀ ρ', FQ s ρ' → kR ρ ρ' → P 0 ρ') (hO : ∀ ρ', TQ s ρ' → RD s ρ' → kR ρ ρ' → P 1 ρ') : Ci 179 [vr 85] (shF n) ρ P := by
  obtain ⟨hk, h0, t, u, lt, tk, es⟩ := h
  have fs : ∀ x i, ¬ (x = 21 ∧ i = 4) → gi s x i = gi u x i := fun x i p => by rw [es, gi_si, if_neg p]
  have hF' : ∀ ρ', FQ u ρ' → kR ρ ρ' → P 0 ρ' := fun ρ' f k => hF ρ' (by unfold FQ at f ⊢; rw [fs 37 12 (by omega), fs 37 13 (by omega)]; exact f) k
  have hO' : ∀ ρ', TQ u ρ' → RD u ρ' → kR ρ ρ' → P 1 ρ' := fun ρ' a b c => hO ρ' (TQ_eq a (fun x i p => fs x i (by omega)) (fun _ _ _ => rfl)) (RD_fr b (fun x i p q => fs x i q) (fun _ _ _ => rfl)) c
  rcases lt with ⟨a, b, j⟩ | ⟨a, b, j⟩ | ⟨a, b, j⟩ | ⟨a, b, j⟩ | ⟨a, b, j⟩ | ⟨a, b, j⟩ | ⟨a, j⟩
  · exact r_ln_0 ht hr a b j tk hF' hO'
  · exact r_ln_1 ht hr a b j tk hF' hO'
  · exact r_ln_2 ht hr a b j tk hF' hO'
  · exact r_ln_3 ht hr a b j tk hF' hO'
  · exact r_ln_4 ht hr a b j tk hF' hO'
  · obtain ⟨s1, t1, j⟩ := j
    rcases j with ⟨w1, e⟩ | ⟨w0, s2, s3, t2, ex, e⟩
    · subst e; exact r_ln_L0 ht hr a b t1 w1 tk hF'
    · exact r_ln_L1 ht hr a b t1 w0 t2 ex e tk hF' hO'
  · subst j; exact r_ln_bad ht a tk hF'
