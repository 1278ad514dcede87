/-! TEXT: the reference's expression -/
theorem sto_c {a : Nat} {b : Int} {σ ρ : Mm} (h : EY a b σ ρ) : sto b σ ↔ (isSg ρ 59 ≠ 0 ∧ gi ρ 85 47 = 0 ∧ gi ρ 85 45 ≤ 0) := by
  have hr := h.1.2.2.2.2.2.2.1
  have h4 := h.2.2.2.1
  have h6 := h.2.2.2.2.2.1
  have hx := XI_in h.2.1
  have i := isSg_c ρ 59
  unfold TRl at hr
  unfold sto
  constructor
  · intro q; omega
  · intro q; omega
abbrev Ef (a : Nat) (b : Int) (s ρ : Mm) (v : Int) (ρ' : Mm) : Prop := v = 1 ∧ EX a b s ρ' ∧ kS ρ ρ' ∧ fKn a ρ ρ'
theorem r_side {n a : Nat} {b b' : Int} {σ s ρ : Mm} (h : EX a b σ ρ) (hs : XS b σ b' s) : (b = 1 → Ci 190 [vr 85] (shF n) ρ (Ef a b' s ρ)) ∧ (b = 0 → Ci 191 [vr 85] (shF n) ρ (Ef a b' s ρ)) := by
  obtain ⟨hn, hx, t4, h0, t, ho, tk⟩ := hs
  refine ⟨fun e => ?_, fun e => ?_⟩
  · subst e
    have ho := (ho.resolve_right (by omega)).2
    exact r_leafO h ho tk fun ρ' q1 q2 q3 => ⟨rfl, q1, q2, q3⟩
  · subst e
    have ho := (ho.resolve_left (by omega)).2
    rcases ho with ⟨e, hc, t', hr, pe⟩ | ⟨e, hc, hk, hst, t', hr, hno, pe⟩
    · subst e
      exact r_sgC h hc hr pe tk fun ρ' q1 q2 q3 => ⟨rfl, q1, q2, q3⟩
    · subst e
      exact r_sg0 h hc (r_sg1O h hk hst hr hno pe tk fun ρ' q1 q2 q3 => ⟨rfl, q1, q2, q3⟩)
abbrev Zf (w : Int) (σ ρ : Mm) (v : Int) (ρ' : Mm) : Prop := v = 0 ∧ gi ρ' 85 4 = w ∧ gi ρ' 85 5 = gi σ 37 9 ∧ kS ρ ρ'
theorem r_sideF {n a : Nat} {b w : Int} {σ ρ : Mm} (h : EX a b σ ρ) (hs : XZ b σ w) : (b = 1 → Ci 190 [vr 85] (shF n) ρ (Zf w σ ρ)) ∧ (b = 0 → Ci 191 [vr 85] (shF n) ρ (Zf w σ ρ)) := by
  obtain ⟨hn, hx, t4, h0, ho⟩ := hs
  refine ⟨fun e => ?_, fun e => ?_⟩
  · subst e
    have ho := (ho.resolve_right (by omega)).2
    exact r_leafF h ho fun ρ' q1 q2 q3 => ⟨rfl, q1, q2, q3⟩
  · subst e
    have ho := (ho.resolve_left (by omega)).2
    exact r_sg0 h ho.1 (r_sg1F h ho fun ρ' q1 q2 q3 => ⟨rfl, q1, q2, q3⟩)
theorem v_sum_0 {n : Nat}   {σ : Mm} {P : Int → Mm → Prop} (l1 : ∀ t1 : Mm, t1 = si σ 85 43 (0 : Int) → ∀ t2 : Mm, t2 = si t1 85 44 (0 : Int) → ∀ t3 : Mm, t3 = si t2 85 45 (0 : Int) → ∀ t4 : Mm, t4 = si t3 85 47 (1 : Int) → ∀ t5 : Mm, t5 = si t4 85 48 (1 : Int) → R 192 25 [some (vr 85)] [] (shF n) 0 0 t5 (Qi (shF n) P)) : Ci 192 [vr 85] (shF n) σ P :=
  show R 192 0 [some (vr 85)] [] (shF n) 0 0 σ (Qi (shF n) P) from wpK_R 16 [25] (And.intro (Or.inr rfl) (And.intro (Or.inr rfl) ((l1 _ rfl _ rfl _ rfl _ rfl _ rfl))))
theorem v_sum {n : Nat}   {M1 : Int → Mm → Prop} {M2 : Int → Mm → Prop} {M3 : Int → Mm → Prop} {M4 : Int → Mm → Prop} {M5 : Mm → Prop} {M6 : Int → Mm → Prop} {M7 : Int → Mm → Prop} {σ : Mm} {P : Int → Mm → Prop} (o1 : ∀ x1 : Int, x1 = isSg σ (59 : Int) → x1 = (0 : Int) → (gi σ 85 47) = (0 : Int) → Ci 191 [vr 85] (shF n) σ M1) (o2 : ∀ x1 : Int, x1 = isSg σ (59 : Int) → x1 = (0 : Int) → (gi σ 85 47) ≠ (0 : Int) → Ci 190 [vr 85] (shF n) σ M2) (o3 : ∀ x1 : Int, x1 = isSg σ (59 : Int) → x1 ≠ (0 : Int) → (gi σ 85 47) ≠ (0 : Int) → (gi σ 85 47) = (0 : Int) → Ci 191 [vr 85] (shF n) σ M3) (o4 : ∀ x1 : Int, x1 = isSg σ (59 : Int) → x1 ≠ (0 : Int) → (gi σ 85 47) ≠ (0 : Int) → (gi σ 85 47) ≠ (0 : Int) → Ci 190 [vr 85] (shF n) σ M4) (o5 : ∀ x1 : Int, x1 = isSg σ (59 : Int) → x1 ≠ (0 : Int) → (gi σ 85 47) = (0 : Int) → (gi σ 85 45) ≤ (0 : Int) → Cv 186 [vr 85, vi 1] (shF n) σ M5) (o6 : ∀ x1 : Int, x1 = isSg σ (59 : Int) → x1 ≠ (0 : Int) → (gi σ 85 47) = (0 : Int) → (0 : Int) < (gi σ 85 45) → (gi σ 85 47) = (0 : Int) → Ci 191 [vr 85] (shF n) σ M6) (o7 : ∀ x1 : Int, x1 = isSg σ (59 : Int) → x1 ≠ (0 : Int) → (gi σ 85 47) = (0 : Int) → (0 : Int) < (gi σ 85 45) → (gi σ 85 47) ≠ (0 : Int) → Ci 190 [vr 85] (shF n) σ M7) (l1 : ∀ x1 : Int, x1 = isSg σ (59 : Int) → x1 = (0 : Int) → (gi σ 85 47) = (0 : Int) → ∀ (v6 : Int) (s5 : Mm), M1 v6 s5 → v6 ≠ (0 : Int) → R 192 25 [some (vr 85)] [] (shF n) 0 0 s5 (Qi (shF n) P)) (l2 : ∀ x1 : Int, x1 = isSg σ (59 : Int) → x1 = (0 : Int) → (gi σ 85 47) = (0 : Int) → ∀ (v6 : Int) (s5 : Mm), M1 v6 s5 → v6 = (0 : Int) → P 0 s5) (l3 : ∀ x1 : Int, x1 = isSg σ (59 : Int) → x1 = (0 : Int) → (gi σ 85 47) ≠ (0 : Int) → ∀ (v10 : Int) (s9 : Mm), M2 v10 s9 → v10 = (0 : Int) → P 0 s9) (l4 : ∀ x1 : Int, x1 = isSg σ (59 : Int) → x1 = (0 : Int) → (gi σ 85 47) ≠ (0 : Int) → ∀ (v10 : Int) (s9 : Mm), M2 v10 s9 → v10 ≠ (0 : Int) → R 192 25 [some (vr 85)] [] (shF n) 0 0 s9 (Qi (shF n) P)) (l5 : ∀ x1 : Int, x1 = isSg σ (59 : Int) → x1 ≠ (0 : Int) → (gi σ 85 47) ≠ (0 : Int) → (gi σ 85 47) = (0 : Int) → ∀ (v16 : Int) (s15 : Mm), M3 v16 s15 → v16 ≠ (0 : Int) → R 192 25 [some (vr 85)] [] (shF n) 0 0 s15 (Qi (shF n) P)) (l6 : ∀ x1 : Int, x1 = isSg σ (59 : Int) → x1 ≠ (0 : Int) → (gi σ 85 47) ≠ (0 : Int) → (gi σ 85 47) = (0 : Int) → ∀ (v16 : Int) (s15 : Mm), M3 v16 s15 → v16 = (0 : Int) → P 0 s15) (l7 : ∀ x1 : Int, x1 = isSg σ (59 : Int) → x1 ≠ (0 : Int) → (gi σ 85 47) ≠ (0 : Int) → (gi σ 85 47) ≠ (0 : Int) → ∀ (v20 : Int) (s19 : Mm), M4 v20 s19 → v20 = (0 : Int) → P 0 s19) (l8 : ∀ x1 : Int, x1 = isSg σ (59 : Int) → x1 ≠ (0 : Int) → (gi σ 85 47) ≠ (0 : Int) → (gi σ 85 47) ≠ (0 : Int) → ∀ (v20 : Int) (s19 : Mm), M4 v20 s19 → v20 ≠ (0 : Int) → R 192 25 [some (vr 85)] [] (shF n) 0 0 s19 (Qi (shF n) P)) (l9 : ∀ x1 : Int, x1 = isSg σ (59 : Int) → x1 ≠ (0 : Int) → (gi σ 85 47) = (0 : Int) → (gi σ 85 45) ≤ (0 : Int) → ∀ s24 : Mm, M5 s24 → P 1 s24) (l10 : ∀ x1 : Int, x1 = isSg σ (59 : Int) → x1 ≠ (0 : Int) → (gi σ 85 47) = (0 : Int) → (0 : Int) < (gi σ 85 45) → (gi σ 85 47) = (0 : Int) → ∀ (v28 : Int) (s27 : Mm), M6 v28 s27 → v28 ≠ (0 : Int) → R 192 25 [some (vr 85)] [] (shF n) 0 0 s27 (Qi (shF n) P)) (l11 : ∀ x1 : Int, x1 = isSg σ (59 : Int) → x1 ≠ (0 : Int) → (gi σ 85 47) = (0 : Int) → (0 : Int) < (gi σ 85 45) → (gi σ 85 47) = (0 : Int) → ∀ (v28 : Int) (s27 : Mm), M6 v28 s27 → v28 = (0 : Int) → P 0 s27) (l12 : ∀ x1 : Int, x1 = isSg σ (59 : Int) → x1 ≠ (0 : Int) → (gi σ 85 47) = (0 : Int) → (0 : Int) < (gi σ 85 45) → (gi σ 85 47) ≠ (0 : Int) → ∀ (v32 : Int) (s31 : Mm), M7 v32 s31 → v32 = (0 : Int) → P 0 s31) (l13 : ∀ x1 : Int, x1 = isSg σ (59 : Int) → x1 ≠ (0 : Int) → (gi σ 85 47) = (0 : Int) → (0 : Int) < (gi σ 85 45) → (gi σ 85 47) ≠ (0 : Int) → ∀ (v32 : Int) (s31 : Mm), M7 v32 s31 → v32 ≠ (0 : Int) → R 192 25 [some (vr 85)] [] (shF n) 0 0 s31 (Qi (shF n) P)) : R 192 25 [some (vr 85)] [] (shF n) 0 0 σ (Qi (shF n) P) :=
  wpK_R 18 [25] ((c_isS   (And.intro (fun q2 => And.intro (fun q3 => (Ci_mono (o1 _ rfl q2 q3) (fun v6 s5 h4 => And.intro (fun q7 => (l1 _ rfl q2 q3 v6 s5 h4 q7)) (fun q7 => And.intro ret0 (And.intro (Or.inl rfl) ⟨rfl, _, rfl, (l2 _ rfl q2 q3 v6 s5 h4 (Classical.not_not.mp q7))⟩))))) (fun q3 => (Ci_mono (o2 _ rfl q2 q3) (fun v10 s9 h8 => And.intro (fun q11 => And.intro ret0 (And.intro (Or.inl rfl) ⟨rfl, _, rfl, (l3 _ rfl q2 q3 v10 s9 h8 q11)⟩)) (fun q11 => (l4 _ rfl q2 q3 v10 s9 h8 q11)))))) (fun q2 => And.intro (fun q12 => And.intro (fun q13 => (Ci_mono (o3 _ rfl q2 q12 q13) (fun v16 s15 h14 => And.intro (fun q17 => (l5 _ rfl q2 q12 q13 v16 s15 h14 q17)) (fun q17 => And.intro ret0 (And.intro (Or.inl rfl) ⟨rfl, _, rfl, (l6 _ rfl q2 q12 q13 v16 s15 h14 (Classical.not_not.mp q17))⟩))))) (fun q13 => (Ci_mono (o4 _ rfl q2 q12 q13) (fun v20 s19 h18 => And.intro (fun q21 => And.intro ret0 (And.intro (Or.inl rfl) ⟨rfl, _, rfl, (l7 _ rfl q2 q12 q13 v20 s19 h18 q21)⟩)) (fun q21 => (l8 _ rfl q2 q12 q13 v20 s19 h18 q21)))))) (fun q12 => And.intro (fun q22 => (Cv_mono (o5 _ rfl q2 (Classical.not_not.mp q12) q22) (fun s24 h23 => And.intro ret0 (And.intro (Or.inr rfl) ⟨rfl, _, rfl, (l9 _ rfl q2 (Classical.not_not.mp q12) q22 s24 h23)⟩)))) (fun q22 => And.intro (fun q25 => (Ci_mono (o6 _ rfl q2 (Classical.not_not.mp q12) (Int.not_le.mp q22) q25) (fun v28 s27 h26 => And.intro (fun q29 => (l10 _ rfl q2 (Classical.not_not.mp q12) (Int.not_le.mp q22) q25 v28 s27 h26 q29)) (fun q29 => And.intro ret0 (And.intro (Or.inl rfl) ⟨rfl, _, rfl, (l11 _ rfl q2 (Classical.not_not.mp q12) (Int.not_le.mp q22) q25 v28 s27 h26 (Classical.not_not.mp q29))⟩))))) (fun q25 => (Ci_mono (o7 _ rfl q2 (Classical.not_not.mp q12) (Int.not_le.mp q22) q25) (fun v32 s31 h30 => And.intro (fun q33 => And.intro ret0 (And.intro (Or.inl rfl) ⟨rfl, _, rfl, (l12 _ rfl q2 (Classical.not_not.mp q12) (Int.not_le.mp q22) q25 v32 s31 h30 q33)⟩)) (fun q33 => (l13 _ rfl q2 (Classical.not_not.mp q12) (Int.not_le.mp q22) q25 v32 s31 h30 q33)))))))))))
theorem r_sumS {n a : Nat} {b b' : Int} {σ s ρ : Mm} {P : Int → Mm → Prop} (h : EX a b σ ρ) (hs : XS b σ b' s) (hP : ∀ ρ', EX a b' s ρ' → kS ρ ρ' → fKn a ρ ρ' → R 192 25 [some (vr 85)] [] (shF n) 0 0 ρ' (Qi (shF n) P)) : R 192 25 [some (vr 85)] [] (shF n) 0 0 ρ (Qi (shF n) P) := by
  obtain ⟨k1, k2⟩ := r_side (n := n) h hs
  have hn := (not_congr (sto_c h.1)).mp hs.1
  have h47 := h.1.2.2.2.2.2.1
  have hb := h.1.2.2.2.2.2.2.1
  have hn' : isSg ρ 59 ≠ 0 → gi ρ 85 47 = 0 → 0 < gi ρ 85 45 := fun q w => Classical.byContradiction fun u => hn ⟨q, w, by omega⟩
  refine v_sum (M1 := Ef a b' s ρ) (M2 := Ef a b' s ρ) (M3 := Ef a b' s ρ) (M4 := Ef a b' s ρ) (M5 := fun _ => True) (M6 := Ef a b' s ρ) (M7 := Ef a b' s ρ) (by intros; first | (exfalso; omega) | exact k1 (by omega) | exact k2 (by omega)) (by intros; first | (exfalso; omega) | exact k1 (by omega) | exact k2 (by omega)) (by intros; first | (exfalso; omega) | exact k1 (by omega) | exact k2 (by omega)) (by intros; first | (exfalso; omega) | exact k1 (by omega) | exact k2 (by omega)) (by intros; first | (exfalso; omega) | exact k1 (by omega) | exact k2 (by omega)) (by intros; first | (exfalso; omega) | exact k1 (by omega) | exact k2 (by omega)) (by intros; first | (exfalso; omega) | exact k1 (by omega) | exact k2 (by omega)) ?_ ?_ ?_ ?_ ?_ ?_ ?_ ?_ ?_ ?_ ?_ ?_ ?_
  all_goals intros
  all_goals first
    | (exfalso; omega)
    | (rename_i z y; exact hP _ z.2.1 z.2.2.1 z.2.2.2)
theorem r_sumF {n a : Nat} {b w : Int} {σ ρ : Mm} {P : Int → Mm → Prop} (h : EX a b σ ρ) (hs : XZ b σ w) (hP : ∀ ρ', gi ρ' 85 4 = w → gi ρ' 85 5 = gi σ 37 9 → kS ρ ρ' → P 0 ρ') : R 192 25 [some (vr 85)] [] (shF n) 0 0 ρ (Qi (shF n) P) := by
  obtain ⟨k1, k2⟩ := r_sideF (n := n) h hs
  have hn := (not_congr (sto_c h.1)).mp hs.1
  have h47 := h.1.2.2.2.2.2.1
  have hb := h.1.2.2.2.2.2.2.1
  have hn' : isSg ρ 59 ≠ 0 → gi ρ 85 47 = 0 → 0 < gi ρ 85 45 := fun q w => Classical.byContradiction fun u => hn ⟨q, w, by omega⟩
  refine v_sum (M1 := Zf w σ ρ) (M2 := Zf w σ ρ) (M3 := Zf w σ ρ) (M4 := Zf w σ ρ) (M5 := fun _ => True) (M6 := Zf w σ ρ) (M7 := Zf w σ ρ) (by intros; first | (exfalso; omega) | exact k1 (by omega) | exact k2 (by omega)) (by intros; first | (exfalso; omega) | exact k1 (by omega) | exact k2 (by omega)) (by intros; first | (exfalso; omega) | exact k1 (by omega) | exact k2 (by omega)) (by intros; first | (exfalso; omega) | exact k1 (by omega) | exact k2 (by omega)) (by intros; first | (exfalso; omega) | exact k1 (by omega) | exact k2 (by omega)) (by intros; first | (exfalso; omega) | exact k1 (by omega) | exact k2 (by omega)) (by intros; first | (exfalso; omega) | exact k1 (by omega) | exact k2 (by omega)) ?_ ?_ ?_ ?_ ?_ ?_ ?_ ?_ ?_ ?_ ?_ ?_ ?_
  all_goals intros
  all_goals first
    | (exfalso; omega)
    | (rename_i z y; exact hP _ z.2.1 z.2.2.1 z.2.2.2)
theorem r_sumE {n a t : Nat} {b : Int} {σ ρ : Mm} {P : Int → Mm → Prop} (h : EX a b σ ρ) (hs : sto b σ) (hr : Rls 1 σ t) (hP : ∀ ρ', BiR a t σ ρ ρ' → P 1 ρ') : R 192 25 [some (vr 85)] [] (shF n) 0 0 ρ (Qi (shF n) P) := by
  obtain ⟨y1, y2, y3⟩ := (sto_c h.1).mp hs
  have hb0 : b = 0 := hs.1
  subst hb0
  refine v_sum (M1 := fun _ _ => True) (M2 := fun _ _ => True) (M3 := fun _ _ => True) (M4 := fun _ _ => True) (M5 := BiR a t σ ρ) (M6 := fun _ _ => True) (M7 := fun _ _ => True) (by intros; first | (exfalso; omega) | exact c_bi (by omega) h.1.2.1 hr h.1.2.2.1 (fun _ q => q)) (by intros; first | (exfalso; omega) | exact c_bi (by omega) h.1.2.1 hr h.1.2.2.1 (fun _ q => q)) (by intros; first | (exfalso; omega) | exact c_bi (by omega) h.1.2.1 hr h.1.2.2.1 (fun _ q => q)) (by intros; first | (exfalso; omega) | exact c_bi (by omega) h.1.2.1 hr h.1.2.2.1 (fun _ q => q)) (by intros; first | (exfalso; omega) | exact c_bi (by omega) h.1.2.1 hr h.1.2.2.1 (fun _ q => q)) (by intros; first | (exfalso; omega) | exact c_bi (by omega) h.1.2.1 hr h.1.2.2.1 (fun _ q => q)) (by intros; first | (exfalso; omega) | exact c_bi (by omega) h.1.2.1 hr h.1.2.2.1 (fun _ q => q)) ?_ ?_ ?_ ?_ ?_ ?_ ?_ ?_ ?_ ?_ ?_ ?_ ?_
  all_goals intros
  all_goals first
    | (exfalso; omega)
    | exact hP _ (by assumption)
/-- knots below stay -/
theorem XS_row {b b' : Int} {σ s : Mm} (h : XS b σ b' s) : gi σ 33 0 ≤ gi s 33 0 ∧ ∀ i : Nat, (i : Int) < gi σ 33 0 → gi s 34 i = gi σ 34 i := by
  obtain ⟨hn, hx, t4, h0, t, ho, tk⟩ := h
  have hx2 := hx.2.1
  rw [tk.1 33 0 (by omega)]
  have g : gi σ 33 0 ≤ gi t 33 0 ∧ ∀ i : Nat, (i : Int) < gi σ 33 0 → gi t 34 i = gi σ 34 i := by
    have hp : ∀ t', (gi σ 33 0 ≤ gi (popM σ t') 33 0) ∧ ∀ i : Nat, (i : Int) < gi σ 33 0 → gi (popM σ t') 34 i = gi σ 34 i := fun t' => ⟨by rw [gp_0]; omega, fun i hi => by rw [gPo, if_neg (by omega), if_neg (by omega), if_neg (by omega)]⟩
    rcases ho with ⟨-, ⟨-, -, z, -, pe⟩ | ⟨-, -, -, -, -, pe⟩ | ⟨-, -, -, -, pe⟩⟩ | ⟨-, ⟨-, -, t', -, pe⟩ | ⟨-, -, -, -, t', -, -, pe⟩⟩
    · rw [pe]
      exact ⟨by unfold leM; rw [gi_hit]; omega, fun i hi => by rw [pe]; unfold leM; rw [gi_si, if_neg (by omega), gi_si, if_neg (by omega), gi_si, if_neg (by omega)]⟩
    · rw [pe, hlM_g (by omega) (by omega)]
      exact ⟨by omega, fun i hi => by rw [pe, hlM_g (by omega) (by omega)]⟩
    · rw [pe]
      exact ⟨by unfold opM; rw [gi_si, if_neg (by omega), gi_si, if_neg (by omega), gi_si, if_neg (by omega)]; omega, fun i hi => by rw [pe]; unfold opM; rw [gi_si, if_neg (by omega), gi_si, if_neg (by omega), gi_si, if_neg (by omega)]⟩
    · rw [pe]
      exact ⟨by unfold clM; rw [gi_si, if_neg (by omega), gi_si, if_neg (by omega)]; exact (hp t').1, fun i hi => by rw [pe]; unfold clM; rw [gi_si, if_neg (by omega), gi_si, if_neg (by omega)]; exact (hp t').2 i hi⟩
    · rw [pe, hlM_g (by omega) (by omega)]
      exact ⟨(hp t').1, fun i hi => by rw [pe, hlM_g (by omega) (by omega)]; exact (hp t').2 i hi⟩
  exact ⟨g.1, fun i hi => by rw [tk.1 34 i (by omega)]; exact g.2 i hi⟩
theorem StX_row {b b' : Int} {σ s : Mm} (h : StX b σ b' s) : gi σ 33 0 ≤ gi s 33 0 ∧ ∀ i : Nat, (i : Int) < gi σ 33 0 → gi s 34 i = gi σ 34 i := by
  refine h (fun _ τ => gi σ 33 0 ≤ gi τ 33 0 ∧ ∀ i : Nat, (i : Int) < gi σ 33 0 → gi τ 34 i = gi σ 34 i) ⟨Int.le_refl _, fun _ _ => rfl⟩ fun b1 s1 b2 s2 q k => ?_
  have z := XS_row k
  exact ⟨Int.le_trans q.1 z.1, fun i hi => by rw [z.2 i (by omega)]; exact q.2 i hi⟩
/-- an expression, both -/
def LwO (a : Nat) (s ρ : Mm) : Prop := ∃ M : Nat, 1 ≤ M ∧ gi s 33 0 = ((a + M : Nat) : Int) ∧ gi s 33 0 ≤ 64 ∧ gi s 37 6 = gi s 33 0 ∧ gi ρ 85 21 = gi s 33 0 ∧ gi ρ 85 46 = gi s 33 0 ∧ KnR (gi s 34) ρ 64 a M ∧ (hS (gi s 34) a M).2 = 1
theorem c_sum {n a : Nat} {σ s ρ : Mm} {P : Int → Mm → Prop} (ht : TQ σ ρ) (t4 : T4 σ) (ha : gi σ 33 0 = (a : Int)) (ha2 : a ≤ 64) (h6 : gi σ 37 6 = gi σ 33 0) (r21 : gi ρ 85 21 = gi σ 33 0) (r46 : gi ρ 85 46 = gi σ 33 0) (hx : ExC σ s) (hF : ∀ ρ', FQ s ρ' → kS ρ ρ' → P 0 ρ') (hO : ∀ ρ', TQ s ρ' → LwO a s ρ' → (gi s 37 10 = 4 ∧ gi s 37 11 = -23) → (∀ i : Nat, i < a → gi s 34 i = gi σ 34 i) → kS ρ ρ' → fKn a ρ ρ' → P 1 ρ') : Ci 192 [vr 85] (shF n) ρ P := by
  obtain ⟨⟨b', σ', st, hx⟩, lx, kx, -⟩ := hx
  have hrow := StX_row st
  have f2 : ∀ x i, ¬ (x = 37 ∧ (i = 4 ∨ i = 5)) → gi (iniM σ) x i = gi σ x i := fun x i p => by unfold iniM; rw [gi_si, if_neg (by omega), gi_si, if_neg (by omega)]
  have i4 : gi (iniM σ) 37 4 = 0 := by unfold iniM; rw [gi_si, if_neg (by omega), gi_hit]
  have i5 : gi (iniM σ) 37 5 = 0 := by unfold iniM; rw [gi_hit]
  have xi0 : XI (iniM σ) := by
    unfold XI
    rw [i4, i5, f2 33 0 (by omega), f2 37 6 (by omega)]
    exact ⟨by omega, by omega, rfl, by omega, by omega, by omega, fun j hj => by omega⟩
  rw [f2 33 0 (by omega)] at hrow
  refine v_sum_0 ?_
  intro t1 e1 t2 e2 t3 e3 t4' e4 t5 e5
  have g : ∀ x i, ¬ (x = 85 ∧ (43 ≤ i ∧ i ≤ 48 ∧ i ≠ 46)) → gi t5 x i = gi ρ x i := fun x i p => by
    rw [e5, gi_si, if_neg (by omega), e4, gi_si, if_neg (by omega), e3, gi_si, if_neg (by omega), e2, gi_si, if_neg (by omega), e1, gi_si, if_neg (by omega)]
  have g43 : gi t5 85 43 = 0 := by rw [e5, gi_si, if_neg (by omega), e4, gi_si, if_neg (by omega), e3, gi_si, if_neg (by omega), e2, gi_si, if_neg (by omega), e1, gi_hit]
  have g44 : gi t5 85 44 = 0 := by rw [e5, gi_si, if_neg (by omega), e4, gi_si, if_neg (by omega), e3, gi_si, if_neg (by omega), e2, gi_hit]
  have g45 : gi t5 85 45 = 0 := by rw [e5, gi_si, if_neg (by omega), e4, gi_si, if_neg (by omega), e3, gi_hit]
  have g47 : gi t5 85 47 = 1 := by rw [e5, gi_si, if_neg (by omega), e4, gi_hit]
  have g48 : gi t5 85 48 = 1 := by rw [e5, gi_hit]
  have ex0 : EX a 1 (iniM σ) t5 := by
    refine ⟨⟨TQ_eq ht (fun x i p => f2 x i (by omega)) (fun x i p => g x i (by omega)), xi0, ⟨0, by rw [f2 33 0 (by omega), ha]; rfl, by rw [g43, i4], by rw [g 85 21 (by omega), f2 33 0 (by omega)]; exact r21, fun j hj => by omega, fun m hm => by omega, by rw [g44]; rfl, fun p hp => absurd hp (Nat.not_lt_zero _), by rw [i4]; rfl⟩, by rw [g45, i5], by rw [g 85 46 (by omega), f2 37 6 (by omega), h6]; exact r46, g47, Or.inr rfl, fun _ => Or.inl ⟨g48, ?_⟩⟩, T4_eq t4 fun i _ _ => f2 37 i (by omega)⟩
    unfold sgH
    rw [i4, if_neg (by omega)]
    decide
  have hkr : kS ρ t5 := fun x i p => g x i (by unfold chS at p; omega)
  have hfk : fKn a ρ t5 := fun x i p q r => g x i (by omega)
  have key := st (fun b τ => (∀ ρ1, EX a b τ ρ1 → kS t5 ρ1 → fKn a t5 ρ1 → R 192 25 [some (vr 85)] [] (shF n) 0 0 ρ1 (Qi (shF n) P)) → R 192 25 [some (vr 85)] [] (shF n) 0 0 t5 (Qi (shF n) P)) (fun H => H t5 ex0 (kS_rf _) (fun _ _ _ _ _ => rfl)) (fun b1 s1 b2 s2 q k H => q fun ρ1 p1 p2 p3 => r_sumS p1 k fun ρ2 w1 w2 w3 => H ρ2 w1 (kS_tr p2 w2) (fun x i y1 y2 y3 => (w3 x i y1 y2 y3).trans (p3 x i y1 y2 y3)))
  refine key fun ρ1 p1 p2 p3 => ?_
  rcases hx with ⟨q1, q2, q3, q4, q5, q6⟩ | ⟨w, q1, q2, q3, q4⟩
  · refine r_sumE p1 q2 q6 fun ρ2 bi => ?_
    have hb0 : b' = 0 := q2.1
    subst hb0
    obtain ⟨y1, y2, y3⟩ := EY_bi (by omega) p1.1 q6 bi
    have y1' := EY_pe q5 y1
    obtain ⟨z1, z2, ⟨M, m1, m2, m3, m4, m5, m6, m7, m8⟩, z4, z5, z6, z7, z8⟩ := y1'
    have s4 : gi s 37 4 = 0 := by rw [q5, gp_4]; have := q3.1; omega
    have s5 : gi s 37 5 = 0 := by rw [q5, gp_o (by omega)]; exact q2.2.1
    rw [s4] at m8
    have zx := z2.2.2.2.1
    have zx2 := z2.2.2.2.2.1
    have hM : 1 ≤ M := by
      refine Classical.byContradiction fun u => ?_
      have : M = 0 := by omega
      subst this
      have : ((hS (gi s 34) a 0).2 : Int) = 0 := rfl
      have : cnt (fun j => bnF (gi s 39 j)) (0 : Int).toNat = 0 := rfl
      omega
    have hc0 : cnt (fun j => bnF (gi s 39 j)) (0 : Int).toNat = 0 := rfl
    refine hO ρ2 z1 ⟨M, hM, m1, by omega, by omega, m3, by omega, m5, by omega⟩ ⟨by rw [q5, gp_o (by omega)]; exact q2.2.2.1, by rw [q5, gp_o (by omega)]; exact q2.2.2.2⟩ (fun i hi => ?_) (kS_tr hkr (kS_tr p2 y2)) (fun x i u1 u2 u3 => (y3 x i u1 u2 u3).trans ((p3 x i u1 u2 u3).trans (hfk x i u1 u2 u3)))
    have hs0 := q3.2.1
    rw [q5, gPo, if_neg (by omega), if_neg (by omega), if_neg (by omega), hrow.2 i (by omega), f2 34 i (by omega)]
  · refine r_sumF p1 q2 fun ρ2 u1 u2 u3 => hF ρ2 ⟨by omega, by rw [u1, q3], by rw [u2, q4]⟩ (kS_tr hkr (kS_tr p2 u3))
