/-! TEXT: expressions, the reference's sides -/
/-- what an expression may change of the reference -/
def chS (a i : Nat) : Prop := (a = 85 ∧ ((4 ≤ i ∧ i ≤ 11) ∨ i = 21 ∨ (43 ≤ i ∧ i ≤ 48))) ∨ ((104 ≤ a ∧ a ≤ 106) ∧ 64 ≤ i) ∨ a = 107 ∨ a = 108
def kS (ρ ρ' : Mm) : Prop := ∀ a i, ¬ chS a i → gi ρ' a i = gi ρ a i
theorem kS_rf (ρ : Mm) : kS ρ ρ := fun _ _ _ => rfl
theorem kS_tr {ρ ρ1 ρ2 : Mm} (a : kS ρ ρ1) (b : kS ρ1 ρ2) : kS ρ ρ2 := fun x i p => (b x i p).trans (a x i p)
theorem kS_f {ρ ρ' : Mm} (h : f85 ρ ρ') : kS ρ ρ' := fun a i p => h a i (by unfold chS at p; omega)
theorem kS_fr {ρ ρ' : Mm} (h : fr85 ρ ρ') : kS ρ ρ' := fun a i p => h a i (by unfold chS at p; omega)
theorem kS_R {ρ ρ' : Mm} (h : kS ρ ρ') : kR ρ ρ' := fun a i p => h a i (by unfold chM at p; unfold chS; omega)
def isK (ρ : Mm) (k : Int) : Int := if gi ρ 85 8 = 1 ∧ gi ρ 85 9 = k then 1 else 0
def isSg (ρ : Mm) (k : Int) : Int := if gi ρ 85 8 = 4 ∧ gi ρ 85 9 = k then 1 else 0
theorem isK_c (ρ : Mm) (k : Int) : (isK ρ k = 1 ∧ gi ρ 85 8 = 1 ∧ gi ρ 85 9 = k) ∨ (isK ρ k = 0 ∧ ¬ (gi ρ 85 8 = 1 ∧ gi ρ 85 9 = k)) := by
  unfold isK; split
  · rename_i h; exact Or.inl ⟨rfl, h⟩
  · rename_i h; exact Or.inr ⟨rfl, h⟩
theorem isSg_c (ρ : Mm) (k : Int) : (isSg ρ k = 1 ∧ gi ρ 85 8 = 4 ∧ gi ρ 85 9 = k) ∨ (isSg ρ k = 0 ∧ ¬ (gi ρ 85 8 = 4 ∧ gi ρ 85 9 = k)) := by
  unfold isSg; split
  · rename_i h; exact Or.inl ⟨rfl, h⟩
  · rename_i h; exact Or.inr ⟨rfl, h⟩
theorem v_isK {n : Nat}  (k : Int) {σ : Mm} {P : Int → Mm → Prop} (l1 : (gi σ 85 8) ≠ (1 : Int) → P 0 σ) (l2 : (gi σ 85 8) = (1 : Int) → (gi σ 85 9) ≠ k → P 0 σ) (l3 : (gi σ 85 8) = (1 : Int) → (gi σ 85 9) = k → P 1 σ) : Ci 166 [vr 85, vi k] (shF n) σ P :=
  show R 166 0 [some (vr 85), some (vi k)] [] (shF n) 0 0 σ (Qi (shF n) P) from wpK_R 11 [] (And.intro (fun q1 => And.intro ret0 (And.intro (Or.inl rfl) ⟨rfl, _, rfl, (l1 q1)⟩)) (fun q1 => And.intro (fun q2 => And.intro ret0 (And.intro (Or.inl rfl) ⟨rfl, _, rfl, (l2 (Classical.not_not.mp q1) q2)⟩)) (fun q2 => And.intro ret0 (And.intro (Or.inr rfl) ⟨rfl, _, rfl, (l3 (Classical.not_not.mp q1) (Classical.not_not.mp q2))⟩))))
theorem v_isS {n : Nat}  (k : Int) {σ : Mm} {P : Int → Mm → Prop} (l1 : (gi σ 85 8) ≠ (4 : Int) → P 0 σ) (l2 : (gi σ 85 8) = (4 : Int) → (gi σ 85 9) ≠ k → P 0 σ) (l3 : (gi σ 85 8) = (4 : Int) → (gi σ 85 9) = k → P 1 σ) : Ci 167 [vr 85, vi k] (shF n) σ P :=
  show R 167 0 [some (vr 85), some (vi k)] [] (shF n) 0 0 σ (Qi (shF n) P) from wpK_R 11 [] (And.intro (fun q1 => And.intro ret0 (And.intro (Or.inl rfl) ⟨rfl, _, rfl, (l1 q1)⟩)) (fun q1 => And.intro (fun q2 => And.intro ret0 (And.intro (Or.inl rfl) ⟨rfl, _, rfl, (l2 (Classical.not_not.mp q1) q2)⟩)) (fun q2 => And.intro ret0 (And.intro (Or.inr rfl) ⟨rfl, _, rfl, (l3 (Classical.not_not.mp q1) (Classical.not_not.mp q2))⟩))))
theorem c_isK {n : Nat} {k : Int} {σ : Mm} {P : Int → Mm → Prop} (hP : P (isK σ k) σ) : Ci 166 [vr 85, vi k] (shF n) σ P := by
  unfold isK at hP
  refine v_isK k ?_ ?_ ?_
  all_goals first
    | (intro a b; rw [if_pos ⟨a, b⟩] at hP; exact hP)
    | (intros; rw [if_neg (by omega)] at hP; exact hP)
theorem c_isS {n : Nat} {k : Int} {σ : Mm} {P : Int → Mm → Prop} (hP : P (isSg σ k) σ) : Ci 167 [vr 85, vi k] (shF n) σ P := by
  unfold isSg at hP
  refine v_isS k ?_ ?_ ?_
  all_goals first
    | (intro a b; rw [if_pos ⟨a, b⟩] at hP; exact hP)
    | (intros; rw [if_neg (by omega)] at hP; exact hP)
def nmMt (ρ : Mm) : Int := if gi ρ 85 8 = 1 ∧ 12 ≤ gi ρ 85 9 then gi ρ 85 9 - 12 else -1
theorem nmMt_c (ρ : Mm) : (nmMt ρ = gi ρ 85 9 - 12 ∧ gi ρ 85 8 = 1 ∧ 12 ≤ gi ρ 85 9) ∨ (nmMt ρ = -1 ∧ ¬ (gi ρ 85 8 = 1 ∧ 12 ≤ gi ρ 85 9)) := by
  unfold nmMt; split
  · rename_i h; exact Or.inl ⟨rfl, h⟩
  · rename_i h; exact Or.inr ⟨rfl, h⟩
theorem v_nmM {n : Nat}   {σ : Mm} {P : Int → Mm → Prop} (o1 : (gi σ 85 8) = (1 : Int) → (12 : Int) ≤ (gi σ 85 9) → rg ((gi σ 85 9) - 12)) (l1 : (gi σ 85 8) ≠ (1 : Int) → P (-1) σ) (l2 : (gi σ 85 8) = (1 : Int) → (gi σ 85 9) < (12 : Int) → P (-1) σ) (l3 : (gi σ 85 8) = (1 : Int) → (12 : Int) ≤ (gi σ 85 9) → P ((gi σ 85 9) - 12) σ) : Ci 189 [vr 85] (shF n) σ P :=
  show R 189 0 [some (vr 85)] [] (shF n) 0 0 σ (Qi (shF n) P) from wpK_R 14 [] (And.intro (fun q1 => And.intro ret0 ⟨rfl, _, rfl, (l1 q1)⟩) (fun q1 => And.intro (fun q2 => And.intro ret0 ⟨rfl, _, rfl, (l2 (Classical.not_not.mp q1) q2)⟩) (fun q2 => (have k3 := (o1 (Classical.not_not.mp q1) (Int.not_lt.mp q2)); And.intro k3 (And.intro ret0 ⟨rfl, _, rfl, (l3 (Classical.not_not.mp q1) (Int.not_lt.mp q2))⟩)))))
theorem c_nmM {n : Nat} {σ : Mm} {P : Int → Mm → Prop} (hr : gi σ 85 9 < 2147483648) (hP : P (nmMt σ) σ) : Ci 189 [vr 85] (shF n) σ P := by
  unfold nmMt at hP
  refine v_nmM (by intros; first | omega | (unfold rg; omega)) ?_ ?_ ?_
  all_goals first
    | (intro a b; rw [if_pos ⟨a, b⟩] at hP; exact hP)
    | (intros; rw [if_neg (by omega)] at hP; exact hP)
def IcR (ρ : Mm) (v : Int) (ρ' : Mm) : Prop := (v = 0 ∧ gi ρ 85 46 = 64 ∧ ρ' = wrM ρ 2) ∨ (v = 1 ∧ gi ρ 85 46 ≠ 64 ∧ ρ' = si ρ 85 46 (gi ρ 85 46 + 1))
theorem v_isC {n : Nat}   {σ : Mm} {P : Int → Mm → Prop} (o1 : (gi σ 85 46) ≠ (64 : Int) → rg ((gi σ 85 46) + 1)) (l1 : (gi σ 85 46) ≠ (64 : Int) → ∀ t3 : Mm, t3 = si σ 85 46 ((gi σ 85 46) + 1) → P 1 t3) (l2 : (gi σ 85 46) = (64 : Int) → ∀ t4 : Mm, t4 = si σ 85 4 (2 : Int) → ∀ t5 : Mm, t5 = si t4 85 5 (gi σ 85 10) → P 0 t5) : Ci 187 [vr 85] (shF n) σ P :=
  show R 187 0 [some (vr 85)] [] (shF n) 0 0 σ (Qi (shF n) P) from wpK_R 12 [] (And.intro (fun q1 => (have k2 := (o1 q1); And.intro k2 (And.intro ret0 (And.intro (Or.inr rfl) ⟨rfl, _, rfl, (l1 q1 _ rfl)⟩)))) (fun q1 => (show R 159 0 [some (vr 85), some (vi 2)] [] (shF n) 0 0 _ _ from wpK_R 9 [] (And.intro ret0 (And.intro (Or.inl rfl) ⟨rfl, _, rfl, And.intro ret0 (And.intro (Or.inl rfl) ⟨rfl, _, rfl, (l2 (Classical.not_not.mp q1) _ rfl _ rfl)⟩)⟩)))))
theorem c_isC {n : Nat} {σ : Mm} {P : Int → Mm → Prop} (h : 0 ≤ gi σ 85 46 ∧ gi σ 85 46 ≤ 64) (hP : ∀ v s, IcR σ v s → P v s) : Ci 187 [vr 85] (shF n) σ P := by
  refine v_isC (by intros; first | omega | (unfold rg; omega) | (subst_vars; simp only [gi_si, gi_sl, gl_si, gl_sl]; first | omega | (unfold rg; omega))) ?_ ?_
  · intro a t e; exact hP _ _ (Or.inr ⟨rfl, a, e⟩)
  · intro a t e t' e'; subst e e'; exact hP _ _ (Or.inl ⟨rfl, a, rfl⟩)
def wfM (ρ : Mm) (k : Int) : Mm := si (si ρ 107 (gi ρ 85 43).toNat k) 85 43 (gi ρ 85 43 + 1)
theorem v_wtF {n : Nat}  (k : Int) {σ : Mm} {P : Mm → Prop} (o1 : (0 ≤ (gi σ 85 43) ∧ (gi σ 85 43) < 96)) (o2 : ∀ t2 : Mm, t2 = si σ 107 (gi σ 85 43).toNat k → rg ((gi σ 85 43) + 1)) (l1 : ∀ t2 : Mm, t2 = si σ 107 (gi σ 85 43).toNat k → ∀ t4 : Mm, t4 = si t2 85 43 ((gi σ 85 43) + 1) → P t4) : Cv 188 [vr 85, vi k] (shF n) σ P :=
  show R 188 0 [some (vr 85), some (vi k)] [] (shF n) 0 0 σ (Qv (shF n) P) from wpK_R 13 [] ((have k1 := (o1); And.intro k1 ((have k3 := (o2 _ rfl); And.intro k3 (And.intro ret0 ⟨rfl, rfl, (l1 _ rfl _ rfl)⟩)))))
theorem c_wtF {n : Nat} {k : Int} {σ : Mm} {P : Mm → Prop} (h : 0 ≤ gi σ 85 43 ∧ gi σ 85 43 < 96) (hP : P (wfM σ k)) : Cv 188 [vr 85, vi k] (shF n) σ P := by
  refine v_wtF k (by intros; first | omega | (unfold rg; omega) | (subst_vars; simp only [gi_si, gi_sl, gl_si, gl_sl]; first | omega | (unfold rg; omega))) (by intros; first | omega | (unfold rg; omega) | (subst_vars; simp only [gi_si, gi_sl, gl_si, gl_sl]; first | omega | (unfold rg; omega))) ?_
  intro t e t' e'; subst e e'; exact hP
theorem EP_push {a : Nat} {d z : Int} {σ s ρ ρ' : Mm} (h : EP a d σ ρ) (h0 : 0 ≤ gi σ 37 4) (c4 : gi s 37 4 = gi σ 37 4 + 1) (cz : gi s 39 (gi σ 37 4).toNat = z) (c39 : ∀ i, i ≠ (gi σ 37 4).toNat → gi s 39 i = gi σ 39 i) (c34 : ∀ i, gi s 34 i = gi σ 34 i) (c33 : gi s 33 0 = gi σ 33 0) (r43 : gi ρ' 85 43 = gi ρ 85 43 + 1) (rz : gi ρ' 107 (gi ρ 85 43).toNat = wrF z) (r107 : ∀ i, i ≠ (gi ρ 85 43).toNat → gi ρ' 107 i = gi ρ 107 i) (r : ∀ x i, (x = 85 ∧ (i = 44 ∨ i = 21)) ∨ (104 ≤ x ∧ x ≤ 106) ∨ x = 108 → gi ρ' x i = gi ρ x i) : EP a (d - b2i (bnF z)) s ρ' := by
  obtain ⟨M, h1, h2, h3, h4, h5, h6, h7, h8⟩ := h
  have e34 : gi s 34 = gi σ 34 := funext fun i => c34 i
  refine ⟨M, ?_⟩
  rw [e34, c33, c4, r43, r 85 44 (by omega), r 85 21 (by omega)]
  refine ⟨h1, by omega, h3, fun j hj => ?_, KnR_eq (fun x y p q => r x y (by omega)) h5, h6, fun p hp => by rw [r 108 p (by omega)]; exact h7 p hp, ?_⟩
  · by_cases y : j = (gi σ 37 4).toNat
    · rw [y, cz, show (gi σ 37 4).toNat = (gi ρ 85 43).toNat by omega]; exact rz
    · rw [c39 j y, r107 j (by omega)]; exact h4 j (by omega)
  · rw [show (gi σ 37 4 + 1).toNat = (gi σ 37 4).toNat + 1 by omega, cnt_s, cz, cnt_congr (p' := fun j => bnF (gi σ 39 j)) fun q hq => by rw [c39 q (by omega)]]
    omega
def EY (a : Nat) (b : Int) (σ ρ : Mm) : Prop := TQ σ ρ ∧ XI σ ∧ EP a (1 - b) σ ρ ∧ gi ρ 85 45 = gi σ 37 5 ∧ gi ρ 85 46 = gi σ 37 6 ∧ gi ρ 85 47 = b ∧ (b = 0 ∨ b = 1) ∧ (b = 1 → (gi ρ 85 48 = 1 ∧ sgH σ ≤ 3) ∨ (gi ρ 85 48 = 0 ∧ 3 < sgH σ))
def EX (a : Nat) (b : Int) (σ ρ : Mm) : Prop := EY a b σ ρ ∧ T4 σ
theorem EY_pe {a : Nat} {b : Int} {s s' ρ : Mm} (p : PE s s') (h : EY a b s' ρ) : EY a b s ρ := by
  obtain ⟨h1, h2, h3, h4, h5, h6, h7, h8⟩ := h
  refine ⟨TQ_eq h1 (fun x i _ => p x i) (fun _ _ _ => rfl), XI_pe p h2, EP_pe p h3, by rw [p]; exact h4, by rw [p]; exact h5, h6, h7, ?_⟩
  rw [sgH_pe p]; exact h8
theorem EY_tk {a : Nat} {b : Int} {t s ρ ρ' : Mm} (h : EY a b t ρ) (k : TkR t s) (m : TkM ρ ρ') : EX a b s ρ' := by
  obtain ⟨h1, h2, h3, h4, h5, h6, h7, h8⟩ := h
  have f : ∀ x i, ¬ (x = 37 ∧ (8 ≤ i ∧ i ≤ 11)) → gi s x i = gi t x i := k.1
  have g : ∀ x i, ¬ (x = 85 ∧ (7 ≤ i ∧ i ≤ 10)) → gi ρ' x i = gi ρ x i := m.1
  have es : sgH s = sgH t := by unfold sgH; rw [f 37 4 (by omega), f 39 _ (by omega)]
  refine ⟨⟨TQ_tok h1 k m, XI_fr (fun x i p => f x i (by omega)) h2, EP_eq h3 (fun x i p => f x i (by omega)) (fun x i p => g x i (by omega)), by rw [f 37 5 (by omega), g 85 45 (by omega)]; exact h4, by rw [f 37 6 (by omega), g 85 46 (by omega)]; exact h5, by rw [g 85 47 (by omega)]; exact h6, h7, ?_⟩, TkR_4 k⟩
  rw [es, g 85 48 (by omega)]; exact h8
/-- a number or a name is met -/
theorem EY_le {a : Nat} {k v z : Int} {σ ρ ρ1 ρ2 ρ3 : Mm} (h : EY a 1 σ ρ) (hk : gi σ 37 6 < 64) (hz : (0 ≤ z ∧ z ≤ 9999 ∧ k = 0 ∧ v = z) ∨ (-7 ≤ z ∧ z < 0 ∧ k = 1 ∧ v = -1 - z)) (e1 : ρ1 = si ρ 85 46 (gi ρ 85 46 + 1)) (e2 : ρ2 = grM ρ1 k v 0) (e3 : ρ3 = si ρ2 85 47 0) : EY a 0 (leM σ z) ρ3 ∧ kS ρ ρ3 ∧ fKn a ρ ρ3 := by
  obtain ⟨h1, h2, h3, h4, h5, h6, h7, h8⟩ := h
  have hx := XI_in h2
  have hx2 := h2.2.1
  have h3' := h3
  obtain ⟨M, q1, q2, q3, q4, q5, q6, q7, q8⟩ := h3'
  have f1 : ∀ x i, ¬ (x = 85 ∧ i = 46) → gi ρ1 x i = gi ρ x i := fun x i p => by rw [e1, gi_si, if_neg p]
  obtain ⟨v1, v2, v3, v4, v5, v6⟩ := grM_v (ρ := ρ1) (k := k) (a := v) (b := 0)
  rw [← e2, f1 85 21 (by omega)] at v1 v3 v4 v5 v6
  rw [← e2, f1 85 44 (by omega)] at v2
  rw [f1 85 44 (by omega)] at v3
  rw [show ((64 : Int) + gi ρ 85 21).toNat = 64 + (gi ρ 85 21).toNat by omega] at v4 v5 v6
  have f2 : ∀ x i, ¬ ((x = 85 ∧ (i = 21 ∨ i = 44)) ∨ ((104 ≤ x ∧ x ≤ 106) ∧ i = 64 + (gi ρ 85 21).toNat) ∨ (x = 108 ∧ i = (gi ρ 85 44).toNat)) → gi ρ2 x i = gi ρ1 x i := fun x i p => by
    rw [e2]; exact grM_g (by rw [f1 85 21 (by omega), f1 85 44 (by omega)]; omega)
  have f3 : ∀ x i, ¬ (x = 85 ∧ i = 47) → gi ρ3 x i = gi ρ2 x i := fun x i p => by rw [e3, gi_si, if_neg p]
  have c : ∀ x i, ¬ (x = 37 ∧ i = 6) → x ≠ 34 → ¬ (x = 33 ∧ i = 0) → gi (leM σ z) x i = gi σ x i := fun x i p q r => by
    unfold leM; rw [gi_si, if_neg r, gi_si, if_neg (fun y => q y.1), gi_si, if_neg p]
  have c6 : gi (leM σ z) 37 6 = gi σ 37 6 + 1 := by unfold leM; rw [gi_si, if_neg (by omega), gi_si, if_neg (by omega), gi_hit]
  have c0 : gi (leM σ z) 33 0 = gi σ 33 0 + 1 := by unfold leM; rw [gi_hit]
  have cr : ∀ i, i ≠ (gi σ 33 0).toNat → gi (leM σ z) 34 i = gi σ 34 i := fun i p => by unfold leM; rw [gi_si, if_neg (by omega), gi_si, if_neg (by omega), gi_si, if_neg (by omega)]
  have cz : gi (leM σ z) 34 (gi σ 33 0).toNat = z := by unfold leM; rw [gi_si, if_neg (by omega), gi_hit]
  have all : ∀ x i, ¬ ((x = 85 ∧ (i = 21 ∨ i = 44 ∨ i = 46 ∨ i = 47)) ∨ ((104 ≤ x ∧ x ≤ 106) ∧ i = 64 + (gi ρ 85 21).toNat) ∨ (x = 108 ∧ i = (gi ρ 85 44).toNat)) → gi ρ3 x i = gi ρ x i := fun x i p => by
    rw [f3 x i (by omega), f2 x i (by omega), f1 x i (by omega)]
  refine ⟨⟨TQ_eq h1 (fun x i p => c x i (by omega) (by omega) (by omega)) (fun x i p => all x i (by omega)), XI_le h2 hk, ?_, by rw [c 37 5 (by omega) (by omega) (by omega), all 85 45 (by omega)]; exact h4, ?_, by rw [e3, gi_hit], Or.inl rfl, fun q => absurd q (by omega)⟩, fun x i p => all x i (by unfold chS at p; omega), fun x i p q hi => all x i (by omega)⟩
  · refine EP_leaf (z := z) h3 (by omega) (c 37 4 (by omega) (by omega) (by omega)) c0 (fun i => c 39 i (by omega) (by omega) (by omega)) cr cz (all 85 43 (by omega)) (by rw [f3 85 21 (by omega)]; exact v1) (by rw [f3 85 44 (by omega)]; exact v2) (fun i => all 107 i (by omega)) ?_ (by rw [f3 108 _ (by omega)]; exact v3) (fun i hi => all 108 i (by omega)) (fun x i p q hi => all x i (by omega))
    rw [f3 104 _ (by omega), f3 105 _ (by omega), v4, v5]
    omega
  · rw [c6, f3 85 46 (by omega), f2 85 46 (by omega), e1, gi_hit, h5]
/-- NOT or a bracket waits -/
theorem EY_w {a : Nat} {z b : Int} {σ t ρ ρ' : Mm} (h : EY a b σ ρ) (xt : XI t) (ct : ∀ x i, ¬ (x = 37 ∧ (4 ≤ i ∧ i ≤ 6)) → ¬ (x = 39 ∧ i = (gi σ 37 4).toNat) → gi t x i = gi σ x i) (c4 : gi t 37 4 = gi σ 37 4 + 1) (cz : gi t 39 (gi σ 37 4).toNat = z)
    (fr : ∀ x i, ¬ (x = 85 ∧ ((43 ≤ i ∧ i ≤ 48) ∧ i ≠ 44)) → ¬ (x = 107 ∧ i = (gi ρ 85 43).toNat) → gi ρ' x i = gi ρ x i) (r43 : gi ρ' 85 43 = gi ρ 85 43 + 1) (rz : gi ρ' 107 (gi ρ 85 43).toNat = wrF z) (r45 : gi ρ' 85 45 = gi t 37 5) (r46 : gi ρ' 85 46 = gi t 37 6) (r47 : gi ρ' 85 47 = 1) (r48 : (gi ρ' 85 48 = 1 ∧ stF z ≤ 3) ∨ (gi ρ' 85 48 = 0 ∧ 3 < stF z)) (hb : 1 - b - b2i (bnF z) = 0) : EY a 1 t ρ' ∧ kS ρ ρ' ∧ fKn a ρ ρ' := by
  obtain ⟨h1, h2, h3, h4, h5, h6, h7, h8⟩ := h
  have hx1 := h2.1
  have es : sgH t = stF z := by
    unfold sgH
    rw [if_pos (by omega), c4, show (gi σ 37 4 + 1 - 1).toNat = (gi σ 37 4).toNat by omega, cz]
  have hep : EP a (1 - 1) t ρ' := by
    have := EP_push (z := z) h3 hx1 c4 cz (fun i hi => ct 39 i (by omega) (by omega)) (fun i => ct 34 i (by omega) (by omega)) (ct 33 0 (by omega) (by omega)) r43 rz (fun i hi => fr 107 i (by omega) (by omega)) (fun x i p => fr x i (by omega) (by omega))
    rw [hb] at this
    exact this
  refine ⟨⟨TQ_eq h1 (fun x i p => ct x i (by omega) (by omega)) (fun x i p => fr x i (by omega) (by omega)), xt, hep, r45, r46, r47, Or.inr rfl, fun _ => by rw [es]; exact r48⟩, fun x i p => fr x i (by unfold chS at p; omega) (by unfold chS at p; omega), fun x i p q hi => fr x i (by omega) (by omega)⟩
theorem wfM_g {ρ : Mm} {k : Int} {x i : Nat} (h : ¬ (x = 85 ∧ i = 43) ∧ ¬ (x = 107 ∧ i = (gi ρ 85 43).toNat)) : gi (wfM ρ k) x i = gi ρ x i := by
  unfold wfM; rw [gi_si, if_neg h.1, gi_si, if_neg h.2]
theorem wfM_43 {ρ : Mm} {k : Int} : gi (wfM ρ k) 85 43 = gi ρ 85 43 + 1 := by unfold wfM; rw [gi_hit]
theorem wfM_z {ρ : Mm} {k : Int} : gi (wfM ρ k) 107 (gi ρ 85 43).toNat = k := by unfold wfM; rw [gi_si, if_neg (by omega), gi_hit]
theorem hlM_g {σ : Mm} {z : Int} {x i : Nat} (p : ¬ (x = 37 ∧ (4 ≤ i ∧ i ≤ 6))) (q : ¬ (x = 39 ∧ i = (gi σ 37 4).toNat)) : gi (hlM σ z) x i = gi σ x i := by
  unfold hlM; rw [gi_si, if_neg (by omega), gi_si, if_neg q, gi_si, if_neg (by omega)]
theorem hlM_4 {σ : Mm} {z : Int} : gi (hlM σ z) 37 4 = gi σ 37 4 + 1 ∧ gi (hlM σ z) 39 (gi σ 37 4).toNat = z ∧ gi (hlM σ z) 37 5 = gi σ 37 5 ∧ gi (hlM σ z) 37 6 = gi σ 37 6 + 1 := by
  unfold hlM
  exact ⟨by rw [gi_hit], by rw [gi_si, if_neg (by omega), gi_hit], by rw [gi_si, if_neg (by omega), gi_si, if_neg (by omega), gi_si, if_neg (by omega)], by rw [gi_si, if_neg (by omega), gi_si, if_neg (by omega), gi_hit]⟩
theorem EY_no {a : Nat} {σ ρ ρ1 ρ2 : Mm} (h : EY a 1 σ ρ) (hk : gi σ 37 6 < 64) (h48 : gi ρ 85 48 = 1) (e1 : ρ1 = si ρ 85 46 (gi ρ 85 46 + 1)) (e2 : ρ2 = wfM ρ1 2) : EY a 1 (hlM σ (-10)) ρ2 ∧ kS ρ ρ2 ∧ fKn a ρ ρ2 := by
  have f1 : ∀ x i, ¬ (x = 85 ∧ i = 46) → gi ρ1 x i = gi ρ x i := fun x i p => by rw [e1, gi_si, if_neg p]
  have e43 : gi ρ1 85 43 = gi ρ 85 43 := f1 85 43 (by omega)
  obtain ⟨d4, dz, d5, d6⟩ := hlM_4 (σ := σ) (z := -10)
  have h5 := h.2.2.2.2.1
  have h4 := h.2.2.2.1
  have h6 := h.2.2.2.2.2.1
  have f2 : ∀ x i, ¬ (x = 85 ∧ i = 43) → ¬ (x = 107 ∧ i = (gi ρ 85 43).toNat) → gi ρ2 x i = gi ρ1 x i := fun x i p q => by rw [e2]; exact wfM_g ⟨p, by rw [e43]; exact q⟩
  refine EY_w (z := -10) h (XI_hl h.2.1 hk (by omega)) (fun x i p q => hlM_g p q) d4 dz (fun x i p q => by rw [f2 x i (by omega) q, f1 x i (by omega)]) (by rw [e2, wfM_43, e43]) ?_ (by rw [f2 85 45 (by omega) (by omega), f1 85 45 (by omega), d5]; exact h4) ?_ (by rw [f2 85 47 (by omega) (by omega), f1 85 47 (by omega)]; exact h6) (Or.inl ⟨by rw [f2 85 48 (by omega) (by omega), f1 85 48 (by omega)]; exact h48, by decide⟩) (by decide)
  · rw [e2, ← e43, wfM_z]; rfl
  · rw [f2 85 46 (by omega) (by omega), e1, gi_hit, d6, h5]
theorem EY_op {a : Nat} {σ ρ ρ1 ρ2 ρ3 : Mm} (h : EY a 1 σ ρ) (hk : gi σ 37 5 < 8) (e1 : ρ1 = si ρ 85 45 (gi ρ 85 45 + 1)) (e2 : ρ2 = wfM ρ1 0) (e3 : ρ3 = si ρ2 85 48 1) : EY a 1 (opM σ) ρ3 ∧ kS ρ ρ3 ∧ fKn a ρ ρ3 := by
  have f1 : ∀ x i, ¬ (x = 85 ∧ i = 45) → gi ρ1 x i = gi ρ x i := fun x i p => by rw [e1, gi_si, if_neg p]
  have e43 : gi ρ1 85 43 = gi ρ 85 43 := f1 85 43 (by omega)
  have h5 := h.2.2.2.2.1
  have h4 := h.2.2.2.1
  have h6 := h.2.2.2.2.2.1
  have f2 : ∀ x i, ¬ (x = 85 ∧ i = 43) → ¬ (x = 107 ∧ i = (gi ρ 85 43).toNat) → gi ρ2 x i = gi ρ1 x i := fun x i p q => by rw [e2]; exact wfM_g ⟨p, by rw [e43]; exact q⟩
  have f3 : ∀ x i, ¬ (x = 85 ∧ i = 48) → gi ρ3 x i = gi ρ2 x i := fun x i p => by rw [e3, gi_si, if_neg p]
  have d4 : gi (opM σ) 37 4 = gi σ 37 4 + 1 := by unfold opM; rw [gi_hit]
  have dz : gi (opM σ) 39 (gi σ 37 4).toNat = -21 := by unfold opM; rw [gi_si, if_neg (by omega), gi_hit]
  have d5 : gi (opM σ) 37 5 = gi σ 37 5 + 1 := by unfold opM; rw [gi_si, if_neg (by omega), gi_si, if_neg (by omega), gi_hit]
  have d6 : gi (opM σ) 37 6 = gi σ 37 6 := by unfold opM; rw [gi_si, if_neg (by omega), gi_si, if_neg (by omega), gi_si, if_neg (by omega)]
  refine EY_w (z := -21) h (XI_op h.2.1 hk) (fun x i p q => by unfold opM; rw [gi_si, if_neg (by omega), gi_si, if_neg q, gi_si, if_neg (by omega)]) d4 dz (fun x i p q => by rw [f3 x i (by omega), f2 x i (by omega) q, f1 x i (by omega)]) (by rw [f3 85 43 (by omega), e2, wfM_43, e43]) ?_ ?_ (by rw [f3 85 46 (by omega), f2 85 46 (by omega) (by omega), f1 85 46 (by omega), d6]; exact h5) (by rw [f3 85 47 (by omega), f2 85 47 (by omega) (by omega), f1 85 47 (by omega)]; exact h6) (Or.inl ⟨by rw [e3, gi_hit], by decide⟩) (by decide)
  · rw [f3 107 _ (by omega), e2, ← e43, wfM_z]; rfl
  · rw [f3 85 45 (by omega), f2 85 45 (by omega) (by omega), e1, gi_hit, d5, h4]
