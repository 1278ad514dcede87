/-! TEXT: expressions, the class's small steps -/
def stF (x : Int) : Int := if x = -20 ∨ x = -19 then 6 else if x = -18 ∨ x = -17 then 5 else if x = -10 then 3 else if x = -9 then 2 else if x = -8 then 1 else if x = -21 ∨ x = -22 ∨ x = -23 then 0 else 4
theorem stF_in (x : Int) : 0 ≤ stF x ∧ stF x ≤ 6 := by unfold stF; (repeat' split) <;> omega
theorem v_str {n : Nat}  (x : Int) {σ : Mm} {P : Int → Mm → Prop} (l1 : (x < -23 ∨ -8 < x) → P 4 σ) (l2 : x = -23 → P 0 σ) (l3 : x = -22 → P 0 σ) (l4 : x = -21 → P 0 σ) (l5 : x = -20 → P 6 σ) (l6 : x = -19 → P 6 σ) (l7 : x = -18 → P 5 σ) (l8 : x = -17 → P 5 σ) (l9 : x = -16 → P 4 σ) (l10 : x = -15 → P 4 σ) (l11 : x = -14 → P 4 σ) (l12 : x = -13 → P 4 σ) (l13 : x = -12 → P 4 σ) (l14 : x = -11 → P 4 σ) (l15 : x = -10 → P 3 σ) (l16 : x = -9 → P 2 σ) (l17 : x = -8 → P 1 σ) : Ci 57 [vi x] (shF n) σ P :=
  show R 57 0 [some (vi x)] [] (shF n) 0 0 σ (Qi (shF n) P) from wpK_R 4 [] (And.intro (fun q1 => And.intro ret0 ⟨rfl, _, rfl, (l1 q1)⟩) (And.intro (fun q1 => And.intro ret0 ⟨rfl, _, rfl, (l2 q1)⟩) (And.intro (fun q1 => And.intro ret0 ⟨rfl, _, rfl, (l3 q1)⟩) (And.intro (fun q1 => And.intro ret0 ⟨rfl, _, rfl, (l4 q1)⟩) (And.intro (fun q1 => And.intro ret0 ⟨rfl, _, rfl, (l5 q1)⟩) (And.intro (fun q1 => And.intro ret0 ⟨rfl, _, rfl, (l6 q1)⟩) (And.intro (fun q1 => And.intro ret0 ⟨rfl, _, rfl, (l7 q1)⟩) (And.intro (fun q1 => And.intro ret0 ⟨rfl, _, rfl, (l8 q1)⟩) (And.intro (fun q1 => And.intro ret0 ⟨rfl, _, rfl, (l9 q1)⟩) (And.intro (fun q1 => And.intro ret0 ⟨rfl, _, rfl, (l10 q1)⟩) (And.intro (fun q1 => And.intro ret0 ⟨rfl, _, rfl, (l11 q1)⟩) (And.intro (fun q1 => And.intro ret0 ⟨rfl, _, rfl, (l12 q1)⟩) (And.intro (fun q1 => And.intro ret0 ⟨rfl, _, rfl, (l13 q1)⟩) (And.intro (fun q1 => And.intro ret0 ⟨rfl, _, rfl, (l14 q1)⟩) (And.intro (fun q1 => And.intro ret0 ⟨rfl, _, rfl, (l15 q1)⟩) (And.intro (fun q1 => And.intro ret0 ⟨rfl, _, rfl, (l16 q1)⟩) (And.intro (fun q1 => And.intro ret0 ⟨rfl, _, rfl, (l17 q1)⟩) (trivial))))))))))))))))))
theorem c_str {n : Nat} {x : Int} {σ : Mm} {P : Int → Mm → Prop} (hP : P (stF x) σ) : Ci 57 [vi x] (shF n) σ P := by
  refine v_str x ?_ ?_ ?_ ?_ ?_ ?_ ?_ ?_ ?_ ?_ ?_ ?_ ?_ ?_ ?_ ?_ ?_
  all_goals (intro e; refine p_eq hP ?_)
  · unfold stF
    rw [if_neg (by omega), if_neg (by omega), if_neg (by omega), if_neg (by omega), if_neg (by omega), if_neg (by omega)]
  all_goals (subst e; rfl)
def sgH (σ : Mm) : Int := if 0 < gi σ 37 4 then stF (gi σ 39 (gi σ 37 4 - 1).toNat) else 0
theorem v_sth {n : Nat}   {σ : Mm} {P : Int → Mm → Prop} (o1 : (0 : Int) < (gi σ 37 4) → rg ((gi σ 37 4) - 1)) (o2 : (0 : Int) < (gi σ 37 4) → (0 ≤ ((gi σ 37 4) - 1) ∧ ((gi σ 37 4) - 1) < 72)) (l1 : (gi σ 37 4) ≤ (0 : Int) → P 0 σ) (l2 : (0 : Int) < (gi σ 37 4) → ∀ x4 : Int, x4 = stF (gi σ 39 ((gi σ 37 4) - 1).toNat) → P x4 σ) : Ci 58 [vr 37] (shF n) σ P :=
  show R 58 0 [some (vr 37)] [] (shF n) 0 0 σ (Qi (shF n) P) from wpK_R 13 [] (And.intro (fun q1 => And.intro ret0 ⟨rfl, _, rfl, (l1 q1)⟩) (fun q1 => (have k2 := (o1 (Int.not_le.mp q1)); And.intro k2 ((have k3 := (o2 (Int.not_le.mp q1)); And.intro k3 ((c_str   (And.intro ret0 ⟨rfl, _, rfl, (l2 (Int.not_le.mp q1) _ rfl)⟩))))))))
theorem c_sth {n : Nat} {σ : Mm} {P : Int → Mm → Prop} (h : 0 ≤ gi σ 37 4 ∧ gi σ 37 4 ≤ 72) (hP : P (sgH σ) σ) : Ci 58 [vr 37] (shF n) σ P := by
  refine v_sth (by intros; first | omega | (unfold rg; omega) | (subst_vars; simp only [gi_si, gi_sl, gl_si, gl_sl]; first | omega | (unfold rg; omega))) (by intros; first | omega | (unfold rg; omega) | (subst_vars; simp only [gi_si, gi_sl, gl_si, gl_sl]; first | omega | (unfold rg; omega))) ?_ ?_
  · intro e; refine p_eq hP ?_; unfold sgH; rw [if_neg (by omega)]
  · intro e x ex; refine p_eq hP ?_; unfold sgH; rw [if_pos e, ex]
def jnF (k v : Int) : Int := if k = 4 then v else if k = 1 ∧ v = 9 then -8 else if k = 1 ∧ v = 10 then -9 else -21
theorem v_jnh {n : Nat}   {σ : Mm} {P : Int → Mm → Prop} (l1 : (gi σ 37 10) ≠ (4 : Int) → (gi σ 37 10) ≠ (1 : Int) → (gi σ 37 10) ≠ (1 : Int) → P (-21) σ) (l2 : (gi σ 37 10) ≠ (4 : Int) → (gi σ 37 10) ≠ (1 : Int) → (gi σ 37 10) = (1 : Int) → (gi σ 37 11) ≠ (10 : Int) → P (-21) σ) (l3 : (gi σ 37 10) ≠ (4 : Int) → (gi σ 37 10) ≠ (1 : Int) → (gi σ 37 10) = (1 : Int) → (gi σ 37 11) = (10 : Int) → P (-9) σ) (l4 : (gi σ 37 10) ≠ (4 : Int) → (gi σ 37 10) = (1 : Int) → (gi σ 37 11) ≠ (9 : Int) → (gi σ 37 10) ≠ (1 : Int) → P (-21) σ) (l5 : (gi σ 37 10) ≠ (4 : Int) → (gi σ 37 10) = (1 : Int) → (gi σ 37 11) ≠ (9 : Int) → (gi σ 37 10) = (1 : Int) → (gi σ 37 11) ≠ (10 : Int) → P (-21) σ) (l6 : (gi σ 37 10) ≠ (4 : Int) → (gi σ 37 10) = (1 : Int) → (gi σ 37 11) ≠ (9 : Int) → (gi σ 37 10) = (1 : Int) → (gi σ 37 11) = (10 : Int) → P (-9) σ) (l7 : (gi σ 37 10) ≠ (4 : Int) → (gi σ 37 10) = (1 : Int) → (gi σ 37 11) = (9 : Int) → P (-8) σ) (l8 : (gi σ 37 10) = (4 : Int) → P (gi σ 37 11) σ) : Ci 56 [vr 37] (shF n) σ P :=
  show R 56 0 [some (vr 37)] [] (shF n) 0 0 σ (Qi (shF n) P) from wpK_R 23 [] (And.intro (fun q1 => And.intro (fun q2 => And.intro (fun q3 => And.intro ret0 ⟨rfl, _, rfl, (l1 q1 q2 q3)⟩) (fun q3 => And.intro (fun q4 => And.intro ret0 ⟨rfl, _, rfl, (l2 q1 q2 (Classical.not_not.mp q3) q4)⟩) (fun q4 => And.intro ret0 ⟨rfl, _, rfl, (l3 q1 q2 (Classical.not_not.mp q3) (Classical.not_not.mp q4))⟩))) (fun q2 => And.intro (fun q5 => And.intro (fun q6 => And.intro ret0 ⟨rfl, _, rfl, (l4 q1 (Classical.not_not.mp q2) q5 q6)⟩) (fun q6 => And.intro (fun q7 => And.intro ret0 ⟨rfl, _, rfl, (l5 q1 (Classical.not_not.mp q2) q5 (Classical.not_not.mp q6) q7)⟩) (fun q7 => And.intro ret0 ⟨rfl, _, rfl, (l6 q1 (Classical.not_not.mp q2) q5 (Classical.not_not.mp q6) (Classical.not_not.mp q7))⟩))) (fun q5 => And.intro ret0 ⟨rfl, _, rfl, (l7 q1 (Classical.not_not.mp q2) (Classical.not_not.mp q5))⟩))) (fun q1 => And.intro ret0 ⟨rfl, _, rfl, (l8 (Classical.not_not.mp q1))⟩))
theorem c_jnh {n : Nat} {σ : Mm} {P : Int → Mm → Prop} (hP : P (jnF (gi σ 37 10) (gi σ 37 11)) σ) : Ci 56 [vr 37] (shF n) σ P := by
  refine v_jnh ?_ ?_ ?_ ?_ ?_ ?_ ?_ ?_
  all_goals (intros; refine p_eq hP ?_; unfold jnF; (repeat' split) <;> omega)
def rfC (σ : Mm) (w : Int) : Mm := if gi σ 37 12 = 0 then rfM σ w else σ
theorem v_rfs {n : Nat}  (w : Int) {σ : Mm} {P : Mm → Prop} (l1 : (gi σ 37 12) ≠ (0 : Int) → P σ) (l2 : (gi σ 37 12) = (0 : Int) → ∀ t2 : Mm, t2 = si σ 37 12 w → ∀ t3 : Mm, t3 = si t2 37 13 (gi σ 37 9) → P t3) : Cv 41 [vr 37, vi w] (shF n) σ P :=
  show R 41 0 [some (vr 37), some (vi w)] [] (shF n) 0 0 σ (Qv (shF n) P) from wpK_R 11 [] (And.intro (fun q1 => And.intro ret0 ⟨rfl, rfl, (l1 q1)⟩) (fun q1 => And.intro ret0 ⟨rfl, rfl, (l2 (Classical.not_not.mp q1) _ rfl _ rfl)⟩))
theorem c_rfs {n : Nat} {w : Int} {σ : Mm} {P : Mm → Prop} (hP : P (rfC σ w)) : Cv 41 [vr 37, vi w] (shF n) σ P := by
  refine v_rfs w ?_ ?_
  · intro e; unfold rfC at hP; rw [if_neg e] at hP; exact hP
  · intro e t et t' et'; unfold rfC at hP; rw [if_pos e] at hP; subst et et'; exact hP
def mkC (σ : Mm) (f : Int) : Mm := si (if f ≠ 0 ∨ 64 ≤ gi σ 37 6 then rfC σ 2 else σ) 37 6 (gi σ 37 6 + 1)
theorem rfC_6 {σ : Mm} {w : Int} : gi (rfC σ w) 37 6 = gi σ 37 6 := by
  unfold rfC; split
  · unfold rfM; rw [g37, if_neg (by omega), g37, if_neg (by omega)]
  · rfl
theorem v_mkn {n : Nat}  (f : Int) {σ : Mm} {P : Mm → Prop} (o1 : f ≠ (0 : Int) → ∀ t2 : Mm, t2 = rfC σ (2 : Int) → rg ((gi t2 37 6) + 1)) (o2 : f = (0 : Int) → (gi σ 37 6) < (64 : Int) → rg ((gi σ 37 6) + 1)) (o3 : f = (0 : Int) → (64 : Int) ≤ (gi σ 37 6) → ∀ t8 : Mm, t8 = rfC σ (2 : Int) → rg ((gi t8 37 6) + 1)) (l1 : f ≠ (0 : Int) → ∀ t2 : Mm, t2 = rfC σ (2 : Int) → ∀ t4 : Mm, t4 = si t2 37 6 ((gi t2 37 6) + 1) → P t4) (l2 : f = (0 : Int) → (gi σ 37 6) < (64 : Int) → ∀ t7 : Mm, t7 = si σ 37 6 ((gi σ 37 6) + 1) → P t7) (l3 : f = (0 : Int) → (64 : Int) ≤ (gi σ 37 6) → ∀ t8 : Mm, t8 = rfC σ (2 : Int) → ∀ t10 : Mm, t10 = si t8 37 6 ((gi t8 37 6) + 1) → P t10) : Cv 59 [vr 37, vi f] (shF n) σ P :=
  show R 59 0 [some (vr 37), some (vi f)] [] (shF n) 0 0 σ (Qv (shF n) P) from wpK_R 16 [] (And.intro (fun q1 => (c_rfs   ((have k3 := (o1 q1 _ rfl); And.intro k3 (And.intro ret0 ⟨rfl, rfl, (l1 q1 _ rfl _ rfl)⟩))))) (fun q1 => And.intro (fun q5 => (have k6 := (o2 (Classical.not_not.mp q1) q5); And.intro k6 (And.intro ret0 ⟨rfl, rfl, (l2 (Classical.not_not.mp q1) q5 _ rfl)⟩))) (fun q5 => (c_rfs   ((have k9 := (o3 (Classical.not_not.mp q1) (Int.not_lt.mp q5) _ rfl); And.intro k9 (And.intro ret0 ⟨rfl, rfl, (l3 (Classical.not_not.mp q1) (Int.not_lt.mp q5) _ rfl _ rfl)⟩)))))))
theorem c_mkn {n : Nat} {f : Int} {σ : Mm} {P : Mm → Prop} (h : 0 ≤ gi σ 37 6 ∧ gi σ 37 6 ≤ 100) (hP : P (mkC σ f)) : Cv 59 [vr 37, vi f] (shF n) σ P := by
  have a1 : f ≠ 0 ∨ 64 ≤ gi σ 37 6 → P (si (rfC σ 2) 37 6 (gi σ 37 6 + 1)) := fun q => by unfold mkC at hP; rw [if_pos q] at hP; exact hP
  refine v_mkn f (by intros; subst_vars; first | omega | (unfold rg; omega) | (rw [rfC_6]; unfold rg; omega)) (by intros; subst_vars; first | omega | (unfold rg; omega) | (rw [rfC_6]; unfold rg; omega)) (by intros; subst_vars; first | omega | (unfold rg; omega) | (rw [rfC_6]; unfold rg; omega)) ?_ ?_ ?_
  · intro e t1 e1 t2 e2; subst e1 e2; rw [rfC_6]; exact a1 (Or.inl e)
  · intro e e3 t2 e2; subst e2; unfold mkC at hP; rw [if_neg (by omega)] at hP; exact hP
  · intro e e3 t1 e1 t2 e2; subst e1 e2; rw [rfC_6]; exact a1 (Or.inr e3)
def hoC (σ : Mm) (z : Int) : Mm := if gi σ 37 12 = 0 ∧ gi σ 37 4 < 72 then si (si σ 39 (gi σ 37 4).toNat z) 37 4 (gi σ 37 4 + 1) else σ
theorem v_hol {n : Nat}  (z : Int) {σ : Mm} {P : Mm → Prop} (o1 : (gi σ 37 12) = (0 : Int) → (gi σ 37 4) < (72 : Int) → (0 ≤ (gi σ 37 4) ∧ (gi σ 37 4) < 72)) (o2 : (gi σ 37 12) = (0 : Int) → (gi σ 37 4) < (72 : Int) → ∀ t4 : Mm, t4 = si σ 39 (gi σ 37 4).toNat z → rg ((gi σ 37 4) + 1)) (l1 : (gi σ 37 12) ≠ (0 : Int) → P σ) (l2 : (gi σ 37 12) = (0 : Int) → (72 : Int) ≤ (gi σ 37 4) → P σ) (l3 : (gi σ 37 12) = (0 : Int) → (gi σ 37 4) < (72 : Int) → ∀ t4 : Mm, t4 = si σ 39 (gi σ 37 4).toNat z → ∀ t6 : Mm, t6 = si t4 37 4 ((gi σ 37 4) + 1) → P t6) : Cv 60 [vr 37, vi z] (shF n) σ P :=
  show R 60 0 [some (vr 37), some (vi z)] [] (shF n) 0 0 σ (Qv (shF n) P) from wpK_R 22 [] (And.intro (fun q1 => And.intro ret0 ⟨rfl, rfl, (l1 q1)⟩) (fun q1 => And.intro (fun q2 => And.intro ret0 ⟨rfl, rfl, (l2 (Classical.not_not.mp q1) q2)⟩) (fun q2 => (have k3 := (o1 (Classical.not_not.mp q1) (Int.not_le.mp q2)); And.intro k3 ((have k5 := (o2 (Classical.not_not.mp q1) (Int.not_le.mp q2) _ rfl); And.intro k5 (And.intro ret0 ⟨rfl, rfl, (l3 (Classical.not_not.mp q1) (Int.not_le.mp q2) _ rfl _ rfl)⟩)))))))
theorem c_hol {n : Nat} {z : Int} {σ : Mm} {P : Mm → Prop} (h : 0 ≤ gi σ 37 4) (hP : P (hoC σ z)) : Cv 60 [vr 37, vi z] (shF n) σ P := by
  unfold hoC at hP
  refine v_hol z (by intros; first | omega | (unfold rg; omega) | (subst_vars; simp only [gi_si, gi_sl, gl_si, gl_sl]; first | omega | (unfold rg; omega))) (by intros; first | omega | (unfold rg; omega) | (subst_vars; simp only [gi_si, gi_sl, gl_si, gl_sl]; first | omega | (unfold rg; omega))) ?_ ?_ ?_
  · intro e; rw [if_neg (fun q => e q.1)] at hP; exact hP
  · intro e e2; rw [if_neg (fun q => by omega)] at hP; exact hP
  · intro e e2 t et t' et'; rw [if_pos ⟨e, e2⟩] at hP; subst et et'; exact hP
def emC (σ : Mm) (z : Int) : Mm := if gi σ 37 12 = 0 ∧ gi σ 33 0 < 64 then si (si σ 34 (gi σ 33 0).toNat z) 33 0 (gi σ 33 0 + 1) else σ
theorem v_emi {n : Nat}  (z : Int) {σ : Mm} {P : Mm → Prop} (o1 : (gi σ 37 12) = (0 : Int) → (gi σ 33 0) < (64 : Int) → (0 ≤ (gi σ 33 0) ∧ (gi σ 33 0) < 64)) (o2 : (gi σ 37 12) = (0 : Int) → (gi σ 33 0) < (64 : Int) → ∀ t4 : Mm, t4 = si σ 34 (gi σ 33 0).toNat z → rg ((gi σ 33 0) + 1)) (l1 : (gi σ 37 12) ≠ (0 : Int) → P σ) (l2 : (gi σ 37 12) = (0 : Int) → (64 : Int) ≤ (gi σ 33 0) → P σ) (l3 : (gi σ 37 12) = (0 : Int) → (gi σ 33 0) < (64 : Int) → ∀ t4 : Mm, t4 = si σ 34 (gi σ 33 0).toNat z → ∀ t6 : Mm, t6 = si t4 33 0 ((gi σ 33 0) + 1) → P t6) : Cv 61 [vr 37, vi z] (shF n) σ P :=
  show R 61 0 [some (vr 37), some (vi z)] [] (shF n) 0 0 σ (Qv (shF n) P) from wpK_R 28 [] (And.intro (fun q1 => And.intro ret0 ⟨rfl, rfl, (l1 q1)⟩) (fun q1 => And.intro (fun q2 => And.intro ret0 ⟨rfl, rfl, (l2 (Classical.not_not.mp q1) q2)⟩) (fun q2 => (have k3 := (o1 (Classical.not_not.mp q1) (Int.not_le.mp q2)); And.intro k3 ((have k5 := (o2 (Classical.not_not.mp q1) (Int.not_le.mp q2) _ rfl); And.intro k5 (And.intro ret0 ⟨rfl, rfl, (l3 (Classical.not_not.mp q1) (Int.not_le.mp q2) _ rfl _ rfl)⟩)))))))
theorem c_emi {n : Nat} {z : Int} {σ : Mm} {P : Mm → Prop} (h : 0 ≤ gi σ 33 0) (hP : P (emC σ z)) : Cv 61 [vr 37, vi z] (shF n) σ P := by
  unfold emC at hP
  refine v_emi z (by intros; first | omega | (unfold rg; omega) | (subst_vars; simp only [gi_si, gi_sl, gl_si, gl_sl]; first | omega | (unfold rg; omega))) (by intros; first | omega | (unfold rg; omega) | (subst_vars; simp only [gi_si, gi_sl, gl_si, gl_sl]; first | omega | (unfold rg; omega))) ?_ ?_ ?_
  · intro e; rw [if_neg (fun q => e q.1)] at hP; exact hP
  · intro e e2; rw [if_neg (fun q => by omega)] at hP; exact hP
  · intro e e2 t et t' et'; rw [if_pos ⟨e, e2⟩] at hP; subst et et'; exact hP
/-- t signs go from the held ones to the row -/
def popM (σ : Mm) (t : Nat) : Mm := (fun a i => if a = 37 ∧ i = 4 then gi σ 37 4 - (t : Int) else if a = 33 ∧ i = 0 then gi σ 33 0 + (t : Int) else if a = 34 ∧ (gi σ 33 0).toNat ≤ i ∧ i < (gi σ 33 0).toNat + t then gi σ 39 ((gi σ 37 4).toNat - 1 - (i - (gi σ 33 0).toNat)) else gi σ a i, σ.2)
theorem gPo {σ : Mm} {t a i : Nat} : gi (popM σ t) a i = if a = 37 ∧ i = 4 then gi σ 37 4 - (t : Int) else if a = 33 ∧ i = 0 then gi σ 33 0 + (t : Int) else if a = 34 ∧ (gi σ 33 0).toNat ≤ i ∧ i < (gi σ 33 0).toNat + t then gi σ 39 ((gi σ 37 4).toNat - 1 - (i - (gi σ 33 0).toNat)) else gi σ a i := rfl
theorem gp_o {σ : Mm} {t a i : Nat} (h : ¬ (a = 37 ∧ i = 4) ∧ ¬ (a = 33 ∧ i = 0) ∧ a ≠ 34) : gi (popM σ t) a i = gi σ a i := by
  rw [gPo, if_neg h.1, if_neg h.2.1, if_neg (fun q => h.2.2 q.1)]
theorem gp_4 {σ : Mm} {t : Nat} : gi (popM σ t) 37 4 = gi σ 37 4 - (t : Int) := by rw [gPo, if_pos ⟨rfl, rfl⟩]
theorem gp_0 {σ : Mm} {t : Nat} : gi (popM σ t) 33 0 = gi σ 33 0 + (t : Int) := by rw [gPo, if_neg (by omega), if_pos ⟨rfl, rfl⟩]
/-- an expression stands in order -/
def XI (σ : Mm) : Prop := 0 ≤ gi σ 37 4 ∧ 0 ≤ gi σ 33 0 ∧ gi σ 37 5 = cnt (fun j => decide (gi σ 39 j = -21)) (gi σ 37 4).toNat ∧ gi σ 33 0 + gi σ 37 4 - gi σ 37 5 = gi σ 37 6 ∧ gi σ 37 6 ≤ 64 ∧ gi σ 37 5 ≤ 8 ∧ ∀ j : Nat, (j : Int) < gi σ 37 4 → -21 ≤ gi σ 39 j ∧ gi σ 39 j ≤ -8
theorem XI_in {σ : Mm} (h : XI σ) : gi σ 37 4 ≤ 72 ∧ 0 ≤ gi σ 37 5 ∧ gi σ 37 5 ≤ gi σ 37 4 ∧ 0 ≤ gi σ 37 6 ∧ gi σ 33 0 ≤ gi σ 37 6 := by
  obtain ⟨a, b, c, d, e, f, g⟩ := h
  have z := cnt_in (fun j => decide (gi σ 39 j = -21)) (gi σ 37 4).toNat
  omega
/-- how many go -/
def Rls (m : Int) (σ : Mm) (t : Nat) : Prop := (t : Int) ≤ gi σ 37 4 ∧ (∀ u : Nat, u < t → m ≤ stF (gi σ 39 ((gi σ 37 4).toNat - 1 - u))) ∧ ((t : Int) = gi σ 37 4 ∨ stF (gi σ 39 ((gi σ 37 4).toNat - 1 - t)) < m)
theorem Rls_cnt {m : Int} {σ : Mm} (hm : 1 ≤ m) (hx : XI σ) : ∀ t : Nat, (t : Int) ≤ gi σ 37 4 → (∀ u : Nat, u < t → m ≤ stF (gi σ 39 ((gi σ 37 4).toNat - 1 - u))) → cnt (fun j => decide (gi σ 39 j = -21)) ((gi σ 37 4).toNat - t) = gi σ 37 5 := by
  intro t
  induction t with
  | zero => intro _ _; rw [Nat.sub_zero]; exact hx.2.2.1.symm
  | succ t ih =>
    intro h1 h2
    have ih := ih (by omega) fun u hu => h2 u (by omega)
    rw [show (gi σ 37 4).toNat - t = ((gi σ 37 4).toNat - (t + 1)) + 1 by omega, cnt_s] at ih
    have h3 := h2 t (by omega)
    rw [show (gi σ 37 4).toNat - 1 - t = (gi σ 37 4).toNat - (t + 1) by omega] at h3
    have hz : gi σ 39 ((gi σ 37 4).toNat - (t + 1)) ≠ -21 := fun q => by
      rw [q] at h3
      have : stF (-21) = 0 := rfl
      omega
    rw [decide_eq_false hz] at ih
    rw [show b2i false = 0 from rfl] at ih
    omega
/-- there is room for them -/
theorem Rls_rm {m : Int} {σ : Mm} (hm : 1 ≤ m) (hx : XI σ) {t : Nat} (h1 : (t : Int) ≤ gi σ 37 4) (h2 : ∀ u : Nat, u < t → m ≤ stF (gi σ 39 ((gi σ 37 4).toNat - 1 - u))) : gi σ 33 0 + (t : Int) ≤ gi σ 37 6 := by
  have a := Rls_cnt hm hx t h1 h2
  have z := cnt_in (fun j => decide (gi σ 39 j = -21)) ((gi σ 37 4).toNat - t)
  have d := hx.2.2.2.1
  omega
def RelS (m : Int) (σ s : Mm) : Prop := ∃ t : Nat, (t : Int) ≤ gi σ 37 4 ∧ (gi σ 37 12 = 0 → Rls m σ t ∧ ∀ a i, gi s a i = gi (popM σ t) a i) ∧ (gi σ 37 12 ≠ 0 → gi s 37 4 = gi σ 37 4 - (t : Int) ∧ ∀ a i, ¬ (a = 37 ∧ i = 4) → gi s a i = gi σ a i)
theorem v_rel_0 {n : Nat}  (m : Int) {σ : Mm} {P : Mm → Prop} (o1 : rg ((gi σ 37 4) - 1)) (l1 : ∀ x2 : Int, x2 = (gi σ 37 4) - 1 → R 62 7 [some (vr 37), some (vi m), some (vi x2)] [] (shF n) 0 0 σ (Qv (shF n) P)) : Cv 62 [vr 37, vi m] (shF n) σ P :=
  show R 62 0 [some (vr 37), some (vi m), none] [] (shF n) 0 0 σ (Qv (shF n) P) from wpK_R 6 [7] ((have k1 := (o1); And.intro k1 ((l1 _ rfl))))
theorem v_rel_7 {n : Nat}  (m : Int) (k : Int) {σ : Mm} {P : Mm → Prop} (o1 : (0 : Int) ≤ k → (0 ≤ k ∧ k < 72)) (o2 : (0 : Int) ≤ k → ∀ x3 : Int, x3 = stF (gi σ 39 k.toNat) → m ≤ x3 → (0 ≤ gi σ 33 0)) (o3 : (0 : Int) ≤ k → ∀ x3 : Int, x3 = stF (gi σ 39 k.toNat) → m ≤ x3 → ∀ t5 : Mm, t5 = emC σ (gi σ 39 k.toNat) → ∀ t6 : Mm, t6 = si t5 37 4 k → rg (k + (-1))) (l1 : k < (0 : Int) → P σ) (l2 : (0 : Int) ≤ k → ∀ x3 : Int, x3 = stF (gi σ 39 k.toNat) → x3 < m → P σ) (l3 : (0 : Int) ≤ k → ∀ x3 : Int, x3 = stF (gi σ 39 k.toNat) → m ≤ x3 → ∀ t5 : Mm, t5 = emC σ (gi σ 39 k.toNat) → ∀ t6 : Mm, t6 = si t5 37 4 k → ∀ x8 : Int, x8 = k + (-1) → R 62 7 [some (vr 37), some (vi m), some (vi x8)] [] (shF n) 0 0 t6 (Qv (shF n) P)) : R 62 7 [some (vr 37), some (vi m), some (vi k)] [] (shF n) 0 0 σ (Qv (shF n) P) :=
  wpK_R 21 [7] (And.intro (fun q1 => And.intro ret0 ⟨rfl, rfl, (l1 q1)⟩) (fun q1 => (have k2 := (o1 (Int.not_lt.mp q1)); And.intro k2 ((c_str   (And.intro (fun q4 => And.intro ret0 ⟨rfl, rfl, (l2 (Int.not_lt.mp q1) _ rfl q4)⟩) (fun q4 => And.intro k2 ((c_emi  (o2 (Int.not_lt.mp q1) _ rfl (Int.not_lt.mp q4)) ((have k7 := (o3 (Int.not_lt.mp q1) _ rfl (Int.not_lt.mp q4) _ rfl _ rfl); And.intro k7 ((l3 (Int.not_lt.mp q1) _ rfl (Int.not_lt.mp q4) _ rfl _ rfl _ rfl)))))))))))))
theorem c_rel {n : Nat} {m : Int} {σ : Mm} {P : Mm → Prop} (hm : 1 ≤ m) (h0 : 0 ≤ gi σ 37 4 ∧ gi σ 37 4 ≤ 72) (h3 : 0 ≤ gi σ 33 0) (hx : gi σ 37 12 = 0 → XI σ) (hP : ∀ s, RelS m σ s → P s) : Cv 62 [vr 37, vi m] (shF n) σ P := by
  refine v_rel_0 m (by intros; first | omega | (unfold rg; omega) | (subst_vars; simp only [gi_si, gi_sl, gl_si, gl_sl]; first | omega | (unfold rg; omega))) ?_
  have key := loopUp (N := (gi σ 37 4).toNat) (I := fun t => ∀ (τ : Mm) (k : Int), k = gi σ 37 4 - 1 - (t : Int) → (∀ u : Nat, u < t → m ≤ stF (gi σ 39 ((gi σ 37 4).toNat - 1 - u))) → (gi σ 37 12 = 0 → ∀ a i, gi τ a i = gi (popM σ t) a i) → (gi σ 37 12 ≠ 0 → gi τ 37 4 = gi σ 37 4 - (t : Int) ∧ ∀ a i, ¬ (a = 37 ∧ i = 4) → gi τ a i = gi σ a i) → R 62 7 [some (vr 37), some (vi m), some (vi k)] [] (shF n) 0 0 τ (Qv (shF n) P)) (fun t ht ih => ?_) 0 (by omega) σ (gi σ 37 4 - 1) (by omega) (fun u hu => by omega) (fun _ a i => ?_) (fun _ => ⟨by omega, fun _ _ _ => rfl⟩)
  · intro x ex; rw [ex]; exact key
  · intro τ k hk hu he hf
    have e39 : ∀ i, gi τ 39 i = gi σ 39 i := fun i => by
      by_cases z : gi σ 37 12 = 0
      · rw [he z, gp_o (by omega)]
      · exact (hf z).2 39 i (by omega)
    have e12 : gi τ 37 12 = gi σ 37 12 := by
      by_cases z : gi σ 37 12 = 0
      · rw [he z, gp_o (by omega)]
      · exact (hf z).2 37 12 (by omega)
    have e33 : gi σ 37 12 = 0 → gi τ 33 0 = gi σ 33 0 + (t : Int) := fun z => by rw [he z, gp_0]
    have e33' : gi σ 37 12 ≠ 0 → gi τ 33 0 = gi σ 33 0 := fun z => (hf z).2 33 0 (by omega)
    have hkt : k.toNat = (gi σ 37 4).toNat - 1 - t := by omega
    refine v_rel_7 m k (by intros; first | omega | (unfold rg; omega) | (subst_vars; simp only [gi_si, gi_sl, gl_si, gl_sl]; first | omega | (unfold rg; omega))) (by intros; first | omega | (unfold rg; omega) | (subst_vars; simp only [gi_si, gi_sl, gl_si, gl_sl]; first | omega | (unfold rg; omega))) (by intros; first | omega | (unfold rg; omega) | (subst_vars; simp only [gi_si, gi_sl, gl_si, gl_sl]; first | omega | (unfold rg; omega))) ?_ ?_ ?_
    · intro hk0
      refine hP τ ⟨t, by omega, fun z => ⟨⟨by omega, hu, Or.inl (by omega)⟩, he z⟩, hf⟩
    · intro hk0 x ex hlt
      rw [ex, e39, hkt] at hlt
      refine hP τ ⟨t, by omega, fun z => ⟨⟨by omega, hu, Or.inr hlt⟩, he z⟩, hf⟩
    · intro hk0 x ex hge t1 et1 t2 et2 y ey
      rw [ex, e39, hkt] at hge
      have hu' : ∀ u : Nat, u < t + 1 → m ≤ stF (gi σ 39 ((gi σ 37 4).toNat - 1 - u)) := fun u q => by
        by_cases z : u = t
        · rw [z]; exact hge
        · exact hu u (by omega)
      refine ih (by omega) t2 y (by omega) hu' (fun z a i => ?_) (fun z => ?_)
      · have hrm := Rls_rm hm (hx z) (t := t + 1) (by omega) hu'
        have hx5 := (hx z).2.2.2.2.1
        have e33z := e33 z
        have hem : emC τ (gi τ 39 k.toNat) = si (si τ 34 (gi τ 33 0).toNat (gi τ 39 k.toNat)) 33 0 (gi τ 33 0 + 1) := by
          unfold emC; rw [if_pos ⟨by rw [e12]; exact z, by omega⟩]
        rw [et2, et1, hem, gi_si]
        by_cases q1 : a = 37 ∧ i = 4
        · rw [if_pos q1, q1.1, q1.2, gp_4]; omega
        · rw [if_neg q1, gi_si]
          by_cases q2 : a = 33 ∧ i = 0
          · rw [if_pos q2, q2.1, q2.2, gp_0, e33z]; omega
          · rw [if_neg q2, gi_si]
            by_cases q3 : a = 34 ∧ i = (gi τ 33 0).toNat
            · rw [if_pos q3, q3.1, gPo, if_neg (by omega), if_neg (by omega), if_pos ⟨rfl, by omega, by omega⟩, e39]
              congr 1
              omega
            · rw [if_neg q3, he z, gPo, gPo, if_neg q1, if_neg q1, if_neg q2, if_neg q2]
              by_cases q4 : a = 34 ∧ (gi σ 33 0).toNat ≤ i ∧ i < (gi σ 33 0).toNat + t
              · rw [if_pos q4, if_pos ⟨q4.1, q4.2.1, by omega⟩]
              · rw [if_neg q4, if_neg (fun q5 => q4 ⟨q5.1, q5.2.1, by omega⟩)]
      · have hem : emC τ (gi τ 39 k.toNat) = τ := by unfold emC; rw [if_neg (fun q => z (by rw [← e12]; exact q.1))]
        rw [et2, et1, hem]
        refine ⟨by rw [gi_hit]; omega, fun a i p => ?_⟩
        rw [gi_si, if_neg p]; exact (hf z).2 a i p
  · rw [gPo]
    by_cases q1 : a = 37 ∧ i = 4
    · rw [if_pos q1, q1.1, q1.2]; omega
    · rw [if_neg q1]
      by_cases q2 : a = 33 ∧ i = 0
      · rw [if_pos q2, q2.1, q2.2]; omega
      · rw [if_neg q2, if_neg (by omega)]
