/-! TEXT: the reference's token -/
def wdM (t : Nat → Int) (q e : Nat) (k w : Int) : Prop := (0 ≤ wdI t q e ∧ k = 1 ∧ w = wdI t q e) ∨ (wdI t q e < 0 ∧ 6 < e - q ∧ k = 6) ∨ (wdI t q e < 0 ∧ e - q ≤ 6 ∧ k = 2 ∧ w = ((pkN t q e 6 : Nat) : Int))
def TkD (t : Nat → Int) (L q : Nat) (nx k w : Int) : Prop :=
  (L ≤ q ∧ k = 0 ∧ nx = (q : Int)) ∨
  (q < L ∧ isL (t q) = true ∧ nx = (lr (fun i => isL (t i)) L q : Int) ∧ wdM t q (lr (fun i => isL (t i)) L q) k w) ∨
  (q < L ∧ isD (t q) = true ∧ nx = (lr (fun i => isD (t i)) L q : Int) ∧ k = 3 ∧ w = nvR t q (lr (fun i => isD (t i)) L q - q)) ∨
  (q < L ∧ isL (t q) = false ∧ isD (t q) = false ∧ sgM (t q) (if q + 1 < L then t (q + 1) else 0) k w (nx - (q : Int)))
def mB (σ : Mm) (q : Nat) : Nat := lr (fun i => isB (gi σ 86 i)) (gi σ 85 6).toNat q
def TkM (σ s : Mm) : Prop := fr85 σ s ∧ gi s 85 10 = (mB σ (gi σ 85 7).toNat : Int) ∧ TkD (gi σ 86) (gi σ 85 6).toNat (mB σ (gi σ 85 7).toNat) (gi s 85 7) (gi s 85 8) (gi s 85 9)
def Mx (σ : Mm) : Prop := (0 ≤ gi σ 85 7 ∧ gi σ 85 7 ≤ gi σ 85 6 ∧ gi σ 85 6 ≤ 700) ∧ (∀ i, i < 95 → gi σ 87 i = cdW i)
theorem b2i_0 {b : Bool} : b2i b = 0 ↔ b = false := by cases b <;> simp [b2i]
theorem b2i_n {b : Bool} : b2i b ≠ 0 ↔ b = true := by cases b <;> simp [b2i]
theorem v_tkm_0 {n : Nat}   {σ : Mm} {P : Mm → Prop} (o1 : (gi σ 85 7) < (gi σ 85 6) → (0 ≤ (gi σ 85 7) ∧ (gi σ 85 7) < 700)) (o2 : (gi σ 85 7) < (gi σ 85 6) → (gi σ 86 (gi σ 85 7).toNat) = (10 : Int) → rg ((gi σ 85 7) + 1)) (o3 : (gi σ 85 7) < (gi σ 85 6) → (gi σ 86 (gi σ 85 7).toNat) ≠ (10 : Int) → (gi σ 86 (gi σ 85 7).toNat) = (32 : Int) → rg ((gi σ 85 7) + 1)) (l1 : (gi σ 85 6) ≤ (gi σ 85 7) → R 163 52 [some (vr 85)] [] (shF n) 0 0 σ (Qv (shF n) P)) (l2 : (gi σ 85 7) < (gi σ 85 6) → (gi σ 86 (gi σ 85 7).toNat) = (10 : Int) → ∀ t5 : Mm, t5 = si σ 85 7 ((gi σ 85 7) + 1) → R 163 0 [some (vr 85)] [] (shF n) 0 0 t5 (Qv (shF n) P)) (l3 : (gi σ 85 7) < (gi σ 85 6) → (gi σ 86 (gi σ 85 7).toNat) ≠ (10 : Int) → (gi σ 86 (gi σ 85 7).toNat) ≠ (32 : Int) → R 163 52 [some (vr 85)] [] (shF n) 0 0 σ (Qv (shF n) P)) (l4 : (gi σ 85 7) < (gi σ 85 6) → (gi σ 86 (gi σ 85 7).toNat) ≠ (10 : Int) → (gi σ 86 (gi σ 85 7).toNat) = (32 : Int) → ∀ t8 : Mm, t8 = si σ 85 7 ((gi σ 85 7) + 1) → R 163 0 [some (vr 85)] [] (shF n) 0 0 t8 (Qv (shF n) P)) : Cv 163 [vr 85] (shF n) σ P :=
  show R 163 0 [some (vr 85)] [] (shF n) 0 0 σ (Qv (shF n) P) from wpK_R 27 [0, 52] (And.intro (fun q1 => (l1 q1)) (fun q1 => (have k2 := (o1 (Int.not_le.mp q1)); And.intro k2 (And.intro (fun q3 => (have k4 := (o2 (Int.not_le.mp q1) q3); And.intro k4 ((l2 (Int.not_le.mp q1) q3 _ rfl)))) (fun q3 => And.intro k2 (And.intro (fun q6 => (l3 (Int.not_le.mp q1) q3 q6)) (fun q6 => (have k7 := (o3 (Int.not_le.mp q1) q3 (Classical.not_not.mp q6)); And.intro k7 ((l4 (Int.not_le.mp q1) q3 (Classical.not_not.mp q6) _ rfl))))))))))
theorem v_tkm_52 {n : Nat}   {σ : Mm} {P : Mm → Prop} (o1 : ∀ t1 : Mm, t1 = si σ 85 10 (gi σ 85 7) → (gi σ 85 7) ≠ (gi σ 85 6) → (0 ≤ (gi σ 85 7) ∧ gi t1 85 6 ≤ 700)) (o2 : ∀ t1 : Mm, t1 = si σ 85 10 (gi σ 85 7) → (gi σ 85 7) ≠ (gi σ 85 6) → ∀ x3 : Int, x3 = b2i (smB t1 (gi σ 85 7)) → x3 = (0 : Int) → (0 ≤ (gi σ 85 7) ∧ gi t1 85 6 ≤ 700)) (o3 : ∀ t1 : Mm, t1 = si σ 85 10 (gi σ 85 7) → (gi σ 85 7) ≠ (gi σ 85 6) → ∀ x3 : Int, x3 = b2i (smB t1 (gi σ 85 7)) → x3 = (0 : Int) → ∀ x5 : Int, x5 = b2i (dgB t1 (gi σ 85 7)) → x5 = (0 : Int) → (0 ≤ gi t1 85 7 ∧ gi t1 85 7 < gi t1 85 6 ∧ gi t1 85 6 ≤ 700)) (l1 : ∀ t1 : Mm, t1 = si σ 85 10 (gi σ 85 7) → (gi σ 85 7) ≠ (gi σ 85 6) → ∀ x3 : Int, x3 = b2i (smB t1 (gi σ 85 7)) → x3 = (0 : Int) → ∀ x5 : Int, x5 = b2i (dgB t1 (gi σ 85 7)) → x5 = (0 : Int) → ∀ s8 : Mm, SgM t1 s8 → P s8) (l2 : ∀ t1 : Mm, t1 = si σ 85 10 (gi σ 85 7) → (gi σ 85 7) ≠ (gi σ 85 6) → ∀ x3 : Int, x3 = b2i (smB t1 (gi σ 85 7)) → x3 = (0 : Int) → ∀ x5 : Int, x5 = b2i (dgB t1 (gi σ 85 7)) → x5 ≠ (0 : Int) → ∀ t10 : Mm, t10 = si t1 85 8 (3 : Int) → ∀ t11 : Mm, t11 = si t10 85 9 (0 : Int) → R 163 213 [some (vr 85)] [] (shF n) 0 0 t11 (Qv (shF n) P)) (l3 : ∀ t1 : Mm, t1 = si σ 85 10 (gi σ 85 7) → (gi σ 85 7) ≠ (gi σ 85 6) → ∀ x3 : Int, x3 = b2i (smB t1 (gi σ 85 7)) → x3 ≠ (0 : Int) → R 163 90 [some (vr 85)] [] (shF n) 0 0 t1 (Qv (shF n) P)) (l4 : ∀ t1 : Mm, t1 = si σ 85 10 (gi σ 85 7) → (gi σ 85 7) = (gi σ 85 6) → ∀ t12 : Mm, t12 = si t1 85 8 (0 : Int) → P t12) : R 163 52 [some (vr 85)] [] (shF n) 0 0 σ (Qv (shF n) P) :=
  wpK_R 26 [90, 213] (And.intro (fun q2 => (c_isSm  (o1 _ rfl q2) (And.intro (fun q4 => (c_isDg  (o2 _ rfl q2 _ rfl q4) (And.intro (fun q6 => (c_sgm  (o3 _ rfl q2 _ rfl q4 _ rfl q6) (fun s8 h9 => And.intro ret0 ⟨rfl, rfl, (l1 _ rfl q2 _ rfl q4 _ rfl q6 s8 h9)⟩))) (fun q6 => (l2 _ rfl q2 _ rfl q4 _ rfl q6 _ rfl _ rfl))))) (fun q4 => (l3 _ rfl q2 _ rfl q4))))) (fun q2 => And.intro ret0 ⟨rfl, rfl, (l4 _ rfl (Classical.not_not.mp q2) _ rfl)⟩))
theorem v_tkm_90 {n : Nat}   {σ : Mm} {P : Mm → Prop} (o1 : (0 ≤ (gi σ 85 7) ∧ gi σ 85 6 ≤ 700)) (o2 : ∀ x1 : Int, x1 = b2i (smB σ (gi σ 85 7)) → x1 ≠ (0 : Int) → rg ((gi σ 85 7) + 1)) (l1 : ∀ x1 : Int, x1 = b2i (smB σ (gi σ 85 7)) → x1 = (0 : Int) → R 163 114 [some (vr 85)] [] (shF n) 0 0 σ (Qv (shF n) P)) (l2 : ∀ x1 : Int, x1 = b2i (smB σ (gi σ 85 7)) → x1 ≠ (0 : Int) → ∀ t4 : Mm, t4 = si σ 85 7 ((gi σ 85 7) + 1) → R 163 90 [some (vr 85)] [] (shF n) 0 0 t4 (Qv (shF n) P)) : R 163 90 [some (vr 85)] [] (shF n) 0 0 σ (Qv (shF n) P) :=
  wpK_R 13 [90, 114] ((c_isSm  (o1) (And.intro (fun q2 => (l1 _ rfl q2)) (fun q2 => (have k3 := (o2 _ rfl q2); And.intro k3 ((l2 _ rfl q2 _ rfl)))))))
theorem v_tkm_114 {n : Nat}   {σ : Mm} {P : Mm → Prop} (o1 : (0 ≤ (gi σ 85 10) ∧ (gi σ 85 10) ≤ (gi σ 85 7) ∧ (gi σ 85 7) ≤ 700)) (o2 : (∀ i, i < 95 → gi σ 87 i = cdW i)) (o3 : ∀ x1 : Int, x1 = wdI (gi σ 86) ((gi σ 85 10)).toNat ((gi σ 85 7)).toNat → ∀ t2 : Mm, t2 = si σ 85 9 x1 → x1 < (0 : Int) → rg ((gi σ 85 7) - (gi σ 85 10))) (o4 : ∀ x1 : Int, x1 = wdI (gi σ 86) ((gi σ 85 10)).toNat ((gi σ 85 7)).toNat → ∀ t2 : Mm, t2 = si σ 85 9 x1 → x1 < (0 : Int) → ((gi σ 85 7) - (gi σ 85 10)) ≤ (6 : Int) → ∀ t6 : Mm, t6 = si t2 85 8 (2 : Int) → (0 ≤ (gi σ 85 10) ∧ (gi σ 85 10) ≤ (gi σ 85 7) ∧ (gi σ 85 7) ≤ 700)) (o5 : ∀ x1 : Int, x1 = wdI (gi σ 86) ((gi σ 85 10)).toNat ((gi σ 85 7)).toNat → ∀ t2 : Mm, t2 = si σ 85 9 x1 → x1 < (0 : Int) → ((gi σ 85 7) - (gi σ 85 10)) ≤ (6 : Int) → ∀ t6 : Mm, t6 = si t2 85 8 (2 : Int) → (∀ j, ((gi σ 85 10)).toNat ≤ j → j < ((gi σ 85 7)).toNat → isL (gi t6 86 j) = true)) (l1 : ∀ x1 : Int, x1 = wdI (gi σ 86) ((gi σ 85 10)).toNat ((gi σ 85 7)).toNat → ∀ t2 : Mm, t2 = si σ 85 9 x1 → x1 < (0 : Int) → ((gi σ 85 7) - (gi σ 85 10)) ≤ (6 : Int) → ∀ t6 : Mm, t6 = si t2 85 8 (2 : Int) → ∀ x7 : Int, x7 = ((pkN (gi t6 86) ((gi σ 85 10)).toNat ((gi σ 85 7)).toNat 6 : Nat) : Int) → ∀ t8 : Mm, t8 = si t6 85 9 x7 → P t8) (l2 : ∀ x1 : Int, x1 = wdI (gi σ 86) ((gi σ 85 10)).toNat ((gi σ 85 7)).toNat → ∀ t2 : Mm, t2 = si σ 85 9 x1 → x1 < (0 : Int) → (6 : Int) < ((gi σ 85 7) - (gi σ 85 10)) → ∀ t9 : Mm, t9 = si t2 85 8 (6 : Int) → P t9) (l3 : ∀ x1 : Int, x1 = wdI (gi σ 86) ((gi σ 85 10)).toNat ((gi σ 85 7)).toNat → ∀ t2 : Mm, t2 = si σ 85 9 x1 → (0 : Int) ≤ x1 → ∀ t10 : Mm, t10 = si t2 85 8 (1 : Int) → P t10) : R 163 114 [some (vr 85)] [] (shF n) 0 0 σ (Qv (shF n) P) :=
  wpK_R 35 [0, 90, 213] ((c_wA  (o1) (o2) (And.intro (fun q3 => (have k4 := (o3 _ rfl _ rfl q3); And.intro k4 (And.intro (fun q5 => And.intro (fun q => absurd q (show ¬ ((2 : Int) ≠ 2) by decide)) (fun _ => (c_pa  (o4 _ rfl _ rfl q3 q5 _ rfl) (o5 _ rfl _ rfl q3 q5 _ rfl) (And.intro ret0 ⟨rfl, rfl, (l1 _ rfl _ rfl q3 q5 _ rfl _ rfl _ rfl)⟩)))) (fun q5 => And.intro (fun _ => And.intro ret0 ⟨rfl, rfl, (l2 _ rfl _ rfl q3 (Int.not_le.mp q5) _ rfl)⟩) (fun q => absurd (show (6 : Int) ≠ 2 by decide) q))))) (fun q3 => And.intro (fun _ => And.intro ret0 ⟨rfl, rfl, (l3 _ rfl _ rfl (Int.not_lt.mp q3) _ rfl)⟩) (fun q => absurd (show (1 : Int) ≠ 2 by decide) q)))))
theorem v_tkm_213 {n : Nat}   {σ : Mm} {P : Mm → Prop} (o1 : (0 ≤ (gi σ 85 7) ∧ gi σ 85 6 ≤ 700)) (o2 : ∀ x1 : Int, x1 = b2i (dgB σ (gi σ 85 7)) → x1 ≠ (0 : Int) → (gi σ 85 9) ≤ (99999 : Int) → rg ((10 : Int) * (gi σ 85 9))) (o3 : ∀ x1 : Int, x1 = b2i (dgB σ (gi σ 85 7)) → x1 ≠ (0 : Int) → (gi σ 85 9) ≤ (99999 : Int) → (0 ≤ (gi σ 85 7) ∧ (gi σ 85 7) < 700)) (o4 : ∀ x1 : Int, x1 = b2i (dgB σ (gi σ 85 7)) → x1 ≠ (0 : Int) → (gi σ 85 9) ≤ (99999 : Int) → rg (((10 : Int) * (gi σ 85 9)) + (gi σ 86 (gi σ 85 7).toNat))) (o5 : ∀ x1 : Int, x1 = b2i (dgB σ (gi σ 85 7)) → x1 ≠ (0 : Int) → (gi σ 85 9) ≤ (99999 : Int) → rg ((((10 : Int) * (gi σ 85 9)) + (gi σ 86 (gi σ 85 7).toNat)) - 48)) (o6 : ∀ x1 : Int, x1 = b2i (dgB σ (gi σ 85 7)) → x1 ≠ (0 : Int) → (gi σ 85 9) ≤ (99999 : Int) → ∀ t8 : Mm, t8 = si σ 85 9 ((((10 : Int) * (gi σ 85 9)) + (gi σ 86 (gi σ 85 7).toNat)) - 48) → rg ((gi σ 85 7) + 1)) (o7 : ∀ x1 : Int, x1 = b2i (dgB σ (gi σ 85 7)) → x1 ≠ (0 : Int) → (99999 : Int) < (gi σ 85 9) → ∀ t11 : Mm, t11 = si σ 85 9 (gi σ 85 9) → rg ((gi σ 85 7) + 1)) (l1 : ∀ x1 : Int, x1 = b2i (dgB σ (gi σ 85 7)) → x1 = (0 : Int) → P σ) (l2 : ∀ x1 : Int, x1 = b2i (dgB σ (gi σ 85 7)) → x1 ≠ (0 : Int) → (gi σ 85 9) ≤ (99999 : Int) → ∀ t8 : Mm, t8 = si σ 85 9 ((((10 : Int) * (gi σ 85 9)) + (gi σ 86 (gi σ 85 7).toNat)) - 48) → ∀ t10 : Mm, t10 = si t8 85 7 ((gi σ 85 7) + 1) → R 163 213 [some (vr 85)] [] (shF n) 0 0 t10 (Qv (shF n) P)) (l3 : ∀ x1 : Int, x1 = b2i (dgB σ (gi σ 85 7)) → x1 ≠ (0 : Int) → (99999 : Int) < (gi σ 85 9) → ∀ t11 : Mm, t11 = si σ 85 9 (gi σ 85 9) → ∀ t13 : Mm, t13 = si t11 85 7 ((gi σ 85 7) + 1) → R 163 213 [some (vr 85)] [] (shF n) 0 0 t13 (Qv (shF n) P)) : R 163 213 [some (vr 85)] [] (shF n) 0 0 σ (Qv (shF n) P) :=
  wpK_R 31 [213] ((c_isDg  (o1) (And.intro (fun q2 => And.intro ret0 ⟨rfl, rfl, (l1 _ rfl q2)⟩) (fun q2 => And.intro (fun q3 => (have k4 := (o2 _ rfl q2 q3); And.intro k4 ((have k5 := (o3 _ rfl q2 q3); And.intro k5 ((have k6 := (o4 _ rfl q2 q3); And.intro k6 ((have k7 := (o5 _ rfl q2 q3); And.intro k7 ((have k9 := (o6 _ rfl q2 q3 _ rfl); And.intro k9 ((l2 _ rfl q2 q3 _ rfl _ rfl)))))))))))) (fun q3 => (have k12 := (o7 _ rfl q2 (Int.not_le.mp q3) _ rfl); And.intro k12 ((l3 _ rfl q2 (Int.not_le.mp q3) _ rfl _ rfl))))))))
theorem tkm_90 {n : Nat} {σ : Mm} {P : Mm → Prop} {q L : Nat} (hq : gi σ 85 7 = (q : Int)) (hL : gi σ 85 6 = (L : Int)) (h10 : gi σ 85 10 = (q : Int)) (hqL : q ≤ L) (hL7 : L ≤ 700) (hcd : ∀ i, i < 95 → gi σ 87 i = cdW i) (hP : ∀ s, fr85 σ s → gi s 85 10 = (q : Int) → gi s 85 7 = (lr (fun i => isL (gi σ 86 i)) L q : Int) → wdM (gi σ 86) q (lr (fun i => isL (gi σ 86 i)) L q) (gi s 85 8) (gi s 85 9) → P s) : R 163 90 [some (vr 85)] [] (shF n) 0 0 σ (Qv (shF n) P) := by
  obtain ⟨E, hE⟩ : ∃ E, E = lr (fun i => isL (gi σ 86 i)) L q := ⟨_, rfl⟩
  obtain ⟨e1, e2, e3, e4⟩ := lr_in (f := fun i => isL (gi σ 86 i)) (n := L) (p := q) hqL
  rw [← hE] at e1 e2 e3 e4 hP
  refine loopUp (N := E) (I := fun e => q ≤ e → ∀ τ : Mm, (∀ a i, ¬ (a = 85 ∧ i = 7) → gi τ a i = gi σ a i) → gi τ 85 7 = (e : Int) → R 163 90 [some (vr 85)] [] (shF n) 0 0 τ (Qv (shF n) P)) (fun e he ih => ?_) q e1 (Nat.le_refl _) σ (fun _ _ _ => rfl) hq
  intro hqe τ f1 f2
  have g6 : gi τ 85 6 = (L : Int) := by rw [f1 85 6 (by omega)]; exact hL
  have g10 : gi τ 85 10 = (q : Int) := by rw [f1 85 10 (by omega)]; exact h10
  have g86 : gi τ 86 = gi σ 86 := funext fun i => f1 86 i (by omega)
  have hsm : smB τ (gi τ 85 7) = (decide (e < L) && isL (gi σ 86 e)) := by
    unfold smB
    rw [f2, g6, g86, Int.toNat_natCast]
    congr 1
    by_cases z : e < L
    · rw [decide_eq_true z, decide_eq_true (by omega)]
    · rw [decide_eq_false z, decide_eq_false (by omega)]
  refine v_tkm_90 (by intros; (first | omega | (unfold rg; omega))) (by intros; (first | omega | (unfold rg; omega))) ?_ ?_
  · intro x1 ex h0
    have hEe : e = E := Classical.byContradiction fun z => by
      have := e4 e hqe (by omega)
      have this' : isL (gi σ 86 e) = true := this
      rw [ex, hsm, this', decide_eq_true (by omega)] at h0
      exact absurd h0 (by decide)
    subst hEe
    have hf : fr85 σ τ := fun a i p => f1 a i (by omega)
    have hl : ∀ t : Mm, (∀ i, gi t 86 i = gi τ 86 i) → ∀ j, q ≤ j → j < e → isL (gi t 86 j) = true := fun t ht j a b => by rw [ht j, g86]; exact e4 j a b
    have hin := plF_in (f := mwI (gi σ 86) q e) (z := 1) 19
    have hin' : -1 ≤ wdI (gi σ 86) q e := hin.1
    refine v_tkm_114 (by (first | (intros; omega) | (intros; rw [f1 87 _ (by omega)]; exact hcd _ (by assumption)) | (intros; unfold rg; omega) | (intros; rw [gi_ne (by omega), gi_ne (by omega), f1 87 _ (by omega)]; exact hcd _ (by assumption)) | (intro x1 ex t2 e2 hneg h6 t6 e6 j a b; exact hl t6 (fun i => by rw [e6, gi_ne (by omega), e2, gi_ne (by omega)]) j (by omega) (by omega)))) (by (first | (intros; omega) | (intros; rw [f1 87 _ (by omega)]; exact hcd _ (by assumption)) | (intros; unfold rg; omega) | (intros; rw [gi_ne (by omega), gi_ne (by omega), f1 87 _ (by omega)]; exact hcd _ (by assumption)) | (intro x1 ex t2 e2 hneg h6 t6 e6 j a b; exact hl t6 (fun i => by rw [e6, gi_ne (by omega), e2, gi_ne (by omega)]) j (by omega) (by omega)))) (by (first | (intros; omega) | (intros; rw [f1 87 _ (by omega)]; exact hcd _ (by assumption)) | (intros; unfold rg; omega) | (intros; rw [gi_ne (by omega), gi_ne (by omega), f1 87 _ (by omega)]; exact hcd _ (by assumption)) | (intro x1 ex t2 e2 hneg h6 t6 e6 j a b; exact hl t6 (fun i => by rw [e6, gi_ne (by omega), e2, gi_ne (by omega)]) j (by omega) (by omega)))) (by (first | (intros; omega) | (intros; rw [f1 87 _ (by omega)]; exact hcd _ (by assumption)) | (intros; unfold rg; omega) | (intros; rw [gi_ne (by omega), gi_ne (by omega), f1 87 _ (by omega)]; exact hcd _ (by assumption)) | (intro x1 ex t2 e2 hneg h6 t6 e6 j a b; exact hl t6 (fun i => by rw [e6, gi_ne (by omega), e2, gi_ne (by omega)]) j (by omega) (by omega)))) (by (first | (intros; omega) | (intros; rw [f1 87 _ (by omega)]; exact hcd _ (by assumption)) | (intros; unfold rg; omega) | (intros; rw [gi_ne (by omega), gi_ne (by omega), f1 87 _ (by omega)]; exact hcd _ (by assumption)) | (intro x1 ex t2 e2 hneg h6 t6 e6 j a b; exact hl t6 (fun i => by rw [e6, gi_ne (by omega), e2, gi_ne (by omega)]) j (by omega) (by omega)))) ?_ ?_ ?_
    · intro x1 ex t2 e2 hneg h6 t6 e6 x7 e7 t8 e8
      rw [f2, g10, g86, Int.toNat_natCast, Int.toNat_natCast] at ex
      have g86' : gi t6 86 = gi σ 86 := funext fun i => by rw [e6, gi_ne (by omega), e2, gi_ne (by omega)]; exact f1 86 i (by omega)
      rw [f2, g10, g86', Int.toNat_natCast, Int.toNat_natCast] at e7
      rw [f2, g10] at h6
      subst e8 e6 e2
      refine hP _ (fr85_si (fr85_si (fr85_si hf (by omega)) (by omega)) (by omega)) ?_ ?_ (Or.inr (Or.inr ⟨by omega, by omega, ?_, ?_⟩))
      · rw [g85, if_neg (by omega), g85, if_neg (by omega), g85, if_neg (by omega)]; exact g10
      · rw [g85, if_neg (by omega), g85, if_neg (by omega), g85, if_neg (by omega)]; exact f2
      · rw [g85, if_neg (by omega), g85, if_pos rfl]
      · rw [g85, if_pos rfl]; exact e7
    · intro x1 ex t2 e2 hneg h6 t9 e9
      rw [f2, g10, g86, Int.toNat_natCast, Int.toNat_natCast] at ex
      rw [f2, g10] at h6
      subst e9 e2
      refine hP _ (fr85_si (fr85_si hf (by omega)) (by omega)) ?_ ?_ (Or.inr (Or.inl ⟨by omega, by omega, ?_⟩))
      · rw [g85, if_neg (by omega), g85, if_neg (by omega)]; exact g10
      · rw [g85, if_neg (by omega), g85, if_neg (by omega)]; exact f2
      · rw [g85, if_pos rfl]
    · intro x1 ex t2 e2 hpos t9 e9
      rw [f2, g10, g86, Int.toNat_natCast, Int.toNat_natCast] at ex
      subst e9 e2
      refine hP _ (fr85_si (fr85_si hf (by omega)) (by omega)) ?_ ?_ (Or.inl ⟨by omega, ?_, ?_⟩)
      · rw [g85, if_neg (by omega), g85, if_neg (by omega)]; exact g10
      · rw [g85, if_neg (by omega), g85, if_neg (by omega)]; exact f2
      · rw [g85, if_pos rfl]
      · rw [g85, if_neg (by omega), g85, if_pos rfl]; exact ex
  · intro x1 ex h0 t4 e5
    rw [ex] at h0
    have hb := b2i_n.mp h0
    rw [hsm, Bool.and_eq_true] at hb
    have hEe : e < E := Classical.byContradiction fun z => by
      have z' : E = e := by omega
      rw [z'] at e3
      have := e3 (of_decide_eq_true hb.1)
      have this' : isL (gi σ 86 e) = false := this
      rw [hb.2] at this'
      exact Bool.noConfusion this'
    subst e5
    exact ih hEe (by omega) _ (fun a i p => by rw [gi_si, if_neg p]; exact f1 a i p) (by rw [g85, if_pos rfl, f2]; rfl)
theorem tkm_213 {n : Nat} {σ : Mm} {P : Mm → Prop} {q L : Nat} (hq : gi σ 85 7 = (q : Int)) (hL : gi σ 85 6 = (L : Int)) (h10 : gi σ 85 10 = (q : Int)) (h8 : gi σ 85 8 = 3) (h9 : gi σ 85 9 = 0) (hqL : q ≤ L) (hL7 : L ≤ 700) (hP : ∀ s, fr85 σ s → gi s 85 10 = (q : Int) → gi s 85 7 = (lr (fun i => isD (gi σ 86 i)) L q : Int) → gi s 85 8 = 3 → gi s 85 9 = nvR (gi σ 86) q (lr (fun i => isD (gi σ 86 i)) L q - q) → P s) : R 163 213 [some (vr 85)] [] (shF n) 0 0 σ (Qv (shF n) P) := by
  obtain ⟨E, hE⟩ : ∃ E, E = lr (fun i => isD (gi σ 86 i)) L q := ⟨_, rfl⟩
  obtain ⟨e1, e2, e3, e4⟩ := lr_in (f := fun i => isD (gi σ 86 i)) (n := L) (p := q) hqL
  rw [← hE] at e1 e2 e3 e4 hP
  refine loopUp (N := E) (I := fun e => q ≤ e → ∀ τ : Mm, (∀ a i, ¬ (a = 85 ∧ (i = 7 ∨ i = 9)) → gi τ a i = gi σ a i) → gi τ 85 7 = (e : Int) → gi τ 85 9 = nvR (gi σ 86) q (e - q) → R 163 213 [some (vr 85)] [] (shF n) 0 0 τ (Qv (shF n) P)) (fun e he ih => ?_) q e1 (Nat.le_refl _) σ (fun _ _ _ => rfl) hq (by rw [h9, Nat.sub_self]; rfl)
  intro hqe τ f1 f2 f3
  have g6 : gi τ 85 6 = (L : Int) := by rw [f1 85 6 (by omega)]; exact hL
  have g10 : gi τ 85 10 = (q : Int) := by rw [f1 85 10 (by omega)]; exact h10
  have g8 : gi τ 85 8 = 3 := by rw [f1 85 8 (by omega)]; exact h8
  have g86 : gi τ 86 = gi σ 86 := funext fun i => f1 86 i (by omega)
  have hv := (nv_rel (b := gi σ 86) (p := q) (e - q) fun i hi => e4 (q + i) (by omega) (by omega)).2.1
  rw [← f3] at hv
  have hsm : dgB τ (gi τ 85 7) = (decide (e < L) && isD (gi σ 86 e)) := by
    unfold dgB
    rw [f2, g6, g86, Int.toNat_natCast]
    congr 1
    by_cases z : e < L
    · rw [decide_eq_true z, decide_eq_true (by omega)]
    · rw [decide_eq_false z, decide_eq_false (by omega)]
  have g4 : gi τ 86 (gi τ 85 7).toNat = gi σ 86 e := by rw [f2, Int.toNat_natCast, f1 86 e (by omega)]
  have hgo : b2i (dgB τ (gi τ 85 7)) ≠ 0 → e < L ∧ e < E ∧ (48 ≤ gi σ 86 e ∧ gi σ 86 e ≤ 57) := fun h0 => by
    have hb := b2i_n.mp h0
    rw [hsm, Bool.and_eq_true] at hb
    have h1 : e < L := of_decide_eq_true hb.1
    refine ⟨h1, Classical.byContradiction fun z => ?_, isD_t.mp hb.2⟩
    have z' : E = e := by omega
    rw [z'] at e3
    have this' : isD (gi σ 86 e) = false := e3 h1
    rw [hb.2] at this'
    exact Bool.noConfusion this'
  have hs : nvR (gi σ 86) q (e + 1 - q) = if 99999 < gi τ 85 9 then gi τ 85 9 else 10 * gi τ 85 9 + gi σ 86 e - 48 := by
    rw [show e + 1 - q = (e - q) + 1 by omega]
    simp only [nvR]
    rw [← f3, show q + (e - q) = e by omega]
  refine v_tkm_213 (by (first | (intros; omega) | (intros; unfold rg; omega) | (intro x1 ex h0; have z := hgo (by rw [← ex]; exact h0); rw [← g4] at z; intros; first | omega | (unfold rg; omega)))) (by (first | (intros; omega) | (intros; unfold rg; omega) | (intro x1 ex h0; have z := hgo (by rw [← ex]; exact h0); rw [← g4] at z; intros; first | omega | (unfold rg; omega)))) (by (first | (intros; omega) | (intros; unfold rg; omega) | (intro x1 ex h0; have z := hgo (by rw [← ex]; exact h0); rw [← g4] at z; intros; first | omega | (unfold rg; omega)))) (by (first | (intros; omega) | (intros; unfold rg; omega) | (intro x1 ex h0; have z := hgo (by rw [← ex]; exact h0); rw [← g4] at z; intros; first | omega | (unfold rg; omega)))) (by (first | (intros; omega) | (intros; unfold rg; omega) | (intro x1 ex h0; have z := hgo (by rw [← ex]; exact h0); rw [← g4] at z; intros; first | omega | (unfold rg; omega)))) (by (first | (intros; omega) | (intros; unfold rg; omega) | (intro x1 ex h0; have z := hgo (by rw [← ex]; exact h0); rw [← g4] at z; intros; first | omega | (unfold rg; omega)))) (by (first | (intros; omega) | (intros; unfold rg; omega) | (intro x1 ex h0; have z := hgo (by rw [← ex]; exact h0); rw [← g4] at z; intros; first | omega | (unfold rg; omega)))) ?_ ?_ ?_
  · intro x1 ex h0
    have hEe : e = E := Classical.byContradiction fun z => by
      have this' : isD (gi σ 86 e) = true := e4 e hqe (by omega)
      rw [ex, hsm, this', decide_eq_true (by omega)] at h0
      exact absurd h0 (by decide)
    subst hEe
    exact hP τ (fun a i p => f1 a i (by omega)) g10 f2 g8 f3
  · intro x1 ex h0 hle t8 e8 t10 e10
    have z := hgo (by rw [← ex]; exact h0)
    rw [g4] at e8
    subst e10 e8
    refine ih z.2.1 (by omega) _ (fun a i p => by rw [gi_si, if_neg (by omega), gi_si, if_neg (by omega)]; exact f1 a i p) (by rw [g85, if_pos rfl, f2]; rfl) ?_
    rw [g85, if_neg (by omega), g85, if_pos rfl, hs, if_neg (by omega)]
  · intro x1 ex h0 hle t8 e8 t10 e10
    have z := hgo (by rw [← ex]; exact h0)
    subst e10 e8
    refine ih z.2.1 (by omega) _ (fun a i p => by rw [gi_si, if_neg (by omega), gi_si, if_neg (by omega)]; exact f1 a i p) (by rw [g85, if_pos rfl, f2]; rfl) ?_
    rw [g85, if_neg (by omega), g85, if_pos rfl, hs, if_pos hle]
theorem tkm_52 {n : Nat} {σ : Mm} {P : Mm → Prop} {q L : Nat} (hq : gi σ 85 7 = (q : Int)) (hL : gi σ 85 6 = (L : Int)) (hqL : q ≤ L) (hL7 : L ≤ 700) (hcd : ∀ i, i < 95 → gi σ 87 i = cdW i) (hP : ∀ s, fr85 σ s → gi s 85 10 = (q : Int) → TkD (gi σ 86) L q (gi s 85 7) (gi s 85 8) (gi s 85 9) → P s) : R 163 52 [some (vr 85)] [] (shF n) 0 0 σ (Qv (shF n) P) := by
  have ht : ∀ t1 : Mm, t1 = si σ 85 10 (gi σ 85 7) → fr85 σ t1 ∧ gi t1 85 7 = (q : Int) ∧ gi t1 85 6 = (L : Int) ∧ gi t1 85 10 = (q : Int) ∧ gi t1 86 = gi σ 86 ∧ (∀ i, i < 95 → gi t1 87 i = cdW i) := fun t1 e1 => by
    have hf : fr85 σ t1 := by rw [e1]; exact fr85_si (fr85_rf σ) (by omega)
    exact ⟨hf, by rw [e1, g85, if_neg (by omega)]; exact hq, by rw [hf 85 6 (by omega)]; exact hL, by rw [e1, g85, if_pos rfl]; exact hq, funext fun i => hf 86 i (by omega), fun i hi => by rw [hf 87 i (by omega)]; exact hcd i hi⟩
  have hsm : ∀ t1 : Mm, t1 = si σ 85 10 (gi σ 85 7) → q < L → smB t1 (gi σ 85 7) = isL (gi σ 86 q) ∧ dgB t1 (gi σ 85 7) = isD (gi σ 86 q) := fun t1 e1 hlt => by
    obtain ⟨-, -, k3, -, k5, -⟩ := ht t1 e1
    unfold smB dgB
    rw [k3, k5, hq, Int.toNat_natCast, decide_eq_true (by omega), Bool.true_and, Bool.true_and]
    exact ⟨rfl, rfl⟩
  refine v_tkm_52 (by (first | (intros; omega) | (intro t1 e1; obtain ⟨k1, k2, k3, k4, k5, k6⟩ := ht t1 e1; intros; omega))) (by (first | (intros; omega) | (intro t1 e1; obtain ⟨k1, k2, k3, k4, k5, k6⟩ := ht t1 e1; intros; omega))) (by (first | (intros; omega) | (intro t1 e1; obtain ⟨k1, k2, k3, k4, k5, k6⟩ := ht t1 e1; intros; omega))) ?_ ?_ ?_ ?_
  · intro t1 e1 hne x3 e3 z3 x5 e5 z5 s8 hs
    obtain ⟨k1, k2, k3, k4, k5, k6⟩ := ht t1 e1
    have hlt : q < L := by omega
    obtain ⟨m1, m2⟩ := hsm t1 e1 hlt
    rw [e3, m1] at z3
    rw [e5, m2] at z5
    obtain ⟨h1, h2, h3⟩ := hs
    have hb : bhM t1 = if q + 1 < L then gi σ 86 (q + 1) else 0 := by
      unfold bhM
      rw [k2, k3, k5]
      by_cases y : q + 1 < L
      · rw [if_pos (by omega), if_pos y, show ((q : Int) + 1).toNat = q + 1 by omega]
      · rw [if_neg (by omega), if_neg y]
    rw [hb, k5, k2, Int.toNat_natCast] at h3
    exact hP s8 (fr85_tr k1 h1) (by rw [h2]; exact k4) (Or.inr (Or.inr (Or.inr ⟨hlt, b2i_0.mp z3, b2i_0.mp z5, h3⟩)))
  · intro t1 e1 hne x3 e3 z3 x5 e5 z5 t10 e10 t11 e11
    obtain ⟨k1, k2, k3, k4, k5, k6⟩ := ht t1 e1
    have hlt : q < L := by omega
    obtain ⟨m1, m2⟩ := hsm t1 e1 hlt
    rw [e5, m2] at z5
    have hf : fr85 t1 t11 := by rw [e11, e10]; exact fr85_si (fr85_si (fr85_rf t1) (by omega)) (by omega)
    have g86 : gi t11 86 = gi σ 86 := by rw [← k5]; exact funext fun i => hf 86 i (by omega)
    refine tkm_213 (q := q) (L := L) (by rw [e11, e10, g85, if_neg (by omega), g85, if_neg (by omega)]; exact k2) (by rw [hf 85 6 (by omega)]; exact k3) (by rw [e11, e10, g85, if_neg (by omega), g85, if_neg (by omega)]; exact k4) (by rw [e11, e10, g85, if_neg (by omega), g85, if_pos rfl]) (by rw [e11, g85, if_pos rfl]) hqL hL7 fun s a b c d e => ?_
    rw [g86] at c e
    exact hP s (fr85_tr (fr85_tr k1 hf) a) b (Or.inr (Or.inr (Or.inl ⟨hlt, b2i_n.mp z5, c, d, e⟩)))
  · intro t1 e1 hne x3 e3 z3
    obtain ⟨k1, k2, k3, k4, k5, k6⟩ := ht t1 e1
    have hlt : q < L := by omega
    obtain ⟨m1, m2⟩ := hsm t1 e1 hlt
    rw [e3, m1] at z3
    refine tkm_90 (q := q) (L := L) k2 k3 k4 hqL hL7 k6 fun s a b c d => ?_
    rw [k5] at c d
    exact hP s (fr85_tr k1 a) b (Or.inr (Or.inl ⟨hlt, b2i_n.mp z3, c, d⟩))
  · intro t1 e1 heq t12 e12
    obtain ⟨k1, k2, k3, k4, k5, k6⟩ := ht t1 e1
    subst e12
    exact hP _ (fr85_si k1 (by omega)) (by rw [g85, if_neg (by omega)]; exact k4) (Or.inl ⟨by omega, by rw [g85, if_pos rfl], by rw [g85, if_neg (by omega)]; exact k2⟩)
theorem c_tkm {n : Nat} {σ : Mm} {P : Mm → Prop} (h : Mx σ) (hP : ∀ s, TkM σ s → P s) : Cv 163 [vr 85] (shF n) σ P := by
  obtain ⟨h0, hcd⟩ := h
  obtain ⟨q, hq⟩ : ∃ q : Nat, gi σ 85 7 = (q : Int) := ⟨(gi σ 85 7).toNat, by omega⟩
  obtain ⟨L, hL⟩ : ∃ L : Nat, gi σ 85 6 = (L : Int) := ⟨(gi σ 85 6).toNat, by omega⟩
  obtain ⟨E, hE⟩ : ∃ E, E = lr (fun i => isB (gi σ 86 i)) L q := ⟨_, rfl⟩
  obtain ⟨e1, e2, e3, e4⟩ := lr_in (f := fun i => isB (gi σ 86 i)) (n := L) (p := q) (by omega)
  rw [← hE] at e1 e2 e3 e4
  have hlB : mB σ (gi σ 85 7).toNat = E := by unfold mB; rw [hq, hL, Int.toNat_natCast, Int.toNat_natCast, ← hE]
  refine loopUp (N := E) (I := fun e => q ≤ e → ∀ τ : Mm, (∀ a i, ¬ (a = 85 ∧ i = 7) → gi τ a i = gi σ a i) → gi τ 85 7 = (e : Int) → Cv 163 [vr 85] (shF n) τ P) (fun e he ih => ?_) q e1 (Nat.le_refl _) σ (fun _ _ _ => rfl) hq
  intro hqe τ f1 f2
  have g7 : gi τ 85 6 = (L : Int) := by rw [f1 85 6 (by omega)]; exact hL
  have g4 : gi τ 86 (gi τ 85 7).toNat = gi σ 86 e := by rw [f2, Int.toNat_natCast, f1 86 e (by omega)]
  have g4' : gi τ 86 = gi σ 86 := funext fun i => f1 86 i (by omega)
  have hle : e < E → (gi σ 86 e = 10 ∨ gi σ 86 e = 32) := fun z => isB_t.mp (e4 e hqe z)
  have hexit : e = E → R 163 52 [some (vr 85)] [] (shF n) 0 0 τ (Qv (shF n) P) := fun z => by
    refine tkm_52 (q := e) (L := L) f2 g7 (by omega) (by omega) (fun i hi => by rw [f1 87 i (by omega)]; exact hcd i hi) fun s a b c => hP s ⟨fun x i p => (a x i p).trans (f1 x i (by omega)), ?_, ?_⟩
    · rw [hlB, ← z]; exact b
    · rw [hlB, ← z, hL, Int.toNat_natCast, ← g4']; exact c
  have hend : (L : Int) ≤ (e : Int) ∨ ¬ (gi σ 86 e = 10 ∨ gi σ 86 e = 32) → e = E := fun z => by
    rcases z with z | z
    · omega
    · refine Classical.byContradiction fun y => z (hle (by omega))
  have hgo : (e : Int) < (L : Int) → (gi σ 86 e = 10 ∨ gi σ 86 e = 32) → e < E := fun z y => by
    refine Classical.byContradiction fun x => ?_
    have x' : E = e := by omega
    rw [x'] at e3
    exact isB_f.mp (e3 (by omega)) y
  have hnx : ∀ t : Mm, e < E → t = si τ 85 7 (gi τ 85 7 + 1) → R 163 0 [some (vr 85)] [] (shF n) 0 0 t (Qv (shF n) P) := fun t z et => by
    subst et
    exact ih z (by omega) _ (fun a i p => by rw [gi_si, if_neg p]; exact f1 a i p) (by rw [g85, if_pos rfl, f2]; rfl)
  refine v_tkm_0 (by intros; (first | omega | (unfold rg; omega))) (by intros; (first | omega | (unfold rg; omega))) (by intros; (first | omega | (unfold rg; omega))) ?_ ?_ ?_ ?_
  · intro a1; exact hexit (hend (by omega))
  · intro a1 a2 t e; rw [g4] at a2; exact hnx t (hgo (by omega) (Or.inl a2)) e
  · intro a1 a2 a3; rw [g4] at a2 a3; exact hexit (hend (by omega))
  · intro a1 a2 a3 t e; rw [g4] at a3; exact hnx t (hgo (by omega) (Or.inr a3)) e
