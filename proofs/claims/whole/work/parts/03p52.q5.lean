/-! QUERIES: clashes, count, fractions -/
theorem cnt_ext {p : Nat → Bool} {M : Nat} : ∀ {K : Nat}, M ≤ K → (∀ q, M ≤ q → q < K → p q = false) → cnt p K = cnt p M := by
  intro K
  induction K with
  | zero => intro h _; rw [show M = 0 by omega]
  | succ K ih =>
    intro h hp
    by_cases e : M = K + 1
    · rw [e]
    · rw [cnt_s, ih (by omega) (fun q a b => hp q a (by omega)), hp K (by omega) (by omega)]
      simp [b2i]
theorem sumF_ext {f : Nat → Int} {M : Nat} : ∀ {K : Nat}, M ≤ K → (∀ q, M ≤ q → q < K → f q = 0) → sumF f K = sumF f M := by
  intro K
  induction K with
  | zero => intro h _; rw [show M = 0 by omega]
  | succ K ih =>
    intro h hp
    by_cases e : M = K + 1
    · rw [e]
    · show sumF f K + f K = _
      rw [ih (by omega) (fun q a b => hp q a (by omega)), hp K (by omega) (by omega)]
      omega
theorem sumF_bd {f : Nat → Int} {B : Int} {k : Nat} (h : ∀ q, q < k → 0 ≤ f q ∧ f q ≤ B) : 0 ≤ sumF f k ∧ sumF f k ≤ B * (k : Int) := by
  induction k with
  | zero => exact ⟨by show (0 : Int) ≤ 0; omega, by show (0 : Int) ≤ B * 0; omega⟩
  | succ k ih =>
    have h1 := ih (fun q hq => h q (by omega))
    have h2 := h k (by omega)
    show 0 ≤ sumF f k + f k ∧ sumF f k + f k ≤ B * ((k + 1 : Nat) : Int)
    have : B * ((k + 1 : Nat) : Int) = B * (k : Int) + B := by rw [show ((k + 1 : Nat) : Int) = (k : Int) + 1 from rfl, Int.mul_add]; omega
    omega
theorem v_cla_0 {n : Nat}   {σ : Mm} {P : Int → Mm → Prop} (l1 : R 130 4 [some (vr 3), some (vi 0), some (vi 0), none] [] (shF n) 0 0 σ (Qi (shF n) P)) : Ci 130 [vr 3] (shF n) σ P :=
  show R 130 0 [some (vr 3), none, none, none] [] (shF n) 0 0 σ (Qi (shF n) P) from wpK_R 5 [4, 17] ((l1))
theorem v_cla_4 {n : Nat}  (x : Int) (i : Nat) (z : Option PV) {σ : Mm} {P : Int → Mm → Prop} (l1 : (gi σ 5 1) ≤ (i : Int) → P x σ) (l2 : (i : Int) < (gi σ 5 1) → R 130 17 [some (vr 3), some (vi x), some (vi (i : Int)), some (vi 0)] [] (shF n) 0 0 σ (Qi (shF n) P)) : R 130 4 [some (vr 3), some (vi x), some (vi (i : Int)), z] [] (shF n) 0 0 σ (Qi (shF n) P) :=
  wpK_R 8 [4, 17] (And.intro (fun q1 => And.intro ret0 ⟨rfl, _, rfl, (l1 q1)⟩) (fun q1 => (l2 (Int.not_le.mp q1))))
theorem v_cla_17 {n : Nat}  (x : Int) (i : Nat) (k : Nat) {σ : Mm} {P : Int → Mm → Prop} (o1 : (gi σ 5 1) ≤ (k : Int) → rg ((i : Int) + 1)) (o2 : (k : Int) < (gi σ 5 1) → (0 ≤ (i : Int) ∧ (i : Int) < 10)) (o3 : (k : Int) < (gi σ 5 1) → (gi σ 43 i) ≠ (1 : Int) → rg ((k : Int) + 1)) (o4 : (k : Int) < (gi σ 5 1) → (gi σ 43 i) = (1 : Int) → (0 ≤ (k : Int) ∧ (k : Int) < 10)) (o5 : (k : Int) < (gi σ 5 1) → (gi σ 43 i) = (1 : Int) → (gi σ 43 k) ≠ (0 : Int) → rg ((k : Int) + 1)) (o6 : (k : Int) < (gi σ 5 1) → (gi σ 43 i) = (1 : Int) → (gi σ 43 k) = (0 : Int) → (gi σ 12 k) ≤ (gi σ 12 i) → rg ((k : Int) + 1)) (o7 : (k : Int) < (gi σ 5 1) → (gi σ 43 i) = (1 : Int) → (gi σ 43 k) = (0 : Int) → (gi σ 12 i) < (gi σ 12 k) → rg (x + 1)) (o8 : (k : Int) < (gi σ 5 1) → (gi σ 43 i) = (1 : Int) → (gi σ 43 k) = (0 : Int) → (gi σ 12 i) < (gi σ 12 k) → ∀ x12 : Int, x12 = x + 1 → rg ((k : Int) + 1)) (l1 : (gi σ 5 1) ≤ (k : Int) → R 130 4 [some (vr 3), some (vi x), some (vi ((i : Int) + 1)), some (vi (k : Int))] [] (shF n) 0 0 σ (Qi (shF n) P)) (l2 : (k : Int) < (gi σ 5 1) → (gi σ 43 i) ≠ (1 : Int) → R 130 17 [some (vr 3), some (vi x), some (vi (i : Int)), some (vi ((k : Int) + 1))] [] (shF n) 0 0 σ (Qi (shF n) P)) (l3 : (k : Int) < (gi σ 5 1) → (gi σ 43 i) = (1 : Int) → (gi σ 43 k) ≠ (0 : Int) → R 130 17 [some (vr 3), some (vi x), some (vi (i : Int)), some (vi ((k : Int) + 1))] [] (shF n) 0 0 σ (Qi (shF n) P)) (l4 : (k : Int) < (gi σ 5 1) → (gi σ 43 i) = (1 : Int) → (gi σ 43 k) = (0 : Int) → (gi σ 12 k) ≤ (gi σ 12 i) → R 130 17 [some (vr 3), some (vi x), some (vi (i : Int)), some (vi ((k : Int) + 1))] [] (shF n) 0 0 σ (Qi (shF n) P)) (l5 : (k : Int) < (gi σ 5 1) → (gi σ 43 i) = (1 : Int) → (gi σ 43 k) = (0 : Int) → (gi σ 12 i) < (gi σ 12 k) → ∀ x12 : Int, x12 = x + 1 → R 130 17 [some (vr 3), some (vi x12), some (vi (i : Int)), some (vi ((k : Int) + 1))] [] (shF n) 0 0 σ (Qi (shF n) P)) : R 130 17 [some (vr 3), some (vi x), some (vi (i : Int)), some (vi (k : Int))] [] (shF n) 0 0 σ (Qi (shF n) P) :=
  wpK_R 33 [4, 17] (And.intro (fun q1 => (have k2 := (o1 q1); And.intro k2 ((l1 q1)))) (fun q1 => (have k3 := (o2 (Int.not_le.mp q1)); And.intro k3 (And.intro (fun q4 => (have k5 := (o3 (Int.not_le.mp q1) q4); And.intro k5 ((l2 (Int.not_le.mp q1) q4)))) (fun q4 => (have k6 := (o4 (Int.not_le.mp q1) (Classical.not_not.mp q4)); And.intro k6 (And.intro (fun q7 => (have k8 := (o5 (Int.not_le.mp q1) (Classical.not_not.mp q4) q7); And.intro k8 ((l3 (Int.not_le.mp q1) (Classical.not_not.mp q4) q7)))) (fun q7 => And.intro k3 (And.intro k6 (And.intro (fun q9 => (have k10 := (o6 (Int.not_le.mp q1) (Classical.not_not.mp q4) (Classical.not_not.mp q7) q9); And.intro k10 ((l4 (Int.not_le.mp q1) (Classical.not_not.mp q4) (Classical.not_not.mp q7) q9)))) (fun q9 => (have k11 := (o7 (Int.not_le.mp q1) (Classical.not_not.mp q4) (Classical.not_not.mp q7) (Int.not_le.mp q9)); And.intro k11 ((have k13 := (o8 (Int.not_le.mp q1) (Classical.not_not.mp q4) (Classical.not_not.mp q7) (Int.not_le.mp q9) _ rfl); And.intro k13 ((l5 (Int.not_le.mp q1) (Classical.not_not.mp q4) (Classical.not_not.mp q7) (Int.not_le.mp q9) _ rfl))))))))))))))))
theorem v_claR_0 {n : Nat}   {σ : Mm} {P : Int → Mm → Prop} (l1 : ∀ t1 : Mm, t1 = si σ 85 2 (0 : Int) → R 244 9 [some (vr 85), some (vi 0), some (vi 0), none] [] (shF n) 0 0 t1 (Qi (shF n) P)) : Ci 244 [vr 85] (shF n) σ P :=
  show R 244 0 [some (vr 85), none, none, none] [] (shF n) 0 0 σ (Qi (shF n) P) from wpK_R 8 [9, 19] ((l1 _ rfl))
theorem v_claR_9 {n : Nat}  (x : Int) (i : Nat) (z : Option PV) {σ : Mm} {P : Int → Mm → Prop} (l1 : (gi σ 85 13) ≤ (i : Int) → P x σ) (l2 : (i : Int) < (gi σ 85 13) → R 244 19 [some (vr 85), some (vi x), some (vi (i : Int)), some (vi 0)] [] (shF n) 0 0 σ (Qi (shF n) P)) : R 244 9 [some (vr 85), some (vi x), some (vi (i : Int)), z] [] (shF n) 0 0 σ (Qi (shF n) P) :=
  wpK_R 7 [9, 19] (And.intro (fun q1 => And.intro ret0 ⟨rfl, _, rfl, (l1 q1)⟩) (fun q1 => (l2 (Int.not_le.mp q1))))
theorem v_claR_19 {n : Nat}  (x : Int) (i : Nat) (k : Nat) {σ : Mm} {P : Int → Mm → Prop} (o1 : (gi σ 85 13) ≤ (k : Int) → rg ((i : Int) + 1)) (o2 : (k : Int) < (gi σ 85 13) → (0 ≤ (i : Int) ∧ (i : Int) < 20)) (o3 : (k : Int) < (gi σ 85 13) → (gi σ 117 i) ≠ (1 : Int) → rg (x + 0)) (o4 : (k : Int) < (gi σ 85 13) → (gi σ 117 i) ≠ (1 : Int) → ∀ x6 : Int, x6 = x + 0 → rg ((k : Int) + 1)) (o5 : (k : Int) < (gi σ 85 13) → (gi σ 117 i) = (1 : Int) → (0 ≤ (k : Int) ∧ (k : Int) < 20)) (o6 : (k : Int) < (gi σ 85 13) → (gi σ 117 i) = (1 : Int) → (gi σ 117 k) ≠ (0 : Int) → rg (x + 0)) (o7 : (k : Int) < (gi σ 85 13) → (gi σ 117 i) = (1 : Int) → (gi σ 117 k) ≠ (0 : Int) → ∀ x11 : Int, x11 = x + 0 → rg ((k : Int) + 1)) (o8 : (k : Int) < (gi σ 85 13) → (gi σ 117 i) = (1 : Int) → (gi σ 117 k) = (0 : Int) → (gi σ 96 k) ≤ (gi σ 96 i) → rg (x + 0)) (o9 : (k : Int) < (gi σ 85 13) → (gi σ 117 i) = (1 : Int) → (gi σ 117 k) = (0 : Int) → (gi σ 96 k) ≤ (gi σ 96 i) → ∀ x15 : Int, x15 = x + 0 → rg ((k : Int) + 1)) (o10 : (k : Int) < (gi σ 85 13) → (gi σ 117 i) = (1 : Int) → (gi σ 117 k) = (0 : Int) → (gi σ 96 i) < (gi σ 96 k) → rg (x + 1)) (o11 : (k : Int) < (gi σ 85 13) → (gi σ 117 i) = (1 : Int) → (gi σ 117 k) = (0 : Int) → (gi σ 96 i) < (gi σ 96 k) → ∀ x18 : Int, x18 = x + 1 → rg ((k : Int) + 1)) (l1 : (gi σ 85 13) ≤ (k : Int) → R 244 9 [some (vr 85), some (vi x), some (vi ((i : Int) + 1)), some (vi (k : Int))] [] (shF n) 0 0 σ (Qi (shF n) P)) (l2 : (k : Int) < (gi σ 85 13) → (gi σ 117 i) ≠ (1 : Int) → ∀ x6 : Int, x6 = x + 0 → R 244 19 [some (vr 85), some (vi x6), some (vi (i : Int)), some (vi ((k : Int) + 1))] [] (shF n) 0 0 σ (Qi (shF n) P)) (l3 : (k : Int) < (gi σ 85 13) → (gi σ 117 i) = (1 : Int) → (gi σ 117 k) ≠ (0 : Int) → ∀ x11 : Int, x11 = x + 0 → R 244 19 [some (vr 85), some (vi x11), some (vi (i : Int)), some (vi ((k : Int) + 1))] [] (shF n) 0 0 σ (Qi (shF n) P)) (l4 : (k : Int) < (gi σ 85 13) → (gi σ 117 i) = (1 : Int) → (gi σ 117 k) = (0 : Int) → (gi σ 96 k) ≤ (gi σ 96 i) → ∀ x15 : Int, x15 = x + 0 → R 244 19 [some (vr 85), some (vi x15), some (vi (i : Int)), some (vi ((k : Int) + 1))] [] (shF n) 0 0 σ (Qi (shF n) P)) (l5 : (k : Int) < (gi σ 85 13) → (gi σ 117 i) = (1 : Int) → (gi σ 117 k) = (0 : Int) → (gi σ 96 i) < (gi σ 96 k) → ∀ x18 : Int, x18 = x + 1 → R 244 19 [some (vr 85), some (vi x18), some (vi (i : Int)), some (vi ((k : Int) + 1))] [] (shF n) 0 0 σ (Qi (shF n) P)) : R 244 19 [some (vr 85), some (vi x), some (vi (i : Int)), some (vi (k : Int))] [] (shF n) 0 0 σ (Qi (shF n) P) :=
  wpK_R 32 [9, 19] (And.intro (fun q1 => (have k2 := (o1 q1); And.intro k2 ((l1 q1)))) (fun q1 => (have k3 := (o2 (Int.not_le.mp q1)); And.intro k3 (And.intro (fun q4 => (have k5 := (o3 (Int.not_le.mp q1) q4); And.intro k5 ((have k7 := (o4 (Int.not_le.mp q1) q4 _ rfl); And.intro k7 ((l2 (Int.not_le.mp q1) q4 _ rfl)))))) (fun q4 => (have k8 := (o5 (Int.not_le.mp q1) (Classical.not_not.mp q4)); And.intro k8 (And.intro (fun q9 => (have k10 := (o6 (Int.not_le.mp q1) (Classical.not_not.mp q4) q9); And.intro k10 ((have k12 := (o7 (Int.not_le.mp q1) (Classical.not_not.mp q4) q9 _ rfl); And.intro k12 ((l3 (Int.not_le.mp q1) (Classical.not_not.mp q4) q9 _ rfl)))))) (fun q9 => And.intro k3 (And.intro k8 (And.intro (fun q13 => (have k14 := (o8 (Int.not_le.mp q1) (Classical.not_not.mp q4) (Classical.not_not.mp q9) q13); And.intro k14 ((have k16 := (o9 (Int.not_le.mp q1) (Classical.not_not.mp q4) (Classical.not_not.mp q9) q13 _ rfl); And.intro k16 ((l4 (Int.not_le.mp q1) (Classical.not_not.mp q4) (Classical.not_not.mp q9) q13 _ rfl)))))) (fun q13 => (have k17 := (o10 (Int.not_le.mp q1) (Classical.not_not.mp q4) (Classical.not_not.mp q9) (Int.not_le.mp q13)); And.intro k17 ((have k19 := (o11 (Int.not_le.mp q1) (Classical.not_not.mp q4) (Classical.not_not.mp q9) (Int.not_le.mp q13) _ rfl); And.intro k19 ((l5 (Int.not_le.mp q1) (Classical.not_not.mp q4) (Classical.not_not.mp q9) (Int.not_le.mp q13) _ rfl))))))))))))))))
def clF (σ : Mm) (i : Nat) (q : Nat) : Bool := decide (gi σ 43 i = 1 ∧ gi σ 43 q = 0 ∧ gi σ 12 i < gi σ 12 q)
theorem q_clashes {xs : Nat → Int} {N n : Nat} {σ : Mm} (h : Rel xs N σ) : Bi xs N n 130 [vr 3] 244 [vr 85] σ := by
  obtain ⟨c0, c1, c2, c3, c5, d0, d1, d2, d3, -⟩ := Rel_cnt h
  obtain ⟨C, hC⟩ := Int.eq_ofNat_of_zero_le c1.1
  have hbd : ∀ i, i ≤ 10 → 0 ≤ sumF (fun i => cnt (clF σ i) C) i ∧ sumF (fun i => cnt (clF σ i) C) i ≤ 10 * (i : Int) := fun i hi => sumF_bd fun q _ => by have := cnt_in (clF σ q) C; omega
  have hR : Ci 244 [vr 85] (shF n) σ (fun v' s' => v' = sumF (fun i => cnt (clF σ i) C) C ∧ Rel xs N s') := by
    refine v_claR_0 ?_
    intro t ht
    have e13 : gi t 85 13 = (C : Int) := by rw [ht, gi_si, if_neg (by omega), d1, hC]
    have e117 : ∀ q, q < 10 → gi t 117 q = gi σ 43 q := fun q hq => by rw [ht, gi_ne (by omega)]; exact (Rel_w10 h hq).2.1
    have e96 : ∀ q, q < C → gi t 96 q = gi σ 12 q := fun q hq => by rw [ht, gi_ne (by omega)]; exact (Rel_c h (by omega)).1.2.2.2
    have hrel : Rel xs N t := by rw [ht]; exact Rel_th h
    clear ht
    refine loopUp (N := C) (I := fun i => ∀ z : Option PV, R 244 9 [some (vr 85), some (vi (sumF (fun i => cnt (clF σ i) C) i)), some (vi (i : Int)), z] [] (shF n) 0 0 t (Qi (shF n) (fun v' s' => v' = sumF (fun i => cnt (clF σ i) C) C ∧ Rel xs N s'))) (fun i hi ih => ?_) 0 (by omega) none
    intro z
    refine v_claR_9 _ i z ?_ ?_
    · intro hge; rw [show C = i by omega]; exact ⟨rfl, hrel⟩
    · intro hlt
      rw [e13] at hlt
      refine R_eq (loopUp (N := C) (I := fun k => R 244 19 [some (vr 85), some (vi (sumF (fun i => cnt (clF σ i) C) i + cnt (clF σ i) k)), some (vi (i : Int)), some (vi (k : Int))] [] (shF n) 0 0 t (Qi (shF n) (fun v' s' => v' = sumF (fun i => cnt (clF σ i) C) C ∧ Rel xs N s'))) (fun k hk ih2 => ?_) 0 (by omega)) (by simp [cnt_0])
      have hb1 := hbd i (by omega)
      have hb2 := cnt_in (clF σ i) k
      have f1 := e117 i (by omega)
      have f2 := e117 k
      have f3 := e96 i (by omega)
      have f4 := e96 k
      refine v_claR_19 _ i k (by intros; first | omega | (unfold rg; omega) | (subst_vars; simp only [gi_si, gi_sl, gl_si, gl_sl]; first | omega | (unfold rg; omega))) (by intros; first | omega | (unfold rg; omega) | (subst_vars; simp only [gi_si, gi_sl, gl_si, gl_sl]; first | omega | (unfold rg; omega))) (by intros; first | omega | (unfold rg; omega) | (subst_vars; simp only [gi_si, gi_sl, gl_si, gl_sl]; first | omega | (unfold rg; omega))) (by intros; first | omega | (unfold rg; omega) | (subst_vars; simp only [gi_si, gi_sl, gl_si, gl_sl]; first | omega | (unfold rg; omega))) (by intros; first | omega | (unfold rg; omega) | (subst_vars; simp only [gi_si, gi_sl, gl_si, gl_sl]; first | omega | (unfold rg; omega))) (by intros; first | omega | (unfold rg; omega) | (subst_vars; simp only [gi_si, gi_sl, gl_si, gl_sl]; first | omega | (unfold rg; omega))) (by intros; first | omega | (unfold rg; omega) | (subst_vars; simp only [gi_si, gi_sl, gl_si, gl_sl]; first | omega | (unfold rg; omega))) (by intros; first | omega | (unfold rg; omega) | (subst_vars; simp only [gi_si, gi_sl, gl_si, gl_sl]; first | omega | (unfold rg; omega))) (by intros; first | omega | (unfold rg; omega) | (subst_vars; simp only [gi_si, gi_sl, gl_si, gl_sl]; first | omega | (unfold rg; omega))) (by intros; first | omega | (unfold rg; omega) | (subst_vars; simp only [gi_si, gi_sl, gl_si, gl_sl]; first | omega | (unfold rg; omega))) (by intros; first | omega | (unfold rg; omega) | (subst_vars; simp only [gi_si, gi_sl, gl_si, gl_sl]; first | omega | (unfold rg; omega))) ?_ ?_ ?_ ?_ ?_
      all_goals (intros; rw [e13] at *)
      · rw [show k = C by omega]; exact ih (by omega) _
      · rename_i h1 h2 x hx; subst hx
        refine R_eq (ih2 (by omega)) ?_
        have : clF σ i k = false := decide_eq_false (by omega)
        simp [cnt_s, this, b2i]
      · rename_i h1 h2 h3 x hx; subst hx
        have f2 := f2 (by omega)
        refine R_eq (ih2 (by omega)) ?_
        have : clF σ i k = false := decide_eq_false (by omega)
        simp [cnt_s, this, b2i]
      · rename_i h1 h2 h3 h4 x hx; subst hx
        have f2 := f2 (by omega)
        have f4 := f4 (by omega)
        refine R_eq (ih2 (by omega)) ?_
        have : clF σ i k = false := decide_eq_false (by omega)
        simp [cnt_s, this, b2i]
      · rename_i h1 h2 h3 h4 x hx; subst hx
        have f2 := f2 (by omega)
        have f4 := f4 (by omega)
        refine R_eq (ih2 (by omega)) ?_
        have : clF σ i k = true := decide_eq_true (by omega)
        simp [cnt_s, this, b2i]; omega
  refine v_cla_0 ?_
  refine loopUp (N := C) (I := fun i => ∀ z : Option PV, R 130 4 [some (vr 3), some (vi (sumF (fun i => cnt (clF σ i) C) i)), some (vi (i : Int)), z] [] (shF n) 0 0 σ (Qi (shF n) (fun v s => Ci 244 [vr 85] (shF n) s (fun v' s' => v' = v ∧ Rel xs N s')))) (fun i hi ih => ?_) 0 (by omega) none
  intro z
  refine v_cla_4 _ i z ?_ ?_
  · intro hge; rw [show i = C by omega]; exact hR
  · intro hlt
    rw [hC] at hlt
    refine R_eq (loopUp (N := C) (I := fun k => R 130 17 [some (vr 3), some (vi (sumF (fun i => cnt (clF σ i) C) i + cnt (clF σ i) k)), some (vi (i : Int)), some (vi (k : Int))] [] (shF n) 0 0 σ (Qi (shF n) (fun v s => Ci 244 [vr 85] (shF n) s (fun v' s' => v' = v ∧ Rel xs N s')))) (fun k hk ih2 => ?_) 0 (by omega)) (by simp [cnt_0])
    have hb1 := hbd i (by omega)
    have hb2 := cnt_in (clF σ i) k
    refine v_cla_17 _ i k (by intros; first | omega | (unfold rg; omega) | (subst_vars; simp only [gi_si, gi_sl, gl_si, gl_sl]; first | omega | (unfold rg; omega))) (by intros; first | omega | (unfold rg; omega) | (subst_vars; simp only [gi_si, gi_sl, gl_si, gl_sl]; first | omega | (unfold rg; omega))) (by intros; first | omega | (unfold rg; omega) | (subst_vars; simp only [gi_si, gi_sl, gl_si, gl_sl]; first | omega | (unfold rg; omega))) (by intros; first | omega | (unfold rg; omega) | (subst_vars; simp only [gi_si, gi_sl, gl_si, gl_sl]; first | omega | (unfold rg; omega))) (by intros; first | omega | (unfold rg; omega) | (subst_vars; simp only [gi_si, gi_sl, gl_si, gl_sl]; first | omega | (unfold rg; omega))) (by intros; first | omega | (unfold rg; omega) | (subst_vars; simp only [gi_si, gi_sl, gl_si, gl_sl]; first | omega | (unfold rg; omega))) (by intros; first | omega | (unfold rg; omega) | (subst_vars; simp only [gi_si, gi_sl, gl_si, gl_sl]; first | omega | (unfold rg; omega))) (by intros; first | omega | (unfold rg; omega) | (subst_vars; simp only [gi_si, gi_sl, gl_si, gl_sl]; first | omega | (unfold rg; omega))) ?_ ?_ ?_ ?_ ?_
    all_goals (intros; rw [hC] at *)
    · rw [show k = C by omega]; exact ih (by omega) _
    · refine R_eq (ih2 (by omega)) ?_
      have : clF σ i k = false := decide_eq_false (by omega)
      simp [cnt_s, this, b2i]
    · refine R_eq (ih2 (by omega)) ?_
      have : clF σ i k = false := decide_eq_false (by omega)
      simp [cnt_s, this, b2i]
    · refine R_eq (ih2 (by omega)) ?_
      have : clF σ i k = false := decide_eq_false (by omega)
      simp [cnt_s, this, b2i]
    · rename_i h1 h2 h3 h4 x hx; subst hx
      refine R_eq (ih2 (by omega)) ?_
      have : clF σ i k = true := decide_eq_true (by omega)
      simp [cnt_s, this, b2i]; omega
theorem v_count {n : Nat}  (w : Int) {σ : Mm} {P : Int → Mm → Prop} (o1 : w = 5 → (0 ≤ (10 : Int) ∧ (10 : Int) ≤ 10)) (o2 : w = 6 → (0 ≤ (10 : Int) ∧ (10 : Int) ≤ 10)) (l1 : (w < 0 ∨ 12 < w) → P (-1) σ) (l2 : w = 0 → P (gi σ 5 0) σ) (l3 : w = 1 → P (gi σ 5 1) σ) (l4 : w = 2 → P (gi σ 5 2) σ) (l5 : w = 3 → P (gi σ 17 0) σ) (l6 : w = 4 → P (gi σ 40 0) σ) (l7 : w = 5 → ∀ x2 : Int, x2 = cnt (fun q => decide (gi σ 43 q ≠ -1)) (10 : Int).toNat → P x2 σ) (l8 : w = 6 → ∀ x3 : Int, x3 = cnt (fun q => decide (gi σ 43 q = 1)) (10 : Int).toNat → P x3 σ) (l9 : w = 7 → ∀ x4 : Int, x4 = cnt (fun q => decide (gi σ 44 q = (1 : Int))) 10 → P x4 σ) (l10 : w = 8 → ∀ x5 : Int, x5 = cnt (fun q => decide (gi σ 44 q = (2 : Int))) 10 → P x5 σ) (l11 : w = 9 → ∀ x6 : Int, x6 = cnt (fun q => decide (gi σ 44 q = (3 : Int))) 10 → P x6 σ) (l12 : w = 10 → P (gi σ 75 6) σ) (l13 : w = 11 → (gi σ 75 7) ≠ (-1 : Int) → P (gi σ 75 7) σ) (l14 : w = 11 → (gi σ 75 7) = (-1 : Int) → P (gi σ 75 6) σ) (l15 : w = 12 → P (gi σ 71 4) σ) : Ci 153 [vr 3, vi w] (shF n) σ P :=
  show R 153 0 [some (vr 3), some (vi w)] [] (shF n) 0 0 σ (Qi (shF n) P) from wpK_R 7 [] (And.intro (fun q1 => And.intro ret0 ⟨rfl, _, rfl, (l1 q1)⟩) (And.intro (fun q1 => And.intro ret0 ⟨rfl, _, rfl, (l2 q1)⟩) (And.intro (fun q1 => And.intro ret0 ⟨rfl, _, rfl, (l3 q1)⟩) (And.intro (fun q1 => And.intro ret0 ⟨rfl, _, rfl, (l4 q1)⟩) (And.intro (fun q1 => And.intro ret0 ⟨rfl, _, rfl, (l5 q1)⟩) (And.intro (fun q1 => And.intro ret0 ⟨rfl, _, rfl, (l6 q1)⟩) (And.intro (fun q1 => (c_ch  (o1 q1) (And.intro ret0 ⟨rfl, _, rfl, (l7 q1 _ rfl)⟩))) (And.intro (fun q1 => (c_gu_40  (o2 q1) (And.intro ret0 ⟨rfl, _, rfl, (l8 q1 _ rfl)⟩))) (And.intro (fun q1 => (c_fated_40   (And.intro ret0 ⟨rfl, _, rfl, (l9 q1 _ rfl)⟩))) (And.intro (fun q1 => (c_fated_40   (And.intro ret0 ⟨rfl, _, rfl, (l10 q1 _ rfl)⟩))) (And.intro (fun q1 => (c_fated_40   (And.intro ret0 ⟨rfl, _, rfl, (l11 q1 _ rfl)⟩))) (And.intro (fun q1 => And.intro ret0 ⟨rfl, _, rfl, (l12 q1)⟩) (And.intro (fun q1 => (show R 18 0 [some (vr 75)] [] (shF n) 0 0 _ _ from wpK_R 8 [] (And.intro (fun q7 => And.intro ret0 ⟨rfl, _, rfl, And.intro ret0 ⟨rfl, _, rfl, (l13 q1 q7)⟩⟩) (fun q7 => And.intro ret0 ⟨rfl, _, rfl, And.intro ret0 ⟨rfl, _, rfl, (l14 q1 (Classical.not_not.mp q7))⟩⟩)))) (And.intro (fun q1 => And.intro ret0 ⟨rfl, _, rfl, (l15 q1)⟩) (trivial)))))))))))))))
theorem v_countR {n : Nat}  (w : Int) {σ : Mm} {P : Int → Mm → Prop} (o1 : ∀ t1 : Mm, t1 = si σ 85 2 (0 : Int) → w = 6 → (0 ≤ gi t1 85 13 ∧ gi t1 85 13 ≤ 10)) (o2 : ∀ t1 : Mm, t1 = si σ 85 2 (0 : Int) → w = 6 → 0 < 2) (l1 : ∀ t1 : Mm, t1 = si σ 85 2 (0 : Int) → (w < 0 ∨ 12 < w) → P (-1) t1) (l2 : ∀ t1 : Mm, t1 = si σ 85 2 (0 : Int) → w = 0 → P (gi σ 85 12) t1) (l3 : ∀ t1 : Mm, t1 = si σ 85 2 (0 : Int) → w = 1 → P (gi σ 85 13) t1) (l4 : ∀ t1 : Mm, t1 = si σ 85 2 (0 : Int) → w = 2 → P (gi σ 85 14) t1) (l5 : ∀ t1 : Mm, t1 = si σ 85 2 (0 : Int) → w = 3 → P (gi σ 85 16) t1) (l6 : ∀ t1 : Mm, t1 = si σ 85 2 (0 : Int) → w = 4 → P (gi σ 120 0) t1) (l7 : ∀ t1 : Mm, t1 = si σ 85 2 (0 : Int) → w = 5 → R 274 105 [some (vr 85), some (vi w), some (vi 0), some (vi 0)] [] (shF n) 0 0 t1 (Qi (shF n) P)) (l8 : ∀ t1 : Mm, t1 = si σ 85 2 (0 : Int) → w = 6 → ∀ x3 : Int, x3 = cnt (fun q => decide (gi t1 117 (10 * 0 + q) = 1)) (gi t1 85 13).toNat → P x3 t1) (l9 : ∀ t1 : Mm, t1 = si σ 85 2 (0 : Int) → w = 7 → R 274 146 [some (vr 85), some (vi w), some (vi 0), some (vi 0)] [] (shF n) 0 0 t1 (Qi (shF n) P)) (l10 : ∀ t1 : Mm, t1 = si σ 85 2 (0 : Int) → w = 8 → P (gi σ 121 0) t1) (l11 : ∀ t1 : Mm, t1 = si σ 85 2 (0 : Int) → w = 9 → P (gi σ 122 0) t1) (l12 : ∀ t1 : Mm, t1 = si σ 85 2 (0 : Int) → w = 10 → P (gi σ 85 76) t1) (l13 : ∀ t1 : Mm, t1 = si σ 85 2 (0 : Int) → w = 11 → (0 : Int) ≤ (gi σ 85 77) → P (gi σ 85 77) t1) (l14 : ∀ t1 : Mm, t1 = si σ 85 2 (0 : Int) → w = 11 → (gi σ 85 77) < (0 : Int) → P (gi σ 85 76) t1) (l15 : ∀ t1 : Mm, t1 = si σ 85 2 (0 : Int) → w = 12 → P (gi σ 85 82) t1) : Ci 274 [vr 85, vi w] (shF n) σ P :=
  show R 274 0 [some (vr 85), some (vi w), none, none] [] (shF n) 0 0 σ (Qi (shF n) P) from wpK_R 12 [105, 146] (And.intro (fun q2 => And.intro ret0 ⟨rfl, _, rfl, (l1 _ rfl q2)⟩) (And.intro (fun q2 => And.intro ret0 ⟨rfl, _, rfl, (l2 _ rfl q2)⟩) (And.intro (fun q2 => And.intro ret0 ⟨rfl, _, rfl, (l3 _ rfl q2)⟩) (And.intro (fun q2 => And.intro ret0 ⟨rfl, _, rfl, (l4 _ rfl q2)⟩) (And.intro (fun q2 => And.intro ret0 ⟨rfl, _, rfl, (l5 _ rfl q2)⟩) (And.intro (fun q2 => And.intro (by decide) (And.intro ret0 ⟨rfl, _, rfl, (l6 _ rfl q2)⟩)) (And.intro (fun q2 => (l7 _ rfl q2)) (And.intro (fun q2 => (c_guR (b := 0) (o1 _ rfl q2) (o2 _ rfl q2) (And.intro ret0 ⟨rfl, _, rfl, (l8 _ rfl q2 _ rfl)⟩))) (And.intro (fun q2 => (l9 _ rfl q2)) (And.intro (fun q2 => And.intro (by decide) (And.intro ret0 ⟨rfl, _, rfl, (l10 _ rfl q2)⟩)) (And.intro (fun q2 => And.intro (by decide) (And.intro ret0 ⟨rfl, _, rfl, (l11 _ rfl q2)⟩)) (And.intro (fun q2 => And.intro ret0 ⟨rfl, _, rfl, (l12 _ rfl q2)⟩) (And.intro (fun q2 => (show R 258 0 [some (vr 85)] [] (shF n) 0 0 _ _ from wpK_R 7 [] (And.intro (fun q4 => And.intro ret0 ⟨rfl, _, rfl, And.intro ret0 ⟨rfl, _, rfl, (l13 _ rfl q2 q4)⟩⟩) (fun q4 => And.intro ret0 ⟨rfl, _, rfl, And.intro ret0 ⟨rfl, _, rfl, (l14 _ rfl q2 (Int.not_le.mp q4))⟩⟩)))) (And.intro (fun q2 => And.intro ret0 ⟨rfl, _, rfl, (l15 _ rfl q2)⟩) (trivial)))))))))))))))
theorem v_countR_105 {n : Nat}  (w : Int) (x : Int) (k : Nat) {σ : Mm} {P : Int → Mm → Prop} (o1 : (k : Int) < (gi σ 85 13) → (0 ≤ (k : Int) ∧ (k : Int) < 20)) (o2 : (k : Int) < (gi σ 85 13) → (gi σ 117 k) < (0 : Int) → rg (x + 0)) (o3 : (k : Int) < (gi σ 85 13) → (gi σ 117 k) < (0 : Int) → ∀ x5 : Int, x5 = x + 0 → rg ((k : Int) + 1)) (o4 : (k : Int) < (gi σ 85 13) → (0 : Int) ≤ (gi σ 117 k) → rg (x + 1)) (o5 : (k : Int) < (gi σ 85 13) → (0 : Int) ≤ (gi σ 117 k) → ∀ x8 : Int, x8 = x + 1 → rg ((k : Int) + 1)) (l1 : (gi σ 85 13) ≤ (k : Int) → P x σ) (l2 : (k : Int) < (gi σ 85 13) → (gi σ 117 k) < (0 : Int) → ∀ x5 : Int, x5 = x + 0 → R 274 105 [some (vr 85), some (vi w), some (vi x5), some (vi ((k : Int) + 1))] [] (shF n) 0 0 σ (Qi (shF n) P)) (l3 : (k : Int) < (gi σ 85 13) → (0 : Int) ≤ (gi σ 117 k) → ∀ x8 : Int, x8 = x + 1 → R 274 105 [some (vr 85), some (vi w), some (vi x8), some (vi ((k : Int) + 1))] [] (shF n) 0 0 σ (Qi (shF n) P)) : R 274 105 [some (vr 85), some (vi w), some (vi x), some (vi (k : Int))] [] (shF n) 0 0 σ (Qi (shF n) P) :=
  wpK_R 17 [105, 146] (And.intro (fun q1 => And.intro ret0 ⟨rfl, _, rfl, (l1 q1)⟩) (fun q1 => (have k2 := (o1 (Int.not_le.mp q1)); And.intro k2 (And.intro (fun q3 => (have k4 := (o2 (Int.not_le.mp q1) q3); And.intro k4 ((have k6 := (o3 (Int.not_le.mp q1) q3 _ rfl); And.intro k6 ((l2 (Int.not_le.mp q1) q3 _ rfl)))))) (fun q3 => (have k7 := (o4 (Int.not_le.mp q1) (Int.not_lt.mp q3)); And.intro k7 ((have k9 := (o5 (Int.not_le.mp q1) (Int.not_lt.mp q3) _ rfl); And.intro k9 ((l3 (Int.not_le.mp q1) (Int.not_lt.mp q3) _ rfl))))))))))
theorem v_countR_146 {n : Nat}  (w : Int) (x : Int) (k : Nat) {σ : Mm} {P : Int → Mm → Prop} (o1 : (k : Int) < (gi σ 85 12) → (0 ≤ (k : Int) ∧ (k : Int) < 10)) (o2 : (k : Int) < (gi σ 85 12) → rg (x + (gi σ 113 k))) (o3 : (k : Int) < (gi σ 85 12) → ∀ x4 : Int, x4 = x + (gi σ 113 k) → rg ((k : Int) + 1)) (l1 : (gi σ 85 12) ≤ (k : Int) → P x σ) (l2 : (k : Int) < (gi σ 85 12) → ∀ x4 : Int, x4 = x + (gi σ 113 k) → R 274 146 [some (vr 85), some (vi w), some (vi x4), some (vi ((k : Int) + 1))] [] (shF n) 0 0 σ (Qi (shF n) P)) : R 274 146 [some (vr 85), some (vi w), some (vi x), some (vi (k : Int))] [] (shF n) 0 0 σ (Qi (shF n) P) :=
  wpK_R 14 [105, 146] (And.intro (fun q1 => And.intro ret0 ⟨rfl, _, rfl, (l1 q1)⟩) (fun q1 => (have k2 := (o1 (Int.not_le.mp q1)); And.intro k2 ((have k3 := (o2 (Int.not_le.mp q1)); And.intro k3 ((have k5 := (o3 (Int.not_le.mp q1) _ rfl); And.intro k5 ((l2 (Int.not_le.mp q1) _ rfl)))))))))
def countS (σ : Mm) (w : Int) : Int := if w = 0 then gi σ 5 0 else if w = 1 then gi σ 5 1 else if w = 2 then gi σ 5 2 else if w = 3 then gi σ 17 0 else if w = 4 then gi σ 40 0 else if w = 5 then cnt (fun q => decide (gi σ 43 q ≠ -1)) 10 else if w = 6 then cnt (fun q => decide (gi σ 43 q = 1)) 10 else if w = 7 then cnt (fun q => decide (gi σ 44 q = 1)) 10 else if w = 8 then cnt (fun q => decide (gi σ 44 q = 2)) 10 else if w = 9 then cnt (fun q => decide (gi σ 44 q = 3)) 10 else if w = 10 then gi σ 75 6 else if w = 11 then (if gi σ 75 7 = -1 then gi σ 75 6 else gi σ 75 7) else if w = 12 then gi σ 71 4 else -1
theorem q_count {xs : Nat → Int} {N n : Nat} {σ : Mm} (h : Rel xs N σ) (w : Int) : Bi xs N n 153 [vr 3, vi w] 274 [vr 85, vi w] σ := by
  obtain ⟨c0, c1, c2, c3, c5, d0, d1, d2, d3, d4, -⟩ := Rel_cnt h
  have hw0 := Rel_w0 h
  obtain ⟨r1, r2, r3, r4, r5, r6, r7, r8, r9, r10, r11, r12, r13, r14⟩ := h
  have h : Rel xs N σ := ⟨r1, r2, r3, r4, r5, r6, r7, r8, r9, r10, r11, r12, r13, r14⟩
  obtain ⟨st, mn, u1, u2, u3, -⟩ := r11
  have f1 := r13.2.1
  have f2 := r13.2.2.2.1
  have f3 := r13.2.2.1
  have z7 := r7.2.2.2.2.2.2.2.2.2.1
  have hR : Ci 274 [vr 85, vi w] (shF n) σ (fun v' s' => v' = countS σ w ∧ Rel xs N s') := by
    refine v_countR w (by intros; subst_vars; first | omega | (rw [gi_si, if_neg (by omega)]; omega)) (by intros; subst_vars; first | omega | (rw [gi_si, if_neg (by omega)]; omega)) ?_ ?_ ?_ ?_ ?_ ?_ ?_ ?_ ?_ ?_ ?_ ?_ ?_ ?_ ?_
    all_goals (intro t ht)
    all_goals (have hrel : Rel xs N t := by rw [ht]; exact Rel_th h)
    · intro hw; refine ⟨?_, hrel⟩; unfold countS; repeat (rw [if_neg (by omega)])
    · intro hw; subst hw; exact ⟨d0, hrel⟩
    · intro hw; subst hw; exact ⟨d1, hrel⟩
    · intro hw; subst hw; exact ⟨d2, hrel⟩
    · intro hw; subst hw; exact ⟨d4, hrel⟩
    · intro hw; subst hw; exact ⟨hw0.1, hrel⟩
    · intro hw; subst hw
      have e13 : gi t 85 13 = gi σ 5 1 := by rw [ht, gi_si, if_neg (by omega), d1]
      have e117 : ∀ q, q < 10 → gi t 117 q = gi σ 43 q := fun q hq => by rw [ht, gi_ne (by omega)]; exact (Rel_w10 h hq).2.1
      have eC : countS σ 5 = cnt (fun q => decide (gi σ 43 q ≠ -1)) (gi σ 5 1).toNat := cnt_ext (M := (gi σ 5 1).toNat) (K := 10) (by omega) (fun q a b => decide_eq_false (by have := (Rel_w10 h (c := q) b).2.2.2.2.2.2.2.1 (by omega); simp [this]))
      rw [eC]
      refine loopUp (N := (gi σ 5 1).toNat) (I := fun k => R 274 105 [some (vr 85), some (vi 5), some (vi (cnt (fun q => decide (gi σ 43 q ≠ -1)) k)), some (vi (k : Int))] [] (shF n) 0 0 t (Qi (shF n) (fun v' s' => v' = cnt (fun q => decide (gi σ 43 q ≠ -1)) (gi σ 5 1).toNat ∧ Rel xs N s'))) (fun k hk ih => ?_) 0 (by omega)
      have hc := cnt_in (fun q => decide (gi σ 43 q ≠ -1)) k
      refine v_countR_105 5 _ k (by intros; first | omega | (unfold rg; omega) | (subst_vars; simp only [gi_si, gi_sl, gl_si, gl_sl]; first | omega | (unfold rg; omega))) (by intros; first | omega | (unfold rg; omega) | (subst_vars; simp only [gi_si, gi_sl, gl_si, gl_sl]; first | omega | (unfold rg; omega))) (by intros; first | omega | (unfold rg; omega) | (subst_vars; simp only [gi_si, gi_sl, gl_si, gl_sl]; first | omega | (unfold rg; omega))) (by intros; first | omega | (unfold rg; omega) | (subst_vars; simp only [gi_si, gi_sl, gl_si, gl_sl]; first | omega | (unfold rg; omega))) (by intros; first | omega | (unfold rg; omega) | (subst_vars; simp only [gi_si, gi_sl, gl_si, gl_sl]; first | omega | (unfold rg; omega))) ?_ ?_ ?_
      · intro hge; rw [show (gi σ 5 1).toNat = k by omega]; exact ⟨rfl, hrel⟩
      · intro h1 h2 x hx
        rw [e117 k (by omega)] at h2
        have := (Rel_w10 h (c := k) (by omega)).2.2.2.1
        refine R_eq (ih (by omega)) ?_
        rw [hx, cnt_s, decide_eq_false (by omega)]; simp [b2i]
      · intro h1 h2 x hx
        rw [e117 k (by omega)] at h2
        refine R_eq (ih (by omega)) ?_
        rw [hx, cnt_s, decide_eq_true (by omega)]; simp [b2i]
    · intro hw x hx; subst hw
      refine ⟨?_, hrel⟩
      have eC : countS σ 6 = cnt (fun q => decide (gi σ 43 q = 1)) (gi σ 5 1).toNat := cnt_ext (M := (gi σ 5 1).toNat) (K := 10) (by omega) (fun q a b => decide_eq_false (by have := (Rel_w10 h (c := q) b).2.2.2.2.2.2.2.1 (by omega); omega))
      rw [hx, eC, ht, gi_si, if_neg (by omega), d1]
      refine cnt_congr fun q hq => ?_
      rw [gi_ne (by omega), show 10 * 0 + q = q by omega, (Rel_w10 h (c := q) (by omega)).2.1]
    · intro hw; subst hw
      have e12 : gi t 85 12 = gi σ 5 0 := by rw [ht, gi_si, if_neg (by omega), d0]
      have e113 : ∀ q, q < 5 → gi t 113 q = gi σ 46 q := fun q hq => by rw [ht, gi_ne (by omega)]; exact (Rel_w5 h hq).2.2.1
      have eC : countS σ 7 = sumF (gi σ 46) (gi σ 5 0).toNat := by
        show cnt (fun q => decide (gi σ 44 q = 1)) 10 = _
        rw [← hw0.2.2.2.2.2]
        refine sumF_ext (M := (gi σ 5 0).toNat) (K := 5) (by omega) (fun q a b => ?_)
        have := z7 q (show gi σ 5 0 ≤ (q : Int) by omega) b
        rw [wv_at (by omega)] at this
        exact this
      rw [eC]
      refine loopUp (N := (gi σ 5 0).toNat) (I := fun k => R 274 146 [some (vr 85), some (vi 7), some (vi (sumF (gi σ 46) k)), some (vi (k : Int))] [] (shF n) 0 0 t (Qi (shF n) (fun v' s' => v' = sumF (gi σ 46) (gi σ 5 0).toNat ∧ Rel xs N s'))) (fun k hk ih => ?_) 0 (by omega)
      have hc := sumF_bd (f := gi σ 46) (B := 8) (k := k) (fun q hq => (Rel_w5 h (j := q) (by omega)).2.2.2.2.1)
      have hk8 : k < 5 → 0 ≤ gi σ 46 k ∧ gi σ 46 k ≤ 8 := fun q => (Rel_w5 h (j := k) q).2.2.2.2.1
      refine v_countR_146 7 _ k (by intros; first | omega | (unfold rg; omega) | (rw [e113 k (by omega)]; have := hk8 (by omega); unfold rg; omega)) (by intros; first | omega | (unfold rg; omega) | (rw [e113 k (by omega)]; have := hk8 (by omega); unfold rg; omega)) (by intros; first | omega | (unfold rg; omega) | (rw [e113 k (by omega)]; have := hk8 (by omega); unfold rg; omega)) ?_ ?_
      · intro hge; rw [show (gi σ 5 0).toNat = k by omega]; exact ⟨rfl, hrel⟩
      · intro h1 x hx
        rw [e113 k (by omega)] at hx
        refine R_eq (ih (by omega)) ?_
        rw [hx]; rfl
    · intro hw; subst hw; exact ⟨hw0.2.2.2.1, hrel⟩
    · intro hw; subst hw; exact ⟨hw0.2.2.2.2.1, hrel⟩
    · intro hw; subst hw; exact ⟨f1, hrel⟩
    · intro hw h2; subst hw; refine ⟨?_, hrel⟩; show _ = (if gi σ 75 7 = -1 then gi σ 75 6 else gi σ 75 7); rw [if_neg (by omega)]; exact f2
    · intro hw h2; subst hw; refine ⟨?_, hrel⟩; show _ = (if gi σ 75 7 = -1 then gi σ 75 6 else gi σ 75 7); rw [if_pos (by omega)]; exact f1
    · intro hw; subst hw; exact ⟨u3.trans u2.symm, hrel⟩
  refine v_count w (by intros; first | omega | (unfold rg; omega) | (subst_vars; simp only [gi_si, gi_sl, gl_si, gl_sl]; first | omega | (unfold rg; omega))) (by intros; first | omega | (unfold rg; omega) | (subst_vars; simp only [gi_si, gi_sl, gl_si, gl_sl]; first | omega | (unfold rg; omega))) ?_ ?_ ?_ ?_ ?_ ?_ ?_ ?_ ?_ ?_ ?_ ?_ ?_ ?_ ?_
  · intro hw; refine Ci_mono hR (fun v s q => ⟨q.1.trans ?_, q.2⟩); unfold countS; repeat (rw [if_neg (by omega)])
  all_goals (intros; subst_vars; refine Ci_mono hR (fun v s q => ⟨q.1.trans ?_, q.2⟩); first | rfl | (show (if gi σ 75 7 = -1 then gi σ 75 6 else gi σ 75 7) = _; first | (rw [if_neg (by assumption)]; done) | (rw [if_pos (by assumption)]; done)))
