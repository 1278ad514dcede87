/-! TEXT: what was read is kept -/
def C4M (σ s : Mm) : Prop := gi s 17 0 = gi σ 33 0 ∧ (∀ i : Nat, i < 64 → gi s 18 i = gi σ 34 i) ∧ (∀ i : Nat, i < 3 → gi s 19 i = gi σ 35 i ∧ gi s 20 i = gi σ 36 i) ∧ ∀ a i, ¬ (17 ≤ a ∧ a ≤ 20) → gi s a i = gi σ a i
theorem v_c4 {n : Nat}   {σ : Mm} {P : Mm → Prop} (l1 : ∀ t1 : Mm, t1 = si σ 17 0 (gi σ 33 0) → ∀ t2 : Mm, t2 = cp t1 34 0 18 0 64 → ∀ t3 : Mm, t3 = cp t2 35 0 19 0 3 → ∀ t4 : Mm, t4 = cp t3 36 0 20 0 3 → P t4) : Cv 25 [vr 17, vr 33] (shF n) σ P :=
  show R 25 0 [some (vr 17), some (vr 33)] [] (shF n) 0 0 σ (Qv (shF n) P) from wpK_R 29 [] (And.intro (by decide) (And.intro (by decide) (And.intro (by decide) (And.intro ret0 ⟨rfl, rfl, (l1 _ rfl _ rfl _ rfl _ rfl)⟩))))
theorem c_c4 {n : Nat} {σ : Mm} {P : Mm → Prop} (hP : ∀ s, C4M σ s → P s) : Cv 25 [vr 17, vr 33] (shF n) σ P := by
  refine v_c4 ?_
  intro t1 e1 t2 e2 t3 e3 t4 e4
  subst e4 e3 e2 e1
  refine hP _ ⟨?_, fun i hi => ?_, fun i hi => ⟨?_, ?_⟩, fun a i p => ?_⟩
  · simp [gi_cp, gi_si]
  · simp [gi_cp, gi_si, hi]
  · simp [gi_cp, gi_si, hi]
  · simp [gi_cp, gi_si, hi]
  · rw [gi_cp, if_neg (by omega), gi_cp, if_neg (by omega), gi_cp, if_neg (by omega), gi_si, if_neg (by omega)]
def CbM (σ s : Mm) : Prop := (gi s 5 0 = gi σ 21 0 ∧ gi s 5 1 = gi σ 21 1 ∧ gi s 5 2 = gi σ 21 2 ∧ gi s 5 3 = gi σ 21 3 ∧ gi s 5 4 = gi σ 21 4 ∧ gi s 5 5 = gi σ 21 5 ∧ gi s 5 6 = gi σ 21 6) ∧
  (∀ i : Nat, i < 5 → gi s 6 i = gi σ 22 i ∧ gi s 7 i = gi σ 23 i ∧ gi s 8 i = gi σ 24 i) ∧ (∀ i : Nat, i < 10 → gi s 9 i = gi σ 25 i ∧ gi s 10 i = gi σ 26 i ∧ gi s 11 i = gi σ 27 i ∧ gi s 12 i = gi σ 28 i) ∧
  (∀ i : Nat, i < 5 → gi s 13 i = gi σ 29 i ∧ gi s 14 i = gi σ 30 i ∧ gi s 15 i = gi σ 31 i) ∧ (∀ i : Nat, i < 8 → gi s 16 i = gi σ 32 i) ∧
  gi s 17 0 = gi σ 33 0 ∧ (∀ i : Nat, i < 64 → gi s 18 i = gi σ 34 i) ∧ (∀ i : Nat, i < 3 → gi s 19 i = gi σ 35 i ∧ gi s 20 i = gi σ 36 i) ∧ ∀ a i, ¬ (5 ≤ a ∧ a ≤ 20) → gi s a i = gi σ a i
theorem v_cb {n : Nat}   {σ : Mm} {P : Mm → Prop} (o1 : ∀ t1 : Mm, t1 = si σ 5 0 (gi σ 21 0) → ∀ t2 : Mm, t2 = si t1 5 1 (gi σ 21 1) → ∀ t3 : Mm, t3 = si t2 5 2 (gi σ 21 2) → ∀ t4 : Mm, t4 = si t3 5 3 (gi σ 21 3) → ∀ t5 : Mm, t5 = si t4 5 4 (gi σ 21 4) → ∀ t6 : Mm, t6 = si t5 5 5 (gi σ 21 5) → ((gi σ 21 6) = 0 ∨ (gi σ 21 6) = 1)) (l1 : ∀ t1 : Mm, t1 = si σ 5 0 (gi σ 21 0) → ∀ t2 : Mm, t2 = si t1 5 1 (gi σ 21 1) → ∀ t3 : Mm, t3 = si t2 5 2 (gi σ 21 2) → ∀ t4 : Mm, t4 = si t3 5 3 (gi σ 21 3) → ∀ t5 : Mm, t5 = si t4 5 4 (gi σ 21 4) → ∀ t6 : Mm, t6 = si t5 5 5 (gi σ 21 5) → ∀ t7 : Mm, t7 = si t6 5 6 (gi σ 21 6) → ∀ t9 : Mm, t9 = cp t7 22 0 6 0 5 → ∀ t10 : Mm, t10 = cp t9 23 0 7 0 5 → ∀ t11 : Mm, t11 = cp t10 24 0 8 0 5 → ∀ t12 : Mm, t12 = cp t11 25 0 9 0 10 → ∀ t13 : Mm, t13 = cp t12 26 0 10 0 10 → ∀ t14 : Mm, t14 = cp t13 27 0 11 0 10 → ∀ t15 : Mm, t15 = cp t14 28 0 12 0 10 → ∀ t16 : Mm, t16 = cp t15 29 0 13 0 5 → ∀ t17 : Mm, t17 = cp t16 30 0 14 0 5 → ∀ t18 : Mm, t18 = cp t17 31 0 15 0 5 → ∀ t19 : Mm, t19 = cp t18 32 0 16 0 8 → ∀ s21 : Mm, C4M t19 s21 → P s21) : Cv 2 [vr 5, vr 21] (shF n) σ P :=
  show R 2 0 [some (vr 5), some (vr 21)] [] (shF n) 0 0 σ (Qv (shF n) P) from wpK_R 122 [] ((have k8 := (o1 _ rfl _ rfl _ rfl _ rfl _ rfl _ rfl); And.intro k8 (And.intro (by decide) (And.intro (by decide) (And.intro (by decide) (And.intro (by decide) (And.intro (by decide) (And.intro (by decide) (And.intro (by decide) (And.intro (by decide) (And.intro (by decide) (And.intro (by decide) (And.intro (by decide) ((c_c4   (fun s21 h22 => And.intro ret0 ⟨rfl, rfl, (l1 _ rfl _ rfl _ rfl _ rfl _ rfl _ rfl _ rfl _ rfl _ rfl _ rfl _ rfl _ rfl _ rfl _ rfl _ rfl _ rfl _ rfl _ rfl s21 h22)⟩))))))))))))))))
theorem c_cb {n : Nat} {σ : Mm} {P : Mm → Prop} (hb : gi σ 21 6 = 0 ∨ gi σ 21 6 = 1) (hP : ∀ s, CbM σ s → P s) : Cv 2 [vr 5, vr 21] (shF n) σ P := by
  refine v_cb (by intros; exact hb) ?_
  intro t1 e1 t2 e2 t3 e3 t4 e4 t5 e5 t6 e6 t7 e7 t9 e9 t10 e10 t11 e11 t12 e12 t13 e13 t14 e14 t15 e15 t16 e16 t17 e17 t18 e18 t19 e19 s hs
  obtain ⟨l1, l2, l3, l4⟩ := hs
  have fr : ∀ a i, ¬ (5 ≤ a ∧ a ≤ 16) → gi t19 a i = gi σ a i := fun a i p => by
    subst e19 e18 e17 e16 e15 e14 e13 e12 e11 e10 e9 e7 e6 e5 e4 e3 e2 e1
    iterate 11 rw [gi_cp, if_neg (by omega)]
    iterate 7 rw [gi_si, if_neg (by omega)]
  refine hP s ⟨?_, fun i hi => ?_, fun i hi => ?_, fun i hi => ?_, fun i hi => ?_, by rw [l1, fr 33 0 (by omega)], fun i hi => by rw [l2 i hi, fr 34 i (by omega)], fun i hi => ⟨by rw [(l3 i hi).1, fr 35 i (by omega)], by rw [(l3 i hi).2, fr 36 i (by omega)]⟩, fun a i p => by rw [l4 a i (by omega), fr a i (by omega)]⟩
  · rw [l4 5 0 (by omega), l4 5 1 (by omega), l4 5 2 (by omega), l4 5 3 (by omega), l4 5 4 (by omega), l4 5 5 (by omega), l4 5 6 (by omega)]
    subst e19 e18 e17 e16 e15 e14 e13 e12 e11 e10 e9 e7 e6 e5 e4 e3 e2 e1
    simp [gi_cp, gi_si]
  · rw [l4 6 i (by omega), l4 7 i (by omega), l4 8 i (by omega)]
    subst e19 e18 e17 e16 e15 e14 e13 e12 e11 e10 e9 e7 e6 e5 e4 e3 e2 e1
    simp [gi_cp, gi_si, hi]
  · rw [l4 9 i (by omega), l4 10 i (by omega), l4 11 i (by omega), l4 12 i (by omega)]
    subst e19 e18 e17 e16 e15 e14 e13 e12 e11 e10 e9 e7 e6 e5 e4 e3 e2 e1
    simp [gi_cp, gi_si, hi]
  · rw [l4 13 i (by omega), l4 14 i (by omega), l4 15 i (by omega)]
    subst e19 e18 e17 e16 e15 e14 e13 e12 e11 e10 e9 e7 e6 e5 e4 e3 e2 e1
    simp [gi_cp, gi_si, hi]
  · rw [l4 16 i (by omega)]
    subst e19 e18 e17 e16 e15 e14 e13 e12 e11 e10 e9 e7 e6 e5 e4 e3 e2 e1
    simp [gi_cp, gi_si, hi]
/-- a world begins, the class -/
def W0M (σ s : Mm) : Prop := gi s 40 0 = 0 ∧ gi s 40 1 = 0 ∧ (∀ c : Nat, c < 10 → gi s 41 c = gi σ 10 c ∧ gi s 42 c = -1 ∧ gi s 43 c = -1 ∧ gi s 44 c = 0) ∧ (∀ j : Nat, j < 5 → gi s 45 j = (j : Int) ∧ gi s 46 j = 0) ∧ (∀ j : Nat, j < 5 → gi s 48 j = 0) ∧ (∀ a i, ¬ (40 ≤ a ∧ a ≤ 48 ∧ a ≠ 47) → gi s a i = gi σ a i)
theorem v_w0_0 {n : Nat}   {σ : Mm} {P : Mm → Prop} (l1 : ∀ t1 : Mm, t1 = si σ 40 0 (0 : Int) → ∀ t2 : Mm, t2 = si t1 40 1 (0 : Int) → R 81 12 [some (vr 40), some (vr 5), some (vi 0)] [] (shF n) 0 0 t2 (Qv (shF n) P)) : Cv 81 [vr 40, vr 5] (shF n) σ P :=
  show R 81 0 [some (vr 40), some (vr 5), none] [] (shF n) 0 0 σ (Qv (shF n) P) from wpK_R 9 [12, 59, 86] ((l1 _ rfl _ rfl))
theorem v_w0_12 {n : Nat}  (k : Nat) {σ : Mm} {P : Mm → Prop} (o1 : (k : Int) < (10 : Int) → (0 ≤ (k : Int) ∧ (k : Int) < 10)) (o2 : (k : Int) < (10 : Int) → ∀ t3 : Mm, t3 = si σ 41 k (gi σ 10 k) → ∀ t4 : Mm, t4 = si t3 42 k (-1 : Int) → ∀ t5 : Mm, t5 = si t4 43 k (-1 : Int) → ∀ t6 : Mm, t6 = si t5 44 k (0 : Int) → rg ((k : Int) + 1)) (l1 : (10 : Int) ≤ (k : Int) → R 81 59 [some (vr 40), some (vr 5), some (vi 0)] [] (shF n) 0 0 σ (Qv (shF n) P)) (l2 : (k : Int) < (10 : Int) → ∀ t3 : Mm, t3 = si σ 41 k (gi σ 10 k) → ∀ t4 : Mm, t4 = si t3 42 k (-1 : Int) → ∀ t5 : Mm, t5 = si t4 43 k (-1 : Int) → ∀ t6 : Mm, t6 = si t5 44 k (0 : Int) → R 81 12 [some (vr 40), some (vr 5), some (vi ((k : Int) + 1))] [] (shF n) 0 0 t6 (Qv (shF n) P)) : R 81 12 [some (vr 40), some (vr 5), some (vi (k : Int))] [] (shF n) 0 0 σ (Qv (shF n) P) :=
  wpK_R 29 [12, 59, 86] (And.intro (fun q1 => (l1 q1)) (fun q1 => (have k2 := (o1 (Int.not_le.mp q1)); And.intro k2 (And.intro k2 (And.intro k2 (And.intro k2 (And.intro k2 ((have k7 := (o2 (Int.not_le.mp q1) _ rfl _ rfl _ rfl _ rfl); And.intro k7 ((l2 (Int.not_le.mp q1) _ rfl _ rfl _ rfl _ rfl)))))))))))
theorem v_w0_59 {n : Nat}  (k : Nat) {σ : Mm} {P : Mm → Prop} (o1 : (k : Int) < (5 : Int) → (0 ≤ (k : Int) ∧ (k : Int) < 5)) (o2 : (k : Int) < (5 : Int) → ∀ t3 : Mm, t3 = si σ 45 k (k : Int) → ∀ t4 : Mm, t4 = si t3 46 k (0 : Int) → rg ((k : Int) + 1)) (l1 : (5 : Int) ≤ (k : Int) → R 81 86 [some (vr 40), some (vr 5), some (vi 0)] [] (shF n) 0 0 σ (Qv (shF n) P)) (l2 : (k : Int) < (5 : Int) → ∀ t3 : Mm, t3 = si σ 45 k (k : Int) → ∀ t4 : Mm, t4 = si t3 46 k (0 : Int) → R 81 59 [some (vr 40), some (vr 5), some (vi ((k : Int) + 1))] [] (shF n) 0 0 t4 (Qv (shF n) P)) : R 81 59 [some (vr 40), some (vr 5), some (vi (k : Int))] [] (shF n) 0 0 σ (Qv (shF n) P) :=
  wpK_R 16 [12, 59, 86] (And.intro (fun q1 => (l1 q1)) (fun q1 => (have k2 := (o1 (Int.not_le.mp q1)); And.intro k2 (And.intro k2 ((have k5 := (o2 (Int.not_le.mp q1) _ rfl _ rfl); And.intro k5 ((l2 (Int.not_le.mp q1) _ rfl _ rfl))))))))
theorem v_w0_86 {n : Nat}  (k : Nat) {σ : Mm} {P : Mm → Prop} (o1 : (k : Int) < (5 : Int) → (0 ≤ (k : Int) ∧ (k : Int) < 5)) (o2 : (k : Int) < (5 : Int) → ∀ t3 : Mm, t3 = si σ 48 k (0 : Int) → rg ((k : Int) + 1)) (l1 : (5 : Int) ≤ (k : Int) → P σ) (l2 : (k : Int) < (5 : Int) → ∀ t3 : Mm, t3 = si σ 48 k (0 : Int) → R 81 86 [some (vr 40), some (vr 5), some (vi ((k : Int) + 1))] [] (shF n) 0 0 t3 (Qv (shF n) P)) : R 81 86 [some (vr 40), some (vr 5), some (vi (k : Int))] [] (shF n) 0 0 σ (Qv (shF n) P) :=
  wpK_R 11 [12, 59, 86] (And.intro (fun q1 => And.intro ret0 ⟨rfl, rfl, (l1 q1)⟩) (fun q1 => (have k2 := (o1 (Int.not_le.mp q1)); And.intro k2 ((have k4 := (o2 (Int.not_le.mp q1) _ rfl); And.intro k4 ((l2 (Int.not_le.mp q1) _ rfl)))))))
theorem w0_86 {n : Nat} {σ : Mm} {P : Mm → Prop} (hP : ∀ s, (∀ j : Nat, j < 5 → gi s 48 j = 0) → (∀ a i, a ≠ 48 → gi s a i = gi σ a i) → P s) : R 81 86 [some (vr 40), some (vr 5), some (vi 0)] [] (shF n) 0 0 σ (Qv (shF n) P) := by
  refine loopUp (N := 5) (I := fun k => ∀ τ : Mm, (∀ j : Nat, j < k → gi τ 48 j = 0) → (∀ a i, a ≠ 48 → gi τ a i = gi σ a i) → R 81 86 [some (vr 40), some (vr 5), some (vi (k : Int))] [] (shF n) 0 0 τ (Qv (shF n) P)) (fun k hk ih => ?_) 0 (by omega) σ (fun j hj => by omega) (fun _ _ _ => rfl)
  intro τ h1 h2
  refine v_w0_86 k (by intros; first | omega | (unfold rg; omega)) (by intros; first | omega | (unfold rg; omega)) ?_ ?_
  · intro q; exact hP τ (fun j hj => h1 j (by omega)) h2
  · intro q t e
    subst e
    refine ih (by omega) _ (fun j hj => ?_) (fun a i p => by rw [gi_si, if_neg (by omega)]; exact h2 a i p)
    by_cases z : j = k
    · subst z; rw [gi_hit]
    · rw [gi_si, if_neg (by omega)]; exact h1 j (by omega)
theorem w0_59 {n : Nat} {σ : Mm} {P : Mm → Prop} (hP : ∀ s, (∀ j : Nat, j < 5 → gi s 45 j = (j : Int) ∧ gi s 46 j = 0) → (∀ a i, a ≠ 45 → a ≠ 46 → gi s a i = gi σ a i) → R 81 86 [some (vr 40), some (vr 5), some (vi 0)] [] (shF n) 0 0 s (Qv (shF n) P)) : R 81 59 [some (vr 40), some (vr 5), some (vi 0)] [] (shF n) 0 0 σ (Qv (shF n) P) := by
  refine loopUp (N := 5) (I := fun k => ∀ τ : Mm, (∀ j : Nat, j < k → gi τ 45 j = (j : Int) ∧ gi τ 46 j = 0) → (∀ a i, a ≠ 45 → a ≠ 46 → gi τ a i = gi σ a i) → R 81 59 [some (vr 40), some (vr 5), some (vi (k : Int))] [] (shF n) 0 0 τ (Qv (shF n) P)) (fun k hk ih => ?_) 0 (by omega) σ (fun j hj => by omega) (fun _ _ _ _ => rfl)
  intro τ h1 h2
  refine v_w0_59 k (by intros; first | omega | (unfold rg; omega)) (by intros; first | omega | (unfold rg; omega)) ?_ ?_
  · intro q; exact hP τ (fun j hj => h1 j (by omega)) h2
  · intro q t3 e3 t4 e4
    subst e4 e3
    refine ih (by omega) _ (fun j hj => ?_) (fun a i p q => by rw [gi_si, if_neg (by omega), gi_si, if_neg (by omega)]; exact h2 a i p q)
    by_cases z : j = k
    · subst z; exact ⟨by rw [gi_si, if_neg (by omega), gi_hit], by rw [gi_hit]⟩
    · exact ⟨by rw [gi_si, if_neg (by omega), gi_si, if_neg (by omega)]; exact (h1 j (by omega)).1, by rw [gi_si, if_neg (by omega), gi_si, if_neg (by omega)]; exact (h1 j (by omega)).2⟩
theorem w0_12 {n : Nat} {σ : Mm} {P : Mm → Prop} (hP : ∀ s, (∀ c : Nat, c < 10 → gi s 41 c = gi σ 10 c ∧ gi s 42 c = -1 ∧ gi s 43 c = -1 ∧ gi s 44 c = 0) → (∀ a i, ¬ (41 ≤ a ∧ a ≤ 44) → gi s a i = gi σ a i) → R 81 59 [some (vr 40), some (vr 5), some (vi 0)] [] (shF n) 0 0 s (Qv (shF n) P)) : R 81 12 [some (vr 40), some (vr 5), some (vi 0)] [] (shF n) 0 0 σ (Qv (shF n) P) := by
  refine loopUp (N := 10) (I := fun k => ∀ τ : Mm, (∀ c : Nat, c < k → gi τ 41 c = gi σ 10 c ∧ gi τ 42 c = -1 ∧ gi τ 43 c = -1 ∧ gi τ 44 c = 0) → (∀ a i, ¬ (41 ≤ a ∧ a ≤ 44) → gi τ a i = gi σ a i) → R 81 12 [some (vr 40), some (vr 5), some (vi (k : Int))] [] (shF n) 0 0 τ (Qv (shF n) P)) (fun k hk ih => ?_) 0 (by omega) σ (fun j hj => by omega) (fun _ _ _ => rfl)
  intro τ h1 h2
  refine v_w0_12 k (by intros; first | omega | (unfold rg; omega)) (by intros; first | omega | (unfold rg; omega)) ?_ ?_
  · intro q; exact hP τ (fun j hj => h1 j (by omega)) h2
  · intro q t3 e3 t4 e4 t5 e5 t6 e6
    have e0 := h2 10 k (by omega)
    subst e6 e5 e4 e3
    refine ih (by omega) _ (fun j hj => ?_) (fun a i p => by rw [gi_si, if_neg (by omega), gi_si, if_neg (by omega), gi_si, if_neg (by omega), gi_si, if_neg (by omega)]; exact h2 a i p)
    by_cases z : j = k
    · subst z; simp [gi_si, e0]
    · have := h1 j (by omega)
      simp [gi_si, z, this]
theorem c_w0 {n : Nat} {σ : Mm} {P : Mm → Prop} (hP : ∀ s, W0M σ s → P s) : Cv 81 [vr 40, vr 5] (shF n) σ P := by
  refine v_w0_0 ?_
  intro t1 e1 t2 e2
  refine w0_12 fun s1 a1 a2 => w0_59 fun s2 b1 b2 => w0_86 fun s3 c1 c2 => hP s3 ⟨?_, ?_, fun c hc => ?_, fun j hj => ?_, c1, fun a i p => ?_⟩
  · rw [c2 40 0 (by omega), b2 40 0 (by omega) (by omega), a2 40 0 (by omega), e2, gi_si, if_neg (by omega), e1, gi_hit]
  · rw [c2 40 1 (by omega), b2 40 1 (by omega) (by omega), a2 40 1 (by omega), e2, gi_hit]
  · have e : gi t2 10 c = gi σ 10 c := by rw [e2, gi_si, if_neg (by omega), e1, gi_si, if_neg (by omega)]
    have := a1 c hc
    rw [c2 41 c (by omega), b2 41 c (by omega) (by omega), c2 42 c (by omega), b2 42 c (by omega) (by omega), c2 43 c (by omega), b2 43 c (by omega) (by omega), c2 44 c (by omega), b2 44 c (by omega) (by omega), ← e]
    exact this
  · rw [c2 45 j (by omega), c2 46 j (by omega)]; exact b1 j hj
  · rw [c2 a i (by omega), b2 a i (by omega) (by omega), a2 a i (by omega), e2, gi_si, if_neg (by omega), e1, gi_si, if_neg (by omega)]
/-- rows are copied down, the reference -/
def CpM (a n : Nat) (σ s : Mm) : Prop := ∀ x i, gi s x i = if x = a ∧ i < n then gi σ a (n + i) else gi σ x i
theorem v_cp0_89 {n : Nat}  (m : Int) {σ : Mm} {P : Mm → Prop} (l1 : R 170 2 [some (vr 89), some (vi m), some (vi 0)] [] (shF n) 0 0 σ (Qv (shF n) P)) : Cv 170 [vr 89, vi m] (shF n) σ P :=
  show R 170 0 [some (vr 89), some (vi m), none] [] (shF n) 0 0 σ (Qv (shF n) P) from wpK_R 3 [2] ((l1))
theorem v_cp_89 {n : Nat}  (m : Int) (k : Nat) {σ : Mm} {P : Mm → Prop} (o1 : (k : Int) < m → rg (m + (k : Int))) (o2 : (k : Int) < m → (0 ≤ (m + (k : Int)) ∧ (m + (k : Int)) < 2)) (o3 : (k : Int) < m → (0 ≤ (k : Int) ∧ (k : Int) < 2)) (o4 : (k : Int) < m → ∀ t5 : Mm, t5 = si σ 89 k (gi σ 89 (m + (k : Int)).toNat) → rg ((k : Int) + 1)) (l1 : m ≤ (k : Int) → P σ) (l2 : (k : Int) < m → ∀ t5 : Mm, t5 = si σ 89 k (gi σ 89 (m + (k : Int)).toNat) → R 170 2 [some (vr 89), some (vi m), some (vi ((k : Int) + 1))] [] (shF n) 0 0 t5 (Qv (shF n) P)) : R 170 2 [some (vr 89), some (vi m), some (vi (k : Int))] [] (shF n) 0 0 σ (Qv (shF n) P) :=
  wpK_R 14 [2] (And.intro (fun q1 => And.intro ret0 ⟨rfl, rfl, (l1 q1)⟩) (fun q1 => (have k2 := (o1 (Int.not_le.mp q1)); And.intro k2 ((have k3 := (o2 (Int.not_le.mp q1)); And.intro k3 ((have k4 := (o3 (Int.not_le.mp q1)); And.intro k4 ((have k6 := (o4 (Int.not_le.mp q1) _ rfl); And.intro k6 ((l2 (Int.not_le.mp q1) _ rfl)))))))))))
theorem c_cp_89 {n : Nat} {σ : Mm} {P : Mm → Prop} (hP : ∀ s, CpM 89 1 σ s → P s) : Cv 170 [vr 89, vi 1] (shF n) σ P := by
  refine v_cp0_89 1 ?_
  refine loopUp (N := 1) (I := fun k => ∀ τ : Mm, (∀ x i, gi τ x i = if x = 89 ∧ i < k then gi σ 89 (1 + i) else gi σ x i) → R 170 2 [some (vr 89), some (vi 1), some (vi (k : Int))] [] (shF n) 0 0 τ (Qv (shF n) P)) (fun k hk ih => ?_) 0 (by omega) σ (fun x i => by rw [if_neg (by omega)])
  intro τ h
  refine v_cp_89 1 k (by intros; first | omega | (unfold rg; omega)) (by intros; first | omega | (unfold rg; omega)) (by intros; first | omega | (unfold rg; omega)) (by intros; first | omega | (unfold rg; omega)) ?_ ?_
  · intro q; have e : k = 1 := by omega
    subst e; exact hP τ h
  · intro q t e; subst e
    refine ih (by omega) _ (fun x i => ?_)
    rw [gi_si]
    by_cases z : x = 89 ∧ i = k
    · rw [if_pos z, if_pos (by omega), h, if_neg (by omega), z.2, show ((1 : Int) + (k : Int)).toNat = 1 + k by omega]
    · rw [if_neg z, h]
      by_cases y : x = 89 ∧ i < k
      · rw [if_pos y, if_pos (by omega)]
      · rw [if_neg y, if_neg (by omega)]
theorem v_cp0_90 {n : Nat}  (m : Int) {σ : Mm} {P : Mm → Prop} (l1 : R 170 2 [some (vr 90), some (vi m), some (vi 0)] [] (shF n) 0 0 σ (Qv (shF n) P)) : Cv 170 [vr 90, vi m] (shF n) σ P :=
  show R 170 0 [some (vr 90), some (vi m), none] [] (shF n) 0 0 σ (Qv (shF n) P) from wpK_R 3 [2] ((l1))
theorem v_cp_90 {n : Nat}  (m : Int) (k : Nat) {σ : Mm} {P : Mm → Prop} (o1 : (k : Int) < m → rg (m + (k : Int))) (o2 : (k : Int) < m → (0 ≤ (m + (k : Int)) ∧ (m + (k : Int)) < 10)) (o3 : (k : Int) < m → (0 ≤ (k : Int) ∧ (k : Int) < 10)) (o4 : (k : Int) < m → ∀ t5 : Mm, t5 = si σ 90 k (gi σ 90 (m + (k : Int)).toNat) → rg ((k : Int) + 1)) (l1 : m ≤ (k : Int) → P σ) (l2 : (k : Int) < m → ∀ t5 : Mm, t5 = si σ 90 k (gi σ 90 (m + (k : Int)).toNat) → R 170 2 [some (vr 90), some (vi m), some (vi ((k : Int) + 1))] [] (shF n) 0 0 t5 (Qv (shF n) P)) : R 170 2 [some (vr 90), some (vi m), some (vi (k : Int))] [] (shF n) 0 0 σ (Qv (shF n) P) :=
  wpK_R 14 [2] (And.intro (fun q1 => And.intro ret0 ⟨rfl, rfl, (l1 q1)⟩) (fun q1 => (have k2 := (o1 (Int.not_le.mp q1)); And.intro k2 ((have k3 := (o2 (Int.not_le.mp q1)); And.intro k3 ((have k4 := (o3 (Int.not_le.mp q1)); And.intro k4 ((have k6 := (o4 (Int.not_le.mp q1) _ rfl); And.intro k6 ((l2 (Int.not_le.mp q1) _ rfl)))))))))))
theorem c_cp_90 {n : Nat} {σ : Mm} {P : Mm → Prop} (hP : ∀ s, CpM 90 5 σ s → P s) : Cv 170 [vr 90, vi 5] (shF n) σ P := by
  refine v_cp0_90 5 ?_
  refine loopUp (N := 5) (I := fun k => ∀ τ : Mm, (∀ x i, gi τ x i = if x = 90 ∧ i < k then gi σ 90 (5 + i) else gi σ x i) → R 170 2 [some (vr 90), some (vi 5), some (vi (k : Int))] [] (shF n) 0 0 τ (Qv (shF n) P)) (fun k hk ih => ?_) 0 (by omega) σ (fun x i => by rw [if_neg (by omega)])
  intro τ h
  refine v_cp_90 5 k (by intros; first | omega | (unfold rg; omega)) (by intros; first | omega | (unfold rg; omega)) (by intros; first | omega | (unfold rg; omega)) (by intros; first | omega | (unfold rg; omega)) ?_ ?_
  · intro q; have e : k = 5 := by omega
    subst e; exact hP τ h
  · intro q t e; subst e
    refine ih (by omega) _ (fun x i => ?_)
    rw [gi_si]
    by_cases z : x = 90 ∧ i = k
    · rw [if_pos z, if_pos (by omega), h, if_neg (by omega), z.2, show ((5 : Int) + (k : Int)).toNat = 5 + k by omega]
    · rw [if_neg z, h]
      by_cases y : x = 90 ∧ i < k
      · rw [if_pos y, if_pos (by omega)]
      · rw [if_neg y, if_neg (by omega)]
theorem v_cp0_91 {n : Nat}  (m : Int) {σ : Mm} {P : Mm → Prop} (l1 : R 170 2 [some (vr 91), some (vi m), some (vi 0)] [] (shF n) 0 0 σ (Qv (shF n) P)) : Cv 170 [vr 91, vi m] (shF n) σ P :=
  show R 170 0 [some (vr 91), some (vi m), none] [] (shF n) 0 0 σ (Qv (shF n) P) from wpK_R 3 [2] ((l1))
theorem v_cp_91 {n : Nat}  (m : Int) (k : Nat) {σ : Mm} {P : Mm → Prop} (o1 : (k : Int) < m → rg (m + (k : Int))) (o2 : (k : Int) < m → (0 ≤ (m + (k : Int)) ∧ (m + (k : Int)) < 10)) (o3 : (k : Int) < m → (0 ≤ (k : Int) ∧ (k : Int) < 10)) (o4 : (k : Int) < m → ∀ t5 : Mm, t5 = si σ 91 k (gi σ 91 (m + (k : Int)).toNat) → rg ((k : Int) + 1)) (l1 : m ≤ (k : Int) → P σ) (l2 : (k : Int) < m → ∀ t5 : Mm, t5 = si σ 91 k (gi σ 91 (m + (k : Int)).toNat) → R 170 2 [some (vr 91), some (vi m), some (vi ((k : Int) + 1))] [] (shF n) 0 0 t5 (Qv (shF n) P)) : R 170 2 [some (vr 91), some (vi m), some (vi (k : Int))] [] (shF n) 0 0 σ (Qv (shF n) P) :=
  wpK_R 14 [2] (And.intro (fun q1 => And.intro ret0 ⟨rfl, rfl, (l1 q1)⟩) (fun q1 => (have k2 := (o1 (Int.not_le.mp q1)); And.intro k2 ((have k3 := (o2 (Int.not_le.mp q1)); And.intro k3 ((have k4 := (o3 (Int.not_le.mp q1)); And.intro k4 ((have k6 := (o4 (Int.not_le.mp q1) _ rfl); And.intro k6 ((l2 (Int.not_le.mp q1) _ rfl)))))))))))
theorem c_cp_91 {n : Nat} {σ : Mm} {P : Mm → Prop} (hP : ∀ s, CpM 91 5 σ s → P s) : Cv 170 [vr 91, vi 5] (shF n) σ P := by
  refine v_cp0_91 5 ?_
  refine loopUp (N := 5) (I := fun k => ∀ τ : Mm, (∀ x i, gi τ x i = if x = 91 ∧ i < k then gi σ 91 (5 + i) else gi σ x i) → R 170 2 [some (vr 91), some (vi 5), some (vi (k : Int))] [] (shF n) 0 0 τ (Qv (shF n) P)) (fun k hk ih => ?_) 0 (by omega) σ (fun x i => by rw [if_neg (by omega)])
  intro τ h
  refine v_cp_91 5 k (by intros; first | omega | (unfold rg; omega)) (by intros; first | omega | (unfold rg; omega)) (by intros; first | omega | (unfold rg; omega)) (by intros; first | omega | (unfold rg; omega)) ?_ ?_
  · intro q; have e : k = 5 := by omega
    subst e; exact hP τ h
  · intro q t e; subst e
    refine ih (by omega) _ (fun x i => ?_)
    rw [gi_si]
    by_cases z : x = 91 ∧ i = k
    · rw [if_pos z, if_pos (by omega), h, if_neg (by omega), z.2, show ((5 : Int) + (k : Int)).toNat = 5 + k by omega]
    · rw [if_neg z, h]
      by_cases y : x = 91 ∧ i < k
      · rw [if_pos y, if_pos (by omega)]
      · rw [if_neg y, if_neg (by omega)]
theorem v_cp0_92 {n : Nat}  (m : Int) {σ : Mm} {P : Mm → Prop} (l1 : R 170 2 [some (vr 92), some (vi m), some (vi 0)] [] (shF n) 0 0 σ (Qv (shF n) P)) : Cv 170 [vr 92, vi m] (shF n) σ P :=
  show R 170 0 [some (vr 92), some (vi m), none] [] (shF n) 0 0 σ (Qv (shF n) P) from wpK_R 3 [2] ((l1))
theorem v_cp_92 {n : Nat}  (m : Int) (k : Nat) {σ : Mm} {P : Mm → Prop} (o1 : (k : Int) < m → rg (m + (k : Int))) (o2 : (k : Int) < m → (0 ≤ (m + (k : Int)) ∧ (m + (k : Int)) < 10)) (o3 : (k : Int) < m → (0 ≤ (k : Int) ∧ (k : Int) < 10)) (o4 : (k : Int) < m → ∀ t5 : Mm, t5 = si σ 92 k (gi σ 92 (m + (k : Int)).toNat) → rg ((k : Int) + 1)) (l1 : m ≤ (k : Int) → P σ) (l2 : (k : Int) < m → ∀ t5 : Mm, t5 = si σ 92 k (gi σ 92 (m + (k : Int)).toNat) → R 170 2 [some (vr 92), some (vi m), some (vi ((k : Int) + 1))] [] (shF n) 0 0 t5 (Qv (shF n) P)) : R 170 2 [some (vr 92), some (vi m), some (vi (k : Int))] [] (shF n) 0 0 σ (Qv (shF n) P) :=
  wpK_R 14 [2] (And.intro (fun q1 => And.intro ret0 ⟨rfl, rfl, (l1 q1)⟩) (fun q1 => (have k2 := (o1 (Int.not_le.mp q1)); And.intro k2 ((have k3 := (o2 (Int.not_le.mp q1)); And.intro k3 ((have k4 := (o3 (Int.not_le.mp q1)); And.intro k4 ((have k6 := (o4 (Int.not_le.mp q1) _ rfl); And.intro k6 ((l2 (Int.not_le.mp q1) _ rfl)))))))))))
theorem c_cp_92 {n : Nat} {σ : Mm} {P : Mm → Prop} (hP : ∀ s, CpM 92 5 σ s → P s) : Cv 170 [vr 92, vi 5] (shF n) σ P := by
  refine v_cp0_92 5 ?_
  refine loopUp (N := 5) (I := fun k => ∀ τ : Mm, (∀ x i, gi τ x i = if x = 92 ∧ i < k then gi σ 92 (5 + i) else gi σ x i) → R 170 2 [some (vr 92), some (vi 5), some (vi (k : Int))] [] (shF n) 0 0 τ (Qv (shF n) P)) (fun k hk ih => ?_) 0 (by omega) σ (fun x i => by rw [if_neg (by omega)])
  intro τ h
  refine v_cp_92 5 k (by intros; first | omega | (unfold rg; omega)) (by intros; first | omega | (unfold rg; omega)) (by intros; first | omega | (unfold rg; omega)) (by intros; first | omega | (unfold rg; omega)) ?_ ?_
  · intro q; have e : k = 5 := by omega
    subst e; exact hP τ h
  · intro q t e; subst e
    refine ih (by omega) _ (fun x i => ?_)
    rw [gi_si]
    by_cases z : x = 92 ∧ i = k
    · rw [if_pos z, if_pos (by omega), h, if_neg (by omega), z.2, show ((5 : Int) + (k : Int)).toNat = 5 + k by omega]
    · rw [if_neg z, h]
      by_cases y : x = 92 ∧ i < k
      · rw [if_pos y, if_pos (by omega)]
      · rw [if_neg y, if_neg (by omega)]
theorem v_cp0_93 {n : Nat}  (m : Int) {σ : Mm} {P : Mm → Prop} (l1 : R 170 2 [some (vr 93), some (vi m), some (vi 0)] [] (shF n) 0 0 σ (Qv (shF n) P)) : Cv 170 [vr 93, vi m] (shF n) σ P :=
  show R 170 0 [some (vr 93), some (vi m), none] [] (shF n) 0 0 σ (Qv (shF n) P) from wpK_R 3 [2] ((l1))
theorem v_cp_93 {n : Nat}  (m : Int) (k : Nat) {σ : Mm} {P : Mm → Prop} (o1 : (k : Int) < m → rg (m + (k : Int))) (o2 : (k : Int) < m → (0 ≤ (m + (k : Int)) ∧ (m + (k : Int)) < 20)) (o3 : (k : Int) < m → (0 ≤ (k : Int) ∧ (k : Int) < 20)) (o4 : (k : Int) < m → ∀ t5 : Mm, t5 = si σ 93 k (gi σ 93 (m + (k : Int)).toNat) → rg ((k : Int) + 1)) (l1 : m ≤ (k : Int) → P σ) (l2 : (k : Int) < m → ∀ t5 : Mm, t5 = si σ 93 k (gi σ 93 (m + (k : Int)).toNat) → R 170 2 [some (vr 93), some (vi m), some (vi ((k : Int) + 1))] [] (shF n) 0 0 t5 (Qv (shF n) P)) : R 170 2 [some (vr 93), some (vi m), some (vi (k : Int))] [] (shF n) 0 0 σ (Qv (shF n) P) :=
  wpK_R 14 [2] (And.intro (fun q1 => And.intro ret0 ⟨rfl, rfl, (l1 q1)⟩) (fun q1 => (have k2 := (o1 (Int.not_le.mp q1)); And.intro k2 ((have k3 := (o2 (Int.not_le.mp q1)); And.intro k3 ((have k4 := (o3 (Int.not_le.mp q1)); And.intro k4 ((have k6 := (o4 (Int.not_le.mp q1) _ rfl); And.intro k6 ((l2 (Int.not_le.mp q1) _ rfl)))))))))))
theorem c_cp_93 {n : Nat} {σ : Mm} {P : Mm → Prop} (hP : ∀ s, CpM 93 10 σ s → P s) : Cv 170 [vr 93, vi 10] (shF n) σ P := by
  refine v_cp0_93 10 ?_
  refine loopUp (N := 10) (I := fun k => ∀ τ : Mm, (∀ x i, gi τ x i = if x = 93 ∧ i < k then gi σ 93 (10 + i) else gi σ x i) → R 170 2 [some (vr 93), some (vi 10), some (vi (k : Int))] [] (shF n) 0 0 τ (Qv (shF n) P)) (fun k hk ih => ?_) 0 (by omega) σ (fun x i => by rw [if_neg (by omega)])
  intro τ h
  refine v_cp_93 10 k (by intros; first | omega | (unfold rg; omega)) (by intros; first | omega | (unfold rg; omega)) (by intros; first | omega | (unfold rg; omega)) (by intros; first | omega | (unfold rg; omega)) ?_ ?_
  · intro q; have e : k = 10 := by omega
    subst e; exact hP τ h
  · intro q t e; subst e
    refine ih (by omega) _ (fun x i => ?_)
    rw [gi_si]
    by_cases z : x = 93 ∧ i = k
    · rw [if_pos z, if_pos (by omega), h, if_neg (by omega), z.2, show ((10 : Int) + (k : Int)).toNat = 10 + k by omega]
    · rw [if_neg z, h]
      by_cases y : x = 93 ∧ i < k
      · rw [if_pos y, if_pos (by omega)]
      · rw [if_neg y, if_neg (by omega)]
theorem v_cp0_94 {n : Nat}  (m : Int) {σ : Mm} {P : Mm → Prop} (l1 : R 170 2 [some (vr 94), some (vi m), some (vi 0)] [] (shF n) 0 0 σ (Qv (shF n) P)) : Cv 170 [vr 94, vi m] (shF n) σ P :=
  show R 170 0 [some (vr 94), some (vi m), none] [] (shF n) 0 0 σ (Qv (shF n) P) from wpK_R 3 [2] ((l1))
theorem v_cp_94 {n : Nat}  (m : Int) (k : Nat) {σ : Mm} {P : Mm → Prop} (o1 : (k : Int) < m → rg (m + (k : Int))) (o2 : (k : Int) < m → (0 ≤ (m + (k : Int)) ∧ (m + (k : Int)) < 20)) (o3 : (k : Int) < m → (0 ≤ (k : Int) ∧ (k : Int) < 20)) (o4 : (k : Int) < m → ∀ t5 : Mm, t5 = si σ 94 k (gi σ 94 (m + (k : Int)).toNat) → rg ((k : Int) + 1)) (l1 : m ≤ (k : Int) → P σ) (l2 : (k : Int) < m → ∀ t5 : Mm, t5 = si σ 94 k (gi σ 94 (m + (k : Int)).toNat) → R 170 2 [some (vr 94), some (vi m), some (vi ((k : Int) + 1))] [] (shF n) 0 0 t5 (Qv (shF n) P)) : R 170 2 [some (vr 94), some (vi m), some (vi (k : Int))] [] (shF n) 0 0 σ (Qv (shF n) P) :=
  wpK_R 14 [2] (And.intro (fun q1 => And.intro ret0 ⟨rfl, rfl, (l1 q1)⟩) (fun q1 => (have k2 := (o1 (Int.not_le.mp q1)); And.intro k2 ((have k3 := (o2 (Int.not_le.mp q1)); And.intro k3 ((have k4 := (o3 (Int.not_le.mp q1)); And.intro k4 ((have k6 := (o4 (Int.not_le.mp q1) _ rfl); And.intro k6 ((l2 (Int.not_le.mp q1) _ rfl)))))))))))
theorem c_cp_94 {n : Nat} {σ : Mm} {P : Mm → Prop} (hP : ∀ s, CpM 94 10 σ s → P s) : Cv 170 [vr 94, vi 10] (shF n) σ P := by
  refine v_cp0_94 10 ?_
  refine loopUp (N := 10) (I := fun k => ∀ τ : Mm, (∀ x i, gi τ x i = if x = 94 ∧ i < k then gi σ 94 (10 + i) else gi σ x i) → R 170 2 [some (vr 94), some (vi 10), some (vi (k : Int))] [] (shF n) 0 0 τ (Qv (shF n) P)) (fun k hk ih => ?_) 0 (by omega) σ (fun x i => by rw [if_neg (by omega)])
  intro τ h
  refine v_cp_94 10 k (by intros; first | omega | (unfold rg; omega)) (by intros; first | omega | (unfold rg; omega)) (by intros; first | omega | (unfold rg; omega)) (by intros; first | omega | (unfold rg; omega)) ?_ ?_
  · intro q; have e : k = 10 := by omega
    subst e; exact hP τ h
  · intro q t e; subst e
    refine ih (by omega) _ (fun x i => ?_)
    rw [gi_si]
    by_cases z : x = 94 ∧ i = k
    · rw [if_pos z, if_pos (by omega), h, if_neg (by omega), z.2, show ((10 : Int) + (k : Int)).toNat = 10 + k by omega]
    · rw [if_neg z, h]
      by_cases y : x = 94 ∧ i < k
      · rw [if_pos y, if_pos (by omega)]
      · rw [if_neg y, if_neg (by omega)]
theorem v_cp0_95 {n : Nat}  (m : Int) {σ : Mm} {P : Mm → Prop} (l1 : R 170 2 [some (vr 95), some (vi m), some (vi 0)] [] (shF n) 0 0 σ (Qv (shF n) P)) : Cv 170 [vr 95, vi m] (shF n) σ P :=
  show R 170 0 [some (vr 95), some (vi m), none] [] (shF n) 0 0 σ (Qv (shF n) P) from wpK_R 3 [2] ((l1))
theorem v_cp_95 {n : Nat}  (m : Int) (k : Nat) {σ : Mm} {P : Mm → Prop} (o1 : (k : Int) < m → rg (m + (k : Int))) (o2 : (k : Int) < m → (0 ≤ (m + (k : Int)) ∧ (m + (k : Int)) < 20)) (o3 : (k : Int) < m → (0 ≤ (k : Int) ∧ (k : Int) < 20)) (o4 : (k : Int) < m → ∀ t5 : Mm, t5 = si σ 95 k (gi σ 95 (m + (k : Int)).toNat) → rg ((k : Int) + 1)) (l1 : m ≤ (k : Int) → P σ) (l2 : (k : Int) < m → ∀ t5 : Mm, t5 = si σ 95 k (gi σ 95 (m + (k : Int)).toNat) → R 170 2 [some (vr 95), some (vi m), some (vi ((k : Int) + 1))] [] (shF n) 0 0 t5 (Qv (shF n) P)) : R 170 2 [some (vr 95), some (vi m), some (vi (k : Int))] [] (shF n) 0 0 σ (Qv (shF n) P) :=
  wpK_R 14 [2] (And.intro (fun q1 => And.intro ret0 ⟨rfl, rfl, (l1 q1)⟩) (fun q1 => (have k2 := (o1 (Int.not_le.mp q1)); And.intro k2 ((have k3 := (o2 (Int.not_le.mp q1)); And.intro k3 ((have k4 := (o3 (Int.not_le.mp q1)); And.intro k4 ((have k6 := (o4 (Int.not_le.mp q1) _ rfl); And.intro k6 ((l2 (Int.not_le.mp q1) _ rfl)))))))))))
theorem c_cp_95 {n : Nat} {σ : Mm} {P : Mm → Prop} (hP : ∀ s, CpM 95 10 σ s → P s) : Cv 170 [vr 95, vi 10] (shF n) σ P := by
  refine v_cp0_95 10 ?_
  refine loopUp (N := 10) (I := fun k => ∀ τ : Mm, (∀ x i, gi τ x i = if x = 95 ∧ i < k then gi σ 95 (10 + i) else gi σ x i) → R 170 2 [some (vr 95), some (vi 10), some (vi (k : Int))] [] (shF n) 0 0 τ (Qv (shF n) P)) (fun k hk ih => ?_) 0 (by omega) σ (fun x i => by rw [if_neg (by omega)])
  intro τ h
  refine v_cp_95 10 k (by intros; first | omega | (unfold rg; omega)) (by intros; first | omega | (unfold rg; omega)) (by intros; first | omega | (unfold rg; omega)) (by intros; first | omega | (unfold rg; omega)) ?_ ?_
  · intro q; have e : k = 10 := by omega
    subst e; exact hP τ h
  · intro q t e; subst e
    refine ih (by omega) _ (fun x i => ?_)
    rw [gi_si]
    by_cases z : x = 95 ∧ i = k
    · rw [if_pos z, if_pos (by omega), h, if_neg (by omega), z.2, show ((10 : Int) + (k : Int)).toNat = 10 + k by omega]
    · rw [if_neg z, h]
      by_cases y : x = 95 ∧ i < k
      · rw [if_pos y, if_pos (by omega)]
      · rw [if_neg y, if_neg (by omega)]
theorem v_cp0_96 {n : Nat}  (m : Int) {σ : Mm} {P : Mm → Prop} (l1 : R 170 2 [some (vr 96), some (vi m), some (vi 0)] [] (shF n) 0 0 σ (Qv (shF n) P)) : Cv 170 [vr 96, vi m] (shF n) σ P :=
  show R 170 0 [some (vr 96), some (vi m), none] [] (shF n) 0 0 σ (Qv (shF n) P) from wpK_R 3 [2] ((l1))
theorem v_cp_96 {n : Nat}  (m : Int) (k : Nat) {σ : Mm} {P : Mm → Prop} (o1 : (k : Int) < m → rg (m + (k : Int))) (o2 : (k : Int) < m → (0 ≤ (m + (k : Int)) ∧ (m + (k : Int)) < 20)) (o3 : (k : Int) < m → (0 ≤ (k : Int) ∧ (k : Int) < 20)) (o4 : (k : Int) < m → ∀ t5 : Mm, t5 = si σ 96 k (gi σ 96 (m + (k : Int)).toNat) → rg ((k : Int) + 1)) (l1 : m ≤ (k : Int) → P σ) (l2 : (k : Int) < m → ∀ t5 : Mm, t5 = si σ 96 k (gi σ 96 (m + (k : Int)).toNat) → R 170 2 [some (vr 96), some (vi m), some (vi ((k : Int) + 1))] [] (shF n) 0 0 t5 (Qv (shF n) P)) : R 170 2 [some (vr 96), some (vi m), some (vi (k : Int))] [] (shF n) 0 0 σ (Qv (shF n) P) :=
  wpK_R 14 [2] (And.intro (fun q1 => And.intro ret0 ⟨rfl, rfl, (l1 q1)⟩) (fun q1 => (have k2 := (o1 (Int.not_le.mp q1)); And.intro k2 ((have k3 := (o2 (Int.not_le.mp q1)); And.intro k3 ((have k4 := (o3 (Int.not_le.mp q1)); And.intro k4 ((have k6 := (o4 (Int.not_le.mp q1) _ rfl); And.intro k6 ((l2 (Int.not_le.mp q1) _ rfl)))))))))))
theorem c_cp_96 {n : Nat} {σ : Mm} {P : Mm → Prop} (hP : ∀ s, CpM 96 10 σ s → P s) : Cv 170 [vr 96, vi 10] (shF n) σ P := by
  refine v_cp0_96 10 ?_
  refine loopUp (N := 10) (I := fun k => ∀ τ : Mm, (∀ x i, gi τ x i = if x = 96 ∧ i < k then gi σ 96 (10 + i) else gi σ x i) → R 170 2 [some (vr 96), some (vi 10), some (vi (k : Int))] [] (shF n) 0 0 τ (Qv (shF n) P)) (fun k hk ih => ?_) 0 (by omega) σ (fun x i => by rw [if_neg (by omega)])
  intro τ h
  refine v_cp_96 10 k (by intros; first | omega | (unfold rg; omega)) (by intros; first | omega | (unfold rg; omega)) (by intros; first | omega | (unfold rg; omega)) (by intros; first | omega | (unfold rg; omega)) ?_ ?_
  · intro q; have e : k = 10 := by omega
    subst e; exact hP τ h
  · intro q t e; subst e
    refine ih (by omega) _ (fun x i => ?_)
    rw [gi_si]
    by_cases z : x = 96 ∧ i = k
    · rw [if_pos z, if_pos (by omega), h, if_neg (by omega), z.2, show ((10 : Int) + (k : Int)).toNat = 10 + k by omega]
    · rw [if_neg z, h]
      by_cases y : x = 96 ∧ i < k
      · rw [if_pos y, if_pos (by omega)]
      · rw [if_neg y, if_neg (by omega)]
theorem v_cp0_97 {n : Nat}  (m : Int) {σ : Mm} {P : Mm → Prop} (l1 : R 170 2 [some (vr 97), some (vi m), some (vi 0)] [] (shF n) 0 0 σ (Qv (shF n) P)) : Cv 170 [vr 97, vi m] (shF n) σ P :=
  show R 170 0 [some (vr 97), some (vi m), none] [] (shF n) 0 0 σ (Qv (shF n) P) from wpK_R 3 [2] ((l1))
theorem v_cp_97 {n : Nat}  (m : Int) (k : Nat) {σ : Mm} {P : Mm → Prop} (o1 : (k : Int) < m → rg (m + (k : Int))) (o2 : (k : Int) < m → (0 ≤ (m + (k : Int)) ∧ (m + (k : Int)) < 10)) (o3 : (k : Int) < m → (0 ≤ (k : Int) ∧ (k : Int) < 10)) (o4 : (k : Int) < m → ∀ t5 : Mm, t5 = si σ 97 k (gi σ 97 (m + (k : Int)).toNat) → rg ((k : Int) + 1)) (l1 : m ≤ (k : Int) → P σ) (l2 : (k : Int) < m → ∀ t5 : Mm, t5 = si σ 97 k (gi σ 97 (m + (k : Int)).toNat) → R 170 2 [some (vr 97), some (vi m), some (vi ((k : Int) + 1))] [] (shF n) 0 0 t5 (Qv (shF n) P)) : R 170 2 [some (vr 97), some (vi m), some (vi (k : Int))] [] (shF n) 0 0 σ (Qv (shF n) P) :=
  wpK_R 14 [2] (And.intro (fun q1 => And.intro ret0 ⟨rfl, rfl, (l1 q1)⟩) (fun q1 => (have k2 := (o1 (Int.not_le.mp q1)); And.intro k2 ((have k3 := (o2 (Int.not_le.mp q1)); And.intro k3 ((have k4 := (o3 (Int.not_le.mp q1)); And.intro k4 ((have k6 := (o4 (Int.not_le.mp q1) _ rfl); And.intro k6 ((l2 (Int.not_le.mp q1) _ rfl)))))))))))
theorem c_cp_97 {n : Nat} {σ : Mm} {P : Mm → Prop} (hP : ∀ s, CpM 97 5 σ s → P s) : Cv 170 [vr 97, vi 5] (shF n) σ P := by
  refine v_cp0_97 5 ?_
  refine loopUp (N := 5) (I := fun k => ∀ τ : Mm, (∀ x i, gi τ x i = if x = 97 ∧ i < k then gi σ 97 (5 + i) else gi σ x i) → R 170 2 [some (vr 97), some (vi 5), some (vi (k : Int))] [] (shF n) 0 0 τ (Qv (shF n) P)) (fun k hk ih => ?_) 0 (by omega) σ (fun x i => by rw [if_neg (by omega)])
  intro τ h
  refine v_cp_97 5 k (by intros; first | omega | (unfold rg; omega)) (by intros; first | omega | (unfold rg; omega)) (by intros; first | omega | (unfold rg; omega)) (by intros; first | omega | (unfold rg; omega)) ?_ ?_
  · intro q; have e : k = 5 := by omega
    subst e; exact hP τ h
  · intro q t e; subst e
    refine ih (by omega) _ (fun x i => ?_)
    rw [gi_si]
    by_cases z : x = 97 ∧ i = k
    · rw [if_pos z, if_pos (by omega), h, if_neg (by omega), z.2, show ((5 : Int) + (k : Int)).toNat = 5 + k by omega]
    · rw [if_neg z, h]
      by_cases y : x = 97 ∧ i < k
      · rw [if_pos y, if_pos (by omega)]
      · rw [if_neg y, if_neg (by omega)]
theorem v_cp0_98 {n : Nat}  (m : Int) {σ : Mm} {P : Mm → Prop} (l1 : R 170 2 [some (vr 98), some (vi m), some (vi 0)] [] (shF n) 0 0 σ (Qv (shF n) P)) : Cv 170 [vr 98, vi m] (shF n) σ P :=
  show R 170 0 [some (vr 98), some (vi m), none] [] (shF n) 0 0 σ (Qv (shF n) P) from wpK_R 3 [2] ((l1))
theorem v_cp_98 {n : Nat}  (m : Int) (k : Nat) {σ : Mm} {P : Mm → Prop} (o1 : (k : Int) < m → rg (m + (k : Int))) (o2 : (k : Int) < m → (0 ≤ (m + (k : Int)) ∧ (m + (k : Int)) < 10)) (o3 : (k : Int) < m → (0 ≤ (k : Int) ∧ (k : Int) < 10)) (o4 : (k : Int) < m → ∀ t5 : Mm, t5 = si σ 98 k (gi σ 98 (m + (k : Int)).toNat) → rg ((k : Int) + 1)) (l1 : m ≤ (k : Int) → P σ) (l2 : (k : Int) < m → ∀ t5 : Mm, t5 = si σ 98 k (gi σ 98 (m + (k : Int)).toNat) → R 170 2 [some (vr 98), some (vi m), some (vi ((k : Int) + 1))] [] (shF n) 0 0 t5 (Qv (shF n) P)) : R 170 2 [some (vr 98), some (vi m), some (vi (k : Int))] [] (shF n) 0 0 σ (Qv (shF n) P) :=
  wpK_R 14 [2] (And.intro (fun q1 => And.intro ret0 ⟨rfl, rfl, (l1 q1)⟩) (fun q1 => (have k2 := (o1 (Int.not_le.mp q1)); And.intro k2 ((have k3 := (o2 (Int.not_le.mp q1)); And.intro k3 ((have k4 := (o3 (Int.not_le.mp q1)); And.intro k4 ((have k6 := (o4 (Int.not_le.mp q1) _ rfl); And.intro k6 ((l2 (Int.not_le.mp q1) _ rfl)))))))))))
theorem c_cp_98 {n : Nat} {σ : Mm} {P : Mm → Prop} (hP : ∀ s, CpM 98 5 σ s → P s) : Cv 170 [vr 98, vi 5] (shF n) σ P := by
  refine v_cp0_98 5 ?_
  refine loopUp (N := 5) (I := fun k => ∀ τ : Mm, (∀ x i, gi τ x i = if x = 98 ∧ i < k then gi σ 98 (5 + i) else gi σ x i) → R 170 2 [some (vr 98), some (vi 5), some (vi (k : Int))] [] (shF n) 0 0 τ (Qv (shF n) P)) (fun k hk ih => ?_) 0 (by omega) σ (fun x i => by rw [if_neg (by omega)])
  intro τ h
  refine v_cp_98 5 k (by intros; first | omega | (unfold rg; omega)) (by intros; first | omega | (unfold rg; omega)) (by intros; first | omega | (unfold rg; omega)) (by intros; first | omega | (unfold rg; omega)) ?_ ?_
  · intro q; have e : k = 5 := by omega
    subst e; exact hP τ h
  · intro q t e; subst e
    refine ih (by omega) _ (fun x i => ?_)
    rw [gi_si]
    by_cases z : x = 98 ∧ i = k
    · rw [if_pos z, if_pos (by omega), h, if_neg (by omega), z.2, show ((5 : Int) + (k : Int)).toNat = 5 + k by omega]
    · rw [if_neg z, h]
      by_cases y : x = 98 ∧ i < k
      · rw [if_pos y, if_pos (by omega)]
      · rw [if_neg y, if_neg (by omega)]
theorem v_cp0_99 {n : Nat}  (m : Int) {σ : Mm} {P : Mm → Prop} (l1 : R 170 2 [some (vr 99), some (vi m), some (vi 0)] [] (shF n) 0 0 σ (Qv (shF n) P)) : Cv 170 [vr 99, vi m] (shF n) σ P :=
  show R 170 0 [some (vr 99), some (vi m), none] [] (shF n) 0 0 σ (Qv (shF n) P) from wpK_R 3 [2] ((l1))
theorem v_cp_99 {n : Nat}  (m : Int) (k : Nat) {σ : Mm} {P : Mm → Prop} (o1 : (k : Int) < m → rg (m + (k : Int))) (o2 : (k : Int) < m → (0 ≤ (m + (k : Int)) ∧ (m + (k : Int)) < 10)) (o3 : (k : Int) < m → (0 ≤ (k : Int) ∧ (k : Int) < 10)) (o4 : (k : Int) < m → ∀ t5 : Mm, t5 = si σ 99 k (gi σ 99 (m + (k : Int)).toNat) → rg ((k : Int) + 1)) (l1 : m ≤ (k : Int) → P σ) (l2 : (k : Int) < m → ∀ t5 : Mm, t5 = si σ 99 k (gi σ 99 (m + (k : Int)).toNat) → R 170 2 [some (vr 99), some (vi m), some (vi ((k : Int) + 1))] [] (shF n) 0 0 t5 (Qv (shF n) P)) : R 170 2 [some (vr 99), some (vi m), some (vi (k : Int))] [] (shF n) 0 0 σ (Qv (shF n) P) :=
  wpK_R 14 [2] (And.intro (fun q1 => And.intro ret0 ⟨rfl, rfl, (l1 q1)⟩) (fun q1 => (have k2 := (o1 (Int.not_le.mp q1)); And.intro k2 ((have k3 := (o2 (Int.not_le.mp q1)); And.intro k3 ((have k4 := (o3 (Int.not_le.mp q1)); And.intro k4 ((have k6 := (o4 (Int.not_le.mp q1) _ rfl); And.intro k6 ((l2 (Int.not_le.mp q1) _ rfl)))))))))))
theorem c_cp_99 {n : Nat} {σ : Mm} {P : Mm → Prop} (hP : ∀ s, CpM 99 5 σ s → P s) : Cv 170 [vr 99, vi 5] (shF n) σ P := by
  refine v_cp0_99 5 ?_
  refine loopUp (N := 5) (I := fun k => ∀ τ : Mm, (∀ x i, gi τ x i = if x = 99 ∧ i < k then gi σ 99 (5 + i) else gi σ x i) → R 170 2 [some (vr 99), some (vi 5), some (vi (k : Int))] [] (shF n) 0 0 τ (Qv (shF n) P)) (fun k hk ih => ?_) 0 (by omega) σ (fun x i => by rw [if_neg (by omega)])
  intro τ h
  refine v_cp_99 5 k (by intros; first | omega | (unfold rg; omega)) (by intros; first | omega | (unfold rg; omega)) (by intros; first | omega | (unfold rg; omega)) (by intros; first | omega | (unfold rg; omega)) ?_ ?_
  · intro q; have e : k = 5 := by omega
    subst e; exact hP τ h
  · intro q t e; subst e
    refine ih (by omega) _ (fun x i => ?_)
    rw [gi_si]
    by_cases z : x = 99 ∧ i = k
    · rw [if_pos z, if_pos (by omega), h, if_neg (by omega), z.2, show ((5 : Int) + (k : Int)).toNat = 5 + k by omega]
    · rw [if_neg z, h]
      by_cases y : x = 99 ∧ i < k
      · rw [if_pos y, if_pos (by omega)]
      · rw [if_neg y, if_neg (by omega)]
theorem v_cp0_100 {n : Nat}  (m : Int) {σ : Mm} {P : Mm → Prop} (l1 : R 170 2 [some (vr 100), some (vi m), some (vi 0)] [] (shF n) 0 0 σ (Qv (shF n) P)) : Cv 170 [vr 100, vi m] (shF n) σ P :=
  show R 170 0 [some (vr 100), some (vi m), none] [] (shF n) 0 0 σ (Qv (shF n) P) from wpK_R 3 [2] ((l1))
theorem v_cp_100 {n : Nat}  (m : Int) (k : Nat) {σ : Mm} {P : Mm → Prop} (o1 : (k : Int) < m → rg (m + (k : Int))) (o2 : (k : Int) < m → (0 ≤ (m + (k : Int)) ∧ (m + (k : Int)) < 16)) (o3 : (k : Int) < m → (0 ≤ (k : Int) ∧ (k : Int) < 16)) (o4 : (k : Int) < m → ∀ t5 : Mm, t5 = si σ 100 k (gi σ 100 (m + (k : Int)).toNat) → rg ((k : Int) + 1)) (l1 : m ≤ (k : Int) → P σ) (l2 : (k : Int) < m → ∀ t5 : Mm, t5 = si σ 100 k (gi σ 100 (m + (k : Int)).toNat) → R 170 2 [some (vr 100), some (vi m), some (vi ((k : Int) + 1))] [] (shF n) 0 0 t5 (Qv (shF n) P)) : R 170 2 [some (vr 100), some (vi m), some (vi (k : Int))] [] (shF n) 0 0 σ (Qv (shF n) P) :=
  wpK_R 14 [2] (And.intro (fun q1 => And.intro ret0 ⟨rfl, rfl, (l1 q1)⟩) (fun q1 => (have k2 := (o1 (Int.not_le.mp q1)); And.intro k2 ((have k3 := (o2 (Int.not_le.mp q1)); And.intro k3 ((have k4 := (o3 (Int.not_le.mp q1)); And.intro k4 ((have k6 := (o4 (Int.not_le.mp q1) _ rfl); And.intro k6 ((l2 (Int.not_le.mp q1) _ rfl)))))))))))
theorem c_cp_100 {n : Nat} {σ : Mm} {P : Mm → Prop} (hP : ∀ s, CpM 100 8 σ s → P s) : Cv 170 [vr 100, vi 8] (shF n) σ P := by
  refine v_cp0_100 8 ?_
  refine loopUp (N := 8) (I := fun k => ∀ τ : Mm, (∀ x i, gi τ x i = if x = 100 ∧ i < k then gi σ 100 (8 + i) else gi σ x i) → R 170 2 [some (vr 100), some (vi 8), some (vi (k : Int))] [] (shF n) 0 0 τ (Qv (shF n) P)) (fun k hk ih => ?_) 0 (by omega) σ (fun x i => by rw [if_neg (by omega)])
  intro τ h
  refine v_cp_100 8 k (by intros; first | omega | (unfold rg; omega)) (by intros; first | omega | (unfold rg; omega)) (by intros; first | omega | (unfold rg; omega)) (by intros; first | omega | (unfold rg; omega)) ?_ ?_
  · intro q; have e : k = 8 := by omega
    subst e; exact hP τ h
  · intro q t e; subst e
    refine ih (by omega) _ (fun x i => ?_)
    rw [gi_si]
    by_cases z : x = 100 ∧ i = k
    · rw [if_pos z, if_pos (by omega), h, if_neg (by omega), z.2, show ((8 : Int) + (k : Int)).toNat = 8 + k by omega]
    · rw [if_neg z, h]
      by_cases y : x = 100 ∧ i < k
      · rw [if_pos y, if_pos (by omega)]
      · rw [if_neg y, if_neg (by omega)]
theorem v_cp0_102 {n : Nat}  (m : Int) {σ : Mm} {P : Mm → Prop} (l1 : R 170 2 [some (vr 102), some (vi m), some (vi 0)] [] (shF n) 0 0 σ (Qv (shF n) P)) : Cv 170 [vr 102, vi m] (shF n) σ P :=
  show R 170 0 [some (vr 102), some (vi m), none] [] (shF n) 0 0 σ (Qv (shF n) P) from wpK_R 3 [2] ((l1))
theorem v_cp_102 {n : Nat}  (m : Int) (k : Nat) {σ : Mm} {P : Mm → Prop} (o1 : (k : Int) < m → rg (m + (k : Int))) (o2 : (k : Int) < m → (0 ≤ (m + (k : Int)) ∧ (m + (k : Int)) < 6)) (o3 : (k : Int) < m → (0 ≤ (k : Int) ∧ (k : Int) < 6)) (o4 : (k : Int) < m → ∀ t5 : Mm, t5 = si σ 102 k (gi σ 102 (m + (k : Int)).toNat) → rg ((k : Int) + 1)) (l1 : m ≤ (k : Int) → P σ) (l2 : (k : Int) < m → ∀ t5 : Mm, t5 = si σ 102 k (gi σ 102 (m + (k : Int)).toNat) → R 170 2 [some (vr 102), some (vi m), some (vi ((k : Int) + 1))] [] (shF n) 0 0 t5 (Qv (shF n) P)) : R 170 2 [some (vr 102), some (vi m), some (vi (k : Int))] [] (shF n) 0 0 σ (Qv (shF n) P) :=
  wpK_R 14 [2] (And.intro (fun q1 => And.intro ret0 ⟨rfl, rfl, (l1 q1)⟩) (fun q1 => (have k2 := (o1 (Int.not_le.mp q1)); And.intro k2 ((have k3 := (o2 (Int.not_le.mp q1)); And.intro k3 ((have k4 := (o3 (Int.not_le.mp q1)); And.intro k4 ((have k6 := (o4 (Int.not_le.mp q1) _ rfl); And.intro k6 ((l2 (Int.not_le.mp q1) _ rfl)))))))))))
theorem c_cp_102 {n : Nat} {σ : Mm} {P : Mm → Prop} (hP : ∀ s, CpM 102 3 σ s → P s) : Cv 170 [vr 102, vi 3] (shF n) σ P := by
  refine v_cp0_102 3 ?_
  refine loopUp (N := 3) (I := fun k => ∀ τ : Mm, (∀ x i, gi τ x i = if x = 102 ∧ i < k then gi σ 102 (3 + i) else gi σ x i) → R 170 2 [some (vr 102), some (vi 3), some (vi (k : Int))] [] (shF n) 0 0 τ (Qv (shF n) P)) (fun k hk ih => ?_) 0 (by omega) σ (fun x i => by rw [if_neg (by omega)])
  intro τ h
  refine v_cp_102 3 k (by intros; first | omega | (unfold rg; omega)) (by intros; first | omega | (unfold rg; omega)) (by intros; first | omega | (unfold rg; omega)) (by intros; first | omega | (unfold rg; omega)) ?_ ?_
  · intro q; have e : k = 3 := by omega
    subst e; exact hP τ h
  · intro q t e; subst e
    refine ih (by omega) _ (fun x i => ?_)
    rw [gi_si]
    by_cases z : x = 102 ∧ i = k
    · rw [if_pos z, if_pos (by omega), h, if_neg (by omega), z.2, show ((3 : Int) + (k : Int)).toNat = 3 + k by omega]
    · rw [if_neg z, h]
      by_cases y : x = 102 ∧ i < k
      · rw [if_pos y, if_pos (by omega)]
      · rw [if_neg y, if_neg (by omega)]
theorem v_cp0_103 {n : Nat}  (m : Int) {σ : Mm} {P : Mm → Prop} (l1 : R 170 2 [some (vr 103), some (vi m), some (vi 0)] [] (shF n) 0 0 σ (Qv (shF n) P)) : Cv 170 [vr 103, vi m] (shF n) σ P :=
  show R 170 0 [some (vr 103), some (vi m), none] [] (shF n) 0 0 σ (Qv (shF n) P) from wpK_R 3 [2] ((l1))
theorem v_cp_103 {n : Nat}  (m : Int) (k : Nat) {σ : Mm} {P : Mm → Prop} (o1 : (k : Int) < m → rg (m + (k : Int))) (o2 : (k : Int) < m → (0 ≤ (m + (k : Int)) ∧ (m + (k : Int)) < 6)) (o3 : (k : Int) < m → (0 ≤ (k : Int) ∧ (k : Int) < 6)) (o4 : (k : Int) < m → ∀ t5 : Mm, t5 = si σ 103 k (gi σ 103 (m + (k : Int)).toNat) → rg ((k : Int) + 1)) (l1 : m ≤ (k : Int) → P σ) (l2 : (k : Int) < m → ∀ t5 : Mm, t5 = si σ 103 k (gi σ 103 (m + (k : Int)).toNat) → R 170 2 [some (vr 103), some (vi m), some (vi ((k : Int) + 1))] [] (shF n) 0 0 t5 (Qv (shF n) P)) : R 170 2 [some (vr 103), some (vi m), some (vi (k : Int))] [] (shF n) 0 0 σ (Qv (shF n) P) :=
  wpK_R 14 [2] (And.intro (fun q1 => And.intro ret0 ⟨rfl, rfl, (l1 q1)⟩) (fun q1 => (have k2 := (o1 (Int.not_le.mp q1)); And.intro k2 ((have k3 := (o2 (Int.not_le.mp q1)); And.intro k3 ((have k4 := (o3 (Int.not_le.mp q1)); And.intro k4 ((have k6 := (o4 (Int.not_le.mp q1) _ rfl); And.intro k6 ((l2 (Int.not_le.mp q1) _ rfl)))))))))))
theorem c_cp_103 {n : Nat} {σ : Mm} {P : Mm → Prop} (hP : ∀ s, CpM 103 3 σ s → P s) : Cv 170 [vr 103, vi 3] (shF n) σ P := by
  refine v_cp0_103 3 ?_
  refine loopUp (N := 3) (I := fun k => ∀ τ : Mm, (∀ x i, gi τ x i = if x = 103 ∧ i < k then gi σ 103 (3 + i) else gi σ x i) → R 170 2 [some (vr 103), some (vi 3), some (vi (k : Int))] [] (shF n) 0 0 τ (Qv (shF n) P)) (fun k hk ih => ?_) 0 (by omega) σ (fun x i => by rw [if_neg (by omega)])
  intro τ h
  refine v_cp_103 3 k (by intros; first | omega | (unfold rg; omega)) (by intros; first | omega | (unfold rg; omega)) (by intros; first | omega | (unfold rg; omega)) (by intros; first | omega | (unfold rg; omega)) ?_ ?_
  · intro q; have e : k = 3 := by omega
    subst e; exact hP τ h
  · intro q t e; subst e
    refine ih (by omega) _ (fun x i => ?_)
    rw [gi_si]
    by_cases z : x = 103 ∧ i = k
    · rw [if_pos z, if_pos (by omega), h, if_neg (by omega), z.2, show ((3 : Int) + (k : Int)).toNat = 3 + k by omega]
    · rw [if_neg z, h]
      by_cases y : x = 103 ∧ i < k
      · rw [if_pos y, if_pos (by omega)]
      · rw [if_neg y, if_neg (by omega)]
theorem v_cp0_104 {n : Nat}  (m : Int) {σ : Mm} {P : Mm → Prop} (l1 : R 170 2 [some (vr 104), some (vi m), some (vi 0)] [] (shF n) 0 0 σ (Qv (shF n) P)) : Cv 170 [vr 104, vi m] (shF n) σ P :=
  show R 170 0 [some (vr 104), some (vi m), none] [] (shF n) 0 0 σ (Qv (shF n) P) from wpK_R 3 [2] ((l1))
theorem v_cp_104 {n : Nat}  (m : Int) (k : Nat) {σ : Mm} {P : Mm → Prop} (o1 : (k : Int) < m → rg (m + (k : Int))) (o2 : (k : Int) < m → (0 ≤ (m + (k : Int)) ∧ (m + (k : Int)) < 128)) (o3 : (k : Int) < m → (0 ≤ (k : Int) ∧ (k : Int) < 128)) (o4 : (k : Int) < m → ∀ t5 : Mm, t5 = si σ 104 k (gi σ 104 (m + (k : Int)).toNat) → rg ((k : Int) + 1)) (l1 : m ≤ (k : Int) → P σ) (l2 : (k : Int) < m → ∀ t5 : Mm, t5 = si σ 104 k (gi σ 104 (m + (k : Int)).toNat) → R 170 2 [some (vr 104), some (vi m), some (vi ((k : Int) + 1))] [] (shF n) 0 0 t5 (Qv (shF n) P)) : R 170 2 [some (vr 104), some (vi m), some (vi (k : Int))] [] (shF n) 0 0 σ (Qv (shF n) P) :=
  wpK_R 14 [2] (And.intro (fun q1 => And.intro ret0 ⟨rfl, rfl, (l1 q1)⟩) (fun q1 => (have k2 := (o1 (Int.not_le.mp q1)); And.intro k2 ((have k3 := (o2 (Int.not_le.mp q1)); And.intro k3 ((have k4 := (o3 (Int.not_le.mp q1)); And.intro k4 ((have k6 := (o4 (Int.not_le.mp q1) _ rfl); And.intro k6 ((l2 (Int.not_le.mp q1) _ rfl)))))))))))
theorem c_cp_104 {n : Nat} {σ : Mm} {P : Mm → Prop} (hP : ∀ s, CpM 104 64 σ s → P s) : Cv 170 [vr 104, vi 64] (shF n) σ P := by
  refine v_cp0_104 64 ?_
  refine loopUp (N := 64) (I := fun k => ∀ τ : Mm, (∀ x i, gi τ x i = if x = 104 ∧ i < k then gi σ 104 (64 + i) else gi σ x i) → R 170 2 [some (vr 104), some (vi 64), some (vi (k : Int))] [] (shF n) 0 0 τ (Qv (shF n) P)) (fun k hk ih => ?_) 0 (by omega) σ (fun x i => by rw [if_neg (by omega)])
  intro τ h
  refine v_cp_104 64 k (by intros; first | omega | (unfold rg; omega)) (by intros; first | omega | (unfold rg; omega)) (by intros; first | omega | (unfold rg; omega)) (by intros; first | omega | (unfold rg; omega)) ?_ ?_
  · intro q; have e : k = 64 := by omega
    subst e; exact hP τ h
  · intro q t e; subst e
    refine ih (by omega) _ (fun x i => ?_)
    rw [gi_si]
    by_cases z : x = 104 ∧ i = k
    · rw [if_pos z, if_pos (by omega), h, if_neg (by omega), z.2, show ((64 : Int) + (k : Int)).toNat = 64 + k by omega]
    · rw [if_neg z, h]
      by_cases y : x = 104 ∧ i < k
      · rw [if_pos y, if_pos (by omega)]
      · rw [if_neg y, if_neg (by omega)]
theorem v_cp0_105 {n : Nat}  (m : Int) {σ : Mm} {P : Mm → Prop} (l1 : R 170 2 [some (vr 105), some (vi m), some (vi 0)] [] (shF n) 0 0 σ (Qv (shF n) P)) : Cv 170 [vr 105, vi m] (shF n) σ P :=
  show R 170 0 [some (vr 105), some (vi m), none] [] (shF n) 0 0 σ (Qv (shF n) P) from wpK_R 3 [2] ((l1))
theorem v_cp_105 {n : Nat}  (m : Int) (k : Nat) {σ : Mm} {P : Mm → Prop} (o1 : (k : Int) < m → rg (m + (k : Int))) (o2 : (k : Int) < m → (0 ≤ (m + (k : Int)) ∧ (m + (k : Int)) < 128)) (o3 : (k : Int) < m → (0 ≤ (k : Int) ∧ (k : Int) < 128)) (o4 : (k : Int) < m → ∀ t5 : Mm, t5 = si σ 105 k (gi σ 105 (m + (k : Int)).toNat) → rg ((k : Int) + 1)) (l1 : m ≤ (k : Int) → P σ) (l2 : (k : Int) < m → ∀ t5 : Mm, t5 = si σ 105 k (gi σ 105 (m + (k : Int)).toNat) → R 170 2 [some (vr 105), some (vi m), some (vi ((k : Int) + 1))] [] (shF n) 0 0 t5 (Qv (shF n) P)) : R 170 2 [some (vr 105), some (vi m), some (vi (k : Int))] [] (shF n) 0 0 σ (Qv (shF n) P) :=
  wpK_R 14 [2] (And.intro (fun q1 => And.intro ret0 ⟨rfl, rfl, (l1 q1)⟩) (fun q1 => (have k2 := (o1 (Int.not_le.mp q1)); And.intro k2 ((have k3 := (o2 (Int.not_le.mp q1)); And.intro k3 ((have k4 := (o3 (Int.not_le.mp q1)); And.intro k4 ((have k6 := (o4 (Int.not_le.mp q1) _ rfl); And.intro k6 ((l2 (Int.not_le.mp q1) _ rfl)))))))))))
theorem c_cp_105 {n : Nat} {σ : Mm} {P : Mm → Prop} (hP : ∀ s, CpM 105 64 σ s → P s) : Cv 170 [vr 105, vi 64] (shF n) σ P := by
  refine v_cp0_105 64 ?_
  refine loopUp (N := 64) (I := fun k => ∀ τ : Mm, (∀ x i, gi τ x i = if x = 105 ∧ i < k then gi σ 105 (64 + i) else gi σ x i) → R 170 2 [some (vr 105), some (vi 64), some (vi (k : Int))] [] (shF n) 0 0 τ (Qv (shF n) P)) (fun k hk ih => ?_) 0 (by omega) σ (fun x i => by rw [if_neg (by omega)])
  intro τ h
  refine v_cp_105 64 k (by intros; first | omega | (unfold rg; omega)) (by intros; first | omega | (unfold rg; omega)) (by intros; first | omega | (unfold rg; omega)) (by intros; first | omega | (unfold rg; omega)) ?_ ?_
  · intro q; have e : k = 64 := by omega
    subst e; exact hP τ h
  · intro q t e; subst e
    refine ih (by omega) _ (fun x i => ?_)
    rw [gi_si]
    by_cases z : x = 105 ∧ i = k
    · rw [if_pos z, if_pos (by omega), h, if_neg (by omega), z.2, show ((64 : Int) + (k : Int)).toNat = 64 + k by omega]
    · rw [if_neg z, h]
      by_cases y : x = 105 ∧ i < k
      · rw [if_pos y, if_pos (by omega)]
      · rw [if_neg y, if_neg (by omega)]
theorem v_cp0_106 {n : Nat}  (m : Int) {σ : Mm} {P : Mm → Prop} (l1 : R 170 2 [some (vr 106), some (vi m), some (vi 0)] [] (shF n) 0 0 σ (Qv (shF n) P)) : Cv 170 [vr 106, vi m] (shF n) σ P :=
  show R 170 0 [some (vr 106), some (vi m), none] [] (shF n) 0 0 σ (Qv (shF n) P) from wpK_R 3 [2] ((l1))
theorem v_cp_106 {n : Nat}  (m : Int) (k : Nat) {σ : Mm} {P : Mm → Prop} (o1 : (k : Int) < m → rg (m + (k : Int))) (o2 : (k : Int) < m → (0 ≤ (m + (k : Int)) ∧ (m + (k : Int)) < 128)) (o3 : (k : Int) < m → (0 ≤ (k : Int) ∧ (k : Int) < 128)) (o4 : (k : Int) < m → ∀ t5 : Mm, t5 = si σ 106 k (gi σ 106 (m + (k : Int)).toNat) → rg ((k : Int) + 1)) (l1 : m ≤ (k : Int) → P σ) (l2 : (k : Int) < m → ∀ t5 : Mm, t5 = si σ 106 k (gi σ 106 (m + (k : Int)).toNat) → R 170 2 [some (vr 106), some (vi m), some (vi ((k : Int) + 1))] [] (shF n) 0 0 t5 (Qv (shF n) P)) : R 170 2 [some (vr 106), some (vi m), some (vi (k : Int))] [] (shF n) 0 0 σ (Qv (shF n) P) :=
  wpK_R 14 [2] (And.intro (fun q1 => And.intro ret0 ⟨rfl, rfl, (l1 q1)⟩) (fun q1 => (have k2 := (o1 (Int.not_le.mp q1)); And.intro k2 ((have k3 := (o2 (Int.not_le.mp q1)); And.intro k3 ((have k4 := (o3 (Int.not_le.mp q1)); And.intro k4 ((have k6 := (o4 (Int.not_le.mp q1) _ rfl); And.intro k6 ((l2 (Int.not_le.mp q1) _ rfl)))))))))))
theorem c_cp_106 {n : Nat} {σ : Mm} {P : Mm → Prop} (hP : ∀ s, CpM 106 64 σ s → P s) : Cv 170 [vr 106, vi 64] (shF n) σ P := by
  refine v_cp0_106 64 ?_
  refine loopUp (N := 64) (I := fun k => ∀ τ : Mm, (∀ x i, gi τ x i = if x = 106 ∧ i < k then gi σ 106 (64 + i) else gi σ x i) → R 170 2 [some (vr 106), some (vi 64), some (vi (k : Int))] [] (shF n) 0 0 τ (Qv (shF n) P)) (fun k hk ih => ?_) 0 (by omega) σ (fun x i => by rw [if_neg (by omega)])
  intro τ h
  refine v_cp_106 64 k (by intros; first | omega | (unfold rg; omega)) (by intros; first | omega | (unfold rg; omega)) (by intros; first | omega | (unfold rg; omega)) (by intros; first | omega | (unfold rg; omega)) ?_ ?_
  · intro q; have e : k = 64 := by omega
    subst e; exact hP τ h
  · intro q t e; subst e
    refine ih (by omega) _ (fun x i => ?_)
    rw [gi_si]
    by_cases z : x = 106 ∧ i = k
    · rw [if_pos z, if_pos (by omega), h, if_neg (by omega), z.2, show ((64 : Int) + (k : Int)).toNat = 64 + k by omega]
    · rw [if_neg z, h]
      by_cases y : x = 106 ∧ i < k
      · rw [if_pos y, if_pos (by omega)]
      · rw [if_neg y, if_neg (by omega)]
def nKt (x : Nat) : Nat := if x = 89 then 1 else if x ≤ 92 then 5 else if x ≤ 96 then 10 else if x ≤ 99 then 5 else if x = 100 then 8 else if x ≤ 103 then 3 else 64
def CpU (m : Nat) (σ s : Mm) : Prop := ∀ x i, gi s x i = if (89 ≤ x ∧ x ≤ m) ∧ i < nKt x then gi σ x (nKt x + i) else gi σ x i
theorem CpU_s {m a c : Nat} {σ t s : Mm} (h : CpU m σ t) (hm : 88 ≤ m) (ha : a = m + 1) (hc : nKt a = c) (k : CpM a c t s) : CpU a σ s := by
  intro x i
  rw [k x i]
  by_cases z : x = a
  · subst z
    rw [hc]
    by_cases y : i < c
    · rw [if_pos ⟨rfl, y⟩, if_pos (by omega), h, if_neg (by omega)]
    · rw [if_neg (by omega), if_neg (by omega), h, if_neg (by omega)]
  · rw [if_neg (by omega), h]
    by_cases y : (89 ≤ x ∧ x ≤ m) ∧ i < nKt x
    · rw [if_pos y, if_pos (by omega)]
    · rw [if_neg y, if_neg (by omega)]
/-- a world begins, the reference -/
def BnM (σ s : Mm) : Prop := (∀ j : Nat, j < 5 → gi s 111 j = (j : Int) ∧ gi s 112 j = 0 ∧ gi s 113 j = 0 ∧ gi s 119 j = 0) ∧ (∀ c : Nat, c < 10 → gi s 115 c = gi σ 94 c ∧ gi s 116 c = -1 ∧ gi s 117 c = -1 ∧ gi s 118 c = 0) ∧ (gi s 120 0 = 0 ∧ gi s 121 0 = 0 ∧ gi s 122 0 = 0) ∧ (gi s 85 76 = 0 ∧ gi s 85 77 = -1 ∧ gi s 85 82 = 0 ∧ gi s 85 84 = 0) ∧ (∀ a i, ¬ (111 ≤ a ∧ a ≤ 122 ∧ a ≠ 114) → ¬ (a = 85 ∧ 65 ≤ i) → gi s a i = gi σ a i)
theorem v_bn_0 {n : Nat}   {σ : Mm} {P : Mm → Prop} (l1 : R 197 2 [some (vr 85), some (vi 0)] [] (shF n) 0 0 σ (Qv (shF n) P)) : Cv 197 [vr 85] (shF n) σ P :=
  show R 197 0 [some (vr 85), none] [] (shF n) 0 0 σ (Qv (shF n) P) from wpK_R 3 [2, 43] ((l1))
theorem v_bn_2 {n : Nat}  (k : Nat) {σ : Mm} {P : Mm → Prop} (o1 : (k : Int) < (5 : Int) → (0 ≤ (k : Int) ∧ (k : Int) < 10)) (o2 : (k : Int) < (5 : Int) → ∀ t3 : Mm, t3 = si σ 111 k (k : Int) → ∀ t4 : Mm, t4 = si t3 112 k (0 : Int) → ∀ t5 : Mm, t5 = si t4 113 k (0 : Int) → ∀ t6 : Mm, t6 = si t5 119 k (0 : Int) → rg ((k : Int) + 1)) (l1 : (5 : Int) ≤ (k : Int) → R 197 43 [some (vr 85), some (vi 0)] [] (shF n) 0 0 σ (Qv (shF n) P)) (l2 : (k : Int) < (5 : Int) → ∀ t3 : Mm, t3 = si σ 111 k (k : Int) → ∀ t4 : Mm, t4 = si t3 112 k (0 : Int) → ∀ t5 : Mm, t5 = si t4 113 k (0 : Int) → ∀ t6 : Mm, t6 = si t5 119 k (0 : Int) → R 197 2 [some (vr 85), some (vi ((k : Int) + 1))] [] (shF n) 0 0 t6 (Qv (shF n) P)) : R 197 2 [some (vr 85), some (vi (k : Int))] [] (shF n) 0 0 σ (Qv (shF n) P) :=
  wpK_R 26 [2, 43] (And.intro (fun q1 => (l1 q1)) (fun q1 => (have k2 := (o1 (Int.not_le.mp q1)); And.intro k2 (And.intro k2 (And.intro (Or.inl rfl) (And.intro k2 (And.intro k2 ((have k7 := (o2 (Int.not_le.mp q1) _ rfl _ rfl _ rfl _ rfl); And.intro k7 ((l2 (Int.not_le.mp q1) _ rfl _ rfl _ rfl _ rfl)))))))))))
theorem v_bn_43 {n : Nat}  (k : Nat) {σ : Mm} {P : Mm → Prop} (o1 : (k : Int) < (10 : Int) → (0 ≤ (k : Int) ∧ (k : Int) < 20)) (o2 : (k : Int) < (10 : Int) → ∀ t13 : Mm, t13 = si σ 115 k (gi σ 94 k) → ∀ t14 : Mm, t14 = si t13 116 k (-1 : Int) → ∀ t15 : Mm, t15 = si t14 117 k (-1 : Int) → ∀ t16 : Mm, t16 = si t15 118 k (0 : Int) → rg ((k : Int) + 1)) (l1 : (10 : Int) ≤ (k : Int) → ∀ t2 : Mm, t2 = si σ 120 0 (0 : Int) → ∀ t3 : Mm, t3 = si t2 121 0 (0 : Int) → ∀ t4 : Mm, t4 = si t3 122 0 (0 : Int) → ∀ s6 : Mm, Pl t4 s6 → ∀ t8 : Mm, t8 = si s6 85 76 (0 : Int) → ∀ t9 : Mm, t9 = si t8 85 77 (-1 : Int) → ∀ t10 : Mm, t10 = si t9 85 82 (0 : Int) → ∀ t11 : Mm, t11 = si t10 85 84 (0 : Int) → P t11) (l2 : (k : Int) < (10 : Int) → ∀ t13 : Mm, t13 = si σ 115 k (gi σ 94 k) → ∀ t14 : Mm, t14 = si t13 116 k (-1 : Int) → ∀ t15 : Mm, t15 = si t14 117 k (-1 : Int) → ∀ t16 : Mm, t16 = si t15 118 k (0 : Int) → R 197 43 [some (vr 85), some (vi ((k : Int) + 1))] [] (shF n) 0 0 t16 (Qv (shF n) P)) : R 197 43 [some (vr 85), some (vi (k : Int))] [] (shF n) 0 0 σ (Qv (shF n) P) :=
  wpK_R 33 [2, 43] (And.intro (fun q1 => And.intro (by decide) (And.intro (by decide) (And.intro (by decide) ((c_plain   (fun s6 h7 => And.intro (Or.inl rfl) (And.intro ret0 ⟨rfl, rfl, (l1 q1 _ rfl _ rfl _ rfl s6 h7 _ rfl _ rfl _ rfl _ rfl)⟩))))))) (fun q1 => (have k12 := (o1 (Int.not_le.mp q1)); And.intro k12 (And.intro k12 (And.intro k12 (And.intro k12 (And.intro k12 ((have k17 := (o2 (Int.not_le.mp q1) _ rfl _ rfl _ rfl _ rfl); And.intro k17 ((l2 (Int.not_le.mp q1) _ rfl _ rfl _ rfl _ rfl)))))))))))
theorem bn_43 {n : Nat} {σ : Mm} {P : Mm → Prop} (hP : ∀ s, (∀ c : Nat, c < 10 → gi s 115 c = gi σ 94 c ∧ gi s 116 c = -1 ∧ gi s 117 c = -1 ∧ gi s 118 c = 0) → (gi s 120 0 = 0 ∧ gi s 121 0 = 0 ∧ gi s 122 0 = 0) → (gi s 85 76 = 0 ∧ gi s 85 77 = -1 ∧ gi s 85 82 = 0 ∧ gi s 85 84 = 0) → (∀ a i, ¬ (115 ≤ a ∧ a ≤ 118) → ¬ (120 ≤ a ∧ a ≤ 122) → ¬ (a = 85 ∧ 65 ≤ i) → gi s a i = gi σ a i) → P s) : R 197 43 [some (vr 85), some (vi 0)] [] (shF n) 0 0 σ (Qv (shF n) P) := by
  refine loopUp (N := 10) (I := fun k => ∀ τ : Mm, (∀ c : Nat, c < k → gi τ 115 c = gi σ 94 c ∧ gi τ 116 c = -1 ∧ gi τ 117 c = -1 ∧ gi τ 118 c = 0) → (∀ a i, ¬ (115 ≤ a ∧ a ≤ 118) → gi τ a i = gi σ a i) → R 197 43 [some (vr 85), some (vi (k : Int))] [] (shF n) 0 0 τ (Qv (shF n) P)) (fun k hk ih => ?_) 0 (by omega) σ (fun j hj => by omega) (fun _ _ _ => rfl)
  intro τ h1 h2
  refine v_bn_43 k (by intros; first | omega | (unfold rg; omega)) (by intros; first | omega | (unfold rg; omega)) ?_ ?_
  · intro q t2 e2 t3 e3 t4 e4 s6 pl t8 e8 t9 e9 t10 e10 t11 e11
    have fr : ∀ a i, ¬ (120 ≤ a ∧ a ≤ 122) → ¬ (a = 85 ∧ 65 ≤ i) → gi t11 a i = gi τ a i := fun a i p q => by
      rw [e11, gi_si, if_neg (by omega), e10, gi_si, if_neg (by omega), e9, gi_si, if_neg (by omega), e8, gi_si, if_neg (by omega), pl.2.1 a i (by omega), e4, gi_si, if_neg (by omega), e3, gi_si, if_neg (by omega), e2, gi_si, if_neg (by omega)]
    have fq : ∀ a i, a ≠ 85 → gi t11 a i = gi t4 a i := fun a i p => by
      rw [e11, gi_si, if_neg (by omega), e10, gi_si, if_neg (by omega), e9, gi_si, if_neg (by omega), e8, gi_si, if_neg (by omega), pl.2.1 a i (by omega)]
    refine hP t11 (fun c hc => ?_) ⟨?_, ?_, ?_⟩ ⟨?_, ?_, ?_, ?_⟩ (fun a i p q r => by rw [fr a i q r, h2 a i p])
    · rw [fr 115 c (by omega) (by omega), fr 116 c (by omega) (by omega), fr 117 c (by omega) (by omega), fr 118 c (by omega) (by omega)]; exact h1 c (by omega)
    · rw [fq 120 0 (by omega), e4, gi_si, if_neg (by omega), e3, gi_si, if_neg (by omega), e2, gi_hit]
    · rw [fq 121 0 (by omega), e4, gi_si, if_neg (by omega), e3, gi_hit]
    · rw [fq 122 0 (by omega), e4, gi_hit]
    · rw [e11, gi_si, if_neg (by omega), e10, gi_si, if_neg (by omega), e9, gi_si, if_neg (by omega), e8, gi_hit]
    · rw [e11, gi_si, if_neg (by omega), e10, gi_si, if_neg (by omega), e9, gi_hit]
    · rw [e11, gi_si, if_neg (by omega), e10, gi_hit]
    · rw [e11, gi_hit]
  · intro q t3 e3 t4 e4 t5 e5 t6 e6
    have e0 := h2 94 k (by omega)
    subst e6 e5 e4 e3
    refine ih (by omega) _ (fun j hj => ?_) (fun a i p => by rw [gi_si, if_neg (by omega), gi_si, if_neg (by omega), gi_si, if_neg (by omega), gi_si, if_neg (by omega)]; exact h2 a i p)
    by_cases z : j = k
    · subst z; simp [gi_si, e0]
    · have := h1 j (by omega)
      simp [gi_si, z, this]
theorem bn_2 {n : Nat} {σ : Mm} {P : Mm → Prop} (hP : ∀ s, (∀ j : Nat, j < 5 → gi s 111 j = (j : Int) ∧ gi s 112 j = 0 ∧ gi s 113 j = 0 ∧ gi s 119 j = 0) → (∀ a i, ¬ (a = 111 ∨ a = 112 ∨ a = 113 ∨ a = 119) → gi s a i = gi σ a i) → R 197 43 [some (vr 85), some (vi 0)] [] (shF n) 0 0 s (Qv (shF n) P)) : R 197 2 [some (vr 85), some (vi 0)] [] (shF n) 0 0 σ (Qv (shF n) P) := by
  refine loopUp (N := 5) (I := fun k => ∀ τ : Mm, (∀ j : Nat, j < k → gi τ 111 j = (j : Int) ∧ gi τ 112 j = 0 ∧ gi τ 113 j = 0 ∧ gi τ 119 j = 0) → (∀ a i, ¬ (a = 111 ∨ a = 112 ∨ a = 113 ∨ a = 119) → gi τ a i = gi σ a i) → R 197 2 [some (vr 85), some (vi (k : Int))] [] (shF n) 0 0 τ (Qv (shF n) P)) (fun k hk ih => ?_) 0 (by omega) σ (fun j hj => by omega) (fun _ _ _ => rfl)
  intro τ h1 h2
  refine v_bn_2 k (by intros; first | omega | (unfold rg; omega)) (by intros; first | omega | (unfold rg; omega)) ?_ ?_
  · intro q; exact hP τ (fun j hj => h1 j (by omega)) h2
  · intro q t3 e3 t4 e4 t5 e5 t6 e6
    subst e6 e5 e4 e3
    refine ih (by omega) _ (fun j hj => ?_) (fun a i p => by rw [gi_si, if_neg (by omega), gi_si, if_neg (by omega), gi_si, if_neg (by omega), gi_si, if_neg (by omega)]; exact h2 a i p)
    by_cases z : j = k
    · subst z; simp [gi_si]
    · have := h1 j (by omega)
      simp [gi_si, z, this]
theorem c_bn {n : Nat} {σ : Mm} {P : Mm → Prop} (hP : ∀ s, BnM σ s → P s) : Cv 197 [vr 85] (shF n) σ P := by
  refine v_bn_0 ?_
  refine bn_2 fun s1 a1 a2 => bn_43 fun s2 b1 b2 b3 b4 => hP s2 ⟨fun j hj => ?_, fun c hc => ?_, b2, b3, fun a i p q => ?_⟩
  · rw [b4 111 j (by omega) (by omega) (by omega), b4 112 j (by omega) (by omega) (by omega), b4 113 j (by omega) (by omega) (by omega), b4 119 j (by omega) (by omega) (by omega)]; exact a1 j hj
  · rw [← a2 94 c (by omega)]; exact b1 c hc
  · rw [b4 a i (by omega) (by omega) q, a2 a i (by omega)]
/-- the draft becomes the book, the reference -/
def KtM (σ s : Mm) : Prop := ∃ t u : Mm, (∀ i, gi t 85 (12 + i) = if i < 5 then gi σ 85 (17 + i) else gi σ 85 (12 + i)) ∧ (∀ a i, ¬ (a = 85 ∧ (12 ≤ i ∧ i ≤ 16)) → gi t a i = gi σ a i) ∧ CpU 106 t u ∧ BnM u s
theorem v_kt_0 {n : Nat}   {σ : Mm} {P : Mm → Prop} (l1 : ∀ t1 : Mm, t1 = si σ 85 12 (gi σ 85 17) → ∀ t2 : Mm, t2 = si t1 85 13 (gi σ 85 18) → ∀ t3 : Mm, t3 = si t2 85 14 (gi σ 85 19) → ∀ t4 : Mm, t4 = si t3 85 15 (gi σ 85 20) → ∀ t5 : Mm, t5 = si t4 85 16 (gi σ 85 21) → ∀ s7 : Mm, CpM 89 1 t5 s7 → ∀ s10 : Mm, CpM 90 5 s7 s10 → ∀ s13 : Mm, CpM 91 5 s10 s13 → ∀ s16 : Mm, CpM 92 5 s13 s16 → ∀ s19 : Mm, CpM 93 10 s16 s19 → ∀ s22 : Mm, CpM 94 10 s19 s22 → ∀ s25 : Mm, CpM 95 10 s22 s25 → ∀ s28 : Mm, CpM 96 10 s25 s28 → ∀ s31 : Mm, CpM 97 5 s28 s31 → ∀ s34 : Mm, CpM 98 5 s31 s34 → ∀ s37 : Mm, CpM 99 5 s34 s37 → ∀ s40 : Mm, CpM 100 8 s37 s40 → R 171 143 [some (vr 85), some (vi 0)] [] (shF n) 0 0 s40 (Qv (shF n) P)) : Cv 171 [vr 85] (shF n) σ P :=
  show R 171 0 [some (vr 85), none] [] (shF n) 0 0 σ (Qv (shF n) P) from wpK_R 71 [143] ((c_cp_89   (fun s7 h8 => (c_cp_90   (fun s10 h11 => (c_cp_91   (fun s13 h14 => (c_cp_92   (fun s16 h17 => (c_cp_93   (fun s19 h20 => (c_cp_94   (fun s22 h23 => (c_cp_95   (fun s25 h26 => (c_cp_96   (fun s28 h29 => (c_cp_97   (fun s31 h32 => (c_cp_98   (fun s34 h35 => (c_cp_99   (fun s37 h38 => (c_cp_100   (fun s40 h41 => (l1 _ rfl _ rfl _ rfl _ rfl _ rfl s7 h8 s10 h11 s13 h14 s16 h17 s19 h20 s22 h23 s25 h26 s28 h29 s31 h32 s34 h35 s37 h38 s40 h41))))))))))))))))))))))))))
theorem v_kt {n : Nat}  (k : Nat) {σ : Mm} {P : Mm → Prop} (o1 : (k : Int) < (3 : Int) → rg ((3 : Int) + (k : Int))) (o2 : (k : Int) < (3 : Int) → (0 ≤ ((3 : Int) + (k : Int)) ∧ ((3 : Int) + (k : Int)) < 6)) (o3 : (k : Int) < (3 : Int) → (0 ≤ (k : Int) ∧ (k : Int) < 6)) (o4 : (k : Int) < (3 : Int) → ((gi σ 101 (3 + k)) = 0 ∨ (gi σ 101 (3 + k)) = 1)) (o5 : (k : Int) < (3 : Int) → ∀ t23 : Mm, t23 = si σ 101 k (gi σ 101 (3 + k)) → rg ((k : Int) + 1)) (l1 : (3 : Int) ≤ (k : Int) → ∀ s3 : Mm, CpM 102 3 σ s3 → ∀ s6 : Mm, CpM 103 3 s3 s6 → ∀ s9 : Mm, CpM 104 64 s6 s9 → ∀ s12 : Mm, CpM 105 64 s9 s12 → ∀ s15 : Mm, CpM 106 64 s12 s15 → ∀ s18 : Mm, BnM s15 s18 → P s18) (l2 : (k : Int) < (3 : Int) → ∀ t23 : Mm, t23 = si σ 101 k (gi σ 101 (3 + k)) → R 171 143 [some (vr 85), some (vi ((k : Int) + 1))] [] (shF n) 0 0 t23 (Qv (shF n) P)) : R 171 143 [some (vr 85), some (vi (k : Int))] [] (shF n) 0 0 σ (Qv (shF n) P) :=
  wpK_R 26 [143] (And.intro (fun q1 => (c_cp_102   (fun s3 h4 => (c_cp_103   (fun s6 h7 => (c_cp_104   (fun s9 h10 => (c_cp_105   (fun s12 h13 => (c_cp_106   (fun s15 h16 => (c_bn   (fun s18 h19 => And.intro ret0 ⟨rfl, rfl, (l1 q1 s3 h4 s6 h7 s9 h10 s12 h13 s15 h16 s18 h19)⟩))))))))))))) (fun q1 => (have k20 := (o1 (Int.not_le.mp q1)); And.intro k20 ((have k21 := (o2 (Int.not_le.mp q1)); And.intro k21 ((have k22 := (o3 (Int.not_le.mp q1)); And.intro k22 ((have k24 := (o4 (Int.not_le.mp q1)); And.intro k24 ((have k25 := (o5 (Int.not_le.mp q1) _ rfl); And.intro k25 ((l2 (Int.not_le.mp q1) _ rfl)))))))))))))
theorem c_kt {n : Nat} {σ : Mm} {P : Mm → Prop} (hb : ∀ w : Nat, w < 3 → gi σ 101 (3 + w) = 0 ∨ gi σ 101 (3 + w) = 1) (hP : ∀ s, KtM σ s → P s) : Cv 171 [vr 85] (shF n) σ P := by
  refine v_kt_0 ?_
  intro t1 e1 t2 e2 t3 e3 t4 e4 t5 e5
  have f1 : ∀ a i, ¬ (a = 85 ∧ (12 ≤ i ∧ i ≤ 16)) → gi t5 a i = gi σ a i := fun a i p => by
    rw [e5, gi_si, if_neg (by omega), e4, gi_si, if_neg (by omega), e3, gi_si, if_neg (by omega), e2, gi_si, if_neg (by omega), e1, gi_si, if_neg (by omega)]
  have f2 : ∀ i, gi t5 85 (12 + i) = if i < 5 then gi σ 85 (17 + i) else gi σ 85 (12 + i) := fun i => by
    by_cases z : i < 5
    · rw [if_pos z]
      have : i = 0 ∨ i = 1 ∨ i = 2 ∨ i = 3 ∨ i = 4 := by omega
      subst e5 e4 e3 e2 e1
      rcases this with rfl | rfl | rfl | rfl | rfl <;> simp [gi_si]
    · rw [if_neg z]; exact f1 85 (12 + i) (by omega)
  intro s1 c1 s2 c2 s3 c3 s4 c4 s5 c5 s6 c6 s7 c7 s8 c8 s9 c9 s10 c10 s11 c11 s12 c12
  have u0 : CpU 88 t5 t5 := fun x i => by rw [if_neg (by omega)]
  have u12 : CpU 100 t5 s12 := CpU_s (CpU_s (CpU_s (CpU_s (CpU_s (CpU_s (CpU_s (CpU_s (CpU_s (CpU_s (CpU_s (CpU_s u0 (by omega) rfl (by decide) c1) (by omega) rfl (by decide) c2) (by omega) rfl (by decide) c3) (by omega) rfl (by decide) c4) (by omega) rfl (by decide) c5) (by omega) rfl (by decide) c6) (by omega) rfl (by decide) c7) (by omega) rfl (by decide) c8) (by omega) rfl (by decide) c9) (by omega) rfl (by decide) c10) (by omega) rfl (by decide) c11) (by omega) rfl (by decide) c12
  clear c1 c2 c3 c4 c5 c6 c7 c8 c9 c10 c11 c12 u0
  have hb' : ∀ w : Nat, w < 3 → gi s12 101 (3 + w) = 0 ∨ gi s12 101 (3 + w) = 1 := fun w hw => by rw [u12, if_neg (by omega), f1 101 _ (by omega)]; exact hb w hw
  refine loopUp (N := 3) (I := fun k => ∀ τ : Mm, (∀ x i, gi τ x i = if x = 101 ∧ i < k then gi s12 101 (3 + i) else gi s12 x i) → R 171 143 [some (vr 85), some (vi (k : Int))] [] (shF n) 0 0 τ (Qv (shF n) P)) (fun k hk ih => ?_) 0 (by omega) s12 (fun x i => by rw [if_neg (by omega)])
  intro τ h
  refine v_kt k (by intros; first | omega | (unfold rg; omega) | (rw [h, if_neg (by omega)]; exact hb' k (by omega))) (by intros; first | omega | (unfold rg; omega) | (rw [h, if_neg (by omega)]; exact hb' k (by omega))) (by intros; first | omega | (unfold rg; omega) | (rw [h, if_neg (by omega)]; exact hb' k (by omega))) (by intros; first | omega | (unfold rg; omega) | (rw [h, if_neg (by omega)]; exact hb' k (by omega))) (by intros; first | omega | (unfold rg; omega) | (rw [h, if_neg (by omega)]; exact hb' k (by omega))) ?_ ?_
  · intro q v1 d1 v2 d2 v3 d3 v4 d4 v5 d5 s hs
    have e : k = 3 := by omega
    subst e
    have u13 : CpU 101 t5 τ := CpU_s u12 (by omega) rfl (by decide) h
    exact hP s ⟨t5, v5, f2, f1, CpU_s (CpU_s (CpU_s (CpU_s (CpU_s u13 (by omega) rfl (by decide) d1) (by omega) rfl (by decide) d2) (by omega) rfl (by decide) d3) (by omega) rfl (by decide) d4) (by omega) rfl (by decide) d5, hs⟩
  · intro q t e; subst e
    refine ih (by omega) _ (fun x i => ?_)
    rw [gi_si]
    by_cases z : x = 101 ∧ i = k
    · rw [if_pos z, if_pos (by omega), h, if_neg (by omega), z.2]
    · rw [if_neg z, h]
      by_cases y : x = 101 ∧ i < k
      · rw [if_pos y, if_pos (by omega)]
      · rw [if_neg y, if_neg (by omega)]
