/-! THE CONSTRUCTORS: the reference, while its shape is open -/
theorem PnM_101 {σ s : Mm} (h : PnM σ s) (w : Nat) (hw : w < 3) : gi s 101 (3 + w) = 0 := h.2.2.2.1 w hw
theorem v_plainO {n : Nat}   {σ : Mm} {P : Mm → Prop} (l1 : ∀ t1 : Mm, t1 = si σ 85 65 (-1 : Int) → ∀ t2 : Mm, t2 = si t1 85 66 (-1 : Int) → ∀ t3 : Mm, t3 = si t2 85 67 (-1 : Int) → ∀ t4 : Mm, t4 = si t3 85 68 (-1 : Int) → ∀ t5 : Mm, t5 = si t4 85 69 (0 : Int) → ∀ t6 : Mm, t6 = si t5 85 70 (-1 : Int) → ∀ t7 : Mm, t7 = si t6 85 71 (0 : Int) → ∀ t8 : Mm, t8 = si t7 85 72 (0 : Int) → P t8) : Cv 198 [vr 85] (sk_147 n) σ P :=
  show R 198 0 [some (vr 85)] [] (sk_147 n) 0 0 σ (Qv (sk_147 n) P) from wpK_R 25 [] (And.intro (Or.inl rfl) (And.intro (retO (by decide) (by decide) rfl) ⟨rfl, rfl, (l1 _ rfl _ rfl _ rfl _ rfl _ rfl _ rfl _ rfl _ rfl)⟩))
theorem c_plainO {n : Nat} {σ : Mm} {P : Mm → Prop} (hP : ∀ σ', Pl σ σ' → P σ') : Cv 198 [vr 85] (sk_147 n) σ P := by
  refine v_plainO ?_
  intros; subst_vars
  refine hP _ ⟨rfl, fun a i h => ?_, ?_, ?_, ?_, ?_, ?_, ?_, ?_, ?_⟩
  · simp only [gi_si]
    repeat (rw [if_neg (by omega)])
  all_goals simp [gi_same]
theorem v_pnO_0 {n : Nat}   {σ : Mm} {P : Mm → Prop} (l1 : ∀ t1 : Mm, t1 = si σ 85 17 (0 : Int) → ∀ t2 : Mm, t2 = si t1 85 18 (0 : Int) → ∀ t3 : Mm, t3 = si t2 85 19 (0 : Int) → ∀ t4 : Mm, t4 = si t3 85 20 (0 : Int) → ∀ t5 : Mm, t5 = si t4 85 21 (0 : Int) → ∀ t6 : Mm, t6 = si t5 85 46 (0 : Int) → ∀ t7 : Mm, t7 = si t6 88 0 (0 : Int) → ∀ t8 : Mm, t8 = si t7 89 1 (1 : Int) → R 169 46 [some (vr 85), some (vi 3)] [] (sk_147 n) 0 0 t8 (Qv (sk_147 n) P)) : Cv 169 [vr 85] (sk_147 n) σ P :=
  show R 169 0 [some (vr 85), none] [] (sk_147 n) 0 0 σ (Qv (sk_147 n) P) from wpK_R 31 [46] (And.intro (by decide) (And.intro (Or.inl rfl) (And.intro (by decide) ((l1 _ rfl _ rfl _ rfl _ rfl _ rfl _ rfl _ rfl _ rfl)))))
theorem v_pnO {n : Nat}  (k : Nat) {σ : Mm} {P : Mm → Prop} (o1 : (k : Int) < (6 : Int) → (0 ≤ (k : Int) ∧ (k : Int) < 6)) (o2 : (k : Int) < (6 : Int) → ∀ t3 : Mm, t3 = si σ 101 k (0 : Int) → rg ((k : Int) + 1)) (l1 : (6 : Int) ≤ (k : Int) → P σ) (l2 : (k : Int) < (6 : Int) → ∀ t3 : Mm, t3 = si σ 101 k (0 : Int) → R 169 46 [some (vr 85), some (vi ((k : Int) + 1))] [] (sk_147 n) 0 0 t3 (Qv (sk_147 n) P)) : R 169 46 [some (vr 85), some (vi (k : Int))] [] (sk_147 n) 0 0 σ (Qv (sk_147 n) P) :=
  wpK_R 11 [46] (And.intro (fun q1 => And.intro (retO (by decide) (by decide) rfl) ⟨rfl, rfl, (l1 q1)⟩) (fun q1 => (have k2 := (o1 (Int.not_le.mp q1)); And.intro k2 (And.intro (Or.inl rfl) ((have k4 := (o2 (Int.not_le.mp q1) _ rfl); And.intro k4 ((l2 (Int.not_le.mp q1) _ rfl))))))))
theorem c_pnO {n : Nat} {σ : Mm} {P : Mm → Prop} (hP : ∀ s, PnM σ s → P s) : Cv 169 [vr 85] (sk_147 n) σ P := by
  refine v_pnO_0 ?_
  intro t1 e1 t2 e2 t3 e3 t4 e4 t5 e5 t6 e6 t7 e7 t8 e8
  have key : ∀ k : Nat, k ≤ 3 → ∀ τ : Mm, (∀ w : Nat, w < k → gi τ 101 (3 + w) = 0) → (∀ a i, ¬ (a = 101 ∧ 3 ≤ i) → gi τ a i = gi t8 a i) → R 169 46 [some (vr 85), some (vi (((3 + k : Nat)) : Int))] [] (sk_147 n) 0 0 τ (Qv (sk_147 n) P) := by
    refine loopUp (N := 3) (I := fun k => ∀ τ : Mm, (∀ w : Nat, w < k → gi τ 101 (3 + w) = 0) → (∀ a i, ¬ (a = 101 ∧ 3 ≤ i) → gi τ a i = gi t8 a i) → R 169 46 [some (vr 85), some (vi (((3 + k : Nat)) : Int))] [] (sk_147 n) 0 0 τ (Qv (sk_147 n) P)) (fun k hk ih => ?_)
    intro τ h1 h2
    refine v_pnO (3 + k) (by intros; first | omega | (unfold rg; omega)) (by intros; first | omega | (unfold rg; omega)) ?_ ?_
    · intro q
      refine hP τ ⟨fun i p => ?_, ?_, ?_, fun w hw => h1 w (by omega), fun a i p q r w => ?_⟩
      · rw [h2 85 i (by omega), e8, gi_si, if_neg (by omega), e7, gi_si, if_neg (by omega), e6, gi_si]
        by_cases z6 : i = 46
        · rw [if_pos ⟨rfl, z6⟩]
        rw [if_neg (by omega), e5, gi_si]
        by_cases z5 : i = 21
        · rw [if_pos ⟨rfl, z5⟩]
        rw [if_neg (by omega), e4, gi_si]
        by_cases z4 : i = 20
        · rw [if_pos ⟨rfl, z4⟩]
        rw [if_neg (by omega), e3, gi_si]
        by_cases z3 : i = 19
        · rw [if_pos ⟨rfl, z3⟩]
        rw [if_neg (by omega), e2, gi_si]
        by_cases z2 : i = 18
        · rw [if_pos ⟨rfl, z2⟩]
        rw [if_neg (by omega), e1, gi_si, if_pos ⟨rfl, by omega⟩]
      · rw [h2 88 0 (by omega), e8, gi_si, if_neg (by omega), e7, gi_hit]
      · rw [h2 89 1 (by omega), e8, gi_hit]
      · rw [h2 a i w, e8, gi_si, if_neg (by omega), e7, gi_si, if_neg (by omega), e6, gi_si, if_neg (by omega), e5, gi_si, if_neg (by omega), e4, gi_si, if_neg (by omega), e3, gi_si, if_neg (by omega), e2, gi_si, if_neg (by omega), e1, gi_si, if_neg (by omega)]
    · intro q t e
      subst e
      have := ih (by omega) (si τ 101 (3 + k) 0) (fun w hw => ?_) (fun a i p => by rw [gi_si, if_neg (by omega)]; exact h2 a i p)
      · exact this
      · by_cases z : w = k
        · subst z; rw [gi_hit]
        · rw [gi_si, if_neg (by omega)]; exact h1 w (by omega)
  exact key 0 (by omega) t8 (fun w hw => by omega) (fun _ _ _ => rfl)
theorem v_cp0O_89 {n : Nat}  (m : Int) {σ : Mm} {P : Mm → Prop} (l1 : R 170 2 [some (vr 89), some (vi m), some (vi 0)] [] (sk_147 n) 0 0 σ (Qv (sk_147 n) P)) : Cv 170 [vr 89, vi m] (sk_147 n) σ P :=
  show R 170 0 [some (vr 89), some (vi m), none] [] (sk_147 n) 0 0 σ (Qv (sk_147 n) P) from wpK_R 3 [2] ((l1))
theorem v_cpO_89 {n : Nat}  (m : Int) (k : Nat) {σ : Mm} {P : Mm → Prop} (o1 : (k : Int) < m → rg (m + (k : Int))) (o2 : (k : Int) < m → (0 ≤ (m + (k : Int)) ∧ (m + (k : Int)) < 2)) (o3 : (k : Int) < m → (0 ≤ (k : Int) ∧ (k : Int) < 2)) (o4 : (k : Int) < m → ∀ t5 : Mm, t5 = si σ 89 k (gi σ 89 (m + (k : Int)).toNat) → rg ((k : Int) + 1)) (l1 : m ≤ (k : Int) → P σ) (l2 : (k : Int) < m → ∀ t5 : Mm, t5 = si σ 89 k (gi σ 89 (m + (k : Int)).toNat) → R 170 2 [some (vr 89), some (vi m), some (vi ((k : Int) + 1))] [] (sk_147 n) 0 0 t5 (Qv (sk_147 n) P)) : R 170 2 [some (vr 89), some (vi m), some (vi (k : Int))] [] (sk_147 n) 0 0 σ (Qv (sk_147 n) P) :=
  wpK_R 14 [2] (And.intro (fun q1 => And.intro (retO (by decide) (by decide) rfl) ⟨rfl, rfl, (l1 q1)⟩) (fun q1 => (have k2 := (o1 (Int.not_le.mp q1)); And.intro k2 ((have k3 := (o2 (Int.not_le.mp q1)); And.intro k3 ((have k4 := (o3 (Int.not_le.mp q1)); And.intro k4 ((have k6 := (o4 (Int.not_le.mp q1) _ rfl); And.intro k6 ((l2 (Int.not_le.mp q1) _ rfl)))))))))))
theorem c_cpO_89 {n : Nat} {σ : Mm} {P : Mm → Prop} (hP : ∀ s, CpM 89 1 σ s → P s) : Cv 170 [vr 89, vi 1] (sk_147 n) σ P := by
  refine v_cp0O_89 1 ?_
  refine loopUp (N := 1) (I := fun k => ∀ τ : Mm, (∀ x i, gi τ x i = if x = 89 ∧ i < k then gi σ 89 (1 + i) else gi σ x i) → R 170 2 [some (vr 89), some (vi 1), some (vi (k : Int))] [] (sk_147 n) 0 0 τ (Qv (sk_147 n) P)) (fun k hk ih => ?_) 0 (by omega) σ (fun x i => by rw [if_neg (by omega)])
  intro τ h
  refine v_cpO_89 1 k (by intros; first | omega | (unfold rg; omega)) (by intros; first | omega | (unfold rg; omega)) (by intros; first | omega | (unfold rg; omega)) (by intros; first | omega | (unfold rg; omega)) ?_ ?_
  · intro q; have e : k = 1 := by omega
    subst e; exact hP τ h
  · intro q t e; subst e
    refine ih (by omega) _ (fun x i => ?_)
    rw [gi_si]
    by_cases z : x = 89 ∧ i = k
    · rw [if_pos z, if_pos (by omega), h, if_neg (by omega), z.2, show ((1 : Int) + (k : Int)).toNat = 1 + k by omega]
    · rw [if_neg z, h]
      by_cases y : x = 89 ∧ i < k
      · rw [if_pos y, if_pos (by omega)]
      · rw [if_neg y, if_neg (by omega)]
theorem v_cp0O_90 {n : Nat}  (m : Int) {σ : Mm} {P : Mm → Prop} (l1 : R 170 2 [some (vr 90), some (vi m), some (vi 0)] [] (sk_147 n) 0 0 σ (Qv (sk_147 n) P)) : Cv 170 [vr 90, vi m] (sk_147 n) σ P :=
  show R 170 0 [some (vr 90), some (vi m), none] [] (sk_147 n) 0 0 σ (Qv (sk_147 n) P) from wpK_R 3 [2] ((l1))
theorem v_cpO_90 {n : Nat}  (m : Int) (k : Nat) {σ : Mm} {P : Mm → Prop} (o1 : (k : Int) < m → rg (m + (k : Int))) (o2 : (k : Int) < m → (0 ≤ (m + (k : Int)) ∧ (m + (k : Int)) < 10)) (o3 : (k : Int) < m → (0 ≤ (k : Int) ∧ (k : Int) < 10)) (o4 : (k : Int) < m → ∀ t5 : Mm, t5 = si σ 90 k (gi σ 90 (m + (k : Int)).toNat) → rg ((k : Int) + 1)) (l1 : m ≤ (k : Int) → P σ) (l2 : (k : Int) < m → ∀ t5 : Mm, t5 = si σ 90 k (gi σ 90 (m + (k : Int)).toNat) → R 170 2 [some (vr 90), some (vi m), some (vi ((k : Int) + 1))] [] (sk_147 n) 0 0 t5 (Qv (sk_147 n) P)) : R 170 2 [some (vr 90), some (vi m), some (vi (k : Int))] [] (sk_147 n) 0 0 σ (Qv (sk_147 n) P) :=
  wpK_R 14 [2] (And.intro (fun q1 => And.intro (retO (by decide) (by decide) rfl) ⟨rfl, rfl, (l1 q1)⟩) (fun q1 => (have k2 := (o1 (Int.not_le.mp q1)); And.intro k2 ((have k3 := (o2 (Int.not_le.mp q1)); And.intro k3 ((have k4 := (o3 (Int.not_le.mp q1)); And.intro k4 ((have k6 := (o4 (Int.not_le.mp q1) _ rfl); And.intro k6 ((l2 (Int.not_le.mp q1) _ rfl)))))))))))
theorem c_cpO_90 {n : Nat} {σ : Mm} {P : Mm → Prop} (hP : ∀ s, CpM 90 5 σ s → P s) : Cv 170 [vr 90, vi 5] (sk_147 n) σ P := by
  refine v_cp0O_90 5 ?_
  refine loopUp (N := 5) (I := fun k => ∀ τ : Mm, (∀ x i, gi τ x i = if x = 90 ∧ i < k then gi σ 90 (5 + i) else gi σ x i) → R 170 2 [some (vr 90), some (vi 5), some (vi (k : Int))] [] (sk_147 n) 0 0 τ (Qv (sk_147 n) P)) (fun k hk ih => ?_) 0 (by omega) σ (fun x i => by rw [if_neg (by omega)])
  intro τ h
  refine v_cpO_90 5 k (by intros; first | omega | (unfold rg; omega)) (by intros; first | omega | (unfold rg; omega)) (by intros; first | omega | (unfold rg; omega)) (by intros; first | omega | (unfold rg; omega)) ?_ ?_
  · intro q; have e : k = 5 := by omega
    subst e; exact hP τ h
  · intro q t e; subst e
    refine ih (by omega) _ (fun x i => ?_)
    rw [gi_si]
    by_cases z : x = 90 ∧ i = k
    · rw [if_pos z, if_pos (by omega), h, if_neg (by omega), z.2, show ((5 : Int) + (k : Int)).toNat = 5 + k by omega]
    · rw [if_neg z, h]
      by_cases y : x = 90 ∧ i < k
      · rw [if_pos y, if_pos (by omega)]
      · rw [if_neg y, if_neg (by omega)]
theorem v_cp0O_91 {n : Nat}  (m : Int) {σ : Mm} {P : Mm → Prop} (l1 : R 170 2 [some (vr 91), some (vi m), some (vi 0)] [] (sk_147 n) 0 0 σ (Qv (sk_147 n) P)) : Cv 170 [vr 91, vi m] (sk_147 n) σ P :=
  show R 170 0 [some (vr 91), some (vi m), none] [] (sk_147 n) 0 0 σ (Qv (sk_147 n) P) from wpK_R 3 [2] ((l1))
theorem v_cpO_91 {n : Nat}  (m : Int) (k : Nat) {σ : Mm} {P : Mm → Prop} (o1 : (k : Int) < m → rg (m + (k : Int))) (o2 : (k : Int) < m → (0 ≤ (m + (k : Int)) ∧ (m + (k : Int)) < 10)) (o3 : (k : Int) < m → (0 ≤ (k : Int) ∧ (k : Int) < 10)) (o4 : (k : Int) < m → ∀ t5 : Mm, t5 = si σ 91 k (gi σ 91 (m + (k : Int)).toNat) → rg ((k : Int) + 1)) (l1 : m ≤ (k : Int) → P σ) (l2 : (k : Int) < m → ∀ t5 : Mm, t5 = si σ 91 k (gi σ 91 (m + (k : Int)).toNat) → R 170 2 [some (vr 91), some (vi m), some (vi ((k : Int) + 1))] [] (sk_147 n) 0 0 t5 (Qv (sk_147 n) P)) : R 170 2 [some (vr 91), some (vi m), some (vi (k : Int))] [] (sk_147 n) 0 0 σ (Qv (sk_147 n) P) :=
  wpK_R 14 [2] (And.intro (fun q1 => And.intro (retO (by decide) (by decide) rfl) ⟨rfl, rfl, (l1 q1)⟩) (fun q1 => (have k2 := (o1 (Int.not_le.mp q1)); And.intro k2 ((have k3 := (o2 (Int.not_le.mp q1)); And.intro k3 ((have k4 := (o3 (Int.not_le.mp q1)); And.intro k4 ((have k6 := (o4 (Int.not_le.mp q1) _ rfl); And.intro k6 ((l2 (Int.not_le.mp q1) _ rfl)))))))))))
theorem c_cpO_91 {n : Nat} {σ : Mm} {P : Mm → Prop} (hP : ∀ s, CpM 91 5 σ s → P s) : Cv 170 [vr 91, vi 5] (sk_147 n) σ P := by
  refine v_cp0O_91 5 ?_
  refine loopUp (N := 5) (I := fun k => ∀ τ : Mm, (∀ x i, gi τ x i = if x = 91 ∧ i < k then gi σ 91 (5 + i) else gi σ x i) → R 170 2 [some (vr 91), some (vi 5), some (vi (k : Int))] [] (sk_147 n) 0 0 τ (Qv (sk_147 n) P)) (fun k hk ih => ?_) 0 (by omega) σ (fun x i => by rw [if_neg (by omega)])
  intro τ h
  refine v_cpO_91 5 k (by intros; first | omega | (unfold rg; omega)) (by intros; first | omega | (unfold rg; omega)) (by intros; first | omega | (unfold rg; omega)) (by intros; first | omega | (unfold rg; omega)) ?_ ?_
  · intro q; have e : k = 5 := by omega
    subst e; exact hP τ h
  · intro q t e; subst e
    refine ih (by omega) _ (fun x i => ?_)
    rw [gi_si]
    by_cases z : x = 91 ∧ i = k
    · rw [if_pos z, if_pos (by omega), h, if_neg (by omega), z.2, show ((5 : Int) + (k : Int)).toNat = 5 + k by omega]
    · rw [if_neg z, h]
      by_cases y : x = 91 ∧ i < k
      · rw [if_pos y, if_pos (by omega)]
      · rw [if_neg y, if_neg (by omega)]
theorem v_cp0O_92 {n : Nat}  (m : Int) {σ : Mm} {P : Mm → Prop} (l1 : R 170 2 [some (vr 92), some (vi m), some (vi 0)] [] (sk_147 n) 0 0 σ (Qv (sk_147 n) P)) : Cv 170 [vr 92, vi m] (sk_147 n) σ P :=
  show R 170 0 [some (vr 92), some (vi m), none] [] (sk_147 n) 0 0 σ (Qv (sk_147 n) P) from wpK_R 3 [2] ((l1))
theorem v_cpO_92 {n : Nat}  (m : Int) (k : Nat) {σ : Mm} {P : Mm → Prop} (o1 : (k : Int) < m → rg (m + (k : Int))) (o2 : (k : Int) < m → (0 ≤ (m + (k : Int)) ∧ (m + (k : Int)) < 10)) (o3 : (k : Int) < m → (0 ≤ (k : Int) ∧ (k : Int) < 10)) (o4 : (k : Int) < m → ∀ t5 : Mm, t5 = si σ 92 k (gi σ 92 (m + (k : Int)).toNat) → rg ((k : Int) + 1)) (l1 : m ≤ (k : Int) → P σ) (l2 : (k : Int) < m → ∀ t5 : Mm, t5 = si σ 92 k (gi σ 92 (m + (k : Int)).toNat) → R 170 2 [some (vr 92), some (vi m), some (vi ((k : Int) + 1))] [] (sk_147 n) 0 0 t5 (Qv (sk_147 n) P)) : R 170 2 [some (vr 92), some (vi m), some (vi (k : Int))] [] (sk_147 n) 0 0 σ (Qv (sk_147 n) P) :=
  wpK_R 14 [2] (And.intro (fun q1 => And.intro (retO (by decide) (by decide) rfl) ⟨rfl, rfl, (l1 q1)⟩) (fun q1 => (have k2 := (o1 (Int.not_le.mp q1)); And.intro k2 ((have k3 := (o2 (Int.not_le.mp q1)); And.intro k3 ((have k4 := (o3 (Int.not_le.mp q1)); And.intro k4 ((have k6 := (o4 (Int.not_le.mp q1) _ rfl); And.intro k6 ((l2 (Int.not_le.mp q1) _ rfl)))))))))))
theorem c_cpO_92 {n : Nat} {σ : Mm} {P : Mm → Prop} (hP : ∀ s, CpM 92 5 σ s → P s) : Cv 170 [vr 92, vi 5] (sk_147 n) σ P := by
  refine v_cp0O_92 5 ?_
  refine loopUp (N := 5) (I := fun k => ∀ τ : Mm, (∀ x i, gi τ x i = if x = 92 ∧ i < k then gi σ 92 (5 + i) else gi σ x i) → R 170 2 [some (vr 92), some (vi 5), some (vi (k : Int))] [] (sk_147 n) 0 0 τ (Qv (sk_147 n) P)) (fun k hk ih => ?_) 0 (by omega) σ (fun x i => by rw [if_neg (by omega)])
  intro τ h
  refine v_cpO_92 5 k (by intros; first | omega | (unfold rg; omega)) (by intros; first | omega | (unfold rg; omega)) (by intros; first | omega | (unfold rg; omega)) (by intros; first | omega | (unfold rg; omega)) ?_ ?_
  · intro q; have e : k = 5 := by omega
    subst e; exact hP τ h
  · intro q t e; subst e
    refine ih (by omega) _ (fun x i => ?_)
    rw [gi_si]
    by_cases z : x = 92 ∧ i = k
    · rw [if_pos z, if_pos (by omega), h, if_neg (by omega), z.2, show ((5 : Int) + (k : Int)).toNat = 5 + k by omega]
    · rw [if_neg z, h]
      by_cases y : x = 92 ∧ i < k
      · rw [if_pos y, if_pos (by omega)]
      · rw [if_neg y, if_neg (by omega)]
theorem v_cp0O_93 {n : Nat}  (m : Int) {σ : Mm} {P : Mm → Prop} (l1 : R 170 2 [some (vr 93), some (vi m), some (vi 0)] [] (sk_147 n) 0 0 σ (Qv (sk_147 n) P)) : Cv 170 [vr 93, vi m] (sk_147 n) σ P :=
  show R 170 0 [some (vr 93), some (vi m), none] [] (sk_147 n) 0 0 σ (Qv (sk_147 n) P) from wpK_R 3 [2] ((l1))
theorem v_cpO_93 {n : Nat}  (m : Int) (k : Nat) {σ : Mm} {P : Mm → Prop} (o1 : (k : Int) < m → rg (m + (k : Int))) (o2 : (k : Int) < m → (0 ≤ (m + (k : Int)) ∧ (m + (k : Int)) < 20)) (o3 : (k : Int) < m → (0 ≤ (k : Int) ∧ (k : Int) < 20)) (o4 : (k : Int) < m → ∀ t5 : Mm, t5 = si σ 93 k (gi σ 93 (m + (k : Int)).toNat) → rg ((k : Int) + 1)) (l1 : m ≤ (k : Int) → P σ) (l2 : (k : Int) < m → ∀ t5 : Mm, t5 = si σ 93 k (gi σ 93 (m + (k : Int)).toNat) → R 170 2 [some (vr 93), some (vi m), some (vi ((k : Int) + 1))] [] (sk_147 n) 0 0 t5 (Qv (sk_147 n) P)) : R 170 2 [some (vr 93), some (vi m), some (vi (k : Int))] [] (sk_147 n) 0 0 σ (Qv (sk_147 n) P) :=
  wpK_R 14 [2] (And.intro (fun q1 => And.intro (retO (by decide) (by decide) rfl) ⟨rfl, rfl, (l1 q1)⟩) (fun q1 => (have k2 := (o1 (Int.not_le.mp q1)); And.intro k2 ((have k3 := (o2 (Int.not_le.mp q1)); And.intro k3 ((have k4 := (o3 (Int.not_le.mp q1)); And.intro k4 ((have k6 := (o4 (Int.not_le.mp q1) _ rfl); And.intro k6 ((l2 (Int.not_le.mp q1) _ rfl)))))))))))
theorem c_cpO_93 {n : Nat} {σ : Mm} {P : Mm → Prop} (hP : ∀ s, CpM 93 10 σ s → P s) : Cv 170 [vr 93, vi 10] (sk_147 n) σ P := by
  refine v_cp0O_93 10 ?_
  refine loopUp (N := 10) (I := fun k => ∀ τ : Mm, (∀ x i, gi τ x i = if x = 93 ∧ i < k then gi σ 93 (10 + i) else gi σ x i) → R 170 2 [some (vr 93), some (vi 10), some (vi (k : Int))] [] (sk_147 n) 0 0 τ (Qv (sk_147 n) P)) (fun k hk ih => ?_) 0 (by omega) σ (fun x i => by rw [if_neg (by omega)])
  intro τ h
  refine v_cpO_93 10 k (by intros; first | omega | (unfold rg; omega)) (by intros; first | omega | (unfold rg; omega)) (by intros; first | omega | (unfold rg; omega)) (by intros; first | omega | (unfold rg; omega)) ?_ ?_
  · intro q; have e : k = 10 := by omega
    subst e; exact hP τ h
  · intro q t e; subst e
    refine ih (by omega) _ (fun x i => ?_)
    rw [gi_si]
    by_cases z : x = 93 ∧ i = k
    · rw [if_pos z, if_pos (by omega), h, if_neg (by omega), z.2, show ((10 : Int) + (k : Int)).toNat = 10 + k by omega]
    · rw [if_neg z, h]
      by_cases y : x = 93 ∧ i < k
      · rw [if_pos y, if_pos (by omega)]
      · rw [if_neg y, if_neg (by omega)]
theorem v_cp0O_94 {n : Nat}  (m : Int) {σ : Mm} {P : Mm → Prop} (l1 : R 170 2 [some (vr 94), some (vi m), some (vi 0)] [] (sk_147 n) 0 0 σ (Qv (sk_147 n) P)) : Cv 170 [vr 94, vi m] (sk_147 n) σ P :=
  show R 170 0 [some (vr 94), some (vi m), none] [] (sk_147 n) 0 0 σ (Qv (sk_147 n) P) from wpK_R 3 [2] ((l1))
theorem v_cpO_94 {n : Nat}  (m : Int) (k : Nat) {σ : Mm} {P : Mm → Prop} (o1 : (k : Int) < m → rg (m + (k : Int))) (o2 : (k : Int) < m → (0 ≤ (m + (k : Int)) ∧ (m + (k : Int)) < 20)) (o3 : (k : Int) < m → (0 ≤ (k : Int) ∧ (k : Int) < 20)) (o4 : (k : Int) < m → ∀ t5 : Mm, t5 = si σ 94 k (gi σ 94 (m + (k : Int)).toNat) → rg ((k : Int) + 1)) (l1 : m ≤ (k : Int) → P σ) (l2 : (k : Int) < m → ∀ t5 : Mm, t5 = si σ 94 k (gi σ 94 (m + (k : Int)).toNat) → R 170 2 [some (vr 94), some (vi m), some (vi ((k : Int) + 1))] [] (sk_147 n) 0 0 t5 (Qv (sk_147 n) P)) : R 170 2 [some (vr 94), some (vi m), some (vi (k : Int))] [] (sk_147 n) 0 0 σ (Qv (sk_147 n) P) :=
  wpK_R 14 [2] (And.intro (fun q1 => And.intro (retO (by decide) (by decide) rfl) ⟨rfl, rfl, (l1 q1)⟩) (fun q1 => (have k2 := (o1 (Int.not_le.mp q1)); And.intro k2 ((have k3 := (o2 (Int.not_le.mp q1)); And.intro k3 ((have k4 := (o3 (Int.not_le.mp q1)); And.intro k4 ((have k6 := (o4 (Int.not_le.mp q1) _ rfl); And.intro k6 ((l2 (Int.not_le.mp q1) _ rfl)))))))))))
theorem c_cpO_94 {n : Nat} {σ : Mm} {P : Mm → Prop} (hP : ∀ s, CpM 94 10 σ s → P s) : Cv 170 [vr 94, vi 10] (sk_147 n) σ P := by
  refine v_cp0O_94 10 ?_
  refine loopUp (N := 10) (I := fun k => ∀ τ : Mm, (∀ x i, gi τ x i = if x = 94 ∧ i < k then gi σ 94 (10 + i) else gi σ x i) → R 170 2 [some (vr 94), some (vi 10), some (vi (k : Int))] [] (sk_147 n) 0 0 τ (Qv (sk_147 n) P)) (fun k hk ih => ?_) 0 (by omega) σ (fun x i => by rw [if_neg (by omega)])
  intro τ h
  refine v_cpO_94 10 k (by intros; first | omega | (unfold rg; omega)) (by intros; first | omega | (unfold rg; omega)) (by intros; first | omega | (unfold rg; omega)) (by intros; first | omega | (unfold rg; omega)) ?_ ?_
  · intro q; have e : k = 10 := by omega
    subst e; exact hP τ h
  · intro q t e; subst e
    refine ih (by omega) _ (fun x i => ?_)
    rw [gi_si]
    by_cases z : x = 94 ∧ i = k
    · rw [if_pos z, if_pos (by omega), h, if_neg (by omega), z.2, show ((10 : Int) + (k : Int)).toNat = 10 + k by omega]
    · rw [if_neg z, h]
      by_cases y : x = 94 ∧ i < k
      · rw [if_pos y, if_pos (by omega)]
      · rw [if_neg y, if_neg (by omega)]
theorem v_cp0O_95 {n : Nat}  (m : Int) {σ : Mm} {P : Mm → Prop} (l1 : R 170 2 [some (vr 95), some (vi m), some (vi 0)] [] (sk_147 n) 0 0 σ (Qv (sk_147 n) P)) : Cv 170 [vr 95, vi m] (sk_147 n) σ P :=
  show R 170 0 [some (vr 95), some (vi m), none] [] (sk_147 n) 0 0 σ (Qv (sk_147 n) P) from wpK_R 3 [2] ((l1))
theorem v_cpO_95 {n : Nat}  (m : Int) (k : Nat) {σ : Mm} {P : Mm → Prop} (o1 : (k : Int) < m → rg (m + (k : Int))) (o2 : (k : Int) < m → (0 ≤ (m + (k : Int)) ∧ (m + (k : Int)) < 20)) (o3 : (k : Int) < m → (0 ≤ (k : Int) ∧ (k : Int) < 20)) (o4 : (k : Int) < m → ∀ t5 : Mm, t5 = si σ 95 k (gi σ 95 (m + (k : Int)).toNat) → rg ((k : Int) + 1)) (l1 : m ≤ (k : Int) → P σ) (l2 : (k : Int) < m → ∀ t5 : Mm, t5 = si σ 95 k (gi σ 95 (m + (k : Int)).toNat) → R 170 2 [some (vr 95), some (vi m), some (vi ((k : Int) + 1))] [] (sk_147 n) 0 0 t5 (Qv (sk_147 n) P)) : R 170 2 [some (vr 95), some (vi m), some (vi (k : Int))] [] (sk_147 n) 0 0 σ (Qv (sk_147 n) P) :=
  wpK_R 14 [2] (And.intro (fun q1 => And.intro (retO (by decide) (by decide) rfl) ⟨rfl, rfl, (l1 q1)⟩) (fun q1 => (have k2 := (o1 (Int.not_le.mp q1)); And.intro k2 ((have k3 := (o2 (Int.not_le.mp q1)); And.intro k3 ((have k4 := (o3 (Int.not_le.mp q1)); And.intro k4 ((have k6 := (o4 (Int.not_le.mp q1) _ rfl); And.intro k6 ((l2 (Int.not_le.mp q1) _ rfl)))))))))))
theorem c_cpO_95 {n : Nat} {σ : Mm} {P : Mm → Prop} (hP : ∀ s, CpM 95 10 σ s → P s) : Cv 170 [vr 95, vi 10] (sk_147 n) σ P := by
  refine v_cp0O_95 10 ?_
  refine loopUp (N := 10) (I := fun k => ∀ τ : Mm, (∀ x i, gi τ x i = if x = 95 ∧ i < k then gi σ 95 (10 + i) else gi σ x i) → R 170 2 [some (vr 95), some (vi 10), some (vi (k : Int))] [] (sk_147 n) 0 0 τ (Qv (sk_147 n) P)) (fun k hk ih => ?_) 0 (by omega) σ (fun x i => by rw [if_neg (by omega)])
  intro τ h
  refine v_cpO_95 10 k (by intros; first | omega | (unfold rg; omega)) (by intros; first | omega | (unfold rg; omega)) (by intros; first | omega | (unfold rg; omega)) (by intros; first | omega | (unfold rg; omega)) ?_ ?_
  · intro q; have e : k = 10 := by omega
    subst e; exact hP τ h
  · intro q t e; subst e
    refine ih (by omega) _ (fun x i => ?_)
    rw [gi_si]
    by_cases z : x = 95 ∧ i = k
    · rw [if_pos z, if_pos (by omega), h, if_neg (by omega), z.2, show ((10 : Int) + (k : Int)).toNat = 10 + k by omega]
    · rw [if_neg z, h]
      by_cases y : x = 95 ∧ i < k
      · rw [if_pos y, if_pos (by omega)]
      · rw [if_neg y, if_neg (by omega)]
theorem v_cp0O_96 {n : Nat}  (m : Int) {σ : Mm} {P : Mm → Prop} (l1 : R 170 2 [some (vr 96), some (vi m), some (vi 0)] [] (sk_147 n) 0 0 σ (Qv (sk_147 n) P)) : Cv 170 [vr 96, vi m] (sk_147 n) σ P :=
  show R 170 0 [some (vr 96), some (vi m), none] [] (sk_147 n) 0 0 σ (Qv (sk_147 n) P) from wpK_R 3 [2] ((l1))
theorem v_cpO_96 {n : Nat}  (m : Int) (k : Nat) {σ : Mm} {P : Mm → Prop} (o1 : (k : Int) < m → rg (m + (k : Int))) (o2 : (k : Int) < m → (0 ≤ (m + (k : Int)) ∧ (m + (k : Int)) < 20)) (o3 : (k : Int) < m → (0 ≤ (k : Int) ∧ (k : Int) < 20)) (o4 : (k : Int) < m → ∀ t5 : Mm, t5 = si σ 96 k (gi σ 96 (m + (k : Int)).toNat) → rg ((k : Int) + 1)) (l1 : m ≤ (k : Int) → P σ) (l2 : (k : Int) < m → ∀ t5 : Mm, t5 = si σ 96 k (gi σ 96 (m + (k : Int)).toNat) → R 170 2 [some (vr 96), some (vi m), some (vi ((k : Int) + 1))] [] (sk_147 n) 0 0 t5 (Qv (sk_147 n) P)) : R 170 2 [some (vr 96), some (vi m), some (vi (k : Int))] [] (sk_147 n) 0 0 σ (Qv (sk_147 n) P) :=
  wpK_R 14 [2] (And.intro (fun q1 => And.intro (retO (by decide) (by decide) rfl) ⟨rfl, rfl, (l1 q1)⟩) (fun q1 => (have k2 := (o1 (Int.not_le.mp q1)); And.intro k2 ((have k3 := (o2 (Int.not_le.mp q1)); And.intro k3 ((have k4 := (o3 (Int.not_le.mp q1)); And.intro k4 ((have k6 := (o4 (Int.not_le.mp q1) _ rfl); And.intro k6 ((l2 (Int.not_le.mp q1) _ rfl)))))))))))
theorem c_cpO_96 {n : Nat} {σ : Mm} {P : Mm → Prop} (hP : ∀ s, CpM 96 10 σ s → P s) : Cv 170 [vr 96, vi 10] (sk_147 n) σ P := by
  refine v_cp0O_96 10 ?_
  refine loopUp (N := 10) (I := fun k => ∀ τ : Mm, (∀ x i, gi τ x i = if x = 96 ∧ i < k then gi σ 96 (10 + i) else gi σ x i) → R 170 2 [some (vr 96), some (vi 10), some (vi (k : Int))] [] (sk_147 n) 0 0 τ (Qv (sk_147 n) P)) (fun k hk ih => ?_) 0 (by omega) σ (fun x i => by rw [if_neg (by omega)])
  intro τ h
  refine v_cpO_96 10 k (by intros; first | omega | (unfold rg; omega)) (by intros; first | omega | (unfold rg; omega)) (by intros; first | omega | (unfold rg; omega)) (by intros; first | omega | (unfold rg; omega)) ?_ ?_
  · intro q; have e : k = 10 := by omega
    subst e; exact hP τ h
  · intro q t e; subst e
    refine ih (by omega) _ (fun x i => ?_)
    rw [gi_si]
    by_cases z : x = 96 ∧ i = k
    · rw [if_pos z, if_pos (by omega), h, if_neg (by omega), z.2, show ((10 : Int) + (k : Int)).toNat = 10 + k by omega]
    · rw [if_neg z, h]
      by_cases y : x = 96 ∧ i < k
      · rw [if_pos y, if_pos (by omega)]
      · rw [if_neg y, if_neg (by omega)]
theorem v_cp0O_97 {n : Nat}  (m : Int) {σ : Mm} {P : Mm → Prop} (l1 : R 170 2 [some (vr 97), some (vi m), some (vi 0)] [] (sk_147 n) 0 0 σ (Qv (sk_147 n) P)) : Cv 170 [vr 97, vi m] (sk_147 n) σ P :=
  show R 170 0 [some (vr 97), some (vi m), none] [] (sk_147 n) 0 0 σ (Qv (sk_147 n) P) from wpK_R 3 [2] ((l1))
theorem v_cpO_97 {n : Nat}  (m : Int) (k : Nat) {σ : Mm} {P : Mm → Prop} (o1 : (k : Int) < m → rg (m + (k : Int))) (o2 : (k : Int) < m → (0 ≤ (m + (k : Int)) ∧ (m + (k : Int)) < 10)) (o3 : (k : Int) < m → (0 ≤ (k : Int) ∧ (k : Int) < 10)) (o4 : (k : Int) < m → ∀ t5 : Mm, t5 = si σ 97 k (gi σ 97 (m + (k : Int)).toNat) → rg ((k : Int) + 1)) (l1 : m ≤ (k : Int) → P σ) (l2 : (k : Int) < m → ∀ t5 : Mm, t5 = si σ 97 k (gi σ 97 (m + (k : Int)).toNat) → R 170 2 [some (vr 97), some (vi m), some (vi ((k : Int) + 1))] [] (sk_147 n) 0 0 t5 (Qv (sk_147 n) P)) : R 170 2 [some (vr 97), some (vi m), some (vi (k : Int))] [] (sk_147 n) 0 0 σ (Qv (sk_147 n) P) :=
  wpK_R 14 [2] (And.intro (fun q1 => And.intro (retO (by decide) (by decide) rfl) ⟨rfl, rfl, (l1 q1)⟩) (fun q1 => (have k2 := (o1 (Int.not_le.mp q1)); And.intro k2 ((have k3 := (o2 (Int.not_le.mp q1)); And.intro k3 ((have k4 := (o3 (Int.not_le.mp q1)); And.intro k4 ((have k6 := (o4 (Int.not_le.mp q1) _ rfl); And.intro k6 ((l2 (Int.not_le.mp q1) _ rfl)))))))))))
theorem c_cpO_97 {n : Nat} {σ : Mm} {P : Mm → Prop} (hP : ∀ s, CpM 97 5 σ s → P s) : Cv 170 [vr 97, vi 5] (sk_147 n) σ P := by
  refine v_cp0O_97 5 ?_
  refine loopUp (N := 5) (I := fun k => ∀ τ : Mm, (∀ x i, gi τ x i = if x = 97 ∧ i < k then gi σ 97 (5 + i) else gi σ x i) → R 170 2 [some (vr 97), some (vi 5), some (vi (k : Int))] [] (sk_147 n) 0 0 τ (Qv (sk_147 n) P)) (fun k hk ih => ?_) 0 (by omega) σ (fun x i => by rw [if_neg (by omega)])
  intro τ h
  refine v_cpO_97 5 k (by intros; first | omega | (unfold rg; omega)) (by intros; first | omega | (unfold rg; omega)) (by intros; first | omega | (unfold rg; omega)) (by intros; first | omega | (unfold rg; omega)) ?_ ?_
  · intro q; have e : k = 5 := by omega
    subst e; exact hP τ h
  · intro q t e; subst e
    refine ih (by omega) _ (fun x i => ?_)
    rw [gi_si]
    by_cases z : x = 97 ∧ i = k
    · rw [if_pos z, if_pos (by omega), h, if_neg (by omega), z.2, show ((5 : Int) + (k : Int)).toNat = 5 + k by omega]
    · rw [if_neg z, h]
      by_cases y : x = 97 ∧ i < k
      · rw [if_pos y, if_pos (by omega)]
      · rw [if_neg y, if_neg (by omega)]
theorem v_cp0O_98 {n : Nat}  (m : Int) {σ : Mm} {P : Mm → Prop} (l1 : R 170 2 [some (vr 98), some (vi m), some (vi 0)] [] (sk_147 n) 0 0 σ (Qv (sk_147 n) P)) : Cv 170 [vr 98, vi m] (sk_147 n) σ P :=
  show R 170 0 [some (vr 98), some (vi m), none] [] (sk_147 n) 0 0 σ (Qv (sk_147 n) P) from wpK_R 3 [2] ((l1))
theorem v_cpO_98 {n : Nat}  (m : Int) (k : Nat) {σ : Mm} {P : Mm → Prop} (o1 : (k : Int) < m → rg (m + (k : Int))) (o2 : (k : Int) < m → (0 ≤ (m + (k : Int)) ∧ (m + (k : Int)) < 10)) (o3 : (k : Int) < m → (0 ≤ (k : Int) ∧ (k : Int) < 10)) (o4 : (k : Int) < m → ∀ t5 : Mm, t5 = si σ 98 k (gi σ 98 (m + (k : Int)).toNat) → rg ((k : Int) + 1)) (l1 : m ≤ (k : Int) → P σ) (l2 : (k : Int) < m → ∀ t5 : Mm, t5 = si σ 98 k (gi σ 98 (m + (k : Int)).toNat) → R 170 2 [some (vr 98), some (vi m), some (vi ((k : Int) + 1))] [] (sk_147 n) 0 0 t5 (Qv (sk_147 n) P)) : R 170 2 [some (vr 98), some (vi m), some (vi (k : Int))] [] (sk_147 n) 0 0 σ (Qv (sk_147 n) P) :=
  wpK_R 14 [2] (And.intro (fun q1 => And.intro (retO (by decide) (by decide) rfl) ⟨rfl, rfl, (l1 q1)⟩) (fun q1 => (have k2 := (o1 (Int.not_le.mp q1)); And.intro k2 ((have k3 := (o2 (Int.not_le.mp q1)); And.intro k3 ((have k4 := (o3 (Int.not_le.mp q1)); And.intro k4 ((have k6 := (o4 (Int.not_le.mp q1) _ rfl); And.intro k6 ((l2 (Int.not_le.mp q1) _ rfl)))))))))))
theorem c_cpO_98 {n : Nat} {σ : Mm} {P : Mm → Prop} (hP : ∀ s, CpM 98 5 σ s → P s) : Cv 170 [vr 98, vi 5] (sk_147 n) σ P := by
  refine v_cp0O_98 5 ?_
  refine loopUp (N := 5) (I := fun k => ∀ τ : Mm, (∀ x i, gi τ x i = if x = 98 ∧ i < k then gi σ 98 (5 + i) else gi σ x i) → R 170 2 [some (vr 98), some (vi 5), some (vi (k : Int))] [] (sk_147 n) 0 0 τ (Qv (sk_147 n) P)) (fun k hk ih => ?_) 0 (by omega) σ (fun x i => by rw [if_neg (by omega)])
  intro τ h
  refine v_cpO_98 5 k (by intros; first | omega | (unfold rg; omega)) (by intros; first | omega | (unfold rg; omega)) (by intros; first | omega | (unfold rg; omega)) (by intros; first | omega | (unfold rg; omega)) ?_ ?_
  · intro q; have e : k = 5 := by omega
    subst e; exact hP τ h
  · intro q t e; subst e
    refine ih (by omega) _ (fun x i => ?_)
    rw [gi_si]
    by_cases z : x = 98 ∧ i = k
    · rw [if_pos z, if_pos (by omega), h, if_neg (by omega), z.2, show ((5 : Int) + (k : Int)).toNat = 5 + k by omega]
    · rw [if_neg z, h]
      by_cases y : x = 98 ∧ i < k
      · rw [if_pos y, if_pos (by omega)]
      · rw [if_neg y, if_neg (by omega)]
theorem v_cp0O_99 {n : Nat}  (m : Int) {σ : Mm} {P : Mm → Prop} (l1 : R 170 2 [some (vr 99), some (vi m), some (vi 0)] [] (sk_147 n) 0 0 σ (Qv (sk_147 n) P)) : Cv 170 [vr 99, vi m] (sk_147 n) σ P :=
  show R 170 0 [some (vr 99), some (vi m), none] [] (sk_147 n) 0 0 σ (Qv (sk_147 n) P) from wpK_R 3 [2] ((l1))
theorem v_cpO_99 {n : Nat}  (m : Int) (k : Nat) {σ : Mm} {P : Mm → Prop} (o1 : (k : Int) < m → rg (m + (k : Int))) (o2 : (k : Int) < m → (0 ≤ (m + (k : Int)) ∧ (m + (k : Int)) < 10)) (o3 : (k : Int) < m → (0 ≤ (k : Int) ∧ (k : Int) < 10)) (o4 : (k : Int) < m → ∀ t5 : Mm, t5 = si σ 99 k (gi σ 99 (m + (k : Int)).toNat) → rg ((k : Int) + 1)) (l1 : m ≤ (k : Int) → P σ) (l2 : (k : Int) < m → ∀ t5 : Mm, t5 = si σ 99 k (gi σ 99 (m + (k : Int)).toNat) → R 170 2 [some (vr 99), some (vi m), some (vi ((k : Int) + 1))] [] (sk_147 n) 0 0 t5 (Qv (sk_147 n) P)) : R 170 2 [some (vr 99), some (vi m), some (vi (k : Int))] [] (sk_147 n) 0 0 σ (Qv (sk_147 n) P) :=
  wpK_R 14 [2] (And.intro (fun q1 => And.intro (retO (by decide) (by decide) rfl) ⟨rfl, rfl, (l1 q1)⟩) (fun q1 => (have k2 := (o1 (Int.not_le.mp q1)); And.intro k2 ((have k3 := (o2 (Int.not_le.mp q1)); And.intro k3 ((have k4 := (o3 (Int.not_le.mp q1)); And.intro k4 ((have k6 := (o4 (Int.not_le.mp q1) _ rfl); And.intro k6 ((l2 (Int.not_le.mp q1) _ rfl)))))))))))
theorem c_cpO_99 {n : Nat} {σ : Mm} {P : Mm → Prop} (hP : ∀ s, CpM 99 5 σ s → P s) : Cv 170 [vr 99, vi 5] (sk_147 n) σ P := by
  refine v_cp0O_99 5 ?_
  refine loopUp (N := 5) (I := fun k => ∀ τ : Mm, (∀ x i, gi τ x i = if x = 99 ∧ i < k then gi σ 99 (5 + i) else gi σ x i) → R 170 2 [some (vr 99), some (vi 5), some (vi (k : Int))] [] (sk_147 n) 0 0 τ (Qv (sk_147 n) P)) (fun k hk ih => ?_) 0 (by omega) σ (fun x i => by rw [if_neg (by omega)])
  intro τ h
  refine v_cpO_99 5 k (by intros; first | omega | (unfold rg; omega)) (by intros; first | omega | (unfold rg; omega)) (by intros; first | omega | (unfold rg; omega)) (by intros; first | omega | (unfold rg; omega)) ?_ ?_
  · intro q; have e : k = 5 := by omega
    subst e; exact hP τ h
  · intro q t e; subst e
    refine ih (by omega) _ (fun x i => ?_)
    rw [gi_si]
    by_cases z : x = 99 ∧ i = k
    · rw [if_pos z, if_pos (by omega), h, if_neg (by omega), z.2, show ((5 : Int) + (k : Int)).toNat = 5 + k by omega]
    · rw [if_neg z, h]
      by_cases y : x = 99 ∧ i < k
      · rw [if_pos y, if_pos (by omega)]
      · rw [if_neg y, if_neg (by omega)]
theorem v_cp0O_100 {n : Nat}  (m : Int) {σ : Mm} {P : Mm → Prop} (l1 : R 170 2 [some (vr 100), some (vi m), some (vi 0)] [] (sk_147 n) 0 0 σ (Qv (sk_147 n) P)) : Cv 170 [vr 100, vi m] (sk_147 n) σ P :=
  show R 170 0 [some (vr 100), some (vi m), none] [] (sk_147 n) 0 0 σ (Qv (sk_147 n) P) from wpK_R 3 [2] ((l1))
theorem v_cpO_100 {n : Nat}  (m : Int) (k : Nat) {σ : Mm} {P : Mm → Prop} (o1 : (k : Int) < m → rg (m + (k : Int))) (o2 : (k : Int) < m → (0 ≤ (m + (k : Int)) ∧ (m + (k : Int)) < 16)) (o3 : (k : Int) < m → (0 ≤ (k : Int) ∧ (k : Int) < 16)) (o4 : (k : Int) < m → ∀ t5 : Mm, t5 = si σ 100 k (gi σ 100 (m + (k : Int)).toNat) → rg ((k : Int) + 1)) (l1 : m ≤ (k : Int) → P σ) (l2 : (k : Int) < m → ∀ t5 : Mm, t5 = si σ 100 k (gi σ 100 (m + (k : Int)).toNat) → R 170 2 [some (vr 100), some (vi m), some (vi ((k : Int) + 1))] [] (sk_147 n) 0 0 t5 (Qv (sk_147 n) P)) : R 170 2 [some (vr 100), some (vi m), some (vi (k : Int))] [] (sk_147 n) 0 0 σ (Qv (sk_147 n) P) :=
  wpK_R 14 [2] (And.intro (fun q1 => And.intro (retO (by decide) (by decide) rfl) ⟨rfl, rfl, (l1 q1)⟩) (fun q1 => (have k2 := (o1 (Int.not_le.mp q1)); And.intro k2 ((have k3 := (o2 (Int.not_le.mp q1)); And.intro k3 ((have k4 := (o3 (Int.not_le.mp q1)); And.intro k4 ((have k6 := (o4 (Int.not_le.mp q1) _ rfl); And.intro k6 ((l2 (Int.not_le.mp q1) _ rfl)))))))))))
theorem c_cpO_100 {n : Nat} {σ : Mm} {P : Mm → Prop} (hP : ∀ s, CpM 100 8 σ s → P s) : Cv 170 [vr 100, vi 8] (sk_147 n) σ P := by
  refine v_cp0O_100 8 ?_
  refine loopUp (N := 8) (I := fun k => ∀ τ : Mm, (∀ x i, gi τ x i = if x = 100 ∧ i < k then gi σ 100 (8 + i) else gi σ x i) → R 170 2 [some (vr 100), some (vi 8), some (vi (k : Int))] [] (sk_147 n) 0 0 τ (Qv (sk_147 n) P)) (fun k hk ih => ?_) 0 (by omega) σ (fun x i => by rw [if_neg (by omega)])
  intro τ h
  refine v_cpO_100 8 k (by intros; first | omega | (unfold rg; omega)) (by intros; first | omega | (unfold rg; omega)) (by intros; first | omega | (unfold rg; omega)) (by intros; first | omega | (unfold rg; omega)) ?_ ?_
  · intro q; have e : k = 8 := by omega
    subst e; exact hP τ h
  · intro q t e; subst e
    refine ih (by omega) _ (fun x i => ?_)
    rw [gi_si]
    by_cases z : x = 100 ∧ i = k
    · rw [if_pos z, if_pos (by omega), h, if_neg (by omega), z.2, show ((8 : Int) + (k : Int)).toNat = 8 + k by omega]
    · rw [if_neg z, h]
      by_cases y : x = 100 ∧ i < k
      · rw [if_pos y, if_pos (by omega)]
      · rw [if_neg y, if_neg (by omega)]
theorem v_cp0O_102 {n : Nat}  (m : Int) {σ : Mm} {P : Mm → Prop} (l1 : R 170 2 [some (vr 102), some (vi m), some (vi 0)] [] (sk_147 n) 0 0 σ (Qv (sk_147 n) P)) : Cv 170 [vr 102, vi m] (sk_147 n) σ P :=
  show R 170 0 [some (vr 102), some (vi m), none] [] (sk_147 n) 0 0 σ (Qv (sk_147 n) P) from wpK_R 3 [2] ((l1))
theorem v_cpO_102 {n : Nat}  (m : Int) (k : Nat) {σ : Mm} {P : Mm → Prop} (o1 : (k : Int) < m → rg (m + (k : Int))) (o2 : (k : Int) < m → (0 ≤ (m + (k : Int)) ∧ (m + (k : Int)) < 6)) (o3 : (k : Int) < m → (0 ≤ (k : Int) ∧ (k : Int) < 6)) (o4 : (k : Int) < m → ∀ t5 : Mm, t5 = si σ 102 k (gi σ 102 (m + (k : Int)).toNat) → rg ((k : Int) + 1)) (l1 : m ≤ (k : Int) → P σ) (l2 : (k : Int) < m → ∀ t5 : Mm, t5 = si σ 102 k (gi σ 102 (m + (k : Int)).toNat) → R 170 2 [some (vr 102), some (vi m), some (vi ((k : Int) + 1))] [] (sk_147 n) 0 0 t5 (Qv (sk_147 n) P)) : R 170 2 [some (vr 102), some (vi m), some (vi (k : Int))] [] (sk_147 n) 0 0 σ (Qv (sk_147 n) P) :=
  wpK_R 14 [2] (And.intro (fun q1 => And.intro (retO (by decide) (by decide) rfl) ⟨rfl, rfl, (l1 q1)⟩) (fun q1 => (have k2 := (o1 (Int.not_le.mp q1)); And.intro k2 ((have k3 := (o2 (Int.not_le.mp q1)); And.intro k3 ((have k4 := (o3 (Int.not_le.mp q1)); And.intro k4 ((have k6 := (o4 (Int.not_le.mp q1) _ rfl); And.intro k6 ((l2 (Int.not_le.mp q1) _ rfl)))))))))))
theorem c_cpO_102 {n : Nat} {σ : Mm} {P : Mm → Prop} (hP : ∀ s, CpM 102 3 σ s → P s) : Cv 170 [vr 102, vi 3] (sk_147 n) σ P := by
  refine v_cp0O_102 3 ?_
  refine loopUp (N := 3) (I := fun k => ∀ τ : Mm, (∀ x i, gi τ x i = if x = 102 ∧ i < k then gi σ 102 (3 + i) else gi σ x i) → R 170 2 [some (vr 102), some (vi 3), some (vi (k : Int))] [] (sk_147 n) 0 0 τ (Qv (sk_147 n) P)) (fun k hk ih => ?_) 0 (by omega) σ (fun x i => by rw [if_neg (by omega)])
  intro τ h
  refine v_cpO_102 3 k (by intros; first | omega | (unfold rg; omega)) (by intros; first | omega | (unfold rg; omega)) (by intros; first | omega | (unfold rg; omega)) (by intros; first | omega | (unfold rg; omega)) ?_ ?_
  · intro q; have e : k = 3 := by omega
    subst e; exact hP τ h
  · intro q t e; subst e
    refine ih (by omega) _ (fun x i => ?_)
    rw [gi_si]
    by_cases z : x = 102 ∧ i = k
    · rw [if_pos z, if_pos (by omega), h, if_neg (by omega), z.2, show ((3 : Int) + (k : Int)).toNat = 3 + k by omega]
    · rw [if_neg z, h]
      by_cases y : x = 102 ∧ i < k
      · rw [if_pos y, if_pos (by omega)]
      · rw [if_neg y, if_neg (by omega)]
theorem v_cp0O_103 {n : Nat}  (m : Int) {σ : Mm} {P : Mm → Prop} (l1 : R 170 2 [some (vr 103), some (vi m), some (vi 0)] [] (sk_147 n) 0 0 σ (Qv (sk_147 n) P)) : Cv 170 [vr 103, vi m] (sk_147 n) σ P :=
  show R 170 0 [some (vr 103), some (vi m), none] [] (sk_147 n) 0 0 σ (Qv (sk_147 n) P) from wpK_R 3 [2] ((l1))
theorem v_cpO_103 {n : Nat}  (m : Int) (k : Nat) {σ : Mm} {P : Mm → Prop} (o1 : (k : Int) < m → rg (m + (k : Int))) (o2 : (k : Int) < m → (0 ≤ (m + (k : Int)) ∧ (m + (k : Int)) < 6)) (o3 : (k : Int) < m → (0 ≤ (k : Int) ∧ (k : Int) < 6)) (o4 : (k : Int) < m → ∀ t5 : Mm, t5 = si σ 103 k (gi σ 103 (m + (k : Int)).toNat) → rg ((k : Int) + 1)) (l1 : m ≤ (k : Int) → P σ) (l2 : (k : Int) < m → ∀ t5 : Mm, t5 = si σ 103 k (gi σ 103 (m + (k : Int)).toNat) → R 170 2 [some (vr 103), some (vi m), some (vi ((k : Int) + 1))] [] (sk_147 n) 0 0 t5 (Qv (sk_147 n) P)) : R 170 2 [some (vr 103), some (vi m), some (vi (k : Int))] [] (sk_147 n) 0 0 σ (Qv (sk_147 n) P) :=
  wpK_R 14 [2] (And.intro (fun q1 => And.intro (retO (by decide) (by decide) rfl) ⟨rfl, rfl, (l1 q1)⟩) (fun q1 => (have k2 := (o1 (Int.not_le.mp q1)); And.intro k2 ((have k3 := (o2 (Int.not_le.mp q1)); And.intro k3 ((have k4 := (o3 (Int.not_le.mp q1)); And.intro k4 ((have k6 := (o4 (Int.not_le.mp q1) _ rfl); And.intro k6 ((l2 (Int.not_le.mp q1) _ rfl)))))))))))
theorem c_cpO_103 {n : Nat} {σ : Mm} {P : Mm → Prop} (hP : ∀ s, CpM 103 3 σ s → P s) : Cv 170 [vr 103, vi 3] (sk_147 n) σ P := by
  refine v_cp0O_103 3 ?_
  refine loopUp (N := 3) (I := fun k => ∀ τ : Mm, (∀ x i, gi τ x i = if x = 103 ∧ i < k then gi σ 103 (3 + i) else gi σ x i) → R 170 2 [some (vr 103), some (vi 3), some (vi (k : Int))] [] (sk_147 n) 0 0 τ (Qv (sk_147 n) P)) (fun k hk ih => ?_) 0 (by omega) σ (fun x i => by rw [if_neg (by omega)])
  intro τ h
  refine v_cpO_103 3 k (by intros; first | omega | (unfold rg; omega)) (by intros; first | omega | (unfold rg; omega)) (by intros; first | omega | (unfold rg; omega)) (by intros; first | omega | (unfold rg; omega)) ?_ ?_
  · intro q; have e : k = 3 := by omega
    subst e; exact hP τ h
  · intro q t e; subst e
    refine ih (by omega) _ (fun x i => ?_)
    rw [gi_si]
    by_cases z : x = 103 ∧ i = k
    · rw [if_pos z, if_pos (by omega), h, if_neg (by omega), z.2, show ((3 : Int) + (k : Int)).toNat = 3 + k by omega]
    · rw [if_neg z, h]
      by_cases y : x = 103 ∧ i < k
      · rw [if_pos y, if_pos (by omega)]
      · rw [if_neg y, if_neg (by omega)]
theorem v_cp0O_104 {n : Nat}  (m : Int) {σ : Mm} {P : Mm → Prop} (l1 : R 170 2 [some (vr 104), some (vi m), some (vi 0)] [] (sk_147 n) 0 0 σ (Qv (sk_147 n) P)) : Cv 170 [vr 104, vi m] (sk_147 n) σ P :=
  show R 170 0 [some (vr 104), some (vi m), none] [] (sk_147 n) 0 0 σ (Qv (sk_147 n) P) from wpK_R 3 [2] ((l1))
theorem v_cpO_104 {n : Nat}  (m : Int) (k : Nat) {σ : Mm} {P : Mm → Prop} (o1 : (k : Int) < m → rg (m + (k : Int))) (o2 : (k : Int) < m → (0 ≤ (m + (k : Int)) ∧ (m + (k : Int)) < 128)) (o3 : (k : Int) < m → (0 ≤ (k : Int) ∧ (k : Int) < 128)) (o4 : (k : Int) < m → ∀ t5 : Mm, t5 = si σ 104 k (gi σ 104 (m + (k : Int)).toNat) → rg ((k : Int) + 1)) (l1 : m ≤ (k : Int) → P σ) (l2 : (k : Int) < m → ∀ t5 : Mm, t5 = si σ 104 k (gi σ 104 (m + (k : Int)).toNat) → R 170 2 [some (vr 104), some (vi m), some (vi ((k : Int) + 1))] [] (sk_147 n) 0 0 t5 (Qv (sk_147 n) P)) : R 170 2 [some (vr 104), some (vi m), some (vi (k : Int))] [] (sk_147 n) 0 0 σ (Qv (sk_147 n) P) :=
  wpK_R 14 [2] (And.intro (fun q1 => And.intro (retO (by decide) (by decide) rfl) ⟨rfl, rfl, (l1 q1)⟩) (fun q1 => (have k2 := (o1 (Int.not_le.mp q1)); And.intro k2 ((have k3 := (o2 (Int.not_le.mp q1)); And.intro k3 ((have k4 := (o3 (Int.not_le.mp q1)); And.intro k4 ((have k6 := (o4 (Int.not_le.mp q1) _ rfl); And.intro k6 ((l2 (Int.not_le.mp q1) _ rfl)))))))))))
theorem c_cpO_104 {n : Nat} {σ : Mm} {P : Mm → Prop} (hP : ∀ s, CpM 104 64 σ s → P s) : Cv 170 [vr 104, vi 64] (sk_147 n) σ P := by
  refine v_cp0O_104 64 ?_
  refine loopUp (N := 64) (I := fun k => ∀ τ : Mm, (∀ x i, gi τ x i = if x = 104 ∧ i < k then gi σ 104 (64 + i) else gi σ x i) → R 170 2 [some (vr 104), some (vi 64), some (vi (k : Int))] [] (sk_147 n) 0 0 τ (Qv (sk_147 n) P)) (fun k hk ih => ?_) 0 (by omega) σ (fun x i => by rw [if_neg (by omega)])
  intro τ h
  refine v_cpO_104 64 k (by intros; first | omega | (unfold rg; omega)) (by intros; first | omega | (unfold rg; omega)) (by intros; first | omega | (unfold rg; omega)) (by intros; first | omega | (unfold rg; omega)) ?_ ?_
  · intro q; have e : k = 64 := by omega
    subst e; exact hP τ h
  · intro q t e; subst e
    refine ih (by omega) _ (fun x i => ?_)
    rw [gi_si]
    by_cases z : x = 104 ∧ i = k
    · rw [if_pos z, if_pos (by omega), h, if_neg (by omega), z.2, show ((64 : Int) + (k : Int)).toNat = 64 + k by omega]
    · rw [if_neg z, h]
      by_cases y : x = 104 ∧ i < k
      · rw [if_pos y, if_pos (by omega)]
      · rw [if_neg y, if_neg (by omega)]
theorem v_cp0O_105 {n : Nat}  (m : Int) {σ : Mm} {P : Mm → Prop} (l1 : R 170 2 [some (vr 105), some (vi m), some (vi 0)] [] (sk_147 n) 0 0 σ (Qv (sk_147 n) P)) : Cv 170 [vr 105, vi m] (sk_147 n) σ P :=
  show R 170 0 [some (vr 105), some (vi m), none] [] (sk_147 n) 0 0 σ (Qv (sk_147 n) P) from wpK_R 3 [2] ((l1))
theorem v_cpO_105 {n : Nat}  (m : Int) (k : Nat) {σ : Mm} {P : Mm → Prop} (o1 : (k : Int) < m → rg (m + (k : Int))) (o2 : (k : Int) < m → (0 ≤ (m + (k : Int)) ∧ (m + (k : Int)) < 128)) (o3 : (k : Int) < m → (0 ≤ (k : Int) ∧ (k : Int) < 128)) (o4 : (k : Int) < m → ∀ t5 : Mm, t5 = si σ 105 k (gi σ 105 (m + (k : Int)).toNat) → rg ((k : Int) + 1)) (l1 : m ≤ (k : Int) → P σ) (l2 : (k : Int) < m → ∀ t5 : Mm, t5 = si σ 105 k (gi σ 105 (m + (k : Int)).toNat) → R 170 2 [some (vr 105), some (vi m), some (vi ((k : Int) + 1))] [] (sk_147 n) 0 0 t5 (Qv (sk_147 n) P)) : R 170 2 [some (vr 105), some (vi m), some (vi (k : Int))] [] (sk_147 n) 0 0 σ (Qv (sk_147 n) P) :=
  wpK_R 14 [2] (And.intro (fun q1 => And.intro (retO (by decide) (by decide) rfl) ⟨rfl, rfl, (l1 q1)⟩) (fun q1 => (have k2 := (o1 (Int.not_le.mp q1)); And.intro k2 ((have k3 := (o2 (Int.not_le.mp q1)); And.intro k3 ((have k4 := (o3 (Int.not_le.mp q1)); And.intro k4 ((have k6 := (o4 (Int.not_le.mp q1) _ rfl); And.intro k6 ((l2 (Int.not_le.mp q1) _ rfl)))))))))))
theorem c_cpO_105 {n : Nat} {σ : Mm} {P : Mm → Prop} (hP : ∀ s, CpM 105 64 σ s → P s) : Cv 170 [vr 105, vi 64] (sk_147 n) σ P := by
  refine v_cp0O_105 64 ?_
  refine loopUp (N := 64) (I := fun k => ∀ τ : Mm, (∀ x i, gi τ x i = if x = 105 ∧ i < k then gi σ 105 (64 + i) else gi σ x i) → R 170 2 [some (vr 105), some (vi 64), some (vi (k : Int))] [] (sk_147 n) 0 0 τ (Qv (sk_147 n) P)) (fun k hk ih => ?_) 0 (by omega) σ (fun x i => by rw [if_neg (by omega)])
  intro τ h
  refine v_cpO_105 64 k (by intros; first | omega | (unfold rg; omega)) (by intros; first | omega | (unfold rg; omega)) (by intros; first | omega | (unfold rg; omega)) (by intros; first | omega | (unfold rg; omega)) ?_ ?_
  · intro q; have e : k = 64 := by omega
    subst e; exact hP τ h
  · intro q t e; subst e
    refine ih (by omega) _ (fun x i => ?_)
    rw [gi_si]
    by_cases z : x = 105 ∧ i = k
    · rw [if_pos z, if_pos (by omega), h, if_neg (by omega), z.2, show ((64 : Int) + (k : Int)).toNat = 64 + k by omega]
    · rw [if_neg z, h]
      by_cases y : x = 105 ∧ i < k
      · rw [if_pos y, if_pos (by omega)]
      · rw [if_neg y, if_neg (by omega)]
theorem v_cp0O_106 {n : Nat}  (m : Int) {σ : Mm} {P : Mm → Prop} (l1 : R 170 2 [some (vr 106), some (vi m), some (vi 0)] [] (sk_147 n) 0 0 σ (Qv (sk_147 n) P)) : Cv 170 [vr 106, vi m] (sk_147 n) σ P :=
  show R 170 0 [some (vr 106), some (vi m), none] [] (sk_147 n) 0 0 σ (Qv (sk_147 n) P) from wpK_R 3 [2] ((l1))
theorem v_cpO_106 {n : Nat}  (m : Int) (k : Nat) {σ : Mm} {P : Mm → Prop} (o1 : (k : Int) < m → rg (m + (k : Int))) (o2 : (k : Int) < m → (0 ≤ (m + (k : Int)) ∧ (m + (k : Int)) < 128)) (o3 : (k : Int) < m → (0 ≤ (k : Int) ∧ (k : Int) < 128)) (o4 : (k : Int) < m → ∀ t5 : Mm, t5 = si σ 106 k (gi σ 106 (m + (k : Int)).toNat) → rg ((k : Int) + 1)) (l1 : m ≤ (k : Int) → P σ) (l2 : (k : Int) < m → ∀ t5 : Mm, t5 = si σ 106 k (gi σ 106 (m + (k : Int)).toNat) → R 170 2 [some (vr 106), some (vi m), some (vi ((k : Int) + 1))] [] (sk_147 n) 0 0 t5 (Qv (sk_147 n) P)) : R 170 2 [some (vr 106), some (vi m), some (vi (k : Int))] [] (sk_147 n) 0 0 σ (Qv (sk_147 n) P) :=
  wpK_R 14 [2] (And.intro (fun q1 => And.intro (retO (by decide) (by decide) rfl) ⟨rfl, rfl, (l1 q1)⟩) (fun q1 => (have k2 := (o1 (Int.not_le.mp q1)); And.intro k2 ((have k3 := (o2 (Int.not_le.mp q1)); And.intro k3 ((have k4 := (o3 (Int.not_le.mp q1)); And.intro k4 ((have k6 := (o4 (Int.not_le.mp q1) _ rfl); And.intro k6 ((l2 (Int.not_le.mp q1) _ rfl)))))))))))
theorem c_cpO_106 {n : Nat} {σ : Mm} {P : Mm → Prop} (hP : ∀ s, CpM 106 64 σ s → P s) : Cv 170 [vr 106, vi 64] (sk_147 n) σ P := by
  refine v_cp0O_106 64 ?_
  refine loopUp (N := 64) (I := fun k => ∀ τ : Mm, (∀ x i, gi τ x i = if x = 106 ∧ i < k then gi σ 106 (64 + i) else gi σ x i) → R 170 2 [some (vr 106), some (vi 64), some (vi (k : Int))] [] (sk_147 n) 0 0 τ (Qv (sk_147 n) P)) (fun k hk ih => ?_) 0 (by omega) σ (fun x i => by rw [if_neg (by omega)])
  intro τ h
  refine v_cpO_106 64 k (by intros; first | omega | (unfold rg; omega)) (by intros; first | omega | (unfold rg; omega)) (by intros; first | omega | (unfold rg; omega)) (by intros; first | omega | (unfold rg; omega)) ?_ ?_
  · intro q; have e : k = 64 := by omega
    subst e; exact hP τ h
  · intro q t e; subst e
    refine ih (by omega) _ (fun x i => ?_)
    rw [gi_si]
    by_cases z : x = 106 ∧ i = k
    · rw [if_pos z, if_pos (by omega), h, if_neg (by omega), z.2, show ((64 : Int) + (k : Int)).toNat = 64 + k by omega]
    · rw [if_neg z, h]
      by_cases y : x = 106 ∧ i < k
      · rw [if_pos y, if_pos (by omega)]
      · rw [if_neg y, if_neg (by omega)]
theorem v_bnO_0 {n : Nat}   {σ : Mm} {P : Mm → Prop} (l1 : R 197 2 [some (vr 85), some (vi 0)] [] (sk_147 n) 0 0 σ (Qv (sk_147 n) P)) : Cv 197 [vr 85] (sk_147 n) σ P :=
  show R 197 0 [some (vr 85), none] [] (sk_147 n) 0 0 σ (Qv (sk_147 n) P) from wpK_R 3 [2, 43] ((l1))
theorem v_bnO_2 {n : Nat}  (k : Nat) {σ : Mm} {P : Mm → Prop} (o1 : (k : Int) < (5 : Int) → (0 ≤ (k : Int) ∧ (k : Int) < 10)) (o2 : (k : Int) < (5 : Int) → ∀ t3 : Mm, t3 = si σ 111 k (k : Int) → ∀ t4 : Mm, t4 = si t3 112 k (0 : Int) → ∀ t5 : Mm, t5 = si t4 113 k (0 : Int) → ∀ t6 : Mm, t6 = si t5 119 k (0 : Int) → rg ((k : Int) + 1)) (l1 : (5 : Int) ≤ (k : Int) → R 197 43 [some (vr 85), some (vi 0)] [] (sk_147 n) 0 0 σ (Qv (sk_147 n) P)) (l2 : (k : Int) < (5 : Int) → ∀ t3 : Mm, t3 = si σ 111 k (k : Int) → ∀ t4 : Mm, t4 = si t3 112 k (0 : Int) → ∀ t5 : Mm, t5 = si t4 113 k (0 : Int) → ∀ t6 : Mm, t6 = si t5 119 k (0 : Int) → R 197 2 [some (vr 85), some (vi ((k : Int) + 1))] [] (sk_147 n) 0 0 t6 (Qv (sk_147 n) P)) : R 197 2 [some (vr 85), some (vi (k : Int))] [] (sk_147 n) 0 0 σ (Qv (sk_147 n) P) :=
  wpK_R 26 [2, 43] (And.intro (fun q1 => (l1 q1)) (fun q1 => (have k2 := (o1 (Int.not_le.mp q1)); And.intro k2 (And.intro k2 (And.intro (Or.inl rfl) (And.intro k2 (And.intro k2 ((have k7 := (o2 (Int.not_le.mp q1) _ rfl _ rfl _ rfl _ rfl); And.intro k7 ((l2 (Int.not_le.mp q1) _ rfl _ rfl _ rfl _ rfl)))))))))))
theorem v_bnO_43 {n : Nat}  (k : Nat) {σ : Mm} {P : Mm → Prop} (o1 : (k : Int) < (10 : Int) → (0 ≤ (k : Int) ∧ (k : Int) < 20)) (o2 : (k : Int) < (10 : Int) → ∀ t13 : Mm, t13 = si σ 115 k (gi σ 94 k) → ∀ t14 : Mm, t14 = si t13 116 k (-1 : Int) → ∀ t15 : Mm, t15 = si t14 117 k (-1 : Int) → ∀ t16 : Mm, t16 = si t15 118 k (0 : Int) → rg ((k : Int) + 1)) (l1 : (10 : Int) ≤ (k : Int) → ∀ t2 : Mm, t2 = si σ 120 0 (0 : Int) → ∀ t3 : Mm, t3 = si t2 121 0 (0 : Int) → ∀ t4 : Mm, t4 = si t3 122 0 (0 : Int) → ∀ s6 : Mm, Pl t4 s6 → ∀ t8 : Mm, t8 = si s6 85 76 (0 : Int) → ∀ t9 : Mm, t9 = si t8 85 77 (-1 : Int) → ∀ t10 : Mm, t10 = si t9 85 82 (0 : Int) → ∀ t11 : Mm, t11 = si t10 85 84 (0 : Int) → P t11) (l2 : (k : Int) < (10 : Int) → ∀ t13 : Mm, t13 = si σ 115 k (gi σ 94 k) → ∀ t14 : Mm, t14 = si t13 116 k (-1 : Int) → ∀ t15 : Mm, t15 = si t14 117 k (-1 : Int) → ∀ t16 : Mm, t16 = si t15 118 k (0 : Int) → R 197 43 [some (vr 85), some (vi ((k : Int) + 1))] [] (sk_147 n) 0 0 t16 (Qv (sk_147 n) P)) : R 197 43 [some (vr 85), some (vi (k : Int))] [] (sk_147 n) 0 0 σ (Qv (sk_147 n) P) :=
  wpK_R 33 [2, 43] (And.intro (fun q1 => And.intro (by decide) (And.intro (by decide) (And.intro (by decide) ((c_plainO   (fun s6 h7 => And.intro (Or.inl rfl) (And.intro (retO (by decide) (by decide) rfl) ⟨rfl, rfl, (l1 q1 _ rfl _ rfl _ rfl s6 h7 _ rfl _ rfl _ rfl _ rfl)⟩))))))) (fun q1 => (have k12 := (o1 (Int.not_le.mp q1)); And.intro k12 (And.intro k12 (And.intro k12 (And.intro k12 (And.intro k12 ((have k17 := (o2 (Int.not_le.mp q1) _ rfl _ rfl _ rfl _ rfl); And.intro k17 ((l2 (Int.not_le.mp q1) _ rfl _ rfl _ rfl _ rfl)))))))))))
theorem bn_43O {n : Nat} {σ : Mm} {P : Mm → Prop} (hP : ∀ s, (∀ c : Nat, c < 10 → gi s 115 c = gi σ 94 c ∧ gi s 116 c = -1 ∧ gi s 117 c = -1 ∧ gi s 118 c = 0) → (gi s 120 0 = 0 ∧ gi s 121 0 = 0 ∧ gi s 122 0 = 0) → (gi s 85 76 = 0 ∧ gi s 85 77 = -1 ∧ gi s 85 82 = 0 ∧ gi s 85 84 = 0) → (∀ a i, ¬ (115 ≤ a ∧ a ≤ 118) → ¬ (120 ≤ a ∧ a ≤ 122) → ¬ (a = 85 ∧ 65 ≤ i) → gi s a i = gi σ a i) → P s) : R 197 43 [some (vr 85), some (vi 0)] [] (sk_147 n) 0 0 σ (Qv (sk_147 n) P) := by
  refine loopUp (N := 10) (I := fun k => ∀ τ : Mm, (∀ c : Nat, c < k → gi τ 115 c = gi σ 94 c ∧ gi τ 116 c = -1 ∧ gi τ 117 c = -1 ∧ gi τ 118 c = 0) → (∀ a i, ¬ (115 ≤ a ∧ a ≤ 118) → gi τ a i = gi σ a i) → R 197 43 [some (vr 85), some (vi (k : Int))] [] (sk_147 n) 0 0 τ (Qv (sk_147 n) P)) (fun k hk ih => ?_) 0 (by omega) σ (fun j hj => by omega) (fun _ _ _ => rfl)
  intro τ h1 h2
  refine v_bnO_43 k (by intros; first | omega | (unfold rg; omega)) (by intros; first | omega | (unfold rg; omega)) ?_ ?_
  · intro q t2 e2 t3 e3 t4 e4 s6 pl t8 e8 t9 e9 t10 e10 t11 e11
    have fr : ∀ a i, ¬ (120 ≤ a ∧ a ≤ 122) → ¬ (a = 85 ∧ 65 ≤ i) → gi t11 a i = gi τ a i := fun a i p q => by
      rw [e11, gi_si, if_neg (by omega), e10, gi_si, if_neg (by omega), e9, gi_si, if_neg (by omega), e8, gi_si, if_neg (by omega), pl.2.1 a i (by omega), e4, gi_si, if_neg (by omega), e3, gi_si, if_neg (by omega), e2, gi_si, if_neg (by omega)]
    have fq : ∀ a i, a ≠ 85 → gi t11 a i = gi t4 a i := fun a i p => by
      rw [e11, gi_si, if_neg (by omega), e10, gi_si, if_neg (by omega), e9, gi_si, if_neg (by omega), e8, gi_si, if_neg (by omega), pl.2.1 a i (by omega)]
    refine hP t11 (fun c hc => ?_) ⟨?_, ?_, ?_⟩ ⟨?_, ?_, ?_, ?_⟩ (fun a i p q r => by rw [fr a i q r, h2 a i p])
    · rw [fr 115 c (by omega) (by omega), fr 116 c (by omega) (by omega), fr 117 c (by omega) (by omega), fr 118 c (by omega) (by omega)]; exact h1 c (by omega)
    · rw [fq 120 0 (by omega), e4, gi_si, if_neg (by omega), e3, gi_si, if_neg (by omega), e2, gi_hit]
    · rw [fq 121 0 (by omega), e4, gi_si, if_neg (by omega), e3, gi_hit]
    · rw [fq 122 0 (by omega), e4, gi_hit]
    · rw [e11, gi_si, if_neg (by omega), e10, gi_si, if_neg (by omega), e9, gi_si, if_neg (by omega), e8, gi_hit]
    · rw [e11, gi_si, if_neg (by omega), e10, gi_si, if_neg (by omega), e9, gi_hit]
    · rw [e11, gi_si, if_neg (by omega), e10, gi_hit]
    · rw [e11, gi_hit]
  · intro q t3 e3 t4 e4 t5 e5 t6 e6
    have e0 := h2 94 k (by omega)
    subst e6 e5 e4 e3
    refine ih (by omega) _ (fun j hj => ?_) (fun a i p => by rw [gi_si, if_neg (by omega), gi_si, if_neg (by omega), gi_si, if_neg (by omega), gi_si, if_neg (by omega)]; exact h2 a i p)
    by_cases z : j = k
    · subst z; simp [gi_si, e0]
    · have := h1 j (by omega)
      simp [gi_si, z, this]
theorem bn_2O {n : Nat} {σ : Mm} {P : Mm → Prop} (hP : ∀ s, (∀ j : Nat, j < 5 → gi s 111 j = (j : Int) ∧ gi s 112 j = 0 ∧ gi s 113 j = 0 ∧ gi s 119 j = 0) → (∀ a i, ¬ (a = 111 ∨ a = 112 ∨ a = 113 ∨ a = 119) → gi s a i = gi σ a i) → R 197 43 [some (vr 85), some (vi 0)] [] (sk_147 n) 0 0 s (Qv (sk_147 n) P)) : R 197 2 [some (vr 85), some (vi 0)] [] (sk_147 n) 0 0 σ (Qv (sk_147 n) P) := by
  refine loopUp (N := 5) (I := fun k => ∀ τ : Mm, (∀ j : Nat, j < k → gi τ 111 j = (j : Int) ∧ gi τ 112 j = 0 ∧ gi τ 113 j = 0 ∧ gi τ 119 j = 0) → (∀ a i, ¬ (a = 111 ∨ a = 112 ∨ a = 113 ∨ a = 119) → gi τ a i = gi σ a i) → R 197 2 [some (vr 85), some (vi (k : Int))] [] (sk_147 n) 0 0 τ (Qv (sk_147 n) P)) (fun k hk ih => ?_) 0 (by omega) σ (fun j hj => by omega) (fun _ _ _ => rfl)
  intro τ h1 h2
  refine v_bnO_2 k (by intros; first | omega | (unfold rg; omega)) (by intros; first | omega | (unfold rg; omega)) ?_ ?_
  · intro q; exact hP τ (fun j hj => h1 j (by omega)) h2
  · intro q t3 e3 t4 e4 t5 e5 t6 e6
    subst e6 e5 e4 e3
    refine ih (by omega) _ (fun j hj => ?_) (fun a i p => by rw [gi_si, if_neg (by omega), gi_si, if_neg (by omega), gi_si, if_neg (by omega), gi_si, if_neg (by omega)]; exact h2 a i p)
    by_cases z : j = k
    · subst z; simp [gi_si]
    · have := h1 j (by omega)
      simp [gi_si, z, this]
theorem c_bnO {n : Nat} {σ : Mm} {P : Mm → Prop} (hP : ∀ s, BnM σ s → P s) : Cv 197 [vr 85] (sk_147 n) σ P := by
  refine v_bnO_0 ?_
  refine bn_2O fun s1 a1 a2 => bn_43O fun s2 b1 b2 b3 b4 => hP s2 ⟨fun j hj => ?_, fun c hc => ?_, b2, b3, fun a i p q => ?_⟩
  · rw [b4 111 j (by omega) (by omega) (by omega), b4 112 j (by omega) (by omega) (by omega), b4 113 j (by omega) (by omega) (by omega), b4 119 j (by omega) (by omega) (by omega)]; exact a1 j hj
  · rw [← a2 94 c (by omega)]; exact b1 c hc
  · rw [b4 a i (by omega) (by omega) q, a2 a i (by omega)]
theorem v_ktO_0 {n : Nat}   {σ : Mm} {P : Mm → Prop} (l1 : ∀ t1 : Mm, t1 = si σ 85 12 (gi σ 85 17) → ∀ t2 : Mm, t2 = si t1 85 13 (gi σ 85 18) → ∀ t3 : Mm, t3 = si t2 85 14 (gi σ 85 19) → ∀ t4 : Mm, t4 = si t3 85 15 (gi σ 85 20) → ∀ t5 : Mm, t5 = si t4 85 16 (gi σ 85 21) → ∀ s7 : Mm, CpM 89 1 t5 s7 → ∀ s10 : Mm, CpM 90 5 s7 s10 → ∀ s13 : Mm, CpM 91 5 s10 s13 → ∀ s16 : Mm, CpM 92 5 s13 s16 → ∀ s19 : Mm, CpM 93 10 s16 s19 → ∀ s22 : Mm, CpM 94 10 s19 s22 → ∀ s25 : Mm, CpM 95 10 s22 s25 → ∀ s28 : Mm, CpM 96 10 s25 s28 → ∀ s31 : Mm, CpM 97 5 s28 s31 → ∀ s34 : Mm, CpM 98 5 s31 s34 → ∀ s37 : Mm, CpM 99 5 s34 s37 → ∀ s40 : Mm, CpM 100 8 s37 s40 → R 171 143 [some (vr 85), some (vi 0)] [] (sk_147 n) 0 0 s40 (Qv (sk_147 n) P)) : Cv 171 [vr 85] (sk_147 n) σ P :=
  show R 171 0 [some (vr 85), none] [] (sk_147 n) 0 0 σ (Qv (sk_147 n) P) from wpK_R 71 [143] ((c_cpO_89   (fun s7 h8 => (c_cpO_90   (fun s10 h11 => (c_cpO_91   (fun s13 h14 => (c_cpO_92   (fun s16 h17 => (c_cpO_93   (fun s19 h20 => (c_cpO_94   (fun s22 h23 => (c_cpO_95   (fun s25 h26 => (c_cpO_96   (fun s28 h29 => (c_cpO_97   (fun s31 h32 => (c_cpO_98   (fun s34 h35 => (c_cpO_99   (fun s37 h38 => (c_cpO_100   (fun s40 h41 => (l1 _ rfl _ rfl _ rfl _ rfl _ rfl s7 h8 s10 h11 s13 h14 s16 h17 s19 h20 s22 h23 s25 h26 s28 h29 s31 h32 s34 h35 s37 h38 s40 h41))))))))))))))))))))))))))
theorem v_ktO {n : Nat}  (k : Nat) {σ : Mm} {P : Mm → Prop} (o1 : (k : Int) < (3 : Int) → rg ((3 : Int) + (k : Int))) (o2 : (k : Int) < (3 : Int) → (0 ≤ ((3 : Int) + (k : Int)) ∧ ((3 : Int) + (k : Int)) < 6)) (o3 : (k : Int) < (3 : Int) → (0 ≤ (k : Int) ∧ (k : Int) < 6)) (o4 : (k : Int) < (3 : Int) → ((gi σ 101 (3 + k)) = 0 ∨ (gi σ 101 (3 + k)) = 1)) (o5 : (k : Int) < (3 : Int) → ∀ t23 : Mm, t23 = si σ 101 k (gi σ 101 (3 + k)) → rg ((k : Int) + 1)) (l1 : (3 : Int) ≤ (k : Int) → ∀ s3 : Mm, CpM 102 3 σ s3 → ∀ s6 : Mm, CpM 103 3 s3 s6 → ∀ s9 : Mm, CpM 104 64 s6 s9 → ∀ s12 : Mm, CpM 105 64 s9 s12 → ∀ s15 : Mm, CpM 106 64 s12 s15 → ∀ s18 : Mm, BnM s15 s18 → P s18) (l2 : (k : Int) < (3 : Int) → ∀ t23 : Mm, t23 = si σ 101 k (gi σ 101 (3 + k)) → R 171 143 [some (vr 85), some (vi ((k : Int) + 1))] [] (sk_147 n) 0 0 t23 (Qv (sk_147 n) P)) : R 171 143 [some (vr 85), some (vi (k : Int))] [] (sk_147 n) 0 0 σ (Qv (sk_147 n) P) :=
  wpK_R 26 [143] (And.intro (fun q1 => (c_cpO_102   (fun s3 h4 => (c_cpO_103   (fun s6 h7 => (c_cpO_104   (fun s9 h10 => (c_cpO_105   (fun s12 h13 => (c_cpO_106   (fun s15 h16 => (c_bnO   (fun s18 h19 => And.intro (retO (by decide) (by decide) rfl) ⟨rfl, rfl, (l1 q1 s3 h4 s6 h7 s9 h10 s12 h13 s15 h16 s18 h19)⟩))))))))))))) (fun q1 => (have k20 := (o1 (Int.not_le.mp q1)); And.intro k20 ((have k21 := (o2 (Int.not_le.mp q1)); And.intro k21 ((have k22 := (o3 (Int.not_le.mp q1)); And.intro k22 ((have k24 := (o4 (Int.not_le.mp q1)); And.intro k24 ((have k25 := (o5 (Int.not_le.mp q1) _ rfl); And.intro k25 ((l2 (Int.not_le.mp q1) _ rfl)))))))))))))
theorem c_ktO {n : Nat} {σ : Mm} {P : Mm → Prop} (hb : ∀ w : Nat, w < 3 → gi σ 101 (3 + w) = 0 ∨ gi σ 101 (3 + w) = 1) (hP : ∀ s, KtM σ s → P s) : Cv 171 [vr 85] (sk_147 n) σ P := by
  refine v_ktO_0 ?_
  intro t1 e1 t2 e2 t3 e3 t4 e4 t5 e5
  have f1 : ∀ a i, ¬ (a = 85 ∧ (12 ≤ i ∧ i ≤ 16)) → gi t5 a i = gi σ a i := fun a i p => by
    rw [e5, gi_si, if_neg (by omega), e4, gi_si, if_neg (by omega), e3, gi_si, if_neg (by omega), e2, gi_si, if_neg (by omega), e1, gi_si, if_neg (by omega)]
  have f2 : ∀ i, gi t5 85 (12 + i) = if i < 5 then gi σ 85 (17 + i) else gi σ 85 (12 + i) := fun i => by
    by_cases z : i < 5
    · rw [if_pos z]
      have : i = 0 ∨ i = 1 ∨ i = 2 ∨ i = 3 ∨ i = 4 := by omega
      subst e5 e4 e3 e2 e1
      rcases this with rfl | rfl | rfl | rfl | rfl <;> simp [gi_si]
    · rw [if_neg z]; exact f1 85 (12 + i) (by omega)
  intro s1 c1 s2 c2 s3 c3 s4 c4 s5 c5 s6 c6 s7 c7 s8 c8 s9 c9 s10 c10 s11 c11 s12 c12
  have u0 : CpU 88 t5 t5 := fun x i => by rw [if_neg (by omega)]
  have u12 : CpU 100 t5 s12 := CpU_s (CpU_s (CpU_s (CpU_s (CpU_s (CpU_s (CpU_s (CpU_s (CpU_s (CpU_s (CpU_s (CpU_s u0 (by omega) rfl (by decide) c1) (by omega) rfl (by decide) c2) (by omega) rfl (by decide) c3) (by omega) rfl (by decide) c4) (by omega) rfl (by decide) c5) (by omega) rfl (by decide) c6) (by omega) rfl (by decide) c7) (by omega) rfl (by decide) c8) (by omega) rfl (by decide) c9) (by omega) rfl (by decide) c10) (by omega) rfl (by decide) c11) (by omega) rfl (by decide) c12
  clear c1 c2 c3 c4 c5 c6 c7 c8 c9 c10 c11 c12 u0
  have hb' : ∀ w : Nat, w < 3 → gi s12 101 (3 + w) = 0 ∨ gi s12 101 (3 + w) = 1 := fun w hw => by rw [u12, if_neg (by omega), f1 101 _ (by omega)]; exact hb w hw
  refine loopUp (N := 3) (I := fun k => ∀ τ : Mm, (∀ x i, gi τ x i = if x = 101 ∧ i < k then gi s12 101 (3 + i) else gi s12 x i) → R 171 143 [some (vr 85), some (vi (k : Int))] [] (sk_147 n) 0 0 τ (Qv (sk_147 n) P)) (fun k hk ih => ?_) 0 (by omega) s12 (fun x i => by rw [if_neg (by omega)])
  intro τ h
  refine v_ktO k (by intros; first | omega | (unfold rg; omega) | (rw [h, if_neg (by omega)]; exact hb' k (by omega))) (by intros; first | omega | (unfold rg; omega) | (rw [h, if_neg (by omega)]; exact hb' k (by omega))) (by intros; first | omega | (unfold rg; omega) | (rw [h, if_neg (by omega)]; exact hb' k (by omega))) (by intros; first | omega | (unfold rg; omega) | (rw [h, if_neg (by omega)]; exact hb' k (by omega))) (by intros; first | omega | (unfold rg; omega) | (rw [h, if_neg (by omega)]; exact hb' k (by omega))) ?_ ?_
  · intro q v1 d1 v2 d2 v3 d3 v4 d4 v5 d5 s hs
    have e : k = 3 := by omega
    subst e
    have u13 : CpU 101 t5 τ := CpU_s u12 (by omega) rfl (by decide) h
    exact hP s ⟨t5, v5, f2, f1, CpU_s (CpU_s (CpU_s (CpU_s (CpU_s u13 (by omega) rfl (by decide) d1) (by omega) rfl (by decide) d2) (by omega) rfl (by decide) d3) (by omega) rfl (by decide) d4) (by omega) rfl (by decide) d5, hs⟩
  · intro q t e; subst e
    refine ih (by omega) _ (fun x i => ?_)
    rw [gi_si]
    by_cases z : x = 101 ∧ i = k
    · rw [if_pos z, if_pos (by omega), h, if_neg (by omega), z.2]
    · rw [if_neg z, h]
      by_cases y : x = 101 ∧ i < k
      · rw [if_pos y, if_pos (by omega)]
      · rw [if_neg y, if_neg (by omega)]
