/-! QUERIES: names -/
abbrev Bi (xs : Nat → Int) (N n k1 : Nat) (a1 : List PV) (k2 : Nat) (a2 : List PV) (σ : Mm) : Prop := Ci k1 a1 (shF n) σ (fun v s => Ci k2 a2 (shF n) s (fun v' s' => v' = v ∧ Rel xs N s'))
def plF (f : Nat → Int) (z : Int) : Nat → Int
  | 0 => -1
  | m + 1 => if plF f z m ≠ -1 then plF f z m else if f m = z then (m : Int) else -1
theorem plF_none {f : Nat → Int} {z : Int} {k : Nat} (h : plF f z k = -1) (e : f k ≠ z) : plF f z (k + 1) = -1 := by simp [plF, h, e]
theorem plF_here {f : Nat → Int} {z : Int} {k : Nat} (h : plF f z k = -1) (e : f k = z) : ∀ m, k < m → plF f z m = (k : Int) := by
  intro m
  induction m with
  | zero => intro h; omega
  | succ m ih =>
    intro hm
    by_cases hk : k = m
    · subst hk; simp [plF, h, e]
    · have := ih (by omega)
      simp only [plF, this]
      rw [if_pos (by omega)]
theorem plF_cong {f g : Nat → Int} {z : Int} : ∀ m, (∀ i, i < m → f i = g i) → plF f z m = plF g z m := by
  intro m
  induction m with
  | zero => intro _; rfl
  | succ m ih => intro h; simp only [plF]; rw [ih (fun i hi => h i (by omega)), h m (by omega)]
theorem plF_in {f : Nat → Int} {z : Int} : ∀ m : Nat, -1 ≤ plF f z m ∧ plF f z m < (m : Int) ∧ (0 ≤ plF f z m → f (plF f z m).toNat = z) := by
  intro m
  induction m with
  | zero => exact ⟨by show (-1 : Int) ≤ -1; omega, by show (-1 : Int) < 0; omega, fun h => absurd (show (0 : Int) ≤ -1 from h) (by omega)⟩
  | succ m ih =>
    simp only [plF]
    by_cases h : plF f z m = -1
    · rw [if_neg (by omega)]
      by_cases e : f m = z
      · rw [if_pos e]; exact ⟨by omega, by omega, fun _ => by rw [Int.toNat_natCast]; exact e⟩
      · rw [if_neg e]; exact ⟨by omega, by omega, fun h => absurd h (by omega)⟩
    · rw [if_pos h]; exact ⟨ih.1, by omega, ih.2.2⟩
theorem v_pl_6_0 {n : Nat}  (z : Int) (m : Int) {σ : Mm} {P : Int → Mm → Prop} (l1 : R 102 2 [some (vi z), some (vr 6), some (vi m), some (vi 0)] [] (shF n) 0 0 σ (Qi (shF n) P)) : Ci 102 [vi z, vr 6, vi m] (shF n) σ P :=
  show R 102 0 [some (vi z), some (vr 6), some (vi m), none] [] (shF n) 0 0 σ (Qi (shF n) P) from wpK_R 3 [2] ((l1))
theorem v_pl_6_2 {n : Nat}  (z : Int) (m : Int) (k : Nat) {σ : Mm} {P : Int → Mm → Prop} (o1 : (k : Int) < m → (k : Int) < (5 : Int) → (0 ≤ (k : Int) ∧ (k : Int) < 5)) (o2 : (k : Int) < m → (k : Int) < (5 : Int) → (gi σ 6 k) ≠ z → rg ((k : Int) + 1)) (l1 : m ≤ (k : Int) → P (-1) σ) (l2 : (k : Int) < m → (5 : Int) ≤ (k : Int) → P (-1) σ) (l3 : (k : Int) < m → (k : Int) < (5 : Int) → (gi σ 6 k) ≠ z → R 102 2 [some (vi z), some (vr 6), some (vi m), some (vi ((k : Int) + 1))] [] (shF n) 0 0 σ (Qi (shF n) P)) (l4 : (k : Int) < m → (k : Int) < (5 : Int) → (gi σ 6 k) = z → P (k : Int) σ) : R 102 2 [some (vi z), some (vr 6), some (vi m), some (vi (k : Int))] [] (shF n) 0 0 σ (Qi (shF n) P) :=
  wpK_R 15 [2] (And.intro (fun q1 => And.intro ret0 ⟨rfl, _, rfl, (l1 q1)⟩) (fun q1 => And.intro (fun q2 => And.intro ret0 ⟨rfl, _, rfl, (l2 (Int.not_le.mp q1) q2)⟩) (fun q2 => (have k3 := (o1 (Int.not_le.mp q1) (Int.not_le.mp q2)); And.intro k3 (And.intro (fun q4 => (have k5 := (o2 (Int.not_le.mp q1) (Int.not_le.mp q2) q4); And.intro k5 ((l3 (Int.not_le.mp q1) (Int.not_le.mp q2) q4)))) (fun q4 => And.intro ret0 ⟨rfl, _, rfl, (l4 (Int.not_le.mp q1) (Int.not_le.mp q2) (Classical.not_not.mp q4))⟩))))))
theorem c_pl_6 {n : Nat} {z m : Int} {σ : Mm} {P : Int → Mm → Prop} (hm : 0 ≤ m ∧ m ≤ 5) (hP : P (plF (gi σ 6) z m.toNat) σ) : Ci 102 [vi z, vr 6, vi m] (shF n) σ P := by
  refine v_pl_6_0 z m ?_
  refine loopUp (N := m.toNat) (I := fun k => plF (gi σ 6) z k = -1 → R 102 2 [some (vi z), some (vr 6), some (vi m), some (vi (k : Int))] [] (shF n) 0 0 σ (Qi (shF n) P)) (fun k hk ih => ?_) 0 (by omega) rfl
  intro hn
  refine v_pl_6_2 z m k (by intros; first | omega | (unfold rg; omega) | (subst_vars; simp only [gi_si, gi_sl, gl_si, gl_sl]; first | omega | (unfold rg; omega))) (by intros; first | omega | (unfold rg; omega) | (subst_vars; simp only [gi_si, gi_sl, gl_si, gl_sl]; first | omega | (unfold rg; omega))) ?_ ?_ ?_ ?_
  · intro h
    rw [show m.toNat = k by omega, hn] at hP
    exact hP
  · intro h1 h2
    omega
  · intro h1 h2 h3
    exact ih (by omega) (plF_none hn h3)
  · intro h1 h2 h3
    rw [plF_here hn h3 _ (by omega)] at hP
    exact hP
theorem v_pl_9_0 {n : Nat}  (z : Int) (m : Int) {σ : Mm} {P : Int → Mm → Prop} (l1 : R 102 2 [some (vi z), some (vr 9), some (vi m), some (vi 0)] [] (shF n) 0 0 σ (Qi (shF n) P)) : Ci 102 [vi z, vr 9, vi m] (shF n) σ P :=
  show R 102 0 [some (vi z), some (vr 9), some (vi m), none] [] (shF n) 0 0 σ (Qi (shF n) P) from wpK_R 3 [2] ((l1))
theorem v_pl_9_2 {n : Nat}  (z : Int) (m : Int) (k : Nat) {σ : Mm} {P : Int → Mm → Prop} (o1 : (k : Int) < m → (k : Int) < (10 : Int) → (0 ≤ (k : Int) ∧ (k : Int) < 10)) (o2 : (k : Int) < m → (k : Int) < (10 : Int) → (gi σ 9 k) ≠ z → rg ((k : Int) + 1)) (l1 : m ≤ (k : Int) → P (-1) σ) (l2 : (k : Int) < m → (10 : Int) ≤ (k : Int) → P (-1) σ) (l3 : (k : Int) < m → (k : Int) < (10 : Int) → (gi σ 9 k) ≠ z → R 102 2 [some (vi z), some (vr 9), some (vi m), some (vi ((k : Int) + 1))] [] (shF n) 0 0 σ (Qi (shF n) P)) (l4 : (k : Int) < m → (k : Int) < (10 : Int) → (gi σ 9 k) = z → P (k : Int) σ) : R 102 2 [some (vi z), some (vr 9), some (vi m), some (vi (k : Int))] [] (shF n) 0 0 σ (Qi (shF n) P) :=
  wpK_R 15 [2] (And.intro (fun q1 => And.intro ret0 ⟨rfl, _, rfl, (l1 q1)⟩) (fun q1 => And.intro (fun q2 => And.intro ret0 ⟨rfl, _, rfl, (l2 (Int.not_le.mp q1) q2)⟩) (fun q2 => (have k3 := (o1 (Int.not_le.mp q1) (Int.not_le.mp q2)); And.intro k3 (And.intro (fun q4 => (have k5 := (o2 (Int.not_le.mp q1) (Int.not_le.mp q2) q4); And.intro k5 ((l3 (Int.not_le.mp q1) (Int.not_le.mp q2) q4)))) (fun q4 => And.intro ret0 ⟨rfl, _, rfl, (l4 (Int.not_le.mp q1) (Int.not_le.mp q2) (Classical.not_not.mp q4))⟩))))))
theorem c_pl_9 {n : Nat} {z m : Int} {σ : Mm} {P : Int → Mm → Prop} (hm : 0 ≤ m ∧ m ≤ 10) (hP : P (plF (gi σ 9) z m.toNat) σ) : Ci 102 [vi z, vr 9, vi m] (shF n) σ P := by
  refine v_pl_9_0 z m ?_
  refine loopUp (N := m.toNat) (I := fun k => plF (gi σ 9) z k = -1 → R 102 2 [some (vi z), some (vr 9), some (vi m), some (vi (k : Int))] [] (shF n) 0 0 σ (Qi (shF n) P)) (fun k hk ih => ?_) 0 (by omega) rfl
  intro hn
  refine v_pl_9_2 z m k (by intros; first | omega | (unfold rg; omega) | (subst_vars; simp only [gi_si, gi_sl, gl_si, gl_sl]; first | omega | (unfold rg; omega))) (by intros; first | omega | (unfold rg; omega) | (subst_vars; simp only [gi_si, gi_sl, gl_si, gl_sl]; first | omega | (unfold rg; omega))) ?_ ?_ ?_ ?_
  · intro h
    rw [show m.toNat = k by omega, hn] at hP
    exact hP
  · intro h1 h2
    omega
  · intro h1 h2 h3
    exact ih (by omega) (plF_none hn h3)
  · intro h1 h2 h3
    rw [plF_here hn h3 _ (by omega)] at hP
    exact hP
theorem v_pl_13_0 {n : Nat}  (z : Int) (m : Int) {σ : Mm} {P : Int → Mm → Prop} (l1 : R 102 2 [some (vi z), some (vr 13), some (vi m), some (vi 0)] [] (shF n) 0 0 σ (Qi (shF n) P)) : Ci 102 [vi z, vr 13, vi m] (shF n) σ P :=
  show R 102 0 [some (vi z), some (vr 13), some (vi m), none] [] (shF n) 0 0 σ (Qi (shF n) P) from wpK_R 3 [2] ((l1))
theorem v_pl_13_2 {n : Nat}  (z : Int) (m : Int) (k : Nat) {σ : Mm} {P : Int → Mm → Prop} (o1 : (k : Int) < m → (k : Int) < (5 : Int) → (0 ≤ (k : Int) ∧ (k : Int) < 5)) (o2 : (k : Int) < m → (k : Int) < (5 : Int) → (gi σ 13 k) ≠ z → rg ((k : Int) + 1)) (l1 : m ≤ (k : Int) → P (-1) σ) (l2 : (k : Int) < m → (5 : Int) ≤ (k : Int) → P (-1) σ) (l3 : (k : Int) < m → (k : Int) < (5 : Int) → (gi σ 13 k) ≠ z → R 102 2 [some (vi z), some (vr 13), some (vi m), some (vi ((k : Int) + 1))] [] (shF n) 0 0 σ (Qi (shF n) P)) (l4 : (k : Int) < m → (k : Int) < (5 : Int) → (gi σ 13 k) = z → P (k : Int) σ) : R 102 2 [some (vi z), some (vr 13), some (vi m), some (vi (k : Int))] [] (shF n) 0 0 σ (Qi (shF n) P) :=
  wpK_R 15 [2] (And.intro (fun q1 => And.intro ret0 ⟨rfl, _, rfl, (l1 q1)⟩) (fun q1 => And.intro (fun q2 => And.intro ret0 ⟨rfl, _, rfl, (l2 (Int.not_le.mp q1) q2)⟩) (fun q2 => (have k3 := (o1 (Int.not_le.mp q1) (Int.not_le.mp q2)); And.intro k3 (And.intro (fun q4 => (have k5 := (o2 (Int.not_le.mp q1) (Int.not_le.mp q2) q4); And.intro k5 ((l3 (Int.not_le.mp q1) (Int.not_le.mp q2) q4)))) (fun q4 => And.intro ret0 ⟨rfl, _, rfl, (l4 (Int.not_le.mp q1) (Int.not_le.mp q2) (Classical.not_not.mp q4))⟩))))))
theorem c_pl_13 {n : Nat} {z m : Int} {σ : Mm} {P : Int → Mm → Prop} (hm : 0 ≤ m ∧ m ≤ 5) (hP : P (plF (gi σ 13) z m.toNat) σ) : Ci 102 [vi z, vr 13, vi m] (shF n) σ P := by
  refine v_pl_13_0 z m ?_
  refine loopUp (N := m.toNat) (I := fun k => plF (gi σ 13) z k = -1 → R 102 2 [some (vi z), some (vr 13), some (vi m), some (vi (k : Int))] [] (shF n) 0 0 σ (Qi (shF n) P)) (fun k hk ih => ?_) 0 (by omega) rfl
  intro hn
  refine v_pl_13_2 z m k (by intros; first | omega | (unfold rg; omega) | (subst_vars; simp only [gi_si, gi_sl, gl_si, gl_sl]; first | omega | (unfold rg; omega))) (by intros; first | omega | (unfold rg; omega) | (subst_vars; simp only [gi_si, gi_sl, gl_si, gl_sl]; first | omega | (unfold rg; omega))) ?_ ?_ ?_ ?_
  · intro h
    rw [show m.toNat = k by omega, hn] at hP
    exact hP
  · intro h1 h2
    omega
  · intro h1 h2 h3
    exact ih (by omega) (plF_none hn h3)
  · intro h1 h2 h3
    rw [plF_here hn h3 _ (by omega)] at hP
    exact hP
theorem v_pl_22_0 {n : Nat}  (z : Int) (m : Int) {σ : Mm} {P : Int → Mm → Prop} (l1 : R 102 2 [some (vi z), some (vr 22), some (vi m), some (vi 0)] [] (shF n) 0 0 σ (Qi (shF n) P)) : Ci 102 [vi z, vr 22, vi m] (shF n) σ P :=
  show R 102 0 [some (vi z), some (vr 22), some (vi m), none] [] (shF n) 0 0 σ (Qi (shF n) P) from wpK_R 3 [2] ((l1))
theorem v_pl_22_2 {n : Nat}  (z : Int) (m : Int) (k : Nat) {σ : Mm} {P : Int → Mm → Prop} (o1 : (k : Int) < m → (k : Int) < (5 : Int) → (0 ≤ (k : Int) ∧ (k : Int) < 5)) (o2 : (k : Int) < m → (k : Int) < (5 : Int) → (gi σ 22 k) ≠ z → rg ((k : Int) + 1)) (l1 : m ≤ (k : Int) → P (-1) σ) (l2 : (k : Int) < m → (5 : Int) ≤ (k : Int) → P (-1) σ) (l3 : (k : Int) < m → (k : Int) < (5 : Int) → (gi σ 22 k) ≠ z → R 102 2 [some (vi z), some (vr 22), some (vi m), some (vi ((k : Int) + 1))] [] (shF n) 0 0 σ (Qi (shF n) P)) (l4 : (k : Int) < m → (k : Int) < (5 : Int) → (gi σ 22 k) = z → P (k : Int) σ) : R 102 2 [some (vi z), some (vr 22), some (vi m), some (vi (k : Int))] [] (shF n) 0 0 σ (Qi (shF n) P) :=
  wpK_R 15 [2] (And.intro (fun q1 => And.intro ret0 ⟨rfl, _, rfl, (l1 q1)⟩) (fun q1 => And.intro (fun q2 => And.intro ret0 ⟨rfl, _, rfl, (l2 (Int.not_le.mp q1) q2)⟩) (fun q2 => (have k3 := (o1 (Int.not_le.mp q1) (Int.not_le.mp q2)); And.intro k3 (And.intro (fun q4 => (have k5 := (o2 (Int.not_le.mp q1) (Int.not_le.mp q2) q4); And.intro k5 ((l3 (Int.not_le.mp q1) (Int.not_le.mp q2) q4)))) (fun q4 => And.intro ret0 ⟨rfl, _, rfl, (l4 (Int.not_le.mp q1) (Int.not_le.mp q2) (Classical.not_not.mp q4))⟩))))))
theorem c_pl_22 {n : Nat} {z m : Int} {σ : Mm} {P : Int → Mm → Prop} (hm : 0 ≤ m ∧ m ≤ 5) (hP : P (plF (gi σ 22) z m.toNat) σ) : Ci 102 [vi z, vr 22, vi m] (shF n) σ P := by
  refine v_pl_22_0 z m ?_
  refine loopUp (N := m.toNat) (I := fun k => plF (gi σ 22) z k = -1 → R 102 2 [some (vi z), some (vr 22), some (vi m), some (vi (k : Int))] [] (shF n) 0 0 σ (Qi (shF n) P)) (fun k hk ih => ?_) 0 (by omega) rfl
  intro hn
  refine v_pl_22_2 z m k (by intros; first | omega | (unfold rg; omega) | (subst_vars; simp only [gi_si, gi_sl, gl_si, gl_sl]; first | omega | (unfold rg; omega))) (by intros; first | omega | (unfold rg; omega) | (subst_vars; simp only [gi_si, gi_sl, gl_si, gl_sl]; first | omega | (unfold rg; omega))) ?_ ?_ ?_ ?_
  · intro h
    rw [show m.toNat = k by omega, hn] at hP
    exact hP
  · intro h1 h2
    omega
  · intro h1 h2 h3
    exact ih (by omega) (plF_none hn h3)
  · intro h1 h2 h3
    rw [plF_here hn h3 _ (by omega)] at hP
    exact hP
theorem v_pl_25_0 {n : Nat}  (z : Int) (m : Int) {σ : Mm} {P : Int → Mm → Prop} (l1 : R 102 2 [some (vi z), some (vr 25), some (vi m), some (vi 0)] [] (shF n) 0 0 σ (Qi (shF n) P)) : Ci 102 [vi z, vr 25, vi m] (shF n) σ P :=
  show R 102 0 [some (vi z), some (vr 25), some (vi m), none] [] (shF n) 0 0 σ (Qi (shF n) P) from wpK_R 3 [2] ((l1))
theorem v_pl_25_2 {n : Nat}  (z : Int) (m : Int) (k : Nat) {σ : Mm} {P : Int → Mm → Prop} (o1 : (k : Int) < m → (k : Int) < (10 : Int) → (0 ≤ (k : Int) ∧ (k : Int) < 10)) (o2 : (k : Int) < m → (k : Int) < (10 : Int) → (gi σ 25 k) ≠ z → rg ((k : Int) + 1)) (l1 : m ≤ (k : Int) → P (-1) σ) (l2 : (k : Int) < m → (10 : Int) ≤ (k : Int) → P (-1) σ) (l3 : (k : Int) < m → (k : Int) < (10 : Int) → (gi σ 25 k) ≠ z → R 102 2 [some (vi z), some (vr 25), some (vi m), some (vi ((k : Int) + 1))] [] (shF n) 0 0 σ (Qi (shF n) P)) (l4 : (k : Int) < m → (k : Int) < (10 : Int) → (gi σ 25 k) = z → P (k : Int) σ) : R 102 2 [some (vi z), some (vr 25), some (vi m), some (vi (k : Int))] [] (shF n) 0 0 σ (Qi (shF n) P) :=
  wpK_R 15 [2] (And.intro (fun q1 => And.intro ret0 ⟨rfl, _, rfl, (l1 q1)⟩) (fun q1 => And.intro (fun q2 => And.intro ret0 ⟨rfl, _, rfl, (l2 (Int.not_le.mp q1) q2)⟩) (fun q2 => (have k3 := (o1 (Int.not_le.mp q1) (Int.not_le.mp q2)); And.intro k3 (And.intro (fun q4 => (have k5 := (o2 (Int.not_le.mp q1) (Int.not_le.mp q2) q4); And.intro k5 ((l3 (Int.not_le.mp q1) (Int.not_le.mp q2) q4)))) (fun q4 => And.intro ret0 ⟨rfl, _, rfl, (l4 (Int.not_le.mp q1) (Int.not_le.mp q2) (Classical.not_not.mp q4))⟩))))))
theorem c_pl_25 {n : Nat} {z m : Int} {σ : Mm} {P : Int → Mm → Prop} (hm : 0 ≤ m ∧ m ≤ 10) (hP : P (plF (gi σ 25) z m.toNat) σ) : Ci 102 [vi z, vr 25, vi m] (shF n) σ P := by
  refine v_pl_25_0 z m ?_
  refine loopUp (N := m.toNat) (I := fun k => plF (gi σ 25) z k = -1 → R 102 2 [some (vi z), some (vr 25), some (vi m), some (vi (k : Int))] [] (shF n) 0 0 σ (Qi (shF n) P)) (fun k hk ih => ?_) 0 (by omega) rfl
  intro hn
  refine v_pl_25_2 z m k (by intros; first | omega | (unfold rg; omega) | (subst_vars; simp only [gi_si, gi_sl, gl_si, gl_sl]; first | omega | (unfold rg; omega))) (by intros; first | omega | (unfold rg; omega) | (subst_vars; simp only [gi_si, gi_sl, gl_si, gl_sl]; first | omega | (unfold rg; omega))) ?_ ?_ ?_ ?_
  · intro h
    rw [show m.toNat = k by omega, hn] at hP
    exact hP
  · intro h1 h2
    omega
  · intro h1 h2 h3
    exact ih (by omega) (plF_none hn h3)
  · intro h1 h2 h3
    rw [plF_here hn h3 _ (by omega)] at hP
    exact hP
theorem v_pl_29_0 {n : Nat}  (z : Int) (m : Int) {σ : Mm} {P : Int → Mm → Prop} (l1 : R 102 2 [some (vi z), some (vr 29), some (vi m), some (vi 0)] [] (shF n) 0 0 σ (Qi (shF n) P)) : Ci 102 [vi z, vr 29, vi m] (shF n) σ P :=
  show R 102 0 [some (vi z), some (vr 29), some (vi m), none] [] (shF n) 0 0 σ (Qi (shF n) P) from wpK_R 3 [2] ((l1))
theorem v_pl_29_2 {n : Nat}  (z : Int) (m : Int) (k : Nat) {σ : Mm} {P : Int → Mm → Prop} (o1 : (k : Int) < m → (k : Int) < (5 : Int) → (0 ≤ (k : Int) ∧ (k : Int) < 5)) (o2 : (k : Int) < m → (k : Int) < (5 : Int) → (gi σ 29 k) ≠ z → rg ((k : Int) + 1)) (l1 : m ≤ (k : Int) → P (-1) σ) (l2 : (k : Int) < m → (5 : Int) ≤ (k : Int) → P (-1) σ) (l3 : (k : Int) < m → (k : Int) < (5 : Int) → (gi σ 29 k) ≠ z → R 102 2 [some (vi z), some (vr 29), some (vi m), some (vi ((k : Int) + 1))] [] (shF n) 0 0 σ (Qi (shF n) P)) (l4 : (k : Int) < m → (k : Int) < (5 : Int) → (gi σ 29 k) = z → P (k : Int) σ) : R 102 2 [some (vi z), some (vr 29), some (vi m), some (vi (k : Int))] [] (shF n) 0 0 σ (Qi (shF n) P) :=
  wpK_R 15 [2] (And.intro (fun q1 => And.intro ret0 ⟨rfl, _, rfl, (l1 q1)⟩) (fun q1 => And.intro (fun q2 => And.intro ret0 ⟨rfl, _, rfl, (l2 (Int.not_le.mp q1) q2)⟩) (fun q2 => (have k3 := (o1 (Int.not_le.mp q1) (Int.not_le.mp q2)); And.intro k3 (And.intro (fun q4 => (have k5 := (o2 (Int.not_le.mp q1) (Int.not_le.mp q2) q4); And.intro k5 ((l3 (Int.not_le.mp q1) (Int.not_le.mp q2) q4)))) (fun q4 => And.intro ret0 ⟨rfl, _, rfl, (l4 (Int.not_le.mp q1) (Int.not_le.mp q2) (Classical.not_not.mp q4))⟩))))))
theorem c_pl_29 {n : Nat} {z m : Int} {σ : Mm} {P : Int → Mm → Prop} (hm : 0 ≤ m ∧ m ≤ 5) (hP : P (plF (gi σ 29) z m.toNat) σ) : Ci 102 [vi z, vr 29, vi m] (shF n) σ P := by
  refine v_pl_29_0 z m ?_
  refine loopUp (N := m.toNat) (I := fun k => plF (gi σ 29) z k = -1 → R 102 2 [some (vi z), some (vr 29), some (vi m), some (vi (k : Int))] [] (shF n) 0 0 σ (Qi (shF n) P)) (fun k hk ih => ?_) 0 (by omega) rfl
  intro hn
  refine v_pl_29_2 z m k (by intros; first | omega | (unfold rg; omega) | (subst_vars; simp only [gi_si, gi_sl, gl_si, gl_sl]; first | omega | (unfold rg; omega))) (by intros; first | omega | (unfold rg; omega) | (subst_vars; simp only [gi_si, gi_sl, gl_si, gl_sl]; first | omega | (unfold rg; omega))) ?_ ?_ ?_ ?_
  · intro h
    rw [show m.toNat = k by omega, hn] at hP
    exact hP
  · intro h1 h2
    omega
  · intro h1 h2 h3
    exact ih (by omega) (plF_none hn h3)
  · intro h1 h2 h3
    rw [plF_here hn h3 _ (by omega)] at hP
    exact hP
theorem v_pl_38_0 {n : Nat}  (z : Int) (m : Int) {σ : Mm} {P : Int → Mm → Prop} (l1 : R 102 2 [some (vi z), some (vr 38), some (vi m), some (vi 0)] [] (shF n) 0 0 σ (Qi (shF n) P)) : Ci 102 [vi z, vr 38, vi m] (shF n) σ P :=
  show R 102 0 [some (vi z), some (vr 38), some (vi m), none] [] (shF n) 0 0 σ (Qi (shF n) P) from wpK_R 3 [2] ((l1))
theorem v_pl_38_2 {n : Nat}  (z : Int) (m : Int) (k : Nat) {σ : Mm} {P : Int → Mm → Prop} (o1 : (k : Int) < m → (k : Int) < (19 : Int) → (0 ≤ (k : Int) ∧ (k : Int) < 19)) (o2 : (k : Int) < m → (k : Int) < (19 : Int) → (gi σ 38 k) ≠ z → rg ((k : Int) + 1)) (l1 : m ≤ (k : Int) → P (-1) σ) (l2 : (k : Int) < m → (19 : Int) ≤ (k : Int) → P (-1) σ) (l3 : (k : Int) < m → (k : Int) < (19 : Int) → (gi σ 38 k) ≠ z → R 102 2 [some (vi z), some (vr 38), some (vi m), some (vi ((k : Int) + 1))] [] (shF n) 0 0 σ (Qi (shF n) P)) (l4 : (k : Int) < m → (k : Int) < (19 : Int) → (gi σ 38 k) = z → P (k : Int) σ) : R 102 2 [some (vi z), some (vr 38), some (vi m), some (vi (k : Int))] [] (shF n) 0 0 σ (Qi (shF n) P) :=
  wpK_R 15 [2] (And.intro (fun q1 => And.intro ret0 ⟨rfl, _, rfl, (l1 q1)⟩) (fun q1 => And.intro (fun q2 => And.intro ret0 ⟨rfl, _, rfl, (l2 (Int.not_le.mp q1) q2)⟩) (fun q2 => (have k3 := (o1 (Int.not_le.mp q1) (Int.not_le.mp q2)); And.intro k3 (And.intro (fun q4 => (have k5 := (o2 (Int.not_le.mp q1) (Int.not_le.mp q2) q4); And.intro k5 ((l3 (Int.not_le.mp q1) (Int.not_le.mp q2) q4)))) (fun q4 => And.intro ret0 ⟨rfl, _, rfl, (l4 (Int.not_le.mp q1) (Int.not_le.mp q2) (Classical.not_not.mp q4))⟩))))))
theorem c_pl_38 {n : Nat} {z m : Int} {σ : Mm} {P : Int → Mm → Prop} (hm : 0 ≤ m ∧ m ≤ 19) (hP : P (plF (gi σ 38) z m.toNat) σ) : Ci 102 [vi z, vr 38, vi m] (shF n) σ P := by
  refine v_pl_38_0 z m ?_
  refine loopUp (N := m.toNat) (I := fun k => plF (gi σ 38) z k = -1 → R 102 2 [some (vi z), some (vr 38), some (vi m), some (vi (k : Int))] [] (shF n) 0 0 σ (Qi (shF n) P)) (fun k hk ih => ?_) 0 (by omega) rfl
  intro hn
  refine v_pl_38_2 z m k (by intros; first | omega | (unfold rg; omega) | (subst_vars; simp only [gi_si, gi_sl, gl_si, gl_sl]; first | omega | (unfold rg; omega))) (by intros; first | omega | (unfold rg; omega) | (subst_vars; simp only [gi_si, gi_sl, gl_si, gl_sl]; first | omega | (unfold rg; omega))) ?_ ?_ ?_ ?_
  · intro h
    rw [show m.toNat = k by omega, hn] at hP
    exact hP
  · intro h1 h2
    omega
  · intro h1 h2 h3
    exact ih (by omega) (plF_none hn h3)
  · intro h1 h2 h3
    rw [plF_here hn h3 _ (by omega)] at hP
    exact hP
theorem v_sk_90_0 {n : Nat}  (fr : Nat) (m : Int) (z : Int) {σ : Mm} {P : Int → Mm → Prop} (l1 : R 172 3 [some (vr 90), some (vi (fr : Int)), some (vi m), some (vi z), some (vi 0)] [] (shF n) 0 0 σ (Qi (shF n) P)) : Ci 172 [vr 90, vi (fr : Int), vi m, vi z] (shF n) σ P :=
  show R 172 0 [some (vr 90), some (vi (fr : Int)), some (vi m), some (vi z), none] [] (shF n) 0 0 σ (Qi (shF n) P) from wpK_R 3 [3] ((l1))
theorem v_sk_90_3 {n : Nat}  (fr : Nat) (m : Int) (z : Int) (k : Nat) {σ : Mm} {P : Int → Mm → Prop} (o1 : (k : Int) < m → rg ((fr : Int) + (k : Int))) (o2 : (k : Int) < m → (0 ≤ ((fr : Int) + (k : Int)) ∧ ((fr : Int) + (k : Int)) < 10)) (o3 : (k : Int) < m → (gi σ 90 (fr + k)) ≠ z → rg ((k : Int) + 1)) (l1 : m ≤ (k : Int) → P (-1) σ) (l2 : (k : Int) < m → (gi σ 90 (fr + k)) ≠ z → R 172 3 [some (vr 90), some (vi (fr : Int)), some (vi m), some (vi z), some (vi ((k : Int) + 1))] [] (shF n) 0 0 σ (Qi (shF n) P)) (l3 : (k : Int) < m → (gi σ 90 (fr + k)) = z → P (k : Int) σ) : R 172 3 [some (vr 90), some (vi (fr : Int)), some (vi m), some (vi z), some (vi (k : Int))] [] (shF n) 0 0 σ (Qi (shF n) P) :=
  wpK_R 13 [3] (And.intro (fun q1 => And.intro ret0 ⟨rfl, _, rfl, (l1 q1)⟩) (fun q1 => (have k2 := (o1 (Int.not_le.mp q1)); And.intro k2 ((have k3 := (o2 (Int.not_le.mp q1)); And.intro k3 (And.intro (fun q4 => (have k5 := (o3 (Int.not_le.mp q1) q4); And.intro k5 ((l2 (Int.not_le.mp q1) q4)))) (fun q4 => And.intro ret0 ⟨rfl, _, rfl, (l3 (Int.not_le.mp q1) (Classical.not_not.mp q4))⟩)))))))
theorem c_sk_90 {n : Nat} {fr z m : Int} {σ : Mm} {P : Int → Mm → Prop} (hm : 0 ≤ m ∧ 0 ≤ fr ∧ fr + m ≤ 10) (hP : P (plF (fun k => gi σ 90 (fr.toNat + k)) z m.toNat) σ) : Ci 172 [vr 90, vi fr, vi m, vi z] (shF n) σ P := by
  obtain ⟨fr, rfl⟩ := Int.eq_ofNat_of_zero_le hm.2.1
  simp only [Int.toNat_natCast] at hP
  refine v_sk_90_0 fr m z ?_
  refine loopUp (N := m.toNat) (I := fun k => plF (fun k => gi σ 90 (fr + k)) z k = -1 → R 172 3 [some (vr 90), some (vi (fr : Int)), some (vi m), some (vi z), some (vi (k : Int))] [] (shF n) 0 0 σ (Qi (shF n) P)) (fun k hk ih => ?_) 0 (by omega) rfl
  intro hn
  refine v_sk_90_3 fr m z k (by intros; first | omega | (unfold rg; omega) | (subst_vars; simp only [gi_si, gi_sl, gl_si, gl_sl]; first | omega | (unfold rg; omega))) (by intros; first | omega | (unfold rg; omega) | (subst_vars; simp only [gi_si, gi_sl, gl_si, gl_sl]; first | omega | (unfold rg; omega))) (by intros; first | omega | (unfold rg; omega) | (subst_vars; simp only [gi_si, gi_sl, gl_si, gl_sl]; first | omega | (unfold rg; omega))) ?_ ?_ ?_
  · intro h
    rw [show m.toNat = k by omega, hn] at hP
    exact hP
  · intro h1 h2
    exact ih (by omega) (plF_none hn h2)
  · intro h1 h2
    rw [plF_here hn h2 _ (by omega)] at hP
    exact hP
theorem v_sk_93_0 {n : Nat}  (fr : Nat) (m : Int) (z : Int) {σ : Mm} {P : Int → Mm → Prop} (l1 : R 172 3 [some (vr 93), some (vi (fr : Int)), some (vi m), some (vi z), some (vi 0)] [] (shF n) 0 0 σ (Qi (shF n) P)) : Ci 172 [vr 93, vi (fr : Int), vi m, vi z] (shF n) σ P :=
  show R 172 0 [some (vr 93), some (vi (fr : Int)), some (vi m), some (vi z), none] [] (shF n) 0 0 σ (Qi (shF n) P) from wpK_R 3 [3] ((l1))
theorem v_sk_93_3 {n : Nat}  (fr : Nat) (m : Int) (z : Int) (k : Nat) {σ : Mm} {P : Int → Mm → Prop} (o1 : (k : Int) < m → rg ((fr : Int) + (k : Int))) (o2 : (k : Int) < m → (0 ≤ ((fr : Int) + (k : Int)) ∧ ((fr : Int) + (k : Int)) < 20)) (o3 : (k : Int) < m → (gi σ 93 (fr + k)) ≠ z → rg ((k : Int) + 1)) (l1 : m ≤ (k : Int) → P (-1) σ) (l2 : (k : Int) < m → (gi σ 93 (fr + k)) ≠ z → R 172 3 [some (vr 93), some (vi (fr : Int)), some (vi m), some (vi z), some (vi ((k : Int) + 1))] [] (shF n) 0 0 σ (Qi (shF n) P)) (l3 : (k : Int) < m → (gi σ 93 (fr + k)) = z → P (k : Int) σ) : R 172 3 [some (vr 93), some (vi (fr : Int)), some (vi m), some (vi z), some (vi (k : Int))] [] (shF n) 0 0 σ (Qi (shF n) P) :=
  wpK_R 13 [3] (And.intro (fun q1 => And.intro ret0 ⟨rfl, _, rfl, (l1 q1)⟩) (fun q1 => (have k2 := (o1 (Int.not_le.mp q1)); And.intro k2 ((have k3 := (o2 (Int.not_le.mp q1)); And.intro k3 (And.intro (fun q4 => (have k5 := (o3 (Int.not_le.mp q1) q4); And.intro k5 ((l2 (Int.not_le.mp q1) q4)))) (fun q4 => And.intro ret0 ⟨rfl, _, rfl, (l3 (Int.not_le.mp q1) (Classical.not_not.mp q4))⟩)))))))
theorem c_sk_93 {n : Nat} {fr z m : Int} {σ : Mm} {P : Int → Mm → Prop} (hm : 0 ≤ m ∧ 0 ≤ fr ∧ fr + m ≤ 20) (hP : P (plF (fun k => gi σ 93 (fr.toNat + k)) z m.toNat) σ) : Ci 172 [vr 93, vi fr, vi m, vi z] (shF n) σ P := by
  obtain ⟨fr, rfl⟩ := Int.eq_ofNat_of_zero_le hm.2.1
  simp only [Int.toNat_natCast] at hP
  refine v_sk_93_0 fr m z ?_
  refine loopUp (N := m.toNat) (I := fun k => plF (fun k => gi σ 93 (fr + k)) z k = -1 → R 172 3 [some (vr 93), some (vi (fr : Int)), some (vi m), some (vi z), some (vi (k : Int))] [] (shF n) 0 0 σ (Qi (shF n) P)) (fun k hk ih => ?_) 0 (by omega) rfl
  intro hn
  refine v_sk_93_3 fr m z k (by intros; first | omega | (unfold rg; omega) | (subst_vars; simp only [gi_si, gi_sl, gl_si, gl_sl]; first | omega | (unfold rg; omega))) (by intros; first | omega | (unfold rg; omega) | (subst_vars; simp only [gi_si, gi_sl, gl_si, gl_sl]; first | omega | (unfold rg; omega))) (by intros; first | omega | (unfold rg; omega) | (subst_vars; simp only [gi_si, gi_sl, gl_si, gl_sl]; first | omega | (unfold rg; omega))) ?_ ?_ ?_
  · intro h
    rw [show m.toNat = k by omega, hn] at hP
    exact hP
  · intro h1 h2
    exact ih (by omega) (plF_none hn h2)
  · intro h1 h2
    rw [plF_here hn h2 _ (by omega)] at hP
    exact hP
theorem v_sk_97_0 {n : Nat}  (fr : Nat) (m : Int) (z : Int) {σ : Mm} {P : Int → Mm → Prop} (l1 : R 172 3 [some (vr 97), some (vi (fr : Int)), some (vi m), some (vi z), some (vi 0)] [] (shF n) 0 0 σ (Qi (shF n) P)) : Ci 172 [vr 97, vi (fr : Int), vi m, vi z] (shF n) σ P :=
  show R 172 0 [some (vr 97), some (vi (fr : Int)), some (vi m), some (vi z), none] [] (shF n) 0 0 σ (Qi (shF n) P) from wpK_R 3 [3] ((l1))
theorem v_sk_97_3 {n : Nat}  (fr : Nat) (m : Int) (z : Int) (k : Nat) {σ : Mm} {P : Int → Mm → Prop} (o1 : (k : Int) < m → rg ((fr : Int) + (k : Int))) (o2 : (k : Int) < m → (0 ≤ ((fr : Int) + (k : Int)) ∧ ((fr : Int) + (k : Int)) < 10)) (o3 : (k : Int) < m → (gi σ 97 (fr + k)) ≠ z → rg ((k : Int) + 1)) (l1 : m ≤ (k : Int) → P (-1) σ) (l2 : (k : Int) < m → (gi σ 97 (fr + k)) ≠ z → R 172 3 [some (vr 97), some (vi (fr : Int)), some (vi m), some (vi z), some (vi ((k : Int) + 1))] [] (shF n) 0 0 σ (Qi (shF n) P)) (l3 : (k : Int) < m → (gi σ 97 (fr + k)) = z → P (k : Int) σ) : R 172 3 [some (vr 97), some (vi (fr : Int)), some (vi m), some (vi z), some (vi (k : Int))] [] (shF n) 0 0 σ (Qi (shF n) P) :=
  wpK_R 13 [3] (And.intro (fun q1 => And.intro ret0 ⟨rfl, _, rfl, (l1 q1)⟩) (fun q1 => (have k2 := (o1 (Int.not_le.mp q1)); And.intro k2 ((have k3 := (o2 (Int.not_le.mp q1)); And.intro k3 (And.intro (fun q4 => (have k5 := (o3 (Int.not_le.mp q1) q4); And.intro k5 ((l2 (Int.not_le.mp q1) q4)))) (fun q4 => And.intro ret0 ⟨rfl, _, rfl, (l3 (Int.not_le.mp q1) (Classical.not_not.mp q4))⟩)))))))
theorem c_sk_97 {n : Nat} {fr z m : Int} {σ : Mm} {P : Int → Mm → Prop} (hm : 0 ≤ m ∧ 0 ≤ fr ∧ fr + m ≤ 10) (hP : P (plF (fun k => gi σ 97 (fr.toNat + k)) z m.toNat) σ) : Ci 172 [vr 97, vi fr, vi m, vi z] (shF n) σ P := by
  obtain ⟨fr, rfl⟩ := Int.eq_ofNat_of_zero_le hm.2.1
  simp only [Int.toNat_natCast] at hP
  refine v_sk_97_0 fr m z ?_
  refine loopUp (N := m.toNat) (I := fun k => plF (fun k => gi σ 97 (fr + k)) z k = -1 → R 172 3 [some (vr 97), some (vi (fr : Int)), some (vi m), some (vi z), some (vi (k : Int))] [] (shF n) 0 0 σ (Qi (shF n) P)) (fun k hk ih => ?_) 0 (by omega) rfl
  intro hn
  refine v_sk_97_3 fr m z k (by intros; first | omega | (unfold rg; omega) | (subst_vars; simp only [gi_si, gi_sl, gl_si, gl_sl]; first | omega | (unfold rg; omega))) (by intros; first | omega | (unfold rg; omega) | (subst_vars; simp only [gi_si, gi_sl, gl_si, gl_sl]; first | omega | (unfold rg; omega))) (by intros; first | omega | (unfold rg; omega) | (subst_vars; simp only [gi_si, gi_sl, gl_si, gl_sl]; first | omega | (unfold rg; omega))) ?_ ?_ ?_
  · intro h
    rw [show m.toNat = k by omega, hn] at hP
    exact hP
  · intro h1 h2
    exact ih (by omega) (plF_none hn h2)
  · intro h1 h2
    rw [plF_here hn h2 _ (by omega)] at hP
    exact hP
theorem Rel_th {xs : Nat → Int} {N : Nat} {σ : Mm} {v : Int} (h : Rel xs N σ) : Rel xs N (si σ 85 2 v) := Rel_M h fun a i p => by
  rw [gi_si, if_neg]
  rintro ⟨rfl, rfl⟩
  rcases p with p | p
  · omega
  · simp [kpM, hT, hf] at p
theorem Rel_cnt {xs : Nat → Int} {N : Nat} {σ : Mm} (h : Rel xs N σ) : (0 ≤ gi σ 5 0 ∧ gi σ 5 0 ≤ 5) ∧ (0 ≤ gi σ 5 1 ∧ gi σ 5 1 ≤ 10) ∧ (0 ≤ gi σ 5 2 ∧ gi σ 5 2 ≤ 5) ∧ (0 ≤ gi σ 5 3 ∧ gi σ 5 3 ≤ 8) ∧ (0 ≤ gi σ 5 5 ∧ gi σ 5 5 ≤ 9) ∧ gi σ 85 12 = gi σ 5 0 ∧ gi σ 85 13 = gi σ 5 1 ∧ gi σ 85 14 = gi σ 5 2 ∧ gi σ 85 15 = gi σ 5 3 ∧ gi σ 85 16 = gi σ 17 0 ∧ gi σ 89 0 = gi σ 5 5 := by
  obtain ⟨r1, r2, r3, r4, r5, r6, r7, r8, r9, r10, r11, r12, r13, r14⟩ := h
  exact ⟨r5.1, r5.2.1, r5.2.2.1, r5.2.2.2.1, r5.2.2.2.2.1, r6.1.1, r6.1.2.1, r6.1.2.2.1, r6.1.2.2.2.1, r6.1.2.2.2.2.1, r6.1.2.2.2.2.2⟩
theorem Rel_j {xs : Nat → Int} {N : Nat} {σ : Mm} (h : Rel xs N σ) {j : Nat} (hj : (j : Int) < gi σ 5 0) : (gi σ 90 j = gi σ 6 j ∧ gi σ 91 j = gi σ 7 j ∧ gi σ 92 j = gi σ 8 j) ∧ (0 ≤ gi σ 7 j ∧ gi σ 7 j ≤ 99) ∧ (0 ≤ gi σ 8 j ∧ gi σ 8 j ≤ 9) ∧ (0 ≤ gi σ 45 j ∧ gi σ 45 j < gi σ 5 0) := by
  obtain ⟨r1, r2, r3, r4, r5, r6, r7, r8, r9, r10, r11, r12, r13, r14⟩ := h
  refine ⟨r6.2.1 j hj, (r5.2.2.2.2.2.1 j hj).1, (r5.2.2.2.2.2.1 j hj).2, ?_⟩
  have := r7.1.2.1 j hj
  rw [wv_at (by omega)] at this
  exact this
theorem Rel_c {xs : Nat → Int} {N : Nat} {σ : Mm} (h : Rel xs N σ) {c : Nat} (hc : (c : Int) < gi σ 5 1) : (gi σ 93 c = gi σ 9 c ∧ gi σ 94 c = gi σ 10 c ∧ gi σ 95 c = gi σ 11 c ∧ gi σ 96 c = gi σ 12 c) ∧ (0 ≤ gi σ 11 c ∧ gi σ 11 c ≤ 99) ∧ (0 ≤ gi σ 12 c ∧ gi σ 12 c ≤ 99) ∧ gi σ 115 c = gi σ 41 c ∧ (0 ≤ gi σ 41 c ∧ gi σ 41 c < gi σ 5 0) := by
  obtain ⟨r1, r2, r3, r4, r5, r6, r7, r8, r9, r10, r11, r12, r13, r14⟩ := h
  refine ⟨r6.2.2.1 c hc, (r5.2.2.2.2.2.2.1 c hc).2.1, (r5.2.2.2.2.2.2.1 c hc).2.2, ?_, ?_⟩
  · have := r9.2.1 c hc
    rw [wv_at (by omega)] at this
    simpa using this
  · have := r7.1.1 c hc
    rw [wv_at (by omega)] at this
    exact this
theorem Rel_k {xs : Nat → Int} {N : Nat} {σ : Mm} (h : Rel xs N σ) {k : Nat} (hk : (k : Int) < gi σ 5 2) : (gi σ 97 k = gi σ 13 k ∧ gi σ 98 k = gi σ 14 k ∧ gi σ 99 k = gi σ 15 k) ∧ (0 ≤ gi σ 14 k ∧ gi σ 14 k ≤ 127) ∧ (0 ≤ gi σ 15 k ∧ gi σ 15 k ≤ 9) := by
  obtain ⟨r1, r2, r3, r4, r5, r6, r7, r8, r9, r10, r11, r12, r13, r14⟩ := h
  exact ⟨r6.2.2.2.1 k hk, (r5.2.2.2.2.2.2.2.1 k hk).1, (r5.2.2.2.2.2.2.2.1 k hk).2⟩
theorem Rel_w10 {xs : Nat → Int} {N : Nat} {σ : Mm} (h : Rel xs N σ) {c : Nat} (hc : c < 10) : gi σ 116 c = gi σ 42 c ∧ gi σ 117 c = gi σ 43 c ∧ gi σ 118 c = gi σ 44 c ∧ (gi σ 43 c = -1 ∨ gi σ 43 c = 0 ∨ gi σ 43 c = 1) ∧ (gi σ 42 c = -1 ∨ gi σ 42 c = 0 ∨ gi σ 42 c = 1) ∧ (gi σ 43 c = -1 ↔ gi σ 42 c = -1) ∧ (0 ≤ gi σ 44 c ∧ gi σ 44 c ≤ 3) ∧ (gi σ 5 1 ≤ (c : Int) → gi σ 43 c = -1) ∧ (gi σ 43 c = -1 → gi σ 44 c = 0) := by
  obtain ⟨r1, r2, r3, r4, r5, r6, r7, r8, r9, r10, r11, r12, r13, r14⟩ := h
  have q := r9.2.2.1 c hc
  have w4 := r7.2.2.2.2.1 c hc
  have w11 := r7.2.2.2.2.2.2.2.2.2.2.2.1 c hc
  have w5 := r7.2.2.2.2.2.1 c
  have w3 := r7.2.2.2.1 c hc
  simp only [wv_at (show 2 ≤ 8 by omega), wv_at (show 3 ≤ 8 by omega), wv_at (show 4 ≤ 8 by omega), Nat.mul_zero, Nat.zero_add, Nat.reduceAdd] at q w4 w11 w5 w3
  exact ⟨q.1, q.2.1, q.2.2, w4.1, w4.2.1, w4.2.2, w11, fun z => w5 z hc, w3⟩
theorem Rel_w5 {xs : Nat → Int} {N : Nat} {σ : Mm} (h : Rel xs N σ) {j : Nat} (hj : j < 5) : gi σ 111 j = gi σ 45 j ∧ gi σ 112 j = b2i (bi (gi σ 40 1) j) ∧ gi σ 113 j = gi σ 46 j ∧ gi σ 119 j = gi σ 48 j ∧ (0 ≤ gi σ 46 j ∧ gi σ 46 j ≤ 8) ∧ (0 ≤ gi σ 48 j ∧ gi σ 48 j < 1024) := by
  obtain ⟨r1, r2, r3, r4, r5, r6, r7, r8, r9, r10, r11, r12, r13, r14⟩ := h
  have q := r9.2.2.2.1 j hj
  have s3 := r7.1.2.2.1 j hj
  have w8 := r7.2.2.2.2.2.2.2.2.1 j hj
  simp only [wv_at (show 0 ≤ 8 by omega), wv_at (show 5 ≤ 8 by omega), wv_at (show 6 ≤ 8 by omega), wv_at (show 8 ≤ 8 by omega), Nat.mul_zero, Nat.zero_add, Nat.reduceAdd, Nat.add_zero] at q s3 w8
  exact ⟨q.1, q.2.1, q.2.2.1, q.2.2.2, s3, w8.1, w8.2.1⟩
theorem Rel_w0 {xs : Nat → Int} {N : Nat} {σ : Mm} (h : Rel xs N σ) : gi σ 120 0 = gi σ 40 0 ∧ (0 ≤ gi σ 40 0 ∧ gi σ 40 0 ≤ 9900) ∧ (∀ i, i < 40 → gi σ 114 i = gi σ 47 i) ∧ gi σ 121 0 = cnt (fun x => decide (gi σ 44 x = 2)) 10 ∧ gi σ 122 0 = cnt (fun x => decide (gi σ 44 x = 3)) 10 ∧ sumF (gi σ 46) 5 = cnt (fun x => decide (gi σ 44 x = 1)) 10 := by
  obtain ⟨r1, r2, r3, r4, r5, r6, r7, r8, r9, r10, r11, r12, r13, r14⟩ := h
  have s5 := r7.1.2.2.2.2
  have q1 := r9.1
  have q5 := r9.2.2.2.2.1
  have q6 := r9.2.2.2.2.2.1
  have q7 := r9.2.2.2.2.2.2
  have w10 := r7.2.2.2.2.2.2.2.2.2.2.1
  have e6 : wv σ 40 6 = gi σ 46 := funext fun i => by rw [wv_at (by omega)]
  rw [e6] at w10
  simp only [wv_at (show 0 ≤ 8 by omega), wv_at (show 4 ≤ 8 by omega), wv_at (show 7 ≤ 8 by omega), Nat.mul_zero, Nat.zero_add, Nat.reduceAdd, Nat.add_zero] at s5 q1 q5 q6 q7 w10
  exact ⟨q1, ⟨s5, r10⟩, q5, q6, q7, w10⟩
theorem v_named {n : Nat}  (w : Int) (l : Int) {σ : Mm} {P : Int → Mm → Prop} (o1 : w = 0 → (0 ≤ (gi σ 5 0) ∧ (gi σ 5 0) ≤ 5)) (o2 : w = 1 → (0 ≤ (gi σ 5 1) ∧ (gi σ 5 1) ≤ 10)) (o3 : w = 2 → (0 ≤ (gi σ 5 2) ∧ (gi σ 5 2) ≤ 5)) (l1 : (w < 0 ∨ 2 < w) → P (-1) σ) (l2 : w = 0 → ∀ x2 : Int, x2 = plF (gi σ 6) l ((gi σ 5 0)).toNat → P x2 σ) (l3 : w = 1 → ∀ x3 : Int, x3 = plF (gi σ 9) l ((gi σ 5 1)).toNat → P x3 σ) (l4 : w = 2 → ∀ x4 : Int, x4 = plF (gi σ 13) l ((gi σ 5 2)).toNat → P x4 σ) : Ci 101 [vr 3, vi w, vi l] (shF n) σ P :=
  show R 101 0 [some (vr 3), some (vi w), some (vi l)] [] (shF n) 0 0 σ (Qi (shF n) P) from wpK_R 11 [] (And.intro (fun q1 => And.intro ret0 ⟨rfl, _, rfl, (l1 q1)⟩) (And.intro (fun q1 => (c_pl_6  (o1 q1) (And.intro ret0 ⟨rfl, _, rfl, (l2 q1 _ rfl)⟩))) (And.intro (fun q1 => (c_pl_9  (o2 q1) (And.intro ret0 ⟨rfl, _, rfl, (l3 q1 _ rfl)⟩))) (And.intro (fun q1 => (c_pl_13  (o3 q1) (And.intro ret0 ⟨rfl, _, rfl, (l4 q1 _ rfl)⟩))) (trivial)))))
theorem v_namedR {n : Nat}  (w : Int) (l : Int) {σ : Mm} {P : Int → Mm → Prop} (o1 : ∀ t1 : Mm, t1 = si σ 85 2 (0 : Int) → w ≠ (0 : Int) → w ≠ (1 : Int) → w = (2 : Int) → (0 ≤ (gi σ 85 14) ∧ 0 ≤ (0 : Int) ∧ (0 : Int) + (gi σ 85 14) ≤ 10)) (o2 : ∀ t1 : Mm, t1 = si σ 85 2 (0 : Int) → w ≠ (0 : Int) → w = (1 : Int) → (0 ≤ (gi σ 85 13) ∧ 0 ≤ (0 : Int) ∧ (0 : Int) + (gi σ 85 13) ≤ 20)) (o3 : ∀ t1 : Mm, t1 = si σ 85 2 (0 : Int) → w = (0 : Int) → (0 ≤ (gi σ 85 12) ∧ 0 ≤ (0 : Int) ∧ (0 : Int) + (gi σ 85 12) ≤ 10)) (l1 : ∀ t1 : Mm, t1 = si σ 85 2 (0 : Int) → w ≠ (0 : Int) → w ≠ (1 : Int) → w ≠ (2 : Int) → P (-1) t1) (l2 : ∀ t1 : Mm, t1 = si σ 85 2 (0 : Int) → w ≠ (0 : Int) → w ≠ (1 : Int) → w = (2 : Int) → ∀ x5 : Int, x5 = plF (fun k => gi t1 97 (0 + k)) l ((gi σ 85 14)).toNat → P x5 t1) (l3 : ∀ t1 : Mm, t1 = si σ 85 2 (0 : Int) → w ≠ (0 : Int) → w = (1 : Int) → ∀ x6 : Int, x6 = plF (fun k => gi t1 93 (0 + k)) l ((gi σ 85 13)).toNat → P x6 t1) (l4 : ∀ t1 : Mm, t1 = si σ 85 2 (0 : Int) → w = (0 : Int) → ∀ x7 : Int, x7 = plF (fun k => gi t1 90 (0 + k)) l ((gi σ 85 12)).toNat → P x7 t1) : Ci 182 [vr 85, vi w, vi l] (shF n) σ P :=
  show R 182 0 [some (vr 85), some (vi w), some (vi l)] [] (shF n) 0 0 σ (Qi (shF n) P) from wpK_R 20 [] (And.intro (fun q2 => And.intro (fun q3 => And.intro (fun q4 => And.intro ret0 ⟨rfl, _, rfl, (l1 _ rfl q2 q3 q4)⟩) (fun q4 => (c_sk_97  (o1 _ rfl q2 q3 (Classical.not_not.mp q4)) (And.intro ret0 ⟨rfl, _, rfl, (l2 _ rfl q2 q3 (Classical.not_not.mp q4) _ rfl)⟩)))) (fun q3 => (c_sk_93  (o2 _ rfl q2 (Classical.not_not.mp q3)) (And.intro ret0 ⟨rfl, _, rfl, (l3 _ rfl q2 (Classical.not_not.mp q3) _ rfl)⟩)))) (fun q2 => (c_sk_90  (o3 _ rfl (Classical.not_not.mp q2)) (And.intro ret0 ⟨rfl, _, rfl, (l4 _ rfl (Classical.not_not.mp q2) _ rfl)⟩))))
theorem q_named {xs : Nat → Int} {N n : Nat} {σ : Mm} (h : Rel xs N σ) (w l : Int) : Bi xs N n 101 [vr 3, vi w, vi l] 182 [vr 85, vi w, vi l] σ := by
  obtain ⟨c0, c1, c2, c3, c5, d0, d1, d2, d3, -⟩ := Rel_cnt h
  have e0 : plF (fun k => gi σ 90 (0 + k)) l (gi σ 85 12).toNat = plF (gi σ 6) l (gi σ 5 0).toNat := by rw [d0]; exact plF_cong _ fun i hi => by rw [Nat.zero_add]; exact (Rel_j h (by omega)).1.1
  have e1 : plF (fun k => gi σ 93 (0 + k)) l (gi σ 85 13).toNat = plF (gi σ 9) l (gi σ 5 1).toNat := by rw [d1]; exact plF_cong _ fun i hi => by rw [Nat.zero_add]; exact (Rel_c h (by omega)).1.1
  have e2 : plF (fun k => gi σ 97 (0 + k)) l (gi σ 85 14).toNat = plF (gi σ 13) l (gi σ 5 2).toNat := by rw [d2]; exact plF_cong _ fun i hi => by rw [Nat.zero_add]; exact (Rel_k h (by omega)).1.1
  refine v_named w l (by intros; first | omega | (unfold rg; omega) | (subst_vars; simp only [gi_si, gi_sl, gl_si, gl_sl]; first | omega | (unfold rg; omega))) (by intros; first | omega | (unfold rg; omega) | (subst_vars; simp only [gi_si, gi_sl, gl_si, gl_sl]; first | omega | (unfold rg; omega))) (by intros; first | omega | (unfold rg; omega) | (subst_vars; simp only [gi_si, gi_sl, gl_si, gl_sl]; first | omega | (unfold rg; omega))) ?_ ?_ ?_ ?_
  all_goals intros
  all_goals subst_vars
  · refine v_namedR w l (by intros; first | omega | (unfold rg; omega) | (subst_vars; simp only [gi_si, gi_sl, gl_si, gl_sl]; first | omega | (unfold rg; omega))) (by intros; first | omega | (unfold rg; omega) | (subst_vars; simp only [gi_si, gi_sl, gl_si, gl_sl]; first | omega | (unfold rg; omega))) (by intros; first | omega | (unfold rg; omega) | (subst_vars; simp only [gi_si, gi_sl, gl_si, gl_sl]; first | omega | (unfold rg; omega))) ?_ ?_ ?_ ?_
    all_goals (intros; subst_vars; first | (exfalso; omega) | exact ⟨rfl, Rel_th h⟩)
  · refine v_namedR 0 l (by intros; first | omega | (unfold rg; omega) | (subst_vars; simp only [gi_si, gi_sl, gl_si, gl_sl]; first | omega | (unfold rg; omega))) (by intros; first | omega | (unfold rg; omega) | (subst_vars; simp only [gi_si, gi_sl, gl_si, gl_sl]; first | omega | (unfold rg; omega))) (by intros; first | omega | (unfold rg; omega) | (subst_vars; simp only [gi_si, gi_sl, gl_si, gl_sl]; first | omega | (unfold rg; omega))) ?_ ?_ ?_ ?_
    all_goals (intros; subst_vars; first | (exfalso; omega) | exact ⟨e0, Rel_th h⟩)
  · refine v_namedR 1 l (by intros; first | omega | (unfold rg; omega) | (subst_vars; simp only [gi_si, gi_sl, gl_si, gl_sl]; first | omega | (unfold rg; omega))) (by intros; first | omega | (unfold rg; omega) | (subst_vars; simp only [gi_si, gi_sl, gl_si, gl_sl]; first | omega | (unfold rg; omega))) (by intros; first | omega | (unfold rg; omega) | (subst_vars; simp only [gi_si, gi_sl, gl_si, gl_sl]; first | omega | (unfold rg; omega))) ?_ ?_ ?_ ?_
    all_goals (intros; subst_vars; first | (exfalso; omega) | exact ⟨e1, Rel_th h⟩)
  · refine v_namedR 2 l (by intros; first | omega | (unfold rg; omega) | (subst_vars; simp only [gi_si, gi_sl, gl_si, gl_sl]; first | omega | (unfold rg; omega))) (by intros; first | omega | (unfold rg; omega) | (subst_vars; simp only [gi_si, gi_sl, gl_si, gl_sl]; first | omega | (unfold rg; omega))) (by intros; first | omega | (unfold rg; omega) | (subst_vars; simp only [gi_si, gi_sl, gl_si, gl_sl]; first | omega | (unfold rg; omega))) ?_ ?_ ?_ ?_
    all_goals (intros; subst_vars; first | (exfalso; omega) | exact ⟨e2, Rel_th h⟩)
