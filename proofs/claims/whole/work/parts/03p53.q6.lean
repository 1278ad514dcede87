/-! QUERIES: fractions -/
theorem gcd_st (a b : Nat) : Nat.gcd b (a % b) = Nat.gcd a b := by rw [Nat.gcd_comm a b, Nat.gcd_rec b a, Nat.gcd_comm]
theorem v_cd_0 {n : Nat}  (a : Nat) (b : Nat) {σ : Mm} {P : Int → Mm → Prop} (l1 : R 129 7 [some (vi (a : Int)), some (vi (b : Int)), some (vi (a : Int)), some (vi (b : Int)), some (vi 0), none] [] (shF n) 0 0 σ (Qi (shF n) P)) : Ci 129 [vi (a : Int), vi (b : Int)] (shF n) σ P :=
  show R 129 0 [some (vi (a : Int)), some (vi (b : Int)), none, none, none, none] [] (shF n) 0 0 σ (Qi (shF n) P) from wpK_R 7 [7] ((l1))
theorem v_cd_7 {n : Nat}  (p : Int) (q : Int) (a : Nat) (b : Nat) (k : Nat) (z : Option PV) {σ : Mm} {P : Int → Mm → Prop} (o1 : (k : Int) < (64 : Int) → (b : Int) ≠ (0 : Int) → (0 ≤ (a : Int) ∧ 0 < (b : Int))) (o2 : (k : Int) < (64 : Int) → (b : Int) ≠ (0 : Int) → rg ((k : Int) + 1)) (l1 : (64 : Int) ≤ (k : Int) → P (a : Int) σ) (l2 : (k : Int) < (64 : Int) → (b : Int) = (0 : Int) → P (a : Int) σ) (l3 : (k : Int) < (64 : Int) → (b : Int) ≠ (0 : Int) → R 129 7 [some (vi p), some (vi q), some (vi (b : Int)), some (vi ((a : Int) % (b : Int))), some (vi ((k : Int) + 1)), some (vi ((a : Int) % (b : Int)))] [] (shF n) 0 0 σ (Qi (shF n) P)) : R 129 7 [some (vi p), some (vi q), some (vi (a : Int)), some (vi (b : Int)), some (vi (k : Int)), z] [] (shF n) 0 0 σ (Qi (shF n) P) :=
  wpK_R 16 [7] (And.intro (fun q1 => And.intro ret0 ⟨rfl, _, rfl, (l1 q1)⟩) (fun q1 => And.intro (fun q2 => And.intro ret0 ⟨rfl, _, rfl, (l2 (Int.not_le.mp q1) q2)⟩) (fun q2 => (have k3 := (o1 (Int.not_le.mp q1) q2); And.intro k3 ((have k4 := (o2 (Int.not_le.mp q1) q2); And.intro k4 ((l3 (Int.not_le.mp q1) q2))))))))
theorem c_cd {n : Nat} {a b : Int} {σ : Mm} {P : Int → Mm → Prop} (ha : 0 ≤ a) (hb : 0 ≤ b ∧ b ≤ 20) (hP : P ((Nat.gcd a.toNat b.toNat : Nat) : Int) σ) : Ci 129 [vi a, vi b] (shF n) σ P := by
  obtain ⟨a, rfl⟩ := Int.eq_ofNat_of_zero_le ha
  obtain ⟨b, rfl⟩ := Int.eq_ofNat_of_zero_le hb.1
  simp only [Int.toNat_natCast] at hP
  refine v_cd_0 a b ?_
  have key : ∀ (m a' b' k : Nat) (z : Option PV), b' ≤ m → k + b' ≤ 21 → Nat.gcd a' b' = Nat.gcd a b → R 129 7 [some (vi (a : Int)), some (vi (b : Int)), some (vi (a' : Int)), some (vi (b' : Int)), some (vi (k : Int)), z] [] (shF n) 0 0 σ (Qi (shF n) P) := by
    intro m
    induction m with
    | zero =>
      intro a' b' k z h1 h2 h3
      have hb0 : b' = 0 := by omega
      subst hb0
      rw [Nat.gcd_zero_right] at h3
      rw [← h3] at hP
      refine v_cd_7 _ _ a' 0 k z (by intros; first | omega | (unfold rg; omega) | (subst_vars; simp only [gi_si, gi_sl, gl_si, gl_sl]; first | omega | (unfold rg; omega))) (by intros; first | omega | (unfold rg; omega) | (subst_vars; simp only [gi_si, gi_sl, gl_si, gl_sl]; first | omega | (unfold rg; omega))) ?_ ?_ ?_
      · intros; exact hP
      · intros; exact hP
      · intros; exfalso; omega
    | succ m ih =>
      intro a' b' k z h1 h2 h3
      refine v_cd_7 _ _ a' b' k z (by intros; first | omega | (unfold rg; omega) | (subst_vars; simp only [gi_si, gi_sl, gl_si, gl_sl]; first | omega | (unfold rg; omega))) (by intros; first | omega | (unfold rg; omega) | (subst_vars; simp only [gi_si, gi_sl, gl_si, gl_sl]; first | omega | (unfold rg; omega))) ?_ ?_ ?_
      · intros; exfalso; omega
      · intro _ hz
        have hb0 : b' = 0 := by omega
        subst hb0
        rw [Nat.gcd_zero_right] at h3
        rw [← h3] at hP
        exact hP
      · intro _ hz
        have := Nat.mod_lt a' (show 0 < b' by omega)
        exact ih b' (a' % b') (k + 1) _ (by omega) (by omega) (by rw [gcd_st]; exact h3)
  exact key b a b 0 none (Nat.le_refl _) (by omega) rfl
theorem v_cm_0 {n : Nat}  (a : Nat) (b : Nat) {σ : Mm} {P : Int → Mm → Prop} (l1 : R 241 4 [some (vi (a : Int)), some (vi (b : Int)), some (vi (a : Int)), some (vi (b : Int)), none] [] (shF n) 0 0 σ (Qi (shF n) P)) : Ci 241 [vi (a : Int), vi (b : Int)] (shF n) σ P :=
  show R 241 0 [some (vi (a : Int)), some (vi (b : Int)), none, none, none] [] (shF n) 0 0 σ (Qi (shF n) P) from wpK_R 5 [4] ((l1))
theorem v_cm_4 {n : Nat}  (p : Int) (q : Int) (a : Nat) (b : Nat) (z : Option PV) {σ : Mm} {P : Int → Mm → Prop} (o1 : (b : Int) ≠ (0 : Int) → (0 ≤ (a : Int) ∧ 0 < (b : Int))) (l1 : (b : Int) = (0 : Int) → P (a : Int) σ) (l2 : (b : Int) ≠ (0 : Int) → R 241 4 [some (vi p), some (vi q), some (vi (b : Int)), some (vi ((a : Int) % (b : Int))), some (vi ((a : Int) % (b : Int)))] [] (shF n) 0 0 σ (Qi (shF n) P)) : R 241 4 [some (vi p), some (vi q), some (vi (a : Int)), some (vi (b : Int)), z] [] (shF n) 0 0 σ (Qi (shF n) P) :=
  wpK_R 12 [4] (And.intro (fun q1 => And.intro ret0 ⟨rfl, _, rfl, (l1 q1)⟩) (fun q1 => (have k2 := (o1 q1); And.intro k2 ((l2 q1)))))
theorem c_cm {n : Nat} {a b : Int} {σ : Mm} {P : Int → Mm → Prop} (ha : 0 ≤ a) (hb : 0 ≤ b) (hP : P ((Nat.gcd a.toNat b.toNat : Nat) : Int) σ) : Ci 241 [vi a, vi b] (shF n) σ P := by
  obtain ⟨a, rfl⟩ := Int.eq_ofNat_of_zero_le ha
  obtain ⟨b, rfl⟩ := Int.eq_ofNat_of_zero_le hb
  simp only [Int.toNat_natCast] at hP
  refine v_cm_0 a b ?_
  have key : ∀ (m a' b' : Nat) (z : Option PV), b' ≤ m → Nat.gcd a' b' = Nat.gcd a b → R 241 4 [some (vi (a : Int)), some (vi (b : Int)), some (vi (a' : Int)), some (vi (b' : Int)), z] [] (shF n) 0 0 σ (Qi (shF n) P) := by
    intro m
    induction m with
    | zero =>
      intro a' b' z h1 h3
      have hb0 : b' = 0 := by omega
      subst hb0
      rw [Nat.gcd_zero_right] at h3
      rw [← h3] at hP
      refine v_cm_4 _ _ a' 0 z (by intros; first | omega | (unfold rg; omega) | (subst_vars; simp only [gi_si, gi_sl, gl_si, gl_sl]; first | omega | (unfold rg; omega))) ?_ ?_
      · intros; exact hP
      · intros; exfalso; omega
    | succ m ih =>
      intro a' b' z h1 h3
      refine v_cm_4 _ _ a' b' z (by intros; first | omega | (unfold rg; omega) | (subst_vars; simp only [gi_si, gi_sl, gl_si, gl_sl]; first | omega | (unfold rg; omega))) ?_ ?_
      · intro hz
        have hb0 : b' = 0 := by omega
        subst hb0
        rw [Nat.gcd_zero_right] at h3
        rw [← h3] at hP
        exact hP
      · intro hz
        have := Nat.mod_lt a' (show 0 < b' by omega)
        exact ih b' (a' % b') _ (by omega) (by rw [gcd_st]; exact h3)
  exact key b a b none (Nat.le_refl _) rfl
def ltF (a b w : Int) : Int := if b ≤ 0 then w else if w = 0 then a / ((Nat.gcd a.toNat b.toNat : Nat) : Int) else b / ((Nat.gcd a.toNat b.toNat : Nat) : Int)
theorem v_lt {n : Nat}  (a : Int) (b : Int) (w : Int) {σ : Mm} {P : Int → Mm → Prop} (o1 : (0 : Int) < b → 0 ≤ a) (o2 : (0 : Int) < b → (0 ≤ b ∧ b ≤ 20)) (o3 : (0 : Int) < b → ∀ x2 : Int, x2 = ((Nat.gcd (a).toNat (b).toNat : Nat) : Int) → w ≠ (0 : Int) → (0 : Int) < x2 → (0 ≤ b ∧ b < 2147483648 ∧ 0 < x2)) (o4 : (0 : Int) < b → ∀ x2 : Int, x2 = ((Nat.gcd (a).toNat (b).toNat : Nat) : Int) → w = (0 : Int) → (0 : Int) < x2 → (0 ≤ a ∧ a < 2147483648 ∧ 0 < x2)) (l1 : (0 : Int) < b → ∀ x2 : Int, x2 = ((Nat.gcd (a).toNat (b).toNat : Nat) : Int) → w ≠ (0 : Int) → x2 ≤ (0 : Int) → P b σ) (l2 : (0 : Int) < b → ∀ x2 : Int, x2 = ((Nat.gcd (a).toNat (b).toNat : Nat) : Int) → w ≠ (0 : Int) → (0 : Int) < x2 → P (b / x2) σ) (l3 : (0 : Int) < b → ∀ x2 : Int, x2 = ((Nat.gcd (a).toNat (b).toNat : Nat) : Int) → w = (0 : Int) → x2 ≤ (0 : Int) → P a σ) (l4 : (0 : Int) < b → ∀ x2 : Int, x2 = ((Nat.gcd (a).toNat (b).toNat : Nat) : Int) → w = (0 : Int) → (0 : Int) < x2 → P (a / x2) σ) (l5 : b ≤ (0 : Int) → P w σ) : Ci 128 [vi a, vi b, vi w] (shF n) σ P :=
  show R 128 0 [some (vi a), some (vi b), some (vi w), none, none] [] (shF n) 0 0 σ (Qi (shF n) P) from wpK_R 18 [] (And.intro (fun q1 => (c_cd  (o1 q1) (o2 q1) (And.intro (fun q3 => And.intro (fun q4 => And.intro ret0 ⟨rfl, _, rfl, (l1 q1 _ rfl q3 q4)⟩) (fun q4 => (have k5 := (o3 q1 _ rfl q3 (Int.not_le.mp q4)); And.intro k5 (And.intro ret0 ⟨rfl, _, rfl, (l2 q1 _ rfl q3 (Int.not_le.mp q4))⟩)))) (fun q3 => And.intro (fun q6 => And.intro ret0 ⟨rfl, _, rfl, (l3 q1 _ rfl (Classical.not_not.mp q3) q6)⟩) (fun q6 => (have k7 := (o4 q1 _ rfl (Classical.not_not.mp q3) (Int.not_le.mp q6)); And.intro k7 (And.intro ret0 ⟨rfl, _, rfl, (l4 q1 _ rfl (Classical.not_not.mp q3) (Int.not_le.mp q6))⟩))))))) (fun q1 => And.intro ret0 ⟨rfl, _, rfl, (l5 (Int.not_lt.mp q1))⟩))
theorem c_lt {n : Nat} {a b w : Int} {σ : Mm} {P : Int → Mm → Prop} (ha : 0 ≤ a ∧ a ≤ 20) (hb : 0 ≤ b ∧ b ≤ 20) (hP : P (ltF a b w) σ) : Ci 128 [vi a, vi b, vi w] (shF n) σ P := by
  have hg : 0 < b → 0 < Nat.gcd a.toNat b.toNat := fun h => Nat.gcd_pos_of_pos_right _ (by omega)
  refine v_lt a b w (by intros; subst_vars; first | omega | (have := hg (by omega); omega)) (by intros; subst_vars; first | omega | (have := hg (by omega); omega)) (by intros; subst_vars; first | omega | (have := hg (by omega); omega)) (by intros; subst_vars; first | omega | (have := hg (by omega); omega)) ?_ ?_ ?_ ?_ ?_
  all_goals (intros; refine p_eq hP ?_; unfold ltF; subst_vars; first | (rw [if_pos (by omega)]; done) | (have := hg (by omega); rw [if_neg (by omega)]; first | (exfalso; omega) | (rw [if_pos (by omega)]; done) | (rw [if_neg (by omega)]; done)))
theorem v_l1 {n : Nat}  (a : Int) (b : Int) (w : Int) {σ : Mm} {P : Int → Mm → Prop} (o1 : 0 ≤ b) (o2 : 0 ≤ a) (o3 : ∀ x1 : Int, x1 = ((Nat.gcd (b).toNat (a).toNat : Nat) : Int) → w ≠ (0 : Int) → (0 ≤ b ∧ b < 2147483648 ∧ 0 < x1)) (o4 : ∀ x1 : Int, x1 = ((Nat.gcd (b).toNat (a).toNat : Nat) : Int) → w = (0 : Int) → (0 ≤ a ∧ a < 2147483648 ∧ 0 < x1)) (l1 : ∀ x1 : Int, x1 = ((Nat.gcd (b).toNat (a).toNat : Nat) : Int) → w ≠ (0 : Int) → P (b / x1) σ) (l2 : ∀ x1 : Int, x1 = ((Nat.gcd (b).toNat (a).toNat : Nat) : Int) → w = (0 : Int) → P (a / x1) σ) : Ci 242 [vi a, vi b, vi w] (shF n) σ P :=
  show R 242 0 [some (vi a), some (vi b), some (vi w), none] [] (shF n) 0 0 σ (Qi (shF n) P) from wpK_R 11 [] ((c_cm  (o1) (o2) (And.intro (fun q2 => (have k3 := (o3 _ rfl q2); And.intro k3 (And.intro ret0 ⟨rfl, _, rfl, (l1 _ rfl q2)⟩))) (fun q2 => (have k4 := (o4 _ rfl (Classical.not_not.mp q2)); And.intro k4 (And.intro ret0 ⟨rfl, _, rfl, (l2 _ rfl (Classical.not_not.mp q2))⟩))))))
theorem c_l1 {n : Nat} {a b w : Int} {σ : Mm} {P : Int → Mm → Prop} (ha : 0 ≤ a ∧ a ≤ 20) (hb : 0 < b ∧ b ≤ 20) (hP : P (ltF a b w) σ) : Ci 242 [vi a, vi b, vi w] (shF n) σ P := by
  have hg : 0 < Nat.gcd b.toNat a.toNat := Nat.gcd_pos_of_pos_left _ (by omega)
  have e : Nat.gcd b.toNat a.toNat = Nat.gcd a.toNat b.toNat := Nat.gcd_comm _ _
  refine v_l1 a b w (by intros; subst_vars; first | omega | (exfalso; omega)) (by intros; subst_vars; first | omega | (exfalso; omega)) (by intros; subst_vars; first | omega | (exfalso; omega)) (by intros; subst_vars; first | omega | (exfalso; omega)) ?_ ?_
  all_goals (intros; refine p_eq hP ?_; unfold ltF; subst_vars; rw [if_neg (by omega), e]; first | (rw [if_pos (by omega)]; done) | (rw [if_neg (by omega)]; done))
theorem v_bold_0 {n : Nat}  (j : Int) (w : Int) {σ : Mm} {P : Int → Mm → Prop} (l1 : j < (0 : Int) → P (-1) σ) (l2 : (0 : Int) ≤ j → (gi σ 5 0) ≤ j → P (-1) σ) (l3 : (0 : Int) ≤ j → j < (gi σ 5 0) → w < (0 : Int) → P (-1) σ) (l4 : (0 : Int) ≤ j → j < (gi σ 5 0) → (0 : Int) ≤ w → w ≤ (1 : Int) → R 131 24 [some (vr 3), some (vi j), some (vi w), some (vi 0), some (vi 0)] [] (shF n) 0 0 σ (Qi (shF n) P)) (l5 : (0 : Int) ≤ j → j < (gi σ 5 0) → (0 : Int) ≤ w → (1 : Int) < w → P (-1) σ) : Ci 131 [vr 3, vi j, vi w] (shF n) σ P :=
  show R 131 0 [some (vr 3), some (vi j), some (vi w), none, none] [] (shF n) 0 0 σ (Qi (shF n) P) from wpK_R 14 [24] ((show R 103 0 [some (vr 3), _] [] (shF n) 0 0 _ _ from wpK_R 10 [] (And.intro (fun q1 => And.intro ret0 (And.intro (Or.inl rfl) ⟨rfl, _, rfl, And.intro (fun _ => And.intro ret0 ⟨rfl, _, rfl, (l1 q1)⟩) (fun q => absurd (show (0 : Int) = 0 by decide) q)⟩)) (fun q1 => And.intro (fun q2 => And.intro ret0 (And.intro (Or.inl rfl) ⟨rfl, _, rfl, And.intro (fun _ => And.intro ret0 ⟨rfl, _, rfl, (l2 (Int.not_lt.mp q1) q2)⟩) (fun q => absurd (show (0 : Int) = 0 by decide) q)⟩)) (fun q2 => And.intro ret0 (And.intro (Or.inr rfl) ⟨rfl, _, rfl, And.intro (fun q => absurd q (show ¬ ((1 : Int) = 0) by decide)) (fun _ => And.intro (fun q3 => And.intro ret0 ⟨rfl, _, rfl, (l3 (Int.not_lt.mp q1) (Int.not_le.mp q2) q3)⟩) (fun q3 => And.intro (fun q4 => (l4 (Int.not_lt.mp q1) (Int.not_le.mp q2) (Int.not_lt.mp q3) q4)) (fun q4 => And.intro ret0 ⟨rfl, _, rfl, (l5 (Int.not_lt.mp q1) (Int.not_le.mp q2) (Int.not_lt.mp q3) (Int.not_le.mp q4))⟩)))⟩))))))
theorem v_bold_L {n : Nat}  (j : Int) (w : Int) (x : Int) (k : Nat) {σ : Mm} {P : Int → Mm → Prop} (o1 : (gi σ 5 1) ≤ (k : Int) → (0 ≤ gi σ 5 1 ∧ gi σ 5 1 ≤ 10)) (o2 : (gi σ 5 1) ≤ (k : Int) → ∀ x2 : Int, x2 = cnt (fun q => decide (gi σ 41 q = j ∧ gi σ 43 q ≠ -1)) (gi σ 5 1).toNat → (0 ≤ x ∧ x ≤ 20)) (o3 : (gi σ 5 1) ≤ (k : Int) → ∀ x2 : Int, x2 = cnt (fun q => decide (gi σ 41 q = j ∧ gi σ 43 q ≠ -1)) (gi σ 5 1).toNat → (0 ≤ x2 ∧ x2 ≤ 20)) (o4 : (k : Int) < (gi σ 5 1) → (0 ≤ (k : Int) ∧ (k : Int) < 10)) (o5 : (k : Int) < (gi σ 5 1) → (gi σ 41 k) ≠ j → rg ((k : Int) + 1)) (o6 : (k : Int) < (gi σ 5 1) → (gi σ 41 k) = j → (gi σ 43 k) = (gi σ 42 k) → rg ((k : Int) + 1)) (o7 : (k : Int) < (gi σ 5 1) → (gi σ 41 k) = j → (gi σ 43 k) ≠ (gi σ 42 k) → rg (x + 1)) (o8 : (k : Int) < (gi σ 5 1) → (gi σ 41 k) = j → (gi σ 43 k) ≠ (gi σ 42 k) → ∀ x10 : Int, x10 = x + 1 → rg ((k : Int) + 1)) (l1 : (gi σ 5 1) ≤ (k : Int) → ∀ x2 : Int, x2 = cnt (fun q => decide (gi σ 41 q = j ∧ gi σ 43 q ≠ -1)) (gi σ 5 1).toNat → ∀ x3 : Int, x3 = ltF x x2 w → P x3 σ) (l2 : (k : Int) < (gi σ 5 1) → (gi σ 41 k) ≠ j → R 131 24 [some (vr 3), some (vi j), some (vi w), some (vi x), some (vi ((k : Int) + 1))] [] (shF n) 0 0 σ (Qi (shF n) P)) (l3 : (k : Int) < (gi σ 5 1) → (gi σ 41 k) = j → (gi σ 43 k) = (gi σ 42 k) → R 131 24 [some (vr 3), some (vi j), some (vi w), some (vi x), some (vi ((k : Int) + 1))] [] (shF n) 0 0 σ (Qi (shF n) P)) (l4 : (k : Int) < (gi σ 5 1) → (gi σ 41 k) = j → (gi σ 43 k) ≠ (gi σ 42 k) → ∀ x10 : Int, x10 = x + 1 → R 131 24 [some (vr 3), some (vi j), some (vi w), some (vi x10), some (vi ((k : Int) + 1))] [] (shF n) 0 0 σ (Qi (shF n) P)) : R 131 24 [some (vr 3), some (vi j), some (vi w), some (vi x), some (vi (k : Int))] [] (shF n) 0 0 σ (Qi (shF n) P) :=
  wpK_R 27 [24] (And.intro (fun q1 => (c_hb  (o1 q1) ((c_lt  (o2 q1 _ rfl) (o3 q1 _ rfl) (And.intro ret0 ⟨rfl, _, rfl, (l1 q1 _ rfl _ rfl)⟩))))) (fun q1 => (have k4 := (o4 (Int.not_le.mp q1)); And.intro k4 (And.intro (fun q5 => (have k6 := (o5 (Int.not_le.mp q1) q5); And.intro k6 ((l2 (Int.not_le.mp q1) q5)))) (fun q5 => And.intro k4 (And.intro k4 (And.intro (fun q7 => (have k8 := (o6 (Int.not_le.mp q1) (Classical.not_not.mp q5) q7); And.intro k8 ((l3 (Int.not_le.mp q1) (Classical.not_not.mp q5) q7)))) (fun q7 => (have k9 := (o7 (Int.not_le.mp q1) (Classical.not_not.mp q5) q7); And.intro k9 ((have k11 := (o8 (Int.not_le.mp q1) (Classical.not_not.mp q5) q7 _ rfl); And.intro k11 ((l4 (Int.not_le.mp q1) (Classical.not_not.mp q5) q7 _ rfl)))))))))))))
theorem v_boldR_0 {n : Nat}  (j : Int) (w : Int) {σ : Mm} {P : Int → Mm → Prop} (o1 : ∀ t1 : Mm, t1 = si σ 85 2 (0 : Int) → (0 : Int) ≤ j → j < (gi σ 85 12) → (0 : Int) ≤ w → w ≤ (1 : Int) → (0 ≤ gi t1 85 13 ∧ gi t1 85 13 ≤ 10)) (l1 : ∀ t1 : Mm, t1 = si σ 85 2 (0 : Int) → j < (0 : Int) → P (-1) t1) (l2 : ∀ t1 : Mm, t1 = si σ 85 2 (0 : Int) → (0 : Int) ≤ j → (gi σ 85 12) ≤ j → P (-1) t1) (l3 : ∀ t1 : Mm, t1 = si σ 85 2 (0 : Int) → (0 : Int) ≤ j → j < (gi σ 85 12) → w < (0 : Int) → P (-1) t1) (l4 : ∀ t1 : Mm, t1 = si σ 85 2 (0 : Int) → (0 : Int) ≤ j → j < (gi σ 85 12) → (0 : Int) ≤ w → (1 : Int) < w → P (-1) t1) (l5 : ∀ t1 : Mm, t1 = si σ 85 2 (0 : Int) → (0 : Int) ≤ j → j < (gi σ 85 12) → (0 : Int) ≤ w → w ≤ (1 : Int) → ∀ x6 : Int, x6 = cnt (fun q => decide (gi t1 115 q = j ∧ 0 ≤ gi t1 117 q)) (gi t1 85 13).toNat → R 245 36 [some (vr 85), some (vi j), some (vi w), some (vi x6), some (vi 0), some (vi 0)] [] (shF n) 0 0 t1 (Qi (shF n) P)) : Ci 245 [vr 85, vi j, vi w] (shF n) σ P :=
  show R 245 0 [some (vr 85), some (vi j), some (vi w), none, none, none] [] (shF n) 0 0 σ (Qi (shF n) P) from wpK_R 21 [36] ((show R 200 0 [some (vr 85), _] [] (shF n) 0 0 _ _ from wpK_R 9 [] (And.intro (fun q2 => And.intro ret0 (And.intro (Or.inl rfl) ⟨rfl, _, rfl, And.intro (fun _ => And.intro ret0 ⟨rfl, _, rfl, (l1 _ rfl q2)⟩) (fun q => absurd (show (0 : Int) = 0 by decide) q)⟩)) (fun q2 => And.intro (fun q3 => And.intro ret0 (And.intro (Or.inl rfl) ⟨rfl, _, rfl, And.intro (fun _ => And.intro ret0 ⟨rfl, _, rfl, (l2 _ rfl (Int.not_lt.mp q2) q3)⟩) (fun q => absurd (show (0 : Int) = 0 by decide) q)⟩)) (fun q3 => And.intro ret0 (And.intro (Or.inr rfl) ⟨rfl, _, rfl, And.intro (fun q => absurd q (show ¬ ((1 : Int) = 0) by decide)) (fun _ => (show R 157 0 [_, some (vi 0), some (vi 1)] [] (shF n) 0 0 _ _ from wpK_R 9 [] (And.intro (fun q4 => And.intro ret0 (And.intro (Or.inl rfl) ⟨rfl, _, rfl, And.intro (fun q => absurd q (show ¬ ((0 : Int) ≠ 0) by decide)) (fun _ => And.intro ret0 ⟨rfl, _, rfl, (l3 _ rfl (Int.not_lt.mp q2) (Int.not_le.mp q3) q4)⟩)⟩)) (fun q4 => And.intro (fun q5 => And.intro ret0 (And.intro (Or.inl rfl) ⟨rfl, _, rfl, And.intro (fun q => absurd q (show ¬ ((0 : Int) ≠ 0) by decide)) (fun _ => And.intro ret0 ⟨rfl, _, rfl, (l4 _ rfl (Int.not_lt.mp q2) (Int.not_le.mp q3) (Int.not_lt.mp q4) q5)⟩)⟩)) (fun q5 => And.intro ret0 (And.intro (Or.inr rfl) ⟨rfl, _, rfl, And.intro (fun _ => (c_hbR  (o1 _ rfl (Int.not_lt.mp q2) (Int.not_le.mp q3) (Int.not_lt.mp q4) (Int.not_lt.mp q5)) ((l5 _ rfl (Int.not_lt.mp q2) (Int.not_le.mp q3) (Int.not_lt.mp q4) (Int.not_lt.mp q5) _ rfl)))) (fun q => absurd (show (1 : Int) ≠ 0 by decide) q)⟩))))))⟩))))))
theorem v_boldR_L {n : Nat}  (j : Int) (w : Int) (al : Int) (x : Int) (k : Nat) {σ : Mm} {P : Int → Mm → Prop} (o1 : (gi σ 85 13) ≤ (k : Int) → al ≠ (0 : Int) → (0 ≤ x ∧ x ≤ 20)) (o2 : (gi σ 85 13) ≤ (k : Int) → al ≠ (0 : Int) → (0 < al ∧ al ≤ 20)) (o3 : (k : Int) < (gi σ 85 13) → (0 ≤ (k : Int) ∧ (k : Int) < 20)) (o4 : (k : Int) < (gi σ 85 13) → (gi σ 115 k) ≠ j → rg (x + 0)) (o5 : (k : Int) < (gi σ 85 13) → (gi σ 115 k) ≠ j → ∀ x7 : Int, x7 = x + 0 → rg ((k : Int) + 1)) (o6 : (k : Int) < (gi σ 85 13) → (gi σ 115 k) = j → (gi σ 117 k) = (gi σ 116 k) → rg (x + 0)) (o7 : (k : Int) < (gi σ 85 13) → (gi σ 115 k) = j → (gi σ 117 k) = (gi σ 116 k) → ∀ x11 : Int, x11 = x + 0 → rg ((k : Int) + 1)) (o8 : (k : Int) < (gi σ 85 13) → (gi σ 115 k) = j → (gi σ 117 k) ≠ (gi σ 116 k) → rg (x + 1)) (o9 : (k : Int) < (gi σ 85 13) → (gi σ 115 k) = j → (gi σ 117 k) ≠ (gi σ 116 k) → ∀ x14 : Int, x14 = x + 1 → rg ((k : Int) + 1)) (l1 : (gi σ 85 13) ≤ (k : Int) → al ≠ (0 : Int) → ∀ x3 : Int, x3 = ltF x al w → P x3 σ) (l2 : (gi σ 85 13) ≤ (k : Int) → al = (0 : Int) → P w σ) (l3 : (k : Int) < (gi σ 85 13) → (gi σ 115 k) ≠ j → ∀ x7 : Int, x7 = x + 0 → R 245 36 [some (vr 85), some (vi j), some (vi w), some (vi al), some (vi x7), some (vi ((k : Int) + 1))] [] (shF n) 0 0 σ (Qi (shF n) P)) (l4 : (k : Int) < (gi σ 85 13) → (gi σ 115 k) = j → (gi σ 117 k) = (gi σ 116 k) → ∀ x11 : Int, x11 = x + 0 → R 245 36 [some (vr 85), some (vi j), some (vi w), some (vi al), some (vi x11), some (vi ((k : Int) + 1))] [] (shF n) 0 0 σ (Qi (shF n) P)) (l5 : (k : Int) < (gi σ 85 13) → (gi σ 115 k) = j → (gi σ 117 k) ≠ (gi σ 116 k) → ∀ x14 : Int, x14 = x + 1 → R 245 36 [some (vr 85), some (vi j), some (vi w), some (vi al), some (vi x14), some (vi ((k : Int) + 1))] [] (shF n) 0 0 σ (Qi (shF n) P)) : R 245 36 [some (vr 85), some (vi j), some (vi w), some (vi al), some (vi x), some (vi (k : Int))] [] (shF n) 0 0 σ (Qi (shF n) P) :=
  wpK_R 27 [36] (And.intro (fun q1 => And.intro (fun q2 => (c_l1  (o1 q1 q2) (o2 q1 q2) (And.intro ret0 ⟨rfl, _, rfl, (l1 q1 q2 _ rfl)⟩))) (fun q2 => And.intro ret0 ⟨rfl, _, rfl, (l2 q1 (Classical.not_not.mp q2))⟩)) (fun q1 => (have k4 := (o3 (Int.not_le.mp q1)); And.intro k4 (And.intro (fun q5 => (have k6 := (o4 (Int.not_le.mp q1) q5); And.intro k6 ((have k8 := (o5 (Int.not_le.mp q1) q5 _ rfl); And.intro k8 ((l3 (Int.not_le.mp q1) q5 _ rfl)))))) (fun q5 => And.intro k4 (And.intro k4 (And.intro (fun q9 => (have k10 := (o6 (Int.not_le.mp q1) (Classical.not_not.mp q5) q9); And.intro k10 ((have k12 := (o7 (Int.not_le.mp q1) (Classical.not_not.mp q5) q9 _ rfl); And.intro k12 ((l4 (Int.not_le.mp q1) (Classical.not_not.mp q5) q9 _ rfl)))))) (fun q9 => (have k13 := (o8 (Int.not_le.mp q1) (Classical.not_not.mp q5) q9); And.intro k13 ((have k15 := (o9 (Int.not_le.mp q1) (Classical.not_not.mp q5) q9 _ rfl); And.intro k15 ((l5 (Int.not_le.mp q1) (Classical.not_not.mp q5) q9 _ rfl)))))))))))))
theorem q_bold {xs : Nat → Int} {N n : Nat} {σ : Mm} (h : Rel xs N σ) (j w : Int) : Bi xs N n 131 [vr 3, vi j, vi w] 245 [vr 85, vi j, vi w] σ := by
  obtain ⟨c0, c1, c2, c3, c5, d0, d1, d2, d3, -⟩ := Rel_cnt h
  obtain ⟨C, hC⟩ := Int.eq_ofNat_of_zero_le c1.1
  obtain ⟨A, hA⟩ : ∃ A, A = cnt (fun q => decide (gi σ 41 q = j ∧ gi σ 43 q ≠ -1)) (gi σ 5 1).toNat := ⟨_, rfl⟩
  have hAin := cnt_in (fun q => decide (gi σ 41 q = j ∧ gi σ 43 q ≠ -1)) (gi σ 5 1).toNat
  rw [← hA] at hAin
  have hp : ∀ k, 0 ≤ cnt (fun q => decide (gi σ 41 q = j ∧ gi σ 43 q ≠ gi σ 42 q)) k ∧ cnt (fun q => decide (gi σ 41 q = j ∧ gi σ 43 q ≠ gi σ 42 q)) k ≤ k := fun k => cnt_in _ k
  have hR : Ci 245 [vr 85, vi j, vi w] (shF n) σ (fun v' s' => v' = (if (0 ≤ j ∧ j < gi σ 5 0) ∧ (0 ≤ w ∧ w ≤ 1) then ltF (cnt (fun q => decide (gi σ 41 q = j ∧ gi σ 43 q ≠ gi σ 42 q)) C) A w else -1) ∧ Rel xs N s') := by
    refine v_boldR_0 j w (by intros; subst_vars; first | omega | (rw [gi_si, if_neg (by omega)]; omega)) ?_ ?_ ?_ ?_ ?_
    all_goals (intro t ht; have hrel : Rel xs N t := by rw [ht]; exact Rel_th h)
    · intros; exact ⟨by rw [if_neg (by omega)], hrel⟩
    · intros; exact ⟨by rw [if_neg (by omega)], hrel⟩
    · intros; exact ⟨by rw [if_neg (by omega)], hrel⟩
    · intros; exact ⟨by rw [if_neg (by omega)], hrel⟩
    · intro h1 h2 h3 h4 x6 hx6
      rw [d0] at h2
      have e13 : gi t 85 13 = (C : Int) := by rw [ht, gi_si, if_neg (by omega), d1, hC]
      have e117 : ∀ q, q < 10 → gi t 117 q = gi σ 43 q ∧ gi t 116 q = gi σ 42 q := fun q hq => by rw [ht, gi_ne (by omega), gi_ne (by omega)]; exact ⟨(Rel_w10 h hq).2.1, (Rel_w10 h hq).1⟩
      have e115 : ∀ q, q < C → gi t 115 q = gi σ 41 q := fun q hq => by rw [ht, gi_ne (by omega)]; exact (Rel_c h (by omega)).2.2.2.1
      have hx6A : x6 = A := by
        rw [hx6, hA, e13, hC]
        refine cnt_congr fun q hq => ?_
        rw [e115 q (by omega), (e117 q (by omega)).1]
        congr 1
        apply propext
        have := (Rel_w10 h (c := q) (by omega)).2.2.2.1
        omega
      rw [hx6A, if_pos (by omega)]
      clear ht hx6
      refine loopUp (N := C) (I := fun k => R 245 36 [some (vr 85), some (vi j), some (vi w), some (vi A), some (vi (cnt (fun q => decide (gi σ 41 q = j ∧ gi σ 43 q ≠ gi σ 42 q)) k)), some (vi (k : Int))] [] (shF n) 0 0 t (Qi (shF n) (fun v' s' => v' = ltF (cnt (fun q => decide (gi σ 41 q = j ∧ gi σ 43 q ≠ gi σ 42 q)) C) A w ∧ Rel xs N s'))) (fun k hk ih => ?_) 0 (by omega)
      have hpk := hp k
      refine v_boldR_L j w A _ k (by intros; first | omega | (unfold rg; omega) | (subst_vars; simp only [gi_si, gi_sl, gl_si, gl_sl]; first | omega | (unfold rg; omega))) (by intros; first | omega | (unfold rg; omega) | (subst_vars; simp only [gi_si, gi_sl, gl_si, gl_sl]; first | omega | (unfold rg; omega))) (by intros; first | omega | (unfold rg; omega) | (subst_vars; simp only [gi_si, gi_sl, gl_si, gl_sl]; first | omega | (unfold rg; omega))) (by intros; first | omega | (unfold rg; omega) | (subst_vars; simp only [gi_si, gi_sl, gl_si, gl_sl]; first | omega | (unfold rg; omega))) (by intros; first | omega | (unfold rg; omega) | (subst_vars; simp only [gi_si, gi_sl, gl_si, gl_sl]; first | omega | (unfold rg; omega))) (by intros; first | omega | (unfold rg; omega) | (subst_vars; simp only [gi_si, gi_sl, gl_si, gl_sl]; first | omega | (unfold rg; omega))) (by intros; first | omega | (unfold rg; omega) | (subst_vars; simp only [gi_si, gi_sl, gl_si, gl_sl]; first | omega | (unfold rg; omega))) (by intros; first | omega | (unfold rg; omega) | (subst_vars; simp only [gi_si, gi_sl, gl_si, gl_sl]; first | omega | (unfold rg; omega))) (by intros; first | omega | (unfold rg; omega) | (subst_vars; simp only [gi_si, gi_sl, gl_si, gl_sl]; first | omega | (unfold rg; omega))) ?_ ?_ ?_ ?_ ?_
      all_goals (intros; rw [e13] at *)
      · rename_i g1 g2 x3 hx3; rw [hx3, show C = k by omega]; exact ⟨rfl, hrel⟩
      · rename_i g1 g2; exact ⟨by unfold ltF; rw [if_pos (by omega)], hrel⟩
      · rename_i g1 g2 x hx
        rw [e115 k (by omega)] at g2
        refine R_eq (ih (by omega)) ?_
        rw [hx, cnt_s, decide_eq_false (fun z => g2 z.1)]; simp [b2i]
      · rename_i g1 g2 g3 x hx
        rw [(e117 k (by omega)).1, (e117 k (by omega)).2] at g3
        refine R_eq (ih (by omega)) ?_
        rw [hx, cnt_s, decide_eq_false (fun z => z.2 g3)]; simp [b2i]
      · rename_i g1 g2 g3 x hx
        rw [e115 k (by omega)] at g2
        rw [(e117 k (by omega)).1, (e117 k (by omega)).2] at g3
        refine R_eq (ih (by omega)) ?_
        rw [hx, cnt_s, decide_eq_true ⟨g2, g3⟩]; simp [b2i]
  refine v_bold_0 j w ?_ ?_ ?_ ?_ ?_
  · intros; rw [if_neg (by omega)] at hR; exact hR
  · intros; rw [if_neg (by omega)] at hR; exact hR
  · intros; rw [if_neg (by omega)] at hR; exact hR
  · intro h1 h2 h3 h4
    rw [if_pos (by omega)] at hR
    refine loopUp (N := C) (I := fun k => R 131 24 [some (vr 3), some (vi j), some (vi w), some (vi (cnt (fun q => decide (gi σ 41 q = j ∧ gi σ 43 q ≠ gi σ 42 q)) k)), some (vi (k : Int))] [] (shF n) 0 0 σ (Qi (shF n) (fun v s => Ci 245 [vr 85, vi j, vi w] (shF n) s (fun v' s' => v' = v ∧ Rel xs N s')))) (fun k hk ih => ?_) 0 (by omega)
    have hpk := hp k
    refine v_bold_L j w _ k (by intros; subst_vars; first | omega | (unfold rg; omega)) (by intros; subst_vars; first | omega | (unfold rg; omega)) (by intros; subst_vars; first | omega | (unfold rg; omega)) (by intros; subst_vars; first | omega | (unfold rg; omega)) (by intros; subst_vars; first | omega | (unfold rg; omega)) (by intros; subst_vars; first | omega | (unfold rg; omega)) (by intros; subst_vars; first | omega | (unfold rg; omega)) (by intros; subst_vars; first | omega | (unfold rg; omega)) ?_ ?_ ?_ ?_
    all_goals intros
    · rename_i g1 x2 hx2 x3 hx3
      rw [hx3, hx2, ← hA, show k = C by omega]; exact hR
    · rename_i g1 g2
      refine R_eq (ih (by omega)) ?_
      rw [cnt_s, decide_eq_false (fun z => g2 z.1)]; simp [b2i]
    · rename_i g1 g2 g3
      refine R_eq (ih (by omega)) ?_
      rw [cnt_s, decide_eq_false (fun z => z.2 g3)]; simp [b2i]
    · rename_i g1 g2 g3 x hx
      refine R_eq (ih (by omega)) ?_
      rw [hx, cnt_s, decide_eq_true ⟨g2, g3⟩]; simp [b2i]
  · intros; rw [if_neg (by omega)] at hR; exact hR
