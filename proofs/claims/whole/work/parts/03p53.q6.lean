/-! QUERIES: fractions -/
theorem gcd_st (a b : Nat) : Nat.gcd b (a % b) = Nat.gcd a b := by rw [Nat.gcd_comm a b, Nat.gcd_rec b a, Nat.gcd_comm]
theorem v_cd_0 {n : Nat}  (a : Nat) (b : Nat) {σ : Mm} {P : Int → Mm → Prop} (l1 : R 129 7 [some (vi (a : Int)), some (vi (b : Int)), some (vi (a : Int)), some (vi (b : Int)), some (vi 0), none] [] (shF n) 0 0 σ (Qi (shF n) P)) : Ci 129 [vi (a : Int), vi (b : Int)] (shF n) σ P :=
  show R 129 0 [some (vi (a : Int)), some (vi (b : Int)), none, none, none, none] [] (shF n) 0 0 σ (Qi (shF n) P) from wpK_R 7 [7] ((l1))
theorem v_cd_7 {n : Nat}  (p : Int) (q : Int) (a : Nat) (b : Nat) (k : Nat) (z : Option PV) {σ : Mm} {P : Int → Mm → Prop} (o1 : (k : Int) < (64 : Int) → (b : Int) ≠ (0 : Int) → (0 ≤ (a : Int) ∧ 0 < (b : Int))) (o2 : (k : Int) < (64 : Int) → (b : Int) ≠ (0 : Int) → rg ((k : Int) + 1)) (l1 : (64 : Int) ≤ (k : Int) → P (a : Int) σ) (l2 : (k : Int) < (64 : Int) → (b : Int) = (0 : Int) → P (a : Int) σ) (l3 : (k : Int) < (64 : Int) → (b : Int) ≠ (0 : Int) → R 129 7 [some (vi p), some (vi q), some (vi (b : Int)), some (vi ((a : Int) % (b : Int))), some (vi ((k : Int) + 1)), some (vi ((a : Int) % (b : Int)))] [] (shF n) 0 0 σ (Qi (shF n) P)) : R 129 7 [some (vi p), some (vi q), some (vi (a : Int)), some (vi (b : Int)), some (vi (k : Int)), z] [] (shF n) 0 0 σ (Qi (shF n) P) :=
  wpK_R 16 [7] (And.intro (fun q1 => And.intro ret0 ⟨rfl, _, rfl, (l1 q1)⟩) (fun q1 => And.intro (fun q2 => And.intro ret0 ⟨rfl, _, rfl, (l2 (Int.not_le.mp q1) q2)⟩) (fun q2 => (have k3 := (o1 (Int.not_le.mp q1) q2); And.intro k3 ((have k4 := (o2 (Int.not_le.mp q1) q2); And.intro k4 ((l3 (Int.not_le.mp q1) q2))))))))
theorem c_cd {n : Nat} {a b : Int} {σ : Mm} {P : Int → Mm → Prop} (ha : 0 ≤ a) (hb : 0 ≤ b ∧ b ≤ 20) (hP : P ((Nat.gcd a.toNat b.toNat : Nat) : Int) σ) : Ci 129 [vi a, vi b] (shF n) σ P := by
  obtain ⟨a, rfl⟩ := Int.eq_ofNat_of_zero_le ha
  obtain ⟨b, rfl⟩ := Int.eq_ofNat_of_zero_le hb.1
  simp only [Int.toNat_natCast] at hP
  refine v_cd_0 a b ?_
  have key : ∀ (m a' b' k : Nat) (z : Option PV), b' ≤ m → k + b' ≤ 21 → Nat.gcd a' b' = Nat.gcd a b → R 129 7 [some (vi (a : Int)), some (vi (b : Int)), some (vi (a' : Int)), some (vi (b' : Int)), some (vi (k : Int)), z] [] (shF n) 0 0 σ (Qi (shF n) P) := by
    intro m
    induction m with
    | zero =>
      intro a' b' k z h1 h2 h3
      have hb0 : b' = 0 := by omega
      subst hb0
      rw [Nat.gcd_zero_right] at h3
      rw [← h3] at hP
      refine v_cd_7 _ _ a' 0 k z (by intros; first | omega | (unfold rg; omega) | (subst_vars; simp only [gi_si, gi_sl, gl_si, gl_sl]; first | omega | (unfold rg; omega))) (by intros; first | omega | (unfold rg; omega) | (subst_vars; simp only [gi_si, gi_sl, gl_si, gl_sl]; first | omega | (unfold rg; omega))) ?_ ?_ ?_
      · intros; exact hP
      · intros; exact hP
      · intros; exfalso; omega
    | succ m ih =>
      intro a' b' k z h1 h2 h3
      refine v_cd_7 _ _ a' b' k z (by intros; first | omega | (unfold rg; omega) | (subst_vars; simp only [gi_si, gi_sl, gl_si, gl_sl]; first | omega | (unfold rg; omega))) (by intros; first | omega | (unfold rg; omega) | (subst_vars; simp only [gi_si, gi_sl, gl_si, gl_sl]; first | omega | (unfold rg; omega))) ?_ ?_ ?_
      · intros; exfalso; omega
      · intro _ hz
        have hb0 : b' = 0 := by omega
        subst hb0
        rw [Nat.gcd_zero_right] at h3
        rw [← h3] at hP
        exact hP
      · intro _ hz
        have := Nat.mod_lt a' (show 0 < b' by omega)
        exact ih b' (a' % b') (k + 1) _ (by omega) (by omega) (by rw [gcd_st]; exact h3)
  exact key b a b 0 none (Nat.le_refl _) (by omega) rfl
theorem v_cm_0 {n : Nat}  (a : Nat) (b : Nat) {σ : Mm} {P : Int → Mm → Prop} (l1 : R 241 4 [some (vi (a : Int)), some (vi (b : Int)), some (vi (a : Int)), some (vi (b : Int)), none] [] (shF n) 0 0 σ (Qi (shF n) P)) : Ci 241 [vi (a : Int), vi (b : Int)] (shF n) σ P :=
  show R 241 0 [some (vi (a : Int)), some (vi (b : Int)), none, none, none] [] (shF n) 0 0 σ (Qi (shF n) P) from wpK_R 5 [4] ((l1))
theorem v_cm_4 {n : Nat}  (p : Int) (q : Int) (a : Nat) (b : Nat) (z : Option PV) {σ : Mm} {P : Int → Mm → Prop} (o1 : (b : Int) ≠ (0 : Int) → (0 ≤ (a : Int) ∧ 0 < (b : Int))) (l1 : (b : Int) = (0 : Int) → P (a : Int) σ) (l2 : (b : Int) ≠ (0 : Int) → R 241 4 [some (vi p), some (vi q), some (vi (b : Int)), some (vi ((a : Int) % (b : Int))), some (vi ((a : Int) % (b : Int)))] [] (shF n) 0 0 σ (Qi (shF n) P)) : R 241 4 [some (vi p), some (vi q), some (vi (a : Int)), some (vi (b : Int)), z] [] (shF n) 0 0 σ (Qi (shF n) P) :=
  wpK_R 12 [4] (And.intro (fun q1 => And.intro ret0 ⟨rfl, _, rfl, (l1 q1)⟩) (fun q1 => (have k2 := (o1 q1); And.intro k2 ((l2 q1)))))
theorem c_cm {n : Nat} {a b : Int} {σ : Mm} {P : Int → Mm → Prop} (ha : 0 ≤ a) (hb : 0 ≤ b) (hP : P ((Nat.gcd a.toNat b.toNat : Nat) : Int) σ) : Ci 241 [vi a, vi b] (shF n) σ P := by
  obtain ⟨a, rfl⟩ := Int.eq_ofNat_of_zero_le ha
  obtain ⟨b, rfl⟩ := Int.eq_ofNat_of_zero_le hb
  simp only [Int.toNat_natCast] at hP
  refine v_cm_0 a b ?_
  have key : ∀ (m a' b' : Nat) (z : Option PV), b' ≤ m → Nat.gcd a' b' = Nat.gcd a b → R 241 4 [some (vi (a : Int)), some (vi (b : Int)), some (vi (a' : Int)), some (vi (b' : Int)), z] [] (shF n) 0 0 σ (Qi (shF n) P) := by
    intro m
    induction m with
    | zero =>
      intro a' b' z h1 h3
      have hb0 : b' = 0 := by omega
      subst hb0
      rw [Nat.gcd_zero_right] at h3
      rw [← h3] at hP
      refine v_cm_4 _ _ a' 0 z (by intros; first | omega | (unfold rg; omega) | (subst_vars; simp only [gi_si, gi_sl, gl_si, gl_sl]; first | omega | (unfold rg; omega))) ?_ ?_
      · intros; exact hP
      · intros; exfalso; omega
    | succ m ih =>
      intro a' b' z h1 h3
      refine v_cm_4 _ _ a' b' z (by intros; first | omega | (unfold rg; omega) | (subst_vars; simp only [gi_si, gi_sl, gl_si, gl_sl]; first | omega | (unfold rg; omega))) ?_ ?_
      · intro hz
        have hb0 : b' = 0 := by omega
        subst hb0
        rw [Nat.gcd_zero_right] at h3
        rw [← h3] at hP
        exact hP
      · intro hz
        have := Nat.mod_lt a' (show 0 < b' by omega)
        exact ih b' (a' % b') _ (by omega) (by rw [gcd_st]; exact h3)
  exact key b a b none (Nat.le_refl _) rfl
def ltF (a b w : Int) : Int := if b ≤ 0 then w else if w = 0 then a / ((Nat.gcd a.toNat b.toNat : Nat) : Int) else b / ((Nat.gcd a.toNat b.toNat : Nat) : Int)
theorem v_lt {n : Nat}  (a : Int) (b : Int) (w : Int) {σ : Mm} {P : Int → Mm → Prop} (o1 : (0 : Int) < b → 0 ≤ a) (o2 : (0 : Int) < b → (0 ≤ b ∧ b ≤ 20)) (o3 : (0 : Int) < b → ∀ x2 : Int, x2 = ((Nat.gcd (a).toNat (b).toNat : Nat) : Int) → w ≠ (0 : Int) → (0 : Int) < x2 → (0 ≤ b ∧ b < 2147483648 ∧ 0 < x2)) (o4 : (0 : Int) < b → ∀ x2 : Int, x2 = ((Nat.gcd (a).toNat (b).toNat : Nat) : Int) → w = (0 : Int) → (0 : Int) < x2 → (0 ≤ a ∧ a < 2147483648 ∧ 0 < x2)) (l1 : (0 : Int) < b → ∀ x2 : Int, x2 = ((Nat.gcd (a).toNat (b).toNat : Nat) : Int) → w ≠ (0 : Int) → x2 ≤ (0 : Int) → P b σ) (l2 : (0 : Int) < b → ∀ x2 : Int, x2 = ((Nat.gcd (a).toNat (b).toNat : Nat) : Int) → w ≠ (0 : Int) → (0 : Int) < x2 → P (b / x2) σ) (l3 : (0 : Int) < b → ∀ x2 : Int, x2 = ((Nat.gcd (a).toNat (b).toNat : Nat) : Int) → w = (0 : Int) → x2 ≤ (0 : Int) → P a σ) (l4 : (0 : Int) < b → ∀ x2 : Int, x2 = ((Nat.gcd (a).toNat (b).toNat : Nat) : Int) → w = (0 : Int) → (0 : Int) < x2 → P (a / x2) σ) (l5 : b ≤ (0 : Int) → P w σ) : Ci 128 [vi a, vi b, vi w] (shF n) σ P :=
  show R 128 0 [some (vi a), some (vi b), some (vi w), none, none] [] (shF n) 0 0 σ (Qi (shF n) P) from wpK_R 18 [] (And.intro (fun q1 => (c_cd  (o1 q1) (o2 q1) (And.intro (fun q3 => And.intro (fun q4 => And.intro ret0 ⟨rfl, _, rfl, (l1 q1 _ rfl q3 q4)⟩) (fun q4 => (have k5 := (o3 q1 _ rfl q3 (Int.not_le.mp q4)); And.intro k5 (And.intro ret0 ⟨rfl, _, rfl, (l2 q1 _ rfl q3 (Int.not_le.mp q4))⟩)))) (fun q3 => And.intro (fun q6 => And.intro ret0 ⟨rfl, _, rfl, (l3 q1 _ rfl (Classical.not_not.mp q3) q6)⟩) (fun q6 => (have k7 := (o4 q1 _ rfl (Classical.not_not.mp q3) (Int.not_le.mp q6)); And.intro k7 (And.intro ret0 ⟨rfl, _, rfl, (l4 q1 _ rfl (Classical.not_not.mp q3) (Int.not_le.mp q6))⟩))))))) (fun q1 => And.intro ret0 ⟨rfl, _, rfl, (l5 (Int.not_lt.mp q1))⟩))
theorem c_lt {n : Nat} {a b w : Int} {σ : Mm} {P : Int → Mm → Prop} (ha : 0 ≤ a ∧ a ≤ 20) (hb : 0 ≤ b ∧ b ≤ 20) (hP : P (ltF a b w) σ) : Ci 128 [vi a, vi b, vi w] (shF n) σ P := by
  have hg : 0 < b → 0 < Nat.gcd a.toNat b.toNat := fun h => Nat.gcd_pos_of_pos_right _ (by omega)
  refine v_lt a b w (by intros; subst_vars; first | omega | (have := hg (by omega); omega)) (by intros; subst_vars; first | omega | (have := hg (by omega); omega)) (by intros; subst_vars; first | omega | (have := hg (by omega); omega)) (by intros; subst_vars; first | omega | (have := hg (by omega); omega)) ?_ ?_ ?_ ?_ ?_
  all_goals (intros; refine p_eq hP ?_; unfold ltF; subst_vars; first | (rw [if_pos (by omega)]; done) | (have := hg (by omega); rw [if_neg (by omega)]; first | (exfalso; omega) | (rw [if_pos (by omega)]; done) | (rw [if_neg (by omega)]; done)))
theorem v_l1 {n : Nat}  (a : Int) (b : Int) (w : Int) {σ : Mm} {P : Int → Mm → Prop} (o1 : 0 ≤ b) (o2 : 0 ≤ a) (o3 : ∀ x1 : Int, x1 = ((Nat.gcd (b).toNat (a).toNat : Nat) : Int) → w ≠ (0 : Int) → (0 ≤ b ∧ b < 2147483648 ∧ 0 < x1)) (o4 : ∀ x1 : Int, x1 = ((Nat.gcd (b).toNat (a).toNat : Nat) : Int) → w = (0 : Int) → (0 ≤ a ∧ a < 2147483648 ∧ 0 < x1)) (l1 : ∀ x1 : Int, x1 = ((Nat.gcd (b).toNat (a).toNat : Nat) : Int) → w ≠ (0 : Int) → P (b / x1) σ) (l2 : ∀ x1 : Int, x1 = ((Nat.gcd (b).toNat (a).toNat : Nat) : Int) → w = (0 : Int) → P (a / x1) σ) : Ci 242 [vi a, vi b, vi w] (shF n) σ P :=
  show R 242 0 [some (vi a), some (vi b), some (vi w), none] [] (shF n) 0 0 σ (Qi (shF n) P) from wpK_R 11 [] ((c_cm  (o1) (o2) (And.intro (fun q2 => (have k3 := (o3 _ rfl q2); And.intro k3 (And.intro ret0 ⟨rfl, _, rfl, (l1 _ rfl q2)⟩))) (fun q2 => (have k4 := (o4 _ rfl (Classical.not_not.mp q2)); And.intro k4 (And.intro ret0 ⟨rfl, _, rfl, (l2 _ rfl (Classical.not_not.mp q2))⟩))))))
theorem c_l1 {n : Nat} {a b w : Int} {σ : Mm} {P : Int → Mm → Prop} (ha : 0 ≤ a ∧ a ≤ 20) (hb : 0 < b ∧ b ≤ 20) (hP : P (ltF a b w) σ) : Ci 242 [vi a, vi b, vi w] (shF n) σ P := by
  have hg : 0 < Nat.gcd b.toNat a.toNat := Nat.gcd_pos_of_pos_left _ (by omega)
  have e : Nat.gcd b.toNat a.toNat = Nat.gcd a.toNat b.toNat := Nat.gcd_comm _ _
  refine v_l1 a b w (by intros; subst_vars; first | omega | (exfalso; omega)) (by intros; subst_vars; first | omega | (exfalso; omega)) (by intros; subst_vars; first | omega | (exfalso; omega)) (by intros; subst_vars; first | omega | (exfalso; omega)) ?_ ?_
  all_goals (intros; refine p_eq hP ?_; unfold ltF; subst_vars; rw [if_neg (by omega), e]; first | (rw [if_pos (by omega)]; done) | (rw [if_neg (by omega)]; done))
