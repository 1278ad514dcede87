/-! SUMS, COUNTS, AND THE FIRST METHODS -/
def sumF (f : Nat → Int) : Nat → Int
  | 0 => 0
  | n + 1 => sumF f n + f n
def b2i (b : Bool) : Int := if b then 1 else 0
theorem b2i_t : b2i true = 1 := rfl
theorem b2i_f : b2i false = 0 := rfl
theorem b2i_in (b : Bool) : 0 ≤ b2i b ∧ b2i b ≤ 1 := by cases b <;> decide
theorem b2i_01 (b : Bool) : b2i b = 0 ∨ b2i b = 1 := by cases b <;> decide
def cnt (p : Nat → Bool) (k : Nat) : Int := sumF (fun q => b2i (p q)) k
theorem cnt_0 (p : Nat → Bool) : cnt p 0 = 0 := rfl
theorem cnt_s (p : Nat → Bool) (k : Nat) : cnt p (k + 1) = cnt p k + b2i (p k) := rfl
theorem cnt_in (p : Nat → Bool) (k : Nat) : 0 ≤ cnt p k ∧ cnt p k ≤ k := by
  induction k with
  | zero => exact ⟨Int.le_refl _, Int.le_refl _⟩
  | succ k ih => rw [cnt_s]; have := b2i_in (p k); omega
theorem sumF_congr {f g : Nat → Int} {k : Nat} (h : ∀ q, q < k → f q = g q) : sumF f k = sumF g k := by
  induction k with
  | zero => rfl
  | succ k ih => show sumF f k + f k = sumF g k + g k; rw [ih (fun q hq => h q (by omega)), h k (by omega)]
theorem cnt_congr {p p' : Nat → Bool} {k : Nat} (h : ∀ q, q < k → p q = p' q) : cnt p k = cnt p' k := sumF_congr fun q hq => by rw [h q hq]
theorem v_fated_40_0 {n : Nat}  (z : Int) {σ : Mm} {P : Int → Mm → Prop} (l1 : R 93 4 [some (vr 40), some (vi z), some (vi 0), some (vi 0)] [] (shF n) 0 0 σ (Qi (shF n) P)) : Ci 93 [vr 40, vi z] (shF n) σ P :=
  show R 93 0 [some (vr 40), some (vi z), none, none] [] (shF n) 0 0 σ (Qi (shF n) P) from wpK_R 5 [4] ((l1))
theorem v_fated_40_4 {n : Nat}  (z : Int) (x : Int) (k : Nat) {σ : Mm} {P : Int → Mm → Prop} (o1 : (k : Int) < (10 : Int) → (0 ≤ (k : Int) ∧ (k : Int) < 10)) (o2 : (k : Int) < (10 : Int) → (gi σ 44 k) ≠ z → rg ((k : Int) + 1)) (o3 : (k : Int) < (10 : Int) → (gi σ 44 k) = z → rg (x + 1)) (o4 : (k : Int) < (10 : Int) → (gi σ 44 k) = z → ∀ x6 : Int, x6 = x + 1 → rg ((k : Int) + 1)) (l1 : (10 : Int) ≤ (k : Int) → P x σ) (l2 : (k : Int) < (10 : Int) → (gi σ 44 k) ≠ z → R 93 4 [some (vr 40), some (vi z), some (vi x), some (vi ((k : Int) + 1))] [] (shF n) 0 0 σ (Qi (shF n) P)) (l3 : (k : Int) < (10 : Int) → (gi σ 44 k) = z → ∀ x6 : Int, x6 = x + 1 → R 93 4 [some (vr 40), some (vi z), some (vi x6), some (vi ((k : Int) + 1))] [] (shF n) 0 0 σ (Qi (shF n) P)) : R 93 4 [some (vr 40), some (vi z), some (vi x), some (vi (k : Int))] [] (shF n) 0 0 σ (Qi (shF n) P) :=
  wpK_R 13 [4] (And.intro (fun q1 => And.intro ret0 ⟨rfl, _, rfl, (l1 q1)⟩) (fun q1 => (have k2 := (o1 (Int.not_le.mp q1)); And.intro k2 (And.intro (fun q3 => (have k4 := (o2 (Int.not_le.mp q1) q3); And.intro k4 ((l2 (Int.not_le.mp q1) q3)))) (fun q3 => (have k5 := (o3 (Int.not_le.mp q1) (Classical.not_not.mp q3)); And.intro k5 ((have k7 := (o4 (Int.not_le.mp q1) (Classical.not_not.mp q3) _ rfl); And.intro k7 ((l3 (Int.not_le.mp q1) (Classical.not_not.mp q3) _ rfl))))))))))
theorem l_fated_40 {n : Nat} {z : Int} {σ : Mm} {P : Int → Mm → Prop} (hP : P (cnt (fun q => decide (gi σ 44 q = z)) 10) σ) : ∀ (m k : Nat), k + m = 10 → R 93 4 [some (vr 40), some (vi z), some (vi (cnt (fun q => decide (gi σ 44 q = z)) k)), some (vi k)] [] (shF n) 0 0 σ (Qi (shF n) P) := by
  intro m
  induction m with
  | zero =>
    intro k hk
    obtain rfl : k = 10 := by omega
    have hc := cnt_in (fun q => decide (gi σ 44 q = z)) 10
    refine v_fated_40_4 _ _ _ (by intros; first | omega | (unfold rg; omega) | (subst_vars; simp only [gi_si, gi_sl, gl_si, gl_sl]; first | omega | (unfold rg; omega))) (by intros; first | omega | (unfold rg; omega) | (subst_vars; simp only [gi_si, gi_sl, gl_si, gl_sl]; first | omega | (unfold rg; omega))) (by intros; first | omega | (unfold rg; omega) | (subst_vars; simp only [gi_si, gi_sl, gl_si, gl_sl]; first | omega | (unfold rg; omega))) (by intros; first | omega | (unfold rg; omega) | (subst_vars; simp only [gi_si, gi_sl, gl_si, gl_sl]; first | omega | (unfold rg; omega))) ?_ ?_ ?_
    · intros; exact hP
    · intros; omega
    · intros; omega
  | succ m ih =>
    intro k hk
    have hc := cnt_in (fun q => decide (gi σ 44 q = z)) k
    have ih := ih (k + 1) (by omega)
    rw [cnt_s] at ih
    refine v_fated_40_4 _ _ _ (by intros; first | omega | (unfold rg; omega) | (subst_vars; simp only [gi_si, gi_sl, gl_si, gl_sl]; first | omega | (unfold rg; omega))) (by intros; first | omega | (unfold rg; omega) | (subst_vars; simp only [gi_si, gi_sl, gl_si, gl_sl]; first | omega | (unfold rg; omega))) (by intros; first | omega | (unfold rg; omega) | (subst_vars; simp only [gi_si, gi_sl, gl_si, gl_sl]; first | omega | (unfold rg; omega))) (by intros; first | omega | (unfold rg; omega) | (subst_vars; simp only [gi_si, gi_sl, gl_si, gl_sl]; first | omega | (unfold rg; omega))) ?_ ?_ ?_
    · intros; omega
    · intro _ h; rw [decide_eq_false h] at ih; simpa [b2i] using ih
    · intro _ h x hx; rw [decide_eq_true h] at ih; rw [hx]; exact ih
theorem c_fated_40 {n : Nat} {z : Int} {σ : Mm} {P : Int → Mm → Prop} (hP : P (cnt (fun q => decide (gi σ 44 q = z)) 10) σ) : Ci 93 [vr 40, vi z] (shF n) σ P := by
  refine v_fated_40_0 _ ?_
  exact l_fated_40 hP 10 0 rfl
theorem v_fated_49_0 {n : Nat}  (z : Int) {σ : Mm} {P : Int → Mm → Prop} (l1 : R 93 4 [some (vr 49), some (vi z), some (vi 0), some (vi 0)] [] (shF n) 0 0 σ (Qi (shF n) P)) : Ci 93 [vr 49, vi z] (shF n) σ P :=
  show R 93 0 [some (vr 49), some (vi z), none, none] [] (shF n) 0 0 σ (Qi (shF n) P) from wpK_R 5 [4] ((l1))
theorem v_fated_49_4 {n : Nat}  (z : Int) (x : Int) (k : Nat) {σ : Mm} {P : Int → Mm → Prop} (o1 : (k : Int) < (10 : Int) → (0 ≤ (k : Int) ∧ (k : Int) < 10)) (o2 : (k : Int) < (10 : Int) → (gi σ 53 k) ≠ z → rg ((k : Int) + 1)) (o3 : (k : Int) < (10 : Int) → (gi σ 53 k) = z → rg (x + 1)) (o4 : (k : Int) < (10 : Int) → (gi σ 53 k) = z → ∀ x6 : Int, x6 = x + 1 → rg ((k : Int) + 1)) (l1 : (10 : Int) ≤ (k : Int) → P x σ) (l2 : (k : Int) < (10 : Int) → (gi σ 53 k) ≠ z → R 93 4 [some (vr 49), some (vi z), some (vi x), some (vi ((k : Int) + 1))] [] (shF n) 0 0 σ (Qi (shF n) P)) (l3 : (k : Int) < (10 : Int) → (gi σ 53 k) = z → ∀ x6 : Int, x6 = x + 1 → R 93 4 [some (vr 49), some (vi z), some (vi x6), some (vi ((k : Int) + 1))] [] (shF n) 0 0 σ (Qi (shF n) P)) : R 93 4 [some (vr 49), some (vi z), some (vi x), some (vi (k : Int))] [] (shF n) 0 0 σ (Qi (shF n) P) :=
  wpK_R 13 [4] (And.intro (fun q1 => And.intro ret0 ⟨rfl, _, rfl, (l1 q1)⟩) (fun q1 => (have k2 := (o1 (Int.not_le.mp q1)); And.intro k2 (And.intro (fun q3 => (have k4 := (o2 (Int.not_le.mp q1) q3); And.intro k4 ((l2 (Int.not_le.mp q1) q3)))) (fun q3 => (have k5 := (o3 (Int.not_le.mp q1) (Classical.not_not.mp q3)); And.intro k5 ((have k7 := (o4 (Int.not_le.mp q1) (Classical.not_not.mp q3) _ rfl); And.intro k7 ((l3 (Int.not_le.mp q1) (Classical.not_not.mp q3) _ rfl))))))))))
theorem l_fated_49 {n : Nat} {z : Int} {σ : Mm} {P : Int → Mm → Prop} (hP : P (cnt (fun q => decide (gi σ 53 q = z)) 10) σ) : ∀ (m k : Nat), k + m = 10 → R 93 4 [some (vr 49), some (vi z), some (vi (cnt (fun q => decide (gi σ 53 q = z)) k)), some (vi k)] [] (shF n) 0 0 σ (Qi (shF n) P) := by
  intro m
  induction m with
  | zero =>
    intro k hk
    obtain rfl : k = 10 := by omega
    have hc := cnt_in (fun q => decide (gi σ 53 q = z)) 10
    refine v_fated_49_4 _ _ _ (by intros; first | omega | (unfold rg; omega) | (subst_vars; simp only [gi_si, gi_sl, gl_si, gl_sl]; first | omega | (unfold rg; omega))) (by intros; first | omega | (unfold rg; omega) | (subst_vars; simp only [gi_si, gi_sl, gl_si, gl_sl]; first | omega | (unfold rg; omega))) (by intros; first | omega | (unfold rg; omega) | (subst_vars; simp only [gi_si, gi_sl, gl_si, gl_sl]; first | omega | (unfold rg; omega))) (by intros; first | omega | (unfold rg; omega) | (subst_vars; simp only [gi_si, gi_sl, gl_si, gl_sl]; first | omega | (unfold rg; omega))) ?_ ?_ ?_
    · intros; exact hP
    · intros; omega
    · intros; omega
  | succ m ih =>
    intro k hk
    have hc := cnt_in (fun q => decide (gi σ 53 q = z)) k
    have ih := ih (k + 1) (by omega)
    rw [cnt_s] at ih
    refine v_fated_49_4 _ _ _ (by intros; first | omega | (unfold rg; omega) | (subst_vars; simp only [gi_si, gi_sl, gl_si, gl_sl]; first | omega | (unfold rg; omega))) (by intros; first | omega | (unfold rg; omega) | (subst_vars; simp only [gi_si, gi_sl, gl_si, gl_sl]; first | omega | (unfold rg; omega))) (by intros; first | omega | (unfold rg; omega) | (subst_vars; simp only [gi_si, gi_sl, gl_si, gl_sl]; first | omega | (unfold rg; omega))) (by intros; first | omega | (unfold rg; omega) | (subst_vars; simp only [gi_si, gi_sl, gl_si, gl_sl]; first | omega | (unfold rg; omega))) ?_ ?_ ?_
    · intros; omega
    · intro _ h; rw [decide_eq_false h] at ih; simpa [b2i] using ih
    · intro _ h x hx; rw [decide_eq_true h] at ih; rw [hx]; exact ih
theorem c_fated_49 {n : Nat} {z : Int} {σ : Mm} {P : Int → Mm → Prop} (hP : P (cnt (fun q => decide (gi σ 53 q = z)) 10) σ) : Ci 93 [vr 49, vi z] (shF n) σ P := by
  refine v_fated_49_0 _ ?_
  exact l_fated_49 hP 10 0 rfl
