/-! QUERIES: rests, rest -/
def gnF (f a b : Int) : Int := if b < a then f - a else if a = b then f / 2 - a else - a
def rsW (f a b : Int) (w : Nat) : Bool := decide (gnF f w b ≤ gnF f a b ∧ gnF f w a ≤ gnF f b a)
def rsG (f : Int) (g : Nat) : Bool := alB (rsW f ((g / 5 : Nat) : Int) ((g % 5 : Nat) : Int)) 5
def rsQ (f w : Int) : Nat → Int
  | 0 => if w < 0 then cnt (rsG f) 25 else -2
  | m + 1 => if rsG f (24 - m) = true ∧ cnt (rsG f) (24 - m) = w then 10 * (((24 - m) / 5 : Nat) : Int) + (((24 - m) % 5 : Nat) : Int) else rsQ f w m
theorem rsQ_m1 {f : Int} : ∀ m, rsQ f (-1) m = cnt (rsG f) 25 := by
  intro m
  induction m with
  | zero => rfl
  | succ m ih =>
    simp only [rsQ]
    rw [if_neg, ih]
    rintro ⟨-, q⟩
    have := cnt_in (rsG f) (24 - m)
    omega
theorem rsQ_s {f w : Int} {g : Nat} (hg : g < 25) : rsQ f w (25 - g) = if rsG f g = true ∧ cnt (rsG f) g = w then 10 * ((g / 5 : Nat) : Int) + ((g % 5 : Nat) : Int) else rsQ f w (25 - (g + 1)) := by
  obtain ⟨m, hm⟩ : ∃ m, m = 24 - g := ⟨_, rfl⟩
  rw [show 25 - g = m + 1 by omega, show 25 - (g + 1) = m by omega]
  simp only [rsQ]
  rw [show 24 - m = g by omega]
theorem v_gain {n : Nat}  (f : Int) (a : Int) (b : Int) {σ : Mm} {P : Int → Mm → Prop} (o1 : a ≤ b → a ≠ b → rg (-a)) (o2 : a ≤ b → a = b → (0 ≤ f ∧ f < 2147483648 ∧ 0 < (2 : Int))) (o3 : a ≤ b → a = b → rg ((f / (2 : Int)) - a)) (o4 : b < a → rg (f - a)) (l1 : a ≤ b → a ≠ b → P (-a) σ) (l2 : a ≤ b → a = b → P ((f / (2 : Int)) - a) σ) (l3 : b < a → P (f - a) σ) : Ci 135 [vi f, vi a, vi b] (shF n) σ P :=
  show R 135 0 [some (vi f), some (vi a), some (vi b)] [] (shF n) 0 0 σ (Qi (shF n) P) from wpK_R 13 [] (And.intro (fun q1 => And.intro (fun q2 => (have k3 := (o1 q1 q2); And.intro k3 (And.intro ret0 ⟨rfl, _, rfl, (l1 q1 q2)⟩))) (fun q2 => (have k4 := (o2 q1 (Classical.not_not.mp q2)); And.intro k4 ((have k5 := (o3 q1 (Classical.not_not.mp q2)); And.intro k5 (And.intro ret0 ⟨rfl, _, rfl, (l2 q1 (Classical.not_not.mp q2))⟩)))))) (fun q1 => (have k6 := (o4 (Int.not_le.mp q1)); And.intro k6 (And.intro ret0 ⟨rfl, _, rfl, (l3 (Int.not_le.mp q1))⟩))))
theorem c_gain {n : Nat} {f a b : Int} {σ : Mm} {P : Int → Mm → Prop} (h1 : 0 ≤ f ∧ f ≤ 8) (h2 : 0 ≤ a ∧ a ≤ 9) (hP : P (gnF f a b) σ) : Ci 135 [vi f, vi a, vi b] (shF n) σ P := by
  refine v_gain f a b (by intros; first | omega | (unfold rg; omega)) (by intros; first | omega | (unfold rg; omega)) (by intros; first | omega | (unfold rg; omega)) (by intros; first | omega | (unfold rg; omega)) ?_ ?_ ?_
  all_goals (intros; unfold gnF at hP; first | (rw [if_pos (by omega)] at hP; exact hP) | (rw [if_neg (by omega), if_pos (by omega)] at hP; exact hP) | (rw [if_neg (by omega), if_neg (by omega)] at hP; exact hP))
theorem v_learnt {n : Nat}  (f : Int) (a : Int) (b : Int) {σ : Mm} {P : Int → Mm → Prop} (o1 : a ≤ b → a ≠ b → rg ((0 : Int) - a)) (o2 : a ≤ b → a = b → (0 ≤ f ∧ f < 2147483648 ∧ 0 < (2 : Int))) (o3 : a ≤ b → a = b → rg ((f / (2 : Int)) - a)) (o4 : b < a → rg (f - a)) (l1 : a ≤ b → a ≠ b → P ((0 : Int) - a) σ) (l2 : a ≤ b → a = b → P ((f / (2 : Int)) - a) σ) (l3 : b < a → P (f - a) σ) : Ci 246 [vi f, vi a, vi b] (shF n) σ P :=
  show R 246 0 [some (vi f), some (vi a), some (vi b)] [] (shF n) 0 0 σ (Qi (shF n) P) from wpK_R 13 [] (And.intro (fun q1 => And.intro (fun q2 => (have k3 := (o1 q1 q2); And.intro k3 (And.intro ret0 ⟨rfl, _, rfl, (l1 q1 q2)⟩))) (fun q2 => (have k4 := (o2 q1 (Classical.not_not.mp q2)); And.intro k4 ((have k5 := (o3 q1 (Classical.not_not.mp q2)); And.intro k5 (And.intro ret0 ⟨rfl, _, rfl, (l2 q1 (Classical.not_not.mp q2))⟩)))))) (fun q1 => (have k6 := (o4 (Int.not_le.mp q1)); And.intro k6 (And.intro ret0 ⟨rfl, _, rfl, (l3 (Int.not_le.mp q1))⟩))))
theorem c_learnt {n : Nat} {f a b : Int} {σ : Mm} {P : Int → Mm → Prop} (h1 : 0 ≤ f ∧ f ≤ 8) (h2 : 0 ≤ a ∧ a ≤ 9) (hP : P (gnF f a b) σ) : Ci 246 [vi f, vi a, vi b] (shF n) σ P := by
  refine v_learnt f a b (by intros; first | omega | (unfold rg; omega)) (by intros; first | omega | (unfold rg; omega)) (by intros; first | omega | (unfold rg; omega)) (by intros; first | omega | (unfold rg; omega)) ?_ ?_ ?_
  all_goals (intros; unfold gnF at hP; first | (rw [if_pos (by omega)] at hP; exact hP) | (rw [if_neg (by omega), if_pos (by omega)] at hP; exact hP) | (rw [if_neg (by omega), if_neg (by omega)] at hP; rw [Int.zero_sub]; exact hP))
theorem v_isR_0 {n : Nat}  (f : Int) (a : Int) (b : Int) {σ : Mm} {P : Int → Mm → Prop} (l1 : R 134 2 [some (vi f), some (vi a), some (vi b), some (vi 0)] [] (shF n) 0 0 σ (Qi (shF n) P)) : Ci 134 [vi f, vi a, vi b] (shF n) σ P :=
  show R 134 0 [some (vi f), some (vi a), some (vi b), none] [] (shF n) 0 0 σ (Qi (shF n) P) from wpK_R 3 [2] ((l1))
theorem v_isR_L {n : Nat}  (f : Int) (a : Int) (b : Int) (i : Nat) {σ : Mm} {P : Int → Mm → Prop} (o1 : (i : Int) ≤ (4 : Int) → (0 ≤ f ∧ f ≤ 8)) (o2 : (i : Int) ≤ (4 : Int) → (0 ≤ (i : Int) ∧ (i : Int) ≤ 9)) (o3 : (i : Int) ≤ (4 : Int) → ∀ x2 : Int, x2 = gnF f (i : Int) b → (0 ≤ f ∧ f ≤ 8)) (o4 : (i : Int) ≤ (4 : Int) → ∀ x2 : Int, x2 = gnF f (i : Int) b → (0 ≤ a ∧ a ≤ 9)) (o5 : (i : Int) ≤ (4 : Int) → ∀ x2 : Int, x2 = gnF f (i : Int) b → ∀ x3 : Int, x3 = gnF f a b → x2 ≤ x3 → (0 ≤ f ∧ f ≤ 8)) (o6 : (i : Int) ≤ (4 : Int) → ∀ x2 : Int, x2 = gnF f (i : Int) b → ∀ x3 : Int, x3 = gnF f a b → x2 ≤ x3 → (0 ≤ (i : Int) ∧ (i : Int) ≤ 9)) (o7 : (i : Int) ≤ (4 : Int) → ∀ x2 : Int, x2 = gnF f (i : Int) b → ∀ x3 : Int, x3 = gnF f a b → x2 ≤ x3 → ∀ x5 : Int, x5 = gnF f (i : Int) a → (0 ≤ f ∧ f ≤ 8)) (o8 : (i : Int) ≤ (4 : Int) → ∀ x2 : Int, x2 = gnF f (i : Int) b → ∀ x3 : Int, x3 = gnF f a b → x2 ≤ x3 → ∀ x5 : Int, x5 = gnF f (i : Int) a → (0 ≤ b ∧ b ≤ 9)) (o9 : (i : Int) ≤ (4 : Int) → ∀ x2 : Int, x2 = gnF f (i : Int) b → ∀ x3 : Int, x3 = gnF f a b → x2 ≤ x3 → ∀ x5 : Int, x5 = gnF f (i : Int) a → ∀ x6 : Int, x6 = gnF f b a → x5 ≤ x6 → rg ((i : Int) + 1)) (l1 : (4 : Int) < (i : Int) → P 1 σ) (l2 : (i : Int) ≤ (4 : Int) → ∀ x2 : Int, x2 = gnF f (i : Int) b → ∀ x3 : Int, x3 = gnF f a b → x3 < x2 → P 0 σ) (l3 : (i : Int) ≤ (4 : Int) → ∀ x2 : Int, x2 = gnF f (i : Int) b → ∀ x3 : Int, x3 = gnF f a b → x2 ≤ x3 → ∀ x5 : Int, x5 = gnF f (i : Int) a → ∀ x6 : Int, x6 = gnF f b a → x5 ≤ x6 → R 134 2 [some (vi f), some (vi a), some (vi b), some (vi ((i : Int) + 1))] [] (shF n) 0 0 σ (Qi (shF n) P)) (l4 : (i : Int) ≤ (4 : Int) → ∀ x2 : Int, x2 = gnF f (i : Int) b → ∀ x3 : Int, x3 = gnF f a b → x2 ≤ x3 → ∀ x5 : Int, x5 = gnF f (i : Int) a → ∀ x6 : Int, x6 = gnF f b a → x6 < x5 → P 0 σ) : R 134 2 [some (vi f), some (vi a), some (vi b), some (vi (i : Int))] [] (shF n) 0 0 σ (Qi (shF n) P) :=
  wpK_R 24 [2] (And.intro (fun q1 => And.intro ret0 (And.intro (Or.inr rfl) ⟨rfl, _, rfl, (l1 q1)⟩)) (fun q1 => (c_gain  (o1 (Int.not_lt.mp q1)) (o2 (Int.not_lt.mp q1)) ((c_gain  (o3 (Int.not_lt.mp q1) _ rfl) (o4 (Int.not_lt.mp q1) _ rfl) (And.intro (fun q4 => And.intro ret0 (And.intro (Or.inl rfl) ⟨rfl, _, rfl, (l2 (Int.not_lt.mp q1) _ rfl _ rfl q4)⟩)) (fun q4 => (c_gain  (o5 (Int.not_lt.mp q1) _ rfl _ rfl (Int.not_lt.mp q4)) (o6 (Int.not_lt.mp q1) _ rfl _ rfl (Int.not_lt.mp q4)) ((c_gain  (o7 (Int.not_lt.mp q1) _ rfl _ rfl (Int.not_lt.mp q4) _ rfl) (o8 (Int.not_lt.mp q1) _ rfl _ rfl (Int.not_lt.mp q4) _ rfl) (And.intro (fun q7 => (have k8 := (o9 (Int.not_lt.mp q1) _ rfl _ rfl (Int.not_lt.mp q4) _ rfl _ rfl q7); And.intro k8 ((l3 (Int.not_lt.mp q1) _ rfl _ rfl (Int.not_lt.mp q4) _ rfl _ rfl q7)))) (fun q7 => And.intro ret0 (And.intro (Or.inl rfl) ⟨rfl, _, rfl, (l4 (Int.not_lt.mp q1) _ rfl _ rfl (Int.not_lt.mp q4) _ rfl _ rfl (Int.not_le.mp q7))⟩)))))))))))))
theorem c_isR {n : Nat} {f a b : Int} {σ : Mm} {P : Int → Mm → Prop} (h1 : 0 ≤ f ∧ f ≤ 8) (h2 : 0 ≤ a ∧ a ≤ 9) (h3 : 0 ≤ b ∧ b ≤ 9) (hP : P (b2i (alB (rsW f a b) 5)) σ) : Ci 134 [vi f, vi a, vi b] (shF n) σ P := by
  refine v_isR_0 f a b ?_
  refine loopUp (N := 5) (I := fun i => alB (rsW f a b) i = true → R 134 2 [some (vi f), some (vi a), some (vi b), some (vi (i : Int))] [] (shF n) 0 0 σ (Qi (shF n) P)) (fun i hi ih => ?_) 0 (by omega) rfl
  intro hal
  have hno : i < 5 → rsW f a b i = false → P 0 σ := fun q hf => by rw [alB_no hf q] at hP; exact hP
  refine v_isR_L f a b i (by intros; first | omega | (unfold rg; omega)) (by intros; first | omega | (unfold rg; omega)) (by intros; first | omega | (unfold rg; omega)) (by intros; first | omega | (unfold rg; omega)) (by intros; first | omega | (unfold rg; omega)) (by intros; first | omega | (unfold rg; omega)) (by intros; first | omega | (unfold rg; omega)) (by intros; first | omega | (unfold rg; omega)) (by intros; first | omega | (unfold rg; omega)) ?_ ?_ ?_ ?_
  · intro hge
    rw [show 5 = i by omega, hal] at hP
    exact hP
  · intro hlt x2 e2 x3 e3 hl
    exact hno (by omega) (decide_eq_false (by omega))
  · intro hlt x2 e2 x3 e3 hl x5 e5 x6 e6 hl2
    exact ih (by omega) (by simp only [alB]; rw [hal]; exact decide_eq_true (by omega))
  · intro hlt x2 e2 x3 e3 hl x5 e5 x6 e6 hl2
    exact hno (by omega) (decide_eq_false (by omega))
theorem rsG_ab {f : Int} {a b : Nat} (hb : b < 5) : rsG f (5 * a + b) = alB (rsW f (a : Int) (b : Int)) 5 := by
  unfold rsG
  rw [show (5 * a + b) / 5 = a by omega, show (5 * a + b) % 5 = b by omega]
theorem v_rsA_0 {n : Nat}  (f : Int) (w : Int) {σ : Mm} {P : Int → Mm → Prop} (l1 : R 247 5 [some (vr 85), some (vi f), some (vi w), some (vi 0), some (vi 0), none, none, none, none] [] (shF n) 0 0 σ (Qi (shF n) P)) : Ci 247 [vr 85, vi f, vi w] (shF n) σ P :=
  show R 247 0 [some (vr 85), some (vi f), some (vi w), none, none, none, none, none, none] [] (shF n) 0 0 σ (Qi (shF n) P) from wpK_R 5 [5, 30] ((l1))
theorem v_rsA_G {n : Nat}  (f : Int) (w : Int) (c : Int) (g : Nat) (x : Option PV) (y : Option PV) (z : Option PV) (u : Option PV) {σ : Mm} {P : Int → Mm → Prop} (o1 : (g : Int) < (25 : Int) → (0 ≤ (g : Int) ∧ (g : Int) < 2147483648 ∧ 0 < (5 : Int))) (o2 : (g : Int) < (25 : Int) → (0 ≤ (g : Int) ∧ 0 < (5 : Int))) (l1 : (25 : Int) ≤ (g : Int) → (0 : Int) ≤ w → P (-2) σ) (l2 : (25 : Int) ≤ (g : Int) → w < (0 : Int) → P c σ) (l3 : (g : Int) < (25 : Int) → R 247 30 [some (vr 85), some (vi f), some (vi w), some (vi c), some (vi (g : Int)), some (vi ((g : Int) / (5 : Int))), some (vi ((g : Int) % (5 : Int))), some (vi 1), some (vi 0)] [] (shF n) 0 0 σ (Qi (shF n) P)) : R 247 5 [some (vr 85), some (vi f), some (vi w), some (vi c), some (vi (g : Int)), x, y, z, u] [] (shF n) 0 0 σ (Qi (shF n) P) :=
  wpK_R 16 [5, 30] (And.intro (fun q1 => And.intro (fun q2 => And.intro ret0 ⟨rfl, _, rfl, (l1 q1 q2)⟩) (fun q2 => And.intro ret0 ⟨rfl, _, rfl, (l2 q1 (Int.not_le.mp q2))⟩)) (fun q1 => (have k3 := (o1 (Int.not_le.mp q1)); And.intro k3 ((have k4 := (o2 (Int.not_le.mp q1)); And.intro k4 ((l3 (Int.not_le.mp q1))))))))
theorem v_rsA_U {n : Nat}  (f : Int) (w : Int) (c : Int) (g : Nat) (a : Int) (b : Int) (x : Int) (u : Nat) {σ : Mm} {P : Int → Mm → Prop} (o1 : (5 : Int) ≤ (u : Int) → x ≠ (0 : Int) → c ≠ w → rg (c + 1)) (o2 : (5 : Int) ≤ (u : Int) → x ≠ (0 : Int) → c ≠ w → ∀ x5 : Int, x5 = c + 1 → rg ((g : Int) + 1)) (o3 : (5 : Int) ≤ (u : Int) → x ≠ (0 : Int) → c = w → rg ((10 : Int) * a)) (o4 : (5 : Int) ≤ (u : Int) → x ≠ (0 : Int) → c = w → rg (((10 : Int) * a) + b)) (o5 : (5 : Int) ≤ (u : Int) → x = (0 : Int) → rg ((g : Int) + 1)) (o6 : (u : Int) < (5 : Int) → x = (0 : Int) → rg ((u : Int) + 1)) (o7 : (u : Int) < (5 : Int) → x ≠ (0 : Int) → (0 ≤ f ∧ f ≤ 8)) (o8 : (u : Int) < (5 : Int) → x ≠ (0 : Int) → (0 ≤ (u : Int) ∧ (u : Int) ≤ 9)) (o9 : (u : Int) < (5 : Int) → x ≠ (0 : Int) → ∀ x12 : Int, x12 = gnF f (u : Int) b → (0 ≤ f ∧ f ≤ 8)) (o10 : (u : Int) < (5 : Int) → x ≠ (0 : Int) → ∀ x12 : Int, x12 = gnF f (u : Int) b → (0 ≤ a ∧ a ≤ 9)) (o11 : (u : Int) < (5 : Int) → x ≠ (0 : Int) → ∀ x12 : Int, x12 = gnF f (u : Int) b → ∀ x13 : Int, x13 = gnF f a b → x13 < x12 → rg ((u : Int) + 1)) (o12 : (u : Int) < (5 : Int) → x ≠ (0 : Int) → ∀ x12 : Int, x12 = gnF f (u : Int) b → ∀ x13 : Int, x13 = gnF f a b → x12 ≤ x13 → (0 ≤ f ∧ f ≤ 8)) (o13 : (u : Int) < (5 : Int) → x ≠ (0 : Int) → ∀ x12 : Int, x12 = gnF f (u : Int) b → ∀ x13 : Int, x13 = gnF f a b → x12 ≤ x13 → (0 ≤ (u : Int) ∧ (u : Int) ≤ 9)) (o14 : (u : Int) < (5 : Int) → x ≠ (0 : Int) → ∀ x12 : Int, x12 = gnF f (u : Int) b → ∀ x13 : Int, x13 = gnF f a b → x12 ≤ x13 → ∀ x16 : Int, x16 = gnF f (u : Int) a → (0 ≤ f ∧ f ≤ 8)) (o15 : (u : Int) < (5 : Int) → x ≠ (0 : Int) → ∀ x12 : Int, x12 = gnF f (u : Int) b → ∀ x13 : Int, x13 = gnF f a b → x12 ≤ x13 → ∀ x16 : Int, x16 = gnF f (u : Int) a → (0 ≤ b ∧ b ≤ 9)) (o16 : (u : Int) < (5 : Int) → x ≠ (0 : Int) → ∀ x12 : Int, x12 = gnF f (u : Int) b → ∀ x13 : Int, x13 = gnF f a b → x12 ≤ x13 → ∀ x16 : Int, x16 = gnF f (u : Int) a → ∀ x17 : Int, x17 = gnF f b a → x17 < x16 → rg ((u : Int) + 1)) (o17 : (u : Int) < (5 : Int) → x ≠ (0 : Int) → ∀ x12 : Int, x12 = gnF f (u : Int) b → ∀ x13 : Int, x13 = gnF f a b → x12 ≤ x13 → ∀ x16 : Int, x16 = gnF f (u : Int) a → ∀ x17 : Int, x17 = gnF f b a → x16 ≤ x17 → rg ((u : Int) + 1)) (l1 : (5 : Int) ≤ (u : Int) → x ≠ (0 : Int) → c ≠ w → ∀ x5 : Int, x5 = c + 1 → R 247 5 [some (vr 85), some (vi f), some (vi w), some (vi x5), some (vi ((g : Int) + 1)), some (vi a), some (vi b), some (vi x), some (vi (u : Int))] [] (shF n) 0 0 σ (Qi (shF n) P)) (l2 : (5 : Int) ≤ (u : Int) → x ≠ (0 : Int) → c = w → P (((10 : Int) * a) + b) σ) (l3 : (5 : Int) ≤ (u : Int) → x = (0 : Int) → R 247 5 [some (vr 85), some (vi f), some (vi w), some (vi c), some (vi ((g : Int) + 1)), some (vi a), some (vi b), some (vi x), some (vi (u : Int))] [] (shF n) 0 0 σ (Qi (shF n) P)) (l4 : (u : Int) < (5 : Int) → x = (0 : Int) → R 247 30 [some (vr 85), some (vi f), some (vi w), some (vi c), some (vi (g : Int)), some (vi a), some (vi b), some (vi 0), some (vi ((u : Int) + 1))] [] (shF n) 0 0 σ (Qi (shF n) P)) (l5 : (u : Int) < (5 : Int) → x ≠ (0 : Int) → ∀ x12 : Int, x12 = gnF f (u : Int) b → ∀ x13 : Int, x13 = gnF f a b → x13 < x12 → R 247 30 [some (vr 85), some (vi f), some (vi w), some (vi c), some (vi (g : Int)), some (vi a), some (vi b), some (vi 0), some (vi ((u : Int) + 1))] [] (shF n) 0 0 σ (Qi (shF n) P)) (l6 : (u : Int) < (5 : Int) → x ≠ (0 : Int) → ∀ x12 : Int, x12 = gnF f (u : Int) b → ∀ x13 : Int, x13 = gnF f a b → x12 ≤ x13 → ∀ x16 : Int, x16 = gnF f (u : Int) a → ∀ x17 : Int, x17 = gnF f b a → x17 < x16 → R 247 30 [some (vr 85), some (vi f), some (vi w), some (vi c), some (vi (g : Int)), some (vi a), some (vi b), some (vi 0), some (vi ((u : Int) + 1))] [] (shF n) 0 0 σ (Qi (shF n) P)) (l7 : (u : Int) < (5 : Int) → x ≠ (0 : Int) → ∀ x12 : Int, x12 = gnF f (u : Int) b → ∀ x13 : Int, x13 = gnF f a b → x12 ≤ x13 → ∀ x16 : Int, x16 = gnF f (u : Int) a → ∀ x17 : Int, x17 = gnF f b a → x16 ≤ x17 → R 247 30 [some (vr 85), some (vi f), some (vi w), some (vi c), some (vi (g : Int)), some (vi a), some (vi b), some (vi 1), some (vi ((u : Int) + 1))] [] (shF n) 0 0 σ (Qi (shF n) P)) : R 247 30 [some (vr 85), some (vi f), some (vi w), some (vi c), some (vi (g : Int)), some (vi a), some (vi b), some (vi x), some (vi (u : Int))] [] (shF n) 0 0 σ (Qi (shF n) P) :=
  wpK_R 29 [5, 30] (And.intro (fun q1 => And.intro (fun q2 => And.intro (fun q3 => (have k4 := (o1 q1 q2 q3); And.intro k4 ((have k6 := (o2 q1 q2 q3 _ rfl); And.intro k6 ((l1 q1 q2 q3 _ rfl)))))) (fun q3 => (have k7 := (o3 q1 q2 (Classical.not_not.mp q3)); And.intro k7 ((have k8 := (o4 q1 q2 (Classical.not_not.mp q3)); And.intro k8 (And.intro ret0 ⟨rfl, _, rfl, (l2 q1 q2 (Classical.not_not.mp q3))⟩)))))) (fun q2 => (have k9 := (o5 q1 (Classical.not_not.mp q2)); And.intro k9 ((l3 q1 (Classical.not_not.mp q2)))))) (fun q1 => And.intro (fun q10 => (have k11 := (o6 (Int.not_le.mp q1) q10); And.intro k11 ((l4 (Int.not_le.mp q1) q10)))) (fun q10 => (c_learnt  (o7 (Int.not_le.mp q1) q10) (o8 (Int.not_le.mp q1) q10) ((c_learnt  (o9 (Int.not_le.mp q1) q10 _ rfl) (o10 (Int.not_le.mp q1) q10 _ rfl) (And.intro (fun q14 => (have k15 := (o11 (Int.not_le.mp q1) q10 _ rfl _ rfl q14); And.intro k15 ((l5 (Int.not_le.mp q1) q10 _ rfl _ rfl q14)))) (fun q14 => (c_learnt  (o12 (Int.not_le.mp q1) q10 _ rfl _ rfl (Int.not_lt.mp q14)) (o13 (Int.not_le.mp q1) q10 _ rfl _ rfl (Int.not_lt.mp q14)) ((c_learnt  (o14 (Int.not_le.mp q1) q10 _ rfl _ rfl (Int.not_lt.mp q14) _ rfl) (o15 (Int.not_le.mp q1) q10 _ rfl _ rfl (Int.not_lt.mp q14) _ rfl) (And.intro (fun q18 => (have k19 := (o16 (Int.not_le.mp q1) q10 _ rfl _ rfl (Int.not_lt.mp q14) _ rfl _ rfl q18); And.intro k19 ((l6 (Int.not_le.mp q1) q10 _ rfl _ rfl (Int.not_lt.mp q14) _ rfl _ rfl q18)))) (fun q18 => (have k20 := (o17 (Int.not_le.mp q1) q10 _ rfl _ rfl (Int.not_lt.mp q14) _ rfl _ rfl (Int.not_lt.mp q18)); And.intro k20 ((l7 (Int.not_le.mp q1) q10 _ rfl _ rfl (Int.not_lt.mp q14) _ rfl _ rfl (Int.not_lt.mp q18)))))))))))))))))
theorem c_rsA {n : Nat} {f w : Int} {σ : Mm} {P : Int → Mm → Prop} (h1 : 0 ≤ f ∧ f ≤ 8) (hP : P (rsQ f w 25) σ) : Ci 247 [vr 85, vi f, vi w] (shF n) σ P := by
  refine v_rsA_0 f w ?_
  suffices hI : ∀ (x y z u : Option PV), rsQ f w (25 - 0) = rsQ f w 25 → R 247 5 [some (vr 85), some (vi f), some (vi w), some (vi (cnt (rsG f) 0)), some (vi ((0 : Nat) : Int)), x, y, z, u] [] (shF n) 0 0 σ (Qi (shF n) P) from hI none none none none rfl
  refine loopUp (N := 25) (I := fun g => ∀ (x y z u : Option PV), rsQ f w (25 - g) = rsQ f w 25 → R 247 5 [some (vr 85), some (vi f), some (vi w), some (vi (cnt (rsG f) g)), some (vi (g : Int)), x, y, z, u] [] (shF n) 0 0 σ (Qi (shF n) P)) (fun g hg ih => ?_) 0 (by omega)
  intro x y z u he
  have hcn := cnt_in (rsG f) g
  refine v_rsA_G f w _ g x y z u (by intros; first | omega | (unfold rg; omega)) (by intros; first | omega | (unfold rg; omega)) ?_ ?_ ?_
  · intro hge hw
    rw [← he, show 25 - g = 0 by omega] at hP
    simp only [rsQ] at hP
    rw [if_neg (by omega)] at hP
    exact hP
  · intro hge hw
    rw [← he, show 25 - g = 0 by omega] at hP
    simp only [rsQ] at hP
    rw [if_pos (by omega)] at hP
    rw [show g = 25 by omega]
    exact hP
  · intro hlt
    rw [show (g : Int) / 5 = ((g / 5 : Nat) : Int) by omega, show (g : Int) % 5 = ((g % 5 : Nat) : Int) by omega]
    rw [rsQ_s (by omega)] at he
    refine loopUp (N := 5) (I := fun u => R 247 30 [some (vr 85), some (vi f), some (vi w), some (vi (cnt (rsG f) g)), some (vi (g : Int)), some (vi ((g / 5 : Nat) : Int)), some (vi ((g % 5 : Nat) : Int)), some (vi (b2i (alB (rsW f ((g / 5 : Nat) : Int) ((g % 5 : Nat) : Int)) u))), some (vi (u : Int))] [] (shF n) 0 0 σ (Qi (shF n) P)) (fun u hu ih2 => ?_) 0 (by omega)
    have hb01 := b2i_in (alB (rsW f ((g / 5 : Nat) : Int) ((g % 5 : Nat) : Int)) u)
    refine v_rsA_U f w _ g _ _ _ u (by intros; first | omega | (unfold rg; omega)) (by intros; first | omega | (unfold rg; omega)) (by intros; first | omega | (unfold rg; omega)) (by intros; first | omega | (unfold rg; omega)) (by intros; first | omega | (unfold rg; omega)) (by intros; first | omega | (unfold rg; omega)) (by intros; first | omega | (unfold rg; omega)) (by intros; first | omega | (unfold rg; omega)) (by intros; first | omega | (unfold rg; omega)) (by intros; first | omega | (unfold rg; omega)) (by intros; first | omega | (unfold rg; omega)) (by intros; first | omega | (unfold rg; omega)) (by intros; first | omega | (unfold rg; omega)) (by intros; first | omega | (unfold rg; omega)) (by intros; first | omega | (unfold rg; omega)) (by intros; first | omega | (unfold rg; omega)) (by intros; first | omega | (unfold rg; omega)) ?_ ?_ ?_ ?_ ?_ ?_ ?_
    · intro hge hz hne x5 hx5
      have hG : rsG f g = true := by unfold rsG; rw [show 5 = u by omega]; rw [show u = 5 by omega] at hz; rw [show u = 5 by omega]; exact b2t hz
      rw [if_neg (fun q => hne q.2)] at he
      refine R_eq (ih (by omega) (some (vi ((g / 5 : Nat) : Int))) (some (vi ((g % 5 : Nat) : Int))) (some (vi (b2i (alB (rsW f ((g / 5 : Nat) : Int) ((g % 5 : Nat) : Int)) u)))) (some (vi (u : Int))) he) ?_
      rw [cnt_s, hG, hx5]
      rfl
    · intro hge hz hne
      have hG : rsG f g = true := by rw [show u = 5 by omega] at hz; exact b2t hz
      rw [if_pos ⟨hG, hne⟩] at he
      rw [← he] at hP
      exact hP
    · intro hge hz
      have hG : rsG f g = false := by rw [show u = 5 by omega] at hz; exact b2f hz
      rw [if_neg (fun q => by rw [hG] at q; exact Bool.false_ne_true q.1)] at he
      refine R_eq (ih (by omega) (some (vi ((g / 5 : Nat) : Int))) (some (vi ((g % 5 : Nat) : Int))) (some (vi (b2i (alB (rsW f ((g / 5 : Nat) : Int) ((g % 5 : Nat) : Int)) u)))) (some (vi (u : Int))) he) ?_
      rw [cnt_s, hG, b2i_f, Int.add_zero]
      rfl
    · intro hlt' hz
      refine R_eq (ih2 (by omega)) ?_
      simp only [alB]
      rw [b2f hz]
      rfl
    · intro hlt' hz x12 e12 x13 e13 hl
      refine R_eq (ih2 (by omega)) ?_
      simp only [alB]
      rw [show rsW f ((g / 5 : Nat) : Int) ((g % 5 : Nat) : Int) u = false from decide_eq_false (by omega), Bool.and_false]
      rfl
    · intro hlt' hz x12 e12 x13 e13 hl x16 e16 x17 e17 hl2
      refine R_eq (ih2 (by omega)) ?_
      simp only [alB]
      rw [show rsW f ((g / 5 : Nat) : Int) ((g % 5 : Nat) : Int) u = false from decide_eq_false (by omega), Bool.and_false]
      rfl
    · intro hlt' hz x12 e12 x13 e13 hl x16 e16 x17 e17 hl2
      refine R_eq (ih2 (by omega)) ?_
      simp only [alB]
      rw [show rsW f ((g / 5 : Nat) : Int) ((g % 5 : Nat) : Int) u = true from decide_eq_true (by omega), b2t hz]
      rfl
theorem v_rstR {n : Nat}  (j : Int) {σ : Mm} {P : Int → Mm → Prop} (o1 : ∀ t1 : Mm, t1 = si σ 85 2 (0 : Int) → (0 : Int) ≤ j → j < (gi σ 85 12) → (0 ≤ j ∧ j < 10)) (o2 : ∀ t1 : Mm, t1 = si σ 85 2 (0 : Int) → (0 : Int) ≤ j → j < (gi σ 85 12) → (0 ≤ (gi σ 111 j.toNat) ∧ (gi σ 111 j.toNat) < 10)) (o3 : ∀ t1 : Mm, t1 = si σ 85 2 (0 : Int) → (0 : Int) ≤ j → j < (gi σ 85 12) → (0 ≤ (gi σ 113 (gi σ 111 j.toNat).toNat) ∧ (gi σ 113 (gi σ 111 j.toNat).toNat) ≤ 8)) (l1 : ∀ t1 : Mm, t1 = si σ 85 2 (0 : Int) → j < (0 : Int) → P (-1) t1) (l2 : ∀ t1 : Mm, t1 = si σ 85 2 (0 : Int) → (0 : Int) ≤ j → (gi σ 85 12) ≤ j → P (-1) t1) (l3 : ∀ t1 : Mm, t1 = si σ 85 2 (0 : Int) → (0 : Int) ≤ j → j < (gi σ 85 12) → ∀ x6 : Int, x6 = rsQ (gi σ 113 (gi σ 111 j.toNat).toNat) (-1 : Int) 25 → P x6 t1) : Ci 248 [vr 85, vi j] (shF n) σ P :=
  show R 248 0 [some (vr 85), some (vi j)] [] (shF n) 0 0 σ (Qi (shF n) P) from wpK_R 19 [] ((show R 200 0 [some (vr 85), _] [] (shF n) 0 0 _ _ from wpK_R 9 [] (And.intro (fun q2 => And.intro ret0 (And.intro (Or.inl rfl) ⟨rfl, _, rfl, And.intro (fun _ => And.intro ret0 ⟨rfl, _, rfl, (l1 _ rfl q2)⟩) (fun q => absurd (show (0 : Int) = 0 by decide) q)⟩)) (fun q2 => And.intro (fun q3 => And.intro ret0 (And.intro (Or.inl rfl) ⟨rfl, _, rfl, And.intro (fun _ => And.intro ret0 ⟨rfl, _, rfl, (l2 _ rfl (Int.not_lt.mp q2) q3)⟩) (fun q => absurd (show (0 : Int) = 0 by decide) q)⟩)) (fun q3 => And.intro ret0 (And.intro (Or.inr rfl) ⟨rfl, _, rfl, And.intro (fun q => absurd q (show ¬ ((1 : Int) = 0) by decide)) (fun _ => (have k4 := (o1 _ rfl (Int.not_lt.mp q2) (Int.not_le.mp q3)); And.intro k4 ((have k5 := (o2 _ rfl (Int.not_lt.mp q2) (Int.not_le.mp q3)); And.intro k5 ((c_rsA  (o3 _ rfl (Int.not_lt.mp q2) (Int.not_le.mp q3)) (And.intro ret0 ⟨rfl, _, rfl, (l3 _ rfl (Int.not_lt.mp q2) (Int.not_le.mp q3) _ rfl)⟩)))))))⟩))))))
theorem v_rsR {n : Nat}  (j : Int) (k : Int) {σ : Mm} {P : Int → Mm → Prop} (o1 : ∀ t1 : Mm, t1 = si σ 85 2 (0 : Int) → (0 : Int) ≤ j → j < (gi σ 85 12) → (0 : Int) ≤ k → (0 ≤ j ∧ j < 10)) (o2 : ∀ t1 : Mm, t1 = si σ 85 2 (0 : Int) → (0 : Int) ≤ j → j < (gi σ 85 12) → (0 : Int) ≤ k → (0 ≤ (gi σ 111 j.toNat) ∧ (gi σ 111 j.toNat) < 10)) (o3 : ∀ t1 : Mm, t1 = si σ 85 2 (0 : Int) → (0 : Int) ≤ j → j < (gi σ 85 12) → (0 : Int) ≤ k → (0 ≤ (gi σ 113 (gi σ 111 j.toNat).toNat) ∧ (gi σ 113 (gi σ 111 j.toNat).toNat) ≤ 8)) (l1 : ∀ t1 : Mm, t1 = si σ 85 2 (0 : Int) → j < (0 : Int) → P (-1) t1) (l2 : ∀ t1 : Mm, t1 = si σ 85 2 (0 : Int) → (0 : Int) ≤ j → (gi σ 85 12) ≤ j → P (-1) t1) (l3 : ∀ t1 : Mm, t1 = si σ 85 2 (0 : Int) → (0 : Int) ≤ j → j < (gi σ 85 12) → k < (0 : Int) → P (-1) t1) (l4 : ∀ t1 : Mm, t1 = si σ 85 2 (0 : Int) → (0 : Int) ≤ j → j < (gi σ 85 12) → (0 : Int) ≤ k → ∀ x7 : Int, x7 = rsQ (gi σ 113 (gi σ 111 j.toNat).toNat) k 25 → P x7 t1) : Ci 249 [vr 85, vi j, vi k] (shF n) σ P :=
  show R 249 0 [some (vr 85), some (vi j), some (vi k)] [] (shF n) 0 0 σ (Qi (shF n) P) from wpK_R 21 [] ((show R 200 0 [some (vr 85), _] [] (shF n) 0 0 _ _ from wpK_R 9 [] (And.intro (fun q2 => And.intro ret0 (And.intro (Or.inl rfl) ⟨rfl, _, rfl, And.intro (fun _ => And.intro ret0 ⟨rfl, _, rfl, (l1 _ rfl q2)⟩) (fun q => absurd (show (0 : Int) = 0 by decide) q)⟩)) (fun q2 => And.intro (fun q3 => And.intro ret0 (And.intro (Or.inl rfl) ⟨rfl, _, rfl, And.intro (fun _ => And.intro ret0 ⟨rfl, _, rfl, (l2 _ rfl (Int.not_lt.mp q2) q3)⟩) (fun q => absurd (show (0 : Int) = 0 by decide) q)⟩)) (fun q3 => And.intro ret0 (And.intro (Or.inr rfl) ⟨rfl, _, rfl, And.intro (fun q => absurd q (show ¬ ((1 : Int) = 0) by decide)) (fun _ => And.intro (fun q4 => And.intro ret0 ⟨rfl, _, rfl, (l3 _ rfl (Int.not_lt.mp q2) (Int.not_le.mp q3) q4)⟩) (fun q4 => (have k5 := (o1 _ rfl (Int.not_lt.mp q2) (Int.not_le.mp q3) (Int.not_lt.mp q4)); And.intro k5 ((have k6 := (o2 _ rfl (Int.not_lt.mp q2) (Int.not_le.mp q3) (Int.not_lt.mp q4)); And.intro k6 ((c_rsA  (o3 _ rfl (Int.not_lt.mp q2) (Int.not_le.mp q3) (Int.not_lt.mp q4)) (And.intro ret0 ⟨rfl, _, rfl, (l4 _ rfl (Int.not_lt.mp q2) (Int.not_le.mp q3) (Int.not_lt.mp q4) _ rfl)⟩))))))))⟩))))))
theorem v_rst_0 {n : Nat}  (j : Int) {σ : Mm} {P : Int → Mm → Prop} (o1 : (0 : Int) ≤ j → j < (gi σ 5 0) → (0 ≤ j ∧ j < 5)) (o2 : (0 : Int) ≤ j → j < (gi σ 5 0) → (0 ≤ (gi σ 45 j.toNat) ∧ (gi σ 45 j.toNat) < 5)) (l1 : j < (0 : Int) → P (-1) σ) (l2 : (0 : Int) ≤ j → (gi σ 5 0) ≤ j → P (-1) σ) (l3 : (0 : Int) ≤ j → j < (gi σ 5 0) → ∀ x5 : Int, x5 = gi σ 46 (gi σ 45 j.toNat).toNat → R 132 33 [some (vr 3), some (vi j), some (vi x5), some (vi 0), some (vi 0), none] [] (shF n) 0 0 σ (Qi (shF n) P)) : Ci 132 [vr 3, vi j] (shF n) σ P :=
  show R 132 0 [some (vr 3), some (vi j), none, none, none, none] [] (shF n) 0 0 σ (Qi (shF n) P) from wpK_R 19 [33, 42] ((show R 103 0 [some (vr 3), _] [] (shF n) 0 0 _ _ from wpK_R 10 [] (And.intro (fun q1 => And.intro ret0 (And.intro (Or.inl rfl) ⟨rfl, _, rfl, And.intro (fun q => absurd q (show ¬ ((0 : Int) ≠ 0) by decide)) (fun _ => And.intro ret0 ⟨rfl, _, rfl, (l1 q1)⟩)⟩)) (fun q1 => And.intro (fun q2 => And.intro ret0 (And.intro (Or.inl rfl) ⟨rfl, _, rfl, And.intro (fun q => absurd q (show ¬ ((0 : Int) ≠ 0) by decide)) (fun _ => And.intro ret0 ⟨rfl, _, rfl, (l2 (Int.not_lt.mp q1) q2)⟩)⟩)) (fun q2 => And.intro ret0 (And.intro (Or.inr rfl) ⟨rfl, _, rfl, And.intro (fun _ => (have k3 := (o1 (Int.not_lt.mp q1) (Int.not_le.mp q2)); And.intro k3 ((have k4 := (o2 (Int.not_lt.mp q1) (Int.not_le.mp q2)); And.intro k4 ((l3 (Int.not_lt.mp q1) (Int.not_le.mp q2) _ rfl)))))) (fun q => absurd (show (1 : Int) ≠ 0 by decide) q)⟩))))))
theorem v_rst_A {n : Nat}  (j : Int) (f : Int) (c : Int) (a : Nat) (u : Option PV) {σ : Mm} {P : Int → Mm → Prop} (l1 : (4 : Int) < (a : Int) → P c σ) (l2 : (a : Int) ≤ (4 : Int) → R 132 42 [some (vr 3), some (vi j), some (vi f), some (vi c), some (vi (a : Int)), some (vi 0)] [] (shF n) 0 0 σ (Qi (shF n) P)) : R 132 33 [some (vr 3), some (vi j), some (vi f), some (vi c), some (vi (a : Int)), u] [] (shF n) 0 0 σ (Qi (shF n) P) :=
  wpK_R 6 [33, 42] (And.intro (fun q1 => And.intro ret0 ⟨rfl, _, rfl, (l1 q1)⟩) (fun q1 => (l2 (Int.not_lt.mp q1))))
theorem v_rst_B {n : Nat}  (j : Int) (f : Int) (c : Int) (a : Nat) (b : Nat) {σ : Mm} {P : Int → Mm → Prop} (o1 : (4 : Int) < (b : Int) → rg ((a : Int) + 1)) (o2 : (b : Int) ≤ (4 : Int) → (0 ≤ f ∧ f ≤ 8)) (o3 : (b : Int) ≤ (4 : Int) → (0 ≤ (a : Int) ∧ (a : Int) ≤ 9)) (o4 : (b : Int) ≤ (4 : Int) → (0 ≤ (b : Int) ∧ (b : Int) ≤ 9)) (o5 : (b : Int) ≤ (4 : Int) → ∀ x3 : Int, x3 = b2i (alB (rsW f (a : Int) (b : Int)) 5) → x3 = (0 : Int) → rg ((b : Int) + 1)) (o6 : (b : Int) ≤ (4 : Int) → ∀ x3 : Int, x3 = b2i (alB (rsW f (a : Int) (b : Int)) 5) → x3 ≠ (0 : Int) → rg (c + 1)) (o7 : (b : Int) ≤ (4 : Int) → ∀ x3 : Int, x3 = b2i (alB (rsW f (a : Int) (b : Int)) 5) → x3 ≠ (0 : Int) → ∀ x7 : Int, x7 = c + 1 → rg ((b : Int) + 1)) (l1 : (4 : Int) < (b : Int) → R 132 33 [some (vr 3), some (vi j), some (vi f), some (vi c), some (vi ((a : Int) + 1)), some (vi (b : Int))] [] (shF n) 0 0 σ (Qi (shF n) P)) (l2 : (b : Int) ≤ (4 : Int) → ∀ x3 : Int, x3 = b2i (alB (rsW f (a : Int) (b : Int)) 5) → x3 = (0 : Int) → R 132 42 [some (vr 3), some (vi j), some (vi f), some (vi c), some (vi (a : Int)), some (vi ((b : Int) + 1))] [] (shF n) 0 0 σ (Qi (shF n) P)) (l3 : (b : Int) ≤ (4 : Int) → ∀ x3 : Int, x3 = b2i (alB (rsW f (a : Int) (b : Int)) 5) → x3 ≠ (0 : Int) → ∀ x7 : Int, x7 = c + 1 → R 132 42 [some (vr 3), some (vi j), some (vi f), some (vi x7), some (vi (a : Int)), some (vi ((b : Int) + 1))] [] (shF n) 0 0 σ (Qi (shF n) P)) : R 132 42 [some (vr 3), some (vi j), some (vi f), some (vi c), some (vi (a : Int)), some (vi (b : Int))] [] (shF n) 0 0 σ (Qi (shF n) P) :=
  wpK_R 12 [33, 42] (And.intro (fun q1 => (have k2 := (o1 q1); And.intro k2 ((l1 q1)))) (fun q1 => (c_isR  (o2 (Int.not_lt.mp q1)) (o3 (Int.not_lt.mp q1)) (o4 (Int.not_lt.mp q1)) (And.intro (fun q4 => (have k5 := (o5 (Int.not_lt.mp q1) _ rfl q4); And.intro k5 ((l2 (Int.not_lt.mp q1) _ rfl q4)))) (fun q4 => (have k6 := (o6 (Int.not_lt.mp q1) _ rfl q4); And.intro k6 ((have k8 := (o7 (Int.not_lt.mp q1) _ rfl q4 _ rfl); And.intro k8 ((l3 (Int.not_lt.mp q1) _ rfl q4 _ rfl))))))))))
theorem v_rs_0 {n : Nat}  (j : Int) (k : Int) {σ : Mm} {P : Int → Mm → Prop} (o1 : (0 : Int) ≤ j → j < (gi σ 5 0) → (0 : Int) ≤ k → (0 ≤ j ∧ j < 5)) (o2 : (0 : Int) ≤ j → j < (gi σ 5 0) → (0 : Int) ≤ k → (0 ≤ (gi σ 45 j.toNat) ∧ (gi σ 45 j.toNat) < 5)) (l1 : j < (0 : Int) → P (-1) σ) (l2 : (0 : Int) ≤ j → (gi σ 5 0) ≤ j → P (-1) σ) (l3 : (0 : Int) ≤ j → j < (gi σ 5 0) → (0 : Int) ≤ k → ∀ x6 : Int, x6 = gi σ 46 (gi σ 45 j.toNat).toNat → R 133 38 [some (vr 3), some (vi j), some (vi k), some (vi x6), some (vi 0), some (vi 0), none] [] (shF n) 0 0 σ (Qi (shF n) P)) (l4 : (0 : Int) ≤ j → j < (gi σ 5 0) → k < (0 : Int) → P (-1) σ) : Ci 133 [vr 3, vi j, vi k] (shF n) σ P :=
  show R 133 0 [some (vr 3), some (vi j), some (vi k), none, none, none, none] [] (shF n) 0 0 σ (Qi (shF n) P) from wpK_R 21 [38, 47] ((show R 103 0 [some (vr 3), _] [] (shF n) 0 0 _ _ from wpK_R 10 [] (And.intro (fun q1 => And.intro ret0 (And.intro (Or.inl rfl) ⟨rfl, _, rfl, And.intro (fun _ => And.intro ret0 ⟨rfl, _, rfl, (l1 q1)⟩) (fun q => absurd (show (0 : Int) = 0 by decide) q)⟩)) (fun q1 => And.intro (fun q2 => And.intro ret0 (And.intro (Or.inl rfl) ⟨rfl, _, rfl, And.intro (fun _ => And.intro ret0 ⟨rfl, _, rfl, (l2 (Int.not_lt.mp q1) q2)⟩) (fun q => absurd (show (0 : Int) = 0 by decide) q)⟩)) (fun q2 => And.intro ret0 (And.intro (Or.inr rfl) ⟨rfl, _, rfl, And.intro (fun q => absurd q (show ¬ ((1 : Int) = 0) by decide)) (fun _ => And.intro (fun q3 => (have k4 := (o1 (Int.not_lt.mp q1) (Int.not_le.mp q2) q3); And.intro k4 ((have k5 := (o2 (Int.not_lt.mp q1) (Int.not_le.mp q2) q3); And.intro k5 ((l3 (Int.not_lt.mp q1) (Int.not_le.mp q2) q3 _ rfl)))))) (fun q3 => And.intro ret0 ⟨rfl, _, rfl, (l4 (Int.not_lt.mp q1) (Int.not_le.mp q2) (Int.not_le.mp q3))⟩))⟩))))))
theorem v_rs_A {n : Nat}  (j : Int) (k : Int) (f : Int) (c : Int) (a : Nat) (u : Option PV) {σ : Mm} {P : Int → Mm → Prop} (l1 : (4 : Int) < (a : Int) → P (-2) σ) (l2 : (a : Int) ≤ (4 : Int) → R 133 47 [some (vr 3), some (vi j), some (vi k), some (vi f), some (vi c), some (vi (a : Int)), some (vi 0)] [] (shF n) 0 0 σ (Qi (shF n) P)) : R 133 38 [some (vr 3), some (vi j), some (vi k), some (vi f), some (vi c), some (vi (a : Int)), u] [] (shF n) 0 0 σ (Qi (shF n) P) :=
  wpK_R 6 [38, 47] (And.intro (fun q1 => And.intro ret0 ⟨rfl, _, rfl, (l1 q1)⟩) (fun q1 => (l2 (Int.not_lt.mp q1))))
theorem v_rs_B {n : Nat}  (j : Int) (k : Int) (f : Int) (c : Int) (a : Nat) (b : Nat) {σ : Mm} {P : Int → Mm → Prop} (o1 : (4 : Int) < (b : Int) → rg ((a : Int) + 1)) (o2 : (b : Int) ≤ (4 : Int) → (0 ≤ f ∧ f ≤ 8)) (o3 : (b : Int) ≤ (4 : Int) → (0 ≤ (a : Int) ∧ (a : Int) ≤ 9)) (o4 : (b : Int) ≤ (4 : Int) → (0 ≤ (b : Int) ∧ (b : Int) ≤ 9)) (o5 : (b : Int) ≤ (4 : Int) → ∀ x3 : Int, x3 = b2i (alB (rsW f (a : Int) (b : Int)) 5) → x3 = (0 : Int) → rg ((b : Int) + 1)) (o6 : (b : Int) ≤ (4 : Int) → ∀ x3 : Int, x3 = b2i (alB (rsW f (a : Int) (b : Int)) 5) → x3 ≠ (0 : Int) → c ≠ k → rg (c + 1)) (o7 : (b : Int) ≤ (4 : Int) → ∀ x3 : Int, x3 = b2i (alB (rsW f (a : Int) (b : Int)) 5) → x3 ≠ (0 : Int) → c ≠ k → ∀ x8 : Int, x8 = c + 1 → rg ((b : Int) + 1)) (o8 : (b : Int) ≤ (4 : Int) → ∀ x3 : Int, x3 = b2i (alB (rsW f (a : Int) (b : Int)) 5) → x3 ≠ (0 : Int) → c = k → rg ((10 : Int) * (a : Int))) (o9 : (b : Int) ≤ (4 : Int) → ∀ x3 : Int, x3 = b2i (alB (rsW f (a : Int) (b : Int)) 5) → x3 ≠ (0 : Int) → c = k → rg (((10 : Int) * (a : Int)) + (b : Int))) (l1 : (4 : Int) < (b : Int) → R 133 38 [some (vr 3), some (vi j), some (vi k), some (vi f), some (vi c), some (vi ((a : Int) + 1)), some (vi (b : Int))] [] (shF n) 0 0 σ (Qi (shF n) P)) (l2 : (b : Int) ≤ (4 : Int) → ∀ x3 : Int, x3 = b2i (alB (rsW f (a : Int) (b : Int)) 5) → x3 = (0 : Int) → R 133 47 [some (vr 3), some (vi j), some (vi k), some (vi f), some (vi c), some (vi (a : Int)), some (vi ((b : Int) + 1))] [] (shF n) 0 0 σ (Qi (shF n) P)) (l3 : (b : Int) ≤ (4 : Int) → ∀ x3 : Int, x3 = b2i (alB (rsW f (a : Int) (b : Int)) 5) → x3 ≠ (0 : Int) → c ≠ k → ∀ x8 : Int, x8 = c + 1 → R 133 47 [some (vr 3), some (vi j), some (vi k), some (vi f), some (vi x8), some (vi (a : Int)), some (vi ((b : Int) + 1))] [] (shF n) 0 0 σ (Qi (shF n) P)) (l4 : (b : Int) ≤ (4 : Int) → ∀ x3 : Int, x3 = b2i (alB (rsW f (a : Int) (b : Int)) 5) → x3 ≠ (0 : Int) → c = k → P (((10 : Int) * (a : Int)) + (b : Int)) σ) : R 133 47 [some (vr 3), some (vi j), some (vi k), some (vi f), some (vi c), some (vi (a : Int)), some (vi (b : Int))] [] (shF n) 0 0 σ (Qi (shF n) P) :=
  wpK_R 17 [38, 47] (And.intro (fun q1 => (have k2 := (o1 q1); And.intro k2 ((l1 q1)))) (fun q1 => (c_isR  (o2 (Int.not_lt.mp q1)) (o3 (Int.not_lt.mp q1)) (o4 (Int.not_lt.mp q1)) (And.intro (fun q4 => (have k5 := (o5 (Int.not_lt.mp q1) _ rfl q4); And.intro k5 ((l2 (Int.not_lt.mp q1) _ rfl q4)))) (fun q4 => And.intro (fun q6 => (have k7 := (o6 (Int.not_lt.mp q1) _ rfl q4 q6); And.intro k7 ((have k9 := (o7 (Int.not_lt.mp q1) _ rfl q4 q6 _ rfl); And.intro k9 ((l3 (Int.not_lt.mp q1) _ rfl q4 q6 _ rfl)))))) (fun q6 => (have k10 := (o8 (Int.not_lt.mp q1) _ rfl q4 (Classical.not_not.mp q6)); And.intro k10 ((have k11 := (o9 (Int.not_lt.mp q1) _ rfl q4 (Classical.not_not.mp q6)); And.intro k11 (And.intro ret0 ⟨rfl, _, rfl, (l4 (Int.not_lt.mp q1) _ rfl q4 (Classical.not_not.mp q6))⟩))))))))))
theorem q_rests {xs : Nat → Int} {N n : Nat} {σ : Mm} (h : Rel xs N σ) (j : Int) : Bi xs N n 132 [vr 3, vi j] 248 [vr 85, vi j] σ := by
  refine Bi_of (f := fun s => if 0 ≤ j ∧ j < gi s 5 0 then rsQ (gi s 46 (gi s 45 j.toNat).toNat) (-1) 25 else -1) ?_ ?_
  · obtain ⟨c0, c1, c2, c3, c5, d0, d1, d2, d3, -⟩ := Rel_cnt h
    have hj := fun q : (j.toNat : Int) < gi σ 5 0 => Rel_j h q
    have hw := fun q : (j.toNat : Int) < gi σ 5 0 => Rel_w5 h (j := (gi σ 45 j.toNat).toNat) (by have := hj q; omega)
    refine v_rst_0 j (by intros; first | omega | (have q := hj (by omega); omega) | (have q := hj (by omega); have q2 := hw (by omega); omega)) (by intros; first | omega | (have q := hj (by omega); omega) | (have q := hj (by omega); have q2 := hw (by omega); omega)) ?_ ?_ ?_
    · intros; exact ⟨h, by rw [if_neg (by omega)]⟩
    · intros; exact ⟨h, by rw [if_neg (by omega)]⟩
    · intro h1 h2 f hf
      have hfr : 0 ≤ f ∧ f ≤ 8 := by have q := hw (by omega); omega
      have hend : Rel xs N σ ∧ cnt (rsG f) 25 = (if 0 ≤ j ∧ j < gi σ 5 0 then rsQ (gi σ 46 (gi σ 45 j.toNat).toNat) (-1) 25 else -1) := ⟨h, by rw [if_pos ⟨h1, h2⟩, rsQ_m1, hf]⟩
      suffices hI : ∀ (u : Option PV), R 132 33 [some (vr 3), some (vi j), some (vi f), some (vi (cnt (rsG f) (5 * 0))), some (vi ((0 : Nat) : Int)), u] [] (shF n) 0 0 σ (Qi (shF n) (fun v s => Rel xs N s ∧ v = (if 0 ≤ j ∧ j < gi s 5 0 then rsQ (gi s 46 (gi s 45 j.toNat).toNat) (-1) 25 else -1))) from hI none
      refine loopUp (N := 5) (I := fun a => ∀ (u : Option PV), R 132 33 [some (vr 3), some (vi j), some (vi f), some (vi (cnt (rsG f) (5 * a))), some (vi (a : Int)), u] [] (shF n) 0 0 σ (Qi (shF n) (fun v s => Rel xs N s ∧ v = (if 0 ≤ j ∧ j < gi s 5 0 then rsQ (gi s 46 (gi s 45 j.toNat).toNat) (-1) 25 else -1)))) (fun a ha ih => ?_) 0 (by omega)
      intro u
      refine v_rst_A j f _ a u ?_ ?_
      · intro hge
        rw [show 5 * a = 25 by omega]
        exact hend
      · intro hlt
        refine loopUp (N := 5) (I := fun b => R 132 42 [some (vr 3), some (vi j), some (vi f), some (vi (cnt (rsG f) (5 * a + b))), some (vi (a : Int)), some (vi (b : Int))] [] (shF n) 0 0 σ (Qi (shF n) (fun v s => Rel xs N s ∧ v = (if 0 ≤ j ∧ j < gi s 5 0 then rsQ (gi s 46 (gi s 45 j.toNat).toNat) (-1) 25 else -1)))) (fun b hb ih2 => ?_) 0 (by omega)
        have hcn := cnt_in (rsG f) (5 * a + b)
        refine v_rst_B j f _ a b (by intros; first | omega | (unfold rg; omega)) (by intros; first | omega | (unfold rg; omega)) (by intros; first | omega | (unfold rg; omega)) (by intros; first | omega | (unfold rg; omega)) (by intros; first | omega | (unfold rg; omega)) (by intros; first | omega | (unfold rg; omega)) (by intros; first | omega | (unfold rg; omega)) ?_ ?_ ?_
        · intro hge
          refine R_eq (ih (by omega) (some (vi (b : Int)))) ?_
          rw [show 5 * (a + 1) = 5 * a + b by omega]
          rfl
        · intro hle x3 hx3 hz
          refine R_eq (ih2 (by omega)) ?_
          rw [show 5 * a + (b + 1) = (5 * a + b) + 1 by omega, cnt_s, rsG_ab (by omega), ← hx3, hz, Int.add_zero]
          rfl
        · intro hle x3 hx3 hz x7 hx7
          refine R_eq (ih2 (by omega)) ?_
          rw [show 5 * a + (b + 1) = (5 * a + b) + 1 by omega, cnt_s, rsG_ab (by omega), b2t (fun q => hz (hx3.trans q)), hx7]
          rfl
  · intro σ h
    obtain ⟨c0, c1, c2, c3, c5, d0, d1, d2, d3, -⟩ := Rel_cnt h
    have hj := fun q : (j.toNat : Int) < gi σ 5 0 => Rel_j h q
    have hw := fun q : (j.toNat : Int) < gi σ 5 0 => Rel_w5 h (j := (gi σ 45 j.toNat).toNat) (by have := hj q; omega)
    have e1 := fun q : (j.toNat : Int) < gi σ 5 0 => (Rel_w5 h (j := j.toNat) (by omega)).1
    refine v_rstR j (by intros; first | omega | (rw [e1 (by omega)]; have q := hj (by omega); have q2 := hw (by omega); omega)) (by intros; first | omega | (rw [e1 (by omega)]; have q := hj (by omega); have q2 := hw (by omega); omega)) (by intros; first | omega | (rw [e1 (by omega)]; have q := hj (by omega); have q2 := hw (by omega); omega)) ?_ ?_ ?_
    · intro t1 ht; intros; rw [ht]; exact ⟨by rw [if_neg (by omega)], Rel_th h⟩
    · intro t1 ht; intros; rw [ht]; exact ⟨by rw [if_neg (by omega)], Rel_th h⟩
    · intro t1 ht h1 h2 x6 hx6
      rw [ht, hx6]
      refine ⟨?_, Rel_th h⟩
      rw [if_pos (by omega), e1 (by omega), (hw (by omega)).2.2.1]
theorem q_rest {xs : Nat → Int} {N n : Nat} {σ : Mm} (h : Rel xs N σ) (j k : Int) : Bi xs N n 133 [vr 3, vi j, vi k] 249 [vr 85, vi j, vi k] σ := by
  refine Bi_of (f := fun s => if (0 ≤ j ∧ j < gi s 5 0) ∧ 0 ≤ k then rsQ (gi s 46 (gi s 45 j.toNat).toNat) k 25 else -1) ?_ ?_
  · obtain ⟨c0, c1, c2, c3, c5, d0, d1, d2, d3, -⟩ := Rel_cnt h
    have hj := fun q : (j.toNat : Int) < gi σ 5 0 => Rel_j h q
    have hw := fun q : (j.toNat : Int) < gi σ 5 0 => Rel_w5 h (j := (gi σ 45 j.toNat).toNat) (by have := hj q; omega)
    refine v_rs_0 j k (by intros; first | omega | (have q := hj (by omega); omega) | (have q := hj (by omega); have q2 := hw (by omega); omega)) (by intros; first | omega | (have q := hj (by omega); omega) | (have q := hj (by omega); have q2 := hw (by omega); omega)) ?_ ?_ ?_ ?_
    · intros; exact ⟨h, by rw [if_neg (by omega)]⟩
    · intros; exact ⟨h, by rw [if_neg (by omega)]⟩
    · intro h1 h2 h3 f hf
      have hfr : 0 ≤ f ∧ f ≤ 8 := by have q := hw (by omega); omega
      have hend : ∀ v, v = rsQ f k 25 → Rel xs N σ ∧ v = (if (0 ≤ j ∧ j < gi σ 5 0) ∧ 0 ≤ k then rsQ (gi σ 46 (gi σ 45 j.toNat).toNat) k 25 else -1) := fun v hv => ⟨h, by rw [if_pos ⟨⟨h1, h2⟩, h3⟩, hv, hf]⟩
      suffices hI : ∀ (u : Option PV), rsQ f k (25 - 5 * 0) = rsQ f k 25 → R 133 38 [some (vr 3), some (vi j), some (vi k), some (vi f), some (vi (cnt (rsG f) (5 * 0))), some (vi ((0 : Nat) : Int)), u] [] (shF n) 0 0 σ (Qi (shF n) (fun v s => Rel xs N s ∧ v = (if (0 ≤ j ∧ j < gi s 5 0) ∧ 0 ≤ k then rsQ (gi s 46 (gi s 45 j.toNat).toNat) k 25 else -1))) from hI none rfl
      refine loopUp (N := 5) (I := fun a => ∀ (u : Option PV), rsQ f k (25 - 5 * a) = rsQ f k 25 → R 133 38 [some (vr 3), some (vi j), some (vi k), some (vi f), some (vi (cnt (rsG f) (5 * a))), some (vi (a : Int)), u] [] (shF n) 0 0 σ (Qi (shF n) (fun v s => Rel xs N s ∧ v = (if (0 ≤ j ∧ j < gi s 5 0) ∧ 0 ≤ k then rsQ (gi s 46 (gi s 45 j.toNat).toNat) k 25 else -1)))) (fun a ha ih => ?_) 0 (by omega)
      intro u he
      refine v_rs_A j k f _ a u ?_ ?_
      · intro hge
        refine hend _ ?_
        rw [← he, show 25 - 5 * a = 0 by omega]
        simp only [rsQ]
        rw [if_neg (by omega)]
      · intro hlt
        refine loopUp (N := 5) (I := fun b => rsQ f k (25 - (5 * a + b)) = rsQ f k 25 → R 133 47 [some (vr 3), some (vi j), some (vi k), some (vi f), some (vi (cnt (rsG f) (5 * a + b))), some (vi (a : Int)), some (vi (b : Int))] [] (shF n) 0 0 σ (Qi (shF n) (fun v s => Rel xs N s ∧ v = (if (0 ≤ j ∧ j < gi s 5 0) ∧ 0 ≤ k then rsQ (gi s 46 (gi s 45 j.toNat).toNat) k 25 else -1)))) (fun b hb ih2 => ?_) 0 (by omega) he
        intro he
        have hcn := cnt_in (rsG f) (5 * a + b)
        have hs := fun q : b < 5 => rsQ_s (f := f) (w := k) (g := 5 * a + b) (by omega)
        refine v_rs_B j k f _ a b (by intros; first | omega | (unfold rg; omega)) (by intros; first | omega | (unfold rg; omega)) (by intros; first | omega | (unfold rg; omega)) (by intros; first | omega | (unfold rg; omega)) (by intros; first | omega | (unfold rg; omega)) (by intros; first | omega | (unfold rg; omega)) (by intros; first | omega | (unfold rg; omega)) (by intros; first | omega | (unfold rg; omega)) (by intros; first | omega | (unfold rg; omega)) ?_ ?_ ?_ ?_
        · intro hge
          refine R_eq (ih (by omega) (some (vi (b : Int))) (by rw [show 5 * (a + 1) = 5 * a + b by omega]; exact he)) ?_
          rw [show 5 * (a + 1) = 5 * a + b by omega]
          rfl
        · intro hle x3 hx3 hz
          have hG : rsG f (5 * a + b) = false := by rw [rsG_ab (by omega)]; exact b2f (hx3.symm.trans hz)
          have hs' := hs (by omega)
          rw [if_neg (fun q => by rw [hG] at q; exact Bool.false_ne_true q.1)] at hs'
          refine R_eq (ih2 (by omega) (by rw [show 5 * a + (b + 1) = (5 * a + b) + 1 by omega, ← hs']; exact he)) ?_
          rw [show 5 * a + (b + 1) = (5 * a + b) + 1 by omega, cnt_s, hG, b2i_f, Int.add_zero]
          rfl
        · intro hle x3 hx3 hz hne x7 hx7
          have hG : rsG f (5 * a + b) = true := by rw [rsG_ab (by omega)]; exact b2t (fun q => hz (hx3.trans q))
          have hs' := hs (by omega)
          rw [if_neg (fun q => hne q.2)] at hs'
          refine R_eq (ih2 (by omega) (by rw [show 5 * a + (b + 1) = (5 * a + b) + 1 by omega, ← hs']; exact he)) ?_
          rw [show 5 * a + (b + 1) = (5 * a + b) + 1 by omega, cnt_s, hG, hx7]
          rfl
        · intro hle x3 hx3 hz hne
          have hG : rsG f (5 * a + b) = true := by rw [rsG_ab (by omega)]; exact b2t (fun q => hz (hx3.trans q))
          have hs' := hs (by omega)
          rw [if_pos ⟨hG, hne⟩] at hs'
          refine hend _ ?_
          rw [← he, hs']
          omega
    · intros; exact ⟨h, by rw [if_neg (by omega)]⟩
  · intro σ h
    obtain ⟨c0, c1, c2, c3, c5, d0, d1, d2, d3, -⟩ := Rel_cnt h
    have hj := fun q : (j.toNat : Int) < gi σ 5 0 => Rel_j h q
    have hw := fun q : (j.toNat : Int) < gi σ 5 0 => Rel_w5 h (j := (gi σ 45 j.toNat).toNat) (by have := hj q; omega)
    have e1 := fun q : (j.toNat : Int) < gi σ 5 0 => (Rel_w5 h (j := j.toNat) (by omega)).1
    refine v_rsR j k (by intros; first | omega | (rw [e1 (by omega)]; have q := hj (by omega); have q2 := hw (by omega); omega)) (by intros; first | omega | (rw [e1 (by omega)]; have q := hj (by omega); have q2 := hw (by omega); omega)) (by intros; first | omega | (rw [e1 (by omega)]; have q := hj (by omega); have q2 := hw (by omega); omega)) ?_ ?_ ?_ ?_
    · intro t1 ht; intros; rw [ht]; exact ⟨by rw [if_neg (by omega)], Rel_th h⟩
    · intro t1 ht; intros; rw [ht]; exact ⟨by rw [if_neg (by omega)], Rel_th h⟩
    · intro t1 ht; intros; rw [ht]; exact ⟨by rw [if_neg (by omega)], Rel_th h⟩
    · intro t1 ht h1 h2 h3 x6 hx6
      rw [ht, hx6]
      refine ⟨?_, Rel_th h⟩
      rw [if_pos (by omega), e1 (by omega), (hw (by omega)).2.2.1]
