/-! QUERY: ahead -/
theorem v_om {n : Nat}   {σ : Mm} {P : Int → Mm → Prop} (o1 : ∀ x1 : Int, x1 = cnt (fun q => decide (gi σ 53 q = (2 : Int))) 10 → ∀ x2 : Int, x2 = cnt (fun q => decide (gi σ 44 q = (2 : Int))) 10 → rg (x1 - x2)) (l1 : ∀ x1 : Int, x1 = cnt (fun q => decide (gi σ 53 q = (2 : Int))) 10 → ∀ x2 : Int, x2 = cnt (fun q => decide (gi σ 44 q = (2 : Int))) 10 → P (x1 - x2) σ) : Ci 121 [vr 3] (shF n) σ P :=
  show R 121 0 [some (vr 3)] [] (shF n) 0 0 σ (Qi (shF n) P) from wpK_R 10 [] ((c_fated_49   ((c_fated_40   ((have k3 := (o1 _ rfl _ rfl); And.intro k3 (And.intro ret0 ⟨rfl, _, rfl, (l1 _ rfl _ rfl)⟩)))))))
theorem c_om {n : Nat} {σ : Mm} {P : Int → Mm → Prop} (hP : P (cnt (fun q => decide (gi σ 53 q = 2)) 10 - cnt (fun q => decide (gi σ 44 q = 2)) 10) σ) : Ci 121 [vr 3] (shF n) σ P := by
  have h1 := cnt_in (fun q => decide (gi σ 53 q = 2)) 10
  have h2 := cnt_in (fun q => decide (gi σ 44 q = 2)) 10
  refine v_om (by intros; unfold rg; omega) ?_
  intros; subst_vars; exact hP
theorem airN_m8 {T V : Nat → Nat → Int} {u i x : Nat} (h : bi (V 8 i) x = true) : ∀ m, bi (airN T V u m 8 i) x = true := by
  intro m
  induction m with
  | zero => exact h
  | succ m ih =>
    simp only [airN, stepA, tellV]
    rw [if_neg (by omega), if_pos trivial]
    split
    · rw [bi_or, ih]; rfl
    · exact ih
theorem airJ_m8 {T V : Nat → Nat → Int} {mo bt : Int} {ai : Nat → Bool} {i x : Nat} (h : bi (V 8 i) x = true) : ∀ j, bi (airJ T V mo bt ai j 8 i) x = true := by
  intro j
  induction j with
  | zero => exact h
  | succ j ih =>
    simp only [airJ]
    split
    · simp only [airU]
      rw [if_neg (by omega)]
      exact airN_m8 ih _
    · exact ih
theorem dayV_m8 {T V : Nat → Nat → Int} {mo bt df : Int} {fr : Bool} {ai : Nat → Bool} {i x : Nat} (h : bi (V 8 i) x = true) : bi (dayV T V mo bt df fr ai 8 i) x = true := by
  have h' : bi (hearsV T V mo df fr (T 0 1).toNat 8 i) x = true := by rw [hearsV_at (by omega) (by omega) (by omega) (by omega) (by omega)]; exact h
  simp only [dayV]
  rw [if_neg (by omega)]
  split
  · exact airJ_m8 h' _
  · exact h'
theorem daysK_m8 {T V : Nat → Nat → Int} {dm bt df : Int} {fr : Bool} {ai : Nat → Bool} {i x : Nat} (h : bi (V 8 i) x = true) : ∀ k, bi (daysK T dm bt df fr ai V k 8 i) x = true := by
  intro k
  induction k with
  | zero => exact h
  | succ k ih => exact dayV_m8 ih
theorem cnt_sub {a b : Int} (hab : ∀ x, x < 10 → bi b x = true → bi a x = true) : ∀ k, k ≤ 10 → cnt (bi (oand a (oxor b (-1)))) k = cnt (bi a) k - cnt (bi b) k := by
  intro k
  induction k with
  | zero => intro _; rfl
  | succ k ih =>
    intro hk
    rw [cnt_s, cnt_s, cnt_s, ih (by omega), bi_and, bi_not (by omega)]
    have := hab k (by omega)
    cases ha : bi a k <;> cases hb : bi b k <;> rw [ha, hb] at this
    · simp [b2i]
    · exact absurd (this rfl) Bool.false_ne_true
    · simp [b2i]; omega
    · simp [b2i]; omega
def B8 (V : Nat → Nat → Int) : Prop := ∀ i, i < 5 → 0 ≤ V 8 i ∧ V 8 i < 1024
theorem B8_airN {T V : Nat → Nat → Int} (hC : T 0 1 ≤ 10) (h : SI T V) (h8 : B8 V) {u : Nat} (hu : u < 5) : ∀ m : Nat, (m : Int) ≤ V 6 u → B8 (airN T V u m) := by
  intro m
  induction m with
  | zero => intro _; exact h8
  | succ m ih =>
    intro hm i hi
    have ih := ih (by omega) i hi
    have h3 := h.2.2.1 u hu
    have h4 := h.2.2.2.1 u ((V 6 u).toNat - 1 - m) hu (by omega)
    simp only [airN, stepA, tellV]
    rw [if_neg (by omega), if_pos trivial]
    split
    · rw [show airN T V u m 7 = V 7 from airN_other (by omega) (by omega) m]
      exact oor_bnd (N := 10) (by omega) ih (by omega)
    · exact ih
theorem B8_airJ {T V : Nat → Nat → Int} (hb : BkOK T) (h : SI T V) (h8 : B8 V) {mo bt : Int} {ai : Nat → Bool} : ∀ j : Nat, (j : Int) ≤ T 0 0 → B8 (airJ T V mo bt ai j) := by
  intro j
  induction j with
  | zero => intro _; exact h8
  | succ j ih =>
    intro hj
    have ih := ih (by omega)
    have hs := SI_airJ hb h (mo := mo) (bt := bt) (ai := ai) j (by omega)
    have h5 := h.2.1 j (by omega)
    have hJ := hb.1
    simp only [airJ]
    split
    · have := B8_airN hb.2.1.2 hs ih (u := (V 5 j).toNat) (by omega) _ (outN_le (T := T) (mo := mo) (bt := bt) (j := j) (hs.2.2.1 _ (by omega)).1)
      intro i hi
      simp only [airU]
      rw [if_neg (by omega)]
      exact this i hi
    · exact ih
theorem B8_day {T V : Nat → Nat → Int} (hb : BkOK T) (h : SI T V) (h8 : B8 V) {mo bt df : Int} {fr : Bool} {ai : Nat → Bool} : B8 (dayV T V mo bt df fr ai) := by
  have hU := SI_hears hb h (mo := mo) (df := df) (fr := fr) (T 0 1).toNat (by have := hb.2.1; omega)
  have h8' : B8 (hearsV T V mo df fr (T 0 1).toNat) := fun i hi => by rw [hearsV_at (by omega) (by omega) (by omega) (by omega) (by omega)]; exact h8 i hi
  intro i hi
  simp only [dayV]
  rw [if_neg (by omega)]
  split
  · exact B8_airJ hb hU h8' _ (by have := hb.1; omega) i hi
  · exact h8' i hi
theorem B8_days {T V : Nat → Nat → Int} (hb : BkOK T) (h : SI T V) (h8 : B8 V) {dm bt df : Int} {fr : Bool} {ai : Nat → Bool} : ∀ k, B8 (daysK T dm bt df fr ai V k) := by
  intro k
  induction k with
  | zero => exact h8
  | succ k ih => exact B8_day hb (SI_days hb h k) ih
theorem rg_sub {a b x y : Int} (h1 : 0 ≤ a ∧ a ≤ x) (h2 : 0 ≤ b ∧ b ≤ y) (hx : x ≤ 10) (hy : y ≤ 10) : rg (a - b) := by unfold rg; omega
def ahV (T V U : Nat → Nat → Int) (w : Int) : Int := if w = 0 then cnt (fun q => decide (U 3 q = 1)) (T 0 1).toNat - cnt (fun q => decide (V 3 q = 1)) (T 0 1).toNat else if w = 1 then cnt (bi (knO (U 8) (T 0 2).toNat)) 10 - cnt (bi (knO (V 8) (T 0 2).toNat)) 10 else if w = 2 then cnt (fun q => decide (U 4 q = 3)) 10 - cnt (fun q => decide (V 4 q = 3)) 10 else cnt (fun q => decide (U 4 q = 2)) 10 - cnt (fun q => decide (V 4 q = 2)) 10
theorem v_ahR {n : Nat} (T : Nat → Nat → Int) (V : Nat → Nat → Int) (m : Int) (w : Int) {σ : Mm} {P : Int → Mm → Prop} (o1 : ∀ t1 : Mm, t1 = si σ 85 2 (0 : Int) → (0 : Int) ≤ m → m ≤ (99 : Int) → (0 : Int) ≤ w → w ≤ (3 : Int) → KB t1) (o2 : ∀ t1 : Mm, t1 = si σ 85 2 (0 : Int) → (0 : Int) ≤ m → m ≤ (99 : Int) → (0 : Int) ≤ w → w ≤ (3 : Int) → ∀ s7 : Mm, Lt t1 s7 → GP T V s7 m) (o3 : ∀ t1 : Mm, t1 = si σ 85 2 (0 : Int) → (0 : Int) ≤ m → m ≤ (99 : Int) → (0 : Int) ≤ w → w ≤ (3 : Int) → ∀ s7 : Mm, Lt t1 s7 → ∀ s10 : Mm, GM T V m s7 s10 → (w < 0 ∨ 2 < w) → rg ((gi s10 121 1) - (gi s10 121 0))) (o4 : ∀ t1 : Mm, t1 = si σ 85 2 (0 : Int) → (0 : Int) ≤ m → m ≤ (99 : Int) → (0 : Int) ≤ w → w ≤ (3 : Int) → ∀ s7 : Mm, Lt t1 s7 → ∀ s10 : Mm, GM T V m s7 s10 → w = 0 → (0 ≤ gi s10 85 13 ∧ gi s10 85 13 ≤ 10)) (o5 : ∀ t1 : Mm, t1 = si σ 85 2 (0 : Int) → (0 : Int) ≤ m → m ≤ (99 : Int) → (0 : Int) ≤ w → w ≤ (3 : Int) → ∀ s7 : Mm, Lt t1 s7 → ∀ s10 : Mm, GM T V m s7 s10 → w = 0 → 1 < 2) (o6 : ∀ t1 : Mm, t1 = si σ 85 2 (0 : Int) → (0 : Int) ≤ m → m ≤ (99 : Int) → (0 : Int) ≤ w → w ≤ (3 : Int) → ∀ s7 : Mm, Lt t1 s7 → ∀ s10 : Mm, GM T V m s7 s10 → w = 0 → ∀ x14 : Int, x14 = cnt (fun q => decide (gi s10 117 (10 * 1 + q) = 1)) (gi s10 85 13).toNat → (0 ≤ gi s10 85 13 ∧ gi s10 85 13 ≤ 10)) (o7 : ∀ t1 : Mm, t1 = si σ 85 2 (0 : Int) → (0 : Int) ≤ m → m ≤ (99 : Int) → (0 : Int) ≤ w → w ≤ (3 : Int) → ∀ s7 : Mm, Lt t1 s7 → ∀ s10 : Mm, GM T V m s7 s10 → w = 0 → ∀ x14 : Int, x14 = cnt (fun q => decide (gi s10 117 (10 * 1 + q) = 1)) (gi s10 85 13).toNat → 0 < 2) (o8 : ∀ t1 : Mm, t1 = si σ 85 2 (0 : Int) → (0 : Int) ≤ m → m ≤ (99 : Int) → (0 : Int) ≤ w → w ≤ (3 : Int) → ∀ s7 : Mm, Lt t1 s7 → ∀ s10 : Mm, GM T V m s7 s10 → w = 0 → ∀ x14 : Int, x14 = cnt (fun q => decide (gi s10 117 (10 * 1 + q) = 1)) (gi s10 85 13).toNat → ∀ x15 : Int, x15 = cnt (fun q => decide (gi s10 117 (10 * 0 + q) = 1)) (gi s10 85 13).toNat → rg (x14 - x15)) (o9 : ∀ t1 : Mm, t1 = si σ 85 2 (0 : Int) → (0 : Int) ≤ m → m ≤ (99 : Int) → (0 : Int) ≤ w → w ≤ (3 : Int) → ∀ s7 : Mm, Lt t1 s7 → ∀ s10 : Mm, GM T V m s7 s10 → w = 1 → (0 ≤ gi s10 85 14 ∧ gi s10 85 14 ≤ 5)) (o10 : ∀ t1 : Mm, t1 = si σ 85 2 (0 : Int) → (0 : Int) ≤ m → m ≤ (99 : Int) → (0 : Int) ≤ w → w ≤ (3 : Int) → ∀ s7 : Mm, Lt t1 s7 → ∀ s10 : Mm, GM T V m s7 s10 → w = 1 → 1 < 2) (o11 : ∀ t1 : Mm, t1 = si σ 85 2 (0 : Int) → (0 : Int) ≤ m → m ≤ (99 : Int) → (0 : Int) ≤ w → w ≤ (3 : Int) → ∀ s7 : Mm, Lt t1 s7 → ∀ s10 : Mm, GM T V m s7 s10 → w = 1 → ∀ x17 : Int, x17 = knO (fun q => gi s10 119 (5 * 1 + q)) (gi s10 85 14).toNat → ∀ x18 : Int, x18 = cnt (bi x17) 10 → (0 ≤ gi s10 85 14 ∧ gi s10 85 14 ≤ 5)) (o12 : ∀ t1 : Mm, t1 = si σ 85 2 (0 : Int) → (0 : Int) ≤ m → m ≤ (99 : Int) → (0 : Int) ≤ w → w ≤ (3 : Int) → ∀ s7 : Mm, Lt t1 s7 → ∀ s10 : Mm, GM T V m s7 s10 → w = 1 → ∀ x17 : Int, x17 = knO (fun q => gi s10 119 (5 * 1 + q)) (gi s10 85 14).toNat → ∀ x18 : Int, x18 = cnt (bi x17) 10 → 0 < 2) (o13 : ∀ t1 : Mm, t1 = si σ 85 2 (0 : Int) → (0 : Int) ≤ m → m ≤ (99 : Int) → (0 : Int) ≤ w → w ≤ (3 : Int) → ∀ s7 : Mm, Lt t1 s7 → ∀ s10 : Mm, GM T V m s7 s10 → w = 1 → ∀ x17 : Int, x17 = knO (fun q => gi s10 119 (5 * 1 + q)) (gi s10 85 14).toNat → ∀ x18 : Int, x18 = cnt (bi x17) 10 → ∀ x19 : Int, x19 = knO (fun q => gi s10 119 (5 * 0 + q)) (gi s10 85 14).toNat → ∀ x20 : Int, x20 = cnt (bi x19) 10 → rg (x18 - x20)) (o14 : ∀ t1 : Mm, t1 = si σ 85 2 (0 : Int) → (0 : Int) ≤ m → m ≤ (99 : Int) → (0 : Int) ≤ w → w ≤ (3 : Int) → ∀ s7 : Mm, Lt t1 s7 → ∀ s10 : Mm, GM T V m s7 s10 → w = 2 → rg ((gi s10 122 1) - (gi s10 122 0))) (l1 : ∀ t1 : Mm, t1 = si σ 85 2 (0 : Int) → m < (0 : Int) → P (-1) t1) (l2 : ∀ t1 : Mm, t1 = si σ 85 2 (0 : Int) → (0 : Int) ≤ m → (99 : Int) < m → P (-1) t1) (l3 : ∀ t1 : Mm, t1 = si σ 85 2 (0 : Int) → (0 : Int) ≤ m → m ≤ (99 : Int) → w < (0 : Int) → P (-1) t1) (l4 : ∀ t1 : Mm, t1 = si σ 85 2 (0 : Int) → (0 : Int) ≤ m → m ≤ (99 : Int) → (0 : Int) ≤ w → (3 : Int) < w → P (-1) t1) (l5 : ∀ t1 : Mm, t1 = si σ 85 2 (0 : Int) → (0 : Int) ≤ m → m ≤ (99 : Int) → (0 : Int) ≤ w → w ≤ (3 : Int) → ∀ s7 : Mm, Lt t1 s7 → ∀ s10 : Mm, GM T V m s7 s10 → (w < 0 ∨ 2 < w) → P ((gi s10 121 1) - (gi s10 121 0)) s10) (l6 : ∀ t1 : Mm, t1 = si σ 85 2 (0 : Int) → (0 : Int) ≤ m → m ≤ (99 : Int) → (0 : Int) ≤ w → w ≤ (3 : Int) → ∀ s7 : Mm, Lt t1 s7 → ∀ s10 : Mm, GM T V m s7 s10 → w = 0 → ∀ x14 : Int, x14 = cnt (fun q => decide (gi s10 117 (10 * 1 + q) = 1)) (gi s10 85 13).toNat → ∀ x15 : Int, x15 = cnt (fun q => decide (gi s10 117 (10 * 0 + q) = 1)) (gi s10 85 13).toNat → P (x14 - x15) s10) (l7 : ∀ t1 : Mm, t1 = si σ 85 2 (0 : Int) → (0 : Int) ≤ m → m ≤ (99 : Int) → (0 : Int) ≤ w → w ≤ (3 : Int) → ∀ s7 : Mm, Lt t1 s7 → ∀ s10 : Mm, GM T V m s7 s10 → w = 1 → ∀ x17 : Int, x17 = knO (fun q => gi s10 119 (5 * 1 + q)) (gi s10 85 14).toNat → ∀ x18 : Int, x18 = cnt (bi x17) 10 → ∀ x19 : Int, x19 = knO (fun q => gi s10 119 (5 * 0 + q)) (gi s10 85 14).toNat → ∀ x20 : Int, x20 = cnt (bi x19) 10 → P (x18 - x20) s10) (l8 : ∀ t1 : Mm, t1 = si σ 85 2 (0 : Int) → (0 : Int) ≤ m → m ≤ (99 : Int) → (0 : Int) ≤ w → w ≤ (3 : Int) → ∀ s7 : Mm, Lt t1 s7 → ∀ s10 : Mm, GM T V m s7 s10 → w = 2 → P ((gi s10 122 1) - (gi s10 122 0)) s10) : Ci 235 [vr 85, vi m, vi w] (shF n) σ P :=
  show R 235 0 [some (vr 85), some (vi m), some (vi w)] [] (shF n) 0 0 σ (Qi (shF n) P) from wpK_R 30 [] ((show R 157 0 [_, some (vi 0), some (vi 99)] [] (shF n) 0 0 _ _ from wpK_R 9 [] (And.intro (fun q2 => And.intro ret0 (And.intro (Or.inl rfl) ⟨rfl, _, rfl, And.intro (fun _ => And.intro ret0 ⟨rfl, _, rfl, (l1 _ rfl q2)⟩) (fun q => absurd (show (0 : Int) = 0 by decide) q)⟩)) (fun q2 => And.intro (fun q3 => And.intro ret0 (And.intro (Or.inl rfl) ⟨rfl, _, rfl, And.intro (fun _ => And.intro ret0 ⟨rfl, _, rfl, (l2 _ rfl (Int.not_lt.mp q2) q3)⟩) (fun q => absurd (show (0 : Int) = 0 by decide) q)⟩)) (fun q3 => And.intro ret0 (And.intro (Or.inr rfl) ⟨rfl, _, rfl, And.intro (fun q => absurd q (show ¬ ((1 : Int) = 0) by decide)) (fun _ => (show R 157 0 [_, some (vi 0), some (vi 3)] [] (shF n) 0 0 _ _ from wpK_R 9 [] (And.intro (fun q4 => And.intro ret0 (And.intro (Or.inl rfl) ⟨rfl, _, rfl, And.intro (fun q => absurd q (show ¬ ((0 : Int) ≠ 0) by decide)) (fun _ => And.intro ret0 ⟨rfl, _, rfl, (l3 _ rfl (Int.not_lt.mp q2) (Int.not_lt.mp q3) q4)⟩)⟩)) (fun q4 => And.intro (fun q5 => And.intro ret0 (And.intro (Or.inl rfl) ⟨rfl, _, rfl, And.intro (fun q => absurd q (show ¬ ((0 : Int) ≠ 0) by decide)) (fun _ => And.intro ret0 ⟨rfl, _, rfl, (l4 _ rfl (Int.not_lt.mp q2) (Int.not_lt.mp q3) (Int.not_lt.mp q4) q5)⟩)⟩)) (fun q5 => And.intro ret0 (And.intro (Or.inr rfl) ⟨rfl, _, rfl, And.intro (fun _ => (c_lyT  (o1 _ rfl (Int.not_lt.mp q2) (Int.not_lt.mp q3) (Int.not_lt.mp q4) (Int.not_lt.mp q5)) (fun s7 h8 => (c_goG (T := T) (V := V) (o2 _ rfl (Int.not_lt.mp q2) (Int.not_lt.mp q3) (Int.not_lt.mp q4) (Int.not_lt.mp q5) s7 h8) (fun s10 h11 => And.intro (fun q12 => And.intro (by decide) (And.intro (by decide) ((have k13 := (o3 _ rfl (Int.not_lt.mp q2) (Int.not_lt.mp q3) (Int.not_lt.mp q4) (Int.not_lt.mp q5) s7 h8 s10 h11 q12); And.intro k13 (And.intro ret0 ⟨rfl, _, rfl, (l5 _ rfl (Int.not_lt.mp q2) (Int.not_lt.mp q3) (Int.not_lt.mp q4) (Int.not_lt.mp q5) s7 h8 s10 h11 q12)⟩))))) (And.intro (fun q12 => (c_guR (b := 1) (o4 _ rfl (Int.not_lt.mp q2) (Int.not_lt.mp q3) (Int.not_lt.mp q4) (Int.not_lt.mp q5) s7 h8 s10 h11 q12) (o5 _ rfl (Int.not_lt.mp q2) (Int.not_lt.mp q3) (Int.not_lt.mp q4) (Int.not_lt.mp q5) s7 h8 s10 h11 q12) ((c_guR (b := 0) (o6 _ rfl (Int.not_lt.mp q2) (Int.not_lt.mp q3) (Int.not_lt.mp q4) (Int.not_lt.mp q5) s7 h8 s10 h11 q12 _ rfl) (o7 _ rfl (Int.not_lt.mp q2) (Int.not_lt.mp q3) (Int.not_lt.mp q4) (Int.not_lt.mp q5) s7 h8 s10 h11 q12 _ rfl) ((have k16 := (o8 _ rfl (Int.not_lt.mp q2) (Int.not_lt.mp q3) (Int.not_lt.mp q4) (Int.not_lt.mp q5) s7 h8 s10 h11 q12 _ rfl _ rfl); And.intro k16 (And.intro ret0 ⟨rfl, _, rfl, (l6 _ rfl (Int.not_lt.mp q2) (Int.not_lt.mp q3) (Int.not_lt.mp q4) (Int.not_lt.mp q5) s7 h8 s10 h11 q12 _ rfl _ rfl)⟩))))))) (And.intro (fun q12 => (c_kni (b := 1) (o9 _ rfl (Int.not_lt.mp q2) (Int.not_lt.mp q3) (Int.not_lt.mp q4) (Int.not_lt.mp q5) s7 h8 s10 h11 q12) (o10 _ rfl (Int.not_lt.mp q2) (Int.not_lt.mp q3) (Int.not_lt.mp q4) (Int.not_lt.mp q5) s7 h8 s10 h11 q12) ((c_mny   ((c_kni (b := 0) (o11 _ rfl (Int.not_lt.mp q2) (Int.not_lt.mp q3) (Int.not_lt.mp q4) (Int.not_lt.mp q5) s7 h8 s10 h11 q12 _ rfl _ rfl) (o12 _ rfl (Int.not_lt.mp q2) (Int.not_lt.mp q3) (Int.not_lt.mp q4) (Int.not_lt.mp q5) s7 h8 s10 h11 q12 _ rfl _ rfl) ((c_mny   ((have k21 := (o13 _ rfl (Int.not_lt.mp q2) (Int.not_lt.mp q3) (Int.not_lt.mp q4) (Int.not_lt.mp q5) s7 h8 s10 h11 q12 _ rfl _ rfl _ rfl _ rfl); And.intro k21 (And.intro ret0 ⟨rfl, _, rfl, (l7 _ rfl (Int.not_lt.mp q2) (Int.not_lt.mp q3) (Int.not_lt.mp q4) (Int.not_lt.mp q5) s7 h8 s10 h11 q12 _ rfl _ rfl _ rfl _ rfl)⟩))))))))))) (And.intro (fun q12 => And.intro (by decide) (And.intro (by decide) ((have k22 := (o14 _ rfl (Int.not_lt.mp q2) (Int.not_lt.mp q3) (Int.not_lt.mp q4) (Int.not_lt.mp q5) s7 h8 s10 h11 q12); And.intro k22 (And.intro ret0 ⟨rfl, _, rfl, (l8 _ rfl (Int.not_lt.mp q2) (Int.not_lt.mp q3) (Int.not_lt.mp q4) (Int.not_lt.mp q5) s7 h8 s10 h11 q12)⟩))))) (trivial))))))))) (fun q => absurd (show (1 : Int) ≠ 0 by decide) q)⟩))))))⟩))))))
theorem v_ah {n : Nat}  (m : Int) (w : Int) {σ : Mm} {P : Int → Mm → Prop} (o1 : (0 : Int) ≤ m → m ≤ (99 : Int) → (0 : Int) ≤ w → w ≤ (3 : Int) → ∀ s6 : Mm, Bt σ s6 → (0 ≤ m ∧ m ≤ 200)) (o2 : (0 : Int) ≤ m → m ≤ (99 : Int) → (0 : Int) ≤ w → w ≤ (3 : Int) → ∀ s6 : Mm, Bt σ s6 → BkOK (vw s6 5)) (o3 : (0 : Int) ≤ m → m ≤ (99 : Int) → (0 : Int) ≤ w → w ≤ (3 : Int) → ∀ s6 : Mm, Bt σ s6 → SI (vw s6 5) (wv s6 49)) (o4 : (0 : Int) ≤ m → m ≤ (99 : Int) → (0 : Int) ≤ w → w ≤ (3 : Int) → ∀ s6 : Mm, Bt σ s6 → (gi s6 70 2 = -1 ∨ (0 ≤ gi s6 70 2 ∧ gi s6 70 2 ≤ 9))) (o5 : (0 : Int) ≤ m → m ≤ (99 : Int) → (0 : Int) ≤ w → w ≤ (3 : Int) → ∀ s6 : Mm, Bt σ s6 → (0 ≤ gi s6 70 3 ∧ gi s6 70 3 ≤ 9)) (o6 : (0 : Int) ≤ m → m ≤ (99 : Int) → (0 : Int) ≤ w → w ≤ (3 : Int) → ∀ s6 : Mm, Bt σ s6 → gi s6 49 0 < 29000) (o7 : (0 : Int) ≤ m → m ≤ (99 : Int) → (0 : Int) ≤ w → w ≤ (3 : Int) → ∀ s6 : Mm, Bt σ s6 → ∀ s9 : Mm, Wg 49 s6 s9 (daysK (vw s6 5) (gi s6 70 2) (gi s6 70 3) (gi s6 70 4) (decide (gi s6 70 5 ≠ 0)) (fun u => !bi (gi s6 49 1) u) (wv s6 49) m.toNat) → w = 0 → (0 ≤ (10 : Int) ∧ (10 : Int) ≤ 10)) (o8 : (0 : Int) ≤ m → m ≤ (99 : Int) → (0 : Int) ≤ w → w ≤ (3 : Int) → ∀ s6 : Mm, Bt σ s6 → ∀ s9 : Mm, Wg 49 s6 s9 (daysK (vw s6 5) (gi s6 70 2) (gi s6 70 3) (gi s6 70 4) (decide (gi s6 70 5 ≠ 0)) (fun u => !bi (gi s6 49 1) u) (wv s6 49) m.toNat) → w = 0 → ∀ x13 : Int, x13 = cnt (fun q => decide (gi s9 52 q = 1)) (10 : Int).toNat → (0 ≤ (10 : Int) ∧ (10 : Int) ≤ 10)) (o9 : (0 : Int) ≤ m → m ≤ (99 : Int) → (0 : Int) ≤ w → w ≤ (3 : Int) → ∀ s6 : Mm, Bt σ s6 → ∀ s9 : Mm, Wg 49 s6 s9 (daysK (vw s6 5) (gi s6 70 2) (gi s6 70 3) (gi s6 70 4) (decide (gi s6 70 5 ≠ 0)) (fun u => !bi (gi s6 49 1) u) (wv s6 49) m.toNat) → w = 0 → ∀ x13 : Int, x13 = cnt (fun q => decide (gi s9 52 q = 1)) (10 : Int).toNat → ∀ x14 : Int, x14 = cnt (fun q => decide (gi s9 43 q = 1)) (10 : Int).toNat → rg (x13 - x14)) (o10 : (0 : Int) ≤ m → m ≤ (99 : Int) → (0 : Int) ≤ w → w ≤ (3 : Int) → ∀ s6 : Mm, Bt σ s6 → ∀ s9 : Mm, Wg 49 s6 s9 (daysK (vw s6 5) (gi s6 70 2) (gi s6 70 3) (gi s6 70 4) (decide (gi s6 70 5 ≠ 0)) (fun u => !bi (gi s6 49 1) u) (wv s6 49) m.toNat) → w = 1 → ∀ x16 : Int, x16 = knO (gi s9 57) 5 → ∀ x17 : Int, x17 = knO (gi s9 48) 5 → (0 ≤ (oand x16 (oxor x17 (-1 : Int))) ∧ (oand x16 (oxor x17 (-1 : Int))) < 1024)) (o11 : (0 : Int) ≤ m → m ≤ (99 : Int) → (0 : Int) ≤ w → w ≤ (3 : Int) → ∀ s6 : Mm, Bt σ s6 → ∀ s9 : Mm, Wg 49 s6 s9 (daysK (vw s6 5) (gi s6 70 2) (gi s6 70 3) (gi s6 70 4) (decide (gi s6 70 5 ≠ 0)) (fun u => !bi (gi s6 49 1) u) (wv s6 49) m.toNat) → w = 2 → ∀ x19 : Int, x19 = cnt (fun q => decide (gi s9 53 q = (3 : Int))) 10 → ∀ x20 : Int, x20 = cnt (fun q => decide (gi s9 44 q = (3 : Int))) 10 → rg (x19 - x20)) (l1 : m < (0 : Int) → P (-1) σ) (l2 : (0 : Int) ≤ m → (99 : Int) < m → P (-1) σ) (l3 : (0 : Int) ≤ m → m ≤ (99 : Int) → w < (0 : Int) → P (-1) σ) (l4 : (0 : Int) ≤ m → m ≤ (99 : Int) → (0 : Int) ≤ w → w ≤ (3 : Int) → ∀ s6 : Mm, Bt σ s6 → ∀ s9 : Mm, Wg 49 s6 s9 (daysK (vw s6 5) (gi s6 70 2) (gi s6 70 3) (gi s6 70 4) (decide (gi s6 70 5 ≠ 0)) (fun u => !bi (gi s6 49 1) u) (wv s6 49) m.toNat) → (w < 0 ∨ 2 < w) → ∀ x12 : Int, x12 = cnt (fun q => decide (gi s9 53 q = 2)) 10 - cnt (fun q => decide (gi s9 44 q = 2)) 10 → P x12 s9) (l5 : (0 : Int) ≤ m → m ≤ (99 : Int) → (0 : Int) ≤ w → w ≤ (3 : Int) → ∀ s6 : Mm, Bt σ s6 → ∀ s9 : Mm, Wg 49 s6 s9 (daysK (vw s6 5) (gi s6 70 2) (gi s6 70 3) (gi s6 70 4) (decide (gi s6 70 5 ≠ 0)) (fun u => !bi (gi s6 49 1) u) (wv s6 49) m.toNat) → w = 0 → ∀ x13 : Int, x13 = cnt (fun q => decide (gi s9 52 q = 1)) (10 : Int).toNat → ∀ x14 : Int, x14 = cnt (fun q => decide (gi s9 43 q = 1)) (10 : Int).toNat → P (x13 - x14) s9) (l6 : (0 : Int) ≤ m → m ≤ (99 : Int) → (0 : Int) ≤ w → w ≤ (3 : Int) → ∀ s6 : Mm, Bt σ s6 → ∀ s9 : Mm, Wg 49 s6 s9 (daysK (vw s6 5) (gi s6 70 2) (gi s6 70 3) (gi s6 70 4) (decide (gi s6 70 5 ≠ 0)) (fun u => !bi (gi s6 49 1) u) (wv s6 49) m.toNat) → w = 1 → ∀ x16 : Int, x16 = knO (gi s9 57) 5 → ∀ x17 : Int, x17 = knO (gi s9 48) 5 → ∀ x18 : Int, x18 = cnt (bi (oand x16 (oxor x17 (-1 : Int)))) 10 → P x18 s9) (l7 : (0 : Int) ≤ m → m ≤ (99 : Int) → (0 : Int) ≤ w → w ≤ (3 : Int) → ∀ s6 : Mm, Bt σ s6 → ∀ s9 : Mm, Wg 49 s6 s9 (daysK (vw s6 5) (gi s6 70 2) (gi s6 70 3) (gi s6 70 4) (decide (gi s6 70 5 ≠ 0)) (fun u => !bi (gi s6 49 1) u) (wv s6 49) m.toNat) → w = 2 → ∀ x19 : Int, x19 = cnt (fun q => decide (gi s9 53 q = (3 : Int))) 10 → ∀ x20 : Int, x20 = cnt (fun q => decide (gi s9 44 q = (3 : Int))) 10 → P (x19 - x20) s9) (l8 : (0 : Int) ≤ m → m ≤ (99 : Int) → (0 : Int) ≤ w → (3 : Int) < w → P (-1) σ) : Ci 120 [vr 3, vi m, vi w] (shF n) σ P :=
  show R 120 0 [some (vr 3), some (vi m), some (vi w)] [] (shF n) 0 0 σ (Qi (shF n) P) from wpK_R 29 [] ((show R 106 0 [_] [] (shF n) 0 0 _ _ from wpK_R 8 [] (And.intro (fun q1 => And.intro ret0 (And.intro (Or.inl rfl) ⟨rfl, _, rfl, And.intro (fun _ => And.intro ret0 ⟨rfl, _, rfl, (l1 q1)⟩) (fun q => absurd (show (0 : Int) = 0 by decide) q)⟩)) (fun q1 => And.intro (fun q2 => And.intro ret0 (And.intro (Or.inl rfl) ⟨rfl, _, rfl, And.intro (fun _ => And.intro ret0 ⟨rfl, _, rfl, (l2 (Int.not_lt.mp q1) q2)⟩) (fun q => absurd (show (0 : Int) = 0 by decide) q)⟩)) (fun q2 => And.intro ret0 (And.intro (Or.inr rfl) ⟨rfl, _, rfl, And.intro (fun q => absurd q (show ¬ ((1 : Int) = 0) by decide)) (fun _ => And.intro (fun q3 => And.intro ret0 ⟨rfl, _, rfl, (l3 (Int.not_lt.mp q1) (Int.not_lt.mp q2) q3)⟩) (fun q3 => And.intro (fun q4 => (c_begin   (fun s6 h7 => (c_pass_49  (o1 (Int.not_lt.mp q1) (Int.not_lt.mp q2) (Int.not_lt.mp q3) q4 s6 h7) (o2 (Int.not_lt.mp q1) (Int.not_lt.mp q2) (Int.not_lt.mp q3) q4 s6 h7) (o3 (Int.not_lt.mp q1) (Int.not_lt.mp q2) (Int.not_lt.mp q3) q4 s6 h7) (o4 (Int.not_lt.mp q1) (Int.not_lt.mp q2) (Int.not_lt.mp q3) q4 s6 h7) (o5 (Int.not_lt.mp q1) (Int.not_lt.mp q2) (Int.not_lt.mp q3) q4 s6 h7) (o6 (Int.not_lt.mp q1) (Int.not_lt.mp q2) (Int.not_lt.mp q3) q4 s6 h7) (fun s9 h10 => And.intro (fun q11 => (c_om   (And.intro ret0 ⟨rfl, _, rfl, (l4 (Int.not_lt.mp q1) (Int.not_lt.mp q2) (Int.not_lt.mp q3) q4 s6 h7 s9 h10 q11 _ rfl)⟩))) (And.intro (fun q11 => (c_gu_49  (o7 (Int.not_lt.mp q1) (Int.not_lt.mp q2) (Int.not_lt.mp q3) q4 s6 h7 s9 h10 q11) ((c_gu_40  (o8 (Int.not_lt.mp q1) (Int.not_lt.mp q2) (Int.not_lt.mp q3) q4 s6 h7 s9 h10 q11 _ rfl) ((have k15 := (o9 (Int.not_lt.mp q1) (Int.not_lt.mp q2) (Int.not_lt.mp q3) q4 s6 h7 s9 h10 q11 _ rfl _ rfl); And.intro k15 (And.intro ret0 ⟨rfl, _, rfl, (l5 (Int.not_lt.mp q1) (Int.not_lt.mp q2) (Int.not_lt.mp q3) q4 s6 h7 s9 h10 q11 _ rfl _ rfl)⟩))))))) (And.intro (fun q11 => (c_kta_49   ((c_kta_40   ((c_bc  (o10 (Int.not_lt.mp q1) (Int.not_lt.mp q2) (Int.not_lt.mp q3) q4 s6 h7 s9 h10 q11 _ rfl _ rfl) (And.intro ret0 ⟨rfl, _, rfl, (l6 (Int.not_lt.mp q1) (Int.not_lt.mp q2) (Int.not_lt.mp q3) q4 s6 h7 s9 h10 q11 _ rfl _ rfl _ rfl)⟩))))))) (And.intro (fun q11 => (c_fated_49   ((c_fated_40   ((have k21 := (o11 (Int.not_lt.mp q1) (Int.not_lt.mp q2) (Int.not_lt.mp q3) q4 s6 h7 s9 h10 q11 _ rfl _ rfl); And.intro k21 (And.intro ret0 ⟨rfl, _, rfl, (l7 (Int.not_lt.mp q1) (Int.not_lt.mp q2) (Int.not_lt.mp q3) q4 s6 h7 s9 h10 q11 _ rfl _ rfl)⟩))))))) (trivial))))))))) (fun q4 => And.intro ret0 ⟨rfl, _, rfl, (l8 (Int.not_lt.mp q1) (Int.not_lt.mp q2) (Int.not_lt.mp q3) (Int.not_le.mp q4))⟩)))⟩))))))
theorem r_ahead {xs : Nat → Int} {N n : Nat} {s : Mm} (h : Rel xs N s) (m w : Int) {V : Nat → Nat → Int} (e : eqW V (wv s 40)) : Ci 235 [vr 85, vi m, vi w] (shF n) s (fun v' s' => v' = (if (0 ≤ m ∧ m ≤ 99) ∧ (0 ≤ w ∧ w ≤ 3) then ahV (vw s 5) V (pK (vw s 5) V m.toNat) w else -1) ∧ Rel xs N s' ∧ (¬ ((0 ≤ m ∧ m ≤ 99) ∧ (0 ≤ w ∧ w ≤ 3)) ∨ WI (vw s 5) (pK (vw s 5) V m.toNat))) := by
  obtain ⟨c0, c1, c2, c3, c5, d0, d1, d2, d3, -⟩ := Rel_cnt h
  have hw := RW_eqW h.2.2.2.2.1.2.1.2 e.sy h.2.2.2.2.2.2.2.2.1
  obtain ⟨w1, w2, w3, w4, w5, w6, w7⟩ := hw
  have k0 : ∀ s7 s10, Lt (si s 85 2 0) s7 → GM (vw s 5) V m s7 s10 → ∀ a i, ¬ hf 1 a i → a ≠ 85 → gi s10 a i = gi s a i := fun s7 s10 l g a i p q => by
    rw [g.1.1 a i p (by omega), l.1 a i p (by omega), gi_ne q]
  have k13 : ∀ s7 s10, Lt (si s 85 2 0) s7 → GM (vw s 5) V m s7 s10 → gi s10 85 13 = gi s 5 1 ∧ gi s10 85 14 = gi s 5 2 := fun s7 s10 l g => by
    rw [g.1.1 85 13 (by unfold hf; omega) (by omega), l.1 85 13 (by unfold hf; omega) (by omega), g.1.1 85 14 (by unfold hf; omega) (by omega), l.1 85 14 (by unfold hf; omega) (by omega), gi_si, if_neg (by omega), gi_si, if_neg (by omega)]
    exact ⟨d1, d2⟩
  have kc : ∀ s7 s10, Lt (si s 85 2 0) s7 → GM (vw s 5) V m s7 s10 → (0 ≤ gi s10 121 1 ∧ gi s10 121 1 ≤ 10) ∧ (0 ≤ gi s10 121 0 ∧ gi s10 121 0 ≤ 10) ∧ (0 ≤ gi s10 122 1 ∧ gi s10 122 1 ≤ 10) ∧ (0 ≤ gi s10 122 0 ∧ gi s10 122 0 ≤ 10) := fun s7 s10 l g => by
    obtain ⟨-, -, -, -, -, g6, g7⟩ := g.2.1
    rw [g6, g7, k0 s7 s10 l g 121 0 (by unfold hf; omega) (by omega), k0 s7 s10 l g 122 0 (by unfold hf; omega) (by omega), w6, w7]
    exact ⟨cnt_in _ 10, cnt_in _ 10, cnt_in _ 10, cnt_in _ 10⟩
  have hin : (0 ≤ m ∧ m ≤ 99) ∧ (0 ≤ w ∧ w ≤ 3) → (if (0 ≤ m ∧ m ≤ 99) ∧ (0 ≤ w ∧ w ≤ 3) then ahV (vw s 5) V (pK (vw s 5) V m.toNat) w else -1) = ahV (vw s 5) V (pK (vw s 5) V m.toNat) w := fun q => if_pos q
  refine v_ahR (vw s 5) V m w (by intros; subst_vars; first | exact fun i hi => by rw [gi_ne (by omega)]; exact Rel_KB h i hi | exact Lt_GP h ‹_› e (by omega) | omega | (have q := k13 _ _ ‹_› ‹_›; omega) | (have q := kc _ _ ‹_› ‹_›; unfold rg; omega) | (unfold rg; have q := k13 _ _ ‹_› ‹_›; exact rg_sub (cnt_in _ _) (cnt_in _ _) (by omega) (by omega)) | exact rg_sub (cnt_in _ _) (cnt_in _ _) (by omega) (by omega)) (by intros; subst_vars; first | exact fun i hi => by rw [gi_ne (by omega)]; exact Rel_KB h i hi | exact Lt_GP h ‹_› e (by omega) | omega | (have q := k13 _ _ ‹_› ‹_›; omega) | (have q := kc _ _ ‹_› ‹_›; unfold rg; omega) | (unfold rg; have q := k13 _ _ ‹_› ‹_›; exact rg_sub (cnt_in _ _) (cnt_in _ _) (by omega) (by omega)) | exact rg_sub (cnt_in _ _) (cnt_in _ _) (by omega) (by omega)) (by intros; subst_vars; first | exact fun i hi => by rw [gi_ne (by omega)]; exact Rel_KB h i hi | exact Lt_GP h ‹_› e (by omega) | omega | (have q := k13 _ _ ‹_› ‹_›; omega) | (have q := kc _ _ ‹_› ‹_›; unfold rg; omega) | (unfold rg; have q := k13 _ _ ‹_› ‹_›; exact rg_sub (cnt_in _ _) (cnt_in _ _) (by omega) (by omega)) | exact rg_sub (cnt_in _ _) (cnt_in _ _) (by omega) (by omega)) (by intros; subst_vars; first | exact fun i hi => by rw [gi_ne (by omega)]; exact Rel_KB h i hi | exact Lt_GP h ‹_› e (by omega) | omega | (have q := k13 _ _ ‹_› ‹_›; omega) | (have q := kc _ _ ‹_› ‹_›; unfold rg; omega) | (unfold rg; have q := k13 _ _ ‹_› ‹_›; exact rg_sub (cnt_in _ _) (cnt_in _ _) (by omega) (by omega)) | exact rg_sub (cnt_in _ _) (cnt_in _ _) (by omega) (by omega)) (by intros; subst_vars; first | exact fun i hi => by rw [gi_ne (by omega)]; exact Rel_KB h i hi | exact Lt_GP h ‹_› e (by omega) | omega | (have q := k13 _ _ ‹_› ‹_›; omega) | (have q := kc _ _ ‹_› ‹_›; unfold rg; omega) | (unfold rg; have q := k13 _ _ ‹_› ‹_›; exact rg_sub (cnt_in _ _) (cnt_in _ _) (by omega) (by omega)) | exact rg_sub (cnt_in _ _) (cnt_in _ _) (by omega) (by omega)) (by intros; subst_vars; first | exact fun i hi => by rw [gi_ne (by omega)]; exact Rel_KB h i hi | exact Lt_GP h ‹_› e (by omega) | omega | (have q := k13 _ _ ‹_› ‹_›; omega) | (have q := kc _ _ ‹_› ‹_›; unfold rg; omega) | (unfold rg; have q := k13 _ _ ‹_› ‹_›; exact rg_sub (cnt_in _ _) (cnt_in _ _) (by omega) (by omega)) | exact rg_sub (cnt_in _ _) (cnt_in _ _) (by omega) (by omega)) (by intros; subst_vars; first | exact fun i hi => by rw [gi_ne (by omega)]; exact Rel_KB h i hi | exact Lt_GP h ‹_› e (by omega) | omega | (have q := k13 _ _ ‹_› ‹_›; omega) | (have q := kc _ _ ‹_› ‹_›; unfold rg; omega) | (unfold rg; have q := k13 _ _ ‹_› ‹_›; exact rg_sub (cnt_in _ _) (cnt_in _ _) (by omega) (by omega)) | exact rg_sub (cnt_in _ _) (cnt_in _ _) (by omega) (by omega)) (by intros; subst_vars; first | exact fun i hi => by rw [gi_ne (by omega)]; exact Rel_KB h i hi | exact Lt_GP h ‹_› e (by omega) | omega | (have q := k13 _ _ ‹_› ‹_›; omega) | (have q := kc _ _ ‹_› ‹_›; unfold rg; omega) | (unfold rg; have q := k13 _ _ ‹_› ‹_›; exact rg_sub (cnt_in _ _) (cnt_in _ _) (by omega) (by omega)) | exact rg_sub (cnt_in _ _) (cnt_in _ _) (by omega) (by omega)) (by intros; subst_vars; first | exact fun i hi => by rw [gi_ne (by omega)]; exact Rel_KB h i hi | exact Lt_GP h ‹_› e (by omega) | omega | (have q := k13 _ _ ‹_› ‹_›; omega) | (have q := kc _ _ ‹_› ‹_›; unfold rg; omega) | (unfold rg; have q := k13 _ _ ‹_› ‹_›; exact rg_sub (cnt_in _ _) (cnt_in _ _) (by omega) (by omega)) | exact rg_sub (cnt_in _ _) (cnt_in _ _) (by omega) (by omega)) (by intros; subst_vars; first | exact fun i hi => by rw [gi_ne (by omega)]; exact Rel_KB h i hi | exact Lt_GP h ‹_› e (by omega) | omega | (have q := k13 _ _ ‹_› ‹_›; omega) | (have q := kc _ _ ‹_› ‹_›; unfold rg; omega) | (unfold rg; have q := k13 _ _ ‹_› ‹_›; exact rg_sub (cnt_in _ _) (cnt_in _ _) (by omega) (by omega)) | exact rg_sub (cnt_in _ _) (cnt_in _ _) (by omega) (by omega)) (by intros; subst_vars; first | exact fun i hi => by rw [gi_ne (by omega)]; exact Rel_KB h i hi | exact Lt_GP h ‹_› e (by omega) | omega | (have q := k13 _ _ ‹_› ‹_›; omega) | (have q := kc _ _ ‹_› ‹_›; unfold rg; omega) | (unfold rg; have q := k13 _ _ ‹_› ‹_›; exact rg_sub (cnt_in _ _) (cnt_in _ _) (by omega) (by omega)) | exact rg_sub (cnt_in _ _) (cnt_in _ _) (by omega) (by omega)) (by intros; subst_vars; first | exact fun i hi => by rw [gi_ne (by omega)]; exact Rel_KB h i hi | exact Lt_GP h ‹_› e (by omega) | omega | (have q := k13 _ _ ‹_› ‹_›; omega) | (have q := kc _ _ ‹_› ‹_›; unfold rg; omega) | (unfold rg; have q := k13 _ _ ‹_› ‹_›; exact rg_sub (cnt_in _ _) (cnt_in _ _) (by omega) (by omega)) | exact rg_sub (cnt_in _ _) (cnt_in _ _) (by omega) (by omega)) (by intros; subst_vars; first | exact fun i hi => by rw [gi_ne (by omega)]; exact Rel_KB h i hi | exact Lt_GP h ‹_› e (by omega) | omega | (have q := k13 _ _ ‹_› ‹_›; omega) | (have q := kc _ _ ‹_› ‹_›; unfold rg; omega) | (unfold rg; have q := k13 _ _ ‹_› ‹_›; exact rg_sub (cnt_in _ _) (cnt_in _ _) (by omega) (by omega)) | exact rg_sub (cnt_in _ _) (cnt_in _ _) (by omega) (by omega)) (by intros; subst_vars; first | exact fun i hi => by rw [gi_ne (by omega)]; exact Rel_KB h i hi | exact Lt_GP h ‹_› e (by omega) | omega | (have q := k13 _ _ ‹_› ‹_›; omega) | (have q := kc _ _ ‹_› ‹_›; unfold rg; omega) | (unfold rg; have q := k13 _ _ ‹_› ‹_›; exact rg_sub (cnt_in _ _) (cnt_in _ _) (by omega) (by omega)) | exact rg_sub (cnt_in _ _) (cnt_in _ _) (by omega) (by omega)) ?_ ?_ ?_ ?_ ?_ ?_ ?_ ?_
  · intro t1 ht; intros; rw [ht]; exact ⟨by rw [if_neg (by omega)], Rel_th h, Or.inl (by omega)⟩
  · intro t1 ht; intros; rw [ht]; exact ⟨by rw [if_neg (by omega)], Rel_th h, Or.inl (by omega)⟩
  · intro t1 ht; intros; rw [ht]; exact ⟨by rw [if_neg (by omega)], Rel_th h, Or.inl (by omega)⟩
  · intro t1 ht; intros; rw [ht]; exact ⟨by rw [if_neg (by omega)], Rel_th h, Or.inl (by omega)⟩
  · intro t1 ht h1 h2 h3 h4 s7 l s10 g hw3
    subst ht
    refine ⟨?_, Rel_rg (Lt_rel h l) g.1, Or.inr (by rw [← Lt_dK l]; exact g.2.2.1)⟩
    rw [hin (by omega), ← Lt_dK l]
    unfold ahV
    rw [if_neg (by omega), if_neg (by omega), if_neg (by omega), g.2.1.2.2.2.2.2.1, k0 s7 s10 l g 121 0 (by unfold hf; omega) (by omega), w6]
  · intro t1 ht h1 h2 h3 h4 s7 l s10 g hw0 x14 e14 x15 e15
    subst ht
    refine ⟨?_, Rel_rg (Lt_rel h l) g.1, Or.inr (by rw [← Lt_dK l]; exact g.2.2.1)⟩
    rw [hin (by omega), ← Lt_dK l, e14, e15, (k13 s7 s10 l g).1]
    unfold ahV
    rw [if_pos hw0]
    show cnt _ (gi s 5 1).toNat - cnt _ (gi s 5 1).toNat = cnt _ (gi s 5 1).toNat - cnt _ (gi s 5 1).toNat
    rw [cnt_congr (p := fun q => decide (gi s10 117 (10 * 1 + q) = 1)) (p' := fun q => decide (dK (vw s 5) V s7 m.toNat 3 q = 1)) (fun q hq => by rw [(g.2.1.2.2.1 q (by omega)).2.1]), cnt_congr (p := fun q => decide (gi s10 117 (10 * 0 + q) = 1)) (p' := fun q => decide (V 3 q = 1)) (fun q hq => by rw [k0 s7 s10 l g 117 _ (by unfold hf; omega) (by omega), (w3 q (by omega)).2.1])]
  · intro t1 ht h1 h2 h3 h4 s7 l s10 g hw1 x17 e17 x18 e18 x19 e19 x20 e20
    subst ht
    refine ⟨?_, Rel_rg (Lt_rel h l) g.1, Or.inr (by rw [← Lt_dK l]; exact g.2.2.1)⟩
    rw [hin (by omega), ← Lt_dK l, e18, e20, e17, e19, (k13 s7 s10 l g).2]
    unfold ahV
    rw [if_neg (by omega), if_pos hw1]
    rw [knO_congr (g := fun q => gi s10 119 (5 * 1 + q)) (g' := dK (vw s 5) V s7 m.toNat 8) (fun q hq => (g.2.1.2.2.2.1 q (by omega)).2.2.2), knO_congr (g := fun q => gi s10 119 (5 * 0 + q)) (g' := V 8) (fun q hq => by rw [k0 s7 s10 l g 119 _ (by unfold hf; omega) (by omega), (w4 q (by omega)).2.2.2])]
    rfl
  · intro t1 ht h1 h2 h3 h4 s7 l s10 g hw2
    subst ht
    refine ⟨?_, Rel_rg (Lt_rel h l) g.1, Or.inr (by rw [← Lt_dK l]; exact g.2.2.1)⟩
    rw [hin (by omega), ← Lt_dK l]
    unfold ahV
    rw [if_neg (by omega), if_neg (by omega), if_pos hw2, g.2.1.2.2.2.2.2.2, k0 s7 s10 l g 122 0 (by unfold hf; omega) (by omega), w7]
theorem bi_1023 : ∀ k, k < 10 → bi 1023 k = true := by decide +kernel
theorem bi_hi {a : Int} (ha : 0 ≤ a ∧ a < 1024) {k : Nat} (hk : 10 ≤ k) : bi a k = false := by
  rw [bi_int ha.1 (by omega)]
  refine Nat.testBit_lt_two_pow ?_
  have : 2 ^ 10 ≤ 2 ^ k := Nat.pow_le_pow_right (by omega) hk
  omega
theorem oand_in {a b : Int} (ha : 0 ≤ a ∧ a < 1024) : 0 ≤ oand a b ∧ oand a b < 1024 := by
  have e : oand a b = oand (oand a b) 1023 := bi_ext (oand_rg _ _) (oand_rg _ _) fun k hk => by
    rw [bi_and (oand a b) 1023, bi_and a b]
    by_cases q : k < 10
    · rw [bi_1023 k q, Bool.and_true]
    · rw [bi_hi ha (by omega)]; rfl
  have := oand_mod (j := 10) (by omega) (z := oand a b)
  rw [show (((2 ^ 10 - 1 : Nat) : Int)) = 1023 from rfl, show (((2 ^ 10 : Nat) : Int)) = 1024 from rfl] at this
  rw [e, this]
  omega
theorem q_ahead {xs : Nat → Int} {N n : Nat} {σ : Mm} (h : Rel xs N σ) (m w : Int) : Bi xs N n 120 [vr 3, vi m, vi w] 235 [vr 85, vi m, vi w] σ := by
  obtain ⟨c0, c1, c2, c3, c5, d0, d1, d2, d3, -⟩ := Rel_cnt h
  have hb := h.2.2.2.2.1
  have hwi := h.2.2.2.2.2.2.1
  have hno : ¬ ((0 ≤ m ∧ m ≤ 99) ∧ (0 ≤ w ∧ w ≤ 3)) → Ci 235 [vr 85, vi m, vi w] (shF n) σ (fun v' s' => v' = -1 ∧ Rel xs N s') := fun q => Ci_mono (r_ahead h m w (fun _ _ _ => rfl)) fun v' s' p => ⟨by rw [p.1, if_neg q], p.2.1⟩
  have hB : ∀ s6, Bt σ s6 → B8 (wv s6 49) := fun s6 b i hi => by
    rw [b.2.1 8 i (by unfold inW; omega)]
    exact (Rel_w5 h hi).2.2.2.2.2
  have hBU : ∀ s6, Bt σ s6 → B8 (pK (vw σ 5) (wv s6 49) m.toNat) := fun s6 b => B8_days hb (WI_eqW hb.1.2 hb.2.1.2 b.2.1.sy hwi).1 (hB s6 b) _
  have h57 : ∀ s6 s9, Bt σ s6 → Wg 49 s6 s9 (daysK (vw s6 5) (gi s6 70 2) (gi s6 70 3) (gi s6 70 4) (decide (gi s6 70 5 ≠ 0)) (fun u => !bi (gi s6 49 1) u) (wv s6 49) m.toNat) → 0 ≤ knO (gi s9 57) 5 ∧ knO (gi s9 57) 5 < 1024 := fun s6 s9 b w => by
    rw [Bt_days b] at w
    exact knO_in fun q hq => by rw [(wv49 w.2.2).2.2.2.2]; exact hBU s6 b q hq
  have hand : ∀ a b : Int, 0 ≤ a ∧ a < 1024 → 0 ≤ oand a b ∧ oand a b < 1024 := fun a b ha => oand_in ha
  have hfin : ∀ s6 s9, Bt σ s6 → Wg 49 s6 s9 (daysK (vw s6 5) (gi s6 70 2) (gi s6 70 3) (gi s6 70 4) (decide (gi s6 70 5 ≠ 0)) (fun u => !bi (gi s6 49 1) u) (wv s6 49) m.toNat) → 0 ≤ m → m ≤ 99 → 0 ≤ w → w ≤ 3 → ScX σ s9 ∧ (∀ f i, inW f i → gi s9 (40 + f) i = wv s6 49 f i) ∧ ((∀ i, gi s9 49 i = pK (vw σ 5) (wv s6 49) m.toNat 0 i) ∧ (∀ i, gi s9 52 i = pK (vw σ 5) (wv s6 49) m.toNat 3 i) ∧ (∀ i, gi s9 53 i = pK (vw σ 5) (wv s6 49) m.toNat 4 i) ∧ (∀ i, gi s9 55 i = pK (vw σ 5) (wv s6 49) m.toNat 6 i) ∧ (∀ i, gi s9 57 i = pK (vw σ 5) (wv s6 49) m.toNat 8 i)) ∧ (∀ v, (WI (vw σ 5) (pK (vw σ 5) (wv s6 49) m.toNat) → v = ahV (vw σ 5) (wv s6 49) (pK (vw σ 5) (wv s6 49) m.toNat) w) → Ci 235 [vr 85, vi m, vi w] (shF n) s9 (fun v' s' => v' = v ∧ Rel xs N s')) := fun s6 s9 b wg h1 h2 h3 h4 => by
    rw [Bt_days b] at wg
    have hS : ScX σ s9 := b.1.tr (ScX.wg wg)
    refine ⟨hS, fun f i p => ?_, wv49 wg.2.2, fun v hv => ?_⟩
    · have q : f ≤ 8 := by unfold inW at p; omega
      rw [hS _ _ (Or.inl (by unfold kpX; omega)), b.2.1 f i p]
      simp only [wv, if_pos q]
    · refine Ci_mono (r_ahead (hS.rel h) m w (V := wv s6 49) (by rw [hS.V]; exact b.2.1)) fun v' s' p => ⟨?_, p.2.1⟩
      have hwu := p.2.2.resolve_left (fun q => q ⟨⟨h1, h2⟩, h3, h4⟩)
      rw [hS.T] at hwu
      rw [p.1, if_pos ⟨⟨h1, h2⟩, h3, h4⟩, hS.T, hv hwu]
  refine v_ah m w (by intros; subst_vars; first | exact (Bt_ok h ‹_›).1 | exact (Bt_ok h ‹_›).2.1 | exact (Bt_ok h ‹_›).2.2.1 | exact (Bt_ok h ‹_›).2.2.2.1 | (have q := (Bt_ok h ‹_›).2.2.2.2; omega) | omega | exact hand _ _ (h57 _ _ ‹_› ‹_›) | exact rg_sub (cnt_in _ _) (cnt_in _ _) (by omega) (by omega)) (by intros; subst_vars; first | exact (Bt_ok h ‹_›).1 | exact (Bt_ok h ‹_›).2.1 | exact (Bt_ok h ‹_›).2.2.1 | exact (Bt_ok h ‹_›).2.2.2.1 | (have q := (Bt_ok h ‹_›).2.2.2.2; omega) | omega | exact hand _ _ (h57 _ _ ‹_› ‹_›) | exact rg_sub (cnt_in _ _) (cnt_in _ _) (by omega) (by omega)) (by intros; subst_vars; first | exact (Bt_ok h ‹_›).1 | exact (Bt_ok h ‹_›).2.1 | exact (Bt_ok h ‹_›).2.2.1 | exact (Bt_ok h ‹_›).2.2.2.1 | (have q := (Bt_ok h ‹_›).2.2.2.2; omega) | omega | exact hand _ _ (h57 _ _ ‹_› ‹_›) | exact rg_sub (cnt_in _ _) (cnt_in _ _) (by omega) (by omega)) (by intros; subst_vars; first | exact (Bt_ok h ‹_›).1 | exact (Bt_ok h ‹_›).2.1 | exact (Bt_ok h ‹_›).2.2.1 | exact (Bt_ok h ‹_›).2.2.2.1 | (have q := (Bt_ok h ‹_›).2.2.2.2; omega) | omega | exact hand _ _ (h57 _ _ ‹_› ‹_›) | exact rg_sub (cnt_in _ _) (cnt_in _ _) (by omega) (by omega)) (by intros; subst_vars; first | exact (Bt_ok h ‹_›).1 | exact (Bt_ok h ‹_›).2.1 | exact (Bt_ok h ‹_›).2.2.1 | exact (Bt_ok h ‹_›).2.2.2.1 | (have q := (Bt_ok h ‹_›).2.2.2.2; omega) | omega | exact hand _ _ (h57 _ _ ‹_› ‹_›) | exact rg_sub (cnt_in _ _) (cnt_in _ _) (by omega) (by omega)) (by intros; subst_vars; first | exact (Bt_ok h ‹_›).1 | exact (Bt_ok h ‹_›).2.1 | exact (Bt_ok h ‹_›).2.2.1 | exact (Bt_ok h ‹_›).2.2.2.1 | (have q := (Bt_ok h ‹_›).2.2.2.2; omega) | omega | exact hand _ _ (h57 _ _ ‹_› ‹_›) | exact rg_sub (cnt_in _ _) (cnt_in _ _) (by omega) (by omega)) (by intros; subst_vars; first | exact (Bt_ok h ‹_›).1 | exact (Bt_ok h ‹_›).2.1 | exact (Bt_ok h ‹_›).2.2.1 | exact (Bt_ok h ‹_›).2.2.2.1 | (have q := (Bt_ok h ‹_›).2.2.2.2; omega) | omega | exact hand _ _ (h57 _ _ ‹_› ‹_›) | exact rg_sub (cnt_in _ _) (cnt_in _ _) (by omega) (by omega)) (by intros; subst_vars; first | exact (Bt_ok h ‹_›).1 | exact (Bt_ok h ‹_›).2.1 | exact (Bt_ok h ‹_›).2.2.1 | exact (Bt_ok h ‹_›).2.2.2.1 | (have q := (Bt_ok h ‹_›).2.2.2.2; omega) | omega | exact hand _ _ (h57 _ _ ‹_› ‹_›) | exact rg_sub (cnt_in _ _) (cnt_in _ _) (by omega) (by omega)) (by intros; subst_vars; first | exact (Bt_ok h ‹_›).1 | exact (Bt_ok h ‹_›).2.1 | exact (Bt_ok h ‹_›).2.2.1 | exact (Bt_ok h ‹_›).2.2.2.1 | (have q := (Bt_ok h ‹_›).2.2.2.2; omega) | omega | exact hand _ _ (h57 _ _ ‹_› ‹_›) | exact rg_sub (cnt_in _ _) (cnt_in _ _) (by omega) (by omega)) (by intros; subst_vars; first | exact (Bt_ok h ‹_›).1 | exact (Bt_ok h ‹_›).2.1 | exact (Bt_ok h ‹_›).2.2.1 | exact (Bt_ok h ‹_›).2.2.2.1 | (have q := (Bt_ok h ‹_›).2.2.2.2; omega) | omega | exact hand _ _ (h57 _ _ ‹_› ‹_›) | exact rg_sub (cnt_in _ _) (cnt_in _ _) (by omega) (by omega)) (by intros; subst_vars; first | exact (Bt_ok h ‹_›).1 | exact (Bt_ok h ‹_›).2.1 | exact (Bt_ok h ‹_›).2.2.1 | exact (Bt_ok h ‹_›).2.2.2.1 | (have q := (Bt_ok h ‹_›).2.2.2.2; omega) | omega | exact hand _ _ (h57 _ _ ‹_› ‹_›) | exact rg_sub (cnt_in _ _) (cnt_in _ _) (by omega) (by omega)) ?_ ?_ ?_ ?_ ?_ ?_ ?_ ?_
  · intros; exact hno (by omega)
  · intros; exact hno (by omega)
  · intros; exact hno (by omega)
  · intro h1 h2 h3 h4 s6 b s9 wg hw3 x12 e12
    obtain ⟨hS, hV, hU, hE⟩ := hfin s6 s9 b wg h1 h2 h3 h4
    refine hE _ fun _ => ?_
    rw [e12]
    unfold ahV
    rw [if_neg (by omega), if_neg (by omega), if_neg (by omega)]
    rw [cnt_congr (p := fun q => decide (gi s9 44 q = 2)) (p' := fun q => decide (wv s6 49 4 q = 2)) (fun q hq => by rw [hV 4 q (by unfold inW; omega)])]
    simp only [hU.2.2.1]
  · intro h1 h2 h3 h4 s6 b s9 wg hw0 x13 e13 x14 e14
    obtain ⟨hS, hV, hU, hE⟩ := hfin s6 s9 b wg h1 h2 h3 h4
    refine hE _ fun hwu => ?_
    rw [e13, e14]
    unfold ahV
    rw [if_pos hw0]
    have hwv := WI_eqW hb.1.2 hb.2.1.2 b.2.1.sy hwi
    rw [cnt_congr (p := fun q => decide (gi s9 43 q = 1)) (p' := fun q => decide (wv s6 49 3 q = 1)) (fun q hq => by rw [hV 3 q (by unfold inW; omega)])]
    simp only [hU.2.1]
    rw [cnt_ext (p := fun q => decide (pK (vw σ 5) (wv s6 49) m.toNat 3 q = 1)) (M := (vw σ 5 0 1).toNat) (K := (10 : Int).toNat) (by show (gi σ 5 1).toNat ≤ 10; omega) (fun q h1 h2 => decide_eq_false (by rw [hwu.2.2.2.2.2.1 q (by omega) (by omega)]; omega)), cnt_ext (p := fun q => decide (wv s6 49 3 q = 1)) (M := (vw σ 5 0 1).toNat) (K := (10 : Int).toNat) (by show (gi σ 5 1).toNat ≤ 10; omega) (fun q h1 h2 => decide_eq_false (by rw [hwv.2.2.2.2.2.1 q (by omega) (by omega)]; omega))]
  · intro h1 h2 h3 h4 s6 b s9 wg hw1 x16 e16 x17 e17 x18 e18
    obtain ⟨hS, hV, hU, hE⟩ := hfin s6 s9 b wg h1 h2 h3 h4
    refine hE _ fun _ => ?_
    have hz : ∀ q, (gi σ 5 2).toNat ≤ q → q < 5 → wv s6 49 8 q = 0 := fun q p1 p2 => by
      rw [b.2.1 8 q (by unfold inW; omega)]
      exact (h.2.2.2.2.2.2.2.2.2.2.2.2.2.2.2.2.2.2 q p2 (by omega)).1
    have hK : (vw σ 5 0 2).toNat = (gi σ 5 2).toNat := rfl
    have ev : knO (gi s9 48) 5 = knO (wv s6 49 8) (gi σ 5 2).toNat := by
      rw [knO_congr (g := gi s9 48) (g' := wv s6 49 8) (fun q hq => hV 8 q (by unfold inW; omega))]
      exact knO_0 (by have := knO_in (g := wv s6 49 8) (k := (gi σ 5 2).toNat) (fun q hq => hB s6 b q (by omega)); unfold rg; omega) (by omega) hz
    have eu : knO (gi s9 57) 5 = knO (pK (vw σ 5) (wv s6 49) m.toNat 8) (gi σ 5 2).toNat := by
      rw [knO_congr (g := gi s9 57) (g' := pK (vw σ 5) (wv s6 49) m.toNat 8) (fun q hq => hU.2.2.2.2 q)]
      exact knO_0 (by have := knO_in (g := pK (vw σ 5) (wv s6 49) m.toNat 8) (k := (gi σ 5 2).toNat) (fun q hq => hBU s6 b q (by omega)); unfold rg; omega) (by omega) (fun q p1 p2 => by rw [pK_8 _ (Or.inl (show gi σ 5 2 ≤ (q : Int) by omega)) (by rw [b.2.1 0 0 (by unfold inW; omega)]; exact (Rel_w0 h).2.1.1)]; exact hz q p1 p2)
    rw [e18, e16, e17, ev, eu, cnt_sub (fun x _ hx => ?_) 10 (by omega)]
    · unfold ahV
      rw [if_neg (by omega), if_pos hw1]
      rfl
    · obtain ⟨q, hq, hbq⟩ := bi_knO.mp hx
      exact bi_knO.mpr ⟨q, hq, daysK_m8 hbq _⟩
  · intro h1 h2 h3 h4 s6 b s9 wg hw2 x19 e19 x20 e20
    obtain ⟨hS, hV, hU, hE⟩ := hfin s6 s9 b wg h1 h2 h3 h4
    refine hE _ fun _ => ?_
    rw [e19, e20]
    unfold ahV
    rw [if_neg (by omega), if_neg (by omega), if_pos hw2]
    rw [cnt_congr (p := fun q => decide (gi s9 44 q = 3)) (p' := fun q => decide (wv s6 49 4 q = 3)) (fun q hq => by rw [hV 4 q (by unfold inW; omega)])]
    simp only [hU.2.2.1]
  · intros; exact hno (by omega)
