/-! CUSHIONS ARE AIRED IN ANY ORDER -/
theorem oor_rc (a b c : Int) : oor (oor a b) c = oor (oor a c) b := bi_ext (oor_rg _ _) (oor_rg _ _) fun k _ => by rw [bi_or, bi_or, bi_or, bi_or, Bool.or_assoc, Bool.or_comm (bi b k), ← Bool.or_assoc]
theorem stepA_cm (T V : Nat → Nat → Int) (u p u' p' : Nat) : stepA T (stepA T V u p) u' p' = stepA T (stepA T V u' p') u p := by
  have h7 : ∀ v q, stepA T V v q 7 = V 7 := fun v q => stepA_other (by omega) (by omega)
  have h0 : ∀ v q, stepA T V v q 0 = V 0 := fun v q => stepA_other (by omega) (by omega)
  funext f i
  by_cases h4 : f = 4
  · subst h4
    simp only [stepA, if_true]
    simp only [if_neg (show ¬ (7 : Nat) = 4 by omega), tellV, if_neg (show ¬ (7 : Nat) = 8 by omega)]
    by_cases a : i = (V 7 (u * 8 + p)).toNat <;> by_cases b : i = (V 7 (u' * 8 + p')).toNat <;> simp [a, b]
  · by_cases h8 : f = 8
    · subst h8
      show tellV T (stepA T V u p) (stepA T V u p 7 (u' * 8 + p')).toNat (p' : Int) 8 i = tellV T (stepA T V u' p') (stepA T V u' p' 7 (u * 8 + p)).toNat (p : Int) 8 i
      rw [h7, h7]
      simp only [tellV, if_true, h0]
      simp only [stepA, if_neg (show ¬ (8 : Nat) = 4 by omega), tellV, if_true]
      by_cases a : (i : Int) < T 0 2 ∧ bi (T 9 i) ((V 0 0) % 7).toNat = true ∧ (p : Int) ≤ T 10 i <;> by_cases b : (i : Int) < T 0 2 ∧ bi (T 9 i) ((V 0 0) % 7).toNat = true ∧ (p' : Int) ≤ T 10 i
      · simp only [if_pos a, if_pos b]; exact oor_rc _ _ _
      · simp only [if_pos a, if_neg b]
      · simp only [if_neg a, if_pos b]
      · simp only [if_neg a, if_neg b]
    · rw [stepA_other h4 h8, stepA_other h4 h8, stepA_other h4 h8, stepA_other h4 h8]
def apS (T : Nat → Nat → Int) (u s : Nat) (B : Nat → Nat → Int) : Nat → (Nat → Nat → Int)
  | 0 => B
  | m + 1 => stepA T (apS T u s B m) u (s - 1 - m)
theorem airN_ap (T V : Nat → Nat → Int) (u : Nat) : ∀ m, airN T V u m = apS T u (V 6 u).toNat V m := by
  intro m
  induction m with
  | zero => rfl
  | succ m ih => show stepA T (airN T V u m) u _ = stepA T (apS T u _ V m) u _; rw [ih]
theorem apS_step (T B : Nat → Nat → Int) (u s u' p' : Nat) : ∀ m, apS T u s (stepA T B u' p') m = stepA T (apS T u s B m) u' p' := by
  intro m
  induction m with
  | zero => rfl
  | succ m ih => show stepA T (apS T u s (stepA T B u' p') m) u _ = stepA T (stepA T (apS T u s B m) u _) u' p'; rw [ih, stepA_cm]
theorem apS_cm (T B : Nat → Nat → Int) (u s u' s' m' : Nat) : ∀ m, apS T u s (apS T u' s' B m') m = apS T u' s' (apS T u s B m) m' := by
  intro m
  induction m' with
  | zero => rfl
  | succ m' ih => show apS T u s (stepA T (apS T u' s' B m') u' _) m = stepA T (apS T u' s' (apS T u s B m) m') u' _; rw [apS_step, ih]
theorem apS_other {T B : Nat → Nat → Int} {u s f : Nat} (h4 : f ≠ 4) (h8 : f ≠ 8) : ∀ m, apS T u s B m f = B f := by
  intro m
  induction m with
  | zero => rfl
  | succ m ih => show stepA T (apS T u s B m) u _ f = B f; rw [stepA_other h4 h8, ih]
def set6 (W : Nat → Nat → Int) (u : Nat) (v : Int) : Nat → Nat → Int := fun f i => if f = 6 ∧ i = u then v else W f i
theorem step6 (T W : Nat → Nat → Int) (u' p' u : Nat) (v : Int) : stepA T (set6 W u v) u' p' = set6 (stepA T W u' p') u v := by
  funext f i
  simp only [stepA, tellV, set6]
  by_cases h6 : f = 6
  · subst h6; simp
  · simp [h6]
theorem apS_6 (T B : Nat → Nat → Int) (u' s' u : Nat) (v : Int) : ∀ m, apS T u' s' (set6 B u v) m = set6 (apS T u' s' B m) u v := by
  intro m
  induction m with
  | zero => rfl
  | succ m ih => show stepA T (apS T u' s' (set6 B u v) m) u' _ = set6 (stepA T (apS T u' s' B m) u' _) u v; rw [ih, step6]
theorem airU_ap (T V : Nat → Nat → Int) (u m : Nat) : airU T V u m = set6 (apS T u (V 6 u).toNat V m) u (V 6 u - (m : Int)) := by
  funext f i
  simp only [airU, set6, airN_ap]
  by_cases h6 : f = 6
  · subst h6
    simp only [if_true, true_and]
    split
    · rfl
    · rw [apS_other (by omega) (by omega)]
  · simp [h6]
theorem airU_cm {T V : Nat → Nat → Int} {u u' : Nat} (h : u ≠ u') (m m' : Nat) : airU T (airU T V u m) u' m' = airU T (airU T V u' m') u m := by
  have e1 : airU T V u m 6 u' = V 6 u' := by simp only [airU, if_true, if_neg (Ne.symm h)]
  have e2 : airU T V u' m' 6 u = V 6 u := by simp only [airU, if_true, if_neg h]
  rw [airU_ap T (airU T V u m) u' m', airU_ap T (airU T V u' m') u m, e1, e2, airU_ap T V u m, airU_ap T V u' m', apS_6, apS_6, apS_cm]
  funext f i
  simp only [set6]
  by_cases a : f = 6 ∧ i = u <;> by_cases b : f = 6 ∧ i = u'
  · omega
  · simp only [if_pos a, if_neg b]
  · simp only [if_neg a, if_pos b]
  · simp only [if_neg a, if_neg b]
theorem outN_eq {T A A' : Nat → Nat → Int} {mo bt : Int} {j u : Nat} (h6 : A 6 u = A' 6 u) (h0 : A 0 0 = A' 0 0) : outN T A mo bt j u = outN T A' mo bt j u := by simp only [outN, h6, h0]
/-- cushion u aired, if it is; h: who has which cushion -/
def airC (T : Nat → Nat → Int) (mo bt : Int) (ai : Nat → Bool) (h : Nat → Nat) (A : Nat → Nat → Int) (u : Nat) : Nat → Nat → Int := if ai u then airU T A u (outN T A mo bt (h u) u) else A
theorem airC_cm (T : Nat → Nat → Int) (mo bt : Int) (ai : Nat → Bool) (h : Nat → Nat) (A : Nat → Nat → Int) (u u' : Nat) : airC T mo bt ai h (airC T mo bt ai h A u) u' = airC T mo bt ai h (airC T mo bt ai h A u') u := by
  by_cases e : u = u'
  · rw [e]
  · unfold airC
    by_cases a : ai u = true <;> by_cases b : ai u' = true
    · simp only [a, b, if_true]
      rw [airU_cm e]
      have o1 : outN T (airU T A u (outN T A mo bt (h u) u)) mo bt (h u') u' = outN T A mo bt (h u') u' := outN_eq (by simp only [airU, if_true, if_neg (Ne.symm e)]) (airU_at (by omega) (by omega) (by omega))
      have o2 : outN T (airU T A u' (outN T A mo bt (h u') u')) mo bt (h u) u = outN T A mo bt (h u) u := outN_eq (by simp only [airU, if_true, if_neg e]) (airU_at (by omega) (by omega) (by omega))
      rw [o1, o2]
    · simp [a, b]
    · simp [a, b]
    · simp [a, b]
theorem foldl_perm {α β : Type} {f : β → α → β} (cm : ∀ b x y, f (f b x) y = f (f b y) x) {l₁ l₂ : List α} (p : List.Perm l₁ l₂) : ∀ b, l₁.foldl f b = l₂.foldl f b := by
  induction p with
  | nil => intro b; rfl
  | cons x _ ih => intro b; exact ih (f b x)
  | swap x y l => intro b; show List.foldl f (f (f b y) x) l = List.foldl f (f (f b x) y) l; rw [cm]
  | trans _ _ ih1 ih2 => intro b; rw [ih1, ih2]
theorem nodup_len : ∀ (n : Nat) (l : List Nat), l.Nodup → (∀ x ∈ l, x < n) → l.length ≤ n := by
  intro n
  induction n with
  | zero =>
    intro l _ h
    cases l with
    | nil => exact Nat.le_refl _
    | cons a l => exact absurd (h a (List.mem_cons_self ..)) (Nat.not_lt_zero _)
  | succ n ih =>
    intro l hn h
    by_cases hm : n ∈ l
    · have h1 : (l.erase n).Nodup := hn.erase n
      have h2 := ih (l.erase n) h1 (fun x hx => by
        have hx' := (List.Nodup.mem_erase_iff hn).mp hx
        have := h x hx'.2
        have := hx'.1
        omega)
      rw [List.length_erase_of_mem hm] at h2
      omega
    · have := ih l hn (fun x hx => by
        have := h x hx
        have : x ≠ n := fun e => hm (e ▸ hx)
        omega)
      omega
theorem perm_range : ∀ (n : Nat) (l : List Nat), l.Nodup → (∀ x ∈ l, x < n) → l.length = n → List.Perm l (List.range n) := by
  intro n
  induction n with
  | zero => intro l _ _ hl; rw [List.length_eq_zero_iff.mp hl]; exact List.Perm.refl _
  | succ n ih =>
    intro l hn h hl
    have hm : n ∈ l := by
      apply Classical.byContradiction
      intro hm
      have := nodup_len n l hn (fun x hx => by
        have := h x hx
        have : x ≠ n := fun e => hm (e ▸ hx)
        omega)
      omega
    have h1 : (l.erase n).Nodup := hn.erase n
    have h2 := ih (l.erase n) h1 (fun x hx => by
      have hx' := (List.Nodup.mem_erase_iff hn).mp hx
      have := h x hx'.2
      have := hx'.1
      omega) (by rw [List.length_erase_of_mem hm]; omega)
    rw [List.range_succ]
    refine (List.perm_cons_erase hm).trans ?_
    refine (List.Perm.cons n h2).trans ?_
    exact (List.perm_append_singleton n (List.range n)).symm
