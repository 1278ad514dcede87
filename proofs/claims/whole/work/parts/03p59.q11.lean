/-! QUERIES over a trial: away, learns -/
theorem v_away_0 {n : Nat}   {σ : Mm} {P : Int → Mm → Prop} (o1 : ∀ s2 : Mm, Bt σ s2 → (0 ≤ (gi s2 40 0) ∧ 0 < (7 : Int))) (o2 : ∀ s2 : Mm, Bt σ s2 → rg ((7 : Int) - ((gi s2 40 0) % (7 : Int)))) (o3 : ∀ s2 : Mm, Bt σ s2 → (0 ≤ ((7 : Int) - ((gi s2 40 0) % (7 : Int))) ∧ 0 < (7 : Int))) (o4 : ∀ s2 : Mm, Bt σ s2 → ∀ x7 : Int, x7 = ((7 : Int) - ((gi s2 40 0) % (7 : Int))) % (7 : Int) → rg (x7 + 1)) (o5 : ∀ s2 : Mm, Bt σ s2 → ∀ x7 : Int, x7 = ((7 : Int) - ((gi s2 40 0) % (7 : Int))) % (7 : Int) → (0 ≤ (x7 + 1) ∧ (x7 + 1) ≤ 200)) (o6 : ∀ s2 : Mm, Bt σ s2 → ∀ x7 : Int, x7 = ((7 : Int) - ((gi s2 40 0) % (7 : Int))) % (7 : Int) → BkOK (vw s2 5)) (o7 : ∀ s2 : Mm, Bt σ s2 → ∀ x7 : Int, x7 = ((7 : Int) - ((gi s2 40 0) % (7 : Int))) % (7 : Int) → SI (vw s2 5) (wv s2 49)) (o8 : ∀ s2 : Mm, Bt σ s2 → ∀ x7 : Int, x7 = ((7 : Int) - ((gi s2 40 0) % (7 : Int))) % (7 : Int) → (gi s2 70 2 = -1 ∨ (0 ≤ gi s2 70 2 ∧ gi s2 70 2 ≤ 9))) (o9 : ∀ s2 : Mm, Bt σ s2 → ∀ x7 : Int, x7 = ((7 : Int) - ((gi s2 40 0) % (7 : Int))) % (7 : Int) → (0 ≤ gi s2 70 3 ∧ gi s2 70 3 ≤ 9)) (o10 : ∀ s2 : Mm, Bt σ s2 → ∀ x7 : Int, x7 = ((7 : Int) - ((gi s2 40 0) % (7 : Int))) % (7 : Int) → gi s2 49 0 < 29000) (l1 : ∀ s2 : Mm, Bt σ s2 → ∀ x7 : Int, x7 = ((7 : Int) - ((gi s2 40 0) % (7 : Int))) % (7 : Int) → ∀ s10 : Mm, Wg 49 s2 s10 (daysK (vw s2 5) (gi s2 70 2) (gi s2 70 3) (gi s2 70 4) (decide (gi s2 70 5 ≠ 0)) (fun u => !bi (gi s2 49 1) u) (wv s2 49) (x7 + 1).toNat) → R 125 25 [some (vr 3), some (vi 0), some (vi 0)] [] (shF n) 0 0 s10 (Qi (shF n) P)) : Ci 125 [vr 3] (shF n) σ P :=
  show R 125 0 [some (vr 3), none, none] [] (shF n) 0 0 σ (Qi (shF n) P) from wpK_R 16 [25] ((c_begin   (fun s2 h3 => (show R 122 0 [some (vr 3)] [] (shF n) 0 0 _ _ from wpK_R 10 [] ((have k4 := (o1 s2 h3); And.intro k4 ((have k5 := (o2 s2 h3); And.intro k5 ((have k6 := (o3 s2 h3); And.intro k6 (And.intro ret0 ⟨rfl, _, rfl, (have k8 := (o4 s2 h3 _ rfl); And.intro k8 ((c_pass_49  (o5 s2 h3 _ rfl) (o6 s2 h3 _ rfl) (o7 s2 h3 _ rfl) (o8 s2 h3 _ rfl) (o9 s2 h3 _ rfl) (o10 s2 h3 _ rfl) (fun s10 h11 => (l1 s2 h3 _ rfl s10 h11)))))⟩)))))))))))
theorem v_away_L {n : Nat}  (b : Int) (i : Nat) {σ : Mm} {P : Int → Mm → Prop} (o1 : (i : Int) < (gi σ 5 2) → (0 ≤ (i : Int) ∧ (i : Int) < 5)) (o2 : (i : Int) < (gi σ 5 2) → (gi σ 57 i) = (gi σ 48 i) → rg ((i : Int) + 1)) (o3 : (i : Int) < (gi σ 5 2) → (gi σ 57 i) ≠ (gi σ 48 i) → ∀ x5 : Int, x5 = oor b (oshl (1 : Int) (i : Int)) → rg ((i : Int) + 1)) (l1 : (gi σ 5 2) ≤ (i : Int) → P b σ) (l2 : (i : Int) < (gi σ 5 2) → (gi σ 57 i) = (gi σ 48 i) → R 125 25 [some (vr 3), some (vi b), some (vi ((i : Int) + 1))] [] (shF n) 0 0 σ (Qi (shF n) P)) (l3 : (i : Int) < (gi σ 5 2) → (gi σ 57 i) ≠ (gi σ 48 i) → ∀ x5 : Int, x5 = oor b (oshl (1 : Int) (i : Int)) → R 125 25 [some (vr 3), some (vi x5), some (vi ((i : Int) + 1))] [] (shF n) 0 0 σ (Qi (shF n) P)) : R 125 25 [some (vr 3), some (vi b), some (vi (i : Int))] [] (shF n) 0 0 σ (Qi (shF n) P) :=
  wpK_R 25 [25] (And.intro (fun q1 => And.intro ret0 ⟨rfl, _, rfl, (l1 q1)⟩) (fun q1 => (have k2 := (o1 (Int.not_le.mp q1)); And.intro k2 (And.intro k2 (And.intro (fun q3 => (have k4 := (o2 (Int.not_le.mp q1) q3); And.intro k4 ((l2 (Int.not_le.mp q1) q3)))) (fun q3 => (have k6 := (o3 (Int.not_le.mp q1) q3 _ rfl); And.intro k6 ((l3 (Int.not_le.mp q1) q3 _ rfl)))))))))
theorem v_awayR {n : Nat} (T : Nat → Nat → Int) (V : Nat → Nat → Int)  {σ : Mm} {P : Int → Mm → Prop} (o1 : ∀ t1 : Mm, t1 = si σ 85 2 (0 : Int) → KB t1) (o2 : ∀ t1 : Mm, t1 = si σ 85 2 (0 : Int) → ∀ s3 : Mm, Lt t1 s3 → (0 ≤ (gi s3 120 0) ∧ 0 < (7 : Int))) (o3 : ∀ t1 : Mm, t1 = si σ 85 2 (0 : Int) → ∀ s3 : Mm, Lt t1 s3 → rg ((7 : Int) - ((gi s3 120 0) % (7 : Int)))) (o4 : ∀ t1 : Mm, t1 = si σ 85 2 (0 : Int) → ∀ s3 : Mm, Lt t1 s3 → (0 ≤ ((7 : Int) - ((gi s3 120 0) % (7 : Int))) ∧ 0 < (7 : Int))) (o5 : ∀ t1 : Mm, t1 = si σ 85 2 (0 : Int) → ∀ s3 : Mm, Lt t1 s3 → ∀ x8 : Int, x8 = ((7 : Int) - ((gi s3 120 0) % (7 : Int))) % (7 : Int) → rg (x8 + 1)) (o6 : ∀ t1 : Mm, t1 = si σ 85 2 (0 : Int) → ∀ s3 : Mm, Lt t1 s3 → ∀ x8 : Int, x8 = ((7 : Int) - ((gi s3 120 0) % (7 : Int))) % (7 : Int) → GP T V s3 (x8 + 1)) (l1 : ∀ t1 : Mm, t1 = si σ 85 2 (0 : Int) → ∀ s3 : Mm, Lt t1 s3 → ∀ x8 : Int, x8 = ((7 : Int) - ((gi s3 120 0) % (7 : Int))) % (7 : Int) → ∀ s11 : Mm, GM T V (x8 + 1) s3 s11 → P (gi s11 85 64) s11) : Ci 239 [vr 85] (shF n) σ P :=
  show R 239 0 [some (vr 85)] [] (shF n) 0 0 σ (Qi (shF n) P) from wpK_R 14 [] ((c_lyT  (o1 _ rfl) (fun s3 h4 => (show R 236 0 [some (vr 85)] [] (shF n) 0 0 _ _ from wpK_R 11 [] (And.intro (by decide) ((have k5 := (o2 _ rfl s3 h4); And.intro k5 ((have k6 := (o3 _ rfl s3 h4); And.intro k6 ((have k7 := (o4 _ rfl s3 h4); And.intro k7 (And.intro ret0 ⟨rfl, _, rfl, (have k9 := (o5 _ rfl s3 h4 _ rfl); And.intro k9 ((c_goG (T := T) (V := V) (o6 _ rfl s3 h4 _ rfl) (fun s11 h12 => And.intro ret0 ⟨rfl, _, rfl, (l1 _ rfl s3 h4 _ rfl s11 h12)⟩))))⟩))))))))))))
theorem bi_orF {p : Nat → Bool} {i : Nat} (hi : i < 32) : ∀ {k : Nat}, k ≤ 32 → bi (orF p k) i = (decide (i < k) && p i) := by
  intro k
  induction k with
  | zero => intro _; show bi 0 i = _; rw [bi_0, decide_eq_false (by omega)]; rfl
  | succ k ih =>
    intro hk
    have ih := ih (by omega)
    by_cases hp : p k = true
    · rw [orF_y hp, bi_or, shl1 (by omega) hi, ih]
      by_cases q : i = k
      · subst q; rw [hp, decide_eq_true (show i < i + 1 by omega)]; simp
      · rw [decide_eq_false q, Bool.or_false]
        by_cases q2 : i < k
        · rw [decide_eq_true q2, decide_eq_true (show i < k + 1 by omega)]
        · rw [decide_eq_false q2, decide_eq_false (show ¬ i < k + 1 by omega)]
    · have hp' : p k = false := by cases h : p k with | true => exact absurd h hp | false => rfl
      rw [orF_n hp', ih]
      by_cases q : i = k
      · subst q; rw [hp']; simp
      · by_cases q2 : i < k
        · rw [decide_eq_true q2, decide_eq_true (show i < k + 1 by omega)]
        · rw [decide_eq_false q2, decide_eq_false (show ¬ i < k + 1 by omega)]
theorem airN_8 {T V : Nat → Nat → Int} {u i : Nat} (hi : T 0 2 ≤ (i : Int)) : ∀ m, airN T V u m 8 i = V 8 i := by
  intro m
  induction m with
  | zero => rfl
  | succ m ih =>
    simp only [airN, stepA, tellV]
    rw [if_neg (by omega), if_pos trivial, if_neg (fun q => by omega), ih]
theorem airJ_8 {T V : Nat → Nat → Int} {mo bt : Int} {ai : Nat → Bool} {i : Nat} (hi : T 0 2 ≤ (i : Int)) : ∀ j, airJ T V mo bt ai j 8 i = V 8 i := by
  intro j
  induction j with
  | zero => rfl
  | succ j ih =>
    simp only [airJ]
    split
    · simp only [airU]
      rw [if_neg (by omega), airN_8 hi, ih]
    · exact ih
theorem dayV_8 {T V : Nat → Nat → Int} {mo bt df : Int} {fr : Bool} {ai : Nat → Bool} {i : Nat} (h : T 0 2 ≤ (i : Int) ∨ V 0 0 % 7 ≠ 0) : dayV T V mo bt df fr ai 8 i = V 8 i := by
  simp only [dayV]
  rw [if_neg (by omega)]
  split
  · rw [airJ_8 (by omega), hearsV_at (by omega) (by omega) (by omega) (by omega) (by omega)]
  · rw [hearsV_at (by omega) (by omega) (by omega) (by omega) (by omega)]
theorem pK_8 {T V : Nat → Nat → Int} {i : Nat} : ∀ k : Nat, (T 0 2 ≤ (i : Int) ∨ (k : Int) ≤ (7 - V 0 0 % 7) % 7) → 0 ≤ V 0 0 → pK T V k 8 i = V 8 i := by
  intro k
  induction k with
  | zero => intro _ _; rfl
  | succ k ih =>
    intro h h0
    show dayV T (pK T V k) _ _ _ _ _ 8 i = V 8 i
    rw [dayV_8, ih (by omega) h0]
    by_cases q : T 0 2 ≤ (i : Int)
    · exact Or.inl q
    · right
      show daysK T _ _ _ _ _ V k 0 0 % 7 ≠ 0
      rw [daysK_day]
      omega
def awayV (T V : Nat → Nat → Int) : Int := orF (fun i => decide (pK T V ((7 - V 0 0 % 7) % 7 + 1).toNat 8 i ≠ V 8 i)) (T 0 2).toNat
theorem HN_away {T V : Nat → Nat → Int} {h : Int} (hK : 0 ≤ T 0 2 ∧ T 0 2 ≤ 5) (h0 : 0 ≤ V 0 0) (hn : HN h (pK T V (((7 - V 0 0 % 7) % 7 + 1).toNat - 1)) (pK T V ((7 - V 0 0 % 7) % 7 + 1).toNat)) : h = awayV T V := by
  obtain ⟨n1, n2, -⟩ := hn
  refine bi_ext (by unfold rg; omega) (orF_rg _ _) fun k hk => ?_
  unfold awayV
  rw [bi_orF hk (by omega)]
  by_cases k5 : k < 5
  · have q := n2 k k5
    rw [pK_8 (((7 - V 0 0 % 7) % 7 + 1).toNat - 1) (Or.inr (by omega)) h0] at q
    by_cases kc : k < (T 0 2).toNat
    · rw [decide_eq_true kc, Bool.true_and]
      cases hb : bi h k with
      | true => exact (decide_eq_true (q.mp hb)).symm
      | false => exact (decide_eq_false (fun z => by rw [q.mpr z] at hb; exact Bool.noConfusion hb)).symm
    · rw [decide_eq_false kc, Bool.false_and]
      cases hb : bi h k with
      | true => exact absurd (pK_8 _ (Or.inl (by omega)) h0) (q.mp hb)
      | false => rfl
  · rw [decide_eq_false (show ¬ k < (T 0 2).toNat by omega), Bool.false_and, bi_int n1.1 (by omega)]
    refine Nat.testBit_lt_two_pow ?_
    have : 2 ^ 5 ≤ 2 ^ k := Nat.pow_le_pow_right (by omega) (by omega)
    omega
theorem r_away {xs : Nat → Int} {N n : Nat} {s : Mm} (h : Rel xs N s) {V : Nat → Nat → Int} (e : eqW V (wv s 40)) : Ci 239 [vr 85] (shF n) s (fun v' s' => v' = awayV (vw s 5) V ∧ Rel xs N s') := by
  obtain ⟨c0, c1, c2, c3, c5, d0, d1, d2, d3, -⟩ := Rel_cnt h
  have hw0 := Rel_w0 h
  have e0 : V 0 0 = gi s 40 0 := e 0 0 (by unfold inW; omega)
  have hday : ∀ s3, Lt (si s 85 2 0) s3 → gi s3 120 0 = V 0 0 := fun s3 l => by
    rw [l.1 120 0 (by unfold hf; omega) (by omega), gi_ne (by omega), e0]; exact hw0.1
  refine v_awayR (vw s 5) V (by intros; subst_vars; first | exact fun i hi => by rw [gi_ne (by omega)]; exact Rel_KB h i hi | (have q := hday _ ‹_›; omega) | (have q := hday _ ‹_›; unfold rg; omega) | exact Lt_GP h ‹_› e (by have q := hday _ ‹_›; omega)) (by intros; subst_vars; first | exact fun i hi => by rw [gi_ne (by omega)]; exact Rel_KB h i hi | (have q := hday _ ‹_›; omega) | (have q := hday _ ‹_›; unfold rg; omega) | exact Lt_GP h ‹_› e (by have q := hday _ ‹_›; omega)) (by intros; subst_vars; first | exact fun i hi => by rw [gi_ne (by omega)]; exact Rel_KB h i hi | (have q := hday _ ‹_›; omega) | (have q := hday _ ‹_›; unfold rg; omega) | exact Lt_GP h ‹_› e (by have q := hday _ ‹_›; omega)) (by intros; subst_vars; first | exact fun i hi => by rw [gi_ne (by omega)]; exact Rel_KB h i hi | (have q := hday _ ‹_›; omega) | (have q := hday _ ‹_›; unfold rg; omega) | exact Lt_GP h ‹_› e (by have q := hday _ ‹_›; omega)) (by intros; subst_vars; first | exact fun i hi => by rw [gi_ne (by omega)]; exact Rel_KB h i hi | (have q := hday _ ‹_›; omega) | (have q := hday _ ‹_›; unfold rg; omega) | exact Lt_GP h ‹_› e (by have q := hday _ ‹_›; omega)) (by intros; subst_vars; first | exact fun i hi => by rw [gi_ne (by omega)]; exact Rel_KB h i hi | (have q := hday _ ‹_›; omega) | (have q := hday _ ‹_›; unfold rg; omega) | exact Lt_GP h ‹_› e (by have q := hday _ ‹_›; omega)) ?_
  intro t1 ht s3 l x8 hx8 s11 g
  subst ht
  refine ⟨?_, Rel_rg (Lt_rel h l) g.1⟩
  rw [hday s3 l] at hx8
  subst hx8
  rcases g.2.2.2.2 with q | q
  · omega
  · rw [Lt_dK l, Lt_dK l] at q
    exact HN_away c2 (by omega) q
theorem q_away {xs : Nat → Int} {N n : Nat} {σ : Mm} (h : Rel xs N σ) : Bi xs N n 125 [vr 3] 239 [vr 85] σ := by
  obtain ⟨c0, c1, c2, c3, c5, d0, d1, d2, d3, -⟩ := Rel_cnt h
  have hw0 := Rel_w0 h
  have hday : ∀ s2, Bt σ s2 → gi s2 40 0 = gi σ 40 0 := fun s2 b => b.1 40 0 (Or.inl (by unfold kpX; omega))
  refine v_away_0 (by intros; subst_vars; first | exact (Bt_ok h ‹_›).1 | exact (Bt_ok h ‹_›).2.1 | exact (Bt_ok h ‹_›).2.2.1 | exact (Bt_ok h ‹_›).2.2.2.1 | (have q := (Bt_ok h ‹_›).2.2.2.2; omega) | (have q := hday _ ‹_›; omega) | (have q := hday _ ‹_›; unfold rg; omega)) (by intros; subst_vars; first | exact (Bt_ok h ‹_›).1 | exact (Bt_ok h ‹_›).2.1 | exact (Bt_ok h ‹_›).2.2.1 | exact (Bt_ok h ‹_›).2.2.2.1 | (have q := (Bt_ok h ‹_›).2.2.2.2; omega) | (have q := hday _ ‹_›; omega) | (have q := hday _ ‹_›; unfold rg; omega)) (by intros; subst_vars; first | exact (Bt_ok h ‹_›).1 | exact (Bt_ok h ‹_›).2.1 | exact (Bt_ok h ‹_›).2.2.1 | exact (Bt_ok h ‹_›).2.2.2.1 | (have q := (Bt_ok h ‹_›).2.2.2.2; omega) | (have q := hday _ ‹_›; omega) | (have q := hday _ ‹_›; unfold rg; omega)) (by intros; subst_vars; first | exact (Bt_ok h ‹_›).1 | exact (Bt_ok h ‹_›).2.1 | exact (Bt_ok h ‹_›).2.2.1 | exact (Bt_ok h ‹_›).2.2.2.1 | (have q := (Bt_ok h ‹_›).2.2.2.2; omega) | (have q := hday _ ‹_›; omega) | (have q := hday _ ‹_›; unfold rg; omega)) (by intros; subst_vars; first | exact (Bt_ok h ‹_›).1 | exact (Bt_ok h ‹_›).2.1 | exact (Bt_ok h ‹_›).2.2.1 | exact (Bt_ok h ‹_›).2.2.2.1 | (have q := (Bt_ok h ‹_›).2.2.2.2; omega) | (have q := hday _ ‹_›; omega) | (have q := hday _ ‹_›; unfold rg; omega)) (by intros; subst_vars; first | exact (Bt_ok h ‹_›).1 | exact (Bt_ok h ‹_›).2.1 | exact (Bt_ok h ‹_›).2.2.1 | exact (Bt_ok h ‹_›).2.2.2.1 | (have q := (Bt_ok h ‹_›).2.2.2.2; omega) | (have q := hday _ ‹_›; omega) | (have q := hday _ ‹_›; unfold rg; omega)) (by intros; subst_vars; first | exact (Bt_ok h ‹_›).1 | exact (Bt_ok h ‹_›).2.1 | exact (Bt_ok h ‹_›).2.2.1 | exact (Bt_ok h ‹_›).2.2.2.1 | (have q := (Bt_ok h ‹_›).2.2.2.2; omega) | (have q := hday _ ‹_›; omega) | (have q := hday _ ‹_›; unfold rg; omega)) (by intros; subst_vars; first | exact (Bt_ok h ‹_›).1 | exact (Bt_ok h ‹_›).2.1 | exact (Bt_ok h ‹_›).2.2.1 | exact (Bt_ok h ‹_›).2.2.2.1 | (have q := (Bt_ok h ‹_›).2.2.2.2; omega) | (have q := hday _ ‹_›; omega) | (have q := hday _ ‹_›; unfold rg; omega)) (by intros; subst_vars; first | exact (Bt_ok h ‹_›).1 | exact (Bt_ok h ‹_›).2.1 | exact (Bt_ok h ‹_›).2.2.1 | exact (Bt_ok h ‹_›).2.2.2.1 | (have q := (Bt_ok h ‹_›).2.2.2.2; omega) | (have q := hday _ ‹_›; omega) | (have q := hday _ ‹_›; unfold rg; omega)) (by intros; subst_vars; first | exact (Bt_ok h ‹_›).1 | exact (Bt_ok h ‹_›).2.1 | exact (Bt_ok h ‹_›).2.2.1 | exact (Bt_ok h ‹_›).2.2.2.1 | (have q := (Bt_ok h ‹_›).2.2.2.2; omega) | (have q := hday _ ‹_›; omega) | (have q := hday _ ‹_›; unfold rg; omega)) ?_
  intro s2 b x7 hx7 s10 w
  have hV0 : wv s2 49 0 0 = gi σ 40 0 := b.2.1 0 0 (by unfold inW; omega)
  rw [hday s2 b, ← hV0] at hx7
  rw [Bt_days b, hx7] at w
  have hS : ScX σ s10 := b.1.tr (ScX.wg w)
  have g5 := hS 5 2 (Or.inl (by unfold kpX; omega))
  have g48 : ∀ i, i < 5 → gi s10 48 i = wv s2 49 8 i := fun i hi => by rw [hS 48 i (Or.inl (by unfold kpX; omega)), b.2.1 8 i (by unfold inW; omega)]; rfl
  have g57 := (wv49 w.2.2).2.2.2.2
  refine loopUp (N := (gi σ 5 2).toNat) (I := fun i => R 125 25 [some (vr 3), some (vi (orF (fun i => decide (pK (vw σ 5) (wv s2 49) ((7 - wv s2 49 0 0 % 7) % 7 + 1).toNat 8 i ≠ wv s2 49 8 i)) i)), some (vi (i : Int))] [] (shF n) 0 0 s10 (Qi (shF n) (fun v s => Ci 239 [vr 85] (shF n) s (fun v' s' => v' = v ∧ Rel xs N s')))) (fun i hi ih => ?_) 0 (by omega)
  have horg := orF_rg (fun i => decide (pK (vw σ 5) (wv s2 49) ((7 - wv s2 49 0 0 % 7) % 7 + 1).toNat 8 i ≠ wv s2 49 8 i)) i
  refine v_away_L _ i (by intros; first | omega | exact horg | (unfold rg; omega)) (by intros; first | omega | exact horg | (unfold rg; omega)) (by intros; first | omega | exact horg | (unfold rg; omega)) ?_ ?_ ?_
  · intro hge
    refine Ci_mono (r_away (hS.rel h) (V := wv s2 49) (by rw [hS.V]; exact b.2.1)) fun v' s' p => ⟨?_, p.2⟩
    rw [p.1, hS.T]
    unfold awayV
    rw [show (vw σ 5 0 2).toNat = i from (show (gi σ 5 2).toNat = i by omega)]
  · intro hlt heq
    refine R_eq (ih (by omega)) ?_
    rw [orF_n (p := fun i => decide (pK (vw σ 5) (wv s2 49) ((7 - wv s2 49 0 0 % 7) % 7 + 1).toNat 8 i ≠ wv s2 49 8 i)) (decide_eq_false (by rw [← g57, ← g48 i (by omega)]; exact fun z => z heq))]
    rfl
  · intro hlt hne x5 hx5
    refine R_eq (ih (by omega)) ?_
    rw [orF_y (p := fun i => decide (pK (vw σ 5) (wv s2 49) ((7 - wv s2 49 0 0 % 7) % 7 + 1).toNat 8 i ≠ wv s2 49 8 i)) (decide_eq_true (by rw [← g57, ← g48 i (by omega)]; exact hne)), hx5]
    rfl
