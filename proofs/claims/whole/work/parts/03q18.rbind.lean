/-! TEXT: expressions, the reference binds -/
theorem hS_cg {row row' : Nat → Int} {a : Nat} : ∀ m, (∀ i, i < m → row' (a + i) = row (a + i)) → hS row' a m = hS row a m := by
  intro m
  induction m with
  | zero => intro _; rfl
  | succ m ih =>
    intro h
    simp only [hS]
    rw [ih fun i hi => h i (by omega), h m (by omega)]
/-- a knot as the reference keeps it -/
def nK (z : Int) (ρ : Mm) (q : Nat) (S : (Nat → Int) × Nat) : Prop := (z < -7 → 1 ≤ S.2) ∧ (z < -7 → z ≠ -10 → 2 ≤ S.2) ∧
  ((0 ≤ z ∧ z ≤ 9999 ∧ gi ρ 104 q = 0 ∧ gi ρ 105 q = z) ∨ (-7 ≤ z ∧ z < 0 ∧ gi ρ 104 q = 1 ∧ gi ρ 105 q = -1 - z) ∨ (z = -10 ∧ gi ρ 104 q = 2 ∧ gi ρ 105 q = S.1 (S.2 - 1)) ∨ (z < -7 ∧ z ≠ -10 ∧ -20 ≤ z ∧ gi ρ 104 q = opR z ∧ gi ρ 105 q = S.1 (S.2 - 2) ∧ gi ρ 106 q = S.1 (S.2 - 1)))
theorem KnR_cg {row row' : Nat → Int} {ρ ρ' : Mm} {off off' a M : Nat} (h : KnR row ρ off a M) (hr : ∀ i, i < M → row' (a + i) = row (a + i)) (hρ : ∀ x i, 104 ≤ x → x ≤ 106 → i < M → gi ρ' x (off' + a + i) = gi ρ x (off + a + i)) : KnR row' ρ' off' a M := by
  intro m hm
  have := h m hm
  rw [hr m hm, hS_cg m fun i hi => hr i (by omega), hρ 104 m (by omega) (by omega) hm, hρ 105 m (by omega) (by omega) hm, hρ 106 m (by omega) (by omega) hm]
  exact this
theorem KnR_add {row row' : Nat → Int} {ρ ρ' : Mm} {off a M : Nat} (h : KnR row ρ off a M) (hr : ∀ i, i < M → row' (a + i) = row (a + i)) (hρ : ∀ x i, 104 ≤ x → x ≤ 106 → i < M → gi ρ' x (off + a + i) = gi ρ x (off + a + i)) (hn : nK (row' (a + M)) ρ' (off + a + M) (hS row a M)) : KnR row' ρ' off a (M + 1) := by
  intro m hm
  by_cases z : m = M
  · subst z
    rw [hS_cg m hr]
    exact hn
  · exact KnR_cg h hr hρ m (by omega)
def wrF (z : Int) : Int := if z = -21 then 0 else if z = -10 then 2 else opR z
def bnF (z : Int) : Bool := decide (z ≠ -21 ∧ z ≠ -10)
def rkF (k : Int) : Int := if 13 ≤ k then 6 else if 11 ≤ k then 5 else if 5 ≤ k then 4 else if k = 2 then 3 else if k = 3 then 2 else if k = 4 then 1 else 0
theorem rk_st {z : Int} (h : -21 ≤ z ∧ z ≤ -8) : rkF (wrF z) = stF z := by
  obtain ⟨k, rfl⟩ : ∃ k : Nat, z = -21 + (k : Int) := ⟨(z + 21).toNat, by omega⟩
  have hk : k < 14 := by omega
  clear h
  revert k
  decide
theorem v_rank {n : Nat}  (k : Int) {σ : Mm} {P : Int → Mm → Prop} (l1 : k < (13 : Int) → k < (11 : Int) → k < (5 : Int) → k ≠ (2 : Int) → k ≠ (3 : Int) → k ≠ (4 : Int) → P 0 σ) (l2 : k < (13 : Int) → k < (11 : Int) → k < (5 : Int) → k ≠ (2 : Int) → k ≠ (3 : Int) → k = (4 : Int) → P 1 σ) (l3 : k < (13 : Int) → k < (11 : Int) → k < (5 : Int) → k ≠ (2 : Int) → k = (3 : Int) → P 2 σ) (l4 : k < (13 : Int) → k < (11 : Int) → k < (5 : Int) → k = (2 : Int) → P 3 σ) (l5 : k < (13 : Int) → k < (11 : Int) → (5 : Int) ≤ k → P 4 σ) (l6 : k < (13 : Int) → (11 : Int) ≤ k → P 5 σ) (l7 : (13 : Int) ≤ k → P 6 σ) : Ci 183 [vi k] (shF n) σ P :=
  show R 183 0 [some (vi k)] [] (shF n) 0 0 σ (Qi (shF n) P) from wpK_R 21 [] (And.intro (fun q1 => And.intro (fun q2 => And.intro (fun q3 => And.intro (fun q4 => And.intro (fun q5 => And.intro (fun q6 => And.intro ret0 ⟨rfl, _, rfl, (l1 q1 q2 q3 q4 q5 q6)⟩) (fun q6 => And.intro ret0 ⟨rfl, _, rfl, (l2 q1 q2 q3 q4 q5 (Classical.not_not.mp q6))⟩)) (fun q5 => And.intro ret0 ⟨rfl, _, rfl, (l3 q1 q2 q3 q4 (Classical.not_not.mp q5))⟩)) (fun q4 => And.intro ret0 ⟨rfl, _, rfl, (l4 q1 q2 q3 (Classical.not_not.mp q4))⟩)) (fun q3 => And.intro ret0 ⟨rfl, _, rfl, (l5 q1 q2 (Int.not_lt.mp q3))⟩)) (fun q2 => And.intro ret0 ⟨rfl, _, rfl, (l6 q1 (Int.not_lt.mp q2))⟩)) (fun q1 => And.intro ret0 ⟨rfl, _, rfl, (l7 (Int.not_lt.mp q1))⟩))
theorem c_rank {n : Nat} {k : Int} {σ : Mm} {P : Int → Mm → Prop} (hP : P (rkF k) σ) : Ci 183 [vi k] (shF n) σ P := by
  refine v_rank k ?_ ?_ ?_ ?_ ?_ ?_ ?_
  all_goals (intros; refine p_eq hP ?_; unfold rkF; (repeat' split) <;> omega)
def grM (ρ : Mm) (k a b : Int) : Mm := si (si (si (si (si (si ρ 104 ((64 : Int) + gi ρ 85 21).toNat k) 105 ((64 : Int) + gi ρ 85 21).toNat a) 106 ((64 : Int) + gi ρ 85 21).toNat b) 108 (gi ρ 85 44).toNat (gi ρ 85 21)) 85 44 (gi ρ 85 44 + 1)) 85 21 (gi ρ 85 21 + 1)
theorem v_grw {n : Nat}  (k : Int) (a : Int) (b : Int) {σ : Mm} {P : Mm → Prop} (o1 : rg ((64 : Int) + (gi σ 85 21))) (o2 : (0 ≤ ((64 : Int) + (gi σ 85 21)) ∧ ((64 : Int) + (gi σ 85 21)) < 128)) (o3 : ∀ t3 : Mm, t3 = si σ 104 ((64 : Int) + (gi σ 85 21)).toNat k → ∀ t4 : Mm, t4 = si t3 105 ((64 : Int) + (gi σ 85 21)).toNat a → ∀ t5 : Mm, t5 = si t4 106 ((64 : Int) + (gi σ 85 21)).toNat b → (0 ≤ (gi σ 85 44) ∧ (gi σ 85 44) < 96)) (o4 : ∀ t3 : Mm, t3 = si σ 104 ((64 : Int) + (gi σ 85 21)).toNat k → ∀ t4 : Mm, t4 = si t3 105 ((64 : Int) + (gi σ 85 21)).toNat a → ∀ t5 : Mm, t5 = si t4 106 ((64 : Int) + (gi σ 85 21)).toNat b → ∀ t7 : Mm, t7 = si t5 108 (gi σ 85 44).toNat (gi σ 85 21) → rg ((gi σ 85 44) + 1)) (o5 : ∀ t3 : Mm, t3 = si σ 104 ((64 : Int) + (gi σ 85 21)).toNat k → ∀ t4 : Mm, t4 = si t3 105 ((64 : Int) + (gi σ 85 21)).toNat a → ∀ t5 : Mm, t5 = si t4 106 ((64 : Int) + (gi σ 85 21)).toNat b → ∀ t7 : Mm, t7 = si t5 108 (gi σ 85 44).toNat (gi σ 85 21) → ∀ t9 : Mm, t9 = si t7 85 44 ((gi σ 85 44) + 1) → rg ((gi σ 85 21) + 1)) (l1 : ∀ t3 : Mm, t3 = si σ 104 ((64 : Int) + (gi σ 85 21)).toNat k → ∀ t4 : Mm, t4 = si t3 105 ((64 : Int) + (gi σ 85 21)).toNat a → ∀ t5 : Mm, t5 = si t4 106 ((64 : Int) + (gi σ 85 21)).toNat b → ∀ t7 : Mm, t7 = si t5 108 (gi σ 85 44).toNat (gi σ 85 21) → ∀ t9 : Mm, t9 = si t7 85 44 ((gi σ 85 44) + 1) → ∀ t11 : Mm, t11 = si t9 85 21 ((gi σ 85 21) + 1) → P t11) : Cv 184 [vr 85, vi k, vi a, vi b] (shF n) σ P :=
  show R 184 0 [some (vr 85), some (vi k), some (vi a), some (vi b)] [] (shF n) 0 0 σ (Qv (shF n) P) from wpK_R 44 [] ((have k1 := (o1); And.intro k1 ((have k2 := (o2); And.intro k2 (And.intro k1 (And.intro k2 (And.intro k1 (And.intro k2 ((have k6 := (o3 _ rfl _ rfl _ rfl); And.intro k6 ((have k8 := (o4 _ rfl _ rfl _ rfl _ rfl); And.intro k8 ((have k10 := (o5 _ rfl _ rfl _ rfl _ rfl _ rfl); And.intro k10 (And.intro ret0 ⟨rfl, rfl, (l1 _ rfl _ rfl _ rfl _ rfl _ rfl _ rfl)⟩)))))))))))))))
theorem c_grw {n : Nat} {k a b : Int} {σ : Mm} {P : Mm → Prop} (h : (0 ≤ gi σ 85 21 ∧ gi σ 85 21 < 64) ∧ (0 ≤ gi σ 85 44 ∧ gi σ 85 44 < 96)) (hP : P (grM σ k a b)) : Cv 184 [vr 85, vi k, vi a, vi b] (shF n) σ P := by
  refine v_grw k a b (by intros; first | omega | (unfold rg; omega) | (subst_vars; simp only [gi_si, gi_sl, gl_si, gl_sl]; first | omega | (unfold rg; omega))) (by intros; first | omega | (unfold rg; omega) | (subst_vars; simp only [gi_si, gi_sl, gl_si, gl_sl]; first | omega | (unfold rg; omega))) (by intros; first | omega | (unfold rg; omega) | (subst_vars; simp only [gi_si, gi_sl, gl_si, gl_sl]; first | omega | (unfold rg; omega))) (by intros; first | omega | (unfold rg; omega) | (subst_vars; simp only [gi_si, gi_sl, gl_si, gl_sl]; first | omega | (unfold rg; omega))) (by intros; first | omega | (unfold rg; omega) | (subst_vars; simp only [gi_si, gi_sl, gl_si, gl_sl]; first | omega | (unfold rg; omega))) ?_
  intro t1 e1 t2 e2 t3 e3 t4 e4 t5 e5 t6 e6
  subst e6 e5 e4 e3 e2 e1
  exact hP
/-- held signs, knots, what lies on the stack: d: whether a side lies there -/
def EP (a : Nat) (d : Int) (σ ρ : Mm) : Prop := ∃ M : Nat, gi σ 33 0 = ((a + M : Nat) : Int) ∧ gi ρ 85 43 = gi σ 37 4 ∧ gi ρ 85 21 = gi σ 33 0 ∧ (∀ j : Nat, (j : Int) < gi σ 37 4 → gi ρ 107 j = wrF (gi σ 39 j)) ∧ KnR (gi σ 34) ρ 64 a M ∧ gi ρ 85 44 = ((hS (gi σ 34) a M).2 : Int) ∧ (∀ p, p < (hS (gi σ 34) a M).2 → gi ρ 108 p = (hS (gi σ 34) a M).1 p) ∧ ((hS (gi σ 34) a M).2 : Int) = cnt (fun j => bnF (gi σ 39 j)) (gi σ 37 4).toNat + d
theorem EP_pe {a : Nat} {d : Int} {σ σ' ρ : Mm} (p : PE σ σ') (h : EP a d σ' ρ) : EP a d σ ρ := by
  obtain ⟨M, h1, h2, h3, h4, h5, h6, h7, h8⟩ := h
  have e34 : gi σ 34 = gi σ' 34 := funext fun i => p 34 i
  have e39 : (fun j => bnF (gi σ 39 j)) = (fun j => bnF (gi σ' 39 j)) := funext fun j => by rw [p]
  refine ⟨M, ?_⟩
  rw [e34, e39, p 33 0, p 37 4]
  exact ⟨h1, h2, h3, fun j hj => by rw [p]; exact h4 j hj, h5, h6, h7, h8⟩
theorem EP_eq {a : Nat} {d : Int} {σ s ρ ρ' : Mm} (h : EP a d σ ρ) (c : ∀ x i, x = 34 ∨ x = 39 ∨ (x = 33 ∧ i = 0) ∨ (x = 37 ∧ i = 4) → gi s x i = gi σ x i) (r : ∀ x i, (x = 85 ∧ (i = 43 ∨ i = 44 ∨ i = 21)) ∨ (104 ≤ x ∧ x ≤ 108) → gi ρ' x i = gi ρ x i) : EP a d s ρ' := by
  obtain ⟨M, h1, h2, h3, h4, h5, h6, h7, h8⟩ := h
  have e34 : gi s 34 = gi σ 34 := funext fun i => c 34 i (by omega)
  have e39 : (fun j => bnF (gi s 39 j)) = (fun j => bnF (gi σ 39 j)) := funext fun j => by rw [c 39 j (by omega)]
  refine ⟨M, ?_⟩
  rw [e34, e39, c 33 0 (by omega), c 37 4 (by omega), r 85 43 (by omega), r 85 44 (by omega), r 85 21 (by omega)]
  exact ⟨h1, h2, h3, fun j hj => by rw [c 39 j (by omega), r 107 j (by omega)]; exact h4 j hj, KnR_eq (fun x y p q => r x y (by omega)) h5, h6, fun p hp => by rw [r 108 p (by omega)]; exact h7 p hp, h8⟩
/-- one sign more is bound -/
theorem EP_pop {a : Nat} {σ ρ ρ' : Mm} {z : Int} {mh : Nat} (h : EP a 1 σ ρ) (hmh : gi σ 37 4 = ((mh + 1 : Nat) : Int)) (hz : gi σ 39 mh = z) (hzr : -20 ≤ z ∧ z ≤ -8)
    (r43 : gi ρ' 85 43 = gi ρ 85 43 - 1) (r21 : gi ρ' 85 21 = gi ρ 85 21 + 1) (r107 : ∀ i, gi ρ' 107 i = gi ρ 107 i)
    (rK : (z = -10 ∧ gi ρ' 85 44 = gi ρ 85 44 ∧ gi ρ' 104 (64 + (gi ρ 85 21).toNat) = 2 ∧ gi ρ' 105 (64 + (gi ρ 85 21).toNat) = gi ρ 108 (gi ρ 85 44 - 1).toNat) ∨ (z ≠ -10 ∧ gi ρ' 85 44 = gi ρ 85 44 - 1 ∧ gi ρ' 104 (64 + (gi ρ 85 21).toNat) = opR z ∧ gi ρ' 105 (64 + (gi ρ 85 21).toNat) = gi ρ 108 (gi ρ 85 44 - 2).toNat ∧ gi ρ' 106 (64 + (gi ρ 85 21).toNat) = gi ρ 108 (gi ρ 85 44 - 1).toNat))
    (r108 : gi ρ' 108 (gi ρ' 85 44 - 1).toNat = gi ρ 85 21) (f108 : ∀ i, i ≠ (gi ρ' 85 44 - 1).toNat → gi ρ' 108 i = gi ρ 108 i) (fK : ∀ x i, 104 ≤ x → x ≤ 106 → i ≠ 64 + (gi ρ 85 21).toNat → gi ρ' x i = gi ρ x i) : EP a 1 (popM σ 1) ρ' := by
  obtain ⟨M, h1, h2, h3, h4, h5, h6, h7, h8⟩ := h
  have hkn : (gi ρ 85 21).toNat = a + M := by omega
  have hkn' : (gi σ 33 0).toNat = a + M := by omega
  rw [hkn] at rK fK
  have hrow : ∀ i, i < M → gi (popM σ 1) 34 (a + i) = gi σ 34 (a + i) := fun i hi => by
    rw [gPo, if_neg (by omega), if_neg (by omega), if_neg (by omega)]
  have hnew : gi (popM σ 1) 34 (a + M) = z := by
    rw [gPo, if_neg (by omega), if_neg (by omega), if_pos ⟨rfl, by omega, by omega⟩, ← hz]
    congr 1
    omega
  rw [show (gi σ 37 4).toNat = mh + 1 by omega, cnt_s, hz] at h8
  have hbz : (z = -10 ∧ bnF z = false) ∨ (z ≠ -10 ∧ bnF z = true) := by
    unfold bnF
    by_cases y : z = -10
    · exact Or.inl ⟨y, decide_eq_false (by omega)⟩
    · exact Or.inr ⟨y, decide_eq_true (by omega)⟩
  have hc := cnt_in (fun j => bnF (gi σ 39 j)) mh
  have hcs : cnt (fun j => bnF (gi (popM σ 1) 39 j)) (gi (popM σ 1) 37 4).toNat = cnt (fun j => bnF (gi σ 39 j)) mh := by
    rw [show (gi (popM σ 1) 37 4).toNat = mh by rw [gp_4]; omega]
    exact cnt_congr fun q hq => by rw [gp_o (by omega)]
  obtain ⟨S, hS'⟩ : ∃ S, S = hS (gi σ 34) a M := ⟨_, rfl⟩
  rw [← hS'] at h6 h7 h8
  have hSn : hS (gi (popM σ 1) 34) a (M + 1) = if -7 ≤ z then (upf S.1 S.2 ((a + M : Nat) : Int), S.2 + 1) else if z = -10 then (upf S.1 (S.2 - 1) ((a + M : Nat) : Int), S.2) else (upf S.1 (S.2 - 2) ((a + M : Nat) : Int), S.2 - 1) := by
    simp only [hS]
    rw [hnew, hS_cg M hrow, ← hS']
  rw [if_neg (by omega)] at hSn
  have k1 : KnR (gi (popM σ 1) 34) ρ' 64 a (M + 1) := by
    refine KnR_add h5 hrow (fun x i p q hi => fK x _ p q (by omega)) ?_
    rw [hnew, ← hS']
    rcases hbz with ⟨y, yb⟩ | ⟨y, yb⟩
    · rw [yb, show b2i false = 0 from rfl] at h8
      have hr := rK.resolve_right (by omega)
      refine ⟨fun _ => by omega, fun _ q => absurd y q, Or.inr (Or.inr (Or.inl ⟨y, by rw [Nat.add_assoc]; exact hr.2.2.1, ?_⟩))⟩
      rw [Nat.add_assoc, hr.2.2.2, show (gi ρ 85 44 - 1).toNat = S.2 - 1 by omega]
      exact h7 _ (by omega)
    · rw [yb, show b2i true = 1 from rfl] at h8
      have hr := rK.resolve_left (by omega)
      refine ⟨fun _ => by omega, fun _ _ => by omega, Or.inr (Or.inr (Or.inr ⟨by omega, y, by omega, by rw [Nat.add_assoc]; exact hr.2.2.1, ?_, ?_⟩))⟩
      · rw [Nat.add_assoc, hr.2.2.2.1, show (gi ρ 85 44 - 2).toNat = S.2 - 2 by omega]
        exact h7 _ (by omega)
      · rw [Nat.add_assoc, hr.2.2.2.2, show (gi ρ 85 44 - 1).toNat = S.2 - 1 by omega]
        exact h7 _ (by omega)
  refine ⟨M + 1, by rw [gp_0]; omega, by rw [gp_4]; omega, by rw [gp_0]; omega, fun j hj => ?_, k1, ?_, ?_, ?_⟩
  · rw [gp_4] at hj
    rw [r107, gp_o (by omega)]; exact h4 j (by omega)
  · rw [hSn]
    rcases hbz with ⟨y, yb⟩ | ⟨y, yb⟩
    · rw [if_pos y]; have hr := rK.resolve_right (by omega); show _ = (S.2 : Int); omega
    · rw [if_neg y]; have hr := rK.resolve_left (by omega); rw [yb, show b2i true = 1 from rfl] at h8; show _ = ((S.2 - 1 : Nat) : Int); omega
  · rw [hSn]
    rcases hbz with ⟨y, yb⟩ | ⟨y, yb⟩
    · rw [if_pos y]
      rw [yb, show b2i false = 0 from rfl] at h8
      have hr := rK.resolve_right (by omega)
      intro p hp
      have hp : p < S.2 := hp
      show _ = upf S.1 (S.2 - 1) ((a + M : Nat) : Int) p
      simp only [upf]
      by_cases w : p = S.2 - 1
      · rw [if_pos w, w, show S.2 - 1 = (gi ρ' 85 44 - 1).toNat by omega, r108]; omega
      · rw [if_neg w, f108 p (by omega)]; exact h7 p hp
    · rw [if_neg y]
      rw [yb, show b2i true = 1 from rfl] at h8
      have hr := rK.resolve_left (by omega)
      intro p hp
      have hp : p < S.2 - 1 := hp
      show _ = upf S.1 (S.2 - 2) ((a + M : Nat) : Int) p
      simp only [upf]
      by_cases w : p = S.2 - 2
      · rw [if_pos w, w, show S.2 - 2 = (gi ρ' 85 44 - 1).toNat by omega, r108]; omega
      · rw [if_neg w, f108 p (by omega)]; exact h7 p (by omega)
  · rw [hSn, hcs]
    rcases hbz with ⟨y, yb⟩ | ⟨y, yb⟩
    · rw [if_pos y]; rw [yb, show b2i false = 0 from rfl] at h8; show ((S.2 : Nat) : Int) = _; omega
    · rw [if_neg y]; rw [yb, show b2i true = 1 from rfl] at h8; show ((S.2 - 1 : Nat) : Int) = _; omega
/-- a leaf more -/
theorem EP_leaf {a : Nat} {σ s ρ ρ' : Mm} {z : Int} (h : EP a 0 σ ρ) (hz : -7 ≤ z ∧ z ≤ 9999) (c37 : gi s 37 4 = gi σ 37 4) (c33 : gi s 33 0 = gi σ 33 0 + 1) (c39 : ∀ i, gi s 39 i = gi σ 39 i) (c34 : ∀ i, i ≠ (gi σ 33 0).toNat → gi s 34 i = gi σ 34 i) (cz : gi s 34 (gi σ 33 0).toNat = z)
    (r43 : gi ρ' 85 43 = gi ρ 85 43) (r21 : gi ρ' 85 21 = gi ρ 85 21 + 1) (r44 : gi ρ' 85 44 = gi ρ 85 44 + 1) (r107 : ∀ i, gi ρ' 107 i = gi ρ 107 i)
    (rK : (0 ≤ z ∧ gi ρ' 104 (64 + (gi ρ 85 21).toNat) = 0 ∧ gi ρ' 105 (64 + (gi ρ 85 21).toNat) = z) ∨ (z < 0 ∧ gi ρ' 104 (64 + (gi ρ 85 21).toNat) = 1 ∧ gi ρ' 105 (64 + (gi ρ 85 21).toNat) = -1 - z))
    (r108 : gi ρ' 108 (gi ρ 85 44).toNat = gi ρ 85 21) (f108 : ∀ i, i ≠ (gi ρ 85 44).toNat → gi ρ' 108 i = gi ρ 108 i) (fK : ∀ x i, 104 ≤ x → x ≤ 106 → i ≠ 64 + (gi ρ 85 21).toNat → gi ρ' x i = gi ρ x i) : EP a 1 s ρ' := by
  obtain ⟨M, h1, h2, h3, h4, h5, h6, h7, h8⟩ := h
  have hkn : (gi ρ 85 21).toNat = a + M := by omega
  have hkn' : (gi σ 33 0).toNat = a + M := by omega
  rw [hkn] at rK fK
  rw [hkn'] at c34 cz
  have hrow : ∀ i, i < M → gi s 34 (a + i) = gi σ 34 (a + i) := fun i hi => c34 _ (by omega)
  obtain ⟨S, hS'⟩ : ∃ S, S = hS (gi σ 34) a M := ⟨_, rfl⟩
  rw [← hS'] at h6 h7 h8
  have hSn : hS (gi s 34) a (M + 1) = (upf S.1 S.2 ((a + M : Nat) : Int), S.2 + 1) := by
    simp only [hS]
    rw [cz, hS_cg M hrow, ← hS', if_pos hz.1]
  have e39 : (fun j => bnF (gi s 39 j)) = (fun j => bnF (gi σ 39 j)) := funext fun j => by rw [c39]
  refine ⟨M + 1, by omega, by omega, by omega, fun j hj => by rw [r107, c39]; exact h4 j (by omega), KnR_add h5 hrow (fun x i p q hi => fK x _ p q (by omega)) ?_, ?_, ?_, ?_⟩
  · rw [cz]
    refine ⟨fun q => by omega, fun q => by omega, ?_⟩
    rw [Nat.add_assoc]
    rcases rK with r | r
    · exact Or.inl ⟨r.1, hz.2, r.2⟩
    · exact Or.inr (Or.inl ⟨hz.1, r⟩)
  · rw [hSn]; show _ = ((S.2 + 1 : Nat) : Int); omega
  · rw [hSn]
    intro p hp
    have hp : p < S.2 + 1 := hp
    show _ = upf S.1 S.2 ((a + M : Nat) : Int) p
    simp only [upf]
    by_cases w : p = S.2
    · rw [if_pos w, w, show S.2 = (gi ρ 85 44).toNat by omega, r108]; omega
    · rw [if_neg w, f108 p (by omega)]; exact h7 p (by omega)
  · rw [hSn, e39, c37]; show ((S.2 + 1 : Nat) : Int) = _; omega
