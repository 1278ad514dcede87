/-! QUERIES: judges, gossip, plumpest, clashes -/
theorem v_judge {n : Nat}  (j : Int) (w : Int) {σ : Mm} {P : Int → Mm → Prop} (o1 : (0 : Int) ≤ j → j < (gi σ 5 0) → (0 ≤ j ∧ j < 5)) (o2 : (0 : Int) ≤ j → j < (gi σ 5 0) → ∀ x4 : Int, x4 = gi σ 45 j.toNat → w = 3 → (0 ≤ x4 ∧ x4 < 5)) (o3 : (0 : Int) ≤ j → j < (gi σ 5 0) → ∀ x4 : Int, x4 = gi σ 45 j.toNat → w = 4 → (0 ≤ x4 ∧ x4 < 5)) (o4 : (0 : Int) ≤ j → j < (gi σ 5 0) → ∀ x4 : Int, x4 = gi σ 45 j.toNat → w = 5 → (0 ≤ gi σ 5 1 ∧ gi σ 5 1 ≤ 10)) (l1 : j < (0 : Int) → P (-1) σ) (l2 : (0 : Int) ≤ j → (gi σ 5 0) ≤ j → P (-1) σ) (l3 : (0 : Int) ≤ j → j < (gi σ 5 0) → ∀ x4 : Int, x4 = gi σ 45 j.toNat → (w < 0 ∨ 5 < w) → P (-1) σ) (l4 : (0 : Int) ≤ j → j < (gi σ 5 0) → ∀ x4 : Int, x4 = gi σ 45 j.toNat → w = 0 → P (gi σ 7 j.toNat) σ) (l5 : (0 : Int) ≤ j → j < (gi σ 5 0) → ∀ x4 : Int, x4 = gi σ 45 j.toNat → w = 1 → P (gi σ 8 j.toNat) σ) (l6 : (0 : Int) ≤ j → j < (gi σ 5 0) → ∀ x4 : Int, x4 = gi σ 45 j.toNat → w = 2 → P x4 σ) (l7 : (0 : Int) ≤ j → j < (gi σ 5 0) → ∀ x4 : Int, x4 = gi σ 45 j.toNat → w = 3 → P (gi σ 46 x4.toNat) σ) (l8 : (0 : Int) ≤ j → j < (gi σ 5 0) → ∀ x4 : Int, x4 = gi σ 45 j.toNat → w = 4 → ∀ x7 : Int, x7 = b2i (bi (gi σ 40 1) x4.toNat) → x7 = (0 : Int) → P 0 σ) (l9 : (0 : Int) ≤ j → j < (gi σ 5 0) → ∀ x4 : Int, x4 = gi σ 45 j.toNat → w = 4 → ∀ x7 : Int, x7 = b2i (bi (gi σ 40 1) x4.toNat) → x7 ≠ (0 : Int) → P 1 σ) (l10 : (0 : Int) ≤ j → j < (gi σ 5 0) → ∀ x4 : Int, x4 = gi σ 45 j.toNat → w = 5 → ∀ x9 : Int, x9 = cnt (fun q => decide (gi σ 41 q = j ∧ gi σ 43 q ≠ -1)) (gi σ 5 1).toNat → P x9 σ) : Ci 108 [vr 3, vi j, vi w] (shF n) σ P :=
  show R 108 0 [some (vr 3), some (vi j), some (vi w), none] [] (shF n) 0 0 σ (Qi (shF n) P) from wpK_R 20 [] ((show R 103 0 [some (vr 3), _] [] (shF n) 0 0 _ _ from wpK_R 10 [] (And.intro (fun q1 => And.intro ret0 (And.intro (Or.inl rfl) ⟨rfl, _, rfl, And.intro (fun q => absurd q (show ¬ ((0 : Int) ≠ 0) by decide)) (fun _ => And.intro ret0 ⟨rfl, _, rfl, (l1 q1)⟩)⟩)) (fun q1 => And.intro (fun q2 => And.intro ret0 (And.intro (Or.inl rfl) ⟨rfl, _, rfl, And.intro (fun q => absurd q (show ¬ ((0 : Int) ≠ 0) by decide)) (fun _ => And.intro ret0 ⟨rfl, _, rfl, (l2 (Int.not_lt.mp q1) q2)⟩)⟩)) (fun q2 => And.intro ret0 (And.intro (Or.inr rfl) ⟨rfl, _, rfl, And.intro (fun _ => (have k3 := (o1 (Int.not_lt.mp q1) (Int.not_le.mp q2)); And.intro k3 (And.intro (fun q5 => And.intro ret0 ⟨rfl, _, rfl, (l3 (Int.not_lt.mp q1) (Int.not_le.mp q2) _ rfl q5)⟩) (And.intro (fun q5 => And.intro k3 (And.intro ret0 ⟨rfl, _, rfl, (l4 (Int.not_lt.mp q1) (Int.not_le.mp q2) _ rfl q5)⟩)) (And.intro (fun q5 => And.intro k3 (And.intro ret0 ⟨rfl, _, rfl, (l5 (Int.not_lt.mp q1) (Int.not_le.mp q2) _ rfl q5)⟩)) (And.intro (fun q5 => And.intro ret0 ⟨rfl, _, rfl, (l6 (Int.not_lt.mp q1) (Int.not_le.mp q2) _ rfl q5)⟩) (And.intro (fun q5 => (have k6 := (o2 (Int.not_lt.mp q1) (Int.not_le.mp q2) _ rfl q5); And.intro k6 (And.intro ret0 ⟨rfl, _, rfl, (l7 (Int.not_lt.mp q1) (Int.not_le.mp q2) _ rfl q5)⟩))) (And.intro (fun q5 => (c_kept_40  (o3 (Int.not_lt.mp q1) (Int.not_le.mp q2) _ rfl q5) (And.intro (fun q8 => And.intro ret0 ⟨rfl, _, rfl, (l8 (Int.not_lt.mp q1) (Int.not_le.mp q2) _ rfl q5 _ rfl q8)⟩) (fun q8 => And.intro ret0 ⟨rfl, _, rfl, (l9 (Int.not_lt.mp q1) (Int.not_le.mp q2) _ rfl q5 _ rfl q8)⟩)))) (And.intro (fun q5 => (c_hb  (o4 (Int.not_lt.mp q1) (Int.not_le.mp q2) _ rfl q5) (And.intro ret0 ⟨rfl, _, rfl, (l10 (Int.not_lt.mp q1) (Int.not_le.mp q2) _ rfl q5 _ rfl)⟩))) (trivial)))))))))) (fun q => absurd (show (1 : Int) ≠ 0 by decide) q)⟩))))))
theorem v_judgeR {n : Nat}  (j : Int) (w : Int) {σ : Mm} {P : Int → Mm → Prop} (o1 : ∀ t1 : Mm, t1 = si σ 85 2 (0 : Int) → (0 : Int) ≤ j → j < (gi σ 85 12) → w = 0 → (0 ≤ j ∧ j < 10)) (o2 : ∀ t1 : Mm, t1 = si σ 85 2 (0 : Int) → (0 : Int) ≤ j → j < (gi σ 85 12) → w = 1 → (0 ≤ j ∧ j < 10)) (o3 : ∀ t1 : Mm, t1 = si σ 85 2 (0 : Int) → (0 : Int) ≤ j → j < (gi σ 85 12) → w = 2 → (0 ≤ j ∧ j < 10)) (o4 : ∀ t1 : Mm, t1 = si σ 85 2 (0 : Int) → (0 : Int) ≤ j → j < (gi σ 85 12) → w = 3 → (0 ≤ j ∧ j < 10)) (o5 : ∀ t1 : Mm, t1 = si σ 85 2 (0 : Int) → (0 : Int) ≤ j → j < (gi σ 85 12) → w = 3 → (0 ≤ (gi σ 111 j.toNat) ∧ (gi σ 111 j.toNat) < 10)) (o6 : ∀ t1 : Mm, t1 = si σ 85 2 (0 : Int) → (0 : Int) ≤ j → j < (gi σ 85 12) → w = 4 → (0 ≤ j ∧ j < 10)) (o7 : ∀ t1 : Mm, t1 = si σ 85 2 (0 : Int) → (0 : Int) ≤ j → j < (gi σ 85 12) → w = 4 → (0 ≤ (gi σ 111 j.toNat) ∧ (gi σ 111 j.toNat) < 10)) (o8 : ∀ t1 : Mm, t1 = si σ 85 2 (0 : Int) → (0 : Int) ≤ j → j < (gi σ 85 12) → w = 5 → (0 ≤ gi t1 85 13 ∧ gi t1 85 13 ≤ 10)) (l1 : ∀ t1 : Mm, t1 = si σ 85 2 (0 : Int) → j < (0 : Int) → P (-1) t1) (l2 : ∀ t1 : Mm, t1 = si σ 85 2 (0 : Int) → (0 : Int) ≤ j → (gi σ 85 12) ≤ j → P (-1) t1) (l3 : ∀ t1 : Mm, t1 = si σ 85 2 (0 : Int) → (0 : Int) ≤ j → j < (gi σ 85 12) → (w < 0 ∨ 5 < w) → P (-1) t1) (l4 : ∀ t1 : Mm, t1 = si σ 85 2 (0 : Int) → (0 : Int) ≤ j → j < (gi σ 85 12) → w = 0 → P (gi σ 91 j.toNat) t1) (l5 : ∀ t1 : Mm, t1 = si σ 85 2 (0 : Int) → (0 : Int) ≤ j → j < (gi σ 85 12) → w = 1 → P (gi σ 92 j.toNat) t1) (l6 : ∀ t1 : Mm, t1 = si σ 85 2 (0 : Int) → (0 : Int) ≤ j → j < (gi σ 85 12) → w = 2 → P (gi σ 111 j.toNat) t1) (l7 : ∀ t1 : Mm, t1 = si σ 85 2 (0 : Int) → (0 : Int) ≤ j → j < (gi σ 85 12) → w = 3 → P (gi σ 113 (gi σ 111 j.toNat).toNat) t1) (l8 : ∀ t1 : Mm, t1 = si σ 85 2 (0 : Int) → (0 : Int) ≤ j → j < (gi σ 85 12) → w = 4 → (gi σ 112 (gi σ 111 j.toNat).toNat) = (0 : Int) → P 0 t1) (l9 : ∀ t1 : Mm, t1 = si σ 85 2 (0 : Int) → (0 : Int) ≤ j → j < (gi σ 85 12) → w = 4 → (gi σ 112 (gi σ 111 j.toNat).toNat) ≠ (0 : Int) → P 1 t1) (l10 : ∀ t1 : Mm, t1 = si σ 85 2 (0 : Int) → (0 : Int) ≤ j → j < (gi σ 85 12) → w = 5 → ∀ x13 : Int, x13 = cnt (fun q => decide (gi t1 115 q = j ∧ 0 ≤ gi t1 117 q)) (gi t1 85 13).toNat → P x13 t1) : Ci 224 [vr 85, vi j, vi w] (shF n) σ P :=
  show R 224 0 [some (vr 85), some (vi j), some (vi w)] [] (shF n) 0 0 σ (Qi (shF n) P) from wpK_R 20 [] ((show R 200 0 [some (vr 85), _] [] (shF n) 0 0 _ _ from wpK_R 9 [] (And.intro (fun q2 => And.intro ret0 (And.intro (Or.inl rfl) ⟨rfl, _, rfl, And.intro (fun q => absurd q (show ¬ ((0 : Int) ≠ 0) by decide)) (fun _ => And.intro ret0 ⟨rfl, _, rfl, (l1 _ rfl q2)⟩)⟩)) (fun q2 => And.intro (fun q3 => And.intro ret0 (And.intro (Or.inl rfl) ⟨rfl, _, rfl, And.intro (fun q => absurd q (show ¬ ((0 : Int) ≠ 0) by decide)) (fun _ => And.intro ret0 ⟨rfl, _, rfl, (l2 _ rfl (Int.not_lt.mp q2) q3)⟩)⟩)) (fun q3 => And.intro ret0 (And.intro (Or.inr rfl) ⟨rfl, _, rfl, And.intro (fun _ => And.intro (fun q4 => And.intro ret0 ⟨rfl, _, rfl, (l3 _ rfl (Int.not_lt.mp q2) (Int.not_le.mp q3) q4)⟩) (And.intro (fun q4 => (have k5 := (o1 _ rfl (Int.not_lt.mp q2) (Int.not_le.mp q3) q4); And.intro k5 (And.intro ret0 ⟨rfl, _, rfl, (l4 _ rfl (Int.not_lt.mp q2) (Int.not_le.mp q3) q4)⟩))) (And.intro (fun q4 => (have k6 := (o2 _ rfl (Int.not_lt.mp q2) (Int.not_le.mp q3) q4); And.intro k6 (And.intro ret0 ⟨rfl, _, rfl, (l5 _ rfl (Int.not_lt.mp q2) (Int.not_le.mp q3) q4)⟩))) (And.intro (fun q4 => (have k7 := (o3 _ rfl (Int.not_lt.mp q2) (Int.not_le.mp q3) q4); And.intro k7 (And.intro ret0 ⟨rfl, _, rfl, (l6 _ rfl (Int.not_lt.mp q2) (Int.not_le.mp q3) q4)⟩))) (And.intro (fun q4 => (have k8 := (o4 _ rfl (Int.not_lt.mp q2) (Int.not_le.mp q3) q4); And.intro k8 ((have k9 := (o5 _ rfl (Int.not_lt.mp q2) (Int.not_le.mp q3) q4); And.intro k9 (And.intro ret0 ⟨rfl, _, rfl, (l7 _ rfl (Int.not_lt.mp q2) (Int.not_le.mp q3) q4)⟩))))) (And.intro (fun q4 => (have k10 := (o6 _ rfl (Int.not_lt.mp q2) (Int.not_le.mp q3) q4); And.intro k10 ((have k11 := (o7 _ rfl (Int.not_lt.mp q2) (Int.not_le.mp q3) q4); And.intro k11 (And.intro (fun q12 => And.intro ret0 ⟨rfl, _, rfl, (l8 _ rfl (Int.not_lt.mp q2) (Int.not_le.mp q3) q4 q12)⟩) (fun q12 => And.intro ret0 ⟨rfl, _, rfl, (l9 _ rfl (Int.not_lt.mp q2) (Int.not_le.mp q3) q4 q12)⟩)))))) (And.intro (fun q4 => (c_hbR  (o8 _ rfl (Int.not_lt.mp q2) (Int.not_le.mp q3) q4) (And.intro ret0 ⟨rfl, _, rfl, (l10 _ rfl (Int.not_lt.mp q2) (Int.not_le.mp q3) q4 _ rfl)⟩))) (trivial)))))))) (fun q => absurd (show (1 : Int) ≠ 0 by decide) q)⟩))))))
theorem q_judge {xs : Nat → Int} {N n : Nat} {σ : Mm} (h : Rel xs N σ) (j w : Int) : Bi xs N n 108 [vr 3, vi j, vi w] 224 [vr 85, vi j, vi w] σ := by
  obtain ⟨c0, c1, c2, c3, c5, d0, d1, d2, d3, -⟩ := Rel_cnt h
  have hu : 0 ≤ j → j < gi σ 5 0 → 0 ≤ gi σ 45 j.toNat ∧ gi σ 45 j.toNat < gi σ 5 0 := fun h1 h2 => (Rel_j h (j := j.toNat) (by omega)).2.2.2
  have e111 : 0 ≤ j → j < gi σ 5 0 → gi σ 111 j.toNat = gi σ 45 j.toNat := fun h1 h2 => (Rel_w5 h (by omega)).1
  have e91 : 0 ≤ j → j < gi σ 5 0 → gi σ 91 j.toNat = gi σ 7 j.toNat ∧ gi σ 92 j.toNat = gi σ 8 j.toNat := fun h1 h2 => ⟨(Rel_j h (j := j.toNat) (by omega)).1.2.1, (Rel_j h (j := j.toNat) (by omega)).1.2.2⟩
  have e113 : 0 ≤ j → j < gi σ 5 0 → gi σ 113 (gi σ 111 j.toNat).toNat = gi σ 46 (gi σ 45 j.toNat).toNat ∧ gi σ 112 (gi σ 111 j.toNat).toNat = b2i (bi (gi σ 40 1) (gi σ 45 j.toNat).toNat) := fun h1 h2 => by
    rw [e111 h1 h2]
    have := hu h1 h2
    have := Rel_w5 h (j := (gi σ 45 j.toNat).toNat) (by omega)
    exact ⟨this.2.2.1, this.2.1⟩
  have ecnt : cnt (fun q => decide (gi σ 115 q = j ∧ 0 ≤ gi σ 117 q)) (gi σ 5 1).toNat = cnt (fun q => decide (gi σ 41 q = j ∧ gi σ 43 q ≠ -1)) (gi σ 5 1).toNat := cnt_congr fun q hq => by
    have q1 := (Rel_c h (c := q) (by omega)).2.2.2.1
    have q2 := Rel_w10 h (c := q) (by omega)
    rw [q1, q2.2.1]
    congr 1
    apply propext
    omega
  have hR : Ci 224 [vr 85, vi j, vi w] (shF n) σ (fun v' s' => v' = judgeS σ j w ∧ Rel xs N s') := by
    refine v_judgeR j w (by intros; subst_vars; rw [d0] at *; first | omega | (have q := hu (by assumption) (by assumption); have q1 := e111 (by assumption) (by assumption); omega) | (rw [gi_si, if_neg (by omega)]; omega)) (by intros; subst_vars; rw [d0] at *; first | omega | (have q := hu (by assumption) (by assumption); have q1 := e111 (by assumption) (by assumption); omega) | (rw [gi_si, if_neg (by omega)]; omega)) (by intros; subst_vars; rw [d0] at *; first | omega | (have q := hu (by assumption) (by assumption); have q1 := e111 (by assumption) (by assumption); omega) | (rw [gi_si, if_neg (by omega)]; omega)) (by intros; subst_vars; rw [d0] at *; first | omega | (have q := hu (by assumption) (by assumption); have q1 := e111 (by assumption) (by assumption); omega) | (rw [gi_si, if_neg (by omega)]; omega)) (by intros; subst_vars; rw [d0] at *; first | omega | (have q := hu (by assumption) (by assumption); have q1 := e111 (by assumption) (by assumption); omega) | (rw [gi_si, if_neg (by omega)]; omega)) (by intros; subst_vars; rw [d0] at *; first | omega | (have q := hu (by assumption) (by assumption); have q1 := e111 (by assumption) (by assumption); omega) | (rw [gi_si, if_neg (by omega)]; omega)) (by intros; subst_vars; rw [d0] at *; first | omega | (have q := hu (by assumption) (by assumption); have q1 := e111 (by assumption) (by assumption); omega) | (rw [gi_si, if_neg (by omega)]; omega)) (by intros; subst_vars; rw [d0] at *; first | omega | (have q := hu (by assumption) (by assumption); have q1 := e111 (by assumption) (by assumption); omega) | (rw [gi_si, if_neg (by omega)]; omega)) ?_ ?_ ?_ ?_ ?_ ?_ ?_ ?_ ?_ ?_
    all_goals (intro t ht; subst ht; intros; refine ⟨?_, Rel_th h⟩; unfold judgeS; rw [d0] at *)
    all_goals first
      | (rw [if_neg (by omega)])
      | (rw [if_pos (by omega)]
         have q2 := e113 (by assumption) (by assumption)
         have q1 := e111 (by assumption) (by assumption)
         have q3 := e91 (by assumption) (by assumption)
         have q4 := b2i_01 (bi (gi σ 40 1) (gi σ 45 j.toNat).toNat)
         subst_vars
         first
          | (rw [if_neg (by omega), if_neg (by omega), if_neg (by omega), if_neg (by omega), if_neg (by omega), if_neg (by omega)]; done)
          | (simp; omega)
          | (simp only [if_neg (show ¬ (5 : Int) = 0 by omega), if_neg (show ¬ (5 : Int) = 1 by omega), if_neg (show ¬ (5 : Int) = 2 by omega), if_neg (show ¬ (5 : Int) = 3 by omega), if_neg (show ¬ (5 : Int) = 4 by omega), if_true]; rw [← ecnt, ← d1]; rfl))
  refine v_judge j w (by intros; subst_vars; first | omega | (have q := hu (by assumption) (by assumption); omega)) (by intros; subst_vars; first | omega | (have q := hu (by assumption) (by assumption); omega)) (by intros; subst_vars; first | omega | (have q := hu (by assumption) (by assumption); omega)) (by intros; subst_vars; first | omega | (have q := hu (by assumption) (by assumption); omega)) ?_ ?_ ?_ ?_ ?_ ?_ ?_ ?_ ?_ ?_
  all_goals (intros; refine Ci_mono hR (fun v s q => ⟨q.1.trans ?_, q.2⟩); unfold judgeS)
  all_goals first
    | (rw [if_neg (by omega)])
    | (rw [if_pos (by omega)]
       have q4 := b2i_01 (bi (gi σ 40 1) (gi σ 45 j.toNat).toNat)
       subst_vars
       first
        | (rw [if_neg (by omega), if_neg (by omega), if_neg (by omega), if_neg (by omega), if_neg (by omega), if_neg (by omega)]; done)
        | (simp; done)
        | (simp; omega))
/-- bits 0 .. k - 1 by p -/
def orF (p : Nat → Bool) : Nat → Int
  | 0 => 0
  | k + 1 => if p k then oor (orF p k) (oshl 1 (k : Int)) else orF p k
theorem orF_rg (p : Nat → Bool) : ∀ k, rg (orF p k) := by
  intro k
  induction k with
  | zero => exact ⟨by show (-2147483648 : Int) ≤ 0; omega, by show (0 : Int) < 2147483648; omega⟩
  | succ k ih =>
    simp only [orF]
    split
    · exact oor_rg _ _
    · exact ih
theorem oor_0 {a : Int} (h : rg a) : oor a 0 = a := bi_ext (oor_rg _ _) h fun k _ => by rw [bi_or, bi_0, Bool.or_false]
theorem orF_congr {p p' : Nat → Bool} : ∀ {k : Nat}, (∀ q, q < k → p q = p' q) → orF p k = orF p' k := by
  intro k
  induction k with
  | zero => intro _; rfl
  | succ k ih => intro h; simp only [orF]; rw [ih (fun q hq => h q (by omega)), h k (by omega)]
theorem shr1' {k : Int} (hk : 0 ≤ k ∧ k < 32) (a : Int) : oand (oshr a k) 1 = if bi a k.toNat then 1 else 0 := by
  obtain ⟨m, rfl⟩ := Int.eq_ofNat_of_zero_le hk.1
  rw [Int.toNat_natCast]; exact shr1 (by omega) a
theorem v_gos_0 {n : Nat}  (c : Int) {σ : Mm} {P : Int → Mm → Prop} (l1 : c < (0 : Int) → P (-1) σ) (l2 : (0 : Int) ≤ c → (gi σ 5 1) ≤ c → P (-1) σ) (l3 : (0 : Int) ≤ c → c < (gi σ 5 1) → R 138 14 [some (vr 3), some (vi c), some (vi 0), some (vi 0)] [] (shF n) 0 0 σ (Qi (shF n) P)) : Ci 138 [vr 3, vi c] (shF n) σ P :=
  show R 138 0 [some (vr 3), some (vi c), none, none] [] (shF n) 0 0 σ (Qi (shF n) P) from wpK_R 9 [14] ((show R 104 0 [some (vr 3), _] [] (shF n) 0 0 _ _ from wpK_R 10 [] (And.intro (fun q1 => And.intro ret0 (And.intro (Or.inl rfl) ⟨rfl, _, rfl, And.intro (fun q => absurd q (show ¬ ((0 : Int) ≠ 0) by decide)) (fun _ => And.intro ret0 ⟨rfl, _, rfl, (l1 q1)⟩)⟩)) (fun q1 => And.intro (fun q2 => And.intro ret0 (And.intro (Or.inl rfl) ⟨rfl, _, rfl, And.intro (fun q => absurd q (show ¬ ((0 : Int) ≠ 0) by decide)) (fun _ => And.intro ret0 ⟨rfl, _, rfl, (l2 (Int.not_lt.mp q1) q2)⟩)⟩)) (fun q2 => And.intro ret0 (And.intro (Or.inr rfl) ⟨rfl, _, rfl, And.intro (fun _ => (l3 (Int.not_lt.mp q1) (Int.not_le.mp q2))) (fun q => absurd (show (1 : Int) ≠ 0 by decide) q)⟩))))))
theorem v_gos_L {n : Nat}  (c : Int) (x : Int) (k : Nat) {σ : Mm} {P : Int → Mm → Prop} (o1 : (k : Int) < (gi σ 5 2) → (0 ≤ (k : Int) ∧ (k : Int) < 5)) (o2 : (k : Int) < (gi σ 5 2) → (oand (oshr (gi σ 48 k) c) (1 : Int)) = (0 : Int) → rg ((k : Int) + 1)) (o3 : (k : Int) < (gi σ 5 2) → (oand (oshr (gi σ 48 k) c) (1 : Int)) ≠ (0 : Int) → ∀ x5 : Int, x5 = oor x (oshl (1 : Int) (k : Int)) → rg ((k : Int) + 1)) (l1 : (gi σ 5 2) ≤ (k : Int) → P x σ) (l2 : (k : Int) < (gi σ 5 2) → (oand (oshr (gi σ 48 k) c) (1 : Int)) = (0 : Int) → R 138 14 [some (vr 3), some (vi c), some (vi x), some (vi ((k : Int) + 1))] [] (shF n) 0 0 σ (Qi (shF n) P)) (l3 : (k : Int) < (gi σ 5 2) → (oand (oshr (gi σ 48 k) c) (1 : Int)) ≠ (0 : Int) → ∀ x5 : Int, x5 = oor x (oshl (1 : Int) (k : Int)) → R 138 14 [some (vr 3), some (vi c), some (vi x5), some (vi ((k : Int) + 1))] [] (shF n) 0 0 σ (Qi (shF n) P)) : R 138 14 [some (vr 3), some (vi c), some (vi x), some (vi (k : Int))] [] (shF n) 0 0 σ (Qi (shF n) P) :=
  wpK_R 24 [14] (And.intro (fun q1 => And.intro ret0 ⟨rfl, _, rfl, (l1 q1)⟩) (fun q1 => (have k2 := (o1 (Int.not_le.mp q1)); And.intro k2 (And.intro (fun q3 => (have k4 := (o2 (Int.not_le.mp q1) q3); And.intro k4 ((l2 (Int.not_le.mp q1) q3)))) (fun q3 => (have k6 := (o3 (Int.not_le.mp q1) q3 _ rfl); And.intro k6 ((l3 (Int.not_le.mp q1) q3 _ rfl))))))))
theorem v_gosR_0 {n : Nat}  (c : Int) {σ : Mm} {P : Int → Mm → Prop} (l1 : ∀ t1 : Mm, t1 = si σ 85 2 (0 : Int) → c < (0 : Int) → P (-1) t1) (l2 : ∀ t1 : Mm, t1 = si σ 85 2 (0 : Int) → (0 : Int) ≤ c → (gi σ 85 13) ≤ c → P (-1) t1) (l3 : ∀ t1 : Mm, t1 = si σ 85 2 (0 : Int) → (0 : Int) ≤ c → c < (gi σ 85 13) → R 227 19 [some (vr 85), some (vi c), some (vi 0), some (vi 0)] [] (shF n) 0 0 t1 (Qi (shF n) P)) : Ci 227 [vr 85, vi c] (shF n) σ P :=
  show R 227 0 [some (vr 85), some (vi c), none, none] [] (shF n) 0 0 σ (Qi (shF n) P) from wpK_R 12 [19] ((show R 201 0 [some (vr 85), _] [] (shF n) 0 0 _ _ from wpK_R 9 [] (And.intro (fun q2 => And.intro ret0 (And.intro (Or.inl rfl) ⟨rfl, _, rfl, And.intro (fun q => absurd q (show ¬ ((0 : Int) ≠ 0) by decide)) (fun _ => And.intro ret0 ⟨rfl, _, rfl, (l1 _ rfl q2)⟩)⟩)) (fun q2 => And.intro (fun q3 => And.intro ret0 (And.intro (Or.inl rfl) ⟨rfl, _, rfl, And.intro (fun q => absurd q (show ¬ ((0 : Int) ≠ 0) by decide)) (fun _ => And.intro ret0 ⟨rfl, _, rfl, (l2 _ rfl (Int.not_lt.mp q2) q3)⟩)⟩)) (fun q3 => And.intro ret0 (And.intro (Or.inr rfl) ⟨rfl, _, rfl, And.intro (fun _ => (l3 _ rfl (Int.not_lt.mp q2) (Int.not_le.mp q3))) (fun q => absurd (show (1 : Int) ≠ 0 by decide) q)⟩))))))
theorem v_gosR_L {n : Nat}  (c : Int) (x : Int) (k : Nat) {σ : Mm} {P : Int → Mm → Prop} (o1 : (k : Int) < (gi σ 85 14) → (0 ≤ (k : Int) ∧ (k : Int) < 10)) (o2 : (k : Int) < (gi σ 85 14) → (oand (oshr (gi σ 119 k) c) (1 : Int)) ≠ (1 : Int) → ∀ x4 : Int, x4 = oor x (0 : Int) → rg ((k : Int) + 1)) (o3 : (k : Int) < (gi σ 85 14) → (oand (oshr (gi σ 119 k) c) (1 : Int)) = (1 : Int) → ∀ x6 : Int, x6 = oor x (oshl (1 : Int) (k : Int)) → rg ((k : Int) + 1)) (l1 : (gi σ 85 14) ≤ (k : Int) → P x σ) (l2 : (k : Int) < (gi σ 85 14) → (oand (oshr (gi σ 119 k) c) (1 : Int)) ≠ (1 : Int) → ∀ x4 : Int, x4 = oor x (0 : Int) → R 227 19 [some (vr 85), some (vi c), some (vi x4), some (vi ((k : Int) + 1))] [] (shF n) 0 0 σ (Qi (shF n) P)) (l3 : (k : Int) < (gi σ 85 14) → (oand (oshr (gi σ 119 k) c) (1 : Int)) = (1 : Int) → ∀ x6 : Int, x6 = oor x (oshl (1 : Int) (k : Int)) → R 227 19 [some (vr 85), some (vi c), some (vi x6), some (vi ((k : Int) + 1))] [] (shF n) 0 0 σ (Qi (shF n) P)) : R 227 19 [some (vr 85), some (vi c), some (vi x), some (vi (k : Int))] [] (shF n) 0 0 σ (Qi (shF n) P) :=
  wpK_R 21 [19] (And.intro (fun q1 => And.intro ret0 ⟨rfl, _, rfl, (l1 q1)⟩) (fun q1 => (have k2 := (o1 (Int.not_le.mp q1)); And.intro k2 ((show R 158 0 [_, _] [] (shF n) 0 0 _ _ from wpK_R 10 [] (And.intro (fun q3 => And.intro ret0 (And.intro (Or.inl rfl) ⟨rfl, _, rfl, And.intro (fun _ => (have k5 := (o2 (Int.not_le.mp q1) q3 _ rfl); And.intro k5 ((l2 (Int.not_le.mp q1) q3 _ rfl)))) (fun q => absurd (show (0 : Int) = 0 by decide) q)⟩)) (fun q3 => And.intro ret0 (And.intro (Or.inr rfl) ⟨rfl, _, rfl, And.intro (fun q => absurd q (show ¬ ((1 : Int) = 0) by decide)) (fun _ => (have k7 := (o3 (Int.not_le.mp q1) (Classical.not_not.mp q3) _ rfl); And.intro k7 ((l3 (Int.not_le.mp q1) (Classical.not_not.mp q3) _ rfl))))⟩))))))))
theorem q_gossip {xs : Nat → Int} {N n : Nat} {σ : Mm} (h : Rel xs N σ) (c : Int) : Bi xs N n 138 [vr 3, vi c] 227 [vr 85, vi c] σ := by
  obtain ⟨c0, c1, c2, c3, c5, d0, d1, d2, d3, -⟩ := Rel_cnt h
  have hR : ∀ t : Mm, (∀ a i, a ≠ 85 → gi t a i = gi σ a i) → gi t 85 14 = gi σ 5 2 → Rel xs N t → 0 ≤ c → c < gi σ 5 1 → R 227 19 [some (vr 85), some (vi c), some (vi 0), some (vi 0)] [] (shF n) 0 0 t (Qi (shF n) (fun v' s' => v' = orF (fun k => bi (gi σ 48 k) c.toNat) (gi σ 5 2).toNat ∧ Rel xs N s')) := fun t ht h14 hrel h1 h2 => by
    refine loopUp (N := (gi σ 5 2).toNat) (I := fun k => R 227 19 [some (vr 85), some (vi c), some (vi (orF (fun k => bi (gi σ 48 k) c.toNat) k)), some (vi (k : Int))] [] (shF n) 0 0 t (Qi (shF n) (fun v' s' => v' = orF (fun k => bi (gi σ 48 k) c.toNat) (gi σ 5 2).toNat ∧ Rel xs N s'))) (fun k hk ih => ?_) 0 (by omega)
    have hsh := shr1' (k := c) (by omega) (gi σ 48 k)
    have e119 : k < 5 → gi t 119 k = gi σ 48 k := fun h5 => by rw [ht _ _ (by omega)]; exact (Rel_w5 h h5).2.2.2.1
    have horg := orF_rg (fun k => bi (gi σ 48 k) c.toNat) k
    refine v_gosR_L c _ k (by intros; first | omega | (unfold rg; omega) | (subst_vars; simp only [gi_si, gi_sl, gl_si, gl_sl]; first | omega | (unfold rg; omega))) (by intros; first | omega | (unfold rg; omega) | (subst_vars; simp only [gi_si, gi_sl, gl_si, gl_sl]; first | omega | (unfold rg; omega))) (by intros; first | omega | (unfold rg; omega) | (subst_vars; simp only [gi_si, gi_sl, gl_si, gl_sl]; first | omega | (unfold rg; omega))) ?_ ?_ ?_
    · intro hge
      rw [show (gi σ 5 2).toNat = k by omega]
      exact ⟨rfl, hrel⟩
    · intro hlt h3 x4 hx4
      rw [e119 (by omega), hsh] at h3
      have hf : bi (gi σ 48 k) c.toNat = false := by cases hq : bi (gi σ 48 k) c.toNat <;> simp [hq] at h3 ⊢
      refine R_eq (ih (by omega)) ?_
      rw [hx4, oor_0 horg]
      simp [orF, hf]
    · intro hlt h3 x4 hx4
      rw [e119 (by omega), hsh] at h3
      have hf : bi (gi σ 48 k) c.toNat = true := by cases hq : bi (gi σ 48 k) c.toNat <;> simp [hq] at h3 ⊢
      refine R_eq (ih (by omega)) ?_
      rw [hx4]
      simp [orF, hf]
  have hL : 0 ≤ c → c < gi σ 5 1 → ∀ {P : Int → Mm → Prop}, P (orF (fun k => bi (gi σ 48 k) c.toNat) (gi σ 5 2).toNat) σ → R 138 14 [some (vr 3), some (vi c), some (vi 0), some (vi 0)] [] (shF n) 0 0 σ (Qi (shF n) P) := fun h1 h2 P hP => by
    refine loopUp (N := (gi σ 5 2).toNat) (I := fun k => R 138 14 [some (vr 3), some (vi c), some (vi (orF (fun k => bi (gi σ 48 k) c.toNat) k)), some (vi (k : Int))] [] (shF n) 0 0 σ (Qi (shF n) P)) (fun k hk ih => ?_) 0 (by omega)
    have hsh := shr1' (k := c) (by omega) (gi σ 48 k)
    refine v_gos_L c _ k (by intros; first | omega | (unfold rg; omega) | (subst_vars; simp only [gi_si, gi_sl, gl_si, gl_sl]; first | omega | (unfold rg; omega))) (by intros; first | omega | (unfold rg; omega) | (subst_vars; simp only [gi_si, gi_sl, gl_si, gl_sl]; first | omega | (unfold rg; omega))) (by intros; first | omega | (unfold rg; omega) | (subst_vars; simp only [gi_si, gi_sl, gl_si, gl_sl]; first | omega | (unfold rg; omega))) ?_ ?_ ?_
    · intro hge
      rw [show (gi σ 5 2).toNat = k by omega] at hP
      exact hP
    · intro hlt h3
      rw [hsh] at h3
      have hf : bi (gi σ 48 k) c.toNat = false := by cases hq : bi (gi σ 48 k) c.toNat <;> simp [hq] at h3 ⊢
      refine R_eq (ih (by omega)) ?_
      simp [orF, hf]
    · intro hlt h3 x4 hx4
      rw [hsh] at h3
      have hf : bi (gi σ 48 k) c.toNat = true := by cases hq : bi (gi σ 48 k) c.toNat <;> simp [hq] at h3 ⊢
      refine R_eq (ih (by omega)) ?_
      rw [hx4]
      simp [orF, hf]
  refine v_gos_0 c ?_ ?_ ?_
  · intro h1
    refine v_gosR_0 c ?_ ?_ ?_
    all_goals (intro t ht; subst ht; intros; first | exact ⟨rfl, Rel_th h⟩ | (exfalso; omega))
  · intro h1 h2
    refine v_gosR_0 c ?_ ?_ ?_
    all_goals (intro t ht; subst ht; intros; first | exact ⟨rfl, Rel_th h⟩ | (exfalso; omega))
  · intro h1 h2
    refine hL h1 h2 ?_
    refine v_gosR_0 c ?_ ?_ ?_
    all_goals (intro t ht; subst ht; intros; first | (exfalso; omega) | skip)
    exact hR _ (fun a i q => by rw [gi_ne q]) (by rw [gi_si, if_neg (by omega), d2]) (Rel_th h) h1 h2
def pmF (s : Nat → Int) : Nat → Int
  | 0 => -1
  | k + 1 => if pmF s k < 0 ∨ s (pmF s k).toNat < s k then (k : Int) else pmF s k
theorem pmF_in (s : Nat → Int) : ∀ k : Nat, -1 ≤ pmF s k ∧ pmF s k < (k : Int) ∧ (0 < k → 0 ≤ pmF s k) := by
  intro k
  induction k with
  | zero => exact ⟨by show (-1 : Int) ≤ -1; omega, by show (-1 : Int) < 0; omega, fun h => absurd h (by omega)⟩
  | succ k ih =>
    simp only [pmF]
    split
    · omega
    · rename_i q
      omega
theorem pmF_congr {s s' : Nat → Int} : ∀ {k : Nat}, (∀ q, q < k → s q = s' q) → pmF s k = pmF s' k := by
  intro k
  induction k with
  | zero => intro _; rfl
  | succ k ih =>
    intro h
    have e := ih (fun q hq => h q (by omega))
    have hin := pmF_in s' k
    simp only [pmF]
    rw [e, h k (by omega)]
    by_cases q : pmF s' k < 0
    · simp [q]
    · rw [h (pmF s' k).toNat (by omega)]
theorem v_pst_0 {n : Nat}   {σ : Mm} {P : Int → Mm → Prop} (l1 : R 137 6 [some (vr 3), some (vi (-1)), some (vi (-1)), some (vi 0), none] [] (shF n) 0 0 σ (Qi (shF n) P)) : Ci 137 [vr 3] (shF n) σ P :=
  show R 137 0 [some (vr 3), none, none, none, none] [] (shF n) 0 0 σ (Qi (shF n) P) from wpK_R 7 [6] ((l1))
theorem v_pst_L {n : Nat}  (be : Int) (mo : Int) (k : Nat) (z : Option PV) {σ : Mm} {P : Int → Mm → Prop} (o1 : (k : Int) < (gi σ 5 0) → (0 ≤ (k : Int) ∧ (k : Int) < 5)) (o2 : (k : Int) < (gi σ 5 0) → (0 ≤ (gi σ 45 k) ∧ (gi σ 45 k) < 5)) (o3 : (k : Int) < (gi σ 5 0) → ∀ x4 : Int, x4 = gi σ 46 (gi σ 45 k).toNat → x4 ≤ mo → rg ((k : Int) + 1)) (o4 : (k : Int) < (gi σ 5 0) → ∀ x4 : Int, x4 = gi σ 46 (gi σ 45 k).toNat → mo < x4 → rg ((k : Int) + 1)) (l1 : (gi σ 5 0) ≤ (k : Int) → P be σ) (l2 : (k : Int) < (gi σ 5 0) → ∀ x4 : Int, x4 = gi σ 46 (gi σ 45 k).toNat → x4 ≤ mo → R 137 6 [some (vr 3), some (vi be), some (vi mo), some (vi ((k : Int) + 1)), some (vi x4)] [] (shF n) 0 0 σ (Qi (shF n) P)) (l3 : (k : Int) < (gi σ 5 0) → ∀ x4 : Int, x4 = gi σ 46 (gi σ 45 k).toNat → mo < x4 → R 137 6 [some (vr 3), some (vi (k : Int)), some (vi x4), some (vi ((k : Int) + 1)), some (vi x4)] [] (shF n) 0 0 σ (Qi (shF n) P)) : R 137 6 [some (vr 3), some (vi be), some (vi mo), some (vi (k : Int)), z] [] (shF n) 0 0 σ (Qi (shF n) P) :=
  wpK_R 25 [6] (And.intro (fun q1 => And.intro ret0 ⟨rfl, _, rfl, (l1 q1)⟩) (fun q1 => (have k2 := (o1 (Int.not_le.mp q1)); And.intro k2 ((have k3 := (o2 (Int.not_le.mp q1)); And.intro k3 (And.intro (fun q5 => (have k6 := (o3 (Int.not_le.mp q1) _ rfl q5); And.intro k6 ((l2 (Int.not_le.mp q1) _ rfl q5)))) (fun q5 => (have k7 := (o4 (Int.not_le.mp q1) _ rfl (Int.not_le.mp q5)); And.intro k7 ((l3 (Int.not_le.mp q1) _ rfl (Int.not_le.mp q5)))))))))))
theorem v_pstR_0 {n : Nat}   {σ : Mm} {P : Int → Mm → Prop} (l1 : ∀ t1 : Mm, t1 = si σ 85 2 (0 : Int) → R 251 9 [some (vr 85), some (vi (-1)), some (vi 0)] [] (shF n) 0 0 t1 (Qi (shF n) P)) : Ci 251 [vr 85] (shF n) σ P :=
  show R 251 0 [some (vr 85), none, none] [] (shF n) 0 0 σ (Qi (shF n) P) from wpK_R 8 [9] ((l1 _ rfl))
theorem v_pstR_L {n : Nat}  (be : Int) (k : Nat) {σ : Mm} {P : Int → Mm → Prop} (o1 : (k : Int) < (gi σ 85 12) → be < (0 : Int) → rg ((k : Int) + 1)) (o2 : (k : Int) < (gi σ 85 12) → (0 : Int) ≤ be → (0 ≤ (k : Int) ∧ (k : Int) < 10)) (o3 : (k : Int) < (gi σ 85 12) → (0 : Int) ≤ be → (0 ≤ (gi σ 111 k) ∧ (gi σ 111 k) < 10)) (o4 : (k : Int) < (gi σ 85 12) → (0 : Int) ≤ be → (0 ≤ be ∧ be < 10)) (o5 : (k : Int) < (gi σ 85 12) → (0 : Int) ≤ be → (0 ≤ (gi σ 111 be.toNat) ∧ (gi σ 111 be.toNat) < 10)) (o6 : (k : Int) < (gi σ 85 12) → (0 : Int) ≤ be → (gi σ 113 (gi σ 111 k).toNat) ≤ (gi σ 113 (gi σ 111 be.toNat).toNat) → rg ((k : Int) + 1)) (o7 : (k : Int) < (gi σ 85 12) → (0 : Int) ≤ be → (gi σ 113 (gi σ 111 be.toNat).toNat) < (gi σ 113 (gi σ 111 k).toNat) → rg ((k : Int) + 1)) (l1 : (gi σ 85 12) ≤ (k : Int) → P be σ) (l2 : (k : Int) < (gi σ 85 12) → be < (0 : Int) → R 251 9 [some (vr 85), some (vi (k : Int)), some (vi ((k : Int) + 1))] [] (shF n) 0 0 σ (Qi (shF n) P)) (l3 : (k : Int) < (gi σ 85 12) → (0 : Int) ≤ be → (gi σ 113 (gi σ 111 k).toNat) ≤ (gi σ 113 (gi σ 111 be.toNat).toNat) → R 251 9 [some (vr 85), some (vi be), some (vi ((k : Int) + 1))] [] (shF n) 0 0 σ (Qi (shF n) P)) (l4 : (k : Int) < (gi σ 85 12) → (0 : Int) ≤ be → (gi σ 113 (gi σ 111 be.toNat).toNat) < (gi σ 113 (gi σ 111 k).toNat) → R 251 9 [some (vr 85), some (vi (k : Int)), some (vi ((k : Int) + 1))] [] (shF n) 0 0 σ (Qi (shF n) P)) : R 251 9 [some (vr 85), some (vi be), some (vi (k : Int))] [] (shF n) 0 0 σ (Qi (shF n) P) :=
  wpK_R 27 [9] (And.intro (fun q1 => And.intro ret0 ⟨rfl, _, rfl, (l1 q1)⟩) (fun q1 => And.intro (fun q2 => (have k3 := (o1 (Int.not_le.mp q1) q2); And.intro k3 ((l2 (Int.not_le.mp q1) q2)))) (fun q2 => (have k4 := (o2 (Int.not_le.mp q1) (Int.not_lt.mp q2)); And.intro k4 ((have k5 := (o3 (Int.not_le.mp q1) (Int.not_lt.mp q2)); And.intro k5 ((have k6 := (o4 (Int.not_le.mp q1) (Int.not_lt.mp q2)); And.intro k6 ((have k7 := (o5 (Int.not_le.mp q1) (Int.not_lt.mp q2)); And.intro k7 (And.intro (fun q8 => (have k9 := (o6 (Int.not_le.mp q1) (Int.not_lt.mp q2) q8); And.intro k9 ((l3 (Int.not_le.mp q1) (Int.not_lt.mp q2) q8)))) (fun q8 => (have k10 := (o7 (Int.not_le.mp q1) (Int.not_lt.mp q2) (Int.not_le.mp q8)); And.intro k10 ((l4 (Int.not_le.mp q1) (Int.not_lt.mp q2) (Int.not_le.mp q8))))))))))))))))
theorem q_plumpest {xs : Nat → Int} {N n : Nat} {σ : Mm} (h : Rel xs N σ) : Bi xs N n 137 [vr 3] 251 [vr 85] σ := by
  obtain ⟨c0, c1, c2, c3, c5, d0, d1, d2, d3, -⟩ := Rel_cnt h
  have hs : ∀ k : Nat, (k : Int) < gi σ 5 0 → (0 ≤ gi σ 46 (gi σ 45 k).toNat ∧ gi σ 46 (gi σ 45 k).toNat ≤ 8) ∧ (0 ≤ gi σ 45 k ∧ gi σ 45 k < 5) := fun k hk => by
    have q := (Rel_j h hk).2.2.2
    exact ⟨(Rel_w5 h (j := (gi σ 45 k).toNat) (by omega)).2.2.2.2.1, by omega⟩
  have hR : Ci 251 [vr 85] (shF n) σ (fun v' s' => v' = pmF (fun k => gi σ 46 (gi σ 45 k).toNat) (gi σ 5 0).toNat ∧ Rel xs N s') := by
    refine v_pstR_0 ?_
    intro t ht
    have et : ∀ a i, a ≠ 85 → gi t a i = gi σ a i := fun a i q => by rw [ht, gi_ne q]
    have e12 : gi t 85 12 = gi σ 5 0 := by rw [ht, gi_si, if_neg (by omega), d0]
    have eq : ∀ k : Nat, (k : Int) < gi σ 5 0 → gi t 113 (gi t 111 k).toNat = gi σ 46 (gi σ 45 k).toNat ∧ gi t 111 k = gi σ 45 k := fun k hk => by
      have q := (Rel_j h hk).2.2.2
      rw [et _ _ (by omega), et _ _ (by omega), (Rel_w5 h (j := k) (by omega)).1]
      exact ⟨(Rel_w5 h (j := (gi σ 45 k).toNat) (by omega)).2.2.1, rfl⟩
    have hrel : Rel xs N t := by rw [ht]; exact Rel_th h
    clear ht
    refine loopUp (N := (gi σ 5 0).toNat) (I := fun k => R 251 9 [some (vr 85), some (vi (pmF (fun k => gi σ 46 (gi σ 45 k).toNat) k)), some (vi (k : Int))] [] (shF n) 0 0 t (Qi (shF n) (fun v' s' => v' = pmF (fun k => gi σ 46 (gi σ 45 k).toNat) (gi σ 5 0).toNat ∧ Rel xs N s'))) (fun k hk ih => ?_) 0 (by omega)
    have hin := pmF_in (fun k => gi σ 46 (gi σ 45 k).toNat) k
    refine v_pstR_L _ k (by intros; rw [e12] at *; first | omega | (unfold rg; omega) | (have q := eq k (by assumption); have q2 := hs k (by assumption); omega) | (have q := eq (pmF (fun k => gi σ 46 (gi σ 45 k).toNat) k).toNat (by omega); have q2 := hs (pmF (fun k => gi σ 46 (gi σ 45 k).toNat) k).toNat (by omega); omega)) (by intros; rw [e12] at *; first | omega | (unfold rg; omega) | (have q := eq k (by assumption); have q2 := hs k (by assumption); omega) | (have q := eq (pmF (fun k => gi σ 46 (gi σ 45 k).toNat) k).toNat (by omega); have q2 := hs (pmF (fun k => gi σ 46 (gi σ 45 k).toNat) k).toNat (by omega); omega)) (by intros; rw [e12] at *; first | omega | (unfold rg; omega) | (have q := eq k (by assumption); have q2 := hs k (by assumption); omega) | (have q := eq (pmF (fun k => gi σ 46 (gi σ 45 k).toNat) k).toNat (by omega); have q2 := hs (pmF (fun k => gi σ 46 (gi σ 45 k).toNat) k).toNat (by omega); omega)) (by intros; rw [e12] at *; first | omega | (unfold rg; omega) | (have q := eq k (by assumption); have q2 := hs k (by assumption); omega) | (have q := eq (pmF (fun k => gi σ 46 (gi σ 45 k).toNat) k).toNat (by omega); have q2 := hs (pmF (fun k => gi σ 46 (gi σ 45 k).toNat) k).toNat (by omega); omega)) (by intros; rw [e12] at *; first | omega | (unfold rg; omega) | (have q := eq k (by assumption); have q2 := hs k (by assumption); omega) | (have q := eq (pmF (fun k => gi σ 46 (gi σ 45 k).toNat) k).toNat (by omega); have q2 := hs (pmF (fun k => gi σ 46 (gi σ 45 k).toNat) k).toNat (by omega); omega)) (by intros; rw [e12] at *; first | omega | (unfold rg; omega) | (have q := eq k (by assumption); have q2 := hs k (by assumption); omega) | (have q := eq (pmF (fun k => gi σ 46 (gi σ 45 k).toNat) k).toNat (by omega); have q2 := hs (pmF (fun k => gi σ 46 (gi σ 45 k).toNat) k).toNat (by omega); omega)) (by intros; rw [e12] at *; first | omega | (unfold rg; omega) | (have q := eq k (by assumption); have q2 := hs k (by assumption); omega) | (have q := eq (pmF (fun k => gi σ 46 (gi σ 45 k).toNat) k).toNat (by omega); have q2 := hs (pmF (fun k => gi σ 46 (gi σ 45 k).toNat) k).toNat (by omega); omega)) ?_ ?_ ?_ ?_
    all_goals (intros; rw [e12] at *)
    · rw [show (gi σ 5 0).toNat = k by omega]; exact ⟨rfl, hrel⟩
    · refine R_eq (ih (by omega)) ?_
      simp only [pmF]; rw [if_pos (Or.inl (by omega))]; rfl
    · rename_i h1 h2 h3
      rw [(eq k h1).1, (eq (pmF (fun k => gi σ 46 (gi σ 45 k).toNat) k).toNat (by omega)).1] at h3
      refine R_eq (ih (by omega)) ?_
      simp only [pmF]; rw [if_neg (by omega)]; rfl
    · rename_i h1 h2 h3
      rw [(eq k h1).1, (eq (pmF (fun k => gi σ 46 (gi σ 45 k).toNat) k).toNat (by omega)).1] at h3
      refine R_eq (ih (by omega)) ?_
      simp only [pmF]; rw [if_pos (Or.inr h3)]; rfl
  refine v_pst_0 ?_
  refine loopUp (N := (gi σ 5 0).toNat) (I := fun k => ∀ (mo : Int) (z : Option PV), mo = (if pmF (fun k => gi σ 46 (gi σ 45 k).toNat) k < 0 then -1 else gi σ 46 (gi σ 45 (pmF (fun k => gi σ 46 (gi σ 45 k).toNat) k).toNat).toNat) → R 137 6 [some (vr 3), some (vi (pmF (fun k => gi σ 46 (gi σ 45 k).toNat) k)), some (vi mo), some (vi (k : Int)), z] [] (shF n) 0 0 σ (Qi (shF n) (fun v s => Ci 251 [vr 85] (shF n) s (fun v' s' => v' = v ∧ Rel xs N s')))) (fun k hk ih => ?_) 0 (by omega) (-1) none rfl
  intro mo z hmo
  have hin := pmF_in (fun k => gi σ 46 (gi σ 45 k).toNat) k
  refine v_pst_L _ mo k z (by intros; first | omega | (unfold rg; omega) | (have q2 := hs k (by assumption); omega)) (by intros; first | omega | (unfold rg; omega) | (have q2 := hs k (by assumption); omega)) (by intros; first | omega | (unfold rg; omega) | (have q2 := hs k (by assumption); omega)) (by intros; first | omega | (unfold rg; omega) | (have q2 := hs k (by assumption); omega)) ?_ ?_ ?_
  · intro hge
    rw [show (gi σ 5 0).toNat = k by omega] at hR
    exact hR
  · intro h1 x4 hx4 h3
    have hk0 := hs k h1
    refine R_eq (ih (by omega) mo (some (vi x4)) ?_) ?_
    · rw [show pmF (fun k => gi σ 46 (gi σ 45 k).toNat) (k + 1) = pmF (fun k => gi σ 46 (gi σ 45 k).toNat) k from ?_]
      · exact hmo
      · simp only [pmF]; rw [if_neg (by split at hmo <;> omega)]
    · rw [show pmF (fun k => gi σ 46 (gi σ 45 k).toNat) (k + 1) = pmF (fun k => gi σ 46 (gi σ 45 k).toNat) k from ?_]
      · rfl
      · simp only [pmF]; rw [if_neg (by split at hmo <;> omega)]
  · intro h1 x4 hx4 h3
    have hk0 := hs k h1
    have e : pmF (fun k => gi σ 46 (gi σ 45 k).toNat) (k + 1) = (k : Int) := by
      simp only [pmF]
      rw [if_pos]
      split at hmo
      · exact Or.inl (by assumption)
      · exact Or.inr (by omega)
    refine R_eq (ih (by omega) x4 (some (vi x4)) ?_) ?_
    · rw [e, if_neg (by omega), Int.toNat_natCast]; exact hx4
    · rw [e]; rfl
