/-! CALLS that change the state: days -/
def GZ (T V : Nat → Nat → Int) (σ : Mm) : Prop := BkOK T ∧ RB T σ ∧ RW T V σ 0 ∧ WI T V ∧ UH T V ∧ PP σ ∧ V 0 0 < 30000 ∧ (0 ≤ gi σ 85 72 ∧ gi σ 85 72 < 100000)
def GW (T V : Nat → Nat → Int) (σ σ' : Mm) : Prop := RG 0 σ σ' ∧ gi σ' 85 72 = gi σ 85 72 + (if V 0 0 % 7 = 0 then 1 else 0) ∧ RW T (dO T V σ) σ' 0 ∧ WI T (dO T V σ) ∧ UH T (dO T V σ)
theorem c_goZ {n : Nat} {T V : Nat → Nat → Int} {σ : Mm} {P : Mm → Prop} (h : GZ T V σ) (hP : ∀ σ', GW T V σ σ' → P σ') : Cv 215 [vr 85, vi 0] (shF n) σ P := by
  obtain ⟨h1, h2, h3, h4, h5, h6, h7, h8⟩ := h
  exact c_goOn (b := 0) (by omega) h1 h2 h3 h4 h5 h6 h7 h8 fun σ' a b c d e _ => hP σ' ⟨a, b, c, d, e⟩
theorem v_dy {n : Nat}  (m : Int) {σ : Mm} {P : Int → Mm → Prop} (o1 : (0 : Int) ≤ m → m ≤ (99 : Int) → rg ((gi σ 40 0) + m)) (o2 : (0 : Int) ≤ m → m ≤ (99 : Int) → ((gi σ 40 0) + m) ≤ (9900 : Int) → m ≤ (0 : Int) → ∀ t6 : Mm, t6 = si σ 70 2 (-1 : Int) → ∀ t7 : Mm, t7 = si t6 70 3 (gi σ 5 5) → ∀ t8 : Mm, t8 = si t7 70 4 (-1 : Int) → ∀ t9 : Mm, t9 = si t8 70 5 (0 : Int) → (0 ≤ m ∧ m ≤ 200)) (o3 : (0 : Int) ≤ m → m ≤ (99 : Int) → ((gi σ 40 0) + m) ≤ (9900 : Int) → m ≤ (0 : Int) → ∀ t6 : Mm, t6 = si σ 70 2 (-1 : Int) → ∀ t7 : Mm, t7 = si t6 70 3 (gi σ 5 5) → ∀ t8 : Mm, t8 = si t7 70 4 (-1 : Int) → ∀ t9 : Mm, t9 = si t8 70 5 (0 : Int) → BkOK (vw t9 5)) (o4 : (0 : Int) ≤ m → m ≤ (99 : Int) → ((gi σ 40 0) + m) ≤ (9900 : Int) → m ≤ (0 : Int) → ∀ t6 : Mm, t6 = si σ 70 2 (-1 : Int) → ∀ t7 : Mm, t7 = si t6 70 3 (gi σ 5 5) → ∀ t8 : Mm, t8 = si t7 70 4 (-1 : Int) → ∀ t9 : Mm, t9 = si t8 70 5 (0 : Int) → SI (vw t9 5) (wv t9 40)) (o5 : (0 : Int) ≤ m → m ≤ (99 : Int) → ((gi σ 40 0) + m) ≤ (9900 : Int) → m ≤ (0 : Int) → ∀ t6 : Mm, t6 = si σ 70 2 (-1 : Int) → ∀ t7 : Mm, t7 = si t6 70 3 (gi σ 5 5) → ∀ t8 : Mm, t8 = si t7 70 4 (-1 : Int) → ∀ t9 : Mm, t9 = si t8 70 5 (0 : Int) → (gi t9 70 2 = -1 ∨ (0 ≤ gi t9 70 2 ∧ gi t9 70 2 ≤ 9))) (o6 : (0 : Int) ≤ m → m ≤ (99 : Int) → ((gi σ 40 0) + m) ≤ (9900 : Int) → m ≤ (0 : Int) → ∀ t6 : Mm, t6 = si σ 70 2 (-1 : Int) → ∀ t7 : Mm, t7 = si t6 70 3 (gi σ 5 5) → ∀ t8 : Mm, t8 = si t7 70 4 (-1 : Int) → ∀ t9 : Mm, t9 = si t8 70 5 (0 : Int) → (0 ≤ gi t9 70 3 ∧ gi t9 70 3 ≤ 9)) (o7 : (0 : Int) ≤ m → m ≤ (99 : Int) → ((gi σ 40 0) + m) ≤ (9900 : Int) → m ≤ (0 : Int) → ∀ t6 : Mm, t6 = si σ 70 2 (-1 : Int) → ∀ t7 : Mm, t7 = si t6 70 3 (gi σ 5 5) → ∀ t8 : Mm, t8 = si t7 70 4 (-1 : Int) → ∀ t9 : Mm, t9 = si t8 70 5 (0 : Int) → gi t9 40 0 < 29000) (o8 : (0 : Int) ≤ m → m ≤ (99 : Int) → ((gi σ 40 0) + m) ≤ (9900 : Int) → (0 : Int) < m → ∀ t13 : Mm, t13 = si σ 71 3 (0 : Int) → ∀ t14 : Mm, t14 = si t13 71 4 (0 : Int) → ∀ t15 : Mm, t15 = si t14 70 2 (-1 : Int) → ∀ t16 : Mm, t16 = si t15 70 3 (gi σ 5 5) → ∀ t17 : Mm, t17 = si t16 70 4 (-1 : Int) → ∀ t18 : Mm, t18 = si t17 70 5 (0 : Int) → (0 ≤ m ∧ m ≤ 200)) (o9 : (0 : Int) ≤ m → m ≤ (99 : Int) → ((gi σ 40 0) + m) ≤ (9900 : Int) → (0 : Int) < m → ∀ t13 : Mm, t13 = si σ 71 3 (0 : Int) → ∀ t14 : Mm, t14 = si t13 71 4 (0 : Int) → ∀ t15 : Mm, t15 = si t14 70 2 (-1 : Int) → ∀ t16 : Mm, t16 = si t15 70 3 (gi σ 5 5) → ∀ t17 : Mm, t17 = si t16 70 4 (-1 : Int) → ∀ t18 : Mm, t18 = si t17 70 5 (0 : Int) → BkOK (vw t18 5)) (o10 : (0 : Int) ≤ m → m ≤ (99 : Int) → ((gi σ 40 0) + m) ≤ (9900 : Int) → (0 : Int) < m → ∀ t13 : Mm, t13 = si σ 71 3 (0 : Int) → ∀ t14 : Mm, t14 = si t13 71 4 (0 : Int) → ∀ t15 : Mm, t15 = si t14 70 2 (-1 : Int) → ∀ t16 : Mm, t16 = si t15 70 3 (gi σ 5 5) → ∀ t17 : Mm, t17 = si t16 70 4 (-1 : Int) → ∀ t18 : Mm, t18 = si t17 70 5 (0 : Int) → SI (vw t18 5) (wv t18 40)) (o11 : (0 : Int) ≤ m → m ≤ (99 : Int) → ((gi σ 40 0) + m) ≤ (9900 : Int) → (0 : Int) < m → ∀ t13 : Mm, t13 = si σ 71 3 (0 : Int) → ∀ t14 : Mm, t14 = si t13 71 4 (0 : Int) → ∀ t15 : Mm, t15 = si t14 70 2 (-1 : Int) → ∀ t16 : Mm, t16 = si t15 70 3 (gi σ 5 5) → ∀ t17 : Mm, t17 = si t16 70 4 (-1 : Int) → ∀ t18 : Mm, t18 = si t17 70 5 (0 : Int) → (gi t18 70 2 = -1 ∨ (0 ≤ gi t18 70 2 ∧ gi t18 70 2 ≤ 9))) (o12 : (0 : Int) ≤ m → m ≤ (99 : Int) → ((gi σ 40 0) + m) ≤ (9900 : Int) → (0 : Int) < m → ∀ t13 : Mm, t13 = si σ 71 3 (0 : Int) → ∀ t14 : Mm, t14 = si t13 71 4 (0 : Int) → ∀ t15 : Mm, t15 = si t14 70 2 (-1 : Int) → ∀ t16 : Mm, t16 = si t15 70 3 (gi σ 5 5) → ∀ t17 : Mm, t17 = si t16 70 4 (-1 : Int) → ∀ t18 : Mm, t18 = si t17 70 5 (0 : Int) → (0 ≤ gi t18 70 3 ∧ gi t18 70 3 ≤ 9)) (o13 : (0 : Int) ≤ m → m ≤ (99 : Int) → ((gi σ 40 0) + m) ≤ (9900 : Int) → (0 : Int) < m → ∀ t13 : Mm, t13 = si σ 71 3 (0 : Int) → ∀ t14 : Mm, t14 = si t13 71 4 (0 : Int) → ∀ t15 : Mm, t15 = si t14 70 2 (-1 : Int) → ∀ t16 : Mm, t16 = si t15 70 3 (gi σ 5 5) → ∀ t17 : Mm, t17 = si t16 70 4 (-1 : Int) → ∀ t18 : Mm, t18 = si t17 70 5 (0 : Int) → gi t18 40 0 < 29000) (l1 : m < (0 : Int) → P (-1) σ) (l2 : (0 : Int) ≤ m → (99 : Int) < m → P (-1) σ) (l3 : (0 : Int) ≤ m → m ≤ (99 : Int) → ((gi σ 40 0) + m) ≤ (9900 : Int) → m ≤ (0 : Int) → ∀ t6 : Mm, t6 = si σ 70 2 (-1 : Int) → ∀ t7 : Mm, t7 = si t6 70 3 (gi σ 5 5) → ∀ t8 : Mm, t8 = si t7 70 4 (-1 : Int) → ∀ t9 : Mm, t9 = si t8 70 5 (0 : Int) → ∀ s11 : Mm, Wg 40 t9 s11 (daysK (vw t9 5) (gi t9 70 2) (gi t9 70 3) (gi t9 70 4) (decide (gi t9 70 5 ≠ 0)) (fun u => !bi (gi t9 40 1) u) (wv t9 40) m.toNat) → P (gi s11 40 0) s11) (l4 : (0 : Int) ≤ m → m ≤ (99 : Int) → ((gi σ 40 0) + m) ≤ (9900 : Int) → (0 : Int) < m → ∀ t13 : Mm, t13 = si σ 71 3 (0 : Int) → ∀ t14 : Mm, t14 = si t13 71 4 (0 : Int) → ∀ t15 : Mm, t15 = si t14 70 2 (-1 : Int) → ∀ t16 : Mm, t16 = si t15 70 3 (gi σ 5 5) → ∀ t17 : Mm, t17 = si t16 70 4 (-1 : Int) → ∀ t18 : Mm, t18 = si t17 70 5 (0 : Int) → ∀ s20 : Mm, Wg 40 t18 s20 (daysK (vw t18 5) (gi t18 70 2) (gi t18 70 3) (gi t18 70 4) (decide (gi t18 70 5 ≠ 0)) (fun u => !bi (gi t18 40 1) u) (wv t18 40) m.toNat) → P (gi s20 40 0) s20) (l5 : (0 : Int) ≤ m → m ≤ (99 : Int) → (9900 : Int) < ((gi σ 40 0) + m) → P (-1) σ) : Ci 118 [vr 3, vi m] (shF n) σ P :=
  show R 118 0 [some (vr 3), some (vi m)] [] (shF n) 0 0 σ (Qi (shF n) P) from wpK_R 28 [] ((show R 106 0 [_] [] (shF n) 0 0 _ _ from wpK_R 8 [] (And.intro (fun q1 => And.intro ret0 (And.intro (Or.inl rfl) ⟨rfl, _, rfl, And.intro (fun _ => And.intro ret0 ⟨rfl, _, rfl, (l1 q1)⟩) (fun q => absurd (show (0 : Int) = 0 by decide) q)⟩)) (fun q1 => And.intro (fun q2 => And.intro ret0 (And.intro (Or.inl rfl) ⟨rfl, _, rfl, And.intro (fun _ => And.intro ret0 ⟨rfl, _, rfl, (l2 (Int.not_lt.mp q1) q2)⟩) (fun q => absurd (show (0 : Int) = 0 by decide) q)⟩)) (fun q2 => And.intro ret0 (And.intro (Or.inr rfl) ⟨rfl, _, rfl, And.intro (fun q => absurd q (show ¬ ((1 : Int) = 0) by decide)) (fun _ => (have k3 := (o1 (Int.not_lt.mp q1) (Int.not_lt.mp q2)); And.intro k3 (And.intro (fun q4 => And.intro (fun q5 => (show R 72 0 [some (vr 70)] [] (shF n) 0 0 _ _ from wpK_R 15 [] (And.intro (Or.inl rfl) (And.intro ret0 ⟨rfl, rfl, (c_pass_40  (o2 (Int.not_lt.mp q1) (Int.not_lt.mp q2) q4 q5 _ rfl _ rfl _ rfl _ rfl) (o3 (Int.not_lt.mp q1) (Int.not_lt.mp q2) q4 q5 _ rfl _ rfl _ rfl _ rfl) (o4 (Int.not_lt.mp q1) (Int.not_lt.mp q2) q4 q5 _ rfl _ rfl _ rfl _ rfl) (o5 (Int.not_lt.mp q1) (Int.not_lt.mp q2) q4 q5 _ rfl _ rfl _ rfl _ rfl) (o6 (Int.not_lt.mp q1) (Int.not_lt.mp q2) q4 q5 _ rfl _ rfl _ rfl _ rfl) (o7 (Int.not_lt.mp q1) (Int.not_lt.mp q2) q4 q5 _ rfl _ rfl _ rfl _ rfl) (fun s11 h12 => And.intro ret0 ⟨rfl, _, rfl, (l3 (Int.not_lt.mp q1) (Int.not_lt.mp q2) q4 q5 _ rfl _ rfl _ rfl _ rfl s11 h12)⟩))⟩)))) (fun q5 => (show R 12 0 [some (vr 71)] [] (shF n) 0 0 _ _ from wpK_R 7 [] (And.intro ret0 ⟨rfl, rfl, (show R 72 0 [some (vr 70)] [] (shF n) 0 0 _ _ from wpK_R 15 [] (And.intro (Or.inl rfl) (And.intro ret0 ⟨rfl, rfl, (c_pass_40  (o8 (Int.not_lt.mp q1) (Int.not_lt.mp q2) q4 (Int.not_le.mp q5) _ rfl _ rfl _ rfl _ rfl _ rfl _ rfl) (o9 (Int.not_lt.mp q1) (Int.not_lt.mp q2) q4 (Int.not_le.mp q5) _ rfl _ rfl _ rfl _ rfl _ rfl _ rfl) (o10 (Int.not_lt.mp q1) (Int.not_lt.mp q2) q4 (Int.not_le.mp q5) _ rfl _ rfl _ rfl _ rfl _ rfl _ rfl) (o11 (Int.not_lt.mp q1) (Int.not_lt.mp q2) q4 (Int.not_le.mp q5) _ rfl _ rfl _ rfl _ rfl _ rfl _ rfl) (o12 (Int.not_lt.mp q1) (Int.not_lt.mp q2) q4 (Int.not_le.mp q5) _ rfl _ rfl _ rfl _ rfl _ rfl _ rfl) (o13 (Int.not_lt.mp q1) (Int.not_lt.mp q2) q4 (Int.not_le.mp q5) _ rfl _ rfl _ rfl _ rfl _ rfl _ rfl) (fun s20 h21 => And.intro ret0 ⟨rfl, _, rfl, (l4 (Int.not_lt.mp q1) (Int.not_lt.mp q2) q4 (Int.not_le.mp q5) _ rfl _ rfl _ rfl _ rfl _ rfl _ rfl s20 h21)⟩))⟩)))⟩)))) (fun q4 => And.intro ret0 ⟨rfl, _, rfl, (l5 (Int.not_lt.mp q1) (Int.not_lt.mp q2) (Int.not_le.mp q4))⟩))))⟩))))))
theorem v_dyR_0 {n : Nat} (T : Nat → Nat → Int) (V : Nat → Nat → Int) (m : Int) {σ : Mm} {P : Int → Mm → Prop} (o1 : ∀ t1 : Mm, t1 = si σ 85 2 (0 : Int) → (0 : Int) ≤ m → m ≤ (99 : Int) → rg ((gi σ 120 0) + m)) (l1 : ∀ t1 : Mm, t1 = si σ 85 2 (0 : Int) → m < (0 : Int) → P (-1) t1) (l2 : ∀ t1 : Mm, t1 = si σ 85 2 (0 : Int) → (0 : Int) ≤ m → (99 : Int) < m → P (-1) t1) (l3 : ∀ t1 : Mm, t1 = si σ 85 2 (0 : Int) → (0 : Int) ≤ m → m ≤ (99 : Int) → ((gi σ 120 0) + m) ≤ (9900 : Int) → ∀ s7 : Mm, Pl t1 s7 → R 234 37 [some (vr 85), some (vi m), some (vi 0)] [] (shF n) 0 0 s7 (Qi (shF n) P)) (l4 : ∀ t1 : Mm, t1 = si σ 85 2 (0 : Int) → (0 : Int) ≤ m → m ≤ (99 : Int) → (9900 : Int) < ((gi σ 120 0) + m) → P (-1) t1) : Ci 234 [vr 85, vi m] (shF n) σ P :=
  show R 234 0 [some (vr 85), some (vi m), none] [] (shF n) 0 0 σ (Qi (shF n) P) from wpK_R 21 [37] ((show R 157 0 [_, some (vi 0), some (vi 99)] [] (shF n) 0 0 _ _ from wpK_R 9 [] (And.intro (fun q2 => And.intro ret0 (And.intro (Or.inl rfl) ⟨rfl, _, rfl, And.intro (fun _ => And.intro ret0 ⟨rfl, _, rfl, (l1 _ rfl q2)⟩) (fun q => absurd (show (0 : Int) = 0 by decide) q)⟩)) (fun q2 => And.intro (fun q3 => And.intro ret0 (And.intro (Or.inl rfl) ⟨rfl, _, rfl, And.intro (fun _ => And.intro ret0 ⟨rfl, _, rfl, (l2 _ rfl (Int.not_lt.mp q2) q3)⟩) (fun q => absurd (show (0 : Int) = 0 by decide) q)⟩)) (fun q3 => And.intro ret0 (And.intro (Or.inr rfl) ⟨rfl, _, rfl, And.intro (fun q => absurd q (show ¬ ((1 : Int) = 0) by decide)) (fun _ => And.intro (by decide) ((have k4 := (o1 _ rfl (Int.not_lt.mp q2) (Int.not_lt.mp q3)); And.intro k4 (And.intro (fun q5 => (c_plain   (fun s7 h8 => (l3 _ rfl (Int.not_lt.mp q2) (Int.not_lt.mp q3) q5 s7 h8)))) (fun q5 => And.intro ret0 ⟨rfl, _, rfl, (l4 _ rfl (Int.not_lt.mp q2) (Int.not_lt.mp q3) (Int.not_le.mp q5))⟩)))))⟩))))))
theorem v_dyR_L {n : Nat} (T : Nat → Nat → Int) (V : Nat → Nat → Int) (m : Int) (k : Nat) {σ : Mm} {P : Int → Mm → Prop} (o1 : (k : Int) < m → GZ T V σ) (o2 : (k : Int) < m → ∀ s6 : Mm, GW T V σ s6 → rg ((k : Int) + 1)) (l1 : m ≤ (k : Int) → m ≤ (0 : Int) → ∀ t3 : Mm, t3 = si σ 85 82 (gi σ 85 82) → P (gi σ 120 0) t3) (l2 : m ≤ (k : Int) → (0 : Int) < m → ∀ t4 : Mm, t4 = si σ 85 82 (0 : Int) → P (gi σ 120 0) t4) (l3 : (k : Int) < m → ∀ s6 : Mm, GW T V σ s6 → R 234 37 [some (vr 85), some (vi m), some (vi ((k : Int) + 1))] [] (shF n) 0 0 s6 (Qi (shF n) P)) : R 234 37 [some (vr 85), some (vi m), some (vi (k : Int))] [] (shF n) 0 0 σ (Qi (shF n) P) :=
  wpK_R 14 [37] (And.intro (fun q1 => And.intro (fun q2 => And.intro (by decide) (And.intro ret0 ⟨rfl, _, rfl, (l1 q1 q2 _ rfl)⟩)) (fun q2 => And.intro (by decide) (And.intro ret0 ⟨rfl, _, rfl, (l2 q1 (Int.not_le.mp q2) _ rfl)⟩))) (fun q1 => (c_goZ (T := T) (V := V) (o1 (Int.not_le.mp q1)) (fun s6 h7 => (have k8 := (o2 (Int.not_le.mp q1) s6 h7); And.intro k8 ((l3 (Int.not_le.mp q1) s6 h7)))))))
theorem q_days {xs : Nat → Int} {N n : Nat} {σ : Mm} (h : Rel xs N σ) (m : Int) : Bi xs N n 118 [vr 3, vi m] 234 [vr 85, vi m] σ := by
  have hb := h.2.2.2.2.1
  have r6 := h.2.2.2.2.2.1
  have r7 := h.2.2.2.2.2.2.1
  have r8 := h.2.2.2.2.2.2.2.1
  have r9 := h.2.2.2.2.2.2.2.2.1
  have r11 := h.2.2.2.2.2.2.2.2.2.2.1
  have hw0 := Rel_w0 h
  have hc5 := (Rel_cnt h).2.2.2.2.1
  have hno : ¬ ((0 ≤ m ∧ m ≤ 99) ∧ gi σ 40 0 + m ≤ 9900) → Ci 234 [vr 85, vi m] (shF n) σ (fun v' s' => v' = -1 ∧ Rel xs N s') := fun q => by
    have := hw0.1
    refine v_dyR_0 (vw σ 5) (wv σ 40) m (by intros; unfold rg; omega) ?_ ?_ ?_ ?_
    all_goals (intro t1 ht; intros; first | (exfalso; omega) | (rw [ht]; exact ⟨rfl, Rel_th h⟩))
  have hyes : ∀ s : Mm, 0 ≤ m → m ≤ 99 → gi σ 40 0 + m ≤ 9900 → (∀ a i, kpX a → ¬ (40 ≤ a ∧ a ≤ 48) → a ≠ 71 → gi s a i = gi σ a i) → (∀ a i, 85 ≤ a → gi s a i = gi σ a i) → wv s 40 = pK (vw σ 5) (wv σ 40) m.toNat → (m ≤ 0 → ∀ i, gi s 71 i = gi σ 71 i) → (0 < m → gi s 71 3 = 0 ∧ gi s 71 4 = 0) → Ci 234 [vr 85, vi m] (shF n) s (fun v' s' => v' = gi s 40 0 ∧ Rel xs N s') := fun s m0 m99 hd k1 k2 k3 k4 k5 => by
    have g120 := k2 120 0 (by omega)
    have e120 := hw0.1
    refine v_dyR_0 (vw σ 5) (wv σ 40) m (by intros; unfold rg; omega) ?_ ?_ ?_ ?_
    · intros; exfalso; omega
    · intros; exfalso; omega
    · intro t1 ht _ _ _ s7 p
      have h85 : ∀ a i, 85 ≤ a → ¬ (a = 85 ∧ (i = 2 ∨ (65 ≤ i ∧ i ≤ 72))) → gi s7 a i = gi σ a i := fun a i q z => by rw [p.2.1 a i (by omega), ht, gi_si, if_neg (by omega)]; exact k2 a i q
      have hrb : RB (vw σ 5) s7 := RB_eq (fun y a b => h85 85 y (by omega) (by omega)) (fun x y a b => h85 x y (by omega) (by omega)) r6
      have hrw : RW (vw σ 5) (wv σ 40) s7 0 := RW_hf hb.2.1.2 (fun a i q => h85 a i (by unfold hf at q; omega) (by unfold hf at q; omega)) r9
      have hpp := Pl_PP p
      obtain ⟨l65, l66, l67, l68, l69, l70, l71, l72⟩ := p.2.2
      refine loopUp (N := m.toNat) (I := fun k => ∀ τ : Mm, RG 0 s7 τ → RW (vw σ 5) (pK (vw σ 5) (wv σ 40) k) τ 0 → WI (vw σ 5) (pK (vw σ 5) (wv σ 40) k) → UH (vw σ 5) (pK (vw σ 5) (wv σ 40) k) → (0 ≤ gi τ 85 72 ∧ gi τ 85 72 ≤ (k : Int)) → R 234 37 [some (vr 85), some (vi m), some (vi (k : Int))] [] (shF n) 0 0 τ (Qi (shF n) (fun v' s' => v' = gi s 40 0 ∧ Rel xs N s'))) (fun k hk ih => ?_) 0 (by omega) s7 (RG.rf 0 s7) hrw r7 r8 (by omega)
      intro τ f1 f2 f3 f4 f5
      obtain ⟨z1, z2, z3, z4, z5, z6⟩ := RG_set f1 (vw σ 5)
      have hday : pK (vw σ 5) (wv σ 40) k 0 0 = gi σ 40 0 + (k : Int) := daysK_day k
      have hgz : GZ (vw σ 5) (pK (vw σ 5) (wv σ 40) k) τ := ⟨hb, f1.rb hrb, f2, f3, f4, ⟨by rw [f1.1 85 68 (by unfold hf; omega) (by omega)]; exact hpp.1, by rw [f1.1 85 67 (by unfold hf; omega) (by omega)]; exact hpp.2⟩, by omega, by omega⟩
      have hD : dO (vw σ 5) (pK (vw σ 5) (wv σ 40) k) τ = pK (vw σ 5) (wv σ 40) (k + 1) := by
        unfold dO
        have e1 : dmR τ = -1 := by rw [z1]; unfold dmR; rw [if_neg (by omega)]; exact l67
        have e2 : btR (vw σ 5) τ = vw σ 5 0 5 := by rw [z2]; unfold btR; rw [if_neg (by omega)]
        have e3 : dfR τ = -1 := by rw [z3]; unfold dfR; rw [if_neg (by omega)]
        have e5 : aiR τ (pK (vw σ 5) (wv σ 40) k) = fun u => !bi (wv σ 40 0 1) u := funext fun u => by
          unfold aiR
          rw [if_pos (by omega), decide_eq_false (show ¬ (u : Int) = gi τ 85 70 by omega), decide_eq_false (show ¬ gi τ 85 65 = 0 by omega), show pK (vw σ 5) (wv σ 40) k 0 1 = wv σ 40 0 1 from daysK_kept k]
          rfl
        rw [e1, e2, e3, e5, decide_eq_false (show ¬ gi τ 85 65 = 3 by omega)]
        rfl
      have hrel : ∀ t : Mm, k = m.toNat → (∀ a i, ¬ (a = 85 ∧ i = 82) → gi t a i = gi τ a i) → (m ≤ 0 → gi t 85 82 = gi σ 85 82) → (0 < m → gi t 85 82 = 0) → Rel xs N t := fun t ek q1 q2 q3 => by
        have hlow : ∀ a i, a < 85 → gi t a i = gi s a i := fun a i q => by rw [q1 a i (by omega), f1.1 a i (by unfold hf; omega) (by omega), p.2.1 a i (by omega), ht, gi_ne (by omega)]
        have hwv : wv t 40 = pK (vw σ 5) (wv σ 40) k := by rw [ek, ← k3]; exact wv_eq fun f b hf => hlow _ _ (by omega)
        refine Rel_W h (fun a i p q1 q2 => ?_) (fun a i p' w1 w2 w3 => ?_) (by rw [hwv]; exact f3) (by rw [hwv]; exact f4) ?_ ?_ ?_ (fun c hc hc2 => ?_)
        · have ha : a < 85 := by unfold kpX at p; omega
          rw [hlow a i ha]; exact k1 a i p q1 (by omega)
        · have ha := kpM_85 p'
          have hn := kpM_sc p'
          rw [q1 a i w3, f1.1 a i w1 (by omega)]
          exact h85 a i ha (by omega)
        · rw [hwv]
          exact RW_hf hb.2.1.2 (fun a i q => q1 a i (by unfold hf at q; omega)) f2
        · have : gi t 40 0 = wv t 40 0 0 := rfl
          rw [this, hwv, hday]; omega
        · rw [hwv]
          by_cases hm : m ≤ 0
          · have hk0 : k = 0 := by omega
            subst hk0
            refine RelU_eq (fun a i q => ?_) r11
            rcases q with q | q | q
            · rw [hlow a i (by omega)]
              by_cases e : a = 71
              · rw [e]; exact k4 hm i
              · exact k1 a i (by unfold kpX; omega) (by omega) e
            · rw [q, q1 _ _ (by omega), f1.1 _ _ (by unfold hf; omega) (by omega)]; exact h85 _ _ (by omega) (by omega)
            · rw [q.1, q.2]; exact q2 hm
          · have hz := k5 (by omega)
            exact ⟨0, 0, by rw [hlow _ _ (by omega)]; exact hz.1, by rw [hlow _ _ (by omega)]; exact hz.2, q3 (by omega), by omega, by omega, fun t ht => by omega⟩
        · have : gi t 48 c = wv t 40 8 c := rfl
          rw [this, hwv, pK_8 k (Or.inl hc2) (by show 0 ≤ gi σ 40 0; omega)]
          exact (h.2.2.2.2.2.2.2.2.2.2.2.2.2.2.2.2.2.2 c hc hc2).1
      have hv : k = m.toNat → gi τ 120 0 = gi s 40 0 := fun ek => by
        have h1 : gi s 40 0 = wv s 40 0 0 := rfl
        rw [h1, k3, ← ek]; exact f2.1
      have g82 : gi τ 85 82 = gi σ 85 82 := by rw [f1.1 _ _ (by unfold hf; omega) (by omega)]; exact h85 _ _ (by omega) (by omega)
      refine v_dyR_L (vw σ 5) (pK (vw σ 5) (wv σ 40) k) m k (by intros; first | exact hgz | (unfold rg; omega)) (by intros; first | exact hgz | (unfold rg; omega)) ?_ ?_ ?_
      · intro hge hm0 t3 e3
        refine ⟨hv (by omega), hrel t3 (by omega) (fun a i q => by rw [e3, gi_si, if_neg q]) (fun _ => by rw [e3, gi_si, if_pos ⟨rfl, rfl⟩]; exact g82) (fun q => by omega)⟩
      · intro hge hm0 t3 e3
        refine ⟨hv (by omega), hrel t3 (by omega) (fun a i q => by rw [e3, gi_si, if_neg q]) (fun q => by omega) (fun _ => by rw [e3, gi_si, if_pos ⟨rfl, rfl⟩])⟩
      · intro hlt s6 gw
        obtain ⟨g1, g2, g3, g4, g5⟩ := gw
        rw [hD] at g3 g4 g5
        refine R_eq (ih (by omega) s6 (f1.tr g1) g3 g4 g5 ?_) rfl
        rw [g2]; split <;> omega
    · intros; exfalso; omega
  have hset : ∀ t9 t8 t7 t6 s0 : Mm, t6 = si s0 70 2 (-1) → t7 = si t6 70 3 (gi σ 5 5) → t8 = si t7 70 4 (-1) → t9 = si t8 70 5 0 → (∀ a i, a ≠ 71 → gi s0 a i = gi σ a i) → vw t9 5 = vw σ 5 ∧ wv t9 40 = wv σ 40 ∧ gi t9 70 2 = -1 ∧ gi t9 70 3 = gi σ 5 5 ∧ gi t9 70 4 = -1 ∧ gi t9 70 5 = 0 ∧ gi t9 40 1 = gi σ 40 1 ∧ gi t9 40 0 = gi σ 40 0 ∧ (∀ a i, a ≠ 70 → gi t9 a i = gi s0 a i) := fun t9 t8 t7 t6 s0 e6 e7 e8 e9 hs => by
    have ho : ∀ a i, a ≠ 70 → gi t9 a i = gi s0 a i := fun a i q => by rw [e9, gi_ne q, e8, gi_ne q, e7, gi_ne q, e6, gi_ne q]
    refine ⟨vw_same fun a b p q => by rw [ho _ _ (by omega)]; exact hs _ _ (by omega), wv_eq fun f b hf => by rw [ho _ _ (by omega)]; exact hs _ _ (by omega), ?_, ?_, ?_, ?_, ?_, ?_, ho⟩
    · rw [e9, e8, e7, e6]; simp [gi_si]
    · rw [e9, e8, e7, e6]; simp [gi_si]
    · rw [e9, e8, e7, e6]; simp [gi_si]
    · rw [e9, e8, e7, e6]; simp [gi_si]
    · rw [ho _ _ (by omega)]; exact hs _ _ (by omega)
    · rw [ho _ _ (by omega)]; exact hs _ _ (by omega)
  have hs1 := fun t9 t8 t7 t6 e6 e7 e8 e9 => hset t9 t8 t7 t6 σ e6 e7 e8 e9 (fun _ _ _ => rfl)
  have hs2 := fun t9 t8 t7 t6 t14 t13 (e13 : t13 = si σ 71 3 0) (e14 : t14 = si t13 71 4 0) e6 e7 e8 e9 => hset t9 t8 t7 t6 t14 e6 e7 e8 e9 (fun a i q => by rw [e14, gi_ne q, e13, gi_ne q])
  have hpk : ∀ (s t : Mm), vw t 5 = vw σ 5 ∧ wv t 40 = wv σ 40 ∧ gi t 70 2 = -1 ∧ gi t 70 3 = gi σ 5 5 ∧ gi t 70 4 = -1 ∧ gi t 70 5 = 0 ∧ gi t 40 1 = gi σ 40 1 ∧ gi t 40 0 = gi σ 40 0 → Wg 40 t s (daysK (vw t 5) (gi t 70 2) (gi t 70 3) (gi t 70 4) (decide (gi t 70 5 ≠ 0)) (fun u => !bi (gi t 40 1) u) (wv t 40) m.toNat) → wv s 40 = pK (vw σ 5) (wv σ 40) m.toNat := fun s t hh w => by
    obtain ⟨a1, a2, a3, a4, a5, a6, a7, a8⟩ := hh
    rw [w.2.2, a1, a2, a3, a4, a5, a7, decide_eq_false (fun q => q a6)]
    rfl
  refine v_dy m (by intros; first | omega | (unfold rg; omega) | (have q := hs1 _ _ _ _ ‹_› ‹_› ‹_› ‹_›; obtain ⟨a1, a2, a3, a4, a5, a6, a7, a8, -⟩ := q; first | omega | (rw [a1]; exact hb) | (rw [a1, a2]; exact r7.1)) | (have q := hs2 _ _ _ _ _ _ ‹_› ‹_› ‹_› ‹_› ‹_› ‹_›; obtain ⟨a1, a2, a3, a4, a5, a6, a7, a8, -⟩ := q; first | omega | (rw [a1]; exact hb) | (rw [a1, a2]; exact r7.1))) (by intros; first | omega | (unfold rg; omega) | (have q := hs1 _ _ _ _ ‹_› ‹_› ‹_› ‹_›; obtain ⟨a1, a2, a3, a4, a5, a6, a7, a8, -⟩ := q; first | omega | (rw [a1]; exact hb) | (rw [a1, a2]; exact r7.1)) | (have q := hs2 _ _ _ _ _ _ ‹_› ‹_› ‹_› ‹_› ‹_› ‹_›; obtain ⟨a1, a2, a3, a4, a5, a6, a7, a8, -⟩ := q; first | omega | (rw [a1]; exact hb) | (rw [a1, a2]; exact r7.1))) (by intros; first | omega | (unfold rg; omega) | (have q := hs1 _ _ _ _ ‹_› ‹_› ‹_› ‹_›; obtain ⟨a1, a2, a3, a4, a5, a6, a7, a8, -⟩ := q; first | omega | (rw [a1]; exact hb) | (rw [a1, a2]; exact r7.1)) | (have q := hs2 _ _ _ _ _ _ ‹_› ‹_› ‹_› ‹_› ‹_› ‹_›; obtain ⟨a1, a2, a3, a4, a5, a6, a7, a8, -⟩ := q; first | omega | (rw [a1]; exact hb) | (rw [a1, a2]; exact r7.1))) (by intros; first | omega | (unfold rg; omega) | (have q := hs1 _ _ _ _ ‹_› ‹_› ‹_› ‹_›; obtain ⟨a1, a2, a3, a4, a5, a6, a7, a8, -⟩ := q; first | omega | (rw [a1]; exact hb) | (rw [a1, a2]; exact r7.1)) | (have q := hs2 _ _ _ _ _ _ ‹_› ‹_› ‹_› ‹_› ‹_› ‹_›; obtain ⟨a1, a2, a3, a4, a5, a6, a7, a8, -⟩ := q; first | omega | (rw [a1]; exact hb) | (rw [a1, a2]; exact r7.1))) (by intros; first | omega | (unfold rg; omega) | (have q := hs1 _ _ _ _ ‹_› ‹_› ‹_› ‹_›; obtain ⟨a1, a2, a3, a4, a5, a6, a7, a8, -⟩ := q; first | omega | (rw [a1]; exact hb) | (rw [a1, a2]; exact r7.1)) | (have q := hs2 _ _ _ _ _ _ ‹_› ‹_› ‹_› ‹_› ‹_› ‹_›; obtain ⟨a1, a2, a3, a4, a5, a6, a7, a8, -⟩ := q; first | omega | (rw [a1]; exact hb) | (rw [a1, a2]; exact r7.1))) (by intros; first | omega | (unfold rg; omega) | (have q := hs1 _ _ _ _ ‹_› ‹_› ‹_› ‹_›; obtain ⟨a1, a2, a3, a4, a5, a6, a7, a8, -⟩ := q; first | omega | (rw [a1]; exact hb) | (rw [a1, a2]; exact r7.1)) | (have q := hs2 _ _ _ _ _ _ ‹_› ‹_› ‹_› ‹_› ‹_› ‹_›; obtain ⟨a1, a2, a3, a4, a5, a6, a7, a8, -⟩ := q; first | omega | (rw [a1]; exact hb) | (rw [a1, a2]; exact r7.1))) (by intros; first | omega | (unfold rg; omega) | (have q := hs1 _ _ _ _ ‹_› ‹_› ‹_› ‹_›; obtain ⟨a1, a2, a3, a4, a5, a6, a7, a8, -⟩ := q; first | omega | (rw [a1]; exact hb) | (rw [a1, a2]; exact r7.1)) | (have q := hs2 _ _ _ _ _ _ ‹_› ‹_› ‹_› ‹_› ‹_› ‹_›; obtain ⟨a1, a2, a3, a4, a5, a6, a7, a8, -⟩ := q; first | omega | (rw [a1]; exact hb) | (rw [a1, a2]; exact r7.1))) (by intros; first | omega | (unfold rg; omega) | (have q := hs1 _ _ _ _ ‹_› ‹_› ‹_› ‹_›; obtain ⟨a1, a2, a3, a4, a5, a6, a7, a8, -⟩ := q; first | omega | (rw [a1]; exact hb) | (rw [a1, a2]; exact r7.1)) | (have q := hs2 _ _ _ _ _ _ ‹_› ‹_› ‹_› ‹_› ‹_› ‹_›; obtain ⟨a1, a2, a3, a4, a5, a6, a7, a8, -⟩ := q; first | omega | (rw [a1]; exact hb) | (rw [a1, a2]; exact r7.1))) (by intros; first | omega | (unfold rg; omega) | (have q := hs1 _ _ _ _ ‹_› ‹_› ‹_› ‹_›; obtain ⟨a1, a2, a3, a4, a5, a6, a7, a8, -⟩ := q; first | omega | (rw [a1]; exact hb) | (rw [a1, a2]; exact r7.1)) | (have q := hs2 _ _ _ _ _ _ ‹_› ‹_› ‹_› ‹_› ‹_› ‹_›; obtain ⟨a1, a2, a3, a4, a5, a6, a7, a8, -⟩ := q; first | omega | (rw [a1]; exact hb) | (rw [a1, a2]; exact r7.1))) (by intros; first | omega | (unfold rg; omega) | (have q := hs1 _ _ _ _ ‹_› ‹_› ‹_› ‹_›; obtain ⟨a1, a2, a3, a4, a5, a6, a7, a8, -⟩ := q; first | omega | (rw [a1]; exact hb) | (rw [a1, a2]; exact r7.1)) | (have q := hs2 _ _ _ _ _ _ ‹_› ‹_› ‹_› ‹_› ‹_› ‹_›; obtain ⟨a1, a2, a3, a4, a5, a6, a7, a8, -⟩ := q; first | omega | (rw [a1]; exact hb) | (rw [a1, a2]; exact r7.1))) (by intros; first | omega | (unfold rg; omega) | (have q := hs1 _ _ _ _ ‹_› ‹_› ‹_› ‹_›; obtain ⟨a1, a2, a3, a4, a5, a6, a7, a8, -⟩ := q; first | omega | (rw [a1]; exact hb) | (rw [a1, a2]; exact r7.1)) | (have q := hs2 _ _ _ _ _ _ ‹_› ‹_› ‹_› ‹_› ‹_› ‹_›; obtain ⟨a1, a2, a3, a4, a5, a6, a7, a8, -⟩ := q; first | omega | (rw [a1]; exact hb) | (rw [a1, a2]; exact r7.1))) (by intros; first | omega | (unfold rg; omega) | (have q := hs1 _ _ _ _ ‹_› ‹_› ‹_› ‹_›; obtain ⟨a1, a2, a3, a4, a5, a6, a7, a8, -⟩ := q; first | omega | (rw [a1]; exact hb) | (rw [a1, a2]; exact r7.1)) | (have q := hs2 _ _ _ _ _ _ ‹_› ‹_› ‹_› ‹_› ‹_› ‹_›; obtain ⟨a1, a2, a3, a4, a5, a6, a7, a8, -⟩ := q; first | omega | (rw [a1]; exact hb) | (rw [a1, a2]; exact r7.1))) (by intros; first | omega | (unfold rg; omega) | (have q := hs1 _ _ _ _ ‹_› ‹_› ‹_› ‹_›; obtain ⟨a1, a2, a3, a4, a5, a6, a7, a8, -⟩ := q; first | omega | (rw [a1]; exact hb) | (rw [a1, a2]; exact r7.1)) | (have q := hs2 _ _ _ _ _ _ ‹_› ‹_› ‹_› ‹_› ‹_› ‹_›; obtain ⟨a1, a2, a3, a4, a5, a6, a7, a8, -⟩ := q; first | omega | (rw [a1]; exact hb) | (rw [a1, a2]; exact r7.1))) ?_ ?_ ?_ ?_ ?_
  · intros; exact hno (by omega)
  · intros; exact hno (by omega)
  · intro m0 m99 hd hm t6 e6 t7 e7 t8 e8 t9 e9 s11 w
    obtain ⟨a1, a2, a3, a4, a5, a6, a7, a8, a9⟩ := hs1 t9 t8 t7 t6 e6 e7 e8 e9
    refine hyes s11 m0 m99 hd (fun a i p q1 q2 => ?_) (fun a i q => ?_) (hpk s11 t9 ⟨a1, a2, a3, a4, a5, a6, a7, a8⟩ w) (fun _ i => ?_) (fun q => by omega)
    · rw [w.1 a i (by omega) (by unfold kpX at p; omega)]; exact a9 a i (by unfold kpX at p; omega)
    · rw [w.1 a i (by omega) (by omega)]; exact a9 a i (by omega)
    · rw [w.1 71 i (by omega) (by omega)]; exact a9 71 i (by omega)
  · intro m0 m99 hd hm t13 e13 t14 e14 t6 e6 t7 e7 t8 e8 t9 e9 s11 w
    obtain ⟨a1, a2, a3, a4, a5, a6, a7, a8, a9⟩ := hs2 t9 t8 t7 t6 t14 t13 e13 e14 e6 e7 e8 e9
    have hs14 : ∀ a i, a ≠ 71 → gi t14 a i = gi σ a i := fun a i q => by rw [e14, gi_ne q, e13, gi_ne q]
    refine hyes s11 m0 m99 hd (fun a i p q1 q2 => ?_) (fun a i q => ?_) (hpk s11 t9 ⟨a1, a2, a3, a4, a5, a6, a7, a8⟩ w) (fun q => by omega) (fun _ => ⟨?_, ?_⟩)
    · rw [w.1 a i (by omega) (by unfold kpX at p; omega), a9 a i (by unfold kpX at p; omega)]; exact hs14 a i q2
    · rw [w.1 a i (by omega) (by omega), a9 a i (by omega)]; exact hs14 a i (by omega)
    · rw [w.1 71 3 (by omega) (by omega), a9 71 3 (by omega), e14, gi_si, if_neg (by omega), e13, gi_si, if_pos ⟨rfl, rfl⟩]
    · rw [w.1 71 4 (by omega) (by omega), a9 71 4 (by omega), e14, gi_si, if_pos ⟨rfl, rfl⟩]
  · intros; exact hno (by omega)
