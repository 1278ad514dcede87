/-! QUERY: airing, the two loops -/
/-- the first of f 0 .. f (k - 1) that is least -/
def am (f : Nat → Int) : Nat → Nat
  | 0 => 0
  | k + 1 => if k ≠ 0 ∧ ¬ f k < f (am f k) then am f k else k
theorem am_spec {f : Nat → Int} : ∀ k : Nat, 1 ≤ k → am f k < k ∧ (∀ m, m < k → f (am f k) ≤ f m) ∧ (∀ m, m < am f k → f (am f k) < f m) := by
  intro k
  induction k with
  | zero => intro h; omega
  | succ k ih =>
    intro _
    simp only [am]
    by_cases k0 : k = 0
    · subst k0
      rw [if_neg (by omega)]
      exact ⟨by omega, fun m hm => by rw [show m = 0 by omega]; exact Int.le_refl _, fun m hm => by omega⟩
    · obtain ⟨i1, i2, i3⟩ := ih (by omega)
      by_cases q : f k < f (am f k)
      · rw [if_neg (fun z => z.2 q)]
        refine ⟨by omega, fun m hm => ?_, fun m hm => ?_⟩
        · by_cases e : m = k
          · rw [e]; exact Int.le_refl _
          · have := i2 m (by omega); omega
        · have := i2 m hm; omega
      · rw [if_pos ⟨k0, q⟩]
        refine ⟨by omega, fun m hm => ?_, i3⟩
        by_cases e : m = k
        · rw [e]; omega
        · exact i2 m (by omega)
theorem am_s {f : Nat → Int} {k : Nat} (hk : 1 ≤ k) : am f (k + 1) = if f k < f (am f k) then k else am f k := by
  simp only [am]
  by_cases q : f k < f (am f k)
  · rw [if_pos q, if_neg (fun z => z.2 q)]
  · rw [if_neg q, if_pos ⟨by omega, q⟩]
theorem dk_in {A V : Nat → Nat → Int} : -50 ≤ dk A V 5 ∧ dk A V 5 ≤ 50 := by
  unfold dk
  rw [← sumF_sub]
  have q1 := sumF_bd (f := fun q => cnt (bi (A 8 q)) 10) (B := 10) (k := 5) (fun q _ => cnt_in _ _)
  have q2 := sumF_bd (f := fun q => cnt (bi (V 8 q)) 10) (B := 10) (k := 5) (fun q _ => cnt_in _ _)
  omega
theorem hA_in {T V : Nat → Nat → Int} {m u mo : Nat} : -50 ≤ hA T V m u mo ∧ hA T V m u mo ≤ 50 := dk_in
def airV (T V : Nat → Nat → Int) (m : Nat) (w : Int) : Int := if w = 5 then sumF (fun u => hA T V m u (am (hA T V m u) m)) (T 0 0).toNat else if T 0 0 ≤ w then -2 else (am (hA T V m w.toNat) m : Int)
theorem aS_in {T V : Nat → Nat → Int} {m : Nat} : ∀ k : Nat, -50 * (k : Int) ≤ sumF (fun u => hA T V m u (am (hA T V m u) m)) k ∧ sumF (fun u => hA T V m u (am (hA T V m u) m)) k ≤ 50 * (k : Int) := by
  intro k
  induction k with
  | zero => exact ⟨by simp [sumF], by simp [sumF]⟩
  | succ k ih =>
    have := hA_in (T := T) (V := V) (m := m) (u := k) (mo := am (hA T V m k) m)
    simp only [sumF]
    omega
theorem dayn {d m : Int} (hm : 1 ≤ m) : ((7 - d % 7) % 7 + 7 * (m - 1) + 1).toNat = ((7 - d % 7) % 7).toNat + 7 * (m.toNat - 1) + 1 := by omega
/-- the first c below M at which S is least -/
def FM (S : Nat → Int) (M b : Nat) : Prop := b < M ∧ (∀ c, c < M → S b ≤ S c) ∧ (∀ c, c < b → S b < S c)
theorem FM_1 {S : Nat → Int} : FM S 1 0 := ⟨by omega, fun c hc => by rw [show c = 0 by omega]; exact Int.le_refl _, fun c hc => by omega⟩
theorem FM_n {S : Nat → Int} {M b : Nat} (h : FM S M b) (q : S M < S b) : FM S (M + 1) M := ⟨by omega, fun c hc => by
    by_cases e : c = M
    · rw [e]; exact Int.le_refl _
    · have := h.2.1 c (by omega); omega, fun c hc => by have := h.2.1 c hc; omega⟩
theorem FM_k {S : Nat → Int} {M b : Nat} (h : FM S M b) (q : S b ≤ S M) : FM S (M + 1) b := ⟨by have := h.1; omega, fun c hc => by
    by_cases e : c = M
    · rw [e]; exact q
    · exact h.2.1 c (by omega), h.2.2⟩
theorem kF_123 {s τ : Mm} {i : Nat} {v : Int} (k : kF s τ) : kF s (si τ 123 i v) := fun a y p => by
  rw [gi_si, if_neg]
  · exact k a y p
  · rintro ⟨rfl, rfl⟩
    rcases p with p | p
    · omega
    · simp [kpM, hT, hf] at p
theorem v_agR_0 {n : Nat}  (m : Int) (w : Int) {σ : Mm} {P : Int → Mm → Prop} (l1 : ∀ t1 : Mm, t1 = si σ 85 2 (0 : Int) → m < (1 : Int) → P (-1) t1) (l2 : ∀ t1 : Mm, t1 = si σ 85 2 (0 : Int) → (1 : Int) ≤ m → (4 : Int) < m → P (-1) t1) (l3 : ∀ t1 : Mm, t1 = si σ 85 2 (0 : Int) → (1 : Int) ≤ m → m ≤ (4 : Int) → w < (0 : Int) → P (-1) t1) (l4 : ∀ t1 : Mm, t1 = si σ 85 2 (0 : Int) → (1 : Int) ≤ m → m ≤ (4 : Int) → (0 : Int) ≤ w → (5 : Int) < w → P (-1) t1) (l5 : ∀ t1 : Mm, t1 = si σ 85 2 (0 : Int) → (1 : Int) ≤ m → m ≤ (4 : Int) → (0 : Int) ≤ w → w ≤ (5 : Int) → (5 : Int) ≤ w → R 238 49 [some (vr 85), some (vi m), some (vi w), some (vi (-1)), some (vi 0), some (vi 0), none] [] (shF n) 0 0 t1 (Qi (shF n) P)) (l6 : ∀ t1 : Mm, t1 = si σ 85 2 (0 : Int) → (1 : Int) ≤ m → m ≤ (4 : Int) → (0 : Int) ≤ w → w ≤ (5 : Int) → w < (5 : Int) → w < (gi σ 85 12) → R 238 49 [some (vr 85), some (vi m), some (vi w), some (vi (-1)), some (vi 0), some (vi 0), none] [] (shF n) 0 0 t1 (Qi (shF n) P)) (l7 : ∀ t1 : Mm, t1 = si σ 85 2 (0 : Int) → (1 : Int) ≤ m → m ≤ (4 : Int) → (0 : Int) ≤ w → w ≤ (5 : Int) → w < (5 : Int) → (gi σ 85 12) ≤ w → P (-2) t1) : Ci 238 [vr 85, vi m, vi w] (shF n) σ P :=
  show R 238 0 [some (vr 85), some (vi m), some (vi w), none, none, none, none] [] (shF n) 0 0 σ (Qi (shF n) P) from wpK_R 27 [49, 74] ((show R 157 0 [_, some (vi 1), some (vi 4)] [] (shF n) 0 0 _ _ from wpK_R 9 [] (And.intro (fun q2 => And.intro ret0 (And.intro (Or.inl rfl) ⟨rfl, _, rfl, And.intro (fun _ => And.intro ret0 ⟨rfl, _, rfl, (l1 _ rfl q2)⟩) (fun q => absurd (show (0 : Int) = 0 by decide) q)⟩)) (fun q2 => And.intro (fun q3 => And.intro ret0 (And.intro (Or.inl rfl) ⟨rfl, _, rfl, And.intro (fun _ => And.intro ret0 ⟨rfl, _, rfl, (l2 _ rfl (Int.not_lt.mp q2) q3)⟩) (fun q => absurd (show (0 : Int) = 0 by decide) q)⟩)) (fun q3 => And.intro ret0 (And.intro (Or.inr rfl) ⟨rfl, _, rfl, And.intro (fun q => absurd q (show ¬ ((1 : Int) = 0) by decide)) (fun _ => (show R 157 0 [_, some (vi 0), some (vi 5)] [] (shF n) 0 0 _ _ from wpK_R 9 [] (And.intro (fun q4 => And.intro ret0 (And.intro (Or.inl rfl) ⟨rfl, _, rfl, And.intro (fun q => absurd q (show ¬ ((0 : Int) ≠ 0) by decide)) (fun _ => And.intro ret0 ⟨rfl, _, rfl, (l3 _ rfl (Int.not_lt.mp q2) (Int.not_lt.mp q3) q4)⟩)⟩)) (fun q4 => And.intro (fun q5 => And.intro ret0 (And.intro (Or.inl rfl) ⟨rfl, _, rfl, And.intro (fun q => absurd q (show ¬ ((0 : Int) ≠ 0) by decide)) (fun _ => And.intro ret0 ⟨rfl, _, rfl, (l4 _ rfl (Int.not_lt.mp q2) (Int.not_lt.mp q3) (Int.not_lt.mp q4) q5)⟩)⟩)) (fun q5 => And.intro ret0 (And.intro (Or.inr rfl) ⟨rfl, _, rfl, And.intro (fun _ => And.intro (fun q6 => (l5 _ rfl (Int.not_lt.mp q2) (Int.not_lt.mp q3) (Int.not_lt.mp q4) (Int.not_lt.mp q5) q6)) (fun q6 => And.intro (fun q7 => (l6 _ rfl (Int.not_lt.mp q2) (Int.not_lt.mp q3) (Int.not_lt.mp q4) (Int.not_lt.mp q5) (Int.not_le.mp q6) q7)) (fun q7 => And.intro ret0 ⟨rfl, _, rfl, (l7 _ rfl (Int.not_lt.mp q2) (Int.not_lt.mp q3) (Int.not_lt.mp q4) (Int.not_lt.mp q5) (Int.not_le.mp q6) (Int.not_lt.mp q7))⟩))) (fun q => absurd (show (1 : Int) ≠ 0 by decide) q)⟩))))))⟩))))))
theorem v_agR_49 {n : Nat} (T : Nat → Nat → Int) (V : Nat → Nat → Int) (m : Int) (w : Int) (be : Int) (le : Int) (c : Nat) (z : Option PV) {σ : Mm} {P : Int → Mm → Prop} (o1 : (0 ≤ m ∧ m ≤ 5)) (o2 : (0 ≤ (gi σ 85 12) ∧ (gi σ 85 12) ≤ 6)) (o3 : ∀ x1 : Int, x1 = ((m.toNat ^ (gi σ 85 12).toNat : Nat) : Int) → x1 ≤ (c : Int) → ∀ s4 : Mm, Pl σ s4 → w ≠ (5 : Int) → rg ((gi s4 85 12) - 1)) (o4 : ∀ x1 : Int, x1 = ((m.toNat ^ (gi σ 85 12).toNat : Nat) : Int) → x1 ≤ (c : Int) → ∀ s4 : Mm, Pl σ s4 → w ≠ (5 : Int) → rg (((gi s4 85 12) - 1) - w)) (o5 : ∀ x1 : Int, x1 = ((m.toNat ^ (gi σ 85 12).toNat : Nat) : Int) → x1 ≤ (c : Int) → ∀ s4 : Mm, Pl σ s4 → w ≠ (5 : Int) → (0 ≤ m ∧ m ≤ 5)) (o6 : ∀ x1 : Int, x1 = ((m.toNat ^ (gi σ 85 12).toNat : Nat) : Int) → x1 ≤ (c : Int) → ∀ s4 : Mm, Pl σ s4 → w ≠ (5 : Int) → (0 ≤ (((gi s4 85 12) - 1) - w) ∧ (((gi s4 85 12) - 1) - w) ≤ 6)) (o7 : ∀ x1 : Int, x1 = ((m.toNat ^ (gi σ 85 12).toNat : Nat) : Int) → x1 ≤ (c : Int) → ∀ s4 : Mm, Pl σ s4 → w ≠ (5 : Int) → ∀ x9 : Int, x9 = ((m.toNat ^ (((gi s4 85 12) - 1) - w).toNat : Nat) : Int) → (0 ≤ be ∧ be < 2147483648 ∧ 0 < x9)) (o8 : ∀ x1 : Int, x1 = ((m.toNat ^ (gi σ 85 12).toNat : Nat) : Int) → x1 ≤ (c : Int) → ∀ s4 : Mm, Pl σ s4 → w ≠ (5 : Int) → ∀ x9 : Int, x9 = ((m.toNat ^ (((gi s4 85 12) - 1) - w).toNat : Nat) : Int) → (0 ≤ (be / x9) ∧ 0 < m)) (o9 : ∀ x1 : Int, x1 = ((m.toNat ^ (gi σ 85 12).toNat : Nat) : Int) → (c : Int) < x1 → KB σ) (l1 : ∀ x1 : Int, x1 = ((m.toNat ^ (gi σ 85 12).toNat : Nat) : Int) → x1 ≤ (c : Int) → ∀ s4 : Mm, Pl σ s4 → w ≠ (5 : Int) → ∀ x9 : Int, x9 = ((m.toNat ^ (((gi s4 85 12) - 1) - w).toNat : Nat) : Int) → P ((be / x9) % m) s4) (l2 : ∀ x1 : Int, x1 = ((m.toNat ^ (gi σ 85 12).toNat : Nat) : Int) → x1 ≤ (c : Int) → ∀ s4 : Mm, Pl σ s4 → w = (5 : Int) → P le s4) (l3 : ∀ x1 : Int, x1 = ((m.toNat ^ (gi σ 85 12).toNat : Nat) : Int) → (c : Int) < x1 → ∀ s13 : Mm, Lt σ s13 → ∀ t15 : Mm, t15 = si s13 85 71 (1 : Int) → R 238 74 [some (vr 85), some (vi m), some (vi w), some (vi be), some (vi le), some (vi (c : Int)), some (vi 0)] [] (shF n) 0 0 t15 (Qi (shF n) P)) : R 238 49 [some (vr 85), some (vi m), some (vi w), some (vi be), some (vi le), some (vi (c : Int)), z] [] (shF n) 0 0 σ (Qi (shF n) P) :=
  wpK_R 24 [49, 74] ((c_pw  (o1) (o2) (And.intro (fun q2 => (c_plain   (fun s4 h5 => And.intro (fun q6 => (have k7 := (o3 _ rfl q2 s4 h5 q6); And.intro k7 ((have k8 := (o4 _ rfl q2 s4 h5 q6); And.intro k8 ((c_pw  (o5 _ rfl q2 s4 h5 q6) (o6 _ rfl q2 s4 h5 q6) ((have k10 := (o7 _ rfl q2 s4 h5 q6 _ rfl); And.intro k10 ((have k11 := (o8 _ rfl q2 s4 h5 q6 _ rfl); And.intro k11 (And.intro ret0 ⟨rfl, _, rfl, (l1 _ rfl q2 s4 h5 q6 _ rfl)⟩))))))))))) (fun q6 => And.intro ret0 ⟨rfl, _, rfl, (l2 _ rfl q2 s4 h5 (Classical.not_not.mp q6))⟩)))) (fun q2 => (c_lyT  (o9 _ rfl (Int.not_le.mp q2)) (fun s13 h14 => And.intro (Or.inr rfl) ((l3 _ rfl (Int.not_le.mp q2) s13 h14 _ rfl))))))))
theorem v_agR_74 {n : Nat} (T : Nat → Nat → Int) (V : Nat → Nat → Int) (m : Int) (w : Int) (be : Int) (le : Int) (c : Nat) (u : Nat) {σ : Mm} {P : Int → Mm → Prop} (o1 : (gi σ 85 12) ≤ (u : Int) → (0 ≤ (gi σ 120 0) ∧ 0 < (7 : Int))) (o2 : (gi σ 85 12) ≤ (u : Int) → rg ((7 : Int) - ((gi σ 120 0) % (7 : Int)))) (o3 : (gi σ 85 12) ≤ (u : Int) → (0 ≤ ((7 : Int) - ((gi σ 120 0) % (7 : Int))) ∧ 0 < (7 : Int))) (o4 : (gi σ 85 12) ≤ (u : Int) → ∀ x5 : Int, x5 = ((7 : Int) - ((gi σ 120 0) % (7 : Int))) % (7 : Int) → rg (m - 1)) (o5 : (gi σ 85 12) ≤ (u : Int) → ∀ x5 : Int, x5 = ((7 : Int) - ((gi σ 120 0) % (7 : Int))) % (7 : Int) → rg ((7 : Int) * (m - 1))) (o6 : (gi σ 85 12) ≤ (u : Int) → ∀ x5 : Int, x5 = ((7 : Int) - ((gi σ 120 0) % (7 : Int))) % (7 : Int) → rg (x5 + ((7 : Int) * (m - 1)))) (o7 : (gi σ 85 12) ≤ (u : Int) → ∀ x5 : Int, x5 = ((7 : Int) - ((gi σ 120 0) % (7 : Int))) % (7 : Int) → rg ((x5 + ((7 : Int) * (m - 1))) + 1)) (o8 : (gi σ 85 12) ≤ (u : Int) → ∀ x5 : Int, x5 = ((7 : Int) - ((gi σ 120 0) % (7 : Int))) % (7 : Int) → PlQ T V σ ((x5 + ((7 : Int) * (m - 1))) + 1)) (o9 : (gi σ 85 12) ≤ (u : Int) → ∀ x5 : Int, x5 = ((7 : Int) - ((gi σ 120 0) % (7 : Int))) % (7 : Int) → ∀ s11 : Mm, PM T V ((x5 + ((7 : Int) * (m - 1))) + 1) σ s11 → (0 ≤ gi s11 85 14 ∧ gi s11 85 14 ≤ 5)) (o10 : (gi σ 85 12) ≤ (u : Int) → ∀ x5 : Int, x5 = ((7 : Int) - ((gi σ 120 0) % (7 : Int))) % (7 : Int) → ∀ s11 : Mm, PM T V ((x5 + ((7 : Int) * (m - 1))) + 1) σ s11 → 1 < 2) (o11 : (gi σ 85 12) ≤ (u : Int) → ∀ x5 : Int, x5 = ((7 : Int) - ((gi σ 120 0) % (7 : Int))) % (7 : Int) → ∀ s11 : Mm, PM T V ((x5 + ((7 : Int) * (m - 1))) + 1) σ s11 → ∀ x13 : Int, x13 = sumF (fun q => cnt (bi (gi s11 119 (5 * 1 + q))) 10) (gi s11 85 14).toNat → (0 ≤ gi s11 85 14 ∧ gi s11 85 14 ≤ 5)) (o12 : (gi σ 85 12) ≤ (u : Int) → ∀ x5 : Int, x5 = ((7 : Int) - ((gi σ 120 0) % (7 : Int))) % (7 : Int) → ∀ s11 : Mm, PM T V ((x5 + ((7 : Int) * (m - 1))) + 1) σ s11 → ∀ x13 : Int, x13 = sumF (fun q => cnt (bi (gi s11 119 (5 * 1 + q))) 10) (gi s11 85 14).toNat → 0 < 2) (o13 : (gi σ 85 12) ≤ (u : Int) → ∀ x5 : Int, x5 = ((7 : Int) - ((gi σ 120 0) % (7 : Int))) % (7 : Int) → ∀ s11 : Mm, PM T V ((x5 + ((7 : Int) * (m - 1))) + 1) σ s11 → ∀ x13 : Int, x13 = sumF (fun q => cnt (bi (gi s11 119 (5 * 1 + q))) 10) (gi s11 85 14).toNat → ∀ x14 : Int, x14 = sumF (fun q => cnt (bi (gi s11 119 (5 * 0 + q))) 10) (gi s11 85 14).toNat → rg (x13 - x14)) (o14 : (gi σ 85 12) ≤ (u : Int) → ∀ x5 : Int, x5 = ((7 : Int) - ((gi σ 120 0) % (7 : Int))) % (7 : Int) → ∀ s11 : Mm, PM T V ((x5 + ((7 : Int) * (m - 1))) + 1) σ s11 → ∀ x13 : Int, x13 = sumF (fun q => cnt (bi (gi s11 119 (5 * 1 + q))) 10) (gi s11 85 14).toNat → ∀ x14 : Int, x14 = sumF (fun q => cnt (bi (gi s11 119 (5 * 0 + q))) 10) (gi s11 85 14).toNat → ∀ x16 : Int, x16 = x13 - x14 → be < (0 : Int) → rg ((c : Int) + 1)) (o15 : (gi σ 85 12) ≤ (u : Int) → ∀ x5 : Int, x5 = ((7 : Int) - ((gi σ 120 0) % (7 : Int))) % (7 : Int) → ∀ s11 : Mm, PM T V ((x5 + ((7 : Int) * (m - 1))) + 1) σ s11 → ∀ x13 : Int, x13 = sumF (fun q => cnt (bi (gi s11 119 (5 * 1 + q))) 10) (gi s11 85 14).toNat → ∀ x14 : Int, x14 = sumF (fun q => cnt (bi (gi s11 119 (5 * 0 + q))) 10) (gi s11 85 14).toNat → ∀ x16 : Int, x16 = x13 - x14 → (0 : Int) ≤ be → x16 < le → rg ((c : Int) + 1)) (o16 : (gi σ 85 12) ≤ (u : Int) → ∀ x5 : Int, x5 = ((7 : Int) - ((gi σ 120 0) % (7 : Int))) % (7 : Int) → ∀ s11 : Mm, PM T V ((x5 + ((7 : Int) * (m - 1))) + 1) σ s11 → ∀ x13 : Int, x13 = sumF (fun q => cnt (bi (gi s11 119 (5 * 1 + q))) 10) (gi s11 85 14).toNat → ∀ x14 : Int, x14 = sumF (fun q => cnt (bi (gi s11 119 (5 * 0 + q))) 10) (gi s11 85 14).toNat → ∀ x16 : Int, x16 = x13 - x14 → (0 : Int) ≤ be → le ≤ x16 → rg ((c : Int) + 1)) (o17 : (u : Int) < (gi σ 85 12) → rg ((gi σ 85 12) - 1)) (o18 : (u : Int) < (gi σ 85 12) → rg (((gi σ 85 12) - 1) - (u : Int))) (o19 : (u : Int) < (gi σ 85 12) → (0 ≤ m ∧ m ≤ 5)) (o20 : (u : Int) < (gi σ 85 12) → (0 ≤ (((gi σ 85 12) - 1) - (u : Int)) ∧ (((gi σ 85 12) - 1) - (u : Int)) ≤ 6)) (o21 : (u : Int) < (gi σ 85 12) → ∀ x24 : Int, x24 = ((m.toNat ^ (((gi σ 85 12) - 1) - (u : Int)).toNat : Nat) : Int) → (0 ≤ (c : Int) ∧ (c : Int) < 2147483648 ∧ 0 < x24)) (o22 : (u : Int) < (gi σ 85 12) → ∀ x24 : Int, x24 = ((m.toNat ^ (((gi σ 85 12) - 1) - (u : Int)).toNat : Nat) : Int) → (0 ≤ ((c : Int) / x24) ∧ 0 < m)) (o23 : (u : Int) < (gi σ 85 12) → ∀ x24 : Int, x24 = ((m.toNat ^ (((gi σ 85 12) - 1) - (u : Int)).toNat : Nat) : Int) → (0 ≤ (u : Int) ∧ (u : Int) < 5)) (o24 : (u : Int) < (gi σ 85 12) → ∀ x24 : Int, x24 = ((m.toNat ^ (((gi σ 85 12) - 1) - (u : Int)).toNat : Nat) : Int) → ∀ t28 : Mm, t28 = si σ 123 u (((c : Int) / x24) % m) → rg ((u : Int) + 1)) (l1 : (gi σ 85 12) ≤ (u : Int) → ∀ x5 : Int, x5 = ((7 : Int) - ((gi σ 120 0) % (7 : Int))) % (7 : Int) → ∀ s11 : Mm, PM T V ((x5 + ((7 : Int) * (m - 1))) + 1) σ s11 → ∀ x13 : Int, x13 = sumF (fun q => cnt (bi (gi s11 119 (5 * 1 + q))) 10) (gi s11 85 14).toNat → ∀ x14 : Int, x14 = sumF (fun q => cnt (bi (gi s11 119 (5 * 0 + q))) 10) (gi s11 85 14).toNat → ∀ x16 : Int, x16 = x13 - x14 → be < (0 : Int) → R 238 49 [some (vr 85), some (vi m), some (vi w), some (vi (c : Int)), some (vi x16), some (vi ((c : Int) + 1)), some (vi x16)] [] (shF n) 0 0 s11 (Qi (shF n) P)) (l2 : (gi σ 85 12) ≤ (u : Int) → ∀ x5 : Int, x5 = ((7 : Int) - ((gi σ 120 0) % (7 : Int))) % (7 : Int) → ∀ s11 : Mm, PM T V ((x5 + ((7 : Int) * (m - 1))) + 1) σ s11 → ∀ x13 : Int, x13 = sumF (fun q => cnt (bi (gi s11 119 (5 * 1 + q))) 10) (gi s11 85 14).toNat → ∀ x14 : Int, x14 = sumF (fun q => cnt (bi (gi s11 119 (5 * 0 + q))) 10) (gi s11 85 14).toNat → ∀ x16 : Int, x16 = x13 - x14 → (0 : Int) ≤ be → x16 < le → R 238 49 [some (vr 85), some (vi m), some (vi w), some (vi (c : Int)), some (vi x16), some (vi ((c : Int) + 1)), some (vi x16)] [] (shF n) 0 0 s11 (Qi (shF n) P)) (l3 : (gi σ 85 12) ≤ (u : Int) → ∀ x5 : Int, x5 = ((7 : Int) - ((gi σ 120 0) % (7 : Int))) % (7 : Int) → ∀ s11 : Mm, PM T V ((x5 + ((7 : Int) * (m - 1))) + 1) σ s11 → ∀ x13 : Int, x13 = sumF (fun q => cnt (bi (gi s11 119 (5 * 1 + q))) 10) (gi s11 85 14).toNat → ∀ x14 : Int, x14 = sumF (fun q => cnt (bi (gi s11 119 (5 * 0 + q))) 10) (gi s11 85 14).toNat → ∀ x16 : Int, x16 = x13 - x14 → (0 : Int) ≤ be → le ≤ x16 → R 238 49 [some (vr 85), some (vi m), some (vi w), some (vi be), some (vi le), some (vi ((c : Int) + 1)), some (vi x16)] [] (shF n) 0 0 s11 (Qi (shF n) P)) (l4 : (u : Int) < (gi σ 85 12) → ∀ x24 : Int, x24 = ((m.toNat ^ (((gi σ 85 12) - 1) - (u : Int)).toNat : Nat) : Int) → ∀ t28 : Mm, t28 = si σ 123 u (((c : Int) / x24) % m) → R 238 74 [some (vr 85), some (vi m), some (vi w), some (vi be), some (vi le), some (vi (c : Int)), some (vi ((u : Int) + 1))] [] (shF n) 0 0 t28 (Qi (shF n) P)) : R 238 74 [some (vr 85), some (vi m), some (vi w), some (vi be), some (vi le), some (vi (c : Int)), some (vi (u : Int))] [] (shF n) 0 0 σ (Qi (shF n) P) :=
  wpK_R 36 [49, 74] (And.intro (fun q1 => (show R 236 0 [some (vr 85)] [] (shF n) 0 0 _ _ from wpK_R 11 [] (And.intro (by decide) ((have k2 := (o1 q1); And.intro k2 ((have k3 := (o2 q1); And.intro k3 ((have k4 := (o3 q1); And.intro k4 (And.intro ret0 ⟨rfl, _, rfl, (have k6 := (o4 q1 _ rfl); And.intro k6 ((have k7 := (o5 q1 _ rfl); And.intro k7 ((have k8 := (o6 q1 _ rfl); And.intro k8 ((have k9 := (o7 q1 _ rfl); And.intro k9 ((c_goP (T := T) (V := V) (o8 q1 _ rfl) (fun s11 h12 => (c_kal (b := 1) (o9 q1 _ rfl s11 h12) (o10 q1 _ rfl s11 h12) ((c_kal (b := 0) (o11 q1 _ rfl s11 h12 _ rfl) (o12 q1 _ rfl s11 h12 _ rfl) ((have k15 := (o13 q1 _ rfl s11 h12 _ rfl _ rfl); And.intro k15 (And.intro (fun q17 => (have k18 := (o14 q1 _ rfl s11 h12 _ rfl _ rfl _ rfl q17); And.intro k18 ((l1 q1 _ rfl s11 h12 _ rfl _ rfl _ rfl q17)))) (fun q17 => And.intro (fun q19 => (have k20 := (o15 q1 _ rfl s11 h12 _ rfl _ rfl _ rfl (Int.not_lt.mp q17) q19); And.intro k20 ((l2 q1 _ rfl s11 h12 _ rfl _ rfl _ rfl (Int.not_lt.mp q17) q19)))) (fun q19 => (have k21 := (o16 q1 _ rfl s11 h12 _ rfl _ rfl _ rfl (Int.not_lt.mp q17) (Int.not_lt.mp q19)); And.intro k21 ((l3 q1 _ rfl s11 h12 _ rfl _ rfl _ rfl (Int.not_lt.mp q17) (Int.not_lt.mp q19))))))))))))))))))))))⟩)))))))))) (fun q1 => (have k22 := (o17 (Int.not_le.mp q1)); And.intro k22 ((have k23 := (o18 (Int.not_le.mp q1)); And.intro k23 ((c_pw  (o19 (Int.not_le.mp q1)) (o20 (Int.not_le.mp q1)) ((have k25 := (o21 (Int.not_le.mp q1) _ rfl); And.intro k25 ((have k26 := (o22 (Int.not_le.mp q1) _ rfl); And.intro k26 ((have k27 := (o23 (Int.not_le.mp q1) _ rfl); And.intro k27 ((have k29 := (o24 (Int.not_le.mp q1) _ rfl _ rfl); And.intro k29 ((l4 (Int.not_le.mp q1) _ rfl _ rfl)))))))))))))))))
theorem r_airing {xs : Nat → Int} {N n : Nat} {s : Mm} (h : Rel xs N s) (m w : Int) : Ci 238 [vr 85, vi m, vi w] (shF n) s (fun v' s' => v' = (if (1 ≤ m ∧ m ≤ 4) ∧ (0 ≤ w ∧ w ≤ 5) then airV (vw s 5) (wv s 40) m.toNat w else -1) ∧ Rel xs N s') := by
  obtain ⟨c0, c1, c2, c3, c5, d0', d1, d2, d3, -⟩ := Rel_cnt h
  have hb := h.2.2.2.2.1
  have hw := h.2.2.2.2.2.2.1
  have huh := h.2.2.2.2.2.2.2.1
  have hw0 := Rel_w0 h
  obtain ⟨J, hJ⟩ : ∃ J : Nat, (J : Int) = gi s 5 0 := ⟨(gi s 5 0).toNat, by omega⟩
  have hJ5 : J ≤ 5 := by omega
  have hd0 : d0 (wv s 40) = ((7 - gi s 40 0 % 7) % 7).toNat := rfl
  have hdi := d0_in (wv s 40)
  obtain ⟨S, hS⟩ : ∃ S, S = plS (hA (vw s 5) (wv s 40) m.toNat) m.toNat J := ⟨_, rfl⟩
  have main : ∀ t1 : Mm, t1 = si s 85 2 0 → 1 ≤ m → m ≤ 4 → 0 ≤ w → w ≤ 5 → (w < 5 → w < gi s 5 0) → R 238 49 [some (vr 85), some (vi m), some (vi w), some (vi (-1)), some (vi 0), some (vi 0), none] [] (shF n) 0 0 t1 (Qi (shF n) (fun v' s' => v' = (if (1 ≤ m ∧ m ≤ 4) ∧ (0 ≤ w ∧ w ≤ 5) then airV (vw s 5) (wv s 40) m.toNat w else -1) ∧ Rel xs N s')) := fun t1 ht m1 m4 w0 w5 wJ => by
    rw [if_pos (by omega)]
    have hM : 1 ≤ m.toNat ^ J := Nat.pow_pos (by omega)
    have hfin : ∀ be le : Int, ((be = -1 ∧ le = 0 ∧ (0 : Nat) = m.toNat ^ J) ∨ (∃ b : Nat, be = (b : Int) ∧ le = S b ∧ FM S (m.toNat ^ J) b)) → (w ≠ 5 → be / ((m.toNat ^ (gi s 5 0 - 1 - w).toNat : Nat) : Int) % m = airV (vw s 5) (wv s 40) m.toNat w) ∧ (w = 5 → le = airV (vw s 5) (wv s 40) m.toNat w) ∧ (0 ≤ be ∧ be < ((m.toNat ^ J : Nat) : Int)) := fun be le hh => by
      rcases hh with ⟨-, -, z⟩ | ⟨b, rfl, rfl, hf⟩
      · omega
      · have hg := plS_min (h := hA (vw s 5) (wv s 40) m.toNat) (n := m.toNat) (J := J) (g := fun u => am (hA (vw s 5) (wv s 40) m.toNat u) m.toNat) (by omega) hf.1 (fun c hc => by rw [← hS]; exact hf.2.1 c hc) (fun c hc => by rw [← hS]; exact hf.2.2 c hc) (fun w _ => (am_spec m.toNat (by omega)).1) (fun w mm _ hm => (am_spec m.toNat (by omega)).2.1 mm hm) (fun w mm _ hm => (am_spec m.toNat (by omega)).2.2 mm hm)
        have hf1 := hf.1
        refine ⟨fun q => ?_, fun q => ?_, by omega⟩
        · have := hg w.toNat (by omega)
          unfold airV
          rw [if_neg q, if_neg (show ¬ vw s 5 0 0 ≤ w from (show ¬ gi s 5 0 ≤ w by omega)), ← this, show (gi s 5 0 - 1 - w).toNat = J - 1 - w.toNat by omega]
          obtain ⟨mm, hmm⟩ : ∃ mm : Nat, m = (mm : Int) := ⟨m.toNat, by omega⟩
          rw [hmm, Int.toNat_natCast]
          rw [Int.natCast_emod, Int.natCast_ediv]
        · unfold airV
          rw [if_pos q, hS]
          unfold plS
          rw [show (vw s 5 0 0).toNat = J from (show (gi s 5 0).toNat = J by omega)]
          exact sumF_congr fun u hu => by show hA _ _ _ u _ = _; rw [hg u hu]
    refine loopUp (N := m.toNat ^ J) (I := fun c => ∀ (be le : Int) (z : Option PV) (τ : Mm), kF s τ → gi τ 85 2 = 0 → ((be = -1 ∧ le = 0 ∧ (0 : Nat) = c) ∨ (∃ b : Nat, be = (b : Int) ∧ le = S b ∧ FM S c b)) → R 238 49 [some (vr 85), some (vi m), some (vi w), some (vi be), some (vi le), some (vi (c : Int)), z] [] (shF n) 0 0 τ (Qi (shF n) (fun v' s' => v' = airV (vw s 5) (wv s 40) m.toNat w ∧ Rel xs N s'))) (fun c hc ih => ?_) 0 (by omega) (-1) 0 none t1 ?_ ?_ (Or.inl ⟨rfl, rfl, rfl⟩)
    · intro be le z τ kf h2 hbl
      have hr := kf.rel h
      have e12 : gi τ 85 12 = gi s 5 0 := by rw [(Rel_cnt hr).2.2.2.2.2.1, kf 5 0 (Or.inl (by omega))]
      have hpw := pw_bd (b := m.toNat) (k := J) (by omega) (by omega)
      have hpwe : m.toNat ^ (gi τ 85 12).toNat = m.toNat ^ J := by rw [e12, show (gi s 5 0).toNat = J by omega]
      have hp12 : ∀ s4, Pl τ s4 → gi s4 85 12 = gi s 5 0 := fun s4 p => by rw [p.2.1 85 12 (by omega)]; exact e12
      have hc1 : 0 ≤ be ∨ be = -1 := by rcases hbl with ⟨q, -⟩ | ⟨b, q, -⟩ <;> omega
      refine v_agR_49 (vw s 5) (wv s 40) m w be le c z (by intros; subst_vars; first | omega | exact Rel_KB hr | (have q := hp12 _ ‹_›; rw [q]; omega) | (have q := hp12 _ ‹_›; rw [q]; unfold rg; omega) | (have q := pw_bd (b := m.toNat) (k := (gi s 5 0 - 1 - w).toNat) (by omega) (by omega); have q1 : 0 < m.toNat ^ (gi s 5 0 - 1 - w).toNat := Nat.pow_pos (by omega); have q2 := hp12 _ ‹_›; rw [q2]; have q3 := hfin be le (by rw [show m.toNat ^ J = c by omega]; exact hbl); exact ⟨by omega, by omega, by omega⟩) | (have q1 : 0 < m.toNat ^ (gi s 5 0 - 1 - w).toNat := Nat.pow_pos (by omega); have q2 := hp12 _ ‹_›; rw [q2]; have q3 := hfin be le (by rw [show m.toNat ^ J = c by omega]; exact hbl); exact ⟨Int.ediv_nonneg q3.2.2.1 (by omega), by omega⟩)) (by intros; subst_vars; first | omega | exact Rel_KB hr | (have q := hp12 _ ‹_›; rw [q]; omega) | (have q := hp12 _ ‹_›; rw [q]; unfold rg; omega) | (have q := pw_bd (b := m.toNat) (k := (gi s 5 0 - 1 - w).toNat) (by omega) (by omega); have q1 : 0 < m.toNat ^ (gi s 5 0 - 1 - w).toNat := Nat.pow_pos (by omega); have q2 := hp12 _ ‹_›; rw [q2]; have q3 := hfin be le (by rw [show m.toNat ^ J = c by omega]; exact hbl); exact ⟨by omega, by omega, by omega⟩) | (have q1 : 0 < m.toNat ^ (gi s 5 0 - 1 - w).toNat := Nat.pow_pos (by omega); have q2 := hp12 _ ‹_›; rw [q2]; have q3 := hfin be le (by rw [show m.toNat ^ J = c by omega]; exact hbl); exact ⟨Int.ediv_nonneg q3.2.2.1 (by omega), by omega⟩)) (by intros; subst_vars; first | omega | exact Rel_KB hr | (have q := hp12 _ ‹_›; rw [q]; omega) | (have q := hp12 _ ‹_›; rw [q]; unfold rg; omega) | (have q := pw_bd (b := m.toNat) (k := (gi s 5 0 - 1 - w).toNat) (by omega) (by omega); have q1 : 0 < m.toNat ^ (gi s 5 0 - 1 - w).toNat := Nat.pow_pos (by omega); have q2 := hp12 _ ‹_›; rw [q2]; have q3 := hfin be le (by rw [show m.toNat ^ J = c by omega]; exact hbl); exact ⟨by omega, by omega, by omega⟩) | (have q1 : 0 < m.toNat ^ (gi s 5 0 - 1 - w).toNat := Nat.pow_pos (by omega); have q2 := hp12 _ ‹_›; rw [q2]; have q3 := hfin be le (by rw [show m.toNat ^ J = c by omega]; exact hbl); exact ⟨Int.ediv_nonneg q3.2.2.1 (by omega), by omega⟩)) (by intros; subst_vars; first | omega | exact Rel_KB hr | (have q := hp12 _ ‹_›; rw [q]; omega) | (have q := hp12 _ ‹_›; rw [q]; unfold rg; omega) | (have q := pw_bd (b := m.toNat) (k := (gi s 5 0 - 1 - w).toNat) (by omega) (by omega); have q1 : 0 < m.toNat ^ (gi s 5 0 - 1 - w).toNat := Nat.pow_pos (by omega); have q2 := hp12 _ ‹_›; rw [q2]; have q3 := hfin be le (by rw [show m.toNat ^ J = c by omega]; exact hbl); exact ⟨by omega, by omega, by omega⟩) | (have q1 : 0 < m.toNat ^ (gi s 5 0 - 1 - w).toNat := Nat.pow_pos (by omega); have q2 := hp12 _ ‹_›; rw [q2]; have q3 := hfin be le (by rw [show m.toNat ^ J = c by omega]; exact hbl); exact ⟨Int.ediv_nonneg q3.2.2.1 (by omega), by omega⟩)) (by intros; subst_vars; first | omega | exact Rel_KB hr | (have q := hp12 _ ‹_›; rw [q]; omega) | (have q := hp12 _ ‹_›; rw [q]; unfold rg; omega) | (have q := pw_bd (b := m.toNat) (k := (gi s 5 0 - 1 - w).toNat) (by omega) (by omega); have q1 : 0 < m.toNat ^ (gi s 5 0 - 1 - w).toNat := Nat.pow_pos (by omega); have q2 := hp12 _ ‹_›; rw [q2]; have q3 := hfin be le (by rw [show m.toNat ^ J = c by omega]; exact hbl); exact ⟨by omega, by omega, by omega⟩) | (have q1 : 0 < m.toNat ^ (gi s 5 0 - 1 - w).toNat := Nat.pow_pos (by omega); have q2 := hp12 _ ‹_›; rw [q2]; have q3 := hfin be le (by rw [show m.toNat ^ J = c by omega]; exact hbl); exact ⟨Int.ediv_nonneg q3.2.2.1 (by omega), by omega⟩)) (by intros; subst_vars; first | omega | exact Rel_KB hr | (have q := hp12 _ ‹_›; rw [q]; omega) | (have q := hp12 _ ‹_›; rw [q]; unfold rg; omega) | (have q := pw_bd (b := m.toNat) (k := (gi s 5 0 - 1 - w).toNat) (by omega) (by omega); have q1 : 0 < m.toNat ^ (gi s 5 0 - 1 - w).toNat := Nat.pow_pos (by omega); have q2 := hp12 _ ‹_›; rw [q2]; have q3 := hfin be le (by rw [show m.toNat ^ J = c by omega]; exact hbl); exact ⟨by omega, by omega, by omega⟩) | (have q1 : 0 < m.toNat ^ (gi s 5 0 - 1 - w).toNat := Nat.pow_pos (by omega); have q2 := hp12 _ ‹_›; rw [q2]; have q3 := hfin be le (by rw [show m.toNat ^ J = c by omega]; exact hbl); exact ⟨Int.ediv_nonneg q3.2.2.1 (by omega), by omega⟩)) (by intros; subst_vars; first | omega | exact Rel_KB hr | (have q := hp12 _ ‹_›; rw [q]; omega) | (have q := hp12 _ ‹_›; rw [q]; unfold rg; omega) | (have q := pw_bd (b := m.toNat) (k := (gi s 5 0 - 1 - w).toNat) (by omega) (by omega); have q1 : 0 < m.toNat ^ (gi s 5 0 - 1 - w).toNat := Nat.pow_pos (by omega); have q2 := hp12 _ ‹_›; rw [q2]; have q3 := hfin be le (by rw [show m.toNat ^ J = c by omega]; exact hbl); exact ⟨by omega, by omega, by omega⟩) | (have q1 : 0 < m.toNat ^ (gi s 5 0 - 1 - w).toNat := Nat.pow_pos (by omega); have q2 := hp12 _ ‹_›; rw [q2]; have q3 := hfin be le (by rw [show m.toNat ^ J = c by omega]; exact hbl); exact ⟨Int.ediv_nonneg q3.2.2.1 (by omega), by omega⟩)) (by intros; subst_vars; first | omega | exact Rel_KB hr | (have q := hp12 _ ‹_›; rw [q]; omega) | (have q := hp12 _ ‹_›; rw [q]; unfold rg; omega) | (have q := pw_bd (b := m.toNat) (k := (gi s 5 0 - 1 - w).toNat) (by omega) (by omega); have q1 : 0 < m.toNat ^ (gi s 5 0 - 1 - w).toNat := Nat.pow_pos (by omega); have q2 := hp12 _ ‹_›; rw [q2]; have q3 := hfin be le (by rw [show m.toNat ^ J = c by omega]; exact hbl); exact ⟨by omega, by omega, by omega⟩) | (have q1 : 0 < m.toNat ^ (gi s 5 0 - 1 - w).toNat := Nat.pow_pos (by omega); have q2 := hp12 _ ‹_›; rw [q2]; have q3 := hfin be le (by rw [show m.toNat ^ J = c by omega]; exact hbl); exact ⟨Int.ediv_nonneg q3.2.2.1 (by omega), by omega⟩)) (by intros; subst_vars; first | omega | exact Rel_KB hr | (have q := hp12 _ ‹_›; rw [q]; omega) | (have q := hp12 _ ‹_›; rw [q]; unfold rg; omega) | (have q := pw_bd (b := m.toNat) (k := (gi s 5 0 - 1 - w).toNat) (by omega) (by omega); have q1 : 0 < m.toNat ^ (gi s 5 0 - 1 - w).toNat := Nat.pow_pos (by omega); have q2 := hp12 _ ‹_›; rw [q2]; have q3 := hfin be le (by rw [show m.toNat ^ J = c by omega]; exact hbl); exact ⟨by omega, by omega, by omega⟩) | (have q1 : 0 < m.toNat ^ (gi s 5 0 - 1 - w).toNat := Nat.pow_pos (by omega); have q2 := hp12 _ ‹_›; rw [q2]; have q3 := hfin be le (by rw [show m.toNat ^ J = c by omega]; exact hbl); exact ⟨Int.ediv_nonneg q3.2.2.1 (by omega), by omega⟩)) ?_ ?_ ?_
      · intro x1 e1 hle s4 p hne x9 e9
        have q3 := hfin be le (by rw [show m.toNat ^ J = c by omega]; exact hbl)
        rw [e9, hp12 s4 p]
        exact ⟨q3.1 hne, Pl_rel2 hr p⟩
      · intro x1 e1 hle s4 p heq
        have q3 := hfin be le (by rw [show m.toNat ^ J = c by omega]; exact hbl)
        exact ⟨q3.2.1 heq, Pl_rel2 hr p⟩
      · intro x1 e1 hlt s13 l t15 e15
        have l' : Lt (si τ 85 2 0) s13 := by rw [si_self h2]; exact l
        have g := Lt_GP (m := 0) hr l' (V := wv s 40) (by rw [kf.V]; exact fun _ _ _ => rfl) (by omega)
        rw [kf.T] at g
        obtain ⟨l65, l66, l67, l68, l69, l70, l71, l72⟩ := l.2.2.2.2.2.2
        have k15 : kF s t15 := by rw [e15]; exact (kf.tr (kF.lt l)).si (by omega)
        have hset : ∀ a i, ¬ (a = 85 ∧ i = 71) → gi t15 a i = gi s13 a i := fun a i q => by rw [e15, gi_si, if_neg q]
        refine loopUp (N := J) (I := fun u => ∀ τ' : Mm, (∀ a i, a ≠ 123 → gi τ' a i = gi t15 a i) → (∀ x, x < u → gi τ' 123 x = ((c / m.toNat ^ (J - 1 - x) % m.toNat : Nat) : Int)) → R 238 74 [some (vr 85), some (vi m), some (vi w), some (vi be), some (vi le), some (vi (c : Int)), some (vi (u : Int))] [] (shF n) 0 0 τ' (Qi (shF n) (fun v' s' => v' = airV (vw s 5) (wv s 40) m.toNat w ∧ Rel xs N s'))) (fun u hu ihu => ?_) 0 (by omega) t15 (fun _ _ _ => rfl) (fun _ q => by omega)
        intro τ' fo fp
        have ho : ∀ a i, a ≠ 123 → ¬ (a = 85 ∧ i = 71) → gi τ' a i = gi s13 a i := fun a i p q => by rw [fo a i p, hset a i q]
        have k12 : gi τ' 85 12 = gi s 5 0 := by rw [ho 85 12 (by omega) (by omega), l.1 85 12 (by unfold hf; omega) (by omega)]; exact e12
        have k120 : gi τ' 120 0 = gi s 40 0 := by rw [ho 120 0 (by omega) (by omega), l.1 120 0 (by unfold hf; omega) (by omega), (Rel_w0 hr).1, kf 40 0 (Or.inl (by omega))]
        have k14 : gi τ' 85 14 = gi s 5 2 := by rw [ho 85 14 (by omega) (by omega), l.1 85 14 (by unfold hf; omega) (by omega), (Rel_cnt hr).2.2.2.2.2.2.2.1, kf 5 2 (Or.inl (by omega))]
        have kF' : kF s τ' := fun a i p => by
          by_cases e : a = 123
          · subst e
            rcases p with p | p
            · omega
            · simp [kpM, hT, hf] at p
          · rw [fo a i e]; exact k15 a i p
        have hq : ∀ mm : Int, 0 ≤ mm ∧ mm ≤ 200 → PlQ (vw s 5) (wv s 40) τ' mm := fun mm hmm => by
          obtain ⟨g1, g2, g3, g4, g5, g6, g7, g8, g9, g10⟩ := g
          refine ⟨hmm, g2, RB_eq (fun y p q => ho 85 y (by omega) (by omega)) (fun x y p q => ho x y (by omega) (by omega)) g3, ?_, g5, g6, ?_, g8, ?_, ?_, ?_, ?_⟩
          · obtain ⟨w1, w2, w3, w4, w5, w6, w7⟩ := g4
            refine ⟨?_, fun c hc => ?_, fun c hc => ?_, fun c hc => ?_, fun c hc => ?_, ?_, ?_⟩
            · rw [ho _ _ (by omega) (by omega)]; exact w1
            · rw [ho _ _ (by omega) (by omega)]; exact w2 c hc
            · rw [ho _ _ (by omega) (by omega), ho _ _ (by omega) (by omega), ho _ _ (by omega) (by omega)]; exact w3 c hc
            · rw [ho _ _ (by omega) (by omega), ho _ _ (by omega) (by omega), ho _ _ (by omega) (by omega), ho _ _ (by omega) (by omega)]; exact w4 c hc
            · rw [ho _ _ (by omega) (by omega)]; exact w5 c hc
            · rw [ho _ _ (by omega) (by omega)]; exact w6
            · rw [ho _ _ (by omega) (by omega)]; exact w7
          · rw [ho 85 68 (by omega) (by omega)]; exact l68
          · rw [ho 85 72 (by omega) (by omega)]; exact l72
          · rw [fo 85 71 (by omega), e15, gi_si, if_pos ⟨rfl, rfl⟩]
          · rw [ho 85 65 (by omega) (by omega)]; exact l65
          · rw [ho 85 67 (by omega) (by omega)]; exact l67
        have hsm : ∀ s11, PM (vw s 5) (wv s 40) ((7 - gi τ' 120 0 % 7) % 7 + 7 * (m - 1) + 1) τ' s11 → J ≤ u → sumF (fun q => cnt (bi (gi s11 119 (5 * 1 + q))) 10) (gi s11 85 14).toNat - sumF (fun q => cnt (bi (gi s11 119 (5 * 0 + q))) 10) (gi s11 85 14).toNat = S c := fun s11 pm hJu => by
          have e14 : gi s11 85 14 = gi s 5 2 := by rw [pm.1.1 85 14 (by unfold hf; omega) (by omega)]; exact k14
          have hn : ((7 - gi τ' 120 0 % 7) % 7 + 7 * (m - 1) + 1).toNat = d0 (wv s 40) + 7 * (m.toNat - 1) + 1 := by rw [k120]; exact dayn m1
          have hrw := pm.2
          rw [hn] at hrw
          rw [e14, sumF_sub]
          have key : sumF (fun q => cnt (bi (gi s11 119 (5 * 1 + q))) 10 - cnt (bi (gi s11 119 (5 * 0 + q))) 10) (gi s 5 2).toNat = dk (pD (vw s 5) (wv s 40) (plA (d0 (wv s 40)) (gi τ' 123)) (d0 (wv s 40) + 7 * (m.toNat - 1) + 1)) (wv s 40) (vw s 5 0 2).toNat := by
            unfold dk
            refine sumF_congr fun q hq => ?_
            have hq5 : q < 5 := by omega
            rw [(hrw.2.2.2.1 q hq5).2.2.2, show 5 * 0 + q = q by omega, pm.1.1 119 q (by unfold hf; omega) (by omega), ho 119 q (by omega) (by omega), l.1 119 q (by unfold hf; omega) (by omega), (Rel_w5 hr hq5).2.2.2.1, kf 48 q (Or.inl (by omega))]
            rfl
          rw [key, dk_sep hb hw huh, hS]
          unfold plS
          rw [show (vw s 5 0 0).toNat = J from (show (gi s 5 0).toNat = J by omega)]
          refine sumF_congr fun x hx => ?_
          rw [fp x (by omega), ← dk_ext c2]
          rfl
        have hpu := fun q : u < J => pw_bd (b := m.toNat) (k := J - 1 - u) (by omega) (by omega)
        have hpu0 : 0 < m.toNat ^ (J - 1 - u) := Nat.pow_pos (by omega)
        have hpe : u < J → (gi τ' 85 12 - 1 - (u : Int)).toNat = J - 1 - u := fun q => by rw [k12]; omega
        have hSb := fun s11 => sumF_bd (f := fun q => cnt (bi (gi s11 119 (5 * 1 + q))) 10) (B := 10) (k := (gi s11 85 14).toNat) (fun q _ => cnt_in _ _)
        have hSa := fun s11 => sumF_bd (f := fun q => cnt (bi (gi s11 119 (5 * 0 + q))) 10) (B := 10) (k := (gi s11 85 14).toNat) (fun q _ => cnt_in _ _)
        have h14 : ∀ s11 mm, PM (vw s 5) (wv s 40) mm τ' s11 → gi s11 85 14 = gi s 5 2 := fun s11 mm pm => by rw [pm.1.1 85 14 (by unfold hf; omega) (by omega)]; exact k14
        refine v_agR_74 (vw s 5) (wv s 40) m w be le c u (by intros; subst_vars; first | omega | (unfold rg; omega) | exact hq _ (by omega) | (have q := h14 _ _ ‹_›; omega) | (have q := h14 _ _ ‹_›; have q1 := hSb ‹_›; have q2 := hSa ‹_›; unfold rg; omega) | (rw [hpe (by omega)]; omega) | (rw [hpe (by omega)]; exact ⟨Int.ediv_nonneg (by omega) (by omega), by omega⟩)) (by intros; subst_vars; first | omega | (unfold rg; omega) | exact hq _ (by omega) | (have q := h14 _ _ ‹_›; omega) | (have q := h14 _ _ ‹_›; have q1 := hSb ‹_›; have q2 := hSa ‹_›; unfold rg; omega) | (rw [hpe (by omega)]; omega) | (rw [hpe (by omega)]; exact ⟨Int.ediv_nonneg (by omega) (by omega), by omega⟩)) (by intros; subst_vars; first | omega | (unfold rg; omega) | exact hq _ (by omega) | (have q := h14 _ _ ‹_›; omega) | (have q := h14 _ _ ‹_›; have q1 := hSb ‹_›; have q2 := hSa ‹_›; unfold rg; omega) | (rw [hpe (by omega)]; omega) | (rw [hpe (by omega)]; exact ⟨Int.ediv_nonneg (by omega) (by omega), by omega⟩)) (by intros; subst_vars; first | omega | (unfold rg; omega) | exact hq _ (by omega) | (have q := h14 _ _ ‹_›; omega) | (have q := h14 _ _ ‹_›; have q1 := hSb ‹_›; have q2 := hSa ‹_›; unfold rg; omega) | (rw [hpe (by omega)]; omega) | (rw [hpe (by omega)]; exact ⟨Int.ediv_nonneg (by omega) (by omega), by omega⟩)) (by intros; subst_vars; first | omega | (unfold rg; omega) | exact hq _ (by omega) | (have q := h14 _ _ ‹_›; omega) | (have q := h14 _ _ ‹_›; have q1 := hSb ‹_›; have q2 := hSa ‹_›; unfold rg; omega) | (rw [hpe (by omega)]; omega) | (rw [hpe (by omega)]; exact ⟨Int.ediv_nonneg (by omega) (by omega), by omega⟩)) (by intros; subst_vars; first | omega | (unfold rg; omega) | exact hq _ (by omega) | (have q := h14 _ _ ‹_›; omega) | (have q := h14 _ _ ‹_›; have q1 := hSb ‹_›; have q2 := hSa ‹_›; unfold rg; omega) | (rw [hpe (by omega)]; omega) | (rw [hpe (by omega)]; exact ⟨Int.ediv_nonneg (by omega) (by omega), by omega⟩)) (by intros; subst_vars; first | omega | (unfold rg; omega) | exact hq _ (by omega) | (have q := h14 _ _ ‹_›; omega) | (have q := h14 _ _ ‹_›; have q1 := hSb ‹_›; have q2 := hSa ‹_›; unfold rg; omega) | (rw [hpe (by omega)]; omega) | (rw [hpe (by omega)]; exact ⟨Int.ediv_nonneg (by omega) (by omega), by omega⟩)) (by intros; subst_vars; first | omega | (unfold rg; omega) | exact hq _ (by omega) | (have q := h14 _ _ ‹_›; omega) | (have q := h14 _ _ ‹_›; have q1 := hSb ‹_›; have q2 := hSa ‹_›; unfold rg; omega) | (rw [hpe (by omega)]; omega) | (rw [hpe (by omega)]; exact ⟨Int.ediv_nonneg (by omega) (by omega), by omega⟩)) (by intros; subst_vars; first | omega | (unfold rg; omega) | exact hq _ (by omega) | (have q := h14 _ _ ‹_›; omega) | (have q := h14 _ _ ‹_›; have q1 := hSb ‹_›; have q2 := hSa ‹_›; unfold rg; omega) | (rw [hpe (by omega)]; omega) | (rw [hpe (by omega)]; exact ⟨Int.ediv_nonneg (by omega) (by omega), by omega⟩)) (by intros; subst_vars; first | omega | (unfold rg; omega) | exact hq _ (by omega) | (have q := h14 _ _ ‹_›; omega) | (have q := h14 _ _ ‹_›; have q1 := hSb ‹_›; have q2 := hSa ‹_›; unfold rg; omega) | (rw [hpe (by omega)]; omega) | (rw [hpe (by omega)]; exact ⟨Int.ediv_nonneg (by omega) (by omega), by omega⟩)) (by intros; subst_vars; first | omega | (unfold rg; omega) | exact hq _ (by omega) | (have q := h14 _ _ ‹_›; omega) | (have q := h14 _ _ ‹_›; have q1 := hSb ‹_›; have q2 := hSa ‹_›; unfold rg; omega) | (rw [hpe (by omega)]; omega) | (rw [hpe (by omega)]; exact ⟨Int.ediv_nonneg (by omega) (by omega), by omega⟩)) (by intros; subst_vars; first | omega | (unfold rg; omega) | exact hq _ (by omega) | (have q := h14 _ _ ‹_›; omega) | (have q := h14 _ _ ‹_›; have q1 := hSb ‹_›; have q2 := hSa ‹_›; unfold rg; omega) | (rw [hpe (by omega)]; omega) | (rw [hpe (by omega)]; exact ⟨Int.ediv_nonneg (by omega) (by omega), by omega⟩)) (by intros; subst_vars; first | omega | (unfold rg; omega) | exact hq _ (by omega) | (have q := h14 _ _ ‹_›; omega) | (have q := h14 _ _ ‹_›; have q1 := hSb ‹_›; have q2 := hSa ‹_›; unfold rg; omega) | (rw [hpe (by omega)]; omega) | (rw [hpe (by omega)]; exact ⟨Int.ediv_nonneg (by omega) (by omega), by omega⟩)) (by intros; subst_vars; first | omega | (unfold rg; omega) | exact hq _ (by omega) | (have q := h14 _ _ ‹_›; omega) | (have q := h14 _ _ ‹_›; have q1 := hSb ‹_›; have q2 := hSa ‹_›; unfold rg; omega) | (rw [hpe (by omega)]; omega) | (rw [hpe (by omega)]; exact ⟨Int.ediv_nonneg (by omega) (by omega), by omega⟩)) (by intros; subst_vars; first | omega | (unfold rg; omega) | exact hq _ (by omega) | (have q := h14 _ _ ‹_›; omega) | (have q := h14 _ _ ‹_›; have q1 := hSb ‹_›; have q2 := hSa ‹_›; unfold rg; omega) | (rw [hpe (by omega)]; omega) | (rw [hpe (by omega)]; exact ⟨Int.ediv_nonneg (by omega) (by omega), by omega⟩)) (by intros; subst_vars; first | omega | (unfold rg; omega) | exact hq _ (by omega) | (have q := h14 _ _ ‹_›; omega) | (have q := h14 _ _ ‹_›; have q1 := hSb ‹_›; have q2 := hSa ‹_›; unfold rg; omega) | (rw [hpe (by omega)]; omega) | (rw [hpe (by omega)]; exact ⟨Int.ediv_nonneg (by omega) (by omega), by omega⟩)) (by intros; subst_vars; first | omega | (unfold rg; omega) | exact hq _ (by omega) | (have q := h14 _ _ ‹_›; omega) | (have q := h14 _ _ ‹_›; have q1 := hSb ‹_›; have q2 := hSa ‹_›; unfold rg; omega) | (rw [hpe (by omega)]; omega) | (rw [hpe (by omega)]; exact ⟨Int.ediv_nonneg (by omega) (by omega), by omega⟩)) (by intros; subst_vars; first | omega | (unfold rg; omega) | exact hq _ (by omega) | (have q := h14 _ _ ‹_›; omega) | (have q := h14 _ _ ‹_›; have q1 := hSb ‹_›; have q2 := hSa ‹_›; unfold rg; omega) | (rw [hpe (by omega)]; omega) | (rw [hpe (by omega)]; exact ⟨Int.ediv_nonneg (by omega) (by omega), by omega⟩)) (by intros; subst_vars; first | omega | (unfold rg; omega) | exact hq _ (by omega) | (have q := h14 _ _ ‹_›; omega) | (have q := h14 _ _ ‹_›; have q1 := hSb ‹_›; have q2 := hSa ‹_›; unfold rg; omega) | (rw [hpe (by omega)]; omega) | (rw [hpe (by omega)]; exact ⟨Int.ediv_nonneg (by omega) (by omega), by omega⟩)) (by intros; subst_vars; first | omega | (unfold rg; omega) | exact hq _ (by omega) | (have q := h14 _ _ ‹_›; omega) | (have q := h14 _ _ ‹_›; have q1 := hSb ‹_›; have q2 := hSa ‹_›; unfold rg; omega) | (rw [hpe (by omega)]; omega) | (rw [hpe (by omega)]; exact ⟨Int.ediv_nonneg (by omega) (by omega), by omega⟩)) (by intros; subst_vars; first | omega | (unfold rg; omega) | exact hq _ (by omega) | (have q := h14 _ _ ‹_›; omega) | (have q := h14 _ _ ‹_›; have q1 := hSb ‹_›; have q2 := hSa ‹_›; unfold rg; omega) | (rw [hpe (by omega)]; omega) | (rw [hpe (by omega)]; exact ⟨Int.ediv_nonneg (by omega) (by omega), by omega⟩)) (by intros; subst_vars; first | omega | (unfold rg; omega) | exact hq _ (by omega) | (have q := h14 _ _ ‹_›; omega) | (have q := h14 _ _ ‹_›; have q1 := hSb ‹_›; have q2 := hSa ‹_›; unfold rg; omega) | (rw [hpe (by omega)]; omega) | (rw [hpe (by omega)]; exact ⟨Int.ediv_nonneg (by omega) (by omega), by omega⟩)) (by intros; subst_vars; first | omega | (unfold rg; omega) | exact hq _ (by omega) | (have q := h14 _ _ ‹_›; omega) | (have q := h14 _ _ ‹_›; have q1 := hSb ‹_›; have q2 := hSa ‹_›; unfold rg; omega) | (rw [hpe (by omega)]; omega) | (rw [hpe (by omega)]; exact ⟨Int.ediv_nonneg (by omega) (by omega), by omega⟩)) (by intros; subst_vars; first | omega | (unfold rg; omega) | exact hq _ (by omega) | (have q := h14 _ _ ‹_›; omega) | (have q := h14 _ _ ‹_›; have q1 := hSb ‹_›; have q2 := hSa ‹_›; unfold rg; omega) | (rw [hpe (by omega)]; omega) | (rw [hpe (by omega)]; exact ⟨Int.ediv_nonneg (by omega) (by omega), by omega⟩)) ?_ ?_ ?_ ?_
        · intro hge x5 e5 s11 pm x13 e13 x14 e14 x16 e16 hlt0
          have hx : x16 = S c := by rw [e16, e13, e14]; exact hsm s11 (by rw [← e5]; exact pm) (by omega)
          have : c = 0 := by
            rcases hbl with ⟨-, -, z⟩ | ⟨b, q, -⟩
            · omega
            · omega
          refine R_eq (ih (by omega) (c : Int) x16 _ s11 (kF'.tr (kF.rg pm.1)) ?_ (Or.inr ⟨c, rfl, hx, by rw [this]; exact FM_1⟩)) rfl
          rw [pm.1.1 85 2 (by unfold hf; omega) (by omega), ho 85 2 (by omega) (by omega), l.1 85 2 (by unfold hf; omega) (by omega)]; exact h2
        · intro hge x5 e5 s11 pm x13 e13 x14 e14 x16 e16 hge0 hlt2
          have hx : x16 = S c := by rw [e16, e13, e14]; exact hsm s11 (by rw [← e5]; exact pm) (by omega)
          rcases hbl with ⟨q, -⟩ | ⟨b, rfl, rfl, hfm⟩
          · omega
          · refine R_eq (ih (by omega) (c : Int) x16 _ s11 (kF'.tr (kF.rg pm.1)) ?_ (Or.inr ⟨c, rfl, hx, FM_n hfm (by omega)⟩)) rfl
            rw [pm.1.1 85 2 (by unfold hf; omega) (by omega), ho 85 2 (by omega) (by omega), l.1 85 2 (by unfold hf; omega) (by omega)]; exact h2
        · intro hge x5 e5 s11 pm x13 e13 x14 e14 x16 e16 hge0 hle2
          have hx : x16 = S c := by rw [e16, e13, e14]; exact hsm s11 (by rw [← e5]; exact pm) (by omega)
          rcases hbl with ⟨q, -⟩ | ⟨b, rfl, rfl, hfm⟩
          · omega
          · refine R_eq (ih (by omega) (b : Int) (S b) _ s11 (kF'.tr (kF.rg pm.1)) ?_ (Or.inr ⟨b, rfl, rfl, FM_k hfm (by omega)⟩)) rfl
            rw [pm.1.1 85 2 (by unfold hf; omega) (by omega), ho 85 2 (by omega) (by omega), l.1 85 2 (by unfold hf; omega) (by omega)]; exact h2
        · intro hlt2 x24 e24 t28 e28
          refine R_eq (ihu (by omega) t28 (fun a i p => ?_) (fun x hx => ?_)) rfl
          · rw [e28, gi_ne p]; exact fo a i p
          · rw [e28, gi_si]
            by_cases e : x = u
            · rw [if_pos ⟨rfl, e⟩, e24, hpe (by omega), e]
              obtain ⟨mm, hmm⟩ : ∃ mm : Nat, m = (mm : Int) := ⟨m.toNat, by omega⟩
              rw [hmm, Int.toNat_natCast, Int.natCast_emod, Int.natCast_ediv]
            · rw [if_neg (by omega)]; exact fp x (by omega)
    · rw [ht]; exact (kF.rf s).si (by omega)
    · rw [ht, gi_si, if_pos ⟨rfl, rfl⟩]
  refine v_agR_0 m w ?_ ?_ ?_ ?_ ?_ ?_ ?_
  · intro t1 ht; intros; rw [ht]; exact ⟨by rw [if_neg (by omega)], Rel_th h⟩
  · intro t1 ht; intros; rw [ht]; exact ⟨by rw [if_neg (by omega)], Rel_th h⟩
  · intro t1 ht; intros; rw [ht]; exact ⟨by rw [if_neg (by omega)], Rel_th h⟩
  · intro t1 ht; intros; rw [ht]; exact ⟨by rw [if_neg (by omega)], Rel_th h⟩
  · intro t1 ht m1 m4 w0 w5 w5'
    exact main t1 ht m1 m4 w0 w5 (by omega)
  · intro t1 ht m1 m4 w0 w5 w5' wJ
    exact main t1 ht m1 m4 w0 w5 (by omega)
  · intro t1 ht m1 m4 w0 w5 w5' wJ
    rw [ht]
    refine ⟨?_, Rel_th h⟩
    rw [if_pos (by omega)]
    unfold airV
    rw [if_neg (by omega), if_pos (show vw s 5 0 0 ≤ w from (show gi s 5 0 ≤ w by omega))]
theorem v_ag_0 {n : Nat}  (m : Int) (w : Int) {σ : Mm} {P : Int → Mm → Prop} (o1 : (1 : Int) ≤ m → m ≤ (4 : Int) → (0 : Int) ≤ w → w ≤ (5 : Int) → w ≠ (5 : Int) → rg (w + 1)) (l1 : m < (1 : Int) → P (-1) σ) (l2 : (1 : Int) ≤ m → (4 : Int) < m → P (-1) σ) (l3 : (1 : Int) ≤ m → m ≤ (4 : Int) → w < (0 : Int) → P (-1) σ) (l4 : (1 : Int) ≤ m → m ≤ (4 : Int) → (0 : Int) ≤ w → w ≤ (5 : Int) → w ≠ (5 : Int) → ∀ x7 : Int, x7 = (if (w + 1) < (gi σ 5 0) then (w + 1) else (gi σ 5 0)) → R 123 79 [some (vr 3), some (vi m), some (vi w), some (vi 0), some (vi x7), some (vi (-2)), some (vi 0), some (vi w), none, none, none] [] (shF n) 0 0 σ (Qi (shF n) P)) (l5 : (1 : Int) ≤ m → m ≤ (4 : Int) → (0 : Int) ≤ w → w ≤ (5 : Int) → w = (5 : Int) → ∀ x8 : Int, x8 = gi σ 5 0 → R 123 79 [some (vr 3), some (vi m), some (vi w), some (vi 1), some (vi x8), some (vi (-2)), some (vi 0), some (vi 0), none, none, none] [] (shF n) 0 0 σ (Qi (shF n) P)) (l6 : (1 : Int) ≤ m → m ≤ (4 : Int) → (0 : Int) ≤ w → (5 : Int) < w → P (-1) σ) : Ci 123 [vr 3, vi m, vi w] (shF n) σ P :=
  show R 123 0 [some (vr 3), some (vi m), some (vi w), none, none, none, none, none, none, none, none] [] (shF n) 0 0 σ (Qi (shF n) P) from wpK_R 35 [79, 94] (And.intro (fun q1 => And.intro ret0 ⟨rfl, _, rfl, (l1 q1)⟩) (fun q1 => And.intro (fun q2 => And.intro ret0 ⟨rfl, _, rfl, (l2 (Int.not_lt.mp q1) q2)⟩) (fun q2 => And.intro (fun q3 => And.intro ret0 ⟨rfl, _, rfl, (l3 (Int.not_lt.mp q1) (Int.not_lt.mp q2) q3)⟩) (fun q3 => And.intro (fun q4 => And.intro (fun q5 => And.intro (fun _ => (have k6 := (o1 (Int.not_lt.mp q1) (Int.not_lt.mp q2) (Int.not_lt.mp q3) q4 q5); And.intro k6 (And.intro (fun _ => (l4 (Int.not_lt.mp q1) (Int.not_lt.mp q2) (Int.not_lt.mp q3) q4 q5 _ rfl)) (fun q => absurd (show (0 : Int) = 0 by decide) q)))) (fun q => absurd (show (0 : Int) = 0 by decide) q)) (fun q5 => And.intro (fun q => absurd q (show ¬ ((1 : Int) = 0) by decide)) (fun _ => And.intro (fun q => absurd q (show ¬ ((1 : Int) = 0) by decide)) (fun _ => (l5 (Int.not_lt.mp q1) (Int.not_lt.mp q2) (Int.not_lt.mp q3) q4 (Classical.not_not.mp q5) _ rfl))))) (fun q4 => And.intro ret0 ⟨rfl, _, rfl, (l6 (Int.not_lt.mp q1) (Int.not_lt.mp q2) (Int.not_lt.mp q3) (Int.not_le.mp q4))⟩)))))
theorem v_ag_79 {n : Nat}  (m : Nat) (w : Int) (al : Int) (en : Int) (be : Int) (su : Int) (u : Nat) (y : Option PV) (z : Option PV) (q : Option PV) {σ : Mm} {P : Int → Mm → Prop} (l1 : en ≤ (u : Int) → al = (0 : Int) → P be σ) (l2 : en ≤ (u : Int) → al ≠ (0 : Int) → P su σ) (l3 : (u : Int) < en → R 123 94 [some (vr 3), some (vi (m : Int)), some (vi w), some (vi al), some (vi en), some (vi be), some (vi su), some (vi (u : Int)), some (vi 2147483647), some (vi 0), q] [] (shF n) 0 0 σ (Qi (shF n) P)) : R 123 79 [some (vr 3), some (vi (m : Int)), some (vi w), some (vi al), some (vi en), some (vi be), some (vi su), some (vi (u : Int)), y, z, q] [] (shF n) 0 0 σ (Qi (shF n) P) :=
  wpK_R 8 [79, 94] (And.intro (fun q1 => And.intro (fun q2 => And.intro ret0 ⟨rfl, _, rfl, (l1 q1 q2)⟩) (fun q2 => And.intro ret0 ⟨rfl, _, rfl, (l2 q1 q2)⟩)) (fun q1 => (l3 (Int.not_le.mp q1))))
theorem v_ag_94 {n : Nat}  (m : Nat) (w : Int) (al : Int) (en : Int) (be : Int) (su : Int) (u : Nat) (le : Int) (mo : Nat) (q : Option PV) {σ : Mm} {P : Int → Mm → Prop} (o1 : (m : Int) ≤ (mo : Int) → rg (su + le)) (o2 : (m : Int) ≤ (mo : Int) → ∀ x3 : Int, x3 = su + le → rg ((u : Int) + 1)) (o3 : (mo : Int) < (m : Int) → Re σ) (o4 : (mo : Int) < (m : Int) → u < 5) (o5 : (mo : Int) < (m : Int) → mo < 4) (o6 : (mo : Int) < (m : Int) → ∀ x8 : Int, x8 = hB (vw σ 5) (wv σ 40) u mo → ∀ s6 : Mm, ScX σ s6 → le ≤ x8 → rg ((mo : Int) + 1)) (o7 : (mo : Int) < (m : Int) → ∀ x8 : Int, x8 = hB (vw σ 5) (wv σ 40) u mo → ∀ s6 : Mm, ScX σ s6 → x8 < le → rg ((mo : Int) + 1)) (l1 : (m : Int) ≤ (mo : Int) → ∀ x3 : Int, x3 = su + le → R 123 79 [some (vr 3), some (vi (m : Int)), some (vi w), some (vi al), some (vi en), some (vi be), some (vi x3), some (vi ((u : Int) + 1)), some (vi le), some (vi (mo : Int)), q] [] (shF n) 0 0 σ (Qi (shF n) P)) (l2 : (mo : Int) < (m : Int) → ∀ x8 : Int, x8 = hB (vw σ 5) (wv σ 40) u mo → ∀ s6 : Mm, ScX σ s6 → le ≤ x8 → R 123 94 [some (vr 3), some (vi (m : Int)), some (vi w), some (vi al), some (vi en), some (vi be), some (vi su), some (vi (u : Int)), some (vi le), some (vi ((mo : Int) + 1)), some (vi x8)] [] (shF n) 0 0 s6 (Qi (shF n) P)) (l3 : (mo : Int) < (m : Int) → ∀ x8 : Int, x8 = hB (vw σ 5) (wv σ 40) u mo → ∀ s6 : Mm, ScX σ s6 → x8 < le → R 123 94 [some (vr 3), some (vi (m : Int)), some (vi w), some (vi al), some (vi en), some (vi (mo : Int)), some (vi su), some (vi (u : Int)), some (vi x8), some (vi ((mo : Int) + 1)), some (vi x8)] [] (shF n) 0 0 s6 (Qi (shF n) P)) : R 123 94 [some (vr 3), some (vi (m : Int)), some (vi w), some (vi al), some (vi en), some (vi be), some (vi su), some (vi (u : Int)), some (vi le), some (vi (mo : Int)), q] [] (shF n) 0 0 σ (Qi (shF n) P) :=
  wpK_R 18 [79, 94] (And.intro (fun q1 => (have k2 := (o1 q1); And.intro k2 ((have k4 := (o2 q1 _ rfl); And.intro k4 ((l1 q1 _ rfl)))))) (fun q1 => (c_ho (u := u) (mo := mo) (o3 (Int.not_le.mp q1)) (o4 (Int.not_le.mp q1)) (o5 (Int.not_le.mp q1)) (fun s6 h7 => And.intro (fun q9 => (have k10 := (o6 (Int.not_le.mp q1) _ rfl s6 h7 q9); And.intro k10 ((l2 (Int.not_le.mp q1) _ rfl s6 h7 q9)))) (fun q9 => (have k11 := (o7 (Int.not_le.mp q1) _ rfl s6 h7 (Int.not_le.mp q9)); And.intro k11 ((l3 (Int.not_le.mp q1) _ rfl s6 h7 (Int.not_le.mp q9)))))))))
theorem q_airing {xs : Nat → Int} {N n : Nat} {σ : Mm} (h : Rel xs N σ) (m w : Int) : Bi xs N n 123 [vr 3, vi m, vi w] 238 [vr 85, vi m, vi w] σ := by
  obtain ⟨c0, c1, c2, c3, c5, d0', d1, d2, d3, -⟩ := Rel_cnt h
  have hno : ¬ ((1 ≤ m ∧ m ≤ 4) ∧ (0 ≤ w ∧ w ≤ 5)) → Ci 238 [vr 85, vi m, vi w] (shF n) σ (fun v' s' => v' = -1 ∧ Rel xs N s') := fun q => Ci_mono (r_airing h m w) fun v' s' p => ⟨by rw [p.1, if_neg q], p.2⟩
  have hend : ∀ (s : Mm) (v : Int), ScX σ s → (1 ≤ m ∧ m ≤ 4) ∧ (0 ≤ w ∧ w ≤ 5) → v = airV (vw σ 5) (wv σ 40) m.toNat w → Ci 238 [vr 85, vi m, vi w] (shF n) s (fun v' s' => v' = v ∧ Rel xs N s') := fun s v sc hin hv => by
    refine Ci_mono (r_airing (sc.rel h) m w) fun v' s' p => ⟨?_, p.2⟩
    rw [p.1, if_pos hin, sc.T, sc.V, hv]
  have inner : 1 ≤ m → m ≤ 4 → ∀ (al en be su : Int) (u : Nat) (q : Option PV) (τ : Mm), ScX σ τ → u < 5 → (-1000 ≤ su ∧ su ≤ 1000) → (∀ (τ' : Mm) (y z q : Option PV), ScX σ τ' → R 123 79 [some (vr 3), some (vi m), some (vi w), some (vi al), some (vi en), some (vi (am (hA (vw σ 5) (wv σ 40) m.toNat u) m.toNat : Nat)), some (vi (su + hA (vw σ 5) (wv σ 40) m.toNat u (am (hA (vw σ 5) (wv σ 40) m.toNat u) m.toNat))), some (vi ((u : Int) + 1)), y, z, q] [] (shF n) 0 0 τ' (Qi (shF n) (fun v s => Ci 238 [vr 85, vi m, vi w] (shF n) s (fun v' s' => v' = v ∧ Rel xs N s')))) → R 123 94 [some (vr 3), some (vi m), some (vi w), some (vi al), some (vi en), some (vi be), some (vi su), some (vi (u : Int)), some (vi 2147483647), some (vi 0), q] [] (shF n) 0 0 τ (Qi (shF n) (fun v s => Ci 238 [vr 85, vi m, vi w] (shF n) s (fun v' s' => v' = v ∧ Rel xs N s'))) := by
    intro m1 m4 al en be su u q τ sc hu hsu hnext
    obtain ⟨mm, hmm⟩ : ∃ mm : Nat, m = (mm : Int) := ⟨m.toNat, by omega⟩
    rw [hmm, Int.toNat_natCast] at hnext
    rw [hmm]
    obtain ⟨f, hf⟩ : ∃ f, f = hA (vw σ 5) (wv σ 40) mm u := ⟨_, rfl⟩
    have hfin : ∀ k, -50 ≤ f k ∧ f k ≤ 50 := fun k => by rw [hf]; exact hA_in
    rw [← hf] at hnext
    refine loopUp (N := mm) (I := fun k => ∀ (be le : Int) (q : Option PV) (τ : Mm), ScX σ τ → ((k = 0 ∧ le = 2147483647) ∨ (1 ≤ k ∧ le = f (am f k) ∧ be = (am f k : Nat))) → R 123 94 [some (vr 3), some (vi (mm : Int)), some (vi w), some (vi al), some (vi en), some (vi be), some (vi su), some (vi (u : Int)), some (vi le), some (vi (k : Int)), q] [] (shF n) 0 0 τ (Qi (shF n) (fun v s => Ci 238 [vr 85, vi (mm : Int), vi w] (shF n) s (fun v' s' => v' = v ∧ Rel xs N s')))) (fun k hk ih => ?_) 0 (by omega) be 2147483647 q τ sc (Or.inl ⟨rfl, rfl⟩)
    intro be le q τ sc hbl
    have hv : k < mm → hB (vw τ 5) (wv τ 40) u k = f k := fun z => by rw [sc.T, sc.V, hf, hA_cut h.2.2.2.2.1 h.2.2.2.2.2.2.1.1 z]
    have hfk := hfin k
    have hfa := hfin (am f k)
    refine v_ag_94 mm w al en be su u le k q (by intros; subst_vars; first | omega | exact ⟨xs, N, sc.rel h⟩ | (rcases hbl with z | z <;> (unfold rg; omega)) | (unfold rg; omega)) (by intros; subst_vars; first | omega | exact ⟨xs, N, sc.rel h⟩ | (rcases hbl with z | z <;> (unfold rg; omega)) | (unfold rg; omega)) (by intros; subst_vars; first | omega | exact ⟨xs, N, sc.rel h⟩ | (rcases hbl with z | z <;> (unfold rg; omega)) | (unfold rg; omega)) (by intros; subst_vars; first | omega | exact ⟨xs, N, sc.rel h⟩ | (rcases hbl with z | z <;> (unfold rg; omega)) | (unfold rg; omega)) (by intros; subst_vars; first | omega | exact ⟨xs, N, sc.rel h⟩ | (rcases hbl with z | z <;> (unfold rg; omega)) | (unfold rg; omega)) (by intros; subst_vars; first | omega | exact ⟨xs, N, sc.rel h⟩ | (rcases hbl with z | z <;> (unfold rg; omega)) | (unfold rg; omega)) (by intros; subst_vars; first | omega | exact ⟨xs, N, sc.rel h⟩ | (rcases hbl with z | z <;> (unfold rg; omega)) | (unfold rg; omega)) ?_ ?_ ?_
    · intro hge x3 e3
      rcases hbl with z | ⟨z1, z2, z3⟩
      · omega
      · have : k = mm := by omega
        subst this
        rw [e3, z2, z3]
        exact hnext τ _ _ _ sc
    · intro hlt x8 e8 s6 sc6 hle
      rw [hv (by omega)] at e8
      rcases hbl with z | ⟨z1, z2, z3⟩
      · omega
      · refine R_eq (ih (by omega) be le _ s6 (sc.tr sc6) (Or.inr ⟨by omega, ?_, ?_⟩)) rfl
        · rw [am_s z1, if_neg (by omega)]; exact z2
        · rw [am_s z1, if_neg (by omega)]; exact z3
    · intro hlt x8 e8 s6 sc6 hlt2
      rw [hv (by omega)] at e8
      refine R_eq (ih (by omega) (k : Int) x8 _ s6 (sc.tr sc6) (Or.inr ⟨by omega, ?_, ?_⟩)) rfl
      · rcases hbl with ⟨z, -⟩ | ⟨z1, z2, z3⟩
        · subst z; rw [e8]; rfl
        · rw [am_s z1, if_pos (by omega)]; exact e8
      · rcases hbl with ⟨z, -⟩ | ⟨z1, z2, z3⟩
        · subst z; rfl
        · rw [am_s z1, if_pos (by omega)]
  refine v_ag_0 m w (by intros; first | omega | (unfold rg; omega)) ?_ ?_ ?_ ?_ ?_ ?_
  · intros; exact hno (by omega)
  · intros; exact hno (by omega)
  · intros; exact hno (by omega)
  · intro m1 m4 w0 w5 wne x7 e7
    obtain ⟨mm, hmm⟩ : ∃ mm : Nat, m = (mm : Int) := ⟨m.toNat, by omega⟩
    obtain ⟨u, hu⟩ : ∃ u : Nat, w = (u : Int) := ⟨w.toNat, by omega⟩
    have st := fun (be su : Int) (u : Nat) (y z q : Option PV) (τ : Mm) => v_ag_79 (n := n) (σ := τ) (P := fun v s => Ci 238 [vr 85, vi m, vi w] (shF n) s (fun v' s' => v' = v ∧ Rel xs N s')) mm w 0 x7 be su u y z q
    rw [← hmm] at st
    by_cases hJ : gi σ 5 0 ≤ w
    · have hx : x7 = gi σ 5 0 := by rw [e7]; rw [if_neg (by omega)]
      have := st (-2) 0 u none none none σ (fun _ _ => hend σ _ (ScX.rf σ) (by omega) (by unfold airV; rw [if_neg wne, if_pos (show vw σ 5 0 0 ≤ w from hJ)])) (fun _ q => absurd rfl q) (fun q => by omega)
      rw [← hu] at this
      exact this
    · have hx : x7 = (u : Int) + 1 := by rw [e7]; split <;> omega
      have := st (-2) 0 u none none none σ (fun q _ => by omega) (fun _ q => absurd rfl q) (fun q => inner m1 m4 0 x7 (-2) 0 u none σ (ScX.rf σ) (by omega) (by omega) (fun τ' y z q' sc => by
        have e1 : ((u + 1 : Nat) : Int) = (u : Int) + 1 := rfl
        rw [← e1]
        refine st _ _ (u + 1) y z q' τ' (fun _ _ => hend τ' _ sc (by omega) ?_) (fun _ q => absurd rfl q) (fun q => by omega)
        unfold airV
        rw [if_neg wne, if_neg (show ¬ vw σ 5 0 0 ≤ w from hJ), hu, Int.toNat_natCast]))
      rw [← hu] at this
      exact this
  · intro m1 m4 w0 w5 weq x8 e8
    obtain ⟨mm, hmm⟩ : ∃ mm : Nat, m = (mm : Int) := ⟨m.toNat, by omega⟩
    have st := fun (be su : Int) (u : Nat) (y z q : Option PV) (τ : Mm) => v_ag_79 (n := n) (σ := τ) (P := fun v s => Ci 238 [vr 85, vi m, vi w] (shF n) s (fun v' s' => v' = v ∧ Rel xs N s')) mm w 1 x8 be su u y z q
    rw [← hmm] at st
    refine loopUp (N := (gi σ 5 0).toNat) (I := fun u => ∀ (be : Int) (y z q : Option PV) (τ : Mm), ScX σ τ → R 123 79 [some (vr 3), some (vi m), some (vi w), some (vi 1), some (vi x8), some (vi be), some (vi (sumF (fun u => hA (vw σ 5) (wv σ 40) m.toNat u (am (hA (vw σ 5) (wv σ 40) m.toNat u) m.toNat)) u)), some (vi (u : Int)), y, z, q] [] (shF n) 0 0 τ (Qi (shF n) (fun v s => Ci 238 [vr 85, vi m, vi w] (shF n) s (fun v' s' => v' = v ∧ Rel xs N s')))) (fun u hu ih => ?_) 0 (by omega) (-2) none none none σ (ScX.rf σ)
    intro be y z q τ sc
    have hin := aS_in (T := vw σ 5) (V := wv σ 40) (m := m.toNat) u
    refine st be _ u y z q τ (fun _ q => by omega) (fun hle _ => hend τ _ sc (by omega) ?_) (fun hlt => inner m1 m4 1 x8 be _ u q τ sc (by omega) (by omega) (fun τ' y z q' sc' => ih (by omega) _ y z q' τ' sc'))
    unfold airV
    rw [if_pos weq, show (vw σ 5 0 0).toNat = u from (show (gi σ 5 0).toNat = u by omega)]
  · intros; exact hno (by omega)
