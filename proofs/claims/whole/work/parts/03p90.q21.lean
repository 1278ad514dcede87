/-! QUERIES: ways, whose -/
theorem okC_iff {J : Nat} {fit : Nat → Nat → Bool} : ∀ (r k : Nat) (S : Nat → Bool) (c : Nat), okC J fit r k S c = true ↔ ∀ t, t < r → S (c / J ^ t % J) = false ∧ (∀ t', t' < t → c / J ^ t' % J ≠ c / J ^ t % J) ∧ fit (k + t) (c / J ^ t % J) = true := by
  intro r
  induction r with
  | zero => intro k S c; exact ⟨fun _ t ht => by omega, fun _ => rfl⟩
  | succ r ih =>
    intro k S c
    have hd : ∀ t, c / J / J ^ t = c / J ^ (t + 1) := fun t => by rw [Nat.div_div_eq_div_mul, Nat.pow_succ, Nat.mul_comm]
    have h0 : c / J ^ 0 % J = c % J := by rw [Nat.pow_zero, Nat.div_one]
    simp only [okC, Bool.and_eq_true, Bool.not_eq_true', ih]
    constructor
    · rintro ⟨⟨a1, a2⟩, a3⟩ t ht
      cases t with
      | zero => rw [h0]; exact ⟨a1, fun t' ht' => by omega, a2⟩
      | succ t =>
        obtain ⟨b1, b2, b3⟩ := a3 t (by omega)
        rw [hd] at b1 b2 b3
        rw [Bool.or_eq_false_iff] at b1
        refine ⟨b1.1, fun t' ht' => ?_, by rw [show k + (t + 1) = k + 1 + t by omega]; exact b3⟩
        cases t' with
        | zero => rw [h0]; exact fun e => (of_decide_eq_false b1.2) e.symm
        | succ t' => have := b2 t' (by omega); rw [hd] at this; exact this
    · intro h
      have z := h 0 (by omega)
      rw [h0] at z
      refine ⟨⟨z.1, z.2.2⟩, fun t ht => ?_⟩
      obtain ⟨b1, b2, b3⟩ := h (t + 1) (by omega)
      rw [hd]
      refine ⟨?_, fun t' ht' => by rw [hd]; exact b2 (t' + 1) (by omega), by rw [show k + 1 + t = k + (t + 1) by omega]; exact b3⟩
      rw [Bool.or_eq_false_iff]
      refine ⟨b1, decide_eq_false fun e => ?_⟩
      have := b2 0 (by omega)
      rw [h0] at this
      exact this e.symm
theorem Rel_FP {xs : Nat → Int} {N : Nat} {σ : Mm} (h : Rel xs N σ) : FP σ := by
  obtain ⟨f1, f2, f3, f4, f5⟩ := h.2.2.2.2.2.2.2.2.2.2.2.2.1
  have hb := h.2.2.2.2.1
  have hJ := hb.1
  have hC := hb.2.1
  exact ⟨f1, f3, fun i hi => (f5 i hi).imp (fun q => ⟨q.1, q.2.1⟩) (fun q => ⟨q.1, by omega, by omega⟩)⟩
theorem v_it_0 {n : Nat}  (c : Int) (u : Nat) {σ : Mm} {P : Int → Mm → Prop} (l1 : R 259 2 [some (vr 85), some (vi c), some (vi (u : Int)), some (vi 0)] [] (shF n) 0 0 σ (Qi (shF n) P)) : Ci 259 [vr 85, vi c, vi (u : Int)] (shF n) σ P :=
  show R 259 0 [some (vr 85), some (vi c), some (vi (u : Int)), none] [] (shF n) 0 0 σ (Qi (shF n) P) from wpK_R 3 [2] ((l1))
theorem v_it_L {n : Nat}  (c : Int) (u : Nat) (k : Nat) {σ : Mm} {P : Int → Mm → Prop} (o1 : (0 ≤ (u : Int) ∧ (u : Int) < 10)) (o2 : (k : Int) < (gi σ 113 u) → rg ((8 : Int) * (u : Int))) (o3 : (k : Int) < (gi σ 113 u) → rg (((8 : Int) * (u : Int)) + (k : Int))) (o4 : (k : Int) < (gi σ 113 u) → (0 ≤ (((8 : Int) * (u : Int)) + (k : Int)) ∧ (((8 : Int) * (u : Int)) + (k : Int)) < 80)) (o5 : (k : Int) < (gi σ 113 u) → (gi σ 114 ((8 * u) + k)) ≠ c → rg ((k : Int) + 1)) (l1 : (gi σ 113 u) ≤ (k : Int) → P 0 σ) (l2 : (k : Int) < (gi σ 113 u) → (gi σ 114 ((8 * u) + k)) ≠ c → R 259 2 [some (vr 85), some (vi c), some (vi (u : Int)), some (vi ((k : Int) + 1))] [] (shF n) 0 0 σ (Qi (shF n) P)) (l3 : (k : Int) < (gi σ 113 u) → (gi σ 114 ((8 * u) + k)) = c → P 1 σ) : R 259 2 [some (vr 85), some (vi c), some (vi (u : Int)), some (vi (k : Int))] [] (shF n) 0 0 σ (Qi (shF n) P) :=
  wpK_R 19 [2] ((have k1 := (o1); And.intro k1 (And.intro (fun q2 => And.intro ret0 (And.intro (Or.inl rfl) ⟨rfl, _, rfl, (l1 q2)⟩)) (fun q2 => (have k3 := (o2 (Int.not_le.mp q2)); And.intro k3 ((have k4 := (o3 (Int.not_le.mp q2)); And.intro k4 ((have k5 := (o4 (Int.not_le.mp q2)); And.intro k5 (And.intro (fun q6 => (have k7 := (o5 (Int.not_le.mp q2) q6); And.intro k7 ((l2 (Int.not_le.mp q2) q6)))) (fun q6 => And.intro ret0 (And.intro (Or.inr rfl) ⟨rfl, _, rfl, (l3 (Int.not_le.mp q2) (Classical.not_not.mp q6))⟩))))))))))))
theorem c_it {n u : Nat} {c : Int} {σ : Mm} {P : Int → Mm → Prop} (hu : u < 5) (hc : 0 ≤ c) (hs : 0 ≤ gi σ 113 u ∧ gi σ 113 u ≤ 8) (hP : P (b2i (lies (fun _ i => gi σ 114 i) u (gi σ 113 u) c.toNat)) σ) : Ci 259 [vr 85, vi c, vi (u : Int)] (shF n) σ P := by
  refine v_it_0 c u ?_
  refine loopUp (N := (gi σ 113 u).toNat) (I := fun k => lies (fun _ i => gi σ 114 i) u (k : Int) c.toNat = false → R 259 2 [some (vr 85), some (vi c), some (vi (u : Int)), some (vi (k : Int))] [] (shF n) 0 0 σ (Qi (shF n) P)) (fun k hk ih => ?_) 0 (by omega) lies_0
  intro hl
  refine v_it_L c u k (by intros; first | omega | (unfold rg; omega)) (by intros; first | omega | (unfold rg; omega)) (by intros; first | omega | (unfold rg; omega)) (by intros; first | omega | (unfold rg; omega)) (by intros; first | omega | (unfold rg; omega)) ?_ ?_ ?_
  · intro hge
    rw [show gi σ 113 u = (k : Int) by omega, hl] at hP
    exact hP
  · intro hlt hne
    refine R_eq (ih (by omega) ?_) rfl
    rw [show ((k + 1 : Nat) : Int) = (k : Int) + 1 from rfl, lies_s (by omega), hl, Bool.false_or]
    exact decide_eq_false (fun z => hne (by rw [show 8 * u + k = u * 8 + k by omega]; have z' : gi σ 114 (u * 8 + k) = (c.toNat : Int) := z; omega))
  · intro hlt he
    rw [show lies (fun _ i => gi σ 114 i) u (gi σ 113 u) c.toNat = true from lies_iff.mpr ⟨k, by omega, by omega, by show gi σ 114 (u * 8 + k) = _; rw [show u * 8 + k = 8 * u + k by omega]; omega⟩] at hP
    exact hP
theorem v_lc_0 {n : Nat}   {σ : Mm} {P : Mm → Prop} (l1 : R 261 2 [some (vr 85), some (vi 0)] [] (shF n) 0 0 σ (Qv (shF n) P)) : Cv 261 [vr 85] (shF n) σ P :=
  show R 261 0 [some (vr 85), none] [] (shF n) 0 0 σ (Qv (shF n) P) from wpK_R 3 [2, 30] ((l1))
theorem v_lc_2 {n : Nat}  (k : Nat) {σ : Mm} {P : Mm → Prop} (o1 : (0 : Int) ≤ (gi σ 85 77) → (gi σ 85 77) ≤ (k : Int) → (0 : Int) ≤ (gi σ 85 77) → rg ((gi σ 85 77) - 1)) (o2 : (0 : Int) ≤ (gi σ 85 77) → (gi σ 85 77) ≤ (k : Int) → (gi σ 85 77) < (0 : Int) → rg ((gi σ 85 76) - 1)) (o3 : (0 : Int) ≤ (gi σ 85 77) → (k : Int) < (gi σ 85 77) → (0 ≤ (k : Int) ∧ (k : Int) < 24)) (o4 : (0 : Int) ≤ (gi σ 85 77) → (k : Int) < (gi σ 85 77) → ∀ t9 : Mm, t9 = si σ 127 k (1 : Int) → rg ((k : Int) + 1)) (o5 : (gi σ 85 77) < (0 : Int) → (gi σ 85 76) ≤ (k : Int) → (0 : Int) ≤ (gi σ 85 77) → rg ((gi σ 85 77) - 1)) (o6 : (gi σ 85 77) < (0 : Int) → (gi σ 85 76) ≤ (k : Int) → (gi σ 85 77) < (0 : Int) → rg ((gi σ 85 76) - 1)) (o7 : (gi σ 85 77) < (0 : Int) → (k : Int) < (gi σ 85 76) → (0 ≤ (k : Int) ∧ (k : Int) < 24)) (o8 : (gi σ 85 77) < (0 : Int) → (k : Int) < (gi σ 85 76) → ∀ t18 : Mm, t18 = si σ 127 k (1 : Int) → rg ((k : Int) + 1)) (l1 : (0 : Int) ≤ (gi σ 85 77) → (gi σ 85 77) ≤ (k : Int) → (0 : Int) ≤ (gi σ 85 77) → ∀ x5 : Int, x5 = (gi σ 85 77) - 1 → R 261 30 [some (vr 85), some (vi x5)] [] (shF n) 0 0 σ (Qv (shF n) P)) (l2 : (0 : Int) ≤ (gi σ 85 77) → (gi σ 85 77) ≤ (k : Int) → (gi σ 85 77) < (0 : Int) → ∀ x7 : Int, x7 = (gi σ 85 76) - 1 → R 261 30 [some (vr 85), some (vi x7)] [] (shF n) 0 0 σ (Qv (shF n) P)) (l3 : (0 : Int) ≤ (gi σ 85 77) → (k : Int) < (gi σ 85 77) → ∀ t9 : Mm, t9 = si σ 127 k (1 : Int) → R 261 2 [some (vr 85), some (vi ((k : Int) + 1))] [] (shF n) 0 0 t9 (Qv (shF n) P)) (l4 : (gi σ 85 77) < (0 : Int) → (gi σ 85 76) ≤ (k : Int) → (0 : Int) ≤ (gi σ 85 77) → ∀ x14 : Int, x14 = (gi σ 85 77) - 1 → R 261 30 [some (vr 85), some (vi x14)] [] (shF n) 0 0 σ (Qv (shF n) P)) (l5 : (gi σ 85 77) < (0 : Int) → (gi σ 85 76) ≤ (k : Int) → (gi σ 85 77) < (0 : Int) → ∀ x16 : Int, x16 = (gi σ 85 76) - 1 → R 261 30 [some (vr 85), some (vi x16)] [] (shF n) 0 0 σ (Qv (shF n) P)) (l6 : (gi σ 85 77) < (0 : Int) → (k : Int) < (gi σ 85 76) → ∀ t18 : Mm, t18 = si σ 127 k (1 : Int) → R 261 2 [some (vr 85), some (vi ((k : Int) + 1))] [] (shF n) 0 0 t18 (Qv (shF n) P)) : R 261 2 [some (vr 85), some (vi (k : Int))] [] (shF n) 0 0 σ (Qv (shF n) P) :=
  wpK_R 12 [2, 30] ((show R 258 0 [some (vr 85)] [] (shF n) 0 0 _ _ from wpK_R 7 [] (And.intro (fun q1 => And.intro ret0 ⟨rfl, _, rfl, And.intro (fun q2 => (show R 258 0 [some (vr 85)] [] (shF n) 0 0 _ _ from wpK_R 7 [] (And.intro (fun q3 => And.intro ret0 ⟨rfl, _, rfl, (have k4 := (o1 q1 q2 q3); And.intro k4 ((l1 q1 q2 q3 _ rfl)))⟩) (fun q3 => And.intro ret0 ⟨rfl, _, rfl, (have k6 := (o2 q1 q2 (Int.not_le.mp q3)); And.intro k6 ((l2 q1 q2 (Int.not_le.mp q3) _ rfl)))⟩)))) (fun q2 => (have k8 := (o3 q1 (Int.not_le.mp q2)); And.intro k8 (And.intro (Or.inr rfl) ((have k10 := (o4 q1 (Int.not_le.mp q2) _ rfl); And.intro k10 ((l3 q1 (Int.not_le.mp q2) _ rfl)))))))⟩) (fun q1 => And.intro ret0 ⟨rfl, _, rfl, And.intro (fun q11 => (show R 258 0 [some (vr 85)] [] (shF n) 0 0 _ _ from wpK_R 7 [] (And.intro (fun q12 => And.intro ret0 ⟨rfl, _, rfl, (have k13 := (o5 (Int.not_le.mp q1) q11 q12); And.intro k13 ((l4 (Int.not_le.mp q1) q11 q12 _ rfl)))⟩) (fun q12 => And.intro ret0 ⟨rfl, _, rfl, (have k15 := (o6 (Int.not_le.mp q1) q11 (Int.not_le.mp q12)); And.intro k15 ((l5 (Int.not_le.mp q1) q11 (Int.not_le.mp q12) _ rfl)))⟩)))) (fun q11 => (have k17 := (o7 (Int.not_le.mp q1) (Int.not_le.mp q11)); And.intro k17 (And.intro (Or.inr rfl) ((have k19 := (o8 (Int.not_le.mp q1) (Int.not_le.mp q11) _ rfl); And.intro k19 ((l6 (Int.not_le.mp q1) (Int.not_le.mp q11) _ rfl)))))))⟩))))
theorem v_lc_30 {n : Nat}  (k : Int) {σ : Mm} {P : Mm → Prop} (o1 : (0 : Int) ≤ k → (0 ≤ k ∧ k < 24)) (o2 : (0 : Int) ≤ k → (gi σ 127 k.toNat) = (0 : Int) → rg (k + (-1))) (o3 : (0 : Int) ≤ k → (gi σ 127 k.toNat) ≠ (0 : Int) → rg ((3 : Int) * k)) (o4 : (0 : Int) ≤ k → (gi σ 127 k.toNat) ≠ (0 : Int) → (0 ≤ ((3 : Int) * k) ∧ ((3 : Int) * k) < 72)) (o5 : (0 : Int) ≤ k → (gi σ 127 k.toNat) ≠ (0 : Int) → (0 : Int) ≤ (gi σ 126 ((3 : Int) * k).toNat) → rg (k + (-1))) (o6 : (0 : Int) ≤ k → (gi σ 127 k.toNat) ≠ (0 : Int) → (gi σ 126 ((3 : Int) * k).toNat) < (0 : Int) → rg (((3 : Int) * k) + 1)) (o7 : (0 : Int) ≤ k → (gi σ 127 k.toNat) ≠ (0 : Int) → (gi σ 126 ((3 : Int) * k).toNat) < (0 : Int) → (0 ≤ (((3 : Int) * k) + 1) ∧ (((3 : Int) * k) + 1) < 72)) (o8 : (0 : Int) ≤ k → (gi σ 127 k.toNat) ≠ (0 : Int) → (gi σ 126 ((3 : Int) * k).toNat) < (0 : Int) → (0 ≤ (gi σ 126 (((3 : Int) * k) + 1).toNat) ∧ (gi σ 126 (((3 : Int) * k) + 1).toNat) < 24)) (o9 : (0 : Int) ≤ k → (gi σ 127 k.toNat) ≠ (0 : Int) → (gi σ 126 ((3 : Int) * k).toNat) < (0 : Int) → ∀ t14 : Mm, t14 = si σ 127 (gi σ 126 (((3 : Int) * k) + 1).toNat).toNat (0 : Int) → rg (k + (-1))) (l1 : k < (0 : Int) → P σ) (l2 : (0 : Int) ≤ k → (gi σ 127 k.toNat) = (0 : Int) → ∀ x5 : Int, x5 = k + (-1) → R 261 30 [some (vr 85), some (vi x5)] [] (shF n) 0 0 σ (Qv (shF n) P)) (l3 : (0 : Int) ≤ k → (gi σ 127 k.toNat) ≠ (0 : Int) → (0 : Int) ≤ (gi σ 126 ((3 : Int) * k).toNat) → ∀ x10 : Int, x10 = k + (-1) → R 261 30 [some (vr 85), some (vi x10)] [] (shF n) 0 0 σ (Qv (shF n) P)) (l4 : (0 : Int) ≤ k → (gi σ 127 k.toNat) ≠ (0 : Int) → (gi σ 126 ((3 : Int) * k).toNat) < (0 : Int) → ∀ t14 : Mm, t14 = si σ 127 (gi σ 126 (((3 : Int) * k) + 1).toNat).toNat (0 : Int) → ∀ x16 : Int, x16 = k + (-1) → R 261 30 [some (vr 85), some (vi x16)] [] (shF n) 0 0 t14 (Qv (shF n) P)) : R 261 30 [some (vr 85), some (vi k)] [] (shF n) 0 0 σ (Qv (shF n) P) :=
  wpK_R 29 [30] (And.intro (fun q1 => And.intro ret0 ⟨rfl, rfl, (l1 q1)⟩) (fun q1 => (have k2 := (o1 (Int.not_lt.mp q1)); And.intro k2 (And.intro (fun q3 => (have k4 := (o2 (Int.not_lt.mp q1) q3); And.intro k4 ((l2 (Int.not_lt.mp q1) q3 _ rfl)))) (fun q3 => (have k6 := (o3 (Int.not_lt.mp q1) q3); And.intro k6 ((have k7 := (o4 (Int.not_lt.mp q1) q3); And.intro k7 (And.intro (fun q8 => (have k9 := (o5 (Int.not_lt.mp q1) q3 q8); And.intro k9 ((l3 (Int.not_lt.mp q1) q3 q8 _ rfl)))) (fun q8 => And.intro k6 ((have k11 := (o6 (Int.not_lt.mp q1) q3 (Int.not_le.mp q8)); And.intro k11 ((have k12 := (o7 (Int.not_lt.mp q1) q3 (Int.not_le.mp q8)); And.intro k12 ((have k13 := (o8 (Int.not_lt.mp q1) q3 (Int.not_le.mp q8)); And.intro k13 (And.intro (Or.inl rfl) ((have k15 := (o9 (Int.not_lt.mp q1) q3 (Int.not_le.mp q8) _ rfl); And.intro k15 ((l4 (Int.not_lt.mp q1) q3 (Int.not_le.mp q8) _ rfl _ rfl)))))))))))))))))))))
def Lc (σ s : Mm) : Prop := (∀ a i, a ≠ 127 → gi s a i = gi σ a i) ∧ (∀ i, i < Kf σ → gi s 127 i = b2i (!skN (gi σ 78) (gi σ 76) (Kf σ) (Kf σ) i))
theorem c_lc {n : Nat} {T : Nat → Nat → Int} {σ : Mm} {P : Mm → Prop} (hf : FP σ) (rf : RelF T σ) (hP : ∀ s, Lc σ s → P s) : Cv 261 [vr 85] (shF n) σ P := by
  obtain ⟨K1, K2, K3⟩ := FP_K hf
  obtain ⟨r1, r2, r3, r4, r5⟩ := rf
  refine v_lc_0 ?_
  refine loopUp (N := Kf σ) (I := fun k => ∀ τ : Mm, (∀ a i, a ≠ 127 → gi τ a i = gi σ a i) → (∀ i, i < k → gi τ 127 i = 1) → R 261 2 [some (vr 85), some (vi (k : Int))] [] (shF n) 0 0 τ (Qv (shF n) P)) (fun k hk ih => ?_) 0 (by omega) σ (fun _ _ _ => rfl) (fun _ q => by omega)
  intro τ f1 f2
  have back : ∀ x4 : Int, x4 = (Kf σ : Int) - 1 → (Kf σ : Int) ≤ (k : Int) → R 261 30 [some (vr 85), some (vi x4)] [] (shF n) 0 0 τ (Qv (shF n) P) := fun x4 ex hkK => by
    have key := loopUp (N := Kf σ) (I := fun d => ∀ τ : Mm, (∀ a i, a ≠ 127 → gi τ a i = gi σ a i) → (∀ i, i < Kf σ → gi τ 127 i = b2i (!skN (gi σ 78) (gi σ 76) (Kf σ) d i)) → R 261 30 [some (vr 85), some (vi ((Kf σ : Int) - 1 - (d : Int)))] [] (shF n) 0 0 τ (Qv (shF n) P)) (fun d hd ih => ?_) 0 (by omega) τ f1 (fun i hi => by rw [f2 i (by omega)]; rfl)
    · rw [ex]
      exact R_eq key (by rw [show (Kf σ : Int) - 1 - ((0 : Nat) : Int) = (Kf σ : Int) - 1 by omega])
    · intro τ g1 g2
      obtain ⟨q, hq⟩ : ∃ q, q = Kf σ - 1 - d := ⟨_, rfl⟩
      have hqn : d < Kf σ → ((Kf σ : Int) - 1 - (d : Int)).toNat = q := fun _ => by omega
      have h3n : d < Kf σ → ((3 : Int) * ((Kf σ : Int) - 1 - (d : Int))).toNat = 3 * q := fun _ => by omega
      have h3m : d < Kf σ → ((3 : Int) * ((Kf σ : Int) - 1 - (d : Int)) + 1).toNat = 3 * q + 1 := fun _ => by omega
      have hfq := fun z : d < Kf σ => r5 q (by omega)
      have hlist : ∀ x : Int, x = (Kf σ : Int) - 1 - (d : Int) + -1 → (Kf σ : Int) - 1 - ((d + 1 : Nat) : Int) = x := fun x e => by omega
      have g126 : d < Kf σ → (gi τ 126 (3 * q) < 0 → gi σ 78 q = 2 ∧ gi τ 126 (3 * q + 1) = gi σ 76 q ∧ (0 ≤ gi σ 76 q ∧ gi σ 76 q < (q : Int))) ∧ (0 ≤ gi τ 126 (3 * q) → gi σ 78 q ≠ 2) := fun z => by
        have w := hfq z
        rw [g1 126 _ (by omega), g1 126 _ (by omega)]
        refine ⟨fun y => ?_, fun y => ?_⟩
        · rcases w with ⟨w1, w2, w3, w4⟩ | ⟨w1, w2, w3, w4, w5, w6⟩
          · exact ⟨w1, w4, w2⟩
          · omega
        · rcases w with ⟨w1, w2, w3, w4⟩ | ⟨w1, w2, w3, w4, w5, w6⟩ <;> omega
      refine v_lc_30 _ (by intros; first | omega | (unfold rg; omega) | (rw [h3m (by omega)]; (rw [h3n (by omega)] at *); have z := ((g126 (by omega)).1 (by omega)); omega)) (by intros; first | omega | (unfold rg; omega) | (rw [h3m (by omega)]; (rw [h3n (by omega)] at *); have z := ((g126 (by omega)).1 (by omega)); omega)) (by intros; first | omega | (unfold rg; omega) | (rw [h3m (by omega)]; (rw [h3n (by omega)] at *); have z := ((g126 (by omega)).1 (by omega)); omega)) (by intros; first | omega | (unfold rg; omega) | (rw [h3m (by omega)]; (rw [h3n (by omega)] at *); have z := ((g126 (by omega)).1 (by omega)); omega)) (by intros; first | omega | (unfold rg; omega) | (rw [h3m (by omega)]; (rw [h3n (by omega)] at *); have z := ((g126 (by omega)).1 (by omega)); omega)) (by intros; first | omega | (unfold rg; omega) | (rw [h3m (by omega)]; (rw [h3n (by omega)] at *); have z := ((g126 (by omega)).1 (by omega)); omega)) (by intros; first | omega | (unfold rg; omega) | (rw [h3m (by omega)]; (rw [h3n (by omega)] at *); have z := ((g126 (by omega)).1 (by omega)); omega)) (by intros; first | omega | (unfold rg; omega) | (rw [h3m (by omega)]; (rw [h3n (by omega)] at *); have z := ((g126 (by omega)).1 (by omega)); omega)) (by intros; first | omega | (unfold rg; omega) | (rw [h3m (by omega)]; (rw [h3n (by omega)] at *); have z := ((g126 (by omega)).1 (by omega)); omega)) ?_ ?_ ?_ ?_
      · intro hlt
        exact hP τ ⟨g1, fun i hi => by rw [g2 i hi, show d = Kf σ by omega]⟩
      · intro h0 hz x5 e5
        rw [hqn (by omega), g2 q (by omega)] at hz
        have hz := b2i_z hz
        refine R_eq (ih (by omega) τ g1 (fun i hi => ?_)) (by rw [hlist x5 e5])
        rw [g2 i hi]
        simp only [skN]
        rw [← hq, hz, Bool.and_false, Bool.false_and, Bool.or_false]
      · intro h0 hnz hpos x8 e8
        rw [h3n (by omega)] at hpos
        have hne := (g126 (by omega)).2 hpos
        refine R_eq (ih (by omega) τ g1 (fun i hi => ?_)) (by rw [hlist x8 e8])
        rw [g2 i hi]
        simp only [skN]
        rw [← hq, decide_eq_false hne, Bool.false_and, Bool.false_and, Bool.or_false]
      · intro h0 hnz hneg t10 e10 x12 e12
        rw [h3n (by omega)] at hneg
        rw [h3m (by omega)] at e10
        rw [hqn (by omega), g2 q (by omega)] at hnz
        have hnz := b2i_nz hnz
        obtain ⟨w1, w2, w3⟩ := (g126 (by omega)).1 hneg
        rw [w2] at e10
        refine R_eq (ih (by omega) t10 (fun a i p => by rw [e10, gi_ne p]; exact g1 a i p) (fun i hi => ?_)) (by rw [hlist x12 e12])
        rw [e10, gi_si, g2 i hi]
        simp only [skN]
        rw [← hq, hnz, decide_eq_true w1]
        by_cases w : i = (gi σ 76 q).toNat
        · rw [if_pos ⟨trivial, w⟩, decide_eq_true w]; simp [b2i]
        · rw [if_neg (fun y => w y.2), decide_eq_false w]; simp
  have e77 : gi τ 85 77 = gi σ 75 7 := by rw [f1 _ _ (by omega)]; omega
  have e76 : gi τ 85 76 = gi σ 75 6 := by rw [f1 _ _ (by omega)]; omega
  have hK7 : 0 ≤ gi σ 75 7 → (Kf σ : Int) = gi σ 75 7 := fun q => by rw [if_neg (by omega)] at K1; exact K1
  have hK6 : gi σ 75 7 < 0 → (Kf σ : Int) = gi σ 75 6 := fun q => by rw [if_pos (by omega)] at K1; exact K1
  have hstep : ∀ t8 : Mm, k < Kf σ → t8 = si τ 127 k 1 → R 261 2 [some (vr 85), some (vi ((k : Int) + 1))] [] (shF n) 0 0 t8 (Qv (shF n) P) := fun t8 hkk e8 => by
    refine R_eq (ih (by omega) t8 (fun a i p => by rw [e8, gi_ne p]; exact f1 a i p) (fun i hi => ?_)) rfl
    rw [e8, gi_si]
    by_cases e : i = k
    · rw [if_pos ⟨rfl, e⟩]
    · rw [if_neg (fun z => e z.2)]; exact f2 i (by omega)
  refine v_lc_2 k (by intros; first | omega | (unfold rg; omega)) (by intros; first | omega | (unfold rg; omega)) (by intros; first | omega | (unfold rg; omega)) (by intros; first | omega | (unfold rg; omega)) (by intros; first | omega | (unfold rg; omega)) (by intros; first | omega | (unfold rg; omega)) (by intros; first | omega | (unfold rg; omega)) (by intros; first | omega | (unfold rg; omega)) ?_ ?_ ?_ ?_ ?_ ?_
  · intro a b d x e; have := hK7 (by omega); exact back x (by omega) (by omega)
  · intros; exfalso; omega
  · intro a b t e; have := hK7 (by omega); exact hstep t (by omega) e
  · intros; exfalso; omega
  · intro a b d x e; have := hK6 (by omega); exact back x (by omega) (by omega)
  · intro a b t e; have := hK6 (by omega); exact hstep t (by omega) e
