/-! CALLS that change the state: keepIn, give -/
/-- the world invariant with who is kept in, or before whom a case comes, changed -/
theorem WI_k {T V V' : Nat → Nat → Int} (h : ∀ f i, ¬ (f = 0 ∧ i = 1) → f ≠ 1 → V' f i = V f i) (h1 : ∀ c : Nat, (c : Int) < T 0 1 → 0 ≤ V' 1 c ∧ V' 1 c < T 0 0) (hk : 0 ≤ V' 0 1 ∧ V' 0 1 < 32) (w : WI T V) : WI T V' := by
  obtain ⟨⟨s1, s2, s3, s4, s5⟩, w1, w2, w3, w4, w5, w6, w7, w8, w9, w10, w11, w12⟩ := w
  have e : ∀ f i, 2 ≤ f → V' f i = V f i := fun f i q => h f i (by omega) (by omega)
  refine ⟨⟨h1, fun j hj => by rw [e _ _ (by omega)]; exact s2 j hj, fun u hu => by rw [e _ _ (by omega)]; exact s3 u hu, fun u p hu hp => by rw [e _ _ (by omega)] at hp ⊢; exact s4 u p hu hp, by rw [h _ _ (by omega) (by omega)]; exact s5⟩, fun u p hu hp => ?_, fun u p u' p' hu hu' hp hp' => ?_, fun c hc => ?_, fun c hc => ?_, fun c hc hc' => ?_, fun j j' hj hj' he => ?_, fun u hu => ?_, fun k hk => ?_, fun u hu hu' => ?_, ?_, fun x hx => ?_, hk⟩
  · rw [e _ _ (by omega)] at hp; rw [e _ _ (by omega), e _ _ (by omega)]; exact w1 u p hu hp
  · rw [e _ _ (by omega)] at hp hp'; rw [e _ _ (by omega), e _ _ (by omega)]; exact w2 u p u' p' hu hu' hp hp'
  · rw [e _ _ (by omega), e _ _ (by omega)]; exact w3 c hc
  · rw [e _ _ (by omega), e _ _ (by omega)]; exact w4 c hc
  · rw [e _ _ (by omega)]; exact w5 c hc hc'
  · rw [e _ _ (by omega), e _ _ (by omega)] at he; exact w6 j j' hj hj' he
  · obtain ⟨j, hj, he⟩ := w7 u hu
    exact ⟨j, hj, by rw [e _ _ (by omega)]; exact he⟩
  · rw [e _ _ (by omega)]
    exact ⟨(w8 k hk).1, (w8 k hk).2.1, fun x hx hb => by rw [e _ _ (by omega)]; exact (w8 k hk).2.2 x hx hb⟩
  · rw [e _ _ (by omega)]; exact w9 u hu hu'
  · rw [sumF_congr (g := V 6) fun q _ => e 6 q (by omega), w10]; exact cnt_congr fun q _ => by rw [e _ _ (by omega)]
  · rw [e _ _ (by omega)]; exact w11 x hx
theorem RW_k {T V V' : Nat → Nat → Int} {σ s : Mm} (w : RW T V σ 0) (h : ∀ f i, ¬ (f = 0 ∧ i = 1) → f ≠ 1 → V' f i = V f i) (ho : ∀ x i, 111 ≤ x → x ≤ 122 → x ≠ 112 → x ≠ 115 → gi s x i = gi σ x i) (h112 : ∀ j, j < 5 → gi s 112 j = b2i (bi (V' 0 1) j)) (h115 : ∀ c : Nat, (c : Int) < T 0 1 → gi s 115 c = V' 1 c) : RW T V' s 0 := by
  obtain ⟨w1, w2, w3, w4, w5, w6, w7⟩ := w
  have e : ∀ f i, 2 ≤ f → V' f i = V f i := fun f i q => h f i (by omega) (by omega)
  simp only [Nat.mul_zero, Nat.zero_add] at w2 w3 w4 w5
  refine ⟨by rw [ho _ _ (by omega) (by omega) (by omega) (by omega), h 0 0 (by omega) (by omega)]; exact w1, fun c hc => ?_, fun c hc => ?_, fun j hj => ⟨?_, ?_, ?_, ?_⟩, fun i hi => ?_, ?_, ?_⟩
  · rw [Nat.mul_zero, Nat.zero_add]; exact h115 c hc
  · rw [ho _ _ (by omega) (by omega) (by omega) (by omega), ho _ _ (by omega) (by omega) (by omega) (by omega), ho _ _ (by omega) (by omega) (by omega) (by omega), e _ _ (by omega), e _ _ (by omega), e _ _ (by omega), Nat.mul_zero, Nat.zero_add]; exact w3 c hc
  · rw [ho _ _ (by omega) (by omega) (by omega) (by omega), e _ _ (by omega), Nat.mul_zero, Nat.zero_add]; exact (w4 j hj).1
  · rw [Nat.mul_zero, Nat.zero_add]; exact h112 j hj
  · rw [ho _ _ (by omega) (by omega) (by omega) (by omega), e _ _ (by omega), Nat.mul_zero, Nat.zero_add]; exact (w4 j hj).2.2.1
  · rw [ho _ _ (by omega) (by omega) (by omega) (by omega), e _ _ (by omega), Nat.mul_zero, Nat.zero_add]; exact (w4 j hj).2.2.2
  · rw [ho _ _ (by omega) (by omega) (by omega) (by omega), e _ _ (by omega), Nat.mul_zero, Nat.zero_add]; exact w5 i hi
  · rw [ho _ _ (by omega) (by omega) (by omega) (by omega), w6]; exact cnt_congr fun q _ => by rw [e _ _ (by omega)]
  · rw [ho _ _ (by omega) (by omega) (by omega) (by omega), w7]; exact cnt_congr fun q _ => by rw [e _ _ (by omega)]
theorem kept_all : ∀ k : Nat, k < 32 → ∀ u : Nat, u < 5 → (0 ≤ oor (k : Int) (oshl 1 (u : Int)) ∧ oor (k : Int) (oshl 1 (u : Int)) < 32) ∧ (0 ≤ oand (k : Int) (oxor (oshl 1 (u : Int)) (-1)) ∧ oand (k : Int) (oxor (oshl 1 (u : Int)) (-1)) < 32) ∧ (bi (k : Int) u = true → oor (oand (k : Int) (oxor (oshl 1 (u : Int)) (-1))) (oshl 1 (u : Int)) = (k : Int)) ∧ (bi (k : Int) u = false → oand (oor (k : Int) (oshl 1 (u : Int))) (oxor (oshl 1 (u : Int)) (-1)) = (k : Int)) := by decide +kernel
theorem v_ki {n : Nat}  (j : Int) (b : Int) {σ : Mm} {P : Int → Mm → Prop} (o1 : (0 : Int) ≤ j → j < (gi σ 5 0) → (0 ≤ j ∧ j < 5)) (o2 : (0 : Int) ≤ j → j < (gi σ 5 0) → ∀ x4 : Int, x4 = gi σ 45 j.toNat → (0 ≤ x4 ∧ x4 < 5)) (o3 : (0 : Int) ≤ j → j < (gi σ 5 0) → ∀ x4 : Int, x4 = gi σ 45 j.toNat → ∀ x5 : Int, x5 = b2i (bi (gi σ 40 1) x4.toNat) → x5 ≠ b → ∀ x7 : Int, x7 = oshl (1 : Int) x4 → b = (0 : Int) → ∀ t9 : Mm, t9 = si σ 40 1 (oand (gi σ 40 1) (oxor x7 (-1 : Int))) → rg ((gi σ 71 3) + (gi σ 71 4))) (o4 : (0 : Int) ≤ j → j < (gi σ 5 0) → ∀ x4 : Int, x4 = gi σ 45 j.toNat → ∀ x5 : Int, x5 = b2i (bi (gi σ 40 1) x4.toNat) → x5 ≠ b → ∀ x7 : Int, x7 = oshl (1 : Int) x4 → b = (0 : Int) → ∀ t9 : Mm, t9 = si σ 40 1 (oand (gi σ 40 1) (oxor x7 (-1 : Int))) → (0 ≤ ((gi σ 71 3) + (gi σ 71 4)) ∧ 0 < (20 : Int))) (o5 : (0 : Int) ≤ j → j < (gi σ 5 0) → ∀ x4 : Int, x4 = gi σ 45 j.toNat → ∀ x5 : Int, x5 = b2i (bi (gi σ 40 1) x4.toNat) → x5 ≠ b → ∀ x7 : Int, x7 = oshl (1 : Int) x4 → b = (0 : Int) → ∀ t9 : Mm, t9 = si σ 40 1 (oand (gi σ 40 1) (oxor x7 (-1 : Int))) → ∀ x12 : Int, x12 = ((gi σ 71 3) + (gi σ 71 4)) % (20 : Int) → (0 ≤ x12 ∧ x12 < 20)) (o6 : (0 : Int) ≤ j → j < (gi σ 5 0) → ∀ x4 : Int, x4 = gi σ 45 j.toNat → ∀ x5 : Int, x5 = b2i (bi (gi σ 40 1) x4.toNat) → x5 ≠ b → ∀ x7 : Int, x7 = oshl (1 : Int) x4 → b = (0 : Int) → ∀ t9 : Mm, t9 = si σ 40 1 (oand (gi σ 40 1) (oxor x7 (-1 : Int))) → ∀ x12 : Int, x12 = ((gi σ 71 3) + (gi σ 71 4)) % (20 : Int) → ∀ t14 : Mm, t14 = si t9 72 x12.toNat (1 : Int) → ∀ t15 : Mm, t15 = si t14 73 x12.toNat x4 → ∀ t16 : Mm, t16 = si t15 74 x12.toNat (0 : Int) → (20 : Int) ≤ (gi σ 71 4) → rg ((gi σ 71 3) + 1)) (o7 : (0 : Int) ≤ j → j < (gi σ 5 0) → ∀ x4 : Int, x4 = gi σ 45 j.toNat → ∀ x5 : Int, x5 = b2i (bi (gi σ 40 1) x4.toNat) → x5 ≠ b → ∀ x7 : Int, x7 = oshl (1 : Int) x4 → b = (0 : Int) → ∀ t9 : Mm, t9 = si σ 40 1 (oand (gi σ 40 1) (oxor x7 (-1 : Int))) → ∀ x12 : Int, x12 = ((gi σ 71 3) + (gi σ 71 4)) % (20 : Int) → ∀ t14 : Mm, t14 = si t9 72 x12.toNat (1 : Int) → ∀ t15 : Mm, t15 = si t14 73 x12.toNat x4 → ∀ t16 : Mm, t16 = si t15 74 x12.toNat (0 : Int) → (20 : Int) ≤ (gi σ 71 4) → (0 ≤ ((gi σ 71 3) + 1) ∧ 0 < (20 : Int))) (o8 : (0 : Int) ≤ j → j < (gi σ 5 0) → ∀ x4 : Int, x4 = gi σ 45 j.toNat → ∀ x5 : Int, x5 = b2i (bi (gi σ 40 1) x4.toNat) → x5 ≠ b → ∀ x7 : Int, x7 = oshl (1 : Int) x4 → b = (0 : Int) → ∀ t9 : Mm, t9 = si σ 40 1 (oand (gi σ 40 1) (oxor x7 (-1 : Int))) → ∀ x12 : Int, x12 = ((gi σ 71 3) + (gi σ 71 4)) % (20 : Int) → ∀ t14 : Mm, t14 = si t9 72 x12.toNat (1 : Int) → ∀ t15 : Mm, t15 = si t14 73 x12.toNat x4 → ∀ t16 : Mm, t16 = si t15 74 x12.toNat (0 : Int) → (gi σ 71 4) < (20 : Int) → rg ((gi σ 71 4) + 1)) (o9 : (0 : Int) ≤ j → j < (gi σ 5 0) → ∀ x4 : Int, x4 = gi σ 45 j.toNat → ∀ x5 : Int, x5 = b2i (bi (gi σ 40 1) x4.toNat) → x5 ≠ b → ∀ x7 : Int, x7 = oshl (1 : Int) x4 → b ≠ (0 : Int) → ∀ t23 : Mm, t23 = si σ 40 1 (oor (gi σ 40 1) x7) → rg ((gi σ 71 3) + (gi σ 71 4))) (o10 : (0 : Int) ≤ j → j < (gi σ 5 0) → ∀ x4 : Int, x4 = gi σ 45 j.toNat → ∀ x5 : Int, x5 = b2i (bi (gi σ 40 1) x4.toNat) → x5 ≠ b → ∀ x7 : Int, x7 = oshl (1 : Int) x4 → b ≠ (0 : Int) → ∀ t23 : Mm, t23 = si σ 40 1 (oor (gi σ 40 1) x7) → (0 ≤ ((gi σ 71 3) + (gi σ 71 4)) ∧ 0 < (20 : Int))) (o11 : (0 : Int) ≤ j → j < (gi σ 5 0) → ∀ x4 : Int, x4 = gi σ 45 j.toNat → ∀ x5 : Int, x5 = b2i (bi (gi σ 40 1) x4.toNat) → x5 ≠ b → ∀ x7 : Int, x7 = oshl (1 : Int) x4 → b ≠ (0 : Int) → ∀ t23 : Mm, t23 = si σ 40 1 (oor (gi σ 40 1) x7) → ∀ x26 : Int, x26 = ((gi σ 71 3) + (gi σ 71 4)) % (20 : Int) → (0 ≤ x26 ∧ x26 < 20)) (o12 : (0 : Int) ≤ j → j < (gi σ 5 0) → ∀ x4 : Int, x4 = gi σ 45 j.toNat → ∀ x5 : Int, x5 = b2i (bi (gi σ 40 1) x4.toNat) → x5 ≠ b → ∀ x7 : Int, x7 = oshl (1 : Int) x4 → b ≠ (0 : Int) → ∀ t23 : Mm, t23 = si σ 40 1 (oor (gi σ 40 1) x7) → ∀ x26 : Int, x26 = ((gi σ 71 3) + (gi σ 71 4)) % (20 : Int) → ∀ t28 : Mm, t28 = si t23 72 x26.toNat (1 : Int) → ∀ t29 : Mm, t29 = si t28 73 x26.toNat x4 → ∀ t30 : Mm, t30 = si t29 74 x26.toNat (0 : Int) → (20 : Int) ≤ (gi σ 71 4) → rg ((gi σ 71 3) + 1)) (o13 : (0 : Int) ≤ j → j < (gi σ 5 0) → ∀ x4 : Int, x4 = gi σ 45 j.toNat → ∀ x5 : Int, x5 = b2i (bi (gi σ 40 1) x4.toNat) → x5 ≠ b → ∀ x7 : Int, x7 = oshl (1 : Int) x4 → b ≠ (0 : Int) → ∀ t23 : Mm, t23 = si σ 40 1 (oor (gi σ 40 1) x7) → ∀ x26 : Int, x26 = ((gi σ 71 3) + (gi σ 71 4)) % (20 : Int) → ∀ t28 : Mm, t28 = si t23 72 x26.toNat (1 : Int) → ∀ t29 : Mm, t29 = si t28 73 x26.toNat x4 → ∀ t30 : Mm, t30 = si t29 74 x26.toNat (0 : Int) → (20 : Int) ≤ (gi σ 71 4) → (0 ≤ ((gi σ 71 3) + 1) ∧ 0 < (20 : Int))) (o14 : (0 : Int) ≤ j → j < (gi σ 5 0) → ∀ x4 : Int, x4 = gi σ 45 j.toNat → ∀ x5 : Int, x5 = b2i (bi (gi σ 40 1) x4.toNat) → x5 ≠ b → ∀ x7 : Int, x7 = oshl (1 : Int) x4 → b ≠ (0 : Int) → ∀ t23 : Mm, t23 = si σ 40 1 (oor (gi σ 40 1) x7) → ∀ x26 : Int, x26 = ((gi σ 71 3) + (gi σ 71 4)) % (20 : Int) → ∀ t28 : Mm, t28 = si t23 72 x26.toNat (1 : Int) → ∀ t29 : Mm, t29 = si t28 73 x26.toNat x4 → ∀ t30 : Mm, t30 = si t29 74 x26.toNat (0 : Int) → (gi σ 71 4) < (20 : Int) → rg ((gi σ 71 4) + 1)) (l1 : j < (0 : Int) → P 0 σ) (l2 : (0 : Int) ≤ j → (gi σ 5 0) ≤ j → P 0 σ) (l3 : (0 : Int) ≤ j → j < (gi σ 5 0) → ∀ x4 : Int, x4 = gi σ 45 j.toNat → ∀ x5 : Int, x5 = b2i (bi (gi σ 40 1) x4.toNat) → x5 ≠ b → ∀ x7 : Int, x7 = oshl (1 : Int) x4 → b = (0 : Int) → ∀ t9 : Mm, t9 = si σ 40 1 (oand (gi σ 40 1) (oxor x7 (-1 : Int))) → ∀ x12 : Int, x12 = ((gi σ 71 3) + (gi σ 71 4)) % (20 : Int) → ∀ t14 : Mm, t14 = si t9 72 x12.toNat (1 : Int) → ∀ t15 : Mm, t15 = si t14 73 x12.toNat x4 → ∀ t16 : Mm, t16 = si t15 74 x12.toNat (0 : Int) → (20 : Int) ≤ (gi σ 71 4) → ∀ t20 : Mm, t20 = si t16 71 3 (((gi σ 71 3) + 1) % (20 : Int)) → P 1 t20) (l4 : (0 : Int) ≤ j → j < (gi σ 5 0) → ∀ x4 : Int, x4 = gi σ 45 j.toNat → ∀ x5 : Int, x5 = b2i (bi (gi σ 40 1) x4.toNat) → x5 ≠ b → ∀ x7 : Int, x7 = oshl (1 : Int) x4 → b = (0 : Int) → ∀ t9 : Mm, t9 = si σ 40 1 (oand (gi σ 40 1) (oxor x7 (-1 : Int))) → ∀ x12 : Int, x12 = ((gi σ 71 3) + (gi σ 71 4)) % (20 : Int) → ∀ t14 : Mm, t14 = si t9 72 x12.toNat (1 : Int) → ∀ t15 : Mm, t15 = si t14 73 x12.toNat x4 → ∀ t16 : Mm, t16 = si t15 74 x12.toNat (0 : Int) → (gi σ 71 4) < (20 : Int) → ∀ t22 : Mm, t22 = si t16 71 4 ((gi σ 71 4) + 1) → P 1 t22) (l5 : (0 : Int) ≤ j → j < (gi σ 5 0) → ∀ x4 : Int, x4 = gi σ 45 j.toNat → ∀ x5 : Int, x5 = b2i (bi (gi σ 40 1) x4.toNat) → x5 ≠ b → ∀ x7 : Int, x7 = oshl (1 : Int) x4 → b ≠ (0 : Int) → ∀ t23 : Mm, t23 = si σ 40 1 (oor (gi σ 40 1) x7) → ∀ x26 : Int, x26 = ((gi σ 71 3) + (gi σ 71 4)) % (20 : Int) → ∀ t28 : Mm, t28 = si t23 72 x26.toNat (1 : Int) → ∀ t29 : Mm, t29 = si t28 73 x26.toNat x4 → ∀ t30 : Mm, t30 = si t29 74 x26.toNat (0 : Int) → (20 : Int) ≤ (gi σ 71 4) → ∀ t34 : Mm, t34 = si t30 71 3 (((gi σ 71 3) + 1) % (20 : Int)) → P 1 t34) (l6 : (0 : Int) ≤ j → j < (gi σ 5 0) → ∀ x4 : Int, x4 = gi σ 45 j.toNat → ∀ x5 : Int, x5 = b2i (bi (gi σ 40 1) x4.toNat) → x5 ≠ b → ∀ x7 : Int, x7 = oshl (1 : Int) x4 → b ≠ (0 : Int) → ∀ t23 : Mm, t23 = si σ 40 1 (oor (gi σ 40 1) x7) → ∀ x26 : Int, x26 = ((gi σ 71 3) + (gi σ 71 4)) % (20 : Int) → ∀ t28 : Mm, t28 = si t23 72 x26.toNat (1 : Int) → ∀ t29 : Mm, t29 = si t28 73 x26.toNat x4 → ∀ t30 : Mm, t30 = si t29 74 x26.toNat (0 : Int) → (gi σ 71 4) < (20 : Int) → ∀ t36 : Mm, t36 = si t30 71 4 ((gi σ 71 4) + 1) → P 1 t36) (l7 : (0 : Int) ≤ j → j < (gi σ 5 0) → ∀ x4 : Int, x4 = gi σ 45 j.toNat → ∀ x5 : Int, x5 = b2i (bi (gi σ 40 1) x4.toNat) → x5 = b → P 0 σ) : Ci 115 [vr 3, vi j, vi b] (shF n) σ P :=
  show R 115 0 [some (vr 3), some (vi j), some (vi b), none] [] (shF n) 0 0 σ (Qi (shF n) P) from wpK_R 29 [] ((show R 103 0 [some (vr 3), _] [] (shF n) 0 0 _ _ from wpK_R 10 [] (And.intro (fun q1 => And.intro ret0 (And.intro (Or.inl rfl) ⟨rfl, _, rfl, And.intro (fun q => absurd q (show ¬ ((0 : Int) ≠ 0) by decide)) (fun _ => And.intro ret0 (And.intro (Or.inl rfl) ⟨rfl, _, rfl, (l1 q1)⟩))⟩)) (fun q1 => And.intro (fun q2 => And.intro ret0 (And.intro (Or.inl rfl) ⟨rfl, _, rfl, And.intro (fun q => absurd q (show ¬ ((0 : Int) ≠ 0) by decide)) (fun _ => And.intro ret0 (And.intro (Or.inl rfl) ⟨rfl, _, rfl, (l2 (Int.not_lt.mp q1) q2)⟩))⟩)) (fun q2 => And.intro ret0 (And.intro (Or.inr rfl) ⟨rfl, _, rfl, And.intro (fun _ => (have k3 := (o1 (Int.not_lt.mp q1) (Int.not_le.mp q2)); And.intro k3 ((c_kept_40  (o2 (Int.not_lt.mp q1) (Int.not_le.mp q2) _ rfl) (And.intro (fun q6 => (show R 85 0 [some (vr 40), _, _, none] [] (shF n) 0 0 _ _ from wpK_R 15 [] (And.intro (fun q8 => And.intro ret0 ⟨rfl, rfl, (show R 13 0 [some (vr 71), some (vi 1), _, some (vi 0), none] [] (shF n) 0 0 _ _ from wpK_R 36 [] ((have k10 := (o3 (Int.not_lt.mp q1) (Int.not_le.mp q2) _ rfl _ rfl q6 _ rfl q8 _ rfl); And.intro k10 ((have k11 := (o4 (Int.not_lt.mp q1) (Int.not_le.mp q2) _ rfl _ rfl q6 _ rfl q8 _ rfl); And.intro k11 ((have k13 := (o5 (Int.not_lt.mp q1) (Int.not_le.mp q2) _ rfl _ rfl q6 _ rfl q8 _ rfl _ rfl); And.intro k13 (And.intro k13 (And.intro k13 (And.intro (fun q17 => (have k18 := (o6 (Int.not_lt.mp q1) (Int.not_le.mp q2) _ rfl _ rfl q6 _ rfl q8 _ rfl _ rfl _ rfl _ rfl _ rfl q17); And.intro k18 ((have k19 := (o7 (Int.not_lt.mp q1) (Int.not_le.mp q2) _ rfl _ rfl q6 _ rfl q8 _ rfl _ rfl _ rfl _ rfl _ rfl q17); And.intro k19 (And.intro ret0 ⟨rfl, rfl, And.intro ret0 (And.intro (Or.inr rfl) ⟨rfl, _, rfl, (l3 (Int.not_lt.mp q1) (Int.not_le.mp q2) _ rfl _ rfl q6 _ rfl q8 _ rfl _ rfl _ rfl _ rfl _ rfl q17 _ rfl)⟩)⟩))))) (fun q17 => (have k21 := (o8 (Int.not_lt.mp q1) (Int.not_le.mp q2) _ rfl _ rfl q6 _ rfl q8 _ rfl _ rfl _ rfl _ rfl _ rfl (Int.not_le.mp q17)); And.intro k21 (And.intro ret0 ⟨rfl, rfl, And.intro ret0 (And.intro (Or.inr rfl) ⟨rfl, _, rfl, (l4 (Int.not_lt.mp q1) (Int.not_le.mp q2) _ rfl _ rfl q6 _ rfl q8 _ rfl _ rfl _ rfl _ rfl _ rfl (Int.not_le.mp q17) _ rfl)⟩)⟩)))))))))))))⟩) (fun q8 => And.intro ret0 ⟨rfl, rfl, (show R 13 0 [some (vr 71), some (vi 1), _, some (vi 0), none] [] (shF n) 0 0 _ _ from wpK_R 36 [] ((have k24 := (o9 (Int.not_lt.mp q1) (Int.not_le.mp q2) _ rfl _ rfl q6 _ rfl q8 _ rfl); And.intro k24 ((have k25 := (o10 (Int.not_lt.mp q1) (Int.not_le.mp q2) _ rfl _ rfl q6 _ rfl q8 _ rfl); And.intro k25 ((have k27 := (o11 (Int.not_lt.mp q1) (Int.not_le.mp q2) _ rfl _ rfl q6 _ rfl q8 _ rfl _ rfl); And.intro k27 (And.intro k27 (And.intro k27 (And.intro (fun q31 => (have k32 := (o12 (Int.not_lt.mp q1) (Int.not_le.mp q2) _ rfl _ rfl q6 _ rfl q8 _ rfl _ rfl _ rfl _ rfl _ rfl q31); And.intro k32 ((have k33 := (o13 (Int.not_lt.mp q1) (Int.not_le.mp q2) _ rfl _ rfl q6 _ rfl q8 _ rfl _ rfl _ rfl _ rfl _ rfl q31); And.intro k33 (And.intro ret0 ⟨rfl, rfl, And.intro ret0 (And.intro (Or.inr rfl) ⟨rfl, _, rfl, (l5 (Int.not_lt.mp q1) (Int.not_le.mp q2) _ rfl _ rfl q6 _ rfl q8 _ rfl _ rfl _ rfl _ rfl _ rfl q31 _ rfl)⟩)⟩))))) (fun q31 => (have k35 := (o14 (Int.not_lt.mp q1) (Int.not_le.mp q2) _ rfl _ rfl q6 _ rfl q8 _ rfl _ rfl _ rfl _ rfl _ rfl (Int.not_le.mp q31)); And.intro k35 (And.intro ret0 ⟨rfl, rfl, And.intro ret0 (And.intro (Or.inr rfl) ⟨rfl, _, rfl, (l6 (Int.not_lt.mp q1) (Int.not_le.mp q2) _ rfl _ rfl q6 _ rfl q8 _ rfl _ rfl _ rfl _ rfl _ rfl (Int.not_le.mp q31) _ rfl)⟩)⟩)))))))))))))⟩)))) (fun q6 => And.intro ret0 (And.intro (Or.inl rfl) ⟨rfl, _, rfl, (l7 (Int.not_lt.mp q1) (Int.not_le.mp q2) _ rfl _ rfl (Classical.not_not.mp q6))⟩))))))) (fun q => absurd (show (1 : Int) ≠ 0 by decide) q)⟩))))))
theorem v_kiR {n : Nat}  (j : Int) (b : Int) {σ : Mm} {P : Int → Mm → Prop} (o1 : ∀ t1 : Mm, t1 = si σ 85 2 (0 : Int) → (0 : Int) ≤ j → j < (gi σ 85 12) → (0 ≤ j ∧ j < 10)) (o2 : ∀ t1 : Mm, t1 = si σ 85 2 (0 : Int) → (0 : Int) ≤ j → j < (gi σ 85 12) → (0 ≤ (gi σ 111 j.toNat) ∧ (gi σ 111 j.toNat) < 10)) (o3 : ∀ t1 : Mm, t1 = si σ 85 2 (0 : Int) → (0 : Int) ≤ j → j < (gi σ 85 12) → (gi σ 112 (gi σ 111 j.toNat).toNat) ≠ b → KB t1) (o4 : ∀ t1 : Mm, t1 = si σ 85 2 (0 : Int) → (0 : Int) ≤ j → j < (gi σ 85 12) → (gi σ 112 (gi σ 111 j.toNat).toNat) ≠ b → (0 ≤ gi t1 85 82 ∧ gi t1 85 82 ≤ 20)) (o5 : ∀ t1 : Mm, t1 = si σ 85 2 (0 : Int) → (0 : Int) ≤ j → j < (gi σ 85 12) → (gi σ 112 (gi σ 111 j.toNat).toNat) ≠ b → ∀ s8 : Mm, Rm t1 s8 → (0 ≤ (gi s8 111 j.toNat) ∧ (gi s8 111 j.toNat) < 10)) (o6 : ∀ t1 : Mm, t1 = si σ 85 2 (0 : Int) → (0 : Int) ≤ j → j < (gi σ 85 12) → (gi σ 112 (gi σ 111 j.toNat).toNat) ≠ b → ∀ s8 : Mm, Rm t1 s8 → (b = 0 ∨ b = 1)) (l1 : ∀ t1 : Mm, t1 = si σ 85 2 (0 : Int) → j < (0 : Int) → P 0 t1) (l2 : ∀ t1 : Mm, t1 = si σ 85 2 (0 : Int) → (0 : Int) ≤ j → (gi σ 85 12) ≤ j → P 0 t1) (l3 : ∀ t1 : Mm, t1 = si σ 85 2 (0 : Int) → (0 : Int) ≤ j → j < (gi σ 85 12) → (gi σ 112 (gi σ 111 j.toNat).toNat) ≠ b → ∀ s8 : Mm, Rm t1 s8 → ∀ t11 : Mm, t11 = si s8 112 (gi s8 111 j.toNat).toNat b → P 1 t11) (l4 : ∀ t1 : Mm, t1 = si σ 85 2 (0 : Int) → (0 : Int) ≤ j → j < (gi σ 85 12) → (gi σ 112 (gi σ 111 j.toNat).toNat) = b → P 0 t1) : Ci 231 [vr 85, vi j, vi b] (shF n) σ P :=
  show R 231 0 [some (vr 85), some (vi j), some (vi b)] [] (shF n) 0 0 σ (Qi (shF n) P) from wpK_R 28 [] ((show R 200 0 [some (vr 85), _] [] (shF n) 0 0 _ _ from wpK_R 9 [] (And.intro (fun q2 => And.intro ret0 (And.intro (Or.inl rfl) ⟨rfl, _, rfl, And.intro (fun _ => And.intro ret0 (And.intro (Or.inl rfl) ⟨rfl, _, rfl, (l1 _ rfl q2)⟩)) (fun q => absurd (show (0 : Int) = 0 by decide) q)⟩)) (fun q2 => And.intro (fun q3 => And.intro ret0 (And.intro (Or.inl rfl) ⟨rfl, _, rfl, And.intro (fun _ => And.intro ret0 (And.intro (Or.inl rfl) ⟨rfl, _, rfl, (l2 _ rfl (Int.not_lt.mp q2) q3)⟩)) (fun q => absurd (show (0 : Int) = 0 by decide) q)⟩)) (fun q3 => And.intro ret0 (And.intro (Or.inr rfl) ⟨rfl, _, rfl, And.intro (fun q => absurd q (show ¬ ((1 : Int) = 0) by decide)) (fun _ => (have k4 := (o1 _ rfl (Int.not_lt.mp q2) (Int.not_le.mp q3)); And.intro k4 ((have k5 := (o2 _ rfl (Int.not_lt.mp q2) (Int.not_le.mp q3)); And.intro k5 (And.intro (fun q6 => (c_rem  (o3 _ rfl (Int.not_lt.mp q2) (Int.not_le.mp q3) q6) (o4 _ rfl (Int.not_lt.mp q2) (Int.not_le.mp q3) q6) (fun s8 h9 => And.intro k4 ((have k10 := (o5 _ rfl (Int.not_lt.mp q2) (Int.not_le.mp q3) q6 s8 h9); And.intro k10 ((have k12 := (o6 _ rfl (Int.not_lt.mp q2) (Int.not_le.mp q3) q6 s8 h9); And.intro k12 (And.intro ret0 (And.intro (Or.inr rfl) ⟨rfl, _, rfl, (l3 _ rfl (Int.not_lt.mp q2) (Int.not_le.mp q3) q6 s8 h9 _ rfl)⟩))))))))) (fun q6 => And.intro ret0 (And.intro (Or.inl rfl) ⟨rfl, _, rfl, (l4 _ rfl (Int.not_lt.mp q2) (Int.not_le.mp q3) (Classical.not_not.mp q6))⟩)))))))⟩))))))
theorem q_keepIn {xs : Nat → Int} {N n : Nat} {σ : Mm} (h : Rel xs N σ) (j b : Int) (hb : b = 0 ∨ b = 1) : Bi xs N n 115 [vr 3, vi j, vi b] 231 [vr 85, vi j, vi b] σ := by
  obtain ⟨c0, c1, c2, c3, c5, d0, d1, d2, d3, -⟩ := Rel_cnt h
  have hun := Rel_un h
  have r7 := h.2.2.2.2.2.2.1
  have r8 := h.2.2.2.2.2.2.2.1
  have r9 := h.2.2.2.2.2.2.2.2.1
  have hk32 : 0 ≤ gi σ 40 1 ∧ gi σ 40 1 < 32 := r7.2.2.2.2.2.2.2.2.2.2.2.2
  have hj := fun q : (j.toNat : Int) < gi σ 5 0 => (Rel_j h q).2.2.2
  have e111 := fun q : (j.toNat : Int) < gi σ 5 0 => (Rel_w5 h (j := j.toNat) (by omega)).1
  have e112 := fun q : (j.toNat : Int) < gi σ 5 0 => (Rel_w5 h (j := (gi σ 45 j.toNat).toNat) (by have := hj q; omega)).2.1
  have hno : ¬ ((0 ≤ j ∧ j < gi σ 5 0) ∧ b2i (bi (gi σ 40 1) (gi σ 45 j.toNat).toNat) ≠ b) → Ci 231 [vr 85, vi j, vi b] (shF n) σ (fun v' s' => v' = 0 ∧ Rel xs N s') := fun q => by
    refine v_kiR j b (by intros; subst_vars; first | (have q1 := hj (by omega); have q2 := e111 (by omega); omega) | exact Rel_KB (Rel_th h) | (rw [gi_si, if_neg (by omega)]; omega) | (rw [(‹Rm _ _›).1 111 _ (by omega) (by omega), gi_ne (by omega)]; have q1 := hj (by omega); have q2 := e111 (by omega); omega)) (by intros; subst_vars; first | (have q1 := hj (by omega); have q2 := e111 (by omega); omega) | exact Rel_KB (Rel_th h) | (rw [gi_si, if_neg (by omega)]; omega) | (rw [(‹Rm _ _›).1 111 _ (by omega) (by omega), gi_ne (by omega)]; have q1 := hj (by omega); have q2 := e111 (by omega); omega)) (by intros; subst_vars; first | (have q1 := hj (by omega); have q2 := e111 (by omega); omega) | exact Rel_KB (Rel_th h) | (rw [gi_si, if_neg (by omega)]; omega) | (rw [(‹Rm _ _›).1 111 _ (by omega) (by omega), gi_ne (by omega)]; have q1 := hj (by omega); have q2 := e111 (by omega); omega)) (by intros; subst_vars; first | (have q1 := hj (by omega); have q2 := e111 (by omega); omega) | exact Rel_KB (Rel_th h) | (rw [gi_si, if_neg (by omega)]; omega) | (rw [(‹Rm _ _›).1 111 _ (by omega) (by omega), gi_ne (by omega)]; have q1 := hj (by omega); have q2 := e111 (by omega); omega)) (by intros; subst_vars; first | (have q1 := hj (by omega); have q2 := e111 (by omega); omega) | exact Rel_KB (Rel_th h) | (rw [gi_si, if_neg (by omega)]; omega) | (rw [(‹Rm _ _›).1 111 _ (by omega) (by omega), gi_ne (by omega)]; have q1 := hj (by omega); have q2 := e111 (by omega); omega)) (by intros; subst_vars; first | (have q1 := hj (by omega); have q2 := e111 (by omega); omega) | exact Rel_KB (Rel_th h) | (rw [gi_si, if_neg (by omega)]; omega) | (rw [(‹Rm _ _›).1 111 _ (by omega) (by omega), gi_ne (by omega)]; have q1 := hj (by omega); have q2 := e111 (by omega); omega)) ?_ ?_ ?_ ?_
    · intro t1 ht; intros; rw [ht]; exact ⟨rfl, Rel_th h⟩
    · intro t1 ht; intros; rw [ht]; exact ⟨rfl, Rel_th h⟩
    · intro t1 ht h1 h2 hne; intros
      rw [e111 (by omega), e112 (by omega)] at hne
      exact absurd ⟨⟨h1, by omega⟩, hne⟩ q
    · intro t1 ht; intros; rw [ht]; exact ⟨rfl, Rel_th h⟩
  have hyes : ∀ (s : Mm) (u : Nat) (v : Int), (0 ≤ j ∧ j < gi σ 5 0) → (u : Int) = gi σ 45 j.toNat → b2i (bi (gi σ 40 1) u) ≠ b → De σ s (upW (wv σ 40) 0 1 v) 1 (u : Int) 0 → (0 ≤ v ∧ v < 32) → (∀ x, x < 5 → b2i (bi v x) = if x = u then b else b2i (bi (gi σ 40 1) x)) → (if bi v u then oand v (oxor (oshl 1 (u : Int)) (-1)) else oor v (oshl 1 (u : Int))) = gi σ 40 1 → Ci 231 [vr 85, vi j, vi b] (shF n) s (fun v' s' => v' = 1 ∧ Rel xs N s') := fun s u v h1 hu hne d hv hbits hback => by
    have g12 := De_85 d 85 12 (by omega)
    have g82 := De_85 d 85 82 (by omega)
    have g111 := De_85 d 111 j.toNat (by omega)
    have q1 := hj (by omega)
    have q2 := e111 (by omega)
    have q3 := e112 (by omega)
    rw [← hu, Int.toNat_natCast] at q3
    have g112 := De_85 d 112 u (by omega)
    have hu111 : gi s 111 j.toNat = (u : Int) := by omega
    refine v_kiR j b (by intros; subst_vars; first | omega | exact De_KB h d | (rw [gi_si, if_neg (by omega), g82]; omega) | (rw [(‹Rm _ _›).1 111 _ (by omega) (by omega), gi_ne (by omega)]; omega)) (by intros; subst_vars; first | omega | exact De_KB h d | (rw [gi_si, if_neg (by omega), g82]; omega) | (rw [(‹Rm _ _›).1 111 _ (by omega) (by omega), gi_ne (by omega)]; omega)) (by intros; subst_vars; first | omega | exact De_KB h d | (rw [gi_si, if_neg (by omega), g82]; omega) | (rw [(‹Rm _ _›).1 111 _ (by omega) (by omega), gi_ne (by omega)]; omega)) (by intros; subst_vars; first | omega | exact De_KB h d | (rw [gi_si, if_neg (by omega), g82]; omega) | (rw [(‹Rm _ _›).1 111 _ (by omega) (by omega), gi_ne (by omega)]; omega)) (by intros; subst_vars; first | omega | exact De_KB h d | (rw [gi_si, if_neg (by omega), g82]; omega) | (rw [(‹Rm _ _›).1 111 _ (by omega) (by omega), gi_ne (by omega)]; omega)) (by intros; subst_vars; first | omega | exact De_KB h d | (rw [gi_si, if_neg (by omega), g82]; omega) | (rw [(‹Rm _ _›).1 111 _ (by omega) (by omega), gi_ne (by omega)]; omega)) ?_ ?_ ?_ ?_
    · intros; exfalso; omega
    · intros; exfalso; omega
    · intro t1 ht _ _ _ s8 rm t11 e11
      subst ht
      refine ⟨rfl, ?_⟩
      have f8 := Rm_85 d rm
      have h8u : gi s8 111 j.toNat = (u : Int) := by rw [f8 _ _ (by omega) (by omega)]; omega
      rw [h8u, Int.toNat_natCast] at e11
      have hup : ∀ f i, ¬ (f = 0 ∧ i = 1) → upW (wv σ 40) 0 1 v f i = wv σ 40 f i := fun f i q => by unfold upW; rw [if_neg q]
      have hup1 : upW (wv σ 40) 0 1 v 0 1 = v := by unfold upW; rw [if_pos ⟨rfl, rfl⟩]
      refine deed_rel h d rm (fun x i q => ?_) ?_ ?_ ?_ ?_ ?_ ?_ ?_
      · rw [e11, gi_si, if_neg (by unfold hf at q; omega)]
      · refine RW_k r9 (fun f i p _ => hup f i p) (fun x i p1 p2 p3 p4 => by rw [e11, gi_ne p3]; exact f8 x i (by omega) (by omega)) (fun x hx => ?_) (fun c hc => ?_)
        · rw [hup1, hbits x hx, e11, gi_si]
          by_cases z : x = u
          · rw [if_pos ⟨rfl, z⟩, if_pos z]
          · rw [if_neg (fun w => z w.2), if_neg z, f8 _ _ (by omega) (by omega)]; exact (Rel_w5 h hx).2.1
        · rw [e11, gi_ne (by omega), f8 _ _ (by omega) (by omega), hup _ _ (by omega)]
          exact (Rel_c h hc).2.2.2.1
      · exact WI_k (fun f i p _ => hup f i p) (fun c hc => by rw [hup _ _ (by omega)]; exact r7.1.1 c hc) (by rw [hup1]; exact hv) r7
      · intro c hc hd
        rw [hup _ _ (by omega)] at hd ⊢
        exact r8 c hc hd
      · funext f i
        unfold tbV
        rw [if_neg (by omega), if_pos rfl]
        by_cases q : f = 0 ∧ i = 1
        · simp only [hup1, Int.toNat_natCast]
          rw [if_pos q, hback, q.1, q.2]; rfl
        · simp only [hup1]
          rw [if_neg q, hup f i q]
      · exact Or.inr (Or.inl ⟨rfl, by omega, by show (u : Int) < gi σ 5 0; omega⟩)
      · exact hup 0 0 (by omega)
      · intro i; exact hup 8 i (by omega)
    · intro t1 ht _ _ heq
      rw [hu111, Int.toNat_natCast, g112, q3] at heq
      exact absurd heq hne
  have hk : ∃ k : Nat, k < 32 ∧ gi σ 40 1 = (k : Int) := ⟨(gi σ 40 1).toNat, by omega, by omega⟩
  obtain ⟨k, hk1, hk2⟩ := hk
  refine v_ki j b (by intros; first | omega | (have q1 := hj (by omega); omega) | (unfold rg; omega)) (by intros; first | omega | (have q1 := hj (by omega); omega) | (unfold rg; omega)) (by intros; first | omega | (have q1 := hj (by omega); omega) | (unfold rg; omega)) (by intros; first | omega | (have q1 := hj (by omega); omega) | (unfold rg; omega)) (by intros; first | omega | (have q1 := hj (by omega); omega) | (unfold rg; omega)) (by intros; first | omega | (have q1 := hj (by omega); omega) | (unfold rg; omega)) (by intros; first | omega | (have q1 := hj (by omega); omega) | (unfold rg; omega)) (by intros; first | omega | (have q1 := hj (by omega); omega) | (unfold rg; omega)) (by intros; first | omega | (have q1 := hj (by omega); omega) | (unfold rg; omega)) (by intros; first | omega | (have q1 := hj (by omega); omega) | (unfold rg; omega)) (by intros; first | omega | (have q1 := hj (by omega); omega) | (unfold rg; omega)) (by intros; first | omega | (have q1 := hj (by omega); omega) | (unfold rg; omega)) (by intros; first | omega | (have q1 := hj (by omega); omega) | (unfold rg; omega)) (by intros; first | omega | (have q1 := hj (by omega); omega) | (unfold rg; omega)) ?_ ?_ ?_ ?_ ?_ ?_ ?_
  · intros; exact hno (by omega)
  · intros; exact hno (by omega)
  all_goals first
    | (intro h1 h2 x4 e4 x5 e5 heq
       exact hno (by rw [← e4, ← e5]; omega))
    | (intro h1 h2 x4 e4 x5 e5 hne x7 e7 hb0 t9 e9 x12 e12 t14 e14 t15 e15 t16 e16 hroom t20 e20
       have q1 := hj (by omega)
       obtain ⟨u, hu⟩ : ∃ u : Nat, x4 = (u : Int) := ⟨x4.toNat, by omega⟩
       have hu5 : u < 5 := by omega
       rw [hu] at e4 e7 e15
       rw [hu, Int.toNat_natCast] at e5
       have ka := kept_all k hk1 u hu5
       have p1 : ∀ a i, ¬ (40 ≤ a ∧ a ≤ 48) → gi t9 a i = gi σ a i := fun a i p => by rw [e9, gi_ne (by omega)]
       have p2 : ∀ v, t9 = si σ 40 1 v → wv t9 40 = upW (wv σ 40) 0 1 v := fun v e => by rw [e]; exact wvu (f0 := 0) (by omega)
       have dd := by first | exact De_full p1 e12 e14 e15 e16 hroom e20 | exact De_room p1 e12 e14 e15 e16 hroom e20
       rw [p2 _ e9] at dd
       rw [e7, hk2] at dd
       have hbv := b2i_01 (bi (k : Int) u)
       rw [hk2] at e5
       first
       | (have hbu : bi (k : Int) u = true := by
            cases z : bi (k : Int) u with
            | true => rfl
            | false => rw [z] at e5; rw [e5, hb0] at hne; exact absurd rfl hne
          refine hyes t20 u _ ⟨h1, h2⟩ e4 (by rw [hk2, ← e5]; exact hne) dd ka.2.1 (fun x hx => ?_) ?_
          · rw [bi_and, bi_not (by omega), shl1 (by omega) (by omega), hk2]
            by_cases z : x = u
            · rw [if_pos z, decide_eq_true z, hb0]; simp [b2i]
            · rw [if_neg z, decide_eq_false z]; simp
          · rw [bi_and, bi_not (by omega), shl1 (by omega) (by omega), decide_eq_true rfl, hk2]
            simp only [Bool.not_true, Bool.and_false]
            rw [if_neg (by decide)]
            exact ka.2.2.1 hbu)
       | (have hb1 : b = 1 := by omega
          have hbu : bi (k : Int) u = false := by
            cases z : bi (k : Int) u with
            | false => rfl
            | true => rw [z] at e5; rw [e5, hb1] at hne; exact absurd rfl hne
          refine hyes t20 u _ ⟨h1, h2⟩ e4 (by rw [hk2, ← e5]; exact hne) dd ka.1 (fun x hx => ?_) ?_
          · rw [bi_or, shl1 (by omega) (by omega), hk2]
            by_cases z : x = u
            · rw [if_pos z, decide_eq_true z, hb1]; simp [b2i]
            · rw [if_neg z, decide_eq_false z]; simp
          · rw [bi_or, shl1 (by omega) (by omega), decide_eq_true rfl, hk2]
            simp only [Bool.or_true]
            rw [if_pos trivial]
            exact ka.2.2.2 hbu))
theorem v_gv {n : Nat}  (c : Int) (j : Int) {σ : Mm} {P : Int → Mm → Prop} (o1 : (0 : Int) ≤ c → c < (gi σ 5 1) → (0 : Int) ≤ j → j < (gi σ 5 0) → (0 ≤ c ∧ c < 10)) (o2 : (0 : Int) ≤ c → c < (gi σ 5 1) → (0 : Int) ≤ j → j < (gi σ 5 0) → (gi σ 43 c.toNat) = (-1 : Int) → (gi σ 41 c.toNat) ≠ j → rg ((gi σ 71 3) + (gi σ 71 4))) (o3 : (0 : Int) ≤ c → c < (gi σ 5 1) → (0 : Int) ≤ j → j < (gi σ 5 0) → (gi σ 43 c.toNat) = (-1 : Int) → (gi σ 41 c.toNat) ≠ j → (0 ≤ ((gi σ 71 3) + (gi σ 71 4)) ∧ 0 < (20 : Int))) (o4 : (0 : Int) ≤ c → c < (gi σ 5 1) → (0 : Int) ≤ j → j < (gi σ 5 0) → (gi σ 43 c.toNat) = (-1 : Int) → (gi σ 41 c.toNat) ≠ j → ∀ x10 : Int, x10 = ((gi σ 71 3) + (gi σ 71 4)) % (20 : Int) → (0 ≤ x10 ∧ x10 < 20)) (o5 : (0 : Int) ≤ c → c < (gi σ 5 1) → (0 : Int) ≤ j → j < (gi σ 5 0) → (gi σ 43 c.toNat) = (-1 : Int) → (gi σ 41 c.toNat) ≠ j → ∀ x10 : Int, x10 = ((gi σ 71 3) + (gi σ 71 4)) % (20 : Int) → ∀ t12 : Mm, t12 = si σ 72 x10.toNat (3 : Int) → ∀ t13 : Mm, t13 = si t12 73 x10.toNat c → ∀ t14 : Mm, t14 = si t13 74 x10.toNat (gi σ 41 c.toNat) → (20 : Int) ≤ (gi σ 71 4) → rg ((gi σ 71 3) + 1)) (o6 : (0 : Int) ≤ c → c < (gi σ 5 1) → (0 : Int) ≤ j → j < (gi σ 5 0) → (gi σ 43 c.toNat) = (-1 : Int) → (gi σ 41 c.toNat) ≠ j → ∀ x10 : Int, x10 = ((gi σ 71 3) + (gi σ 71 4)) % (20 : Int) → ∀ t12 : Mm, t12 = si σ 72 x10.toNat (3 : Int) → ∀ t13 : Mm, t13 = si t12 73 x10.toNat c → ∀ t14 : Mm, t14 = si t13 74 x10.toNat (gi σ 41 c.toNat) → (20 : Int) ≤ (gi σ 71 4) → (0 ≤ ((gi σ 71 3) + 1) ∧ 0 < (20 : Int))) (o7 : (0 : Int) ≤ c → c < (gi σ 5 1) → (0 : Int) ≤ j → j < (gi σ 5 0) → (gi σ 43 c.toNat) = (-1 : Int) → (gi σ 41 c.toNat) ≠ j → ∀ x10 : Int, x10 = ((gi σ 71 3) + (gi σ 71 4)) % (20 : Int) → ∀ t12 : Mm, t12 = si σ 72 x10.toNat (3 : Int) → ∀ t13 : Mm, t13 = si t12 73 x10.toNat c → ∀ t14 : Mm, t14 = si t13 74 x10.toNat (gi σ 41 c.toNat) → (gi σ 71 4) < (20 : Int) → rg ((gi σ 71 4) + 1)) (l1 : c < (0 : Int) → P 0 σ) (l2 : (0 : Int) ≤ c → (gi σ 5 1) ≤ c → P 0 σ) (l3 : (0 : Int) ≤ c → c < (gi σ 5 1) → j < (0 : Int) → P 0 σ) (l4 : (0 : Int) ≤ c → c < (gi σ 5 1) → (0 : Int) ≤ j → (gi σ 5 0) ≤ j → P 0 σ) (l5 : (0 : Int) ≤ c → c < (gi σ 5 1) → (0 : Int) ≤ j → j < (gi σ 5 0) → (gi σ 43 c.toNat) ≠ (-1 : Int) → P 0 σ) (l6 : (0 : Int) ≤ c → c < (gi σ 5 1) → (0 : Int) ≤ j → j < (gi σ 5 0) → (gi σ 43 c.toNat) = (-1 : Int) → (gi σ 41 c.toNat) ≠ j → ∀ x10 : Int, x10 = ((gi σ 71 3) + (gi σ 71 4)) % (20 : Int) → ∀ t12 : Mm, t12 = si σ 72 x10.toNat (3 : Int) → ∀ t13 : Mm, t13 = si t12 73 x10.toNat c → ∀ t14 : Mm, t14 = si t13 74 x10.toNat (gi σ 41 c.toNat) → (20 : Int) ≤ (gi σ 71 4) → ∀ t18 : Mm, t18 = si t14 71 3 (((gi σ 71 3) + 1) % (20 : Int)) → ∀ t19 : Mm, t19 = si t18 41 c.toNat j → P 1 t19) (l7 : (0 : Int) ≤ c → c < (gi σ 5 1) → (0 : Int) ≤ j → j < (gi σ 5 0) → (gi σ 43 c.toNat) = (-1 : Int) → (gi σ 41 c.toNat) ≠ j → ∀ x10 : Int, x10 = ((gi σ 71 3) + (gi σ 71 4)) % (20 : Int) → ∀ t12 : Mm, t12 = si σ 72 x10.toNat (3 : Int) → ∀ t13 : Mm, t13 = si t12 73 x10.toNat c → ∀ t14 : Mm, t14 = si t13 74 x10.toNat (gi σ 41 c.toNat) → (gi σ 71 4) < (20 : Int) → ∀ t21 : Mm, t21 = si t14 71 4 ((gi σ 71 4) + 1) → ∀ t22 : Mm, t22 = si t21 41 c.toNat j → P 1 t22) (l8 : (0 : Int) ≤ c → c < (gi σ 5 1) → (0 : Int) ≤ j → j < (gi σ 5 0) → (gi σ 43 c.toNat) = (-1 : Int) → (gi σ 41 c.toNat) = j → P 0 σ) : Ci 117 [vr 3, vi c, vi j] (shF n) σ P :=
  show R 117 0 [some (vr 3), some (vi c), some (vi j)] [] (shF n) 0 0 σ (Qi (shF n) P) from wpK_R 40 [] ((show R 104 0 [some (vr 3), _] [] (shF n) 0 0 _ _ from wpK_R 10 [] (And.intro (fun q1 => And.intro ret0 (And.intro (Or.inl rfl) ⟨rfl, _, rfl, And.intro (fun _ => And.intro ret0 (And.intro (Or.inl rfl) ⟨rfl, _, rfl, (l1 q1)⟩)) (fun q => absurd (show (0 : Int) = 0 by decide) q)⟩)) (fun q1 => And.intro (fun q2 => And.intro ret0 (And.intro (Or.inl rfl) ⟨rfl, _, rfl, And.intro (fun _ => And.intro ret0 (And.intro (Or.inl rfl) ⟨rfl, _, rfl, (l2 (Int.not_lt.mp q1) q2)⟩)) (fun q => absurd (show (0 : Int) = 0 by decide) q)⟩)) (fun q2 => And.intro ret0 (And.intro (Or.inr rfl) ⟨rfl, _, rfl, And.intro (fun q => absurd q (show ¬ ((1 : Int) = 0) by decide)) (fun _ => (show R 103 0 [some (vr 3), _] [] (shF n) 0 0 _ _ from wpK_R 10 [] (And.intro (fun q3 => And.intro ret0 (And.intro (Or.inl rfl) ⟨rfl, _, rfl, And.intro (fun _ => And.intro ret0 (And.intro (Or.inl rfl) ⟨rfl, _, rfl, (l3 (Int.not_lt.mp q1) (Int.not_le.mp q2) q3)⟩)) (fun q => absurd (show (0 : Int) = 0 by decide) q)⟩)) (fun q3 => And.intro (fun q4 => And.intro ret0 (And.intro (Or.inl rfl) ⟨rfl, _, rfl, And.intro (fun _ => And.intro ret0 (And.intro (Or.inl rfl) ⟨rfl, _, rfl, (l4 (Int.not_lt.mp q1) (Int.not_le.mp q2) (Int.not_lt.mp q3) q4)⟩)) (fun q => absurd (show (0 : Int) = 0 by decide) q)⟩)) (fun q4 => And.intro ret0 (And.intro (Or.inr rfl) ⟨rfl, _, rfl, And.intro (fun q => absurd q (show ¬ ((1 : Int) = 0) by decide)) (fun _ => (have k5 := (o1 (Int.not_lt.mp q1) (Int.not_le.mp q2) (Int.not_lt.mp q3) (Int.not_le.mp q4)); And.intro k5 (And.intro (fun q6 => And.intro ret0 (And.intro (Or.inl rfl) ⟨rfl, _, rfl, (l5 (Int.not_lt.mp q1) (Int.not_le.mp q2) (Int.not_lt.mp q3) (Int.not_le.mp q4) q6)⟩)) (fun q6 => And.intro k5 (And.intro (fun q7 => And.intro k5 ((show R 13 0 [some (vr 71), some (vi 3), _, _, none] [] (shF n) 0 0 _ _ from wpK_R 36 [] ((have k8 := (o2 (Int.not_lt.mp q1) (Int.not_le.mp q2) (Int.not_lt.mp q3) (Int.not_le.mp q4) (Classical.not_not.mp q6) q7); And.intro k8 ((have k9 := (o3 (Int.not_lt.mp q1) (Int.not_le.mp q2) (Int.not_lt.mp q3) (Int.not_le.mp q4) (Classical.not_not.mp q6) q7); And.intro k9 ((have k11 := (o4 (Int.not_lt.mp q1) (Int.not_le.mp q2) (Int.not_lt.mp q3) (Int.not_le.mp q4) (Classical.not_not.mp q6) q7 _ rfl); And.intro k11 (And.intro k11 (And.intro k11 (And.intro (fun q15 => (have k16 := (o5 (Int.not_lt.mp q1) (Int.not_le.mp q2) (Int.not_lt.mp q3) (Int.not_le.mp q4) (Classical.not_not.mp q6) q7 _ rfl _ rfl _ rfl _ rfl q15); And.intro k16 ((have k17 := (o6 (Int.not_lt.mp q1) (Int.not_le.mp q2) (Int.not_lt.mp q3) (Int.not_le.mp q4) (Classical.not_not.mp q6) q7 _ rfl _ rfl _ rfl _ rfl q15); And.intro k17 (And.intro ret0 ⟨rfl, rfl, And.intro k5 (And.intro ret0 (And.intro (Or.inr rfl) ⟨rfl, _, rfl, (l6 (Int.not_lt.mp q1) (Int.not_le.mp q2) (Int.not_lt.mp q3) (Int.not_le.mp q4) (Classical.not_not.mp q6) q7 _ rfl _ rfl _ rfl _ rfl q15 _ rfl _ rfl)⟩))⟩))))) (fun q15 => (have k20 := (o7 (Int.not_lt.mp q1) (Int.not_le.mp q2) (Int.not_lt.mp q3) (Int.not_le.mp q4) (Classical.not_not.mp q6) q7 _ rfl _ rfl _ rfl _ rfl (Int.not_le.mp q15)); And.intro k20 (And.intro ret0 ⟨rfl, rfl, And.intro k5 (And.intro ret0 (And.intro (Or.inr rfl) ⟨rfl, _, rfl, (l7 (Int.not_lt.mp q1) (Int.not_le.mp q2) (Int.not_lt.mp q3) (Int.not_le.mp q4) (Classical.not_not.mp q6) q7 _ rfl _ rfl _ rfl _ rfl (Int.not_le.mp q15) _ rfl _ rfl)⟩))⟩))))))))))))))) (fun q7 => And.intro ret0 (And.intro (Or.inl rfl) ⟨rfl, _, rfl, (l8 (Int.not_lt.mp q1) (Int.not_le.mp q2) (Int.not_lt.mp q3) (Int.not_le.mp q4) (Classical.not_not.mp q6) (Classical.not_not.mp q7))⟩)))))))⟩))))))⟩))))))
theorem v_gvR {n : Nat}  (c : Int) (j : Int) {σ : Mm} {P : Int → Mm → Prop} (o1 : ∀ t1 : Mm, t1 = si σ 85 2 (0 : Int) → (0 : Int) ≤ c → c < (gi σ 85 13) → (0 : Int) ≤ j → j < (gi σ 85 12) → (0 ≤ c ∧ c < 20)) (o2 : ∀ t1 : Mm, t1 = si σ 85 2 (0 : Int) → (0 : Int) ≤ c → c < (gi σ 85 13) → (0 : Int) ≤ j → j < (gi σ 85 12) → (gi σ 117 c.toNat) < (0 : Int) → (gi σ 115 c.toNat) ≠ j → KB t1) (o3 : ∀ t1 : Mm, t1 = si σ 85 2 (0 : Int) → (0 : Int) ≤ c → c < (gi σ 85 13) → (0 : Int) ≤ j → j < (gi σ 85 12) → (gi σ 117 c.toNat) < (0 : Int) → (gi σ 115 c.toNat) ≠ j → (0 ≤ gi t1 85 82 ∧ gi t1 85 82 ≤ 20)) (l1 : ∀ t1 : Mm, t1 = si σ 85 2 (0 : Int) → c < (0 : Int) → P 0 t1) (l2 : ∀ t1 : Mm, t1 = si σ 85 2 (0 : Int) → (0 : Int) ≤ c → (gi σ 85 13) ≤ c → P 0 t1) (l3 : ∀ t1 : Mm, t1 = si σ 85 2 (0 : Int) → (0 : Int) ≤ c → c < (gi σ 85 13) → j < (0 : Int) → P 0 t1) (l4 : ∀ t1 : Mm, t1 = si σ 85 2 (0 : Int) → (0 : Int) ≤ c → c < (gi σ 85 13) → (0 : Int) ≤ j → (gi σ 85 12) ≤ j → P 0 t1) (l5 : ∀ t1 : Mm, t1 = si σ 85 2 (0 : Int) → (0 : Int) ≤ c → c < (gi σ 85 13) → (0 : Int) ≤ j → j < (gi σ 85 12) → (0 : Int) ≤ (gi σ 117 c.toNat) → P 0 t1) (l6 : ∀ t1 : Mm, t1 = si σ 85 2 (0 : Int) → (0 : Int) ≤ c → c < (gi σ 85 13) → (0 : Int) ≤ j → j < (gi σ 85 12) → (gi σ 117 c.toNat) < (0 : Int) → (gi σ 115 c.toNat) ≠ j → ∀ s10 : Mm, Rm t1 s10 → ∀ t12 : Mm, t12 = si s10 115 c.toNat j → P 1 t12) (l7 : ∀ t1 : Mm, t1 = si σ 85 2 (0 : Int) → (0 : Int) ≤ c → c < (gi σ 85 13) → (0 : Int) ≤ j → j < (gi σ 85 12) → (gi σ 117 c.toNat) < (0 : Int) → (gi σ 115 c.toNat) = j → P 0 t1) : Ci 233 [vr 85, vi c, vi j] (shF n) σ P :=
  show R 233 0 [some (vr 85), some (vi c), some (vi j)] [] (shF n) 0 0 σ (Qi (shF n) P) from wpK_R 31 [] ((show R 201 0 [some (vr 85), _] [] (shF n) 0 0 _ _ from wpK_R 9 [] (And.intro (fun q2 => And.intro ret0 (And.intro (Or.inl rfl) ⟨rfl, _, rfl, And.intro (fun _ => And.intro ret0 (And.intro (Or.inl rfl) ⟨rfl, _, rfl, (l1 _ rfl q2)⟩)) (fun q => absurd (show (0 : Int) = 0 by decide) q)⟩)) (fun q2 => And.intro (fun q3 => And.intro ret0 (And.intro (Or.inl rfl) ⟨rfl, _, rfl, And.intro (fun _ => And.intro ret0 (And.intro (Or.inl rfl) ⟨rfl, _, rfl, (l2 _ rfl (Int.not_lt.mp q2) q3)⟩)) (fun q => absurd (show (0 : Int) = 0 by decide) q)⟩)) (fun q3 => And.intro ret0 (And.intro (Or.inr rfl) ⟨rfl, _, rfl, And.intro (fun q => absurd q (show ¬ ((1 : Int) = 0) by decide)) (fun _ => (show R 200 0 [some (vr 85), _] [] (shF n) 0 0 _ _ from wpK_R 9 [] (And.intro (fun q4 => And.intro ret0 (And.intro (Or.inl rfl) ⟨rfl, _, rfl, And.intro (fun _ => And.intro ret0 (And.intro (Or.inl rfl) ⟨rfl, _, rfl, (l3 _ rfl (Int.not_lt.mp q2) (Int.not_le.mp q3) q4)⟩)) (fun q => absurd (show (0 : Int) = 0 by decide) q)⟩)) (fun q4 => And.intro (fun q5 => And.intro ret0 (And.intro (Or.inl rfl) ⟨rfl, _, rfl, And.intro (fun _ => And.intro ret0 (And.intro (Or.inl rfl) ⟨rfl, _, rfl, (l4 _ rfl (Int.not_lt.mp q2) (Int.not_le.mp q3) (Int.not_lt.mp q4) q5)⟩)) (fun q => absurd (show (0 : Int) = 0 by decide) q)⟩)) (fun q5 => And.intro ret0 (And.intro (Or.inr rfl) ⟨rfl, _, rfl, And.intro (fun q => absurd q (show ¬ ((1 : Int) = 0) by decide)) (fun _ => (have k6 := (o1 _ rfl (Int.not_lt.mp q2) (Int.not_le.mp q3) (Int.not_lt.mp q4) (Int.not_le.mp q5)); And.intro k6 (And.intro (fun q7 => And.intro ret0 (And.intro (Or.inl rfl) ⟨rfl, _, rfl, (l5 _ rfl (Int.not_lt.mp q2) (Int.not_le.mp q3) (Int.not_lt.mp q4) (Int.not_le.mp q5) q7)⟩)) (fun q7 => And.intro k6 (And.intro (fun q8 => (c_rem  (o2 _ rfl (Int.not_lt.mp q2) (Int.not_le.mp q3) (Int.not_lt.mp q4) (Int.not_le.mp q5) (Int.not_le.mp q7) q8) (o3 _ rfl (Int.not_lt.mp q2) (Int.not_le.mp q3) (Int.not_lt.mp q4) (Int.not_le.mp q5) (Int.not_le.mp q7) q8) (fun s10 h11 => And.intro k6 (And.intro ret0 (And.intro (Or.inr rfl) ⟨rfl, _, rfl, (l6 _ rfl (Int.not_lt.mp q2) (Int.not_le.mp q3) (Int.not_lt.mp q4) (Int.not_le.mp q5) (Int.not_le.mp q7) q8 s10 h11 _ rfl)⟩))))) (fun q8 => And.intro ret0 (And.intro (Or.inl rfl) ⟨rfl, _, rfl, (l7 _ rfl (Int.not_lt.mp q2) (Int.not_le.mp q3) (Int.not_lt.mp q4) (Int.not_le.mp q5) (Int.not_le.mp q7) (Classical.not_not.mp q8))⟩)))))))⟩))))))⟩))))))
theorem q_give {xs : Nat → Int} {N n : Nat} {σ : Mm} (h : Rel xs N σ) (c j : Int) : Bi xs N n 117 [vr 3, vi c, vi j] 233 [vr 85, vi c, vi j] σ := by
  obtain ⟨c0, c1, c2, c3, c5, d0, d1, d2, d3, -⟩ := Rel_cnt h
  have hun := Rel_un h
  have r7 := h.2.2.2.2.2.2.1
  have r8 := h.2.2.2.2.2.2.2.1
  have r9 := h.2.2.2.2.2.2.2.2.1
  have hc := fun q : (c.toNat : Int) < gi σ 5 1 => (Rel_c h q).2.2.2
  have hs := fun q : (c.toNat : Int) < gi σ 5 1 => Rel_w10 h (c := c.toNat) (by omega)
  have hno : ¬ ((0 ≤ c ∧ c < gi σ 5 1) ∧ (0 ≤ j ∧ j < gi σ 5 0) ∧ gi σ 43 c.toNat = -1 ∧ gi σ 41 c.toNat ≠ j) → Ci 233 [vr 85, vi c, vi j] (shF n) σ (fun v' s' => v' = 0 ∧ Rel xs N s') := fun q => by
    refine v_gvR c j (by intros; subst_vars; first | omega | exact Rel_KB (Rel_th h) | (rw [gi_si, if_neg (by omega)]; omega)) (by intros; subst_vars; first | omega | exact Rel_KB (Rel_th h) | (rw [gi_si, if_neg (by omega)]; omega)) (by intros; subst_vars; first | omega | exact Rel_KB (Rel_th h) | (rw [gi_si, if_neg (by omega)]; omega)) ?_ ?_ ?_ ?_ ?_ ?_ ?_
    all_goals (intro t1 ht; intros; first | (rw [ht]; exact ⟨rfl, Rel_th h⟩) | (exfalso; have q1 := hc (by omega); have q2 := hs (by omega); omega))
  have hyes : ∀ s : Mm, (0 ≤ c ∧ c < gi σ 5 1) → (0 ≤ j ∧ j < gi σ 5 0) → gi σ 43 c.toNat = -1 → gi σ 41 c.toNat ≠ j → De σ s (upW (wv σ 40) 1 c.toNat j) 3 c (gi σ 41 c.toNat) → Ci 233 [vr 85, vi c, vi j] (shF n) s (fun v' s' => v' = 1 ∧ Rel xs N s') := fun s h1 h2 h3 h4 d => by
    have g12 := De_85 d 85 12 (by omega)
    have g13 := De_85 d 85 13 (by omega)
    have g82 := De_85 d 85 82 (by omega)
    have g115 := De_85 d 115 c.toNat (by omega)
    have g117 := De_85 d 117 c.toNat (by omega)
    have q1 := hc (by omega)
    have q2 := hs (by omega)
    refine v_gvR c j (by intros; subst_vars; first | omega | exact De_KB h d | (rw [gi_si, if_neg (by omega), g82]; omega)) (by intros; subst_vars; first | omega | exact De_KB h d | (rw [gi_si, if_neg (by omega), g82]; omega)) (by intros; subst_vars; first | omega | exact De_KB h d | (rw [gi_si, if_neg (by omega), g82]; omega)) ?_ ?_ ?_ ?_ ?_ ?_ ?_
    · intros; exfalso; omega
    · intros; exfalso; omega
    · intros; exfalso; omega
    · intros; exfalso; omega
    · intros; exfalso; omega
    · intro t1 ht _ _ _ _ _ _ s8 rm t12 e12
      subst ht
      refine ⟨rfl, ?_⟩
      have f8 := Rm_85 d rm
      have hup : ∀ f i, ¬ (f = 1 ∧ i = c.toNat) → upW (wv σ 40) 1 c.toNat j f i = wv σ 40 f i := fun f i q => by unfold upW; rw [if_neg q]
      have hup1 : upW (wv σ 40) 1 c.toNat j 1 c.toNat = j := by unfold upW; rw [if_pos ⟨rfl, rfl⟩]
      refine deed_rel h d rm (fun x i q => ?_) ?_ ?_ ?_ ?_ ?_ ?_ ?_
      · rw [e12, gi_si, if_neg (by unfold hf at q; omega)]
      · refine RW_k r9 (fun f i _ p => hup f i (by omega)) (fun x i p1 p2 p3 p4 => by rw [e12, gi_ne p4]; exact f8 x i (by omega) (by omega)) (fun x hx => ?_) (fun c' hc' => ?_)
        · rw [hup 0 1 (by omega), e12, gi_ne (by omega), f8 _ _ (by omega) (by omega)]; exact (Rel_w5 h hx).2.1
        · rw [e12, gi_si]
          by_cases z : c' = c.toNat
          · rw [if_pos ⟨rfl, z⟩, z, hup1]
          · rw [if_neg (fun w => z w.2), f8 _ _ (by omega) (by omega), hup _ _ (by omega)]; exact (Rel_c h hc').2.2.2.1
      · refine WI_k (fun f i _ p => hup f i (by omega)) (fun c' hc' => ?_) (by rw [hup 0 1 (by omega)]; exact r7.2.2.2.2.2.2.2.2.2.2.2.2) r7
        by_cases z : c' = c.toNat
        · rw [z, hup1]; exact h2
        · rw [hup _ _ (by omega)]; exact r7.1.1 c' hc'
      · intro c hc hd
        rw [hup _ _ (by omega)] at hd ⊢
        exact r8 c hc hd
      · funext f i
        unfold tbV
        rw [if_neg (by omega), if_neg (by omega), if_neg (by omega)]
        by_cases q : f = 1 ∧ i = c.toNat
        · show (if f = 1 ∧ i = c.toNat then _ else _) = _
          rw [if_pos q, q.1, q.2]; rfl
        · show (if f = 1 ∧ i = c.toNat then _ else _) = _
          rw [if_neg q, hup f i q]
      · exact Or.inr (Or.inr (Or.inr ⟨rfl, h1, q1.2⟩))
      · exact hup 0 0 (by omega)
      · intro i; exact hup 8 i (by omega)
    · intros; exfalso; omega
  have p1 : ∀ a i, ¬ (40 ≤ a ∧ a ≤ 48) → gi σ a i = gi σ a i := fun _ _ _ => rfl
  refine v_gv c j (by intros; first | omega | (unfold rg; omega)) (by intros; first | omega | (unfold rg; omega)) (by intros; first | omega | (unfold rg; omega)) (by intros; first | omega | (unfold rg; omega)) (by intros; first | omega | (unfold rg; omega)) (by intros; first | omega | (unfold rg; omega)) (by intros; first | omega | (unfold rg; omega)) ?_ ?_ ?_ ?_ ?_ ?_ ?_ ?_
  · intros; exact hno (by omega)
  · intros; exact hno (by omega)
  · intros; exact hno (by omega)
  · intros; exact hno (by omega)
  · intros; exact hno (by omega)
  · intro h1 h2 h3 h4 h5 h6 x10 e10 t12 e12 t13 e13 t14 e14 hroom t18 e18 t19 e19
    have := (De_full p1 e10 e12 e13 e14 hroom e18).si (f0 := 1) (i0 := c.toNat) (v := j) (by omega)
    rw [show 40 + 1 = 41 from rfl, ← e19] at this
    exact hyes t19 ⟨h1, h2⟩ ⟨h3, h4⟩ h5 h6 this
  · intro h1 h2 h3 h4 h5 h6 x10 e10 t12 e12 t13 e13 t14 e14 hroom t18 e18 t19 e19
    have := (De_room p1 e10 e12 e13 e14 hroom e18).si (f0 := 1) (i0 := c.toNat) (v := j) (by omega)
    rw [show 40 + 1 = 41 from rfl, ← e19] at this
    exact hyes t19 ⟨h1, h2⟩ ⟨h3, h4⟩ h5 h6 this
  · intros; exact hno (by omega)
