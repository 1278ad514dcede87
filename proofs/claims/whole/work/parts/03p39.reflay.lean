/-! A FEATHER LAID: the reference's side -/
theorem cnt_one {p p' : Nat → Bool} {k : Nat} : ∀ {n : Nat}, k < n → (∀ q, q ≠ k → p' q = p q) → cnt p' n = cnt p n - b2i (p k) + b2i (p' k) := by
  intro n
  induction n with
  | zero => intro h; omega
  | succ n ih =>
    intro h hq
    rw [cnt_s, cnt_s]
    by_cases hk : k = n
    · subst hk
      have : cnt p' k = cnt p k := cnt_congr fun q hq' => hq q (by omega)
      omega
    · have := ih (by omega) hq
      rw [hq n (by omega)]
      omega
theorem cnt_upf {f : Nat → Int} {k n : Nat} {v z : Int} (h : k < n) : cnt (fun q => decide (upf f k v q = z)) n = cnt (fun q => decide (f q = z)) n - b2i (decide (f k = z)) + b2i (decide (v = z)) := by
  rw [cnt_one (p := fun q => decide (f q = z)) (k := k) h (fun q hq => by simp only [upf_ne f v hq]), upf_same]
def RW (T V : Nat → Nat → Int) (σ : Mm) (b : Nat) : Prop :=
  gi σ 120 b = V 0 0 ∧ (∀ c : Nat, (c : Int) < T 0 1 → gi σ 115 (10 * b + c) = V 1 c) ∧
  (∀ c : Nat, c < 10 → gi σ 116 (10 * b + c) = V 2 c ∧ gi σ 117 (10 * b + c) = V 3 c ∧ gi σ 118 (10 * b + c) = V 4 c) ∧
  (∀ j : Nat, j < 5 → gi σ 111 (5 * b + j) = V 5 j ∧ gi σ 112 (5 * b + j) = b2i (bi (V 0 1) j) ∧ gi σ 113 (5 * b + j) = V 6 j ∧ gi σ 119 (5 * b + j) = V 8 j) ∧
  (∀ i : Nat, i < 40 → gi σ 114 (40 * b + i) = V 7 i) ∧
  gi σ 121 b = cnt (fun x => decide (V 4 x = 2)) 10 ∧ gi σ 122 b = cnt (fun x => decide (V 4 x = 3)) 10
/-- the places of the reference's world b -/
def hf (b a i : Nat) : Prop := ((a = 111 ∨ a = 112 ∨ a = 113 ∨ a = 119) ∧ 5 * b ≤ i ∧ i < 5 * b + 5) ∨ ((115 ≤ a ∧ a ≤ 118) ∧ 10 * b ≤ i ∧ i < 10 * b + 10) ∨ (a = 114 ∧ 40 * b ≤ i ∧ i < 40 * b + 40) ∨ ((120 ≤ a ∧ a ≤ 122) ∧ i = b)
def RF (b : Nat) (σ σ' : Mm) : Prop := (∀ a i, ¬ hf b a i → ¬ (a = 85 ∧ i = 51) → gi σ' a i = gi σ a i) ∧ (∀ a i, a ≠ 109 → a ≠ 110 → gl σ' a i = gl σ a i)
theorem RF.rf (b : Nat) (σ : Mm) : RF b σ σ := ⟨fun _ _ _ _ => rfl, fun _ _ _ _ => rfl⟩
theorem RF.tr {b : Nat} {x y z : Mm} (h : RF b x y) (h' : RF b y z) : RF b x z := ⟨fun a i p q => (h'.1 a i p q).trans (h.1 a i p q), fun a i p q => (h'.2 a i p q).trans (h.2 a i p q)⟩
theorem RF.rk {b : Nat} {x y : Mm} (h : Rk x y) : RF b x y := ⟨fun a i _ q => h.1 a i q, h.2⟩
def RG (b : Nat) (σ σ' : Mm) : Prop := (∀ a i, ¬ hf b a i → ¬ (a = 85 ∧ (i = 51 ∨ i = 64 ∨ i = 72)) → gi σ' a i = gi σ a i) ∧ (∀ a i, a ≠ 109 → a ≠ 110 → gl σ' a i = gl σ a i)
theorem RG.rf (b : Nat) (σ : Mm) : RG b σ σ := ⟨fun _ _ _ _ => rfl, fun _ _ _ _ => rfl⟩
theorem RG.tr {b : Nat} {x y z : Mm} (h : RG b x y) (h' : RG b y z) : RG b x z := ⟨fun a i p q => (h'.1 a i p q).trans (h.1 a i p q), fun a i p q => (h'.2 a i p q).trans (h.2 a i p q)⟩
theorem RF.rg {b : Nat} {x y : Mm} (h : RF b x y) : RG b x y := ⟨fun a i p q => h.1 a i p (fun r => q ⟨r.1, Or.inl r.2⟩), h.2⟩
theorem RG.rk {b : Nat} {x y : Mm} (h : Rk x y) : RG b x y := (RF.rk h).rg
theorem RG.rb {T : Nat → Nat → Int} {b : Nat} {x y : Mm} (h : RG b x y) (hr : RB T x) : RB T y := RB_eq (fun i p q => h.1 85 i (by unfold hf; omega) (by omega)) (fun a i p q => h.1 a i (by unfold hf; omega) (by omega)) hr
theorem RF.rb {T : Nat → Nat → Int} {b : Nat} {x y : Mm} (h : RF b x y) (hr : RB T x) : RB T y := RB_eq (fun i p q => h.1 85 i (by unfold hf; omega) (by omega)) (fun a i p q => h.1 a i (by unfold hf; omega) (by omega)) hr
theorem RW_rk {T V : Nat → Nat → Int} {b : Nat} {x y : Mm} (h : Rk x y) (hr : RW T V x b) : RW T V y b := by
  obtain ⟨r1, r2, r3, r4, r5, r6, r7⟩ := hr
  have g : ∀ a i, a ≠ 85 → gi y a i = gi x a i := fun a i p => h.1 a i (fun q => p q.1)
  refine ⟨by rw [g _ _ (by omega)]; exact r1, fun c hc => by rw [g _ _ (by omega)]; exact r2 c hc, fun c hc => ?_, fun c hc => ?_, fun c hc => by rw [g _ _ (by omega)]; exact r5 c hc, by rw [g _ _ (by omega)]; exact r6, by rw [g _ _ (by omega)]; exact r7⟩
  · rw [g 116 _ (by omega), g 117 _ (by omega), g 118 _ (by omega)]; exact r3 c hc
  · rw [g 111 _ (by omega), g 112 _ (by omega), g 113 _ (by omega), g 119 _ (by omega)]; exact r4 c hc
theorem RW_lay {T V : Nat → Nat → Int} {σ σ' : Mm} {b u c : Nat} (hw : RW T V σ b) (hu : u < 5) (hc : c < 10) (hs : 0 ≤ V 6 u ∧ V 6 u ≤ 8) (hf0 : V 4 c = 0) (hx : V 6 u = 8 → ∃ x : Nat, x < 10 ∧ x ≠ c ∧ V 7 (u * 8) = (x : Int) ∧ V 4 x = 1)
    (g : ∀ a i, a ≠ 113 → a ≠ 114 → a ≠ 118 → a ≠ 122 → gi σ' a i = gi σ a i)
    (g113 : ∀ i, gi σ' 113 i = if i = 5 * b + u then (if V 6 u < 8 then V 6 u + 1 else 8) else gi σ 113 i)
    (g114 : ∀ i, gi σ' 114 i = if V 6 u < 8 then (if i = 40 * b + (u * 8 + (V 6 u).toNat) then (c : Int) else gi σ 114 i) else (if i = 40 * b + (u * 8 + 7) then (c : Int) else if 40 * b + u * 8 ≤ i ∧ i < 40 * b + u * 8 + 7 then gi σ 114 (i + 1) else gi σ 114 i))
    (g118 : ∀ i, gi σ' 118 i = if i = 10 * b + c then 1 else if V 6 u < 8 then gi σ 118 i else (if i = 10 * b + (V 7 (u * 8)).toNat then 3 else gi σ 118 i))
    (g122 : ∀ i, gi σ' 122 i = if V 6 u < 8 then gi σ 122 i else if i = b then gi σ 122 b + 1 else gi σ 122 i) : RW T (layV V u c) σ' b := by
  obtain ⟨r1, r2, r3, r4, r5, r6, r7⟩ := hw
  have hl : ∀ f i, f ≠ 4 → f ≠ 6 → f ≠ 7 → layV V u c f i = V f i := fun f i h4 h6 h7 => by simp [layV, h4, h6, h7]
  have h4 : layV V u c 4 = if V 6 u < 8 then upf (V 4) c 1 else upf (upf (V 4) (V 7 (u * 8)).toNat 3) c 1 := by
    funext i
    by_cases h : V 6 u < 8
    · simp only [layV, if_pos h]; simp [upf]
    · simp only [layV, if_neg h]; simp [upf]
  refine ⟨?_, fun x hx => ?_, fun x hx => ⟨?_, ?_, ?_⟩, fun x hx => ⟨?_, ?_, ?_, ?_⟩, fun i hi => ?_, ?_, ?_⟩
  · rw [g _ _ (by omega) (by omega) (by omega) (by omega), hl _ _ (by omega) (by omega) (by omega)]; exact r1
  · rw [g _ _ (by omega) (by omega) (by omega) (by omega), hl _ _ (by omega) (by omega) (by omega)]; exact r2 x hx
  · rw [g _ _ (by omega) (by omega) (by omega) (by omega), hl _ _ (by omega) (by omega) (by omega)]; exact (r3 x hx).1
  · rw [g _ _ (by omega) (by omega) (by omega) (by omega), hl _ _ (by omega) (by omega) (by omega)]; exact (r3 x hx).2.1
  · rw [g118, h4]
    have h3 := (r3 x hx).2.2
    by_cases h : V 6 u < 8
    · simp only [if_pos h, upf]
      by_cases hxc : x = c
      · simp [hxc]
      · rw [if_neg (by omega), if_neg hxc]; exact h3
    · simp only [if_neg h, upf]
      by_cases hxc : x = c
      · simp [hxc]
      · rw [if_neg (by omega), if_neg hxc]
        split
        · rw [if_pos (by omega)]
        · rw [if_neg (by omega)]; exact h3
  · rw [g _ _ (by omega) (by omega) (by omega) (by omega), hl _ _ (by omega) (by omega) (by omega)]; exact (r4 x hx).1
  · rw [g _ _ (by omega) (by omega) (by omega) (by omega), hl _ _ (by omega) (by omega) (by omega)]; exact (r4 x hx).2.1
  · rw [g113]
    have h3 := (r4 x hx).2.2.1
    by_cases h : V 6 u < 8
    · simp only [layV, if_pos h]
      by_cases hxu : x = u
      · simp [hxu]
      · rw [if_neg (by omega)]; simp [hxu]; exact h3
    · simp only [layV, if_neg h]
      by_cases hxu : x = u
      · simp [hxu]
      · rw [if_neg (by omega)]; simp [hxu]; exact h3
  · rw [g _ _ (by omega) (by omega) (by omega) (by omega), hl _ _ (by omega) (by omega) (by omega)]; exact (r4 x hx).2.2.2
  · rw [g114]
    by_cases h : V 6 u < 8
    · simp only [layV, if_pos h]
      by_cases hii : i = u * 8 + (V 6 u).toNat
      · rw [if_pos (by omega)]; simp [hii]
      · rw [if_neg (by omega)]; simp [hii]; exact r5 i hi
    · simp only [layV, if_neg h]
      by_cases hii : i = u * 8 + 7
      · rw [if_pos (by omega)]; simp [hii]
      · rw [if_neg (by omega)]
        by_cases hi2 : u * 8 ≤ i ∧ i < u * 8 + 7
        · rw [if_pos (by omega)]; simp [hii, hi2]; rw [← r5 (i + 1) (by omega)]; congr 1
        · rw [if_neg (by omega)]; simp only [if_neg hii, if_neg hi2]; simpa using r5 i hi
  · rw [g _ _ (by omega) (by omega) (by omega) (by omega), r6, h4]
    by_cases h : V 6 u < 8
    · simp only [if_pos h]
      rw [cnt_upf hc, hf0]; simp [b2i]
    · simp only [if_neg h]
      obtain ⟨x, x1, x2, x3, x4⟩ := hx (by omega)
      rw [x3, Int.toNat_natCast, cnt_upf hc, cnt_upf x1, upf_ne _ _ (by omega), hf0, x4]; simp [b2i]
  · rw [g122, h4]
    by_cases h : V 6 u < 8
    · simp only [if_pos h]
      rw [cnt_upf hc, hf0, r7]; simp [b2i]
    · simp only [if_neg h, if_true]
      obtain ⟨x, x1, x2, x3, x4⟩ := hx (by omega)
      rw [x3, Int.toNat_natCast, cnt_upf hc, cnt_upf x1, upf_ne _ _ (by omega), hf0, x4, r7]; simp [b2i]
theorem v_layR_0 {n : Nat}  (b : Nat) (u : Nat) (c : Nat) {σ : Mm} {P : Mm → Prop} (o1 : rg ((40 : Int) * (b : Int))) (o2 : rg ((8 : Int) * (u : Int))) (o3 : rg (((40 : Int) * (b : Int)) + ((8 : Int) * (u : Int)))) (o4 : rg ((5 : Int) * (b : Int))) (o5 : rg (((5 : Int) * (b : Int)) + (u : Int))) (o6 : (0 ≤ (((5 : Int) * (b : Int)) + (u : Int)) ∧ (((5 : Int) * (b : Int)) + (u : Int)) < 10)) (o7 : (gi σ 113 ((5 * b) + u)) ≠ (8 : Int) → rg ((((40 : Int) * (b : Int)) + ((8 : Int) * (u : Int))) + (gi σ 113 ((5 * b) + u)))) (o8 : (gi σ 113 ((5 * b) + u)) ≠ (8 : Int) → (0 ≤ ((((40 : Int) * (b : Int)) + ((8 : Int) * (u : Int))) + (gi σ 113 ((5 * b) + u))) ∧ ((((40 : Int) * (b : Int)) + ((8 : Int) * (u : Int))) + (gi σ 113 ((5 * b) + u))) < 80)) (o9 : (gi σ 113 ((5 * b) + u)) ≠ (8 : Int) → ∀ t10 : Mm, t10 = si σ 114 ((((40 : Int) * (b : Int)) + ((8 : Int) * (u : Int))) + (gi σ 113 ((5 * b) + u))).toNat (c : Int) → rg ((gi σ 113 ((5 * b) + u)) + 1)) (o10 : (gi σ 113 ((5 * b) + u)) ≠ (8 : Int) → ∀ t10 : Mm, t10 = si σ 114 ((((40 : Int) * (b : Int)) + ((8 : Int) * (u : Int))) + (gi σ 113 ((5 * b) + u))).toNat (c : Int) → ∀ t12 : Mm, t12 = si t10 113 ((5 * b) + u) ((gi σ 113 ((5 * b) + u)) + 1) → rg ((10 : Int) * (b : Int))) (o11 : (gi σ 113 ((5 * b) + u)) ≠ (8 : Int) → ∀ t10 : Mm, t10 = si σ 114 ((((40 : Int) * (b : Int)) + ((8 : Int) * (u : Int))) + (gi σ 113 ((5 * b) + u))).toNat (c : Int) → ∀ t12 : Mm, t12 = si t10 113 ((5 * b) + u) ((gi σ 113 ((5 * b) + u)) + 1) → rg (((10 : Int) * (b : Int)) + (c : Int))) (o12 : (gi σ 113 ((5 * b) + u)) ≠ (8 : Int) → ∀ t10 : Mm, t10 = si σ 114 ((((40 : Int) * (b : Int)) + ((8 : Int) * (u : Int))) + (gi σ 113 ((5 * b) + u))).toNat (c : Int) → ∀ t12 : Mm, t12 = si t10 113 ((5 * b) + u) ((gi σ 113 ((5 * b) + u)) + 1) → (0 ≤ (((10 : Int) * (b : Int)) + (c : Int)) ∧ (((10 : Int) * (b : Int)) + (c : Int)) < 20)) (o13 : (gi σ 113 ((5 * b) + u)) = (8 : Int) → rg ((10 : Int) * (b : Int))) (o14 : (gi σ 113 ((5 * b) + u)) = (8 : Int) → (0 ≤ (((40 : Int) * (b : Int)) + ((8 : Int) * (u : Int))) ∧ (((40 : Int) * (b : Int)) + ((8 : Int) * (u : Int))) < 80)) (o15 : (gi σ 113 ((5 * b) + u)) = (8 : Int) → rg (((10 : Int) * (b : Int)) + (gi σ 114 ((40 * b) + (8 * u))))) (o16 : (gi σ 113 ((5 * b) + u)) = (8 : Int) → (0 ≤ (((10 : Int) * (b : Int)) + (gi σ 114 ((40 * b) + (8 * u)))) ∧ (((10 : Int) * (b : Int)) + (gi σ 114 ((40 * b) + (8 * u)))) < 20)) (o17 : (gi σ 113 ((5 * b) + u)) = (8 : Int) → ∀ t21 : Mm, t21 = si σ 118 (((10 : Int) * (b : Int)) + (gi σ 114 ((40 * b) + (8 * u)))).toNat (3 : Int) → (0 ≤ (b : Int) ∧ (b : Int) < 2)) (o18 : (gi σ 113 ((5 * b) + u)) = (8 : Int) → ∀ t21 : Mm, t21 = si σ 118 (((10 : Int) * (b : Int)) + (gi σ 114 ((40 * b) + (8 * u)))).toNat (3 : Int) → rg ((gi σ 122 b) + 1)) (l1 : (gi σ 113 ((5 * b) + u)) ≠ (8 : Int) → ∀ t10 : Mm, t10 = si σ 114 ((((40 : Int) * (b : Int)) + ((8 : Int) * (u : Int))) + (gi σ 113 ((5 * b) + u))).toNat (c : Int) → ∀ t12 : Mm, t12 = si t10 113 ((5 * b) + u) ((gi σ 113 ((5 * b) + u)) + 1) → ∀ t16 : Mm, t16 = si t12 118 ((10 * b) + c) (1 : Int) → P t16) (l2 : (gi σ 113 ((5 * b) + u)) = (8 : Int) → ∀ t21 : Mm, t21 = si σ 118 (((10 : Int) * (b : Int)) + (gi σ 114 ((40 * b) + (8 * u)))).toNat (3 : Int) → ∀ t24 : Mm, t24 = si t21 122 b ((gi σ 122 b) + 1) → R 211 57 [some (vr 85), some (vi (b : Int)), some (vi (u : Int)), some (vi (c : Int)), some (vi (((40 : Int) * (b : Int)) + ((8 : Int) * (u : Int)))), some (vi 0)] [] (shF n) 0 0 t24 (Qv (shF n) P)) : Cv 211 [vr 85, vi (b : Int), vi (u : Int), vi (c : Int)] (shF n) σ P :=
  show R 211 0 [some (vr 85), some (vi (b : Int)), some (vi (u : Int)), some (vi (c : Int)), none, none] [] (shF n) 0 0 σ (Qv (shF n) P) from wpK_R 54 [57] ((have k1 := (o1); And.intro k1 ((have k2 := (o2); And.intro k2 ((have k3 := (o3); And.intro k3 ((have k4 := (o4); And.intro k4 ((have k5 := (o5); And.intro k5 ((have k6 := (o6); And.intro k6 (And.intro (fun q7 => And.intro k4 (And.intro k5 (And.intro k6 ((have k8 := (o7 q7); And.intro k8 ((have k9 := (o8 q7); And.intro k9 (And.intro k4 (And.intro k5 (And.intro k6 ((have k11 := (o9 q7 _ rfl); And.intro k11 (And.intro k6 ((have k13 := (o10 q7 _ rfl _ rfl); And.intro k13 ((have k14 := (o11 q7 _ rfl _ rfl); And.intro k14 ((have k15 := (o12 q7 _ rfl _ rfl); And.intro k15 (And.intro ret0 ⟨rfl, rfl, (l1 q7 _ rfl _ rfl _ rfl)⟩)))))))))))))))))))) (fun q7 => (have k17 := (o13 (Classical.not_not.mp q7)); And.intro k17 ((have k18 := (o14 (Classical.not_not.mp q7)); And.intro k18 ((have k19 := (o15 (Classical.not_not.mp q7)); And.intro k19 ((have k20 := (o16 (Classical.not_not.mp q7)); And.intro k20 ((have k22 := (o17 (Classical.not_not.mp q7) _ rfl); And.intro k22 ((have k23 := (o18 (Classical.not_not.mp q7) _ rfl); And.intro k23 (And.intro k22 ((l2 (Classical.not_not.mp q7) _ rfl _ rfl))))))))))))))))))))))))))))
theorem v_layR_57 {n : Nat}  (b : Nat) (u : Nat) (c : Nat) (x : Int) (k : Nat) {σ : Mm} {P : Mm → Prop} (o1 : (7 : Int) ≤ (k : Int) → rg ((5 : Int) * (b : Int))) (o2 : (7 : Int) ≤ (k : Int) → rg (((5 : Int) * (b : Int)) + (u : Int))) (o3 : (7 : Int) ≤ (k : Int) → (0 ≤ (((5 : Int) * (b : Int)) + (u : Int)) ∧ (((5 : Int) * (b : Int)) + (u : Int)) < 10)) (o4 : (7 : Int) ≤ (k : Int) → rg ((gi σ 113 ((5 * b) + u)) - 1)) (o5 : (7 : Int) ≤ (k : Int) → ∀ t6 : Mm, t6 = si σ 113 ((5 * b) + u) ((gi σ 113 ((5 * b) + u)) - 1) → rg (x + (gi t6 113 ((5 * b) + u)))) (o6 : (7 : Int) ≤ (k : Int) → ∀ t6 : Mm, t6 = si σ 113 ((5 * b) + u) ((gi σ 113 ((5 * b) + u)) - 1) → (0 ≤ (x + (gi t6 113 ((5 * b) + u))) ∧ (x + (gi t6 113 ((5 * b) + u))) < 80)) (o7 : (7 : Int) ≤ (k : Int) → ∀ t6 : Mm, t6 = si σ 113 ((5 * b) + u) ((gi σ 113 ((5 * b) + u)) - 1) → ∀ t9 : Mm, t9 = si t6 114 (x + (gi t6 113 ((5 * b) + u))).toNat (c : Int) → rg ((gi t6 113 ((5 * b) + u)) + 1)) (o8 : (7 : Int) ≤ (k : Int) → ∀ t6 : Mm, t6 = si σ 113 ((5 * b) + u) ((gi σ 113 ((5 * b) + u)) - 1) → ∀ t9 : Mm, t9 = si t6 114 (x + (gi t6 113 ((5 * b) + u))).toNat (c : Int) → ∀ t11 : Mm, t11 = si t9 113 ((5 * b) + u) ((gi t6 113 ((5 * b) + u)) + 1) → rg ((10 : Int) * (b : Int))) (o9 : (7 : Int) ≤ (k : Int) → ∀ t6 : Mm, t6 = si σ 113 ((5 * b) + u) ((gi σ 113 ((5 * b) + u)) - 1) → ∀ t9 : Mm, t9 = si t6 114 (x + (gi t6 113 ((5 * b) + u))).toNat (c : Int) → ∀ t11 : Mm, t11 = si t9 113 ((5 * b) + u) ((gi t6 113 ((5 * b) + u)) + 1) → rg (((10 : Int) * (b : Int)) + (c : Int))) (o10 : (7 : Int) ≤ (k : Int) → ∀ t6 : Mm, t6 = si σ 113 ((5 * b) + u) ((gi σ 113 ((5 * b) + u)) - 1) → ∀ t9 : Mm, t9 = si t6 114 (x + (gi t6 113 ((5 * b) + u))).toNat (c : Int) → ∀ t11 : Mm, t11 = si t9 113 ((5 * b) + u) ((gi t6 113 ((5 * b) + u)) + 1) → (0 ≤ (((10 : Int) * (b : Int)) + (c : Int)) ∧ (((10 : Int) * (b : Int)) + (c : Int)) < 20)) (o11 : (k : Int) < (7 : Int) → rg (x + (k : Int))) (o12 : (k : Int) < (7 : Int) → rg ((x + (k : Int)) + 1)) (o13 : (k : Int) < (7 : Int) → (0 ≤ ((x + (k : Int)) + 1) ∧ ((x + (k : Int)) + 1) < 80)) (o14 : (k : Int) < (7 : Int) → (0 ≤ (x + (k : Int)) ∧ (x + (k : Int)) < 80)) (o15 : (k : Int) < (7 : Int) → ∀ t20 : Mm, t20 = si σ 114 (x + (k : Int)).toNat (gi σ 114 ((x + (k : Int)) + 1).toNat) → rg ((k : Int) + 1)) (l1 : (7 : Int) ≤ (k : Int) → ∀ t6 : Mm, t6 = si σ 113 ((5 * b) + u) ((gi σ 113 ((5 * b) + u)) - 1) → ∀ t9 : Mm, t9 = si t6 114 (x + (gi t6 113 ((5 * b) + u))).toNat (c : Int) → ∀ t11 : Mm, t11 = si t9 113 ((5 * b) + u) ((gi t6 113 ((5 * b) + u)) + 1) → ∀ t15 : Mm, t15 = si t11 118 ((10 * b) + c) (1 : Int) → P t15) (l2 : (k : Int) < (7 : Int) → ∀ t20 : Mm, t20 = si σ 114 (x + (k : Int)).toNat (gi σ 114 ((x + (k : Int)) + 1).toNat) → R 211 57 [some (vr 85), some (vi (b : Int)), some (vi (u : Int)), some (vi (c : Int)), some (vi x), some (vi ((k : Int) + 1))] [] (shF n) 0 0 t20 (Qv (shF n) P)) : R 211 57 [some (vr 85), some (vi (b : Int)), some (vi (u : Int)), some (vi (c : Int)), some (vi x), some (vi (k : Int))] [] (shF n) 0 0 σ (Qv (shF n) P) :=
  wpK_R 51 [57] (And.intro (fun q1 => (have k2 := (o1 q1); And.intro k2 ((have k3 := (o2 q1); And.intro k3 ((have k4 := (o3 q1); And.intro k4 ((have k5 := (o4 q1); And.intro k5 (And.intro k4 (And.intro k2 (And.intro k3 (And.intro k4 ((have k7 := (o5 q1 _ rfl); And.intro k7 ((have k8 := (o6 q1 _ rfl); And.intro k8 (And.intro k2 (And.intro k3 (And.intro k4 ((have k10 := (o7 q1 _ rfl _ rfl); And.intro k10 (And.intro k4 ((have k12 := (o8 q1 _ rfl _ rfl _ rfl); And.intro k12 ((have k13 := (o9 q1 _ rfl _ rfl _ rfl); And.intro k13 ((have k14 := (o10 q1 _ rfl _ rfl _ rfl); And.intro k14 (And.intro ret0 ⟨rfl, rfl, (l1 q1 _ rfl _ rfl _ rfl _ rfl)⟩))))))))))))))))))))))))))))) (fun q1 => (have k16 := (o11 (Int.not_le.mp q1)); And.intro k16 (And.intro k16 ((have k17 := (o12 (Int.not_le.mp q1)); And.intro k17 ((have k18 := (o13 (Int.not_le.mp q1)); And.intro k18 ((have k19 := (o14 (Int.not_le.mp q1)); And.intro k19 ((have k21 := (o15 (Int.not_le.mp q1) _ rfl); And.intro k21 ((l2 (Int.not_le.mp q1) _ rfl))))))))))))))
theorem c_layR {n b : Nat} {u c : Int} {T V : Nat → Nat → Int} {σ : Mm} {P : Mm → Prop} (hb2 : b < 2) (hw : RW T V σ b) (hu : 0 ≤ u ∧ u < 5) (hc : 0 ≤ c ∧ c < 10) (hs : 0 ≤ V 6 u.toNat ∧ V 6 u.toNat ≤ 8) (hf0 : V 4 c.toNat = 0) (hx : V 6 u.toNat = 8 → ∃ x : Nat, x < 10 ∧ x ≠ c.toNat ∧ V 7 (u.toNat * 8) = (x : Int) ∧ V 4 x = 1)
    (hP : ∀ σ', RF b σ σ' → RW T (layV V u.toNat c.toNat) σ' b → P σ') : Cv 211 [vr 85, vi (b : Int), vi u, vi c] (shF n) σ P := by
  obtain ⟨u, rfl⟩ := Int.eq_ofNat_of_zero_le hu.1
  obtain ⟨c, rfl⟩ := Int.eq_ofNat_of_zero_le hc.1
  simp only [Int.toNat_natCast] at hs hf0 hx hP
  have r113 := ((hw.2.2.2.1 u (by omega)).2.2.1)
  have r114 := hw.2.2.2.2.1
  have r122 := hw.2.2.2.2.2.2
  have hcnt := cnt_in (fun x => decide (V 4 x = 3)) 10
  rw [← r122] at hcnt
  have e114 := r114 (u * 8) (by omega)
  rw [show 40 * b + u * 8 = 40 * b + 8 * u by omega] at e114
  have hxv : V 6 u = 8 → 0 ≤ gi σ 114 (40 * b + 8 * u) ∧ gi σ 114 (40 * b + 8 * u) < 10 := fun h => by obtain ⟨x, x1, x2, x3, x4⟩ := hx h; omega
  refine v_layR_0 b u c (by intros; subst_vars; first | omega | (unfold rg; omega) | (have := hxv (by omega); omega) | (have := hxv (by omega); unfold rg; omega)) (by intros; subst_vars; first | omega | (unfold rg; omega) | (have := hxv (by omega); omega) | (have := hxv (by omega); unfold rg; omega)) (by intros; subst_vars; first | omega | (unfold rg; omega) | (have := hxv (by omega); omega) | (have := hxv (by omega); unfold rg; omega)) (by intros; subst_vars; first | omega | (unfold rg; omega) | (have := hxv (by omega); omega) | (have := hxv (by omega); unfold rg; omega)) (by intros; subst_vars; first | omega | (unfold rg; omega) | (have := hxv (by omega); omega) | (have := hxv (by omega); unfold rg; omega)) (by intros; subst_vars; first | omega | (unfold rg; omega) | (have := hxv (by omega); omega) | (have := hxv (by omega); unfold rg; omega)) (by intros; subst_vars; first | omega | (unfold rg; omega) | (have := hxv (by omega); omega) | (have := hxv (by omega); unfold rg; omega)) (by intros; subst_vars; first | omega | (unfold rg; omega) | (have := hxv (by omega); omega) | (have := hxv (by omega); unfold rg; omega)) (by intros; subst_vars; first | omega | (unfold rg; omega) | (have := hxv (by omega); omega) | (have := hxv (by omega); unfold rg; omega)) (by intros; subst_vars; first | omega | (unfold rg; omega) | (have := hxv (by omega); omega) | (have := hxv (by omega); unfold rg; omega)) (by intros; subst_vars; first | omega | (unfold rg; omega) | (have := hxv (by omega); omega) | (have := hxv (by omega); unfold rg; omega)) (by intros; subst_vars; first | omega | (unfold rg; omega) | (have := hxv (by omega); omega) | (have := hxv (by omega); unfold rg; omega)) (by intros; subst_vars; first | omega | (unfold rg; omega) | (have := hxv (by omega); omega) | (have := hxv (by omega); unfold rg; omega)) (by intros; subst_vars; first | omega | (unfold rg; omega) | (have := hxv (by omega); omega) | (have := hxv (by omega); unfold rg; omega)) (by intros; subst_vars; first | omega | (unfold rg; omega) | (have := hxv (by omega); omega) | (have := hxv (by omega); unfold rg; omega)) (by intros; subst_vars; first | omega | (unfold rg; omega) | (have := hxv (by omega); omega) | (have := hxv (by omega); unfold rg; omega)) (by intros; subst_vars; first | omega | (unfold rg; omega) | (have := hxv (by omega); omega) | (have := hxv (by omega); unfold rg; omega)) (by intros; subst_vars; first | omega | (unfold rg; omega) | (have := hxv (by omega); omega) | (have := hxv (by omega); unfold rg; omega)) ?_ ?_
  · intro h1 t10 h10 t12 h12 t16 h16
    rw [r113] at h1
    rw [r113, show (40 * (b : Int) + 8 * (u : Int) + V 6 u).toNat = 40 * b + (u * 8 + (V 6 u).toNat) by omega] at h10
    have hlt : V 6 u < 8 := by omega
    refine hP _ ⟨fun a i p q => ?_, fun a i _ _ => by rw [h16, h12, h10]; rfl⟩ (RW_lay hw (by omega) (by omega) hs hf0 hx (fun a i p1 p2 p3 p4 => ?_) (fun i => ?_) (fun i => ?_) (fun i => ?_) (fun i => ?_))
    · unfold hf at p
      rw [h16, h12, h10, gi_si, if_neg (by omega), gi_si, if_neg (by omega), gi_si, if_neg (by omega)]
    · rw [h16, h12, h10, gi_ne p3, gi_ne p1, gi_ne p2]
    · rw [h16, h12, h10, gi_ne (by omega), gi_same, gi_ne (by omega), if_pos hlt, r113]
    · rw [h16, h12, h10, gi_ne (by omega), gi_ne (by omega), gi_same, if_pos hlt]
    · rw [h16, h12, h10, gi_same, gi_ne (by omega), gi_ne (by omega), if_pos hlt]
    · rw [h16, h12, h10, gi_ne (by omega), gi_ne (by omega), gi_ne (by omega), if_pos hlt]
  · intro h1 t21 h21 t24 h24
    rw [r113] at h1
    have hxv := hxv h1
    obtain ⟨x, x1, x2, x3, x4⟩ := hx h1
    have e114x : gi σ 114 (40 * b + 8 * u) = (x : Int) := by rw [e114, x3]
    rw [e114x, show (10 * (b : Int) + (x : Int)).toNat = 10 * b + x by omega] at h21
    refine R_eq (loopUp (N := 7) (I := fun k => ∀ τ : Mm, τ.2 = σ.2 → (∀ a i, a ≠ 114 → gi τ a i = gi t24 a i) → (∀ i, gi τ 114 i = if 40 * b + u * 8 ≤ i ∧ i < 40 * b + u * 8 + k then gi σ 114 (i + 1) else gi σ 114 i) → R 211 57 [some (vr 85), some (vi (b : Int)), some (vi (u : Int)), some (vi (c : Int)), some (vi ((40 : Int) * (b : Int) + (8 : Int) * (u : Int))), some (vi (k : Int))] [] (shF n) 0 0 τ (Qv (shF n) P)) (fun k hk ih => ?_) 0 (by omega) t24 (by rw [h24, h21]; rfl) (fun _ _ _ => rfl) (fun i => by rw [if_neg (by omega), h24, h21, gi_ne (by omega), gi_ne (by omega)])) rfl
    intro τ e1 e2 e3
    have e113 := e2 113 (5 * b + u) (by omega)
    rw [h24, h21, gi_ne (by omega), gi_ne (by omega), r113, h1] at e113
    refine v_layR_57 b u c _ k (by intros; subst_vars; first | omega | (unfold rg; omega) | (simp only [gi_hit]; first | omega | (unfold rg; omega))) (by intros; subst_vars; first | omega | (unfold rg; omega) | (simp only [gi_hit]; first | omega | (unfold rg; omega))) (by intros; subst_vars; first | omega | (unfold rg; omega) | (simp only [gi_hit]; first | omega | (unfold rg; omega))) (by intros; subst_vars; first | omega | (unfold rg; omega) | (simp only [gi_hit]; first | omega | (unfold rg; omega))) (by intros; subst_vars; first | omega | (unfold rg; omega) | (simp only [gi_hit]; first | omega | (unfold rg; omega))) (by intros; subst_vars; first | omega | (unfold rg; omega) | (simp only [gi_hit]; first | omega | (unfold rg; omega))) (by intros; subst_vars; first | omega | (unfold rg; omega) | (simp only [gi_hit]; first | omega | (unfold rg; omega))) (by intros; subst_vars; first | omega | (unfold rg; omega) | (simp only [gi_hit]; first | omega | (unfold rg; omega))) (by intros; subst_vars; first | omega | (unfold rg; omega) | (simp only [gi_hit]; first | omega | (unfold rg; omega))) (by intros; subst_vars; first | omega | (unfold rg; omega) | (simp only [gi_hit]; first | omega | (unfold rg; omega))) (by intros; subst_vars; first | omega | (unfold rg; omega) | (simp only [gi_hit]; first | omega | (unfold rg; omega))) (by intros; subst_vars; first | omega | (unfold rg; omega) | (simp only [gi_hit]; first | omega | (unfold rg; omega))) (by intros; subst_vars; first | omega | (unfold rg; omega) | (simp only [gi_hit]; first | omega | (unfold rg; omega))) (by intros; subst_vars; first | omega | (unfold rg; omega) | (simp only [gi_hit]; first | omega | (unfold rg; omega))) (by intros; subst_vars; first | omega | (unfold rg; omega) | (simp only [gi_hit]; first | omega | (unfold rg; omega))) ?_ ?_
    · intro h7 t6 h6 t9 h9 t11 h11 t15 h15
      have hk7 : k = 7 := by omega
      subst hk7
      have hlt : ¬ V 6 u < 8 := by omega
      rw [e113] at h6
      have e6 : gi t6 113 (5 * b + u) = 7 := by rw [h6, gi_hit]; rfl
      rw [e6] at h9 h11
      rw [show (40 * (b : Int) + 8 * (u : Int) + 7).toNat = 40 * b + (u * 8 + 7) by omega] at h9
      have gt : ∀ a i, a ≠ 114 → gi τ a i = if a = 122 ∧ i = b then gi σ 122 b + 1 else if a = 118 ∧ i = 10 * b + x then 3 else gi σ a i := fun a i h => by rw [e2 a i h, h24, gi_si, h21, gi_si]
      refine hP _ ⟨fun a i p q => ?_, fun a i _ _ => by rw [h15, h11, h9, h6]; show τ.2 a i = _; rw [e1]; rfl⟩ (RW_lay hw (by omega) (by omega) hs hf0 hx (fun a i p1 p2 p3 p4 => ?_) (fun i => ?_) (fun i => ?_) (fun i => ?_) (fun i => ?_))
      · unfold hf at p
        rw [h15, h11, h9, h6, gi_si, if_neg (by omega), gi_si, if_neg (by omega), gi_si, if_neg (by omega), gi_si, if_neg (by omega)]
        by_cases h114 : a = 114
        · subst h114; rw [e3, if_neg (by omega)]
        · rw [gt a i h114, if_neg (by omega), if_neg (by omega)]
      · rw [h15, h11, h9, h6, gi_ne p3, gi_ne p1, gi_ne p2, gi_ne p1, gt a i p2, if_neg (by omega), if_neg (by omega)]
      · rw [h15, h11, gi_ne (by omega), gi_same]
        by_cases hi : i = 5 * b + u
        · rw [if_pos hi, if_pos hi, if_neg hlt]; rfl
        · rw [if_neg hi, if_neg hi, h9, h6, gi_ne (by omega), gi_same, if_neg hi, gt _ _ (by omega), if_neg (by omega), if_neg (by omega)]
      · rw [h15, h11, h9, h6, gi_ne (by omega), gi_ne (by omega), gi_same, gi_ne (by omega), e3, if_neg hlt]
      · rw [h15, gi_same]
        by_cases hi : i = 10 * b + c
        · rw [if_pos hi, if_pos hi]
        · rw [if_neg hi, if_neg hi, h11, h9, h6, gi_ne (by omega), gi_ne (by omega), gi_ne (by omega), gt _ _ (by omega), if_neg (by omega), if_neg hlt, x3, Int.toNat_natCast]
          simp
      · rw [h15, h11, h9, h6, gi_ne (by omega), gi_ne (by omega), gi_ne (by omega), gi_ne (by omega), gt _ _ (by omega), if_neg hlt]
        simp
    · intro h7 t20 h20
      refine ih (by omega) t20 (by rw [h20]; exact e1) (fun a i h => by rw [h20, gi_ne h]; exact e2 a i h) (fun i => ?_)
      rw [h20, show (40 * (b : Int) + 8 * (u : Int) + (k : Int)).toNat = 40 * b + u * 8 + k by omega, show (40 * (b : Int) + 8 * (u : Int) + (k : Int) + 1).toNat = 40 * b + u * 8 + k + 1 by omega, gi_same, e3, e3]
      split
      · rename_i hi
        rw [if_neg (by omega), if_pos (by omega), hi]
      · have : (40 * b + u * 8 ≤ i ∧ i < 40 * b + u * 8 + k) ↔ (40 * b + u * 8 ≤ i ∧ i < 40 * b + u * 8 + (k + 1)) := by omega
        simp only [this]
