/-! CALLS that change the state: keep, back -/
theorem Rel_I {xs : Nat → Int} {N : Nat} {σ σ' : Mm} (h : Rel xs N σ) (kx : ∀ a i, kpX a → ¬ (58 ≤ a ∧ a ≤ 66) → ¬ (a = 3 ∧ i = 10) → gi σ' a i = gi σ a i) (km : ∀ a i, kpM a i → a ≠ 130 → a ≠ 131 → ¬ (a = 85 ∧ i = 84) → gi σ' a i = gi σ a i) (ri : RelI (vw σ 5) σ') (p66 : ∀ k : Nat, k < 5 → gi σ 5 2 ≤ (k : Int) → gi σ' 66 k = 0) : Rel xs N σ' := by
  obtain ⟨r1, r2, r3, r4, r5, r6, r7, r8, r9, r10, r11, r12, r13, r14⟩ := h
  have eT : vw σ' 5 = vw σ 5 := vw_same fun a b p q => kx a b (by unfold kpX; omega) (by omega) (by omega)
  have eV : wv σ' 40 = wv σ 40 := wv_eq fun f b hf => kx _ _ (by unfold kpX; omega) (by omega) (by omega)
  unfold Rel
  rw [eT, eV, kx 40 0 (by unfold kpX; omega) (by omega) (by omega)]
  have hTm : ∀ a i, hT a i → gi σ' a i = gi σ a i := fun a i p => km a i (by simp [kpM, p]) (by unfold hT at p; omega) (by unfold hT at p; omega) (by unfold hT at p; omega)
  have hfm : ∀ a i, hf 0 a i → gi σ' a i = gi σ a i := fun a i p => km a i (by simp [kpM, p]) (by unfold hf at p; omega) (by unfold hf at p; omega) (by unfold hf at p; omega)
  have m85 : ∀ i, (i = 1 ∨ i = 4 ∨ i = 5 ∨ i = 76 ∨ i = 77 ∨ i = 82) → gi σ' 85 i = gi σ 85 i := fun i q => km 85 i (Or.inl ⟨rfl, by omega⟩) (by omega) (by omega) (by omega)
  have m : ∀ a i, (a = 86 ∨ a = 87 ∨ a = 126 ∨ a = 129) → gi σ' a i = gi σ a i := fun a i q => km a i (by rcases q with rfl | rfl | rfl | rfl <;> simp [kpM]) (by omega) (by omega) (by omega)
  refine ⟨fun i hi => by rw [kx 1 i (by unfold kpX; omega) (by omega) (by omega)]; exact r1 i hi, fun i hi => by rw [kx 0 i (by unfold kpX; omega) (by omega) (by omega)]; exact r2 i hi, fun i hi => by rw [kx 38 i (by unfold kpX; omega) (by omega) (by omega)]; exact r3 i hi, fun i hi => by rw [m 87 i (by omega)]; exact r4 i hi, r5, RB_hT r5 hTm r6, r7, r8, RW_hf r5.2.1.2 hfm r9, r10, RelU_eq (fun a i p => ?_) r11, ri, RelF_eq (fun a i p => ?_) r13, ?_⟩
  · rcases p with p | p | p
    · exact kx a i (by unfold kpX; omega) (by omega) (by omega)
    · exact m a i (by omega)
    · rw [p.1]; exact m85 i (by omega)
  · rcases p with p | p | p
    · exact kx a i (by unfold kpX; omega) (by omega) (by omega)
    · exact m a i (by omega)
    · rw [p.1]; exact m85 i (by omega)
  · obtain ⟨p1, p2, p3, p4, p5, p6⟩ := r14
    have k3 : ∀ a i, (a = 3 ∨ a = 4 ∨ a = 5 ∨ a = 48) → ¬ (a = 3 ∧ i = 10) → gi σ' a i = gi σ a i := fun a i q z => kx a i (by unfold kpX; omega) (by omega) z
    refine ⟨?_, ?_, fun i hi => ?_, ?_, ?_, fun k hk hk2 => ⟨?_, ?_⟩⟩
    · rw [k3 3 1 (by omega) (by omega)]; exact p1
    · rw [k3 3 1 (by omega) (by omega), m85 1 (by omega)]; exact p2
    · rw [k3 3 1 (by omega) (by omega)] at hi
      rw [m 86 _ (by omega), k3 4 _ (by omega) (by omega)]; exact p3 i hi
    · rw [m85 4 (by omega), k3 3 2 (by omega) (by omega)]; exact p4
    · rw [m85 5 (by omega), k3 3 3 (by omega) (by omega)]; exact p5
    · rw [k3 5 2 (by omega) (by omega)] at hk2; rw [k3 48 k (by omega) (by omega)]; exact (p6 k hk hk2).1
    · rw [k3 5 2 (by omega) (by omega)] at hk2; exact Or.inr (p66 k hk hk2)
theorem v_kp {n : Nat}   {σ : Mm} {P : Int → Mm → Prop} (l1 : ∀ t1 : Mm, t1 = si σ 58 0 (gi σ 40 0) → ∀ t2 : Mm, t2 = si t1 58 1 (gi σ 40 1) → ∀ t3 : Mm, t3 = cp t2 41 0 59 0 10 → ∀ t4 : Mm, t4 = cp t3 42 0 60 0 10 → ∀ t5 : Mm, t5 = cp t4 43 0 61 0 10 → ∀ t6 : Mm, t6 = cp t5 44 0 62 0 10 → ∀ t7 : Mm, t7 = cp t6 45 0 63 0 5 → ∀ t8 : Mm, t8 = cp t7 46 0 64 0 5 → ∀ t9 : Mm, t9 = cp t8 47 0 65 0 40 → ∀ t10 : Mm, t10 = cp t9 48 0 66 0 5 → ∀ t11 : Mm, t11 = si t10 3 10 (1 : Int) → P (gi σ 40 0) t11) : Ci 151 [vr 3] (shF n) σ P :=
  show R 151 0 [some (vr 3)] [] (shF n) 0 0 σ (Qi (shF n) P) from wpK_R 12 [] ((show R 82 0 [some (vr 58), some (vr 40)] [] (shF n) 0 0 _ _ from wpK_R 73 [] (And.intro (by decide) (And.intro (by decide) (And.intro (by decide) (And.intro (by decide) (And.intro (by decide) (And.intro (by decide) (And.intro (by decide) (And.intro (by decide) (And.intro ret0 ⟨rfl, rfl, And.intro (Or.inr rfl) (And.intro ret0 ⟨rfl, _, rfl, (l1 _ rfl _ rfl _ rfl _ rfl _ rfl _ rfl _ rfl _ rfl _ rfl _ rfl _ rfl)⟩)⟩)))))))))))
theorem v_kpR_0 {n : Nat}   {σ : Mm} {P : Int → Mm → Prop} (o1 : ∀ t1 : Mm, t1 = si σ 85 2 (0 : Int) → ∀ t2 : Mm, t2 = si t1 85 84 (1 : Int) → KB t2) (o2 : ∀ t1 : Mm, t1 = si σ 85 2 (0 : Int) → ∀ t2 : Mm, t2 = si t1 85 84 (1 : Int) → 0 ≤ (0 : Int)) (o3 : ∀ t1 : Mm, t1 = si σ 85 2 (0 : Int) → ∀ t2 : Mm, t2 = si t1 85 84 (1 : Int) → 0 + 76 ≤ (if 130 = 129 then 1520 else 76)) (l1 : ∀ t1 : Mm, t1 = si σ 85 2 (0 : Int) → ∀ t2 : Mm, t2 = si t1 85 84 (1 : Int) → ∀ s4 : Mm, Pt t2 s4 130 0 → R 272 21 [some (vr 85), some (vi 0)] [] (shF n) 0 0 s4 (Qi (shF n) P)) : Ci 272 [vr 85] (shF n) σ P :=
  show R 272 0 [some (vr 85), none] [] (shF n) 0 0 σ (Qi (shF n) P) from wpK_R 14 [21, 62] (And.intro (Or.inr rfl) ((ci_put_130 (q := (0 : Int)) (o1 _ rfl _ rfl) (o2 _ rfl _ rfl) (o3 _ rfl _ rfl) (fun s4 h5 => (l1 _ rfl _ rfl s4 h5)))))
theorem v_kpR_21 {n : Nat}  (k : Nat) {σ : Mm} {P : Int → Mm → Prop} (o1 : (k : Int) < (10 : Int) → (0 ≤ (k : Int) ∧ (k : Int) < 20)) (o2 : (k : Int) < (10 : Int) → (0 ≤ (k : Int) ∧ (k : Int) < 27)) (o3 : (k : Int) < (10 : Int) → ∀ t4 : Mm, t4 = si σ 131 k (gi σ 116 k) → rg ((10 : Int) + (k : Int))) (o4 : (k : Int) < (10 : Int) → ∀ t4 : Mm, t4 = si σ 131 k (gi σ 116 k) → (0 ≤ ((10 : Int) + (k : Int)) ∧ ((10 : Int) + (k : Int)) < 27)) (o5 : (k : Int) < (10 : Int) → ∀ t4 : Mm, t4 = si σ 131 k (gi σ 116 k) → ∀ t7 : Mm, t7 = si t4 131 (10 + k) (gi σ 117 k) → rg ((k : Int) + 1)) (l1 : (10 : Int) ≤ (k : Int) → R 272 62 [some (vr 85), some (vi 0)] [] (shF n) 0 0 σ (Qi (shF n) P)) (l2 : (k : Int) < (10 : Int) → ∀ t4 : Mm, t4 = si σ 131 k (gi σ 116 k) → ∀ t7 : Mm, t7 = si t4 131 (10 + k) (gi σ 117 k) → R 272 21 [some (vr 85), some (vi ((k : Int) + 1))] [] (shF n) 0 0 t7 (Qi (shF n) P)) : R 272 21 [some (vr 85), some (vi (k : Int))] [] (shF n) 0 0 σ (Qi (shF n) P) :=
  wpK_R 24 [21, 62] (And.intro (fun q1 => (l1 q1)) (fun q1 => (have k2 := (o1 (Int.not_le.mp q1)); And.intro k2 ((have k3 := (o2 (Int.not_le.mp q1)); And.intro k3 ((have k5 := (o3 (Int.not_le.mp q1) _ rfl); And.intro k5 (And.intro k2 ((have k6 := (o4 (Int.not_le.mp q1) _ rfl); And.intro k6 ((have k8 := (o5 (Int.not_le.mp q1) _ rfl _ rfl); And.intro k8 ((l2 (Int.not_le.mp q1) _ rfl _ rfl))))))))))))))
theorem v_kpR_62 {n : Nat}  (k : Nat) {σ : Mm} {P : Int → Mm → Prop} (o1 : (k : Int) < (5 : Int) → rg ((20 : Int) + (k : Int))) (o2 : (k : Int) < (5 : Int) → (0 ≤ (k : Int) ∧ (k : Int) < 10)) (o3 : (k : Int) < (5 : Int) → (0 ≤ ((20 : Int) + (k : Int)) ∧ ((20 : Int) + (k : Int)) < 27)) (o4 : (k : Int) < (5 : Int) → ∀ t7 : Mm, t7 = si σ 131 (20 + k) (gi σ 119 k) → rg ((k : Int) + 1)) (l1 : (5 : Int) ≤ (k : Int) → ∀ t2 : Mm, t2 = si σ 131 25 (gi σ 120 0) → ∀ t3 : Mm, t3 = si t2 131 26 (gi σ 121 0) → P (gi σ 120 0) t3) (l2 : (k : Int) < (5 : Int) → ∀ t7 : Mm, t7 = si σ 131 (20 + k) (gi σ 119 k) → R 272 62 [some (vr 85), some (vi ((k : Int) + 1))] [] (shF n) 0 0 t7 (Qi (shF n) P)) : R 272 62 [some (vr 85), some (vi (k : Int))] [] (shF n) 0 0 σ (Qi (shF n) P) :=
  wpK_R 24 [62] (And.intro (fun q1 => And.intro (by decide) (And.intro (by decide) (And.intro (by decide) (And.intro (by decide) (And.intro (by decide) (And.intro ret0 ⟨rfl, _, rfl, (l1 q1 _ rfl _ rfl)⟩)))))) (fun q1 => (have k4 := (o1 (Int.not_le.mp q1)); And.intro k4 ((have k5 := (o2 (Int.not_le.mp q1)); And.intro k5 ((have k6 := (o3 (Int.not_le.mp q1)); And.intro k6 ((have k8 := (o4 (Int.not_le.mp q1) _ rfl); And.intro k8 ((l2 (Int.not_le.mp q1) _ rfl)))))))))))
theorem q_keep {xs : Nat → Int} {N n : Nat} {σ : Mm} (h : Rel xs N σ) : Bi xs N n 151 [vr 3] 272 [vr 85] σ := by
  have hb := h.2.2.2.2.1
  have r7 := h.2.2.2.2.2.2.1
  have r8 := h.2.2.2.2.2.2.2.1
  have r9 := h.2.2.2.2.2.2.2.2.1
  have hw0 := Rel_w0 h
  refine v_kp ?_
  intro t1 e1 t2 e2 t3 e3 t4 e4 t5 e5 t6 e6 t7 e7 t8 e8 t9 e9 t10 e10 t11 e11
  have hout : ∀ a i, ¬ (58 ≤ a ∧ a ≤ 66) → ¬ (a = 3 ∧ i = 10) → gi t11 a i = gi σ a i := fun a i p q => by
    rw [e11, gi_si, if_neg q, e10, e9, e8, e7, e6, e5, e4, e3, e2, e1]
    simp only [gi_si, gi_cp]
    repeat rw [if_neg (by omega)]
  have heq : eqW (wv t11 58) (wv σ 40) := fun f i p => by
    have q : f ≤ 8 := by unfold inW at p; omega
    rw [e11, e10, e9, e8, e7, e6, e5, e4, e3, e2, e1]
    simp only [wv, if_pos q]
    unfold inW at p
    rcases cases9 q with rfl | rfl | rfl | rfl | rfl | rfl | rfl | rfl | rfl
    all_goals simp [gi_si, gi_cp]
    · have : i = 0 ∨ i = 1 := by omega
      rcases this with rfl | rfl <;> simp
    all_goals (intro; omega)
  have h310 : gi t11 3 10 = 1 := by rw [e11, gi_si, if_pos ⟨rfl, rfl⟩]
  have f58 : ∀ f i, inW f i → gi t11 (58 + f) i = gi σ (40 + f) i := fun f i p => by
    have q : f ≤ 8 := by unfold inW at p; omega
    have := heq f i p
    simp only [wv, if_pos q] at this
    exact this
  clear e1 e2 e3 e4 e5 e6 e7 e8 e9 e10 e11
  refine v_kpR_0 (by intros; subst_vars; first | exact (fun i hi => by rw [gi_ne (by omega), gi_ne (by omega), hout _ _ (by omega) (by omega)]; exact Rel_KB h i hi) | omega | (rw [if_neg (by omega)]; omega)) (by intros; subst_vars; first | exact (fun i hi => by rw [gi_ne (by omega), gi_ne (by omega), hout _ _ (by omega) (by omega)]; exact Rel_KB h i hi) | omega | (rw [if_neg (by omega)]; omega)) (by intros; subst_vars; first | exact (fun i hi => by rw [gi_ne (by omega), gi_ne (by omega), hout _ _ (by omega) (by omega)]; exact Rel_KB h i hi) | omega | (rw [if_neg (by omega)]; omega)) ?_
  intro s1 g1 s2 g2 s4 pt
  have ho2 : ∀ a i, ¬ (a = 85 ∧ (i = 2 ∨ i = 84)) → gi s2 a i = gi t11 a i := fun a i q => by rw [g2, gi_si, if_neg (by omega), g1, gi_si, if_neg (by omega)]
  have h84 : gi s2 85 84 = 1 := by rw [g2, gi_si, if_pos ⟨rfl, rfl⟩]
  have hpt : ∀ r, ptF s2 r = ptF σ r := fun r => by
    have e : ∀ a i, 86 ≤ a → gi s2 a i = gi σ a i := fun a i q => by rw [ho2 a i (by omega)]; exact hout a i (by omega) (by omega)
    unfold ptF
    rw [e 111 _ (by omega), e 112 _ (by omega), e 113 _ (by omega), e 114 _ (by omega), e 115 _ (by omega), e 118 _ (by omega), e 122 _ (by omega)]
  have ho4 : ∀ a i, a ≠ 130 → ¬ (a = 85 ∧ (i = 2 ∨ i = 84)) → gi s4 a i = gi t11 a i := fun a i p q => by rw [pt.1 a i (by omega)]; exact ho2 a i q
  have h484 : gi s4 85 84 = 1 := by rw [pt.1 85 84 (by omega)]; exact h84
  have h4130 : ∀ r, r < 76 → gi s4 130 (0 + r) = ptF σ r := fun r hr => by rw [pt.2.2 r hr]; exact hpt r
  refine loopUp (N := 10) (I := fun k => ∀ τ : Mm, (∀ a i, a ≠ 131 → gi τ a i = gi s4 a i) → (∀ c, c < k → gi τ 131 c = gi σ 42 c ∧ gi τ 131 (10 + c) = gi σ 43 c) → R 272 21 [some (vr 85), some (vi (k : Int))] [] (shF n) 0 0 τ (Qi (shF n) (fun v' s' => v' = gi σ 40 0 ∧ Rel xs N s'))) (fun k hk ih => ?_) 0 (by omega) s4 (fun _ _ _ => rfl) (fun _ q => by omega)
  intro τ f1 f2
  refine v_kpR_21 k (by intros; first | omega | (unfold rg; omega)) (by intros; first | omega | (unfold rg; omega)) (by intros; first | omega | (unfold rg; omega)) (by intros; first | omega | (unfold rg; omega)) (by intros; first | omega | (unfold rg; omega)) ?_ ?_
  · intro hge
    rw [show k = 10 by omega] at f2
    clear ih
    refine loopUp (N := 5) (I := fun k => ∀ τ : Mm, (∀ a i, a ≠ 131 → gi τ a i = gi s4 a i) → (∀ c, c < 10 → gi τ 131 c = gi σ 42 c ∧ gi τ 131 (10 + c) = gi σ 43 c) → (∀ c, c < k → gi τ 131 (20 + c) = gi σ 48 c) → R 272 62 [some (vr 85), some (vi (k : Int))] [] (shF n) 0 0 τ (Qi (shF n) (fun v' s' => v' = gi σ 40 0 ∧ Rel xs N s'))) (fun k hk ih => ?_) 0 (by omega) τ f1 f2 (fun _ q => by omega)
    intro τ f1 f2 f3
    refine v_kpR_62 k (by intros; first | omega | (unfold rg; omega)) (by intros; first | omega | (unfold rg; omega)) (by intros; first | omega | (unfold rg; omega)) (by intros; first | omega | (unfold rg; omega)) ?_ ?_
    · intro hge u2 g2' u3 g3'
      have h120 : gi τ 120 0 = gi σ 40 0 := by rw [f1 _ _ (by omega), ho4 _ _ (by omega) (by omega), hout _ _ (by omega) (by omega)]; exact hw0.1
      have h121 : gi τ 121 0 = cnt (fun x => decide (gi σ 44 x = 2)) 10 := by rw [f1 _ _ (by omega), ho4 _ _ (by omega) (by omega), hout _ _ (by omega) (by omega)]; exact hw0.2.2.2.1
      refine ⟨h120, ?_⟩
      have hl : ∀ a i, a ≠ 131 → gi u3 a i = gi s4 a i := fun a i q => by rw [g3', gi_ne q, g2', gi_ne q]; exact f1 a i q
      have hl131 : ∀ i, i ≠ 25 → i ≠ 26 → gi u3 131 i = gi τ 131 i := fun i p q => by rw [g3', gi_si, if_neg (by omega), g2', gi_si, if_neg (by omega)]
      have hlow : ∀ a i, a ≠ 130 → a ≠ 131 → ¬ (a = 85 ∧ (i = 2 ∨ i = 84)) → gi u3 a i = gi t11 a i := fun a i p q z => by rw [hl a i q]; exact ho4 a i p z
      have hw58 : wv u3 58 = wv t11 58 := wv_eq fun f b hf => hlow _ _ (by omega) (by omega) (by omega)
      have c58 : ∀ f i, inW f i → gi u3 (58 + f) i = gi σ (40 + f) i := fun f i p => by
        have q : f ≤ 8 := by unfold inW at p; omega
        rw [hlow _ _ (by omega) (by omega) (by omega)]; exact f58 f i p
      refine Rel_I h (fun a i p q z => ?_) (fun a i p q1 q2 q3 => ?_) ⟨?_, Or.inr ⟨?_, ?_, ?_, ?_, ?_, fun c hc => ⟨?_, ?_⟩, fun c hc => ?_, ?_, ?_⟩⟩ (fun k hk hk2 => ?_)
      · rw [hlow a i (by unfold kpX at p; omega) (by unfold kpX at p; omega) (by unfold kpX at p; omega)]; exact hout a i q z
      · have ha := kpM_85 p
        have hn := kpM_sc p
        rw [hlow a i q1 q2 (by omega)]; exact hout a i (by omega) (by omega)
      · rw [hlow 3 10 (by omega) (by omega) (by omega), h310, hl 85 84 (by omega), h484]
      · rw [hlow 3 10 (by omega) (by omega) (by omega), h310]
      · rw [hw58]; exact WI_eqW hb.1.2 hb.2.1.2 heq.sy r7
      · rw [hw58]; exact UH_eqW hb.2.1.2 heq.sy r8
      · have := c58 0 0 (by unfold inW; omega)
        rw [show (58 + 0 : Nat) = 58 from rfl] at this
        rw [this]; exact hw0.2.1.2
      · rw [hw58]
        exact Snap_pt (RW_eqW hb.2.1.2 heq.sy r9) (fun r hr => by rw [hl _ _ (by omega)]; exact h4130 r hr)
      · rw [hl131 c (by omega) (by omega), (f2 c hc).1]; exact (c58 2 c (by unfold inW; omega)).symm
      · rw [hl131 (10 + c) (by omega) (by omega), (f2 c hc).2]; exact (c58 3 c (by unfold inW; omega)).symm
      · rw [hl131 (20 + c) (by omega) (by omega), f3 c (by omega)]; exact (c58 8 c (by unfold inW; omega)).symm
      · have : gi u3 131 25 = gi σ 40 0 := by rw [g3', gi_si, if_neg (by omega), g2', gi_si, if_pos ⟨rfl, rfl⟩, h120]
        rw [this]; exact (c58 0 0 (by unfold inW; omega)).symm
      · have : gi u3 131 26 = cnt (fun x => decide (gi σ 44 x = 2)) 10 := by rw [g3', gi_si, if_pos ⟨rfl, rfl⟩, h121]
        rw [this]
        exact cnt_congr fun x hx => by rw [show gi u3 62 x = gi σ 44 x from c58 4 x (by unfold inW; omega)]
      · have := c58 8 k (by unfold inW; omega)
        rw [show (58 + 8 : Nat) = 66 from rfl] at this
        rw [this]
        exact (h.2.2.2.2.2.2.2.2.2.2.2.2.2.2.2.2.2.2 k hk hk2).1
    · intro hlt u7 g7
      refine R_eq (ih (by omega) u7 (fun a i q => by rw [g7, gi_ne q]; exact f1 a i q) (fun c hc => ?_) (fun c hc => ?_)) rfl
      · rw [g7, gi_si, if_neg (by omega), gi_si, if_neg (by omega)]; exact f2 c hc
      · rw [g7, gi_si]
        by_cases z : c = k
        · rw [if_pos (by omega), f1 _ _ (by omega), ho4 _ _ (by omega) (by omega), hout _ _ (by omega) (by omega), z]; exact (Rel_w5 h (by omega)).2.2.2.1
        · rw [if_neg (by omega)]; exact f3 c (by omega)
  · intro hlt u4 g4 u7 g7
    refine R_eq (ih (by omega) u7 (fun a i q => by rw [g7, gi_ne q, g4, gi_ne q]; exact f1 a i q) (fun c hc => ?_)) rfl
    have hr := Rel_w10 h (c := k) (by omega)
    have hx : ∀ a, (a = 116 ∨ a = 117) → gi τ a k = gi σ a k := fun a q => by rw [f1 _ _ (by omega), ho4 _ _ (by omega) (by omega), hout _ _ (by omega) (by omega)]
    by_cases z : c = k
    · subst z
      refine ⟨?_, ?_⟩
      · rw [g7, gi_si, if_neg (by omega), g4, gi_si, if_pos ⟨rfl, rfl⟩, hx 116 (by omega)]; exact hr.1
      · rw [g7, gi_si, if_pos ⟨rfl, rfl⟩, hx 117 (by omega)]; exact hr.2.1
    · rw [g7, gi_si, if_neg (by omega), g4, gi_si, if_neg (by omega), gi_si, if_neg (by omega), gi_si, if_neg (by omega)]; exact f2 c (by omega)
theorem v_bk {n : Nat}   {σ : Mm} {P : Int → Mm → Prop} (l1 : (gi σ 3 10) ≠ (0 : Int) → ∀ t2 : Mm, t2 = si σ 40 0 (gi σ 58 0) → ∀ t3 : Mm, t3 = si t2 40 1 (gi σ 58 1) → ∀ t4 : Mm, t4 = cp t3 59 0 41 0 10 → ∀ t5 : Mm, t5 = cp t4 60 0 42 0 10 → ∀ t6 : Mm, t6 = cp t5 61 0 43 0 10 → ∀ t7 : Mm, t7 = cp t6 62 0 44 0 10 → ∀ t8 : Mm, t8 = cp t7 63 0 45 0 5 → ∀ t9 : Mm, t9 = cp t8 64 0 46 0 5 → ∀ t10 : Mm, t10 = cp t9 65 0 47 0 40 → ∀ t11 : Mm, t11 = cp t10 66 0 48 0 5 → ∀ t12 : Mm, t12 = si t11 71 3 (0 : Int) → ∀ t13 : Mm, t13 = si t12 71 4 (0 : Int) → P (gi σ 58 0) t13) (l2 : (gi σ 3 10) = (0 : Int) → P (-1) σ) : Ci 152 [vr 3] (shF n) σ P :=
  show R 152 0 [some (vr 3)] [] (shF n) 0 0 σ (Qi (shF n) P) from wpK_R 15 [] (And.intro (fun q1 => (show R 82 0 [some (vr 40), some (vr 58)] [] (shF n) 0 0 _ _ from wpK_R 73 [] (And.intro (by decide) (And.intro (by decide) (And.intro (by decide) (And.intro (by decide) (And.intro (by decide) (And.intro (by decide) (And.intro (by decide) (And.intro (by decide) (And.intro ret0 ⟨rfl, rfl, (show R 12 0 [some (vr 71)] [] (shF n) 0 0 _ _ from wpK_R 7 [] (And.intro ret0 ⟨rfl, rfl, And.intro ret0 ⟨rfl, _, rfl, (l1 q1 _ rfl _ rfl _ rfl _ rfl _ rfl _ rfl _ rfl _ rfl _ rfl _ rfl _ rfl _ rfl)⟩⟩))⟩))))))))))) (fun q1 => And.intro ret0 ⟨rfl, _, rfl, (l2 (Classical.not_not.mp q1))⟩))
theorem v_bkR_0 {n : Nat}   {σ : Mm} {P : Int → Mm → Prop} (o1 : ∀ t1 : Mm, t1 = si σ 85 2 (0 : Int) → (gi σ 85 84) ≠ (0 : Int) → 0 ≤ (0 : Int)) (o2 : ∀ t1 : Mm, t1 = si σ 85 2 (0 : Int) → (gi σ 85 84) ≠ (0 : Int) → 0 + 76 ≤ (if 130 = 129 then 1520 else 76)) (l1 : ∀ t1 : Mm, t1 = si σ 85 2 (0 : Int) → (gi σ 85 84) ≠ (0 : Int) → ∀ s4 : Mm, Tk t1 s4 130 0 → R 273 25 [some (vr 85), some (vi 0)] [] (shF n) 0 0 s4 (Qi (shF n) P)) (l2 : ∀ t1 : Mm, t1 = si σ 85 2 (0 : Int) → (gi σ 85 84) = (0 : Int) → P (-1) t1) : Ci 273 [vr 85] (shF n) σ P :=
  show R 273 0 [some (vr 85), none] [] (shF n) 0 0 σ (Qi (shF n) P) from wpK_R 14 [25, 66] (And.intro (fun q2 => (ci_take_130 (q := (0 : Int)) (o1 _ rfl q2) (o2 _ rfl q2) (fun s4 h5 => (l1 _ rfl q2 s4 h5)))) (fun q2 => And.intro ret0 ⟨rfl, _, rfl, (l2 _ rfl (Classical.not_not.mp q2))⟩))
theorem v_bkR_25 {n : Nat}  (k : Nat) {σ : Mm} {P : Int → Mm → Prop} (o1 : (k : Int) < (10 : Int) → (0 ≤ (k : Int) ∧ (k : Int) < 27)) (o2 : (k : Int) < (10 : Int) → (0 ≤ (k : Int) ∧ (k : Int) < 20)) (o3 : (k : Int) < (10 : Int) → ∀ t4 : Mm, t4 = si σ 116 k (gi σ 131 k) → rg ((10 : Int) + (k : Int))) (o4 : (k : Int) < (10 : Int) → ∀ t4 : Mm, t4 = si σ 116 k (gi σ 131 k) → (0 ≤ ((10 : Int) + (k : Int)) ∧ ((10 : Int) + (k : Int)) < 27)) (o5 : (k : Int) < (10 : Int) → ∀ t4 : Mm, t4 = si σ 116 k (gi σ 131 k) → ∀ t7 : Mm, t7 = si t4 117 k (gi σ 131 (10 + k)) → rg ((k : Int) + 1)) (l1 : (10 : Int) ≤ (k : Int) → R 273 66 [some (vr 85), some (vi 0)] [] (shF n) 0 0 σ (Qi (shF n) P)) (l2 : (k : Int) < (10 : Int) → ∀ t4 : Mm, t4 = si σ 116 k (gi σ 131 k) → ∀ t7 : Mm, t7 = si t4 117 k (gi σ 131 (10 + k)) → R 273 25 [some (vr 85), some (vi ((k : Int) + 1))] [] (shF n) 0 0 t7 (Qi (shF n) P)) : R 273 25 [some (vr 85), some (vi (k : Int))] [] (shF n) 0 0 σ (Qi (shF n) P) :=
  wpK_R 24 [25, 66] (And.intro (fun q1 => (l1 q1)) (fun q1 => (have k2 := (o1 (Int.not_le.mp q1)); And.intro k2 ((have k3 := (o2 (Int.not_le.mp q1)); And.intro k3 ((have k5 := (o3 (Int.not_le.mp q1) _ rfl); And.intro k5 ((have k6 := (o4 (Int.not_le.mp q1) _ rfl); And.intro k6 (And.intro k3 ((have k8 := (o5 (Int.not_le.mp q1) _ rfl _ rfl); And.intro k8 ((l2 (Int.not_le.mp q1) _ rfl _ rfl))))))))))))))
theorem v_bkR_66 {n : Nat}  (k : Nat) {σ : Mm} {P : Int → Mm → Prop} (o1 : (k : Int) < (5 : Int) → rg ((20 : Int) + (k : Int))) (o2 : (k : Int) < (5 : Int) → (0 ≤ ((20 : Int) + (k : Int)) ∧ ((20 : Int) + (k : Int)) < 27)) (o3 : (k : Int) < (5 : Int) → (0 ≤ (k : Int) ∧ (k : Int) < 10)) (o4 : (k : Int) < (5 : Int) → ∀ t8 : Mm, t8 = si σ 119 k (gi σ 131 (20 + k)) → rg ((k : Int) + 1)) (l1 : (5 : Int) ≤ (k : Int) → ∀ t2 : Mm, t2 = si σ 120 0 (gi σ 131 25) → ∀ t3 : Mm, t3 = si t2 121 0 (gi σ 131 26) → ∀ t4 : Mm, t4 = si t3 85 82 (0 : Int) → P (gi σ 131 25) t4) (l2 : (k : Int) < (5 : Int) → ∀ t8 : Mm, t8 = si σ 119 k (gi σ 131 (20 + k)) → R 273 66 [some (vr 85), some (vi ((k : Int) + 1))] [] (shF n) 0 0 t8 (Qi (shF n) P)) : R 273 66 [some (vr 85), some (vi (k : Int))] [] (shF n) 0 0 σ (Qi (shF n) P) :=
  wpK_R 27 [66] (And.intro (fun q1 => And.intro (by decide) (And.intro (by decide) (And.intro (by decide) (And.intro (by decide) (And.intro (by decide) (And.intro ret0 ⟨rfl, _, rfl, (l1 q1 _ rfl _ rfl _ rfl)⟩)))))) (fun q1 => (have k5 := (o1 (Int.not_le.mp q1)); And.intro k5 ((have k6 := (o2 (Int.not_le.mp q1)); And.intro k6 ((have k7 := (o3 (Int.not_le.mp q1)); And.intro k7 ((have k9 := (o4 (Int.not_le.mp q1) _ rfl); And.intro k9 ((l2 (Int.not_le.mp q1) _ rfl)))))))))))
theorem q_back {xs : Nat → Int} {N n : Nat} {σ : Mm} (h : Rel xs N σ) : Bi xs N n 152 [vr 3] 273 [vr 85] σ := by
  have hb := h.2.2.2.2.1
  have r12 := h.2.2.2.2.2.2.2.2.2.2.2.1
  refine v_bk ?_ ?_
  · intro hne t2 e2 t3 e3 t4 e4 t5 e5 t6 e6 t7 e7 t8 e8 t9 e9 t10 e10 t11 e11 t12 e12 t13 e13
    have hi := r12.2.resolve_left hne
    obtain ⟨i1, i2, i3, i4, i5, i6, i7, i8, i9⟩ := hi
    have h84 : gi σ 85 84 = 1 := by rw [← r12.1]; exact i1
    have hout : ∀ a i, ¬ (40 ≤ a ∧ a ≤ 48) → a ≠ 71 → gi t13 a i = gi σ a i := fun a i p q => by
      rw [e13, gi_ne q, e12, gi_ne q, e11, e10, e9, e8, e7, e6, e5, e4, e3, e2]
      simp only [gi_si, gi_cp]
      repeat rw [if_neg (by omega)]
    have heq : eqW (wv t13 40) (wv σ 58) := fun f i p => by
      have q : f ≤ 8 := by unfold inW at p; omega
      rw [e13, e12, e11, e10, e9, e8, e7, e6, e5, e4, e3, e2]
      simp only [wv, if_pos q]
      unfold inW at p
      rcases cases9 q with rfl | rfl | rfl | rfl | rfl | rfl | rfl | rfl | rfl
      all_goals simp [gi_si, gi_cp]
      · have : i = 0 ∨ i = 1 := by omega
        rcases this with rfl | rfl <;> simp
      all_goals (intro; omega)
    have h713 : gi t13 71 3 = 0 ∧ gi t13 71 4 = 0 := by
      rw [e13, e12]; simp [gi_si]
    clear e2 e3 e4 e5 e6 e7 e8 e9 e10 e11 e12 e13
    have f40 : ∀ f i, inW f i → gi t13 (40 + f) i = gi σ (58 + f) i := fun f i p => by
      have q : f ≤ 8 := by unfold inW at p; omega
      have := heq f i p
      simp only [wv, if_pos q] at this
      exact this
    refine v_bkR_0 (by intros; subst_vars; first | omega | (rw [if_neg (by omega)]; omega)) (by intros; subst_vars; first | omega | (rw [if_neg (by omega)]; omega)) ?_ ?_
    · intro s1 g1 _ s4 tk
      obtain ⟨k1, k2, k3, k4, k5, k6⟩ := tk
      have ho1 : ∀ a i, 85 ≤ a → ¬ (a = 85 ∧ i = 2) → gi s1 a i = gi σ a i := fun a i q z => by rw [g1, gi_si, if_neg z]; exact hout a i (by omega) (by omega)
      have hol : ∀ a i, a < 85 → gi s4 a i = gi t13 a i := fun a i q => by rw [k1 a i (by unfold tkC; omega), g1, gi_ne (by omega)]
      have ho4 : ∀ a i, 85 ≤ a → ¬ tkC a i → ¬ (a = 85 ∧ i = 2) → gi s4 a i = gi σ a i := fun a i q w z => by rw [k1 a i w]; exact ho1 a i q z
      have h131 : ∀ i, gi s4 131 i = gi σ 131 i := fun i => ho4 _ _ (by omega) (by unfold tkC; omega) (by omega)
      refine loopUp (N := 10) (I := fun k => ∀ τ : Mm, (∀ a i, ¬ ((a = 116 ∨ a = 117) ∧ i < 10) → gi τ a i = gi s4 a i) → (∀ c, c < k → gi τ 116 c = gi σ 60 c ∧ gi τ 117 c = gi σ 61 c) → R 273 25 [some (vr 85), some (vi (k : Int))] [] (shF n) 0 0 τ (Qi (shF n) (fun v' s' => v' = gi σ 58 0 ∧ Rel xs N s'))) (fun k hk ih => ?_) 0 (by omega) s4 (fun _ _ _ => rfl) (fun _ q => by omega)
      intro τ f1 f2
      refine v_bkR_25 k (by intros; first | omega | (unfold rg; omega)) (by intros; first | omega | (unfold rg; omega)) (by intros; first | omega | (unfold rg; omega)) (by intros; first | omega | (unfold rg; omega)) (by intros; first | omega | (unfold rg; omega)) ?_ ?_
      · intro hge
        rw [show k = 10 by omega] at f2
        clear ih
        refine loopUp (N := 5) (I := fun k => ∀ τ : Mm, (∀ a i, ¬ ((a = 116 ∨ a = 117) ∧ i < 10) → ¬ (a = 119 ∧ i < 5) → gi τ a i = gi s4 a i) → (∀ c, c < 10 → gi τ 116 c = gi σ 60 c ∧ gi τ 117 c = gi σ 61 c) → (∀ c, c < k → gi τ 119 c = gi σ 66 c) → R 273 66 [some (vr 85), some (vi (k : Int))] [] (shF n) 0 0 τ (Qi (shF n) (fun v' s' => v' = gi σ 58 0 ∧ Rel xs N s'))) (fun k hk ih => ?_) 0 (by omega) τ (fun a i p _ => f1 a i p) f2 (fun _ q => by omega)
        intro τ f1 f2 f3
        refine v_bkR_66 k (by intros; first | omega | (unfold rg; omega)) (by intros; first | omega | (unfold rg; omega)) (by intros; first | omega | (unfold rg; omega)) (by intros; first | omega | (unfold rg; omega)) ?_ ?_
        · intro hge u2 g2 u3 g3 u4 g4
          have hl : ∀ a i, ¬ ((a = 116 ∨ a = 117) ∧ i < 10) → ¬ (a = 119 ∧ i < 5) → ¬ ((a = 120 ∨ a = 121) ∧ i = 0) → ¬ (a = 85 ∧ i = 82) → gi u4 a i = gi s4 a i := fun a i p q w z => by
            rw [g4, gi_si, if_neg z, g3, gi_si, if_neg (by omega), g2, gi_si, if_neg (by omega)]; exact f1 a i p q
          have hsame : ∀ a i, (a = 116 ∨ a = 117 ∨ a = 119) → gi u4 a i = gi τ a i := fun a i p => by rw [g4, gi_ne (by omega), g3, gi_ne (by omega), g2, gi_ne (by omega)]
          have hw4 : wv u4 40 = wv t13 40 := wv_eq fun f b hf => by rw [hl _ _ (by omega) (by omega) (by omega) (by omega)]; exact hol _ _ (by omega)
          have e131 : ∀ i, gi τ 131 i = gi σ 131 i := fun i => by rw [f1 _ _ (by omega) (by omega)]; exact h131 i
          refine ⟨by rw [e131]; exact i8, Rel_W h (fun a i p q1 q2 => ?_) (fun a i p q1 q2 q3 => ?_) ?_ ?_ ?_ ?_ ?_ (fun c hc hc2 => ?_)⟩
          · have ha : a < 85 := by unfold kpX at p; omega
            rw [hl a i (by omega) (by omega) (by omega) (by omega), hol a i ha]; exact hout a i q1 (by omega)
          · have ha := kpM_85 p
            have hn := kpM_sc p
            have hq : ¬ tkC a i := fun z => q1 (by unfold tkC at z; unfold hf; omega)
            rw [hl a i (fun z => q1 (by unfold hf; omega)) (fun z => q1 (by unfold hf; omega)) (fun z => q1 (by unfold hf; omega)) q3]
            exact ho4 a i ha hq (by omega)
          · rw [hw4]; exact WI_eqW hb.1.2 hb.2.1.2 heq.sy i2
          · rw [hw4]; exact UH_eqW hb.2.1.2 heq.sy i3
          · rw [hw4]
            refine RW_eqW hb.2.1.2 heq.sy ?_
            obtain ⟨s1', s2', s3', s4'⟩ := i5
            simp only [Nat.zero_add] at s1' s2' s3' s4' k3 k4 k5 k6
            have h130 : ∀ i, gi s1 130 i = gi σ 130 i := fun i => ho1 _ _ (by omega) (by omega)
            have hC := hb.2.1
            refine ⟨?_, fun c hc => ?_, fun c hc => ⟨?_, ?_, ?_⟩, fun j hj => ⟨?_, ?_, ?_, ?_⟩, fun i hi => ?_, ?_, ?_⟩
            · rw [g4, gi_ne (by omega), g3, gi_ne (by omega), g2, gi_si, if_pos ⟨rfl, rfl⟩, e131]; exact i8
            · rw [Nat.mul_zero, Nat.zero_add, hl _ _ (by omega) (by omega) (by omega) (by omega), (k5 c (by omega)).1, h130]; exact (s3' c (by omega)).1 hc
            · rw [Nat.mul_zero, Nat.zero_add, hsame _ _ (by omega)]; exact (f2 c hc).1
            · rw [Nat.mul_zero, Nat.zero_add, hsame _ _ (by omega)]; exact (f2 c hc).2
            · rw [Nat.mul_zero, Nat.zero_add, hl _ _ (by omega) (by omega) (by omega) (by omega), (k5 c hc).2, h130]; exact (s3' c hc).2
            · rw [Nat.mul_zero, Nat.zero_add, hl _ _ (by omega) (by omega) (by omega) (by omega), (k3 j hj).1, h130]; exact (s1' j hj).1
            · rw [Nat.mul_zero, Nat.zero_add, hl _ _ (by omega) (by omega) (by omega) (by omega), (k3 j hj).2.1, h130, (s1' j hj).2.1]
              cases bi (wv σ 58 0 1) j <;> rfl
            · rw [Nat.mul_zero, Nat.zero_add, hl _ _ (by omega) (by omega) (by omega) (by omega), (k3 j hj).2.2, h130]; exact (s1' j hj).2.2
            · rw [Nat.mul_zero, Nat.zero_add, hsame _ _ (by omega)]; exact f3 j (by omega)
            · rw [Nat.mul_zero, Nat.zero_add, hl _ _ (by omega) (by omega) (by omega) (by omega), k4 i hi, h130]; exact s2' i hi
            · rw [g4, gi_ne (by omega), g3, gi_si, if_pos ⟨rfl, rfl⟩, e131]; exact i9
            · rw [hl _ _ (by omega) (by omega) (by omega) (by omega), k6, h130]; exact s4'
          · have : gi u4 40 0 = wv t13 40 0 0 := by rw [← hw4]; rfl
            rw [this, heq 0 0 (by unfold inW; omega)]; exact i4
          · refine ⟨0, 0, ?_, ?_, ?_, by omega, by omega, fun t ht => by omega⟩
            · rw [hl _ _ (by omega) (by omega) (by omega) (by omega), hol _ _ (by omega)]; exact h713.1
            · rw [hl _ _ (by omega) (by omega) (by omega) (by omega), hol _ _ (by omega)]; exact h713.2
            · rw [g4, gi_si, if_pos ⟨rfl, rfl⟩]; rfl
          · have : gi u4 48 c = wv t13 40 8 c := by rw [← hw4]; rfl
            rw [this, heq 8 c (by unfold inW; omega)]
            exact (h.2.2.2.2.2.2.2.2.2.2.2.2.2.2.2.2.2.2 c hc hc2).2.resolve_left (by omega)
        · intro hlt u8 g8
          refine R_eq (ih (by omega) u8 (fun a i p q => by rw [g8, gi_si, if_neg (by omega)]; exact f1 a i p q) (fun c hc => by rw [g8, gi_ne (by omega), gi_ne (by omega)]; exact f2 c hc) (fun c hc => ?_)) rfl
          rw [g8, gi_si]
          by_cases z : c = k
          · rw [if_pos ⟨rfl, z⟩, f1 _ _ (by omega) (by omega), h131, z]; exact i7 k (by omega)
          · rw [if_neg (by omega)]; exact f3 c (by omega)
      · intro hlt u4 g4 u7 g7
        have e131 : ∀ i, gi τ 131 i = gi σ 131 i := fun i => by rw [f1 _ _ (by omega)]; exact h131 i
        refine R_eq (ih (by omega) u7 (fun a i q => by rw [g7, gi_si, if_neg (by omega), g4, gi_si, if_neg (by omega)]; exact f1 a i q) (fun c hc => ?_)) rfl
        by_cases z : c = k
        · subst z
          refine ⟨?_, ?_⟩
          · rw [g7, gi_ne (by omega), g4, gi_si, if_pos ⟨rfl, rfl⟩, e131]; exact (i6 c (by omega)).1
          · rw [g7, gi_si, if_pos ⟨rfl, rfl⟩, e131]; exact (i6 c (by omega)).2
        · rw [g7, gi_si, if_neg (by omega), g4, gi_si, if_neg (by omega), gi_si, if_neg (by omega), gi_si, if_neg (by omega)]; exact f2 c (by omega)
    · intro s1 g1 hz
      rw [hout 85 84 (by omega) (by omega)] at hz
      omega
  · intro hz
    have h84 : gi σ 85 84 = 0 := by rw [← r12.1]; exact hz
    refine v_bkR_0 (by intros; exfalso; omega) (by intros; exfalso; omega) ?_ ?_
    · intros; exfalso; omega
    · intro t1 ht _; rw [ht]; exact ⟨rfl, Rel_th h⟩
