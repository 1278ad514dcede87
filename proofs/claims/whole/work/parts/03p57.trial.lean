/-! THE TRIAL: the class's beginTrial, the reference's layTried -/
/-- the places of a world that are there -/
def inW (f i : Nat) : Prop := (f = 0 ∧ i < 2) ∨ ((1 ≤ f ∧ f ≤ 4) ∧ i < 10) ∨ ((f = 5 ∨ f = 6 ∨ f = 8) ∧ i < 5) ∨ (f = 7 ∧ i < 40)
def eqW (V V' : Nat → Nat → Int) : Prop := ∀ f i, inW f i → V f i = V' f i
theorem eqW.sy {V V' : Nat → Nat → Int} (h : eqW V V') : eqW V' V := fun f i p => (h f i p).symm
theorem eqW.tr {V V' V'' : Nat → Nat → Int} (h : eqW V V') (h' : eqW V' V'') : eqW V V'' := fun f i p => (h f i p).trans (h' f i p)
theorem eqW.f {V V' : Nat → Nat → Int} (h : eqW V V') : (∀ i, i < 2 → V 0 i = V' 0 i) ∧ (∀ i, i < 10 → V 1 i = V' 1 i) ∧ (∀ i, i < 10 → V 2 i = V' 2 i) ∧ (∀ i, i < 10 → V 3 i = V' 3 i) ∧ (∀ i, i < 10 → V 4 i = V' 4 i) ∧ (∀ i, i < 5 → V 5 i = V' 5 i) ∧ (∀ i, i < 5 → V 6 i = V' 6 i) ∧ (∀ i, i < 40 → V 7 i = V' 7 i) ∧ (∀ i, i < 5 → V 8 i = V' 8 i) :=
  ⟨fun i p => h 0 i (by unfold inW; omega), fun i p => h 1 i (by unfold inW; omega), fun i p => h 2 i (by unfold inW; omega), fun i p => h 3 i (by unfold inW; omega), fun i p => h 4 i (by unfold inW; omega), fun i p => h 5 i (by unfold inW; omega), fun i p => h 6 i (by unfold inW; omega), fun i p => h 7 i (by unfold inW; omega), fun i p => h 8 i (by unfold inW; omega)⟩
theorem UH_eqW {T V V' : Nat → Nat → Int} (hC : T 0 1 ≤ 10) (h : eqW V V') (u : UH T V) : UH T V' := fun c hc hd => by
  rw [← h.f.2.2.2.1 c (by omega)]
  exact u c hc (by rw [h.f.1 0 (by omega)]; exact hd)
theorem RW_eqW {T V V' : Nat → Nat → Int} {σ : Mm} {b : Nat} (hC : T 0 1 ≤ 10) (h : eqW V V') (w : RW T V σ b) : RW T V' σ b := by
  obtain ⟨w1, w2, w3, w4, w5, w6, w7⟩ := w
  obtain ⟨f0, f1, f2, f3, f4, f5, f6, f7, f8⟩ := h.f
  refine ⟨by rw [← f0 0 (by omega)]; exact w1, fun c hc => by rw [← f1 c (by omega)]; exact w2 c hc, fun c hc => by rw [← f2 c hc, ← f3 c hc, ← f4 c hc]; exact w3 c hc, fun j hj => by rw [← f5 j hj, ← f0 1 (by omega), ← f6 j hj, ← f8 j hj]; exact w4 j hj, fun i hi => by rw [← f7 i hi]; exact w5 i hi, ?_, ?_⟩
  · rw [w6]; exact cnt_congr fun q hq => by rw [f4 q hq]
  · rw [w7]; exact cnt_congr fun q hq => by rw [f4 q hq]
theorem v_begin {n : Nat}   {σ : Mm} {P : Mm → Prop} (l1 : ∀ t1 : Mm, t1 = si σ 49 0 (gi σ 40 0) → ∀ t2 : Mm, t2 = si t1 49 1 (gi σ 40 1) → ∀ t3 : Mm, t3 = cp t2 41 0 50 0 10 → ∀ t4 : Mm, t4 = cp t3 42 0 51 0 10 → ∀ t5 : Mm, t5 = cp t4 43 0 52 0 10 → ∀ t6 : Mm, t6 = cp t5 44 0 53 0 10 → ∀ t7 : Mm, t7 = cp t6 45 0 54 0 5 → ∀ t8 : Mm, t8 = cp t7 46 0 55 0 5 → ∀ t9 : Mm, t9 = cp t8 47 0 56 0 40 → ∀ t10 : Mm, t10 = cp t9 48 0 57 0 5 → ∀ t11 : Mm, t11 = si t10 70 2 (-1 : Int) → ∀ t12 : Mm, t12 = si t11 70 3 (gi σ 5 5) → ∀ t13 : Mm, t13 = si t12 70 4 (-1 : Int) → ∀ t14 : Mm, t14 = si t13 70 5 (0 : Int) → P t14) : Cv 119 [vr 3] (shF n) σ P :=
  show R 119 0 [some (vr 3)] [] (shF n) 0 0 σ (Qv (shF n) P) from wpK_R 9 [] ((show R 82 0 [some (vr 49), some (vr 40)] [] (shF n) 0 0 _ _ from wpK_R 73 [] (And.intro (by decide) (And.intro (by decide) (And.intro (by decide) (And.intro (by decide) (And.intro (by decide) (And.intro (by decide) (And.intro (by decide) (And.intro (by decide) (And.intro ret0 ⟨rfl, rfl, (show R 72 0 [some (vr 70)] [] (shF n) 0 0 _ _ from wpK_R 15 [] (And.intro (Or.inl rfl) (And.intro ret0 ⟨rfl, rfl, And.intro ret0 ⟨rfl, rfl, (l1 _ rfl _ rfl _ rfl _ rfl _ rfl _ rfl _ rfl _ rfl _ rfl _ rfl _ rfl _ rfl _ rfl _ rfl)⟩⟩)))⟩)))))))))))
/-- the trial is begun -/
def Bt (σ s : Mm) : Prop := ScX σ s ∧ eqW (wv s 49) (wv σ 40) ∧ gi s 70 2 = -1 ∧ gi s 70 3 = gi σ 5 5 ∧ gi s 70 4 = -1 ∧ gi s 70 5 = 0
theorem c_begin {n : Nat} {σ : Mm} {P : Mm → Prop} (hP : ∀ s, Bt σ s → P s) : Cv 119 [vr 3] (shF n) σ P := by
  refine v_begin ?_
  intros
  subst_vars
  refine hP _ ⟨fun a i p => ?_, fun f i p => ?_, ?_, ?_, ?_, ?_⟩
  · have q : ¬ (49 ≤ a ∧ a ≤ 57) ∧ a ≠ 70 := by
      rcases p with p | p
      · unfold kpX at p; omega
      · omega
    simp only [gi_si, gi_cp]
    repeat rw [if_neg (by omega)]
  · have q : f ≤ 8 := by unfold inW at p; omega
    simp only [wv, if_pos q]
    unfold inW at p
    rcases cases9 q with rfl | rfl | rfl | rfl | rfl | rfl | rfl | rfl | rfl
    all_goals simp [gi_si, gi_cp]
    · have : i = 0 ∨ i = 1 := by omega
      rcases this with rfl | rfl <;> simp
    all_goals (intro; omega)
  · simp [gi_si]
  · simp [gi_si]
  · simp [gi_si]
  · simp [gi_si]
theorem WI_eqW {T V V' : Nat → Nat → Int} (hJ : T 0 0 ≤ 5) (hC : T 0 1 ≤ 10) (h : eqW V V') (w : WI T V) : WI T V' := by
  obtain ⟨⟨s1, s2, s3, s4, s5⟩, w1, w2, w3, w4, w5, w6, w7, w8, w9, w10, w11, w12⟩ := w
  obtain ⟨f0, f1, f2, f3, f4, f5, f6, f7, f8⟩ := h.f
  have f7' : ∀ u p : Nat, u < 5 → (p : Int) < V' 6 u → V 7 (u * 8 + p) = V' 7 (u * 8 + p) := fun u p hu hp => f7 _ (by have := s3 u hu; rw [← f6 u hu] at hp; omega)
  have f6' : ∀ u p : Nat, u < 5 → (p : Int) < V' 6 u → (p : Int) < V 6 u := fun u p hu hp => by rw [f6 u hu]; exact hp
  have s4' : ∀ u p : Nat, u < 5 → (p : Int) < V' 6 u → 0 ≤ V' 7 (u * 8 + p) ∧ V' 7 (u * 8 + p) < T 0 1 := fun u p hu hp => by rw [← f7' u p hu hp]; exact s4 u p hu (f6' u p hu hp)
  refine ⟨⟨fun c hc => by rw [← f1 c (by omega)]; exact s1 c hc, fun j hj => by rw [← f5 j (by omega)]; exact s2 j hj, fun u hu => by rw [← f6 u hu]; exact s3 u hu, s4', by rw [← f0 0 (by omega)]; exact s5⟩, ?_, ?_, ?_, ?_, ?_, ?_, ?_, ?_, ?_, ?_, ?_, ?_⟩
  · intro u p hu hp
    have q := s4' u p hu hp
    rw [← f4 _ (by omega), ← f7' u p hu hp]
    exact w1 u p hu (f6' u p hu hp)
  · intro u p u' p' hu hu' hp hp' he
    rw [← f7' u p hu hp, ← f7' u' p' hu' hp'] at he
    exact w2 u p u' p' hu hu' (f6' u p hu hp) (f6' u' p' hu' hp') he
  · intro c hc; rw [← f3 c hc, ← f4 c hc]; exact w3 c hc
  · intro c hc; rw [← f3 c hc, ← f2 c hc]; exact w4 c hc
  · intro c hc hc'; rw [← f3 c hc']; exact w5 c hc hc'
  · intro j j' hj hj' he; rw [← f5 j (by omega), ← f5 j' (by omega)] at he; exact w6 j j' hj hj' he
  · intro u hu
    obtain ⟨j, hj, he⟩ := w7 u hu
    exact ⟨j, hj, by rw [← f5 j (by omega)]; exact he⟩
  · intro k hk; rw [← f8 k hk]; exact ⟨(w8 k hk).1, (w8 k hk).2.1, fun x hx hb => by rw [← f4 x hx]; exact (w8 k hk).2.2 x hx hb⟩
  · intro u hu hu5; rw [← f6 u hu5]; exact w9 u hu hu5
  · rw [← sumF_congr f6, w10]; exact cnt_congr fun q hq => by rw [f4 q hq]
  · intro x hx; rw [← f4 x hx]; exact w11 x hx
  · rw [← f0 1 (by omega)]; exact w12
theorem v_lyT_0 {n : Nat}   {σ : Mm} {P : Mm → Prop} (l1 : R 199 2 [some (vr 85), some (vi 0)] [] (shF n) 0 0 σ (Qv (shF n) P)) : Cv 199 [vr 85] (shF n) σ P :=
  show R 199 0 [some (vr 85), none] [] (shF n) 0 0 σ (Qv (shF n) P) from wpK_R 3 [2, 71, 100] ((l1))
theorem v_lyT_2 {n : Nat}  (k : Nat) {σ : Mm} {P : Mm → Prop} (o1 : (k : Int) < (5 : Int) → rg ((5 : Int) + (k : Int))) (o2 : (k : Int) < (5 : Int) → (0 ≤ (k : Int) ∧ (k : Int) < 10)) (o3 : (k : Int) < (5 : Int) → (0 ≤ ((5 : Int) + (k : Int)) ∧ ((5 : Int) + (k : Int)) < 10)) (o4 : (k : Int) < (5 : Int) → ∀ t5 : Mm, t5 = si σ 111 (5 + k) (gi σ 111 k) → ((gi σ 112 k) = 0 ∨ (gi σ 112 k) = 1)) (o5 : (k : Int) < (5 : Int) → ∀ t5 : Mm, t5 = si σ 111 (5 + k) (gi σ 111 k) → ∀ t6 : Mm, t6 = si t5 112 (5 + k) (gi σ 112 k) → ∀ t8 : Mm, t8 = si t6 113 (5 + k) (gi σ 113 k) → ∀ t9 : Mm, t9 = si t8 119 (5 + k) (gi σ 119 k) → rg ((k : Int) + 1)) (l1 : (5 : Int) ≤ (k : Int) → R 199 71 [some (vr 85), some (vi 0)] [] (shF n) 0 0 σ (Qv (shF n) P)) (l2 : (k : Int) < (5 : Int) → ∀ t5 : Mm, t5 = si σ 111 (5 + k) (gi σ 111 k) → ∀ t6 : Mm, t6 = si t5 112 (5 + k) (gi σ 112 k) → ∀ t8 : Mm, t8 = si t6 113 (5 + k) (gi σ 113 k) → ∀ t9 : Mm, t9 = si t8 119 (5 + k) (gi σ 119 k) → R 199 2 [some (vr 85), some (vi ((k : Int) + 1))] [] (shF n) 0 0 t9 (Qv (shF n) P)) : R 199 2 [some (vr 85), some (vi (k : Int))] [] (shF n) 0 0 σ (Qv (shF n) P) :=
  wpK_R 46 [2, 71, 100] (And.intro (fun q1 => (l1 q1)) (fun q1 => (have k2 := (o1 (Int.not_le.mp q1)); And.intro k2 ((have k3 := (o2 (Int.not_le.mp q1)); And.intro k3 ((have k4 := (o3 (Int.not_le.mp q1)); And.intro k4 (And.intro k2 (And.intro k3 (And.intro k4 ((have k7 := (o4 (Int.not_le.mp q1) _ rfl); And.intro k7 (And.intro k2 (And.intro k3 (And.intro k4 (And.intro k2 (And.intro k3 (And.intro k4 ((have k10 := (o5 (Int.not_le.mp q1) _ rfl _ rfl _ rfl _ rfl); And.intro k10 ((l2 (Int.not_le.mp q1) _ rfl _ rfl _ rfl _ rfl))))))))))))))))))))))
theorem v_lyT_71 {n : Nat}  (k : Nat) {σ : Mm} {P : Mm → Prop} (o1 : (k : Int) < (40 : Int) → rg ((40 : Int) + (k : Int))) (o2 : (k : Int) < (40 : Int) → (0 ≤ (k : Int) ∧ (k : Int) < 80)) (o3 : (k : Int) < (40 : Int) → (0 ≤ ((40 : Int) + (k : Int)) ∧ ((40 : Int) + (k : Int)) < 80)) (o4 : (k : Int) < (40 : Int) → ∀ t5 : Mm, t5 = si σ 114 (40 + k) (gi σ 114 k) → rg ((k : Int) + 1)) (l1 : (40 : Int) ≤ (k : Int) → R 199 100 [some (vr 85), some (vi 0)] [] (shF n) 0 0 σ (Qv (shF n) P)) (l2 : (k : Int) < (40 : Int) → ∀ t5 : Mm, t5 = si σ 114 (40 + k) (gi σ 114 k) → R 199 71 [some (vr 85), some (vi ((k : Int) + 1))] [] (shF n) 0 0 t5 (Qv (shF n) P)) : R 199 71 [some (vr 85), some (vi (k : Int))] [] (shF n) 0 0 σ (Qv (shF n) P) :=
  wpK_R 16 [71, 100] (And.intro (fun q1 => (l1 q1)) (fun q1 => (have k2 := (o1 (Int.not_le.mp q1)); And.intro k2 ((have k3 := (o2 (Int.not_le.mp q1)); And.intro k3 ((have k4 := (o3 (Int.not_le.mp q1)); And.intro k4 ((have k6 := (o4 (Int.not_le.mp q1) _ rfl); And.intro k6 ((l2 (Int.not_le.mp q1) _ rfl)))))))))))
theorem v_lyT_100 {n : Nat}  (k : Nat) {σ : Mm} {P : Mm → Prop} (o1 : (k : Int) < (10 : Int) → rg ((10 : Int) + (k : Int))) (o2 : (k : Int) < (10 : Int) → (0 ≤ (k : Int) ∧ (k : Int) < 20)) (o3 : (k : Int) < (10 : Int) → (0 ≤ ((10 : Int) + (k : Int)) ∧ ((10 : Int) + (k : Int)) < 20)) (o4 : (k : Int) < (10 : Int) → ∀ t11 : Mm, t11 = si σ 115 (10 + k) (gi σ 115 k) → ∀ t12 : Mm, t12 = si t11 116 (10 + k) (gi σ 116 k) → ∀ t13 : Mm, t13 = si t12 117 (10 + k) (gi σ 117 k) → ∀ t14 : Mm, t14 = si t13 118 (10 + k) (gi σ 118 k) → rg ((k : Int) + 1)) (l1 : (10 : Int) ≤ (k : Int) → ∀ t2 : Mm, t2 = si σ 120 1 (gi σ 120 0) → ∀ t3 : Mm, t3 = si t2 121 1 (gi σ 121 0) → ∀ t4 : Mm, t4 = si t3 122 1 (gi σ 122 0) → ∀ s6 : Mm, Pl t4 s6 → P s6) (l2 : (k : Int) < (10 : Int) → ∀ t11 : Mm, t11 = si σ 115 (10 + k) (gi σ 115 k) → ∀ t12 : Mm, t12 = si t11 116 (10 + k) (gi σ 116 k) → ∀ t13 : Mm, t13 = si t12 117 (10 + k) (gi σ 117 k) → ∀ t14 : Mm, t14 = si t13 118 (10 + k) (gi σ 118 k) → R 199 100 [some (vr 85), some (vi ((k : Int) + 1))] [] (shF n) 0 0 t14 (Qv (shF n) P)) : R 199 100 [some (vr 85), some (vi (k : Int))] [] (shF n) 0 0 σ (Qv (shF n) P) :=
  wpK_R 46 [100] (And.intro (fun q1 => And.intro (by decide) (And.intro (by decide) (And.intro (by decide) (And.intro (by decide) (And.intro (by decide) (And.intro (by decide) ((c_plain   (fun s6 h7 => And.intro ret0 ⟨rfl, rfl, (l1 q1 _ rfl _ rfl _ rfl s6 h7)⟩))))))))) (fun q1 => (have k8 := (o1 (Int.not_le.mp q1)); And.intro k8 ((have k9 := (o2 (Int.not_le.mp q1)); And.intro k9 ((have k10 := (o3 (Int.not_le.mp q1)); And.intro k10 (And.intro k8 (And.intro k9 (And.intro k10 (And.intro k8 (And.intro k9 (And.intro k10 (And.intro k8 (And.intro k9 (And.intro k10 ((have k15 := (o4 (Int.not_le.mp q1) _ rfl _ rfl _ rfl _ rfl); And.intro k15 ((l2 (Int.not_le.mp q1) _ rfl _ rfl _ rfl _ rfl))))))))))))))))))))
/-- the trial is laid: all else kept, plain settings, world 1 as world 0 -/
def Lt (σ s : Mm) : Prop := (∀ a i, ¬ hf 1 a i → ¬ (a = 85 ∧ 65 ≤ i ∧ i ≤ 72) → gi s a i = gi σ a i) ∧ (∀ a i, gl s a i = gl σ a i) ∧
  (∀ a i, (a = 111 ∨ a = 112 ∨ a = 113 ∨ a = 119) → i < 5 → gi s a (5 + i) = gi σ a i) ∧ (∀ i, i < 40 → gi s 114 (40 + i) = gi σ 114 i) ∧ (∀ a i, (115 ≤ a ∧ a ≤ 118) → i < 10 → gi s a (10 + i) = gi σ a i) ∧ (∀ a, (120 ≤ a ∧ a ≤ 122) → gi s a 1 = gi σ a 0) ∧
  (gi s 85 65 = -1 ∧ gi s 85 66 = -1 ∧ gi s 85 67 = -1 ∧ gi s 85 68 = -1 ∧ gi s 85 69 = 0 ∧ gi s 85 70 = -1 ∧ gi s 85 71 = 0 ∧ gi s 85 72 = 0)
theorem Lt.rw {T V : Nat → Nat → Int} {σ s : Mm} (h : Lt σ s) (hC : T 0 1 ≤ 10) (w : RW T V σ 0) : RW T V s 1 := by
  obtain ⟨l1, l2, l3, l4, l5, l6, l7⟩ := h
  obtain ⟨w1, w2, w3, w4, w5, w6, w7⟩ := w
  simp only [Nat.mul_zero, Nat.zero_add] at w2 w3 w4 w5
  refine ⟨(l6 120 (by omega)).trans w1, fun c hc => (l5 115 c (by omega) (by omega)).trans (w2 c hc), fun c hc => ?_, fun j hj => ?_, fun i hi => (l4 i hi).trans (w5 i hi), (l6 121 (by omega)).trans w6, (l6 122 (by omega)).trans w7⟩
  · exact ⟨(l5 116 c (by omega) hc).trans (w3 c hc).1, (l5 117 c (by omega) hc).trans (w3 c hc).2.1, (l5 118 c (by omega) hc).trans (w3 c hc).2.2⟩
  · exact ⟨(l3 111 j (by omega) hj).trans (w4 j hj).1, (l3 112 j (by omega) hj).trans (w4 j hj).2.1, (l3 113 j (by omega) hj).trans (w4 j hj).2.2.1, (l3 119 j (by omega) hj).trans (w4 j hj).2.2.2⟩
def KB (σ : Mm) : Prop := ∀ i, i < 5 → gi σ 112 i = 0 ∨ gi σ 112 i = 1
theorem Rel_KB {xs : Nat → Int} {N : Nat} {σ : Mm} (h : Rel xs N σ) : KB σ := fun i hi => by rw [(Rel_w5 h hi).2.1]; exact b2i_01 _
theorem c_lyT {n : Nat} {σ : Mm} {P : Mm → Prop} (hkb : KB σ) (hP : ∀ s, Lt σ s → P s) : Cv 199 [vr 85] (shF n) σ P := by
  refine v_lyT_0 ?_
  refine loopUp (N := 5) (I := fun k => ∀ τ : Mm, (∀ a i, ¬ hf 1 a i → gi τ a i = gi σ a i) → (∀ a i, gl τ a i = gl σ a i) → (∀ a i, (a = 111 ∨ a = 112 ∨ a = 113 ∨ a = 119) → i < k → gi τ a (5 + i) = gi σ a i) → R 199 2 [some (vr 85), some (vi (k : Int))] [] (shF n) 0 0 τ (Qv (shF n) P)) (fun k hk ih => ?_) 0 (by omega) σ (fun _ _ _ => rfl) (fun _ _ => rfl) (fun _ _ _ h => by omega)
  intro τ f1 f2 f3
  refine v_lyT_2 k (by intros; first | omega | (rw [f1 112 k (by unfold hf; omega)]; exact hkb k (by omega)) | (unfold rg; omega)) (by intros; first | omega | (rw [f1 112 k (by unfold hf; omega)]; exact hkb k (by omega)) | (unfold rg; omega)) (by intros; first | omega | (rw [f1 112 k (by unfold hf; omega)]; exact hkb k (by omega)) | (unfold rg; omega)) (by intros; first | omega | (rw [f1 112 k (by unfold hf; omega)]; exact hkb k (by omega)) | (unfold rg; omega)) (by intros; first | omega | (rw [f1 112 k (by unfold hf; omega)]; exact hkb k (by omega)) | (unfold rg; omega)) ?_ ?_
  · intro hge
    rw [show k = 5 by omega] at f3
    clear ih
    refine loopUp (N := 40) (I := fun k => ∀ τ : Mm, (∀ a i, ¬ hf 1 a i → gi τ a i = gi σ a i) → (∀ a i, gl τ a i = gl σ a i) → (∀ a i, (a = 111 ∨ a = 112 ∨ a = 113 ∨ a = 119) → i < 5 → gi τ a (5 + i) = gi σ a i) → (∀ i, i < k → gi τ 114 (40 + i) = gi σ 114 i) → R 199 71 [some (vr 85), some (vi (k : Int))] [] (shF n) 0 0 τ (Qv (shF n) P)) (fun k hk ih => ?_) 0 (by omega) τ f1 f2 f3 (fun _ h => by omega)
    intro τ f1 f2 f3 f4
    refine v_lyT_71 k (by intros; first | omega | (unfold rg; omega)) (by intros; first | omega | (unfold rg; omega)) (by intros; first | omega | (unfold rg; omega)) (by intros; first | omega | (unfold rg; omega)) ?_ ?_
    · intro hge
      rw [show k = 40 by omega] at f4
      clear ih
      refine loopUp (N := 10) (I := fun k => ∀ τ : Mm, (∀ a i, ¬ hf 1 a i → gi τ a i = gi σ a i) → (∀ a i, gl τ a i = gl σ a i) → (∀ a i, (a = 111 ∨ a = 112 ∨ a = 113 ∨ a = 119) → i < 5 → gi τ a (5 + i) = gi σ a i) → (∀ i, i < 40 → gi τ 114 (40 + i) = gi σ 114 i) → (∀ a i, (115 ≤ a ∧ a ≤ 118) → i < k → gi τ a (10 + i) = gi σ a i) → R 199 100 [some (vr 85), some (vi (k : Int))] [] (shF n) 0 0 τ (Qv (shF n) P)) (fun k hk ih => ?_) 0 (by omega) τ f1 f2 f3 f4 (fun _ _ _ h => by omega)
      intro τ f1 f2 f3 f4 f5
      refine v_lyT_100 k (by intros; first | omega | (unfold rg; omega)) (by intros; first | omega | (unfold rg; omega)) (by intros; first | omega | (unfold rg; omega)) (by intros; first | omega | (unfold rg; omega)) ?_ ?_
      · intro hge t2 e2 t3 e3 t4 e4 s6 hp
        rw [show k = 10 by omega] at f5
        have hother : ∀ a i, ¬ ((120 ≤ a ∧ a ≤ 122) ∧ i = 1) → gi t4 a i = gi τ a i := fun a i q => by rw [e4, e3, e2]; simp only [gi_si]; repeat rw [if_neg (by omega)]
        have hne : ∀ a i, a ≠ 85 → gi s6 a i = gi t4 a i := fun a i q => hp.2.1 a i (by omega)
        refine hP s6 ⟨fun a i p q => ?_, fun a i => ?_, fun a i p q => ?_, fun i q => ?_, fun a i p q => ?_, fun a p => ?_, hp.2.2⟩
        · rw [hp.2.1 a i q, hother a i (fun z => p (by unfold hf; omega))]; exact f1 a i p
        · show s6.2 a i = _
          rw [hp.1, e4, e3, e2]; exact f2 a i
        · rw [hne a _ (by omega), hother a _ (by omega)]; exact f3 a i p q
        · rw [hne _ _ (by omega), hother _ _ (by omega)]; exact f4 i q
        · rw [hne _ _ (by omega), hother _ _ (by omega)]; exact f5 a i p q
        · rw [hne _ _ (by omega)]
          have g0 : ∀ a, (120 ≤ a ∧ a ≤ 122) → gi τ a 0 = gi σ a 0 := fun a q => f1 a 0 (by unfold hf; omega)
          have : a = 120 ∨ a = 121 ∨ a = 122 := by omega
          rcases this with rfl | rfl | rfl
          · rw [← g0 120 (by omega), e4, e3, e2]; simp [gi_si]
          · rw [← g0 121 (by omega), e4, e3, e2]; simp [gi_si]
          · rw [← g0 122 (by omega), e4, e3, e2]; simp [gi_si]
      · intro hlt t11 e11 t12 e12 t13 e13 t14 e14
        have ho : ∀ a i, ¬ ((115 ≤ a ∧ a ≤ 118) ∧ i = 10 + k) → gi t14 a i = gi τ a i := fun a i q => by rw [e14, e13, e12, e11]; simp only [gi_si]; repeat rw [if_neg (by omega)]
        refine R_eq (ih (by omega) t14 (fun a i p => ?_) (fun a i => ?_) (fun a i p q => ?_) (fun i q => ?_) (fun a i p q => ?_)) rfl
        · rw [ho a i (fun z => p (by unfold hf; omega))]; exact f1 a i p
        · rw [e14, e13, e12, e11]; exact f2 a i
        · rw [ho _ _ (by omega)]; exact f3 a i p q
        · rw [ho _ _ (by omega)]; exact f4 i q
        · by_cases z : i = k
          · have g0 : ∀ a, (115 ≤ a ∧ a ≤ 118) → gi τ a k = gi σ a k := fun a q => f1 a k (by unfold hf; omega)
            subst z
            have : a = 115 ∨ a = 116 ∨ a = 117 ∨ a = 118 := by omega
            rcases this with rfl | rfl | rfl | rfl
            · rw [← g0 115 (by omega), e14, e13, e12, e11]; simp [gi_si]
            · rw [← g0 116 (by omega), e14, e13, e12, e11]; simp [gi_si]
            · rw [← g0 117 (by omega), e14, e13, e12, e11]; simp [gi_si]
            · rw [← g0 118 (by omega), e14, e13, e12, e11]; simp [gi_si]
          · rw [ho _ _ (by omega)]; exact f5 a i p (by omega)
    · intro hlt t5 e5
      have ho : ∀ a i, ¬ (a = 114 ∧ i = 40 + k) → gi t5 a i = gi τ a i := fun a i q => by rw [e5, gi_si, if_neg q]
      refine R_eq (ih (by omega) t5 (fun a i p => ?_) (fun a i => ?_) (fun a i p q => ?_) (fun i q => ?_)) rfl
      · rw [ho a i (fun z => p (by unfold hf; omega))]; exact f1 a i p
      · rw [e5]; exact f2 a i
      · rw [ho _ _ (by omega)]; exact f3 a i p q
      · by_cases z : i = k
        · subst z
          rw [e5, gi_si, if_pos ⟨rfl, rfl⟩]
          exact f1 114 i (by unfold hf; omega)
        · rw [ho _ _ (by omega)]; exact f4 i (by omega)
  · intro hlt t5 e5 t6 e6 t8 e8 t9 e9
    have ho : ∀ a i, ¬ ((a = 111 ∨ a = 112 ∨ a = 113 ∨ a = 119) ∧ i = 5 + k) → gi t9 a i = gi τ a i := fun a i q => by rw [e9, e8, e6, e5]; simp only [gi_si]; repeat rw [if_neg (by omega)]
    refine R_eq (ih (by omega) t9 (fun a i p => ?_) (fun a i => ?_) (fun a i p q => ?_)) rfl
    · rw [ho a i (fun z => p (by unfold hf; omega))]; exact f1 a i p
    · rw [e9, e8, e6, e5]; exact f2 a i
    · by_cases z : i = k
      · have g0 : ∀ a, (a = 111 ∨ a = 112 ∨ a = 113 ∨ a = 119) → gi τ a k = gi σ a k := fun a q => f1 a k (by unfold hf; omega)
        subst z
        rcases p with rfl | rfl | rfl | rfl
        · rw [← g0 111 (by omega), e9, e8, e6, e5]; simp [gi_si]
        · rw [← g0 112 (by omega), e9, e8, e6, e5]; simp [gi_si]
        · rw [← g0 113 (by omega), e9, e8, e6, e5]; simp [gi_si]
        · rw [← g0 119 (by omega), e9, e8, e6, e5]; simp [gi_si]
      · rw [ho _ _ (by omega)]; exact f3 a i p (by omega)
