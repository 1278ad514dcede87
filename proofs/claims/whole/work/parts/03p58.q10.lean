/-! QUERIES over a trial: plump, ahead, away, learns -/
def GP (T V : Nat → Nat → Int) (σ : Mm) (m : Int) : Prop := (0 ≤ m ∧ m ≤ 200) ∧ BkOK T ∧ RB T σ ∧ RW T V σ 1 ∧ WI T V ∧ UH T V ∧ PP σ ∧ V 0 0 < 29000 ∧ (0 ≤ gi σ 85 72 ∧ gi σ 85 72 < 50000) ∧ gi σ 85 71 = 0
def dK (T V : Nat → Nat → Int) (σ : Mm) (k : Nat) : Nat → Nat → Int := daysK T (dmR σ) (btR T σ) (dfR σ) (decide (gi σ 85 65 = 3)) (aiN σ V) V k
def GM (T V : Nat → Nat → Int) (m : Int) (σ σ' : Mm) : Prop := RG 1 σ σ' ∧ RW T (dK T V σ m.toNat) σ' 1 ∧ WI T (dK T V σ m.toNat) ∧ UH T (dK T V σ m.toNat) ∧ (m ≤ 0 ∨ HN (gi σ' 85 64) (dK T V σ (m.toNat - 1)) (dK T V σ m.toNat))
theorem c_goG {n : Nat} {m : Int} {T V : Nat → Nat → Int} {σ : Mm} {P : Mm → Prop} (h : GP T V σ m) (hP : ∀ σ', GM T V m σ σ' → P σ') : Cv 216 [vr 85, vi m] (shF n) σ P := by
  obtain ⟨h1, h2, h3, h4, h5, h6, h7, h8, h9, h10⟩ := h
  refine c_goM h1 h2 h3 h4 h5 h6 h7 h8 h9 h10 fun σ' a b c d e => hP σ' ⟨a, b, c, d, ?_⟩
  by_cases q : m ≤ 0
  · exact Or.inl q
  · exact Or.inr (e (by omega))
/-- days of a plain trial -/
def pK (T V : Nat → Nat → Int) (k : Nat) : Nat → Nat → Int := daysK T (-1) (T 0 5) (-1) false (fun u => !bi (V 0 1) u) V k
theorem Bt_ok {xs : Nat → Int} {N : Nat} {σ s : Mm} (h : Rel xs N σ) (b : Bt σ s) : BkOK (vw s 5) ∧ SI (vw s 5) (wv s 49) ∧ (gi s 70 2 = -1 ∨ (0 ≤ gi s 70 2 ∧ gi s 70 2 ≤ 9)) ∧ (0 ≤ gi s 70 3 ∧ gi s 70 3 ≤ 9) ∧ gi s 49 0 ≤ 9900 := by
  have hb := h.2.2.2.2.1
  refine ⟨by rw [b.1.T]; exact hb, ?_, Or.inl b.2.2.1, ?_, ?_⟩
  · rw [b.1.T]
    exact (WI_eqW hb.1.2 hb.2.1.2 b.2.1.sy h.2.2.2.2.2.2.1).1
  · rw [b.2.2.2.1]; exact (Rel_cnt h).2.2.2.2.1
  · have : gi s 49 0 = gi σ 40 0 := b.2.1 0 0 (by unfold inW; omega)
    rw [this]; exact (Rel_w0 h).2.1.2
theorem Bt_days {σ s : Mm} (b : Bt σ s) (k : Nat) : daysK (vw s 5) (gi s 70 2) (gi s 70 3) (gi s 70 4) (decide (gi s 70 5 ≠ 0)) (fun u => !bi (gi s 49 1) u) (wv s 49) k = pK (vw σ 5) (wv s 49) k := by
  obtain ⟨b1, b2, b3, b4, b5, b6⟩ := b
  rw [b1.T, b3, b4, b5, b6]
  rfl
theorem Lt_rel {xs : Nat → Int} {N : Nat} {s t : Mm} (h : Rel xs N s) (l : Lt (si s 85 2 0) t) : Rel xs N t := Rel_M h fun a i p => by
  rw [l.1 a i, gi_si, if_neg]
  · rintro ⟨rfl, rfl⟩
    rcases p with p | p
    · omega
    · simp [kpM, hT, hf] at p
  · rcases p with p | p
    · unfold hf; omega
    · exact (kpM_no p).1
  · rintro ⟨rfl, q⟩
    rcases p with p | p
    · omega
    · simp [kpM, hT, hf] at p
      omega
theorem Lt_GP {xs : Nat → Int} {N : Nat} {s t : Mm} {V : Nat → Nat → Int} {m : Int} (h : Rel xs N s) (l : Lt (si s 85 2 0) t) (e : eqW V (wv s 40)) (hm : 0 ≤ m ∧ m ≤ 200) : GP (vw s 5) V t m := by
  have hb := h.2.2.2.2.1
  have hw : RW (vw s 5) (wv s 40) (si s 85 2 0) 0 := by
    obtain ⟨w1, w2, w3, w4, w5, w6, w7⟩ := h.2.2.2.2.2.2.2.2.1
    refine ⟨?_, fun c hc => ?_, fun c hc => ?_, fun c hc => ?_, fun c hc => ?_, ?_, ?_⟩
    · rw [gi_ne (by omega)]; exact w1
    · rw [gi_ne (by omega)]; exact w2 c hc
    · rw [gi_ne (by omega), gi_ne (by omega), gi_ne (by omega)]; exact w3 c hc
    · rw [gi_ne (by omega), gi_ne (by omega), gi_ne (by omega), gi_ne (by omega)]; exact w4 c hc
    · rw [gi_ne (by omega)]; exact w5 c hc
    · rw [gi_ne (by omega)]; exact w6
    · rw [gi_ne (by omega)]; exact w7
  obtain ⟨l65, l66, l67, l68, l69, l70, l71, l72⟩ := l.2.2.2.2.2.2
  have hr : RB (vw s 5) t := RB_hT hb (fun a i p => (by
    rw [l.1 a i (by intro q; simp only [hf, hT] at p q; omega) (by intro q; simp only [hT] at p; omega), gi_si, if_neg (by intro q; simp only [hT] at p; omega)])) h.2.2.2.2.2.1
  refine ⟨hm, hb, hr, RW_eqW hb.2.1.2 e.sy (l.rw hb.2.1.2 hw), WI_eqW hb.1.2 hb.2.1.2 e.sy h.2.2.2.2.2.2.1, UH_eqW hb.2.1.2 e.sy h.2.2.2.2.2.2.2.1, ⟨l68, by omega⟩, ?_, by omega, l71⟩
  have : V 0 0 = gi s 40 0 := e 0 0 (by unfold inW; omega)
  rw [this]
  have := (Rel_w0 h).2.1.2
  omega
theorem Lt_dK {s t : Mm} {T V : Nat → Nat → Int} (l : Lt s t) (k : Nat) : dK T V t k = pK T V k := by
  obtain ⟨l65, l66, l67, l68, l69, l70, l71, l72⟩ := l.2.2.2.2.2.2
  unfold dK pK
  have e1 : dmR t = -1 := by unfold dmR; rw [if_neg (by omega)]; exact l67
  have e2 : btR T t = T 0 5 := by unfold btR; rw [if_neg (by omega)]
  have e3 : dfR t = -1 := by unfold dfR; rw [if_neg (by omega)]
  have e4 : decide (gi t 85 65 = 3) = false := decide_eq_false (by omega)
  have e5 : aiN t V = fun u => !bi (V 0 1) u := funext fun u => by
    unfold aiN
    rw [decide_eq_false (show ¬ (u : Int) = gi t 85 70 by omega), decide_eq_false (show ¬ gi t 85 65 = 0 by omega)]
    rfl
  rw [e1, e2, e3, e4, e5]
theorem wv49 {s : Mm} {A : Nat → Nat → Int} (h : wv s 49 = A) : (∀ i, gi s 49 i = A 0 i) ∧ (∀ i, gi s 52 i = A 3 i) ∧ (∀ i, gi s 53 i = A 4 i) ∧ (∀ i, gi s 55 i = A 6 i) ∧ (∀ i, gi s 57 i = A 8 i) := by
  subst h
  exact ⟨fun _ => rfl, fun _ => rfl, fun _ => rfl, fun _ => rfl, fun _ => rfl⟩
theorem v_plp {n : Nat}  (j : Int) (m : Int) {σ : Mm} {P : Int → Mm → Prop} (o1 : (0 : Int) ≤ j → j < (gi σ 5 0) → (0 : Int) ≤ m → m ≤ (99 : Int) → ∀ s6 : Mm, Bt σ s6 → (0 ≤ m ∧ m ≤ 200)) (o2 : (0 : Int) ≤ j → j < (gi σ 5 0) → (0 : Int) ≤ m → m ≤ (99 : Int) → ∀ s6 : Mm, Bt σ s6 → BkOK (vw s6 5)) (o3 : (0 : Int) ≤ j → j < (gi σ 5 0) → (0 : Int) ≤ m → m ≤ (99 : Int) → ∀ s6 : Mm, Bt σ s6 → SI (vw s6 5) (wv s6 49)) (o4 : (0 : Int) ≤ j → j < (gi σ 5 0) → (0 : Int) ≤ m → m ≤ (99 : Int) → ∀ s6 : Mm, Bt σ s6 → (gi s6 70 2 = -1 ∨ (0 ≤ gi s6 70 2 ∧ gi s6 70 2 ≤ 9))) (o5 : (0 : Int) ≤ j → j < (gi σ 5 0) → (0 : Int) ≤ m → m ≤ (99 : Int) → ∀ s6 : Mm, Bt σ s6 → (0 ≤ gi s6 70 3 ∧ gi s6 70 3 ≤ 9)) (o6 : (0 : Int) ≤ j → j < (gi σ 5 0) → (0 : Int) ≤ m → m ≤ (99 : Int) → ∀ s6 : Mm, Bt σ s6 → gi s6 49 0 < 29000) (o7 : (0 : Int) ≤ j → j < (gi σ 5 0) → (0 : Int) ≤ m → m ≤ (99 : Int) → ∀ s6 : Mm, Bt σ s6 → ∀ s9 : Mm, Wg 49 s6 s9 (daysK (vw s6 5) (gi s6 70 2) (gi s6 70 3) (gi s6 70 4) (decide (gi s6 70 5 ≠ 0)) (fun u => !bi (gi s6 49 1) u) (wv s6 49) m.toNat) → (0 ≤ j ∧ j < 5)) (o8 : (0 : Int) ≤ j → j < (gi σ 5 0) → (0 : Int) ≤ m → m ≤ (99 : Int) → ∀ s6 : Mm, Bt σ s6 → ∀ s9 : Mm, Wg 49 s6 s9 (daysK (vw s6 5) (gi s6 70 2) (gi s6 70 3) (gi s6 70 4) (decide (gi s6 70 5 ≠ 0)) (fun u => !bi (gi s6 49 1) u) (wv s6 49) m.toNat) → (0 ≤ (gi s9 45 j.toNat) ∧ (gi s9 45 j.toNat) < 5)) (l1 : j < (0 : Int) → P (-1) σ) (l2 : (0 : Int) ≤ j → (gi σ 5 0) ≤ j → P (-1) σ) (l3 : (0 : Int) ≤ j → j < (gi σ 5 0) → m < (0 : Int) → P (-1) σ) (l4 : (0 : Int) ≤ j → j < (gi σ 5 0) → (0 : Int) ≤ m → (99 : Int) < m → P (-1) σ) (l5 : (0 : Int) ≤ j → j < (gi σ 5 0) → (0 : Int) ≤ m → m ≤ (99 : Int) → ∀ s6 : Mm, Bt σ s6 → ∀ s9 : Mm, Wg 49 s6 s9 (daysK (vw s6 5) (gi s6 70 2) (gi s6 70 3) (gi s6 70 4) (decide (gi s6 70 5 ≠ 0)) (fun u => !bi (gi s6 49 1) u) (wv s6 49) m.toNat) → P (gi s9 55 (gi s9 45 j.toNat).toNat) s9) : Ci 140 [vr 3, vi j, vi m] (shF n) σ P :=
  show R 140 0 [some (vr 3), some (vi j), some (vi m)] [] (shF n) 0 0 σ (Qi (shF n) P) from wpK_R 25 [] ((show R 103 0 [some (vr 3), _] [] (shF n) 0 0 _ _ from wpK_R 10 [] (And.intro (fun q1 => And.intro ret0 (And.intro (Or.inl rfl) ⟨rfl, _, rfl, And.intro (fun _ => And.intro ret0 ⟨rfl, _, rfl, (l1 q1)⟩) (fun q => absurd (show (0 : Int) = 0 by decide) q)⟩)) (fun q1 => And.intro (fun q2 => And.intro ret0 (And.intro (Or.inl rfl) ⟨rfl, _, rfl, And.intro (fun _ => And.intro ret0 ⟨rfl, _, rfl, (l2 (Int.not_lt.mp q1) q2)⟩) (fun q => absurd (show (0 : Int) = 0 by decide) q)⟩)) (fun q2 => And.intro ret0 (And.intro (Or.inr rfl) ⟨rfl, _, rfl, And.intro (fun q => absurd q (show ¬ ((1 : Int) = 0) by decide)) (fun _ => (show R 106 0 [_] [] (shF n) 0 0 _ _ from wpK_R 8 [] (And.intro (fun q3 => And.intro ret0 (And.intro (Or.inl rfl) ⟨rfl, _, rfl, And.intro (fun q => absurd q (show ¬ ((0 : Int) ≠ 0) by decide)) (fun _ => And.intro ret0 ⟨rfl, _, rfl, (l3 (Int.not_lt.mp q1) (Int.not_le.mp q2) q3)⟩)⟩)) (fun q3 => And.intro (fun q4 => And.intro ret0 (And.intro (Or.inl rfl) ⟨rfl, _, rfl, And.intro (fun q => absurd q (show ¬ ((0 : Int) ≠ 0) by decide)) (fun _ => And.intro ret0 ⟨rfl, _, rfl, (l4 (Int.not_lt.mp q1) (Int.not_le.mp q2) (Int.not_lt.mp q3) q4)⟩)⟩)) (fun q4 => And.intro ret0 (And.intro (Or.inr rfl) ⟨rfl, _, rfl, And.intro (fun _ => (c_begin   (fun s6 h7 => (c_pass_49  (o1 (Int.not_lt.mp q1) (Int.not_le.mp q2) (Int.not_lt.mp q3) (Int.not_lt.mp q4) s6 h7) (o2 (Int.not_lt.mp q1) (Int.not_le.mp q2) (Int.not_lt.mp q3) (Int.not_lt.mp q4) s6 h7) (o3 (Int.not_lt.mp q1) (Int.not_le.mp q2) (Int.not_lt.mp q3) (Int.not_lt.mp q4) s6 h7) (o4 (Int.not_lt.mp q1) (Int.not_le.mp q2) (Int.not_lt.mp q3) (Int.not_lt.mp q4) s6 h7) (o5 (Int.not_lt.mp q1) (Int.not_le.mp q2) (Int.not_lt.mp q3) (Int.not_lt.mp q4) s6 h7) (o6 (Int.not_lt.mp q1) (Int.not_le.mp q2) (Int.not_lt.mp q3) (Int.not_lt.mp q4) s6 h7) (fun s9 h10 => (have k11 := (o7 (Int.not_lt.mp q1) (Int.not_le.mp q2) (Int.not_lt.mp q3) (Int.not_lt.mp q4) s6 h7 s9 h10); And.intro k11 ((have k12 := (o8 (Int.not_lt.mp q1) (Int.not_le.mp q2) (Int.not_lt.mp q3) (Int.not_lt.mp q4) s6 h7 s9 h10); And.intro k12 (And.intro ret0 ⟨rfl, _, rfl, (l5 (Int.not_lt.mp q1) (Int.not_le.mp q2) (Int.not_lt.mp q3) (Int.not_lt.mp q4) s6 h7 s9 h10)⟩))))))))) (fun q => absurd (show (1 : Int) ≠ 0 by decide) q)⟩))))))⟩))))))
theorem v_plpR {n : Nat} (T : Nat → Nat → Int) (V : Nat → Nat → Int) (j : Int) (m : Int) {σ : Mm} {P : Int → Mm → Prop} (o1 : ∀ t1 : Mm, t1 = si σ 85 2 (0 : Int) → (0 : Int) ≤ j → j < (gi σ 85 12) → (0 : Int) ≤ m → m ≤ (99 : Int) → KB t1) (o2 : ∀ t1 : Mm, t1 = si σ 85 2 (0 : Int) → (0 : Int) ≤ j → j < (gi σ 85 12) → (0 : Int) ≤ m → m ≤ (99 : Int) → ∀ s7 : Mm, Lt t1 s7 → GP T V s7 m) (o3 : ∀ t1 : Mm, t1 = si σ 85 2 (0 : Int) → (0 : Int) ≤ j → j < (gi σ 85 12) → (0 : Int) ≤ m → m ≤ (99 : Int) → ∀ s7 : Mm, Lt t1 s7 → ∀ s10 : Mm, GM T V m s7 s10 → (0 ≤ j ∧ j < 10)) (o4 : ∀ t1 : Mm, t1 = si σ 85 2 (0 : Int) → (0 : Int) ≤ j → j < (gi σ 85 12) → (0 : Int) ≤ m → m ≤ (99 : Int) → ∀ s7 : Mm, Lt t1 s7 → ∀ s10 : Mm, GM T V m s7 s10 → rg ((5 : Int) + (gi s10 111 j.toNat))) (o5 : ∀ t1 : Mm, t1 = si σ 85 2 (0 : Int) → (0 : Int) ≤ j → j < (gi σ 85 12) → (0 : Int) ≤ m → m ≤ (99 : Int) → ∀ s7 : Mm, Lt t1 s7 → ∀ s10 : Mm, GM T V m s7 s10 → (0 ≤ ((5 : Int) + (gi s10 111 j.toNat)) ∧ ((5 : Int) + (gi s10 111 j.toNat)) < 10)) (l1 : ∀ t1 : Mm, t1 = si σ 85 2 (0 : Int) → j < (0 : Int) → P (-1) t1) (l2 : ∀ t1 : Mm, t1 = si σ 85 2 (0 : Int) → (0 : Int) ≤ j → (gi σ 85 12) ≤ j → P (-1) t1) (l3 : ∀ t1 : Mm, t1 = si σ 85 2 (0 : Int) → (0 : Int) ≤ j → j < (gi σ 85 12) → m < (0 : Int) → P (-1) t1) (l4 : ∀ t1 : Mm, t1 = si σ 85 2 (0 : Int) → (0 : Int) ≤ j → j < (gi σ 85 12) → (0 : Int) ≤ m → (99 : Int) < m → P (-1) t1) (l5 : ∀ t1 : Mm, t1 = si σ 85 2 (0 : Int) → (0 : Int) ≤ j → j < (gi σ 85 12) → (0 : Int) ≤ m → m ≤ (99 : Int) → ∀ s7 : Mm, Lt t1 s7 → ∀ s10 : Mm, GM T V m s7 s10 → P (gi s10 113 ((5 : Int) + (gi s10 111 j.toNat)).toNat) s10) : Ci 253 [vr 85, vi j, vi m] (shF n) σ P :=
  show R 253 0 [some (vr 85), some (vi j), some (vi m)] [] (shF n) 0 0 σ (Qi (shF n) P) from wpK_R 27 [] ((show R 200 0 [some (vr 85), _] [] (shF n) 0 0 _ _ from wpK_R 9 [] (And.intro (fun q2 => And.intro ret0 (And.intro (Or.inl rfl) ⟨rfl, _, rfl, And.intro (fun _ => And.intro ret0 ⟨rfl, _, rfl, (l1 _ rfl q2)⟩) (fun q => absurd (show (0 : Int) = 0 by decide) q)⟩)) (fun q2 => And.intro (fun q3 => And.intro ret0 (And.intro (Or.inl rfl) ⟨rfl, _, rfl, And.intro (fun _ => And.intro ret0 ⟨rfl, _, rfl, (l2 _ rfl (Int.not_lt.mp q2) q3)⟩) (fun q => absurd (show (0 : Int) = 0 by decide) q)⟩)) (fun q3 => And.intro ret0 (And.intro (Or.inr rfl) ⟨rfl, _, rfl, And.intro (fun q => absurd q (show ¬ ((1 : Int) = 0) by decide)) (fun _ => (show R 157 0 [_, some (vi 0), some (vi 99)] [] (shF n) 0 0 _ _ from wpK_R 9 [] (And.intro (fun q4 => And.intro ret0 (And.intro (Or.inl rfl) ⟨rfl, _, rfl, And.intro (fun q => absurd q (show ¬ ((0 : Int) ≠ 0) by decide)) (fun _ => And.intro ret0 ⟨rfl, _, rfl, (l3 _ rfl (Int.not_lt.mp q2) (Int.not_le.mp q3) q4)⟩)⟩)) (fun q4 => And.intro (fun q5 => And.intro ret0 (And.intro (Or.inl rfl) ⟨rfl, _, rfl, And.intro (fun q => absurd q (show ¬ ((0 : Int) ≠ 0) by decide)) (fun _ => And.intro ret0 ⟨rfl, _, rfl, (l4 _ rfl (Int.not_lt.mp q2) (Int.not_le.mp q3) (Int.not_lt.mp q4) q5)⟩)⟩)) (fun q5 => And.intro ret0 (And.intro (Or.inr rfl) ⟨rfl, _, rfl, And.intro (fun _ => (c_lyT  (o1 _ rfl (Int.not_lt.mp q2) (Int.not_le.mp q3) (Int.not_lt.mp q4) (Int.not_lt.mp q5)) (fun s7 h8 => (c_goG (T := T) (V := V) (o2 _ rfl (Int.not_lt.mp q2) (Int.not_le.mp q3) (Int.not_lt.mp q4) (Int.not_lt.mp q5) s7 h8) (fun s10 h11 => (have k12 := (o3 _ rfl (Int.not_lt.mp q2) (Int.not_le.mp q3) (Int.not_lt.mp q4) (Int.not_lt.mp q5) s7 h8 s10 h11); And.intro k12 ((have k13 := (o4 _ rfl (Int.not_lt.mp q2) (Int.not_le.mp q3) (Int.not_lt.mp q4) (Int.not_lt.mp q5) s7 h8 s10 h11); And.intro k13 ((have k14 := (o5 _ rfl (Int.not_lt.mp q2) (Int.not_le.mp q3) (Int.not_lt.mp q4) (Int.not_lt.mp q5) s7 h8 s10 h11); And.intro k14 (And.intro ret0 ⟨rfl, _, rfl, (l5 _ rfl (Int.not_lt.mp q2) (Int.not_le.mp q3) (Int.not_lt.mp q4) (Int.not_lt.mp q5) s7 h8 s10 h11)⟩))))))))))) (fun q => absurd (show (1 : Int) ≠ 0 by decide) q)⟩))))))⟩))))))
theorem r_plump {xs : Nat → Int} {N n : Nat} {s : Mm} (h : Rel xs N s) (j m : Int) {V : Nat → Nat → Int} (e : eqW V (wv s 40)) : Ci 253 [vr 85, vi j, vi m] (shF n) s (fun v' s' => v' = (if (0 ≤ j ∧ j < gi s 5 0) ∧ (0 ≤ m ∧ m ≤ 99) then pK (vw s 5) V m.toNat 6 (gi s 45 j.toNat).toNat else -1) ∧ Rel xs N s') := by
  obtain ⟨c0, c1, c2, c3, c5, d0, d1, d2, d3, -⟩ := Rel_cnt h
  have hj := fun q : (j.toNat : Int) < gi s 5 0 => Rel_j h q
  have e1 := fun q : (j.toNat : Int) < gi s 5 0 => (Rel_w5 h (j := j.toNat) (by omega)).1
  have hg : ∀ s7 s10, Lt (si s 85 2 0) s7 → GM (vw s 5) V m s7 s10 → 0 ≤ j → j < gi s 5 0 → gi s10 111 j.toNat = gi s 45 j.toNat := fun s7 s10 l g q1 q2 => by
    rw [g.1.1 111 _ (by unfold hf; omega) (by omega), l.1 111 _ (by unfold hf; omega) (by omega), gi_ne (by omega)]
    exact e1 (by omega)
  refine v_plpR (vw s 5) V j m (by intros; subst_vars; first | omega | exact fun i hi => by rw [gi_ne (by omega)]; exact Rel_KB h i hi | exact Lt_GP h ‹_› e (by omega) | (have q := hg _ _ ‹_› ‹_› (by omega) (by omega); have q2 := hj (by omega); (try unfold rg); omega)) (by intros; subst_vars; first | omega | exact fun i hi => by rw [gi_ne (by omega)]; exact Rel_KB h i hi | exact Lt_GP h ‹_› e (by omega) | (have q := hg _ _ ‹_› ‹_› (by omega) (by omega); have q2 := hj (by omega); (try unfold rg); omega)) (by intros; subst_vars; first | omega | exact fun i hi => by rw [gi_ne (by omega)]; exact Rel_KB h i hi | exact Lt_GP h ‹_› e (by omega) | (have q := hg _ _ ‹_› ‹_› (by omega) (by omega); have q2 := hj (by omega); (try unfold rg); omega)) (by intros; subst_vars; first | omega | exact fun i hi => by rw [gi_ne (by omega)]; exact Rel_KB h i hi | exact Lt_GP h ‹_› e (by omega) | (have q := hg _ _ ‹_› ‹_› (by omega) (by omega); have q2 := hj (by omega); (try unfold rg); omega)) (by intros; subst_vars; first | omega | exact fun i hi => by rw [gi_ne (by omega)]; exact Rel_KB h i hi | exact Lt_GP h ‹_› e (by omega) | (have q := hg _ _ ‹_› ‹_› (by omega) (by omega); have q2 := hj (by omega); (try unfold rg); omega)) ?_ ?_ ?_ ?_ ?_
  · intro t1 ht; intros; rw [ht]; exact ⟨by rw [if_neg (by omega)], Rel_th h⟩
  · intro t1 ht; intros; rw [ht]; exact ⟨by rw [if_neg (by omega)], Rel_th h⟩
  · intro t1 ht; intros; rw [ht]; exact ⟨by rw [if_neg (by omega)], Rel_th h⟩
  · intro t1 ht; intros; rw [ht]; exact ⟨by rw [if_neg (by omega)], Rel_th h⟩
  · intro t1 ht h1 h2 h3 h4 s7 l s10 g
    subst ht
    have q2 := hj (by omega)
    refine ⟨?_, Rel_rg (Lt_rel h l) g.1⟩
    rw [if_pos (by omega), ← Lt_dK l, hg s7 s10 l g h1 (by omega)]
    have := (g.2.1.2.2.2.1 (gi s 45 j.toNat).toNat (by omega)).2.2.1
    rw [← this]
    congr 1
    omega
theorem q_plump {xs : Nat → Int} {N n : Nat} {σ : Mm} (h : Rel xs N σ) (j m : Int) : Bi xs N n 140 [vr 3, vi j, vi m] 253 [vr 85, vi j, vi m] σ := by
  obtain ⟨c0, c1, c2, c3, c5, d0, d1, d2, d3, -⟩ := Rel_cnt h
  have hj := fun q : (j.toNat : Int) < gi σ 5 0 => Rel_j h q
  have hno : ¬ ((0 ≤ j ∧ j < gi σ 5 0) ∧ (0 ≤ m ∧ m ≤ 99)) → Ci 253 [vr 85, vi j, vi m] (shF n) σ (fun v' s' => v' = -1 ∧ Rel xs N s') := fun q => Ci_mono (r_plump h j m (fun _ _ _ => rfl)) fun v' s' p => ⟨by rw [p.1, if_neg q], p.2⟩
  have h45 : ∀ s6 s9 A, Bt σ s6 → Wg 49 s6 s9 A → gi s9 45 j.toNat = gi σ 45 j.toNat := fun s6 s9 A b w => by
    rw [w.1 45 _ (by omega) (by omega)]; exact b.1 45 _ (Or.inl (by unfold kpX; omega))
  refine v_plp j m (by intros; first | omega | exact (Bt_ok h ‹_›).1 | exact (Bt_ok h ‹_›).2.1 | exact (Bt_ok h ‹_›).2.2.1 | exact (Bt_ok h ‹_›).2.2.2.1 | (have q := (Bt_ok h ‹_›).2.2.2.2; omega) | (have q := hj (by omega); have q2 := h45 _ _ _ ‹_› ‹_›; omega)) (by intros; first | omega | exact (Bt_ok h ‹_›).1 | exact (Bt_ok h ‹_›).2.1 | exact (Bt_ok h ‹_›).2.2.1 | exact (Bt_ok h ‹_›).2.2.2.1 | (have q := (Bt_ok h ‹_›).2.2.2.2; omega) | (have q := hj (by omega); have q2 := h45 _ _ _ ‹_› ‹_›; omega)) (by intros; first | omega | exact (Bt_ok h ‹_›).1 | exact (Bt_ok h ‹_›).2.1 | exact (Bt_ok h ‹_›).2.2.1 | exact (Bt_ok h ‹_›).2.2.2.1 | (have q := (Bt_ok h ‹_›).2.2.2.2; omega) | (have q := hj (by omega); have q2 := h45 _ _ _ ‹_› ‹_›; omega)) (by intros; first | omega | exact (Bt_ok h ‹_›).1 | exact (Bt_ok h ‹_›).2.1 | exact (Bt_ok h ‹_›).2.2.1 | exact (Bt_ok h ‹_›).2.2.2.1 | (have q := (Bt_ok h ‹_›).2.2.2.2; omega) | (have q := hj (by omega); have q2 := h45 _ _ _ ‹_› ‹_›; omega)) (by intros; first | omega | exact (Bt_ok h ‹_›).1 | exact (Bt_ok h ‹_›).2.1 | exact (Bt_ok h ‹_›).2.2.1 | exact (Bt_ok h ‹_›).2.2.2.1 | (have q := (Bt_ok h ‹_›).2.2.2.2; omega) | (have q := hj (by omega); have q2 := h45 _ _ _ ‹_› ‹_›; omega)) (by intros; first | omega | exact (Bt_ok h ‹_›).1 | exact (Bt_ok h ‹_›).2.1 | exact (Bt_ok h ‹_›).2.2.1 | exact (Bt_ok h ‹_›).2.2.2.1 | (have q := (Bt_ok h ‹_›).2.2.2.2; omega) | (have q := hj (by omega); have q2 := h45 _ _ _ ‹_› ‹_›; omega)) (by intros; first | omega | exact (Bt_ok h ‹_›).1 | exact (Bt_ok h ‹_›).2.1 | exact (Bt_ok h ‹_›).2.2.1 | exact (Bt_ok h ‹_›).2.2.2.1 | (have q := (Bt_ok h ‹_›).2.2.2.2; omega) | (have q := hj (by omega); have q2 := h45 _ _ _ ‹_› ‹_›; omega)) (by intros; first | omega | exact (Bt_ok h ‹_›).1 | exact (Bt_ok h ‹_›).2.1 | exact (Bt_ok h ‹_›).2.2.1 | exact (Bt_ok h ‹_›).2.2.2.1 | (have q := (Bt_ok h ‹_›).2.2.2.2; omega) | (have q := hj (by omega); have q2 := h45 _ _ _ ‹_› ‹_›; omega)) ?_ ?_ ?_ ?_ ?_
  · intros; exact hno (by omega)
  · intros; exact hno (by omega)
  · intros; exact hno (by omega)
  · intros; exact hno (by omega)
  · intro h1 h2 h3 h4 s6 b s9 w
    rw [Bt_days b] at w
    have hS : ScX σ s9 := b.1.tr (ScX.wg w)
    refine Ci_mono (r_plump (hS.rel h) j m (V := wv s6 49) (by rw [hS.V]; exact b.2.1)) fun v' s' p => ⟨?_, p.2⟩
    rw [p.1, if_pos ⟨⟨h1, by rw [hS 5 0 (Or.inl (by unfold kpX; omega))]; exact h2⟩, h3, h4⟩, hS.T, (wv49 w.2.2).2.2.2.1]
