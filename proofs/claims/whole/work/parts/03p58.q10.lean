/-! QUERIES over a trial: plump, ahead, away, learns -/
def GP (T V : Nat → Nat → Int) (σ : Mm) (m : Int) : Prop := (0 ≤ m ∧ m ≤ 200) ∧ BkOK T ∧ RB T σ ∧ RW T V σ 1 ∧ WI T V ∧ UH T V ∧ PP σ ∧ V 0 0 < 29000 ∧ (0 ≤ gi σ 85 72 ∧ gi σ 85 72 < 50000) ∧ gi σ 85 71 = 0
def dK (T V : Nat → Nat → Int) (σ : Mm) (k : Nat) : Nat → Nat → Int := daysK T (dmR σ) (btR T σ) (dfR σ) (decide (gi σ 85 65 = 3)) (aiN σ V) V k
def GM (T V : Nat → Nat → Int) (m : Int) (σ σ' : Mm) : Prop := RG 1 σ σ' ∧ RW T (dK T V σ m.toNat) σ' 1 ∧ WI T (dK T V σ m.toNat) ∧ UH T (dK T V σ m.toNat) ∧ (m ≤ 0 ∨ HN (gi σ' 85 64) (dK T V σ (m.toNat - 1)) (dK T V σ m.toNat))
theorem c_goG {n : Nat} {m : Int} {T V : Nat → Nat → Int} {σ : Mm} {P : Mm → Prop} (h : GP T V σ m) (hP : ∀ σ', GM T V m σ σ' → P σ') : Cv 216 [vr 85, vi m] (shF n) σ P := by
  obtain ⟨h1, h2, h3, h4, h5, h6, h7, h8, h9, h10⟩ := h
  refine c_goM h1 h2 h3 h4 h5 h6 h7 h8 h9 h10 fun σ' a b c d e => hP σ' ⟨a, b, c, d, ?_⟩
  by_cases q : m ≤ 0
  · exact Or.inl q
  · exact Or.inr (e (by omega))
/-- days of a plain trial -/
def pK (T V : Nat → Nat → Int) (k : Nat) : Nat → Nat → Int := daysK T (-1) (T 0 5) (-1) false (fun u => !bi (V 0 1) u) V k
theorem Bt_ok {xs : Nat → Int} {N : Nat} {σ s : Mm} (h : Rel xs N σ) (b : Bt σ s) : BkOK (vw s 5) ∧ SI (vw s 5) (wv s 49) ∧ (gi s 70 2 = -1 ∨ (0 ≤ gi s 70 2 ∧ gi s 70 2 ≤ 9)) ∧ (0 ≤ gi s 70 3 ∧ gi s 70 3 ≤ 9) ∧ gi s 49 0 ≤ 9900 := by
  have hb := h.2.2.2.2.1
  refine ⟨by rw [b.1.T]; exact hb, ?_, Or.inl b.2.2.1, ?_, ?_⟩
  · rw [b.1.T]
    exact (WI_eqW hb.1.2 hb.2.1.2 b.2.1.sy h.2.2.2.2.2.2.1).1
  · rw [b.2.2.2.1]; exact (Rel_cnt h).2.2.2.2.1
  · have : gi s 49 0 = gi σ 40 0 := b.2.1 0 0 (by unfold inW; omega)
    rw [this]; exact (Rel_w0 h).2.1.2
theorem Bt_days {σ s : Mm} (b : Bt σ s) (k : Nat) : daysK (vw s 5) (gi s 70 2) (gi s 70 3) (gi s 70 4) (decide (gi s 70 5 ≠ 0)) (fun u => !bi (gi s 49 1) u) (wv s 49) k = pK (vw σ 5) (wv s 49) k := by
  obtain ⟨b1, b2, b3, b4, b5, b6⟩ := b
  rw [b1.T, b3, b4, b5, b6]
  rfl
theorem Lt_rel {xs : Nat → Int} {N : Nat} {s t : Mm} (h : Rel xs N s) (l : Lt (si s 85 2 0) t) : Rel xs N t := Rel_M h fun a i p => by
  rw [l.1 a i, gi_si, if_neg]
  · rintro ⟨rfl, rfl⟩
    rcases p with p | p
    · omega
    · simp [kpM, hT, hf] at p
  · rcases p with p | p
    · unfold hf; omega
    · exact (kpM_no p).1
  · rintro ⟨rfl, q⟩
    rcases p with p | p
    · omega
    · simp [kpM, hT, hf] at p
      omega
theorem Lt_GP {xs : Nat → Int} {N : Nat} {s t : Mm} {V : Nat → Nat → Int} {m : Int} (h : Rel xs N s) (l : Lt (si s 85 2 0) t) (e : eqW V (wv s 40)) (hm : 0 ≤ m ∧ m ≤ 200) : GP (vw s 5) V t m := by
  have hb := h.2.2.2.2.1
  have hw : RW (vw s 5) (wv s 40) (si s 85 2 0) 0 := by
    obtain ⟨w1, w2, w3, w4, w5, w6, w7⟩ := h.2.2.2.2.2.2.2.2.1
    refine ⟨?_, fun c hc => ?_, fun c hc => ?_, fun c hc => ?_, fun c hc => ?_, ?_, ?_⟩
    · rw [gi_ne (by omega)]; exact w1
    · rw [gi_ne (by omega)]; exact w2 c hc
    · rw [gi_ne (by omega), gi_ne (by omega), gi_ne (by omega)]; exact w3 c hc
    · rw [gi_ne (by omega), gi_ne (by omega), gi_ne (by omega), gi_ne (by omega)]; exact w4 c hc
    · rw [gi_ne (by omega)]; exact w5 c hc
    · rw [gi_ne (by omega)]; exact w6
    · rw [gi_ne (by omega)]; exact w7
  obtain ⟨l65, l66, l67, l68, l69, l70, l71, l72⟩ := l.2.2.2.2.2.2
  have hr : RB (vw s 5) t := RB_hT hb (fun a i p => (by
    rw [l.1 a i (by intro q; simp only [hf, hT] at p q; omega) (by intro q; simp only [hT] at p; omega), gi_si, if_neg (by intro q; simp only [hT] at p; omega)])) h.2.2.2.2.2.1
  refine ⟨hm, hb, hr, RW_eqW hb.2.1.2 e.sy (l.rw hb.2.1.2 hw), WI_eqW hb.1.2 hb.2.1.2 e.sy h.2.2.2.2.2.2.1, UH_eqW hb.2.1.2 e.sy h.2.2.2.2.2.2.2.1, ⟨l68, by omega⟩, ?_, by omega, l71⟩
  have : V 0 0 = gi s 40 0 := e 0 0 (by unfold inW; omega)
  rw [this]
  have := (Rel_w0 h).2.1.2
  omega
theorem Lt_dK {s t : Mm} {T V : Nat → Nat → Int} (l : Lt s t) (k : Nat) : dK T V t k = pK T V k := by
  obtain ⟨l65, l66, l67, l68, l69, l70, l71, l72⟩ := l.2.2.2.2.2.2
  unfold dK pK
  have e1 : dmR t = -1 := by unfold dmR; rw [if_neg (by omega)]; exact l67
  have e2 : btR T t = T 0 5 := by unfold btR; rw [if_neg (by omega)]
  have e3 : dfR t = -1 := by unfold dfR; rw [if_neg (by omega)]
  have e4 : decide (gi t 85 65 = 3) = false := decide_eq_false (by omega)
  have e5 : aiN t V = fun u => !bi (V 0 1) u := funext fun u => by
    unfold aiN
    rw [decide_eq_false (show ¬ (u : Int) = gi t 85 70 by omega), decide_eq_false (show ¬ gi t 85 65 = 0 by omega)]
    rfl
  rw [e1, e2, e3, e4, e5]
