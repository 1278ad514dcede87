/-! DAYS -/
def dayK (T : Nat → Nat → Int) (dm bt df : Int) (fr : Bool) (ai : Nat → Bool) (V : Nat → Nat → Int) : Nat → Nat → Int := dayV T V (moD T dm (V 0 0)) bt df fr ai
def daysK (T : Nat → Nat → Int) (dm bt df : Int) (fr : Bool) (ai : Nat → Bool) (V : Nat → Nat → Int) : Nat → (Nat → Nat → Int)
  | 0 => V
  | n + 1 => dayK T dm bt df fr ai (daysK T dm bt df fr ai V n)
theorem dayV_at {T V : Nat → Nat → Int} {mo bt df : Int} {fr : Bool} {ai : Nat → Bool} {f i : Nat} (h0 : ¬ (f = 0 ∧ i = 0)) (h2 : f ≠ 2) (h3 : f ≠ 3) (h4 : f ≠ 4) (h6 : f ≠ 6) (h7 : f ≠ 7) (h8 : f ≠ 8) : dayV T V mo bt df fr ai f i = V f i := by
  simp only [dayV, if_neg h0]
  split
  · rw [airJ_at h4 h6 h8, hearsV_at h2 h3 h4 h6 h7]
  · rw [hearsV_at h2 h3 h4 h6 h7]
theorem dayV_day {T V : Nat → Nat → Int} {mo bt df : Int} {fr : Bool} {ai : Nat → Bool} : dayV T V mo bt df fr ai 0 0 = V 0 0 + 1 := by simp [dayV]
theorem dayV_kept {T V : Nat → Nat → Int} {mo bt df : Int} {fr : Bool} {ai : Nat → Bool} : dayV T V mo bt df fr ai 0 1 = V 0 1 := dayV_at (by omega) (by omega) (by omega) (by omega) (by omega) (by omega) (by omega)
theorem daysK_day {T : Nat → Nat → Int} {dm bt df : Int} {fr : Bool} {ai : Nat → Bool} {V : Nat → Nat → Int} : ∀ n : Nat, daysK T dm bt df fr ai V n 0 0 = V 0 0 + (n : Int) := by
  intro n
  induction n with
  | zero => show V 0 0 = V 0 0 + ((0 : Nat) : Int); omega
  | succ n ih => simp only [daysK, dayK]; rw [dayV_day, ih]; omega
theorem daysK_kept {T : Nat → Nat → Int} {dm bt df : Int} {fr : Bool} {ai : Nat → Bool} {V : Nat → Nat → Int} : ∀ n : Nat, daysK T dm bt df fr ai V n 0 1 = V 0 1 := by
  intro n
  induction n with
  | zero => rfl
  | succ n ih => simp only [daysK, dayK]; rw [dayV_kept, ih]
theorem daysK_at {T : Nat → Nat → Int} {dm bt df : Int} {fr : Bool} {ai : Nat → Bool} {V : Nat → Nat → Int} {f i : Nat} (h0 : ¬ (f = 0 ∧ i = 0)) (h2 : f ≠ 2) (h3 : f ≠ 3) (h4 : f ≠ 4) (h6 : f ≠ 6) (h7 : f ≠ 7) (h8 : f ≠ 8) : ∀ n : Nat, daysK T dm bt df fr ai V n f i = V f i := by
  intro n
  induction n with
  | zero => rfl
  | succ n ih => simp only [daysK, dayK]; rw [dayV_at h0 h2 h3 h4 h6 h7 h8, ih]
theorem SI_days {T : Nat → Nat → Int} {dm bt df : Int} {fr : Bool} {ai : Nat → Bool} {V : Nat → Nat → Int} (hb : BkOK T) (h : SI T V) : ∀ n : Nat, SI T (daysK T dm bt df fr ai V n) := by
  intro n
  induction n with
  | zero => exact h
  | succ n ih => exact SI_day hb ih
theorem Wg.tr {W : Nat} {x y z : Mm} {A B : Nat → Nat → Int} (h : Wg W x y A) (h' : Wg W y z B) : Wg W x z B := ⟨fun a b p q => (h'.1 a b p q).trans (h.1 a b p q), fun a b p q => (h'.2.1 a b p q).trans (h.2.1 a b p q), h'.2.2⟩
theorem v_pass_40_0 {n : Nat}  (m : Int) {σ : Mm} {P : Mm → Prop} (l1 : R 73 2 [some (vr 70), some (vr 40), some (vi m), some (vi 0)] [] (shF n) 0 0 σ (Qv (shF n) P)) : Cv 73 [vr 70, vr 40, vi m] (shF n) σ P :=
  show R 73 0 [some (vr 70), some (vr 40), some (vi m), none] [] (shF n) 0 0 σ (Qv (shF n) P) from wpK_R 3 [2] ((l1))
theorem v_pass_40_2 {n : Nat}  (m : Int) (k : Nat) {σ : Mm} {P : Mm → Prop} (o1 : (k : Int) < m → BkOK (vw σ 5)) (o2 : (k : Int) < m → SI (vw σ 5) (wv σ 40)) (o3 : (k : Int) < m → (gi σ 70 2 = -1 ∨ (0 ≤ gi σ 70 2 ∧ gi σ 70 2 ≤ 9))) (o4 : (k : Int) < m → (0 ≤ gi σ 70 3 ∧ gi σ 70 3 ≤ 9)) (o5 : (k : Int) < m → gi σ 40 0 < 30000) (o6 : (k : Int) < m → ∀ s3 : Mm, Wg 40 σ s3 (dayV (vw σ 5) (wv σ 40) (moD (vw σ 5) (gi σ 70 2) (gi σ 40 0)) (gi σ 70 3) (gi σ 70 4) (decide (gi σ 70 5 ≠ 0)) (fun u => !bi (gi σ 40 1) u)) → rg ((k : Int) + 1)) (l1 : m ≤ (k : Int) → P σ) (l2 : (k : Int) < m → ∀ s3 : Mm, Wg 40 σ s3 (dayV (vw σ 5) (wv σ 40) (moD (vw σ 5) (gi σ 70 2) (gi σ 40 0)) (gi σ 70 3) (gi σ 70 4) (decide (gi σ 70 5 ≠ 0)) (fun u => !bi (gi σ 40 1) u)) → R 73 2 [some (vr 70), some (vr 40), some (vi m), some (vi ((k : Int) + 1))] [] (shF n) 0 0 s3 (Qv (shF n) P)) : R 73 2 [some (vr 70), some (vr 40), some (vi m), some (vi (k : Int))] [] (shF n) 0 0 σ (Qv (shF n) P) :=
  wpK_R 9 [2] (And.intro (fun q1 => And.intro ret0 ⟨rfl, rfl, (l1 q1)⟩) (fun q1 => (c_pd_40  (o1 (Int.not_le.mp q1)) (o2 (Int.not_le.mp q1)) (o3 (Int.not_le.mp q1)) (o4 (Int.not_le.mp q1)) (o5 (Int.not_le.mp q1)) (fun s3 h4 => (have k5 := (o6 (Int.not_le.mp q1) s3 h4); And.intro k5 ((l2 (Int.not_le.mp q1) s3 h4)))))))
theorem c_pass_40 {n : Nat} {m : Int} {σ : Mm} {P : Mm → Prop} (hm : 0 ≤ m ∧ m ≤ 200) (hb : BkOK (vw σ 5)) (hs : SI (vw σ 5) (wv σ 40)) (hdm : gi σ 70 2 = -1 ∨ (0 ≤ gi σ 70 2 ∧ gi σ 70 2 ≤ 9)) (hbt : 0 ≤ gi σ 70 3 ∧ gi σ 70 3 ≤ 9) (hd : gi σ 40 0 < 29000)
    (hP : ∀ σ', Wg 40 σ σ' (daysK (vw σ 5) (gi σ 70 2) (gi σ 70 3) (gi σ 70 4) (decide (gi σ 70 5 ≠ 0)) (fun u => !bi (gi σ 40 1) u) (wv σ 40) m.toNat) → P σ') : Cv 73 [vr 70, vr 40, vi m] (shF n) σ P := by
  refine v_pass_40_0 m ?_
  have hV0 : wv σ 40 0 0 = gi σ 40 0 := by rw [wv_at (by omega)]
  have hV1 : wv σ 40 0 1 = gi σ 40 1 := by rw [wv_at (by omega)]
  refine loopUp (N := m.toNat) (I := fun k => ∀ τ : Mm, Wg 40 σ τ (daysK (vw σ 5) (gi σ 70 2) (gi σ 70 3) (gi σ 70 4) (decide (gi σ 70 5 ≠ 0)) (fun u => !bi (gi σ 40 1) u) (wv σ 40) k) → R 73 2 [some (vr 70), some (vr 40), some (vi m), some (vi (k : Int))] [] (shF n) 0 0 τ (Qv (shF n) P)) (fun k hk ih => ?_) 0 (by omega) σ ⟨fun _ _ _ _ => rfl, fun _ _ _ _ => rfl, rfl⟩
  intro τ hg
  have hT : vw τ 5 = vw σ 5 := vw_same fun a b p q => hg.1 a b (by omega) (by omega)
  have e2 := hg.1 70 2 (by omega) (by omega)
  have e3 := hg.1 70 3 (by omega) (by omega)
  have e4 := hg.1 70 4 (by omega) (by omega)
  have e5 := hg.1 70 5 (by omega) (by omega)
  have eW0 : gi τ 40 0 = gi σ 40 0 + (k : Int) := by
    have := congrFun (congrFun hg.2.2 0) 0
    rw [wv_at (by omega), daysK_day, hV0] at this
    exact this
  have eW1 : gi τ 40 1 = gi σ 40 1 := by
    have := congrFun (congrFun hg.2.2 0) 1
    rw [wv_at (by omega), daysK_kept, hV1] at this
    exact this
  refine v_pass_40_2 m k (by intros; first | omega | (unfold rg; omega) | (rw [hT]; exact hb) | (rw [hT, hg.2.2]; exact SI_days hb hs k)) (by intros; first | omega | (unfold rg; omega) | (rw [hT]; exact hb) | (rw [hT, hg.2.2]; exact SI_days hb hs k)) (by intros; first | omega | (unfold rg; omega) | (rw [hT]; exact hb) | (rw [hT, hg.2.2]; exact SI_days hb hs k)) (by intros; first | omega | (unfold rg; omega) | (rw [hT]; exact hb) | (rw [hT, hg.2.2]; exact SI_days hb hs k)) (by intros; first | omega | (unfold rg; omega) | (rw [hT]; exact hb) | (rw [hT, hg.2.2]; exact SI_days hb hs k)) (by intros; first | omega | (unfold rg; omega) | (rw [hT]; exact hb) | (rw [hT, hg.2.2]; exact SI_days hb hs k)) ?_ ?_
  · intro h
    rw [show m.toNat = k by omega] at hP
    exact hP τ hg
  · intro h s hs'
    refine ih (by omega) s (hg.tr ?_)
    rw [hT, hg.2.2, e2, e3, e4, e5, eW1] at hs'
    show Wg 40 τ s (dayV _ _ (moD _ _ (daysK _ _ _ _ _ _ _ k 0 0)) _ _ _ _)
    rw [daysK_day, hV0, ← eW0]
    exact hs'
theorem v_pass_49_0 {n : Nat}  (m : Int) {σ : Mm} {P : Mm → Prop} (l1 : R 73 2 [some (vr 70), some (vr 49), some (vi m), some (vi 0)] [] (shF n) 0 0 σ (Qv (shF n) P)) : Cv 73 [vr 70, vr 49, vi m] (shF n) σ P :=
  show R 73 0 [some (vr 70), some (vr 49), some (vi m), none] [] (shF n) 0 0 σ (Qv (shF n) P) from wpK_R 3 [2] ((l1))
theorem v_pass_49_2 {n : Nat}  (m : Int) (k : Nat) {σ : Mm} {P : Mm → Prop} (o1 : (k : Int) < m → BkOK (vw σ 5)) (o2 : (k : Int) < m → SI (vw σ 5) (wv σ 49)) (o3 : (k : Int) < m → (gi σ 70 2 = -1 ∨ (0 ≤ gi σ 70 2 ∧ gi σ 70 2 ≤ 9))) (o4 : (k : Int) < m → (0 ≤ gi σ 70 3 ∧ gi σ 70 3 ≤ 9)) (o5 : (k : Int) < m → gi σ 49 0 < 30000) (o6 : (k : Int) < m → ∀ s3 : Mm, Wg 49 σ s3 (dayV (vw σ 5) (wv σ 49) (moD (vw σ 5) (gi σ 70 2) (gi σ 49 0)) (gi σ 70 3) (gi σ 70 4) (decide (gi σ 70 5 ≠ 0)) (fun u => !bi (gi σ 49 1) u)) → rg ((k : Int) + 1)) (l1 : m ≤ (k : Int) → P σ) (l2 : (k : Int) < m → ∀ s3 : Mm, Wg 49 σ s3 (dayV (vw σ 5) (wv σ 49) (moD (vw σ 5) (gi σ 70 2) (gi σ 49 0)) (gi σ 70 3) (gi σ 70 4) (decide (gi σ 70 5 ≠ 0)) (fun u => !bi (gi σ 49 1) u)) → R 73 2 [some (vr 70), some (vr 49), some (vi m), some (vi ((k : Int) + 1))] [] (shF n) 0 0 s3 (Qv (shF n) P)) : R 73 2 [some (vr 70), some (vr 49), some (vi m), some (vi (k : Int))] [] (shF n) 0 0 σ (Qv (shF n) P) :=
  wpK_R 9 [2] (And.intro (fun q1 => And.intro ret0 ⟨rfl, rfl, (l1 q1)⟩) (fun q1 => (c_pd_49  (o1 (Int.not_le.mp q1)) (o2 (Int.not_le.mp q1)) (o3 (Int.not_le.mp q1)) (o4 (Int.not_le.mp q1)) (o5 (Int.not_le.mp q1)) (fun s3 h4 => (have k5 := (o6 (Int.not_le.mp q1) s3 h4); And.intro k5 ((l2 (Int.not_le.mp q1) s3 h4)))))))
theorem c_pass_49 {n : Nat} {m : Int} {σ : Mm} {P : Mm → Prop} (hm : 0 ≤ m ∧ m ≤ 200) (hb : BkOK (vw σ 5)) (hs : SI (vw σ 5) (wv σ 49)) (hdm : gi σ 70 2 = -1 ∨ (0 ≤ gi σ 70 2 ∧ gi σ 70 2 ≤ 9)) (hbt : 0 ≤ gi σ 70 3 ∧ gi σ 70 3 ≤ 9) (hd : gi σ 49 0 < 29000)
    (hP : ∀ σ', Wg 49 σ σ' (daysK (vw σ 5) (gi σ 70 2) (gi σ 70 3) (gi σ 70 4) (decide (gi σ 70 5 ≠ 0)) (fun u => !bi (gi σ 49 1) u) (wv σ 49) m.toNat) → P σ') : Cv 73 [vr 70, vr 49, vi m] (shF n) σ P := by
  refine v_pass_49_0 m ?_
  have hV0 : wv σ 49 0 0 = gi σ 49 0 := by rw [wv_at (by omega)]
  have hV1 : wv σ 49 0 1 = gi σ 49 1 := by rw [wv_at (by omega)]
  refine loopUp (N := m.toNat) (I := fun k => ∀ τ : Mm, Wg 49 σ τ (daysK (vw σ 5) (gi σ 70 2) (gi σ 70 3) (gi σ 70 4) (decide (gi σ 70 5 ≠ 0)) (fun u => !bi (gi σ 49 1) u) (wv σ 49) k) → R 73 2 [some (vr 70), some (vr 49), some (vi m), some (vi (k : Int))] [] (shF n) 0 0 τ (Qv (shF n) P)) (fun k hk ih => ?_) 0 (by omega) σ ⟨fun _ _ _ _ => rfl, fun _ _ _ _ => rfl, rfl⟩
  intro τ hg
  have hT : vw τ 5 = vw σ 5 := vw_same fun a b p q => hg.1 a b (by omega) (by omega)
  have e2 := hg.1 70 2 (by omega) (by omega)
  have e3 := hg.1 70 3 (by omega) (by omega)
  have e4 := hg.1 70 4 (by omega) (by omega)
  have e5 := hg.1 70 5 (by omega) (by omega)
  have eW0 : gi τ 49 0 = gi σ 49 0 + (k : Int) := by
    have := congrFun (congrFun hg.2.2 0) 0
    rw [wv_at (by omega), daysK_day, hV0] at this
    exact this
  have eW1 : gi τ 49 1 = gi σ 49 1 := by
    have := congrFun (congrFun hg.2.2 0) 1
    rw [wv_at (by omega), daysK_kept, hV1] at this
    exact this
  refine v_pass_49_2 m k (by intros; first | omega | (unfold rg; omega) | (rw [hT]; exact hb) | (rw [hT, hg.2.2]; exact SI_days hb hs k)) (by intros; first | omega | (unfold rg; omega) | (rw [hT]; exact hb) | (rw [hT, hg.2.2]; exact SI_days hb hs k)) (by intros; first | omega | (unfold rg; omega) | (rw [hT]; exact hb) | (rw [hT, hg.2.2]; exact SI_days hb hs k)) (by intros; first | omega | (unfold rg; omega) | (rw [hT]; exact hb) | (rw [hT, hg.2.2]; exact SI_days hb hs k)) (by intros; first | omega | (unfold rg; omega) | (rw [hT]; exact hb) | (rw [hT, hg.2.2]; exact SI_days hb hs k)) (by intros; first | omega | (unfold rg; omega) | (rw [hT]; exact hb) | (rw [hT, hg.2.2]; exact SI_days hb hs k)) ?_ ?_
  · intro h
    rw [show m.toNat = k by omega] at hP
    exact hP τ hg
  · intro h s hs'
    refine ih (by omega) s (hg.tr ?_)
    rw [hT, hg.2.2, e2, e3, e4, e5, eW1] at hs'
    show Wg 49 τ s (dayV _ _ (moD _ _ (daysK _ _ _ _ _ _ _ k 0 0)) _ _ _ _)
    rw [daysK_day, hV0, ← eW0]
    exact hs'
/-- which cushions the reference airs, without a plan -/
def aiN (σ : Mm) (V : Nat → Nat → Int) (u : Nat) : Bool := decide ((u : Int) = gi σ 85 70) || decide (gi σ 85 65 = 0) || !bi (V 0 1) u
theorem RG_set {b : Nat} {σ τ : Mm} (h : RG b σ τ) (T : Nat → Nat → Int) : dmR τ = dmR σ ∧ btR T τ = btR T σ ∧ dfR τ = dfR σ ∧ gi τ 85 65 = gi σ 85 65 ∧ gi τ 85 71 = gi σ 85 71 ∧ gi τ 85 70 = gi σ 85 70 := by
  have e65 := h.1 85 65 (by unfold hf; omega) (by omega)
  have e66 := h.1 85 66 (by unfold hf; omega) (by omega)
  have e67 := h.1 85 67 (by unfold hf; omega) (by omega)
  exact ⟨by unfold dmR; rw [e65, e67], by unfold btR; rw [e65], by unfold dfR; rw [e65, e66], e65, h.1 85 71 (by unfold hf; omega) (by omega), h.1 85 70 (by unfold hf; omega) (by omega)⟩
theorem v_goM_0 {n : Nat}  (m : Int) {σ : Mm} {P : Mm → Prop} (l1 : R 216 2 [some (vr 85), some (vi m), some (vi 0)] [] (shF n) 0 0 σ (Qv (shF n) P)) : Cv 216 [vr 85, vi m] (shF n) σ P :=
  show R 216 0 [some (vr 85), some (vi m), none] [] (shF n) 0 0 σ (Qv (shF n) P) from wpK_R 3 [2] ((l1))
theorem v_goM_2 {n : Nat}  (m : Int) (k : Nat) {M1 : Mm → Prop} {σ : Mm} {P : Mm → Prop} (o1 : (k : Int) < m → Cv 215 [vr 85, vi 1] (shF n) σ M1) (o2 : (k : Int) < m → ∀ s3 : Mm, M1 s3 → rg ((k : Int) + 1)) (l1 : m ≤ (k : Int) → P σ) (l2 : (k : Int) < m → ∀ s3 : Mm, M1 s3 → R 216 2 [some (vr 85), some (vi m), some (vi ((k : Int) + 1))] [] (shF n) 0 0 s3 (Qv (shF n) P)) : R 216 2 [some (vr 85), some (vi m), some (vi (k : Int))] [] (shF n) 0 0 σ (Qv (shF n) P) :=
  wpK_R 9 [2] (And.intro (fun q1 => And.intro ret0 ⟨rfl, rfl, (l1 q1)⟩) (fun q1 => (Cv_mono (o1 (Int.not_le.mp q1)) (fun s3 h2 => (have k4 := (o2 (Int.not_le.mp q1) s3 h2); And.intro k4 ((l2 (Int.not_le.mp q1) s3 h2)))))))
theorem c_goM {n : Nat} {m : Int} {T V : Nat → Nat → Int} {σ : Mm} {P : Mm → Prop} (hm : 0 ≤ m ∧ m ≤ 200) (hb : BkOK T) (hr : RB T σ) (hw : RW T V σ 1) (hi : WI T V) (huh : UH T V) (hp : PP σ) (hd : V 0 0 < 29000) (hmo : 0 ≤ gi σ 85 72 ∧ gi σ 85 72 < 50000) (hpl : gi σ 85 71 = 0)
    (hP : ∀ σ', RG 1 σ σ' → RW T (daysK T (dmR σ) (btR T σ) (dfR σ) (decide (gi σ 85 65 = 3)) (aiN σ V) V m.toNat) σ' 1 → WI T (daysK T (dmR σ) (btR T σ) (dfR σ) (decide (gi σ 85 65 = 3)) (aiN σ V) V m.toNat) → UH T (daysK T (dmR σ) (btR T σ) (dfR σ) (decide (gi σ 85 65 = 3)) (aiN σ V) V m.toNat) → (0 < m → HN (gi σ' 85 64) (daysK T (dmR σ) (btR T σ) (dfR σ) (decide (gi σ 85 65 = 3)) (aiN σ V) V (m.toNat - 1)) (daysK T (dmR σ) (btR T σ) (dfR σ) (decide (gi σ 85 65 = 3)) (aiN σ V) V m.toNat)) → P σ') : Cv 216 [vr 85, vi m] (shF n) σ P := by
  refine v_goM_0 m ?_
  refine loopUp (N := m.toNat) (I := fun k => ∀ τ : Mm, RG 1 σ τ → RW T (daysK T (dmR σ) (btR T σ) (dfR σ) (decide (gi σ 85 65 = 3)) (aiN σ V) V k) τ 1 → WI T (daysK T (dmR σ) (btR T σ) (dfR σ) (decide (gi σ 85 65 = 3)) (aiN σ V) V k) → UH T (daysK T (dmR σ) (btR T σ) (dfR σ) (decide (gi σ 85 65 = 3)) (aiN σ V) V k) → (0 < k → HN (gi τ 85 64) (daysK T (dmR σ) (btR T σ) (dfR σ) (decide (gi σ 85 65 = 3)) (aiN σ V) V (k - 1)) (daysK T (dmR σ) (btR T σ) (dfR σ) (decide (gi σ 85 65 = 3)) (aiN σ V) V k)) → (0 ≤ gi τ 85 72 ∧ gi τ 85 72 ≤ gi σ 85 72 + (k : Int)) → R 216 2 [some (vr 85), some (vi m), some (vi (k : Int))] [] (shF n) 0 0 τ (Qv (shF n) P)) (fun k hk ih => ?_) 0 (by omega) σ (RG.rf 1 σ) hw hi huh (fun h => absurd h (Nat.lt_irrefl _)) (by omega)
  intro τ f1 f2 f3 f4 f5 f6
  obtain ⟨kdm, kbt, kdf, k65, k71, k70⟩ := RG_set f1 T
  obtain ⟨D, hD⟩ : ∃ D, D = daysK T (dmR σ) (btR T σ) (dfR σ) (decide (gi σ 85 65 = 3)) (aiN σ V) V := ⟨_, rfl⟩
  rw [← hD] at f2 f3 f4 f5 hP ih
  have hD0 : D k 0 0 = V 0 0 + (k : Int) := by rw [hD]; exact daysK_day k
  have hD1 : D k 0 1 = V 0 1 := by rw [hD]; exact daysK_kept k
  have hDs : D (k + 1) = dayV T (D k) (moD T (dmR σ) (D k 0 0)) (btR T σ) (dfR σ) (decide (gi σ 85 65 = 3)) (aiN σ V) := by rw [hD]; rfl
  have hai : aiR τ (D k) = aiN σ V := by
    funext u
    unfold aiR aiN
    rw [k71, hpl, if_pos rfl, k70, k65, hD1]
  have hcall : (k : Int) < m → Cv 215 [vr 85, vi 1] (shF n) τ (fun s => RG 1 τ s ∧ gi s 85 72 = gi τ 85 72 + (if D k 0 0 % 7 = 0 then 1 else 0) ∧ RW T (D (k + 1)) s 1 ∧ WI T (D (k + 1)) ∧ UH T (D (k + 1)) ∧ HN (gi s 85 64) (D k) (D (k + 1))) := fun h => by
    have hc := c_goOn (n := n) (b := 1) (P := fun s => RG 1 τ s ∧ gi s 85 72 = gi τ 85 72 + (if D k 0 0 % 7 = 0 then 1 else 0) ∧ RW T (D (k + 1)) s 1 ∧ WI T (D (k + 1)) ∧ UH T (D (k + 1)) ∧ HN (gi s 85 64) (D k) (D (k + 1))) (by omega) hb (f1.rb hr) f2 f3 f4 (RG_pp f1 hp) (by omega) (by omega)
    rw [kdm, kbt, kdf, k65, hai, ← hDs] at hc
    exact hc (fun s a1 a2 a3 a4 a5 a6 => ⟨a1, a2, a3, a4, a5, a6⟩)
  refine v_goM_2 m k (M1 := fun s => RG 1 τ s ∧ gi s 85 72 = gi τ 85 72 + (if D k 0 0 % 7 = 0 then 1 else 0) ∧ RW T (D (k + 1)) s 1 ∧ WI T (D (k + 1)) ∧ UH T (D (k + 1)) ∧ HN (gi s 85 64) (D k) (D (k + 1))) (by intros; first | omega | (unfold rg; omega) | exact hcall (by assumption)) (by intros; first | omega | (unfold rg; omega) | exact hcall (by assumption)) ?_ ?_
  · intro h
    rw [show m.toNat = k by omega] at hP
    exact hP τ f1 f2 f3 f4 (fun h' => f5 (by omega))
  · intro h s hs
    obtain ⟨a1, a2, a3, a4, a5, a6⟩ := hs
    exact ih (by omega) s (f1.tr a1) a3 a4 a5 (fun _ => by rw [Nat.add_sub_cancel]; exact a6) (by rw [a2]; split <;> omega)
