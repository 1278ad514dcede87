/-! QUERIES over a trial day by day: learns -/
def GQ (T V : Nat → Nat → Int) (σ : Mm) : Prop := BkOK T ∧ RB T σ ∧ RW T V σ 1 ∧ WI T V ∧ UH T V ∧ PP σ ∧ V 0 0 < 30000 ∧ (0 ≤ gi σ 85 72 ∧ gi σ 85 72 < 100000)
def dO (T V : Nat → Nat → Int) (σ : Mm) : Nat → Nat → Int := dayV T V (moD T (dmR σ) (V 0 0)) (btR T σ) (dfR σ) (decide (gi σ 85 65 = 3)) (aiR σ V)
def GO (T V : Nat → Nat → Int) (σ σ' : Mm) : Prop := RG 1 σ σ' ∧ gi σ' 85 72 = gi σ 85 72 + (if V 0 0 % 7 = 0 then 1 else 0) ∧ RW T (dO T V σ) σ' 1 ∧ WI T (dO T V σ) ∧ UH T (dO T V σ)
theorem c_goD {n : Nat} {T V : Nat → Nat → Int} {σ : Mm} {P : Mm → Prop} (h : GQ T V σ) (hP : ∀ σ', GO T V σ σ' → P σ') : Cv 215 [vr 85, vi 1] (shF n) σ P := by
  obtain ⟨h1, h2, h3, h4, h5, h6, h7, h8⟩ := h
  exact c_goOn (b := 1) (by omega) h1 h2 h3 h4 h5 h6 h7 h8 fun σ' a b c d e _ => hP σ' ⟨a, b, c, d, e⟩
/-- the class's trial after k days; the reference's -/
def TX (σ s6 τ : Mm) (k : Nat) : Prop := Wg 49 s6 τ (pK (vw σ 5) (wv s6 49) k)
theorem TX_0 {σ s6 : Mm} : TX σ s6 s6 0 := ⟨fun _ _ _ _ => rfl, fun _ _ _ _ => rfl, rfl⟩
theorem TX.sc {σ s6 τ : Mm} {k : Nat} (h : TX σ s6 τ k) (b : Bt σ s6) : ScX σ τ := b.1.tr (ScX.wg h)
theorem TX.day {σ s6 τ : Mm} {k : Nat} (h : TX σ s6 τ k) : gi τ 49 0 = gi s6 49 0 + (k : Int) := by
  have := congrFun (congrFun h.2.2 0) 0
  rw [show pK (vw σ 5) (wv s6 49) k 0 0 = _ from daysK_day k] at this
  exact this
theorem TX.kept {σ s6 τ : Mm} {k : Nat} (h : TX σ s6 τ k) : gi τ 49 1 = gi s6 49 1 := by
  have := congrFun (congrFun h.2.2 0) 1
  rw [show pK (vw σ 5) (wv s6 49) k 0 1 = _ from daysK_kept k] at this
  exact this
theorem TX.ok {xs : Nat → Int} {N : Nat} {σ s6 τ : Mm} {k : Nat} (h : TX σ s6 τ k) (r : Rel xs N σ) (b : Bt σ s6) (hk : k ≤ 300) : BkOK (vw τ 5) ∧ SI (vw τ 5) (wv τ 49) ∧ (gi τ 70 2 = -1 ∨ (0 ≤ gi τ 70 2 ∧ gi τ 70 2 ≤ 9)) ∧ (0 ≤ gi τ 70 3 ∧ gi τ 70 3 ≤ 9) ∧ gi τ 49 0 < 30000 := by
  obtain ⟨o1, o2, o3, o4, o5⟩ := Bt_ok r b
  have hT : vw τ 5 = vw s6 5 := (ScX.wg h).T
  refine ⟨by rw [hT]; exact o1, ?_, ?_, ?_, ?_⟩
  · rw [hT, h.2.2]
    have := SI_days (dm := -1) (bt := vw σ 5 0 5) (df := -1) (fr := false) (ai := fun u => !bi (wv s6 49 0 1) u) o1 o2 k
    rw [b.1.T] at this ⊢
    exact this
  · rw [h.1 70 2 (by omega) (by omega)]; exact o3
  · rw [h.1 70 3 (by omega) (by omega)]; exact o4
  · rw [h.day]; omega
theorem TX.st {σ s6 τ s : Mm} {k : Nat} (h : TX σ s6 τ k) (b : Bt σ s6) (w : Wg 49 τ s (dayV (vw τ 5) (wv τ 49) (moD (vw τ 5) (gi τ 70 2) (gi τ 49 0)) (gi τ 70 3) (gi τ 70 4) (decide (gi τ 70 5 ≠ 0)) (fun u => !bi (gi τ 49 1) u))) : TX σ s6 s (k + 1) := by
  refine Wg.tr h ?_
  obtain ⟨b1, b2, b3, b4, b5, b6⟩ := b
  have hT : vw τ 5 = vw σ 5 := (ScX.wg h).T.trans b1.T
  have hd : gi τ 49 0 = pK (vw σ 5) (wv s6 49) k 0 0 := congrFun (congrFun h.2.2 0) 0
  rw [hT, hd, h.kept, h.1 70 2 (by omega) (by omega), h.1 70 3 (by omega) (by omega), h.1 70 4 (by omega) (by omega), h.1 70 5 (by omega) (by omega), b3, b4, b5, b6, h.2.2] at w
  exact w
def TR (T V : Nat → Nat → Int) (t τ : Mm) (k : Nat) : Prop := RG 1 t τ ∧ RW T (pK T V k) τ 1 ∧ WI T (pK T V k) ∧ UH T (pK T V k) ∧ (0 ≤ gi τ 85 72 ∧ gi τ 85 72 ≤ (k : Int))
theorem TR_0 {xs : Nat → Int} {N : Nat} {s t : Mm} {V : Nat → Nat → Int} (h : Rel xs N s) (l : Lt (si s 85 2 0) t) (e : eqW V (wv s 40)) : TR (vw s 5) V t t 0 := by
  obtain ⟨g1, g2, g3, g4, g5, g6, g7, g8, g9, g10⟩ := Lt_GP (m := 0) h l e (by omega)
  exact ⟨RG.rf 1 t, g4, g5, g6, by have := l.2.2.2.2.2.2.2.2.2.2.2.2.2; omega⟩
theorem TR.ok {xs : Nat → Int} {N : Nat} {s t τ : Mm} {V : Nat → Nat → Int} {k : Nat} (r : TR (vw s 5) V t τ k) (h : Rel xs N s) (l : Lt (si s 85 2 0) t) (e : eqW V (wv s 40)) (hk : k ≤ 300) : GQ (vw s 5) (pK (vw s 5) V k) τ := by
  obtain ⟨g1, g2, g3, g4, g5, g6, g7, g8, g9, g10⟩ := Lt_GP (m := 0) h l e (by omega)
  obtain ⟨r1, r2, r3, r4, r5⟩ := r
  refine ⟨g2, r1.rb g3, r2, r3, r4, ⟨by rw [r1.1 85 68 (by unfold hf; omega) (by omega)]; exact g7.1, by rw [r1.1 85 67 (by unfold hf; omega) (by omega)]; exact g7.2⟩, ?_, by omega⟩
  rw [show pK (vw s 5) V k 0 0 = _ from daysK_day k]
  omega
theorem TR.st {s0 t τ s : Mm} {T V : Nat → Nat → Int} {k : Nat} (r : TR T V t τ k) (l : Lt s0 t) (g : GO T (pK T V k) τ s) : TR T V t s (k + 1) := by
  obtain ⟨r1, r2, r3, r4, r5⟩ := r
  obtain ⟨g1, g2, g3, g4, g5⟩ := g
  obtain ⟨z1, z2, z3, z4, z5, z6⟩ := RG_set r1 T
  obtain ⟨l65, l66, l67, l68, l69, l70, l71, l72⟩ := l.2.2.2.2.2.2
  have e1 : dmR t = -1 := by unfold dmR; rw [if_neg (by omega)]; exact l67
  have e2 : btR T t = T 0 5 := by unfold btR; rw [if_neg (by omega)]
  have e3 : dfR t = -1 := by unfold dfR; rw [if_neg (by omega)]
  have hD : dO T (pK T V k) τ = pK T V (k + 1) := by
    unfold dO
    rw [z1, z2, z3, e1, e2, e3, decide_eq_false (show ¬ gi τ 85 65 = 3 by omega)]
    have e5 : aiR τ (pK T V k) = fun u => !bi (V 0 1) u := funext fun u => by
      unfold aiR
      rw [if_pos (by omega), decide_eq_false (show ¬ (u : Int) = gi τ 85 70 by omega), decide_eq_false (show ¬ gi τ 85 65 = 0 by omega), show pK T V k 0 1 = V 0 1 from daysK_kept k]
      rfl
    rw [e5]
    rfl
  rw [hD] at g3 g4 g5
  refine ⟨r1.tr g1, g3, g4, g5, ?_⟩
  rw [g2]
  split <;> omega
def lrV (T V : Nat → Nat → Int) (i m : Nat) : Nat → Int
  | 0 => -2
  | r + 1 => if pK T V (m - r) 8 i ≠ V 8 i then ((m - r : Nat) : Int) else lrV T V i m r
theorem lrV_s {T V : Nat → Nat → Int} {i m d : Nat} (h : d ≤ m) : lrV T V i m (m + 1 - d) = if pK T V d 8 i ≠ V 8 i then (d : Int) else lrV T V i m (m + 1 - (d + 1)) := by
  obtain ⟨r, hr⟩ : ∃ r, r = m - d := ⟨_, rfl⟩
  rw [show m + 1 - d = r + 1 by omega, show m + 1 - (d + 1) = r by omega]
  simp only [lrV]
  rw [show m - r = d by omega]
theorem v_lrn_0 {n : Nat}  (k : Int) (m : Int) {σ : Mm} {P : Int → Mm → Prop} (l1 : k < (0 : Int) → P (-1) σ) (l2 : (0 : Int) ≤ k → (gi σ 5 2) ≤ k → P (-1) σ) (l3 : (0 : Int) ≤ k → k < (gi σ 5 2) → m < (1 : Int) → P (-1) σ) (l4 : (0 : Int) ≤ k → k < (gi σ 5 2) → (1 : Int) ≤ m → m ≤ (99 : Int) → ∀ s6 : Mm, Bt σ s6 → R 139 27 [some (vr 3), some (vi k), some (vi m), some (vi 1)] [] (shF n) 0 0 s6 (Qi (shF n) P)) (l5 : (0 : Int) ≤ k → k < (gi σ 5 2) → (1 : Int) ≤ m → (99 : Int) < m → P (-1) σ) : Ci 139 [vr 3, vi k, vi m] (shF n) σ P :=
  show R 139 0 [some (vr 3), some (vi k), some (vi m), none] [] (shF n) 0 0 σ (Qi (shF n) P) from wpK_R 15 [27] ((show R 105 0 [some (vr 3), _] [] (shF n) 0 0 _ _ from wpK_R 10 [] (And.intro (fun q1 => And.intro ret0 (And.intro (Or.inl rfl) ⟨rfl, _, rfl, And.intro (fun _ => And.intro ret0 ⟨rfl, _, rfl, (l1 q1)⟩) (fun q => absurd (show (0 : Int) = 0 by decide) q)⟩)) (fun q1 => And.intro (fun q2 => And.intro ret0 (And.intro (Or.inl rfl) ⟨rfl, _, rfl, And.intro (fun _ => And.intro ret0 ⟨rfl, _, rfl, (l2 (Int.not_lt.mp q1) q2)⟩) (fun q => absurd (show (0 : Int) = 0 by decide) q)⟩)) (fun q2 => And.intro ret0 (And.intro (Or.inr rfl) ⟨rfl, _, rfl, And.intro (fun q => absurd q (show ¬ ((1 : Int) = 0) by decide)) (fun _ => And.intro (fun q3 => And.intro ret0 ⟨rfl, _, rfl, (l3 (Int.not_lt.mp q1) (Int.not_le.mp q2) q3)⟩) (fun q3 => And.intro (fun q4 => (c_begin   (fun s6 h7 => (l4 (Int.not_lt.mp q1) (Int.not_le.mp q2) (Int.not_lt.mp q3) q4 s6 h7)))) (fun q4 => And.intro ret0 ⟨rfl, _, rfl, (l5 (Int.not_lt.mp q1) (Int.not_le.mp q2) (Int.not_lt.mp q3) (Int.not_le.mp q4))⟩)))⟩))))))
theorem v_lrn_L {n : Nat}  (k : Int) (m : Int) (d : Nat) {σ : Mm} {P : Int → Mm → Prop} (o1 : (d : Int) ≤ m → BkOK (vw σ 5)) (o2 : (d : Int) ≤ m → SI (vw σ 5) (wv σ 49)) (o3 : (d : Int) ≤ m → (gi σ 70 2 = -1 ∨ (0 ≤ gi σ 70 2 ∧ gi σ 70 2 ≤ 9))) (o4 : (d : Int) ≤ m → (0 ≤ gi σ 70 3 ∧ gi σ 70 3 ≤ 9)) (o5 : (d : Int) ≤ m → gi σ 49 0 < 30000) (o6 : (d : Int) ≤ m → ∀ s3 : Mm, Wg 49 σ s3 (dayV (vw σ 5) (wv σ 49) (moD (vw σ 5) (gi σ 70 2) (gi σ 49 0)) (gi σ 70 3) (gi σ 70 4) (decide (gi σ 70 5 ≠ 0)) (fun u => !bi (gi σ 49 1) u)) → (0 ≤ k ∧ k < 5)) (o7 : (d : Int) ≤ m → ∀ s3 : Mm, Wg 49 σ s3 (dayV (vw σ 5) (wv σ 49) (moD (vw σ 5) (gi σ 70 2) (gi σ 49 0)) (gi σ 70 3) (gi σ 70 4) (decide (gi σ 70 5 ≠ 0)) (fun u => !bi (gi σ 49 1) u)) → (gi s3 57 k.toNat) = (gi s3 48 k.toNat) → rg ((d : Int) + 1)) (l1 : m < (d : Int) → P (-2) σ) (l2 : (d : Int) ≤ m → ∀ s3 : Mm, Wg 49 σ s3 (dayV (vw σ 5) (wv σ 49) (moD (vw σ 5) (gi σ 70 2) (gi σ 49 0)) (gi σ 70 3) (gi σ 70 4) (decide (gi σ 70 5 ≠ 0)) (fun u => !bi (gi σ 49 1) u)) → (gi s3 57 k.toNat) = (gi s3 48 k.toNat) → R 139 27 [some (vr 3), some (vi k), some (vi m), some (vi ((d : Int) + 1))] [] (shF n) 0 0 s3 (Qi (shF n) P)) (l3 : (d : Int) ≤ m → ∀ s3 : Mm, Wg 49 σ s3 (dayV (vw σ 5) (wv σ 49) (moD (vw σ 5) (gi σ 70 2) (gi σ 49 0)) (gi σ 70 3) (gi σ 70 4) (decide (gi σ 70 5 ≠ 0)) (fun u => !bi (gi σ 49 1) u)) → (gi s3 57 k.toNat) ≠ (gi s3 48 k.toNat) → P (d : Int) s3) : R 139 27 [some (vr 3), some (vi k), some (vi m), some (vi (d : Int))] [] (shF n) 0 0 σ (Qi (shF n) P) :=
  wpK_R 22 [27] (And.intro (fun q1 => And.intro ret0 ⟨rfl, _, rfl, (l1 q1)⟩) (fun q1 => (c_pd_49  (o1 (Int.not_lt.mp q1)) (o2 (Int.not_lt.mp q1)) (o3 (Int.not_lt.mp q1)) (o4 (Int.not_lt.mp q1)) (o5 (Int.not_lt.mp q1)) (fun s3 h4 => (have k5 := (o6 (Int.not_lt.mp q1) s3 h4); And.intro k5 (And.intro k5 (And.intro (fun q6 => (have k7 := (o7 (Int.not_lt.mp q1) s3 h4 q6); And.intro k7 ((l2 (Int.not_lt.mp q1) s3 h4 q6)))) (fun q6 => And.intro ret0 ⟨rfl, _, rfl, (l3 (Int.not_lt.mp q1) s3 h4 q6)⟩))))))))
theorem v_lrnR_0 {n : Nat} (T : Nat → Nat → Int) (V : Nat → Nat → Int) (k : Int) (m : Int) {σ : Mm} {P : Int → Mm → Prop} (o1 : ∀ t1 : Mm, t1 = si σ 85 2 (0 : Int) → (0 : Int) ≤ k → k < (gi σ 85 14) → (1 : Int) ≤ m → m ≤ (99 : Int) → KB t1) (l1 : ∀ t1 : Mm, t1 = si σ 85 2 (0 : Int) → k < (0 : Int) → P (-1) t1) (l2 : ∀ t1 : Mm, t1 = si σ 85 2 (0 : Int) → (0 : Int) ≤ k → (gi σ 85 14) ≤ k → P (-1) t1) (l3 : ∀ t1 : Mm, t1 = si σ 85 2 (0 : Int) → (0 : Int) ≤ k → k < (gi σ 85 14) → m < (1 : Int) → P (-1) t1) (l4 : ∀ t1 : Mm, t1 = si σ 85 2 (0 : Int) → (0 : Int) ≤ k → k < (gi σ 85 14) → (1 : Int) ≤ m → (99 : Int) < m → P (-1) t1) (l5 : ∀ t1 : Mm, t1 = si σ 85 2 (0 : Int) → (0 : Int) ≤ k → k < (gi σ 85 14) → (1 : Int) ≤ m → m ≤ (99 : Int) → ∀ s7 : Mm, Lt t1 s7 → R 252 31 [some (vr 85), some (vi k), some (vi m), some (vi 1)] [] (shF n) 0 0 s7 (Qi (shF n) P)) : Ci 252 [vr 85, vi k, vi m] (shF n) σ P :=
  show R 252 0 [some (vr 85), some (vi k), some (vi m), none] [] (shF n) 0 0 σ (Qi (shF n) P) from wpK_R 17 [31] ((show R 202 0 [some (vr 85), _] [] (shF n) 0 0 _ _ from wpK_R 9 [] (And.intro (fun q2 => And.intro ret0 (And.intro (Or.inl rfl) ⟨rfl, _, rfl, And.intro (fun _ => And.intro ret0 ⟨rfl, _, rfl, (l1 _ rfl q2)⟩) (fun q => absurd (show (0 : Int) = 0 by decide) q)⟩)) (fun q2 => And.intro (fun q3 => And.intro ret0 (And.intro (Or.inl rfl) ⟨rfl, _, rfl, And.intro (fun _ => And.intro ret0 ⟨rfl, _, rfl, (l2 _ rfl (Int.not_lt.mp q2) q3)⟩) (fun q => absurd (show (0 : Int) = 0 by decide) q)⟩)) (fun q3 => And.intro ret0 (And.intro (Or.inr rfl) ⟨rfl, _, rfl, And.intro (fun q => absurd q (show ¬ ((1 : Int) = 0) by decide)) (fun _ => (show R 157 0 [_, some (vi 1), some (vi 99)] [] (shF n) 0 0 _ _ from wpK_R 9 [] (And.intro (fun q4 => And.intro ret0 (And.intro (Or.inl rfl) ⟨rfl, _, rfl, And.intro (fun q => absurd q (show ¬ ((0 : Int) ≠ 0) by decide)) (fun _ => And.intro ret0 ⟨rfl, _, rfl, (l3 _ rfl (Int.not_lt.mp q2) (Int.not_le.mp q3) q4)⟩)⟩)) (fun q4 => And.intro (fun q5 => And.intro ret0 (And.intro (Or.inl rfl) ⟨rfl, _, rfl, And.intro (fun q => absurd q (show ¬ ((0 : Int) ≠ 0) by decide)) (fun _ => And.intro ret0 ⟨rfl, _, rfl, (l4 _ rfl (Int.not_lt.mp q2) (Int.not_le.mp q3) (Int.not_lt.mp q4) q5)⟩)⟩)) (fun q5 => And.intro ret0 (And.intro (Or.inr rfl) ⟨rfl, _, rfl, And.intro (fun _ => (c_lyT  (o1 _ rfl (Int.not_lt.mp q2) (Int.not_le.mp q3) (Int.not_lt.mp q4) (Int.not_lt.mp q5)) (fun s7 h8 => (l5 _ rfl (Int.not_lt.mp q2) (Int.not_le.mp q3) (Int.not_lt.mp q4) (Int.not_lt.mp q5) s7 h8)))) (fun q => absurd (show (1 : Int) ≠ 0 by decide) q)⟩))))))⟩))))))
theorem v_lrnR_L {n : Nat} (T : Nat → Nat → Int) (V : Nat → Nat → Int) (k : Int) (m : Int) (d : Nat) {σ : Mm} {P : Int → Mm → Prop} (o1 : (d : Int) ≤ m → GQ T V σ) (o2 : (d : Int) ≤ m → ∀ s3 : Mm, GO T V σ s3 → rg ((5 : Int) + k)) (o3 : (d : Int) ≤ m → ∀ s3 : Mm, GO T V σ s3 → (0 ≤ ((5 : Int) + k) ∧ ((5 : Int) + k) < 10)) (o4 : (d : Int) ≤ m → ∀ s3 : Mm, GO T V σ s3 → (0 ≤ k ∧ k < 10)) (o5 : (d : Int) ≤ m → ∀ s3 : Mm, GO T V σ s3 → (gi s3 119 ((5 : Int) + k).toNat) = (gi s3 119 k.toNat) → rg ((d : Int) + 1)) (l1 : m < (d : Int) → P (-2) σ) (l2 : (d : Int) ≤ m → ∀ s3 : Mm, GO T V σ s3 → (gi s3 119 ((5 : Int) + k).toNat) = (gi s3 119 k.toNat) → R 252 31 [some (vr 85), some (vi k), some (vi m), some (vi ((d : Int) + 1))] [] (shF n) 0 0 s3 (Qi (shF n) P)) (l3 : (d : Int) ≤ m → ∀ s3 : Mm, GO T V σ s3 → (gi s3 119 ((5 : Int) + k).toNat) ≠ (gi s3 119 k.toNat) → P (d : Int) s3) : R 252 31 [some (vr 85), some (vi k), some (vi m), some (vi (d : Int))] [] (shF n) 0 0 σ (Qi (shF n) P) :=
  wpK_R 20 [31] (And.intro (fun q1 => And.intro ret0 ⟨rfl, _, rfl, (l1 q1)⟩) (fun q1 => (c_goD (T := T) (V := V) (o1 (Int.not_lt.mp q1)) (fun s3 h4 => (have k5 := (o2 (Int.not_lt.mp q1) s3 h4); And.intro k5 ((have k6 := (o3 (Int.not_lt.mp q1) s3 h4); And.intro k6 ((have k7 := (o4 (Int.not_lt.mp q1) s3 h4); And.intro k7 (And.intro (fun q8 => (have k9 := (o5 (Int.not_lt.mp q1) s3 h4 q8); And.intro k9 ((l2 (Int.not_lt.mp q1) s3 h4 q8)))) (fun q8 => And.intro ret0 ⟨rfl, _, rfl, (l3 (Int.not_lt.mp q1) s3 h4 q8)⟩)))))))))))
theorem r_learns {xs : Nat → Int} {N n : Nat} {s : Mm} (h : Rel xs N s) (k m : Int) {V : Nat → Nat → Int} (e : eqW V (wv s 40)) : Ci 252 [vr 85, vi k, vi m] (shF n) s (fun v' s' => v' = (if (0 ≤ k ∧ k < gi s 5 2) ∧ (1 ≤ m ∧ m ≤ 99) then lrV (vw s 5) V k.toNat m.toNat m.toNat else -1) ∧ Rel xs N s') := by
  obtain ⟨c0, c1, c2, c3, c5, d0, d1, d2, d3, -⟩ := Rel_cnt h
  refine v_lrnR_0 (vw s 5) V k m (by intros; subst_vars; first | omega | exact fun i hi => by rw [gi_ne (by omega)]; exact Rel_KB h i hi) ?_ ?_ ?_ ?_ ?_
  · intro t1 ht; intros; rw [ht]; exact ⟨by rw [if_neg (by omega)], Rel_th h⟩
  · intro t1 ht; intros; rw [ht]; exact ⟨by rw [if_neg (by omega)], Rel_th h⟩
  · intro t1 ht; intros; rw [ht]; exact ⟨by rw [if_neg (by omega)], Rel_th h⟩
  · intro t1 ht; intros; rw [ht]; exact ⟨by rw [if_neg (by omega)], Rel_th h⟩
  · intro t1 ht h1 h2 h3 h4 s7 l
    subst ht
    rw [if_pos (by omega)]
    have key := loopUp (N := m.toNat + 1) (I := fun d => 1 ≤ d → ∀ τ : Mm, TR (vw s 5) V s7 τ (d - 1) → lrV (vw s 5) V k.toNat m.toNat (m.toNat + 1 - d) = lrV (vw s 5) V k.toNat m.toNat m.toNat → R 252 31 [some (vr 85), some (vi k), some (vi m), some (vi (d : Int))] [] (shF n) 0 0 τ (Qi (shF n) (fun v' s' => v' = lrV (vw s 5) V k.toNat m.toNat m.toNat ∧ Rel xs N s'))) (fun d hd ih => ?_) 1 (by omega)
    · exact key (by omega) s7 (TR_0 h l e) (by rw [show m.toNat + 1 - 1 = m.toNat by omega])
    · intro hd1 τ r he
      have hrel : ∀ s3, RG 1 s7 s3 → Rel xs N s3 := fun s3 q => Rel_rg (Lt_rel h l) q
      have hold : ∀ s3, RG 1 s7 s3 → gi s3 119 k.toNat = V 8 k.toNat := fun s3 q => by
        rw [q.1 119 _ (by unfold hf; omega) (by omega), l.1 119 _ (by unfold hf; omega) (by omega), gi_ne (by omega), (Rel_w5 h (j := k.toNat) (by omega)).2.2.2.1, e 8 _ (by unfold inW; omega)]
        rfl
      have hnew : ∀ s3, TR (vw s 5) V s7 s3 (d - 1 + 1) → gi s3 119 ((5 : Int) + k).toNat = pK (vw s 5) V d 8 k.toNat := fun s3 q => by
        have := (q.2.1.2.2.2.1 k.toNat (by omega)).2.2.2
        rw [show d - 1 + 1 = d by omega] at this
        rw [← this]
        congr 1
        omega
      refine v_lrnR_L (vw s 5) (pK (vw s 5) V (d - 1)) k m d (by intros; first | omega | exact r.ok h l e (by omega) | (unfold rg; omega)) (by intros; first | omega | exact r.ok h l e (by omega) | (unfold rg; omega)) (by intros; first | omega | exact r.ok h l e (by omega) | (unfold rg; omega)) (by intros; first | omega | exact r.ok h l e (by omega) | (unfold rg; omega)) (by intros; first | omega | exact r.ok h l e (by omega) | (unfold rg; omega)) ?_ ?_ ?_
      · intro hlt
        refine ⟨?_, hrel τ r.1⟩
        rw [← he, show m.toNat + 1 - d = 0 by omega]
        rfl
      · intro hle s3 g heq
        have r' := r.st l g
        rw [hnew s3 r', hold s3 r'.1] at heq
        rw [lrV_s (by omega), if_neg (fun q => q heq)] at he
        refine R_eq (ih (by omega) (by omega) s3 (by rw [show d + 1 - 1 = d - 1 + 1 by omega]; exact r') he) rfl
      · intro hle s3 g hne
        have r' := r.st l g
        rw [hnew s3 r', hold s3 r'.1] at hne
        rw [lrV_s (by omega), if_pos hne] at he
        exact ⟨he, hrel s3 r'.1⟩
theorem q_learns {xs : Nat → Int} {N n : Nat} {σ : Mm} (h : Rel xs N σ) (k m : Int) : Bi xs N n 139 [vr 3, vi k, vi m] 252 [vr 85, vi k, vi m] σ := by
  obtain ⟨c0, c1, c2, c3, c5, d0, d1, d2, d3, -⟩ := Rel_cnt h
  have hno : ¬ ((0 ≤ k ∧ k < gi σ 5 2) ∧ (1 ≤ m ∧ m ≤ 99)) → Ci 252 [vr 85, vi k, vi m] (shF n) σ (fun v' s' => v' = -1 ∧ Rel xs N s') := fun q => Ci_mono (r_learns h k m (fun _ _ _ => rfl)) fun v' s' p => ⟨by rw [p.1, if_neg q], p.2⟩
  refine v_lrn_0 k m ?_ ?_ ?_ ?_ ?_
  · intros; exact hno (by omega)
  · intros; exact hno (by omega)
  · intros; exact hno (by omega)
  · intro h1 h2 h3 h4 s6 b
    have hend : ∀ τ d v, TX σ s6 τ d → v = lrV (vw σ 5) (wv s6 49) k.toNat m.toNat m.toNat → Ci 252 [vr 85, vi k, vi m] (shF n) τ (fun v' s' => v' = v ∧ Rel xs N s') := fun τ d v r hv => by
      have hS := r.sc b
      refine Ci_mono (r_learns (hS.rel h) k m (V := wv s6 49) (by rw [hS.V]; exact b.2.1)) fun v' s' p => ⟨?_, p.2⟩
      rw [p.1, if_pos ⟨⟨h1, by rw [hS 5 2 (Or.inl (by unfold kpX; omega))]; exact h2⟩, h3, h4⟩, hS.T, hv]
    have key := loopUp (N := m.toNat + 1) (I := fun d => 1 ≤ d → ∀ τ : Mm, TX σ s6 τ (d - 1) → lrV (vw σ 5) (wv s6 49) k.toNat m.toNat (m.toNat + 1 - d) = lrV (vw σ 5) (wv s6 49) k.toNat m.toNat m.toNat → R 139 27 [some (vr 3), some (vi k), some (vi m), some (vi (d : Int))] [] (shF n) 0 0 τ (Qi (shF n) (fun v s => Ci 252 [vr 85, vi k, vi m] (shF n) s (fun v' s' => v' = v ∧ Rel xs N s')))) (fun d hd ih => ?_) 1 (by omega)
    · exact key (by omega) s6 TX_0 (by rw [show m.toNat + 1 - 1 = m.toNat by omega])
    · intro hd1 τ r he
      have hold : ∀ s3, TX σ s6 s3 (d - 1 + 1) → gi s3 48 k.toNat = wv s6 49 8 k.toNat := fun s3 q => by
        rw [(q.sc b) 48 _ (Or.inl (by unfold kpX; omega)), b.2.1 8 _ (by unfold inW; omega)]
        rfl
      have hnew : ∀ s3, TX σ s6 s3 (d - 1 + 1) → gi s3 57 k.toNat = pK (vw σ 5) (wv s6 49) d 8 k.toNat := fun s3 q => by
        rw [(wv49 q.2.2).2.2.2.2, show d - 1 + 1 = d by omega]
      refine v_lrn_L k m d (by intros; first | omega | exact (r.ok h b (by omega)).1 | exact (r.ok h b (by omega)).2.1 | exact (r.ok h b (by omega)).2.2.1 | exact (r.ok h b (by omega)).2.2.2.1 | exact (r.ok h b (by omega)).2.2.2.2 | (unfold rg; omega)) (by intros; first | omega | exact (r.ok h b (by omega)).1 | exact (r.ok h b (by omega)).2.1 | exact (r.ok h b (by omega)).2.2.1 | exact (r.ok h b (by omega)).2.2.2.1 | exact (r.ok h b (by omega)).2.2.2.2 | (unfold rg; omega)) (by intros; first | omega | exact (r.ok h b (by omega)).1 | exact (r.ok h b (by omega)).2.1 | exact (r.ok h b (by omega)).2.2.1 | exact (r.ok h b (by omega)).2.2.2.1 | exact (r.ok h b (by omega)).2.2.2.2 | (unfold rg; omega)) (by intros; first | omega | exact (r.ok h b (by omega)).1 | exact (r.ok h b (by omega)).2.1 | exact (r.ok h b (by omega)).2.2.1 | exact (r.ok h b (by omega)).2.2.2.1 | exact (r.ok h b (by omega)).2.2.2.2 | (unfold rg; omega)) (by intros; first | omega | exact (r.ok h b (by omega)).1 | exact (r.ok h b (by omega)).2.1 | exact (r.ok h b (by omega)).2.2.1 | exact (r.ok h b (by omega)).2.2.2.1 | exact (r.ok h b (by omega)).2.2.2.2 | (unfold rg; omega)) (by intros; first | omega | exact (r.ok h b (by omega)).1 | exact (r.ok h b (by omega)).2.1 | exact (r.ok h b (by omega)).2.2.1 | exact (r.ok h b (by omega)).2.2.2.1 | exact (r.ok h b (by omega)).2.2.2.2 | (unfold rg; omega)) (by intros; first | omega | exact (r.ok h b (by omega)).1 | exact (r.ok h b (by omega)).2.1 | exact (r.ok h b (by omega)).2.2.1 | exact (r.ok h b (by omega)).2.2.2.1 | exact (r.ok h b (by omega)).2.2.2.2 | (unfold rg; omega)) ?_ ?_ ?_
      · intro hlt
        refine hend τ _ _ r ?_
        rw [← he, show m.toNat + 1 - d = 0 by omega]
        rfl
      · intro hle s3 w heq
        have r' := r.st b w
        rw [hnew s3 r', hold s3 r'] at heq
        rw [lrV_s (by omega), if_neg (fun q => q heq)] at he
        exact R_eq (ih (by omega) (by omega) s3 (by rw [show d + 1 - 1 = d - 1 + 1 by omega]; exact r') he) rfl
      · intro hle s3 w hne
        have r' := r.st b w
        rw [hnew s3 r', hold s3 r'] at hne
        rw [lrV_s (by omega), if_pos hne] at he
        exact hend s3 _ _ r' he
  · intros; exact hno (by omega)
