/-! QUERY: empties -/
theorem GP_st {T V : Nat → Nat → Int} {s t : Mm} {m : Int} (g : GP T V s m) (h : ∀ a i, ¬ (a = 85 ∧ (i = 65 ∨ i = 66 ∨ i = 70)) → gi t a i = gi s a i) : GP T V t m := by
  obtain ⟨g1, g2, g3, g4, g5, g6, g7, g8, g9, g10⟩ := g
  refine ⟨g1, g2, RB_eq (fun y p q => h 85 y (by omega)) (fun x y p q => h x y (by omega)) g3, RW_out (fun a i q => h a i (by omega)) g4, g5, g6, ?_, g8, ?_, ?_⟩
  · exact ⟨by rw [h 85 68 (by omega)]; exact g7.1, by rw [h 85 67 (by omega)]; exact g7.2⟩
  · rw [h 85 72 (by omega)]; exact g9
  · rw [h 85 71 (by omega)]; exact g10
def d0 (V : Nat → Nat → Int) : Nat := ((7 - V 0 0 % 7) % 7).toNat
theorem d0_in (V : Nat → Nat → Int) : d0 V ≤ 6 := by unfold d0; omega
def tR (T V : Nat → Nat → Int) (t τ : Mm) (k : Nat) : Prop := RG 1 t τ ∧ RW T (dK T V t k) τ 1 ∧ WI T (dK T V t k) ∧ UH T (dK T V t k) ∧ gi τ 85 72 = gi t 85 72 + (((k + 6 - d0 V) / 7 : Nat) : Int)
theorem tR_0 {T V : Nat → Nat → Int} {t : Mm} {m : Int} (g : GP T V t m) : tR T V t t 0 := by
  refine ⟨RG.rf 1 t, g.2.2.2.1, g.2.2.2.2.1, g.2.2.2.2.2.1, ?_⟩
  have := d0_in V
  omega
theorem tR.ok {T V : Nat → Nat → Int} {t τ : Mm} {m : Int} {k : Nat} (r : tR T V t τ k) (g : GP T V t m) (hk : k ≤ 300) : GQ T (dK T V t k) τ := by
  obtain ⟨g1, g2, g3, g4, g5, g6, g7, g8, g9, g10⟩ := g
  obtain ⟨r1, r2, r3, r4, r5⟩ := r
  refine ⟨g2, r1.rb g3, r2, r3, r4, ⟨by rw [r1.1 85 68 (by unfold hf; omega) (by omega)]; exact g7.1, by rw [r1.1 85 67 (by unfold hf; omega) (by omega)]; exact g7.2⟩, ?_, by omega⟩
  rw [show dK T V t k 0 0 = _ from daysK_day k]
  omega
theorem tR.st {T V : Nat → Nat → Int} {t τ s : Mm} {m : Int} {k : Nat} (r : tR T V t τ k) (g0 : GP T V t m) (g : GO T (dK T V t k) τ s) : tR T V t s (k + 1) := by
  obtain ⟨r1, r2, r3, r4, r5⟩ := r
  obtain ⟨g1, g2, g3, g4, g5⟩ := g
  obtain ⟨z1, z2, z3, z4, z5, z6⟩ := RG_set r1 T
  have hD : dO T (dK T V t k) τ = dK T V t (k + 1) := by
    unfold dO
    rw [z1, z2, z3, z4]
    have e5 : aiR τ (dK T V t k) = aiN t V := funext fun u => by
      unfold aiR aiN
      rw [if_pos (by rw [z5]; exact g0.2.2.2.2.2.2.2.2.2), z6, z4, show dK T V t k 0 1 = V 0 1 from daysK_kept k]
    rw [e5]
    rfl
  rw [hD] at g3 g4 g5
  refine ⟨r1.tr g1, g3, g4, g5, ?_⟩
  have h0 : 0 ≤ V 0 0 := g0.2.2.2.2.1.1.2.2.2.2
  rw [g2, r5, show dK T V t k 0 0 = _ from daysK_day k]
  unfold d0
  split <;> omega
def fs (p : Nat → Bool) (m : Nat) : Nat → Int
  | 0 => -2
  | r + 1 => if p (m - r) then ((m - r : Nat) : Int) else fs p m r
theorem fs_s {p : Nat → Bool} {m d : Nat} (h : d ≤ m) : fs p m (m + 1 - d) = if p d then (d : Int) else fs p m (m + 1 - (d + 1)) := by
  obtain ⟨r, hr⟩ : ∃ r, r = m - d := ⟨_, rfl⟩
  rw [show m + 1 - d = r + 1 by omega, show m + 1 - (d + 1) = r by omega]
  simp only [fs]
  rw [show m - r = d by omega]
def eK (T V : Nat → Nat → Int) (u k : Nat) : Nat → Nat → Int := daysK T (-1) (T 0 5) (-1) false (fun x => decide (x = u) || !bi (V 0 1) x) V k
def emP (T V : Nat → Nat → Int) (u m : Nat) : Bool := decide (eK T V u (d0 V + 7 * (m - 1) + 1) 6 u = 0)
theorem Lt_eK {s t t' : Mm} {T V : Nat → Nat → Int} {u : Nat} (l : Lt s t) (h70 : gi t' 85 70 = (u : Int)) (h : ∀ a i, ¬ (a = 85 ∧ i = 70) → gi t' a i = gi t a i) (k : Nat) : dK T V t' k = eK T V u k := by
  obtain ⟨l65, l66, l67, l68, l69, l70, l71, l72⟩ := l.2.2.2.2.2.2
  unfold dK eK
  have h65 := h 85 65 (by omega)
  have e1 : dmR t' = -1 := by unfold dmR; rw [if_neg (by omega), h 85 67 (by omega)]; exact l67
  have e2 : btR T t' = T 0 5 := by unfold btR; rw [if_neg (by omega)]
  have e3 : dfR t' = -1 := by unfold dfR; rw [if_neg (by omega)]
  have e5 : aiN t' V = fun x => decide (x = u) || !bi (V 0 1) x := funext fun x => by
    unfold aiN
    rw [h70, decide_eq_false (show ¬ gi t' 85 65 = 0 by omega), Bool.or_false]
    congr 1
    exact decide_eq_decide.mpr (by omega)
  rw [e1, e2, e3, e5, decide_eq_false (show ¬ gi t' 85 65 = 3 by omega)]
theorem v_emR_0 {n : Nat} (T : Nat → Nat → Int) (V : Nat → Nat → Int) (j : Int) {σ : Mm} {P : Int → Mm → Prop} (o1 : ∀ t1 : Mm, t1 = si σ 85 2 (0 : Int) → (0 : Int) ≤ j → j < (gi σ 85 12) → (0 ≤ j ∧ j < 10)) (o2 : ∀ t1 : Mm, t1 = si σ 85 2 (0 : Int) → (0 : Int) ≤ j → j < (gi σ 85 12) → ∀ x5 : Int, x5 = gi σ 111 j.toNat → (0 ≤ x5 ∧ x5 < 10)) (o3 : ∀ t1 : Mm, t1 = si σ 85 2 (0 : Int) → (0 : Int) ≤ j → j < (gi σ 85 12) → ∀ x5 : Int, x5 = gi σ 111 j.toNat → (gi σ 113 x5.toNat) ≠ (0 : Int) → KB t1) (l1 : ∀ t1 : Mm, t1 = si σ 85 2 (0 : Int) → j < (0 : Int) → P (-1) t1) (l2 : ∀ t1 : Mm, t1 = si σ 85 2 (0 : Int) → (0 : Int) ≤ j → (gi σ 85 12) ≤ j → P (-1) t1) (l3 : ∀ t1 : Mm, t1 = si σ 85 2 (0 : Int) → (0 : Int) ≤ j → j < (gi σ 85 12) → ∀ x5 : Int, x5 = gi σ 111 j.toNat → (gi σ 113 x5.toNat) ≠ (0 : Int) → ∀ s9 : Mm, Lt t1 s9 → ∀ t11 : Mm, t11 = si s9 85 70 x5 → R 250 42 [some (vr 85), some (vi j), some (vi x5), none] [] (shF n) 0 0 t11 (Qi (shF n) P)) (l4 : ∀ t1 : Mm, t1 = si σ 85 2 (0 : Int) → (0 : Int) ≤ j → j < (gi σ 85 12) → ∀ x5 : Int, x5 = gi σ 111 j.toNat → (gi σ 113 x5.toNat) = (0 : Int) → P 0 t1) : Ci 250 [vr 85, vi j] (shF n) σ P :=
  show R 250 0 [some (vr 85), some (vi j), none, none] [] (shF n) 0 0 σ (Qi (shF n) P) from wpK_R 23 [42] ((show R 200 0 [some (vr 85), _] [] (shF n) 0 0 _ _ from wpK_R 9 [] (And.intro (fun q2 => And.intro ret0 (And.intro (Or.inl rfl) ⟨rfl, _, rfl, And.intro (fun q => absurd q (show ¬ ((0 : Int) ≠ 0) by decide)) (fun _ => And.intro ret0 ⟨rfl, _, rfl, (l1 _ rfl q2)⟩)⟩)) (fun q2 => And.intro (fun q3 => And.intro ret0 (And.intro (Or.inl rfl) ⟨rfl, _, rfl, And.intro (fun q => absurd q (show ¬ ((0 : Int) ≠ 0) by decide)) (fun _ => And.intro ret0 ⟨rfl, _, rfl, (l2 _ rfl (Int.not_lt.mp q2) q3)⟩)⟩)) (fun q3 => And.intro ret0 (And.intro (Or.inr rfl) ⟨rfl, _, rfl, And.intro (fun _ => (have k4 := (o1 _ rfl (Int.not_lt.mp q2) (Int.not_le.mp q3)); And.intro k4 ((have k6 := (o2 _ rfl (Int.not_lt.mp q2) (Int.not_le.mp q3) _ rfl); And.intro k6 (And.intro (fun q7 => (c_lyT  (o3 _ rfl (Int.not_lt.mp q2) (Int.not_le.mp q3) _ rfl q7) (fun s9 h10 => (l3 _ rfl (Int.not_lt.mp q2) (Int.not_le.mp q3) _ rfl q7 s9 h10 _ rfl)))) (fun q7 => And.intro ret0 ⟨rfl, _, rfl, (l4 _ rfl (Int.not_lt.mp q2) (Int.not_le.mp q3) _ rfl (Classical.not_not.mp q7))⟩)))))) (fun q => absurd (show (1 : Int) ≠ 0 by decide) q)⟩))))))
theorem v_emR_L {n : Nat} (T : Nat → Nat → Int) (V : Nat → Nat → Int) (j : Int) (u : Nat) (z : Option PV) {σ : Mm} {P : Int → Mm → Prop} (o1 : (gi σ 85 72) < (20 : Int) → ∀ x2 : Int, x2 = gi σ 85 72 → GQ T V σ) (o2 : (gi σ 85 72) < (20 : Int) → ∀ x2 : Int, x2 = gi σ 85 72 → ∀ s4 : Mm, GO T V σ s4 → x2 < (gi s4 85 72) → rg ((5 : Int) + (u : Int))) (o3 : (gi σ 85 72) < (20 : Int) → ∀ x2 : Int, x2 = gi σ 85 72 → ∀ s4 : Mm, GO T V σ s4 → x2 < (gi s4 85 72) → (0 ≤ ((5 : Int) + (u : Int)) ∧ ((5 : Int) + (u : Int)) < 10)) (l1 : (20 : Int) ≤ (gi σ 85 72) → P (-2) σ) (l2 : (gi σ 85 72) < (20 : Int) → ∀ x2 : Int, x2 = gi σ 85 72 → ∀ s4 : Mm, GO T V σ s4 → (gi s4 85 72) ≤ x2 → R 250 42 [some (vr 85), some (vi j), some (vi (u : Int)), some (vi x2)] [] (shF n) 0 0 s4 (Qi (shF n) P)) (l3 : (gi σ 85 72) < (20 : Int) → ∀ x2 : Int, x2 = gi σ 85 72 → ∀ s4 : Mm, GO T V σ s4 → x2 < (gi s4 85 72) → (gi s4 113 (5 + u)) ≠ (0 : Int) → R 250 42 [some (vr 85), some (vi j), some (vi (u : Int)), some (vi x2)] [] (shF n) 0 0 s4 (Qi (shF n) P)) (l4 : (gi σ 85 72) < (20 : Int) → ∀ x2 : Int, x2 = gi σ 85 72 → ∀ s4 : Mm, GO T V σ s4 → x2 < (gi s4 85 72) → (gi s4 113 (5 + u)) = (0 : Int) → P (gi s4 85 72) s4) : R 250 42 [some (vr 85), some (vi j), some (vi (u : Int)), z] [] (shF n) 0 0 σ (Qi (shF n) P) :=
  wpK_R 24 [42] (And.intro (fun q1 => And.intro ret0 ⟨rfl, _, rfl, (l1 q1)⟩) (fun q1 => (c_goD (T := T) (V := V) (o1 (Int.not_le.mp q1) _ rfl) (fun s4 h5 => And.intro (fun q6 => (l2 (Int.not_le.mp q1) _ rfl s4 h5 q6)) (fun q6 => (have k7 := (o2 (Int.not_le.mp q1) _ rfl s4 h5 (Int.not_le.mp q6)); And.intro k7 ((have k8 := (o3 (Int.not_le.mp q1) _ rfl s4 h5 (Int.not_le.mp q6)); And.intro k8 (And.intro (fun q9 => (l3 (Int.not_le.mp q1) _ rfl s4 h5 (Int.not_le.mp q6) q9)) (fun q9 => And.intro ret0 ⟨rfl, _, rfl, (l4 (Int.not_le.mp q1) _ rfl s4 h5 (Int.not_le.mp q6) (Classical.not_not.mp q9))⟩))))))))))
theorem r_empties {xs : Nat → Int} {N n : Nat} {s : Mm} (h : Rel xs N s) (j : Int) {V : Nat → Nat → Int} (e : eqW V (wv s 40)) : Ci 250 [vr 85, vi j] (shF n) s (fun v' s' => v' = (if 0 ≤ j ∧ j < gi s 5 0 then (if gi s 46 (gi s 45 j.toNat).toNat = 0 then 0 else fs (emP (vw s 5) V (gi s 45 j.toNat).toNat) 20 20) else -1) ∧ Rel xs N s') := by
  obtain ⟨c0, c1, c2, c3, c5, d0', d1, d2, d3, -⟩ := Rel_cnt h
  have hj := fun q : (j.toNat : Int) < gi s 5 0 => Rel_j h q
  have e1 := fun q : (j.toNat : Int) < gi s 5 0 => (Rel_w5 h (j := j.toNat) (by omega)).1
  refine v_emR_0 (vw s 5) V j (by intros; subst_vars; first | omega | (have q1 := hj (by omega); have q2 := e1 (by omega); omega) | exact fun i hi => by rw [gi_ne (by omega)]; exact Rel_KB h i hi) (by intros; subst_vars; first | omega | (have q1 := hj (by omega); have q2 := e1 (by omega); omega) | exact fun i hi => by rw [gi_ne (by omega)]; exact Rel_KB h i hi) (by intros; subst_vars; first | omega | (have q1 := hj (by omega); have q2 := e1 (by omega); omega) | exact fun i hi => by rw [gi_ne (by omega)]; exact Rel_KB h i hi) ?_ ?_ ?_ ?_
  · intro t1 ht; intros; rw [ht]; exact ⟨by rw [if_neg (by omega)], Rel_th h⟩
  · intro t1 ht; intros; rw [ht]; exact ⟨by rw [if_neg (by omega)], Rel_th h⟩
  · intro t1 ht h1 h2 x5 hx hz s9 l t11 e11
    subst ht
    have q1 := hj (by omega)
    have q2 := e1 (by omega)
    obtain ⟨u, hu⟩ : ∃ u, u = (gi s 45 j.toNat).toNat := ⟨_, rfl⟩
    have hxu : x5 = (u : Int) := by omega
    subst hxu
    have hu5 : u < 5 := by omega
    rw [Int.toNat_natCast, (Rel_w5 h (j := u) hu5).2.2.1] at hz
    rw [if_pos (by omega), ← hu, if_neg hz]
    have hset : ∀ a i, ¬ (a = 85 ∧ i = 70) → gi t11 a i = gi s9 a i := fun a i q => by rw [e11, gi_si, if_neg q]
    have h70 : gi t11 85 70 = (u : Int) := by rw [e11, gi_si, if_pos ⟨rfl, rfl⟩]
    have g : GP (vw s 5) V t11 0 := GP_st (Lt_GP h l e (by omega)) fun a i q => hset a i (by omega)
    have hk := Lt_eK (T := vw s 5) (V := V) l h70 hset
    have hrel : Rel xs N t11 := Rel_set (Lt_rel h l) fun a i q => hset a i (by omega)
    have h72 : gi t11 85 72 = 0 := by rw [hset 85 72 (by omega)]; exact l.2.2.2.2.2.2.2.2.2.2.2.2.2
    have hd := d0_in V
    have key := loopUp (N := 147) (I := fun k => ∀ z : Option PV, ∀ τ : Mm, tR (vw s 5) V t11 τ k → (k + 6 - d0 V) / 7 ≤ 20 → fs (emP (vw s 5) V u) 20 (20 - (k + 6 - d0 V) / 7) = fs (emP (vw s 5) V u) 20 20 → R 250 42 [some (vr 85), some (vi j), some (vi (u : Int)), z] [] (shF n) 0 0 τ (Qi (shF n) (fun v' s' => v' = fs (emP (vw s 5) V u) 20 20 ∧ Rel xs N s'))) (fun k hk' ih => ?_) 0 (by omega)
    · exact key none t11 (tR_0 g) (by omega) (by rw [show 20 - (0 + 6 - d0 V) / 7 = 20 by omega])
    · intro z τ r hle he
      have hsz : ∀ s4, tR (vw s 5) V t11 s4 (k + 1) → gi s4 113 (5 + u) = eK (vw s 5) V u (k + 1) 6 u := fun s4 r' => by
        rw [← hk]; exact (r'.2.1.2.2.2.1 u hu5).2.2.1
      have h5 := r.2.2.2.2
      refine v_emR_L (vw s 5) (dK (vw s 5) V t11 k) j u z (by intros; first | omega | exact r.ok g (by omega) | (unfold rg; omega)) (by intros; first | omega | exact r.ok g (by omega) | (unfold rg; omega)) (by intros; first | omega | exact r.ok g (by omega) | (unfold rg; omega)) ?_ ?_ ?_ ?_
      · intro hge
        refine ⟨?_, Rel_rg hrel r.1⟩
        rw [← he, show 20 - (k + 6 - d0 V) / 7 = 0 by omega]
        rfl
      · intro hlt x2 hx2 s4 go hle2
        have r' := r.st g go
        have h5' := r'.2.2.2.2
        exact ih (by omega) _ s4 r' (by omega) (by rw [show (k + 1 + 6 - d0 V) / 7 = (k + 6 - d0 V) / 7 by omega]; exact he)
      · intro hlt x2 hx2 s4 go hlt2 hne
        have r' := r.st g go
        have h5' := r'.2.2.2.2
        rw [hsz s4 r'] at hne
        refine ih (by omega) _ s4 r' (by omega) ?_
        rw [← he, show 20 - (k + 6 - d0 V) / 7 = 20 + 1 - (k + 1 + 6 - d0 V) / 7 by omega, fs_s (by omega), if_neg (by
          unfold emP
          rw [show d0 V + 7 * ((k + 1 + 6 - d0 V) / 7 - 1) + 1 = k + 1 by omega]
          exact fun q => hne (of_decide_eq_true q))]
        congr 1
        omega
      · intro hlt x2 hx2 s4 go hlt2 heq
        have r' := r.st g go
        have h5' := r'.2.2.2.2
        rw [hsz s4 r'] at heq
        refine ⟨?_, Rel_rg hrel r'.1⟩
        rw [← he, show 20 - (k + 6 - d0 V) / 7 = 20 + 1 - (k + 1 + 6 - d0 V) / 7 by omega, fs_s (by omega), if_pos (by
          unfold emP
          rw [show d0 V + 7 * ((k + 1 + 6 - d0 V) / 7 - 1) + 1 = k + 1 by omega]
          exact decide_eq_true heq)]
        omega
  · intro t1 ht h1 h2 x5 hx hz
    subst hx
    have q1 := hj (by omega)
    have q2 := e1 (by omega)
    rw [q2, (Rel_w5 h (j := (gi s 45 j.toNat).toNat) (by omega)).2.2.1] at hz
    rw [ht, if_pos (by omega), if_pos hz]
    exact ⟨rfl, Rel_th h⟩
theorem gX.ok {xs : Nat → Int} {N : Nat} {σ s6 t τ : Mm} {k : Nat} (g : gX t τ k) (ts : TS s6 t) (r : Rel xs N σ) (b : Bt σ s6) (h2 : gi t 70 2 = -1 ∨ (0 ≤ gi t 70 2 ∧ gi t 70 2 ≤ 9)) (h3 : 0 ≤ gi t 70 3 ∧ gi t 70 3 ≤ 9) (hk : k ≤ 300) : BkOK (vw τ 5) ∧ SI (vw τ 5) (wv τ 49) ∧ (gi τ 70 2 = -1 ∨ (0 ≤ gi τ 70 2 ∧ gi τ 70 2 ≤ 9)) ∧ (0 ≤ gi τ 70 3 ∧ gi τ 70 3 ≤ 9) ∧ gi τ 49 0 < 11000 := by
  obtain ⟨o1, o2, o3⟩ := ts.ok r b
  have o4 := (Bt_ok r b).2.2.2.2
  have o5 := ts 49 0 (by omega) (by omega)
  obtain ⟨e1, e2, e3, e4, e5, e6, e7⟩ := g.same
  rw [e1, e2, e3, g.2.2]
  exact ⟨o1, SI_days o1 o2 k, h2, h3, by omega⟩
theorem v_em_0 {n : Nat}  (j : Int) {σ : Mm} {P : Int → Mm → Prop} (o1 : (0 : Int) ≤ j → j < (gi σ 5 0) → (0 ≤ j ∧ j < 5)) (o2 : (0 : Int) ≤ j → j < (gi σ 5 0) → ∀ x4 : Int, x4 = gi σ 45 j.toNat → (0 ≤ x4 ∧ x4 < 5)) (o3 : (0 : Int) ≤ j → j < (gi σ 5 0) → ∀ x4 : Int, x4 = gi σ 45 j.toNat → (gi σ 46 x4.toNat) ≠ (0 : Int) → ∀ s8 : Mm, Bt σ s8 → ∀ x10 : Int, x10 = oshl (1 : Int) x4 → ∀ t11 : Mm, t11 = si s8 49 1 (oand (gi s8 49 1) (oxor x10 (-1 : Int))) → (0 ≤ (gi s8 40 0) ∧ 0 < (7 : Int))) (o4 : (0 : Int) ≤ j → j < (gi σ 5 0) → ∀ x4 : Int, x4 = gi σ 45 j.toNat → (gi σ 46 x4.toNat) ≠ (0 : Int) → ∀ s8 : Mm, Bt σ s8 → ∀ x10 : Int, x10 = oshl (1 : Int) x4 → ∀ t11 : Mm, t11 = si s8 49 1 (oand (gi s8 49 1) (oxor x10 (-1 : Int))) → rg ((7 : Int) - ((gi s8 40 0) % (7 : Int)))) (o5 : (0 : Int) ≤ j → j < (gi σ 5 0) → ∀ x4 : Int, x4 = gi σ 45 j.toNat → (gi σ 46 x4.toNat) ≠ (0 : Int) → ∀ s8 : Mm, Bt σ s8 → ∀ x10 : Int, x10 = oshl (1 : Int) x4 → ∀ t11 : Mm, t11 = si s8 49 1 (oand (gi s8 49 1) (oxor x10 (-1 : Int))) → (0 ≤ ((7 : Int) - ((gi s8 40 0) % (7 : Int))) ∧ 0 < (7 : Int))) (o6 : (0 : Int) ≤ j → j < (gi σ 5 0) → ∀ x4 : Int, x4 = gi σ 45 j.toNat → (gi σ 46 x4.toNat) ≠ (0 : Int) → ∀ s8 : Mm, Bt σ s8 → ∀ x10 : Int, x10 = oshl (1 : Int) x4 → ∀ t11 : Mm, t11 = si s8 49 1 (oand (gi s8 49 1) (oxor x10 (-1 : Int))) → ∀ x15 : Int, x15 = ((7 : Int) - ((gi s8 40 0) % (7 : Int))) % (7 : Int) → (0 ≤ x15 ∧ x15 ≤ 200)) (o7 : (0 : Int) ≤ j → j < (gi σ 5 0) → ∀ x4 : Int, x4 = gi σ 45 j.toNat → (gi σ 46 x4.toNat) ≠ (0 : Int) → ∀ s8 : Mm, Bt σ s8 → ∀ x10 : Int, x10 = oshl (1 : Int) x4 → ∀ t11 : Mm, t11 = si s8 49 1 (oand (gi s8 49 1) (oxor x10 (-1 : Int))) → ∀ x15 : Int, x15 = ((7 : Int) - ((gi s8 40 0) % (7 : Int))) % (7 : Int) → BkOK (vw t11 5)) (o8 : (0 : Int) ≤ j → j < (gi σ 5 0) → ∀ x4 : Int, x4 = gi σ 45 j.toNat → (gi σ 46 x4.toNat) ≠ (0 : Int) → ∀ s8 : Mm, Bt σ s8 → ∀ x10 : Int, x10 = oshl (1 : Int) x4 → ∀ t11 : Mm, t11 = si s8 49 1 (oand (gi s8 49 1) (oxor x10 (-1 : Int))) → ∀ x15 : Int, x15 = ((7 : Int) - ((gi s8 40 0) % (7 : Int))) % (7 : Int) → SI (vw t11 5) (wv t11 49)) (o9 : (0 : Int) ≤ j → j < (gi σ 5 0) → ∀ x4 : Int, x4 = gi σ 45 j.toNat → (gi σ 46 x4.toNat) ≠ (0 : Int) → ∀ s8 : Mm, Bt σ s8 → ∀ x10 : Int, x10 = oshl (1 : Int) x4 → ∀ t11 : Mm, t11 = si s8 49 1 (oand (gi s8 49 1) (oxor x10 (-1 : Int))) → ∀ x15 : Int, x15 = ((7 : Int) - ((gi s8 40 0) % (7 : Int))) % (7 : Int) → (gi t11 70 2 = -1 ∨ (0 ≤ gi t11 70 2 ∧ gi t11 70 2 ≤ 9))) (o10 : (0 : Int) ≤ j → j < (gi σ 5 0) → ∀ x4 : Int, x4 = gi σ 45 j.toNat → (gi σ 46 x4.toNat) ≠ (0 : Int) → ∀ s8 : Mm, Bt σ s8 → ∀ x10 : Int, x10 = oshl (1 : Int) x4 → ∀ t11 : Mm, t11 = si s8 49 1 (oand (gi s8 49 1) (oxor x10 (-1 : Int))) → ∀ x15 : Int, x15 = ((7 : Int) - ((gi s8 40 0) % (7 : Int))) % (7 : Int) → (0 ≤ gi t11 70 3 ∧ gi t11 70 3 ≤ 9)) (o11 : (0 : Int) ≤ j → j < (gi σ 5 0) → ∀ x4 : Int, x4 = gi σ 45 j.toNat → (gi σ 46 x4.toNat) ≠ (0 : Int) → ∀ s8 : Mm, Bt σ s8 → ∀ x10 : Int, x10 = oshl (1 : Int) x4 → ∀ t11 : Mm, t11 = si s8 49 1 (oand (gi s8 49 1) (oxor x10 (-1 : Int))) → ∀ x15 : Int, x15 = ((7 : Int) - ((gi s8 40 0) % (7 : Int))) % (7 : Int) → gi t11 49 0 < 29000) (l1 : j < (0 : Int) → P (-1) σ) (l2 : (0 : Int) ≤ j → (gi σ 5 0) ≤ j → P (-1) σ) (l3 : (0 : Int) ≤ j → j < (gi σ 5 0) → ∀ x4 : Int, x4 = gi σ 45 j.toNat → (gi σ 46 x4.toNat) ≠ (0 : Int) → ∀ s8 : Mm, Bt σ s8 → ∀ x10 : Int, x10 = oshl (1 : Int) x4 → ∀ t11 : Mm, t11 = si s8 49 1 (oand (gi s8 49 1) (oxor x10 (-1 : Int))) → ∀ x15 : Int, x15 = ((7 : Int) - ((gi s8 40 0) % (7 : Int))) % (7 : Int) → ∀ s17 : Mm, Wg 49 t11 s17 (daysK (vw t11 5) (gi t11 70 2) (gi t11 70 3) (gi t11 70 4) (decide (gi t11 70 5 ≠ 0)) (fun u => !bi (gi t11 49 1) u) (wv t11 49) x15.toNat) → R 136 64 [some (vr 3), some (vi j), some (vi x4), some (vi 1)] [] (shF n) 0 0 s17 (Qi (shF n) P)) (l4 : (0 : Int) ≤ j → j < (gi σ 5 0) → ∀ x4 : Int, x4 = gi σ 45 j.toNat → (gi σ 46 x4.toNat) = (0 : Int) → P 0 σ) : Ci 136 [vr 3, vi j] (shF n) σ P :=
  show R 136 0 [some (vr 3), some (vi j), none, none] [] (shF n) 0 0 σ (Qi (shF n) P) from wpK_R 33 [64] ((show R 103 0 [some (vr 3), _] [] (shF n) 0 0 _ _ from wpK_R 10 [] (And.intro (fun q1 => And.intro ret0 (And.intro (Or.inl rfl) ⟨rfl, _, rfl, And.intro (fun q => absurd q (show ¬ ((0 : Int) ≠ 0) by decide)) (fun _ => And.intro ret0 ⟨rfl, _, rfl, (l1 q1)⟩)⟩)) (fun q1 => And.intro (fun q2 => And.intro ret0 (And.intro (Or.inl rfl) ⟨rfl, _, rfl, And.intro (fun q => absurd q (show ¬ ((0 : Int) ≠ 0) by decide)) (fun _ => And.intro ret0 ⟨rfl, _, rfl, (l2 (Int.not_lt.mp q1) q2)⟩)⟩)) (fun q2 => And.intro ret0 (And.intro (Or.inr rfl) ⟨rfl, _, rfl, And.intro (fun _ => (have k3 := (o1 (Int.not_lt.mp q1) (Int.not_le.mp q2)); And.intro k3 ((have k5 := (o2 (Int.not_lt.mp q1) (Int.not_le.mp q2) _ rfl); And.intro k5 (And.intro (fun q6 => (c_begin   (fun s8 h9 => (show R 85 0 [some (vr 49), _, some (vi 0), none] [] (shF n) 0 0 _ _ from wpK_R 15 [] (And.intro (fun _ => And.intro ret0 ⟨rfl, rfl, (show R 122 0 [some (vr 3)] [] (shF n) 0 0 _ _ from wpK_R 10 [] ((have k12 := (o3 (Int.not_lt.mp q1) (Int.not_le.mp q2) _ rfl q6 s8 h9 _ rfl _ rfl); And.intro k12 ((have k13 := (o4 (Int.not_lt.mp q1) (Int.not_le.mp q2) _ rfl q6 s8 h9 _ rfl _ rfl); And.intro k13 ((have k14 := (o5 (Int.not_lt.mp q1) (Int.not_le.mp q2) _ rfl q6 s8 h9 _ rfl _ rfl); And.intro k14 (And.intro ret0 ⟨rfl, _, rfl, (c_pass_49  (o6 (Int.not_lt.mp q1) (Int.not_le.mp q2) _ rfl q6 s8 h9 _ rfl _ rfl _ rfl) (o7 (Int.not_lt.mp q1) (Int.not_le.mp q2) _ rfl q6 s8 h9 _ rfl _ rfl _ rfl) (o8 (Int.not_lt.mp q1) (Int.not_le.mp q2) _ rfl q6 s8 h9 _ rfl _ rfl _ rfl) (o9 (Int.not_lt.mp q1) (Int.not_le.mp q2) _ rfl q6 s8 h9 _ rfl _ rfl _ rfl) (o10 (Int.not_lt.mp q1) (Int.not_le.mp q2) _ rfl q6 s8 h9 _ rfl _ rfl _ rfl) (o11 (Int.not_lt.mp q1) (Int.not_le.mp q2) _ rfl q6 s8 h9 _ rfl _ rfl _ rfl) (fun s17 h18 => (l3 (Int.not_lt.mp q1) (Int.not_le.mp q2) _ rfl q6 s8 h9 _ rfl _ rfl _ rfl s17 h18)))⟩))))))))⟩) (fun q => absurd (show (0 : Int) = 0 by decide) q)))))) (fun q6 => And.intro ret0 ⟨rfl, _, rfl, (l4 (Int.not_lt.mp q1) (Int.not_le.mp q2) _ rfl (Classical.not_not.mp q6))⟩)))))) (fun q => absurd (show (1 : Int) ≠ 0 by decide) q)⟩))))))
theorem v_em_L {n : Nat}  (j : Int) (u : Nat) (k : Nat) {σ : Mm} {P : Int → Mm → Prop} (o1 : (k : Int) ≤ (20 : Int) → BkOK (vw σ 5)) (o2 : (k : Int) ≤ (20 : Int) → SI (vw σ 5) (wv σ 49)) (o3 : (k : Int) ≤ (20 : Int) → (gi σ 70 2 = -1 ∨ (0 ≤ gi σ 70 2 ∧ gi σ 70 2 ≤ 9))) (o4 : (k : Int) ≤ (20 : Int) → (0 ≤ gi σ 70 3 ∧ gi σ 70 3 ≤ 9)) (o5 : (k : Int) ≤ (20 : Int) → gi σ 49 0 < 30000) (o6 : (k : Int) ≤ (20 : Int) → ∀ s3 : Mm, Wg 49 σ s3 (dayV (vw σ 5) (wv σ 49) (moD (vw σ 5) (gi σ 70 2) (gi σ 49 0)) (gi σ 70 3) (gi σ 70 4) (decide (gi σ 70 5 ≠ 0)) (fun u => !bi (gi σ 49 1) u)) → (0 ≤ (u : Int) ∧ (u : Int) < 5)) (o7 : (k : Int) ≤ (20 : Int) → ∀ s3 : Mm, Wg 49 σ s3 (dayV (vw σ 5) (wv σ 49) (moD (vw σ 5) (gi σ 70 2) (gi σ 49 0)) (gi σ 70 3) (gi σ 70 4) (decide (gi σ 70 5 ≠ 0)) (fun u => !bi (gi σ 49 1) u)) → (gi s3 55 u) ≠ (0 : Int) → (0 ≤ (6 : Int) ∧ (6 : Int) ≤ 200)) (o8 : (k : Int) ≤ (20 : Int) → ∀ s3 : Mm, Wg 49 σ s3 (dayV (vw σ 5) (wv σ 49) (moD (vw σ 5) (gi σ 70 2) (gi σ 49 0)) (gi σ 70 3) (gi σ 70 4) (decide (gi σ 70 5 ≠ 0)) (fun u => !bi (gi σ 49 1) u)) → (gi s3 55 u) ≠ (0 : Int) → BkOK (vw s3 5)) (o9 : (k : Int) ≤ (20 : Int) → ∀ s3 : Mm, Wg 49 σ s3 (dayV (vw σ 5) (wv σ 49) (moD (vw σ 5) (gi σ 70 2) (gi σ 49 0)) (gi σ 70 3) (gi σ 70 4) (decide (gi σ 70 5 ≠ 0)) (fun u => !bi (gi σ 49 1) u)) → (gi s3 55 u) ≠ (0 : Int) → SI (vw s3 5) (wv s3 49)) (o10 : (k : Int) ≤ (20 : Int) → ∀ s3 : Mm, Wg 49 σ s3 (dayV (vw σ 5) (wv σ 49) (moD (vw σ 5) (gi σ 70 2) (gi σ 49 0)) (gi σ 70 3) (gi σ 70 4) (decide (gi σ 70 5 ≠ 0)) (fun u => !bi (gi σ 49 1) u)) → (gi s3 55 u) ≠ (0 : Int) → (gi s3 70 2 = -1 ∨ (0 ≤ gi s3 70 2 ∧ gi s3 70 2 ≤ 9))) (o11 : (k : Int) ≤ (20 : Int) → ∀ s3 : Mm, Wg 49 σ s3 (dayV (vw σ 5) (wv σ 49) (moD (vw σ 5) (gi σ 70 2) (gi σ 49 0)) (gi σ 70 3) (gi σ 70 4) (decide (gi σ 70 5 ≠ 0)) (fun u => !bi (gi σ 49 1) u)) → (gi s3 55 u) ≠ (0 : Int) → (0 ≤ gi s3 70 3 ∧ gi s3 70 3 ≤ 9)) (o12 : (k : Int) ≤ (20 : Int) → ∀ s3 : Mm, Wg 49 σ s3 (dayV (vw σ 5) (wv σ 49) (moD (vw σ 5) (gi σ 70 2) (gi σ 49 0)) (gi σ 70 3) (gi σ 70 4) (decide (gi σ 70 5 ≠ 0)) (fun u => !bi (gi σ 49 1) u)) → (gi s3 55 u) ≠ (0 : Int) → gi s3 49 0 < 29000) (o13 : (k : Int) ≤ (20 : Int) → ∀ s3 : Mm, Wg 49 σ s3 (dayV (vw σ 5) (wv σ 49) (moD (vw σ 5) (gi σ 70 2) (gi σ 49 0)) (gi σ 70 3) (gi σ 70 4) (decide (gi σ 70 5 ≠ 0)) (fun u => !bi (gi σ 49 1) u)) → (gi s3 55 u) ≠ (0 : Int) → ∀ s8 : Mm, Wg 49 s3 s8 (daysK (vw s3 5) (gi s3 70 2) (gi s3 70 3) (gi s3 70 4) (decide (gi s3 70 5 ≠ 0)) (fun u => !bi (gi s3 49 1) u) (wv s3 49) 6) → rg ((k : Int) + 1)) (l1 : (20 : Int) < (k : Int) → P (-2) σ) (l2 : (k : Int) ≤ (20 : Int) → ∀ s3 : Mm, Wg 49 σ s3 (dayV (vw σ 5) (wv σ 49) (moD (vw σ 5) (gi σ 70 2) (gi σ 49 0)) (gi σ 70 3) (gi σ 70 4) (decide (gi σ 70 5 ≠ 0)) (fun u => !bi (gi σ 49 1) u)) → (gi s3 55 u) ≠ (0 : Int) → ∀ s8 : Mm, Wg 49 s3 s8 (daysK (vw s3 5) (gi s3 70 2) (gi s3 70 3) (gi s3 70 4) (decide (gi s3 70 5 ≠ 0)) (fun u => !bi (gi s3 49 1) u) (wv s3 49) 6) → R 136 64 [some (vr 3), some (vi j), some (vi (u : Int)), some (vi ((k : Int) + 1))] [] (shF n) 0 0 s8 (Qi (shF n) P)) (l3 : (k : Int) ≤ (20 : Int) → ∀ s3 : Mm, Wg 49 σ s3 (dayV (vw σ 5) (wv σ 49) (moD (vw σ 5) (gi σ 70 2) (gi σ 49 0)) (gi σ 70 3) (gi σ 70 4) (decide (gi σ 70 5 ≠ 0)) (fun u => !bi (gi σ 49 1) u)) → (gi s3 55 u) = (0 : Int) → P (k : Int) s3) : R 136 64 [some (vr 3), some (vi j), some (vi (u : Int)), some (vi (k : Int))] [] (shF n) 0 0 σ (Qi (shF n) P) :=
  wpK_R 23 [64] (And.intro (fun q1 => And.intro ret0 ⟨rfl, _, rfl, (l1 q1)⟩) (fun q1 => (c_pd_49  (o1 (Int.not_lt.mp q1)) (o2 (Int.not_lt.mp q1)) (o3 (Int.not_lt.mp q1)) (o4 (Int.not_lt.mp q1)) (o5 (Int.not_lt.mp q1)) (fun s3 h4 => (have k5 := (o6 (Int.not_lt.mp q1) s3 h4); And.intro k5 (And.intro (fun q6 => (c_pass_49  (o7 (Int.not_lt.mp q1) s3 h4 q6) (o8 (Int.not_lt.mp q1) s3 h4 q6) (o9 (Int.not_lt.mp q1) s3 h4 q6) (o10 (Int.not_lt.mp q1) s3 h4 q6) (o11 (Int.not_lt.mp q1) s3 h4 q6) (o12 (Int.not_lt.mp q1) s3 h4 q6) (fun s8 h9 => (have k10 := (o13 (Int.not_lt.mp q1) s3 h4 q6 s8 h9); And.intro k10 ((l2 (Int.not_lt.mp q1) s3 h4 q6 s8 h9)))))) (fun q6 => And.intro ret0 ⟨rfl, _, rfl, (l3 (Int.not_lt.mp q1) s3 h4 (Classical.not_not.mp q6))⟩)))))))
theorem q_empties {xs : Nat → Int} {N n : Nat} {σ : Mm} (h : Rel xs N σ) (j : Int) : Bi xs N n 136 [vr 3, vi j] 250 [vr 85, vi j] σ := by
  obtain ⟨c0, c1, c2, c3, c5, d0', d1, d2, d3, -⟩ := Rel_cnt h
  have hj := fun q : (j.toNat : Int) < gi σ 5 0 => Rel_j h q
  have hw0 := Rel_w0 h
  have hno : ¬ (0 ≤ j ∧ j < gi σ 5 0) → Ci 250 [vr 85, vi j] (shF n) σ (fun v' s' => v' = -1 ∧ Rel xs N s') := fun q => Ci_mono (r_empties h j (fun _ _ _ => rfl)) fun v' s' p => ⟨by rw [p.1, if_neg q], p.2⟩
  have hday : ∀ s2, Bt σ s2 → gi s2 40 0 = gi σ 40 0 := fun s2 b => b.1 40 0 (Or.inl (by unfold kpX; omega))
  refine v_em_0 j (by intros; subst_vars; first | omega | (have q1 := hj (by omega); omega) | (have q := hday _ ‹_›; omega) | (have q := hday _ ‹_›; unfold rg; omega) | exact (TS_si1.ok h ‹_›).1 | exact (TS_si1.ok h ‹_›).2.1 | exact (TS_si1.ok h ‹_›).2.2 | (have q := (TS_si1.ok h ‹_›).2.2; omega) | (have q := ‹Bt σ _›; have q3 := q.2.2.1; have q4 := q.2.2.2.1; simp [gi_si] <;> omega)) (by intros; subst_vars; first | omega | (have q1 := hj (by omega); omega) | (have q := hday _ ‹_›; omega) | (have q := hday _ ‹_›; unfold rg; omega) | exact (TS_si1.ok h ‹_›).1 | exact (TS_si1.ok h ‹_›).2.1 | exact (TS_si1.ok h ‹_›).2.2 | (have q := (TS_si1.ok h ‹_›).2.2; omega) | (have q := ‹Bt σ _›; have q3 := q.2.2.1; have q4 := q.2.2.2.1; simp [gi_si] <;> omega)) (by intros; subst_vars; first | omega | (have q1 := hj (by omega); omega) | (have q := hday _ ‹_›; omega) | (have q := hday _ ‹_›; unfold rg; omega) | exact (TS_si1.ok h ‹_›).1 | exact (TS_si1.ok h ‹_›).2.1 | exact (TS_si1.ok h ‹_›).2.2 | (have q := (TS_si1.ok h ‹_›).2.2; omega) | (have q := ‹Bt σ _›; have q3 := q.2.2.1; have q4 := q.2.2.2.1; simp [gi_si] <;> omega)) (by intros; subst_vars; first | omega | (have q1 := hj (by omega); omega) | (have q := hday _ ‹_›; omega) | (have q := hday _ ‹_›; unfold rg; omega) | exact (TS_si1.ok h ‹_›).1 | exact (TS_si1.ok h ‹_›).2.1 | exact (TS_si1.ok h ‹_›).2.2 | (have q := (TS_si1.ok h ‹_›).2.2; omega) | (have q := ‹Bt σ _›; have q3 := q.2.2.1; have q4 := q.2.2.2.1; simp [gi_si] <;> omega)) (by intros; subst_vars; first | omega | (have q1 := hj (by omega); omega) | (have q := hday _ ‹_›; omega) | (have q := hday _ ‹_›; unfold rg; omega) | exact (TS_si1.ok h ‹_›).1 | exact (TS_si1.ok h ‹_›).2.1 | exact (TS_si1.ok h ‹_›).2.2 | (have q := (TS_si1.ok h ‹_›).2.2; omega) | (have q := ‹Bt σ _›; have q3 := q.2.2.1; have q4 := q.2.2.2.1; simp [gi_si] <;> omega)) (by intros; subst_vars; first | omega | (have q1 := hj (by omega); omega) | (have q := hday _ ‹_›; omega) | (have q := hday _ ‹_›; unfold rg; omega) | exact (TS_si1.ok h ‹_›).1 | exact (TS_si1.ok h ‹_›).2.1 | exact (TS_si1.ok h ‹_›).2.2 | (have q := (TS_si1.ok h ‹_›).2.2; omega) | (have q := ‹Bt σ _›; have q3 := q.2.2.1; have q4 := q.2.2.2.1; simp [gi_si] <;> omega)) (by intros; subst_vars; first | omega | (have q1 := hj (by omega); omega) | (have q := hday _ ‹_›; omega) | (have q := hday _ ‹_›; unfold rg; omega) | exact (TS_si1.ok h ‹_›).1 | exact (TS_si1.ok h ‹_›).2.1 | exact (TS_si1.ok h ‹_›).2.2 | (have q := (TS_si1.ok h ‹_›).2.2; omega) | (have q := ‹Bt σ _›; have q3 := q.2.2.1; have q4 := q.2.2.2.1; simp [gi_si] <;> omega)) (by intros; subst_vars; first | omega | (have q1 := hj (by omega); omega) | (have q := hday _ ‹_›; omega) | (have q := hday _ ‹_›; unfold rg; omega) | exact (TS_si1.ok h ‹_›).1 | exact (TS_si1.ok h ‹_›).2.1 | exact (TS_si1.ok h ‹_›).2.2 | (have q := (TS_si1.ok h ‹_›).2.2; omega) | (have q := ‹Bt σ _›; have q3 := q.2.2.1; have q4 := q.2.2.2.1; simp [gi_si] <;> omega)) (by intros; subst_vars; first | omega | (have q1 := hj (by omega); omega) | (have q := hday _ ‹_›; omega) | (have q := hday _ ‹_›; unfold rg; omega) | exact (TS_si1.ok h ‹_›).1 | exact (TS_si1.ok h ‹_›).2.1 | exact (TS_si1.ok h ‹_›).2.2 | (have q := (TS_si1.ok h ‹_›).2.2; omega) | (have q := ‹Bt σ _›; have q3 := q.2.2.1; have q4 := q.2.2.2.1; simp [gi_si] <;> omega)) (by intros; subst_vars; first | omega | (have q1 := hj (by omega); omega) | (have q := hday _ ‹_›; omega) | (have q := hday _ ‹_›; unfold rg; omega) | exact (TS_si1.ok h ‹_›).1 | exact (TS_si1.ok h ‹_›).2.1 | exact (TS_si1.ok h ‹_›).2.2 | (have q := (TS_si1.ok h ‹_›).2.2; omega) | (have q := ‹Bt σ _›; have q3 := q.2.2.1; have q4 := q.2.2.2.1; simp [gi_si] <;> omega)) (by intros; subst_vars; first | omega | (have q1 := hj (by omega); omega) | (have q := hday _ ‹_›; omega) | (have q := hday _ ‹_›; unfold rg; omega) | exact (TS_si1.ok h ‹_›).1 | exact (TS_si1.ok h ‹_›).2.1 | exact (TS_si1.ok h ‹_›).2.2 | (have q := (TS_si1.ok h ‹_›).2.2; omega) | (have q := ‹Bt σ _›; have q3 := q.2.2.1; have q4 := q.2.2.2.1; simp [gi_si] <;> omega)) ?_ ?_ ?_ ?_
  · intros; exact hno (by omega)
  · intros; exact hno (by omega)
  · intro h1 h2 x4 hx hz s8 b x10 hx10 t11 e11 x15 hx15 s17 w
    have q1 := hj (by omega)
    obtain ⟨u, hu⟩ : ∃ u, u = (gi σ 45 j.toNat).toNat := ⟨_, rfl⟩
    have hxu : x4 = (u : Int) := by omega
    subst hxu
    have hu5 : u < 5 := by omega
    rw [Int.toNat_natCast] at hz
    have hts : TS s8 t11 := by rw [e11]; exact TS_si1
    have hV0 : wv s8 49 0 0 = gi σ 40 0 := b.2.1 0 0 (by unfold inW; omega)
    rw [hday s8 b, ← hV0] at hx15
    have hdd : x15.toNat = d0 (wv s8 49) := by rw [hx15]; rfl
    rw [hdd] at w
    have g70 : ∀ i, gi t11 70 i = gi s8 70 i := fun i => by rw [e11, gi_ne (by omega)]
    have k2 : gi t11 70 2 = -1 := (g70 2).trans b.2.2.1
    have k3 : gi t11 70 3 = gi σ 5 5 := (g70 3).trans b.2.2.2.1
    have k4 : gi t11 70 4 = -1 := (g70 4).trans b.2.2.2.2.1
    have k5 : gi t11 70 5 = 0 := (g70 5).trans b.2.2.2.2.2
    have hK : ∀ k, daysK (vw t11 5) (gi t11 70 2) (gi t11 70 3) (gi t11 70 4) (decide (gi t11 70 5 ≠ 0)) (fun u => !bi (gi t11 49 1) u) (wv t11 49) k 6 u = eK (vw σ 5) (wv s8 49) u k 6 u := fun k => by
      rw [hts.T, b.1.T, k2, k3, k4, decide_eq_false (fun q => q k5)]
      unfold eK
      rw [show (fun u => !bi (gi t11 49 1) u) = fun x => decide (x = u) || !bi (wv s8 49 0 1) x from funext fun x => by
        rw [e11, gi_si, if_pos ⟨rfl, rfl⟩, bi_and]
        by_cases h32 : x < 32
        · rw [bi_not h32, hx10, shl1 (by omega) h32]
          show _ = (decide (x = u) || !bi (gi s8 49 1) x)
          cases decide (x = u) <;> cases bi (gi s8 49 1) x <;> rfl
        · rw [bi_big (by omega), bi_big (by omega)]
          show _ = (decide (x = u) || !bi (gi s8 49 1) x)
          rw [bi_big (by omega)]
          simp]
      exact eqK_days hts.eqK _ _ _ _ _ _ 6 u (by omega)
    have hd := d0_in (wv s8 49)
    have hend : ∀ τ k v, gX t11 τ k → v = fs (emP (vw σ 5) (wv s8 49) u) 20 20 → Ci 250 [vr 85, vi j] (shF n) τ (fun v' s' => v' = v ∧ Rel xs N s') := fun τ k v r hv => by
      have hS : ScX σ τ := (b.1.tr hts.sc).tr (ScX.wg r)
      refine Ci_mono (r_empties (hS.rel h) j (V := wv s8 49) (by rw [hS.V]; exact b.2.1)) fun v' s' p => ⟨?_, p.2⟩
      rw [p.1, hS 5 0 (Or.inl (by unfold kpX; omega)), if_pos ⟨h1, h2⟩, hS 45 _ (Or.inl (by unfold kpX; omega)), hS 46 _ (Or.inl (by unfold kpX; omega)), ← hu, if_neg hz, hS.T, hv]
    have key := loopUp (N := 21) (I := fun m => 1 ≤ m → ∀ τ : Mm, gX t11 τ (d0 (wv s8 49) + 7 * (m - 1)) → fs (emP (vw σ 5) (wv s8 49) u) 20 (20 + 1 - m) = fs (emP (vw σ 5) (wv s8 49) u) 20 20 → R 136 64 [some (vr 3), some (vi j), some (vi (u : Int)), some (vi (m : Int))] [] (shF n) 0 0 τ (Qi (shF n) (fun v s => Ci 250 [vr 85, vi j] (shF n) s (fun v' s' => v' = v ∧ Rel xs N s')))) (fun m hm ih => ?_) 1 (by omega)
    · exact key (by omega) s17 w rfl
    · intro hm1 τ g he
      have ok := g.ok hts h b (Or.inl k2) (by omega) (by omega)
      have ok2 : ∀ s3, gX t11 s3 (d0 (wv s8 49) + 7 * (m - 1) + 1) → _ := fun s3 g' => g'.ok hts h b (Or.inl k2) (by omega) (by omega)
      have hsz : ∀ s3, gX t11 s3 (d0 (wv s8 49) + 7 * (m - 1) + 1) → gi s3 55 u = eK (vw σ 5) (wv s8 49) u (d0 (wv s8 49) + 7 * (m - 1) + 1) 6 u := fun s3 g' => by
        rw [(wv49 g'.2.2).2.2.2.1, hK]
      refine v_em_L j u m (by intros; first | omega | exact ok.1 | exact ok.2.1 | exact ok.2.2.1 | exact ok.2.2.2.1 | (have q := ok.2.2.2.2; omega) | exact (ok2 _ (g.day ‹_›)).1 | exact (ok2 _ (g.day ‹_›)).2.1 | exact (ok2 _ (g.day ‹_›)).2.2.1 | exact (ok2 _ (g.day ‹_›)).2.2.2.1 | (have q := (ok2 _ (g.day ‹_›)).2.2.2.2; omega) | (unfold rg; omega)) (by intros; first | omega | exact ok.1 | exact ok.2.1 | exact ok.2.2.1 | exact ok.2.2.2.1 | (have q := ok.2.2.2.2; omega) | exact (ok2 _ (g.day ‹_›)).1 | exact (ok2 _ (g.day ‹_›)).2.1 | exact (ok2 _ (g.day ‹_›)).2.2.1 | exact (ok2 _ (g.day ‹_›)).2.2.2.1 | (have q := (ok2 _ (g.day ‹_›)).2.2.2.2; omega) | (unfold rg; omega)) (by intros; first | omega | exact ok.1 | exact ok.2.1 | exact ok.2.2.1 | exact ok.2.2.2.1 | (have q := ok.2.2.2.2; omega) | exact (ok2 _ (g.day ‹_›)).1 | exact (ok2 _ (g.day ‹_›)).2.1 | exact (ok2 _ (g.day ‹_›)).2.2.1 | exact (ok2 _ (g.day ‹_›)).2.2.2.1 | (have q := (ok2 _ (g.day ‹_›)).2.2.2.2; omega) | (unfold rg; omega)) (by intros; first | omega | exact ok.1 | exact ok.2.1 | exact ok.2.2.1 | exact ok.2.2.2.1 | (have q := ok.2.2.2.2; omega) | exact (ok2 _ (g.day ‹_›)).1 | exact (ok2 _ (g.day ‹_›)).2.1 | exact (ok2 _ (g.day ‹_›)).2.2.1 | exact (ok2 _ (g.day ‹_›)).2.2.2.1 | (have q := (ok2 _ (g.day ‹_›)).2.2.2.2; omega) | (unfold rg; omega)) (by intros; first | omega | exact ok.1 | exact ok.2.1 | exact ok.2.2.1 | exact ok.2.2.2.1 | (have q := ok.2.2.2.2; omega) | exact (ok2 _ (g.day ‹_›)).1 | exact (ok2 _ (g.day ‹_›)).2.1 | exact (ok2 _ (g.day ‹_›)).2.2.1 | exact (ok2 _ (g.day ‹_›)).2.2.2.1 | (have q := (ok2 _ (g.day ‹_›)).2.2.2.2; omega) | (unfold rg; omega)) (by intros; first | omega | exact ok.1 | exact ok.2.1 | exact ok.2.2.1 | exact ok.2.2.2.1 | (have q := ok.2.2.2.2; omega) | exact (ok2 _ (g.day ‹_›)).1 | exact (ok2 _ (g.day ‹_›)).2.1 | exact (ok2 _ (g.day ‹_›)).2.2.1 | exact (ok2 _ (g.day ‹_›)).2.2.2.1 | (have q := (ok2 _ (g.day ‹_›)).2.2.2.2; omega) | (unfold rg; omega)) (by intros; first | omega | exact ok.1 | exact ok.2.1 | exact ok.2.2.1 | exact ok.2.2.2.1 | (have q := ok.2.2.2.2; omega) | exact (ok2 _ (g.day ‹_›)).1 | exact (ok2 _ (g.day ‹_›)).2.1 | exact (ok2 _ (g.day ‹_›)).2.2.1 | exact (ok2 _ (g.day ‹_›)).2.2.2.1 | (have q := (ok2 _ (g.day ‹_›)).2.2.2.2; omega) | (unfold rg; omega)) (by intros; first | omega | exact ok.1 | exact ok.2.1 | exact ok.2.2.1 | exact ok.2.2.2.1 | (have q := ok.2.2.2.2; omega) | exact (ok2 _ (g.day ‹_›)).1 | exact (ok2 _ (g.day ‹_›)).2.1 | exact (ok2 _ (g.day ‹_›)).2.2.1 | exact (ok2 _ (g.day ‹_›)).2.2.2.1 | (have q := (ok2 _ (g.day ‹_›)).2.2.2.2; omega) | (unfold rg; omega)) (by intros; first | omega | exact ok.1 | exact ok.2.1 | exact ok.2.2.1 | exact ok.2.2.2.1 | (have q := ok.2.2.2.2; omega) | exact (ok2 _ (g.day ‹_›)).1 | exact (ok2 _ (g.day ‹_›)).2.1 | exact (ok2 _ (g.day ‹_›)).2.2.1 | exact (ok2 _ (g.day ‹_›)).2.2.2.1 | (have q := (ok2 _ (g.day ‹_›)).2.2.2.2; omega) | (unfold rg; omega)) (by intros; first | omega | exact ok.1 | exact ok.2.1 | exact ok.2.2.1 | exact ok.2.2.2.1 | (have q := ok.2.2.2.2; omega) | exact (ok2 _ (g.day ‹_›)).1 | exact (ok2 _ (g.day ‹_›)).2.1 | exact (ok2 _ (g.day ‹_›)).2.2.1 | exact (ok2 _ (g.day ‹_›)).2.2.2.1 | (have q := (ok2 _ (g.day ‹_›)).2.2.2.2; omega) | (unfold rg; omega)) (by intros; first | omega | exact ok.1 | exact ok.2.1 | exact ok.2.2.1 | exact ok.2.2.2.1 | (have q := ok.2.2.2.2; omega) | exact (ok2 _ (g.day ‹_›)).1 | exact (ok2 _ (g.day ‹_›)).2.1 | exact (ok2 _ (g.day ‹_›)).2.2.1 | exact (ok2 _ (g.day ‹_›)).2.2.2.1 | (have q := (ok2 _ (g.day ‹_›)).2.2.2.2; omega) | (unfold rg; omega)) (by intros; first | omega | exact ok.1 | exact ok.2.1 | exact ok.2.2.1 | exact ok.2.2.2.1 | (have q := ok.2.2.2.2; omega) | exact (ok2 _ (g.day ‹_›)).1 | exact (ok2 _ (g.day ‹_›)).2.1 | exact (ok2 _ (g.day ‹_›)).2.2.1 | exact (ok2 _ (g.day ‹_›)).2.2.2.1 | (have q := (ok2 _ (g.day ‹_›)).2.2.2.2; omega) | (unfold rg; omega)) (by intros; first | omega | exact ok.1 | exact ok.2.1 | exact ok.2.2.1 | exact ok.2.2.2.1 | (have q := ok.2.2.2.2; omega) | exact (ok2 _ (g.day ‹_›)).1 | exact (ok2 _ (g.day ‹_›)).2.1 | exact (ok2 _ (g.day ‹_›)).2.2.1 | exact (ok2 _ (g.day ‹_›)).2.2.2.1 | (have q := (ok2 _ (g.day ‹_›)).2.2.2.2; omega) | (unfold rg; omega)) ?_ ?_ ?_
      · intro hlt
        refine hend τ _ _ g ?_
        rw [← he, show 20 + 1 - m = 0 by omega]
        rfl
      · intro hle s3 w3 hne s8' w8
        have g3 := g.day w3
        rw [hsz s3 g3] at hne
        have g8 : gX t11 s8' (d0 (wv s8 49) + 7 * (m - 1) + 1 + 6) := g3.pass (m := 6) w8
        refine R_eq (ih (by omega) (by omega) s8' (by rw [show d0 (wv s8 49) + 7 * (m + 1 - 1) = d0 (wv s8 49) + 7 * (m - 1) + 1 + 6 by omega]; exact g8) ?_) rfl
        rw [← he, fs_s (d := m) (by omega), if_neg (show ¬ emP (vw σ 5) (wv s8 49) u m = true from fun q => hne (of_decide_eq_true q))]
      · intro hle s3 w3 heq
        have g3 := g.day w3
        rw [hsz s3 g3] at heq
        refine hend s3 _ _ g3 ?_
        rw [← he, fs_s (d := m) (by omega), if_pos (show emP (vw σ 5) (wv s8 49) u m = true from decide_eq_true heq)]
  · intro h1 h2 x4 hx hz
    subst hx
    refine Ci_mono (r_empties h j (fun _ _ _ => rfl)) fun v' s' p => ⟨?_, p.2⟩
    rw [p.1, if_pos ⟨h1, h2⟩, if_pos hz]
