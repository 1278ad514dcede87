/-! TEXT: expressions, the reference's small steps -/
theorem v_bi {n : Nat}  (m : Int) (p : Option PV) (q : Option PV) (r : Option PV) {σ : Mm} {P : Mm → Prop} (o1 : (0 : Int) < (gi σ 85 43) → rg ((gi σ 85 43) - 1)) (o2 : (0 : Int) < (gi σ 85 43) → (0 ≤ ((gi σ 85 43) - 1) ∧ ((gi σ 85 43) - 1) < 96)) (o3 : (0 : Int) < (gi σ 85 43) → ∀ x4 : Int, x4 = rkF (gi σ 107 ((gi σ 85 43) - 1).toNat) → m ≤ x4 → ∀ t6 : Mm, t6 = si σ 85 43 ((gi σ 85 43) - 1) → ∀ x7 : Int, x7 = gi σ 107 ((gi σ 85 43) - 1).toNat → x7 ≠ (2 : Int) → rg ((gi σ 85 44) - 1)) (o4 : (0 : Int) < (gi σ 85 43) → ∀ x4 : Int, x4 = rkF (gi σ 107 ((gi σ 85 43) - 1).toNat) → m ≤ x4 → ∀ t6 : Mm, t6 = si σ 85 43 ((gi σ 85 43) - 1) → ∀ x7 : Int, x7 = gi σ 107 ((gi σ 85 43) - 1).toNat → x7 ≠ (2 : Int) → ∀ t10 : Mm, t10 = si t6 85 44 ((gi σ 85 44) - 1) → (0 ≤ ((gi σ 85 44) - 1) ∧ ((gi σ 85 44) - 1) < 96)) (o5 : (0 : Int) < (gi σ 85 43) → ∀ x4 : Int, x4 = rkF (gi σ 107 ((gi σ 85 43) - 1).toNat) → m ≤ x4 → ∀ t6 : Mm, t6 = si σ 85 43 ((gi σ 85 43) - 1) → ∀ x7 : Int, x7 = gi σ 107 ((gi σ 85 43) - 1).toNat → x7 ≠ (2 : Int) → ∀ t10 : Mm, t10 = si t6 85 44 ((gi σ 85 44) - 1) → ∀ x12 : Int, x12 = gi σ 108 ((gi σ 85 44) - 1).toNat → rg (((gi σ 85 44) - 1) - 1)) (o6 : (0 : Int) < (gi σ 85 43) → ∀ x4 : Int, x4 = rkF (gi σ 107 ((gi σ 85 43) - 1).toNat) → m ≤ x4 → ∀ t6 : Mm, t6 = si σ 85 43 ((gi σ 85 43) - 1) → ∀ x7 : Int, x7 = gi σ 107 ((gi σ 85 43) - 1).toNat → x7 ≠ (2 : Int) → ∀ t10 : Mm, t10 = si t6 85 44 ((gi σ 85 44) - 1) → ∀ x12 : Int, x12 = gi σ 108 ((gi σ 85 44) - 1).toNat → ∀ t14 : Mm, t14 = si t10 85 44 (((gi σ 85 44) - 1) - 1) → (0 ≤ (((gi σ 85 44) - 1) - 1) ∧ (((gi σ 85 44) - 1) - 1) < 96)) (o7 : (0 : Int) < (gi σ 85 43) → ∀ x4 : Int, x4 = rkF (gi σ 107 ((gi σ 85 43) - 1).toNat) → m ≤ x4 → ∀ t6 : Mm, t6 = si σ 85 43 ((gi σ 85 43) - 1) → ∀ x7 : Int, x7 = gi σ 107 ((gi σ 85 43) - 1).toNat → x7 ≠ (2 : Int) → ∀ t10 : Mm, t10 = si t6 85 44 ((gi σ 85 44) - 1) → ∀ x12 : Int, x12 = gi σ 108 ((gi σ 85 44) - 1).toNat → ∀ t14 : Mm, t14 = si t10 85 44 (((gi σ 85 44) - 1) - 1) → ∀ x16 : Int, x16 = gi σ 108 (((gi σ 85 44) - 1) - 1).toNat → ((0 ≤ gi t14 85 21 ∧ gi t14 85 21 < 64) ∧ (0 ≤ gi t14 85 44 ∧ gi t14 85 44 < 96))) (o8 : (0 : Int) < (gi σ 85 43) → ∀ x4 : Int, x4 = rkF (gi σ 107 ((gi σ 85 43) - 1).toNat) → m ≤ x4 → ∀ t6 : Mm, t6 = si σ 85 43 ((gi σ 85 43) - 1) → ∀ x7 : Int, x7 = gi σ 107 ((gi σ 85 43) - 1).toNat → x7 = (2 : Int) → rg ((gi σ 85 44) - 1)) (o9 : (0 : Int) < (gi σ 85 43) → ∀ x4 : Int, x4 = rkF (gi σ 107 ((gi σ 85 43) - 1).toNat) → m ≤ x4 → ∀ t6 : Mm, t6 = si σ 85 43 ((gi σ 85 43) - 1) → ∀ x7 : Int, x7 = gi σ 107 ((gi σ 85 43) - 1).toNat → x7 = (2 : Int) → ∀ t19 : Mm, t19 = si t6 85 44 ((gi σ 85 44) - 1) → (0 ≤ ((gi σ 85 44) - 1) ∧ ((gi σ 85 44) - 1) < 96)) (o10 : (0 : Int) < (gi σ 85 43) → ∀ x4 : Int, x4 = rkF (gi σ 107 ((gi σ 85 43) - 1).toNat) → m ≤ x4 → ∀ t6 : Mm, t6 = si σ 85 43 ((gi σ 85 43) - 1) → ∀ x7 : Int, x7 = gi σ 107 ((gi σ 85 43) - 1).toNat → x7 = (2 : Int) → ∀ t19 : Mm, t19 = si t6 85 44 ((gi σ 85 44) - 1) → ∀ x21 : Int, x21 = gi σ 108 ((gi σ 85 44) - 1).toNat → ((0 ≤ gi t19 85 21 ∧ gi t19 85 21 < 64) ∧ (0 ≤ gi t19 85 44 ∧ gi t19 85 44 < 96))) (l1 : (gi σ 85 43) ≤ (0 : Int) → P σ) (l2 : (0 : Int) < (gi σ 85 43) → ∀ x4 : Int, x4 = rkF (gi σ 107 ((gi σ 85 43) - 1).toNat) → x4 < m → P σ) (l3 : (0 : Int) < (gi σ 85 43) → ∀ x4 : Int, x4 = rkF (gi σ 107 ((gi σ 85 43) - 1).toNat) → m ≤ x4 → ∀ t6 : Mm, t6 = si σ 85 43 ((gi σ 85 43) - 1) → ∀ x7 : Int, x7 = gi σ 107 ((gi σ 85 43) - 1).toNat → x7 ≠ (2 : Int) → ∀ t10 : Mm, t10 = si t6 85 44 ((gi σ 85 44) - 1) → ∀ x12 : Int, x12 = gi σ 108 ((gi σ 85 44) - 1).toNat → ∀ t14 : Mm, t14 = si t10 85 44 (((gi σ 85 44) - 1) - 1) → ∀ x16 : Int, x16 = gi σ 108 (((gi σ 85 44) - 1) - 1).toNat → ∀ t17 : Mm, t17 = grM t14 x7 x16 x12 → R 186 0 [some (vr 85), some (vi m), some (vi x7), some (vi x12), some (vi x16)] [] (shF n) 0 0 t17 (Qv (shF n) P)) (l4 : (0 : Int) < (gi σ 85 43) → ∀ x4 : Int, x4 = rkF (gi σ 107 ((gi σ 85 43) - 1).toNat) → m ≤ x4 → ∀ t6 : Mm, t6 = si σ 85 43 ((gi σ 85 43) - 1) → ∀ x7 : Int, x7 = gi σ 107 ((gi σ 85 43) - 1).toNat → x7 = (2 : Int) → ∀ t19 : Mm, t19 = si t6 85 44 ((gi σ 85 44) - 1) → ∀ x21 : Int, x21 = gi σ 108 ((gi σ 85 44) - 1).toNat → ∀ t22 : Mm, t22 = grM t19 x7 x21 (-1 : Int) → R 186 0 [some (vr 85), some (vi m), some (vi x7), some (vi (-1)), some (vi x21)] [] (shF n) 0 0 t22 (Qv (shF n) P)) : R 186 0 [some (vr 85), some (vi m), p, q, r] [] (shF n) 0 0 σ (Qv (shF n) P) :=
  wpK_R 41 [0] (And.intro (fun q1 => And.intro ret0 ⟨rfl, rfl, (l1 q1)⟩) (fun q1 => (have k2 := (o1 (Int.not_le.mp q1)); And.intro k2 ((have k3 := (o2 (Int.not_le.mp q1)); And.intro k3 ((c_rank   (And.intro (fun q5 => And.intro ret0 ⟨rfl, rfl, (l2 (Int.not_le.mp q1) _ rfl q5)⟩) (fun q5 => And.intro k2 (And.intro k3 (And.intro (fun q8 => (show R 185 0 [some (vr 85)] [] (shF n) 0 0 _ _ from wpK_R 12 [] ((have k9 := (o3 (Int.not_le.mp q1) _ rfl (Int.not_lt.mp q5) _ rfl _ rfl q8); And.intro k9 ((have k11 := (o4 (Int.not_le.mp q1) _ rfl (Int.not_lt.mp q5) _ rfl _ rfl q8 _ rfl); And.intro k11 (And.intro ret0 ⟨rfl, _, rfl, (show R 185 0 [some (vr 85)] [] (shF n) 0 0 _ _ from wpK_R 12 [] ((have k13 := (o5 (Int.not_le.mp q1) _ rfl (Int.not_lt.mp q5) _ rfl _ rfl q8 _ rfl _ rfl); And.intro k13 ((have k15 := (o6 (Int.not_le.mp q1) _ rfl (Int.not_lt.mp q5) _ rfl _ rfl q8 _ rfl _ rfl _ rfl); And.intro k15 (And.intro ret0 ⟨rfl, _, rfl, (c_grw  (o7 (Int.not_le.mp q1) _ rfl (Int.not_lt.mp q5) _ rfl _ rfl q8 _ rfl _ rfl _ rfl _ rfl) ((l3 (Int.not_le.mp q1) _ rfl (Int.not_lt.mp q5) _ rfl _ rfl q8 _ rfl _ rfl _ rfl _ rfl _ rfl)))⟩))))))⟩))))))) (fun q8 => (show R 185 0 [some (vr 85)] [] (shF n) 0 0 _ _ from wpK_R 12 [] ((have k18 := (o8 (Int.not_le.mp q1) _ rfl (Int.not_lt.mp q5) _ rfl _ rfl (Classical.not_not.mp q8)); And.intro k18 ((have k20 := (o9 (Int.not_le.mp q1) _ rfl (Int.not_lt.mp q5) _ rfl _ rfl (Classical.not_not.mp q8) _ rfl); And.intro k20 (And.intro ret0 ⟨rfl, _, rfl, (c_grw  (o10 (Int.not_le.mp q1) _ rfl (Int.not_lt.mp q5) _ rfl _ rfl (Classical.not_not.mp q8) _ rfl _ rfl) ((l4 (Int.not_le.mp q1) _ rfl (Int.not_lt.mp q5) _ rfl _ rfl (Classical.not_not.mp q8) _ rfl _ rfl _ rfl)))⟩))))))))))))))))))
/-- what bind changes -/
def fBi (ρ ρ' : Mm) : Prop := ∀ a i, ¬ ((a = 85 ∧ (i = 21 ∨ i = 43 ∨ i = 44)) ∨ ((104 ≤ a ∧ a ≤ 106) ∧ 64 ≤ i) ∨ a = 108) → gi ρ' a i = gi ρ a i
/-- knots behind those of the law stay -/
def fKn (a : Nat) (ρ ρ' : Mm) : Prop := ∀ x i, 104 ≤ x → x ≤ 106 → i < 64 + a → gi ρ' x i = gi ρ x i
def BiR (a : Nat) (t : Nat) (σ ρ ρ' : Mm) : Prop := EP a 1 (popM σ t) ρ' ∧ fBi ρ ρ' ∧ fKn a ρ ρ'
theorem grM_g {ρ : Mm} {k a b : Int} {x i : Nat} (h : ¬ ((x = 85 ∧ (i = 21 ∨ i = 44)) ∨ ((104 ≤ x ∧ x ≤ 106) ∧ i = ((64 : Int) + gi ρ 85 21).toNat) ∨ (x = 108 ∧ i = (gi ρ 85 44).toNat))) : gi (grM ρ k a b) x i = gi ρ x i := by
  unfold grM
  rw [gi_si, if_neg (by omega), gi_si, if_neg (by omega), gi_si, if_neg (by omega), gi_si, if_neg (by omega), gi_si, if_neg (by omega), gi_si, if_neg (by omega)]
theorem grM_v {ρ : Mm} {k a b : Int} : gi (grM ρ k a b) 85 21 = gi ρ 85 21 + 1 ∧ gi (grM ρ k a b) 85 44 = gi ρ 85 44 + 1 ∧ gi (grM ρ k a b) 108 (gi ρ 85 44).toNat = gi ρ 85 21 ∧ gi (grM ρ k a b) 104 ((64 : Int) + gi ρ 85 21).toNat = k ∧ gi (grM ρ k a b) 105 ((64 : Int) + gi ρ 85 21).toNat = a ∧ gi (grM ρ k a b) 106 ((64 : Int) + gi ρ 85 21).toNat = b := by
  unfold grM
  refine ⟨by rw [gi_hit], by rw [gi_si, if_neg (by omega), gi_hit], by rw [gi_si, if_neg (by omega), gi_si, if_neg (by omega), gi_hit], ?_, ?_, ?_⟩
  · rw [gi_si, if_neg (by omega), gi_si, if_neg (by omega), gi_si, if_neg (by omega), gi_si, if_neg (by omega), gi_si, if_neg (by omega), gi_hit]
  · rw [gi_si, if_neg (by omega), gi_si, if_neg (by omega), gi_si, if_neg (by omega), gi_si, if_neg (by omega), gi_hit]
  · rw [gi_si, if_neg (by omega), gi_si, if_neg (by omega), gi_si, if_neg (by omega), gi_hit]
theorem PE_pp {σ : Mm} {t : Nat} (h : ((t + 1 : Nat) : Int) ≤ gi σ 37 4) (h0 : 0 ≤ gi σ 33 0) : PE (popM σ (t + 1)) (popM (popM σ t) 1) := fun a i => by
  have e39 : ∀ j, gi (popM σ t) 39 j = gi σ 39 j := fun j => gp_o (by omega)
  rw [gPo (σ := popM σ t), gp_4, gp_0, e39, gPo (σ := σ) (t := t + 1)]
  by_cases q1 : a = 37 ∧ i = 4
  · rw [if_pos q1, if_pos q1]; omega
  · rw [if_neg q1, if_neg q1]
    by_cases q2 : a = 33 ∧ i = 0
    · rw [if_pos q2, if_pos q2]; omega
    · rw [if_neg q2, if_neg q2]
      by_cases q3 : a = 34 ∧ i = (gi σ 33 0).toNat + t
      · rw [if_pos (by omega), if_pos (by omega)]
        congr 1
        omega
      · by_cases q4 : a = 34 ∧ (gi σ 33 0).toNat ≤ i ∧ i < (gi σ 33 0).toNat + t
        · rw [if_pos (by omega), if_neg (by omega), gPo, if_neg q1, if_neg q2, if_pos q4]
        · rw [if_neg (by omega), if_neg (by omega), gPo, if_neg q1, if_neg q2, if_neg q4]
theorem wr_10 {z : Int} (h : -20 ≤ z ∧ z ≤ -8) : (wrF z = 2 ↔ z = -10) ∧ (z ≠ -10 → wrF z = opR z) := by
  unfold wrF opR
  refine ⟨⟨fun q => ?_, fun q => ?_⟩, fun q => ?_⟩
  · refine Classical.byContradiction fun y => ?_
    rw [if_neg (by omega), if_neg y] at q
    split at q
    · omega
    · split at q <;> omega
  · rw [if_neg (by omega), if_pos q]
  · rw [if_neg (by omega), if_neg q]
theorem c_bi {n a : Nat} {m : Int} {σ ρ : Mm} {t : Nat} {P : Mm → Prop} (hm : 1 ≤ m) (hx : XI σ) (hr : Rls m σ t) (he : EP a 1 σ ρ) (hP : ∀ ρ', BiR a t σ ρ ρ' → P ρ') : Cv 186 [vr 85, vi m] (shF n) ρ P := by
  have key := loopUp (N := t) (I := fun u => ∀ (τ : Mm) (p q r : Option PV), EP a 1 (popM σ u) τ → fBi ρ τ → fKn a ρ τ → R 186 0 [some (vr 85), some (vi m), p, q, r] [] (shF n) 0 0 τ (Qv (shF n) P)) (fun u hu ih => ?_) 0 (by omega) ρ none none none (EP_pe (fun b i => ?_) he) (fun _ _ _ => rfl) (fun _ _ _ _ _ => rfl)
  · exact key
  · intro τ p q r ep fb fk
    have hep := ep
    obtain ⟨M, h1, h2, h3, h4, h5, h6, h7, h8⟩ := hep
    rw [gp_4] at h2 h8
    rw [gp_0] at h1 h3
    have hx1 := hx.1
    have hx2 := hx.2.1
    have hxi := XI_in hx
    have hx6 := hx.2.2.2.2.1
    have hr1 := hr.1
    have hrm := Rls_rm hm hx (t := u) (by omega) (fun v hv => hr.2.1 v (by omega))
    have hrm1 : u < t → gi σ 33 0 + ((u + 1 : Nat) : Int) ≤ gi σ 37 6 := fun y => Rls_rm hm hx (t := u + 1) (by omega) (fun v hv => hr.2.1 v (by omega))
    have hcn := cnt_in (fun j => bnF (gi (popM σ u) 39 j)) (gi σ 37 4 - (u : Int)).toNat
    have e107 : 0 < gi τ 85 43 → gi τ 107 (gi τ 85 43 - 1).toNat = wrF (gi σ 39 ((gi σ 37 4).toNat - 1 - u)) := fun y => by
      rw [h4 _ (by rw [gp_4]; omega), gp_o (by omega)]
      congr 2
      omega
    have hz : 0 < gi τ 85 43 → -21 ≤ gi σ 39 ((gi σ 37 4).toNat - 1 - u) ∧ gi σ 39 ((gi σ 37 4).toNat - 1 - u) ≤ -8 := fun y => hx.2.2.2.2.2.2 _ (by omega)
    have hrk : 0 < gi τ 85 43 → rkF (gi τ 107 (gi τ 85 43 - 1).toNat) = stF (gi σ 39 ((gi σ 37 4).toNat - 1 - u)) := fun y => by rw [e107 y]; exact rk_st (hz y)
    have hend : (u : Int) = gi σ 37 4 ∨ stF (gi σ 39 ((gi σ 37 4).toNat - 1 - u)) < m → u = t := fun y => by
      refine Classical.byContradiction fun w => ?_
      have := hr.2.1 u (by omega)
      omega
    have hgo : 0 < gi τ 85 43 → m ≤ stF (gi σ 39 ((gi σ 37 4).toNat - 1 - u)) → u < t := fun y w => by
      refine Classical.byContradiction fun v => ?_
      have : u = t := by omega
      subst this
      have := hr.2.2
      omega
    have hb1 : 0 < gi τ 85 43 → m ≤ stF (gi σ 39 ((gi σ 37 4).toNat - 1 - u)) → gi τ 107 (gi τ 85 43 - 1).toNat ≠ 2 → 2 ≤ gi τ 85 44 := fun y w v => by
      rw [e107 y] at v
      have z1 := hz y
      have z2 : gi σ 39 ((gi σ 37 4).toNat - 1 - u) ≠ -21 := fun s => by rw [s] at w; have : stF (-21) = 0 := rfl; omega
      rw [show (gi σ 37 4 - (u : Int)).toNat = ((gi σ 37 4).toNat - 1 - u) + 1 by omega, cnt_s, gp_o (by omega)] at h8
      have z3 : bnF (gi σ 39 ((gi σ 37 4).toNat - 1 - u)) = true := decide_eq_true ⟨z2, fun s => v ((wr_10 (by omega)).1.mpr s)⟩
      have hc := cnt_in (fun j => bnF (gi (popM σ u) 39 j)) ((gi σ 37 4).toNat - 1 - u)
      rw [z3, show b2i true = 1 from rfl] at h8
      omega
    have hstep : ∀ (x7 x12 x16 : Int) (t1 t2 t3 t4 : Mm) (p q r : Option PV), 0 < gi τ 85 43 → m ≤ stF (gi σ 39 ((gi σ 37 4).toNat - 1 - u)) → x7 = gi τ 107 (gi τ 85 43 - 1).toNat → ((x7 ≠ 2 ∧ t1 = si τ 85 43 (gi τ 85 43 - 1) ∧ t2 = si t1 85 44 (gi τ 85 44 - 1) ∧ x12 = gi τ 108 (gi τ 85 44 - 1).toNat ∧ t3 = si t2 85 44 ((gi τ 85 44 - 1) - 1) ∧ x16 = gi τ 108 ((gi τ 85 44 - 1) - 1).toNat ∧ t4 = grM t3 x7 x16 x12) ∨ (x7 = 2 ∧ t1 = si τ 85 43 (gi τ 85 43 - 1) ∧ t3 = si t1 85 44 (gi τ 85 44 - 1) ∧ x16 = gi τ 108 (gi τ 85 44 - 1).toNat ∧ t4 = grM t3 x7 x16 x12)) → R 186 0 [some (vr 85), some (vi m), p, q, r] [] (shF n) 0 0 t4 (Qv (shF n) P) := fun x7 x12 x16 t1 t2 t3 t4 p q r y1 y2 y3 y4 => by
      have hut := hgo y1 y2
      have z1 := hz y1
      have z2 : gi σ 39 ((gi σ 37 4).toNat - 1 - u) ≠ -21 := fun s => by rw [s] at y2; have : stF (-21) = 0 := rfl; omega
      obtain ⟨w1, w2⟩ := wr_10 (z := gi σ 39 ((gi σ 37 4).toNat - 1 - u)) (by omega)
      rw [e107 y1] at y3
      have f3 : ∀ b i, ¬ (b = 85 ∧ (i = 43 ∨ i = 44)) → gi t3 b i = gi τ b i := fun b i pp => by
        rcases y4 with y | y
        · rw [y.2.2.2.2.1, gi_si, if_neg (by omega), y.2.2.1, gi_si, if_neg (by omega), y.2.1, gi_si, if_neg (by omega)]
        · rw [y.2.2.1, gi_si, if_neg (by omega), y.2.1, gi_si, if_neg (by omega)]
      have g43 : gi t3 85 43 = gi τ 85 43 - 1 := by
        rcases y4 with y | y
        · rw [y.2.2.2.2.1, gi_si, if_neg (by omega), y.2.2.1, gi_si, if_neg (by omega), y.2.1, gi_hit]
        · rw [y.2.2.1, gi_si, if_neg (by omega), y.2.1, gi_hit]
      have g44 : (x7 ≠ 2 ∧ gi t3 85 44 = gi τ 85 44 - 2) ∨ (x7 = 2 ∧ gi t3 85 44 = gi τ 85 44 - 1) := by
        rcases y4 with y | y
        · exact Or.inl ⟨y.1, by rw [y.2.2.2.2.1, gi_hit]; omega⟩
        · exact Or.inr ⟨y.1, by rw [y.2.2.1, gi_hit]⟩
      have e4 : t4 = grM t3 x7 x16 x12 := by
        rcases y4 with y | y
        · exact y.2.2.2.2.2.2
        · exact y.2.2.2.2
      obtain ⟨v1, v2, v3, v4, v5, v6⟩ := grM_v (ρ := t3) (k := x7) (a := x16) (b := x12)
      rw [← e4, f3 85 21 (by omega)] at v1 v4 v5 v6
      rw [← e4] at v2
      rw [← e4, f3 85 21 (by omega)] at v3
      have vf : ∀ x i, ¬ ((x = 85 ∧ (i = 21 ∨ i = 44)) ∨ ((104 ≤ x ∧ x ≤ 106) ∧ i = ((64 : Int) + gi τ 85 21).toNat) ∨ (x = 108 ∧ i = (gi t3 85 44).toNat)) → gi t4 x i = gi t3 x i := fun x i pp => by
        rw [e4]; exact grM_g (by rw [f3 85 21 (by omega)]; exact pp)
      have q64 : ((64 : Int) + gi τ 85 21).toNat = 64 + (gi τ 85 21).toNat := by omega
      rw [q64] at v4 v5 v6 vf
      have hpos : x7 ≠ 2 → 2 ≤ gi τ 85 44 := fun s => hb1 y1 y2 (by rw [e107 y1, ← y3]; exact s)
      have hpos2 : 1 ≤ gi τ 85 44 := by omega
      have ep1 : EP a 1 (popM (popM σ u) 1) t4 := by
        refine EP_pop (mh := (gi σ 37 4).toNat - 1 - u) ep (by rw [gp_4]; omega) (by rw [gp_o (by omega)]) (z := gi σ 39 ((gi σ 37 4).toNat - 1 - u)) (by omega) (by rw [vf 85 43 (by omega)]; exact g43) v1 (fun i => by rw [vf 107 i (by omega), f3 107 i (by omega)]) ?_ (by rw [show (gi t4 85 44 - 1).toNat = (gi t3 85 44).toNat by omega]; exact v3) (fun i hi => by rw [vf 108 i (by omega), f3 108 i (by omega)]) (fun x i pp qq hi => by rw [vf x i (by omega), f3 x i (by omega)])
        rcases y4 with y | y
        · refine Or.inr ⟨fun s => y.1 (by rw [y3]; exact w1.mpr s), by omega, ?_, ?_, ?_⟩
          · rw [v4, y3]; exact w2 fun s => y.1 (by rw [y3]; exact w1.mpr s)
          · rw [v5, y.2.2.2.2.2.1, show gi τ 85 44 - 1 - 1 = gi τ 85 44 - 2 by omega]
          · rw [v6, y.2.2.2.1]
        · refine Or.inl ⟨w1.mp (by rw [← y3]; exact y.1), by omega, ?_, ?_⟩
          · rw [v4]; exact y.1
          · rw [v5, y.2.2.2.1]
      refine ih hut t4 p q r (EP_pe (PE_pp (by omega) hx2) ep1) (fun b i pp => ?_) (fun x i pp qq hi => ?_)
      · rw [vf b i (by omega), f3 b i (by omega)]; exact fb b i pp
      · rw [vf x i (by omega), f3 x i (by omega)]; exact fk x i pp qq hi
    have hfin : u = t → P τ := fun y => by subst y; exact hP τ ⟨ep, fb, fk⟩
    refine v_bi m p q r (by intros; first | omega | (unfold rg; omega) | (have w := hrk (by omega); have y := hgo (by omega) (by omega); have y2 := hrm1 y; first | (have z := hb1 (by omega) (by omega) (by omega); first | omega | (unfold rg; omega) | (subst_vars; refine ⟨?_, ?_⟩ <;> simp [g85] <;> omega)) | omega | (subst_vars; refine ⟨?_, ?_⟩ <;> simp [g85] <;> omega))) (by intros; first | omega | (unfold rg; omega) | (have w := hrk (by omega); have y := hgo (by omega) (by omega); have y2 := hrm1 y; first | (have z := hb1 (by omega) (by omega) (by omega); first | omega | (unfold rg; omega) | (subst_vars; refine ⟨?_, ?_⟩ <;> simp [g85] <;> omega)) | omega | (subst_vars; refine ⟨?_, ?_⟩ <;> simp [g85] <;> omega))) (by intros; first | omega | (unfold rg; omega) | (have w := hrk (by omega); have y := hgo (by omega) (by omega); have y2 := hrm1 y; first | (have z := hb1 (by omega) (by omega) (by omega); first | omega | (unfold rg; omega) | (subst_vars; refine ⟨?_, ?_⟩ <;> simp [g85] <;> omega)) | omega | (subst_vars; refine ⟨?_, ?_⟩ <;> simp [g85] <;> omega))) (by intros; first | omega | (unfold rg; omega) | (have w := hrk (by omega); have y := hgo (by omega) (by omega); have y2 := hrm1 y; first | (have z := hb1 (by omega) (by omega) (by omega); first | omega | (unfold rg; omega) | (subst_vars; refine ⟨?_, ?_⟩ <;> simp [g85] <;> omega)) | omega | (subst_vars; refine ⟨?_, ?_⟩ <;> simp [g85] <;> omega))) (by intros; first | omega | (unfold rg; omega) | (have w := hrk (by omega); have y := hgo (by omega) (by omega); have y2 := hrm1 y; first | (have z := hb1 (by omega) (by omega) (by omega); first | omega | (unfold rg; omega) | (subst_vars; refine ⟨?_, ?_⟩ <;> simp [g85] <;> omega)) | omega | (subst_vars; refine ⟨?_, ?_⟩ <;> simp [g85] <;> omega))) (by intros; first | omega | (unfold rg; omega) | (have w := hrk (by omega); have y := hgo (by omega) (by omega); have y2 := hrm1 y; first | (have z := hb1 (by omega) (by omega) (by omega); first | omega | (unfold rg; omega) | (subst_vars; refine ⟨?_, ?_⟩ <;> simp [g85] <;> omega)) | omega | (subst_vars; refine ⟨?_, ?_⟩ <;> simp [g85] <;> omega))) (by intros; first | omega | (unfold rg; omega) | (have w := hrk (by omega); have y := hgo (by omega) (by omega); have y2 := hrm1 y; first | (have z := hb1 (by omega) (by omega) (by omega); first | omega | (unfold rg; omega) | (subst_vars; refine ⟨?_, ?_⟩ <;> simp [g85] <;> omega)) | omega | (subst_vars; refine ⟨?_, ?_⟩ <;> simp [g85] <;> omega))) (by intros; first | omega | (unfold rg; omega) | (have w := hrk (by omega); have y := hgo (by omega) (by omega); have y2 := hrm1 y; first | (have z := hb1 (by omega) (by omega) (by omega); first | omega | (unfold rg; omega) | (subst_vars; refine ⟨?_, ?_⟩ <;> simp [g85] <;> omega)) | omega | (subst_vars; refine ⟨?_, ?_⟩ <;> simp [g85] <;> omega))) (by intros; first | omega | (unfold rg; omega) | (have w := hrk (by omega); have y := hgo (by omega) (by omega); have y2 := hrm1 y; first | (have z := hb1 (by omega) (by omega) (by omega); first | omega | (unfold rg; omega) | (subst_vars; refine ⟨?_, ?_⟩ <;> simp [g85] <;> omega)) | omega | (subst_vars; refine ⟨?_, ?_⟩ <;> simp [g85] <;> omega))) (by intros; first | omega | (unfold rg; omega) | (have w := hrk (by omega); have y := hgo (by omega) (by omega); have y2 := hrm1 y; first | (have z := hb1 (by omega) (by omega) (by omega); first | omega | (unfold rg; omega) | (subst_vars; refine ⟨?_, ?_⟩ <;> simp [g85] <;> omega)) | omega | (subst_vars; refine ⟨?_, ?_⟩ <;> simp [g85] <;> omega))) ?_ ?_ ?_ ?_
    · intro y; exact hfin (hend (Or.inl (by omega)))
    · intro y x ex w; rw [ex, hrk y] at w; exact hfin (hend (Or.inr w))
    · intro y x ex w t1 e1 x7 e7 n7 t2 e2 x12 e12 t3 e3 x16 e16 t4 e4
      rw [ex, hrk y] at w
      exact hstep x7 x12 x16 t1 t2 t3 t4 _ _ _ y w e7 (Or.inl ⟨n7, e1, e2, e12, e3, e16, e4⟩)
    · intro y x ex w t1 e1 x7 e7 n7 t3 e3 x16 e16 t4 e4
      rw [ex, hrk y] at w
      exact hstep x7 (-1) x16 t1 t1 t3 t4 _ _ _ y w e7 (Or.inr ⟨n7, e1, e3, e16, e4⟩)
  · rw [gPo]
    by_cases q1 : b = 37 ∧ i = 4
    · rw [if_pos q1, q1.1, q1.2]; omega
    · rw [if_neg q1]
      by_cases q2 : b = 33 ∧ i = 0
      · rw [if_pos q2, q2.1, q2.2]; omega
      · rw [if_neg q2, if_neg (by omega)]
