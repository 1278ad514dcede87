/-! TEXT: the drafts; the reference's lines but for laws -/
def RJ (σ ρ : Mm) : Prop := (0 ≤ gi σ 21 0 ∧ gi σ 21 0 ≤ 5) ∧ gi ρ 85 17 = gi σ 21 0 ∧ ∀ j : Nat, (j : Int) < gi σ 21 0 → gi ρ 90 (5 + j) = gi σ 22 j ∧ gi ρ 91 (5 + j) = gi σ 23 j ∧ gi ρ 92 (5 + j) = gi σ 24 j ∧ (0 ≤ gi σ 23 j ∧ gi σ 23 j ≤ 99) ∧ (0 ≤ gi σ 24 j ∧ gi σ 24 j ≤ 9)
def RC (σ ρ : Mm) : Prop := (0 ≤ gi σ 21 1 ∧ gi σ 21 1 ≤ 10) ∧ gi ρ 85 18 = gi σ 21 1 ∧ ∀ c : Nat, (c : Int) < gi σ 21 1 → gi ρ 93 (10 + c) = gi σ 25 c ∧ gi ρ 94 (10 + c) = gi σ 26 c ∧ gi ρ 95 (10 + c) = gi σ 27 c ∧ gi ρ 96 (10 + c) = gi σ 28 c ∧ (0 ≤ gi σ 26 c ∧ gi σ 26 c < gi σ 21 0) ∧ (0 ≤ gi σ 27 c ∧ gi σ 27 c ≤ 99) ∧ (0 ≤ gi σ 28 c ∧ gi σ 28 c ≤ 99)
def RK (σ ρ : Mm) : Prop := (0 ≤ gi σ 21 2 ∧ gi σ 21 2 ≤ 5) ∧ gi ρ 85 19 = gi σ 21 2 ∧ ∀ k : Nat, (k : Int) < gi σ 21 2 → gi ρ 97 (5 + k) = gi σ 29 k ∧ gi ρ 98 (5 + k) = gi σ 30 k ∧ gi ρ 99 (5 + k) = gi σ 31 k ∧ (0 ≤ gi σ 30 k ∧ gi σ 30 k ≤ 127) ∧ (0 ≤ gi σ 31 k ∧ gi σ 31 k ≤ 9)
def RA (σ ρ : Mm) : Prop := (0 ≤ gi σ 21 3 ∧ gi σ 21 3 ≤ 8) ∧ gi ρ 85 20 = gi σ 21 3 ∧ ∀ d : Nat, (d : Int) < gi σ 21 3 → gi ρ 100 (8 + d) = gi σ 32 d ∧ (0 ≤ gi σ 32 d ∧ gi σ 32 d ≤ 9)
def RT (σ ρ : Mm) : Prop := (0 ≤ gi σ 21 5 ∧ gi σ 21 5 ≤ 9) ∧ gi ρ 89 1 = gi σ 21 5 ∧ (gi σ 21 6 = 0 ∨ gi σ 21 6 = 1) ∧ gi ρ 88 0 = gi σ 21 6
def RLw (σ ρ : Mm) : Prop := (0 ≤ gi σ 33 0 ∧ gi σ 33 0 ≤ 64) ∧ gi σ 37 6 = gi σ 33 0 ∧ gi ρ 85 21 = gi σ 33 0 ∧ gi ρ 85 46 = gi σ 33 0 ∧ ∀ w : Nat, w < 3 → (0 ≤ gi σ 35 w ∧ gi σ 35 w ≤ gi σ 36 w ∧ gi σ 36 w ≤ gi σ 33 0) ∧ gi ρ 101 (3 + w) = b2i (decide (gi σ 35 w < gi σ 36 w)) ∧ (gi σ 35 w < gi σ 36 w → gi ρ 102 (3 + w) = gi σ 35 w ∧ gi ρ 103 (3 + w) = gi σ 36 w ∧ KnR (gi σ 34) ρ 64 (gi σ 35 w).toNat (gi σ 36 w - gi σ 35 w).toNat ∧ (hS (gi σ 34) (gi σ 35 w).toNat (gi σ 36 w - gi σ 35 w).toNat).2 = 1)
def RD (σ ρ : Mm) : Prop := RJ σ ρ ∧ RC σ ρ ∧ RK σ ρ ∧ RA σ ρ ∧ RT σ ρ ∧ RLw σ ρ
theorem RJ_eq {σ s ρ ρ' : Mm} (h : RJ σ ρ) (c : ∀ a i, (a = 21 ∧ i = 0) ∨ (22 ≤ a ∧ a ≤ 24) → gi s a i = gi σ a i) (d : ∀ a i, (a = 85 ∧ i = 17) ∨ (90 ≤ a ∧ a ≤ 92) → gi ρ' a i = gi ρ a i) : RJ s ρ' := by
  unfold RJ
  rw [c 21 0 (by omega), d 85 17 (by omega)]
  refine ⟨h.1, h.2.1, fun j hj => ?_⟩
  rw [c 22 j (by omega), c 23 j (by omega), c 24 j (by omega), d 90 _ (by omega), d 91 _ (by omega), d 92 _ (by omega)]
  exact h.2.2 j hj
theorem RC_eq {σ s ρ ρ' : Mm} (h : RC σ ρ) (c : ∀ a i, (a = 21 ∧ i = 1) ∨ (25 ≤ a ∧ a ≤ 28) → gi s a i = gi σ a i) (hj : gi σ 21 0 ≤ gi s 21 0) (d : ∀ a i, (a = 85 ∧ i = 18) ∨ (93 ≤ a ∧ a ≤ 96) → gi ρ' a i = gi ρ a i) : RC s ρ' := by
  unfold RC
  rw [c 21 1 (by omega), d 85 18 (by omega)]
  refine ⟨h.1, h.2.1, fun j hj => ?_⟩
  rw [c 25 j (by omega), c 26 j (by omega), c 27 j (by omega), c 28 j (by omega), d 93 _ (by omega), d 94 _ (by omega), d 95 _ (by omega), d 96 _ (by omega)]
  have z := h.2.2 j hj
  exact ⟨z.1, z.2.1, z.2.2.1, z.2.2.2.1, by omega, z.2.2.2.2.2⟩
theorem RK_eq {σ s ρ ρ' : Mm} (h : RK σ ρ) (c : ∀ a i, (a = 21 ∧ i = 2) ∨ (29 ≤ a ∧ a ≤ 31) → gi s a i = gi σ a i) (d : ∀ a i, (a = 85 ∧ i = 19) ∨ (97 ≤ a ∧ a ≤ 99) → gi ρ' a i = gi ρ a i) : RK s ρ' := by
  unfold RK
  rw [c 21 2 (by omega), d 85 19 (by omega)]
  refine ⟨h.1, h.2.1, fun j hj => ?_⟩
  rw [c 29 j (by omega), c 30 j (by omega), c 31 j (by omega), d 97 _ (by omega), d 98 _ (by omega), d 99 _ (by omega)]
  exact h.2.2 j hj
theorem RA_eq {σ s ρ ρ' : Mm} (h : RA σ ρ) (c : ∀ a i, (a = 21 ∧ i = 3) ∨ a = 32 → gi s a i = gi σ a i) (d : ∀ a i, (a = 85 ∧ i = 20) ∨ a = 100 → gi ρ' a i = gi ρ a i) : RA s ρ' := by
  unfold RA
  rw [c 21 3 (by omega), d 85 20 (by omega)]
  refine ⟨h.1, h.2.1, fun j hj => ?_⟩
  rw [c 32 j (by omega), d 100 _ (by omega)]
  exact h.2.2 j hj
theorem RT_eq {σ s ρ ρ' : Mm} (h : RT σ ρ) (c : ∀ a i, a = 21 ∧ (i = 5 ∨ i = 6) → gi s a i = gi σ a i) (d : ∀ a i, a = 88 ∨ a = 89 → gi ρ' a i = gi ρ a i) : RT s ρ' := by
  unfold RT
  rw [c 21 5 (by omega), c 21 6 (by omega), d 88 _ (by omega), d 89 _ (by omega)]
  exact h
theorem RLw_eq {σ s ρ ρ' : Mm} (h : RLw σ ρ) (c : ∀ a i, (33 ≤ a ∧ a ≤ 36) ∨ (a = 37 ∧ i = 6) → gi s a i = gi σ a i) (d : ∀ a i, (a = 85 ∧ (i = 21 ∨ i = 46)) ∨ (101 ≤ a ∧ a ≤ 106) → gi ρ' a i = gi ρ a i) : RLw s ρ' := by
  have e34 : gi s 34 = gi σ 34 := funext fun i => c 34 i (by omega)
  unfold RLw
  rw [c 33 0 (by omega), c 37 6 (by omega), d 85 21 (by omega), d 85 46 (by omega), e34]
  refine ⟨h.1, h.2.1, h.2.2.1, h.2.2.2.1, fun w hw => ?_⟩
  rw [c 35 w (by omega), c 36 w (by omega), d 101 _ (by omega), d 102 _ (by omega), d 103 _ (by omega)]
  obtain ⟨z1, z2, z3⟩ := h.2.2.2.2 w hw
  exact ⟨z1, z2, fun q => ⟨(z3 q).1, (z3 q).2.1, KnR_eq (fun x y p q => d x y (by omega)) (z3 q).2.2.1, (z3 q).2.2.2⟩⟩
/-- what the reference changes while it reads -/
def chM (a i : Nat) : Prop := (a = 85 ∧ ((4 ≤ i ∧ i ≤ 11) ∨ (17 ≤ i ∧ i ≤ 21) ∨ (43 ≤ i ∧ i ≤ 48))) ∨ a = 88 ∨ (a = 89 ∧ i = 1) ∨ ((90 ≤ a ∧ a ≤ 92) ∧ 5 ≤ i) ∨ ((93 ≤ a ∧ a ≤ 96) ∧ 10 ≤ i) ∨ ((97 ≤ a ∧ a ≤ 99) ∧ 5 ≤ i) ∨ (a = 100 ∧ 8 ≤ i) ∨ ((101 ≤ a ∧ a ≤ 103) ∧ 3 ≤ i) ∨ ((104 ≤ a ∧ a ≤ 106) ∧ 64 ≤ i) ∨ a = 107 ∨ a = 108
def kR (ρ ρ' : Mm) : Prop := ∀ a i, ¬ chM a i → gi ρ' a i = gi ρ a i
theorem kR_rf (ρ : Mm) : kR ρ ρ := fun _ _ _ => rfl
theorem kR_tr {ρ ρ1 ρ2 : Mm} (a : kR ρ ρ1) (b : kR ρ1 ρ2) : kR ρ ρ2 := fun x i p => (b x i p).trans (a x i p)
theorem kR_f {ρ ρ' : Mm} (h : f85 ρ ρ') : kR ρ ρ' := fun a i p => h a i (by unfold chM at p; omega)
theorem kR_fr {ρ ρ' : Mm} (h : fr85 ρ ρ') : kR ρ ρ' := fun a i p => h a i (by unfold chM at p; omega)
theorem kR_si {ρ : Mm} {a i : Nat} {v : Int} (h : chM a i) : kR ρ (si ρ a i v) := fun x j p => by
  rw [gi_si, if_neg (fun q => p (by rw [q.1, q.2]; exact h))]
abbrev E4 (ρ ρ' : Mm) : Prop := gi ρ' 85 17 = gi ρ 85 17 ∧ gi ρ' 85 18 = gi ρ 85 18 ∧ gi ρ' 85 19 = gi ρ 85 19 ∧ gi ρ' 85 20 = gi ρ 85 20
theorem c_tkm2 {n : Nat} {σ : Mm} {P : Mm → Prop} (h : Mx σ) (hP : ∀ s, TkM σ s ∧ Mx s ∧ E4 σ s → P s) : Cv 163 [vr 85] (shF n) σ P :=
  c_tkm h fun s t => hP s ⟨t, Mx_tk h t, t.1 85 17 (by omega), t.1 85 18 (by omega), t.1 85 19 (by omega), t.1 85 20 (by omega)⟩
theorem NuR_f {hi v : Int} {ρ ρ' : Mm} (b : NuR hi ρ v ρ') : f85 ρ ρ' := by
  obtain ⟨-, b | b | b⟩ := b
  · rw [b.2.2]; exact f85_wr
  · rw [b.2.2.2]; exact f85_wr
  · intro a i p
    rw [b.2.2.2.2.1 a i (by omega), gi_si, if_neg (by omega)]
theorem NwR_f {a fr m : Nat} {v : Int} {ρ ρ' : Mm} (b : NwR a fr m ρ v ρ') : ∀ x i, ¬ (x = 85 ∧ (i = 4 ∨ i = 5 ∨ (7 ≤ i ∧ i ≤ 11))) → ¬ (x = a ∧ i = fr + m) → gi ρ' x i = gi ρ x i := by
  obtain ⟨-, b | b | b⟩ := b
  · rw [b.2.2]; exact fun x i p _ => f85_wr x i p
  · rw [b.2.2.2]; exact fun x i p _ => f85_wr x i p
  · intro x i p q
    rw [b.2.2.2.1 x i (by omega), gi_si, if_neg q]
theorem c_num2 {n : Nat} {hi : Int} {σ : Mm} {P : Int → Mm → Prop} (hm : Mx σ) (hP : ∀ v s, NuR hi σ v s ∧ Mx s ∧ E4 σ s → P v s) : Ci 168 [vr 85, vi 0, vi hi] (shF n) σ P :=
  c_num hm fun v s t => hP v s ⟨t, t.1, NuR_f t 85 17 (by omega), NuR_f t 85 18 (by omega), NuR_f t 85 19 (by omega), NuR_f t 85 20 (by omega)⟩
theorem c_nwn2_90 {n : Nat} {m : Int} {σ : Mm} {P : Int → Mm → Prop} (hx : Mx σ) (hm : 0 ≤ m ∧ m < 5) (hP : ∀ v s, NwR 90 5 m.toNat σ v s ∧ Mx s ∧ E4 σ s → P v s) : Ci 173 [vr 85, vr 90, vi 5, vi m] (shF n) σ P :=
  c_nwn_90 hx hm fun v s t => hP v s ⟨t, t.1, NwR_f t 85 17 (by omega) (by omega), NwR_f t 85 18 (by omega) (by omega), NwR_f t 85 19 (by omega) (by omega), NwR_f t 85 20 (by omega) (by omega)⟩
theorem c_nwn2_93 {n : Nat} {m : Int} {σ : Mm} {P : Int → Mm → Prop} (hx : Mx σ) (hm : 0 ≤ m ∧ m < 10) (hP : ∀ v s, NwR 93 10 m.toNat σ v s ∧ Mx s ∧ E4 σ s → P v s) : Ci 173 [vr 85, vr 93, vi 10, vi m] (shF n) σ P :=
  c_nwn_93 hx hm fun v s t => hP v s ⟨t, t.1, NwR_f t 85 17 (by omega) (by omega), NwR_f t 85 18 (by omega) (by omega), NwR_f t 85 19 (by omega) (by omega), NwR_f t 85 20 (by omega) (by omega)⟩
theorem c_nwn2_97 {n : Nat} {m : Int} {σ : Mm} {P : Int → Mm → Prop} (hx : Mx σ) (hm : 0 ≤ m ∧ m < 5) (hP : ∀ v s, NwR 97 5 m.toNat σ v s ∧ Mx s ∧ E4 σ s → P v s) : Ci 173 [vr 85, vr 97, vi 5, vi m] (shF n) σ P :=
  c_nwn_97 hx hm fun v s t => hP v s ⟨t, t.1, NwR_f t 85 17 (by omega) (by omega), NwR_f t 85 18 (by omega) (by omega), NwR_f t 85 19 (by omega) (by omega), NwR_f t 85 20 (by omega) (by omega)⟩
theorem v_jL {n : Nat}   {σ : Mm} {P : Int → Mm → Prop} (o1 : (gi σ 85 17) ≠ (5 : Int) → Mx σ) (o2 : (gi σ 85 17) ≠ (5 : Int) → ∀ s3 : Mm, TkM σ s3 ∧ Mx s3 ∧ E4 σ s3 → Mx s3) (o3 : (gi σ 85 17) ≠ (5 : Int) → ∀ s3 : Mm, TkM σ s3 ∧ Mx s3 ∧ E4 σ s3 → (0 ≤ (gi s3 85 17) ∧ (gi s3 85 17) < 5)) (o4 : (gi σ 85 17) ≠ (5 : Int) → ∀ s3 : Mm, TkM σ s3 ∧ Mx s3 ∧ E4 σ s3 → ∀ (v5 : Int) (s6 : Mm), NwR 90 5 ((gi s3 85 17)).toNat s3 v5 s6 ∧ Mx s6 ∧ E4 s3 s6 → v5 ≠ (0 : Int) → rg ((5 : Int) + (gi s6 85 17))) (o5 : (gi σ 85 17) ≠ (5 : Int) → ∀ s3 : Mm, TkM σ s3 ∧ Mx s3 ∧ E4 σ s3 → ∀ (v5 : Int) (s6 : Mm), NwR 90 5 ((gi s3 85 17)).toNat s3 v5 s6 ∧ Mx s6 ∧ E4 s3 s6 → v5 ≠ (0 : Int) → ∀ x10 : Int, x10 = (5 : Int) + (gi s6 85 17) → Mx s6) (o6 : (gi σ 85 17) ≠ (5 : Int) → ∀ s3 : Mm, TkM σ s3 ∧ Mx s3 ∧ E4 σ s3 → ∀ (v5 : Int) (s6 : Mm), NwR 90 5 ((gi s3 85 17)).toNat s3 v5 s6 ∧ Mx s6 ∧ E4 s3 s6 → v5 ≠ (0 : Int) → ∀ x10 : Int, x10 = (5 : Int) + (gi s6 85 17) → ∀ (v11 : Int) (s12 : Mm), NuR (99 : Int) s6 v11 s12 ∧ Mx s12 ∧ E4 s6 s12 → v11 ≠ (0 : Int) → (0 ≤ x10 ∧ x10 < 10)) (o7 : (gi σ 85 17) ≠ (5 : Int) → ∀ s3 : Mm, TkM σ s3 ∧ Mx s3 ∧ E4 σ s3 → ∀ (v5 : Int) (s6 : Mm), NwR 90 5 ((gi s3 85 17)).toNat s3 v5 s6 ∧ Mx s6 ∧ E4 s3 s6 → v5 ≠ (0 : Int) → ∀ x10 : Int, x10 = (5 : Int) + (gi s6 85 17) → ∀ (v11 : Int) (s12 : Mm), NuR (99 : Int) s6 v11 s12 ∧ Mx s12 ∧ E4 s6 s12 → v11 ≠ (0 : Int) → ∀ t16 : Mm, t16 = si s12 91 x10.toNat (gi s12 85 11) → Mx t16) (o8 : (gi σ 85 17) ≠ (5 : Int) → ∀ s3 : Mm, TkM σ s3 ∧ Mx s3 ∧ E4 σ s3 → ∀ (v5 : Int) (s6 : Mm), NwR 90 5 ((gi s3 85 17)).toNat s3 v5 s6 ∧ Mx s6 ∧ E4 s3 s6 → v5 ≠ (0 : Int) → ∀ x10 : Int, x10 = (5 : Int) + (gi s6 85 17) → ∀ (v11 : Int) (s12 : Mm), NuR (99 : Int) s6 v11 s12 ∧ Mx s12 ∧ E4 s6 s12 → v11 ≠ (0 : Int) → ∀ t16 : Mm, t16 = si s12 91 x10.toNat (gi s12 85 11) → ∀ (v17 : Int) (s18 : Mm), NuR (9 : Int) t16 v17 s18 ∧ Mx s18 ∧ E4 t16 s18 → v17 ≠ (0 : Int) → ∀ t21 : Mm, t21 = si s18 92 x10.toNat (gi s18 85 11) → rg ((gi s18 85 17) + 1)) (l1 : (gi σ 85 17) ≠ (5 : Int) → ∀ s3 : Mm, TkM σ s3 ∧ Mx s3 ∧ E4 σ s3 → ∀ (v5 : Int) (s6 : Mm), NwR 90 5 ((gi s3 85 17)).toNat s3 v5 s6 ∧ Mx s6 ∧ E4 s3 s6 → v5 ≠ (0 : Int) → ∀ x10 : Int, x10 = (5 : Int) + (gi s6 85 17) → ∀ (v11 : Int) (s12 : Mm), NuR (99 : Int) s6 v11 s12 ∧ Mx s12 ∧ E4 s6 s12 → v11 ≠ (0 : Int) → ∀ t16 : Mm, t16 = si s12 91 x10.toNat (gi s12 85 11) → ∀ (v17 : Int) (s18 : Mm), NuR (9 : Int) t16 v17 s18 ∧ Mx s18 ∧ E4 t16 s18 → v17 ≠ (0 : Int) → ∀ t21 : Mm, t21 = si s18 92 x10.toNat (gi s18 85 11) → ∀ t23 : Mm, t23 = si t21 85 17 ((gi s18 85 17) + 1) → P 1 t23) (l2 : (gi σ 85 17) ≠ (5 : Int) → ∀ s3 : Mm, TkM σ s3 ∧ Mx s3 ∧ E4 σ s3 → ∀ (v5 : Int) (s6 : Mm), NwR 90 5 ((gi s3 85 17)).toNat s3 v5 s6 ∧ Mx s6 ∧ E4 s3 s6 → v5 ≠ (0 : Int) → ∀ x10 : Int, x10 = (5 : Int) + (gi s6 85 17) → ∀ (v11 : Int) (s12 : Mm), NuR (99 : Int) s6 v11 s12 ∧ Mx s12 ∧ E4 s6 s12 → v11 ≠ (0 : Int) → ∀ t16 : Mm, t16 = si s12 91 x10.toNat (gi s12 85 11) → ∀ (v17 : Int) (s18 : Mm), NuR (9 : Int) t16 v17 s18 ∧ Mx s18 ∧ E4 t16 s18 → v17 = (0 : Int) → P 0 s18) (l3 : (gi σ 85 17) ≠ (5 : Int) → ∀ s3 : Mm, TkM σ s3 ∧ Mx s3 ∧ E4 σ s3 → ∀ (v5 : Int) (s6 : Mm), NwR 90 5 ((gi s3 85 17)).toNat s3 v5 s6 ∧ Mx s6 ∧ E4 s3 s6 → v5 ≠ (0 : Int) → ∀ x10 : Int, x10 = (5 : Int) + (gi s6 85 17) → ∀ (v11 : Int) (s12 : Mm), NuR (99 : Int) s6 v11 s12 ∧ Mx s12 ∧ E4 s6 s12 → v11 = (0 : Int) → P 0 s12) (l4 : (gi σ 85 17) ≠ (5 : Int) → ∀ s3 : Mm, TkM σ s3 ∧ Mx s3 ∧ E4 σ s3 → ∀ (v5 : Int) (s6 : Mm), NwR 90 5 ((gi s3 85 17)).toNat s3 v5 s6 ∧ Mx s6 ∧ E4 s3 s6 → v5 = (0 : Int) → P 0 s6) (l5 : (gi σ 85 17) = (5 : Int) → ∀ t24 : Mm, t24 = si σ 85 4 (2 : Int) → ∀ t25 : Mm, t25 = si t24 85 5 (gi σ 85 10) → P 0 t25) : Ci 174 [vr 85] (shF n) σ P :=
  show R 174 0 [some (vr 85), none] [] (shF n) 0 0 σ (Qi (shF n) P) from wpK_R 49 [] (And.intro (fun q1 => (c_tkm2  (o1 q1) (fun s3 h4 => (c_nwn2_90  (o2 q1 s3 h4) (o3 q1 s3 h4) (fun v5 s6 h7 => And.intro (fun q8 => (have k9 := (o4 q1 s3 h4 v5 s6 h7 q8); And.intro k9 ((c_num2  (o5 q1 s3 h4 v5 s6 h7 q8 _ rfl) (fun v11 s12 h13 => And.intro (fun q14 => (have k15 := (o6 q1 s3 h4 v5 s6 h7 q8 _ rfl v11 s12 h13 q14); And.intro k15 ((c_num2  (o7 q1 s3 h4 v5 s6 h7 q8 _ rfl v11 s12 h13 q14 _ rfl) (fun v17 s18 h19 => And.intro (fun q20 => And.intro k15 ((have k22 := (o8 q1 s3 h4 v5 s6 h7 q8 _ rfl v11 s12 h13 q14 _ rfl v17 s18 h19 q20 _ rfl); And.intro k22 (And.intro ret0 (And.intro (Or.inr rfl) ⟨rfl, _, rfl, (l1 q1 s3 h4 v5 s6 h7 q8 _ rfl v11 s12 h13 q14 _ rfl v17 s18 h19 q20 _ rfl _ rfl)⟩))))) (fun q20 => And.intro ret0 (And.intro (Or.inl rfl) ⟨rfl, _, rfl, (l2 q1 s3 h4 v5 s6 h7 q8 _ rfl v11 s12 h13 q14 _ rfl v17 s18 h19 (Classical.not_not.mp q20))⟩))))))) (fun q14 => And.intro ret0 (And.intro (Or.inl rfl) ⟨rfl, _, rfl, (l3 q1 s3 h4 v5 s6 h7 q8 _ rfl v11 s12 h13 (Classical.not_not.mp q14))⟩))))))) (fun q8 => And.intro ret0 (And.intro (Or.inl rfl) ⟨rfl, _, rfl, (l4 q1 s3 h4 v5 s6 h7 (Classical.not_not.mp q8))⟩))))))) (fun q1 => (show R 159 0 [some (vr 85), some (vi 2)] [] (shF n) 0 0 _ _ from wpK_R 9 [] (And.intro ret0 (And.intro (Or.inl rfl) ⟨rfl, _, rfl, And.intro ret0 (And.intro (Or.inl rfl) ⟨rfl, _, rfl, (l5 (Classical.not_not.mp q1) _ rfl _ rfl)⟩)⟩)))))
theorem r_judge {n : Nat} {σ s ρ : Mm} {P : Int → Mm → Prop} (ht : TQ σ ρ) (hr : RD σ ρ) (hj : JlC σ s) (hF : ∀ ρ', FQ s ρ' → kR ρ ρ' → P 0 ρ') (hO : ∀ ρ', TQ s ρ' → RD s ρ' → kR ρ ρ' → P 1 ρ') : Ci 174 [vr 85] (shF n) ρ P := by
  have hx := ht.2.1
  obtain ⟨hJ, hC, hK, hA, hT, hL⟩ := hr
  obtain ⟨j1, j2, j3⟩ := hJ
  obtain ⟨s1, s2, s3, s4, c1, c2, c3, c4, c5⟩ := hj
  obtain ⟨J, eJ⟩ : ∃ J : Nat, gi σ 21 0 = (J : Int) := ⟨(gi σ 21 0).toNat, by omega⟩
  have hfin : ∀ ρ', FQ s4 ρ' → kR ρ ρ' → P 0 ρ' := fun ρ' f k => by
    rcases c5 with c | c
    · exact absurd c.1 f.1
    · exact hF ρ' (by rw [c.2]; exact f) k
  have hw0 : gi σ 21 0 < 5 → cnW (gi σ 21 0) 5 = 0 := fun q => by unfold cnW; rw [if_neg (by omega)]
  rw [eJ, Int.toNat_natCast] at c2
  rw [eJ] at j2
  have row1 : ∀ τ, TkM ρ τ → ∀ j, j < J → gi τ 90 (5 + j) = gi s1 22 j := fun τ t j q => by
    rw [t.1 90 _ (by omega), TkS_fr c1 22 j (by omega)]; exact (j3 j (by omega)).1
  refine v_jL (by intros; first | omega | exact hx | (unfold rg; omega) | exact (And.left (And.right (by assumption))) | (subst_vars; refine Mx_si ?_ (by omega); first | exact hx | exact (And.left (And.right (by assumption)))) | (subst_vars; simp only [E4, gi_ne (show (85 : Nat) ≠ 88 by decide), gi_ne (show (85 : Nat) ≠ 89 by decide), gi_ne (show (85 : Nat) ≠ 91 by decide), gi_ne (show (85 : Nat) ≠ 92 by decide), gi_ne (show (85 : Nat) ≠ 94 by decide), gi_ne (show (85 : Nat) ≠ 95 by decide), gi_ne (show (85 : Nat) ≠ 96 by decide), gi_ne (show (85 : Nat) ≠ 98 by decide), gi_ne (show (85 : Nat) ≠ 99 by decide), gi_ne (show (85 : Nat) ≠ 100 by decide)] at *; first | omega | (unfold rg; omega))) (by intros; first | omega | exact hx | (unfold rg; omega) | exact (And.left (And.right (by assumption))) | (subst_vars; refine Mx_si ?_ (by omega); first | exact hx | exact (And.left (And.right (by assumption)))) | (subst_vars; simp only [E4, gi_ne (show (85 : Nat) ≠ 88 by decide), gi_ne (show (85 : Nat) ≠ 89 by decide), gi_ne (show (85 : Nat) ≠ 91 by decide), gi_ne (show (85 : Nat) ≠ 92 by decide), gi_ne (show (85 : Nat) ≠ 94 by decide), gi_ne (show (85 : Nat) ≠ 95 by decide), gi_ne (show (85 : Nat) ≠ 96 by decide), gi_ne (show (85 : Nat) ≠ 98 by decide), gi_ne (show (85 : Nat) ≠ 99 by decide), gi_ne (show (85 : Nat) ≠ 100 by decide)] at *; first | omega | (unfold rg; omega))) (by intros; first | omega | exact hx | (unfold rg; omega) | exact (And.left (And.right (by assumption))) | (subst_vars; refine Mx_si ?_ (by omega); first | exact hx | exact (And.left (And.right (by assumption)))) | (subst_vars; simp only [E4, gi_ne (show (85 : Nat) ≠ 88 by decide), gi_ne (show (85 : Nat) ≠ 89 by decide), gi_ne (show (85 : Nat) ≠ 91 by decide), gi_ne (show (85 : Nat) ≠ 92 by decide), gi_ne (show (85 : Nat) ≠ 94 by decide), gi_ne (show (85 : Nat) ≠ 95 by decide), gi_ne (show (85 : Nat) ≠ 96 by decide), gi_ne (show (85 : Nat) ≠ 98 by decide), gi_ne (show (85 : Nat) ≠ 99 by decide), gi_ne (show (85 : Nat) ≠ 100 by decide)] at *; first | omega | (unfold rg; omega))) (by intros; first | omega | exact hx | (unfold rg; omega) | exact (And.left (And.right (by assumption))) | (subst_vars; refine Mx_si ?_ (by omega); first | exact hx | exact (And.left (And.right (by assumption)))) | (subst_vars; simp only [E4, gi_ne (show (85 : Nat) ≠ 88 by decide), gi_ne (show (85 : Nat) ≠ 89 by decide), gi_ne (show (85 : Nat) ≠ 91 by decide), gi_ne (show (85 : Nat) ≠ 92 by decide), gi_ne (show (85 : Nat) ≠ 94 by decide), gi_ne (show (85 : Nat) ≠ 95 by decide), gi_ne (show (85 : Nat) ≠ 96 by decide), gi_ne (show (85 : Nat) ≠ 98 by decide), gi_ne (show (85 : Nat) ≠ 99 by decide), gi_ne (show (85 : Nat) ≠ 100 by decide)] at *; first | omega | (unfold rg; omega))) (by intros; first | omega | exact hx | (unfold rg; omega) | exact (And.left (And.right (by assumption))) | (subst_vars; refine Mx_si ?_ (by omega); first | exact hx | exact (And.left (And.right (by assumption)))) | (subst_vars; simp only [E4, gi_ne (show (85 : Nat) ≠ 88 by decide), gi_ne (show (85 : Nat) ≠ 89 by decide), gi_ne (show (85 : Nat) ≠ 91 by decide), gi_ne (show (85 : Nat) ≠ 92 by decide), gi_ne (show (85 : Nat) ≠ 94 by decide), gi_ne (show (85 : Nat) ≠ 95 by decide), gi_ne (show (85 : Nat) ≠ 96 by decide), gi_ne (show (85 : Nat) ≠ 98 by decide), gi_ne (show (85 : Nat) ≠ 99 by decide), gi_ne (show (85 : Nat) ≠ 100 by decide)] at *; first | omega | (unfold rg; omega))) (by intros; first | omega | exact hx | (unfold rg; omega) | exact (And.left (And.right (by assumption))) | (subst_vars; refine Mx_si ?_ (by omega); first | exact hx | exact (And.left (And.right (by assumption)))) | (subst_vars; simp only [E4, gi_ne (show (85 : Nat) ≠ 88 by decide), gi_ne (show (85 : Nat) ≠ 89 by decide), gi_ne (show (85 : Nat) ≠ 91 by decide), gi_ne (show (85 : Nat) ≠ 92 by decide), gi_ne (show (85 : Nat) ≠ 94 by decide), gi_ne (show (85 : Nat) ≠ 95 by decide), gi_ne (show (85 : Nat) ≠ 96 by decide), gi_ne (show (85 : Nat) ≠ 98 by decide), gi_ne (show (85 : Nat) ≠ 99 by decide), gi_ne (show (85 : Nat) ≠ 100 by decide)] at *; first | omega | (unfold rg; omega))) (by intros; first | omega | exact hx | (unfold rg; omega) | exact (And.left (And.right (by assumption))) | (subst_vars; refine Mx_si ?_ (by omega); first | exact hx | exact (And.left (And.right (by assumption)))) | (subst_vars; simp only [E4, gi_ne (show (85 : Nat) ≠ 88 by decide), gi_ne (show (85 : Nat) ≠ 89 by decide), gi_ne (show (85 : Nat) ≠ 91 by decide), gi_ne (show (85 : Nat) ≠ 92 by decide), gi_ne (show (85 : Nat) ≠ 94 by decide), gi_ne (show (85 : Nat) ≠ 95 by decide), gi_ne (show (85 : Nat) ≠ 96 by decide), gi_ne (show (85 : Nat) ≠ 98 by decide), gi_ne (show (85 : Nat) ≠ 99 by decide), gi_ne (show (85 : Nat) ≠ 100 by decide)] at *; first | omega | (unfold rg; omega))) (by intros; first | omega | exact hx | (unfold rg; omega) | exact (And.left (And.right (by assumption))) | (subst_vars; refine Mx_si ?_ (by omega); first | exact hx | exact (And.left (And.right (by assumption)))) | (subst_vars; simp only [E4, gi_ne (show (85 : Nat) ≠ 88 by decide), gi_ne (show (85 : Nat) ≠ 89 by decide), gi_ne (show (85 : Nat) ≠ 91 by decide), gi_ne (show (85 : Nat) ≠ 92 by decide), gi_ne (show (85 : Nat) ≠ 94 by decide), gi_ne (show (85 : Nat) ≠ 95 by decide), gi_ne (show (85 : Nat) ≠ 96 by decide), gi_ne (show (85 : Nat) ≠ 98 by decide), gi_ne (show (85 : Nat) ≠ 99 by decide), gi_ne (show (85 : Nat) ≠ 100 by decide)] at *; first | omega | (unfold rg; omega))) ?_ ?_ ?_ ?_ ?_
  · rintro a r1 ⟨t1, -, e1⟩ v2 r2 ⟨t2, -, e2⟩ n2 x ex v3 r3 ⟨t3, -, e3⟩ n3 u1 eu1 v4 r4 ⟨t4, -, e4⟩ n4 u2 eu2 u3 eu3
    have g17 : (gi r1 85 17).toNat = J := by omega
    rw [g17] at t2
    have k1 := sy_tok ht (hw0 (by omega)) c1 t1
    obtain ⟨f2, k2⟩ := sy_new k1 (by omega) (row1 r1 t1) c2 t2
    obtain ⟨-, k2, q2⟩ := k2.resolve_left (by omega)
    obtain ⟨f3, k3⟩ := sy_num k2 (by omega) c3 t3
    obtain ⟨-, k3, q3⟩ := k3.resolve_left (by omega)
    have hx5 : x.toNat = 5 + J := by omega
    rw [hx5] at eu1 eu2
    have k3' : TQ s3 u1 := TQ_eq k3 (fun _ _ _ => rfl) (fun b i p => by rw [eu1, gi_si, if_neg (by omega)])
    obtain ⟨f4, k4⟩ := sy_num k3' (by omega) c4 t4
    obtain ⟨-, k4, q4⟩ := k4.resolve_left (by omega)
    have fr : ∀ b i, ¬ (b = 85 ∧ (i = 4 ∨ i = 5 ∨ (7 ≤ i ∧ i ≤ 11) ∨ i = 17)) → ¬ ((90 ≤ b ∧ b ≤ 92) ∧ i = 5 + J) → gi u3 b i = gi ρ b i := fun b i p q => by
      rw [eu3, gi_si, if_neg (by omega), eu2, gi_si, if_neg (by omega), f4 b i (by omega), eu1, gi_si, if_neg (by omega), f3 b i (by omega), f2 b i (by omega) (by omega), t1.1 b i (by omega)]
    have cf : ∀ b i, ¬ (b = 37 ∧ (8 ≤ i ∧ i ≤ 13)) → gi s4 b i = gi σ b i := fun b i p => by
      rw [TkS_fr c4 b i p, TkS_fr c3 b i p, TkS_fr c2 b i p, TkS_fr c1 b i p]
    rcases c5 with ⟨z1, z2, z3⟩ | ⟨z1, z3⟩
    · rw [eJ, Int.toNat_natCast] at z3
      have cs : ∀ b i, ¬ (b = 37 ∧ (8 ≤ i ∧ i ≤ 13)) → ¬ (b = 21 ∧ i = 0) → ¬ ((22 ≤ b ∧ b ≤ 24) ∧ i = J) → gi s b i = gi σ b i := fun b i p q r => by
        rw [z3, gi_si, if_neg (by omega), gi_si, if_neg (by omega), gi_si, if_neg (by omega), gi_si, if_neg (by omega)]; exact cf b i p
      have s21 : gi s 21 0 = (J : Int) + 1 := by rw [z3, gi_hit, cf 21 0 (by omega), eJ]
      have a22 : gi s 22 J = gi s1 37 11 := by rw [z3, gi_si, if_neg (by omega), gi_si, if_neg (by omega), gi_si, if_neg (by omega), gi_hit]
      have a23 : gi s 23 J = gi s2 37 11 := by rw [z3, gi_si, if_neg (by omega), gi_si, if_neg (by omega), gi_hit]
      have a24 : gi s 24 J = gi s3 37 11 := by rw [z3, gi_si, if_neg (by omega), gi_hit]
      have b17 : gi u3 85 17 = (J : Int) + 1 := by
        have e5 : gi u1 85 17 = gi r3 85 17 := by rw [eu1, gi_si, if_neg (by omega)]
        rw [eu3, gi_hit]; omega
      have b90 : gi u3 90 (5 + J) = gi s1 37 11 := by rw [eu3, gi_si, if_neg (by omega), eu2, gi_si, if_neg (by omega), f4 90 _ (by omega), eu1, gi_si, if_neg (by omega), f3 90 _ (by omega)]; exact q2
      have b91 : gi u3 91 (5 + J) = gi s2 37 11 := by rw [eu3, gi_si, if_neg (by omega), eu2, gi_si, if_neg (by omega), f4 91 _ (by omega), eu1, gi_hit]; exact q3.1
      have b92 : gi u3 92 (5 + J) = gi s3 37 11 := by rw [eu3, gi_si, if_neg (by omega), eu2, gi_hit]; exact q4.1
      refine hO u3 (TQ_eq k4 (fun b i p => ?_) (fun b i p => ?_)) ⟨⟨by omega, by rw [b17, s21], fun j hj => ?_⟩, RC_eq hC (fun b i p => cs b i (by omega) (by omega) (by omega)) (by omega) (fun b i p => fr b i (by omega) (by omega)), RK_eq hK (fun b i p => cs b i (by omega) (by omega) (by omega)) (fun b i p => fr b i (by omega) (by omega)), RA_eq hA (fun b i p => cs b i (by omega) (by omega) (by omega)) (fun b i p => fr b i (by omega) (by omega)), RT_eq hT (fun b i p => cs b i (by omega) (by omega) (by omega)) (fun b i p => fr b i (by omega) (by omega)), RLw_eq hL (fun b i p => cs b i (by omega) (by omega) (by omega)) (fun b i p => fr b i (by omega) (by omega))⟩ (fun b i p => fr b i (by unfold chM at p; omega) (by unfold chM at p; omega))
      · rw [z3, gi_si, if_neg (by omega), gi_si, if_neg (by omega), gi_si, if_neg (by omega), gi_si, if_neg (by omega)]
      · rw [eu3, gi_si, if_neg (by omega), eu2, gi_si, if_neg (by omega)]
      · by_cases y : j = J
        · subst y
          rw [b90, b91, b92, a22, a23, a24]
          exact ⟨rfl, rfl, rfl, q3.2, q4.2⟩
        · rw [fr 90 _ (by omega) (by omega), fr 91 _ (by omega) (by omega), fr 92 _ (by omega) (by omega), cs 22 j (by omega) (by omega) (by omega), cs 23 j (by omega) (by omega) (by omega), cs 24 j (by omega) (by omega) (by omega)]
          exact j3 j (by omega)
    · have := k4.2.2.2.2.2.2.2.1
      omega
  · rintro a r1 ⟨t1, -, e1⟩ v2 r2 ⟨t2, -, e2⟩ n2 x ex v3 r3 ⟨t3, -, e3⟩ n3 u1 eu1 v4 r4 ⟨t4, -, e4⟩ n4
    have g17 : (gi r1 85 17).toNat = J := by omega
    rw [g17] at t2
    have k1 := sy_tok ht (hw0 (by omega)) c1 t1
    obtain ⟨f2, k2⟩ := sy_new k1 (by omega) (row1 r1 t1) c2 t2
    obtain ⟨-, k2, q2⟩ := k2.resolve_left (by omega)
    obtain ⟨f3, k3⟩ := sy_num k2 (by omega) c3 t3
    obtain ⟨-, k3, q3⟩ := k3.resolve_left (by omega)
    have hx5 : x.toNat = 5 + J := by omega
    rw [hx5] at eu1
    have k3' : TQ s3 u1 := TQ_eq k3 (fun _ _ _ => rfl) (fun b i p => by rw [eu1, gi_si, if_neg (by omega)])
    obtain ⟨f4, k4⟩ := sy_num k3' (by omega) c4 t4
    obtain ⟨-, k4⟩ := k4.resolve_right (by omega)
    refine hfin _ k4 (kR_tr (kR_fr t1.1) (kR_tr (fun b i p => f2 b i (by unfold chM at p; omega) (by unfold chM at p; omega)) (kR_tr (kR_f f3) (kR_tr (by rw [eu1]; exact kR_si (by unfold chM; omega)) (kR_f f4)))))
  · rintro a r1 ⟨t1, -, e1⟩ v2 r2 ⟨t2, -, e2⟩ n2 x ex v3 r3 ⟨t3, -, e3⟩ n3
    have g17 : (gi r1 85 17).toNat = J := by omega
    rw [g17] at t2
    have k1 := sy_tok ht (hw0 (by omega)) c1 t1
    obtain ⟨f2, k2⟩ := sy_new k1 (by omega) (row1 r1 t1) c2 t2
    obtain ⟨-, k2, q2⟩ := k2.resolve_left (by omega)
    obtain ⟨f3, k3⟩ := sy_num k2 (by omega) c3 t3
    obtain ⟨-, k3⟩ := k3.resolve_right (by omega)
    exact hfin _ (FQ_keep k3 c4) (kR_tr (kR_fr t1.1) (kR_tr (fun b i p => f2 b i (by unfold chM at p; omega) (by unfold chM at p; omega)) (kR_f f3)))
  · rintro a r1 ⟨t1, -, e1⟩ v2 r2 ⟨t2, -, e2⟩ n2
    have g17 : (gi r1 85 17).toNat = J := by omega
    rw [g17] at t2
    have k1 := sy_tok ht (hw0 (by omega)) c1 t1
    obtain ⟨f2, k2⟩ := sy_new k1 (by omega) (row1 r1 t1) c2 t2
    obtain ⟨-, k2⟩ := k2.resolve_right (by omega)
    exact hfin _ (FQ_keep (FQ_keep k2 c3) c4) (kR_tr (kR_fr t1.1) (fun b i p => f2 b i (by unfold chM at p; omega) (by unfold chM at p; omega)))
  · intro a t et t' et'
    subst et et'
    have hw : cnW (gi σ 21 0) 5 = 2 := by unfold cnW; rw [if_pos (by omega)]
    rw [hw] at c1
    exact hfin _ (FQ_keep (FQ_keep (FQ_keep (FQ_wr ht (by omega) c1) c2) c3) c4) (kR_f f85_wr)
