/-! CALLS that change the state: undo -/
def Rf (σ s : Mm) (u : Nat) (m : Int) : Prop := (∀ x i, x ≠ 44 → ¬ (x = 46 ∧ i = u) → gi s x i = gi σ x i) ∧ s.2 = σ.2 ∧ gi s 46 u = m ∧ (∀ i, gi s 44 i = if lies (wv σ 40) u m i then 1 else gi σ 44 i)
theorem v_rfl {n : Nat}  (u : Int) (m : Int) {σ : Mm} {P : Mm → Prop} (o1 : (0 ≤ u ∧ u < 5)) (o2 : ∀ t2 : Mm, t2 = si σ 46 u.toNat m → (0 ≤ gi t2 46 u.toNat ∧ gi t2 46 u.toNat ≤ 8)) (o3 : ∀ t2 : Mm, t2 = si σ 46 u.toNat m → (∀ p : Nat, (p : Int) < gi t2 46 u.toNat → 0 ≤ gi t2 47 (u.toNat * 8 + p) ∧ gi t2 47 (u.toNat * 8 + p) < 10)) (l1 : ∀ t2 : Mm, t2 = si σ 46 u.toNat m → ∀ s4 : Mm, Sf t2 s4 u.toNat (1 : Int) → P s4) : Cv 88 [vr 40, vi u, vi m] (shF n) σ P :=
  show R 88 0 [some (vr 40), some (vi u), some (vi m)] [] (shF n) 0 0 σ (Qv (shF n) P) from wpK_R 10 [] ((have k1 := (o1); And.intro k1 ((c_sf  k1 (o2 _ rfl) (o3 _ rfl) (fun s4 h5 => And.intro ret0 ⟨rfl, rfl, (l1 _ rfl s4 h5)⟩)))))
theorem c_rfl {n : Nat} {u m : Int} {σ : Mm} {P : Mm → Prop} (hu : 0 ≤ u ∧ u < 5) (hs : 0 ≤ m ∧ m ≤ 8) (hf : ∀ p : Nat, (p : Int) < m → 0 ≤ gi σ 47 (u.toNat * 8 + p) ∧ gi σ 47 (u.toNat * 8 + p) < 10) (hP : ∀ s, Rf σ s u.toNat m → P s) : Cv 88 [vr 40, vi u, vi m] (shF n) σ P := by
  have e46 : gi (si σ 46 u.toNat m) 46 u.toNat = m := by rw [gi_si, if_pos ⟨rfl, rfl⟩]
  refine v_rfl u m (by intros; subst_vars; first | omega | (rw [e46]; omega) | (rw [gi_ne (by omega)]; rw [e46] at *; exact hf _ (by assumption))) (by intros; subst_vars; first | omega | (rw [e46]; omega) | (rw [gi_ne (by omega)]; rw [e46] at *; exact hf _ (by assumption))) (by intros; subst_vars; first | omega | (rw [e46]; omega) | (rw [gi_ne (by omega)]; rw [e46] at *; exact hf _ (by assumption))) ?_
  intro t1 e1 s2 f
  subst e1
  refine hP s2 ⟨fun x i p q => ?_, f.2.1, ?_, fun i => ?_⟩
  · rw [f.1 x i p, gi_si, if_neg q]
  · rw [f.1 46 _ (by omega)]; exact e46
  · rw [f.2.2 i, e46, gi_ne (by omega)]
    rw [lies_c (V' := wv σ 40) (fun p _ => by simp only [wv]; rw [if_pos (by omega), if_pos (by omega), gi_ne (by omega)])]
theorem tbV_0 {V : Nat → Nat → Int} {kd on ot : Int} {f i : Nat} (h : kd = 0) : tbV V kd on ot f i = if f = 5 ∧ i = ot.toNat then V 5 on.toNat else if f = 5 ∧ i = on.toNat then V 5 ot.toNat else V f i := by unfold tbV; rw [if_pos h]
theorem tbV_1 {V : Nat → Nat → Int} {kd on ot : Int} {f i : Nat} (h : kd = 1) : tbV V kd on ot f i = if f = 0 ∧ i = 1 then (if bi (V 0 1) on.toNat then oand (V 0 1) (oxor (oshl 1 on) (-1)) else oor (V 0 1) (oshl 1 on)) else V f i := by unfold tbV; rw [if_neg (by omega), if_pos h]
theorem tbV_2 {V : Nat → Nat → Int} {kd on ot : Int} {f i : Nat} (h : kd = 2) : tbV V kd on ot f i = if f = 6 ∧ i = on.toNat then ot else if f = 4 ∧ lies V on.toNat ot i then 1 else V f i := by unfold tbV; rw [if_neg (by omega), if_neg (by omega), if_pos h]
theorem tbV_3 {V : Nat → Nat → Int} {kd on ot : Int} {f i : Nat} (h0 : kd ≠ 0) (h1 : kd ≠ 1) (h2 : kd ≠ 2) : tbV V kd on ot f i = if f = 1 ∧ i = on.toNat then ot else V f i := by unfold tbV; rw [if_neg h0, if_neg h1, if_neg h2]
theorem tb_keep {V : Nat → Nat → Int} {kd on ot : Int} {f i : Nat} (h : (f = 0 ∧ i = 0) ∨ f = 2 ∨ f = 3 ∨ f = 7 ∨ f = 8 ∨ 9 ≤ f) : tbV V kd on ot f i = V f i := by
  by_cases k0 : kd = 0
  · rw [tbV_0 k0, if_neg (by omega), if_neg (by omega)]
  · by_cases k1 : kd = 1
    · rw [tbV_1 k1, if_neg (by omega)]
    · by_cases k2 : kd = 2
      · rw [tbV_2 k2, if_neg (by omega), if_neg (by omega)]
      · rw [tbV_3 k0 k1 k2, if_neg (by omega)]
def xD (σ : Mm) : Nat := ((gi σ 71 3 + (gi σ 71 4 - 1)) % 20).toNat
def Tb (σ s : Mm) : Prop := (∀ a i, ¬ (40 ≤ a ∧ a ≤ 48) → ¬ (a = 71 ∧ i = 4) → gi s a i = gi σ a i) ∧ gi s 71 4 = gi σ 71 4 - 1 ∧ wv s 40 = tbV (wv σ 40) (gi σ 72 (xD σ)) (gi σ 73 (xD σ)) (gi σ 74 (xD σ))
theorem v_tb {n : Nat}   {σ : Mm} {P : Mm → Prop} (o1 : (gi σ 71 4) ≠ (0 : Int) → rg ((gi σ 71 4) - 1)) (o2 : (gi σ 71 4) ≠ (0 : Int) → ∀ t3 : Mm, t3 = si σ 71 4 ((gi σ 71 4) - 1) → rg ((gi σ 71 3) + ((gi σ 71 4) - 1))) (o3 : (gi σ 71 4) ≠ (0 : Int) → ∀ t3 : Mm, t3 = si σ 71 4 ((gi σ 71 4) - 1) → (0 ≤ ((gi σ 71 3) + ((gi σ 71 4) - 1)) ∧ 0 < (20 : Int))) (o4 : (gi σ 71 4) ≠ (0 : Int) → ∀ t3 : Mm, t3 = si σ 71 4 ((gi σ 71 4) - 1) → ∀ x6 : Int, x6 = ((gi σ 71 3) + ((gi σ 71 4) - 1)) % (20 : Int) → (0 ≤ x6 ∧ x6 < 20)) (o5 : (gi σ 71 4) ≠ (0 : Int) → ∀ t3 : Mm, t3 = si σ 71 4 ((gi σ 71 4) - 1) → ∀ x6 : Int, x6 = ((gi σ 71 3) + ((gi σ 71 4) - 1)) % (20 : Int) → ((gi σ 72 x6.toNat) < 0 ∨ 2 < (gi σ 72 x6.toNat)) → (0 ≤ (gi σ 73 x6.toNat) ∧ (gi σ 73 x6.toNat) < 10)) (o6 : (gi σ 71 4) ≠ (0 : Int) → ∀ t3 : Mm, t3 = si σ 71 4 ((gi σ 71 4) - 1) → ∀ x6 : Int, x6 = ((gi σ 71 3) + ((gi σ 71 4) - 1)) % (20 : Int) → (gi σ 72 x6.toNat) = 0 → (0 ≤ (gi σ 73 x6.toNat) ∧ (gi σ 73 x6.toNat) < 5)) (o7 : (gi σ 71 4) ≠ (0 : Int) → ∀ t3 : Mm, t3 = si σ 71 4 ((gi σ 71 4) - 1) → ∀ x6 : Int, x6 = ((gi σ 71 3) + ((gi σ 71 4) - 1)) % (20 : Int) → (gi σ 72 x6.toNat) = 0 → ∀ x12 : Int, x12 = gi σ 45 (gi σ 73 x6.toNat).toNat → (0 ≤ (gi σ 74 x6.toNat) ∧ (gi σ 74 x6.toNat) < 5)) (o8 : (gi σ 71 4) ≠ (0 : Int) → ∀ t3 : Mm, t3 = si σ 71 4 ((gi σ 71 4) - 1) → ∀ x6 : Int, x6 = ((gi σ 71 3) + ((gi σ 71 4) - 1)) % (20 : Int) → (gi σ 72 x6.toNat) = 1 → (0 ≤ (gi σ 73 x6.toNat) ∧ (gi σ 73 x6.toNat) < 5)) (o9 : (gi σ 71 4) ≠ (0 : Int) → ∀ t3 : Mm, t3 = si σ 71 4 ((gi σ 71 4) - 1) → ∀ x6 : Int, x6 = ((gi σ 71 3) + ((gi σ 71 4) - 1)) % (20 : Int) → (gi σ 72 x6.toNat) = 2 → (0 ≤ (gi σ 73 x6.toNat) ∧ (gi σ 73 x6.toNat) < 5)) (o10 : (gi σ 71 4) ≠ (0 : Int) → ∀ t3 : Mm, t3 = si σ 71 4 ((gi σ 71 4) - 1) → ∀ x6 : Int, x6 = ((gi σ 71 3) + ((gi σ 71 4) - 1)) % (20 : Int) → (gi σ 72 x6.toNat) = 2 → (0 ≤ (gi σ 74 x6.toNat) ∧ (gi σ 74 x6.toNat) ≤ 8)) (o11 : (gi σ 71 4) ≠ (0 : Int) → ∀ t3 : Mm, t3 = si σ 71 4 ((gi σ 71 4) - 1) → ∀ x6 : Int, x6 = ((gi σ 71 3) + ((gi σ 71 4) - 1)) % (20 : Int) → (gi σ 72 x6.toNat) = 2 → (∀ p : Nat, (p : Int) < (gi σ 74 x6.toNat) → 0 ≤ gi t3 47 ((gi σ 73 x6.toNat).toNat * 8 + p) ∧ gi t3 47 ((gi σ 73 x6.toNat).toNat * 8 + p) < 10)) (l1 : (gi σ 71 4) ≠ (0 : Int) → ∀ t3 : Mm, t3 = si σ 71 4 ((gi σ 71 4) - 1) → ∀ x6 : Int, x6 = ((gi σ 71 3) + ((gi σ 71 4) - 1)) % (20 : Int) → ((gi σ 72 x6.toNat) < 0 ∨ 2 < (gi σ 72 x6.toNat)) → ∀ t10 : Mm, t10 = si t3 41 (gi σ 73 x6.toNat).toNat (gi σ 74 x6.toNat) → P t10) (l2 : (gi σ 71 4) ≠ (0 : Int) → ∀ t3 : Mm, t3 = si σ 71 4 ((gi σ 71 4) - 1) → ∀ x6 : Int, x6 = ((gi σ 71 3) + ((gi σ 71 4) - 1)) % (20 : Int) → (gi σ 72 x6.toNat) = 0 → ∀ x12 : Int, x12 = gi σ 45 (gi σ 73 x6.toNat).toNat → ∀ t14 : Mm, t14 = si t3 45 (gi σ 73 x6.toNat).toNat (gi σ 45 (gi σ 74 x6.toNat).toNat) → ∀ t15 : Mm, t15 = si t14 45 (gi σ 74 x6.toNat).toNat x12 → P t15) (l3 : (gi σ 71 4) ≠ (0 : Int) → ∀ t3 : Mm, t3 = si σ 71 4 ((gi σ 71 4) - 1) → ∀ x6 : Int, x6 = ((gi σ 71 3) + ((gi σ 71 4) - 1)) % (20 : Int) → (gi σ 72 x6.toNat) = 1 → ∀ x16 : Int, x16 = b2i (bi (gi t3 40 1) (gi σ 73 x6.toNat).toNat) → x16 ≠ (0 : Int) → ∀ x18 : Int, x18 = oshl (1 : Int) (gi σ 73 x6.toNat) → ∀ t19 : Mm, t19 = si t3 40 1 (oand (gi σ 40 1) (oxor x18 (-1 : Int))) → P t19) (l4 : (gi σ 71 4) ≠ (0 : Int) → ∀ t3 : Mm, t3 = si σ 71 4 ((gi σ 71 4) - 1) → ∀ x6 : Int, x6 = ((gi σ 71 3) + ((gi σ 71 4) - 1)) % (20 : Int) → (gi σ 72 x6.toNat) = 1 → ∀ x16 : Int, x16 = b2i (bi (gi t3 40 1) (gi σ 73 x6.toNat).toNat) → x16 = (0 : Int) → ∀ x20 : Int, x20 = oshl (1 : Int) (gi σ 73 x6.toNat) → ∀ t21 : Mm, t21 = si t3 40 1 (oor (gi σ 40 1) x20) → P t21) (l5 : (gi σ 71 4) ≠ (0 : Int) → ∀ t3 : Mm, t3 = si σ 71 4 ((gi σ 71 4) - 1) → ∀ x6 : Int, x6 = ((gi σ 71 3) + ((gi σ 71 4) - 1)) % (20 : Int) → (gi σ 72 x6.toNat) = 2 → ∀ s23 : Mm, Rf t3 s23 (gi σ 73 x6.toNat).toNat (gi σ 74 x6.toNat) → P s23) (l6 : (gi σ 71 4) = (0 : Int) → P σ) : Cv 14 [vr 71, vr 40] (shF n) σ P :=
  show R 14 0 [some (vr 71), some (vr 40), none] [] (shF n) 0 0 σ (Qv (shF n) P) from wpK_R 39 [] (And.intro (fun q1 => (have k2 := (o1 q1); And.intro k2 ((have k4 := (o2 q1 _ rfl); And.intro k4 ((have k5 := (o3 q1 _ rfl); And.intro k5 ((have k7 := (o4 q1 _ rfl _ rfl); And.intro k7 (And.intro (fun q8 => And.intro k7 (And.intro k7 ((have k9 := (o5 q1 _ rfl _ rfl q8); And.intro k9 (And.intro ret0 ⟨rfl, rfl, (l1 q1 _ rfl _ rfl q8 _ rfl)⟩))))) (And.intro (fun q8 => And.intro k7 (And.intro k7 ((show R 83 0 [some (vr 40), _, _, none] [] (shF n) 0 0 _ _ from wpK_R 19 [] ((have k11 := (o6 q1 _ rfl _ rfl q8); And.intro k11 ((have k13 := (o7 q1 _ rfl _ rfl q8 _ rfl); And.intro k13 (And.intro k11 (And.intro k13 (And.intro ret0 ⟨rfl, rfl, And.intro ret0 ⟨rfl, rfl, (l2 q1 _ rfl _ rfl q8 _ rfl _ rfl _ rfl)⟩⟩))))))))))) (And.intro (fun q8 => And.intro k7 (And.intro k7 ((c_kept_40  (o8 q1 _ rfl _ rfl q8) (And.intro (fun q17 => (show R 85 0 [some (vr 40), _, some (vi 0), none] [] (shF n) 0 0 _ _ from wpK_R 15 [] (And.intro (fun _ => And.intro ret0 ⟨rfl, rfl, And.intro ret0 ⟨rfl, rfl, (l3 q1 _ rfl _ rfl q8 _ rfl q17 _ rfl _ rfl)⟩⟩) (fun q => absurd (show (0 : Int) = 0 by decide) q)))) (fun q17 => (show R 85 0 [some (vr 40), _, some (vi 1), none] [] (shF n) 0 0 _ _ from wpK_R 14 [] (And.intro (fun q => absurd q (show ¬ ((1 : Int) = 0) by decide)) (fun _ => And.intro ret0 ⟨rfl, rfl, And.intro ret0 ⟨rfl, rfl, (l4 q1 _ rfl _ rfl q8 _ rfl (Classical.not_not.mp q17) _ rfl _ rfl)⟩⟩))))))))) (And.intro (fun q8 => And.intro k7 (And.intro k7 ((c_rfl  (o9 q1 _ rfl _ rfl q8) (o10 q1 _ rfl _ rfl q8) (o11 q1 _ rfl _ rfl q8) (fun s23 h24 => And.intro ret0 ⟨rfl, rfl, (l5 q1 _ rfl _ rfl q8 s23 h24)⟩))))) (trivial))))))))))))) (fun q1 => And.intro ret0 ⟨rfl, rfl, (l6 (Classical.not_not.mp q1))⟩))
theorem c_tb {n : Nat} {σ : Mm} {P : Mm → Prop} (hb : BkOK (vw σ 5)) (h3 : 0 ≤ gi σ 71 3 ∧ gi σ 71 3 < 20) (h4 : 1 ≤ gi σ 71 4 ∧ gi σ 71 4 ≤ 20) (hd : DV (vw σ 5) (wv σ 40) (gi σ 72 (xD σ)) (gi σ 73 (xD σ)) (gi σ 74 (xD σ))) (hP : ∀ s, Tb σ s → P s) : Cv 14 [vr 71, vr 40] (shF n) σ P := by
  have hJ : 0 ≤ gi σ 5 0 ∧ gi σ 5 0 ≤ 5 := hb.1
  have hC : 0 ≤ gi σ 5 1 ∧ gi σ 5 1 ≤ 10 := hb.2.1
  have T0 : vw σ 5 0 0 = gi σ 5 0 := rfl
  have T1 : vw σ 5 0 1 = gi σ 5 1 := rfl
  have w7 : ∀ i, wv σ 40 7 i = gi σ 47 i := fun i => rfl
  obtain ⟨x, hx⟩ : ∃ x, x = xD σ := ⟨_, rfl⟩
  have hxx : ((gi σ 71 3 + (gi σ 71 4 - 1)) % 20).toNat = x := hx.symm
  rw [← hx] at hd
  unfold DV at hd
  rw [T0, T1] at hd
  simp only [w7] at hd
  have mk : ∀ s : Mm, (∀ a i, ¬ (40 ≤ a ∧ a ≤ 48) → ¬ (a = 71 ∧ i = 4) → gi s a i = gi σ a i) → gi s 71 4 = gi σ 71 4 - 1 → (∀ f i, f ≤ 8 → gi s (40 + f) i = tbV (wv σ 40) (gi σ 72 x) (gi σ 73 x) (gi σ 74 x) f i) → P s := fun s a b c => by
    refine hP s ⟨a, b, ?_⟩
    rw [← hx]
    funext f i
    by_cases q : f ≤ 8
    · rw [← c f i q]; simp only [wv]; rw [if_pos q]
    · rw [tb_keep (by omega)]; simp only [wv]; rw [if_neg q, if_neg q]
  have wf : ∀ f i, f ≤ 8 → wv σ 40 f i = gi σ (40 + f) i := fun f i q => by simp only [wv]; rw [if_pos q]
  refine v_tb (by intros; subst_vars; simp only [hxx] at *; first | omega | (unfold rg; omega) | (rcases hd with ⟨q1, q2, q3⟩ | ⟨q1, q2⟩ | ⟨q1, q2, q3, q4, q5⟩ | ⟨q1, q2, q3⟩ <;> first | omega | exact q4 _ (by assumption) | (rw [gi_ne (by omega)]; exact ⟨(q4 _ (by assumption)).1, by have := (q4 _ (by assumption)).2; omega⟩))) (by intros; subst_vars; simp only [hxx] at *; first | omega | (unfold rg; omega) | (rcases hd with ⟨q1, q2, q3⟩ | ⟨q1, q2⟩ | ⟨q1, q2, q3, q4, q5⟩ | ⟨q1, q2, q3⟩ <;> first | omega | exact q4 _ (by assumption) | (rw [gi_ne (by omega)]; exact ⟨(q4 _ (by assumption)).1, by have := (q4 _ (by assumption)).2; omega⟩))) (by intros; subst_vars; simp only [hxx] at *; first | omega | (unfold rg; omega) | (rcases hd with ⟨q1, q2, q3⟩ | ⟨q1, q2⟩ | ⟨q1, q2, q3, q4, q5⟩ | ⟨q1, q2, q3⟩ <;> first | omega | exact q4 _ (by assumption) | (rw [gi_ne (by omega)]; exact ⟨(q4 _ (by assumption)).1, by have := (q4 _ (by assumption)).2; omega⟩))) (by intros; subst_vars; simp only [hxx] at *; first | omega | (unfold rg; omega) | (rcases hd with ⟨q1, q2, q3⟩ | ⟨q1, q2⟩ | ⟨q1, q2, q3, q4, q5⟩ | ⟨q1, q2, q3⟩ <;> first | omega | exact q4 _ (by assumption) | (rw [gi_ne (by omega)]; exact ⟨(q4 _ (by assumption)).1, by have := (q4 _ (by assumption)).2; omega⟩))) (by intros; subst_vars; simp only [hxx] at *; first | omega | (unfold rg; omega) | (rcases hd with ⟨q1, q2, q3⟩ | ⟨q1, q2⟩ | ⟨q1, q2, q3, q4, q5⟩ | ⟨q1, q2, q3⟩ <;> first | omega | exact q4 _ (by assumption) | (rw [gi_ne (by omega)]; exact ⟨(q4 _ (by assumption)).1, by have := (q4 _ (by assumption)).2; omega⟩))) (by intros; subst_vars; simp only [hxx] at *; first | omega | (unfold rg; omega) | (rcases hd with ⟨q1, q2, q3⟩ | ⟨q1, q2⟩ | ⟨q1, q2, q3, q4, q5⟩ | ⟨q1, q2, q3⟩ <;> first | omega | exact q4 _ (by assumption) | (rw [gi_ne (by omega)]; exact ⟨(q4 _ (by assumption)).1, by have := (q4 _ (by assumption)).2; omega⟩))) (by intros; subst_vars; simp only [hxx] at *; first | omega | (unfold rg; omega) | (rcases hd with ⟨q1, q2, q3⟩ | ⟨q1, q2⟩ | ⟨q1, q2, q3, q4, q5⟩ | ⟨q1, q2, q3⟩ <;> first | omega | exact q4 _ (by assumption) | (rw [gi_ne (by omega)]; exact ⟨(q4 _ (by assumption)).1, by have := (q4 _ (by assumption)).2; omega⟩))) (by intros; subst_vars; simp only [hxx] at *; first | omega | (unfold rg; omega) | (rcases hd with ⟨q1, q2, q3⟩ | ⟨q1, q2⟩ | ⟨q1, q2, q3, q4, q5⟩ | ⟨q1, q2, q3⟩ <;> first | omega | exact q4 _ (by assumption) | (rw [gi_ne (by omega)]; exact ⟨(q4 _ (by assumption)).1, by have := (q4 _ (by assumption)).2; omega⟩))) (by intros; subst_vars; simp only [hxx] at *; first | omega | (unfold rg; omega) | (rcases hd with ⟨q1, q2, q3⟩ | ⟨q1, q2⟩ | ⟨q1, q2, q3, q4, q5⟩ | ⟨q1, q2, q3⟩ <;> first | omega | exact q4 _ (by assumption) | (rw [gi_ne (by omega)]; exact ⟨(q4 _ (by assumption)).1, by have := (q4 _ (by assumption)).2; omega⟩))) (by intros; subst_vars; simp only [hxx] at *; first | omega | (unfold rg; omega) | (rcases hd with ⟨q1, q2, q3⟩ | ⟨q1, q2⟩ | ⟨q1, q2, q3, q4, q5⟩ | ⟨q1, q2, q3⟩ <;> first | omega | exact q4 _ (by assumption) | (rw [gi_ne (by omega)]; exact ⟨(q4 _ (by assumption)).1, by have := (q4 _ (by assumption)).2; omega⟩))) (by intros; subst_vars; simp only [hxx] at *; first | omega | (unfold rg; omega) | (rcases hd with ⟨q1, q2, q3⟩ | ⟨q1, q2⟩ | ⟨q1, q2, q3, q4, q5⟩ | ⟨q1, q2, q3⟩ <;> first | omega | exact q4 _ (by assumption) | (rw [gi_ne (by omega)]; exact ⟨(q4 _ (by assumption)).1, by have := (q4 _ (by assumption)).2; omega⟩))) ?_ ?_ ?_ ?_ ?_ ?_
  · intro hne t3 e3 x6 e6 hk t10 e10
    rw [e6, hxx] at hk e10
    refine mk t10 (fun a i p q => by rw [e10, gi_ne (by omega), e3, gi_si, if_neg q]) (by rw [e10, gi_ne (by omega), e3, gi_si, if_pos ⟨rfl, rfl⟩]) (fun f i q => ?_)
    rw [tbV_3 (by omega) (by omega) (by omega), e10, gi_si, e3, gi_ne (by omega), wf f i q]
    by_cases z : f = 1 ∧ i = (gi σ 73 x).toNat
    · rw [if_pos z, if_pos ⟨by omega, z.2⟩]
    · rw [if_neg z, if_neg (by omega)]
  · intro hne t3 e3 x6 e6 hk x12 e12 t14 e14 t15 e15
    rw [e6, hxx] at hk e12 e14 e15
    refine mk t15 (fun a i p q => by rw [e15, gi_ne (by omega), e14, gi_ne (by omega), e3, gi_si, if_neg q]) (by rw [e15, gi_ne (by omega), e14, gi_ne (by omega), e3, gi_si, if_pos ⟨rfl, rfl⟩]) (fun f i q => ?_)
    rw [tbV_0 hk, e15, gi_si, e14, gi_si, e3, gi_ne (by omega), wf f i q, e12]
    by_cases z : f = 5 ∧ i = (gi σ 74 x).toNat
    · rw [if_pos z, if_pos ⟨by omega, z.2⟩]; rfl
    · rw [if_neg z, if_neg (by omega)]
      by_cases z2 : f = 5 ∧ i = (gi σ 73 x).toNat
      · rw [if_pos z2, if_pos ⟨by omega, z2.2⟩]; rfl
      · rw [if_neg z2, if_neg (by omega)]
  · intro hne t3 e3 x6 e6 hk x16 e16 hz x18 e18 t19 e19
    rw [e6, hxx] at hk e16 e18
    rw [e3, gi_ne (by omega)] at e16
    refine mk t19 (fun a i p q => by rw [e19, gi_ne (by omega), e3, gi_si, if_neg q]) (by rw [e19, gi_ne (by omega), e3, gi_si, if_pos ⟨rfl, rfl⟩]) (fun f i q => ?_)
    have e01 : wv σ 40 0 1 = gi σ 40 1 := rfl
    rw [tbV_1 hk, e19, gi_si, e3, gi_ne (by omega), wf f i q, e01]
    have hbit : bi (gi σ 40 1) (gi σ 73 x).toNat = true := by
      rw [e16] at hz
      exact b2i_nz hz
    by_cases z : f = 0 ∧ i = 1
    · rw [if_pos z, if_pos ⟨by omega, z.2⟩, if_pos hbit, e18]
    · rw [if_neg z, if_neg (by omega)]
  · intro hne t3 e3 x6 e6 hk x16 e16 hz x18 e18 t19 e19
    rw [e6, hxx] at hk e16 e18
    rw [e3, gi_ne (by omega)] at e16
    refine mk t19 (fun a i p q => by rw [e19, gi_ne (by omega), e3, gi_si, if_neg q]) (by rw [e19, gi_ne (by omega), e3, gi_si, if_pos ⟨rfl, rfl⟩]) (fun f i q => ?_)
    have e01 : wv σ 40 0 1 = gi σ 40 1 := rfl
    rw [tbV_1 hk, e19, gi_si, e3, gi_ne (by omega), wf f i q, e01]
    have hbit : bi (gi σ 40 1) (gi σ 73 x).toNat = false := by
      rw [e16] at hz
      exact b2i_z hz
    by_cases z : f = 0 ∧ i = 1
    · rw [if_pos z, if_pos ⟨by omega, z.2⟩, if_neg (by rw [hbit]; decide), e18]
    · rw [if_neg z, if_neg (by omega)]
  · intro hne t3 e3 x6 e6 hk s23 rf
    rw [e6, hxx] at hk rf
    have ho : ∀ a i, ¬ (a = 71 ∧ i = 4) → gi t3 a i = gi σ a i := fun a i q => by rw [e3, gi_si, if_neg q]
    refine mk s23 (fun a i p q => by rw [rf.1 a i (by omega) (by omega)]; exact ho a i q) (by rw [rf.1 71 4 (by omega) (by omega), e3, gi_si, if_pos ⟨rfl, rfl⟩]) (fun f i q => ?_)
    rw [tbV_2 hk]
    by_cases f4 : f = 4
    · subst f4
      rw [if_neg (by omega)]
      have := rf.2.2.2 i
      rw [lies_c (V' := wv σ 40) (fun p _ => by simp only [wv]; rw [if_pos (by omega), if_pos (by omega), ho _ _ (by omega)]), ho _ _ (by omega)] at this
      rw [show 40 + 4 = 44 from rfl, this]
      by_cases z : lies (wv σ 40) (gi σ 73 x).toNat (gi σ 74 x) i = true
      · rw [if_pos z, if_pos ⟨rfl, z⟩]
      · rw [if_neg z, if_neg (fun w => z w.2)]; rfl
    · by_cases f6 : f = 6 ∧ i = (gi σ 73 x).toNat
      · rw [if_pos f6, f6.1, f6.2]; exact rf.2.2.1
      · rw [if_neg f6, if_neg (fun w => f4 w.1), rf.1 _ _ (by omega) (by omega), ho _ _ (by omega), wf f i q]
  · intro hz; omega
theorem v_un {n : Nat}   {σ : Mm} {P : Int → Mm → Prop} (o1 : (gi σ 71 4) ≠ (0 : Int) → BkOK (vw σ 5)) (o2 : (gi σ 71 4) ≠ (0 : Int) → (0 ≤ gi σ 71 3 ∧ gi σ 71 3 < 20)) (o3 : (gi σ 71 4) ≠ (0 : Int) → (1 ≤ gi σ 71 4 ∧ gi σ 71 4 ≤ 20)) (o4 : (gi σ 71 4) ≠ (0 : Int) → DV (vw σ 5) (wv σ 40) (gi σ 72 (xD σ)) (gi σ 73 (xD σ)) (gi σ 74 (xD σ))) (l1 : (gi σ 71 4) ≠ (0 : Int) → ∀ s3 : Mm, Tb σ s3 → P (gi s3 71 4) s3) (l2 : (gi σ 71 4) = (0 : Int) → P (-1) σ) : Ci 150 [vr 3] (shF n) σ P :=
  show R 150 0 [some (vr 3)] [] (shF n) 0 0 σ (Qi (shF n) P) from wpK_R 13 [] (And.intro (fun q1 => (c_tb  (o1 q1) (o2 q1) (o3 q1) (o4 q1) (fun s3 h4 => And.intro ret0 ⟨rfl, _, rfl, (l1 q1 s3 h4)⟩))) (fun q1 => And.intro ret0 ⟨rfl, _, rfl, (l2 (Classical.not_not.mp q1))⟩))
theorem v_unR {n : Nat}   {σ : Mm} {P : Int → Mm → Prop} (o1 : ∀ t1 : Mm, t1 = si σ 85 2 (0 : Int) → (gi σ 85 82) ≠ (0 : Int) → rg ((gi σ 85 82) - 1)) (o2 : ∀ t1 : Mm, t1 = si σ 85 2 (0 : Int) → (gi σ 85 82) ≠ (0 : Int) → ∀ t4 : Mm, t4 = si t1 85 82 ((gi σ 85 82) - 1) → rg ((76 : Int) * ((gi σ 85 82) - 1))) (o3 : ∀ t1 : Mm, t1 = si σ 85 2 (0 : Int) → (gi σ 85 82) ≠ (0 : Int) → ∀ t4 : Mm, t4 = si t1 85 82 ((gi σ 85 82) - 1) → 0 ≤ ((76 : Int) * ((gi σ 85 82) - 1))) (o4 : ∀ t1 : Mm, t1 = si σ 85 2 (0 : Int) → (gi σ 85 82) ≠ (0 : Int) → ∀ t4 : Mm, t4 = si t1 85 82 ((gi σ 85 82) - 1) → ((76 : Int) * ((gi σ 85 82) - 1)).toNat + 76 ≤ (if 129 = 129 then 1520 else 76)) (l1 : ∀ t1 : Mm, t1 = si σ 85 2 (0 : Int) → (gi σ 85 82) ≠ (0 : Int) → ∀ t4 : Mm, t4 = si t1 85 82 ((gi σ 85 82) - 1) → ∀ s7 : Mm, Tk t4 s7 129 ((76 : Int) * ((gi σ 85 82) - 1)).toNat → P (gi s7 85 82) s7) (l2 : ∀ t1 : Mm, t1 = si σ 85 2 (0 : Int) → (gi σ 85 82) = (0 : Int) → P (-1) t1) : Ci 271 [vr 85] (shF n) σ P :=
  show R 271 0 [some (vr 85)] [] (shF n) 0 0 σ (Qi (shF n) P) from wpK_R 23 [] (And.intro (fun q2 => (have k3 := (o1 _ rfl q2); And.intro k3 ((have k5 := (o2 _ rfl q2 _ rfl); And.intro k5 ((ci_take_129 (q := ((76 : Int) * ((gi σ 85 82) - 1))) (o3 _ rfl q2 _ rfl) (o4 _ rfl q2 _ rfl) (fun s7 h8 => And.intro ret0 ⟨rfl, _, rfl, (l1 _ rfl q2 _ rfl s7 h8)⟩))))))) (fun q2 => And.intro ret0 ⟨rfl, _, rfl, (l2 _ rfl (Classical.not_not.mp q2))⟩))
theorem q_undo {xs : Nat → Int} {N n : Nat} {σ : Mm} (h : Rel xs N σ) : Bi xs N n 150 [vr 3] 271 [vr 85] σ := by
  have hb := h.2.2.2.2.1
  have r7 := h.2.2.2.2.2.2.1
  have r8 := h.2.2.2.2.2.2.2.1
  have r9 := h.2.2.2.2.2.2.2.2.1
  obtain ⟨st, mn, e3, e4, e82, hst, hmn, hall⟩ := h.2.2.2.2.2.2.2.2.2.2.1
  have hno : gi σ 71 4 = 0 → Ci 271 [vr 85] (shF n) σ (fun v' s' => v' = -1 ∧ Rel xs N s') := fun q => by
    refine v_unR (by intros; exfalso; omega) (by intros; exfalso; omega) (by intros; exfalso; omega) (by intros; exfalso; omega) ?_ ?_
    · intros; exfalso; omega
    · intro t1 ht _; rw [ht]; exact ⟨rfl, Rel_th h⟩
  have hxd : 1 ≤ mn → xD σ = dIx st mn 0 := fun q => by unfold xD dIx; rw [e3, e4]; omega
  refine v_un (by intros; first | exact hb | omega | (rw [hxd (by omega)]; exact (hall 0 (by omega)).1)) (by intros; first | exact hb | omega | (rw [hxd (by omega)]; exact (hall 0 (by omega)).1)) (by intros; first | exact hb | omega | (rw [hxd (by omega)]; exact (hall 0 (by omega)).1)) (by intros; first | exact hb | omega | (rw [hxd (by omega)]; exact (hall 0 (by omega)).1)) ?_ ?_
  · intro hne s2 tb
    have h1 : 1 ≤ mn := by omega
    obtain ⟨a1, a2, a3⟩ := hall 0 (by omega)
    obtain ⟨t1', t2', t3'⟩ := tb
    have hV1 : wv s2 40 = unV σ (wv σ 40) st mn 1 := by rw [t3', hxd h1]; rfl
    have g82 : gi s2 85 82 = (mn : Int) := by rw [t1' _ _ (by omega) (by omega)]; exact e82
    rw [t2', e4]
    refine v_unR (by intros; subst_vars; first | omega | (unfold rg; omega) | (rw [g82]; unfold rg; omega) | (rw [g82, if_pos rfl]; omega)) (by intros; subst_vars; first | omega | (unfold rg; omega) | (rw [g82]; unfold rg; omega) | (rw [g82, if_pos rfl]; omega)) (by intros; subst_vars; first | omega | (unfold rg; omega) | (rw [g82]; unfold rg; omega) | (rw [g82, if_pos rfl]; omega)) (by intros; subst_vars; first | omega | (unfold rg; omega) | (rw [g82]; unfold rg; omega) | (rw [g82, if_pos rfl]; omega)) ?_ ?_
    · intro t1 ht hne' t4 e4' s7 tk
      have hq : (76 * (gi s2 85 82 - 1)).toNat = 76 * (mn - 1) := by rw [g82]; omega
      rw [hq] at tk
      obtain ⟨k1, k2, k3, k4, k5, k6⟩ := tk
      have hlow : ∀ a i, ¬ tkC a i → ¬ (a = 85 ∧ (i = 2 ∨ i = 82)) → gi s7 a i = gi s2 a i := fun a i p q => by rw [k1 a i p, e4', gi_si, if_neg (by omega), ht, gi_si, if_neg (by omega)]
      have hlowσ : ∀ a i, ¬ tkC a i → ¬ (a = 85 ∧ (i = 2 ∨ i = 82)) → ¬ (40 ≤ a ∧ a ≤ 48) → ¬ (a = 71 ∧ i = 4) → gi s7 a i = gi σ a i := fun a i p q w z => by rw [hlow a i p q]; exact t1' a i w z
      have h129 : ∀ i, gi t4 129 i = gi σ 129 i := fun i => by rw [e4', gi_ne (by omega), ht, gi_ne (by omega)]; exact t1' _ _ (by omega) (by omega)
      have h82 : gi s7 85 82 = (mn : Int) - 1 := by rw [k1 85 82 (by unfold tkC; omega), e4', gi_si, if_pos ⟨rfl, rfl⟩, g82]
      have hw7 : wv s7 40 = unV σ (wv σ 40) st mn 1 := by rw [← hV1]; exact wv_eq fun f b hf => hlow _ _ (by unfold tkC; omega) (by omega)
      obtain ⟨V1, hV1'⟩ : ∃ V1, V1 = unV σ (wv σ 40) st mn 1 := ⟨_, rfl⟩
      rw [← hV1'] at a2 a3 hw7
      have hkeep : ∀ f i, ((f = 0 ∧ i = 0) ∨ f = 2 ∨ f = 3 ∨ f = 7 ∨ f = 8 ∨ 9 ≤ f) → V1 f i = wv σ 40 f i := fun f i p => by
        rw [hV1']
        show tbV (wv σ 40) _ _ _ f i = _
        rw [tb_keep p]
      have h4 : ∀ i, i < 10 → (decide (V1 4 i = 2) = decide (wv σ 40 4 i = 2)) := fun i hi => by
        rw [hV1']
        show decide (tbV (wv σ 40) _ _ _ 4 i = 2) = _
        have a1' : DV (vw σ 5) (wv σ 40) (gi σ 72 (dIx st mn 0)) (gi σ 73 (dIx st mn 0)) (gi σ 74 (dIx st mn 0)) := a1
        rcases a1' with ⟨q1, q2, q3⟩ | ⟨q1, q2⟩ | ⟨q1, q2, q3, q4, q5⟩ | ⟨q1, q2, q3⟩
        · rw [tbV_0 q1, if_neg (by omega), if_neg (by omega)]
        · rw [tbV_1 q1, if_neg (by omega)]
        · rw [tbV_2 q1, if_neg (by omega)]
          by_cases z : lies (wv σ 40) (gi σ 73 (dIx st mn 0)).toNat (gi σ 74 (dIx st mn 0)) i = true
          · rw [if_pos ⟨rfl, z⟩, q5 i hi z]; rfl
          · rw [if_neg (fun w => z w.2)]
        · rw [tbV_3 (kd := gi σ 72 (dIx st mn 0)) (by omega) (by omega) (by omega), if_neg (by omega)]
      obtain ⟨s1, s2', s3, s4⟩ := a3
      simp only [Nat.sub_zero] at s1 s2' s3 s4
      refine ⟨by rw [h82], Rel_W h (fun a i p q1 q2 => ?_) (fun a i p q1 q2 q3 => ?_) (by rw [hw7]; exact a2) ?_ ?_ ?_ ?_ (fun k hk hk2 => ?_)⟩
      · exact hlowσ a i (by unfold kpX at p; unfold tkC; omega) (by unfold kpX at p; omega) q1 (by omega)
      · have ha := kpM_85 p
        have hn := kpM_sc p
        exact hlowσ a i (fun z => q1 (by unfold tkC at z; unfold hf; omega)) (by omega) (by omega) (by omega)
      · rw [hw7]
        intro c hc hd
        rw [hkeep 0 0 (by omega)] at hd
        rw [hkeep 3 c (by omega)]
        exact r8 c hc hd
      · rw [hw7]
        obtain ⟨w1, w2, w3, w4, w5', w6, w7⟩ := r9
        simp only [Nat.mul_zero, Nat.zero_add] at w2 w3 w4 w5'
        refine ⟨?_, fun c hc => ?_, fun c hc => ⟨?_, ?_, ?_⟩, fun j hj => ⟨?_, ?_, ?_, ?_⟩, fun i hi => ?_, ?_, ?_⟩
        · rw [hlowσ 120 0 (by unfold tkC; omega) (by omega) (by omega) (by omega), hkeep 0 0 (by omega)]; exact w1
        · have hC := hb.2.1
          rw [Nat.mul_zero, Nat.zero_add, (k5 c (by omega)).1, h129]; exact (s3 c (by omega)).1 hc
        · rw [Nat.mul_zero, Nat.zero_add, hlowσ _ _ (by unfold tkC; omega) (by omega) (by omega) (by omega), hkeep 2 c (by omega)]; exact (w3 c hc).1
        · rw [Nat.mul_zero, Nat.zero_add, hlowσ _ _ (by unfold tkC; omega) (by omega) (by omega) (by omega), hkeep 3 c (by omega)]; exact (w3 c hc).2.1
        · rw [Nat.mul_zero, Nat.zero_add, (k5 c hc).2, h129]; exact (s3 c hc).2
        · rw [Nat.mul_zero, Nat.zero_add, (k3 j hj).1, h129]; exact (s1 j hj).1
        · rw [Nat.mul_zero, Nat.zero_add, (k3 j hj).2.1, h129, (s1 j hj).2.1]
          cases bi (V1 0 1) j <;> rfl
        · rw [Nat.mul_zero, Nat.zero_add, (k3 j hj).2.2, h129]; exact (s1 j hj).2.2
        · rw [Nat.mul_zero, Nat.zero_add, hlowσ _ _ (by unfold tkC; omega) (by omega) (by omega) (by omega), hkeep 8 j (by omega)]; exact (w4 j hj).2.2.2
        · rw [Nat.mul_zero, Nat.zero_add, k4 i hi, h129]; exact s2' i hi
        · rw [hlowσ 121 0 (by unfold tkC; omega) (by omega) (by omega) (by omega), w6]; exact cnt_congr fun q hq => (h4 q hq).symm
        · rw [k6, h129]; exact s4
      · have : gi s7 40 0 = V1 0 0 := by rw [← hw7]; rfl
        rw [this, hkeep 0 0 (by omega)]; exact (Rel_w0 h).2.1.2
      · rw [hw7]
        have f71 : ∀ a i, (72 ≤ a ∧ a ≤ 74) → gi s7 a i = gi σ a i := fun a i q => hlowσ a i (by unfold tkC; omega) (by omega) (by omega) (by omega)
        have hun : ∀ t, unV s7 V1 st (mn - 1) t = unV σ (wv σ 40) st mn (t + 1) := by
          intro t
          induction t with
          | zero => exact hV1'
          | succ t ih =>
            have hd : dIx st (mn - 1) t = dIx st mn (t + 1) := by unfold dIx; omega
            show tbV (unV s7 V1 st (mn - 1) t) _ _ _ = tbV (unV σ (wv σ 40) st mn (t + 1)) _ _ _
            rw [ih, hd, f71 _ _ (by omega), f71 _ _ (by omega), f71 _ _ (by omega)]
        refine ⟨st, mn - 1, ?_, ?_, by omega, hst, by omega, fun t ht => ?_⟩
        · rw [hlowσ 71 3 (by unfold tkC; omega) (by omega) (by omega) (by omega)]; exact e3
        · rw [hlow 71 4 (by unfold tkC; omega) (by omega), t2', e4]; omega
        · obtain ⟨b1, b2, b3⟩ := hall (t + 1) (by omega)
          have hd : dIx st (mn - 1) t = dIx st mn (t + 1) := by unfold dIx; omega
          rw [hun t, hun (t + 1), hd, f71 _ _ (by omega), f71 _ _ (by omega), f71 _ _ (by omega)]
          refine ⟨b1, b2, ?_⟩
          rw [show mn - 1 - 1 - t = mn - 1 - (t + 1) by omega]
          exact Snap_eq (fun i => hlowσ 129 i (by unfold tkC; omega) (by omega) (by omega) (by omega)) b3
      · have : gi s7 48 k = V1 8 k := by rw [← hw7]; rfl
        rw [this, hkeep 8 k (by omega)]
        exact (h.2.2.2.2.2.2.2.2.2.2.2.2.2.2.2.2.2.2 k hk hk2).1
    · intros; exfalso; omega
  · intro hz
    exact hno hz
