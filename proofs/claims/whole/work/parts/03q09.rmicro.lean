/-! TEXT: the reference's small readings; the two in step -/
theorem sgM_in {x h k v d : Int} (s : sgM x h k v d) : (d = 1 ∨ d = 2) ∧ (d = 2 → h = 61 ∨ h = 62) := by
  unfold sgM at s; omega
theorem TkD_in {b : Nat → Int} {L q : Nat} {nx k v : Int} (hq : q ≤ L) (h : TkD b L q nx k v) : (q : Int) ≤ nx ∧ nx ≤ (L : Int) := by
  rcases h with h | ⟨a, b1, c, d⟩ | ⟨a, b1, c, d, e⟩ | ⟨a, b1, c, d⟩
  · omega
  · have z := lr_in (f := fun i => isL (b i)) (n := L) (p := q) (by omega)
    omega
  · have z := lr_in (f := fun i => isD (b i)) (n := L) (p := q) (by omega)
    omega
  · have z := sgM_in d
    have : nx - (q : Int) = 2 → q + 1 < L := fun y => by
      refine Classical.byContradiction fun u => ?_
      rw [if_neg u] at z
      omega
    omega
theorem Mx_tk {ρ ρ' : Mm} (h : Mx ρ) (t : TkM ρ ρ') : Mx ρ' := by
  obtain ⟨h0, hcd⟩ := h
  obtain ⟨t1, t2, t3⟩ := t
  have e6 := t1 85 6 (by omega)
  obtain ⟨z1, z2, -, -⟩ := lr_in (f := fun i => isB (gi ρ 86 i)) (n := (gi ρ 85 6).toNat) (p := (gi ρ 85 7).toNat) (by omega)
  have zz : mB ρ (gi ρ 85 7).toNat = lr (fun i => isB (gi ρ 86 i)) (gi ρ 85 6).toNat (gi ρ 85 7).toNat := rfl
  rw [← zz] at z1 z2
  have y := TkD_in (by omega) t3
  exact ⟨by omega, fun i hi => by rw [t1 87 i (by omega)]; exact hcd i hi⟩
theorem Mx_eq {ρ ρ' : Mm} (h : Mx ρ) (e6 : gi ρ' 85 6 = gi ρ 85 6) (e7 : gi ρ' 85 7 = gi ρ 85 7) (e87 : ∀ i, gi ρ' 87 i = gi ρ 87 i) : Mx ρ' := by
  unfold Mx
  rw [e6, e7]
  exact ⟨h.1, fun i hi => by rw [e87]; exact h.2 i hi⟩
theorem Mx_si {ρ : Mm} {a i : Nat} {v : Int} (h : Mx ρ) (ha : a ≠ 87 ∧ ¬ (a = 85 ∧ (i = 6 ∨ i = 7))) : Mx (si ρ a i v) := Mx_eq h (by rw [gi_si, if_neg (by omega)]) (by rw [gi_si, if_neg (by omega)]) (fun j => by rw [gi_si, if_neg (by omega)])
def wrM (ρ : Mm) (w : Int) : Mm := si (si ρ 85 4 w) 85 5 (gi ρ 85 10)
theorem Mx_wr {ρ : Mm} {w : Int} (h : Mx ρ) : Mx (wrM ρ w) := Mx_si (Mx_si h (by omega)) (by omega)
def NuR (hi : Int) (ρ : Mm) (v : Int) (ρ' : Mm) : Prop := Mx ρ' ∧ ((v = 0 ∧ gi ρ 85 8 ≠ 3 ∧ ρ' = wrM ρ 1) ∨ (v = 0 ∧ gi ρ 85 8 = 3 ∧ (gi ρ 85 9 < 0 ∨ hi < gi ρ 85 9) ∧ ρ' = wrM ρ 2) ∨ (v = 1 ∧ gi ρ 85 8 = 3 ∧ 0 ≤ gi ρ 85 9 ∧ gi ρ 85 9 ≤ hi ∧ TkM (si ρ 85 11 (gi ρ 85 9)) ρ'))
theorem v_num {n : Nat}  (lo : Int) (hi : Int) {σ : Mm} {P : Int → Mm → Prop} (o1 : (gi σ 85 8) = (3 : Int) → lo ≤ (gi σ 85 9) → (gi σ 85 9) ≤ hi → ∀ t8 : Mm, t8 = si σ 85 11 (gi σ 85 9) → Mx t8) (l1 : (gi σ 85 8) = (3 : Int) → (gi σ 85 9) < lo → ∀ t3 : Mm, t3 = si σ 85 4 (2 : Int) → ∀ t4 : Mm, t4 = si t3 85 5 (gi σ 85 10) → P 0 t4) (l2 : (gi σ 85 8) = (3 : Int) → lo ≤ (gi σ 85 9) → hi < (gi σ 85 9) → ∀ t6 : Mm, t6 = si σ 85 4 (2 : Int) → ∀ t7 : Mm, t7 = si t6 85 5 (gi σ 85 10) → P 0 t7) (l3 : (gi σ 85 8) = (3 : Int) → lo ≤ (gi σ 85 9) → (gi σ 85 9) ≤ hi → ∀ t8 : Mm, t8 = si σ 85 11 (gi σ 85 9) → ∀ s10 : Mm, TkM t8 s10 → P 1 s10) (l4 : (gi σ 85 8) ≠ (3 : Int) → ∀ t12 : Mm, t12 = si σ 85 4 (1 : Int) → ∀ t13 : Mm, t13 = si t12 85 5 (gi σ 85 10) → P 0 t13) : Ci 168 [vr 85, vi lo, vi hi] (shF n) σ P :=
  show R 168 0 [some (vr 85), some (vi lo), some (vi hi)] [] (shF n) 0 0 σ (Qi (shF n) P) from wpK_R 18 [] (And.intro (fun q1 => (show R 157 0 [_, _, _] [] (shF n) 0 0 _ _ from wpK_R 9 [] (And.intro (fun q2 => And.intro ret0 (And.intro (Or.inl rfl) ⟨rfl, _, rfl, And.intro (fun q => absurd q (show ¬ ((0 : Int) ≠ 0) by decide)) (fun _ => (show R 159 0 [some (vr 85), some (vi 2)] [] (shF n) 0 0 _ _ from wpK_R 9 [] (And.intro ret0 (And.intro (Or.inl rfl) ⟨rfl, _, rfl, And.intro ret0 (And.intro (Or.inl rfl) ⟨rfl, _, rfl, (l1 q1 q2 _ rfl _ rfl)⟩)⟩))))⟩)) (fun q2 => And.intro (fun q5 => And.intro ret0 (And.intro (Or.inl rfl) ⟨rfl, _, rfl, And.intro (fun q => absurd q (show ¬ ((0 : Int) ≠ 0) by decide)) (fun _ => (show R 159 0 [some (vr 85), some (vi 2)] [] (shF n) 0 0 _ _ from wpK_R 9 [] (And.intro ret0 (And.intro (Or.inl rfl) ⟨rfl, _, rfl, And.intro ret0 (And.intro (Or.inl rfl) ⟨rfl, _, rfl, (l2 q1 (Int.not_lt.mp q2) q5 _ rfl _ rfl)⟩)⟩))))⟩)) (fun q5 => And.intro ret0 (And.intro (Or.inr rfl) ⟨rfl, _, rfl, And.intro (fun _ => (c_tkm  (o1 q1 (Int.not_lt.mp q2) (Int.not_lt.mp q5) _ rfl) (fun s10 h11 => And.intro ret0 (And.intro (Or.inr rfl) ⟨rfl, _, rfl, (l3 q1 (Int.not_lt.mp q2) (Int.not_lt.mp q5) _ rfl s10 h11)⟩)))) (fun q => absurd (show (1 : Int) ≠ 0 by decide) q)⟩)))))) (fun q1 => (show R 159 0 [some (vr 85), some (vi 1)] [] (shF n) 0 0 _ _ from wpK_R 9 [] (And.intro ret0 (And.intro (Or.inl rfl) ⟨rfl, _, rfl, And.intro ret0 (And.intro (Or.inl rfl) ⟨rfl, _, rfl, (l4 q1 _ rfl _ rfl)⟩)⟩)))))
theorem c_num {n : Nat} {hi : Int} {σ : Mm} {P : Int → Mm → Prop} (hm : Mx σ) (hP : ∀ v s, NuR hi σ v s → P v s) : Ci 168 [vr 85, vi 0, vi hi] (shF n) σ P := by
  refine v_num 0 hi (by intros; subst_vars; exact Mx_si hm (by omega)) ?_ ?_ ?_ ?_
  · intro a b t e t' e'; subst e e'; exact hP _ _ ⟨Mx_wr hm, Or.inr (Or.inl ⟨rfl, a, Or.inl b, rfl⟩)⟩
  · intro a b c t e t' e'; subst e e'; exact hP _ _ ⟨Mx_wr hm, Or.inr (Or.inl ⟨rfl, a, Or.inr c, rfl⟩)⟩
  · intro a b c t e s h; subst e; exact hP _ _ ⟨Mx_tk (Mx_si hm (by omega)) h, Or.inr (Or.inr ⟨rfl, a, b, c, h⟩)⟩
  · intro a t e t' e'; subst e e'; exact hP _ _ ⟨Mx_wr hm, Or.inl ⟨rfl, a, rfl⟩⟩
def NwR (a fr m : Nat) (ρ : Mm) (v : Int) (ρ' : Mm) : Prop := Mx ρ' ∧ ((v = 0 ∧ gi ρ 85 8 ≠ 2 ∧ ρ' = wrM ρ 1) ∨ (v = 0 ∧ gi ρ 85 8 = 2 ∧ 0 ≤ plF (fun k => gi ρ a (fr + k)) (gi ρ 85 9) m ∧ ρ' = wrM ρ 3) ∨ (v = 1 ∧ gi ρ 85 8 = 2 ∧ plF (fun k => gi ρ a (fr + k)) (gi ρ 85 9) m < 0 ∧ TkM (si ρ a (fr + m) (gi ρ 85 9)) ρ'))
theorem v_nwn_90 {n : Nat}  (fr : Int) (m : Int) {σ : Mm} {P : Int → Mm → Prop} (o1 : (gi σ 85 8) = (2 : Int) → (0 ≤ m ∧ 0 ≤ fr ∧ fr + m ≤ 10)) (o2 : (gi σ 85 8) = (2 : Int) → ∀ x2 : Int, x2 = plF (fun k => gi σ 90 (fr.toNat + k)) (gi σ 85 9) (m).toNat → x2 < (0 : Int) → rg (fr + m)) (o3 : (gi σ 85 8) = (2 : Int) → ∀ x2 : Int, x2 = plF (fun k => gi σ 90 (fr.toNat + k)) (gi σ 85 9) (m).toNat → x2 < (0 : Int) → (0 ≤ (fr + m) ∧ (fr + m) < 10)) (o4 : (gi σ 85 8) = (2 : Int) → ∀ x2 : Int, x2 = plF (fun k => gi σ 90 (fr.toNat + k)) (gi σ 85 9) (m).toNat → x2 < (0 : Int) → ∀ t6 : Mm, t6 = si σ 90 (fr + m).toNat (gi σ 85 9) → Mx t6) (l1 : (gi σ 85 8) = (2 : Int) → ∀ x2 : Int, x2 = plF (fun k => gi σ 90 (fr.toNat + k)) (gi σ 85 9) (m).toNat → x2 < (0 : Int) → ∀ t6 : Mm, t6 = si σ 90 (fr + m).toNat (gi σ 85 9) → ∀ s8 : Mm, TkM t6 s8 → P 1 s8) (l2 : (gi σ 85 8) = (2 : Int) → ∀ x2 : Int, x2 = plF (fun k => gi σ 90 (fr.toNat + k)) (gi σ 85 9) (m).toNat → (0 : Int) ≤ x2 → ∀ t10 : Mm, t10 = si σ 85 4 (3 : Int) → ∀ t11 : Mm, t11 = si t10 85 5 (gi σ 85 10) → P 0 t11) (l3 : (gi σ 85 8) ≠ (2 : Int) → ∀ t12 : Mm, t12 = si σ 85 4 (1 : Int) → ∀ t13 : Mm, t13 = si t12 85 5 (gi σ 85 10) → P 0 t13) : Ci 173 [vr 85, vr 90, vi fr, vi m] (shF n) σ P :=
  show R 173 0 [some (vr 85), some (vr 90), some (vi fr), some (vi m)] [] (shF n) 0 0 σ (Qi (shF n) P) from wpK_R 22 [] (And.intro (fun q1 => (c_sk_90  (o1 q1) (And.intro (fun q3 => (have k4 := (o2 q1 _ rfl q3); And.intro k4 ((have k5 := (o3 q1 _ rfl q3); And.intro k5 ((c_tkm  (o4 q1 _ rfl q3 _ rfl) (fun s8 h9 => And.intro ret0 (And.intro (Or.inr rfl) ⟨rfl, _, rfl, (l1 q1 _ rfl q3 _ rfl s8 h9)⟩)))))))) (fun q3 => (show R 159 0 [some (vr 85), some (vi 3)] [] (shF n) 0 0 _ _ from wpK_R 9 [] (And.intro ret0 (And.intro (Or.inl rfl) ⟨rfl, _, rfl, And.intro ret0 (And.intro (Or.inl rfl) ⟨rfl, _, rfl, (l2 q1 _ rfl (Int.not_lt.mp q3) _ rfl _ rfl)⟩)⟩))))))) (fun q1 => (show R 159 0 [some (vr 85), some (vi 1)] [] (shF n) 0 0 _ _ from wpK_R 9 [] (And.intro ret0 (And.intro (Or.inl rfl) ⟨rfl, _, rfl, And.intro ret0 (And.intro (Or.inl rfl) ⟨rfl, _, rfl, (l3 q1 _ rfl _ rfl)⟩)⟩)))))
theorem c_nwn_90 {n : Nat} {m : Int} {σ : Mm} {P : Int → Mm → Prop} (hx : Mx σ) (hm : 0 ≤ m ∧ m < 5) (hP : ∀ v s, NwR 90 5 m.toNat σ v s → P v s) : Ci 173 [vr 85, vr 90, vi 5, vi m] (shF n) σ P := by
  obtain ⟨m, rfl⟩ := Int.eq_ofNat_of_zero_le hm.1
  rw [Int.toNat_natCast] at hP
  refine v_nwn_90 5 (m : Int) (by intros; first | omega | (unfold rg; omega) | (subst_vars; exact Mx_si hx (by omega))) (by intros; first | omega | (unfold rg; omega) | (subst_vars; exact Mx_si hx (by omega))) (by intros; first | omega | (unfold rg; omega) | (subst_vars; exact Mx_si hx (by omega))) (by intros; first | omega | (unfold rg; omega) | (subst_vars; exact Mx_si hx (by omega))) ?_ ?_ ?_
  · intro a y ey b t e s h; subst ey; subst e
    rw [show (((5 : Int)) + (m : Int)).toNat = 5 + m by omega] at h
    exact hP _ _ ⟨Mx_tk (Mx_si hx (by omega)) h, Or.inr (Or.inr ⟨rfl, a, b, h⟩)⟩
  · intro a y ey b t e t' e'; subst ey; subst e e'; exact hP _ _ ⟨Mx_wr hx, Or.inr (Or.inl ⟨rfl, a, b, rfl⟩)⟩
  · intro a t e t' e'; subst e e'; exact hP _ _ ⟨Mx_wr hx, Or.inl ⟨rfl, a, rfl⟩⟩
theorem v_nwn_93 {n : Nat}  (fr : Int) (m : Int) {σ : Mm} {P : Int → Mm → Prop} (o1 : (gi σ 85 8) = (2 : Int) → (0 ≤ m ∧ 0 ≤ fr ∧ fr + m ≤ 20)) (o2 : (gi σ 85 8) = (2 : Int) → ∀ x2 : Int, x2 = plF (fun k => gi σ 93 (fr.toNat + k)) (gi σ 85 9) (m).toNat → x2 < (0 : Int) → rg (fr + m)) (o3 : (gi σ 85 8) = (2 : Int) → ∀ x2 : Int, x2 = plF (fun k => gi σ 93 (fr.toNat + k)) (gi σ 85 9) (m).toNat → x2 < (0 : Int) → (0 ≤ (fr + m) ∧ (fr + m) < 20)) (o4 : (gi σ 85 8) = (2 : Int) → ∀ x2 : Int, x2 = plF (fun k => gi σ 93 (fr.toNat + k)) (gi σ 85 9) (m).toNat → x2 < (0 : Int) → ∀ t6 : Mm, t6 = si σ 93 (fr + m).toNat (gi σ 85 9) → Mx t6) (l1 : (gi σ 85 8) = (2 : Int) → ∀ x2 : Int, x2 = plF (fun k => gi σ 93 (fr.toNat + k)) (gi σ 85 9) (m).toNat → x2 < (0 : Int) → ∀ t6 : Mm, t6 = si σ 93 (fr + m).toNat (gi σ 85 9) → ∀ s8 : Mm, TkM t6 s8 → P 1 s8) (l2 : (gi σ 85 8) = (2 : Int) → ∀ x2 : Int, x2 = plF (fun k => gi σ 93 (fr.toNat + k)) (gi σ 85 9) (m).toNat → (0 : Int) ≤ x2 → ∀ t10 : Mm, t10 = si σ 85 4 (3 : Int) → ∀ t11 : Mm, t11 = si t10 85 5 (gi σ 85 10) → P 0 t11) (l3 : (gi σ 85 8) ≠ (2 : Int) → ∀ t12 : Mm, t12 = si σ 85 4 (1 : Int) → ∀ t13 : Mm, t13 = si t12 85 5 (gi σ 85 10) → P 0 t13) : Ci 173 [vr 85, vr 93, vi fr, vi m] (shF n) σ P :=
  show R 173 0 [some (vr 85), some (vr 93), some (vi fr), some (vi m)] [] (shF n) 0 0 σ (Qi (shF n) P) from wpK_R 22 [] (And.intro (fun q1 => (c_sk_93  (o1 q1) (And.intro (fun q3 => (have k4 := (o2 q1 _ rfl q3); And.intro k4 ((have k5 := (o3 q1 _ rfl q3); And.intro k5 ((c_tkm  (o4 q1 _ rfl q3 _ rfl) (fun s8 h9 => And.intro ret0 (And.intro (Or.inr rfl) ⟨rfl, _, rfl, (l1 q1 _ rfl q3 _ rfl s8 h9)⟩)))))))) (fun q3 => (show R 159 0 [some (vr 85), some (vi 3)] [] (shF n) 0 0 _ _ from wpK_R 9 [] (And.intro ret0 (And.intro (Or.inl rfl) ⟨rfl, _, rfl, And.intro ret0 (And.intro (Or.inl rfl) ⟨rfl, _, rfl, (l2 q1 _ rfl (Int.not_lt.mp q3) _ rfl _ rfl)⟩)⟩))))))) (fun q1 => (show R 159 0 [some (vr 85), some (vi 1)] [] (shF n) 0 0 _ _ from wpK_R 9 [] (And.intro ret0 (And.intro (Or.inl rfl) ⟨rfl, _, rfl, And.intro ret0 (And.intro (Or.inl rfl) ⟨rfl, _, rfl, (l3 q1 _ rfl _ rfl)⟩)⟩)))))
theorem c_nwn_93 {n : Nat} {m : Int} {σ : Mm} {P : Int → Mm → Prop} (hx : Mx σ) (hm : 0 ≤ m ∧ m < 10) (hP : ∀ v s, NwR 93 10 m.toNat σ v s → P v s) : Ci 173 [vr 85, vr 93, vi 10, vi m] (shF n) σ P := by
  obtain ⟨m, rfl⟩ := Int.eq_ofNat_of_zero_le hm.1
  rw [Int.toNat_natCast] at hP
  refine v_nwn_93 10 (m : Int) (by intros; first | omega | (unfold rg; omega) | (subst_vars; exact Mx_si hx (by omega))) (by intros; first | omega | (unfold rg; omega) | (subst_vars; exact Mx_si hx (by omega))) (by intros; first | omega | (unfold rg; omega) | (subst_vars; exact Mx_si hx (by omega))) (by intros; first | omega | (unfold rg; omega) | (subst_vars; exact Mx_si hx (by omega))) ?_ ?_ ?_
  · intro a y ey b t e s h; subst ey; subst e
    rw [show (((10 : Int)) + (m : Int)).toNat = 10 + m by omega] at h
    exact hP _ _ ⟨Mx_tk (Mx_si hx (by omega)) h, Or.inr (Or.inr ⟨rfl, a, b, h⟩)⟩
  · intro a y ey b t e t' e'; subst ey; subst e e'; exact hP _ _ ⟨Mx_wr hx, Or.inr (Or.inl ⟨rfl, a, b, rfl⟩)⟩
  · intro a t e t' e'; subst e e'; exact hP _ _ ⟨Mx_wr hx, Or.inl ⟨rfl, a, rfl⟩⟩
theorem v_nwn_97 {n : Nat}  (fr : Int) (m : Int) {σ : Mm} {P : Int → Mm → Prop} (o1 : (gi σ 85 8) = (2 : Int) → (0 ≤ m ∧ 0 ≤ fr ∧ fr + m ≤ 10)) (o2 : (gi σ 85 8) = (2 : Int) → ∀ x2 : Int, x2 = plF (fun k => gi σ 97 (fr.toNat + k)) (gi σ 85 9) (m).toNat → x2 < (0 : Int) → rg (fr + m)) (o3 : (gi σ 85 8) = (2 : Int) → ∀ x2 : Int, x2 = plF (fun k => gi σ 97 (fr.toNat + k)) (gi σ 85 9) (m).toNat → x2 < (0 : Int) → (0 ≤ (fr + m) ∧ (fr + m) < 10)) (o4 : (gi σ 85 8) = (2 : Int) → ∀ x2 : Int, x2 = plF (fun k => gi σ 97 (fr.toNat + k)) (gi σ 85 9) (m).toNat → x2 < (0 : Int) → ∀ t6 : Mm, t6 = si σ 97 (fr + m).toNat (gi σ 85 9) → Mx t6) (l1 : (gi σ 85 8) = (2 : Int) → ∀ x2 : Int, x2 = plF (fun k => gi σ 97 (fr.toNat + k)) (gi σ 85 9) (m).toNat → x2 < (0 : Int) → ∀ t6 : Mm, t6 = si σ 97 (fr + m).toNat (gi σ 85 9) → ∀ s8 : Mm, TkM t6 s8 → P 1 s8) (l2 : (gi σ 85 8) = (2 : Int) → ∀ x2 : Int, x2 = plF (fun k => gi σ 97 (fr.toNat + k)) (gi σ 85 9) (m).toNat → (0 : Int) ≤ x2 → ∀ t10 : Mm, t10 = si σ 85 4 (3 : Int) → ∀ t11 : Mm, t11 = si t10 85 5 (gi σ 85 10) → P 0 t11) (l3 : (gi σ 85 8) ≠ (2 : Int) → ∀ t12 : Mm, t12 = si σ 85 4 (1 : Int) → ∀ t13 : Mm, t13 = si t12 85 5 (gi σ 85 10) → P 0 t13) : Ci 173 [vr 85, vr 97, vi fr, vi m] (shF n) σ P :=
  show R 173 0 [some (vr 85), some (vr 97), some (vi fr), some (vi m)] [] (shF n) 0 0 σ (Qi (shF n) P) from wpK_R 22 [] (And.intro (fun q1 => (c_sk_97  (o1 q1) (And.intro (fun q3 => (have k4 := (o2 q1 _ rfl q3); And.intro k4 ((have k5 := (o3 q1 _ rfl q3); And.intro k5 ((c_tkm  (o4 q1 _ rfl q3 _ rfl) (fun s8 h9 => And.intro ret0 (And.intro (Or.inr rfl) ⟨rfl, _, rfl, (l1 q1 _ rfl q3 _ rfl s8 h9)⟩)))))))) (fun q3 => (show R 159 0 [some (vr 85), some (vi 3)] [] (shF n) 0 0 _ _ from wpK_R 9 [] (And.intro ret0 (And.intro (Or.inl rfl) ⟨rfl, _, rfl, And.intro ret0 (And.intro (Or.inl rfl) ⟨rfl, _, rfl, (l2 q1 _ rfl (Int.not_lt.mp q3) _ rfl _ rfl)⟩)⟩))))))) (fun q1 => (show R 159 0 [some (vr 85), some (vi 1)] [] (shF n) 0 0 _ _ from wpK_R 9 [] (And.intro ret0 (And.intro (Or.inl rfl) ⟨rfl, _, rfl, And.intro ret0 (And.intro (Or.inl rfl) ⟨rfl, _, rfl, (l3 q1 _ rfl _ rfl)⟩)⟩)))))
theorem c_nwn_97 {n : Nat} {m : Int} {σ : Mm} {P : Int → Mm → Prop} (hx : Mx σ) (hm : 0 ≤ m ∧ m < 5) (hP : ∀ v s, NwR 97 5 m.toNat σ v s → P v s) : Ci 173 [vr 85, vr 97, vi 5, vi m] (shF n) σ P := by
  obtain ⟨m, rfl⟩ := Int.eq_ofNat_of_zero_le hm.1
  rw [Int.toNat_natCast] at hP
  refine v_nwn_97 5 (m : Int) (by intros; first | omega | (unfold rg; omega) | (subst_vars; exact Mx_si hx (by omega))) (by intros; first | omega | (unfold rg; omega) | (subst_vars; exact Mx_si hx (by omega))) (by intros; first | omega | (unfold rg; omega) | (subst_vars; exact Mx_si hx (by omega))) (by intros; first | omega | (unfold rg; omega) | (subst_vars; exact Mx_si hx (by omega))) ?_ ?_ ?_
  · intro a y ey b t e s h; subst ey; subst e
    rw [show (((5 : Int)) + (m : Int)).toNat = 5 + m by omega] at h
    exact hP _ _ ⟨Mx_tk (Mx_si hx (by omega)) h, Or.inr (Or.inr ⟨rfl, a, b, h⟩)⟩
  · intro a y ey b t e t' e'; subst ey; subst e e'; exact hP _ _ ⟨Mx_wr hx, Or.inr (Or.inl ⟨rfl, a, b, rfl⟩)⟩
  · intro a t e t' e'; subst e e'; exact hP _ _ ⟨Mx_wr hx, Or.inl ⟨rfl, a, rfl⟩⟩
/-- class and reference stand at the same token, without a fault -/
def TQ (σ ρ : Mm) : Prop := Lx σ ∧ Mx ρ ∧ gi ρ 85 6 = gi σ 37 7 ∧ (∀ i : Nat, i < (gi σ 37 7).toNat → (0 ≤ gi ρ 86 i ∧ gi ρ 86 i < 256) ∧ gi σ 4 i = b8 (gi ρ 86 i)) ∧ gi ρ 85 7 = gi σ 37 8 ∧ gi ρ 85 10 = gi σ 37 9 ∧ TRl (gi σ 37 10) (gi σ 37 11) (gi ρ 85 8) (gi ρ 85 9) ∧ gi σ 37 12 = 0 ∧ gi ρ 85 4 = 0 ∧ gi ρ 85 5 = gi σ 37 13
def FQ (s ρ : Mm) : Prop := gi s 37 12 ≠ 0 ∧ gi ρ 85 4 = gi s 37 12 ∧ gi ρ 85 5 = gi s 37 13
theorem TQ_pre {σ s ρ ρ' : Mm} (h1 : Lx σ) (h2 : Mx ρ) (h3 : gi ρ 85 6 = gi σ 37 7) (h4 : ∀ i : Nat, i < (gi σ 37 7).toNat → (0 ≤ gi ρ 86 i ∧ gi ρ 86 i < 256) ∧ gi σ 4 i = b8 (gi ρ 86 i)) (h5 : gi ρ 85 7 = gi σ 37 8) (h6 : gi σ 37 12 = 0) (h7 : gi ρ 85 4 = 0) (h8 : gi ρ 85 5 = gi σ 37 13) (a : TkR σ s) (b : TkM ρ ρ') : TQ s ρ' := by
  have hs := (Tk_in h1 a).1
  have hm := Mx_tk h2 b
  obtain ⟨a1, a2, a3⟩ := a
  obtain ⟨b1, b2, b3⟩ := b
  have eB : lB σ (gi σ 37 8).toNat = mB ρ (gi ρ 85 7).toNat := by
    unfold lB mB
    rw [h3, h5]
    exact lr_cong _ _ rfl fun i _ hi => by show isB (gi σ 4 i) = isB (gi ρ 86 i); rw [(h4 i hi).2]; exact b8_B (h4 i hi).1
  rw [← eB, h3] at b3
  rw [← eB] at b2
  have r := tok_rel h4 a3 b3
  have c7 := a1 37 7 (by omega)
  have c4 : ∀ i, gi s 4 i = gi σ 4 i := fun i => a1 4 i (by omega)
  have d86 : ∀ i, gi ρ' 86 i = gi ρ 86 i := fun i => b1 86 i (by omega)
  refine ⟨hs, hm, by rw [b1 85 6 (by omega), c7]; exact h3, fun i hi => ?_, r.1.symm, by rw [b2, a2], r.2, by rw [a1 37 12 (by omega)]; exact h6, by rw [b1 85 4 (by omega)]; exact h7, by rw [b1 85 5 (by omega), a1 37 13 (by omega)]; exact h8⟩
  rw [c7] at hi
  rw [d86, c4]; exact h4 i hi
theorem TQ_tok {σ s ρ ρ' : Mm} (h : TQ σ ρ) (a : TkR σ s) (b : TkM ρ ρ') : TQ s ρ' := by
  obtain ⟨h1, h2, h3, h4, h5, h6, h7, h8, h9, h10⟩ := h
  exact TQ_pre h1 h2 h3 h4 h5 h8 h9 h10 a b
/-- places that TQ reads -/
theorem TQ_eq {σ s ρ ρ' : Mm} (h : TQ σ ρ) (c : ∀ a i, a = 4 ∨ a = 38 ∨ (a = 37 ∧ 7 ≤ i) → gi s a i = gi σ a i) (d : ∀ a i, a = 86 ∨ a = 87 ∨ (a = 85 ∧ (4 ≤ i ∧ i ≤ 10)) → gi ρ' a i = gi ρ a i) : TQ s ρ' := by
  obtain ⟨h1, h2, h3, h4, h5, h6, h7, h8, h9, h10⟩ := h
  unfold TQ Lx Mx
  rw [c 37 7 (by omega), c 37 8 (by omega), c 37 9 (by omega), c 37 10 (by omega), c 37 11 (by omega), c 37 12 (by omega), c 37 13 (by omega), d 85 4 (by omega), d 85 5 (by omega), d 85 6 (by omega), d 85 7 (by omega), d 85 8 (by omega), d 85 9 (by omega), d 85 10 (by omega)]
  refine ⟨⟨h1.1, fun i hi => by rw [c 38 i (by omega)]; exact h1.2 i hi⟩, ⟨h2.1, fun i hi => by rw [d 87 i (by omega)]; exact h2.2 i hi⟩, h3, fun i hi => ?_, h5, h6, h7, h8, h9, h10⟩
  rw [d 86 i (by omega), c 4 i (by omega)]; exact h4 i hi
theorem FQ_keep {w : Int} {s s' ρ : Mm} (h : FQ s ρ) (t : TkS w s s') : FQ s' ρ := by
  rcases t with ⟨a, b, c⟩ | ⟨a, c⟩
  · exact absurd b h.1
  · unfold FQ
    rw [c.1 37 12 (by omega), c.1 37 13 (by omega)]
    exact h
theorem FQ_wr {w : Int} {σ s ρ : Mm} (h : TQ σ ρ) (hw : w ≠ 0) (t : TkS w σ s) : FQ s (wrM ρ w) := by
  obtain ⟨h1, h2, h3, h4, h5, h6, h7, h8, h9, h10⟩ := h
  have z := (TkS_in h1 t).2.2.2.2.2.1 h8 hw
  have e4 : gi (wrM ρ w) 85 4 = w := by unfold wrM; rw [g85, if_neg (by omega), g85, if_pos rfl]
  have e5 : gi (wrM ρ w) 85 5 = gi ρ 85 10 := by unfold wrM; rw [g85, if_pos rfl]
  exact ⟨by omega, by omega, by omega⟩
/-- what the reference's small readings change -/
def f85 (ρ ρ' : Mm) : Prop := ∀ a i, ¬ (a = 85 ∧ (i = 4 ∨ i = 5 ∨ (7 ≤ i ∧ i ≤ 11))) → gi ρ' a i = gi ρ a i
theorem f85_wr {ρ : Mm} {w : Int} : f85 ρ (wrM ρ w) := fun a i p => by unfold wrM; rw [gi_si, if_neg (by omega), gi_si, if_neg (by omega)]
theorem sy_tok {w : Int} {σ s ρ ρ' : Mm} (h : TQ σ ρ) (hw : w = 0) (t : TkS w σ s) (b : TkM ρ ρ') : TQ s ρ' := by
  have z := (TkS_in h.1 t).2.2.2.2.2.2 h.2.2.2.2.2.2.2.1 hw
  exact TQ_tok h z.2.2 b
theorem sy_num {hi v : Int} {σ s ρ ρ' : Mm} (h : TQ σ ρ) (hh : hi ≤ 9999) (t : TkS (nuW (gi σ 37 10) (gi σ 37 11) hi) σ s) (b : NuR hi ρ v ρ') : f85 ρ ρ' ∧ ((v = 0 ∧ FQ s ρ') ∨ (v = 1 ∧ TQ s ρ' ∧ gi ρ' 85 11 = gi σ 37 11 ∧ 0 ≤ gi σ 37 11 ∧ gi σ 37 11 ≤ hi)) := by
  have hr := h.2.2.2.2.2.2.1
  unfold TRl at hr
  obtain ⟨-, b | b | b⟩ := b
  · have hw : nuW (gi σ 37 10) (gi σ 37 11) hi = 1 := by unfold nuW; rw [if_pos (by omega)]
    rw [hw] at t
    rw [b.2.2]
    exact ⟨f85_wr, Or.inl ⟨b.1, FQ_wr h (by omega) t⟩⟩
  · have hw : nuW (gi σ 37 10) (gi σ 37 11) hi = 2 := by unfold nuW; rw [if_neg (by omega), if_pos (by omega)]
    rw [hw] at t
    rw [b.2.2.2]
    exact ⟨f85_wr, Or.inl ⟨b.1, FQ_wr h (by omega) t⟩⟩
  · have hw : nuW (gi σ 37 10) (gi σ 37 11) hi = 0 := by unfold nuW; rw [if_neg (by omega), if_neg (by omega)]
    obtain ⟨b1, b2, b3, b4, b5⟩ := b
    have e : ∀ a i, ¬ (a = 85 ∧ i = 11) → gi (si ρ 85 11 (gi ρ 85 9)) a i = gi ρ a i := fun a i p => by rw [gi_si, if_neg p]
    refine ⟨fun a i p => by rw [b5.1 a i (by omega)]; exact e a i (by omega), Or.inr ⟨b1, sy_tok (TQ_eq h (fun _ _ _ => rfl) (fun a i p => e a i (by omega))) hw t b5, ?_, by omega, by omega⟩⟩
    rw [b5.1 85 11 (by omega), g85, if_pos rfl]
    omega
theorem sy_new {a fr m c : Nat} {v : Int} {σ s ρ ρ' : Mm} (h : TQ σ ρ) (ha : 88 ≤ a) (hrow : ∀ j, j < m → gi ρ a (fr + j) = gi σ c j) (t : TkS (nwW (gi σ 37 10) (plF (gi σ c) (gi σ 37 11) m)) σ s) (b : NwR a fr m ρ v ρ') : (∀ x i, ¬ (x = 85 ∧ (i = 4 ∨ i = 5 ∨ (7 ≤ i ∧ i ≤ 11))) → ¬ (x = a ∧ i = fr + m) → gi ρ' x i = gi ρ x i) ∧ ((v = 0 ∧ FQ s ρ') ∨ (v = 1 ∧ TQ s ρ' ∧ gi ρ' a (fr + m) = gi σ 37 11)) := by
  have hr := h.2.2.2.2.2.2.1
  have hp : plF (fun k => gi ρ a (fr + k)) (gi ρ 85 9) m = plF (gi σ c) (gi ρ 85 9) m := plF_cong m fun i hi => hrow i hi
  have hi := plF_in (f := gi σ c) (z := gi σ 37 11) m
  unfold NwR at b
  rw [hp] at b
  unfold TRl at hr
  obtain ⟨-, b | b | b⟩ := b
  · have hw : nwW (gi σ 37 10) (plF (gi σ c) (gi σ 37 11) m) = 1 := by unfold nwW; rw [if_pos (by omega)]
    rw [hw] at t
    rw [b.2.2]
    exact ⟨fun x i p _ => f85_wr x i p, Or.inl ⟨b.1, FQ_wr h (by omega) t⟩⟩
  · have e9 : gi ρ 85 9 = gi σ 37 11 := by omega
    rw [e9] at b
    have hw : nwW (gi σ 37 10) (plF (gi σ c) (gi σ 37 11) m) = 3 := by unfold nwW; rw [if_neg (by omega), if_pos (by omega)]
    rw [hw] at t
    rw [b.2.2.2]
    exact ⟨fun x i p _ => f85_wr x i p, Or.inl ⟨b.1, FQ_wr h (by omega) t⟩⟩
  · have e9 : gi ρ 85 9 = gi σ 37 11 := by omega
    rw [e9] at b
    have hw : nwW (gi σ 37 10) (plF (gi σ c) (gi σ 37 11) m) = 0 := by unfold nwW; rw [if_neg (by omega), if_neg (by omega)]
    obtain ⟨b1, b2, b3, b5⟩ := b
    have e : ∀ x i, ¬ (x = a ∧ i = fr + m) → gi (si ρ a (fr + m) (gi σ 37 11)) x i = gi ρ x i := fun x i p => by rw [gi_si, if_neg p]
    refine ⟨fun x i p q => by rw [b5.1 x i (by omega)]; exact e x i q, Or.inr ⟨b1, sy_tok (TQ_eq h (fun _ _ _ => rfl) (fun x i p => e x i (by omega))) hw t b5, ?_⟩⟩
    rw [b5.1 a _ (by omega), gi_hit]
