/-! TEXT: words and numbers, the class's side -/
def wdS (b : Nat → Int) (q e : Nat) (k v : Int) : Prop := (6 < e - q ∧ k = 5 ∧ v = 0) ∨ (e - q ≤ 6 ∧ ((k = 1 ∧ 0 ≤ plF cdF ((pkN b q e 6 : Nat) : Int) 19 ∧ v = plF cdF ((pkN b q e 6 : Nat) : Int) 19) ∨ (k = 2 ∧ plF cdF ((pkN b q e 6 : Nat) : Int) 19 = -1 ∧ v = ((pkN b q e 6 : Nat) : Int))))
def lL (σ : Mm) (q : Nat) : Nat := lr (fun i => isL (gi σ 4 i)) (gi σ 37 7).toNat q
def lD (σ : Mm) (q : Nat) : Nat := lr (fun i => isD (gi σ 4 i)) (gi σ 37 7).toNat q
def lB (σ : Mm) (q : Nat) : Nat := lr (fun i => isB (gi σ 4 i)) (gi σ 37 7).toNat q
def Wd (σ s : Mm) : Prop := fr37 σ s ∧ gi s 37 9 = gi σ 37 9 ∧ gi s 37 8 = (lL σ (gi σ 37 9).toNat : Int) ∧ wdS (gi σ 4) (gi σ 37 9).toNat (lL σ (gi σ 37 9).toNat) (gi s 37 10) (gi s 37 11)
theorem v_wd_0 {n : Nat}   {σ : Mm} {P : Mm → Prop} (l1 : R 67 2 [some (vr 37), some (vi 0), none] [] (shF n) 0 0 σ (Qv (shF n) P)) : Cv 67 [vr 37] (shF n) σ P :=
  show R 67 0 [some (vr 37), none, none] [] (shF n) 0 0 σ (Qv (shF n) P) from wpK_R 3 [2] ((l1))
theorem v_wd_2 {n : Nat}  (c : Int) {σ : Mm} {P : Mm → Prop} (o1 : (gi σ 37 8) < (gi σ 37 7) → (0 ≤ (gi σ 37 8) ∧ (gi σ 37 8) < 700)) (o2 : (gi σ 37 8) < (gi σ 37 7) → (97 : Int) ≤ (gi σ 4 (gi σ 37 8).toNat) → (gi σ 4 (gi σ 37 8).toNat) ≤ (122 : Int) → rg ((gi σ 37 8) - (gi σ 37 9))) (o3 : (gi σ 37 8) < (gi σ 37 7) → (97 : Int) ≤ (gi σ 4 (gi σ 37 8).toNat) → (gi σ 4 (gi σ 37 8).toNat) ≤ (122 : Int) → ∀ x6 : Int, x6 = (gi σ 37 8) - (gi σ 37 9) → (6 : Int) ≤ x6 → ∀ x8 : Int, x8 = oor c (0 : Int) → rg ((gi σ 37 8) + 1)) (o4 : (gi σ 37 8) < (gi σ 37 7) → (97 : Int) ≤ (gi σ 4 (gi σ 37 8).toNat) → (gi σ 4 (gi σ 37 8).toNat) ≤ (122 : Int) → ∀ x6 : Int, x6 = (gi σ 37 8) - (gi σ 37 9) → x6 < (6 : Int) → rg ((gi σ 4 (gi σ 37 8).toNat) - 97)) (o5 : (gi σ 37 8) < (gi σ 37 7) → (97 : Int) ≤ (gi σ 4 (gi σ 37 8).toNat) → (gi σ 4 (gi σ 37 8).toNat) ≤ (122 : Int) → ∀ x6 : Int, x6 = (gi σ 37 8) - (gi σ 37 9) → x6 < (6 : Int) → rg (((gi σ 4 (gi σ 37 8).toNat) - 97) + 1)) (o6 : (gi σ 37 8) < (gi σ 37 7) → (97 : Int) ≤ (gi σ 4 (gi σ 37 8).toNat) → (gi σ 4 (gi σ 37 8).toNat) ≤ (122 : Int) → ∀ x6 : Int, x6 = (gi σ 37 8) - (gi σ 37 9) → x6 < (6 : Int) → rg ((5 : Int) - x6)) (o7 : (gi σ 37 8) < (gi σ 37 7) → (97 : Int) ≤ (gi σ 4 (gi σ 37 8).toNat) → (gi σ 4 (gi σ 37 8).toNat) ≤ (122 : Int) → ∀ x6 : Int, x6 = (gi σ 37 8) - (gi σ 37 9) → x6 < (6 : Int) → rg ((5 : Int) * ((5 : Int) - x6))) (o8 : (gi σ 37 8) < (gi σ 37 7) → (97 : Int) ≤ (gi σ 4 (gi σ 37 8).toNat) → (gi σ 4 (gi σ 37 8).toNat) ≤ (122 : Int) → ∀ x6 : Int, x6 = (gi σ 37 8) - (gi σ 37 9) → x6 < (6 : Int) → ∀ x15 : Int, x15 = oshl (((gi σ 4 (gi σ 37 8).toNat) - 97) + 1) ((5 : Int) * ((5 : Int) - x6)) → ∀ x16 : Int, x16 = oor c x15 → rg ((gi σ 37 8) + 1)) (l1 : (gi σ 37 7) ≤ (gi σ 37 8) → R 67 65 [some (vr 37), some (vi c), none] [] (shF n) 0 0 σ (Qv (shF n) P)) (l2 : (gi σ 37 8) < (gi σ 37 7) → (gi σ 4 (gi σ 37 8).toNat) < (97 : Int) → R 67 65 [some (vr 37), some (vi c), none] [] (shF n) 0 0 σ (Qv (shF n) P)) (l3 : (gi σ 37 8) < (gi σ 37 7) → (97 : Int) ≤ (gi σ 4 (gi σ 37 8).toNat) → (122 : Int) < (gi σ 4 (gi σ 37 8).toNat) → R 67 65 [some (vr 37), some (vi c), none] [] (shF n) 0 0 σ (Qv (shF n) P)) (l4 : (gi σ 37 8) < (gi σ 37 7) → (97 : Int) ≤ (gi σ 4 (gi σ 37 8).toNat) → (gi σ 4 (gi σ 37 8).toNat) ≤ (122 : Int) → ∀ x6 : Int, x6 = (gi σ 37 8) - (gi σ 37 9) → (6 : Int) ≤ x6 → ∀ x8 : Int, x8 = oor c (0 : Int) → ∀ t10 : Mm, t10 = si σ 37 8 ((gi σ 37 8) + 1) → R 67 2 [some (vr 37), some (vi x8), none] [] (shF n) 0 0 t10 (Qv (shF n) P)) (l5 : (gi σ 37 8) < (gi σ 37 7) → (97 : Int) ≤ (gi σ 4 (gi σ 37 8).toNat) → (gi σ 4 (gi σ 37 8).toNat) ≤ (122 : Int) → ∀ x6 : Int, x6 = (gi σ 37 8) - (gi σ 37 9) → x6 < (6 : Int) → ∀ x15 : Int, x15 = oshl (((gi σ 4 (gi σ 37 8).toNat) - 97) + 1) ((5 : Int) * ((5 : Int) - x6)) → ∀ x16 : Int, x16 = oor c x15 → ∀ t18 : Mm, t18 = si σ 37 8 ((gi σ 37 8) + 1) → R 67 2 [some (vr 37), some (vi x16), none] [] (shF n) 0 0 t18 (Qv (shF n) P)) : R 67 2 [some (vr 37), some (vi c), none] [] (shF n) 0 0 σ (Qv (shF n) P) :=
  wpK_R 34 [2, 65] (And.intro (fun q1 => (l1 q1)) (fun q1 => (have k2 := (o1 (Int.not_le.mp q1)); And.intro k2 ((show R 65 0 [_] [] (shF n) 0 0 _ _ from wpK_R 9 [] (And.intro (fun q3 => And.intro ret0 (And.intro (Or.inl rfl) ⟨rfl, _, rfl, And.intro (fun _ => (l2 (Int.not_le.mp q1) q3)) (fun q => absurd (show (0 : Int) = 0 by decide) q)⟩)) (fun q3 => And.intro (fun q4 => And.intro ret0 (And.intro (Or.inl rfl) ⟨rfl, _, rfl, And.intro (fun _ => (l3 (Int.not_le.mp q1) (Int.not_lt.mp q3) q4)) (fun q => absurd (show (0 : Int) = 0 by decide) q)⟩)) (fun q4 => And.intro ret0 (And.intro (Or.inr rfl) ⟨rfl, _, rfl, And.intro (fun q => absurd q (show ¬ ((1 : Int) = 0) by decide)) (fun _ => And.intro k2 ((have k5 := (o2 (Int.not_le.mp q1) (Int.not_lt.mp q3) (Int.not_lt.mp q4)); And.intro k5 ((show R 38 0 [_, _] [] (shF n) 0 0 _ _ from wpK_R 16 [] (And.intro (fun q7 => And.intro ret0 ⟨rfl, _, rfl, (have k9 := (o3 (Int.not_le.mp q1) (Int.not_lt.mp q3) (Int.not_lt.mp q4) _ rfl q7 _ rfl); And.intro k9 ((l4 (Int.not_le.mp q1) (Int.not_lt.mp q3) (Int.not_lt.mp q4) _ rfl q7 _ rfl _ rfl)))⟩) (fun q7 => (have k11 := (o4 (Int.not_le.mp q1) (Int.not_lt.mp q3) (Int.not_lt.mp q4) _ rfl (Int.not_le.mp q7)); And.intro k11 ((have k12 := (o5 (Int.not_le.mp q1) (Int.not_lt.mp q3) (Int.not_lt.mp q4) _ rfl (Int.not_le.mp q7)); And.intro k12 ((have k13 := (o6 (Int.not_le.mp q1) (Int.not_lt.mp q3) (Int.not_lt.mp q4) _ rfl (Int.not_le.mp q7)); And.intro k13 ((have k14 := (o7 (Int.not_le.mp q1) (Int.not_lt.mp q3) (Int.not_lt.mp q4) _ rfl (Int.not_le.mp q7)); And.intro k14 (And.intro ret0 ⟨rfl, _, rfl, (have k17 := (o8 (Int.not_le.mp q1) (Int.not_lt.mp q3) (Int.not_lt.mp q4) _ rfl (Int.not_le.mp q7) _ rfl _ rfl); And.intro k17 ((l5 (Int.not_le.mp q1) (Int.not_lt.mp q3) (Int.not_lt.mp q4) _ rfl (Int.not_le.mp q7) _ rfl _ rfl _ rfl)))⟩)))))))))))))))⟩)))))))))
theorem v_wd_65 {n : Nat}  (c : Int) {σ : Mm} {P : Mm → Prop} (o1 : (0 ≤ (19 : Int) ∧ (19 : Int) ≤ 19)) (o2 : ∀ x1 : Int, x1 = plF (gi σ 38) c ((19 : Int)).toNat → rg ((gi σ 37 8) - (gi σ 37 9))) (l1 : ∀ x1 : Int, x1 = plF (gi σ 38) c ((19 : Int)).toNat → ((gi σ 37 8) - (gi σ 37 9)) ≤ (6 : Int) → x1 ≠ (-1 : Int) → ∀ t5 : Mm, t5 = si σ 37 10 (1 : Int) → x1 ≠ (-1 : Int) → ∀ t7 : Mm, t7 = si t5 37 11 x1 → P t7) (l2 : ∀ x1 : Int, x1 = plF (gi σ 38) c ((19 : Int)).toNat → ((gi σ 37 8) - (gi σ 37 9)) ≤ (6 : Int) → x1 ≠ (-1 : Int) → ∀ t5 : Mm, t5 = si σ 37 10 (1 : Int) → x1 = (-1 : Int) → ∀ t8 : Mm, t8 = si t5 37 11 c → P t8) (l3 : ∀ x1 : Int, x1 = plF (gi σ 38) c ((19 : Int)).toNat → ((gi σ 37 8) - (gi σ 37 9)) ≤ (6 : Int) → x1 = (-1 : Int) → ∀ t9 : Mm, t9 = si σ 37 10 (2 : Int) → x1 ≠ (-1 : Int) → ∀ t11 : Mm, t11 = si t9 37 11 x1 → P t11) (l4 : ∀ x1 : Int, x1 = plF (gi σ 38) c ((19 : Int)).toNat → ((gi σ 37 8) - (gi σ 37 9)) ≤ (6 : Int) → x1 = (-1 : Int) → ∀ t9 : Mm, t9 = si σ 37 10 (2 : Int) → x1 = (-1 : Int) → ∀ t12 : Mm, t12 = si t9 37 11 c → P t12) (l5 : ∀ x1 : Int, x1 = plF (gi σ 38) c ((19 : Int)).toNat → (6 : Int) < ((gi σ 37 8) - (gi σ 37 9)) → ∀ t13 : Mm, t13 = si σ 37 10 (5 : Int) → P t13) : R 67 65 [some (vr 37), some (vi c), none] [] (shF n) 0 0 σ (Qv (shF n) P) :=
  wpK_R 28 [2] ((c_pl_38  (o1) ((have k2 := (o2 _ rfl); And.intro k2 (And.intro (fun q3 => And.intro (fun q4 => And.intro (fun q6 => And.intro ret0 ⟨rfl, rfl, (l1 _ rfl q3 q4 _ rfl q6 _ rfl)⟩) (fun q6 => And.intro ret0 ⟨rfl, rfl, (l2 _ rfl q3 q4 _ rfl (Classical.not_not.mp q6) _ rfl)⟩)) (fun q4 => And.intro (fun q10 => And.intro ret0 ⟨rfl, rfl, (l3 _ rfl q3 (Classical.not_not.mp q4) _ rfl q10 _ rfl)⟩) (fun q10 => And.intro ret0 ⟨rfl, rfl, (l4 _ rfl q3 (Classical.not_not.mp q4) _ rfl (Classical.not_not.mp q10) _ rfl)⟩))) (fun q3 => And.intro ret0 ⟨rfl, rfl, (l5 _ rfl (Int.not_le.mp q3) _ rfl)⟩))))))
theorem c_wd {n : Nat} {σ : Mm} {P : Mm → Prop} (h0 : 0 ≤ gi σ 37 8 ∧ gi σ 37 8 ≤ gi σ 37 7 ∧ gi σ 37 7 ≤ 700) (h9 : gi σ 37 9 = gi σ 37 8) (h11 : gi σ 37 11 = 0) (hcd : ∀ i, i < 19 → gi σ 38 i = cdF i) (hP : ∀ s, Wd σ s → P s) : Cv 67 [vr 37] (shF n) σ P := by
  obtain ⟨q, hq⟩ : ∃ q : Nat, gi σ 37 8 = (q : Int) := ⟨(gi σ 37 8).toNat, by omega⟩
  obtain ⟨L, hL⟩ : ∃ L : Nat, gi σ 37 7 = (L : Int) := ⟨(gi σ 37 7).toNat, by omega⟩
  obtain ⟨E, hE⟩ : ∃ E, E = lr (fun i => isL (gi σ 4 i)) L q := ⟨_, rfl⟩
  obtain ⟨e1, e2, e3, e4⟩ := lr_in (f := fun i => isL (gi σ 4 i)) (n := L) (p := q) (by omega)
  rw [← hE] at e1 e2 e3 e4
  have hlL : lL σ (gi σ 37 9).toNat = E := by unfold lL; rw [h9, hq, hL, Int.toNat_natCast, Int.toNat_natCast, ← hE]
  have hP' : ∀ s, fr37 σ s → gi s 37 9 = (q : Int) → gi s 37 8 = (E : Int) → wdS (gi σ 4) q E (gi s 37 10) (gi s 37 11) → P s := fun s a b c d => hP s ⟨a, by rw [b, h9, hq], by rw [c, hlL], by rw [hlL, h9, hq, Int.toNat_natCast]; exact d⟩
  clear hP
  have hz0 : pkN (gi σ 4) q q 6 = 0 := by
    have := pk_zero (b := gi σ 4) (p := q) (e := q) (t := 0) (fun i hi => by unfold dgN; rw [if_neg (by omega)]) 6
    rw [show 0 + 6 = 6 from rfl] at this
    rw [this]; simp [pkN]
  refine v_wd_0 ?_
  refine R_eq (loopUp (N := E) (I := fun e => q ≤ e → ∀ τ : Mm, (∀ a i, ¬ (a = 37 ∧ i = 8) → gi τ a i = gi σ a i) → gi τ 37 8 = (e : Int) → R 67 2 [some (vr 37), some (vi ((pkN (gi σ 4) q e 6 : Nat) : Int)), none] [] (shF n) 0 0 τ (Qv (shF n) P)) (fun e he ih => ?_) q e1 (Nat.le_refl _) σ (fun _ _ _ => rfl) hq) (by rw [hz0]; rfl)
  intro hqe τ f1 f2
  have g7 : gi τ 37 7 = (L : Int) := by rw [f1 37 7 (by omega)]; exact hL
  have g9 : gi τ 37 9 = (q : Int) := by rw [f1 37 9 (by omega), h9]; exact hq
  have g4 : gi τ 4 (gi τ 37 8).toNat = gi σ 4 e := by rw [f2, Int.toNat_natCast, f1 4 e (by omega)]
  have hlt : ∀ j, q ≤ j → j < E → (97 ≤ gi σ 4 j ∧ gi σ 4 j ≤ 122) := fun j a b => isL_t.mp (e4 j a b)
  have hle := hlt e hqe
  have hexit : e = E → R 67 65 [some (vr 37), some (vi ((pkN (gi σ 4) q e 6 : Nat) : Int)), none] [] (shF n) 0 0 τ (Qv (shF n) P) := fun z => by
    subst z
    have hpl : plF (gi τ 38) ((pkN (gi σ 4) q e 6 : Nat) : Int) ((19 : Int)).toNat = plF cdF ((pkN (gi σ 4) q e 6 : Nat) : Int) 19 := plF_cong 19 fun i hi => by rw [f1 38 i (by omega)]; exact hcd i hi
    have hin := plF_in (f := cdF) (z := ((pkN (gi σ 4) q e 6 : Nat) : Int)) 19
    have hf : fr37 σ τ := fun a i p => f1 a i (by omega)
    obtain ⟨Z, hZ⟩ : ∃ Z, Z = plF cdF ((pkN (gi σ 4) q e 6 : Nat) : Int) 19 := ⟨_, rfl⟩
    refine v_wd_65 ((pkN (gi σ 4) q e 6 : Nat) : Int) (by intros; first | omega | (unfold rg; omega)) (by intros; first | omega | (unfold rg; omega)) ?_ ?_ ?_ ?_ ?_
    · intro x1 ex h6 hne t5 e5 _ t7 e7
      rw [hpl] at ex
      subst e5 e7
      refine hP' _ (fr37_si (fr37_si hf (by omega)) (by omega)) (by rw [g37, if_neg (by omega), g37, if_neg (by omega)]; exact g9) (by rw [g37, if_neg (by omega), g37, if_neg (by omega)]; exact f2) ?_
      rw [g37, if_neg (by omega), g37, if_pos rfl, g37, if_pos rfl]
      exact Or.inr ⟨by omega, Or.inl ⟨rfl, by omega, ex⟩⟩
    · intros; omega
    · intros; omega
    · intro x1 ex h6 hne t5 e5 _ t7 e7
      rw [hpl] at ex
      subst e5 e7
      refine hP' _ (fr37_si (fr37_si hf (by omega)) (by omega)) (by rw [g37, if_neg (by omega), g37, if_neg (by omega)]; exact g9) (by rw [g37, if_neg (by omega), g37, if_neg (by omega)]; exact f2) ?_
      rw [g37, if_neg (by omega), g37, if_pos rfl, g37, if_pos rfl]
      exact Or.inr ⟨by omega, Or.inr ⟨rfl, by omega, rfl⟩⟩
    · intro x1 ex h6 t5 e5
      subst e5
      refine hP' _ (fr37_si hf (by omega)) (by rw [g37, if_neg (by omega)]; exact g9) (by rw [g37, if_neg (by omega)]; exact f2) ?_
      rw [g37, if_pos rfl, g37, if_neg (by omega), f1 37 11 (by omega), h11]
      exact Or.inl ⟨by omega, rfl, rfl⟩
  have hend : (L : Int) ≤ (e : Int) ∨ ¬ (97 ≤ gi σ 4 e ∧ gi σ 4 e ≤ 122) → e = E := fun z => by
    rcases z with z | z
    · omega
    · refine Classical.byContradiction fun y => z (hle (by omega))
  have hgo : (e : Int) < (L : Int) → (97 ≤ gi σ 4 e ∧ gi σ 4 e ≤ 122) → e < E := fun z y => by
    refine Classical.byContradiction fun x => ?_
    have x' : E = e := by omega
    rw [x'] at e3
    exact isL_f.mp (e3 (by omega)) y
  have hnx : ∀ (t : Mm) (c : Int), e < E → c = ((pkN (gi σ 4) q (e + 1) 6 : Nat) : Int) → t = si τ 37 8 (gi τ 37 8 + 1) → R 67 2 [some (vr 37), some (vi c), none] [] (shF n) 0 0 t (Qv (shF n) P) := fun t c z ec et => by
    subst et ec
    exact ih z (by omega) _ (fun a i p => by rw [gi_si, if_neg p]; exact f1 a i p) (by rw [g37, if_pos rfl, f2]; rfl)
  have hpl6 := pkN_lt (b := gi σ 4) (p := q) (e := e) (fun j a b => e4 j a (by omega)) 6
  clear ih
  refine v_wd_2 ((pkN (gi σ 4) q e 6 : Nat) : Int) (by intros; (first | omega | (unfold rg; omega) | (rw [g4] at *; unfold rg; omega))) (by intros; (first | omega | (unfold rg; omega) | (rw [g4] at *; unfold rg; omega))) (by intros; (first | omega | (unfold rg; omega) | (rw [g4] at *; unfold rg; omega))) (by intros; (first | omega | (unfold rg; omega) | (rw [g4] at *; unfold rg; omega))) (by intros; (first | omega | (unfold rg; omega) | (rw [g4] at *; unfold rg; omega))) (by intros; (first | omega | (unfold rg; omega) | (rw [g4] at *; unfold rg; omega))) (by intros; (first | omega | (unfold rg; omega) | (rw [g4] at *; unfold rg; omega))) (by intros; (first | omega | (unfold rg; omega) | (rw [g4] at *; unfold rg; omega))) ?_ ?_ ?_ ?_ ?_
  · intro a1; exact hexit (hend (by omega))
  · intro a1 a2; rw [g4] at a2; exact hexit (hend (by omega))
  · intro a1 a2 a3; rw [g4] at a2 a3; exact hexit (hend (by omega))
  · intro a1 a2 a3 x45 e45 h6 x47 e47 t49 e49
    rw [g4] at a2 a3
    have hz := hgo (by omega) ⟨a2, a3⟩
    refine hnx _ _ hz ?_ e49
    rw [e47, pk_stop (by omega)]
    exact oor_00 (by omega)
  · intro a1 a2 a3 x45 e45 h6 x54 e54 x55 e55 t57 e57
    rw [g4] at a2 a3 e54
    have hz := hgo (by omega) ⟨a2, a3⟩
    refine hnx _ _ hz ?_ e57
    rw [e55, e54, e45, f2, g9]
    exact pk_step (fun j a b => e4 j a (by omega)) hqe (by omega)
def Nb (σ s : Mm) : Prop := fr37 σ s ∧ gi s 37 9 = gi σ 37 9 ∧ gi s 37 8 = (lD σ (gi σ 37 9).toNat : Int) ∧ gi s 37 10 = 3 ∧ gi s 37 11 = nvC (gi σ 4) (gi σ 37 9).toNat (lD σ (gi σ 37 9).toNat - (gi σ 37 9).toNat)
theorem v_nb_0 {n : Nat}   {σ : Mm} {P : Mm → Prop} (l1 : ∀ t1 : Mm, t1 = si σ 37 10 (3 : Int) → R 68 5 [some (vr 37)] [] (shF n) 0 0 t1 (Qv (shF n) P)) : Cv 68 [vr 37] (shF n) σ P :=
  show R 68 0 [some (vr 37)] [] (shF n) 0 0 σ (Qv (shF n) P) from wpK_R 4 [5] ((l1 _ rfl))
theorem v_nb_5 {n : Nat}   {σ : Mm} {P : Mm → Prop} (o1 : (gi σ 37 8) < (gi σ 37 7) → (0 ≤ (gi σ 37 8) ∧ (gi σ 37 8) < 700)) (o2 : (gi σ 37 8) < (gi σ 37 7) → (48 : Int) ≤ (gi σ 4 (gi σ 37 8).toNat) → (gi σ 4 (gi σ 37 8).toNat) ≤ (57 : Int) → (9999 : Int) < (gi σ 37 11) → rg ((gi σ 37 8) + 1)) (o3 : (gi σ 37 8) < (gi σ 37 7) → (48 : Int) ≤ (gi σ 4 (gi σ 37 8).toNat) → (gi σ 4 (gi σ 37 8).toNat) ≤ (57 : Int) → (gi σ 37 11) ≤ (9999 : Int) → rg ((10 : Int) * (gi σ 37 11))) (o4 : (gi σ 37 8) < (gi σ 37 7) → (48 : Int) ≤ (gi σ 4 (gi σ 37 8).toNat) → (gi σ 4 (gi σ 37 8).toNat) ≤ (57 : Int) → (gi σ 37 11) ≤ (9999 : Int) → rg (((10 : Int) * (gi σ 37 11)) + (gi σ 4 (gi σ 37 8).toNat))) (o5 : (gi σ 37 8) < (gi σ 37 7) → (48 : Int) ≤ (gi σ 4 (gi σ 37 8).toNat) → (gi σ 4 (gi σ 37 8).toNat) ≤ (57 : Int) → (gi σ 37 11) ≤ (9999 : Int) → rg ((((10 : Int) * (gi σ 37 11)) + (gi σ 4 (gi σ 37 8).toNat)) - 48)) (o6 : (gi σ 37 8) < (gi σ 37 7) → (48 : Int) ≤ (gi σ 4 (gi σ 37 8).toNat) → (gi σ 4 (gi σ 37 8).toNat) ≤ (57 : Int) → (gi σ 37 11) ≤ (9999 : Int) → ∀ t11 : Mm, t11 = si σ 37 11 ((((10 : Int) * (gi σ 37 11)) + (gi σ 4 (gi σ 37 8).toNat)) - 48) → rg ((gi σ 37 8) + 1)) (l1 : (gi σ 37 7) ≤ (gi σ 37 8) → P σ) (l2 : (gi σ 37 8) < (gi σ 37 7) → (gi σ 4 (gi σ 37 8).toNat) < (48 : Int) → P σ) (l3 : (gi σ 37 8) < (gi σ 37 7) → (48 : Int) ≤ (gi σ 4 (gi σ 37 8).toNat) → (57 : Int) < (gi σ 4 (gi σ 37 8).toNat) → P σ) (l4 : (gi σ 37 8) < (gi σ 37 7) → (48 : Int) ≤ (gi σ 4 (gi σ 37 8).toNat) → (gi σ 4 (gi σ 37 8).toNat) ≤ (57 : Int) → (9999 : Int) < (gi σ 37 11) → ∀ t7 : Mm, t7 = si σ 37 8 ((gi σ 37 8) + 1) → R 68 5 [some (vr 37)] [] (shF n) 0 0 t7 (Qv (shF n) P)) (l5 : (gi σ 37 8) < (gi σ 37 7) → (48 : Int) ≤ (gi σ 4 (gi σ 37 8).toNat) → (gi σ 4 (gi σ 37 8).toNat) ≤ (57 : Int) → (gi σ 37 11) ≤ (9999 : Int) → ∀ t11 : Mm, t11 = si σ 37 11 ((((10 : Int) * (gi σ 37 11)) + (gi σ 4 (gi σ 37 8).toNat)) - 48) → ∀ t13 : Mm, t13 = si t11 37 8 ((gi σ 37 8) + 1) → R 68 5 [some (vr 37)] [] (shF n) 0 0 t13 (Qv (shF n) P)) : R 68 5 [some (vr 37)] [] (shF n) 0 0 σ (Qv (shF n) P) :=
  wpK_R 38 [5] (And.intro (fun q1 => And.intro ret0 ⟨rfl, rfl, (l1 q1)⟩) (fun q1 => (have k2 := (o1 (Int.not_le.mp q1)); And.intro k2 ((show R 66 0 [_] [] (shF n) 0 0 _ _ from wpK_R 9 [] (And.intro (fun q3 => And.intro ret0 (And.intro (Or.inl rfl) ⟨rfl, _, rfl, And.intro (fun _ => And.intro ret0 ⟨rfl, rfl, (l2 (Int.not_le.mp q1) q3)⟩) (fun q => absurd (show (0 : Int) = 0 by decide) q)⟩)) (fun q3 => And.intro (fun q4 => And.intro ret0 (And.intro (Or.inl rfl) ⟨rfl, _, rfl, And.intro (fun _ => And.intro ret0 ⟨rfl, rfl, (l3 (Int.not_le.mp q1) (Int.not_lt.mp q3) q4)⟩) (fun q => absurd (show (0 : Int) = 0 by decide) q)⟩)) (fun q4 => And.intro ret0 (And.intro (Or.inr rfl) ⟨rfl, _, rfl, And.intro (fun q => absurd q (show ¬ ((1 : Int) = 0) by decide)) (fun _ => And.intro (fun q5 => (have k6 := (o2 (Int.not_le.mp q1) (Int.not_lt.mp q3) (Int.not_lt.mp q4) q5); And.intro k6 ((l4 (Int.not_le.mp q1) (Int.not_lt.mp q3) (Int.not_lt.mp q4) q5 _ rfl)))) (fun q5 => (have k8 := (o3 (Int.not_le.mp q1) (Int.not_lt.mp q3) (Int.not_lt.mp q4) (Int.not_lt.mp q5)); And.intro k8 (And.intro k2 ((have k9 := (o4 (Int.not_le.mp q1) (Int.not_lt.mp q3) (Int.not_lt.mp q4) (Int.not_lt.mp q5)); And.intro k9 ((have k10 := (o5 (Int.not_le.mp q1) (Int.not_lt.mp q3) (Int.not_lt.mp q4) (Int.not_lt.mp q5)); And.intro k10 ((have k12 := (o6 (Int.not_le.mp q1) (Int.not_lt.mp q3) (Int.not_lt.mp q4) (Int.not_lt.mp q5) _ rfl); And.intro k12 ((l5 (Int.not_le.mp q1) (Int.not_lt.mp q3) (Int.not_lt.mp q4) (Int.not_lt.mp q5) _ rfl _ rfl))))))))))))⟩)))))))))
theorem c_nb {n : Nat} {σ : Mm} {P : Mm → Prop} (h0 : 0 ≤ gi σ 37 8 ∧ gi σ 37 8 ≤ gi σ 37 7 ∧ gi σ 37 7 ≤ 700) (h9 : gi σ 37 9 = gi σ 37 8) (h11 : gi σ 37 11 = 0) (hP : ∀ s, Nb σ s → P s) : Cv 68 [vr 37] (shF n) σ P := by
  obtain ⟨q, hq⟩ : ∃ q : Nat, gi σ 37 8 = (q : Int) := ⟨(gi σ 37 8).toNat, by omega⟩
  obtain ⟨L, hL⟩ : ∃ L : Nat, gi σ 37 7 = (L : Int) := ⟨(gi σ 37 7).toNat, by omega⟩
  obtain ⟨E, hE⟩ : ∃ E, E = lr (fun i => isD (gi σ 4 i)) L q := ⟨_, rfl⟩
  obtain ⟨e1, e2, e3, e4⟩ := lr_in (f := fun i => isD (gi σ 4 i)) (n := L) (p := q) (by omega)
  rw [← hE] at e1 e2 e3 e4
  have hlD : lD σ (gi σ 37 9).toNat = E := by unfold lD; rw [h9, hq, hL, Int.toNat_natCast, Int.toNat_natCast, ← hE]
  have hP' : ∀ s, fr37 σ s → gi s 37 9 = (q : Int) → gi s 37 8 = (E : Int) → gi s 37 10 = 3 → gi s 37 11 = nvC (gi σ 4) q (E - q) → P s := fun s a b c d e => hP s ⟨a, by rw [b, h9, hq], by rw [c, hlD], d, by rw [hlD, h9, hq, Int.toNat_natCast]; exact e⟩
  clear hP
  refine v_nb_0 ?_
  intro t1 et1
  refine loopUp (N := E) (I := fun e => q ≤ e → ∀ τ : Mm, (∀ a i, ¬ (a = 37 ∧ (i = 8 ∨ i = 10 ∨ i = 11)) → gi τ a i = gi σ a i) → gi τ 37 8 = (e : Int) → gi τ 37 10 = 3 → gi τ 37 11 = nvC (gi σ 4) q (e - q) → R 68 5 [some (vr 37)] [] (shF n) 0 0 τ (Qv (shF n) P)) (fun e he ih => ?_) q e1 (Nat.le_refl _) t1 (fun a i p => by rw [et1, gi_si, if_neg (by omega)]) (by rw [et1, g37, if_neg (by omega)]; exact hq) (by rw [et1, g37, if_pos rfl]) (by rw [et1, g37, if_neg (by omega), h11, Nat.sub_self]; rfl)
  intro hqe τ f1 f2 f3 f5
  have g7 : gi τ 37 7 = (L : Int) := by rw [f1 37 7 (by omega)]; exact hL
  have g9 : gi τ 37 9 = (q : Int) := by rw [f1 37 9 (by omega), h9]; exact hq
  have g4 : gi τ 4 (gi τ 37 8).toNat = gi σ 4 e := by rw [f2, Int.toNat_natCast, f1 4 e (by omega)]
  have hle : e < E → (48 ≤ gi σ 4 e ∧ gi σ 4 e ≤ 57) := fun z => isD_t.mp (e4 e hqe z)
  have hv := (nv_rel (b := gi σ 4) (p := q) (e - q) fun i hi => e4 (q + i) (by omega) (by omega)).1
  have hexit : e = E → P τ := fun z => hP' τ (fun a i p => f1 a i (by omega)) g9 (by rw [f2, z]) f3 (by rw [f5, z])
  have hend : (L : Int) ≤ (e : Int) ∨ ¬ (48 ≤ gi σ 4 e ∧ gi σ 4 e ≤ 57) → e = E := fun z => by
    rcases z with z | z
    · omega
    · refine Classical.byContradiction fun y => z (hle (by omega))
  have hgo : (e : Int) < (L : Int) → (48 ≤ gi σ 4 e ∧ gi σ 4 e ≤ 57) → e < E := fun z y => by
    refine Classical.byContradiction fun x => ?_
    have x' : E = e := by omega
    rw [x'] at e3
    exact isD_f.mp (e3 (by omega)) y
  have hs : nvC (gi σ 4) q (e + 1 - q) = if gi τ 37 11 ≤ 9999 then 10 * gi τ 37 11 + gi σ 4 e - 48 else gi τ 37 11 := by
    rw [show e + 1 - q = (e - q) + 1 by omega]
    simp only [nvC]
    rw [← f5, show q + (e - q) = e by omega]
  rw [← f5] at hv
  refine v_nb_5 (by intros; (first | omega | (unfold rg; omega))) (by intros; (first | omega | (unfold rg; omega))) (by intros; (first | omega | (unfold rg; omega))) (by intros; (first | omega | (unfold rg; omega))) (by intros; (first | omega | (unfold rg; omega))) (by intros; (first | omega | (unfold rg; omega))) ?_ ?_ ?_ ?_ ?_
  · intro a1; exact hexit (hend (by omega))
  · intro a1 a2; rw [g4] at a2; exact hexit (hend (by omega))
  · intro a1 a2 a3; rw [g4] at a2 a3; exact hexit (hend (by omega))
  · intro a1 a2 a3 a5 t e
    rw [g4] at a2 a3
    have hz := hgo (by omega) ⟨a2, a3⟩
    subst e
    refine ih hz (by omega) _ (fun a i p => by rw [gi_si, if_neg (by omega)]; exact f1 a i p) (by rw [g37, if_pos rfl, f2]; rfl) (by rw [g37, if_neg (by omega)]; exact f3) ?_
    rw [g37, if_neg (by omega), hs, if_neg (by omega)]
  · intro a1 a2 a3 a5 t e t' e'
    rw [g4] at a2 a3 e
    have hz := hgo (by omega) ⟨a2, a3⟩
    subst e e'
    refine ih hz (by omega) _ (fun a i p => by rw [gi_si, if_neg (by omega), gi_si, if_neg (by omega)]; exact f1 a i p) (by rw [g37, if_pos rfl, f2]; rfl) (by rw [g37, if_neg (by omega), g37, if_neg (by omega)]; exact f3) ?_
    rw [g37, if_neg (by omega), g37, if_pos rfl, hs, if_pos a5]
