/-! TEXT: the reference reads a text -/
def PnM (σ s : Mm) : Prop := (∀ i, (17 ≤ i ∧ i ≤ 21) ∨ i = 46 → gi s 85 i = 0) ∧ gi s 88 0 = 0 ∧ gi s 89 1 = 1 ∧ (∀ w : Nat, w < 3 → gi s 101 (3 + w) = 0) ∧ ∀ a i, ¬ (a = 85 ∧ ((17 ≤ i ∧ i ≤ 21) ∨ i = 46)) → a ≠ 88 → ¬ (a = 89 ∧ i = 1) → ¬ (a = 101 ∧ 3 ≤ i) → gi s a i = gi σ a i
theorem v_pn_0 {n : Nat}   {σ : Mm} {P : Mm → Prop} (l1 : ∀ t1 : Mm, t1 = si σ 85 17 (0 : Int) → ∀ t2 : Mm, t2 = si t1 85 18 (0 : Int) → ∀ t3 : Mm, t3 = si t2 85 19 (0 : Int) → ∀ t4 : Mm, t4 = si t3 85 20 (0 : Int) → ∀ t5 : Mm, t5 = si t4 85 21 (0 : Int) → ∀ t6 : Mm, t6 = si t5 85 46 (0 : Int) → ∀ t7 : Mm, t7 = si t6 88 0 (0 : Int) → ∀ t8 : Mm, t8 = si t7 89 1 (1 : Int) → R 169 46 [some (vr 85), some (vi 3)] [] (shF n) 0 0 t8 (Qv (shF n) P)) : Cv 169 [vr 85] (shF n) σ P :=
  show R 169 0 [some (vr 85), none] [] (shF n) 0 0 σ (Qv (shF n) P) from wpK_R 31 [46] (And.intro (by decide) (And.intro (Or.inl rfl) (And.intro (by decide) ((l1 _ rfl _ rfl _ rfl _ rfl _ rfl _ rfl _ rfl _ rfl)))))
theorem v_pn {n : Nat}  (k : Nat) {σ : Mm} {P : Mm → Prop} (o1 : (k : Int) < (6 : Int) → (0 ≤ (k : Int) ∧ (k : Int) < 6)) (o2 : (k : Int) < (6 : Int) → ∀ t3 : Mm, t3 = si σ 101 k (0 : Int) → rg ((k : Int) + 1)) (l1 : (6 : Int) ≤ (k : Int) → P σ) (l2 : (k : Int) < (6 : Int) → ∀ t3 : Mm, t3 = si σ 101 k (0 : Int) → R 169 46 [some (vr 85), some (vi ((k : Int) + 1))] [] (shF n) 0 0 t3 (Qv (shF n) P)) : R 169 46 [some (vr 85), some (vi (k : Int))] [] (shF n) 0 0 σ (Qv (shF n) P) :=
  wpK_R 11 [46] (And.intro (fun q1 => And.intro ret0 ⟨rfl, rfl, (l1 q1)⟩) (fun q1 => (have k2 := (o1 (Int.not_le.mp q1)); And.intro k2 (And.intro (Or.inl rfl) ((have k4 := (o2 (Int.not_le.mp q1) _ rfl); And.intro k4 ((l2 (Int.not_le.mp q1) _ rfl))))))))
theorem c_pn {n : Nat} {σ : Mm} {P : Mm → Prop} (hP : ∀ s, PnM σ s → P s) : Cv 169 [vr 85] (shF n) σ P := by
  refine v_pn_0 ?_
  intro t1 e1 t2 e2 t3 e3 t4 e4 t5 e5 t6 e6 t7 e7 t8 e8
  have key : ∀ k : Nat, k ≤ 3 → ∀ τ : Mm, (∀ w : Nat, w < k → gi τ 101 (3 + w) = 0) → (∀ a i, ¬ (a = 101 ∧ 3 ≤ i) → gi τ a i = gi t8 a i) → R 169 46 [some (vr 85), some (vi (((3 + k : Nat)) : Int))] [] (shF n) 0 0 τ (Qv (shF n) P) := by
    refine loopUp (N := 3) (I := fun k => ∀ τ : Mm, (∀ w : Nat, w < k → gi τ 101 (3 + w) = 0) → (∀ a i, ¬ (a = 101 ∧ 3 ≤ i) → gi τ a i = gi t8 a i) → R 169 46 [some (vr 85), some (vi (((3 + k : Nat)) : Int))] [] (shF n) 0 0 τ (Qv (shF n) P)) (fun k hk ih => ?_)
    intro τ h1 h2
    refine v_pn (3 + k) (by intros; first | omega | (unfold rg; omega)) (by intros; first | omega | (unfold rg; omega)) ?_ ?_
    · intro q
      refine hP τ ⟨fun i p => ?_, ?_, ?_, fun w hw => h1 w (by omega), fun a i p q r w => ?_⟩
      · rw [h2 85 i (by omega), e8, gi_si, if_neg (by omega), e7, gi_si, if_neg (by omega), e6, gi_si]
        by_cases z6 : i = 46
        · rw [if_pos ⟨rfl, z6⟩]
        rw [if_neg (by omega), e5, gi_si]
        by_cases z5 : i = 21
        · rw [if_pos ⟨rfl, z5⟩]
        rw [if_neg (by omega), e4, gi_si]
        by_cases z4 : i = 20
        · rw [if_pos ⟨rfl, z4⟩]
        rw [if_neg (by omega), e3, gi_si]
        by_cases z3 : i = 19
        · rw [if_pos ⟨rfl, z3⟩]
        rw [if_neg (by omega), e2, gi_si]
        by_cases z2 : i = 18
        · rw [if_pos ⟨rfl, z2⟩]
        rw [if_neg (by omega), e1, gi_si, if_pos ⟨rfl, by omega⟩]
      · rw [h2 88 0 (by omega), e8, gi_si, if_neg (by omega), e7, gi_hit]
      · rw [h2 89 1 (by omega), e8, gi_hit]
      · rw [h2 a i w, e8, gi_si, if_neg (by omega), e7, gi_si, if_neg (by omega), e6, gi_si, if_neg (by omega), e5, gi_si, if_neg (by omega), e4, gi_si, if_neg (by omega), e3, gi_si, if_neg (by omega), e2, gi_si, if_neg (by omega), e1, gi_si, if_neg (by omega)]
    · intro q t e
      subst e
      have := ih (by omega) (si τ 101 (3 + k) 0) (fun w hw => ?_) (fun a i p => by rw [gi_si, if_neg (by omega)]; exact h2 a i p)
      · exact this
      · by_cases z : w = k
        · subst z; rw [gi_hit]
        · rw [gi_si, if_neg (by omega)]; exact h1 w (by omega)
  exact key 0 (by omega) t8 (fun w hw => by omega) (fun _ _ _ => rfl)
theorem LnR_in {τ s : Mm} (li : LI τ) (hl : 0 ≤ gi τ 21 4 ∧ gi τ 21 4 ≤ gi τ 37 9) (h : LnR τ s) (y : gi s 37 12 = 0) : LI s ∧ (0 ≤ gi s 21 4 ∧ gi s 21 4 ≤ gi s 37 9) ∧ gi s 21 4 = gi τ 21 4 + 1 ∧ gi τ 21 4 < 700 := by
  obtain ⟨kn, z0, x, u, lt, tk, es⟩ := h
  have lf := lin_LF li z0 lt
  obtain ⟨l1, l2, l3, l4⟩ := li
  have l11 := l1.1
  obtain ⟨ti1, ti2, ti3, ti4, ti5, ti6⟩ := l2
  obtain ⟨f1, f2, f3, f4, f5, f6⟩ := lf
  obtain ⟨g1, g2, g3, g4, g5, g6, g7⟩ := TkS_in f1 tk
  have fe : ∀ a i, ¬ (a = 21 ∧ i = 4) → gi s a i = gi u a i := fun a i p => by rw [es, gi_si, if_neg p]
  have y12 : gi u 37 12 = 0 := by rw [← fe 37 12 (by omega)]; exact y
  have x12 : gi x 37 12 = 0 := Classical.byContradiction fun q => by have := (g5 q).1; omega
  have q3 := f3 x12
  have q5 := f5 x12
  have q4 := ti4 kn
  have e33 : gi u 33 0 = gi x 33 0 := g4 33 0 (by omega)
  have e6 : gi u 37 6 = gi x 37 6 := g4 37 6 (by omega)
  have e4 : gi s 21 4 = gi τ 21 4 + 1 := by rw [es, gi_hit, g4 21 4 (by omega), f4]
  refine ⟨⟨Lx_eq g1 fun a i p => fe a i (by omega), TI_eq g2 fun i _ _ => fe 37 i (by omega), Bk_eq f2 fun i _ => by rw [fe 21 i (by omega)]; exact g4 21 i (by omega), by rw [fe 33 0 (by omega), fe 37 6 (by omega)]; omega⟩, ?_, e4, by omega⟩
  rw [e4, fe 37 9 (by omega)]; omega
theorem k0_c {σ ρ : Mm} (h : TQ σ ρ) : (gi ρ 85 8 = 0 ∧ gi σ 37 10 = 0) ∨ (gi ρ 85 8 ≠ 0 ∧ gi σ 37 10 ≠ 0) := by
  have t := h.2.2.2.2.2.2.1
  unfold TRl at t
  omega
/-- an empty draft, both -/
theorem RD_0 {σ ρ : Mm} (c : Cl0 σ) (c6 : gi σ 37 6 = 0) (p1 : ∀ i, (17 ≤ i ∧ i ≤ 21) ∨ i = 46 → gi ρ 85 i = 0) (p2 : gi ρ 88 0 = 0) (p3 : gi ρ 89 1 = 1) (p4 : ∀ w : Nat, w < 3 → gi ρ 101 (3 + w) = 0) : RD σ ρ := by
  obtain ⟨d0, d1, d2, d3, d4, d5, d6, d7, d8⟩ := c
  refine ⟨?_, ?_, ?_, ?_, ?_, ?_⟩
  · unfold RJ; rw [d0, p1 17 (by omega)]; exact ⟨by omega, rfl, fun j hj => by omega⟩
  · unfold RC; rw [d1, p1 18 (by omega)]; exact ⟨by omega, rfl, fun j hj => by omega⟩
  · unfold RK; rw [d2, p1 19 (by omega)]; exact ⟨by omega, rfl, fun j hj => by omega⟩
  · unfold RA; rw [d3, p1 20 (by omega)]; exact ⟨by omega, rfl, fun j hj => by omega⟩
  · unfold RT; rw [d5, d6, p2, p3]; exact ⟨by omega, rfl, Or.inl rfl, rfl⟩
  · unfold RLw; rw [d7, c6, p1 21 (by omega), p1 46 (by omega)]
    refine ⟨by omega, rfl, rfl, rfl, fun w hw => ?_⟩
    rw [(d8 w hw).1, (d8 w hw).2, p4 w hw]
    exact ⟨by omega, rfl, fun q => by omega⟩
/-- the reference's frame of a text up to its end -/
def kT (ρ ρ' : Mm) : Prop := ∀ a i, ¬ chM a i → ¬ (a = 85 ∧ (i = 1 ∨ i = 2)) → gi ρ' a i = gi ρ a i
theorem kT_R {ρ ρ1 ρ2 : Mm} (h : kT ρ ρ1) (k : kR ρ1 ρ2) : kT ρ ρ2 := fun a i p q => (k a i p).trans (h a i p q)
theorem v_tx_0 {n : Nat}  (m : Int) {σ : Mm} {P : Int → Mm → Prop} (o1 : ∀ t1 : Mm, t1 = si σ 85 2 (0 : Int) → (0 : Int) ≤ m → m ≤ (gi σ 85 1) → ∀ t4 : Mm, t4 = si t1 85 6 m → ∀ t5 : Mm, t5 = si t4 85 1 (0 : Int) → ∀ t6 : Mm, t6 = si t5 85 4 (0 : Int) → ∀ t7 : Mm, t7 = si t6 85 5 (-1 : Int) → ∀ t8 : Mm, t8 = si t7 85 7 (0 : Int) → ∀ s10 : Mm, PnM t8 s10 → Mx s10) (l1 : ∀ t1 : Mm, t1 = si σ 85 2 (0 : Int) → m < (0 : Int) → P (-2) t1) (l2 : ∀ t1 : Mm, t1 = si σ 85 2 (0 : Int) → (0 : Int) ≤ m → m ≤ (gi σ 85 1) → ∀ t4 : Mm, t4 = si t1 85 6 m → ∀ t5 : Mm, t5 = si t4 85 1 (0 : Int) → ∀ t6 : Mm, t6 = si t5 85 4 (0 : Int) → ∀ t7 : Mm, t7 = si t6 85 5 (-1 : Int) → ∀ t8 : Mm, t8 = si t7 85 7 (0 : Int) → ∀ s10 : Mm, PnM t8 s10 → ∀ s13 : Mm, TkM s10 s13 → R 180 55 [some (vr 85), some (vi m), some (vi 0)] [] (shF n) 0 0 s13 (Qi (shF n) P)) (l3 : ∀ t1 : Mm, t1 = si σ 85 2 (0 : Int) → (0 : Int) ≤ m → (gi σ 85 1) < m → P (-2) t1) : Ci 180 [vr 85, vi m] (shF n) σ P :=
  show R 180 0 [some (vr 85), some (vi m), none] [] (shF n) 0 0 σ (Qi (shF n) P) from wpK_R 31 [55] (And.intro (fun q2 => And.intro ret0 ⟨rfl, _, rfl, (l1 _ rfl q2)⟩) (fun q2 => And.intro (fun q3 => (c_pn   (fun s10 h11 => (c_tkm  (o1 _ rfl (Int.not_lt.mp q2) q3 _ rfl _ rfl _ rfl _ rfl _ rfl s10 h11) (fun s13 h14 => (l2 _ rfl (Int.not_lt.mp q2) q3 _ rfl _ rfl _ rfl _ rfl _ rfl s10 h11 s13 h14)))))) (fun q3 => And.intro ret0 ⟨rfl, _, rfl, (l3 _ rfl (Int.not_lt.mp q2) (Int.not_le.mp q3))⟩)))
theorem v_tx {n : Nat}  (m : Int) (k : Int) {M1 : Mm → Prop} {M2 : Int → Mm → Prop} {σ : Mm} {P : Int → Mm → Prop} (o1 : (gi σ 85 8) = (0 : Int) → Cv 171 [vr 85] (shF n) σ M1) (o2 : (gi σ 85 8) ≠ (0 : Int) → Ci 179 [vr 85] (shF n) σ M2) (o3 : (gi σ 85 8) ≠ (0 : Int) → ∀ (v6 : Int) (s5 : Mm), M2 v6 s5 → v6 ≠ (0 : Int) → rg (k + 1)) (l1 : (gi σ 85 8) = (0 : Int) → ∀ s3 : Mm, M1 s3 → P k s3) (l2 : (gi σ 85 8) ≠ (0 : Int) → ∀ (v6 : Int) (s5 : Mm), M2 v6 s5 → v6 ≠ (0 : Int) → ∀ x9 : Int, x9 = k + 1 → R 180 55 [some (vr 85), some (vi m), some (vi x9)] [] (shF n) 0 0 s5 (Qi (shF n) P)) (l3 : (gi σ 85 8) ≠ (0 : Int) → ∀ (v6 : Int) (s5 : Mm), M2 v6 s5 → v6 = (0 : Int) → P (-1) s5) : R 180 55 [some (vr 85), some (vi m), some (vi k)] [] (shF n) 0 0 σ (Qi (shF n) P) :=
  wpK_R 9 [55] (And.intro (fun q1 => (Cv_mono (o1 q1) (fun s3 h2 => And.intro ret0 ⟨rfl, _, rfl, (l1 q1 s3 h2)⟩))) (fun q1 => (Ci_mono (o2 q1) (fun v6 s5 h4 => And.intro (fun q7 => (have k8 := (o3 q1 v6 s5 h4 q7); And.intro k8 ((l2 q1 v6 s5 h4 q7 _ rfl)))) (fun q7 => And.intro ret0 ⟨rfl, _, rfl, (l3 q1 v6 s5 h4 (Classical.not_not.mp q7))⟩)))))
theorem r_txS {n : Nat} {m : Int} {τ s ρ : Mm} {P : Int → Mm → Prop} (ht : TQ τ ρ) (hr : RD τ ρ) (h : LnR τ s) (h0 : gi s 37 12 = 0) (hs : gi s 21 4 = gi τ 21 4 + 1) (hk : 0 ≤ gi τ 21 4 ∧ gi τ 21 4 < 700) (hO : ∀ ρ', TQ s ρ' → RD s ρ' → kR ρ ρ' → R 180 55 [some (vr 85), some (vi m), some (vi (gi s 21 4))] [] (shF n) 0 0 ρ' (Qi (shF n) P)) : R 180 55 [some (vr 85), some (vi m), some (vi (gi τ 21 4))] [] (shF n) 0 0 ρ (Qi (shF n) P) := by
  have k0 := k0_c ht
  have hn := h.1
  refine v_tx m (gi τ 21 4) (M1 := fun _ => True) (M2 := fun v ρ' => (v = 0 ∧ FQ s ρ') ∨ (v = 1 ∧ TQ s ρ' ∧ RD s ρ' ∧ kR ρ ρ')) (by intros; first | (exfalso; omega) | (unfold rg; omega) | exact r_line ht hr h (fun ρ' a b => Or.inl ⟨rfl, a⟩) (fun ρ' a b c => Or.inr ⟨rfl, a, b, c⟩)) (by intros; first | (exfalso; omega) | (unfold rg; omega) | exact r_line ht hr h (fun ρ' a b => Or.inl ⟨rfl, a⟩) (fun ρ' a b c => Or.inr ⟨rfl, a, b, c⟩)) (by intros; first | (exfalso; omega) | (unfold rg; omega) | exact r_line ht hr h (fun ρ' a b => Or.inl ⟨rfl, a⟩) (fun ρ' a b c => Or.inr ⟨rfl, a, b, c⟩)) ?_ ?_ ?_
  · intro q; exfalso; omega
  · intro _ v ρ' a b x ex
    rcases a with a | ⟨-, a1, a2, a3⟩
    · exact absurd a.1 b
    · rw [← hs] at ex; subst ex; exact hO ρ' a1 a2 a3
  · intro _ v ρ' a b
    rcases a with ⟨-, a⟩ | ⟨a, -⟩
    · exact absurd h0 a.1
    · exfalso; omega
theorem r_txF {n : Nat} {m : Int} {τ s ρ : Mm} {P : Int → Mm → Prop} (ht : TQ τ ρ) (hr : RD τ ρ) (h : LnR τ s) (h0 : gi s 37 12 ≠ 0) (hF : ∀ ρ', FQ s ρ' → kR ρ ρ' → P (-1) ρ') (hk : 0 ≤ gi τ 21 4 ∧ gi τ 21 4 ≤ 700) : R 180 55 [some (vr 85), some (vi m), some (vi (gi τ 21 4))] [] (shF n) 0 0 ρ (Qi (shF n) P) := by
  have k0 := k0_c ht
  have hn := h.1
  refine v_tx m (gi τ 21 4) (M1 := fun _ => True) (M2 := fun v ρ' => (v = 0 ∧ FQ s ρ' ∧ kR ρ ρ') ∨ (v = 1 ∧ TQ s ρ')) (by intros; first | (exfalso; omega) | (unfold rg; omega) | exact r_line ht hr h (fun ρ' a b => Or.inl ⟨rfl, a, b⟩) (fun ρ' a b c => Or.inr ⟨rfl, a⟩)) (by intros; first | (exfalso; omega) | (unfold rg; omega) | exact r_line ht hr h (fun ρ' a b => Or.inl ⟨rfl, a, b⟩) (fun ρ' a b c => Or.inr ⟨rfl, a⟩)) (by intros; first | (exfalso; omega) | (unfold rg; omega) | exact r_line ht hr h (fun ρ' a b => Or.inl ⟨rfl, a, b⟩) (fun ρ' a b c => Or.inr ⟨rfl, a⟩)) ?_ ?_ ?_
  · intro q; exfalso; omega
  · intro _ v ρ' a b x ex
    rcases a with a | ⟨-, a⟩
    · exact absurd a.1 b
    · exact absurd a.2.2.2.2.2.2.2.1 h0
  · intro _ v ρ' a b
    rcases a with ⟨-, a1, a2⟩ | ⟨a, -⟩
    · exact hF ρ' a1 a2
    · exfalso; omega
theorem r_txE {n : Nat} {m : Int} {τ ρ : Mm} {P : Int → Mm → Prop} (ht : TQ τ ρ) (h : gi τ 37 10 = 0) (hP : Cv 171 [vr 85] (shF n) ρ (P (gi τ 21 4))) : R 180 55 [some (vr 85), some (vi m), some (vi (gi τ 21 4))] [] (shF n) 0 0 ρ (Qi (shF n) P) := by
  have k0 := k0_c ht
  refine v_tx m (gi τ 21 4) (M1 := P (gi τ 21 4)) (M2 := fun _ _ => True) (by intros; first | (exfalso; omega) | exact hP) (by intros; first | (exfalso; omega) | exact hP) (by intros; first | (exfalso; omega) | exact hP) ?_ ?_ ?_
  · intro q s3 h3; exact h3
  · intro q; exfalso; omega
  · intro q; exfalso; omega
theorem r_text {n : Nat} {m : Int} {σ s ρ : Mm} {P : Int → Mm → Prop} (rd : RdC m σ s) (hm : 0 ≤ m ∧ m ≤ 700) (hb : m ≤ gi ρ 85 1) (hw : ∀ i, i < 95 → gi ρ 87 i = cdW i) (hby : ∀ i : Nat, (i : Int) < m → (0 ≤ gi ρ 86 i ∧ gi ρ 86 i < 256) ∧ gi σ 4 i = b8 (gi ρ 86 i))
  (hF : ∀ ρ', FQ s ρ' → kT ρ ρ' → gi ρ' 85 1 = 0 → P (-1) ρ')
  (hO : ∀ ρ', gi s 37 12 = 0 → gi ρ' 85 4 = 0 → gi ρ' 85 5 = gi s 37 13 → RD s ρ' → kT ρ ρ' → gi ρ' 85 1 = 0 → Cv 171 [vr 85] (shF n) ρ' (P (gi s 21 4))) : Ci 180 [vr 85, vi m] (shF n) ρ P := by
  obtain ⟨s1, s2, bg, st, z0, en, kc⟩ := rd
  obtain ⟨t, b1, b2, b3, b4, b5, b6, b7, b8', b9⟩ := bg
  have z := Tk_in b2 b1
  have fs : ∀ a i, ¬ (a = 37 ∧ (8 ≤ i ∧ i ≤ 11)) → gi s1 a i = gi t a i := b1.1
  have hf : ∀ t8 : Mm, t8 = si (si (si (si (si (si ρ 85 2 0) 85 6 m) 85 1 0) 85 4 0) 85 5 (-1)) 85 7 0 → ∀ s10, PnM t8 s10 → (gi s10 85 6 = m ∧ gi s10 85 1 = 0 ∧ gi s10 85 4 = 0 ∧ gi s10 85 5 = -1 ∧ gi s10 85 7 = 0) ∧ kT ρ s10 := fun t8 e8 s10 p => by
    obtain ⟨p1, p2, p3, p4, p5⟩ := p
    refine ⟨⟨?_, ?_, ?_, ?_, ?_⟩, fun a i u v => ?_⟩
    · rw [p5 85 6 (by omega) (by omega) (by omega) (by omega), e8]; simp [gi_si]
    · rw [p5 85 1 (by omega) (by omega) (by omega) (by omega), e8]; simp [gi_si]
    · rw [p5 85 4 (by omega) (by omega) (by omega) (by omega), e8]; simp [gi_si]
    · rw [p5 85 5 (by omega) (by omega) (by omega) (by omega), e8]; simp [gi_si]
    · rw [p5 85 7 (by omega) (by omega) (by omega) (by omega), e8]; simp [gi_si]
    · unfold chM at u
      rw [p5 a i (by omega) (by omega) (by omega) (by omega), e8, gi_si, if_neg (by omega), gi_si, if_neg (by omega), gi_si, if_neg (by omega), gi_si, if_neg (by omega), gi_si, if_neg (by omega), gi_si, if_neg (by omega)]
  have hMx : ∀ s10 : Mm, gi s10 85 6 = m → gi s10 85 7 = 0 → kT ρ s10 → Mx s10 := fun s10 p q k => by
    unfold Mx
    rw [p, q]
    exact ⟨by omega, fun i hi => by rw [k 87 i (by unfold chM; omega) (by omega)]; exact hw i hi⟩
  refine v_tx_0 m (by intros; subst_vars; (have h1 := hf _ rfl _ (by assumption)); exact hMx _ h1.1.1 h1.1.2.2.2.2 h1.2) ?_ ?_ ?_
  · intro t1 e1 q; exfalso; omega
  · intro t1 e1 q1 q2 t4 e4 t5 e5 t6 e6 t7 e7 t8 e8 s10 pn s12 tm
    subst e7 e6 e5 e4 e1
    obtain ⟨⟨g6, g1, g4, g5, g7⟩, kt⟩ := hf t8 e8 s10 pn
    obtain ⟨p1, p2, p3, p4, p5⟩ := pn
    have tq : TQ s1 s12 := by
      refine TQ_pre b2 (hMx s10 g6 g7 kt) (by rw [g6, b6]) (fun i hi => ?_) (by rw [g7, b7]) b8' g4 (by rw [g5, b9]) b1 tm
      rw [b6] at hi
      rw [kt 86 i (by unfold chM; omega) (by omega), b3 4 i (by omega)]
      exact hby i (by omega)
    have fm : ∀ a i, ¬ (a = 85 ∧ (7 ≤ i ∧ i ≤ 10)) → gi s12 a i = gi s10 a i := tm.1
    have rd0 : RD s1 s12 := RD_fr (RD_0 b4 b5 p1 p2 p3 p4) (fun a i p _ => fs a i (by omega)) (fun a i p => fm a i (by omega))
    have kt1 : kT ρ s12 := kT_R kt (kR_fr tm.1)
    have z1 : gi s12 85 1 = 0 := by rw [fm 85 1 (by omega)]; exact g1
    have c4 : gi s1 21 4 = 0 := by rw [fs 21 4 (by omega)]; exact b4.2.2.2.2.1
    have li : LI s1 := by
      refine ⟨z.1, TkR_ti b2 b1, ?_, ?_⟩
      · obtain ⟨d0, d1, d2, d3, d4, d5, d6, d7, d8⟩ := b4
        exact Bk_eq (σ := t) (by unfold Bk4; omega) fun i _ => fs 21 i (by omega)
      · rw [fs 33 0 (by omega), fs 37 6 (by omega)]
        have := b4.2.2.2.2.2.2.2.1
        omega
    have key := st (fun τ => (LI τ ∧ (0 ≤ gi τ 21 4 ∧ gi τ 21 4 ≤ gi τ 37 9)) ∧ ((∀ ρ1, TQ τ ρ1 → RD τ ρ1 → kT ρ ρ1 → gi ρ1 85 1 = 0 → R 180 55 [some (vr 85), some (vi m), some (vi (gi τ 21 4))] [] (shF n) 0 0 ρ1 (Qi (shF n) P)) → R 180 55 [some (vr 85), some (vi m), some (vi 0)] [] (shF n) 0 0 s12 (Qi (shF n) P)))
      ⟨⟨li, by rw [c4]; have := z.2.1; have := z.2.2; omega⟩, fun H => by have := H s12 tq rd0 kt1 z1; rw [c4] at this; exact this⟩ (fun u1 u2 ⟨⟨i1, i2⟩, i3⟩ ln h0 => by
        obtain ⟨j1, j2, j3, j4⟩ := LnR_in i1 i2 ln h0
        refine ⟨⟨j1, j2⟩, fun H => i3 fun ρ1 a1 a2 a3 a4 => ?_⟩
        exact r_txS a1 a2 ln h0 j3 ⟨i2.1, j4⟩ fun ρ' c1 c2 c3 => H ρ' c1 c2 (kT_R a3 c3) (by rw [c3 85 1 (by unfold chM; omega)]; exact a4))
    obtain ⟨⟨i1, i2⟩, i3⟩ := key
    refine i3 fun ρ1 a1 a2 a3 a4 => ?_
    rcases en with ⟨e1, e2⟩ | ⟨e1, e2⟩
    · subst e2
      exact r_txE a1 e1 (hO ρ1 z0 a1.2.2.2.2.2.2.2.2.1 a1.2.2.2.2.2.2.2.2.2 a2 a3 a4)
    · have l1 := i1.1.1
      have l2 := i1.2.1.2.1
      exact r_txF a1 a2 e1 e2 (fun ρ' c1 c2 => hF ρ' c1 (kT_R a3 c2) (by rw [c2 85 1 (by unfold chM; omega)]; exact a4)) ⟨i2.1, by omega⟩
  · intro t1 e1 q1 q2; exfalso; omega
