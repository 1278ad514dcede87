/-! A LAW'S VALUE: the reference's side -/
/-- which knots lie on the stack behind m knots from a on, and how many -/
def hS (row : Nat → Int) (a : Nat) : Nat → (Nat → Int) × Nat
  | 0 => (fun _ => 0, 0)
  | m + 1 => if -7 ≤ row (a + m) then (upf (hS row a m).1 (hS row a m).2 ((a + m : Nat) : Int), (hS row a m).2 + 1)
    else if row (a + m) = -10 then (upf (hS row a m).1 ((hS row a m).2 - 1) ((a + m : Nat) : Int), (hS row a m).2)
    else (upf (hS row a m).1 ((hS row a m).2 - 2) ((a + m : Nat) : Int), (hS row a m).2 - 1)
/-- the knots from a on, M of them, are the row's -/
def KnR (row : Nat → Int) (σ : Mm) (off a M : Nat) : Prop := ∀ m, m < M →
  (row (a + m) < -7 → 1 ≤ (hS row a m).2) ∧ (row (a + m) < -7 → row (a + m) ≠ -10 → 2 ≤ (hS row a m).2) ∧
  ((0 ≤ row (a + m) ∧ row (a + m) ≤ 9999 ∧ gi σ 104 (off + a + m) = 0 ∧ gi σ 105 (off + a + m) = row (a + m)) ∨ (-7 ≤ row (a + m) ∧ row (a + m) < 0 ∧ gi σ 104 (off + a + m) = 1 ∧ gi σ 105 (off + a + m) = -1 - row (a + m)) ∨
   (row (a + m) = -10 ∧ gi σ 104 (off + a + m) = 2 ∧ gi σ 105 (off + a + m) = (hS row a m).1 ((hS row a m).2 - 1)) ∨
   (row (a + m) < -7 ∧ row (a + m) ≠ -10 ∧ -20 ≤ row (a + m) ∧ gi σ 104 (off + a + m) = opR (row (a + m)) ∧ gi σ 105 (off + a + m) = (hS row a m).1 ((hS row a m).2 - 2) ∧ gi σ 106 (off + a + m) = (hS row a m).1 ((hS row a m).2 - 1)))
theorem hS_in {row : Nat → Int} {σ : Mm} {off a M : Nat} (h : KnR row σ off a M) : ∀ m, m ≤ M → ∀ p, p < (hS row a m).2 → (a : Int) ≤ (hS row a m).1 p ∧ (hS row a m).1 p < (a : Int) + m := by
  intro m
  induction m with
  | zero => intro _ p hp; exact absurd hp (Nat.not_lt_zero _)
  | succ m ih =>
    intro hm p hp
    have ih := ih (by omega)
    have hk := h m (by omega)
    simp only [hS] at hp ⊢
    split
    · rename_i q
      rw [if_pos q] at hp
      simp only [upf] at hp ⊢
      split
      · omega
      · have := ih p (by omega); omega
    · rename_i q
      rw [if_neg q] at hp
      split
      · rename_i q2
        rw [if_pos q2] at hp
        simp only [upf] at hp ⊢
        split
        · omega
        · have := ih p (by omega); omega
      · rename_i q2
        rw [if_neg q2] at hp
        simp only [upf] at hp ⊢
        split
        · omega
        · have := ih p (by omega); omega
theorem v_lawOf_0 {n : Nat}  (w : Nat) {σ : Mm} {P : Int → Mm → Prop} (o1 : ∀ t1 : Mm, t1 = si σ 85 51 (0 : Int) → (0 ≤ (w : Int) ∧ (w : Int) < 6)) (l1 : ∀ t1 : Mm, t1 = si σ 85 51 (0 : Int) → ∀ x3 : Int, x3 = gi σ 102 w → R 207 12 [some (vr 85), some (vi (w : Int)), some (vi x3)] [] (shF n) 0 0 t1 (Ql (shF n) P)) : Cl 207 [vr 85, vi (w : Int)] (shF n) σ P :=
  show R 207 0 [some (vr 85), some (vi (w : Int)), none] [] (shF n) 0 0 σ (Ql (shF n) P) from wpK_R 9 [12] (And.intro (Or.inl rfl) ((have k2 := (o1 _ rfl); And.intro k2 ((l1 _ rfl _ rfl)))))
theorem v_lawOf_12 {n : Nat}  (w : Nat) (i : Nat) {M1 : Int → Mm → Prop} {σ : Mm} {P : Int → Mm → Prop} (o1 : (0 ≤ (w : Int) ∧ (w : Int) < 6)) (o2 : (gi σ 103 w) ≤ (i : Int) → (gi σ 85 51) = (0 : Int) → rg ((gi σ 103 w) - 1)) (o3 : (gi σ 103 w) ≤ (i : Int) → (gi σ 85 51) = (0 : Int) → (0 ≤ ((gi σ 103 w) - 1) ∧ ((gi σ 103 w) - 1) < 64)) (o4 : (i : Int) < (gi σ 103 w) → Cl 196 [vr 85, vi (i : Int)] (shF n) σ M1) (o5 : (i : Int) < (gi σ 103 w) → ∀ (v8 : Int) (s7 : Mm), M1 v8 s7 → (0 ≤ (i : Int) ∧ (i : Int) < 64)) (o6 : (i : Int) < (gi σ 103 w) → ∀ (v8 : Int) (s7 : Mm), M1 v8 s7 → ∀ t10 : Mm, t10 = sl s7 110 i v8 → rg ((i : Int) + 1)) (l1 : (gi σ 103 w) ≤ (i : Int) → (gi σ 85 51) = (0 : Int) → P (gl σ 110 ((gi σ 103 w) - 1).toNat) σ) (l2 : (gi σ 103 w) ≤ (i : Int) → (gi σ 85 51) ≠ (0 : Int) → P 0 σ) (l3 : (i : Int) < (gi σ 103 w) → ∀ (v8 : Int) (s7 : Mm), M1 v8 s7 → ∀ t10 : Mm, t10 = sl s7 110 i v8 → R 207 12 [some (vr 85), some (vi (w : Int)), some (vi ((i : Int) + 1))] [] (shF n) 0 0 t10 (Ql (shF n) P)) : R 207 12 [some (vr 85), some (vi (w : Int)), some (vi (i : Int))] [] (shF n) 0 0 σ (Ql (shF n) P) :=
  wpK_R 19 [12] ((have k1 := (o1); And.intro k1 (And.intro (fun q2 => And.intro (fun q3 => And.intro k1 ((have k4 := (o2 q2 q3); And.intro k4 ((have k5 := (o3 q2 q3); And.intro k5 (And.intro ret0 ⟨rfl, _, rfl, (l1 q2 q3)⟩)))))) (fun q3 => And.intro ret0 ⟨rfl, _, rfl, (l2 q2 q3)⟩)) (fun q2 => (Cl_mono (o4 (Int.not_le.mp q2)) (fun v8 s7 h6 => (have k9 := (o5 (Int.not_le.mp q2) v8 s7 h6); And.intro k9 ((have k11 := (o6 (Int.not_le.mp q2) v8 s7 h6 _ rfl); And.intro k11 ((l3 (Int.not_le.mp q2) v8 s7 h6 _ rfl)))))))))))
theorem hS_top {row : Nat → Int} {σ : Mm} {off a M m : Nat} (h : KnR row σ off a M) (hm : m < M) : (hS row a (m + 1)).1 ((hS row a (m + 1)).2 - 1) = ((a + m : Nat) : Int) := by
  have hk := h m hm
  simp only [hS]
  split
  · simp [upf]
  · split
    · simp [upf]
    · have : 2 ≤ (hS row a m).2 := hk.2.1 (by omega) (by assumption)
      simp only [upf]
      rw [if_pos (by omega)]
def LawR (T : Nat → Nat → Int) (σ : Mm) (w : Nat) : Prop := gi σ 101 w = b2i (decide (T 14 w < T 15 w)) ∧ (T 14 w < T 15 w → gi σ 102 w = T 14 w ∧ gi σ 103 w = T 15 w ∧ KnR (T 13) σ 0 (T 14 w).toNat (T 15 w - T 14 w).toNat ∧ (hS (T 13) (T 14 w).toNat (T 15 w - T 14 w).toNat).2 = 1)
def Lp (σ σ' : Mm) (v : Int) (o : Option Int) : Prop := (∀ a b, ¬ (a = 85 ∧ b = 51) → gi σ' a b = gi σ a b) ∧ (∀ a b, a ≠ 110 → gl σ' a b = gl σ a b) ∧ ((gi σ' 85 51 = 0 ∧ o = some v) ∨ (gi σ' 85 51 = 1 ∧ o = none ∧ v = 0))
theorem evS_step {row seen : Nat → Int} {m i : Nat} {s : Nat → Int} {top : Nat} (h1 : row i < -7 → 1 ≤ top) (h2 : row i < -7 → row i ≠ -10 → 2 ≤ top) : evS row seen (m + 1) i s top = match vO (row i) seen (if row i = -10 then s (top - 1) else s (top - 2)) (s (top - 1)) with
    | none => none
    | some v => if -7 ≤ row i then evS row seen m (i + 1) (upf s top v) (top + 1) else if row i = -10 then evS row seen m (i + 1) (upf s (top - 1) v) top else evS row seen m (i + 1) (upf s (top - 2) v) (top - 1) := by
  simp only [evS, vO]
  split
  · rfl
  · rename_i q
    split
    · rename_i q2
      have := h1 (by omega)
      rw [if_neg (by omega)]
    · rename_i q2
      have := h2 (by omega) q2
      rw [if_neg (by omega)]
      rfl
theorem c_lawOf {n w : Nat} {T : Nat → Nat → Int} {σ : Mm} {P : Int → Mm → Prop} (hw : w < 3) (hL : LawR T σ w) (ht : T 14 w < T 15 w) (h0 : 0 ≤ T 14 w) (h64 : T 15 w ≤ 64) (hn : ∀ q, q < 7 → inR (gl σ 109 q)) (hP : ∀ v σ', Lp σ σ' v (evT T w (gl σ 109)) → P v σ') : Cl 207 [vr 85, vi (w : Int)] (shF n) σ P := by
  obtain ⟨-, hL⟩ := hL
  obtain ⟨l1, l2, l3, l4⟩ := hL ht
  obtain ⟨a, haa⟩ := Int.eq_ofNat_of_zero_le h0
  obtain ⟨M, hM⟩ : ∃ M, M = (T 15 w - T 14 w).toNat := ⟨_, rfl⟩
  have hMa : T 15 w = ((a + M : Nat) : Int) := by omega
  obtain ⟨E, hE⟩ : ∃ E, E = evT T w (gl σ 109) := ⟨_, rfl⟩
  rw [← hE] at hP
  unfold evT at hE
  rw [← hM, haa, Int.toNat_natCast] at hE l3 l4
  generalize hrow : T 13 = row at *
  refine v_lawOf_0 w (by intros; first | omega | (unfold rg; omega) | (subst_vars; simp only [gi_si, gi_sl, gl_si, gl_sl]; first | omega | (unfold rg; omega))) ?_
  intro t ht1 x3 hx3
  have hx3' : x3 = ((a + 0 : Nat) : Int) := by rw [hx3, l1, haa]; rfl
  rw [hx3']
  refine loopUp (N := M) (I := fun m => ∀ τ : Mm, (∀ a b, ¬ (a = 85 ∧ b = 51) → gi τ a b = gi σ a b) → (∀ a b, a ≠ 110 → gl τ a b = gl σ a b) → (gi τ 85 51 = 0 ∨ gi τ 85 51 = 1) → (∀ j : Nat, a ≤ j → j < a + m → inR (gl τ 110 j)) → (gi τ 85 51 = 0 → evS row (gl σ 109) (M - m) (a + m) (fun p => gl τ 110 ((hS row a m).1 p).toNat) (hS row a m).2 = E) → (gi τ 85 51 = 1 → E = none) → R 207 12 [some (vr 85), some (vi (w : Int)), some (vi ((a + m : Nat) : Int))] [] (shF n) 0 0 τ (Ql (shF n) P)) (fun m hm ih => ?_) 0 (by omega) t (fun a b h => by rw [ht1, gi_si, if_neg h]) (fun a b h => by rw [ht1, gl_si]) (Or.inl (by rw [ht1, gi_hit])) (fun j h1 h2 => by omega) (fun _ => by rw [hE]; exact evS_cong _ _ _ _ _ _ _ (fun p hp => absurd hp (Nat.not_lt_zero _))) (fun h => by rw [ht1, gi_hit] at h; omega)
  intro τ e1 e2 e3 e4 e5 e6
  have g103 : gi τ 103 w = ((a + M : Nat) : Int) := by rw [e1 _ _ (by omega), l2, hMa]
  have hkn := l3
  have hlt : m < M → (row (a + m) < -7 → 1 ≤ (hS row a m).2) ∧ (row (a + m) < -7 → row (a + m) ≠ -10 → 2 ≤ (hS row a m).2) := fun h => ⟨(l3 m h).1, (l3 m h).2.1⟩
  have hin := hS_in l3 m hm
  have hval : m < M → Cl 196 [vr 85, vi ((a + m : Nat) : Int)] (shF n) τ (fun v s => Vp τ s v (vO (row (a + m)) (gl τ 109) (gl τ 110 (if row (a + m) = -10 then ((hS row a m).1 ((hS row a m).2 - 1)).toNat else ((hS row a m).1 ((hS row a m).2 - 2)).toNat)) (gl τ 110 ((hS row a m).1 ((hS row a m).2 - 1)).toNat))) := fun hmM => by
    have hk := l3 m hmM
    simp only [Nat.zero_add] at hk
    obtain ⟨hk1, hk2, hk3⟩ := hk
    have hb1 : row (a + m) < -7 → (a : Int) ≤ (hS row a m).1 ((hS row a m).2 - 1) ∧ (hS row a m).1 ((hS row a m).2 - 1) < (a : Int) + m := fun h => hin _ (by have := hk1 h; omega)
    have hb2 : row (a + m) < -7 → row (a + m) ≠ -10 → (a : Int) ≤ (hS row a m).1 ((hS row a m).2 - 2) ∧ (hS row a m).1 ((hS row a m).2 - 2) < (a : Int) + m := fun h h' => hin _ (by have := hk2 h h'; omega)
    refine c_valueOf (k := a + m) (by omega) ?_ (fun q hq => by rw [e2 _ _ (by omega)]; exact hn q hq) (fun h => ?_) (fun h h' => ?_) (fun v s h => h)
    · unfold KnD
      rw [e1 104 _ (by omega), e1 105 _ (by omega), e1 106 _ (by omega)]
      rcases hk3 with h | h | h | h
      · exact Or.inl h
      · exact Or.inr (Or.inl h)
      · have := hb1 (by omega)
        refine Or.inr (Or.inr (Or.inl ⟨h.1, h.2.1, ?_, ?_⟩))
        · rw [if_pos h.1, h.2.2]; omega
        · rw [if_pos h.1]; omega
      · have := hb1 (by omega)
        have := hb2 (by omega) h.2.1
        refine Or.inr (Or.inr (Or.inr ⟨h.1, h.2.1, h.2.2.1, h.2.2.2.1, ?_, ?_, ?_, ?_⟩))
        · rw [if_neg h.2.1, h.2.2.2.2.1]; omega
        · rw [h.2.2.2.2.2]; omega
        · rw [if_neg h.2.1]; omega
        · omega
    · split
      · have := hb1 h; exact e4 _ (by omega) (by omega)
      · rename_i h'; have := hb2 h h'; exact e4 _ (by omega) (by omega)
    · have := hb1 h; exact e4 _ (by omega) (by omega)
  refine v_lawOf_12 w (a + m) (M1 := fun v s => Vp τ s v (vO (row (a + m)) (gl τ 109) (gl τ 110 (if row (a + m) = -10 then ((hS row a m).1 ((hS row a m).2 - 1)).toNat else ((hS row a m).1 ((hS row a m).2 - 2)).toNat)) (gl τ 110 ((hS row a m).1 ((hS row a m).2 - 1)).toNat))) (by intros; first | omega | (unfold rg; omega) | exact hval (by omega)) (by intros; first | omega | (unfold rg; omega) | exact hval (by omega)) (by intros; first | omega | (unfold rg; omega) | exact hval (by omega)) (by intros; first | omega | (unfold rg; omega) | exact hval (by omega)) (by intros; first | omega | (unfold rg; omega) | exact hval (by omega)) (by intros; first | omega | (unfold rg; omega) | exact hval (by omega)) ?_ ?_ ?_
  · intro h1 h2
    have hmM : m = M := by omega
    subst hmM
    have e5 := e5 h2
    rw [Nat.sub_self] at e5
    simp only [evS, l4, if_true] at e5
    obtain ⟨m', hm'⟩ : ∃ m', m = m' + 1 := ⟨m - 1, by omega⟩
    have htop := hS_top l3 (m := m') (by omega)
    rw [← hm', l4] at htop
    refine hP _ _ ⟨e1, e2, Or.inl ⟨h2, ?_⟩⟩
    rw [← e5, show (1 : Nat) - 1 = 0 from rfl] at *
    rw [htop, g103]
    congr 2
    omega
  · intro h1 h2
    exact hP _ _ ⟨e1, e2, Or.inr ⟨by omega, e6 (by omega), rfl⟩⟩
  · intro h1 v s hv t ht'
    have hmM : m < M := by omega
    obtain ⟨v1, v2, v3, v4, v5⟩ := hv
    subst ht'
    have hk := l3 m hmM
    obtain ⟨hk1, hk2, -⟩ := hk
    have gsl : ∀ j, gl (sl s 110 (a + m) v) 110 j = if j = a + m then v else gl τ 110 j := fun j => by
      rw [gl_same]; split
      · rfl
      · show s.2 110 j = _; rw [v1]; rfl
    refine ih hmM _ (fun x y h => by rw [gi_sl, v2 x y h]; exact e1 x y h) (fun x y h => by rw [gl_ne h]; show s.2 x y = _; rw [v1]; exact e2 x y h) ?_ (fun j p q => ?_) ?_ ?_
    · rw [gi_sl]
      rcases e3 with e3 | e3
      · rcases v4 e3 with q | q
        · exact Or.inl q.2
        · exact Or.inr q.2
      · exact Or.inr (v5 e3)
    · rw [gsl]
      split
      · exact v3
      · exact e4 j p (by omega)
    · rw [gi_sl]
      intro hz
      have e30 : gi τ 85 51 = 0 := by
        rcases e3 with e3 | e3
        · exact e3
        · have := v5 e3; omega
      rcases v4 e30 with ⟨q, -⟩ | ⟨-, q⟩
      · have e5 := e5 e30
        rw [show M - m = (M - (m + 1)) + 1 by omega, evS_step hk1 hk2] at e5
        have hnm : gl τ 109 = gl σ 109 := funext fun y => e2 109 y (by omega)
        have hcond : (if row (a + m) = -10 then gl τ 110 ((hS row a m).1 ((hS row a m).2 - 1)).toNat else gl τ 110 ((hS row a m).1 ((hS row a m).2 - 2)).toNat) = gl τ 110 (if row (a + m) = -10 then ((hS row a m).1 ((hS row a m).2 - 1)).toNat else ((hS row a m).1 ((hS row a m).2 - 2)).toNat) := by split <;> rfl
        rw [hnm] at q
        simp only [hcond, q] at e5
        rw [← e5]
        have hp0 : ∀ p, p < (hS row a m).2 → ((hS row a m).1 p).toNat ≠ a + m := fun p hp => by have := hin p hp; omega
        have ham : (((a + m : Nat) : Int)).toNat = a + m := Int.toNat_natCast _
        simp only [hS]
        split
        · refine evS_cong _ _ _ _ _ _ _ fun p hp => ?_
          simp only [upf]
          by_cases hpt : p = (hS row a m).2
          · rw [if_pos hpt, if_pos hpt, gsl, ham, if_pos rfl]
          · rw [if_neg hpt, if_neg hpt, gsl, if_neg (hp0 p (by omega))]
        · split
          · have hk1 := hk1 (by omega)
            refine evS_cong _ _ _ _ _ _ _ fun p hp => ?_
            simp only [upf]
            by_cases hpt : p = (hS row a m).2 - 1
            · rw [if_pos hpt, if_pos hpt, gsl, ham, if_pos rfl]
            · rw [if_neg hpt, if_neg hpt, gsl, if_neg (hp0 p hp)]
          · have hk2 := hk2 (by omega) (by assumption)
            refine evS_cong _ _ _ _ _ _ _ fun p hp => ?_
            simp only [upf]
            by_cases hpt : p = (hS row a m).2 - 2
            · rw [if_pos hpt, if_pos hpt, gsl, ham, if_pos rfl]
            · rw [if_neg hpt, if_neg hpt, gsl, if_neg (hp0 p (by have : p < (hS row a m).2 - 1 := hp; omega))]
      · omega
    · rw [gi_sl]
      intro hz
      rcases e3 with e3 | e3
      · rcases v4 e3 with ⟨-, q⟩ | ⟨q, -⟩
        · omega
        · have e5 := e5 e3
          rw [show M - m = (M - (m + 1)) + 1 by omega, evS_step hk1 hk2] at e5
          have hnm : gl τ 109 = gl σ 109 := funext fun y => e2 109 y (by omega)
          have hcond : (if row (a + m) = -10 then gl τ 110 ((hS row a m).1 ((hS row a m).2 - 1)).toNat else gl τ 110 ((hS row a m).1 ((hS row a m).2 - 2)).toNat) = gl τ 110 (if row (a + m) = -10 then ((hS row a m).1 ((hS row a m).2 - 1)).toNat else ((hS row a m).1 ((hS row a m).2 - 2)).toNat) := by split <;> rfl
          rw [hnm] at q
          simp only [hcond, q] at e5
          exact e5.symm
      · exact e6 e3
