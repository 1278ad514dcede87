/-! QUERIES over the mind: leans -/
def alB (p : Nat → Bool) : Nat → Bool
  | 0 => true
  | k + 1 => alB p k && p k
theorem alB_no {p : Nat → Bool} {k : Nat} (hp : p k = false) : ∀ {n : Nat}, k < n → alB p n = false := by
  intro n
  induction n with
  | zero => intro h; omega
  | succ n ih =>
    intro h
    simp only [alB]
    by_cases q : k = n
    · rw [← q, hp, Bool.and_false]
    · rw [ih (by omega), Bool.false_and]
def saidB (T V : Nat → Nat → Int) (j l : Int) (c : Nat) : Bool := if V 1 c = j ∧ V 3 c ≠ -1 then decide (b2i (sayS T (nmZ l (T 3 j.toNat) (T 7 c) 0 (moT T (T 6 c)) (T 6 c)) (thinkS T (nmZ l (T 3 j.toNat) (T 7 c) 0 (moT T (T 6 c)) (T 6 c)))) = V 3 c) else true
def asP (σ : Mm) (j l : Int) : Prop := ∃ xs N, Rel xs N σ ∧ (0 ≤ j ∧ j < gi σ 5 0) ∧ 0 ≤ l ∧ l ≤ 99
theorem b2i_or {b : Bool} : b2i b = 0 ∨ b2i b = 1 := by cases b <;> simp [b2i]
theorem b2f {b : Bool} (h : b2i b = 0) : b = false := by cases b with | true => exact absurd h (by decide) | false => rfl
theorem b2t {b : Bool} (h : b2i b ≠ 0) : b = true := by cases b with | true => rfl | false => exact absurd rfl h
theorem orF_n {p : Nat → Bool} {k : Nat} (h : p k = false) : orF p (k + 1) = orF p k := by simp only [orF]; rw [if_neg (by rw [h]; exact Bool.false_ne_true)]
theorem orF_y {p : Nat → Bool} {k : Nat} (h : p k = true) : orF p (k + 1) = oor (orF p k) (oshl 1 (k : Int)) := by simp only [orF]; rw [if_pos h]
theorem decb {b : Bool} : decide (b2i b = 1) = b := by cases b <;> rfl
theorem v_asd_0 {n : Nat}  (j : Int) (l : Int) {σ : Mm} {P : Int → Mm → Prop} (l1 : R 147 2 [some (vr 3), some (vi j), some (vi l), some (vi 0), none, none] [] (shF n) 0 0 σ (Qi (shF n) P)) : Ci 147 [vr 3, vi j, vi l] (shF n) σ P :=
  show R 147 0 [some (vr 3), some (vi j), some (vi l), none, none, none] [] (shF n) 0 0 σ (Qi (shF n) P) from wpK_R 3 [2] ((l1))
theorem v_asd_L {n : Nat}  (j : Int) (l : Int) (i : Nat) (a : Option PV) (b : Option PV) {σ : Mm} {P : Int → Mm → Prop} (o1 : (i : Int) < (gi σ 5 1) → (0 ≤ (i : Int) ∧ (i : Int) < 10)) (o2 : (i : Int) < (gi σ 5 1) → (gi σ 41 i) ≠ j → rg ((i : Int) + 1)) (o3 : (i : Int) < (gi σ 5 1) → (gi σ 41 i) = j → (gi σ 43 i) = (-1 : Int) → rg ((i : Int) + 1)) (o4 : (i : Int) < (gi σ 5 1) → (gi σ 41 i) = j → (gi σ 43 i) ≠ (-1 : Int) → ∀ x7 : Int, x7 = gi σ 11 i → (0 ≤ j ∧ j < 5)) (o5 : (i : Int) < (gi σ 5 1) → (gi σ 41 i) = j → (gi σ 43 i) ≠ (-1 : Int) → ∀ x7 : Int, x7 = gi σ 11 i → 0 ≤ x7) (o6 : (i : Int) < (gi σ 5 1) → (gi σ 41 i) = j → (gi σ 43 i) ≠ (-1 : Int) → ∀ x7 : Int, x7 = gi σ 11 i → gi σ 5 3 ≤ 8) (o7 : (i : Int) < (gi σ 5 1) → (gi σ 41 i) = j → (gi σ 43 i) ≠ (-1 : Int) → ∀ x7 : Int, x7 = gi σ 11 i → ∀ x9 : Int, x9 = moT (vw σ 5) x7 → (0 ≤ l ∧ l ≤ 99)) (o8 : (i : Int) < (gi σ 5 1) → (gi σ 41 i) = j → (gi σ 43 i) ≠ (-1 : Int) → ∀ x7 : Int, x7 = gi σ 11 i → ∀ x9 : Int, x9 = moT (vw σ 5) x7 → (0 ≤ (gi σ 12 i) ∧ (gi σ 12 i) ≤ 99)) (o9 : (i : Int) < (gi σ 5 1) → (gi σ 41 i) = j → (gi σ 43 i) ≠ (-1 : Int) → ∀ x7 : Int, x7 = gi σ 11 i → ∀ x9 : Int, x9 = moT (vw σ 5) x7 → ∀ s11 : Mm, Se σ s11 (nmZ l (gi σ 8 j.toNat) (gi σ 12 i) (0 : Int) x9 x7) → LwOK s11) (o10 : (i : Int) < (gi σ 5 1) → (gi σ 41 i) = j → (gi σ 43 i) ≠ (-1 : Int) → ∀ x7 : Int, x7 = gi σ 11 i → ∀ x9 : Int, x9 = moT (vw σ 5) x7 → ∀ s11 : Mm, Se σ s11 (nmZ l (gi σ 8 j.toNat) (gi σ 12 i) (0 : Int) x9 x7) → ∀ x16 : Int, x16 = b2i (thinkS (vw s11 5) (gi s11 68)) → ∀ s14 : Mm, Mk s11 s14 → LwOK s14) (o11 : (i : Int) < (gi σ 5 1) → (gi σ 41 i) = j → (gi σ 43 i) ≠ (-1 : Int) → ∀ x7 : Int, x7 = gi σ 11 i → ∀ x9 : Int, x9 = moT (vw σ 5) x7 → ∀ s11 : Mm, Se σ s11 (nmZ l (gi σ 8 j.toNat) (gi σ 12 i) (0 : Int) x9 x7) → ∀ x16 : Int, x16 = b2i (thinkS (vw s11 5) (gi s11 68)) → ∀ s14 : Mm, Mk s11 s14 → (x16 = 0 ∨ x16 = 1)) (o12 : (i : Int) < (gi σ 5 1) → (gi σ 41 i) = j → (gi σ 43 i) ≠ (-1 : Int) → ∀ x7 : Int, x7 = gi σ 11 i → ∀ x9 : Int, x9 = moT (vw σ 5) x7 → ∀ s11 : Mm, Se σ s11 (nmZ l (gi σ 8 j.toNat) (gi σ 12 i) (0 : Int) x9 x7) → ∀ x16 : Int, x16 = b2i (thinkS (vw s11 5) (gi s11 68)) → ∀ s14 : Mm, Mk s11 s14 → ∀ x20 : Int, x20 = b2i (sayS (vw s14 5) (gi s14 68) (decide (x16 = 1))) → ∀ s18 : Mm, Mk s14 s18 → (gi s18 43 i) ≠ (1 : Int) → x20 = (0 : Int) → rg ((i : Int) + 1)) (o13 : (i : Int) < (gi σ 5 1) → (gi σ 41 i) = j → (gi σ 43 i) ≠ (-1 : Int) → ∀ x7 : Int, x7 = gi σ 11 i → ∀ x9 : Int, x9 = moT (vw σ 5) x7 → ∀ s11 : Mm, Se σ s11 (nmZ l (gi σ 8 j.toNat) (gi σ 12 i) (0 : Int) x9 x7) → ∀ x16 : Int, x16 = b2i (thinkS (vw s11 5) (gi s11 68)) → ∀ s14 : Mm, Mk s11 s14 → ∀ x20 : Int, x20 = b2i (sayS (vw s14 5) (gi s14 68) (decide (x16 = 1))) → ∀ s18 : Mm, Mk s14 s18 → (gi s18 43 i) = (1 : Int) → x20 = (1 : Int) → rg ((i : Int) + 1)) (l1 : (gi σ 5 1) ≤ (i : Int) → P 1 σ) (l2 : (i : Int) < (gi σ 5 1) → (gi σ 41 i) ≠ j → R 147 2 [some (vr 3), some (vi j), some (vi l), some (vi ((i : Int) + 1)), a, b] [] (shF n) 0 0 σ (Qi (shF n) P)) (l3 : (i : Int) < (gi σ 5 1) → (gi σ 41 i) = j → (gi σ 43 i) = (-1 : Int) → R 147 2 [some (vr 3), some (vi j), some (vi l), some (vi ((i : Int) + 1)), a, b] [] (shF n) 0 0 σ (Qi (shF n) P)) (l4 : (i : Int) < (gi σ 5 1) → (gi σ 41 i) = j → (gi σ 43 i) ≠ (-1 : Int) → ∀ x7 : Int, x7 = gi σ 11 i → ∀ x9 : Int, x9 = moT (vw σ 5) x7 → ∀ s11 : Mm, Se σ s11 (nmZ l (gi σ 8 j.toNat) (gi σ 12 i) (0 : Int) x9 x7) → ∀ x16 : Int, x16 = b2i (thinkS (vw s11 5) (gi s11 68)) → ∀ s14 : Mm, Mk s11 s14 → ∀ x20 : Int, x20 = b2i (sayS (vw s14 5) (gi s14 68) (decide (x16 = 1))) → ∀ s18 : Mm, Mk s14 s18 → (gi s18 43 i) ≠ (1 : Int) → x20 = (0 : Int) → R 147 2 [some (vr 3), some (vi j), some (vi l), some (vi ((i : Int) + 1)), some (vi x7), some (vi x20)] [] (shF n) 0 0 s18 (Qi (shF n) P)) (l5 : (i : Int) < (gi σ 5 1) → (gi σ 41 i) = j → (gi σ 43 i) ≠ (-1 : Int) → ∀ x7 : Int, x7 = gi σ 11 i → ∀ x9 : Int, x9 = moT (vw σ 5) x7 → ∀ s11 : Mm, Se σ s11 (nmZ l (gi σ 8 j.toNat) (gi σ 12 i) (0 : Int) x9 x7) → ∀ x16 : Int, x16 = b2i (thinkS (vw s11 5) (gi s11 68)) → ∀ s14 : Mm, Mk s11 s14 → ∀ x20 : Int, x20 = b2i (sayS (vw s14 5) (gi s14 68) (decide (x16 = 1))) → ∀ s18 : Mm, Mk s14 s18 → (gi s18 43 i) ≠ (1 : Int) → x20 ≠ (0 : Int) → P 0 s18) (l6 : (i : Int) < (gi σ 5 1) → (gi σ 41 i) = j → (gi σ 43 i) ≠ (-1 : Int) → ∀ x7 : Int, x7 = gi σ 11 i → ∀ x9 : Int, x9 = moT (vw σ 5) x7 → ∀ s11 : Mm, Se σ s11 (nmZ l (gi σ 8 j.toNat) (gi σ 12 i) (0 : Int) x9 x7) → ∀ x16 : Int, x16 = b2i (thinkS (vw s11 5) (gi s11 68)) → ∀ s14 : Mm, Mk s11 s14 → ∀ x20 : Int, x20 = b2i (sayS (vw s14 5) (gi s14 68) (decide (x16 = 1))) → ∀ s18 : Mm, Mk s14 s18 → (gi s18 43 i) = (1 : Int) → x20 = (1 : Int) → R 147 2 [some (vr 3), some (vi j), some (vi l), some (vi ((i : Int) + 1)), some (vi x7), some (vi x20)] [] (shF n) 0 0 s18 (Qi (shF n) P)) (l7 : (i : Int) < (gi σ 5 1) → (gi σ 41 i) = j → (gi σ 43 i) ≠ (-1 : Int) → ∀ x7 : Int, x7 = gi σ 11 i → ∀ x9 : Int, x9 = moT (vw σ 5) x7 → ∀ s11 : Mm, Se σ s11 (nmZ l (gi σ 8 j.toNat) (gi σ 12 i) (0 : Int) x9 x7) → ∀ x16 : Int, x16 = b2i (thinkS (vw s11 5) (gi s11 68)) → ∀ s14 : Mm, Mk s11 s14 → ∀ x20 : Int, x20 = b2i (sayS (vw s14 5) (gi s14 68) (decide (x16 = 1))) → ∀ s18 : Mm, Mk s14 s18 → (gi s18 43 i) = (1 : Int) → x20 ≠ (1 : Int) → P 0 s18) : R 147 2 [some (vr 3), some (vi j), some (vi l), some (vi (i : Int)), a, b] [] (shF n) 0 0 σ (Qi (shF n) P) :=
  wpK_R 72 [2] (And.intro (fun q1 => And.intro ret0 (And.intro (Or.inr rfl) ⟨rfl, _, rfl, (l1 q1)⟩)) (fun q1 => (have k2 := (o1 (Int.not_le.mp q1)); And.intro k2 (And.intro (fun q3 => (have k4 := (o2 (Int.not_le.mp q1) q3); And.intro k4 ((l2 (Int.not_le.mp q1) q3)))) (fun q3 => And.intro k2 (And.intro (fun q5 => (have k6 := (o3 (Int.not_le.mp q1) (Classical.not_not.mp q3) q5); And.intro k6 ((l3 (Int.not_le.mp q1) (Classical.not_not.mp q3) q5)))) (fun q5 => And.intro k2 ((have k8 := (o4 (Int.not_le.mp q1) (Classical.not_not.mp q3) q5 _ rfl); And.intro k8 (And.intro k2 ((c_moist  (o5 (Int.not_le.mp q1) (Classical.not_not.mp q3) q5 _ rfl) (o6 (Int.not_le.mp q1) (Classical.not_not.mp q3) q5 _ rfl) ((c_see  (o7 (Int.not_le.mp q1) (Classical.not_not.mp q3) q5 _ rfl _ rfl) (o8 (Int.not_le.mp q1) (Classical.not_not.mp q3) q5 _ rfl _ rfl) (fun s11 h12 => (c_thinks  (o9 (Int.not_le.mp q1) (Classical.not_not.mp q3) q5 _ rfl _ rfl s11 h12) (fun s14 h15 => (c_says  (o10 (Int.not_le.mp q1) (Classical.not_not.mp q3) q5 _ rfl _ rfl s11 h12 _ rfl s14 h15) (o11 (Int.not_le.mp q1) (Classical.not_not.mp q3) q5 _ rfl _ rfl s11 h12 _ rfl s14 h15) (fun s18 h19 => And.intro k2 (And.intro (fun q21 => And.intro (fun q22 => (have k23 := (o12 (Int.not_le.mp q1) (Classical.not_not.mp q3) q5 _ rfl _ rfl s11 h12 _ rfl s14 h15 _ rfl s18 h19 q21 q22); And.intro k23 ((l4 (Int.not_le.mp q1) (Classical.not_not.mp q3) q5 _ rfl _ rfl s11 h12 _ rfl s14 h15 _ rfl s18 h19 q21 q22)))) (fun q22 => And.intro ret0 (And.intro (Or.inl rfl) ⟨rfl, _, rfl, (l5 (Int.not_le.mp q1) (Classical.not_not.mp q3) q5 _ rfl _ rfl s11 h12 _ rfl s14 h15 _ rfl s18 h19 q21 q22)⟩))) (fun q21 => And.intro (fun q24 => (have k25 := (o13 (Int.not_le.mp q1) (Classical.not_not.mp q3) q5 _ rfl _ rfl s11 h12 _ rfl s14 h15 _ rfl s18 h19 (Classical.not_not.mp q21) q24); And.intro k25 ((l6 (Int.not_le.mp q1) (Classical.not_not.mp q3) q5 _ rfl _ rfl s11 h12 _ rfl s14 h15 _ rfl s18 h19 (Classical.not_not.mp q21) q24)))) (fun q24 => And.intro ret0 (And.intro (Or.inl rfl) ⟨rfl, _, rfl, (l7 (Int.not_le.mp q1) (Classical.not_not.mp q3) q5 _ rfl _ rfl s11 h12 _ rfl s14 h15 _ rfl s18 h19 (Classical.not_not.mp q21) q24)⟩)))))))))))))))))))))))
theorem c_asd {n : Nat} {j l : Int} {σ : Mm} {P : Int → Mm → Prop} (hp : asP σ j l) (hP : ∀ s, ScX σ s → P (b2i (alB (saidB (vw σ 5) (wv σ 40) j l) (gi σ 5 1).toNat)) s) : Ci 147 [vr 3, vi j, vi l] (shF n) σ P := by
  obtain ⟨xs, N, h, hj, hl⟩ := hp
  obtain ⟨c0, c1, c2, c3, c5, d0, d1, d2, d3, -⟩ := Rel_cnt h
  have hb := h.2.2.2.2.1
  refine v_asd_0 j l ?_
  suffices hI : ∀ (τ : Mm) (a b : Option PV), ScX σ τ → alB (saidB (vw σ 5) (wv σ 40) j l) 0 = true → R 147 2 [some (vr 3), some (vi j), some (vi l), some (vi ((0 : Nat) : Int)), a, b] [] (shF n) 0 0 τ (Qi (shF n) P) from hI σ none none (ScX.rf σ) rfl
  refine loopUp (N := (gi σ 5 1).toNat) (I := fun i => ∀ (τ : Mm) (a b : Option PV), ScX σ τ → alB (saidB (vw σ 5) (wv σ 40) j l) i = true → R 147 2 [some (vr 3), some (vi j), some (vi l), some (vi (i : Int)), a, b] [] (shF n) 0 0 τ (Qi (shF n) P)) (fun i hi ih => ?_) 0 (by omega)
  intro τ a b hs hal
  have kk : ∀ a i, kpX a → gi τ a i = gi σ a i := fun a i p => hs a i (Or.inl p)
  have g5 := kk 5 1 (by unfold kpX; omega)
  have g41 := kk 41 i (by unfold kpX; omega)
  have g43 := kk 43 i (by unfold kpX; omega)
  have g8 := kk 8 j.toNat (by unfold kpX; omega)
  have g12 := kk 12 i (by unfold kpX; omega)
  have g11 := kk 11 i (by unfold kpX; omega)
  have g50 := kk 5 0 (by unfold kpX; omega)
  have g53 := kk 5 3 (by unfold kpX; omega)
  have hc := fun q : (i : Int) < gi σ 5 1 => Rel_c h q
  have hw := fun q : (i : Int) < gi σ 5 1 => Rel_w10 h (c := i) (by omega)
  have hbT : BkOK (vw τ 5) := by rw [hs.T]; exact hb
  have hval : ∀ (x7 x9 x16 x20 : Int) (s11 s14 s18 : Mm), x7 = gi τ 11 i → x9 = moT (vw τ 5) x7 → Se τ s11 (nmZ l (gi τ 8 j.toNat) (gi τ 12 i) (0 : Int) x9 x7) → x16 = b2i (thinkS (vw s11 5) (gi s11 68)) → Mk s11 s14 → x20 = b2i (sayS (vw s14 5) (gi s14 68) (decide (x16 = 1))) → Mk s14 s18 → gi τ 41 i = j → gi τ 43 i ≠ -1 → ScX σ s18 ∧ gi s18 43 i = gi σ 43 i ∧ saidB (vw σ 5) (wv σ 40) j l i = decide (x20 = gi σ 43 i) := fun x7 x9 x16 x20 s11 s14 s18 e7 e9 hse e16 m1 e20 m2 e41 e43 => by
    have hS11 := hs.tr (ScX.se hse)
    have hS14 := hS11.tr (ScX.mk m1)
    have hS18 := hS14.tr (ScX.mk m2)
    refine ⟨hS18, hS18 43 i (Or.inl (by unfold kpX; omega)), ?_⟩
    unfold saidB
    rw [if_pos ⟨by rw [← e41, g41]; rfl, by rw [g43] at e43; exact e43⟩]
    rw [g8, g12, e9, e7, g11, hs.T] at hse
    rw [e20, e16, decb, hS14.T, hS11.T, thinkS_seen hse.2.2]
    have : ∀ q, q < 7 → gi s14 68 q = nmZ l (gi σ 8 j.toNat) (gi σ 12 i) 0 (moT (vw σ 5) (gi σ 11 i)) (gi σ 11 i) q := fun q hq => by rw [gi_of m1.1]; exact hse.2.2 q hq
    rw [sayS_seen this]
    rfl
  have hno : (i : Int) < gi σ 5 1 → saidB (vw σ 5) (wv σ 40) j l i = false → ∀ s, ScX σ s → P 0 s := fun q hf s hs' => by
    have := hP s hs'
    rw [alB_no hf (by omega)] at this
    exact this
  have hyes : saidB (vw σ 5) (wv σ 40) j l i = true → alB (saidB (vw σ 5) (wv σ 40) j l) (i + 1) = true := fun q => by simp only [alB]; rw [hal, q]; rfl
  refine v_asd_L j l i a b (by intros; subst_vars; first | omega | exact lw_bk (by rw [(ScX.se ‹Se _ _ _›).T]; exact hbT) | exact lw_bk (by rw [(ScX.mk ‹Mk _ _›).T, (ScX.se ‹Se _ _ _›).T]; exact hbT) | (have q := hc (by omega); omega) | exact hbT | exact b2i_or | (unfold rg; omega)) (by intros; subst_vars; first | omega | exact lw_bk (by rw [(ScX.se ‹Se _ _ _›).T]; exact hbT) | exact lw_bk (by rw [(ScX.mk ‹Mk _ _›).T, (ScX.se ‹Se _ _ _›).T]; exact hbT) | (have q := hc (by omega); omega) | exact hbT | exact b2i_or | (unfold rg; omega)) (by intros; subst_vars; first | omega | exact lw_bk (by rw [(ScX.se ‹Se _ _ _›).T]; exact hbT) | exact lw_bk (by rw [(ScX.mk ‹Mk _ _›).T, (ScX.se ‹Se _ _ _›).T]; exact hbT) | (have q := hc (by omega); omega) | exact hbT | exact b2i_or | (unfold rg; omega)) (by intros; subst_vars; first | omega | exact lw_bk (by rw [(ScX.se ‹Se _ _ _›).T]; exact hbT) | exact lw_bk (by rw [(ScX.mk ‹Mk _ _›).T, (ScX.se ‹Se _ _ _›).T]; exact hbT) | (have q := hc (by omega); omega) | exact hbT | exact b2i_or | (unfold rg; omega)) (by intros; subst_vars; first | omega | exact lw_bk (by rw [(ScX.se ‹Se _ _ _›).T]; exact hbT) | exact lw_bk (by rw [(ScX.mk ‹Mk _ _›).T, (ScX.se ‹Se _ _ _›).T]; exact hbT) | (have q := hc (by omega); omega) | exact hbT | exact b2i_or | (unfold rg; omega)) (by intros; subst_vars; first | omega | exact lw_bk (by rw [(ScX.se ‹Se _ _ _›).T]; exact hbT) | exact lw_bk (by rw [(ScX.mk ‹Mk _ _›).T, (ScX.se ‹Se _ _ _›).T]; exact hbT) | (have q := hc (by omega); omega) | exact hbT | exact b2i_or | (unfold rg; omega)) (by intros; subst_vars; first | omega | exact lw_bk (by rw [(ScX.se ‹Se _ _ _›).T]; exact hbT) | exact lw_bk (by rw [(ScX.mk ‹Mk _ _›).T, (ScX.se ‹Se _ _ _›).T]; exact hbT) | (have q := hc (by omega); omega) | exact hbT | exact b2i_or | (unfold rg; omega)) (by intros; subst_vars; first | omega | exact lw_bk (by rw [(ScX.se ‹Se _ _ _›).T]; exact hbT) | exact lw_bk (by rw [(ScX.mk ‹Mk _ _›).T, (ScX.se ‹Se _ _ _›).T]; exact hbT) | (have q := hc (by omega); omega) | exact hbT | exact b2i_or | (unfold rg; omega)) (by intros; subst_vars; first | omega | exact lw_bk (by rw [(ScX.se ‹Se _ _ _›).T]; exact hbT) | exact lw_bk (by rw [(ScX.mk ‹Mk _ _›).T, (ScX.se ‹Se _ _ _›).T]; exact hbT) | (have q := hc (by omega); omega) | exact hbT | exact b2i_or | (unfold rg; omega)) (by intros; subst_vars; first | omega | exact lw_bk (by rw [(ScX.se ‹Se _ _ _›).T]; exact hbT) | exact lw_bk (by rw [(ScX.mk ‹Mk _ _›).T, (ScX.se ‹Se _ _ _›).T]; exact hbT) | (have q := hc (by omega); omega) | exact hbT | exact b2i_or | (unfold rg; omega)) (by intros; subst_vars; first | omega | exact lw_bk (by rw [(ScX.se ‹Se _ _ _›).T]; exact hbT) | exact lw_bk (by rw [(ScX.mk ‹Mk _ _›).T, (ScX.se ‹Se _ _ _›).T]; exact hbT) | (have q := hc (by omega); omega) | exact hbT | exact b2i_or | (unfold rg; omega)) (by intros; subst_vars; first | omega | exact lw_bk (by rw [(ScX.se ‹Se _ _ _›).T]; exact hbT) | exact lw_bk (by rw [(ScX.mk ‹Mk _ _›).T, (ScX.se ‹Se _ _ _›).T]; exact hbT) | (have q := hc (by omega); omega) | exact hbT | exact b2i_or | (unfold rg; omega)) (by intros; subst_vars; first | omega | exact lw_bk (by rw [(ScX.se ‹Se _ _ _›).T]; exact hbT) | exact lw_bk (by rw [(ScX.mk ‹Mk _ _›).T, (ScX.se ‹Se _ _ _›).T]; exact hbT) | (have q := hc (by omega); omega) | exact hbT | exact b2i_or | (unfold rg; omega)) ?_ ?_ ?_ ?_ ?_ ?_ ?_
  · intro hge
    have := hP τ hs
    rw [show (gi σ 5 1).toNat = i by omega, hal] at this
    exact this
  · intro hlt hne
    exact ih (by omega) τ a b hs (hyes (by unfold saidB; rw [if_neg]; intro q; exact hne (by rw [g41]; exact q.1)))
  · intro hlt he hne
    exact ih (by omega) τ a b hs (hyes (by unfold saidB; rw [if_neg]; intro q; exact q.2 (by rw [← hne, g43]; rfl)))
  · intro hlt e41 e43 x7 e7 x9 e9 s11 hse x16 e16 s14 m1 x20 e20 s18 m2 hne hz
    obtain ⟨v1, v2, v3⟩ := hval x7 x9 x16 x20 s11 s14 s18 e7 e9 hse e16 m1 e20 m2 e41 e43
    refine ih (by omega) s18 _ _ v1 (hyes ?_)
    have := hw (by omega)
    rw [v3]
    exact decide_eq_true (by omega)
  · intro hlt e41 e43 x7 e7 x9 e9 s11 hse x16 e16 s14 m1 x20 e20 s18 m2 hne hz
    obtain ⟨v1, v2, v3⟩ := hval x7 x9 x16 x20 s11 s14 s18 e7 e9 hse e16 m1 e20 m2 e41 e43
    refine hno (by omega) ?_ s18 v1
    have := hw (by omega)
    have hbb := b2i_in (sayS (vw s14 5) (gi s14 68) (decide (x16 = 1)))
    rw [v3]
    exact decide_eq_false (by omega)
  · intro hlt e41 e43 x7 e7 x9 e9 s11 hse x16 e16 s14 m1 x20 e20 s18 m2 hne hz
    obtain ⟨v1, v2, v3⟩ := hval x7 x9 x16 x20 s11 s14 s18 e7 e9 hse e16 m1 e20 m2 e41 e43
    refine ih (by omega) s18 _ _ v1 (hyes ?_)
    rw [v3]
    exact decide_eq_true (by omega)
  · intro hlt e41 e43 x7 e7 x9 e9 s11 hse x16 e16 s14 m1 x20 e20 s18 m2 hne hz
    obtain ⟨v1, v2, v3⟩ := hval x7 x9 x16 x20 s11 s14 s18 e7 e9 hse e16 m1 e20 m2 e41 e43
    refine hno (by omega) ?_ s18 v1
    rw [v3]
    exact decide_eq_false (by omega)
theorem v_lns_0 {n : Nat}  (j : Int) {σ : Mm} {P : Int → Mm → Prop} (l1 : j < (0 : Int) → P (-1) σ) (l2 : (0 : Int) ≤ j → (gi σ 5 0) ≤ j → P (-1) σ) (l3 : (0 : Int) ≤ j → j < (gi σ 5 0) → R 146 14 [some (vr 3), some (vi j), some (vi 0), some (vi 0)] [] (shF n) 0 0 σ (Qi (shF n) P)) : Ci 146 [vr 3, vi j] (shF n) σ P :=
  show R 146 0 [some (vr 3), some (vi j), none, none] [] (shF n) 0 0 σ (Qi (shF n) P) from wpK_R 9 [14] ((show R 103 0 [some (vr 3), _] [] (shF n) 0 0 _ _ from wpK_R 10 [] (And.intro (fun q1 => And.intro ret0 (And.intro (Or.inl rfl) ⟨rfl, _, rfl, And.intro (fun q => absurd q (show ¬ ((0 : Int) ≠ 0) by decide)) (fun _ => And.intro ret0 ⟨rfl, _, rfl, (l1 q1)⟩)⟩)) (fun q1 => And.intro (fun q2 => And.intro ret0 (And.intro (Or.inl rfl) ⟨rfl, _, rfl, And.intro (fun q => absurd q (show ¬ ((0 : Int) ≠ 0) by decide)) (fun _ => And.intro ret0 ⟨rfl, _, rfl, (l2 (Int.not_lt.mp q1) q2)⟩)⟩)) (fun q2 => And.intro ret0 (And.intro (Or.inr rfl) ⟨rfl, _, rfl, And.intro (fun _ => (l3 (Int.not_lt.mp q1) (Int.not_le.mp q2))) (fun q => absurd (show (1 : Int) ≠ 0 by decide) q)⟩))))))
theorem v_lns_L {n : Nat}  (j : Int) (b : Int) (k : Nat) {σ : Mm} {P : Int → Mm → Prop} (o1 : (k : Int) < (10 : Int) → rg ((10 : Int) * (k : Int))) (o2 : (k : Int) < (10 : Int) → asP σ j ((10 : Int) * (k : Int))) (o3 : (k : Int) < (10 : Int) → ∀ x6 : Int, x6 = b2i (alB (saidB (vw σ 5) (wv σ 40) j ((10 : Int) * (k : Int))) (gi σ 5 1).toNat) → ∀ s4 : Mm, ScX σ s4 → x6 = (0 : Int) → rg ((k : Int) + 1)) (o4 : (k : Int) < (10 : Int) → ∀ x6 : Int, x6 = b2i (alB (saidB (vw σ 5) (wv σ 40) j ((10 : Int) * (k : Int))) (gi σ 5 1).toNat) → ∀ s4 : Mm, ScX σ s4 → x6 ≠ (0 : Int) → ∀ x9 : Int, x9 = oor b (oshl (1 : Int) (k : Int)) → rg ((k : Int) + 1)) (l1 : (10 : Int) ≤ (k : Int) → P b σ) (l2 : (k : Int) < (10 : Int) → ∀ x6 : Int, x6 = b2i (alB (saidB (vw σ 5) (wv σ 40) j ((10 : Int) * (k : Int))) (gi σ 5 1).toNat) → ∀ s4 : Mm, ScX σ s4 → x6 = (0 : Int) → R 146 14 [some (vr 3), some (vi j), some (vi b), some (vi ((k : Int) + 1))] [] (shF n) 0 0 s4 (Qi (shF n) P)) (l3 : (k : Int) < (10 : Int) → ∀ x6 : Int, x6 = b2i (alB (saidB (vw σ 5) (wv σ 40) j ((10 : Int) * (k : Int))) (gi σ 5 1).toNat) → ∀ s4 : Mm, ScX σ s4 → x6 ≠ (0 : Int) → ∀ x9 : Int, x9 = oor b (oshl (1 : Int) (k : Int)) → R 146 14 [some (vr 3), some (vi j), some (vi x9), some (vi ((k : Int) + 1))] [] (shF n) 0 0 s4 (Qi (shF n) P)) : R 146 14 [some (vr 3), some (vi j), some (vi b), some (vi (k : Int))] [] (shF n) 0 0 σ (Qi (shF n) P) :=
  wpK_R 19 [14] (And.intro (fun q1 => And.intro ret0 ⟨rfl, _, rfl, (l1 q1)⟩) (fun q1 => (have k2 := (o1 (Int.not_le.mp q1)); And.intro k2 ((c_asd  (o2 (Int.not_le.mp q1)) (fun s4 h5 => And.intro (fun q7 => (have k8 := (o3 (Int.not_le.mp q1) _ rfl s4 h5 q7); And.intro k8 ((l2 (Int.not_le.mp q1) _ rfl s4 h5 q7)))) (fun q7 => (have k10 := (o4 (Int.not_le.mp q1) _ rfl s4 h5 q7 _ rfl); And.intro k10 ((l3 (Int.not_le.mp q1) _ rfl s4 h5 q7 _ rfl))))))))))
theorem v_lnR_0 {n : Nat}  (j : Int) {σ : Mm} {P : Int → Mm → Prop} (l1 : ∀ t1 : Mm, t1 = si σ 85 2 (0 : Int) → j < (0 : Int) → P (-1) t1) (l2 : ∀ t1 : Mm, t1 = si σ 85 2 (0 : Int) → (0 : Int) ≤ j → (gi σ 85 12) ≤ j → P (-1) t1) (l3 : ∀ t1 : Mm, t1 = si σ 85 2 (0 : Int) → (0 : Int) ≤ j → j < (gi σ 85 12) → ∀ s5 : Mm, Pl t1 s5 → ∀ t7 : Mm, t7 = si s5 85 68 j → R 264 28 [some (vr 85), some (vi j), some (vi 0), some (vi 0), none, none] [] (shF n) 0 0 t7 (Qi (shF n) P)) : Ci 264 [vr 85, vi j] (shF n) σ P :=
  show R 264 0 [some (vr 85), some (vi j), none, none, none, none] [] (shF n) 0 0 σ (Qi (shF n) P) from wpK_R 17 [28, 48] ((show R 200 0 [some (vr 85), _] [] (shF n) 0 0 _ _ from wpK_R 9 [] (And.intro (fun q2 => And.intro ret0 (And.intro (Or.inl rfl) ⟨rfl, _, rfl, And.intro (fun q => absurd q (show ¬ ((0 : Int) ≠ 0) by decide)) (fun _ => And.intro ret0 ⟨rfl, _, rfl, (l1 _ rfl q2)⟩)⟩)) (fun q2 => And.intro (fun q3 => And.intro ret0 (And.intro (Or.inl rfl) ⟨rfl, _, rfl, And.intro (fun q => absurd q (show ¬ ((0 : Int) ≠ 0) by decide)) (fun _ => And.intro ret0 ⟨rfl, _, rfl, (l2 _ rfl (Int.not_lt.mp q2) q3)⟩)⟩)) (fun q3 => And.intro ret0 (And.intro (Or.inr rfl) ⟨rfl, _, rfl, And.intro (fun _ => (c_plain   (fun s5 h6 => (l3 _ rfl (Int.not_lt.mp q2) (Int.not_le.mp q3) s5 h6 _ rfl)))) (fun q => absurd (show (1 : Int) ≠ 0 by decide) q)⟩))))))
theorem v_lnR_K {n : Nat}  (j : Int) (b : Int) (k : Nat) (x : Option PV) (y : Option PV) {σ : Mm} {P : Int → Mm → Prop} (o1 : (k : Int) < (10 : Int) → rg ((10 : Int) * (k : Int))) (l1 : (10 : Int) ≤ (k : Int) → ∀ s3 : Mm, Pl σ s3 → P b s3) (l2 : (k : Int) < (10 : Int) → ∀ t6 : Mm, t6 = si σ 85 69 ((10 : Int) * (k : Int)) → R 264 48 [some (vr 85), some (vi j), some (vi b), some (vi (k : Int)), some (vi 1), some (vi 0)] [] (shF n) 0 0 t6 (Qi (shF n) P)) : R 264 28 [some (vr 85), some (vi j), some (vi b), some (vi (k : Int)), x, y] [] (shF n) 0 0 σ (Qi (shF n) P) :=
  wpK_R 13 [48] (And.intro (fun q1 => (c_plain   (fun s3 h4 => And.intro ret0 ⟨rfl, _, rfl, (l1 q1 s3 h4)⟩))) (fun q1 => (have k5 := (o1 (Int.not_le.mp q1)); And.intro k5 ((l2 (Int.not_le.mp q1) _ rfl)))))
theorem v_lnR_C {n : Nat} (T : Nat → Nat → Int) (j : Int) (b : Int) (k : Nat) (x : Int) (c : Nat) {σ : Mm} {P : Int → Mm → Prop} (o1 : (gi σ 85 13) ≤ (c : Int) → x = (0 : Int) → ∀ x3 : Int, x3 = oor b (0 : Int) → rg ((k : Int) + 1)) (o2 : (gi σ 85 13) ≤ (c : Int) → x ≠ (0 : Int) → ∀ x5 : Int, x5 = oor b (oshl (1 : Int) (k : Int)) → rg ((k : Int) + 1)) (o3 : (c : Int) < (gi σ 85 13) → (0 ≤ (c : Int) ∧ (c : Int) < 20)) (o4 : (c : Int) < (gi σ 85 13) → (gi σ 115 c) ≠ j → rg ((c : Int) + 1)) (o5 : (c : Int) < (gi σ 85 13) → (gi σ 115 c) = j → (0 : Int) ≤ (gi σ 117 c) → x = (0 : Int) → rg ((c : Int) + 1)) (o6 : (c : Int) < (gi σ 85 13) → (gi σ 115 c) = j → (0 : Int) ≤ (gi σ 117 c) → x ≠ (0 : Int) → ThP T σ j (0 : Int) (gi σ 95 c)) (o7 : (c : Int) < (gi σ 85 13) → (gi σ 115 c) = j → (0 : Int) ≤ (gi σ 117 c) → x ≠ (0 : Int) → (0 ≤ (c : Int) ∧ (c : Int) < T 0 1)) (o8 : (c : Int) < (gi σ 85 13) → (gi σ 115 c) = j → (0 : Int) ≤ (gi σ 117 c) → x ≠ (0 : Int) → ∀ x16 : Int, x16 = b2i (if gi σ 85 65 = 3 then thinkS T (nmZ (leR T σ j.toNat) (T 3 j.toNat) (T 7 c) (0 : Int) (moD T (dmR σ) (gi σ 95 c)) (gi σ 95 c)) else sayS T (nmZ (leR T σ j.toNat) (T 3 j.toNat) (T 7 c) (0 : Int) (moD T (dmR σ) (gi σ 95 c)) (gi σ 95 c)) (thinkS T (nmZ (leR T σ j.toNat) (T 3 j.toNat) (T 7 c) (0 : Int) (moD T (dmR σ) (gi σ 95 c)) (gi σ 95 c)))) → ∀ s14 : Mm, Rk σ s14 → x16 ≠ (gi s14 117 c) → rg ((c : Int) + 1)) (o9 : (c : Int) < (gi σ 85 13) → (gi σ 115 c) = j → (0 : Int) ≤ (gi σ 117 c) → x ≠ (0 : Int) → ∀ x16 : Int, x16 = b2i (if gi σ 85 65 = 3 then thinkS T (nmZ (leR T σ j.toNat) (T 3 j.toNat) (T 7 c) (0 : Int) (moD T (dmR σ) (gi σ 95 c)) (gi σ 95 c)) else sayS T (nmZ (leR T σ j.toNat) (T 3 j.toNat) (T 7 c) (0 : Int) (moD T (dmR σ) (gi σ 95 c)) (gi σ 95 c)) (thinkS T (nmZ (leR T σ j.toNat) (T 3 j.toNat) (T 7 c) (0 : Int) (moD T (dmR σ) (gi σ 95 c)) (gi σ 95 c)))) → ∀ s14 : Mm, Rk σ s14 → x16 = (gi s14 117 c) → rg ((c : Int) + 1)) (o10 : (c : Int) < (gi σ 85 13) → (gi σ 115 c) = j → (gi σ 117 c) < (0 : Int) → rg ((c : Int) + 1)) (l1 : (gi σ 85 13) ≤ (c : Int) → x = (0 : Int) → ∀ x3 : Int, x3 = oor b (0 : Int) → R 264 28 [some (vr 85), some (vi j), some (vi x3), some (vi ((k : Int) + 1)), some (vi x), some (vi (c : Int))] [] (shF n) 0 0 σ (Qi (shF n) P)) (l2 : (gi σ 85 13) ≤ (c : Int) → x ≠ (0 : Int) → ∀ x5 : Int, x5 = oor b (oshl (1 : Int) (k : Int)) → R 264 28 [some (vr 85), some (vi j), some (vi x5), some (vi ((k : Int) + 1)), some (vi x), some (vi (c : Int))] [] (shF n) 0 0 σ (Qi (shF n) P)) (l3 : (c : Int) < (gi σ 85 13) → (gi σ 115 c) ≠ j → R 264 48 [some (vr 85), some (vi j), some (vi b), some (vi (k : Int)), some (vi x), some (vi ((c : Int) + 1))] [] (shF n) 0 0 σ (Qi (shF n) P)) (l4 : (c : Int) < (gi σ 85 13) → (gi σ 115 c) = j → (0 : Int) ≤ (gi σ 117 c) → x = (0 : Int) → R 264 48 [some (vr 85), some (vi j), some (vi b), some (vi (k : Int)), some (vi 0), some (vi ((c : Int) + 1))] [] (shF n) 0 0 σ (Qi (shF n) P)) (l5 : (c : Int) < (gi σ 85 13) → (gi σ 115 c) = j → (0 : Int) ≤ (gi σ 117 c) → x ≠ (0 : Int) → ∀ x16 : Int, x16 = b2i (if gi σ 85 65 = 3 then thinkS T (nmZ (leR T σ j.toNat) (T 3 j.toNat) (T 7 c) (0 : Int) (moD T (dmR σ) (gi σ 95 c)) (gi σ 95 c)) else sayS T (nmZ (leR T σ j.toNat) (T 3 j.toNat) (T 7 c) (0 : Int) (moD T (dmR σ) (gi σ 95 c)) (gi σ 95 c)) (thinkS T (nmZ (leR T σ j.toNat) (T 3 j.toNat) (T 7 c) (0 : Int) (moD T (dmR σ) (gi σ 95 c)) (gi σ 95 c)))) → ∀ s14 : Mm, Rk σ s14 → x16 ≠ (gi s14 117 c) → R 264 48 [some (vr 85), some (vi j), some (vi b), some (vi (k : Int)), some (vi 0), some (vi ((c : Int) + 1))] [] (shF n) 0 0 s14 (Qi (shF n) P)) (l6 : (c : Int) < (gi σ 85 13) → (gi σ 115 c) = j → (0 : Int) ≤ (gi σ 117 c) → x ≠ (0 : Int) → ∀ x16 : Int, x16 = b2i (if gi σ 85 65 = 3 then thinkS T (nmZ (leR T σ j.toNat) (T 3 j.toNat) (T 7 c) (0 : Int) (moD T (dmR σ) (gi σ 95 c)) (gi σ 95 c)) else sayS T (nmZ (leR T σ j.toNat) (T 3 j.toNat) (T 7 c) (0 : Int) (moD T (dmR σ) (gi σ 95 c)) (gi σ 95 c)) (thinkS T (nmZ (leR T σ j.toNat) (T 3 j.toNat) (T 7 c) (0 : Int) (moD T (dmR σ) (gi σ 95 c)) (gi σ 95 c)))) → ∀ s14 : Mm, Rk σ s14 → x16 = (gi s14 117 c) → R 264 48 [some (vr 85), some (vi j), some (vi b), some (vi (k : Int)), some (vi 1), some (vi ((c : Int) + 1))] [] (shF n) 0 0 s14 (Qi (shF n) P)) (l7 : (c : Int) < (gi σ 85 13) → (gi σ 115 c) = j → (gi σ 117 c) < (0 : Int) → R 264 48 [some (vr 85), some (vi j), some (vi b), some (vi (k : Int)), some (vi x), some (vi ((c : Int) + 1))] [] (shF n) 0 0 σ (Qi (shF n) P)) : R 264 48 [some (vr 85), some (vi j), some (vi b), some (vi (k : Int)), some (vi x), some (vi (c : Int))] [] (shF n) 0 0 σ (Qi (shF n) P) :=
  wpK_R 37 [28, 48] (And.intro (fun q1 => And.intro (fun q2 => (have k4 := (o1 q1 q2 _ rfl); And.intro k4 ((l1 q1 q2 _ rfl)))) (fun q2 => (have k6 := (o2 q1 q2 _ rfl); And.intro k6 ((l2 q1 q2 _ rfl))))) (fun q1 => (have k7 := (o3 (Int.not_le.mp q1)); And.intro k7 (And.intro (fun q8 => (have k9 := (o4 (Int.not_le.mp q1) q8); And.intro k9 ((l3 (Int.not_le.mp q1) q8)))) (fun q8 => And.intro k7 (And.intro (fun q10 => And.intro (fun q11 => (have k12 := (o5 (Int.not_le.mp q1) (Classical.not_not.mp q8) q10 q11); And.intro k12 ((l4 (Int.not_le.mp q1) (Classical.not_not.mp q8) q10 q11)))) (fun q11 => And.intro k7 ((c_saR (T := T) (o6 (Int.not_le.mp q1) (Classical.not_not.mp q8) q10 q11) (o7 (Int.not_le.mp q1) (Classical.not_not.mp q8) q10 q11) (fun s14 h15 => And.intro k7 (And.intro (fun q17 => (have k18 := (o8 (Int.not_le.mp q1) (Classical.not_not.mp q8) q10 q11 _ rfl s14 h15 q17); And.intro k18 ((l5 (Int.not_le.mp q1) (Classical.not_not.mp q8) q10 q11 _ rfl s14 h15 q17)))) (fun q17 => (have k19 := (o9 (Int.not_le.mp q1) (Classical.not_not.mp q8) q10 q11 _ rfl s14 h15 (Classical.not_not.mp q17)); And.intro k19 ((l6 (Int.not_le.mp q1) (Classical.not_not.mp q8) q10 q11 _ rfl s14 h15 (Classical.not_not.mp q17))))))))))) (fun q10 => (have k20 := (o10 (Int.not_le.mp q1) (Classical.not_not.mp q8) (Int.not_le.mp q10)); And.intro k20 ((l7 (Int.not_le.mp q1) (Classical.not_not.mp q8) (Int.not_le.mp q10)))))))))))
def leansV (T V : Nat → Nat → Int) (j : Int) : Int := if 0 ≤ j ∧ j < T 0 0 then orF (fun k => alB (saidB T V j (10 * (k : Int))) (T 0 1).toNat) 10 else -1
def Fr2 (σ τ : Mm) : Prop := ∀ a i, ¬ (a = 85 ∧ (i = 2 ∨ i = 51 ∨ (65 ≤ i ∧ i ≤ 72))) → gi τ a i = gi σ a i
theorem Rel_fr {xs : Nat → Int} {N : Nat} {σ s : Mm} (h : Rel xs N σ) (hs : Fr2 σ s) : Rel xs N s := Rel_M h fun a i p => hs a i (by
  rintro ⟨rfl, q⟩
  rcases p with p | p
  · omega
  · rcases q with rfl | rfl | q
    · simp [kpM, hT, hf] at p
    · simp [kpM, hT, hf] at p
    · simp [kpM, hT, hf] at p <;> omega)
theorem q_leans {xs : Nat → Int} {N n : Nat} {σ : Mm} (h : Rel xs N σ) (j : Int) : Bi xs N n 146 [vr 3, vi j] 264 [vr 85, vi j] σ := by
  refine Bi_of (f := fun s => leansV (vw s 5) (wv s 40) j) ?_ ?_
  · obtain ⟨c0, c1, c2, c3, c5, d0, d1, d2, d3, -⟩ := Rel_cnt h
    have hno : ¬ (0 ≤ j ∧ j < gi σ 5 0) → Rel xs N σ ∧ -1 = leansV (vw σ 5) (wv σ 40) j := fun hn => ⟨h, by unfold leansV; rw [if_neg (show ¬ (0 ≤ j ∧ j < vw σ 5 0 0) from hn)]⟩
    refine v_lns_0 j ?_ ?_ ?_
    · intros; exact hno (by omega)
    · intros; exact hno (by omega)
    · intro h1 h2
      refine loopUp (N := 10) (I := fun k => ∀ τ : Mm, ScX σ τ → R 146 14 [some (vr 3), some (vi j), some (vi (orF (fun k => alB (saidB (vw σ 5) (wv σ 40) j (10 * (k : Int))) (gi σ 5 1).toNat) k)), some (vi (k : Int))] [] (shF n) 0 0 τ (Qi (shF n) (fun v s => Rel xs N s ∧ v = leansV (vw s 5) (wv s 40) j))) (fun k hk ih => ?_) 0 (by omega) σ (ScX.rf σ)
      intro τ hs
      have g5 : gi τ 5 1 = gi σ 5 1 := hs 5 1 (Or.inl (by unfold kpX; omega))
      have g50 : gi τ 5 0 = gi σ 5 0 := hs 5 0 (Or.inl (by unfold kpX; omega))
      have horg := orF_rg (fun k => alB (saidB (vw σ 5) (wv σ 40) j (10 * (k : Int))) (gi σ 5 1).toNat) k
      refine v_lns_L j _ k (by intros; first | exact ⟨xs, N, hs.rel h, by omega, by omega⟩ | omega | exact horg | (unfold rg; omega)) (by intros; first | exact ⟨xs, N, hs.rel h, by omega, by omega⟩ | omega | exact horg | (unfold rg; omega)) (by intros; first | exact ⟨xs, N, hs.rel h, by omega, by omega⟩ | omega | exact horg | (unfold rg; omega)) (by intros; first | exact ⟨xs, N, hs.rel h, by omega, by omega⟩ | omega | exact horg | (unfold rg; omega)) ?_ ?_ ?_
      · intro hge
        refine ⟨hs.rel h, ?_⟩
        rw [hs.T, hs.V, show k = 10 by omega]
        unfold leansV
        rw [if_pos (show 0 ≤ j ∧ j < vw σ 5 0 0 from ⟨h1, h2⟩)]
        rfl
      · intro hlt x6 hx s4 hs4 hz
        refine R_eq (ih (by omega) s4 (hs.tr hs4)) ?_
        rw [hs.T, hs.V, g5] at hx
        have hf : alB (saidB (vw σ 5) (wv σ 40) j (10 * (k : Int))) (gi σ 5 1).toNat = false := b2f (hx.symm.trans hz)
        rw [orF_n (p := fun k => alB (saidB (vw σ 5) (wv σ 40) j (10 * (k : Int))) (gi σ 5 1).toNat) hf]
        rfl
      · intro hlt x6 hx s4 hs4 hz x9 hx9
        refine R_eq (ih (by omega) s4 (hs.tr hs4)) ?_
        rw [hs.T, hs.V, g5] at hx
        have hf : alB (saidB (vw σ 5) (wv σ 40) j (10 * (k : Int))) (gi σ 5 1).toNat = true := b2t (fun q => hz (hx.trans q))
        rw [orF_y (p := fun k => alB (saidB (vw σ 5) (wv σ 40) j (10 * (k : Int))) (gi σ 5 1).toNat) hf, hx9]
        rfl
  · intro σ h
    obtain ⟨c0, c1, c2, c3, c5, d0, d1, d2, d3, -⟩ := Rel_cnt h
    have hb := h.2.2.2.2.1
    have hr := h.2.2.2.2.2.1
    have hno : ∀ t, t = si σ 85 2 0 → ¬ (0 ≤ j ∧ j < gi σ 5 0) → -1 = leansV (vw σ 5) (wv σ 40) j ∧ Rel xs N t := fun t ht hn => ⟨by unfold leansV; rw [if_neg (show ¬ (0 ≤ j ∧ j < vw σ 5 0 0) from hn)], by rw [ht]; exact Rel_th h⟩
    refine v_lnR_0 j ?_ ?_ ?_
    · intro t ht; intros; exact hno t ht (by omega)
    · intro t ht; intros; exact hno t ht (by omega)
    · intro t ht h1 h2 s hp t7 ht7
      rw [d0] at h2
      -- what the loops keep: all cells but the settings, and the settings' own values
      have hrs : ∀ τ : Mm, Fr2 σ τ → RB (vw σ 5) τ := fun τ hf => RB_eq (fun y p q => hf 85 y (by omega)) (fun x y p q => hf x y (by omega)) hr
      have hC : (vw σ 5 0 1).toNat = (gi σ 5 1).toNat := rfl
      obtain ⟨pp, hpp⟩ : ∃ pp : Nat → Bool, pp = fun k : Nat => alB (saidB (vw σ 5) (wv σ 40) j (10 * (k : Int))) (gi σ 5 1).toNat := ⟨_, rfl⟩
      have hLV : leansV (vw σ 5) (wv σ 40) j = orF pp 10 := by
        unfold leansV
        rw [if_pos (show 0 ≤ j ∧ j < vw σ 5 0 0 from ⟨h1, h2⟩), hpp]
        rfl
      rw [hLV]
      suffices hI : ∀ (τ : Mm) (x y : Option PV), Fr2 σ τ → (gi τ 85 65 = -1 ∧ gi τ 85 67 = -1 ∧ gi τ 85 68 = j) → R 264 28 [some (vr 85), some (vi j), some (vi (orF pp 0)), some (vi ((0 : Nat) : Int)), x, y] [] (shF n) 0 0 τ (Qi (shF n) (fun v' s' => v' = orF pp 10 ∧ Rel xs N s')) from by
        refine hI t7 none none (fun a i q => ?_) ?_
        · rw [ht7, gi_si, if_neg (by omega), hp.2.1 a i (by omega), ht, gi_si, if_neg (by omega)]
        · rw [ht7]
          refine ⟨?_, ?_, ?_⟩
          · rw [gi_si, if_neg (by omega)]; exact hp.2.2.1
          · rw [gi_si, if_neg (by omega)]; exact hp.2.2.2.2.1
          · rw [gi_si, if_pos (by omega)]
      refine loopUp (N := 10) (I := fun k => ∀ (τ : Mm) (x y : Option PV), Fr2 σ τ → (gi τ 85 65 = -1 ∧ gi τ 85 67 = -1 ∧ gi τ 85 68 = j) → R 264 28 [some (vr 85), some (vi j), some (vi (orF pp k)), some (vi (k : Int)), x, y] [] (shF n) 0 0 τ (Qi (shF n) (fun v' s' => v' = orF pp 10 ∧ Rel xs N s'))) (fun k hk ih => ?_) 0 (by omega)
      intro τ x y hfr hset
      refine v_lnR_K j _ k x y (by unfold rg; omega) ?_ ?_
      · intro hge s3 hp3
        refine ⟨by rw [show k = 10 by omega], ?_⟩
        exact Rel_fr h (fun a i q => by rw [hp3.2.1 a i (by omega)]; exact hfr a i q)
      · intro hlt t6 ht6
        have hfr6 : Fr2 σ t6 := fun a i q => by rw [ht6, gi_si, if_neg (by omega)]; exact hfr a i q
        have hset6 : gi t6 85 65 = -1 ∧ gi t6 85 67 = -1 ∧ gi t6 85 68 = j ∧ gi t6 85 69 = 10 * (k : Int) := by
          rw [ht6]; refine ⟨?_, ?_, ?_, ?_⟩
          · rw [gi_si, if_neg (by omega)]; exact hset.1
          · rw [gi_si, if_neg (by omega)]; exact hset.2.1
          · rw [gi_si, if_neg (by omega)]; exact hset.2.2
          · rw [gi_si, if_pos (by omega)]
        clear hset hfr ht6
        refine loopUp (N := (gi σ 5 1).toNat) (I := fun c => ∀ τ : Mm, Fr2 σ τ → (gi τ 85 65 = -1 ∧ gi τ 85 67 = -1 ∧ gi τ 85 68 = j ∧ gi τ 85 69 = 10 * (k : Int)) → R 264 48 [some (vr 85), some (vi j), some (vi (orF pp k)), some (vi (k : Int)), some (vi (b2i (alB (saidB (vw σ 5) (wv σ 40) j (10 * (k : Int))) c))), some (vi (c : Int))] [] (shF n) 0 0 τ (Qi (shF n) (fun v' s' => v' = orF pp 10 ∧ Rel xs N s'))) (fun c hc ih2 => ?_) 0 (by omega) t6 hfr6 hset6
        intro τ hfr hset
        have e13 : gi τ 85 13 = gi σ 5 1 := by rw [hfr 85 13 (by omega)]; exact d1
        have hcc := fun q : (c : Int) < gi σ 5 1 => Rel_c h q
        have hw := fun q : (c : Int) < gi σ 5 1 => Rel_w10 h (c := c) (by omega)
        have k115 := hfr 115 c (by omega)
        have k117 := hfr 117 c (by omega)
        have k95 := hfr 95 c (by omega)
        have hle : leR (vw σ 5) τ j.toNat = 10 * (k : Int) := by unfold leR; rw [if_pos (by omega)]; exact hset.2.2.2
        have hdm : dmR τ = -1 := by unfold dmR; rw [if_neg (by omega)]; exact hset.2.1
        have hth : (c : Int) < gi σ 5 1 → ThP (vw σ 5) τ j 0 (gi τ 95 c) := fun q => by
          have := hcc q
          exact ⟨hb, hrs τ hfr, ⟨h1, h2⟩, by rw [hle]; omega, by omega, by omega, by omega⟩
        have horg := orF_rg pp k
        have hb01 := b2i_in (alB (saidB (vw σ 5) (wv σ 40) j (10 * (k : Int))) c)
        have hskip : saidB (vw σ 5) (wv σ 40) j (10 * (k : Int)) c = true → alB (saidB (vw σ 5) (wv σ 40) j (10 * (k : Int))) (c + 1) = alB (saidB (vw σ 5) (wv σ 40) j (10 * (k : Int))) c := fun q => by simp only [alB]; rw [q, Bool.and_true]
        have hval : ∀ (x16 : Int), (c : Int) < gi σ 5 1 → gi τ 115 c = j → 0 ≤ gi τ 117 c → x16 = b2i (if gi τ 85 65 = 3 then thinkS (vw σ 5) (nmZ (leR (vw σ 5) τ j.toNat) (vw σ 5 3 j.toNat) (vw σ 5 7 c) (0 : Int) (moD (vw σ 5) (dmR τ) (gi τ 95 c)) (gi τ 95 c)) else sayS (vw σ 5) (nmZ (leR (vw σ 5) τ j.toNat) (vw σ 5 3 j.toNat) (vw σ 5 7 c) (0 : Int) (moD (vw σ 5) (dmR τ) (gi τ 95 c)) (gi τ 95 c)) (thinkS (vw σ 5) (nmZ (leR (vw σ 5) τ j.toNat) (vw σ 5 3 j.toNat) (vw σ 5 7 c) (0 : Int) (moD (vw σ 5) (dmR τ) (gi τ 95 c)) (gi τ 95 c)))) → saidB (vw σ 5) (wv σ 40) j (10 * (k : Int)) c = decide (x16 = gi σ 43 c) := fun x16 q e115 e117 hx => by
          have q1 := hcc q
          have q2 := hw q
          rw [if_neg (by omega), hle, hdm, k95, q1.1.2.2.1] at hx
          unfold saidB
          rw [if_pos ⟨by rw [← e115, k115, q1.2.2.2.1]; rfl, by show gi σ 43 c ≠ -1; omega⟩, hx]
          rfl
        have hfr' : ∀ s, Rk τ s → Fr2 σ s ∧ (gi s 85 65 = -1 ∧ gi s 85 67 = -1 ∧ gi s 85 68 = j ∧ gi s 85 69 = 10 * (k : Int)) ∧ gi s 117 c = gi σ 117 c := fun s hk => ⟨fun a i q => by rw [hk.1 a i (by omega)]; exact hfr a i q, by rw [hk.1 85 65 (by omega), hk.1 85 67 (by omega), hk.1 85 68 (by omega), hk.1 85 69 (by omega)]; exact hset, by rw [hk.1 117 c (by omega)]; exact k117⟩
        refine v_lnR_C (vw σ 5) j _ k _ c (by intros; first | omega | exact hth (by omega) | exact horg | (show 0 ≤ (c : Int) ∧ (c : Int) < gi σ 5 1; omega) | (unfold rg; omega)) (by intros; first | omega | exact hth (by omega) | exact horg | (show 0 ≤ (c : Int) ∧ (c : Int) < gi σ 5 1; omega) | (unfold rg; omega)) (by intros; first | omega | exact hth (by omega) | exact horg | (show 0 ≤ (c : Int) ∧ (c : Int) < gi σ 5 1; omega) | (unfold rg; omega)) (by intros; first | omega | exact hth (by omega) | exact horg | (show 0 ≤ (c : Int) ∧ (c : Int) < gi σ 5 1; omega) | (unfold rg; omega)) (by intros; first | omega | exact hth (by omega) | exact horg | (show 0 ≤ (c : Int) ∧ (c : Int) < gi σ 5 1; omega) | (unfold rg; omega)) (by intros; first | omega | exact hth (by omega) | exact horg | (show 0 ≤ (c : Int) ∧ (c : Int) < gi σ 5 1; omega) | (unfold rg; omega)) (by intros; first | omega | exact hth (by omega) | exact horg | (show 0 ≤ (c : Int) ∧ (c : Int) < gi σ 5 1; omega) | (unfold rg; omega)) (by intros; first | omega | exact hth (by omega) | exact horg | (show 0 ≤ (c : Int) ∧ (c : Int) < gi σ 5 1; omega) | (unfold rg; omega)) (by intros; first | omega | exact hth (by omega) | exact horg | (show 0 ≤ (c : Int) ∧ (c : Int) < gi σ 5 1; omega) | (unfold rg; omega)) (by intros; first | omega | exact hth (by omega) | exact horg | (show 0 ≤ (c : Int) ∧ (c : Int) < gi σ 5 1; omega) | (unfold rg; omega)) ?_ ?_ ?_ ?_ ?_ ?_ ?_
        · intro hge hz x3 hx3
          have hce : c = (gi σ 5 1).toNat := by omega
          refine R_eq (ih (by omega) τ (some (vi (b2i (alB (saidB (vw σ 5) (wv σ 40) j (10 * (k : Int))) c)))) (some (vi (c : Int))) hfr ⟨hset.1, hset.2.1, hset.2.2.1⟩) ?_
          rw [hce] at hz
          rw [orF_n (p := pp) (by rw [hpp]; exact b2f hz), hx3, oor_0 horg]
          rfl
        · intro hge hz x3 hx3
          have hce : c = (gi σ 5 1).toNat := by omega
          refine R_eq (ih (by omega) τ (some (vi (b2i (alB (saidB (vw σ 5) (wv σ 40) j (10 * (k : Int))) c)))) (some (vi (c : Int))) hfr ⟨hset.1, hset.2.1, hset.2.2.1⟩) ?_
          rw [hce] at hz
          rw [orF_y (p := pp) (by rw [hpp]; exact b2t hz), hx3]
          rfl
        · intro hlt hne
          refine R_eq (ih2 (by omega) τ hfr hset) ?_
          rw [hskip]
          · rfl
          · have q1 := hcc (by omega)
            unfold saidB; rw [if_neg]; intro q; exact hne (by rw [k115, q1.2.2.2.1]; exact q.1)
        · intro hlt e1 e2 hz
          refine R_eq (ih2 (by omega) τ hfr hset) ?_
          have := b2f hz
          simp only [alB]
          rw [this]
          rfl
        · intro hlt e1 e2 hz x16 hx s14 hk14 hne
          obtain ⟨f1, f2, f3⟩ := hfr' s14 hk14
          have q2 := hw (by omega)
          have := hval x16 (by omega) e1 e2 hx
          refine R_eq (ih2 (by omega) s14 f1 f2) ?_
          simp only [alB]
          rw [this, decide_eq_false (by omega), Bool.and_false]
          rfl
        · intro hlt e1 e2 hz x16 hx s14 hk14 hne
          obtain ⟨f1, f2, f3⟩ := hfr' s14 hk14
          have q2 := hw (by omega)
          have := hval x16 (by omega) e1 e2 hx
          refine R_eq (ih2 (by omega) s14 f1 f2) ?_
          simp only [alB]
          rw [this, decide_eq_true (by omega), b2t hz]
          rfl
        · intro hlt e1 e2
          refine R_eq (ih2 (by omega) τ hfr hset) ?_
          rw [hskip]
          · rfl
          · have q1 := hcc (by omega)
            have q2 := hw (by omega)
            unfold saidB; rw [if_neg]; intro q; exact q.2 (show gi σ 43 c = -1 by omega)
