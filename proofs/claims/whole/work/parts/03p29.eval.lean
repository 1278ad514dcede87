/-! LAWS WORKED OUT: the class's side -/
theorem loopUp {N : Nat} {I : Nat → Prop} (h : ∀ k, k ≤ N → (k < N → I (k + 1)) → I k) : ∀ k, k ≤ N → I k := by
  intro k hk
  obtain ⟨m, hm⟩ : ∃ m, m = N - k := ⟨_, rfl⟩
  induction m generalizing k with
  | zero => exact h k hk (fun q => by omega)
  | succ m ih => exact h k hk (fun q => ih (k + 1) (by omega) (by omega))
theorem loopM {α : Type} (μ : α → Nat) {I : α → Prop} (h : ∀ a, (∀ b, μ b < μ a → I b) → I a) : ∀ a, I a := by
  have key : ∀ m a, μ a < m → I a := by
    intro m
    induction m with
    | zero => intro a ha; omega
    | succ m ih => intro a ha; exact h a (fun b hb => ih b (by omega))
  intro a
  exact key (μ a + 1) a (by omega)
theorem R_eq {j pc : Nat} {L L' : List (Option PV)} {S : List PV} {sh : Sh} {c s : Nat} {σ : Mm} {Q : PQ} (h : R j pc L S sh c s σ Q) (e : L' = L) : R j pc L' S sh c s σ Q := by rw [e]; exact h
theorem R_eqm {j pc : Nat} {L L' : List (Option PV)} {S : List PV} {sh : Sh} {c s : Nat} {σ σ' : Mm} {Q : PQ} (h : R j pc L S sh c s σ Q) (e : L' = L) (e2 : σ' = σ) : R j pc L' S sh c s σ' Q := by rw [e, e2]; exact h
theorem p_eq {P : Int → Mm → Prop} {v v' : Int} {σ : Mm} (h : P v σ) (e : v' = v) : P v' σ := by rw [e]; exact h
def upf (f : Nat → Int) (i : Nat) (v : Int) : Nat → Int := fun j => if j = i then v else f j
theorem upf_same (f : Nat → Int) (i : Nat) (v : Int) : upf f i v i = v := by simp [upf]
theorem upf_ne (f : Nat → Int) {i j : Nat} (v : Int) (h : j ≠ i) : upf f i v j = f j := by simp [upf, h]
theorem gl_upd (σ : Mm) (k i : Nat) (v : Int) : gl (sl σ k i v) k = upf (gl σ k) i v := by
  funext j; rw [gl_same]; rfl
theorem gi_upd (σ : Mm) (k i : Nat) (v : Int) : gi (si σ k i v) k = upf (gi σ k) i v := by
  funext j; rw [gi_same]; rfl
def soZ (k a b : Int) : Bool :=
  if k = -8 then decide (a ≠ 0 ∨ b ≠ 0) else if k = -9 then decide (a ≠ 0 ∧ b ≠ 0) else if k = -11 then decide (a < b) else if k = -12 then decide (a ≤ b)
  else if k = -13 then decide (a = b) else if k = -14 then decide (a ≠ b) else if k = -15 then decide (b ≤ a) else decide (b < a)
def inR (z : Int) : Prop := -1000000000000 ≤ z ∧ z ≤ 1000000000000
def bnd (z : Int) : Option Int := if -1000000000000 ≤ z ∧ z ≤ 1000000000000 then some z else none
def joinZ (k a b : Int) : Option Int :=
  if k = -17 then bnd (a + b) else if k = -18 then bnd (a - b) else if k = -19 then bnd (a * b)
  else if k = -20 then (if b = 0 then none else some (Int.tdiv a b)) else some (b2i (soZ k a b))
theorem bnd_in {z v : Int} (h : bnd z = some v) : inR v := by
  unfold bnd at h
  split at h
  · cases h; assumption
  · cases h
theorem tdiv_in {a b : Int} (h : inR a) : inR (Int.tdiv a b) := by
  have h1 : (a.tdiv b).natAbs = a.natAbs / b.natAbs := Int.natAbs_tdiv a b
  have h2 : a.natAbs / b.natAbs ≤ a.natAbs := Nat.div_le_self _ _
  rw [← h1] at h2
  clear h1
  unfold inR at *
  omega
theorem joinZ_in {k a b v : Int} (ha : inR a) (hb : inR b) (h : joinZ k a b = some v) : inR v := by
  unfold joinZ at h
  split at h
  · exact bnd_in h
  · split at h
    · exact bnd_in h
    · split at h
      · exact bnd_in h
      · split at h
        · split at h
          · cases h
          · cases h; exact tdiv_in ha
        · cases h; have := b2i_in (soZ k a b); unfold inR; omega
def evS (row seen : Nat → Int) : Nat → Nat → (Nat → Int) → Nat → Option Int
  | 0, _, s, top => if top = 1 then some (s 0) else none
  | m + 1, i, s, top =>
    if -7 ≤ row i then evS row seen m (i + 1) (upf s top (if 0 ≤ row i then row i else seen (-1 - row i).toNat)) (top + 1)
    else if row i = -10 then (if top < 1 then none else evS row seen m (i + 1) (upf s (top - 1) (if s (top - 1) = 0 then 1 else 0)) top)
    else if top < 2 then none else match joinZ (row i) (s (top - 2)) (s (top - 1)) with
      | none => none
      | some v => evS row seen m (i + 1) (upf s (top - 2) v) (top - 1)
theorem evS_cong (row seen : Nat → Int) : ∀ (m i : Nat) (s s' : Nat → Int) (top : Nat), (∀ p, p < top → s p = s' p) → evS row seen m i s top = evS row seen m i s' top := by
  intro m
  induction m with
  | zero =>
    intro i s s' top h
    simp only [evS]
    split
    · rw [h 0 (by omega)]
    · rfl
  | succ m ih =>
    intro i s s' top h
    simp only [evS]
    split
    · exact ih _ _ _ _ fun p hp => by
        unfold upf; split
        · rfl
        · exact h p (by omega)
    · split
      · split
        · rfl
        · rw [h (top - 1) (by omega)]
          exact ih _ _ _ _ fun p hp => by
            unfold upf; split
            · rfl
            · exact h p (by omega)
      · split
        · rfl
        · rw [h (top - 1) (by omega), h (top - 2) (by omega)]
          cases joinZ (row i) (s' (top - 2)) (s' (top - 1)) with
          | none => rfl
          | some v =>
            refine ih _ _ _ _ fun p hp => ?_
            unfold upf; split
            · rfl
            · exact h p (by omega)
theorem v_isSo {n : Nat}  (k : Int) (a : Int) (b : Int) {σ : Mm} {P : Int → Mm → Prop} (l1 : (k < -15 ∨ -8 < k) → a ≤ b → P 0 σ) (l2 : (k < -15 ∨ -8 < k) → b < a → P 1 σ) (l3 : k = -15 → a < b → P 0 σ) (l4 : k = -15 → b ≤ a → P 1 σ) (l5 : k = -14 → a = b → P 0 σ) (l6 : k = -14 → a ≠ b → P 1 σ) (l7 : k = -13 → a ≠ b → P 0 σ) (l8 : k = -13 → a = b → P 1 σ) (l9 : k = -12 → b < a → P 0 σ) (l10 : k = -12 → a ≤ b → P 1 σ) (l11 : k = -11 → b ≤ a → P 0 σ) (l12 : k = -11 → a < b → P 1 σ) (l13 : k = -10 → a ≤ b → P 0 σ) (l14 : k = -10 → b < a → P 1 σ) (l15 : k = -9 → a = (0 : Int) → P 0 σ) (l16 : k = -9 → a ≠ (0 : Int) → b = (0 : Int) → P 0 σ) (l17 : k = -9 → a ≠ (0 : Int) → b ≠ (0 : Int) → P 1 σ) (l18 : k = -8 → a ≠ (0 : Int) → P 1 σ) (l19 : k = -8 → a = (0 : Int) → b = (0 : Int) → P 0 σ) (l20 : k = -8 → a = (0 : Int) → b ≠ (0 : Int) → P 1 σ) : Ci 36 [vi k, vl a, vl b] (shF n) σ P :=
  show R 36 0 [some (vi k), some (vl a), none, some (vl b), none] [] (shF n) 0 0 σ (Qi (shF n) P) from wpK_R 13 [] (And.intro (fun q1 => And.intro (fun q2 => have q3 := (Int.le_of_lt q2); And.intro (fun _ => And.intro ret0 (And.intro (Or.inl rfl) ⟨rfl, _, rfl, (l1 q1 q3)⟩)) (fun z => absurd (show (-1 : Int) ≤ 0 by decide) z)) (And.intro (fun q2 => have q3 := (Int.le_of_eq q2); And.intro (fun _ => And.intro ret0 (And.intro (Or.inl rfl) ⟨rfl, _, rfl, (l1 q1 q3)⟩)) (fun z => absurd (show (0 : Int) ≤ 0 by decide) z)) (fun q2 => have q3 := (q2); And.intro (fun z => absurd z (show ¬ ((1 : Int) ≤ 0) by decide)) (fun _ => And.intro ret0 (And.intro (Or.inr rfl) ⟨rfl, _, rfl, (l2 q1 q3)⟩))))) (And.intro (fun q1 => And.intro (fun q4 => have q5 := (q4); And.intro (fun _ => And.intro ret0 (And.intro (Or.inl rfl) ⟨rfl, _, rfl, (l3 q1 q5)⟩)) (fun z => absurd (show (-1 : Int) < 0 by decide) z)) (And.intro (fun q4 => have q5 := (Int.le_of_eq (Eq.symm q4)); And.intro (fun z => absurd z (show ¬ ((0 : Int) < 0) by decide)) (fun _ => And.intro ret0 (And.intro (Or.inr rfl) ⟨rfl, _, rfl, (l4 q1 q5)⟩))) (fun q4 => have q5 := (Int.le_of_lt q4); And.intro (fun z => absurd z (show ¬ ((1 : Int) < 0) by decide)) (fun _ => And.intro ret0 (And.intro (Or.inr rfl) ⟨rfl, _, rfl, (l4 q1 q5)⟩))))) (And.intro (fun q1 => And.intro (fun q6 => have q7 := (Int.ne_of_lt q6); And.intro (fun z => absurd z (show ¬ ((-1 : Int) = 0) by decide)) (fun _ => And.intro ret0 (And.intro (Or.inr rfl) ⟨rfl, _, rfl, (l6 q1 q7)⟩))) (And.intro (fun q6 => have q7 := (q6); And.intro (fun _ => And.intro ret0 (And.intro (Or.inl rfl) ⟨rfl, _, rfl, (l5 q1 q7)⟩)) (fun z => absurd (show (0 : Int) = 0 by decide) z)) (fun q6 => have q7 := (Int.ne_of_gt q6); And.intro (fun z => absurd z (show ¬ ((1 : Int) = 0) by decide)) (fun _ => And.intro ret0 (And.intro (Or.inr rfl) ⟨rfl, _, rfl, (l6 q1 q7)⟩))))) (And.intro (fun q1 => And.intro (fun q8 => have q9 := (Int.ne_of_lt q8); And.intro (fun _ => And.intro ret0 (And.intro (Or.inl rfl) ⟨rfl, _, rfl, (l7 q1 q9)⟩)) (fun z => absurd (show (-1 : Int) ≠ 0 by decide) z)) (And.intro (fun q8 => have q9 := (q8); And.intro (fun z => absurd z (show ¬ ((0 : Int) ≠ 0) by decide)) (fun _ => And.intro ret0 (And.intro (Or.inr rfl) ⟨rfl, _, rfl, (l8 q1 q9)⟩))) (fun q8 => have q9 := (Int.ne_of_gt q8); And.intro (fun _ => And.intro ret0 (And.intro (Or.inl rfl) ⟨rfl, _, rfl, (l7 q1 q9)⟩)) (fun z => absurd (show (1 : Int) ≠ 0 by decide) z)))) (And.intro (fun q1 => And.intro (fun q10 => have q11 := (Int.le_of_lt q10); And.intro (fun z => absurd z (show ¬ ((-1 : Int) > 0) by decide)) (fun _ => And.intro ret0 (And.intro (Or.inr rfl) ⟨rfl, _, rfl, (l10 q1 q11)⟩))) (And.intro (fun q10 => have q11 := (Int.le_of_eq q10); And.intro (fun z => absurd z (show ¬ ((0 : Int) > 0) by decide)) (fun _ => And.intro ret0 (And.intro (Or.inr rfl) ⟨rfl, _, rfl, (l10 q1 q11)⟩))) (fun q10 => have q11 := (q10); And.intro (fun _ => And.intro ret0 (And.intro (Or.inl rfl) ⟨rfl, _, rfl, (l9 q1 q11)⟩)) (fun z => absurd (show (1 : Int) > 0 by decide) z)))) (And.intro (fun q1 => And.intro (fun q12 => have q13 := (q12); And.intro (fun z => absurd z (show ¬ ((-1 : Int) ≥ 0) by decide)) (fun _ => And.intro ret0 (And.intro (Or.inr rfl) ⟨rfl, _, rfl, (l12 q1 q13)⟩))) (And.intro (fun q12 => have q13 := (Int.le_of_eq (Eq.symm q12)); And.intro (fun _ => And.intro ret0 (And.intro (Or.inl rfl) ⟨rfl, _, rfl, (l11 q1 q13)⟩)) (fun z => absurd (show (0 : Int) ≥ 0 by decide) z)) (fun q12 => have q13 := (Int.le_of_lt q12); And.intro (fun _ => And.intro ret0 (And.intro (Or.inl rfl) ⟨rfl, _, rfl, (l11 q1 q13)⟩)) (fun z => absurd (show (1 : Int) ≥ 0 by decide) z)))) (And.intro (fun q1 => And.intro (fun q14 => have q15 := (Int.le_of_lt q14); And.intro (fun _ => And.intro ret0 (And.intro (Or.inl rfl) ⟨rfl, _, rfl, (l13 q1 q15)⟩)) (fun z => absurd (show (-1 : Int) ≤ 0 by decide) z)) (And.intro (fun q14 => have q15 := (Int.le_of_eq q14); And.intro (fun _ => And.intro ret0 (And.intro (Or.inl rfl) ⟨rfl, _, rfl, (l13 q1 q15)⟩)) (fun z => absurd (show (0 : Int) ≤ 0 by decide) z)) (fun q14 => have q15 := (q14); And.intro (fun z => absurd z (show ¬ ((1 : Int) ≤ 0) by decide)) (fun _ => And.intro ret0 (And.intro (Or.inr rfl) ⟨rfl, _, rfl, (l14 q1 q15)⟩))))) (And.intro (fun q1 => And.intro (fun q16 => have q17 := (Int.ne_of_lt q16); And.intro (fun z => absurd z (show ¬ ((-1 : Int) = 0) by decide)) (fun _ => And.intro (fun q18 => have q19 := (Int.ne_of_lt q18); And.intro (fun z => absurd z (show ¬ ((-1 : Int) = 0) by decide)) (fun _ => And.intro ret0 (And.intro (Or.inr rfl) ⟨rfl, _, rfl, (l17 q1 q17 q19)⟩))) (And.intro (fun q18 => have q19 := (q18); And.intro (fun _ => And.intro ret0 (And.intro (Or.inl rfl) ⟨rfl, _, rfl, (l16 q1 q17 q19)⟩)) (fun z => absurd (show (0 : Int) = 0 by decide) z)) (fun q18 => have q19 := (Int.ne_of_gt q18); And.intro (fun z => absurd z (show ¬ ((1 : Int) = 0) by decide)) (fun _ => And.intro ret0 (And.intro (Or.inr rfl) ⟨rfl, _, rfl, (l17 q1 q17 q19)⟩)))))) (And.intro (fun q16 => have q17 := (q16); And.intro (fun _ => And.intro ret0 (And.intro (Or.inl rfl) ⟨rfl, _, rfl, (l15 q1 q17)⟩)) (fun z => absurd (show (0 : Int) = 0 by decide) z)) (fun q16 => have q17 := (Int.ne_of_gt q16); And.intro (fun z => absurd z (show ¬ ((1 : Int) = 0) by decide)) (fun _ => And.intro (fun q18 => have q19 := (Int.ne_of_lt q18); And.intro (fun z => absurd z (show ¬ ((-1 : Int) = 0) by decide)) (fun _ => And.intro ret0 (And.intro (Or.inr rfl) ⟨rfl, _, rfl, (l17 q1 q17 q19)⟩))) (And.intro (fun q18 => have q19 := (q18); And.intro (fun _ => And.intro ret0 (And.intro (Or.inl rfl) ⟨rfl, _, rfl, (l16 q1 q17 q19)⟩)) (fun z => absurd (show (0 : Int) = 0 by decide) z)) (fun q18 => have q19 := (Int.ne_of_gt q18); And.intro (fun z => absurd z (show ¬ ((1 : Int) = 0) by decide)) (fun _ => And.intro ret0 (And.intro (Or.inr rfl) ⟨rfl, _, rfl, (l17 q1 q17 q19)⟩)))))))) (And.intro (fun q1 => And.intro (fun q20 => have q21 := (Int.ne_of_lt q20); And.intro (fun _ => And.intro ret0 (And.intro (Or.inr rfl) ⟨rfl, _, rfl, (l18 q1 q21)⟩)) (fun z => absurd (show (-1 : Int) ≠ 0 by decide) z)) (And.intro (fun q20 => have q21 := (q20); And.intro (fun z => absurd z (show ¬ ((0 : Int) ≠ 0) by decide)) (fun _ => And.intro (fun q22 => have q23 := (Int.ne_of_lt q22); And.intro (fun z => absurd z (show ¬ ((-1 : Int) = 0) by decide)) (fun _ => And.intro ret0 (And.intro (Or.inr rfl) ⟨rfl, _, rfl, (l20 q1 q21 q23)⟩))) (And.intro (fun q22 => have q23 := (q22); And.intro (fun _ => And.intro ret0 (And.intro (Or.inl rfl) ⟨rfl, _, rfl, (l19 q1 q21 q23)⟩)) (fun z => absurd (show (0 : Int) = 0 by decide) z)) (fun q22 => have q23 := (Int.ne_of_gt q22); And.intro (fun z => absurd z (show ¬ ((1 : Int) = 0) by decide)) (fun _ => And.intro ret0 (And.intro (Or.inr rfl) ⟨rfl, _, rfl, (l20 q1 q21 q23)⟩)))))) (fun q20 => have q21 := (Int.ne_of_gt q20); And.intro (fun _ => And.intro ret0 (And.intro (Or.inr rfl) ⟨rfl, _, rfl, (l18 q1 q21)⟩)) (fun z => absurd (show (1 : Int) ≠ 0 by decide) z)))) (trivial))))))))))
theorem c_isSo {n : Nat} {k a b : Int} {σ : Mm} {P : Int → Mm → Prop} (hP : P (b2i (soZ k a b)) σ) : Ci 36 [vi k, vl a, vl b] (shF n) σ P := by
  refine v_isSo k a b ?_ ?_ ?_ ?_ ?_ ?_ ?_ ?_ ?_ ?_ ?_ ?_ ?_ ?_ ?_ ?_ ?_ ?_ ?_ ?_
  all_goals (intros; refine p_eq hP ?_; subst_vars; simp only [soZ]; first | (simp [b2i]; done) | (simp [b2i]; omega) | ((repeat rw [if_neg (by omega)]); simp [b2i]; omega))
def Jn (σ σ' : Mm) (v : Int) (o : Option Int) : Prop := σ'.1 = σ.1 ∧ (∀ a b, ¬ (a = 67 ∧ b = 3) → gl σ' a b = gl σ a b) ∧ ((v = 1 ∧ o = some (gl σ' 67 3)) ∨ (v = 0 ∧ o = none))
theorem v_joins {n : Nat}  (k : Int) (a : Int) (b : Int) {σ : Mm} {P : Int → Mm → Prop} (o1 : k = -20 → b ≠ (0 : Int) → (b ≠ 0 ∧ rgl (Int.tdiv a b))) (o2 : k = -19 → b = (0 : Int) → rgl (a * b)) (o3 : k = -19 → b ≠ (0 : Int) → (-9223372036854775808 < a ∧ a < 9223372036854775808)) (o4 : k = -19 → b ≠ (0 : Int) → (-9223372036854775808 < b ∧ b < 9223372036854775808)) (o5 : k = -19 → b ≠ (0 : Int) → ((iabs b) ≠ 0 ∧ rgl (Int.tdiv (1000000000000 : Int) (iabs b)))) (o6 : k = -19 → b ≠ (0 : Int) → (iabs a) ≤ (Int.tdiv (1000000000000 : Int) (iabs b)) → rgl (a * b)) (o7 : k = -18 → rgl (a - b)) (o8 : k = -17 → rgl (a + b)) (l1 : (k < -20 ∨ -17 < k) → ∀ x2 : Int, x2 = b2i (soZ k a b) → x2 = (0 : Int) → ∀ t4 : Mm, t4 = sl σ 67 3 (0 : Int) → P 1 t4) (l2 : (k < -20 ∨ -17 < k) → ∀ x2 : Int, x2 = b2i (soZ k a b) → x2 ≠ (0 : Int) → ∀ t5 : Mm, t5 = sl σ 67 3 (1 : Int) → P 1 t5) (l3 : k = -20 → b ≠ (0 : Int) → ∀ t9 : Mm, t9 = sl σ 67 3 (Int.tdiv a b) → P 1 t9) (l4 : k = -20 → b = (0 : Int) → P 0 σ) (l5 : k = -19 → b = (0 : Int) → ∀ t13 : Mm, t13 = sl σ 67 3 (a * b) → P 1 t13) (l6 : k = -19 → b ≠ (0 : Int) → (iabs a) ≤ (Int.tdiv (1000000000000 : Int) (iabs b)) → ∀ t20 : Mm, t20 = sl σ 67 3 (a * b) → P 1 t20) (l7 : k = -19 → b ≠ (0 : Int) → (Int.tdiv (1000000000000 : Int) (iabs b)) < (iabs a) → P 0 σ) (l8 : k = -18 → ∀ t22 : Mm, t22 = sl σ 67 3 (a - b) → (1000000000000 : Int) < (a - b) → P 0 t22) (l9 : k = -18 → ∀ t22 : Mm, t22 = sl σ 67 3 (a - b) → (a - b) ≤ (1000000000000 : Int) → (a - b) < (-1000000000000 : Int) → P 0 t22) (l10 : k = -18 → ∀ t22 : Mm, t22 = sl σ 67 3 (a - b) → (a - b) ≤ (1000000000000 : Int) → (-1000000000000 : Int) ≤ (a - b) → P 1 t22) (l11 : k = -17 → ∀ t28 : Mm, t28 = sl σ 67 3 (a + b) → (1000000000000 : Int) < (a + b) → P 0 t28) (l12 : k = -17 → ∀ t28 : Mm, t28 = sl σ 67 3 (a + b) → (a + b) ≤ (1000000000000 : Int) → (a + b) < (-1000000000000 : Int) → P 0 t28) (l13 : k = -17 → ∀ t28 : Mm, t28 = sl σ 67 3 (a + b) → (a + b) ≤ (1000000000000 : Int) → (-1000000000000 : Int) ≤ (a + b) → P 1 t28) : Ci 35 [vr 67, vi k, vl a, vl b] (shF n) σ P :=
  show R 35 0 [some (vr 67), some (vi k), some (vl a), none, some (vl b), none] [] (shF n) 0 0 σ (Qi (shF n) P) from wpK_R 21 [] (And.intro (fun q1 => (c_isSo   (And.intro (fun q3 => And.intro ret0 (And.intro (Or.inr rfl) ⟨rfl, _, rfl, (l1 q1 _ rfl q3 _ rfl)⟩)) (fun q3 => And.intro ret0 (And.intro (Or.inr rfl) ⟨rfl, _, rfl, (l2 q1 _ rfl q3 _ rfl)⟩))))) (And.intro (fun q1 => And.intro (fun q6 => have q7 := (Int.ne_of_lt q6); And.intro (fun _ => (have k8 := (o1 q1 q7); And.intro k8 (And.intro ret0 (And.intro (Or.inr rfl) ⟨rfl, _, rfl, (l3 q1 q7 _ rfl)⟩)))) (fun z => absurd (show (-1 : Int) ≠ 0 by decide) z)) (And.intro (fun q6 => have q7 := (q6); And.intro (fun z => absurd z (show ¬ ((0 : Int) ≠ 0) by decide)) (fun _ => And.intro ret0 (And.intro (Or.inl rfl) ⟨rfl, _, rfl, (l4 q1 q7)⟩))) (fun q6 => have q7 := (Int.ne_of_gt q6); And.intro (fun _ => (have k8 := (o1 q1 q7); And.intro k8 (And.intro ret0 (And.intro (Or.inr rfl) ⟨rfl, _, rfl, (l3 q1 q7 _ rfl)⟩)))) (fun z => absurd (show (1 : Int) ≠ 0 by decide) z)))) (And.intro (fun q1 => And.intro (fun q10 => have q11 := (Int.ne_of_lt q10); And.intro (fun z => absurd z (show ¬ ((-1 : Int) = 0) by decide)) (fun _ => (have k14 := (o3 q1 q11); And.intro k14 ((have k15 := (o4 q1 q11); And.intro k15 ((have k16 := (o5 q1 q11); And.intro k16 (And.intro (fun q17 => have q18 := (Int.le_of_lt q17); And.intro (fun _ => (have k19 := (o6 q1 q11 q18); And.intro k19 (And.intro ret0 (And.intro (Or.inr rfl) ⟨rfl, _, rfl, (l6 q1 q11 q18 _ rfl)⟩)))) (fun z => absurd (show (-1 : Int) ≤ 0 by decide) z)) (And.intro (fun q17 => have q18 := (Int.le_of_eq q17); And.intro (fun _ => (have k19 := (o6 q1 q11 q18); And.intro k19 (And.intro ret0 (And.intro (Or.inr rfl) ⟨rfl, _, rfl, (l6 q1 q11 q18 _ rfl)⟩)))) (fun z => absurd (show (0 : Int) ≤ 0 by decide) z)) (fun q17 => have q18 := (q17); And.intro (fun z => absurd z (show ¬ ((1 : Int) ≤ 0) by decide)) (fun _ => And.intro ret0 (And.intro (Or.inl rfl) ⟨rfl, _, rfl, (l7 q1 q11 q18)⟩)))))))))))) (And.intro (fun q10 => have q11 := (q10); And.intro (fun _ => (have k12 := (o2 q1 q11); And.intro k12 (And.intro ret0 (And.intro (Or.inr rfl) ⟨rfl, _, rfl, (l5 q1 q11 _ rfl)⟩)))) (fun z => absurd (show (0 : Int) = 0 by decide) z)) (fun q10 => have q11 := (Int.ne_of_gt q10); And.intro (fun z => absurd z (show ¬ ((1 : Int) = 0) by decide)) (fun _ => (have k14 := (o3 q1 q11); And.intro k14 ((have k15 := (o4 q1 q11); And.intro k15 ((have k16 := (o5 q1 q11); And.intro k16 (And.intro (fun q17 => have q18 := (Int.le_of_lt q17); And.intro (fun _ => (have k19 := (o6 q1 q11 q18); And.intro k19 (And.intro ret0 (And.intro (Or.inr rfl) ⟨rfl, _, rfl, (l6 q1 q11 q18 _ rfl)⟩)))) (fun z => absurd (show (-1 : Int) ≤ 0 by decide) z)) (And.intro (fun q17 => have q18 := (Int.le_of_eq q17); And.intro (fun _ => (have k19 := (o6 q1 q11 q18); And.intro k19 (And.intro ret0 (And.intro (Or.inr rfl) ⟨rfl, _, rfl, (l6 q1 q11 q18 _ rfl)⟩)))) (fun z => absurd (show (0 : Int) ≤ 0 by decide) z)) (fun q17 => have q18 := (q17); And.intro (fun z => absurd z (show ¬ ((1 : Int) ≤ 0) by decide)) (fun _ => And.intro ret0 (And.intro (Or.inl rfl) ⟨rfl, _, rfl, (l7 q1 q11 q18)⟩)))))))))))))) (And.intro (fun q1 => (have k21 := (o7 q1); And.intro k21 ((show R 34 0 [_, none] [] (shF n) 0 0 _ _ from wpK_R 11 [] (And.intro (fun q23 => have q24 := (Int.le_of_lt q23); And.intro (fun z => absurd z (show ¬ ((-1 : Int) > 0) by decide)) (fun _ => And.intro (fun q25 => have q26 := (q25); And.intro (fun _ => And.intro ret0 (And.intro (Or.inl rfl) ⟨rfl, _, rfl, And.intro ret0 (And.intro (Or.inl rfl) ⟨rfl, _, rfl, (l9 q1 _ rfl q24 q26)⟩)⟩)) (fun z => absurd (show (-1 : Int) < 0 by decide) z)) (And.intro (fun q25 => have q26 := (Int.le_of_eq (Eq.symm q25)); And.intro (fun z => absurd z (show ¬ ((0 : Int) < 0) by decide)) (fun _ => And.intro ret0 (And.intro (Or.inr rfl) ⟨rfl, _, rfl, And.intro ret0 (And.intro (Or.inr rfl) ⟨rfl, _, rfl, (l10 q1 _ rfl q24 q26)⟩)⟩))) (fun q25 => have q26 := (Int.le_of_lt q25); And.intro (fun z => absurd z (show ¬ ((1 : Int) < 0) by decide)) (fun _ => And.intro ret0 (And.intro (Or.inr rfl) ⟨rfl, _, rfl, And.intro ret0 (And.intro (Or.inr rfl) ⟨rfl, _, rfl, (l10 q1 _ rfl q24 q26)⟩)⟩)))))) (And.intro (fun q23 => have q24 := (Int.le_of_eq q23); And.intro (fun z => absurd z (show ¬ ((0 : Int) > 0) by decide)) (fun _ => And.intro (fun q25 => have q26 := (q25); And.intro (fun _ => And.intro ret0 (And.intro (Or.inl rfl) ⟨rfl, _, rfl, And.intro ret0 (And.intro (Or.inl rfl) ⟨rfl, _, rfl, (l9 q1 _ rfl q24 q26)⟩)⟩)) (fun z => absurd (show (-1 : Int) < 0 by decide) z)) (And.intro (fun q25 => have q26 := (Int.le_of_eq (Eq.symm q25)); And.intro (fun z => absurd z (show ¬ ((0 : Int) < 0) by decide)) (fun _ => And.intro ret0 (And.intro (Or.inr rfl) ⟨rfl, _, rfl, And.intro ret0 (And.intro (Or.inr rfl) ⟨rfl, _, rfl, (l10 q1 _ rfl q24 q26)⟩)⟩))) (fun q25 => have q26 := (Int.le_of_lt q25); And.intro (fun z => absurd z (show ¬ ((1 : Int) < 0) by decide)) (fun _ => And.intro ret0 (And.intro (Or.inr rfl) ⟨rfl, _, rfl, And.intro ret0 (And.intro (Or.inr rfl) ⟨rfl, _, rfl, (l10 q1 _ rfl q24 q26)⟩)⟩)))))) (fun q23 => have q24 := (q23); And.intro (fun _ => And.intro ret0 (And.intro (Or.inl rfl) ⟨rfl, _, rfl, And.intro ret0 (And.intro (Or.inl rfl) ⟨rfl, _, rfl, (l8 q1 _ rfl q24)⟩)⟩)) (fun z => absurd (show (1 : Int) > 0 by decide) z)))))))) (And.intro (fun q1 => (have k27 := (o8 q1); And.intro k27 ((show R 34 0 [_, none] [] (shF n) 0 0 _ _ from wpK_R 11 [] (And.intro (fun q29 => have q30 := (Int.le_of_lt q29); And.intro (fun z => absurd z (show ¬ ((-1 : Int) > 0) by decide)) (fun _ => And.intro (fun q31 => have q32 := (q31); And.intro (fun _ => And.intro ret0 (And.intro (Or.inl rfl) ⟨rfl, _, rfl, And.intro ret0 (And.intro (Or.inl rfl) ⟨rfl, _, rfl, (l12 q1 _ rfl q30 q32)⟩)⟩)) (fun z => absurd (show (-1 : Int) < 0 by decide) z)) (And.intro (fun q31 => have q32 := (Int.le_of_eq (Eq.symm q31)); And.intro (fun z => absurd z (show ¬ ((0 : Int) < 0) by decide)) (fun _ => And.intro ret0 (And.intro (Or.inr rfl) ⟨rfl, _, rfl, And.intro ret0 (And.intro (Or.inr rfl) ⟨rfl, _, rfl, (l13 q1 _ rfl q30 q32)⟩)⟩))) (fun q31 => have q32 := (Int.le_of_lt q31); And.intro (fun z => absurd z (show ¬ ((1 : Int) < 0) by decide)) (fun _ => And.intro ret0 (And.intro (Or.inr rfl) ⟨rfl, _, rfl, And.intro ret0 (And.intro (Or.inr rfl) ⟨rfl, _, rfl, (l13 q1 _ rfl q30 q32)⟩)⟩)))))) (And.intro (fun q29 => have q30 := (Int.le_of_eq q29); And.intro (fun z => absurd z (show ¬ ((0 : Int) > 0) by decide)) (fun _ => And.intro (fun q31 => have q32 := (q31); And.intro (fun _ => And.intro ret0 (And.intro (Or.inl rfl) ⟨rfl, _, rfl, And.intro ret0 (And.intro (Or.inl rfl) ⟨rfl, _, rfl, (l12 q1 _ rfl q30 q32)⟩)⟩)) (fun z => absurd (show (-1 : Int) < 0 by decide) z)) (And.intro (fun q31 => have q32 := (Int.le_of_eq (Eq.symm q31)); And.intro (fun z => absurd z (show ¬ ((0 : Int) < 0) by decide)) (fun _ => And.intro ret0 (And.intro (Or.inr rfl) ⟨rfl, _, rfl, And.intro ret0 (And.intro (Or.inr rfl) ⟨rfl, _, rfl, (l13 q1 _ rfl q30 q32)⟩)⟩))) (fun q31 => have q32 := (Int.le_of_lt q31); And.intro (fun z => absurd z (show ¬ ((1 : Int) < 0) by decide)) (fun _ => And.intro ret0 (And.intro (Or.inr rfl) ⟨rfl, _, rfl, And.intro ret0 (And.intro (Or.inr rfl) ⟨rfl, _, rfl, (l13 q1 _ rfl q30 q32)⟩)⟩)))))) (fun q29 => have q30 := (q29); And.intro (fun _ => And.intro ret0 (And.intro (Or.inl rfl) ⟨rfl, _, rfl, And.intro ret0 (And.intro (Or.inl rfl) ⟨rfl, _, rfl, (l11 q1 _ rfl q30)⟩)⟩)) (fun z => absurd (show (1 : Int) > 0 by decide) z)))))))) (trivial))))))
theorem mul_in {a b : Int} (hb : b ≠ 0) : iabs a ≤ Int.tdiv 1000000000000 (iabs b) ↔ inR (a * b) := by
  have hb0 : 0 < iabs b := by unfold iabs; split <;> omega
  rw [tdiv_nn (by decide), Int.le_ediv_iff_mul_le hb0]
  have e : iabs a * iabs b = iabs (a * b) := by
    unfold iabs
    rcases Int.lt_or_le a 0 with h1 | h1 <;> rcases Int.lt_or_le b 0 with h2 | h2
    · rw [if_neg (by omega), if_neg (by omega), if_pos (Int.le_of_lt (Int.mul_pos_of_neg_of_neg h1 h2)), Int.neg_mul_neg]
    · have : a * b ≤ 0 := Int.mul_nonpos_of_nonpos_of_nonneg (by omega) h2
      rw [if_neg (by omega), if_pos h2, Int.neg_mul]
      split <;> omega
    · have : a * b ≤ 0 := Int.mul_nonpos_of_nonneg_of_nonpos h1 (by omega)
      rw [if_pos h1, if_neg (by omega), Int.mul_neg]
      split <;> omega
    · rw [if_pos h1, if_pos h2, if_pos (Int.mul_nonneg h1 h2)]
  rw [e]
  unfold iabs inR
  split <;> omega
theorem Jn_ok {σ : Mm} {x : Int} {o : Option Int} (h : o = some x) : Jn σ (sl σ 67 3 x) 1 o := ⟨rfl, fun a b h => by rw [gl_sl, if_neg h], Or.inl ⟨rfl, by rw [gl_hit]; exact h⟩⟩
theorem Jn_no {σ : Mm} {x : Int} {o : Option Int} (h : o = none) : Jn σ (sl σ 67 3 x) 0 o := ⟨rfl, fun a b h => by rw [gl_sl, if_neg h], Or.inr ⟨rfl, h⟩⟩
theorem Jn_no' {σ : Mm} {o : Option Int} (h : o = none) : Jn σ σ 0 o := ⟨rfl, fun a b h => rfl, Or.inr ⟨rfl, h⟩⟩
theorem c_joins {n : Nat} {k a b : Int} {σ : Mm} {P : Int → Mm → Prop} (ha : inR a) (hb : inR b) (hP : ∀ v σ', Jn σ σ' v (joinZ k a b) → P v σ') : Ci 35 [vr 67, vi k, vl a, vl b] (shF n) σ P := by
  have ha' := ha
  have hb' := hb
  have hm : b ≠ 0 → (iabs a ≤ Int.tdiv 1000000000000 (iabs b) ↔ inR (a * b)) := mul_in
  have hd : inR (Int.tdiv a b) := tdiv_in ha
  have hd2 : inR (Int.tdiv 1000000000000 (iabs b)) := tdiv_in (by unfold inR; omega)
  unfold inR at ha' hb' hm hd hd2
  refine v_joins k a b (by intros; subst_vars; first | omega | (unfold rgl; omega) | (unfold iabs; omega) | (unfold iabs rgl; split <;> omega) | (refine ⟨?_, ?_⟩ <;> first | (unfold rgl; omega) | (unfold iabs; omega))) (by intros; subst_vars; first | omega | (unfold rgl; omega) | (unfold iabs; omega) | (unfold iabs rgl; split <;> omega) | (refine ⟨?_, ?_⟩ <;> first | (unfold rgl; omega) | (unfold iabs; omega))) (by intros; subst_vars; first | omega | (unfold rgl; omega) | (unfold iabs; omega) | (unfold iabs rgl; split <;> omega) | (refine ⟨?_, ?_⟩ <;> first | (unfold rgl; omega) | (unfold iabs; omega))) (by intros; subst_vars; first | omega | (unfold rgl; omega) | (unfold iabs; omega) | (unfold iabs rgl; split <;> omega) | (refine ⟨?_, ?_⟩ <;> first | (unfold rgl; omega) | (unfold iabs; omega))) (by intros; subst_vars; first | omega | (unfold rgl; omega) | (unfold iabs; omega) | (unfold iabs rgl; split <;> omega) | (refine ⟨?_, ?_⟩ <;> first | (unfold rgl; omega) | (unfold iabs; omega))) (by intros; subst_vars; first | omega | (unfold rgl; omega) | (unfold iabs; omega) | (unfold iabs rgl; split <;> omega) | (refine ⟨?_, ?_⟩ <;> first | (unfold rgl; omega) | (unfold iabs; omega))) (by intros; subst_vars; first | omega | (unfold rgl; omega) | (unfold iabs; omega) | (unfold iabs rgl; split <;> omega) | (refine ⟨?_, ?_⟩ <;> first | (unfold rgl; omega) | (unfold iabs; omega))) (by intros; subst_vars; first | omega | (unfold rgl; omega) | (unfold iabs; omega) | (unfold iabs rgl; split <;> omega) | (refine ⟨?_, ?_⟩ <;> first | (unfold rgl; omega) | (unfold iabs; omega))) ?_ ?_ ?_ ?_ ?_ ?_ ?_ ?_ ?_ ?_ ?_ ?_ ?_
  · intros; subst_vars; refine hP _ _ (Jn_ok ?_); simp only [joinZ]; repeat (rw [if_neg (by omega)])
    congr 1
  · intros; subst_vars; refine hP _ _ (Jn_ok ?_); simp only [joinZ]; repeat (rw [if_neg (by omega)])
    have := b2i_01 (soZ k a b)
    congr 1; omega
  · intros; subst_vars; refine hP _ _ (Jn_ok ?_); simp [joinZ, *]
  · intros; subst_vars; refine hP _ _ (Jn_no' ?_); simp [joinZ]
  · intros; subst_vars; refine hP _ _ (Jn_ok ?_); simp [joinZ, bnd]
  · intro h1 h2 h3; intros; subst_vars; refine hP _ _ (Jn_ok ?_); have := (hm h2).mp h3; simp [joinZ, bnd, this]
  · intro h1 h2 h3; subst_vars; refine hP _ _ (Jn_no' ?_); have := mt (hm h2).mpr (by omega); simp [joinZ, bnd, this]
  · intros; subst_vars; refine hP _ _ (Jn_no ?_); simp [gl_hit] at *; simp [joinZ, bnd]; omega
  · intros; subst_vars; refine hP _ _ (Jn_no ?_); simp [gl_hit] at *; simp [joinZ, bnd]; omega
  · intros; subst_vars; refine hP _ _ (Jn_ok ?_); simp [gl_hit] at *; simp [joinZ, bnd]; omega
  · intros; subst_vars; refine hP _ _ (Jn_no ?_); simp [gl_hit] at *; simp [joinZ, bnd]; omega
  · intros; subst_vars; refine hP _ _ (Jn_no ?_); simp [gl_hit] at *; simp [joinZ, bnd]; omega
  · intros; subst_vars; refine hP _ _ (Jn_ok ?_); simp [gl_hit] at *; simp [joinZ, bnd]; omega

def vw (σ : Mm) (w : Nat) : Nat → Nat → Int := fun f i => if f ≤ 15 then gi σ (w + f) i else 0
/-- a law's value by the book T and what is seen -/
def evT (T : Nat → Nat → Int) (w : Nat) (nm : Nat → Int) : Option Int := evS (T 13) nm (T 15 w - T 14 w).toNat (T 14 w).toNat (fun _ => 0) 0
def Wk (σ σ' : Mm) (v : Int) (o : Option Int) : Prop := σ'.1 = σ.1 ∧ (∀ a b, a ≠ 67 → a ≠ 69 → gl σ' a b = gl σ a b) ∧ ((v = 1 ∧ o = some (gl σ' 67 2)) ∨ (v = 0 ∧ o = none))
theorem v_works_0 {n : Nat}  (w : Nat) {σ : Mm} {P : Int → Mm → Prop} (o1 : (0 ≤ (w : Int) ∧ (w : Int) < 3)) (l1 : ∀ x2 : Int, x2 = gi σ 20 w → ∀ x3 : Int, x3 = gi σ 19 w → R 33 18 [some (vr 67), some (vr 17), some (vi (w : Int)), some (vi 0), some (vi x2), some (vi x3), none] [] (shF n) 0 0 σ (Qi (shF n) P)) : Ci 33 [vr 67, vr 17, vi (w : Int)] (shF n) σ P :=
  show R 33 0 [some (vr 67), some (vr 17), some (vi (w : Int)), none, none, none, none] [] (shF n) 0 0 σ (Qi (shF n) P) from wpK_R 13 [18] ((have k1 := (o1); And.intro k1 (And.intro k1 ((l1 _ rfl _ rfl)))))
theorem v_works_18 {n : Nat}  (w : Nat) (top : Nat) (e : Int) (i : Nat) (kn : Option PV) {σ : Mm} {P : Int → Mm → Prop} (o1 : (i : Int) < e → (i : Int) < (64 : Int) → (0 ≤ (i : Int) ∧ (i : Int) < 64)) (o2 : (i : Int) < e → (i : Int) < (64 : Int) → ∀ x8 : Int, x8 = gi σ 18 i → x8 < (-7 : Int) → x8 ≠ (-10 : Int) → (2 : Int) ≤ (top : Int) → rg ((top : Int) - 2)) (o3 : (i : Int) < e → (i : Int) < (64 : Int) → ∀ x8 : Int, x8 = gi σ 18 i → x8 < (-7 : Int) → x8 ≠ (-10 : Int) → (2 : Int) ≤ (top : Int) → (0 ≤ ((top : Int) - 2) ∧ ((top : Int) - 2) < 64)) (o4 : (i : Int) < e → (i : Int) < (64 : Int) → ∀ x8 : Int, x8 = gi σ 18 i → x8 < (-7 : Int) → x8 ≠ (-10 : Int) → (2 : Int) ≤ (top : Int) → rg ((top : Int) - 1)) (o5 : (i : Int) < e → (i : Int) < (64 : Int) → ∀ x8 : Int, x8 = gi σ 18 i → x8 < (-7 : Int) → x8 ≠ (-10 : Int) → (2 : Int) ≤ (top : Int) → (0 ≤ ((top : Int) - 1) ∧ ((top : Int) - 1) < 64)) (o6 : (i : Int) < e → (i : Int) < (64 : Int) → ∀ x8 : Int, x8 = gi σ 18 i → x8 < (-7 : Int) → x8 ≠ (-10 : Int) → (2 : Int) ≤ (top : Int) → inR (gl σ 69 ((top : Int) - 2).toNat)) (o7 : (i : Int) < e → (i : Int) < (64 : Int) → ∀ x8 : Int, x8 = gi σ 18 i → x8 < (-7 : Int) → x8 ≠ (-10 : Int) → (2 : Int) ≤ (top : Int) → inR (gl σ 69 ((top : Int) - 1).toNat)) (o8 : (i : Int) < e → (i : Int) < (64 : Int) → ∀ x8 : Int, x8 = gi σ 18 i → x8 < (-7 : Int) → x8 ≠ (-10 : Int) → (2 : Int) ≤ (top : Int) → ∀ (v16 : Int) (s17 : Mm), Jn σ s17 v16 (joinZ x8 (gl σ 69 ((top : Int) - 2).toNat) (gl σ 69 ((top : Int) - 1).toNat)) → v16 ≠ (0 : Int) → rg ((top : Int) + (-1))) (o9 : (i : Int) < e → (i : Int) < (64 : Int) → ∀ x8 : Int, x8 = gi σ 18 i → x8 < (-7 : Int) → x8 ≠ (-10 : Int) → (2 : Int) ≤ (top : Int) → ∀ (v16 : Int) (s17 : Mm), Jn σ s17 v16 (joinZ x8 (gl σ 69 ((top : Int) - 2).toNat) (gl σ 69 ((top : Int) - 1).toNat)) → v16 ≠ (0 : Int) → ∀ x21 : Int, x21 = (top : Int) + (-1) → rg (x21 - 1)) (o10 : (i : Int) < e → (i : Int) < (64 : Int) → ∀ x8 : Int, x8 = gi σ 18 i → x8 < (-7 : Int) → x8 ≠ (-10 : Int) → (2 : Int) ≤ (top : Int) → ∀ (v16 : Int) (s17 : Mm), Jn σ s17 v16 (joinZ x8 (gl σ 69 ((top : Int) - 2).toNat) (gl σ 69 ((top : Int) - 1).toNat)) → v16 ≠ (0 : Int) → ∀ x21 : Int, x21 = (top : Int) + (-1) → (0 ≤ (x21 - 1) ∧ (x21 - 1) < 64)) (o11 : (i : Int) < e → (i : Int) < (64 : Int) → ∀ x8 : Int, x8 = gi σ 18 i → x8 < (-7 : Int) → x8 ≠ (-10 : Int) → (2 : Int) ≤ (top : Int) → ∀ (v16 : Int) (s17 : Mm), Jn σ s17 v16 (joinZ x8 (gl σ 69 ((top : Int) - 2).toNat) (gl σ 69 ((top : Int) - 1).toNat)) → v16 ≠ (0 : Int) → ∀ x21 : Int, x21 = (top : Int) + (-1) → ∀ t24 : Mm, t24 = sl s17 69 (x21 - 1).toNat (gl s17 67 3) → rg ((i : Int) + 1)) (o12 : (i : Int) < e → (i : Int) < (64 : Int) → ∀ x8 : Int, x8 = gi σ 18 i → x8 < (-7 : Int) → x8 = (-10 : Int) → (1 : Int) ≤ (top : Int) → rg ((top : Int) - 1)) (o13 : (i : Int) < e → (i : Int) < (64 : Int) → ∀ x8 : Int, x8 = gi σ 18 i → x8 < (-7 : Int) → x8 = (-10 : Int) → (1 : Int) ≤ (top : Int) → (0 ≤ ((top : Int) - 1) ∧ ((top : Int) - 1) < 64)) (o14 : (i : Int) < e → (i : Int) < (64 : Int) → ∀ x8 : Int, x8 = gi σ 18 i → x8 < (-7 : Int) → x8 = (-10 : Int) → (1 : Int) ≤ (top : Int) → (gl σ 69 ((top : Int) - 1).toNat) ≠ (0 : Int) → ∀ t31 : Mm, t31 = sl σ 69 ((top : Int) - 1).toNat (0 : Int) → rg ((i : Int) + 1)) (o15 : (i : Int) < e → (i : Int) < (64 : Int) → ∀ x8 : Int, x8 = gi σ 18 i → x8 < (-7 : Int) → x8 = (-10 : Int) → (1 : Int) ≤ (top : Int) → (gl σ 69 ((top : Int) - 1).toNat) = (0 : Int) → ∀ t33 : Mm, t33 = sl σ 69 ((top : Int) - 1).toNat (1 : Int) → rg ((i : Int) + 1)) (o16 : (i : Int) < e → (i : Int) < (64 : Int) → ∀ x8 : Int, x8 = gi σ 18 i → (-7 : Int) ≤ x8 → x8 < (0 : Int) → rg ((-1 : Int) - x8)) (o17 : (i : Int) < e → (i : Int) < (64 : Int) → ∀ x8 : Int, x8 = gi σ 18 i → (-7 : Int) ≤ x8 → x8 < (0 : Int) → (0 ≤ ((-1 : Int) - x8) ∧ ((-1 : Int) - x8) < 7)) (o18 : (i : Int) < e → (i : Int) < (64 : Int) → ∀ x8 : Int, x8 = gi σ 18 i → (-7 : Int) ≤ x8 → x8 < (0 : Int) → (0 ≤ (top : Int) ∧ (top : Int) < 64)) (o19 : (i : Int) < e → (i : Int) < (64 : Int) → ∀ x8 : Int, x8 = gi σ 18 i → (-7 : Int) ≤ x8 → x8 < (0 : Int) → ∀ t39 : Mm, t39 = sl σ 69 top (gi σ 68 ((-1 : Int) - x8).toNat) → rg ((top : Int) + 1)) (o20 : (i : Int) < e → (i : Int) < (64 : Int) → ∀ x8 : Int, x8 = gi σ 18 i → (-7 : Int) ≤ x8 → x8 < (0 : Int) → ∀ t39 : Mm, t39 = sl σ 69 top (gi σ 68 ((-1 : Int) - x8).toNat) → rg ((i : Int) + 1)) (o21 : (i : Int) < e → (i : Int) < (64 : Int) → ∀ x8 : Int, x8 = gi σ 18 i → (-7 : Int) ≤ x8 → (0 : Int) ≤ x8 → (0 ≤ (top : Int) ∧ (top : Int) < 64)) (o22 : (i : Int) < e → (i : Int) < (64 : Int) → ∀ x8 : Int, x8 = gi σ 18 i → (-7 : Int) ≤ x8 → (0 : Int) ≤ x8 → ∀ t43 : Mm, t43 = sl σ 69 top x8 → rg ((top : Int) + 1)) (o23 : (i : Int) < e → (i : Int) < (64 : Int) → ∀ x8 : Int, x8 = gi σ 18 i → (-7 : Int) ≤ x8 → (0 : Int) ≤ x8 → ∀ t43 : Mm, t43 = sl σ 69 top x8 → rg ((i : Int) + 1)) (l1 : e ≤ (i : Int) → ∀ t2 : Mm, t2 = sl σ 67 2 (gl σ 69 0) → (top : Int) ≠ (1 : Int) → P 0 t2) (l2 : e ≤ (i : Int) → ∀ t2 : Mm, t2 = sl σ 67 2 (gl σ 69 0) → (top : Int) = (1 : Int) → P 1 t2) (l3 : (i : Int) < e → (64 : Int) ≤ (i : Int) → ∀ t5 : Mm, t5 = sl σ 67 2 (gl σ 69 0) → (top : Int) ≠ (1 : Int) → P 0 t5) (l4 : (i : Int) < e → (64 : Int) ≤ (i : Int) → ∀ t5 : Mm, t5 = sl σ 67 2 (gl σ 69 0) → (top : Int) = (1 : Int) → P 1 t5) (l5 : (i : Int) < e → (i : Int) < (64 : Int) → ∀ x8 : Int, x8 = gi σ 18 i → x8 < (-7 : Int) → x8 ≠ (-10 : Int) → (top : Int) < (2 : Int) → P 0 σ) (l6 : (i : Int) < e → (i : Int) < (64 : Int) → ∀ x8 : Int, x8 = gi σ 18 i → x8 < (-7 : Int) → x8 ≠ (-10 : Int) → (2 : Int) ≤ (top : Int) → ∀ (v16 : Int) (s17 : Mm), Jn σ s17 v16 (joinZ x8 (gl σ 69 ((top : Int) - 2).toNat) (gl σ 69 ((top : Int) - 1).toNat)) → v16 ≠ (0 : Int) → ∀ x21 : Int, x21 = (top : Int) + (-1) → ∀ t24 : Mm, t24 = sl s17 69 (x21 - 1).toNat (gl s17 67 3) → R 33 18 [some (vr 67), some (vr 17), some (vi (w : Int)), some (vi x21), some (vi e), some (vi ((i : Int) + 1)), some (vi x8)] [] (shF n) 0 0 t24 (Qi (shF n) P)) (l7 : (i : Int) < e → (i : Int) < (64 : Int) → ∀ x8 : Int, x8 = gi σ 18 i → x8 < (-7 : Int) → x8 ≠ (-10 : Int) → (2 : Int) ≤ (top : Int) → ∀ (v16 : Int) (s17 : Mm), Jn σ s17 v16 (joinZ x8 (gl σ 69 ((top : Int) - 2).toNat) (gl σ 69 ((top : Int) - 1).toNat)) → v16 = (0 : Int) → P 0 s17) (l8 : (i : Int) < e → (i : Int) < (64 : Int) → ∀ x8 : Int, x8 = gi σ 18 i → x8 < (-7 : Int) → x8 = (-10 : Int) → (1 : Int) ≤ (top : Int) → (gl σ 69 ((top : Int) - 1).toNat) ≠ (0 : Int) → ∀ t31 : Mm, t31 = sl σ 69 ((top : Int) - 1).toNat (0 : Int) → R 33 18 [some (vr 67), some (vr 17), some (vi (w : Int)), some (vi (top : Int)), some (vi e), some (vi ((i : Int) + 1)), some (vi x8)] [] (shF n) 0 0 t31 (Qi (shF n) P)) (l9 : (i : Int) < e → (i : Int) < (64 : Int) → ∀ x8 : Int, x8 = gi σ 18 i → x8 < (-7 : Int) → x8 = (-10 : Int) → (1 : Int) ≤ (top : Int) → (gl σ 69 ((top : Int) - 1).toNat) = (0 : Int) → ∀ t33 : Mm, t33 = sl σ 69 ((top : Int) - 1).toNat (1 : Int) → R 33 18 [some (vr 67), some (vr 17), some (vi (w : Int)), some (vi (top : Int)), some (vi e), some (vi ((i : Int) + 1)), some (vi x8)] [] (shF n) 0 0 t33 (Qi (shF n) P)) (l10 : (i : Int) < e → (i : Int) < (64 : Int) → ∀ x8 : Int, x8 = gi σ 18 i → x8 < (-7 : Int) → x8 = (-10 : Int) → (top : Int) < (1 : Int) → P 0 σ) (l11 : (i : Int) < e → (i : Int) < (64 : Int) → ∀ x8 : Int, x8 = gi σ 18 i → (-7 : Int) ≤ x8 → x8 < (0 : Int) → ∀ t39 : Mm, t39 = sl σ 69 top (gi σ 68 ((-1 : Int) - x8).toNat) → R 33 18 [some (vr 67), some (vr 17), some (vi (w : Int)), some (vi ((top : Int) + 1)), some (vi e), some (vi ((i : Int) + 1)), some (vi x8)] [] (shF n) 0 0 t39 (Qi (shF n) P)) (l12 : (i : Int) < e → (i : Int) < (64 : Int) → ∀ x8 : Int, x8 = gi σ 18 i → (-7 : Int) ≤ x8 → (0 : Int) ≤ x8 → ∀ t43 : Mm, t43 = sl σ 69 top x8 → R 33 18 [some (vr 67), some (vr 17), some (vi (w : Int)), some (vi ((top : Int) + 1)), some (vi e), some (vi ((i : Int) + 1)), some (vi x8)] [] (shF n) 0 0 t43 (Qi (shF n) P)) : R 33 18 [some (vr 67), some (vr 17), some (vi (w : Int)), some (vi (top : Int)), some (vi e), some (vi (i : Int)), kn] [] (shF n) 0 0 σ (Qi (shF n) P) :=
  wpK_R 48 [18] (And.intro (fun q1 => And.intro (by decide) (And.intro (fun q3 => And.intro ret0 (And.intro (Or.inl rfl) ⟨rfl, _, rfl, (l1 q1 _ rfl q3)⟩)) (fun q3 => And.intro ret0 (And.intro (Or.inr rfl) ⟨rfl, _, rfl, (l2 q1 _ rfl (Classical.not_not.mp q3))⟩)))) (fun q1 => And.intro (fun q4 => And.intro (by decide) (And.intro (fun q6 => And.intro ret0 (And.intro (Or.inl rfl) ⟨rfl, _, rfl, (l3 (Int.not_le.mp q1) q4 _ rfl q6)⟩)) (fun q6 => And.intro ret0 (And.intro (Or.inr rfl) ⟨rfl, _, rfl, (l4 (Int.not_le.mp q1) q4 _ rfl (Classical.not_not.mp q6))⟩)))) (fun q4 => (have k7 := (o1 (Int.not_le.mp q1) (Int.not_le.mp q4)); And.intro k7 (And.intro (fun q9 => And.intro (fun q10 => And.intro (fun q11 => And.intro ret0 (And.intro (Or.inl rfl) ⟨rfl, _, rfl, (l5 (Int.not_le.mp q1) (Int.not_le.mp q4) _ rfl q9 q10 q11)⟩)) (fun q11 => (have k12 := (o2 (Int.not_le.mp q1) (Int.not_le.mp q4) _ rfl q9 q10 (Int.not_lt.mp q11)); And.intro k12 ((have k13 := (o3 (Int.not_le.mp q1) (Int.not_le.mp q4) _ rfl q9 q10 (Int.not_lt.mp q11)); And.intro k13 ((have k14 := (o4 (Int.not_le.mp q1) (Int.not_le.mp q4) _ rfl q9 q10 (Int.not_lt.mp q11)); And.intro k14 ((have k15 := (o5 (Int.not_le.mp q1) (Int.not_le.mp q4) _ rfl q9 q10 (Int.not_lt.mp q11)); And.intro k15 ((c_joins  (o6 (Int.not_le.mp q1) (Int.not_le.mp q4) _ rfl q9 q10 (Int.not_lt.mp q11)) (o7 (Int.not_le.mp q1) (Int.not_le.mp q4) _ rfl q9 q10 (Int.not_lt.mp q11)) (fun v16 s17 h18 => And.intro (fun q19 => (have k20 := (o8 (Int.not_le.mp q1) (Int.not_le.mp q4) _ rfl q9 q10 (Int.not_lt.mp q11) v16 s17 h18 q19); And.intro k20 ((have k22 := (o9 (Int.not_le.mp q1) (Int.not_le.mp q4) _ rfl q9 q10 (Int.not_lt.mp q11) v16 s17 h18 q19 _ rfl); And.intro k22 ((have k23 := (o10 (Int.not_le.mp q1) (Int.not_le.mp q4) _ rfl q9 q10 (Int.not_lt.mp q11) v16 s17 h18 q19 _ rfl); And.intro k23 ((have k25 := (o11 (Int.not_le.mp q1) (Int.not_le.mp q4) _ rfl q9 q10 (Int.not_lt.mp q11) v16 s17 h18 q19 _ rfl _ rfl); And.intro k25 ((l6 (Int.not_le.mp q1) (Int.not_le.mp q4) _ rfl q9 q10 (Int.not_lt.mp q11) v16 s17 h18 q19 _ rfl _ rfl)))))))))) (fun q19 => And.intro ret0 (And.intro (Or.inl rfl) ⟨rfl, _, rfl, (l7 (Int.not_le.mp q1) (Int.not_le.mp q4) _ rfl q9 q10 (Int.not_lt.mp q11) v16 s17 h18 (Classical.not_not.mp q19))⟩)))))))))))))) (fun q10 => And.intro (fun q26 => (have k27 := (o12 (Int.not_le.mp q1) (Int.not_le.mp q4) _ rfl q9 (Classical.not_not.mp q10) q26); And.intro k27 (And.intro k27 ((have k28 := (o13 (Int.not_le.mp q1) (Int.not_le.mp q4) _ rfl q9 (Classical.not_not.mp q10) q26); And.intro k28 (And.intro (fun q29 => have q30 := (Int.ne_of_lt q29); And.intro (fun _ => And.intro k28 ((have k32 := (o14 (Int.not_le.mp q1) (Int.not_le.mp q4) _ rfl q9 (Classical.not_not.mp q10) q26 q30 _ rfl); And.intro k32 ((l8 (Int.not_le.mp q1) (Int.not_le.mp q4) _ rfl q9 (Classical.not_not.mp q10) q26 q30 _ rfl))))) (fun z => absurd (show (-1 : Int) ≠ 0 by decide) z)) (And.intro (fun q29 => have q30 := (q29); And.intro (fun z => absurd z (show ¬ ((0 : Int) ≠ 0) by decide)) (fun _ => And.intro k28 ((have k34 := (o15 (Int.not_le.mp q1) (Int.not_le.mp q4) _ rfl q9 (Classical.not_not.mp q10) q26 q30 _ rfl); And.intro k34 ((l9 (Int.not_le.mp q1) (Int.not_le.mp q4) _ rfl q9 (Classical.not_not.mp q10) q26 q30 _ rfl)))))) (fun q29 => have q30 := (Int.ne_of_gt q29); And.intro (fun _ => And.intro k28 ((have k32 := (o14 (Int.not_le.mp q1) (Int.not_le.mp q4) _ rfl q9 (Classical.not_not.mp q10) q26 q30 _ rfl); And.intro k32 ((l8 (Int.not_le.mp q1) (Int.not_le.mp q4) _ rfl q9 (Classical.not_not.mp q10) q26 q30 _ rfl))))) (fun z => absurd (show (1 : Int) ≠ 0 by decide) z))))))))) (fun q26 => And.intro ret0 (And.intro (Or.inl rfl) ⟨rfl, _, rfl, (l10 (Int.not_le.mp q1) (Int.not_le.mp q4) _ rfl q9 (Classical.not_not.mp q10) (Int.not_le.mp q26))⟩)))) (fun q9 => And.intro (fun q35 => (have k36 := (o16 (Int.not_le.mp q1) (Int.not_le.mp q4) _ rfl (Int.not_lt.mp q9) q35); And.intro k36 ((have k37 := (o17 (Int.not_le.mp q1) (Int.not_le.mp q4) _ rfl (Int.not_lt.mp q9) q35); And.intro k37 ((have k38 := (o18 (Int.not_le.mp q1) (Int.not_le.mp q4) _ rfl (Int.not_lt.mp q9) q35); And.intro k38 ((have k40 := (o19 (Int.not_le.mp q1) (Int.not_le.mp q4) _ rfl (Int.not_lt.mp q9) q35 _ rfl); And.intro k40 ((have k41 := (o20 (Int.not_le.mp q1) (Int.not_le.mp q4) _ rfl (Int.not_lt.mp q9) q35 _ rfl); And.intro k41 ((l11 (Int.not_le.mp q1) (Int.not_le.mp q4) _ rfl (Int.not_lt.mp q9) q35 _ rfl)))))))))))) (fun q35 => (have k42 := (o21 (Int.not_le.mp q1) (Int.not_le.mp q4) _ rfl (Int.not_lt.mp q9) (Int.not_lt.mp q35)); And.intro k42 ((have k44 := (o22 (Int.not_le.mp q1) (Int.not_le.mp q4) _ rfl (Int.not_lt.mp q9) (Int.not_lt.mp q35) _ rfl); And.intro k44 ((have k45 := (o23 (Int.not_le.mp q1) (Int.not_le.mp q4) _ rfl (Int.not_lt.mp q9) (Int.not_lt.mp q35) _ rfl); And.intro k45 ((l12 (Int.not_le.mp q1) (Int.not_le.mp q4) _ rfl (Int.not_lt.mp q9) (Int.not_lt.mp q35) _ rfl))))))))))))))
theorem gi_of {σ τ : Mm} (h : τ.1 = σ.1) (a b : Nat) : gi τ a b = gi σ a b := by show τ.1 a b = σ.1 a b; rw [h]
theorem l_works {n w : Nat} {σ : Mm} {E : Option Int} {e : Int} {P : Int → Mm → Prop} (he : e ≤ 64) (hP : ∀ v σ', Wk σ σ' v E → P v σ') :
    ∀ (m i top : Nat) (τ : Mm) (kn : Option PV), m = (e - i).toNat → top ≤ i → τ.1 = σ.1 → (∀ a b, a ≠ 67 → a ≠ 69 → gl τ a b = gl σ a b) → (∀ p, p < top → inR (gl τ 69 p)) →
      evS (gi σ 18) (gi σ 68) m i (gl τ 69) top = E → R 33 18 [some (vr 67), some (vr 17), some (vi w), some (vi top), some (vi e), some (vi i), kn] [] (shF n) 0 0 τ (Qi (shF n) P) := by
  intro m
  induction m with
  | zero =>
    intro i top τ kn hm ht h1 h2 h3 hE
    simp only [evS] at hE
    refine v_works_18 w top e i kn (by intros; first | omega | (unfold rg; omega) | exact h3 _ (by omega)) (by intros; first | omega | (unfold rg; omega) | exact h3 _ (by omega)) (by intros; first | omega | (unfold rg; omega) | exact h3 _ (by omega)) (by intros; first | omega | (unfold rg; omega) | exact h3 _ (by omega)) (by intros; first | omega | (unfold rg; omega) | exact h3 _ (by omega)) (by intros; first | omega | (unfold rg; omega) | exact h3 _ (by omega)) (by intros; first | omega | (unfold rg; omega) | exact h3 _ (by omega)) (by intros; first | omega | (unfold rg; omega) | exact h3 _ (by omega)) (by intros; first | omega | (unfold rg; omega) | exact h3 _ (by omega)) (by intros; first | omega | (unfold rg; omega) | exact h3 _ (by omega)) (by intros; first | omega | (unfold rg; omega) | exact h3 _ (by omega)) (by intros; first | omega | (unfold rg; omega) | exact h3 _ (by omega)) (by intros; first | omega | (unfold rg; omega) | exact h3 _ (by omega)) (by intros; first | omega | (unfold rg; omega) | exact h3 _ (by omega)) (by intros; first | omega | (unfold rg; omega) | exact h3 _ (by omega)) (by intros; first | omega | (unfold rg; omega) | exact h3 _ (by omega)) (by intros; first | omega | (unfold rg; omega) | exact h3 _ (by omega)) (by intros; first | omega | (unfold rg; omega) | exact h3 _ (by omega)) (by intros; first | omega | (unfold rg; omega) | exact h3 _ (by omega)) (by intros; first | omega | (unfold rg; omega) | exact h3 _ (by omega)) (by intros; first | omega | (unfold rg; omega) | exact h3 _ (by omega)) (by intros; first | omega | (unfold rg; omega) | exact h3 _ (by omega)) (by intros; first | omega | (unfold rg; omega) | exact h3 _ (by omega)) ?_ ?_ ?_ ?_ ?_ ?_ ?_ ?_ ?_ ?_ ?_ ?_
    · intro _ t ht' h4
      rw [if_neg (by omega)] at hE
      subst ht'
      exact hP _ _ ⟨h1, fun a b h _ => by rw [gl_ne h]; exact h2 a b h (by assumption), Or.inr ⟨rfl, hE.symm⟩⟩
    · intro _ t ht' h4
      rw [if_pos (by omega)] at hE
      subst ht'
      exact hP _ _ ⟨h1, fun a b h _ => by rw [gl_ne h]; exact h2 a b h (by assumption), Or.inl ⟨rfl, by rw [gl_hit]; exact hE.symm⟩⟩
    all_goals (intros; omega)
  | succ m ih =>
    intro i top τ kn hm ht h1 h2 h3 hE
    refine R_rng fun hr => ?_
    have hr := hr.2.2.1
    have hg : ∀ b, gi τ 18 b = gi σ 18 b := fun b => gi_of h1 18 b
    have hg2 : ∀ b, gi τ 68 b = gi σ 68 b := fun b => gi_of h1 68 b
    simp only [evS] at hE
    refine v_works_18 w top e i kn (by intros; first | omega | (unfold rg; omega) | exact h3 _ (by omega)) (by intros; first | omega | (unfold rg; omega) | exact h3 _ (by omega)) (by intros; first | omega | (unfold rg; omega) | exact h3 _ (by omega)) (by intros; first | omega | (unfold rg; omega) | exact h3 _ (by omega)) (by intros; first | omega | (unfold rg; omega) | exact h3 _ (by omega)) (by intros; first | omega | (unfold rg; omega) | exact h3 _ (by omega)) (by intros; first | omega | (unfold rg; omega) | exact h3 _ (by omega)) (by intros; first | omega | (unfold rg; omega) | exact h3 _ (by omega)) (by intros; first | omega | (unfold rg; omega) | exact h3 _ (by omega)) (by intros; first | omega | (unfold rg; omega) | exact h3 _ (by omega)) (by intros; first | omega | (unfold rg; omega) | exact h3 _ (by omega)) (by intros; first | omega | (unfold rg; omega) | exact h3 _ (by omega)) (by intros; first | omega | (unfold rg; omega) | exact h3 _ (by omega)) (by intros; first | omega | (unfold rg; omega) | exact h3 _ (by omega)) (by intros; first | omega | (unfold rg; omega) | exact h3 _ (by omega)) (by intros; first | omega | (unfold rg; omega) | exact h3 _ (by omega)) (by intros; first | omega | (unfold rg; omega) | exact h3 _ (by omega)) (by intros; first | omega | (unfold rg; omega) | exact h3 _ (by omega)) (by intros; first | omega | (unfold rg; omega) | exact h3 _ (by omega)) (by intros; first | omega | (unfold rg; omega) | exact h3 _ (by omega)) (by intros; first | omega | (unfold rg; omega) | exact h3 _ (by omega)) (by intros; first | omega | (unfold rg; omega) | exact h3 _ (by omega)) (by intros; first | omega | (unfold rg; omega) | exact h3 _ (by omega)) ?_ ?_ ?_ ?_ ?_ ?_ ?_ ?_ ?_ ?_ ?_ ?_
    · intros; omega
    · intros; omega
    · intros; omega
    · intros; omega
    · intro _ _ x hx q1 q2 q3
      rw [hg] at hx
      rw [if_neg (by omega), if_neg (by omega), if_pos (by omega)] at hE
      exact hP _ _ ⟨h1, h2, Or.inr ⟨rfl, hE.symm⟩⟩
    · intro _ _ x hx q1 q2 q3 v s17 hJ hv x21 hx21 t ht'
      rw [hg] at hx
      obtain ⟨j1, j2, j3⟩ := hJ
      rcases j3 with ⟨_, j3⟩ | ⟨j3, _⟩
      · rw [show ((top : Int) - 2).toNat = top - 2 by omega, show ((top : Int) - 1).toNat = top - 1 by omega] at j3
        rw [if_neg (by omega), if_neg (by omega), if_neg (by omega), ← hx, j3] at hE
        rw [show (x21 - 1).toNat = top - 2 by omega] at ht'
        subst ht'
        have hl : ∀ p, gl s17 69 p = gl τ 69 p := fun p => j2 69 p (by omega)
        refine R_eq (ih (i + 1) (top - 1) _ (some (vi x)) (by omega) (by omega) (j1.trans h1) (fun a b ha hb => ?_) (fun p hp => ?_) ?_) (by rw [show x21 = ((top - 1 : Nat) : Int) by omega]; rfl)
        · rw [gl_ne hb, j2 a b (fun q => ha q.1)]; exact h2 a b ha hb
        · rw [gl_same]
          split
          · exact joinZ_in (h3 _ (by omega)) (h3 _ (by omega)) j3
          · rw [hl]; exact h3 p (by omega)
        · rw [gl_upd, show gl s17 69 = gl τ 69 from funext hl]
          exact hE
      · omega
    · intro _ _ x hx q1 q2 q3 v s17 hJ hv
      rw [hg] at hx
      obtain ⟨j1, j2, j3⟩ := hJ
      rcases j3 with ⟨j3, _⟩ | ⟨_, j3⟩
      · omega
      · rw [show ((top : Int) - 2).toNat = top - 2 by omega, show ((top : Int) - 1).toNat = top - 1 by omega] at j3
        rw [if_neg (by omega), if_neg (by omega), if_neg (by omega), ← hx, j3] at hE
        exact hP _ _ ⟨j1.trans h1, fun a b ha hb => by rw [j2 a b (fun q => ha q.1)]; exact h2 a b ha hb, Or.inr ⟨rfl, hE.symm⟩⟩
    · intro _ _ x hx q1 q2 q3 q4 t ht'
      rw [hg] at hx
      rw [show ((top : Int) - 1).toNat = top - 1 by omega] at ht' q4
      rw [if_neg (by omega), if_pos (by omega), if_neg (by omega), if_neg q4] at hE
      subst ht'
      refine R_eq (ih (i + 1) top _ (some (vi x)) (by omega) (by omega) h1 (fun a b ha hb => ?_) (fun p hp => ?_) ?_) rfl
      · rw [gl_ne hb]; exact h2 a b ha hb
      · rw [gl_same]
        split
        · unfold inR; omega
        · exact h3 p hp
      · rw [gl_upd]; exact hE
    · intro _ _ x hx q1 q2 q3 q4 t ht'
      rw [hg] at hx
      rw [show ((top : Int) - 1).toNat = top - 1 by omega] at ht' q4
      rw [if_neg (by omega), if_pos (by omega), if_neg (by omega), if_pos q4] at hE
      subst ht'
      refine R_eq (ih (i + 1) top _ (some (vi x)) (by omega) (by omega) h1 (fun a b ha hb => ?_) (fun p hp => ?_) ?_) rfl
      · rw [gl_ne hb]; exact h2 a b ha hb
      · rw [gl_same]
        split
        · unfold inR; omega
        · exact h3 p hp
      · rw [gl_upd]; exact hE
    · intro _ _ x hx q1 q2 q3
      rw [hg] at hx
      rw [if_neg (by omega), if_pos (by omega), if_pos (by omega)] at hE
      exact hP _ _ ⟨h1, h2, Or.inr ⟨rfl, hE.symm⟩⟩
    · intro _ _ x hx q1 q2 t ht'
      rw [hg] at hx
      rw [if_pos (by omega), if_neg (by omega), ← hx] at hE
      subst ht'
      refine R_eq (ih (i + 1) (top + 1) _ (some (vi x)) (by omega) (by omega) h1 (fun a b ha hb => ?_) (fun p hp => ?_) ?_) rfl
      · rw [gl_ne hb]; exact h2 a b ha hb
      · rw [gl_same]
        split
        · have := hr 68 ((-1 : Int) - x).toNat
          show inR (τ.1 68 ((-1 : Int) - x).toNat)
          unfold inR; omega
        · exact h3 p (by omega)
      · rw [gl_upd, hg2]; exact hE
    · intro _ _ x hx q1 q2 t ht'
      have hr18 := hr 18 i
      have hx0 : x = τ.1 18 i := hx
      rw [hg] at hx
      rw [if_pos (by omega), if_pos (by omega), ← hx] at hE
      subst ht'
      refine R_eq (ih (i + 1) (top + 1) _ (some (vi x)) (by omega) (by omega) h1 (fun a b ha hb => ?_) (fun p hp => ?_) ?_) rfl
      · rw [gl_ne hb]; exact h2 a b ha hb
      · rw [gl_same]
        split
        · unfold inR; omega
        · exact h3 p (by omega)
      · rw [gl_upd]; exact hE
theorem c_works {n w : Nat} {σ : Mm} {P : Int → Mm → Prop} (hw : w < 3) (hf : 0 ≤ gi σ 19 w) (ht : gi σ 20 w ≤ 64) (hP : ∀ v σ', Wk σ σ' v (evT (vw σ 5) w (gi σ 68)) → P v σ') : Ci 33 [vr 67, vr 17, vi w] (shF n) σ P := by
  refine v_works_0 w (by intros; first | omega | (unfold rg; omega) | (subst_vars; simp only [gi_si, gi_sl, gl_si, gl_sl]; first | omega | (unfold rg; omega))) ?_
  intro x2 h2 x3 h3
  subst h2 h3
  refine R_eq (l_works (w := w) ht hP (gi σ 20 w - gi σ 19 w).toNat (gi σ 19 w).toNat 0 σ none (by omega) (by omega) rfl (fun _ _ _ _ => rfl) (fun p hp => by omega) (evS_cong _ _ _ _ _ _ _ (fun p hp => by omega))) ?_
  rw [Int.toNat_of_nonneg hf]
  rfl
