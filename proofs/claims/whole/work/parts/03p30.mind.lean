/-! THE MIND: what is seen, thought, said, how many feathers fly -/
theorem evS_seen {row seen seen' : Nat → Int} (h : ∀ q, q < 7 → seen q = seen' q) : ∀ (m i : Nat) (s : Nat → Int) (top : Nat), evS row seen m i s top = evS row seen' m i s top := by
  intro m
  induction m with
  | zero => intro i s top; rfl
  | succ m ih =>
    intro i s top
    simp only [evS]
    split
    · split
      · exact ih _ _ _
      · rw [h _ (by omega)]; exact ih _ _ _
    · split
      · split
        · rfl
        · exact ih _ _ _
      · split
        · rfl
        · cases joinZ (row i) (s (top - 2)) (s (top - 1)) with
          | none => rfl
          | some v => exact ih _ _ _
theorem evT_seen {T : Nat → Nat → Int} {w : Nat} {nm nm' : Nat → Int} (h : ∀ q, q < 7 → nm q = nm' q) : evT T w nm = evT T w nm' := evS_seen h _ _ _ _
def thinkS (T : Nat → Nat → Int) (nm : Nat → Int) : Bool := match evT T 0 nm with
  | some v => decide (v ≠ 0)
  | none => decide (nm 0 < nm 2)
def sayS (T : Nat → Nat → Int) (nm : Nat → Int) (th : Bool) : Bool := match evT T 1 nm with
  | some v => decide (v ≠ 0)
  | none => th || (decide (5 ≤ nm 1) && decide (nm 5 < 10))
def cl8 (z : Int) : Int := if z < 0 then 0 else if 8 < z then 8 else z
def flyS (T : Nat → Nat → Int) (nm : Nat → Int) (beat : Int) : Int := cl8 (match evT T 2 nm with
  | some v => v
  | none => beat + nm 4 / 3)
theorem thinkS_seen {T : Nat → Nat → Int} {nm nm' : Nat → Int} (h : ∀ q, q < 7 → nm q = nm' q) : thinkS T nm = thinkS T nm' := by
  unfold thinkS; rw [evT_seen h, h 0 (by omega), h 2 (by omega)]
theorem sayS_seen {T : Nat → Nat → Int} {nm nm' : Nat → Int} (h : ∀ q, q < 7 → nm q = nm' q) (th : Bool) : sayS T nm th = sayS T nm' th := by
  unfold sayS; rw [evT_seen h, h 1 (by omega), h 5 (by omega)]
theorem flyS_seen {T : Nat → Nat → Int} {nm nm' : Nat → Int} (h : ∀ q, q < 7 → nm q = nm' q) (b : Int) : flyS T nm b = flyS T nm' b := by
  unfold flyS; rw [evT_seen h, h 4 (by omega)]
theorem cl8_in (z : Int) : 0 ≤ cl8 z ∧ cl8 z ≤ 8 := by unfold cl8; split <;> (try split) <;> omega
theorem flyS_in (T : Nat → Nat → Int) (nm : Nat → Int) (b : Int) : 0 ≤ flyS T nm b ∧ flyS T nm b ≤ 8 := cl8_in _
def Mk (σ σ' : Mm) : Prop := σ'.1 = σ.1 ∧ (∀ a b, a ≠ 67 → a ≠ 69 → gl σ' a b = gl σ a b)
theorem Mk.rf (σ : Mm) : Mk σ σ := ⟨rfl, fun _ _ _ _ => rfl⟩
theorem Mk.tr {a b c : Mm} (h : Mk a b) (h' : Mk b c) : Mk a c := ⟨h'.1.trans h.1, fun x y p q => (h'.2 x y p q).trans (h.2 x y p q)⟩
def LwOK (σ : Mm) : Prop := ∀ w, w < 3 → 0 ≤ gi σ 19 w ∧ gi σ 20 w ≤ 64
theorem v_thinks {n : Nat}   {σ : Mm} {P : Int → Mm → Prop} (o1 : 0 < 3) (o2 : 0 ≤ gi σ 19 0) (o3 : gi σ 20 0 ≤ 64) (l1 : ∀ (v1 : Int) (s2 : Mm), Wk σ s2 v1 (evT (vw σ 5) 0 (gi σ 68)) → v1 = (0 : Int) → (gi s2 68 2) ≤ (gi s2 68 0) → P 0 s2) (l2 : ∀ (v1 : Int) (s2 : Mm), Wk σ s2 v1 (evT (vw σ 5) 0 (gi σ 68)) → v1 = (0 : Int) → (gi s2 68 0) < (gi s2 68 2) → P 1 s2) (l3 : ∀ (v1 : Int) (s2 : Mm), Wk σ s2 v1 (evT (vw σ 5) 0 (gi σ 68)) → v1 ≠ (0 : Int) → (gl s2 67 2) = (0 : Int) → P 0 s2) (l4 : ∀ (v1 : Int) (s2 : Mm), Wk σ s2 v1 (evT (vw σ 5) 0 (gi σ 68)) → v1 ≠ (0 : Int) → (gl s2 67 2) ≠ (0 : Int) → P 1 s2) : Ci 30 [vr 67, vr 17] (shF n) σ P :=
  show R 30 0 [some (vr 67), some (vr 17)] [] (shF n) 0 0 σ (Qi (shF n) P) from wpK_R 17 [] ((c_works (w := 0) (o1) (o2) (o3) (fun v1 s2 h3 => And.intro (fun q4 => And.intro (by decide) (And.intro (by decide) (And.intro (fun q5 => And.intro ret0 (And.intro (Or.inl rfl) ⟨rfl, _, rfl, (l1 v1 s2 h3 q4 q5)⟩)) (fun q5 => And.intro ret0 (And.intro (Or.inr rfl) ⟨rfl, _, rfl, (l2 v1 s2 h3 q4 (Int.not_le.mp q5))⟩))))) (fun q4 => And.intro (fun q6 => have q7 := (Int.ne_of_lt q6); And.intro (fun z => absurd z (show ¬ ((-1 : Int) = 0) by decide)) (fun _ => And.intro ret0 (And.intro (Or.inr rfl) ⟨rfl, _, rfl, (l4 v1 s2 h3 q4 q7)⟩))) (And.intro (fun q6 => have q7 := (q6); And.intro (fun _ => And.intro ret0 (And.intro (Or.inl rfl) ⟨rfl, _, rfl, (l3 v1 s2 h3 q4 q7)⟩)) (fun z => absurd (show (0 : Int) = 0 by decide) z)) (fun q6 => have q7 := (Int.ne_of_gt q6); And.intro (fun z => absurd z (show ¬ ((1 : Int) = 0) by decide)) (fun _ => And.intro ret0 (And.intro (Or.inr rfl) ⟨rfl, _, rfl, (l4 v1 s2 h3 q4 q7)⟩))))))))
theorem c_thinks {n : Nat} {σ : Mm} {P : Int → Mm → Prop} (hl : LwOK σ) (hP : ∀ σ', Mk σ σ' → P (b2i (thinkS (vw σ 5) (gi σ 68))) σ') : Ci 30 [vr 67, vr 17] (shF n) σ P := by
  have hl0 := hl 0 (by omega)
  refine v_thinks (by intros; first | omega | (unfold rg; omega) | (subst_vars; simp only [gi_si, gi_sl, gl_si, gl_sl]; first | omega | (unfold rg; omega))) (by intros; first | omega | (unfold rg; omega) | (subst_vars; simp only [gi_si, gi_sl, gl_si, gl_sl]; first | omega | (unfold rg; omega))) (by intros; first | omega | (unfold rg; omega) | (subst_vars; simp only [gi_si, gi_sl, gl_si, gl_sl]; first | omega | (unfold rg; omega))) ?_ ?_ ?_ ?_
  all_goals (intro v s' hw)
  all_goals (obtain ⟨w1, w2, w3⟩ := hw; intros; refine p_eq (hP s' ⟨w1, w2⟩) ?_; rcases w3 with ⟨w3, w4⟩ | ⟨w3, w4⟩ <;> first | omega | (unfold thinkS; rw [w4]; simp only [gi_of w1] at *; simp [b2i]; try omega))
theorem v_says {n : Nat}  (t : Int) {σ : Mm} {P : Int → Mm → Prop} (o1 : 1 < 3) (o2 : 0 ≤ gi σ 19 1) (o3 : gi σ 20 1 ≤ 64) (l1 : ∀ (v1 : Int) (s2 : Mm), Wk σ s2 v1 (evT (vw σ 5) 1 (gi σ 68)) → v1 = (0 : Int) → t ≠ (0 : Int) → P 1 s2) (l2 : ∀ (v1 : Int) (s2 : Mm), Wk σ s2 v1 (evT (vw σ 5) 1 (gi σ 68)) → v1 = (0 : Int) → t = (0 : Int) → (gi s2 68 1) < (5 : Int) → P 0 s2) (l3 : ∀ (v1 : Int) (s2 : Mm), Wk σ s2 v1 (evT (vw σ 5) 1 (gi σ 68)) → v1 = (0 : Int) → t = (0 : Int) → (5 : Int) ≤ (gi s2 68 1) → (10 : Int) ≤ (gi s2 68 5) → P 0 s2) (l4 : ∀ (v1 : Int) (s2 : Mm), Wk σ s2 v1 (evT (vw σ 5) 1 (gi σ 68)) → v1 = (0 : Int) → t = (0 : Int) → (5 : Int) ≤ (gi s2 68 1) → (gi s2 68 5) < (10 : Int) → P 1 s2) (l5 : ∀ (v1 : Int) (s2 : Mm), Wk σ s2 v1 (evT (vw σ 5) 1 (gi σ 68)) → v1 ≠ (0 : Int) → (gl s2 67 2) = (0 : Int) → P 0 s2) (l6 : ∀ (v1 : Int) (s2 : Mm), Wk σ s2 v1 (evT (vw σ 5) 1 (gi σ 68)) → v1 ≠ (0 : Int) → (gl s2 67 2) ≠ (0 : Int) → P 1 s2) : Ci 31 [vr 67, vr 17, vi t] (shF n) σ P :=
  show R 31 0 [some (vr 67), some (vr 17), some (vi t)] [] (shF n) 0 0 σ (Qi (shF n) P) from wpK_R 22 [] ((c_works (w := 1) (o1) (o2) (o3) (fun v1 s2 h3 => And.intro (fun q4 => And.intro (fun q5 => And.intro ret0 (And.intro (Or.inr rfl) ⟨rfl, _, rfl, (l1 v1 s2 h3 q4 q5)⟩)) (fun q5 => And.intro (by decide) (And.intro (fun q6 => And.intro ret0 (And.intro (Or.inl rfl) ⟨rfl, _, rfl, (l2 v1 s2 h3 q4 (Classical.not_not.mp q5) q6)⟩)) (fun q6 => And.intro (by decide) (And.intro (fun q7 => And.intro ret0 (And.intro (Or.inl rfl) ⟨rfl, _, rfl, (l3 v1 s2 h3 q4 (Classical.not_not.mp q5) (Int.not_lt.mp q6) q7)⟩)) (fun q7 => And.intro ret0 (And.intro (Or.inr rfl) ⟨rfl, _, rfl, (l4 v1 s2 h3 q4 (Classical.not_not.mp q5) (Int.not_lt.mp q6) (Int.not_le.mp q7))⟩))))))) (fun q4 => And.intro (fun q8 => have q9 := (Int.ne_of_lt q8); And.intro (fun z => absurd z (show ¬ ((-1 : Int) = 0) by decide)) (fun _ => And.intro ret0 (And.intro (Or.inr rfl) ⟨rfl, _, rfl, (l6 v1 s2 h3 q4 q9)⟩))) (And.intro (fun q8 => have q9 := (q8); And.intro (fun _ => And.intro ret0 (And.intro (Or.inl rfl) ⟨rfl, _, rfl, (l5 v1 s2 h3 q4 q9)⟩)) (fun z => absurd (show (0 : Int) = 0 by decide) z)) (fun q8 => have q9 := (Int.ne_of_gt q8); And.intro (fun z => absurd z (show ¬ ((1 : Int) = 0) by decide)) (fun _ => And.intro ret0 (And.intro (Or.inr rfl) ⟨rfl, _, rfl, (l6 v1 s2 h3 q4 q9)⟩))))))))
theorem c_says {n : Nat} {t : Int} {σ : Mm} {P : Int → Mm → Prop} (hl : LwOK σ) (ht : t = 0 ∨ t = 1) (hP : ∀ σ', Mk σ σ' → P (b2i (sayS (vw σ 5) (gi σ 68) (decide (t = 1)))) σ') : Ci 31 [vr 67, vr 17, vi t] (shF n) σ P := by
  have hl0 := hl 1 (by omega)
  refine v_says t (by intros; first | omega | (unfold rg; omega) | (subst_vars; simp only [gi_si, gi_sl, gl_si, gl_sl]; first | omega | (unfold rg; omega))) (by intros; first | omega | (unfold rg; omega) | (subst_vars; simp only [gi_si, gi_sl, gl_si, gl_sl]; first | omega | (unfold rg; omega))) (by intros; first | omega | (unfold rg; omega) | (subst_vars; simp only [gi_si, gi_sl, gl_si, gl_sl]; first | omega | (unfold rg; omega))) ?_ ?_ ?_ ?_ ?_ ?_
  all_goals (intro v s' hw)
  all_goals (obtain ⟨w1, w2, w3⟩ := hw; intros; refine p_eq (hP s' ⟨w1, w2⟩) ?_; rcases w3 with ⟨w3, w4⟩ | ⟨w3, w4⟩ <;> first | omega | (unfold sayS; rw [w4]; simp only [gi_of w1] at *; rcases ht with rfl | rfl <;> first | omega | (simp [b2i]; done) | (simp [b2i]; omega)))
theorem v_out {n : Nat}  (bt : Int) {σ : Mm} {P : Int → Mm → Prop} (o1 : 2 < 3) (o2 : 0 ≤ gi σ 19 2) (o3 : gi σ 20 2 ≤ 64) (o4 : ∀ (v1 : Int) (s2 : Mm), Wk σ s2 v1 (evT (vw σ 5) 2 (gi σ 68)) → v1 = (0 : Int) → (0 ≤ (gi s2 68 4) ∧ (gi s2 68 4) < 2147483648 ∧ 0 < (3 : Int))) (o5 : ∀ (v1 : Int) (s2 : Mm), Wk σ s2 v1 (evT (vw σ 5) 2 (gi σ 68)) → v1 = (0 : Int) → rg (bt + ((gi s2 68 4) / (3 : Int)))) (o6 : ∀ (v1 : Int) (s2 : Mm), Wk σ s2 v1 (evT (vw σ 5) 2 (gi σ 68)) → v1 = (0 : Int) → ∀ x7 : Int, x7 = bt + ((gi s2 68 4) / (3 : Int)) → rg (if (if (8 : Int) < x7 then (8 : Int) else x7) < (0 : Int) then (0 : Int) else (if (8 : Int) < x7 then (8 : Int) else x7))) (o7 : ∀ (v1 : Int) (s2 : Mm), Wk σ s2 v1 (evT (vw σ 5) 2 (gi σ 68)) → v1 ≠ (0 : Int) → ∀ x9 : Int, x9 = gl s2 67 2 → rg (if (if (8 : Int) < x9 then (8 : Int) else x9) < (0 : Int) then (0 : Int) else (if (8 : Int) < x9 then (8 : Int) else x9))) (l1 : ∀ (v1 : Int) (s2 : Mm), Wk σ s2 v1 (evT (vw σ 5) 2 (gi σ 68)) → v1 = (0 : Int) → ∀ x7 : Int, x7 = bt + ((gi s2 68 4) / (3 : Int)) → P (if (if (8 : Int) < x7 then (8 : Int) else x7) < (0 : Int) then (0 : Int) else (if (8 : Int) < x7 then (8 : Int) else x7)) s2) (l2 : ∀ (v1 : Int) (s2 : Mm), Wk σ s2 v1 (evT (vw σ 5) 2 (gi σ 68)) → v1 ≠ (0 : Int) → ∀ x9 : Int, x9 = gl s2 67 2 → P (if (if (8 : Int) < x9 then (8 : Int) else x9) < (0 : Int) then (0 : Int) else (if (8 : Int) < x9 then (8 : Int) else x9)) s2) : Ci 32 [vr 67, vr 17, vi bt] (shF n) σ P :=
  show R 32 0 [some (vr 67), some (vr 17), some (vi bt), none, none] [] (shF n) 0 0 σ (Qi (shF n) P) from wpK_R 22 [] ((c_works (w := 2) (o1) (o2) (o3) (fun v1 s2 h3 => And.intro (fun q4 => And.intro (by decide) ((have k5 := (o4 v1 s2 h3 q4); And.intro k5 ((have k6 := (o5 v1 s2 h3 q4); And.intro k6 ((have k8 := (o6 v1 s2 h3 q4 _ rfl); And.intro k8 (And.intro ret0 ⟨rfl, _, rfl, (l1 v1 s2 h3 q4 _ rfl)⟩)))))))) (fun q4 => (have k10 := (o7 v1 s2 h3 q4 _ rfl); And.intro k10 (And.intro ret0 ⟨rfl, _, rfl, (l2 v1 s2 h3 q4 _ rfl)⟩))))))
theorem c_out {n : Nat} {bt : Int} {σ : Mm} {P : Int → Mm → Prop} (hl : LwOK σ) (hb : 0 ≤ bt ∧ bt ≤ 9) (hm : 0 ≤ gi σ 68 4 ∧ gi σ 68 4 ≤ 9) (hP : ∀ σ', Mk σ σ' → P (flyS (vw σ 5) (gi σ 68) bt) σ') : Ci 32 [vr 67, vr 17, vi bt] (shF n) σ P := by
  have hl0 := hl 2 (by omega)
  refine v_out bt (by first | (intros; first | omega | (unfold rg; omega)) | (intro v s' hw; obtain ⟨w1, w2, w3⟩ := hw; have q := gi_of w1 68 4; intros; first | omega | (unfold rg; omega))) (by first | (intros; first | omega | (unfold rg; omega)) | (intro v s' hw; obtain ⟨w1, w2, w3⟩ := hw; have q := gi_of w1 68 4; intros; first | omega | (unfold rg; omega))) (by first | (intros; first | omega | (unfold rg; omega)) | (intro v s' hw; obtain ⟨w1, w2, w3⟩ := hw; have q := gi_of w1 68 4; intros; first | omega | (unfold rg; omega))) (by first | (intros; first | omega | (unfold rg; omega)) | (intro v s' hw; obtain ⟨w1, w2, w3⟩ := hw; have q := gi_of w1 68 4; intros; first | omega | (unfold rg; omega))) (by first | (intros; first | omega | (unfold rg; omega)) | (intro v s' hw; obtain ⟨w1, w2, w3⟩ := hw; have q := gi_of w1 68 4; intros; first | omega | (unfold rg; omega))) (by first | (intros; first | omega | (unfold rg; omega)) | (intro v s' hw; obtain ⟨w1, w2, w3⟩ := hw; have q := gi_of w1 68 4; intros; first | omega | (unfold rg; omega))) (by first | (intros; first | omega | (unfold rg; omega)) | (intro v s' hw; obtain ⟨w1, w2, w3⟩ := hw; have q := gi_of w1 68 4; intros; first | omega | (unfold rg; omega))) ?_ ?_
  all_goals (intro v s' hw)
  all_goals (obtain ⟨w1, w2, w3⟩ := hw; have q := gi_of w1 68 4; intros; refine p_eq (hP s' ⟨w1, w2⟩) ?_; rcases w3 with ⟨w3, w4⟩ | ⟨w3, w4⟩ <;> first | omega | (unfold flyS; rw [w4]; subst_vars; (try rw [q]); simp only [cl8]; omega))
def nmZ (le st gr pl mo d : Int) (q : Nat) : Int := if q = 0 then le else if q = 1 then st else if q = 2 then gr else if q = 3 then pl else if q = 4 then mo else if q = 5 then iabs (gr - le) else d
def nmF (le st pl mo d : Int) (q : Nat) : Int := if q = 0 then le else if q = 1 then st else if q = 2 then 0 else if q = 3 then pl else if q = 4 then mo else if q = 5 then 0 else d
def Se (σ σ' : Mm) (nm : Nat → Int) : Prop := σ'.2 = σ.2 ∧ (∀ a b, a ≠ 68 → gi σ' a b = gi σ a b) ∧ (∀ q, q < 7 → gi σ' 68 q = nm q)
theorem v_see {n : Nat}  (le : Int) (st : Int) (gr : Int) (pl : Int) (mo : Int) (d : Int) {σ : Mm} {P : Mm → Prop} (o1 : ∀ t1 : Mm, t1 = si σ 68 0 le → ∀ t2 : Mm, t2 = si t1 68 1 st → ∀ t3 : Mm, t3 = si t2 68 2 gr → ∀ t4 : Mm, t4 = si t3 68 3 pl → ∀ t5 : Mm, t5 = si t4 68 4 mo → rg (gr - le)) (o2 : ∀ t1 : Mm, t1 = si σ 68 0 le → ∀ t2 : Mm, t2 = si t1 68 1 st → ∀ t3 : Mm, t3 = si t2 68 2 gr → ∀ t4 : Mm, t4 = si t3 68 3 pl → ∀ t5 : Mm, t5 = si t4 68 4 mo → (-2147483648 < (gr - le) ∧ (gr - le) < 2147483648)) (l1 : ∀ t1 : Mm, t1 = si σ 68 0 le → ∀ t2 : Mm, t2 = si t1 68 1 st → ∀ t3 : Mm, t3 = si t2 68 2 gr → ∀ t4 : Mm, t4 = si t3 68 3 pl → ∀ t5 : Mm, t5 = si t4 68 4 mo → ∀ t8 : Mm, t8 = si t5 68 5 (iabs (gr - le)) → ∀ t9 : Mm, t9 = si t8 68 6 d → P t9) : Cv 28 [vr 67, vi le, vi st, vi gr, vi pl, vi mo, vi d] (shF n) σ P :=
  show R 28 0 [some (vr 67), some (vi le), some (vi st), some (vi gr), some (vi pl), some (vi mo), some (vi d)] [] (shF n) 0 0 σ (Qv (shF n) P) from wpK_R 39 [] (And.intro (by decide) (And.intro (by decide) (And.intro (by decide) (And.intro (by decide) (And.intro (by decide) ((have k6 := (o1 _ rfl _ rfl _ rfl _ rfl _ rfl); And.intro k6 ((have k7 := (o2 _ rfl _ rfl _ rfl _ rfl _ rfl); And.intro k7 (And.intro (by decide) (And.intro (by decide) (And.intro ret0 ⟨rfl, rfl, (l1 _ rfl _ rfl _ rfl _ rfl _ rfl _ rfl _ rfl)⟩))))))))))))
theorem c_see {n : Nat} {le st gr pl mo d : Int} {σ : Mm} {P : Mm → Prop} (h1 : 0 ≤ le ∧ le ≤ 99) (h2 : 0 ≤ gr ∧ gr ≤ 99) (hP : ∀ σ', Se σ σ' (nmZ le st gr pl mo d) → P σ') : Cv 28 [vr 67, vi le, vi st, vi gr, vi pl, vi mo, vi d] (shF n) σ P := by
  refine v_see le st gr pl mo d (by intros; first | omega | (unfold rg; omega) | (subst_vars; simp only [gi_si, gi_sl, gl_si, gl_sl]; first | omega | (unfold rg; omega))) (by intros; first | omega | (unfold rg; omega) | (subst_vars; simp only [gi_si, gi_sl, gl_si, gl_sl]; first | omega | (unfold rg; omega))) ?_
  intros; subst_vars
  refine hP _ ⟨rfl, fun a b h => by simp only [gi_ne h], fun q hq => ?_⟩
  have h7 : q = 0 ∨ q = 1 ∨ q = 2 ∨ q = 3 ∨ q = 4 ∨ q = 5 ∨ q = 6 := by omega
  rcases h7 with rfl | rfl | rfl | rfl | rfl | rfl | rfl <;> simp [gi_same, nmZ]
