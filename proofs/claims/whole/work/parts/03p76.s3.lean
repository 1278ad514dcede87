/-! THE UNDO ROWS: remember on the reference's side, note on the class's -/
/-- row 129 and the number of deeds after remember -/
def Rmx (σ s : Mm) : Prop := (gi σ 85 82 ≠ 20 ∧ gi s 85 82 = gi σ 85 82 + 1 ∧ (∀ i, i < 76 * (gi σ 85 82).toNat → gi s 129 i = gi σ 129 i) ∧ (∀ r, r < 76 → gi s 129 (76 * (gi σ 85 82).toNat + r) = ptF σ r)) ∨ (gi σ 85 82 = 20 ∧ gi s 85 82 = 20 ∧ (∀ i, i < 1444 → gi s 129 i = gi σ 129 (i + 76)) ∧ (∀ r, r < 76 → gi s 129 (1444 + r) = ptF σ r))
def Rm (σ s : Mm) : Prop := (∀ x i, x ≠ 129 → ¬ (x = 85 ∧ i = 82) → gi s x i = gi σ x i) ∧ s.2 = σ.2 ∧ Rmx σ s
theorem ptF_eq {σ s : Mm} (h : ∀ x i, x ≠ 129 → ¬ (x = 85 ∧ i = 82) → gi s x i = gi σ x i) (r : Nat) : ptF s r = ptF σ r := by
  unfold ptF
  rw [h 111 _ (by omega) (by omega), h 112 _ (by omega) (by omega), h 113 _ (by omega) (by omega), h 114 _ (by omega) (by omega), h 115 _ (by omega) (by omega), h 118 _ (by omega) (by omega), h 122 _ (by omega) (by omega)]
theorem v_rem_0 {n : Nat}   {σ : Mm} {P : Mm → Prop} (o1 : (gi σ 85 82) ≠ (20 : Int) → rg ((76 : Int) * (gi σ 85 82))) (o2 : (gi σ 85 82) ≠ (20 : Int) → KB σ) (o3 : (gi σ 85 82) ≠ (20 : Int) → 0 ≤ ((76 : Int) * (gi σ 85 82))) (o4 : (gi σ 85 82) ≠ (20 : Int) → ((76 : Int) * (gi σ 85 82)).toNat + 76 ≤ (if 129 = 129 then 1520 else 76)) (o5 : (gi σ 85 82) ≠ (20 : Int) → ∀ s4 : Mm, Pt σ s4 129 ((76 : Int) * (gi σ 85 82)).toNat → rg ((gi s4 85 82) + 1)) (l1 : (gi σ 85 82) ≠ (20 : Int) → ∀ s4 : Mm, Pt σ s4 129 ((76 : Int) * (gi σ 85 82)).toNat → ∀ t7 : Mm, t7 = si s4 85 82 ((gi s4 85 82) + 1) → P t7) (l2 : (gi σ 85 82) = (20 : Int) → R 270 11 [some (vr 85), some (vi 0)] [] (shF n) 0 0 σ (Qv (shF n) P)) : Cv 270 [vr 85] (shF n) σ P :=
  show R 270 0 [some (vr 85), none] [] (shF n) 0 0 σ (Qv (shF n) P) from wpK_R 19 [11] (And.intro (fun q1 => (have k2 := (o1 q1); And.intro k2 ((ci_put_129 (q := ((76 : Int) * (gi σ 85 82))) (o2 q1) (o3 q1) (o4 q1) (fun s4 h5 => (have k6 := (o5 q1 s4 h5); And.intro k6 (And.intro ret0 ⟨rfl, rfl, (l1 q1 s4 h5 _ rfl)⟩))))))) (fun q1 => (l2 (Classical.not_not.mp q1))))
theorem v_rem_L {n : Nat}  (k : Nat) {σ : Mm} {P : Mm → Prop} (o1 : (1444 : Int) ≤ (k : Int) → rg ((gi σ 85 82) - 1)) (o2 : (1444 : Int) ≤ (k : Int) → ∀ t3 : Mm, t3 = si σ 85 82 ((gi σ 85 82) - 1) → rg ((76 : Int) * ((gi σ 85 82) - 1))) (o3 : (1444 : Int) ≤ (k : Int) → ∀ t3 : Mm, t3 = si σ 85 82 ((gi σ 85 82) - 1) → KB t3) (o4 : (1444 : Int) ≤ (k : Int) → ∀ t3 : Mm, t3 = si σ 85 82 ((gi σ 85 82) - 1) → 0 ≤ ((76 : Int) * ((gi σ 85 82) - 1))) (o5 : (1444 : Int) ≤ (k : Int) → ∀ t3 : Mm, t3 = si σ 85 82 ((gi σ 85 82) - 1) → ((76 : Int) * ((gi σ 85 82) - 1)).toNat + 76 ≤ (if 129 = 129 then 1520 else 76)) (o6 : (1444 : Int) ≤ (k : Int) → ∀ t3 : Mm, t3 = si σ 85 82 ((gi σ 85 82) - 1) → ∀ s6 : Mm, Pt t3 s6 129 ((76 : Int) * ((gi σ 85 82) - 1)).toNat → rg ((gi s6 85 82) + 1)) (o7 : (k : Int) < (1444 : Int) → rg ((k : Int) + 76)) (o8 : (k : Int) < (1444 : Int) → (0 ≤ ((k : Int) + 76) ∧ ((k : Int) + 76) < 1520)) (o9 : (k : Int) < (1444 : Int) → (0 ≤ (k : Int) ∧ (k : Int) < 1520)) (o10 : (k : Int) < (1444 : Int) → ∀ t13 : Mm, t13 = si σ 129 k (gi σ 129 (k + 76)) → rg ((k : Int) + 1)) (l1 : (1444 : Int) ≤ (k : Int) → ∀ t3 : Mm, t3 = si σ 85 82 ((gi σ 85 82) - 1) → ∀ s6 : Mm, Pt t3 s6 129 ((76 : Int) * ((gi σ 85 82) - 1)).toNat → ∀ t9 : Mm, t9 = si s6 85 82 ((gi s6 85 82) + 1) → P t9) (l2 : (k : Int) < (1444 : Int) → ∀ t13 : Mm, t13 = si σ 129 k (gi σ 129 (k + 76)) → R 270 11 [some (vr 85), some (vi ((k : Int) + 1))] [] (shF n) 0 0 t13 (Qv (shF n) P)) : R 270 11 [some (vr 85), some (vi (k : Int))] [] (shF n) 0 0 σ (Qv (shF n) P) :=
  wpK_R 24 [11] (And.intro (fun q1 => (have k2 := (o1 q1); And.intro k2 ((have k4 := (o2 q1 _ rfl); And.intro k4 ((ci_put_129 (q := ((76 : Int) * ((gi σ 85 82) - 1))) (o3 q1 _ rfl) (o4 q1 _ rfl) (o5 q1 _ rfl) (fun s6 h7 => (have k8 := (o6 q1 _ rfl s6 h7); And.intro k8 (And.intro ret0 ⟨rfl, rfl, (l1 q1 _ rfl s6 h7 _ rfl)⟩))))))))) (fun q1 => (have k10 := (o7 (Int.not_le.mp q1)); And.intro k10 ((have k11 := (o8 (Int.not_le.mp q1)); And.intro k11 ((have k12 := (o9 (Int.not_le.mp q1)); And.intro k12 ((have k14 := (o10 (Int.not_le.mp q1) _ rfl); And.intro k14 ((l2 (Int.not_le.mp q1) _ rfl)))))))))))
theorem c_rem {n : Nat} {σ : Mm} {P : Mm → Prop} (hkb : KB σ) (hm : 0 ≤ gi σ 85 82 ∧ gi σ 85 82 ≤ 20) (hP : ∀ s, Rm σ s → P s) : Cv 270 [vr 85] (shF n) σ P := by
  refine v_rem_0 (by intros; first | exact hkb | omega | (unfold rg; omega) | (rw [if_pos rfl]; omega) | (rw [(‹Pt _ _ _ _›).1 85 82 (by omega)]; unfold rg; omega)) (by intros; first | exact hkb | omega | (unfold rg; omega) | (rw [if_pos rfl]; omega) | (rw [(‹Pt _ _ _ _›).1 85 82 (by omega)]; unfold rg; omega)) (by intros; first | exact hkb | omega | (unfold rg; omega) | (rw [if_pos rfl]; omega) | (rw [(‹Pt _ _ _ _›).1 85 82 (by omega)]; unfold rg; omega)) (by intros; first | exact hkb | omega | (unfold rg; omega) | (rw [if_pos rfl]; omega) | (rw [(‹Pt _ _ _ _›).1 85 82 (by omega)]; unfold rg; omega)) (by intros; first | exact hkb | omega | (unfold rg; omega) | (rw [if_pos rfl]; omega) | (rw [(‹Pt _ _ _ _›).1 85 82 (by omega)]; unfold rg; omega)) ?_ ?_
  · intro hne s4 p t7 e7
    have ho : ∀ x i, x ≠ 129 → ¬ (x = 85 ∧ i = 82) → gi t7 x i = gi σ x i := fun x i a b => by rw [e7, gi_si, if_neg b]; exact p.1 x i (by omega)
    have hq : (76 * gi σ 85 82).toNat = 76 * (gi σ 85 82).toNat := by omega
    rw [hq] at p
    refine hP t7 ⟨ho, by rw [e7]; exact p.2.1, Or.inl ⟨hne, ?_, fun i hi => ?_, fun r hr => ?_⟩⟩
    · rw [e7, gi_si, if_pos ⟨rfl, rfl⟩, p.1 85 82 (by omega)]
    · rw [e7, gi_ne (by omega)]; exact p.1 129 i (by omega)
    · rw [e7, gi_ne (by omega)]; exact p.2.2 r hr
  · intro heq
    refine loopUp (N := 1444) (I := fun k => ∀ τ : Mm, (∀ x i, x ≠ 129 → gi τ x i = gi σ x i) → τ.2 = σ.2 → (∀ i, i < k → gi τ 129 i = gi σ 129 (i + 76)) → (∀ i, k ≤ i → gi τ 129 i = gi σ 129 i) → R 270 11 [some (vr 85), some (vi (k : Int))] [] (shF n) 0 0 τ (Qv (shF n) P)) (fun k hk ih => ?_) 0 (by omega) σ (fun _ _ _ => rfl) rfl (fun _ h => by omega) (fun _ _ => rfl)
    intro τ f1 f2 f3 f4
    have h82 : gi τ 85 82 = 20 := by rw [f1 85 82 (by omega)]; exact heq
    refine v_rem_L k (by intros; subst_vars; first | omega | (unfold rg; omega) | exact (fun i hi => by rw [gi_ne (by omega), f1 112 i (by omega)]; exact hkb i hi) | (rw [if_pos rfl]; omega) | (rw [(‹Pt _ _ _ _›).1 85 82 (by omega), gi_si, if_pos ⟨rfl, rfl⟩]; unfold rg; omega)) (by intros; subst_vars; first | omega | (unfold rg; omega) | exact (fun i hi => by rw [gi_ne (by omega), f1 112 i (by omega)]; exact hkb i hi) | (rw [if_pos rfl]; omega) | (rw [(‹Pt _ _ _ _›).1 85 82 (by omega), gi_si, if_pos ⟨rfl, rfl⟩]; unfold rg; omega)) (by intros; subst_vars; first | omega | (unfold rg; omega) | exact (fun i hi => by rw [gi_ne (by omega), f1 112 i (by omega)]; exact hkb i hi) | (rw [if_pos rfl]; omega) | (rw [(‹Pt _ _ _ _›).1 85 82 (by omega), gi_si, if_pos ⟨rfl, rfl⟩]; unfold rg; omega)) (by intros; subst_vars; first | omega | (unfold rg; omega) | exact (fun i hi => by rw [gi_ne (by omega), f1 112 i (by omega)]; exact hkb i hi) | (rw [if_pos rfl]; omega) | (rw [(‹Pt _ _ _ _›).1 85 82 (by omega), gi_si, if_pos ⟨rfl, rfl⟩]; unfold rg; omega)) (by intros; subst_vars; first | omega | (unfold rg; omega) | exact (fun i hi => by rw [gi_ne (by omega), f1 112 i (by omega)]; exact hkb i hi) | (rw [if_pos rfl]; omega) | (rw [(‹Pt _ _ _ _›).1 85 82 (by omega), gi_si, if_pos ⟨rfl, rfl⟩]; unfold rg; omega)) (by intros; subst_vars; first | omega | (unfold rg; omega) | exact (fun i hi => by rw [gi_ne (by omega), f1 112 i (by omega)]; exact hkb i hi) | (rw [if_pos rfl]; omega) | (rw [(‹Pt _ _ _ _›).1 85 82 (by omega), gi_si, if_pos ⟨rfl, rfl⟩]; unfold rg; omega)) (by intros; subst_vars; first | omega | (unfold rg; omega) | exact (fun i hi => by rw [gi_ne (by omega), f1 112 i (by omega)]; exact hkb i hi) | (rw [if_pos rfl]; omega) | (rw [(‹Pt _ _ _ _›).1 85 82 (by omega), gi_si, if_pos ⟨rfl, rfl⟩]; unfold rg; omega)) (by intros; subst_vars; first | omega | (unfold rg; omega) | exact (fun i hi => by rw [gi_ne (by omega), f1 112 i (by omega)]; exact hkb i hi) | (rw [if_pos rfl]; omega) | (rw [(‹Pt _ _ _ _›).1 85 82 (by omega), gi_si, if_pos ⟨rfl, rfl⟩]; unfold rg; omega)) (by intros; subst_vars; first | omega | (unfold rg; omega) | exact (fun i hi => by rw [gi_ne (by omega), f1 112 i (by omega)]; exact hkb i hi) | (rw [if_pos rfl]; omega) | (rw [(‹Pt _ _ _ _›).1 85 82 (by omega), gi_si, if_pos ⟨rfl, rfl⟩]; unfold rg; omega)) (by intros; subst_vars; first | omega | (unfold rg; omega) | exact (fun i hi => by rw [gi_ne (by omega), f1 112 i (by omega)]; exact hkb i hi) | (rw [if_pos rfl]; omega) | (rw [(‹Pt _ _ _ _›).1 85 82 (by omega), gi_si, if_pos ⟨rfl, rfl⟩]; unfold rg; omega)) ?_ ?_
    · intro hge t3 e3 s6 p t9 e9
      rw [h82] at e3 p
      have hq : (76 * ((20 : Int) - 1)).toNat = 1444 := by decide
      rw [hq] at p
      have ho3 : ∀ x i, x ≠ 129 → ¬ (x = 85 ∧ i = 82) → gi t3 x i = gi σ x i := fun x i a b => by rw [e3, gi_si, if_neg b]; exact f1 x i a
      have ho : ∀ x i, x ≠ 129 → ¬ (x = 85 ∧ i = 82) → gi t9 x i = gi σ x i := fun x i a b => by rw [e9, gi_si, if_neg b, p.1 x i (by omega)]; exact ho3 x i a b
      refine hP t9 ⟨ho, by rw [e9]; show s6.2 = _; rw [p.2.1, e3]; exact f2, Or.inr ⟨heq, ?_, fun i hi => ?_, fun r hr => ?_⟩⟩
      · rw [e9, gi_si, if_pos ⟨rfl, rfl⟩, p.1 85 82 (by omega), e3, gi_si, if_pos ⟨rfl, rfl⟩]; rfl
      · rw [e9, gi_ne (by omega), p.1 129 i (by omega), e3, gi_ne (by omega)]; exact f3 i (by omega)
      · rw [e9, gi_ne (by omega), p.2.2 r hr, ptF_eq ho3]
    · intro hlt t13 e13
      refine R_eq (ih (by omega) t13 (fun x i a => ?_) ?_ (fun i hi => ?_) (fun i hi => ?_)) rfl
      · rw [e13, gi_ne a]; exact f1 x i a
      · rw [e13]; exact f2
      · by_cases z : i = k
        · subst z; rw [e13, gi_si, if_pos ⟨rfl, rfl⟩]; exact f4 _ (by omega)
        · rw [e13, gi_si, if_neg (by omega)]; exact f3 i (by omega)
      · rw [e13, gi_si, if_neg (by omega)]; exact f4 i (by omega)
theorem Snap_pt {T V : Nat → Nat → Int} {σ s : Mm} {a q : Nat} (w : RW T V σ 0) (h : ∀ r, r < 76 → gi s a (q + r) = ptF σ r) : Snap T V s a q := by
  obtain ⟨w1, w2, w3, w4, w5, w6, w7⟩ := w
  simp only [Nat.mul_zero, Nat.zero_add] at w2 w3 w4 w5
  refine ⟨fun j hj => ⟨?_, ?_, ?_⟩, fun k hk => ?_, fun c hc => ⟨fun hC => ?_, ?_⟩, ?_⟩
  · rw [h j (by omega), ptF_1 hj]; exact (w4 j hj).1
  · rw [Nat.add_assoc, h (5 + j) (by omega), ptF_2 hj]; exact (w4 j hj).2.1
  · rw [Nat.add_assoc, h (10 + j) (by omega), ptF_3 hj]; exact (w4 j hj).2.2.1
  · rw [Nat.add_assoc, h (15 + k) (by omega), ptF_4 hk]; exact w5 k hk
  · rw [Nat.add_assoc, h (55 + c) (by omega), ptF_5 hc]; exact w2 c hC
  · rw [Nat.add_assoc, h (65 + c) (by omega), ptF_6 hc]; exact (w3 c hc).2.2
  · rw [h 75 (by omega), ptF_7]; exact w7
theorem Snap_mv {T V : Nat → Nat → Int} {σ s : Mm} {a q q' : Nat} (h : ∀ r, r < 76 → gi s a (q' + r) = gi σ a (q + r)) (hs : Snap T V σ a q) : Snap T V s a q' := by
  obtain ⟨s1, s2, s3, s4⟩ := hs
  refine ⟨fun j hj => ⟨?_, ?_, ?_⟩, fun k hk => ?_, fun c hc => ⟨fun hC => ?_, ?_⟩, ?_⟩
  · rw [h j (by omega)]; exact (s1 j hj).1
  · rw [Nat.add_assoc, h (5 + j) (by omega), ← Nat.add_assoc]; exact (s1 j hj).2.1
  · rw [Nat.add_assoc, h (10 + j) (by omega), ← Nat.add_assoc]; exact (s1 j hj).2.2
  · rw [Nat.add_assoc, h (15 + k) (by omega), ← Nat.add_assoc]; exact s2 k hk
  · rw [Nat.add_assoc, h (55 + c) (by omega), ← Nat.add_assoc]; exact (s3 c hc).1 hC
  · rw [Nat.add_assoc, h (65 + c) (by omega), ← Nat.add_assoc]; exact (s3 c hc).2
  · rw [h 75 (by omega)]; exact s4
/-- one more deed on both sides -/
theorem RelU_push {T V V' : Nat → Nat → Int} {σ σ' : Mm} {kd on ot : Int} (hu : RelU T V σ) (hw : WI T V) (hr : RW T V σ 0) (hx : Rmx σ σ')
    (h3 : gi σ' 71 3 = if gi σ 71 4 < 20 then gi σ 71 3 else (gi σ 71 3 + 1) % 20) (h4 : gi σ' 71 4 = if gi σ 71 4 < 20 then gi σ 71 4 + 1 else gi σ 71 4)
    (d72 : ∀ i, gi σ' 72 i = if i = ((gi σ 71 3 + gi σ 71 4) % 20).toNat then kd else gi σ 72 i) (d73 : ∀ i, gi σ' 73 i = if i = ((gi σ 71 3 + gi σ 71 4) % 20).toNat then on else gi σ 73 i) (d74 : ∀ i, gi σ' 74 i = if i = ((gi σ 71 3 + gi σ 71 4) % 20).toNat then ot else gi σ 74 i)
    (htb : tbV V' kd on ot = V) (hdv : DV T V' kd on ot) : RelU T V' σ' := by
  obtain ⟨st, mn, e3, e4, e82, hst, hmn, hall⟩ := hu
  rw [e3, e4] at h3
  rw [e4] at h4
  rw [e3, e4, show (((st : Int) + (mn : Int)) % 20).toNat = (st + mn) % 20 by omega] at d72 d73 d74
  by_cases hlt : mn < 20
  · rw [if_pos (by omega)] at h3 h4
    have hx' := hx.resolve_right (fun z => by have := z.1; omega)
    obtain ⟨x1, x2, x3, x4⟩ := hx'
    rw [e82, Int.toNat_natCast] at x3 x4
    have key : ∀ t, t ≤ mn → unV σ' V' st (mn + 1) (t + 1) = unV σ V st mn t := by
      intro t
      induction t with
      | zero =>
        intro _
        show tbV V' (gi σ' 72 (dIx st (mn + 1) 0)) (gi σ' 73 (dIx st (mn + 1) 0)) (gi σ' 74 (dIx st (mn + 1) 0)) = V
        rw [d72, d73, d74, if_pos (by unfold dIx; omega), if_pos (by unfold dIx; omega), if_pos (by unfold dIx; omega)]
        exact htb
      | succ t ih =>
        intro ht
        have hd : dIx st (mn + 1) (t + 1) = dIx st mn t := by unfold dIx; omega
        show tbV (unV σ' V' st (mn + 1) (t + 1)) (gi σ' 72 (dIx st (mn + 1) (t + 1))) (gi σ' 73 (dIx st (mn + 1) (t + 1))) (gi σ' 74 (dIx st (mn + 1) (t + 1))) = tbV (unV σ V st mn t) (gi σ 72 (dIx st mn t)) (gi σ 73 (dIx st mn t)) (gi σ 74 (dIx st mn t))
        rw [ih (by omega), hd, d72, d73, d74, if_neg (by unfold dIx; omega), if_neg (by unfold dIx; omega), if_neg (by unfold dIx; omega)]
    refine ⟨st, mn + 1, h3, by omega, by omega, hst, by omega, fun t ht => ?_⟩
    cases t with
    | zero =>
      rw [key 0 (by omega), d72, d73, d74, if_pos (by unfold dIx; omega), if_pos (by unfold dIx; omega), if_pos (by unfold dIx; omega)]
      exact ⟨hdv, hw, by rw [show mn + 1 - 1 - 0 = mn by omega]; exact Snap_pt hr x4⟩
    | succ t =>
      obtain ⟨a1, a2, a3⟩ := hall t (by omega)
      have hd : dIx st (mn + 1) (t + 1) = dIx st mn t := by unfold dIx; omega
      rw [key t (by omega), key (t + 1) (by omega), hd, d72, d73, d74, if_neg (by unfold dIx; omega), if_neg (by unfold dIx; omega), if_neg (by unfold dIx; omega)]
      exact ⟨a1, a2, by rw [show mn + 1 - 1 - (t + 1) = mn - 1 - t by omega]; exact Snap_mv (fun r hr => x3 _ (by omega)) a3⟩
  · have hm20 : mn = 20 := by omega
    subst hm20
    rw [if_neg (by omega)] at h3 h4
    rcases hx with ⟨x1, -⟩ | ⟨x1, x2, x3, x4⟩
    · omega
    have key : ∀ t, t ≤ 19 → unV σ' V' ((st + 1) % 20) 20 (t + 1) = unV σ V st 20 t := by
      intro t
      induction t with
      | zero =>
        intro _
        show tbV V' (gi σ' 72 (dIx ((st + 1) % 20) 20 0)) (gi σ' 73 (dIx ((st + 1) % 20) 20 0)) (gi σ' 74 (dIx ((st + 1) % 20) 20 0)) = V
        rw [d72, d73, d74, if_pos (by unfold dIx; omega), if_pos (by unfold dIx; omega), if_pos (by unfold dIx; omega)]
        exact htb
      | succ t ih =>
        intro ht
        have hd : dIx ((st + 1) % 20) 20 (t + 1) = dIx st 20 t := by unfold dIx; omega
        show tbV (unV σ' V' ((st + 1) % 20) 20 (t + 1)) (gi σ' 72 (dIx ((st + 1) % 20) 20 (t + 1))) (gi σ' 73 (dIx ((st + 1) % 20) 20 (t + 1))) (gi σ' 74 (dIx ((st + 1) % 20) 20 (t + 1))) = tbV (unV σ V st 20 t) (gi σ 72 (dIx st 20 t)) (gi σ 73 (dIx st 20 t)) (gi σ 74 (dIx st 20 t))
        rw [ih (by omega), hd, d72, d73, d74, if_neg (by unfold dIx; omega), if_neg (by unfold dIx; omega), if_neg (by unfold dIx; omega)]
    refine ⟨(st + 1) % 20, 20, by omega, by omega, by omega, by omega, by omega, fun t ht => ?_⟩
    cases t with
    | zero =>
      rw [key 0 (by omega), d72, d73, d74, if_pos (by unfold dIx; omega), if_pos (by unfold dIx; omega), if_pos (by unfold dIx; omega)]
      exact ⟨hdv, hw, Snap_pt hr x4⟩
    | succ t =>
      obtain ⟨a1, a2, a3⟩ := hall t (by omega)
      have hd : dIx ((st + 1) % 20) 20 (t + 1) = dIx st 20 t := by unfold dIx; omega
      rw [key t (by omega), key (t + 1) (by omega), hd, d72, d73, d74, if_neg (by unfold dIx; omega), if_neg (by unfold dIx; omega), if_neg (by unfold dIx; omega)]
      refine ⟨a1, a2, Snap_mv (fun r hr => ?_) a3⟩
      rw [x3 _ (by omega)]
      congr 1
      omega
/-- the world and the undo rows have changed, all else stayed -/
theorem Rel_W {xs : Nat → Int} {N : Nat} {σ σ' : Mm} (h : Rel xs N σ) (kx : ∀ a i, kpX a → ¬ (40 ≤ a ∧ a ≤ 48) → ¬ (71 ≤ a ∧ a ≤ 74) → gi σ' a i = gi σ a i) (km : ∀ a i, kpM a i → ¬ hf 0 a i → a ≠ 129 → ¬ (a = 85 ∧ i = 82) → gi σ' a i = gi σ a i)
    (wi : WI (vw σ 5) (wv σ' 40)) (uh : UH (vw σ 5) (wv σ' 40)) (rw : RW (vw σ 5) (wv σ' 40) σ' 0) (dy : gi σ' 40 0 ≤ 9900) (ru : RelU (vw σ 5) (wv σ' 40) σ') (p48 : ∀ k : Nat, k < 5 → gi σ 5 2 ≤ (k : Int) → gi σ' 48 k = 0) : Rel xs N σ' := by
  obtain ⟨r1, r2, r3, r4, r5, r6, r7, r8, r9, r10, r11, r12, r13, r14⟩ := h
  have eT : vw σ' 5 = vw σ 5 := vw_same fun a b p q => kx a b (by unfold kpX; omega) (by omega) (by omega)
  unfold Rel
  rw [eT]
  have hTm : ∀ a i, hT a i → gi σ' a i = gi σ a i := fun a i p => km a i (by simp [kpM, p]) (by unfold hT at p; unfold hf; omega) (by unfold hT at p; omega) (by unfold hT at p; omega)
  have m85 : ∀ i, (i = 1 ∨ i = 4 ∨ i = 5 ∨ i = 76 ∨ i = 77 ∨ i = 84) → gi σ' 85 i = gi σ 85 i := fun i q => km 85 i (Or.inl ⟨rfl, by omega⟩) (by unfold hf; omega) (by omega) (by omega)
  have m : ∀ a i, (a = 86 ∨ a = 87 ∨ a = 126 ∨ a = 130 ∨ a = 131) → gi σ' a i = gi σ a i := fun a i q => km a i (by rcases q with rfl | rfl | rfl | rfl | rfl <;> simp [kpM]) (by unfold hf; omega) (by omega) (by omega)
  refine ⟨fun i hi => by rw [kx 1 i (by unfold kpX; omega) (by omega) (by omega)]; exact r1 i hi, fun i hi => by rw [kx 0 i (by unfold kpX; omega) (by omega) (by omega)]; exact r2 i hi, fun i hi => by rw [kx 38 i (by unfold kpX; omega) (by omega) (by omega)]; exact r3 i hi, fun i hi => by rw [m 87 i (by omega)]; exact r4 i hi, r5, RB_hT r5 hTm r6, wi, uh, rw, dy, ru, RelI_eq (fun a i p => ?_) r12, RelF_eq (fun a i p => ?_) r13, ?_⟩
  · rcases p with p | p | p | p | p
    · exact kx a i (by unfold kpX; omega) (by omega) (by omega)
    · exact m a i (by omega)
    · exact m a i (by omega)
    · rw [p.1]; exact m85 i (by omega)
    · exact kx a i (by unfold kpX; omega) (by omega) (by omega)
  · rcases p with p | p | p
    · exact kx a i (by unfold kpX; omega) (by omega) (by omega)
    · exact m a i (by omega)
    · rw [p.1]; exact m85 i (by omega)
  · obtain ⟨p1, p2, p3, p4, p5, p6⟩ := r14
    have k3 : ∀ a i, (a = 3 ∨ a = 4 ∨ a = 5 ∨ a = 66) → gi σ' a i = gi σ a i := fun a i q => kx a i (by unfold kpX; omega) (by omega) (by omega)
    refine ⟨?_, ?_, fun i hi => ?_, ?_, ?_, fun k hk hk2 => ⟨?_, ?_⟩⟩
    · rw [k3 3 1 (by omega)]; exact p1
    · rw [k3 3 1 (by omega), m85 1 (by omega)]; exact p2
    · rw [k3 3 1 (by omega)] at hi
      rw [m 86 _ (by omega), k3 4 _ (by omega)]; exact p3 i hi
    · rw [m85 4 (by omega), k3 3 2 (by omega)]; exact p4
    · rw [m85 5 (by omega), k3 3 3 (by omega)]; exact p5
    · rw [k3 5 2 (by omega)] at hk2; exact p48 k hk hk2
    · rw [k3 5 2 (by omega)] at hk2; rw [k3 66 k (by omega), k3 3 10 (by omega)]; exact (p6 k hk hk2).2
