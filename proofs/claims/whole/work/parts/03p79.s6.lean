/-! CALLS that change the state: restuff -/
theorem anyF_s {p : Nat → Bool} {n : Nat} : anyF p (n + 1) = (anyF p n || p n) := rfl
theorem lies_0 {V : Nat → Nat → Int} {u i : Nat} : lies V u 0 i = false := by
  cases h : lies V u 0 i with
  | false => rfl
  | true => obtain ⟨p, _, q, _⟩ := lies_iff.mp h; omega
theorem lies_s {V : Nat → Nat → Int} {u k i : Nat} (hk : k < 8) : lies V u ((k : Int) + 1) i = (lies V u (k : Int) i || decide (V 7 (u * 8 + k) = (i : Int))) := by
  cases h : (lies V u (k : Int) i || decide (V 7 (u * 8 + k) = (i : Int))) with
  | true =>
    rw [lies_iff]
    rw [Bool.or_eq_true, lies_iff] at h
    rcases h with ⟨p, h1, h2, h3⟩ | h
    · exact ⟨p, h1, by omega, h3⟩
    · exact ⟨k, hk, by omega, of_decide_eq_true h⟩
  | false =>
    rw [Bool.or_eq_false_iff] at h
    cases z : lies V u ((k : Int) + 1) i with
    | false => rfl
    | true =>
      obtain ⟨p, h1, h2, h3⟩ := lies_iff.mp z
      by_cases e : p = k
      · subst e; exact absurd h3 (of_decide_eq_false h.2)
      · rw [lies_iff.mpr ⟨p, h1, by omega, h3⟩] at h; exact Bool.noConfusion h.1
theorem lies_c {V V' : Nat → Nat → Int} {u : Nat} (h : ∀ p, p < 8 → V 7 (u * 8 + p) = V' 7 (u * 8 + p)) (m : Int) (i : Nat) : lies V u m i = lies V' u m i := by
  cases z : lies V' u m i with
  | true =>
    obtain ⟨p, h1, h2, h3⟩ := lies_iff.mp z
    exact lies_iff.mpr ⟨p, h1, h2, by rw [h p h1]; exact h3⟩
  | false =>
    cases z' : lies V u m i with
    | false => rfl
    | true =>
      obtain ⟨p, h1, h2, h3⟩ := lies_iff.mp z'
      rw [lies_iff.mpr ⟨p, h1, h2, by rw [← h p h1]; exact h3⟩] at z; exact Bool.noConfusion z
def Sf (σ s : Mm) (u : Nat) (z : Int) : Prop := (∀ x i, x ≠ 44 → gi s x i = gi σ x i) ∧ s.2 = σ.2 ∧ (∀ i, gi s 44 i = if lies (wv σ 40) u (gi σ 46 u) i then z else gi σ 44 i)
theorem v_sf_0 {n : Nat}  (u : Nat) (z : Int) {σ : Mm} {P : Mm → Prop} (l1 : R 89 2 [some (vr 40), some (vi (u : Int)), some (vi z), some (vi 0)] [] (shF n) 0 0 σ (Qv (shF n) P)) : Cv 89 [vr 40, vi (u : Int), vi z] (shF n) σ P :=
  show R 89 0 [some (vr 40), some (vi (u : Int)), some (vi z), none] [] (shF n) 0 0 σ (Qv (shF n) P) from wpK_R 3 [2] ((l1))
theorem v_sf_L {n : Nat}  (u : Nat) (z : Int) (k : Nat) {σ : Mm} {P : Mm → Prop} (o1 : (0 ≤ (u : Int) ∧ (u : Int) < 5)) (o2 : (k : Int) < (gi σ 46 u) → (k : Int) < (8 : Int) → rg ((u : Int) * 8)) (o3 : (k : Int) < (gi σ 46 u) → (k : Int) < (8 : Int) → rg (((u : Int) * 8) + (k : Int))) (o4 : (k : Int) < (gi σ 46 u) → (k : Int) < (8 : Int) → (0 ≤ (((u : Int) * 8) + (k : Int)) ∧ (((u : Int) * 8) + (k : Int)) < 40)) (o5 : (k : Int) < (gi σ 46 u) → (k : Int) < (8 : Int) → (0 ≤ (gi σ 47 ((u * 8) + k)) ∧ (gi σ 47 ((u * 8) + k)) < 10)) (o6 : (k : Int) < (gi σ 46 u) → (k : Int) < (8 : Int) → ∀ t8 : Mm, t8 = si σ 44 (gi σ 47 ((u * 8) + k)).toNat z → rg ((k : Int) + 1)) (l1 : (gi σ 46 u) ≤ (k : Int) → P σ) (l2 : (k : Int) < (gi σ 46 u) → (8 : Int) ≤ (k : Int) → P σ) (l3 : (k : Int) < (gi σ 46 u) → (k : Int) < (8 : Int) → ∀ t8 : Mm, t8 = si σ 44 (gi σ 47 ((u * 8) + k)).toNat z → R 89 2 [some (vr 40), some (vi (u : Int)), some (vi z), some (vi ((k : Int) + 1))] [] (shF n) 0 0 t8 (Qv (shF n) P)) : R 89 2 [some (vr 40), some (vi (u : Int)), some (vi z), some (vi (k : Int))] [] (shF n) 0 0 σ (Qv (shF n) P) :=
  wpK_R 24 [2] ((have k1 := (o1); And.intro k1 (And.intro (fun q2 => And.intro ret0 ⟨rfl, rfl, (l1 q2)⟩) (fun q2 => And.intro (fun q3 => And.intro ret0 ⟨rfl, rfl, (l2 (Int.not_le.mp q2) q3)⟩) (fun q3 => (have k4 := (o2 (Int.not_le.mp q2) (Int.not_le.mp q3)); And.intro k4 ((have k5 := (o3 (Int.not_le.mp q2) (Int.not_le.mp q3)); And.intro k5 ((have k6 := (o4 (Int.not_le.mp q2) (Int.not_le.mp q3)); And.intro k6 ((have k7 := (o5 (Int.not_le.mp q2) (Int.not_le.mp q3)); And.intro k7 ((have k9 := (o6 (Int.not_le.mp q2) (Int.not_le.mp q3) _ rfl); And.intro k9 ((l3 (Int.not_le.mp q2) (Int.not_le.mp q3) _ rfl))))))))))))))))
theorem c_sf {n : Nat} {u z : Int} {σ : Mm} {P : Mm → Prop} (hu : 0 ≤ u ∧ u < 5) (hs : 0 ≤ gi σ 46 u.toNat ∧ gi σ 46 u.toNat ≤ 8) (hf : ∀ p : Nat, (p : Int) < gi σ 46 u.toNat → 0 ≤ gi σ 47 (u.toNat * 8 + p) ∧ gi σ 47 (u.toNat * 8 + p) < 10) (hP : ∀ s, Sf σ s u.toNat z → P s) : Cv 89 [vr 40, vi u, vi z] (shF n) σ P := by
  obtain ⟨u, rfl⟩ := Int.eq_ofNat_of_zero_le hu.1
  rw [Int.toNat_natCast] at hs hf hP
  refine v_sf_0 u z ?_
  refine loopUp (N := (gi σ 46 u).toNat) (I := fun k => ∀ τ : Mm, (∀ x i, x ≠ 44 → gi τ x i = gi σ x i) → τ.2 = σ.2 → (∀ i, gi τ 44 i = if lies (wv σ 40) u (k : Int) i then z else gi σ 44 i) → R 89 2 [some (vr 40), some (vi (u : Int)), some (vi z), some (vi (k : Int))] [] (shF n) 0 0 τ (Qv (shF n) P)) (fun k hk ih => ?_) 0 (by omega) σ (fun _ _ _ => rfl) rfl (fun i => by rw [show ((0 : Nat) : Int) = 0 from rfl, lies_0]; rfl)
  intro τ f1 f2 f3
  have g46 := f1 46 u (by omega)
  have g47 := f1 47 (u * 8 + k) (by omega)
  have hfk := fun q : (k : Int) < gi σ 46 u => hf k q
  refine v_sf_L u z k (by intros; first | omega | (have q := hfk (by omega); omega) | (unfold rg; omega)) (by intros; first | omega | (have q := hfk (by omega); omega) | (unfold rg; omega)) (by intros; first | omega | (have q := hfk (by omega); omega) | (unfold rg; omega)) (by intros; first | omega | (have q := hfk (by omega); omega) | (unfold rg; omega)) (by intros; first | omega | (have q := hfk (by omega); omega) | (unfold rg; omega)) (by intros; first | omega | (have q := hfk (by omega); omega) | (unfold rg; omega)) ?_ ?_ ?_
  · intro hge
    refine hP τ ⟨f1, f2, fun i => ?_⟩
    rw [f3 i, show (k : Int) = gi σ 46 u by omega]
  · intros; exfalso; omega
  · intro hlt h8 t8 e8
    refine R_eq (ih (by omega) t8 (fun x i p => ?_) ?_ (fun i => ?_)) rfl
    · rw [e8, gi_ne p]; exact f1 x i p
    · rw [e8]; exact f2
    · have q := hfk (by omega)
      rw [e8, gi_si, f3 i, g47, show ((k + 1 : Nat) : Int) = (k : Int) + 1 from rfl, lies_s (by omega)]
      have e : wv σ 40 7 (u * 8 + k) = gi σ 47 (u * 8 + k) := rfl
      rw [e]
      by_cases w : i = (gi σ 47 (u * 8 + k)).toNat
      · rw [if_pos ⟨rfl, w⟩, decide_eq_true (show gi σ 47 (u * 8 + k) = (i : Int) by omega), Bool.or_true, if_pos rfl]
      · rw [if_neg (fun h => w h.2), decide_eq_false (show ¬ gi σ 47 (u * 8 + k) = (i : Int) by omega), Bool.or_false]
def Em (σ s : Mm) (u : Nat) : Prop := (∀ x i, x ≠ 44 → ¬ (x = 46 ∧ i = u) → gi s x i = gi σ x i) ∧ s.2 = σ.2 ∧ gi s 46 u = 0 ∧ (∀ i, gi s 44 i = if lies (wv σ 40) u (gi σ 46 u) i then 3 else gi σ 44 i)
theorem v_emp {n : Nat}  (u : Int) {σ : Mm} {P : Mm → Prop} (o1 : (0 ≤ u ∧ u < 5)) (o2 : (0 ≤ gi σ 46 u.toNat ∧ gi σ 46 u.toNat ≤ 8)) (o3 : (∀ p : Nat, (p : Int) < gi σ 46 u.toNat → 0 ≤ gi σ 47 (u.toNat * 8 + p) ∧ gi σ 47 (u.toNat * 8 + p) < 10)) (o4 : ∀ s2 : Mm, Sf σ s2 u.toNat (3 : Int) → (0 ≤ u ∧ u < 5)) (l1 : ∀ s2 : Mm, Sf σ s2 u.toNat (3 : Int) → ∀ t5 : Mm, t5 = si s2 46 u.toNat (0 : Int) → P t5) : Cv 87 [vr 40, vi u] (shF n) σ P :=
  show R 87 0 [some (vr 40), some (vi u)] [] (shF n) 0 0 σ (Qv (shF n) P) from wpK_R 10 [] ((c_sf  (o1) (o2) (o3) (fun s2 h3 => (have k4 := (o4 s2 h3); And.intro k4 (And.intro ret0 ⟨rfl, rfl, (l1 s2 h3 _ rfl)⟩)))))
theorem c_emp {n : Nat} {u : Int} {σ : Mm} {P : Mm → Prop} (hu : 0 ≤ u ∧ u < 5) (hs : 0 ≤ gi σ 46 u.toNat ∧ gi σ 46 u.toNat ≤ 8) (hf : ∀ p : Nat, (p : Int) < gi σ 46 u.toNat → 0 ≤ gi σ 47 (u.toNat * 8 + p) ∧ gi σ 47 (u.toNat * 8 + p) < 10) (hP : ∀ s, Em σ s u.toNat → P s) : Cv 87 [vr 40, vi u] (shF n) σ P := by
  refine v_emp u (by intros; first | omega | exact hf _ (by assumption)) (by intros; first | omega | exact hf _ (by assumption)) (by intros; first | omega | exact hf _ (by assumption)) (by intros; first | omega | exact hf _ (by assumption)) ?_
  intro s1 f t2 e2
  refine hP t2 ⟨fun x i p q => ?_, by rw [e2]; exact f.2.1, ?_, fun i => ?_⟩
  · rw [e2, gi_si, if_neg q]; exact f.1 x i p
  · rw [e2, gi_si, if_pos ⟨rfl, rfl⟩]
  · rw [e2, gi_ne (by omega)]; exact f.2.2 i
/-- how many lie there -/
theorem lies_n {T V : Nat → Nat → Int} (hC : T 0 1 ≤ 10) (w : WI T V) {u : Nat} (hu : u < 5) : ∀ m : Nat, (m : Int) ≤ V 6 u → cnt (lies V u (m : Int)) 10 = (m : Int) := by
  intro m
  induction m with
  | zero =>
    intro _
    exact sumF_zero 10 fun q _ => by rw [show ((0 : Nat) : Int) = 0 from rfl, lies_0]; rfl
  | succ m ih =>
    intro hm
    have ih := ih (by omega)
    have h6 := w.1.2.2.1 u hu
    have h4 := w.1.2.2.2.1 u m hu (by omega)
    have hno : lies V u (m : Int) (V 7 (u * 8 + m)).toNat = false := by
      cases z : lies V u (m : Int) (V 7 (u * 8 + m)).toNat with
      | false => rfl
      | true =>
        obtain ⟨p, h1, h2, h3⟩ := lies_iff.mp z
        have := (w.2.2.1 u p u m hu hu (by omega) (by omega) (by omega)).2
        omega
    unfold cnt at ih ⊢
    rw [sumF_upd (f := fun q => b2i (lies V u ((m + 1 : Nat) : Int) q)) (g := fun q => b2i (lies V u (m : Int) q)) (w := (V 7 (u * 8 + m)).toNat) 10 (by omega) (fun q hq hne => by
      show b2i (lies V u ((m : Int) + 1) q) = b2i (lies V u (m : Int) q)
      rw [lies_s (by omega), decide_eq_false (by omega), Bool.or_false]), ih]
    show (m : Int) - b2i (lies V u (m : Int) (V 7 (u * 8 + m)).toNat) + b2i (lies V u ((m : Int) + 1) (V 7 (u * 8 + m)).toNat) = _
    rw [hno, lies_s (by omega), decide_eq_true (by omega), Bool.or_true]
    simp [b2i]
/-- cushion u emptied: its feathers are lost -/
def emV (V : Nat → Nat → Int) (u : Nat) : Nat → Nat → Int := fun f i => if f = 6 ∧ i = u then 0 else if f = 4 ∧ lies V u (V 6 u) i = true then 3 else V f i
theorem emV_ne {V : Nat → Nat → Int} {u f i : Nat} (h4 : f ≠ 4) (h6 : ¬ (f = 6 ∧ i = u)) : emV V u f i = V f i := by unfold emV; rw [if_neg h6, if_neg (fun z => h4 z.1)]
theorem emV_4 {V : Nat → Nat → Int} {u i : Nat} : emV V u 4 i = if lies V u (V 6 u) i = true then 3 else V 4 i := by
  unfold emV
  rw [if_neg (by omega)]
  by_cases z : lies V u (V 6 u) i = true
  · rw [if_pos ⟨rfl, z⟩, if_pos z]
  · rw [if_neg (fun w => z w.2), if_neg z]
theorem emV_6 {V : Nat → Nat → Int} {u i : Nat} : emV V u 6 i = if i = u then 0 else V 6 i := by
  unfold emV
  by_cases z : i = u
  · rw [if_pos ⟨rfl, z⟩, if_pos z]
  · rw [if_neg (fun w => z w.2), if_neg (by omega), if_neg z]
theorem lies_f {T V : Nat → Nat → Int} (w : WI T V) {u i : Nat} (hu : u < 5) (h : lies V u (V 6 u) i = true) : V 4 i = 1 := by
  obtain ⟨p, h1, h2, h3⟩ := lies_iff.mp h
  have := w.2.1 u p hu h2
  rw [h3, Int.toNat_natCast] at this
  exact this
theorem WI_em {T V : Nat → Nat → Int} (hb : BkOK T) (w : WI T V) {u : Nat} (hu : u < 5) : WI T (emV V u) := by
  have hl := fun i => lies_f w (u := u) (i := i) hu
  have hn := lies_n hb.2.1.2 w hu (V 6 u).toNat (by have := w.1.2.2.1 u hu; omega)
  obtain ⟨⟨s1, s2, s3, s4, s5⟩, w1, w2, w3, w4, w5, w6, w7, w8, w9, w10, w11, w12⟩ := w
  have h6u := s3 u hu
  rw [show (((V 6 u).toNat : Nat) : Int) = V 6 u by omega] at hn
  have e : ∀ f i, f ≠ 4 → f ≠ 6 → emV V u f i = V f i := fun f i p q => emV_ne p (fun z => q z.1)
  have h6 : ∀ v p : Nat, (p : Int) < emV V u 6 v → v ≠ u ∧ (p : Int) < V 6 v := fun v p hp => by
    rw [emV_6] at hp
    by_cases z : v = u
    · rw [if_pos z] at hp; omega
    · rw [if_neg z] at hp; exact ⟨z, hp⟩
  refine ⟨⟨fun c hc => by rw [e _ _ (by omega) (by omega)]; exact s1 c hc, fun j hj => by rw [e _ _ (by omega) (by omega)]; exact s2 j hj, fun v hv => ?_, fun v p hv hp => ?_, by rw [e _ _ (by omega) (by omega)]; exact s5⟩, fun v p hv hp => ?_, fun v p v' p' hv hv' hp hp' => ?_, fun c hc => ?_, fun c hc => ?_, fun c hc hc' => ?_, fun j j' hj hj' he => ?_, fun v hv => ?_, fun k hk => ?_, fun v hv hv' => ?_, ?_, fun x hx => ?_, ?_⟩
  · rw [emV_6]; split
    · omega
    · exact s3 v hv
  · rw [e _ _ (by omega) (by omega)]; exact s4 v p hv (h6 v p hp).2
  · rw [e 7 _ (by omega) (by omega), emV_4]
    have hp' := h6 v p hp
    rw [if_neg, w1 v p hv hp'.2]
    intro z
    obtain ⟨q, q1, q2, q3⟩ := lies_iff.mp z
    have h47 := s4 v p hv hp'.2
    exact hp'.1 (w2 v p u q hv hu hp'.2 q2 (by omega)).1
  · rw [e _ _ (by omega) (by omega), e _ _ (by omega) (by omega)]; exact w2 v p v' p' hv hv' (h6 v p hp).2 (h6 v' p' hp').2
  · rw [e 3 _ (by omega) (by omega), emV_4]
    intro h3
    rw [if_neg, w3 c hc h3]
    intro z
    have := hl c z
    have := w3 c hc h3
    omega
  · rw [e 3 _ (by omega) (by omega), e 2 _ (by omega) (by omega)]; exact w4 c hc
  · rw [e 3 _ (by omega) (by omega)]; exact w5 c hc hc'
  · rw [e 5 _ (by omega) (by omega), e 5 _ (by omega) (by omega)] at he; exact w6 j j' hj hj' he
  · obtain ⟨j, hj, he⟩ := w7 v hv
    exact ⟨j, hj, by rw [e 5 _ (by omega) (by omega)]; exact he⟩
  · rw [e 8 _ (by omega) (by omega)]
    refine ⟨(w8 k hk).1, (w8 k hk).2.1, fun x hx hb => ?_⟩
    have := (w8 k hk).2.2 x hx hb
    rw [emV_4, if_neg]
    · exact this
    · intro z; have := hl x z; omega
  · rw [emV_6]; split
    · rfl
    · exact w9 v hv hv'
  · have e1 : sumF (emV V u 6) 5 = sumF (V 6) 5 - V 6 u := by
      rw [sumF_upd (f := emV V u 6) (g := V 6) (w := u) 5 hu (fun q hq hne => by rw [emV_6, if_neg hne]), emV_6, if_pos rfl]; omega
    rw [e1, w10, ← hn]
    unfold cnt
    rw [sumF_sub]
    refine sumF_congr fun q hq => ?_
    show b2i (decide (V 4 q = 1)) - b2i (lies V u (V 6 u) q) = b2i (decide (emV V u 4 q = 1))
    rw [emV_4]
    cases z : lies V u (V 6 u) q with
    | true => rw [hl q z, if_pos rfl]; rfl
    | false => rw [if_neg (by decide)]; simp [b2i]
  · rw [emV_4]; split
    · omega
    · exact w11 x hx
  · rw [e 0 _ (by omega) (by omega)]; exact w12
theorem v_rs {n : Nat}  (j : Int) {σ : Mm} {P : Int → Mm → Prop} (o1 : (0 : Int) ≤ j → j < (gi σ 5 0) → (0 ≤ j ∧ j < 5)) (o2 : (0 : Int) ≤ j → j < (gi σ 5 0) → ∀ x4 : Int, x4 = gi σ 45 j.toNat → (0 ≤ x4 ∧ x4 < 5)) (o3 : (0 : Int) ≤ j → j < (gi σ 5 0) → ∀ x4 : Int, x4 = gi σ 45 j.toNat → ∀ x6 : Int, x6 = gi σ 46 x4.toNat → (0 ≤ gi σ 46 x4.toNat ∧ gi σ 46 x4.toNat ≤ 8)) (o4 : (0 : Int) ≤ j → j < (gi σ 5 0) → ∀ x4 : Int, x4 = gi σ 45 j.toNat → ∀ x6 : Int, x6 = gi σ 46 x4.toNat → (∀ p : Nat, (p : Int) < gi σ 46 x4.toNat → 0 ≤ gi σ 47 (x4.toNat * 8 + p) ∧ gi σ 47 (x4.toNat * 8 + p) < 10)) (o5 : (0 : Int) ≤ j → j < (gi σ 5 0) → ∀ x4 : Int, x4 = gi σ 45 j.toNat → ∀ x6 : Int, x6 = gi σ 46 x4.toNat → ∀ s8 : Mm, Em σ s8 x4.toNat → rg ((gi s8 71 3) + (gi s8 71 4))) (o6 : (0 : Int) ≤ j → j < (gi σ 5 0) → ∀ x4 : Int, x4 = gi σ 45 j.toNat → ∀ x6 : Int, x6 = gi σ 46 x4.toNat → ∀ s8 : Mm, Em σ s8 x4.toNat → (0 ≤ ((gi s8 71 3) + (gi s8 71 4)) ∧ 0 < (20 : Int))) (o7 : (0 : Int) ≤ j → j < (gi σ 5 0) → ∀ x4 : Int, x4 = gi σ 45 j.toNat → ∀ x6 : Int, x6 = gi σ 46 x4.toNat → ∀ s8 : Mm, Em σ s8 x4.toNat → ∀ x12 : Int, x12 = ((gi s8 71 3) + (gi s8 71 4)) % (20 : Int) → (0 ≤ x12 ∧ x12 < 20)) (o8 : (0 : Int) ≤ j → j < (gi σ 5 0) → ∀ x4 : Int, x4 = gi σ 45 j.toNat → ∀ x6 : Int, x6 = gi σ 46 x4.toNat → ∀ s8 : Mm, Em σ s8 x4.toNat → ∀ x12 : Int, x12 = ((gi s8 71 3) + (gi s8 71 4)) % (20 : Int) → ∀ t14 : Mm, t14 = si s8 72 x12.toNat (2 : Int) → ∀ t15 : Mm, t15 = si t14 73 x12.toNat x4 → ∀ t16 : Mm, t16 = si t15 74 x12.toNat x6 → (20 : Int) ≤ (gi s8 71 4) → rg ((gi s8 71 3) + 1)) (o9 : (0 : Int) ≤ j → j < (gi σ 5 0) → ∀ x4 : Int, x4 = gi σ 45 j.toNat → ∀ x6 : Int, x6 = gi σ 46 x4.toNat → ∀ s8 : Mm, Em σ s8 x4.toNat → ∀ x12 : Int, x12 = ((gi s8 71 3) + (gi s8 71 4)) % (20 : Int) → ∀ t14 : Mm, t14 = si s8 72 x12.toNat (2 : Int) → ∀ t15 : Mm, t15 = si t14 73 x12.toNat x4 → ∀ t16 : Mm, t16 = si t15 74 x12.toNat x6 → (20 : Int) ≤ (gi s8 71 4) → (0 ≤ ((gi s8 71 3) + 1) ∧ 0 < (20 : Int))) (o10 : (0 : Int) ≤ j → j < (gi σ 5 0) → ∀ x4 : Int, x4 = gi σ 45 j.toNat → ∀ x6 : Int, x6 = gi σ 46 x4.toNat → ∀ s8 : Mm, Em σ s8 x4.toNat → ∀ x12 : Int, x12 = ((gi s8 71 3) + (gi s8 71 4)) % (20 : Int) → ∀ t14 : Mm, t14 = si s8 72 x12.toNat (2 : Int) → ∀ t15 : Mm, t15 = si t14 73 x12.toNat x4 → ∀ t16 : Mm, t16 = si t15 74 x12.toNat x6 → (gi s8 71 4) < (20 : Int) → rg ((gi s8 71 4) + 1)) (l1 : j < (0 : Int) → P (-1) σ) (l2 : (0 : Int) ≤ j → (gi σ 5 0) ≤ j → P (-1) σ) (l3 : (0 : Int) ≤ j → j < (gi σ 5 0) → ∀ x4 : Int, x4 = gi σ 45 j.toNat → ∀ x6 : Int, x6 = gi σ 46 x4.toNat → ∀ s8 : Mm, Em σ s8 x4.toNat → ∀ x12 : Int, x12 = ((gi s8 71 3) + (gi s8 71 4)) % (20 : Int) → ∀ t14 : Mm, t14 = si s8 72 x12.toNat (2 : Int) → ∀ t15 : Mm, t15 = si t14 73 x12.toNat x4 → ∀ t16 : Mm, t16 = si t15 74 x12.toNat x6 → (20 : Int) ≤ (gi s8 71 4) → ∀ t20 : Mm, t20 = si t16 71 3 (((gi s8 71 3) + 1) % (20 : Int)) → P x6 t20) (l4 : (0 : Int) ≤ j → j < (gi σ 5 0) → ∀ x4 : Int, x4 = gi σ 45 j.toNat → ∀ x6 : Int, x6 = gi σ 46 x4.toNat → ∀ s8 : Mm, Em σ s8 x4.toNat → ∀ x12 : Int, x12 = ((gi s8 71 3) + (gi s8 71 4)) % (20 : Int) → ∀ t14 : Mm, t14 = si s8 72 x12.toNat (2 : Int) → ∀ t15 : Mm, t15 = si t14 73 x12.toNat x4 → ∀ t16 : Mm, t16 = si t15 74 x12.toNat x6 → (gi s8 71 4) < (20 : Int) → ∀ t22 : Mm, t22 = si t16 71 4 ((gi s8 71 4) + 1) → P x6 t22) : Ci 116 [vr 3, vi j] (shF n) σ P :=
  show R 116 0 [some (vr 3), some (vi j), none, none] [] (shF n) 0 0 σ (Qi (shF n) P) from wpK_R 28 [] ((show R 103 0 [some (vr 3), _] [] (shF n) 0 0 _ _ from wpK_R 10 [] (And.intro (fun q1 => And.intro ret0 (And.intro (Or.inl rfl) ⟨rfl, _, rfl, And.intro (fun q => absurd q (show ¬ ((0 : Int) ≠ 0) by decide)) (fun _ => And.intro ret0 ⟨rfl, _, rfl, (l1 q1)⟩)⟩)) (fun q1 => And.intro (fun q2 => And.intro ret0 (And.intro (Or.inl rfl) ⟨rfl, _, rfl, And.intro (fun q => absurd q (show ¬ ((0 : Int) ≠ 0) by decide)) (fun _ => And.intro ret0 ⟨rfl, _, rfl, (l2 (Int.not_lt.mp q1) q2)⟩)⟩)) (fun q2 => And.intro ret0 (And.intro (Or.inr rfl) ⟨rfl, _, rfl, And.intro (fun _ => (have k3 := (o1 (Int.not_lt.mp q1) (Int.not_le.mp q2)); And.intro k3 ((have k5 := (o2 (Int.not_lt.mp q1) (Int.not_le.mp q2) _ rfl); And.intro k5 ((c_emp  k5 (o3 (Int.not_lt.mp q1) (Int.not_le.mp q2) _ rfl _ rfl) (o4 (Int.not_lt.mp q1) (Int.not_le.mp q2) _ rfl _ rfl) (fun s8 h9 => (show R 13 0 [some (vr 71), some (vi 2), _, _, none] [] (shF n) 0 0 _ _ from wpK_R 36 [] ((have k10 := (o5 (Int.not_lt.mp q1) (Int.not_le.mp q2) _ rfl _ rfl s8 h9); And.intro k10 ((have k11 := (o6 (Int.not_lt.mp q1) (Int.not_le.mp q2) _ rfl _ rfl s8 h9); And.intro k11 ((have k13 := (o7 (Int.not_lt.mp q1) (Int.not_le.mp q2) _ rfl _ rfl s8 h9 _ rfl); And.intro k13 (And.intro k13 (And.intro k13 (And.intro (fun q17 => (have k18 := (o8 (Int.not_lt.mp q1) (Int.not_le.mp q2) _ rfl _ rfl s8 h9 _ rfl _ rfl _ rfl _ rfl q17); And.intro k18 ((have k19 := (o9 (Int.not_lt.mp q1) (Int.not_le.mp q2) _ rfl _ rfl s8 h9 _ rfl _ rfl _ rfl _ rfl q17); And.intro k19 (And.intro ret0 ⟨rfl, rfl, And.intro ret0 ⟨rfl, _, rfl, (l3 (Int.not_lt.mp q1) (Int.not_le.mp q2) _ rfl _ rfl s8 h9 _ rfl _ rfl _ rfl _ rfl q17 _ rfl)⟩⟩))))) (fun q17 => (have k21 := (o10 (Int.not_lt.mp q1) (Int.not_le.mp q2) _ rfl _ rfl s8 h9 _ rfl _ rfl _ rfl _ rfl (Int.not_le.mp q17)); And.intro k21 (And.intro ret0 ⟨rfl, rfl, And.intro ret0 ⟨rfl, _, rfl, (l4 (Int.not_lt.mp q1) (Int.not_le.mp q2) _ rfl _ rfl s8 h9 _ rfl _ rfl _ rfl _ rfl (Int.not_le.mp q17) _ rfl)⟩⟩)))))))))))))))))))) (fun q => absurd (show (1 : Int) ≠ 0 by decide) q)⟩))))))
theorem v_rsR_0 {n : Nat}  (j : Int) {σ : Mm} {P : Int → Mm → Prop} (o1 : ∀ t1 : Mm, t1 = si σ 85 2 (0 : Int) → (0 : Int) ≤ j → j < (gi σ 85 12) → KB t1) (o2 : ∀ t1 : Mm, t1 = si σ 85 2 (0 : Int) → (0 : Int) ≤ j → j < (gi σ 85 12) → (0 ≤ gi t1 85 82 ∧ gi t1 85 82 ≤ 20)) (o3 : ∀ t1 : Mm, t1 = si σ 85 2 (0 : Int) → (0 : Int) ≤ j → j < (gi σ 85 12) → ∀ s5 : Mm, Rm t1 s5 → (0 ≤ j ∧ j < 10)) (o4 : ∀ t1 : Mm, t1 = si σ 85 2 (0 : Int) → (0 : Int) ≤ j → j < (gi σ 85 12) → ∀ s5 : Mm, Rm t1 s5 → ∀ x8 : Int, x8 = gi s5 111 j.toNat → (0 ≤ x8 ∧ x8 < 10)) (l1 : ∀ t1 : Mm, t1 = si σ 85 2 (0 : Int) → j < (0 : Int) → P (-1) t1) (l2 : ∀ t1 : Mm, t1 = si σ 85 2 (0 : Int) → (0 : Int) ≤ j → (gi σ 85 12) ≤ j → P (-1) t1) (l3 : ∀ t1 : Mm, t1 = si σ 85 2 (0 : Int) → (0 : Int) ≤ j → j < (gi σ 85 12) → ∀ s5 : Mm, Rm t1 s5 → ∀ x8 : Int, x8 = gi s5 111 j.toNat → ∀ x10 : Int, x10 = gi s5 113 x8.toNat → R 232 36 [some (vr 85), some (vi j), some (vi x8), some (vi x10), some (vi 0)] [] (shF n) 0 0 s5 (Qi (shF n) P)) : Ci 232 [vr 85, vi j] (shF n) σ P :=
  show R 232 0 [some (vr 85), some (vi j), none, none, none] [] (shF n) 0 0 σ (Qi (shF n) P) from wpK_R 22 [36] ((show R 200 0 [some (vr 85), _] [] (shF n) 0 0 _ _ from wpK_R 9 [] (And.intro (fun q2 => And.intro ret0 (And.intro (Or.inl rfl) ⟨rfl, _, rfl, And.intro (fun q => absurd q (show ¬ ((0 : Int) ≠ 0) by decide)) (fun _ => And.intro ret0 ⟨rfl, _, rfl, (l1 _ rfl q2)⟩)⟩)) (fun q2 => And.intro (fun q3 => And.intro ret0 (And.intro (Or.inl rfl) ⟨rfl, _, rfl, And.intro (fun q => absurd q (show ¬ ((0 : Int) ≠ 0) by decide)) (fun _ => And.intro ret0 ⟨rfl, _, rfl, (l2 _ rfl (Int.not_lt.mp q2) q3)⟩)⟩)) (fun q3 => And.intro ret0 (And.intro (Or.inr rfl) ⟨rfl, _, rfl, And.intro (fun _ => (c_rem  (o1 _ rfl (Int.not_lt.mp q2) (Int.not_le.mp q3)) (o2 _ rfl (Int.not_lt.mp q2) (Int.not_le.mp q3)) (fun s5 h6 => (have k7 := (o3 _ rfl (Int.not_lt.mp q2) (Int.not_le.mp q3) s5 h6); And.intro k7 ((have k9 := (o4 _ rfl (Int.not_lt.mp q2) (Int.not_le.mp q3) s5 h6 _ rfl); And.intro k9 ((l3 _ rfl (Int.not_lt.mp q2) (Int.not_le.mp q3) s5 h6 _ rfl _ rfl)))))))) (fun q => absurd (show (1 : Int) ≠ 0 by decide) q)⟩))))))
theorem v_rsR_L {n : Nat}  (j : Int) (u : Nat) (m : Nat) (k : Nat) {σ : Mm} {P : Int → Mm → Prop} (o1 : (m : Int) ≤ (k : Int) → rg ((gi σ 122 0) + (m : Int))) (o2 : (m : Int) ≤ (k : Int) → ∀ t3 : Mm, t3 = si σ 122 0 ((gi σ 122 0) + (m : Int)) → (0 ≤ (u : Int) ∧ (u : Int) < 10)) (o3 : (k : Int) < (m : Int) → rg ((8 : Int) * (u : Int))) (o4 : (k : Int) < (m : Int) → rg (((8 : Int) * (u : Int)) + (k : Int))) (o5 : (k : Int) < (m : Int) → (0 ≤ (((8 : Int) * (u : Int)) + (k : Int)) ∧ (((8 : Int) * (u : Int)) + (k : Int)) < 80)) (o6 : (k : Int) < (m : Int) → (0 ≤ (gi σ 114 ((8 * u) + k)) ∧ (gi σ 114 ((8 * u) + k)) < 20)) (o7 : (k : Int) < (m : Int) → ∀ t10 : Mm, t10 = si σ 118 (gi σ 114 ((8 * u) + k)).toNat (3 : Int) → rg ((k : Int) + 1)) (l1 : (m : Int) ≤ (k : Int) → ∀ t3 : Mm, t3 = si σ 122 0 ((gi σ 122 0) + (m : Int)) → ∀ t5 : Mm, t5 = si t3 113 u (0 : Int) → P (m : Int) t5) (l2 : (k : Int) < (m : Int) → ∀ t10 : Mm, t10 = si σ 118 (gi σ 114 ((8 * u) + k)).toNat (3 : Int) → R 232 36 [some (vr 85), some (vi j), some (vi (u : Int)), some (vi (m : Int)), some (vi ((k : Int) + 1))] [] (shF n) 0 0 t10 (Qi (shF n) P)) : R 232 36 [some (vr 85), some (vi j), some (vi (u : Int)), some (vi (m : Int)), some (vi (k : Int))] [] (shF n) 0 0 σ (Qi (shF n) P) :=
  wpK_R 18 [36] (And.intro (fun q1 => And.intro (by decide) ((have k2 := (o1 q1); And.intro k2 (And.intro (by decide) ((have k4 := (o2 q1 _ rfl); And.intro k4 (And.intro ret0 ⟨rfl, _, rfl, (l1 q1 _ rfl _ rfl)⟩))))))) (fun q1 => (have k6 := (o3 (Int.not_le.mp q1)); And.intro k6 ((have k7 := (o4 (Int.not_le.mp q1)); And.intro k7 ((have k8 := (o5 (Int.not_le.mp q1)); And.intro k8 ((have k9 := (o6 (Int.not_le.mp q1)); And.intro k9 ((have k11 := (o7 (Int.not_le.mp q1) _ rfl); And.intro k11 ((l2 (Int.not_le.mp q1) _ rfl)))))))))))))
theorem Em_wv {σ s : Mm} {u : Nat} (h : Em σ s u) : wv s 40 = emV (wv σ 40) u := by
  funext f i
  by_cases q : f ≤ 8
  · have e : wv s 40 f i = gi s (40 + f) i := by simp only [wv]; rw [if_pos q]
    rw [e]
    by_cases f4 : f = 4
    · subst f4
      rw [emV_4]
      exact h.2.2.2 i
    · by_cases f6 : f = 6 ∧ i = u
      · rw [f6.1, f6.2, emV_6, if_pos rfl]; exact h.2.2.1
      · rw [emV_ne f4 f6, h.1 _ _ (by omega) (by omega)]
        simp only [wv]; rw [if_pos q]
  · rw [emV_ne (by omega) (by omega)]
    simp only [wv]; rw [if_neg q, if_neg q]
theorem q_restuff {xs : Nat → Int} {N n : Nat} {σ : Mm} (h : Rel xs N σ) (j : Int) : Bi xs N n 116 [vr 3, vi j] 232 [vr 85, vi j] σ := by
  obtain ⟨c0, c1, c2, c3, c5, d0, d1, d2, d3, -⟩ := Rel_cnt h
  have hun := Rel_un h
  have hb := h.2.2.2.2.1
  have r7 := h.2.2.2.2.2.2.1
  have r8 := h.2.2.2.2.2.2.2.1
  have r9 := h.2.2.2.2.2.2.2.2.1
  have hj := fun q : (j.toNat : Int) < gi σ 5 0 => (Rel_j h q).2.2.2
  have e111 := fun q : (j.toNat : Int) < gi σ 5 0 => (Rel_w5 h (j := j.toNat) (by omega)).1
  have hno : ¬ (0 ≤ j ∧ j < gi σ 5 0) → Ci 232 [vr 85, vi j] (shF n) σ (fun v' s' => v' = -1 ∧ Rel xs N s') := fun q => by
    refine v_rsR_0 j (by intros; exfalso; omega) (by intros; exfalso; omega) (by intros; exfalso; omega) (by intros; exfalso; omega) ?_ ?_ ?_
    all_goals (intro t1 ht; intros; first | (exfalso; omega) | (rw [ht]; exact ⟨rfl, Rel_th h⟩))
  have hyes : ∀ (s : Mm) (u m : Nat), (0 ≤ j ∧ j < gi σ 5 0) → (u : Int) = gi σ 45 j.toNat → (m : Int) = gi σ 46 u → De σ s (emV (wv σ 40) u) 2 (u : Int) (m : Int) → Ci 232 [vr 85, vi j] (shF n) s (fun v' s' => v' = (m : Int) ∧ Rel xs N s') := fun s u m h1 hu hm d => by
    have g12 := De_85 d 85 12 (by omega)
    have g82 := De_85 d 85 82 (by omega)
    have q1 := hj (by omega)
    have q2 := e111 (by omega)
    have hu5 : u < 5 := by omega
    have q3 := Rel_w5 h hu5
    have hm8 : m ≤ 8 := by omega
    have h111 : ∀ s5, Rm (si s 85 2 0) s5 → gi s5 111 j.toNat = (u : Int) := fun s5 rm => by rw [Rm_85 d rm _ _ (by omega) (by omega)]; omega
    refine v_rsR_0 j (by intros; subst_vars; first | omega | exact De_KB h d | (rw [gi_si, if_neg (by omega), g82]; omega) | (have z := h111 _ ‹_›; omega)) (by intros; subst_vars; first | omega | exact De_KB h d | (rw [gi_si, if_neg (by omega), g82]; omega) | (have z := h111 _ ‹_›; omega)) (by intros; subst_vars; first | omega | exact De_KB h d | (rw [gi_si, if_neg (by omega), g82]; omega) | (have z := h111 _ ‹_›; omega)) (by intros; subst_vars; first | omega | exact De_KB h d | (rw [gi_si, if_neg (by omega), g82]; omega) | (have z := h111 _ ‹_›; omega)) ?_ ?_ ?_
    · intros; exfalso; omega
    · intros; exfalso; omega
    · intro t1 ht _ _ s5 rm x8 e8 x10 e10
      subst ht
      have f8 := Rm_85 d rm
      rw [h111 s5 rm] at e8
      rw [e8, Int.toNat_natCast, f8 _ _ (by omega) (by omega), q3.2.2.1, ← hm] at e10
      rw [e8, e10]
      have hln := lies_n hb.2.1.2 r7 hu5 m (by show (m : Int) ≤ gi σ 46 u; omega)
      have h6m : wv σ 40 6 u = (m : Int) := hm.symm
      refine loopUp (N := m) (I := fun k => ∀ τ : Mm, (∀ x i, x ≠ 118 → gi τ x i = gi s5 x i) → (∀ i, gi τ 118 i = if lies (wv σ 40) u (k : Int) i then 3 else gi s5 118 i) → R 232 36 [some (vr 85), some (vi j), some (vi (u : Int)), some (vi (m : Int)), some (vi (k : Int))] [] (shF n) 0 0 τ (Qi (shF n) (fun v' s' => v' = (m : Int) ∧ Rel xs N s'))) (fun k hk ih => ?_) 0 (by omega) s5 (fun _ _ _ => rfl) (fun i => by rw [show ((0 : Nat) : Int) = 0 from rfl, lies_0]; rfl)
      intro τ f1 f2
      have g114 : k < m → gi τ 114 (8 * u + k) = gi σ 47 (u * 8 + k) := fun q => by rw [f1 _ _ (by omega), f8 _ _ (by omega) (by omega), show 8 * u + k = u * 8 + k by omega]; exact (Rel_w0 h).2.2.1 _ (by omega)
      have hfk : k < m → 0 ≤ gi σ 47 (u * 8 + k) ∧ gi σ 47 (u * 8 + k) < gi σ 5 1 := fun q => r7.1.2.2.2.1 u k hu5 (by show (k : Int) < gi σ 46 u; omega)
      have g122 : gi τ 122 0 = gi σ 122 0 := by rw [f1 _ _ (by omega)]; exact f8 _ _ (by omega) (by omega)
      have h122 := (Rel_w0 h).2.2.2.2.1
      have hc3 := cnt_in (fun x => decide (gi σ 44 x = 3)) 10
      refine v_rsR_L j u m k (by intros; first | omega | (have z1 := g114 (by omega); have z2 := hfk (by omega); omega) | (unfold rg; omega)) (by intros; first | omega | (have z1 := g114 (by omega); have z2 := hfk (by omega); omega) | (unfold rg; omega)) (by intros; first | omega | (have z1 := g114 (by omega); have z2 := hfk (by omega); omega) | (unfold rg; omega)) (by intros; first | omega | (have z1 := g114 (by omega); have z2 := hfk (by omega); omega) | (unfold rg; omega)) (by intros; first | omega | (have z1 := g114 (by omega); have z2 := hfk (by omega); omega) | (unfold rg; omega)) (by intros; first | omega | (have z1 := g114 (by omega); have z2 := hfk (by omega); omega) | (unfold rg; omega)) (by intros; first | omega | (have z1 := g114 (by omega); have z2 := hfk (by omega); omega) | (unfold rg; omega)) ?_ ?_
      · intro hge t3 e3 t5 e5
        refine ⟨rfl, ?_⟩
        have hkm : (k : Int) = (m : Int) := by omega
        rw [hkm] at f2
        have ho : ∀ x i, x ≠ 118 → ¬ (x = 122 ∧ i = 0) → ¬ (x = 113 ∧ i = u) → gi t5 x i = gi s5 x i := fun x i p p2 p3 => by rw [e5, gi_si, if_neg p3, e3, gi_si, if_neg p2]; exact f1 x i p
        have ho2 : ∀ x i, 86 ≤ x → x ≠ 129 → x ≠ 118 → ¬ (x = 122 ∧ i = 0) → ¬ (x = 113 ∧ i = u) → gi t5 x i = gi σ x i := fun x i a b p p2 p3 => by rw [ho x i p p2 p3]; exact f8 x i a b
        have e4 : ∀ f i, f ≠ 4 → f ≠ 6 → emV (wv σ 40) u f i = wv σ 40 f i := fun f i p q => emV_ne p (fun z => q z.1)
        have hl := fun i => lies_f r7 (u := u) (i := i) hu5
        rw [h6m] at hl
        have hfr : ∀ x i, ¬ hf 0 x i → gi t5 x i = gi s5 x i := fun x i q => by
          by_cases z : x = 118
          · subst z
            have hi : ¬ i < 10 := fun z2 => q (by unfold hf; omega)
            rw [e5, gi_ne (by omega), e3, gi_ne (by omega), f2, if_neg]
            intro z2
            obtain ⟨p, p1, p2, p3⟩ := lies_iff.mp z2
            have z4 := r7.1.2.2.2.1 u p hu5 (by show (p : Int) < gi σ 46 u; omega)
            have z5 : vw σ 5 0 1 = gi σ 5 1 := rfl
            omega
          · exact ho x i z (by unfold hf at q; omega) (by unfold hf at q; omega)
        refine deed_rel h d rm hfr ?_ (WI_em hb r7 hu5) ?_ ?_ ?_ ?_ ?_
        · obtain ⟨w1, w2, w3, w4, w5', w6, w7⟩ := r9
          simp only [Nat.mul_zero, Nat.zero_add] at w2 w3 w4 w5'
          refine ⟨by rw [ho2 _ _ (by omega) (by omega) (by omega) (by omega) (by omega), e4 0 0 (by omega) (by omega)]; exact w1, fun c hc => ?_, fun c hc => ⟨?_, ?_, ?_⟩, fun j hj => ⟨?_, ?_, ?_, ?_⟩, fun i hi => ?_, ?_, ?_⟩
          · rw [ho2 _ _ (by omega) (by omega) (by omega) (by omega) (by omega), e4 _ _ (by omega) (by omega), Nat.mul_zero, Nat.zero_add]; exact w2 c hc
          · rw [ho2 _ _ (by omega) (by omega) (by omega) (by omega) (by omega), e4 _ _ (by omega) (by omega), Nat.mul_zero, Nat.zero_add]; exact (w3 c hc).1
          · rw [ho2 _ _ (by omega) (by omega) (by omega) (by omega) (by omega), e4 _ _ (by omega) (by omega), Nat.mul_zero, Nat.zero_add]; exact (w3 c hc).2.1
          · rw [Nat.mul_zero, Nat.zero_add, e5, gi_ne (by omega), e3, gi_ne (by omega), f2, emV_4, h6m, f8 _ _ (by omega) (by omega), (w3 c hc).2.2]
          · rw [ho2 _ _ (by omega) (by omega) (by omega) (by omega) (by omega), e4 _ _ (by omega) (by omega), Nat.mul_zero, Nat.zero_add]; exact (w4 j hj).1
          · rw [ho2 _ _ (by omega) (by omega) (by omega) (by omega) (by omega), e4 _ _ (by omega) (by omega), Nat.mul_zero, Nat.zero_add]; exact (w4 j hj).2.1
          · rw [Nat.mul_zero, Nat.zero_add, emV_6, e5, gi_si]
            by_cases z : j = u
            · rw [if_pos ⟨rfl, z⟩, if_pos z]
            · rw [if_neg (fun w => z w.2), if_neg z, e3, gi_ne (by omega), f1 _ _ (by omega), f8 _ _ (by omega) (by omega)]; exact (w4 j hj).2.2.1
          · rw [ho2 _ _ (by omega) (by omega) (by omega) (by omega) (by omega), e4 _ _ (by omega) (by omega), Nat.mul_zero, Nat.zero_add]; exact (w4 j hj).2.2.2
          · rw [ho2 _ _ (by omega) (by omega) (by omega) (by omega) (by omega), e4 _ _ (by omega) (by omega), Nat.mul_zero, Nat.zero_add]; exact w5' i hi
          · rw [ho2 _ _ (by omega) (by omega) (by omega) (by omega) (by omega), w6]
            refine cnt_congr fun q _ => ?_
            rw [emV_4, h6m]
            cases z : lies (wv σ 40) u (m : Int) q with
            | true => rw [if_pos rfl, hl q z]; rfl
            | false => rw [if_neg (by decide)]
          · rw [e5, gi_ne (by omega), e3, gi_si, if_pos ⟨rfl, rfl⟩, g122, w7, ← hln]
            unfold cnt
            rw [← sumF_add]
            refine sumF_congr fun q _ => ?_
            show b2i (decide (wv σ 40 4 q = 3)) + b2i (lies (wv σ 40) u (m : Int) q) = b2i (decide (emV (wv σ 40) u 4 q = 3))
            rw [emV_4, h6m]
            cases z : lies (wv σ 40) u (m : Int) q with
            | true => rw [if_pos rfl, hl q z]; rfl
            | false => rw [if_neg (by decide)]; simp [b2i]
        · intro c hc hd
          rw [e4 0 0 (by omega) (by omega)] at hd
          rw [e4 3 c (by omega) (by omega)]
          exact r8 c hc hd
        · funext f i
          unfold tbV
          rw [if_neg (by omega), if_neg (by omega), if_pos rfl]
          have hlc : ∀ i, lies (emV (wv σ 40) u) u (m : Int) i = lies (wv σ 40) u (m : Int) i := fun i => lies_c (fun p _ => e4 7 _ (by omega) (by omega)) _ _
          simp only [Int.toNat_natCast, hlc]
          by_cases q6 : f = 6 ∧ i = u
          · rw [if_pos q6, q6.1, q6.2]; exact h6m.symm
          · rw [if_neg q6]
            by_cases q4 : f = 4
            · subst q4
              cases z : lies (wv σ 40) u (m : Int) i with
              | true => rw [if_pos ⟨rfl, rfl⟩, hl i z]
              | false => rw [if_neg (fun w => Bool.noConfusion w.2), emV_4, h6m, z, if_neg (by decide)]
            · rw [if_neg (fun w => q4 w.1), emV_ne q4 q6]
        · refine Or.inr (Or.inr (Or.inl ⟨rfl, ⟨by omega, by show (u : Int) < gi σ 5 0; omega⟩, by omega, fun p hp => ?_, fun i hi hli => ?_⟩))
          · rw [Int.toNat_natCast, e4 7 _ (by omega) (by omega)]
            exact r7.1.2.2.2.1 u p hu5 (by show (p : Int) < gi σ 46 u; omega)
          · rw [Int.toNat_natCast, lies_c (V' := wv σ 40) (fun p _ => e4 7 _ (by omega) (by omega))] at hli
            rw [emV_4, h6m, if_pos hli]
        · exact e4 0 0 (by omega) (by omega)
        · intro i; exact e4 8 i (by omega) (by omega)
      · intro hlt t10 e10
        have z1 := g114 (by omega)
        have z2 := hfk (by omega)
        refine R_eq (ih (by omega) t10 (fun x i p => ?_) (fun i => ?_)) rfl
        · rw [e10, gi_ne p]; exact f1 x i p
        · rw [e10, gi_si, f2 i, z1, show ((k + 1 : Nat) : Int) = (k : Int) + 1 from rfl, lies_s (by omega)]
          have e : wv σ 40 7 (u * 8 + k) = gi σ 47 (u * 8 + k) := rfl
          rw [e]
          by_cases w : i = (gi σ 47 (u * 8 + k)).toNat
          · rw [if_pos ⟨rfl, w⟩, decide_eq_true (show gi σ 47 (u * 8 + k) = (i : Int) by omega), Bool.or_true, if_pos rfl]
          · rw [if_neg (fun h => w h.2), decide_eq_false (show ¬ gi σ 47 (u * 8 + k) = (i : Int) by omega), Bool.or_false]
  have hsz : ∀ u : Nat, (0 ≤ j ∧ j < gi σ 5 0) → (u : Int) = gi σ 45 j.toNat → (0 ≤ gi σ 46 u ∧ gi σ 46 u ≤ 8) ∧ ∀ p : Nat, (p : Int) < gi σ 46 u → 0 ≤ gi σ 47 (u * 8 + p) ∧ gi σ 47 (u * 8 + p) < 10 := fun u h1 hu => by
    have q1 := hj (by omega)
    refine ⟨(Rel_w5 h (by omega)).2.2.2.2.1, fun p hp => ?_⟩
    have := r7.1.2.2.2.1 u p (by omega) hp
    have : 0 ≤ gi σ 47 (u * 8 + p) ∧ gi σ 47 (u * 8 + p) < gi σ 5 1 := this
    omega
  have hsz' : (0 ≤ j ∧ j < gi σ 5 0) → (0 ≤ gi σ 46 (gi σ 45 j.toNat).toNat ∧ gi σ 46 (gi σ 45 j.toNat).toNat ≤ 8) ∧ ∀ p : Nat, (p : Int) < gi σ 46 (gi σ 45 j.toNat).toNat → 0 ≤ gi σ 47 ((gi σ 45 j.toNat).toNat * 8 + p) ∧ gi σ 47 ((gi σ 45 j.toNat).toNat * 8 + p) < 10 := fun h1 => hsz _ h1 (by have q1 := hj (by omega); omega)
  have e71 : ∀ s8 u i, Em σ s8 u → gi s8 71 i = gi σ 71 i := fun s8 u i e => e.1 71 i (by omega) (by omega)
  refine v_rs j (by intros; subst_vars; first | omega | (have q1 := hj (by omega); omega) | exact (hsz' (by omega)).1 | exact (hsz' (by omega)).2 _ (by assumption) | (have z3 := e71 _ _ 3 ‹_›; have z4 := e71 _ _ 4 ‹_›; omega) | (have z3 := e71 _ _ 3 ‹_›; have z4 := e71 _ _ 4 ‹_›; unfold rg; omega)) (by intros; subst_vars; first | omega | (have q1 := hj (by omega); omega) | exact (hsz' (by omega)).1 | exact (hsz' (by omega)).2 _ (by assumption) | (have z3 := e71 _ _ 3 ‹_›; have z4 := e71 _ _ 4 ‹_›; omega) | (have z3 := e71 _ _ 3 ‹_›; have z4 := e71 _ _ 4 ‹_›; unfold rg; omega)) (by intros; subst_vars; first | omega | (have q1 := hj (by omega); omega) | exact (hsz' (by omega)).1 | exact (hsz' (by omega)).2 _ (by assumption) | (have z3 := e71 _ _ 3 ‹_›; have z4 := e71 _ _ 4 ‹_›; omega) | (have z3 := e71 _ _ 3 ‹_›; have z4 := e71 _ _ 4 ‹_›; unfold rg; omega)) (by intros; subst_vars; first | omega | (have q1 := hj (by omega); omega) | exact (hsz' (by omega)).1 | exact (hsz' (by omega)).2 _ (by assumption) | (have z3 := e71 _ _ 3 ‹_›; have z4 := e71 _ _ 4 ‹_›; omega) | (have z3 := e71 _ _ 3 ‹_›; have z4 := e71 _ _ 4 ‹_›; unfold rg; omega)) (by intros; subst_vars; first | omega | (have q1 := hj (by omega); omega) | exact (hsz' (by omega)).1 | exact (hsz' (by omega)).2 _ (by assumption) | (have z3 := e71 _ _ 3 ‹_›; have z4 := e71 _ _ 4 ‹_›; omega) | (have z3 := e71 _ _ 3 ‹_›; have z4 := e71 _ _ 4 ‹_›; unfold rg; omega)) (by intros; subst_vars; first | omega | (have q1 := hj (by omega); omega) | exact (hsz' (by omega)).1 | exact (hsz' (by omega)).2 _ (by assumption) | (have z3 := e71 _ _ 3 ‹_›; have z4 := e71 _ _ 4 ‹_›; omega) | (have z3 := e71 _ _ 3 ‹_›; have z4 := e71 _ _ 4 ‹_›; unfold rg; omega)) (by intros; subst_vars; first | omega | (have q1 := hj (by omega); omega) | exact (hsz' (by omega)).1 | exact (hsz' (by omega)).2 _ (by assumption) | (have z3 := e71 _ _ 3 ‹_›; have z4 := e71 _ _ 4 ‹_›; omega) | (have z3 := e71 _ _ 3 ‹_›; have z4 := e71 _ _ 4 ‹_›; unfold rg; omega)) (by intros; subst_vars; first | omega | (have q1 := hj (by omega); omega) | exact (hsz' (by omega)).1 | exact (hsz' (by omega)).2 _ (by assumption) | (have z3 := e71 _ _ 3 ‹_›; have z4 := e71 _ _ 4 ‹_›; omega) | (have z3 := e71 _ _ 3 ‹_›; have z4 := e71 _ _ 4 ‹_›; unfold rg; omega)) (by intros; subst_vars; first | omega | (have q1 := hj (by omega); omega) | exact (hsz' (by omega)).1 | exact (hsz' (by omega)).2 _ (by assumption) | (have z3 := e71 _ _ 3 ‹_›; have z4 := e71 _ _ 4 ‹_›; omega) | (have z3 := e71 _ _ 3 ‹_›; have z4 := e71 _ _ 4 ‹_›; unfold rg; omega)) (by intros; subst_vars; first | omega | (have q1 := hj (by omega); omega) | exact (hsz' (by omega)).1 | exact (hsz' (by omega)).2 _ (by assumption) | (have z3 := e71 _ _ 3 ‹_›; have z4 := e71 _ _ 4 ‹_›; omega) | (have z3 := e71 _ _ 3 ‹_›; have z4 := e71 _ _ 4 ‹_›; unfold rg; omega)) ?_ ?_ ?_ ?_
  · intros; exact hno (by omega)
  · intros; exact hno (by omega)
  all_goals
    intro h1 h2 x4 e4 x6 e6 s8 em x12 e12 t14 e14 t15 e15 t16 e16 hroom t20 e20
    have q1 := hj (by omega)
    obtain ⟨u, hu⟩ : ∃ u : Nat, x4 = (u : Int) := ⟨x4.toNat, by omega⟩
    have hs := hsz u ⟨h1, h2⟩ (by omega)
    rw [hu, Int.toNat_natCast] at em e6
    obtain ⟨m, hm⟩ : ∃ m : Nat, x6 = (m : Int) := ⟨x6.toNat, by omega⟩
    rw [hm] at e16 ⊢
    rw [hu] at e15
    have p1 : ∀ a i, ¬ (40 ≤ a ∧ a ≤ 48) → gi s8 a i = gi σ a i := fun a i p => em.1 a i (by omega) (by omega)
    rw [p1 71 3 (by omega), p1 71 4 (by omega)] at e12
    rw [p1 71 4 (by omega)] at hroom
    first
    | (rw [p1 71 3 (by omega)] at e20
       have dd := De_full p1 e12 e14 e15 e16 hroom e20
       rw [Em_wv em] at dd
       exact hyes t20 u m ⟨h1, h2⟩ (by omega) (by omega) dd)
    | (rw [p1 71 4 (by omega)] at e20
       have dd := De_room p1 e12 e14 e15 e16 hroom e20
       rw [Em_wv em] at dd
       exact hyes t20 u m ⟨h1, h2⟩ (by omega) (by omega) dd)
