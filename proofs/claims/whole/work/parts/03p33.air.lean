/-! A CUSHION AIRED -/
def tellV (T V : Nat → Nat → Int) (x : Nat) (p : Int) : Nat → Nat → Int := fun f i =>
  if f = 8 then (if (i : Int) < T 0 2 ∧ bi (T 9 i) ((V 0 0) % 7).toNat = true ∧ p ≤ T 10 i then oor (V 8 i) (oshl 1 (x : Int)) else V 8 i) else V f i
def stepA (T V : Nat → Nat → Int) (u p : Nat) : Nat → Nat → Int := fun f i =>
  if f = 4 then (if i = (V 7 (u * 8 + p)).toNat then 2 else V 4 i) else tellV T V (V 7 (u * 8 + p)).toNat (p : Int) f i
def airN (T V : Nat → Nat → Int) (u : Nat) : Nat → (Nat → Nat → Int)
  | 0 => V
  | m + 1 => stepA T (airN T V u m) u ((V 6 u).toNat - 1 - m)
def airU (T V : Nat → Nat → Int) (u m : Nat) : Nat → Nat → Int := fun f i => if f = 6 then (if i = u then V 6 u - (m : Int) else V 6 i) else airN T V u m f i
theorem stepA_other {T V : Nat → Nat → Int} {u p f : Nat} (h4 : f ≠ 4) (h8 : f ≠ 8) : stepA T V u p f = V f := by
  funext i; simp only [stepA, if_neg h4, tellV, if_neg h8]
theorem airN_other {T V : Nat → Nat → Int} {u f : Nat} (h4 : f ≠ 4) (h8 : f ≠ 8) : ∀ m, airN T V u m f = V f := by
  intro m
  induction m with
  | zero => rfl
  | succ m ih => show stepA T (airN T V u m) u _ f = _; rw [stepA_other h4 h8, ih]
theorem wv_at {σ : Mm} {W f i : Nat} (h : f ≤ 8) : wv σ W f i = gi σ (W + f) i := by simp only [wv, if_pos h]
theorem wv_no {σ : Mm} {W f i : Nat} (h : 8 < f) : wv σ W f i = 0 := by simp only [wv, if_neg (show ¬ f ≤ 8 by omega)]
theorem v_tell_40_0 {n : Nat}  (x : Nat) (p : Int) {σ : Mm} {P : Mm → Prop} (o1 : (0 ≤ (gi σ 40 0) ∧ 0 < (7 : Int))) (l1 : ∀ x2 : Int, x2 = oshl (1 : Int) ((gi σ 40 0) % (7 : Int)) → R 79 14 [some (vr 70), some (vr 40), some (vi (x : Int)), some (vi p), some (vi x2), some (vi 0)] [] (shF n) 0 0 σ (Qv (shF n) P)) : Cv 79 [vr 70, vr 40, vi (x : Int), vi p] (shF n) σ P :=
  show R 79 0 [some (vr 70), some (vr 40), some (vi (x : Int)), some (vi p), none, none] [] (shF n) 0 0 σ (Qv (shF n) P) from wpK_R 10 [14] ((have k1 := (o1); And.intro k1 ((l1 _ rfl))))
theorem v_tell_40_14 {n : Nat}  (x : Nat) (p : Int) (td : Int) (i : Nat) {σ : Mm} {P : Mm → Prop} (o1 : (i : Int) < (gi σ 5 2) → (0 ≤ (i : Int) ∧ (i : Int) < 5)) (o2 : (i : Int) < (gi σ 5 2) → (oand (gi σ 14 i) td) = (0 : Int) → rg ((i : Int) + 1)) (o3 : (i : Int) < (gi σ 5 2) → (oand (gi σ 14 i) td) ≠ (0 : Int) → (gi σ 15 i) < p → rg ((i : Int) + 1)) (o4 : (i : Int) < (gi σ 5 2) → (oand (gi σ 14 i) td) ≠ (0 : Int) → p ≤ (gi σ 15 i) → ∀ t7 : Mm, t7 = si σ 48 i (oor (gi σ 48 i) (oshl (1 : Int) (x : Int))) → rg ((i : Int) + 1)) (l1 : (gi σ 5 2) ≤ (i : Int) → P σ) (l2 : (i : Int) < (gi σ 5 2) → (oand (gi σ 14 i) td) = (0 : Int) → R 79 14 [some (vr 70), some (vr 40), some (vi (x : Int)), some (vi p), some (vi td), some (vi ((i : Int) + 1))] [] (shF n) 0 0 σ (Qv (shF n) P)) (l3 : (i : Int) < (gi σ 5 2) → (oand (gi σ 14 i) td) ≠ (0 : Int) → (gi σ 15 i) < p → R 79 14 [some (vr 70), some (vr 40), some (vi (x : Int)), some (vi p), some (vi td), some (vi ((i : Int) + 1))] [] (shF n) 0 0 σ (Qv (shF n) P)) (l4 : (i : Int) < (gi σ 5 2) → (oand (gi σ 14 i) td) ≠ (0 : Int) → p ≤ (gi σ 15 i) → ∀ t7 : Mm, t7 = si σ 48 i (oor (gi σ 48 i) (oshl (1 : Int) (x : Int))) → R 79 14 [some (vr 70), some (vr 40), some (vi (x : Int)), some (vi p), some (vi td), some (vi ((i : Int) + 1))] [] (shF n) 0 0 t7 (Qv (shF n) P)) : R 79 14 [some (vr 70), some (vr 40), some (vi (x : Int)), some (vi p), some (vi td), some (vi (i : Int))] [] (shF n) 0 0 σ (Qv (shF n) P) :=
  wpK_R 33 [14] (And.intro (fun q1 => And.intro ret0 ⟨rfl, rfl, (l1 q1)⟩) (fun q1 => (have k2 := (o1 (Int.not_le.mp q1)); And.intro k2 (And.intro (fun q3 => (have k4 := (o2 (Int.not_le.mp q1) q3); And.intro k4 ((l2 (Int.not_le.mp q1) q3)))) (fun q3 => And.intro k2 (And.intro (fun q5 => (have k6 := (o3 (Int.not_le.mp q1) q3 q5); And.intro k6 ((l3 (Int.not_le.mp q1) q3 q5)))) (fun q5 => And.intro k2 (And.intro k2 ((have k8 := (o4 (Int.not_le.mp q1) q3 (Int.not_lt.mp q5) _ rfl); And.intro k8 ((l4 (Int.not_le.mp q1) q3 (Int.not_lt.mp q5) _ rfl))))))))))))
theorem c_tell_40 {n : Nat} {x p : Int} {σ : Mm} {P : Mm → Prop} (hx : 0 ≤ x ∧ x < 10) (hd : 0 ≤ gi σ 40 0) (hK : gi σ 5 2 ≤ 5)
    (hP : ∀ σ', Wf 40 σ σ' (tellV (vw σ 5) (wv σ 40) x.toNat p) → P σ') : Cv 79 [vr 70, vr 40, vi x, vi p] (shF n) σ P := by
  obtain ⟨x, rfl⟩ := Int.eq_ofNat_of_zero_le hx.1
  obtain ⟨d, hdd⟩ := Int.eq_ofNat_of_zero_le hd
  simp only [Int.toNat_natCast] at hP
  refine v_tell_40_0 x p (by intros; first | omega | (unfold rg; omega) | (subst_vars; simp only [gi_si, gi_sl, gl_si, gl_sl]; first | omega | (unfold rg; omega))) ?_
  intro td htd
  have e7 : ((gi σ 40 0) % 7) = ((d % 7 : Nat) : Int) := by rw [hdd]; rfl
  rw [e7] at htd
  refine loopUp (N := (gi σ 5 2).toNat) (I := fun k => ∀ τ : Mm, τ.2 = σ.2 → (∀ a b, a ≠ 48 → gi τ a b = gi σ a b) → (∀ b, gi τ 48 b = if b < k ∧ ((b : Int) < gi σ 5 2 ∧ bi (gi σ 14 b) (d % 7) = true ∧ p ≤ gi σ 15 b) then oor (gi σ 48 b) (oshl 1 (x : Int)) else gi σ 48 b) → R 79 14 [some (vr 70), some (vr 40), some (vi (x : Int)), some (vi p), some (vi td), some (vi (k : Int))] [] (shF n) 0 0 τ (Qv (shF n) P)) (fun k hk ih => ?_) 0 (by omega) σ rfl (fun _ _ _ => rfl) (fun b => by rw [if_neg (by omega)])
  intro τ e1 e2 e3
  have g5 := e2 5 2 (by omega)
  have g14 := e2 14 k (by omega)
  have g15 := e2 15 k (by omega)
  have hb := and_bit (a := gi σ 14 k) (n := d % 7) (by omega)
  rw [← htd] at hb
  refine v_tell_40_14 x p td k (by intros; first | omega | (unfold rg; omega) | (subst_vars; simp only [gi_si, gi_sl, gl_si, gl_sl]; first | omega | (unfold rg; omega))) (by intros; first | omega | (unfold rg; omega) | (subst_vars; simp only [gi_si, gi_sl, gl_si, gl_sl]; first | omega | (unfold rg; omega))) (by intros; first | omega | (unfold rg; omega) | (subst_vars; simp only [gi_si, gi_sl, gl_si, gl_sl]; first | omega | (unfold rg; omega))) (by intros; first | omega | (unfold rg; omega) | (subst_vars; simp only [gi_si, gi_sl, gl_si, gl_sl]; first | omega | (unfold rg; omega))) ?_ ?_ ?_ ?_
  · intro _
    refine hP τ ⟨e1, fun a b h => e2 a b (by omega), ?_⟩
    funext f b
    simp only [tellV]
    rcases Nat.lt_or_ge 8 f with hf | hf
    · rw [wv_no hf, if_neg (by omega), wv_no hf]
    · rw [wv_at hf]
      split
      · rename_i h8
        subst h8
        rw [show 40 + 8 = 48 from rfl, e3]
        simp only [wv, vw]
        simp only [show (0 : Nat) ≤ 8 from by omega, show (8 : Nat) ≤ 8 from by omega, if_true, Nat.add_zero, hdd]
        have hk2 : b < k ∧ (b : Int) < gi σ 5 2 ↔ (b : Int) < gi σ 5 2 := by omega
        have e9 : ((d : Int) % 7).toNat = d % 7 := by omega
        rw [e9]
        by_cases hb5 : (b : Int) < gi σ 5 2
        · have hbk : b < k := by omega
          simp [hb5, hbk]
        · simp [hb5]
      · rw [wv_at hf, e2 _ _ (by omega)]
  · intro h1 h2
    refine ih (by omega) τ e1 e2 (fun b => ?_)
    rw [e3]
    by_cases hbk : b = k
    · subst hbk
      rw [g14] at h2
      have := hb.mp h2
      rw [if_neg (by omega), if_neg (by rw [this]; simp)]
    · have : b < k ↔ b < k + 1 := by omega
      simp only [this]
  · intro h1 h2 h3
    refine ih (by omega) τ e1 e2 (fun b => ?_)
    rw [e3]
    by_cases hbk : b = k
    · subst hbk
      rw [if_neg (by omega), if_neg (by omega)]
    · have : b < k ↔ b < k + 1 := by omega
      simp only [this]
  · intro h1 h2 h3 t ht
    refine ih (by omega) t (by rw [ht]; exact e1) (fun a b h => by rw [ht, gi_ne h]; exact e2 a b h) (fun b => ?_)
    rw [ht, gi_same, e3, e3]
    rw [g14] at h2
    rw [g15] at h3
    rw [g5] at h1
    by_cases hbk : b = k
    · subst hbk
      have : bi (gi σ 14 b) (d % 7) = true := by
        cases hq : bi (gi σ 14 b) (d % 7) with
        | true => rfl
        | false => exact absurd (hb.mpr hq) h2
      rw [if_pos rfl, if_neg (by omega), if_pos ⟨by omega, h1, this, h3⟩]
    · have : b < k ↔ b < k + 1 := by omega
      simp only [this, if_neg hbk]
theorem v_tell_49_0 {n : Nat}  (x : Nat) (p : Int) {σ : Mm} {P : Mm → Prop} (o1 : (0 ≤ (gi σ 49 0) ∧ 0 < (7 : Int))) (l1 : ∀ x2 : Int, x2 = oshl (1 : Int) ((gi σ 49 0) % (7 : Int)) → R 79 14 [some (vr 70), some (vr 49), some (vi (x : Int)), some (vi p), some (vi x2), some (vi 0)] [] (shF n) 0 0 σ (Qv (shF n) P)) : Cv 79 [vr 70, vr 49, vi (x : Int), vi p] (shF n) σ P :=
  show R 79 0 [some (vr 70), some (vr 49), some (vi (x : Int)), some (vi p), none, none] [] (shF n) 0 0 σ (Qv (shF n) P) from wpK_R 10 [14] ((have k1 := (o1); And.intro k1 ((l1 _ rfl))))
theorem v_tell_49_14 {n : Nat}  (x : Nat) (p : Int) (td : Int) (i : Nat) {σ : Mm} {P : Mm → Prop} (o1 : (i : Int) < (gi σ 5 2) → (0 ≤ (i : Int) ∧ (i : Int) < 5)) (o2 : (i : Int) < (gi σ 5 2) → (oand (gi σ 14 i) td) = (0 : Int) → rg ((i : Int) + 1)) (o3 : (i : Int) < (gi σ 5 2) → (oand (gi σ 14 i) td) ≠ (0 : Int) → (gi σ 15 i) < p → rg ((i : Int) + 1)) (o4 : (i : Int) < (gi σ 5 2) → (oand (gi σ 14 i) td) ≠ (0 : Int) → p ≤ (gi σ 15 i) → ∀ t7 : Mm, t7 = si σ 57 i (oor (gi σ 57 i) (oshl (1 : Int) (x : Int))) → rg ((i : Int) + 1)) (l1 : (gi σ 5 2) ≤ (i : Int) → P σ) (l2 : (i : Int) < (gi σ 5 2) → (oand (gi σ 14 i) td) = (0 : Int) → R 79 14 [some (vr 70), some (vr 49), some (vi (x : Int)), some (vi p), some (vi td), some (vi ((i : Int) + 1))] [] (shF n) 0 0 σ (Qv (shF n) P)) (l3 : (i : Int) < (gi σ 5 2) → (oand (gi σ 14 i) td) ≠ (0 : Int) → (gi σ 15 i) < p → R 79 14 [some (vr 70), some (vr 49), some (vi (x : Int)), some (vi p), some (vi td), some (vi ((i : Int) + 1))] [] (shF n) 0 0 σ (Qv (shF n) P)) (l4 : (i : Int) < (gi σ 5 2) → (oand (gi σ 14 i) td) ≠ (0 : Int) → p ≤ (gi σ 15 i) → ∀ t7 : Mm, t7 = si σ 57 i (oor (gi σ 57 i) (oshl (1 : Int) (x : Int))) → R 79 14 [some (vr 70), some (vr 49), some (vi (x : Int)), some (vi p), some (vi td), some (vi ((i : Int) + 1))] [] (shF n) 0 0 t7 (Qv (shF n) P)) : R 79 14 [some (vr 70), some (vr 49), some (vi (x : Int)), some (vi p), some (vi td), some (vi (i : Int))] [] (shF n) 0 0 σ (Qv (shF n) P) :=
  wpK_R 33 [14] (And.intro (fun q1 => And.intro ret0 ⟨rfl, rfl, (l1 q1)⟩) (fun q1 => (have k2 := (o1 (Int.not_le.mp q1)); And.intro k2 (And.intro (fun q3 => (have k4 := (o2 (Int.not_le.mp q1) q3); And.intro k4 ((l2 (Int.not_le.mp q1) q3)))) (fun q3 => And.intro k2 (And.intro (fun q5 => (have k6 := (o3 (Int.not_le.mp q1) q3 q5); And.intro k6 ((l3 (Int.not_le.mp q1) q3 q5)))) (fun q5 => And.intro k2 (And.intro k2 ((have k8 := (o4 (Int.not_le.mp q1) q3 (Int.not_lt.mp q5) _ rfl); And.intro k8 ((l4 (Int.not_le.mp q1) q3 (Int.not_lt.mp q5) _ rfl))))))))))))
theorem c_tell_49 {n : Nat} {x p : Int} {σ : Mm} {P : Mm → Prop} (hx : 0 ≤ x ∧ x < 10) (hd : 0 ≤ gi σ 49 0) (hK : gi σ 5 2 ≤ 5)
    (hP : ∀ σ', Wf 49 σ σ' (tellV (vw σ 5) (wv σ 49) x.toNat p) → P σ') : Cv 79 [vr 70, vr 49, vi x, vi p] (shF n) σ P := by
  obtain ⟨x, rfl⟩ := Int.eq_ofNat_of_zero_le hx.1
  obtain ⟨d, hdd⟩ := Int.eq_ofNat_of_zero_le hd
  simp only [Int.toNat_natCast] at hP
  refine v_tell_49_0 x p (by intros; first | omega | (unfold rg; omega) | (subst_vars; simp only [gi_si, gi_sl, gl_si, gl_sl]; first | omega | (unfold rg; omega))) ?_
  intro td htd
  have e7 : ((gi σ 49 0) % 7) = ((d % 7 : Nat) : Int) := by rw [hdd]; rfl
  rw [e7] at htd
  refine loopUp (N := (gi σ 5 2).toNat) (I := fun k => ∀ τ : Mm, τ.2 = σ.2 → (∀ a b, a ≠ 57 → gi τ a b = gi σ a b) → (∀ b, gi τ 57 b = if b < k ∧ ((b : Int) < gi σ 5 2 ∧ bi (gi σ 14 b) (d % 7) = true ∧ p ≤ gi σ 15 b) then oor (gi σ 57 b) (oshl 1 (x : Int)) else gi σ 57 b) → R 79 14 [some (vr 70), some (vr 49), some (vi (x : Int)), some (vi p), some (vi td), some (vi (k : Int))] [] (shF n) 0 0 τ (Qv (shF n) P)) (fun k hk ih => ?_) 0 (by omega) σ rfl (fun _ _ _ => rfl) (fun b => by rw [if_neg (by omega)])
  intro τ e1 e2 e3
  have g5 := e2 5 2 (by omega)
  have g14 := e2 14 k (by omega)
  have g15 := e2 15 k (by omega)
  have hb := and_bit (a := gi σ 14 k) (n := d % 7) (by omega)
  rw [← htd] at hb
  refine v_tell_49_14 x p td k (by intros; first | omega | (unfold rg; omega) | (subst_vars; simp only [gi_si, gi_sl, gl_si, gl_sl]; first | omega | (unfold rg; omega))) (by intros; first | omega | (unfold rg; omega) | (subst_vars; simp only [gi_si, gi_sl, gl_si, gl_sl]; first | omega | (unfold rg; omega))) (by intros; first | omega | (unfold rg; omega) | (subst_vars; simp only [gi_si, gi_sl, gl_si, gl_sl]; first | omega | (unfold rg; omega))) (by intros; first | omega | (unfold rg; omega) | (subst_vars; simp only [gi_si, gi_sl, gl_si, gl_sl]; first | omega | (unfold rg; omega))) ?_ ?_ ?_ ?_
  · intro _
    refine hP τ ⟨e1, fun a b h => e2 a b (by omega), ?_⟩
    funext f b
    simp only [tellV]
    rcases Nat.lt_or_ge 8 f with hf | hf
    · rw [wv_no hf, if_neg (by omega), wv_no hf]
    · rw [wv_at hf]
      split
      · rename_i h8
        subst h8
        rw [show 49 + 8 = 57 from rfl, e3]
        simp only [wv, vw]
        simp only [show (0 : Nat) ≤ 8 from by omega, show (8 : Nat) ≤ 8 from by omega, if_true, Nat.add_zero, hdd]
        have hk2 : b < k ∧ (b : Int) < gi σ 5 2 ↔ (b : Int) < gi σ 5 2 := by omega
        have e9 : ((d : Int) % 7).toNat = d % 7 := by omega
        rw [e9]
        by_cases hb5 : (b : Int) < gi σ 5 2
        · have hbk : b < k := by omega
          simp [hb5, hbk]
        · simp [hb5]
      · rw [wv_at hf, e2 _ _ (by omega)]
  · intro h1 h2
    refine ih (by omega) τ e1 e2 (fun b => ?_)
    rw [e3]
    by_cases hbk : b = k
    · subst hbk
      rw [g14] at h2
      have := hb.mp h2
      rw [if_neg (by omega), if_neg (by rw [this]; simp)]
    · have : b < k ↔ b < k + 1 := by omega
      simp only [this]
  · intro h1 h2 h3
    refine ih (by omega) τ e1 e2 (fun b => ?_)
    rw [e3]
    by_cases hbk : b = k
    · subst hbk
      rw [if_neg (by omega), if_neg (by omega)]
    · have : b < k ↔ b < k + 1 := by omega
      simp only [this]
  · intro h1 h2 h3 t ht
    refine ih (by omega) t (by rw [ht]; exact e1) (fun a b h => by rw [ht, gi_ne h]; exact e2 a b h) (fun b => ?_)
    rw [ht, gi_same, e3, e3]
    rw [g14] at h2
    rw [g15] at h3
    rw [g5] at h1
    by_cases hbk : b = k
    · subst hbk
      have : bi (gi σ 14 b) (d % 7) = true := by
        cases hq : bi (gi σ 14 b) (d % 7) with
        | true => rfl
        | false => exact absurd (hb.mpr hq) h2
      rw [if_pos rfl, if_neg (by omega), if_pos ⟨by omega, h1, this, h3⟩]
    · have : b < k ↔ b < k + 1 := by omega
      simp only [this, if_neg hbk]
theorem wv_si {τ : Mm} {W g k x : Nat} {v : Int} (hk : k = W + g) (hg : g ≤ 8) : wv (si τ k x v) W = fun f b => if f = g ∧ b = x then v else wv τ W f b := by
  subst hk
  funext f b
  rcases Nat.lt_or_ge 8 f with hf | hf
  · rw [wv_no hf, wv_no hf, if_neg (by omega)]
  · rw [wv_at hf, wv_at hf, gi_si]
    by_cases h : f = g ∧ b = x
    · rw [if_pos (by omega), if_pos h]
    · rw [if_neg (by omega), if_neg h]
theorem wv_eq {σ τ : Mm} {W : Nat} (h : ∀ f b, f ≤ 8 → gi τ (W + f) b = gi σ (W + f) b) : wv τ W = wv σ W := by
  funext f b
  rcases Nat.lt_or_ge 8 f with hf | hf
  · rw [wv_no hf, wv_no hf]
  · rw [wv_at hf, wv_at hf, h f b hf]
theorem rg_fly {s : Int} {T : Nat → Nat → Int} {nm : Nat → Int} {b : Int} (hs : 0 ≤ s ∧ s ≤ 8) : rg (s - flyS T nm b) := by have := flyS_in T nm b; unfold rg; omega
/-- how many feathers get out of cushion u, which judge j has -/
def outN (T V : Nat → Nat → Int) (mo bt : Int) (j u : Nat) : Nat :=
  let fl := flyS T (nmF (T 2 j) (T 3 j) (V 6 u) mo (V 0 0)) bt
  (if V 6 u < fl then V 6 u else fl).toNat
theorem v_air_40_0 {n : Nat}  (j : Nat) (mo : Int) {σ : Mm} {P : Mm → Prop} (o1 : (0 ≤ (j : Int) ∧ (j : Int) < 5)) (o2 : ∀ x2 : Int, x2 = gi σ 45 j → (0 ≤ (gi σ 45 j) ∧ (gi σ 45 j) < 5)) (o3 : ∀ x2 : Int, x2 = gi σ 45 j → ∀ x4 : Int, x4 = gi σ 46 (gi σ 45 j).toNat → (0 ≤ (gi σ 7 j) ∧ (gi σ 7 j) ≤ 99)) (o4 : ∀ x2 : Int, x2 = gi σ 45 j → ∀ x4 : Int, x4 = gi σ 46 (gi σ 45 j).toNat → (0 ≤ (0 : Int) ∧ (0 : Int) ≤ 99)) (o5 : ∀ x2 : Int, x2 = gi σ 45 j → ∀ x4 : Int, x4 = gi σ 46 (gi σ 45 j).toNat → ∀ s6 : Mm, Se σ s6 (nmZ (gi σ 7 j) (gi σ 8 j) (0 : Int) x4 mo (gi σ 40 0)) → ∀ t8 : Mm, t8 = si s6 68 5 (0 : Int) → (0 ≤ x2 ∧ x2 < 5)) (o6 : ∀ x2 : Int, x2 = gi σ 45 j → ∀ x4 : Int, x4 = gi σ 46 (gi σ 45 j).toNat → ∀ s6 : Mm, Se σ s6 (nmZ (gi σ 7 j) (gi σ 8 j) (0 : Int) x4 mo (gi σ 40 0)) → ∀ t8 : Mm, t8 = si s6 68 5 (0 : Int) → LwOK t8) (o7 : ∀ x2 : Int, x2 = gi σ 45 j → ∀ x4 : Int, x4 = gi σ 46 (gi σ 45 j).toNat → ∀ s6 : Mm, Se σ s6 (nmZ (gi σ 7 j) (gi σ 8 j) (0 : Int) x4 mo (gi σ 40 0)) → ∀ t8 : Mm, t8 = si s6 68 5 (0 : Int) → (0 ≤ (gi s6 70 3) ∧ (gi s6 70 3) ≤ 9)) (o8 : ∀ x2 : Int, x2 = gi σ 45 j → ∀ x4 : Int, x4 = gi σ 46 (gi σ 45 j).toNat → ∀ s6 : Mm, Se σ s6 (nmZ (gi σ 7 j) (gi σ 8 j) (0 : Int) x4 mo (gi σ 40 0)) → ∀ t8 : Mm, t8 = si s6 68 5 (0 : Int) → (0 ≤ gi t8 68 4 ∧ gi t8 68 4 ≤ 9)) (o9 : ∀ x2 : Int, x2 = gi σ 45 j → ∀ x4 : Int, x4 = gi σ 46 (gi σ 45 j).toNat → ∀ s6 : Mm, Se σ s6 (nmZ (gi σ 7 j) (gi σ 8 j) (0 : Int) x4 mo (gi σ 40 0)) → ∀ t8 : Mm, t8 = si s6 68 5 (0 : Int) → ∀ x13 : Int, x13 = flyS (vw t8 5) (gi t8 68) (gi s6 70 3) → ∀ s11 : Mm, Mk t8 s11 → rg ((gi s6 46 x2.toNat) - x13)) (o10 : ∀ x2 : Int, x2 = gi σ 45 j → ∀ x4 : Int, x4 = gi σ 46 (gi σ 45 j).toNat → ∀ s6 : Mm, Se σ s6 (nmZ (gi σ 7 j) (gi σ 8 j) (0 : Int) x4 mo (gi σ 40 0)) → ∀ t8 : Mm, t8 = si s6 68 5 (0 : Int) → ∀ x13 : Int, x13 = flyS (vw t8 5) (gi t8 68) (gi s6 70 3) → ∀ s11 : Mm, Mk t8 s11 → ∀ x15 : Int, x15 = (if (0 : Int) < ((gi s6 46 x2.toNat) - x13) then ((gi s6 46 x2.toNat) - x13) else (0 : Int)) → rg ((gi s11 46 x2.toNat) - 1)) (l1 : ∀ x2 : Int, x2 = gi σ 45 j → ∀ x4 : Int, x4 = gi σ 46 (gi σ 45 j).toNat → ∀ s6 : Mm, Se σ s6 (nmZ (gi σ 7 j) (gi σ 8 j) (0 : Int) x4 mo (gi σ 40 0)) → ∀ t8 : Mm, t8 = si s6 68 5 (0 : Int) → ∀ x13 : Int, x13 = flyS (vw t8 5) (gi t8 68) (gi s6 70 3) → ∀ s11 : Mm, Mk t8 s11 → ∀ x15 : Int, x15 = (if (0 : Int) < ((gi s6 46 x2.toNat) - x13) then ((gi s6 46 x2.toNat) - x13) else (0 : Int)) → ∀ x17 : Int, x17 = (gi s11 46 x2.toNat) - 1 → R 78 58 [some (vr 70), some (vr 40), some (vi (j : Int)), some (vi mo), some (vi x2), some (vi x15), some (vi x17), none] [] (shF n) 0 0 s11 (Qv (shF n) P)) : Cv 78 [vr 70, vr 40, vi (j : Int), vi mo] (shF n) σ P :=
  show R 78 0 [some (vr 70), some (vr 40), some (vi (j : Int)), some (vi mo), none, none, none, none] [] (shF n) 0 0 σ (Qv (shF n) P) from wpK_R 34 [58] ((have k1 := (o1); And.intro k1 ((show R 76 0 [some (vr 70), some (vr 40), _, _, none] [] (shF n) 0 0 _ _ from wpK_R 30 [] (And.intro k1 ((have k3 := (o2 _ rfl); And.intro k3 (And.intro k1 (And.intro k1 ((c_see  (o3 _ rfl _ rfl) (o4 _ rfl _ rfl) (fun s6 h7 => (show R 29 0 [some (vr 67)] [] (shF n) 0 0 _ _ from wpK_R 6 [] (And.intro (by decide) (And.intro ret0 ⟨rfl, rfl, And.intro ret0 ⟨rfl, rfl, (have k9 := (o5 _ rfl _ rfl s6 h7 _ rfl); And.intro k9 ((c_out  (o6 _ rfl _ rfl s6 h7 _ rfl) (o7 _ rfl _ rfl s6 h7 _ rfl) (o8 _ rfl _ rfl s6 h7 _ rfl) (fun s11 h12 => (have k14 := (o9 _ rfl _ rfl s6 h7 _ rfl _ rfl s11 h12); And.intro k14 (And.intro k9 ((have k16 := (o10 _ rfl _ rfl s6 h7 _ rfl _ rfl s11 h12 _ rfl); And.intro k16 ((l1 _ rfl _ rfl s6 h7 _ rfl _ rfl s11 h12 _ rfl _ rfl))))))))))⟩⟩)))))))))))))))
theorem v_air_40_58 {n : Nat}  (j : Nat) (mo : Int) (u : Nat) (lf : Int) (i : Int) (z : Option PV) {σ : Mm} {P : Mm → Prop} (o1 : i < lf → (0 ≤ (u : Int) ∧ (u : Int) < 5)) (o2 : lf ≤ i → rg ((u : Int) * 8)) (o3 : lf ≤ i → rg (((u : Int) * 8) + i)) (o4 : lf ≤ i → (0 ≤ (((u : Int) * 8) + i) ∧ (((u : Int) * 8) + i) < 40)) (o5 : lf ≤ i → ∀ x7 : Int, x7 = gi σ 47 (((u : Int) * 8) + i).toNat → (0 ≤ x7 ∧ x7 < 10)) (o6 : lf ≤ i → ∀ x7 : Int, x7 = gi σ 47 (((u : Int) * 8) + i).toNat → ∀ t9 : Mm, t9 = si σ 44 x7.toNat (2 : Int) → 0 ≤ gi t9 40 0) (o7 : lf ≤ i → ∀ x7 : Int, x7 = gi σ 47 (((u : Int) * 8) + i).toNat → ∀ t9 : Mm, t9 = si σ 44 x7.toNat (2 : Int) → gi t9 5 2 ≤ 5) (o8 : lf ≤ i → ∀ x7 : Int, x7 = gi σ 47 (((u : Int) * 8) + i).toNat → ∀ t9 : Mm, t9 = si σ 44 x7.toNat (2 : Int) → ∀ s11 : Mm, Wf 40 t9 s11 (tellV (vw t9 5) (wv t9 40) x7.toNat i) → rg (i + (-1))) (l1 : i < lf → ∀ t3 : Mm, t3 = si σ 46 u lf → P t3) (l2 : lf ≤ i → ∀ x7 : Int, x7 = gi σ 47 (((u : Int) * 8) + i).toNat → ∀ t9 : Mm, t9 = si σ 44 x7.toNat (2 : Int) → ∀ s11 : Mm, Wf 40 t9 s11 (tellV (vw t9 5) (wv t9 40) x7.toNat i) → ∀ x14 : Int, x14 = i + (-1) → R 78 58 [some (vr 70), some (vr 40), some (vi (j : Int)), some (vi mo), some (vi (u : Int)), some (vi lf), some (vi x14), some (vi x7)] [] (shF n) 0 0 s11 (Qv (shF n) P)) : R 78 58 [some (vr 70), some (vr 40), some (vi (j : Int)), some (vi mo), some (vi (u : Int)), some (vi lf), some (vi i), z] [] (shF n) 0 0 σ (Qv (shF n) P) :=
  wpK_R 25 [58] (And.intro (fun q1 => (have k2 := (o1 q1); And.intro k2 (And.intro ret0 ⟨rfl, rfl, (l1 q1 _ rfl)⟩))) (fun q1 => (have k4 := (o2 (Int.not_lt.mp q1)); And.intro k4 ((have k5 := (o3 (Int.not_lt.mp q1)); And.intro k5 ((have k6 := (o4 (Int.not_lt.mp q1)); And.intro k6 ((have k8 := (o5 (Int.not_lt.mp q1) _ rfl); And.intro k8 ((c_tell_40  k8 (o6 (Int.not_lt.mp q1) _ rfl _ rfl) (o7 (Int.not_lt.mp q1) _ rfl _ rfl) (fun s11 h12 => (have k13 := (o8 (Int.not_lt.mp q1) _ rfl _ rfl s11 h12); And.intro k13 ((l2 (Int.not_lt.mp q1) _ rfl _ rfl s11 h12 _ rfl)))))))))))))))
theorem c_air_40 {n : Nat} {j : Nat} {mo : Int} {σ : Mm} {P : Mm → Prop} (hl : LwOK σ) (hj : j < 5) (hle : 0 ≤ gi σ 7 j ∧ gi σ 7 j ≤ 99) (hmo : 0 ≤ mo ∧ mo ≤ 9) (hbt : 0 ≤ gi σ 70 3 ∧ gi σ 70 3 ≤ 9)
    (hd : 0 ≤ gi σ 40 0) (hK : gi σ 5 2 ≤ 5) (hu : 0 ≤ gi σ 45 j ∧ gi σ 45 j < 5) (hs : 0 ≤ gi σ 46 (gi σ 45 j).toNat ∧ gi σ 46 (gi σ 45 j).toNat ≤ 8)
    (hf : ∀ p : Nat, (p : Int) < gi σ 46 (gi σ 45 j).toNat → 0 ≤ gi σ 47 ((gi σ 45 j).toNat * 8 + p) ∧ gi σ 47 ((gi σ 45 j).toNat * 8 + p) < 10)
    (hP : ∀ σ', Wg 40 σ σ' (airU (vw σ 5) (wv σ 40) (gi σ 45 j).toNat (outN (vw σ 5) (wv σ 40) mo (gi σ 70 3) j (gi σ 45 j).toNat)) → P σ') : Cv 78 [vr 70, vr 40, vi (j : Int), vi mo] (shF n) σ P := by
  obtain ⟨u, huu⟩ := Int.eq_ofNat_of_zero_le hu.1
  rw [huu] at hu
  simp only [huu, Int.toNat_natCast] at hs hf hP
  obtain ⟨s, hss⟩ := Int.eq_ofNat_of_zero_le hs.1
  rw [hss] at hs hf
  have hlw : ∀ {s : Mm}, (∀ a b, a ≠ 68 → gi s a b = gi σ a b) → LwOK s := fun h w hw => by rw [h 19 w (by omega), h 20 w (by omega)]; exact hl w hw
  have hV6 : wv σ 40 6 u = (s : Int) := by rw [wv_at (by omega)]; exact hss
  have hV0 : wv σ 40 0 0 = gi σ 40 0 := by rw [wv_at (by omega)]
  have hsee : ∀ (s6 : Mm) (x4 : Int), x4 = (s : Int) → Se σ s6 (nmZ (gi σ 7 j) (gi σ 8 j) 0 x4 mo (gi σ 40 0)) → (∀ a b, a ≠ 68 → gi (si s6 68 5 0) a b = gi σ a b) ∧ (∀ q, q < 7 → gi (si s6 68 5 0) 68 q = nmF (gi σ 7 j) (gi σ 8 j) (s : Int) mo (gi σ 40 0) q) ∧ (si s6 68 5 0).2 = σ.2 := by
    intro s6 x4 hx4 hse
    obtain ⟨q1, q2, q3⟩ := hse
    refine ⟨fun a b h => by rw [gi_ne h]; exact q2 a b h, fun q hq => ?_, q1⟩
    rw [gi_same, q3 q hq, hx4]
    simp only [nmZ, nmF]
    have h7 : q = 0 ∨ q = 1 ∨ q = 2 ∨ q = 3 ∨ q = 4 ∨ q = 5 ∨ q = 6 := by omega
    rcases h7 with rfl | rfl | rfl | rfl | rfl | rfl | rfl <;> simp
  have hx4 : gi σ 46 (gi σ 45 j).toNat = (s : Int) := by rw [huu]; exact hss
  refine v_air_40_0 j mo (by intros; subst_vars; first | omega | (unfold rg; omega) | (have hh := hsee _ _ hx4 ‹Se σ _ _›; have h6 := (‹Se σ _ _›).2.1; first | exact hlw hh.1 | (rw [h6 _ _ (by omega)]; omega) | (rw [hh.2.1 4 (by omega)]; simp [nmF]; omega) | (rw [h6 _ _ (by omega), hx4]; omega) | (rw [h6 _ _ (by omega), hx4]; exact rg_fly (by omega)) | (have hmk := ‹Mk (si _ 68 5 0) _›; rw [gi_of hmk.1, hh.1 _ _ (by omega), hx4]; unfold rg; omega))) (by intros; subst_vars; first | omega | (unfold rg; omega) | (have hh := hsee _ _ hx4 ‹Se σ _ _›; have h6 := (‹Se σ _ _›).2.1; first | exact hlw hh.1 | (rw [h6 _ _ (by omega)]; omega) | (rw [hh.2.1 4 (by omega)]; simp [nmF]; omega) | (rw [h6 _ _ (by omega), hx4]; omega) | (rw [h6 _ _ (by omega), hx4]; exact rg_fly (by omega)) | (have hmk := ‹Mk (si _ 68 5 0) _›; rw [gi_of hmk.1, hh.1 _ _ (by omega), hx4]; unfold rg; omega))) (by intros; subst_vars; first | omega | (unfold rg; omega) | (have hh := hsee _ _ hx4 ‹Se σ _ _›; have h6 := (‹Se σ _ _›).2.1; first | exact hlw hh.1 | (rw [h6 _ _ (by omega)]; omega) | (rw [hh.2.1 4 (by omega)]; simp [nmF]; omega) | (rw [h6 _ _ (by omega), hx4]; omega) | (rw [h6 _ _ (by omega), hx4]; exact rg_fly (by omega)) | (have hmk := ‹Mk (si _ 68 5 0) _›; rw [gi_of hmk.1, hh.1 _ _ (by omega), hx4]; unfold rg; omega))) (by intros; subst_vars; first | omega | (unfold rg; omega) | (have hh := hsee _ _ hx4 ‹Se σ _ _›; have h6 := (‹Se σ _ _›).2.1; first | exact hlw hh.1 | (rw [h6 _ _ (by omega)]; omega) | (rw [hh.2.1 4 (by omega)]; simp [nmF]; omega) | (rw [h6 _ _ (by omega), hx4]; omega) | (rw [h6 _ _ (by omega), hx4]; exact rg_fly (by omega)) | (have hmk := ‹Mk (si _ 68 5 0) _›; rw [gi_of hmk.1, hh.1 _ _ (by omega), hx4]; unfold rg; omega))) (by intros; subst_vars; first | omega | (unfold rg; omega) | (have hh := hsee _ _ hx4 ‹Se σ _ _›; have h6 := (‹Se σ _ _›).2.1; first | exact hlw hh.1 | (rw [h6 _ _ (by omega)]; omega) | (rw [hh.2.1 4 (by omega)]; simp [nmF]; omega) | (rw [h6 _ _ (by omega), hx4]; omega) | (rw [h6 _ _ (by omega), hx4]; exact rg_fly (by omega)) | (have hmk := ‹Mk (si _ 68 5 0) _›; rw [gi_of hmk.1, hh.1 _ _ (by omega), hx4]; unfold rg; omega))) (by intros; subst_vars; first | omega | (unfold rg; omega) | (have hh := hsee _ _ hx4 ‹Se σ _ _›; have h6 := (‹Se σ _ _›).2.1; first | exact hlw hh.1 | (rw [h6 _ _ (by omega)]; omega) | (rw [hh.2.1 4 (by omega)]; simp [nmF]; omega) | (rw [h6 _ _ (by omega), hx4]; omega) | (rw [h6 _ _ (by omega), hx4]; exact rg_fly (by omega)) | (have hmk := ‹Mk (si _ 68 5 0) _›; rw [gi_of hmk.1, hh.1 _ _ (by omega), hx4]; unfold rg; omega))) (by intros; subst_vars; first | omega | (unfold rg; omega) | (have hh := hsee _ _ hx4 ‹Se σ _ _›; have h6 := (‹Se σ _ _›).2.1; first | exact hlw hh.1 | (rw [h6 _ _ (by omega)]; omega) | (rw [hh.2.1 4 (by omega)]; simp [nmF]; omega) | (rw [h6 _ _ (by omega), hx4]; omega) | (rw [h6 _ _ (by omega), hx4]; exact rg_fly (by omega)) | (have hmk := ‹Mk (si _ 68 5 0) _›; rw [gi_of hmk.1, hh.1 _ _ (by omega), hx4]; unfold rg; omega))) (by intros; subst_vars; first | omega | (unfold rg; omega) | (have hh := hsee _ _ hx4 ‹Se σ _ _›; have h6 := (‹Se σ _ _›).2.1; first | exact hlw hh.1 | (rw [h6 _ _ (by omega)]; omega) | (rw [hh.2.1 4 (by omega)]; simp [nmF]; omega) | (rw [h6 _ _ (by omega), hx4]; omega) | (rw [h6 _ _ (by omega), hx4]; exact rg_fly (by omega)) | (have hmk := ‹Mk (si _ 68 5 0) _›; rw [gi_of hmk.1, hh.1 _ _ (by omega), hx4]; unfold rg; omega))) (by intros; subst_vars; first | omega | (unfold rg; omega) | (have hh := hsee _ _ hx4 ‹Se σ _ _›; have h6 := (‹Se σ _ _›).2.1; first | exact hlw hh.1 | (rw [h6 _ _ (by omega)]; omega) | (rw [hh.2.1 4 (by omega)]; simp [nmF]; omega) | (rw [h6 _ _ (by omega), hx4]; omega) | (rw [h6 _ _ (by omega), hx4]; exact rg_fly (by omega)) | (have hmk := ‹Mk (si _ 68 5 0) _›; rw [gi_of hmk.1, hh.1 _ _ (by omega), hx4]; unfold rg; omega))) (by intros; subst_vars; first | omega | (unfold rg; omega) | (have hh := hsee _ _ hx4 ‹Se σ _ _›; have h6 := (‹Se σ _ _›).2.1; first | exact hlw hh.1 | (rw [h6 _ _ (by omega)]; omega) | (rw [hh.2.1 4 (by omega)]; simp [nmF]; omega) | (rw [h6 _ _ (by omega), hx4]; omega) | (rw [h6 _ _ (by omega), hx4]; exact rg_fly (by omega)) | (have hmk := ‹Mk (si _ 68 5 0) _›; rw [gi_of hmk.1, hh.1 _ _ (by omega), hx4]; unfold rg; omega))) ?_
  intro x2 hx2 x4' hx4' s6 hse t9 ht9 x14 hx14 s12 hm x16 hx16 x18 hx18
  have hh := hsee s6 x4' (by rw [hx4', hx4]) hse
  have h6 := hse.2.1
  rw [← ht9] at hh
  obtain ⟨h1, h2, h3⟩ := hh
  have g12 := gi_of hm.1
  have hT : ∀ f, f ≤ 15 → vw t9 5 f = vw σ 5 f := vw_eq fun a b p q => h1 a b (by omega)
  have hfl : x14 = flyS (vw σ 5) (nmF (gi σ 7 j) (gi σ 8 j) (s : Int) mo (gi σ 40 0)) (gi σ 70 3) := by
    rw [hx14, flyS_eq hT, flyS_seen h2, h6 70 3 (by omega)]
  have hfi := flyS_in (vw σ 5) (nmF (gi σ 7 j) (gi σ 8 j) (s : Int) mo (gi σ 40 0)) (gi σ 70 3)
  rw [← hfl] at hfi
  have hout : outN (vw σ 5) (wv σ 40) mo (gi σ 70 3) j u = (if (s : Int) < x14 then (s : Int) else x14).toNat := by
    unfold outN
    rw [hV6, hV0, hfl]
    rfl
  rw [hout] at hP
  obtain ⟨m, hm'⟩ : ∃ m : Nat, m = (if (s : Int) < x14 then (s : Int) else x14).toNat := ⟨_, rfl⟩
  rw [← hm'] at hP
  subst hx2
  rw [huu] at hx16 hx18 ⊢
  rw [Int.toNat_natCast, h6 _ _ (by omega), hss] at hx16
  rw [Int.toNat_natCast, g12, h1 _ _ (by omega), hss] at hx18
  have hms : m ≤ s := by omega
  have hlf : x16 = (s : Int) - m := by omega
  refine R_eq (loopUp (N := m) (I := fun k => ∀ (τ : Mm) (z : Option PV), (∀ a b, (a < 40 ∨ 40 + 8 < a) → a ≠ 68 → gi τ a b = gi σ a b) → (∀ a b, a ≠ 67 → a ≠ 69 → gl τ a b = gl σ a b) → wv τ 40 = airN (vw σ 5) (wv σ 40) u k → R 78 58 [some (vr 70), some (vr 40), some (vi (j : Int)), some (vi mo), some (vi (u : Int)), some (vi ((s : Int) - m)), some (vi ((s : Int) - 1 - k)), z] [] (shF n) 0 0 τ (Qv (shF n) P)) (fun k hk ih => ?_) 0 (by omega) s12 none (fun a b _ h => by rw [g12, h1 a b h]) (fun a b p q => by rw [hm.2 a b p q]; show t9.2 a b = σ.2 a b; rw [h3]) (wv_eq fun f b hf => by rw [g12, h1 _ _ (by omega)])) (by rw [hlf, hx18]; simp)
  intro τ z e1 e2 e3
  have e7 : ∀ b, gi τ 47 b = gi σ 47 b := fun b => by
    have := congrFun (congrFun e3 7) b
    rw [airN_other (by omega) (by omega), wv_at (by omega), wv_at (by omega)] at this
    exact this
  have e0 : gi τ 40 0 = gi σ 40 0 := by
    have := congrFun (congrFun e3 0) 0
    rw [airN_other (by omega) (by omega), wv_at (by omega), wv_at (by omega)] at this
    exact this
  have e5 := e1 5 2 (by omega) (by omega)
  have eI : k < s → ((u : Int) * 8 + ((s : Int) - 1 - k)).toNat = u * 8 + (s - 1 - k) := fun h => by omega
  have hff : k < s → 0 ≤ gi σ 47 (u * 8 + (s - 1 - k)) ∧ gi σ 47 (u * 8 + (s - 1 - k)) < 10 := fun h => hf _ (by omega)
  refine v_air_40_58 j mo u _ _ z (by intros; subst_vars; first | omega | (unfold rg; omega) | (rw [eI (by omega), e7]; have := hff (by omega); omega) | (rw [gi_ne (by omega)]; omega)) (by intros; subst_vars; first | omega | (unfold rg; omega) | (rw [eI (by omega), e7]; have := hff (by omega); omega) | (rw [gi_ne (by omega)]; omega)) (by intros; subst_vars; first | omega | (unfold rg; omega) | (rw [eI (by omega), e7]; have := hff (by omega); omega) | (rw [gi_ne (by omega)]; omega)) (by intros; subst_vars; first | omega | (unfold rg; omega) | (rw [eI (by omega), e7]; have := hff (by omega); omega) | (rw [gi_ne (by omega)]; omega)) (by intros; subst_vars; first | omega | (unfold rg; omega) | (rw [eI (by omega), e7]; have := hff (by omega); omega) | (rw [gi_ne (by omega)]; omega)) (by intros; subst_vars; first | omega | (unfold rg; omega) | (rw [eI (by omega), e7]; have := hff (by omega); omega) | (rw [gi_ne (by omega)]; omega)) (by intros; subst_vars; first | omega | (unfold rg; omega) | (rw [eI (by omega), e7]; have := hff (by omega); omega) | (rw [gi_ne (by omega)]; omega)) (by intros; subst_vars; first | omega | (unfold rg; omega) | (rw [eI (by omega), e7]; have := hff (by omega); omega) | (rw [gi_ne (by omega)]; omega)) ?_ ?_
  · intro hkm t ht
    have hkm : k = m := by omega
    subst hkm
    subst ht
    refine hP _ ⟨fun a b p q => by rw [gi_ne (by omega)]; exact e1 a b p q, e2, ?_⟩
    rw [wv_si (W := 40) (g := 6) rfl (by omega)]
    funext f b
    simp only [airU, hV6]
    by_cases h6 : f = 6
    · subst h6
      by_cases hb : b = u
      · simp [hb]
      · simp only [hb, and_false, if_false, if_true]
        rw [e3, airN_other (by omega) (by omega)]
    · simp only [h6, false_and, if_false]
      rw [e3]
  · intro hkm x7 hx7 t9' ht9' s11 hw x14' hx14'
    have hks : k < m := by omega
    rw [eI (by omega), e7] at hx7
    obtain ⟨w1, w2, w3⟩ := hw
    subst ht9'
    have hT2 : ∀ f, f ≤ 15 → vw (si τ 44 x7.toNat 2) 5 f = vw σ 5 f := vw_eq fun a b p q => by rw [gi_ne (by omega)]; exact e1 a b (by omega) (by omega)
    refine R_eq (ih (by omega) s11 (some (vi x7)) (fun a b p q => by rw [w2 a b p, gi_ne (by omega)]; exact e1 a b p q) (fun a b p q => by show s11.2 a b = _; rw [w1]; exact e2 a b p q) ?_) (by rw [hx14']; simp; omega)
    rw [w3, wv_si (W := 40) (g := 4) rfl (by omega), e3]
    funext f b
    have hU7 : airN (vw σ 5) (wv σ 40) u k 7 (u * 8 + (s - 1 - k)) = x7 := by rw [airN_other (by omega) (by omega), wv_at (by omega), hx7]
    show _ = stepA (vw σ 5) (airN (vw σ 5) (wv σ 40) u k) u ((wv σ 40 6 u).toNat - 1 - k) f b
    rw [hV6, Int.toNat_natCast]
    simp only [stepA, tellV, hU7]
    by_cases h4 : f = 4
    · subst h4
      simp
    · by_cases h8 : f = 8
      · subst h8
        rw [hT2 0 (by omega), hT2 9 (by omega), hT2 10 (by omega)]
        simp only [show ((s - 1 - k : Nat) : Int) = (s : Int) - 1 - k by omega]
        simp
      · simp [h4, h8]
theorem v_air_49_0 {n : Nat}  (j : Nat) (mo : Int) {σ : Mm} {P : Mm → Prop} (o1 : (0 ≤ (j : Int) ∧ (j : Int) < 5)) (o2 : ∀ x2 : Int, x2 = gi σ 54 j → (0 ≤ (gi σ 54 j) ∧ (gi σ 54 j) < 5)) (o3 : ∀ x2 : Int, x2 = gi σ 54 j → ∀ x4 : Int, x4 = gi σ 55 (gi σ 54 j).toNat → (0 ≤ (gi σ 7 j) ∧ (gi σ 7 j) ≤ 99)) (o4 : ∀ x2 : Int, x2 = gi σ 54 j → ∀ x4 : Int, x4 = gi σ 55 (gi σ 54 j).toNat → (0 ≤ (0 : Int) ∧ (0 : Int) ≤ 99)) (o5 : ∀ x2 : Int, x2 = gi σ 54 j → ∀ x4 : Int, x4 = gi σ 55 (gi σ 54 j).toNat → ∀ s6 : Mm, Se σ s6 (nmZ (gi σ 7 j) (gi σ 8 j) (0 : Int) x4 mo (gi σ 49 0)) → ∀ t8 : Mm, t8 = si s6 68 5 (0 : Int) → (0 ≤ x2 ∧ x2 < 5)) (o6 : ∀ x2 : Int, x2 = gi σ 54 j → ∀ x4 : Int, x4 = gi σ 55 (gi σ 54 j).toNat → ∀ s6 : Mm, Se σ s6 (nmZ (gi σ 7 j) (gi σ 8 j) (0 : Int) x4 mo (gi σ 49 0)) → ∀ t8 : Mm, t8 = si s6 68 5 (0 : Int) → LwOK t8) (o7 : ∀ x2 : Int, x2 = gi σ 54 j → ∀ x4 : Int, x4 = gi σ 55 (gi σ 54 j).toNat → ∀ s6 : Mm, Se σ s6 (nmZ (gi σ 7 j) (gi σ 8 j) (0 : Int) x4 mo (gi σ 49 0)) → ∀ t8 : Mm, t8 = si s6 68 5 (0 : Int) → (0 ≤ (gi s6 70 3) ∧ (gi s6 70 3) ≤ 9)) (o8 : ∀ x2 : Int, x2 = gi σ 54 j → ∀ x4 : Int, x4 = gi σ 55 (gi σ 54 j).toNat → ∀ s6 : Mm, Se σ s6 (nmZ (gi σ 7 j) (gi σ 8 j) (0 : Int) x4 mo (gi σ 49 0)) → ∀ t8 : Mm, t8 = si s6 68 5 (0 : Int) → (0 ≤ gi t8 68 4 ∧ gi t8 68 4 ≤ 9)) (o9 : ∀ x2 : Int, x2 = gi σ 54 j → ∀ x4 : Int, x4 = gi σ 55 (gi σ 54 j).toNat → ∀ s6 : Mm, Se σ s6 (nmZ (gi σ 7 j) (gi σ 8 j) (0 : Int) x4 mo (gi σ 49 0)) → ∀ t8 : Mm, t8 = si s6 68 5 (0 : Int) → ∀ x13 : Int, x13 = flyS (vw t8 5) (gi t8 68) (gi s6 70 3) → ∀ s11 : Mm, Mk t8 s11 → rg ((gi s6 55 x2.toNat) - x13)) (o10 : ∀ x2 : Int, x2 = gi σ 54 j → ∀ x4 : Int, x4 = gi σ 55 (gi σ 54 j).toNat → ∀ s6 : Mm, Se σ s6 (nmZ (gi σ 7 j) (gi σ 8 j) (0 : Int) x4 mo (gi σ 49 0)) → ∀ t8 : Mm, t8 = si s6 68 5 (0 : Int) → ∀ x13 : Int, x13 = flyS (vw t8 5) (gi t8 68) (gi s6 70 3) → ∀ s11 : Mm, Mk t8 s11 → ∀ x15 : Int, x15 = (if (0 : Int) < ((gi s6 55 x2.toNat) - x13) then ((gi s6 55 x2.toNat) - x13) else (0 : Int)) → rg ((gi s11 55 x2.toNat) - 1)) (l1 : ∀ x2 : Int, x2 = gi σ 54 j → ∀ x4 : Int, x4 = gi σ 55 (gi σ 54 j).toNat → ∀ s6 : Mm, Se σ s6 (nmZ (gi σ 7 j) (gi σ 8 j) (0 : Int) x4 mo (gi σ 49 0)) → ∀ t8 : Mm, t8 = si s6 68 5 (0 : Int) → ∀ x13 : Int, x13 = flyS (vw t8 5) (gi t8 68) (gi s6 70 3) → ∀ s11 : Mm, Mk t8 s11 → ∀ x15 : Int, x15 = (if (0 : Int) < ((gi s6 55 x2.toNat) - x13) then ((gi s6 55 x2.toNat) - x13) else (0 : Int)) → ∀ x17 : Int, x17 = (gi s11 55 x2.toNat) - 1 → R 78 58 [some (vr 70), some (vr 49), some (vi (j : Int)), some (vi mo), some (vi x2), some (vi x15), some (vi x17), none] [] (shF n) 0 0 s11 (Qv (shF n) P)) : Cv 78 [vr 70, vr 49, vi (j : Int), vi mo] (shF n) σ P :=
  show R 78 0 [some (vr 70), some (vr 49), some (vi (j : Int)), some (vi mo), none, none, none, none] [] (shF n) 0 0 σ (Qv (shF n) P) from wpK_R 34 [58] ((have k1 := (o1); And.intro k1 ((show R 76 0 [some (vr 70), some (vr 49), _, _, none] [] (shF n) 0 0 _ _ from wpK_R 30 [] (And.intro k1 ((have k3 := (o2 _ rfl); And.intro k3 (And.intro k1 (And.intro k1 ((c_see  (o3 _ rfl _ rfl) (o4 _ rfl _ rfl) (fun s6 h7 => (show R 29 0 [some (vr 67)] [] (shF n) 0 0 _ _ from wpK_R 6 [] (And.intro (by decide) (And.intro ret0 ⟨rfl, rfl, And.intro ret0 ⟨rfl, rfl, (have k9 := (o5 _ rfl _ rfl s6 h7 _ rfl); And.intro k9 ((c_out  (o6 _ rfl _ rfl s6 h7 _ rfl) (o7 _ rfl _ rfl s6 h7 _ rfl) (o8 _ rfl _ rfl s6 h7 _ rfl) (fun s11 h12 => (have k14 := (o9 _ rfl _ rfl s6 h7 _ rfl _ rfl s11 h12); And.intro k14 (And.intro k9 ((have k16 := (o10 _ rfl _ rfl s6 h7 _ rfl _ rfl s11 h12 _ rfl); And.intro k16 ((l1 _ rfl _ rfl s6 h7 _ rfl _ rfl s11 h12 _ rfl _ rfl))))))))))⟩⟩)))))))))))))))
theorem v_air_49_58 {n : Nat}  (j : Nat) (mo : Int) (u : Nat) (lf : Int) (i : Int) (z : Option PV) {σ : Mm} {P : Mm → Prop} (o1 : i < lf → (0 ≤ (u : Int) ∧ (u : Int) < 5)) (o2 : lf ≤ i → rg ((u : Int) * 8)) (o3 : lf ≤ i → rg (((u : Int) * 8) + i)) (o4 : lf ≤ i → (0 ≤ (((u : Int) * 8) + i) ∧ (((u : Int) * 8) + i) < 40)) (o5 : lf ≤ i → ∀ x7 : Int, x7 = gi σ 56 (((u : Int) * 8) + i).toNat → (0 ≤ x7 ∧ x7 < 10)) (o6 : lf ≤ i → ∀ x7 : Int, x7 = gi σ 56 (((u : Int) * 8) + i).toNat → ∀ t9 : Mm, t9 = si σ 53 x7.toNat (2 : Int) → 0 ≤ gi t9 49 0) (o7 : lf ≤ i → ∀ x7 : Int, x7 = gi σ 56 (((u : Int) * 8) + i).toNat → ∀ t9 : Mm, t9 = si σ 53 x7.toNat (2 : Int) → gi t9 5 2 ≤ 5) (o8 : lf ≤ i → ∀ x7 : Int, x7 = gi σ 56 (((u : Int) * 8) + i).toNat → ∀ t9 : Mm, t9 = si σ 53 x7.toNat (2 : Int) → ∀ s11 : Mm, Wf 49 t9 s11 (tellV (vw t9 5) (wv t9 49) x7.toNat i) → rg (i + (-1))) (l1 : i < lf → ∀ t3 : Mm, t3 = si σ 55 u lf → P t3) (l2 : lf ≤ i → ∀ x7 : Int, x7 = gi σ 56 (((u : Int) * 8) + i).toNat → ∀ t9 : Mm, t9 = si σ 53 x7.toNat (2 : Int) → ∀ s11 : Mm, Wf 49 t9 s11 (tellV (vw t9 5) (wv t9 49) x7.toNat i) → ∀ x14 : Int, x14 = i + (-1) → R 78 58 [some (vr 70), some (vr 49), some (vi (j : Int)), some (vi mo), some (vi (u : Int)), some (vi lf), some (vi x14), some (vi x7)] [] (shF n) 0 0 s11 (Qv (shF n) P)) : R 78 58 [some (vr 70), some (vr 49), some (vi (j : Int)), some (vi mo), some (vi (u : Int)), some (vi lf), some (vi i), z] [] (shF n) 0 0 σ (Qv (shF n) P) :=
  wpK_R 25 [58] (And.intro (fun q1 => (have k2 := (o1 q1); And.intro k2 (And.intro ret0 ⟨rfl, rfl, (l1 q1 _ rfl)⟩))) (fun q1 => (have k4 := (o2 (Int.not_lt.mp q1)); And.intro k4 ((have k5 := (o3 (Int.not_lt.mp q1)); And.intro k5 ((have k6 := (o4 (Int.not_lt.mp q1)); And.intro k6 ((have k8 := (o5 (Int.not_lt.mp q1) _ rfl); And.intro k8 ((c_tell_49  k8 (o6 (Int.not_lt.mp q1) _ rfl _ rfl) (o7 (Int.not_lt.mp q1) _ rfl _ rfl) (fun s11 h12 => (have k13 := (o8 (Int.not_lt.mp q1) _ rfl _ rfl s11 h12); And.intro k13 ((l2 (Int.not_lt.mp q1) _ rfl _ rfl s11 h12 _ rfl)))))))))))))))
theorem c_air_49 {n : Nat} {j : Nat} {mo : Int} {σ : Mm} {P : Mm → Prop} (hl : LwOK σ) (hj : j < 5) (hle : 0 ≤ gi σ 7 j ∧ gi σ 7 j ≤ 99) (hmo : 0 ≤ mo ∧ mo ≤ 9) (hbt : 0 ≤ gi σ 70 3 ∧ gi σ 70 3 ≤ 9)
    (hd : 0 ≤ gi σ 49 0) (hK : gi σ 5 2 ≤ 5) (hu : 0 ≤ gi σ 54 j ∧ gi σ 54 j < 5) (hs : 0 ≤ gi σ 55 (gi σ 54 j).toNat ∧ gi σ 55 (gi σ 54 j).toNat ≤ 8)
    (hf : ∀ p : Nat, (p : Int) < gi σ 55 (gi σ 54 j).toNat → 0 ≤ gi σ 56 ((gi σ 54 j).toNat * 8 + p) ∧ gi σ 56 ((gi σ 54 j).toNat * 8 + p) < 10)
    (hP : ∀ σ', Wg 49 σ σ' (airU (vw σ 5) (wv σ 49) (gi σ 54 j).toNat (outN (vw σ 5) (wv σ 49) mo (gi σ 70 3) j (gi σ 54 j).toNat)) → P σ') : Cv 78 [vr 70, vr 49, vi (j : Int), vi mo] (shF n) σ P := by
  obtain ⟨u, huu⟩ := Int.eq_ofNat_of_zero_le hu.1
  rw [huu] at hu
  simp only [huu, Int.toNat_natCast] at hs hf hP
  obtain ⟨s, hss⟩ := Int.eq_ofNat_of_zero_le hs.1
  rw [hss] at hs hf
  have hlw : ∀ {s : Mm}, (∀ a b, a ≠ 68 → gi s a b = gi σ a b) → LwOK s := fun h w hw => by rw [h 19 w (by omega), h 20 w (by omega)]; exact hl w hw
  have hV6 : wv σ 49 6 u = (s : Int) := by rw [wv_at (by omega)]; exact hss
  have hV0 : wv σ 49 0 0 = gi σ 49 0 := by rw [wv_at (by omega)]
  have hsee : ∀ (s6 : Mm) (x4 : Int), x4 = (s : Int) → Se σ s6 (nmZ (gi σ 7 j) (gi σ 8 j) 0 x4 mo (gi σ 49 0)) → (∀ a b, a ≠ 68 → gi (si s6 68 5 0) a b = gi σ a b) ∧ (∀ q, q < 7 → gi (si s6 68 5 0) 68 q = nmF (gi σ 7 j) (gi σ 8 j) (s : Int) mo (gi σ 49 0) q) ∧ (si s6 68 5 0).2 = σ.2 := by
    intro s6 x4 hx4 hse
    obtain ⟨q1, q2, q3⟩ := hse
    refine ⟨fun a b h => by rw [gi_ne h]; exact q2 a b h, fun q hq => ?_, q1⟩
    rw [gi_same, q3 q hq, hx4]
    simp only [nmZ, nmF]
    have h7 : q = 0 ∨ q = 1 ∨ q = 2 ∨ q = 3 ∨ q = 4 ∨ q = 5 ∨ q = 6 := by omega
    rcases h7 with rfl | rfl | rfl | rfl | rfl | rfl | rfl <;> simp
  have hx4 : gi σ 55 (gi σ 54 j).toNat = (s : Int) := by rw [huu]; exact hss
  refine v_air_49_0 j mo (by intros; subst_vars; first | omega | (unfold rg; omega) | (have hh := hsee _ _ hx4 ‹Se σ _ _›; have h6 := (‹Se σ _ _›).2.1; first | exact hlw hh.1 | (rw [h6 _ _ (by omega)]; omega) | (rw [hh.2.1 4 (by omega)]; simp [nmF]; omega) | (rw [h6 _ _ (by omega), hx4]; omega) | (rw [h6 _ _ (by omega), hx4]; exact rg_fly (by omega)) | (have hmk := ‹Mk (si _ 68 5 0) _›; rw [gi_of hmk.1, hh.1 _ _ (by omega), hx4]; unfold rg; omega))) (by intros; subst_vars; first | omega | (unfold rg; omega) | (have hh := hsee _ _ hx4 ‹Se σ _ _›; have h6 := (‹Se σ _ _›).2.1; first | exact hlw hh.1 | (rw [h6 _ _ (by omega)]; omega) | (rw [hh.2.1 4 (by omega)]; simp [nmF]; omega) | (rw [h6 _ _ (by omega), hx4]; omega) | (rw [h6 _ _ (by omega), hx4]; exact rg_fly (by omega)) | (have hmk := ‹Mk (si _ 68 5 0) _›; rw [gi_of hmk.1, hh.1 _ _ (by omega), hx4]; unfold rg; omega))) (by intros; subst_vars; first | omega | (unfold rg; omega) | (have hh := hsee _ _ hx4 ‹Se σ _ _›; have h6 := (‹Se σ _ _›).2.1; first | exact hlw hh.1 | (rw [h6 _ _ (by omega)]; omega) | (rw [hh.2.1 4 (by omega)]; simp [nmF]; omega) | (rw [h6 _ _ (by omega), hx4]; omega) | (rw [h6 _ _ (by omega), hx4]; exact rg_fly (by omega)) | (have hmk := ‹Mk (si _ 68 5 0) _›; rw [gi_of hmk.1, hh.1 _ _ (by omega), hx4]; unfold rg; omega))) (by intros; subst_vars; first | omega | (unfold rg; omega) | (have hh := hsee _ _ hx4 ‹Se σ _ _›; have h6 := (‹Se σ _ _›).2.1; first | exact hlw hh.1 | (rw [h6 _ _ (by omega)]; omega) | (rw [hh.2.1 4 (by omega)]; simp [nmF]; omega) | (rw [h6 _ _ (by omega), hx4]; omega) | (rw [h6 _ _ (by omega), hx4]; exact rg_fly (by omega)) | (have hmk := ‹Mk (si _ 68 5 0) _›; rw [gi_of hmk.1, hh.1 _ _ (by omega), hx4]; unfold rg; omega))) (by intros; subst_vars; first | omega | (unfold rg; omega) | (have hh := hsee _ _ hx4 ‹Se σ _ _›; have h6 := (‹Se σ _ _›).2.1; first | exact hlw hh.1 | (rw [h6 _ _ (by omega)]; omega) | (rw [hh.2.1 4 (by omega)]; simp [nmF]; omega) | (rw [h6 _ _ (by omega), hx4]; omega) | (rw [h6 _ _ (by omega), hx4]; exact rg_fly (by omega)) | (have hmk := ‹Mk (si _ 68 5 0) _›; rw [gi_of hmk.1, hh.1 _ _ (by omega), hx4]; unfold rg; omega))) (by intros; subst_vars; first | omega | (unfold rg; omega) | (have hh := hsee _ _ hx4 ‹Se σ _ _›; have h6 := (‹Se σ _ _›).2.1; first | exact hlw hh.1 | (rw [h6 _ _ (by omega)]; omega) | (rw [hh.2.1 4 (by omega)]; simp [nmF]; omega) | (rw [h6 _ _ (by omega), hx4]; omega) | (rw [h6 _ _ (by omega), hx4]; exact rg_fly (by omega)) | (have hmk := ‹Mk (si _ 68 5 0) _›; rw [gi_of hmk.1, hh.1 _ _ (by omega), hx4]; unfold rg; omega))) (by intros; subst_vars; first | omega | (unfold rg; omega) | (have hh := hsee _ _ hx4 ‹Se σ _ _›; have h6 := (‹Se σ _ _›).2.1; first | exact hlw hh.1 | (rw [h6 _ _ (by omega)]; omega) | (rw [hh.2.1 4 (by omega)]; simp [nmF]; omega) | (rw [h6 _ _ (by omega), hx4]; omega) | (rw [h6 _ _ (by omega), hx4]; exact rg_fly (by omega)) | (have hmk := ‹Mk (si _ 68 5 0) _›; rw [gi_of hmk.1, hh.1 _ _ (by omega), hx4]; unfold rg; omega))) (by intros; subst_vars; first | omega | (unfold rg; omega) | (have hh := hsee _ _ hx4 ‹Se σ _ _›; have h6 := (‹Se σ _ _›).2.1; first | exact hlw hh.1 | (rw [h6 _ _ (by omega)]; omega) | (rw [hh.2.1 4 (by omega)]; simp [nmF]; omega) | (rw [h6 _ _ (by omega), hx4]; omega) | (rw [h6 _ _ (by omega), hx4]; exact rg_fly (by omega)) | (have hmk := ‹Mk (si _ 68 5 0) _›; rw [gi_of hmk.1, hh.1 _ _ (by omega), hx4]; unfold rg; omega))) (by intros; subst_vars; first | omega | (unfold rg; omega) | (have hh := hsee _ _ hx4 ‹Se σ _ _›; have h6 := (‹Se σ _ _›).2.1; first | exact hlw hh.1 | (rw [h6 _ _ (by omega)]; omega) | (rw [hh.2.1 4 (by omega)]; simp [nmF]; omega) | (rw [h6 _ _ (by omega), hx4]; omega) | (rw [h6 _ _ (by omega), hx4]; exact rg_fly (by omega)) | (have hmk := ‹Mk (si _ 68 5 0) _›; rw [gi_of hmk.1, hh.1 _ _ (by omega), hx4]; unfold rg; omega))) (by intros; subst_vars; first | omega | (unfold rg; omega) | (have hh := hsee _ _ hx4 ‹Se σ _ _›; have h6 := (‹Se σ _ _›).2.1; first | exact hlw hh.1 | (rw [h6 _ _ (by omega)]; omega) | (rw [hh.2.1 4 (by omega)]; simp [nmF]; omega) | (rw [h6 _ _ (by omega), hx4]; omega) | (rw [h6 _ _ (by omega), hx4]; exact rg_fly (by omega)) | (have hmk := ‹Mk (si _ 68 5 0) _›; rw [gi_of hmk.1, hh.1 _ _ (by omega), hx4]; unfold rg; omega))) ?_
  intro x2 hx2 x4' hx4' s6 hse t9 ht9 x14 hx14 s12 hm x16 hx16 x18 hx18
  have hh := hsee s6 x4' (by rw [hx4', hx4]) hse
  have h6 := hse.2.1
  rw [← ht9] at hh
  obtain ⟨h1, h2, h3⟩ := hh
  have g12 := gi_of hm.1
  have hT : ∀ f, f ≤ 15 → vw t9 5 f = vw σ 5 f := vw_eq fun a b p q => h1 a b (by omega)
  have hfl : x14 = flyS (vw σ 5) (nmF (gi σ 7 j) (gi σ 8 j) (s : Int) mo (gi σ 49 0)) (gi σ 70 3) := by
    rw [hx14, flyS_eq hT, flyS_seen h2, h6 70 3 (by omega)]
  have hfi := flyS_in (vw σ 5) (nmF (gi σ 7 j) (gi σ 8 j) (s : Int) mo (gi σ 49 0)) (gi σ 70 3)
  rw [← hfl] at hfi
  have hout : outN (vw σ 5) (wv σ 49) mo (gi σ 70 3) j u = (if (s : Int) < x14 then (s : Int) else x14).toNat := by
    unfold outN
    rw [hV6, hV0, hfl]
    rfl
  rw [hout] at hP
  obtain ⟨m, hm'⟩ : ∃ m : Nat, m = (if (s : Int) < x14 then (s : Int) else x14).toNat := ⟨_, rfl⟩
  rw [← hm'] at hP
  subst hx2
  rw [huu] at hx16 hx18 ⊢
  rw [Int.toNat_natCast, h6 _ _ (by omega), hss] at hx16
  rw [Int.toNat_natCast, g12, h1 _ _ (by omega), hss] at hx18
  have hms : m ≤ s := by omega
  have hlf : x16 = (s : Int) - m := by omega
  refine R_eq (loopUp (N := m) (I := fun k => ∀ (τ : Mm) (z : Option PV), (∀ a b, (a < 49 ∨ 49 + 8 < a) → a ≠ 68 → gi τ a b = gi σ a b) → (∀ a b, a ≠ 67 → a ≠ 69 → gl τ a b = gl σ a b) → wv τ 49 = airN (vw σ 5) (wv σ 49) u k → R 78 58 [some (vr 70), some (vr 49), some (vi (j : Int)), some (vi mo), some (vi (u : Int)), some (vi ((s : Int) - m)), some (vi ((s : Int) - 1 - k)), z] [] (shF n) 0 0 τ (Qv (shF n) P)) (fun k hk ih => ?_) 0 (by omega) s12 none (fun a b _ h => by rw [g12, h1 a b h]) (fun a b p q => by rw [hm.2 a b p q]; show t9.2 a b = σ.2 a b; rw [h3]) (wv_eq fun f b hf => by rw [g12, h1 _ _ (by omega)])) (by rw [hlf, hx18]; simp)
  intro τ z e1 e2 e3
  have e7 : ∀ b, gi τ 56 b = gi σ 56 b := fun b => by
    have := congrFun (congrFun e3 7) b
    rw [airN_other (by omega) (by omega), wv_at (by omega), wv_at (by omega)] at this
    exact this
  have e0 : gi τ 49 0 = gi σ 49 0 := by
    have := congrFun (congrFun e3 0) 0
    rw [airN_other (by omega) (by omega), wv_at (by omega), wv_at (by omega)] at this
    exact this
  have e5 := e1 5 2 (by omega) (by omega)
  have eI : k < s → ((u : Int) * 8 + ((s : Int) - 1 - k)).toNat = u * 8 + (s - 1 - k) := fun h => by omega
  have hff : k < s → 0 ≤ gi σ 56 (u * 8 + (s - 1 - k)) ∧ gi σ 56 (u * 8 + (s - 1 - k)) < 10 := fun h => hf _ (by omega)
  refine v_air_49_58 j mo u _ _ z (by intros; subst_vars; first | omega | (unfold rg; omega) | (rw [eI (by omega), e7]; have := hff (by omega); omega) | (rw [gi_ne (by omega)]; omega)) (by intros; subst_vars; first | omega | (unfold rg; omega) | (rw [eI (by omega), e7]; have := hff (by omega); omega) | (rw [gi_ne (by omega)]; omega)) (by intros; subst_vars; first | omega | (unfold rg; omega) | (rw [eI (by omega), e7]; have := hff (by omega); omega) | (rw [gi_ne (by omega)]; omega)) (by intros; subst_vars; first | omega | (unfold rg; omega) | (rw [eI (by omega), e7]; have := hff (by omega); omega) | (rw [gi_ne (by omega)]; omega)) (by intros; subst_vars; first | omega | (unfold rg; omega) | (rw [eI (by omega), e7]; have := hff (by omega); omega) | (rw [gi_ne (by omega)]; omega)) (by intros; subst_vars; first | omega | (unfold rg; omega) | (rw [eI (by omega), e7]; have := hff (by omega); omega) | (rw [gi_ne (by omega)]; omega)) (by intros; subst_vars; first | omega | (unfold rg; omega) | (rw [eI (by omega), e7]; have := hff (by omega); omega) | (rw [gi_ne (by omega)]; omega)) (by intros; subst_vars; first | omega | (unfold rg; omega) | (rw [eI (by omega), e7]; have := hff (by omega); omega) | (rw [gi_ne (by omega)]; omega)) ?_ ?_
  · intro hkm t ht
    have hkm : k = m := by omega
    subst hkm
    subst ht
    refine hP _ ⟨fun a b p q => by rw [gi_ne (by omega)]; exact e1 a b p q, e2, ?_⟩
    rw [wv_si (W := 49) (g := 6) rfl (by omega)]
    funext f b
    simp only [airU, hV6]
    by_cases h6 : f = 6
    · subst h6
      by_cases hb : b = u
      · simp [hb]
      · simp only [hb, and_false, if_false, if_true]
        rw [e3, airN_other (by omega) (by omega)]
    · simp only [h6, false_and, if_false]
      rw [e3]
  · intro hkm x7 hx7 t9' ht9' s11 hw x14' hx14'
    have hks : k < m := by omega
    rw [eI (by omega), e7] at hx7
    obtain ⟨w1, w2, w3⟩ := hw
    subst ht9'
    have hT2 : ∀ f, f ≤ 15 → vw (si τ 53 x7.toNat 2) 5 f = vw σ 5 f := vw_eq fun a b p q => by rw [gi_ne (by omega)]; exact e1 a b (by omega) (by omega)
    refine R_eq (ih (by omega) s11 (some (vi x7)) (fun a b p q => by rw [w2 a b p, gi_ne (by omega)]; exact e1 a b p q) (fun a b p q => by show s11.2 a b = _; rw [w1]; exact e2 a b p q) ?_) (by rw [hx14']; simp; omega)
    rw [w3, wv_si (W := 49) (g := 4) rfl (by omega), e3]
    funext f b
    have hU7 : airN (vw σ 5) (wv σ 49) u k 7 (u * 8 + (s - 1 - k)) = x7 := by rw [airN_other (by omega) (by omega), wv_at (by omega), hx7]
    show _ = stepA (vw σ 5) (airN (vw σ 5) (wv σ 49) u k) u ((wv σ 49 6 u).toNat - 1 - k) f b
    rw [hV6, Int.toNat_natCast]
    simp only [stepA, tellV, hU7]
    by_cases h4 : f = 4
    · subst h4
      simp
    · by_cases h8 : f = 8
      · subst h8
        rw [hT2 0 (by omega), hT2 9 (by omega), hT2 10 (by omega)]
        simp only [show ((s - 1 - k : Nat) : Int) = (s : Int) - 1 - k by omega]
        simp
      · simp [h4, h8]
