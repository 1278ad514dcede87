/-! A FEATHER LAID -/
def layV (V : Nat → Nat → Int) (u c : Nat) : Nat → Nat → Int := fun f i =>
  if V 6 u < 8 then
    (if f = 4 then (if i = c then 1 else V 4 i) else if f = 6 then (if i = u then V 6 u + 1 else V 6 i) else if f = 7 then (if i = u * 8 + (V 6 u).toNat then (c : Int) else V 7 i) else V f i)
  else
    (if f = 4 then (if i = c then 1 else if i = (V 7 (u * 8)).toNat then 3 else V 4 i) else if f = 6 then (if i = u then 8 else V 6 i) else if f = 7 then (if i = u * 8 + 7 then (c : Int) else if u * 8 ≤ i ∧ i < u * 8 + 7 then V 7 (i + 1) else V 7 i) else V f i)
/-- the world of cells W .. W + 8 is V; all else is as it was -/
def wv (σ : Mm) (W : Nat) : Nat → Nat → Int := fun f i => if f ≤ 8 then gi σ (W + f) i else 0
def Wf (W : Nat) (σ σ' : Mm) (V : Nat → Nat → Int) : Prop := σ'.2 = σ.2 ∧ (∀ a b, (a < W ∨ W + 8 < a) → gi σ' a b = gi σ a b) ∧ wv σ' W = V
theorem cases9 {f : Nat} (h : f ≤ 8) : f = 0 ∨ f = 1 ∨ f = 2 ∨ f = 3 ∨ f = 4 ∨ f = 5 ∨ f = 6 ∨ f = 7 ∨ f = 8 := by omega
theorem lay_wv {σ σ' : Mm} {W u c : Nat} (h : ∀ f b, f ≤ 8 → gi σ' (W + f) b = layV (vw σ W) u c f b) : wv σ' W = layV (wv σ W) u c := by
  funext f b
  rcases Nat.lt_or_ge 8 f with hf | hf
  · simp only [wv, layV, if_neg (show ¬ f ≤ 8 by omega), if_neg (show ¬ f = 4 by omega), if_neg (show ¬ f = 6 by omega), if_neg (show ¬ f = 7 by omega)]
    simp
  · show (if f ≤ 8 then gi σ' (W + f) b else 0) = _
    rw [if_pos hf, h f b hf]
    simp only [layV, wv, vw, if_pos (show 4 ≤ 8 by omega), if_pos (show 6 ≤ 8 by omega), if_pos (show 7 ≤ 8 by omega), if_pos hf, if_pos (show 4 ≤ 15 by omega), if_pos (show 6 ≤ 15 by omega), if_pos (show 7 ≤ 15 by omega), if_pos (show f ≤ 15 by omega)]
theorem v_lay_40_0 {n : Nat}  (u : Nat) (c : Nat) {σ : Mm} {P : Mm → Prop} (o1 : rg ((u : Int) * 8)) (o2 : (0 ≤ (u : Int) ∧ (u : Int) < 5)) (o3 : (gi σ 46 u) < (8 : Int) → rg (((u : Int) * 8) + (gi σ 46 u))) (o4 : (gi σ 46 u) < (8 : Int) → (0 ≤ (((u : Int) * 8) + (gi σ 46 u)) ∧ (((u : Int) * 8) + (gi σ 46 u)) < 40)) (o5 : (gi σ 46 u) < (8 : Int) → ∀ t6 : Mm, t6 = si σ 47 (((u : Int) * 8) + (gi σ 46 u)).toNat (c : Int) → rg ((gi σ 46 u) + 1)) (o6 : (gi σ 46 u) < (8 : Int) → ∀ t6 : Mm, t6 = si σ 47 (((u : Int) * 8) + (gi σ 46 u)).toNat (c : Int) → ∀ t8 : Mm, t8 = si t6 46 u ((gi σ 46 u) + 1) → (0 ≤ (c : Int) ∧ (c : Int) < 10)) (o7 : (8 : Int) ≤ (gi σ 46 u) → (0 ≤ ((u : Int) * 8) ∧ ((u : Int) * 8) < 40)) (o8 : (8 : Int) ≤ (gi σ 46 u) → (0 ≤ (gi σ 47 (u * 8)) ∧ (gi σ 47 (u * 8)) < 10)) (l1 : (gi σ 46 u) < (8 : Int) → ∀ t6 : Mm, t6 = si σ 47 (((u : Int) * 8) + (gi σ 46 u)).toNat (c : Int) → ∀ t8 : Mm, t8 = si t6 46 u ((gi σ 46 u) + 1) → ∀ t10 : Mm, t10 = si t8 44 c (1 : Int) → P t10) (l2 : (8 : Int) ≤ (gi σ 46 u) → ∀ t13 : Mm, t13 = si σ 44 (gi σ 47 (u * 8)).toNat (3 : Int) → R 86 31 [some (vr 40), some (vi (u : Int)), some (vi (c : Int)), some (vi ((u : Int) * 8)), some (vi 1)] [] (shF n) 0 0 t13 (Qv (shF n) P)) : Cv 86 [vr 40, vi (u : Int), vi (c : Int)] (shF n) σ P :=
  show R 86 0 [some (vr 40), some (vi (u : Int)), some (vi (c : Int)), none, none] [] (shF n) 0 0 σ (Qv (shF n) P) from wpK_R 34 [31] ((have k1 := (o1); And.intro k1 ((have k2 := (o2); And.intro k2 (And.intro (fun q3 => And.intro k2 ((have k4 := (o3 q3); And.intro k4 ((have k5 := (o4 q3); And.intro k5 (And.intro k2 ((have k7 := (o5 q3 _ rfl); And.intro k7 (And.intro k2 ((have k9 := (o6 q3 _ rfl _ rfl); And.intro k9 (And.intro ret0 ⟨rfl, rfl, (l1 q3 _ rfl _ rfl _ rfl)⟩)))))))))))) (fun q3 => (have k11 := (o7 (Int.not_lt.mp q3)); And.intro k11 ((have k12 := (o8 (Int.not_lt.mp q3)); And.intro k12 ((l2 (Int.not_lt.mp q3) _ rfl)))))))))))
theorem v_lay_40_31 {n : Nat}  (u : Nat) (c : Nat) (x : Int) (k : Nat) {σ : Mm} {P : Mm → Prop} (o1 : (8 : Int) ≤ (k : Int) → (0 ≤ (u : Int) ∧ (u : Int) < 5)) (o2 : (8 : Int) ≤ (k : Int) → ∀ t3 : Mm, t3 = si σ 46 u (7 : Int) → rg (x + (gi t3 46 u))) (o3 : (8 : Int) ≤ (k : Int) → ∀ t3 : Mm, t3 = si σ 46 u (7 : Int) → (0 ≤ (x + (gi t3 46 u)) ∧ (x + (gi t3 46 u)) < 40)) (o4 : (8 : Int) ≤ (k : Int) → ∀ t3 : Mm, t3 = si σ 46 u (7 : Int) → ∀ t6 : Mm, t6 = si t3 47 (x + (gi t3 46 u)).toNat (c : Int) → rg ((gi t3 46 u) + 1)) (o5 : (8 : Int) ≤ (k : Int) → ∀ t3 : Mm, t3 = si σ 46 u (7 : Int) → ∀ t6 : Mm, t6 = si t3 47 (x + (gi t3 46 u)).toNat (c : Int) → ∀ t8 : Mm, t8 = si t6 46 u ((gi t3 46 u) + 1) → (0 ≤ (c : Int) ∧ (c : Int) < 10)) (o6 : (k : Int) < (8 : Int) → rg (x + (k : Int))) (o7 : (k : Int) < (8 : Int) → rg ((x + (k : Int)) - 1)) (o8 : (k : Int) < (8 : Int) → (0 ≤ (x + (k : Int)) ∧ (x + (k : Int)) < 40)) (o9 : (k : Int) < (8 : Int) → (0 ≤ ((x + (k : Int)) - 1) ∧ ((x + (k : Int)) - 1) < 40)) (o10 : (k : Int) < (8 : Int) → ∀ t15 : Mm, t15 = si σ 47 ((x + (k : Int)) - 1).toNat (gi σ 47 (x + (k : Int)).toNat) → rg ((k : Int) + 1)) (l1 : (8 : Int) ≤ (k : Int) → ∀ t3 : Mm, t3 = si σ 46 u (7 : Int) → ∀ t6 : Mm, t6 = si t3 47 (x + (gi t3 46 u)).toNat (c : Int) → ∀ t8 : Mm, t8 = si t6 46 u ((gi t3 46 u) + 1) → ∀ t10 : Mm, t10 = si t8 44 c (1 : Int) → P t10) (l2 : (k : Int) < (8 : Int) → ∀ t15 : Mm, t15 = si σ 47 ((x + (k : Int)) - 1).toNat (gi σ 47 (x + (k : Int)).toNat) → R 86 31 [some (vr 40), some (vi (u : Int)), some (vi (c : Int)), some (vi x), some (vi ((k : Int) + 1))] [] (shF n) 0 0 t15 (Qv (shF n) P)) : R 86 31 [some (vr 40), some (vi (u : Int)), some (vi (c : Int)), some (vi x), some (vi (k : Int))] [] (shF n) 0 0 σ (Qv (shF n) P) :=
  wpK_R 32 [31] (And.intro (fun q1 => (have k2 := (o1 q1); And.intro k2 (And.intro k2 ((have k4 := (o2 q1 _ rfl); And.intro k4 ((have k5 := (o3 q1 _ rfl); And.intro k5 (And.intro k2 ((have k7 := (o4 q1 _ rfl _ rfl); And.intro k7 (And.intro k2 ((have k9 := (o5 q1 _ rfl _ rfl _ rfl); And.intro k9 (And.intro ret0 ⟨rfl, rfl, (l1 q1 _ rfl _ rfl _ rfl _ rfl)⟩)))))))))))))) (fun q1 => (have k11 := (o6 (Int.not_le.mp q1)); And.intro k11 ((have k12 := (o7 (Int.not_le.mp q1)); And.intro k12 (And.intro k11 ((have k13 := (o8 (Int.not_le.mp q1)); And.intro k13 ((have k14 := (o9 (Int.not_le.mp q1)); And.intro k14 ((have k16 := (o10 (Int.not_le.mp q1) _ rfl); And.intro k16 ((l2 (Int.not_le.mp q1) _ rfl))))))))))))))
theorem c_lay_40 {n : Nat} {u c : Int} {σ : Mm} {P : Mm → Prop} (hu : 0 ≤ u ∧ u < 5) (hc : 0 ≤ c ∧ c < 10) (hs : 0 ≤ gi σ 46 u.toNat ∧ gi σ 46 u.toNat ≤ 8) (h0 : gi σ 46 u.toNat < 8 ∨ (0 ≤ gi σ 47 (u.toNat * 8) ∧ gi σ 47 (u.toNat * 8) < 10))
    (hP : ∀ σ', Wf 40 σ σ' (layV (wv σ 40) u.toNat c.toNat) → P σ') : Cv 86 [vr 40, vi u, vi c] (shF n) σ P := by
  obtain ⟨u, rfl⟩ := Int.eq_ofNat_of_zero_le hu.1
  obtain ⟨c, rfl⟩ := Int.eq_ofNat_of_zero_le hc.1
  simp only [Int.toNat_natCast] at hs h0 hP
  refine v_lay_40_0 u c (by intros; subst_vars; first | omega | (unfold rg; omega) | (simp only [gi_si]; first | omega | (unfold rg; omega) | (simp; first | omega | (unfold rg; omega)))) (by intros; subst_vars; first | omega | (unfold rg; omega) | (simp only [gi_si]; first | omega | (unfold rg; omega) | (simp; first | omega | (unfold rg; omega)))) (by intros; subst_vars; first | omega | (unfold rg; omega) | (simp only [gi_si]; first | omega | (unfold rg; omega) | (simp; first | omega | (unfold rg; omega)))) (by intros; subst_vars; first | omega | (unfold rg; omega) | (simp only [gi_si]; first | omega | (unfold rg; omega) | (simp; first | omega | (unfold rg; omega)))) (by intros; subst_vars; first | omega | (unfold rg; omega) | (simp only [gi_si]; first | omega | (unfold rg; omega) | (simp; first | omega | (unfold rg; omega)))) (by intros; subst_vars; first | omega | (unfold rg; omega) | (simp only [gi_si]; first | omega | (unfold rg; omega) | (simp; first | omega | (unfold rg; omega)))) (by intros; subst_vars; first | omega | (unfold rg; omega) | (simp only [gi_si]; first | omega | (unfold rg; omega) | (simp; first | omega | (unfold rg; omega)))) (by intros; subst_vars; first | omega | (unfold rg; omega) | (simp only [gi_si]; first | omega | (unfold rg; omega) | (simp; first | omega | (unfold rg; omega)))) ?_ ?_
  · intro hl; intros; subst_vars
    refine hP _ ⟨rfl, fun a b h => ?_, lay_wv fun f b hf => ?_⟩
    · rw [gi_ne (by omega), gi_ne (by omega), gi_ne (by omega)]
    · rw [show ((u : Int) * 8 + gi σ 46 u).toNat = u * 8 + (gi σ 46 u).toNat by omega]
      have hl' : vw σ 40 6 u < 8 := hl
      simp only [layV, if_pos hl']
      rcases cases9 hf with rfl | rfl | rfl | rfl | rfl | rfl | rfl | rfl | rfl <;> simp [gi_same, gi_ne, vw] <;> rfl
  · intro hl t ht
    have h8 : gi σ 46 u = 8 := by omega
    have h0 : 0 ≤ gi σ 47 (u * 8) ∧ gi σ 47 (u * 8) < 10 := by omega
    refine loopUp (N := 8) (I := fun k => ∀ τ : Mm, 1 ≤ k → τ.2 = σ.2 → (∀ a b, a ≠ 47 → gi τ a b = gi t a b) → (∀ b, gi τ 47 b = if u * 8 ≤ b ∧ b + 1 < u * 8 + k then gi σ 47 (b + 1) else gi σ 47 b) → R 86 31 [some (vr 40), some (vi (u : Int)), some (vi (c : Int)), some (vi ((u : Int) * 8)), some (vi (k : Int))] [] (shF n) 0 0 τ (Qv (shF n) P)) (fun k hk ih => ?_) 1 (by omega) t (by omega) (by rw [ht]; rfl) (fun _ _ _ => rfl) (fun b => by
      rw [ht, gi_ne (by omega), if_neg (by omega)])
    intro τ hk1 e1 e2 e3
    have e6 := e2 46 u (by omega)
    rw [ht, gi_ne (by omega)] at e6
    refine v_lay_40_31 u c _ k (by intros; subst_vars; first | omega | (unfold rg; omega) | (simp only [gi_si]; first | omega | (unfold rg; omega) | (simp; first | omega | (unfold rg; omega)))) (by intros; subst_vars; first | omega | (unfold rg; omega) | (simp only [gi_si]; first | omega | (unfold rg; omega) | (simp; first | omega | (unfold rg; omega)))) (by intros; subst_vars; first | omega | (unfold rg; omega) | (simp only [gi_si]; first | omega | (unfold rg; omega) | (simp; first | omega | (unfold rg; omega)))) (by intros; subst_vars; first | omega | (unfold rg; omega) | (simp only [gi_si]; first | omega | (unfold rg; omega) | (simp; first | omega | (unfold rg; omega)))) (by intros; subst_vars; first | omega | (unfold rg; omega) | (simp only [gi_si]; first | omega | (unfold rg; omega) | (simp; first | omega | (unfold rg; omega)))) (by intros; subst_vars; first | omega | (unfold rg; omega) | (simp only [gi_si]; first | omega | (unfold rg; omega) | (simp; first | omega | (unfold rg; omega)))) (by intros; subst_vars; first | omega | (unfold rg; omega) | (simp only [gi_si]; first | omega | (unfold rg; omega) | (simp; first | omega | (unfold rg; omega)))) (by intros; subst_vars; first | omega | (unfold rg; omega) | (simp only [gi_si]; first | omega | (unfold rg; omega) | (simp; first | omega | (unfold rg; omega)))) (by intros; subst_vars; first | omega | (unfold rg; omega) | (simp only [gi_si]; first | omega | (unfold rg; omega) | (simp; first | omega | (unfold rg; omega)))) (by intros; subst_vars; first | omega | (unfold rg; omega) | (simp only [gi_si]; first | omega | (unfold rg; omega) | (simp; first | omega | (unfold rg; omega)))) ?_ ?_
    · intros; subst_vars
      have hk8 : k = 8 := by omega
      subst hk8
      refine hP _ ⟨e1, fun a b h => ?_, lay_wv fun f b hf => ?_⟩
      · rw [gi_ne (by omega), gi_ne (by omega), gi_ne (by omega), gi_ne (by omega), e2 a b (by omega), gi_ne (by omega)]
      · have hl' : ¬ vw σ 40 6 u < 8 := by show ¬ gi σ 46 u < 8; omega
        rw [show ((u : Int) * 8 + gi (si τ 46 u 7) 46 u).toNat = u * 8 + 7 by rw [gi_hit]; omega]
        simp only [layV, if_neg hl']
        have e4 : ∀ b, gi τ 44 b = if b = (gi σ 47 (u * 8)).toNat then 3 else gi σ 44 b := fun b => by rw [e2 _ _ (by omega), gi_same]
        have e5 : ∀ a b, a ≠ 47 → a ≠ 44 → gi τ a b = gi σ a b := fun a b h1 h2 => by rw [e2 a b h1, gi_ne h2]
        rcases cases9 hf with rfl | rfl | rfl | rfl | rfl | rfl | rfl | rfl | rfl
        · simp [gi_same, gi_ne, vw, e5]
        · simp [gi_same, gi_ne, vw, e5]
        · simp [gi_same, gi_ne, vw, e5]
        · simp [gi_same, gi_ne, vw, e5]
        · simp [gi_same, gi_ne, vw, e4] <;> rfl
        · simp [gi_same, gi_ne, vw, e5]
        · simp [gi_same, gi_ne, vw, e5]
          split <;> simp_all
        · simp [gi_same, gi_ne, vw, e3] <;> rfl
        · simp [gi_same, gi_ne, vw, e5]
    · intro hk8 t2 ht2
      refine ih (by omega) t2 (by omega) (by rw [ht2]; exact e1) (fun a b h => by rw [ht2, gi_ne h]; exact e2 a b h) (fun b => ?_)
      rw [ht2, show ((u : Int) * 8 + (k : Int) - 1).toNat = u * 8 + k - 1 by omega, gi_same, e3, e3]
      split
      · rw [if_neg (by omega), if_pos (by omega)]; congr 1; omega
      · rename_i hne
        have : (u * 8 ≤ b ∧ b + 1 < u * 8 + k) ↔ (u * 8 ≤ b ∧ b + 1 < u * 8 + (k + 1)) := by omega
        simp only [this]
theorem v_lay_49_0 {n : Nat}  (u : Nat) (c : Nat) {σ : Mm} {P : Mm → Prop} (o1 : rg ((u : Int) * 8)) (o2 : (0 ≤ (u : Int) ∧ (u : Int) < 5)) (o3 : (gi σ 55 u) < (8 : Int) → rg (((u : Int) * 8) + (gi σ 55 u))) (o4 : (gi σ 55 u) < (8 : Int) → (0 ≤ (((u : Int) * 8) + (gi σ 55 u)) ∧ (((u : Int) * 8) + (gi σ 55 u)) < 40)) (o5 : (gi σ 55 u) < (8 : Int) → ∀ t6 : Mm, t6 = si σ 56 (((u : Int) * 8) + (gi σ 55 u)).toNat (c : Int) → rg ((gi σ 55 u) + 1)) (o6 : (gi σ 55 u) < (8 : Int) → ∀ t6 : Mm, t6 = si σ 56 (((u : Int) * 8) + (gi σ 55 u)).toNat (c : Int) → ∀ t8 : Mm, t8 = si t6 55 u ((gi σ 55 u) + 1) → (0 ≤ (c : Int) ∧ (c : Int) < 10)) (o7 : (8 : Int) ≤ (gi σ 55 u) → (0 ≤ ((u : Int) * 8) ∧ ((u : Int) * 8) < 40)) (o8 : (8 : Int) ≤ (gi σ 55 u) → (0 ≤ (gi σ 56 (u * 8)) ∧ (gi σ 56 (u * 8)) < 10)) (l1 : (gi σ 55 u) < (8 : Int) → ∀ t6 : Mm, t6 = si σ 56 (((u : Int) * 8) + (gi σ 55 u)).toNat (c : Int) → ∀ t8 : Mm, t8 = si t6 55 u ((gi σ 55 u) + 1) → ∀ t10 : Mm, t10 = si t8 53 c (1 : Int) → P t10) (l2 : (8 : Int) ≤ (gi σ 55 u) → ∀ t13 : Mm, t13 = si σ 53 (gi σ 56 (u * 8)).toNat (3 : Int) → R 86 31 [some (vr 49), some (vi (u : Int)), some (vi (c : Int)), some (vi ((u : Int) * 8)), some (vi 1)] [] (shF n) 0 0 t13 (Qv (shF n) P)) : Cv 86 [vr 49, vi (u : Int), vi (c : Int)] (shF n) σ P :=
  show R 86 0 [some (vr 49), some (vi (u : Int)), some (vi (c : Int)), none, none] [] (shF n) 0 0 σ (Qv (shF n) P) from wpK_R 34 [31] ((have k1 := (o1); And.intro k1 ((have k2 := (o2); And.intro k2 (And.intro (fun q3 => And.intro k2 ((have k4 := (o3 q3); And.intro k4 ((have k5 := (o4 q3); And.intro k5 (And.intro k2 ((have k7 := (o5 q3 _ rfl); And.intro k7 (And.intro k2 ((have k9 := (o6 q3 _ rfl _ rfl); And.intro k9 (And.intro ret0 ⟨rfl, rfl, (l1 q3 _ rfl _ rfl _ rfl)⟩)))))))))))) (fun q3 => (have k11 := (o7 (Int.not_lt.mp q3)); And.intro k11 ((have k12 := (o8 (Int.not_lt.mp q3)); And.intro k12 ((l2 (Int.not_lt.mp q3) _ rfl)))))))))))
theorem v_lay_49_31 {n : Nat}  (u : Nat) (c : Nat) (x : Int) (k : Nat) {σ : Mm} {P : Mm → Prop} (o1 : (8 : Int) ≤ (k : Int) → (0 ≤ (u : Int) ∧ (u : Int) < 5)) (o2 : (8 : Int) ≤ (k : Int) → ∀ t3 : Mm, t3 = si σ 55 u (7 : Int) → rg (x + (gi t3 55 u))) (o3 : (8 : Int) ≤ (k : Int) → ∀ t3 : Mm, t3 = si σ 55 u (7 : Int) → (0 ≤ (x + (gi t3 55 u)) ∧ (x + (gi t3 55 u)) < 40)) (o4 : (8 : Int) ≤ (k : Int) → ∀ t3 : Mm, t3 = si σ 55 u (7 : Int) → ∀ t6 : Mm, t6 = si t3 56 (x + (gi t3 55 u)).toNat (c : Int) → rg ((gi t3 55 u) + 1)) (o5 : (8 : Int) ≤ (k : Int) → ∀ t3 : Mm, t3 = si σ 55 u (7 : Int) → ∀ t6 : Mm, t6 = si t3 56 (x + (gi t3 55 u)).toNat (c : Int) → ∀ t8 : Mm, t8 = si t6 55 u ((gi t3 55 u) + 1) → (0 ≤ (c : Int) ∧ (c : Int) < 10)) (o6 : (k : Int) < (8 : Int) → rg (x + (k : Int))) (o7 : (k : Int) < (8 : Int) → rg ((x + (k : Int)) - 1)) (o8 : (k : Int) < (8 : Int) → (0 ≤ (x + (k : Int)) ∧ (x + (k : Int)) < 40)) (o9 : (k : Int) < (8 : Int) → (0 ≤ ((x + (k : Int)) - 1) ∧ ((x + (k : Int)) - 1) < 40)) (o10 : (k : Int) < (8 : Int) → ∀ t15 : Mm, t15 = si σ 56 ((x + (k : Int)) - 1).toNat (gi σ 56 (x + (k : Int)).toNat) → rg ((k : Int) + 1)) (l1 : (8 : Int) ≤ (k : Int) → ∀ t3 : Mm, t3 = si σ 55 u (7 : Int) → ∀ t6 : Mm, t6 = si t3 56 (x + (gi t3 55 u)).toNat (c : Int) → ∀ t8 : Mm, t8 = si t6 55 u ((gi t3 55 u) + 1) → ∀ t10 : Mm, t10 = si t8 53 c (1 : Int) → P t10) (l2 : (k : Int) < (8 : Int) → ∀ t15 : Mm, t15 = si σ 56 ((x + (k : Int)) - 1).toNat (gi σ 56 (x + (k : Int)).toNat) → R 86 31 [some (vr 49), some (vi (u : Int)), some (vi (c : Int)), some (vi x), some (vi ((k : Int) + 1))] [] (shF n) 0 0 t15 (Qv (shF n) P)) : R 86 31 [some (vr 49), some (vi (u : Int)), some (vi (c : Int)), some (vi x), some (vi (k : Int))] [] (shF n) 0 0 σ (Qv (shF n) P) :=
  wpK_R 32 [31] (And.intro (fun q1 => (have k2 := (o1 q1); And.intro k2 (And.intro k2 ((have k4 := (o2 q1 _ rfl); And.intro k4 ((have k5 := (o3 q1 _ rfl); And.intro k5 (And.intro k2 ((have k7 := (o4 q1 _ rfl _ rfl); And.intro k7 (And.intro k2 ((have k9 := (o5 q1 _ rfl _ rfl _ rfl); And.intro k9 (And.intro ret0 ⟨rfl, rfl, (l1 q1 _ rfl _ rfl _ rfl _ rfl)⟩)))))))))))))) (fun q1 => (have k11 := (o6 (Int.not_le.mp q1)); And.intro k11 ((have k12 := (o7 (Int.not_le.mp q1)); And.intro k12 (And.intro k11 ((have k13 := (o8 (Int.not_le.mp q1)); And.intro k13 ((have k14 := (o9 (Int.not_le.mp q1)); And.intro k14 ((have k16 := (o10 (Int.not_le.mp q1) _ rfl); And.intro k16 ((l2 (Int.not_le.mp q1) _ rfl))))))))))))))
theorem c_lay_49 {n : Nat} {u c : Int} {σ : Mm} {P : Mm → Prop} (hu : 0 ≤ u ∧ u < 5) (hc : 0 ≤ c ∧ c < 10) (hs : 0 ≤ gi σ 55 u.toNat ∧ gi σ 55 u.toNat ≤ 8) (h0 : gi σ 55 u.toNat < 8 ∨ (0 ≤ gi σ 56 (u.toNat * 8) ∧ gi σ 56 (u.toNat * 8) < 10))
    (hP : ∀ σ', Wf 49 σ σ' (layV (wv σ 49) u.toNat c.toNat) → P σ') : Cv 86 [vr 49, vi u, vi c] (shF n) σ P := by
  obtain ⟨u, rfl⟩ := Int.eq_ofNat_of_zero_le hu.1
  obtain ⟨c, rfl⟩ := Int.eq_ofNat_of_zero_le hc.1
  simp only [Int.toNat_natCast] at hs h0 hP
  refine v_lay_49_0 u c (by intros; subst_vars; first | omega | (unfold rg; omega) | (simp only [gi_si]; first | omega | (unfold rg; omega) | (simp; first | omega | (unfold rg; omega)))) (by intros; subst_vars; first | omega | (unfold rg; omega) | (simp only [gi_si]; first | omega | (unfold rg; omega) | (simp; first | omega | (unfold rg; omega)))) (by intros; subst_vars; first | omega | (unfold rg; omega) | (simp only [gi_si]; first | omega | (unfold rg; omega) | (simp; first | omega | (unfold rg; omega)))) (by intros; subst_vars; first | omega | (unfold rg; omega) | (simp only [gi_si]; first | omega | (unfold rg; omega) | (simp; first | omega | (unfold rg; omega)))) (by intros; subst_vars; first | omega | (unfold rg; omega) | (simp only [gi_si]; first | omega | (unfold rg; omega) | (simp; first | omega | (unfold rg; omega)))) (by intros; subst_vars; first | omega | (unfold rg; omega) | (simp only [gi_si]; first | omega | (unfold rg; omega) | (simp; first | omega | (unfold rg; omega)))) (by intros; subst_vars; first | omega | (unfold rg; omega) | (simp only [gi_si]; first | omega | (unfold rg; omega) | (simp; first | omega | (unfold rg; omega)))) (by intros; subst_vars; first | omega | (unfold rg; omega) | (simp only [gi_si]; first | omega | (unfold rg; omega) | (simp; first | omega | (unfold rg; omega)))) ?_ ?_
  · intro hl; intros; subst_vars
    refine hP _ ⟨rfl, fun a b h => ?_, lay_wv fun f b hf => ?_⟩
    · rw [gi_ne (by omega), gi_ne (by omega), gi_ne (by omega)]
    · rw [show ((u : Int) * 8 + gi σ 55 u).toNat = u * 8 + (gi σ 55 u).toNat by omega]
      have hl' : vw σ 49 6 u < 8 := hl
      simp only [layV, if_pos hl']
      rcases cases9 hf with rfl | rfl | rfl | rfl | rfl | rfl | rfl | rfl | rfl <;> simp [gi_same, gi_ne, vw] <;> rfl
  · intro hl t ht
    have h8 : gi σ 55 u = 8 := by omega
    have h0 : 0 ≤ gi σ 56 (u * 8) ∧ gi σ 56 (u * 8) < 10 := by omega
    refine loopUp (N := 8) (I := fun k => ∀ τ : Mm, 1 ≤ k → τ.2 = σ.2 → (∀ a b, a ≠ 56 → gi τ a b = gi t a b) → (∀ b, gi τ 56 b = if u * 8 ≤ b ∧ b + 1 < u * 8 + k then gi σ 56 (b + 1) else gi σ 56 b) → R 86 31 [some (vr 49), some (vi (u : Int)), some (vi (c : Int)), some (vi ((u : Int) * 8)), some (vi (k : Int))] [] (shF n) 0 0 τ (Qv (shF n) P)) (fun k hk ih => ?_) 1 (by omega) t (by omega) (by rw [ht]; rfl) (fun _ _ _ => rfl) (fun b => by
      rw [ht, gi_ne (by omega), if_neg (by omega)])
    intro τ hk1 e1 e2 e3
    have e6 := e2 55 u (by omega)
    rw [ht, gi_ne (by omega)] at e6
    refine v_lay_49_31 u c _ k (by intros; subst_vars; first | omega | (unfold rg; omega) | (simp only [gi_si]; first | omega | (unfold rg; omega) | (simp; first | omega | (unfold rg; omega)))) (by intros; subst_vars; first | omega | (unfold rg; omega) | (simp only [gi_si]; first | omega | (unfold rg; omega) | (simp; first | omega | (unfold rg; omega)))) (by intros; subst_vars; first | omega | (unfold rg; omega) | (simp only [gi_si]; first | omega | (unfold rg; omega) | (simp; first | omega | (unfold rg; omega)))) (by intros; subst_vars; first | omega | (unfold rg; omega) | (simp only [gi_si]; first | omega | (unfold rg; omega) | (simp; first | omega | (unfold rg; omega)))) (by intros; subst_vars; first | omega | (unfold rg; omega) | (simp only [gi_si]; first | omega | (unfold rg; omega) | (simp; first | omega | (unfold rg; omega)))) (by intros; subst_vars; first | omega | (unfold rg; omega) | (simp only [gi_si]; first | omega | (unfold rg; omega) | (simp; first | omega | (unfold rg; omega)))) (by intros; subst_vars; first | omega | (unfold rg; omega) | (simp only [gi_si]; first | omega | (unfold rg; omega) | (simp; first | omega | (unfold rg; omega)))) (by intros; subst_vars; first | omega | (unfold rg; omega) | (simp only [gi_si]; first | omega | (unfold rg; omega) | (simp; first | omega | (unfold rg; omega)))) (by intros; subst_vars; first | omega | (unfold rg; omega) | (simp only [gi_si]; first | omega | (unfold rg; omega) | (simp; first | omega | (unfold rg; omega)))) (by intros; subst_vars; first | omega | (unfold rg; omega) | (simp only [gi_si]; first | omega | (unfold rg; omega) | (simp; first | omega | (unfold rg; omega)))) ?_ ?_
    · intros; subst_vars
      have hk8 : k = 8 := by omega
      subst hk8
      refine hP _ ⟨e1, fun a b h => ?_, lay_wv fun f b hf => ?_⟩
      · rw [gi_ne (by omega), gi_ne (by omega), gi_ne (by omega), gi_ne (by omega), e2 a b (by omega), gi_ne (by omega)]
      · have hl' : ¬ vw σ 49 6 u < 8 := by show ¬ gi σ 55 u < 8; omega
        rw [show ((u : Int) * 8 + gi (si τ 55 u 7) 55 u).toNat = u * 8 + 7 by rw [gi_hit]; omega]
        simp only [layV, if_neg hl']
        have e4 : ∀ b, gi τ 53 b = if b = (gi σ 56 (u * 8)).toNat then 3 else gi σ 53 b := fun b => by rw [e2 _ _ (by omega), gi_same]
        have e5 : ∀ a b, a ≠ 56 → a ≠ 53 → gi τ a b = gi σ a b := fun a b h1 h2 => by rw [e2 a b h1, gi_ne h2]
        rcases cases9 hf with rfl | rfl | rfl | rfl | rfl | rfl | rfl | rfl | rfl
        · simp [gi_same, gi_ne, vw, e5]
        · simp [gi_same, gi_ne, vw, e5]
        · simp [gi_same, gi_ne, vw, e5]
        · simp [gi_same, gi_ne, vw, e5]
        · simp [gi_same, gi_ne, vw, e4] <;> rfl
        · simp [gi_same, gi_ne, vw, e5]
        · simp [gi_same, gi_ne, vw, e5]
          split <;> simp_all
        · simp [gi_same, gi_ne, vw, e3] <;> rfl
        · simp [gi_same, gi_ne, vw, e5]
    · intro hk8 t2 ht2
      refine ih (by omega) t2 (by omega) (by rw [ht2]; exact e1) (fun a b h => by rw [ht2, gi_ne h]; exact e2 a b h) (fun b => ?_)
      rw [ht2, show ((u : Int) * 8 + (k : Int) - 1).toNat = u * 8 + k - 1 by omega, gi_same, e3, e3]
      split
      · rw [if_neg (by omega), if_pos (by omega)]; congr 1; omega
      · rename_i hne
        have : (u * 8 ≤ b ∧ b + 1 < u * 8 + k) ↔ (u * 8 ≤ b ∧ b + 1 < u * 8 + (k + 1)) := by omega
        simp only [this]
