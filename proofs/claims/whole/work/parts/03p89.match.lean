/-! WAYS: the class's match -/
def Kf (σ : Mm) : Nat := (if gi σ 75 7 = -1 then gi σ 75 6 else gi σ 75 7).toNat
/-- what is struck, by the last d of K findings -/
def skN (how what : Nat → Int) (K : Nat) : Nat → (Nat → Bool)
  | 0 => fun _ => false
  | d + 1 => fun x => skN how what K d x || (decide (how (K - 1 - d) = 2) && !skN how what K d (K - 1 - d) && decide (x = (what (K - 1 - d)).toNat))
def bdC (σ : Mm) (V : Nat → Nat → Int) (j u i : Nat) : Bool := decide (gi σ 78 i ≠ 2) && !skN (gi σ 78) (gi σ 76) (Kf σ) (Kf σ) i && decide (gi σ 77 i = (j : Int)) && (lies V u (V 6 u) (gi σ 76 i).toNat != decide (gi σ 78 i = 1))
/-- no finding speaks against cushion u as judge j's own -/
def ftC (σ : Mm) (V : Nat → Nat → Int) (j u : Nat) : Bool := !anyF (bdC σ V j u) (Kf σ)
def FP (σ : Mm) : Prop := (0 ≤ gi σ 75 6 ∧ gi σ 75 6 ≤ 24) ∧ (-1 ≤ gi σ 75 7 ∧ gi σ 75 7 ≤ gi σ 75 6) ∧ ∀ i : Nat, (i : Int) < gi σ 75 6 → (gi σ 78 i = 2 ∧ (0 ≤ gi σ 76 i ∧ gi σ 76 i < (i : Int))) ∨ ((gi σ 78 i = 0 ∨ gi σ 78 i = 1) ∧ (0 ≤ gi σ 76 i ∧ gi σ 76 i < 10) ∧ (0 ≤ gi σ 77 i ∧ gi σ 77 i < 5))
theorem FP_K {σ : Mm} (h : FP σ) : (Kf σ : Int) = (if gi σ 75 7 = -1 then gi σ 75 6 else gi σ 75 7) ∧ (Kf σ : Int) ≤ gi σ 75 6 ∧ Kf σ ≤ 24 := by
  obtain ⟨h1, h2, -⟩ := h
  unfold Kf
  split <;> omega
theorem v_hf_0 {n : Nat}  (u : Nat) (c : Int) {σ : Mm} {P : Int → Mm → Prop} (l1 : R 90 2 [some (vr 40), some (vi (u : Int)), some (vi c), some (vi 0)] [] (shF n) 0 0 σ (Qi (shF n) P)) : Ci 90 [vr 40, vi (u : Int), vi c] (shF n) σ P :=
  show R 90 0 [some (vr 40), some (vi (u : Int)), some (vi c), none] [] (shF n) 0 0 σ (Qi (shF n) P) from wpK_R 3 [2] ((l1))
theorem v_hf_L {n : Nat}  (u : Nat) (c : Int) (k : Nat) {σ : Mm} {P : Int → Mm → Prop} (o1 : (0 ≤ (u : Int) ∧ (u : Int) < 5)) (o2 : (k : Int) < (gi σ 46 u) → (k : Int) < (8 : Int) → rg ((u : Int) * 8)) (o3 : (k : Int) < (gi σ 46 u) → (k : Int) < (8 : Int) → rg (((u : Int) * 8) + (k : Int))) (o4 : (k : Int) < (gi σ 46 u) → (k : Int) < (8 : Int) → (0 ≤ (((u : Int) * 8) + (k : Int)) ∧ (((u : Int) * 8) + (k : Int)) < 40)) (o5 : (k : Int) < (gi σ 46 u) → (k : Int) < (8 : Int) → (gi σ 47 ((u * 8) + k)) ≠ c → rg ((k : Int) + 1)) (l1 : (gi σ 46 u) ≤ (k : Int) → P 0 σ) (l2 : (k : Int) < (gi σ 46 u) → (8 : Int) ≤ (k : Int) → P 0 σ) (l3 : (k : Int) < (gi σ 46 u) → (k : Int) < (8 : Int) → (gi σ 47 ((u * 8) + k)) ≠ c → R 90 2 [some (vr 40), some (vi (u : Int)), some (vi c), some (vi ((k : Int) + 1))] [] (shF n) 0 0 σ (Qi (shF n) P)) (l4 : (k : Int) < (gi σ 46 u) → (k : Int) < (8 : Int) → (gi σ 47 ((u * 8) + k)) = c → P 1 σ) : R 90 2 [some (vr 40), some (vi (u : Int)), some (vi c), some (vi (k : Int))] [] (shF n) 0 0 σ (Qi (shF n) P) :=
  wpK_R 22 [2] ((have k1 := (o1); And.intro k1 (And.intro (fun q2 => And.intro ret0 (And.intro (Or.inl rfl) ⟨rfl, _, rfl, (l1 q2)⟩)) (fun q2 => And.intro (fun q3 => And.intro ret0 (And.intro (Or.inl rfl) ⟨rfl, _, rfl, (l2 (Int.not_le.mp q2) q3)⟩)) (fun q3 => (have k4 := (o2 (Int.not_le.mp q2) (Int.not_le.mp q3)); And.intro k4 ((have k5 := (o3 (Int.not_le.mp q2) (Int.not_le.mp q3)); And.intro k5 ((have k6 := (o4 (Int.not_le.mp q2) (Int.not_le.mp q3)); And.intro k6 (And.intro (fun q7 => (have k8 := (o5 (Int.not_le.mp q2) (Int.not_le.mp q3) q7); And.intro k8 ((l3 (Int.not_le.mp q2) (Int.not_le.mp q3) q7)))) (fun q7 => And.intro ret0 (And.intro (Or.inr rfl) ⟨rfl, _, rfl, (l4 (Int.not_le.mp q2) (Int.not_le.mp q3) (Classical.not_not.mp q7))⟩)))))))))))))
theorem c_hf {n : Nat} {u c : Int} {σ : Mm} {P : Int → Mm → Prop} (hu : 0 ≤ u ∧ u < 5) (hc : 0 ≤ c) (hs : 0 ≤ gi σ 46 u.toNat ∧ gi σ 46 u.toNat ≤ 8) (hP : P (b2i (lies (wv σ 40) u.toNat (gi σ 46 u.toNat) c.toNat)) σ) : Ci 90 [vr 40, vi u, vi c] (shF n) σ P := by
  obtain ⟨u, rfl⟩ := Int.eq_ofNat_of_zero_le hu.1
  rw [Int.toNat_natCast] at hs hP
  refine v_hf_0 u c ?_
  refine loopUp (N := (gi σ 46 u).toNat) (I := fun k => lies (wv σ 40) u (k : Int) c.toNat = false → R 90 2 [some (vr 40), some (vi (u : Int)), some (vi c), some (vi (k : Int))] [] (shF n) 0 0 σ (Qi (shF n) P)) (fun k hk ih => ?_) 0 (by omega) lies_0
  intro hl
  refine v_hf_L u c k (by intros; first | omega | (unfold rg; omega)) (by intros; first | omega | (unfold rg; omega)) (by intros; first | omega | (unfold rg; omega)) (by intros; first | omega | (unfold rg; omega)) (by intros; first | omega | (unfold rg; omega)) ?_ ?_ ?_ ?_
  · intro hge
    rw [show gi σ 46 u = (k : Int) by omega, hl] at hP
    exact hP
  · intros; exfalso; omega
  · intro hlt h8 hne
    refine R_eq (ih (by omega) ?_) rfl
    rw [show ((k + 1 : Nat) : Int) = (k : Int) + 1 from rfl, lies_s (by omega), hl, Bool.false_or]
    exact decide_eq_false (fun z => hne (by have z' : gi σ 47 (u * 8 + k) = (c.toNat : Int) := z; omega))
  · intro hlt h8 he
    rw [show lies (wv σ 40) u (gi σ 46 u) c.toNat = true from lies_iff.mpr ⟨k, by omega, by omega, by show gi σ 47 (u * 8 + k) = _; omega⟩] at hP
    exact hP
theorem v_ss_0 {n : Nat}   {σ : Mm} {P : Mm → Prop} (l1 : R 20 2 [some (vr 75), some (vi 0)] [] (shF n) 0 0 σ (Qv (shF n) P)) : Cv 20 [vr 75] (shF n) σ P :=
  show R 20 0 [some (vr 75), none] [] (shF n) 0 0 σ (Qv (shF n) P) from wpK_R 3 [2, 28] ((l1))
theorem v_ss_2 {n : Nat}  (k : Nat) {σ : Mm} {P : Mm → Prop} (o1 : (24 : Int) ≤ (k : Int) → (gi σ 75 7) ≠ (-1 : Int) → rg ((gi σ 75 7) - 1)) (o2 : (24 : Int) ≤ (k : Int) → (gi σ 75 7) = (-1 : Int) → rg ((gi σ 75 6) - 1)) (o3 : (k : Int) < (24 : Int) → (0 ≤ (k : Int) ∧ (k : Int) < 24)) (o4 : (k : Int) < (24 : Int) → ∀ t8 : Mm, t8 = si σ 79 k (0 : Int) → rg ((k : Int) + 1)) (l1 : (24 : Int) ≤ (k : Int) → (gi σ 75 7) ≠ (-1 : Int) → ∀ x4 : Int, x4 = (gi σ 75 7) - 1 → R 20 28 [some (vr 75), some (vi x4)] [] (shF n) 0 0 σ (Qv (shF n) P)) (l2 : (24 : Int) ≤ (k : Int) → (gi σ 75 7) = (-1 : Int) → ∀ x6 : Int, x6 = (gi σ 75 6) - 1 → R 20 28 [some (vr 75), some (vi x6)] [] (shF n) 0 0 σ (Qv (shF n) P)) (l3 : (k : Int) < (24 : Int) → ∀ t8 : Mm, t8 = si σ 79 k (0 : Int) → R 20 2 [some (vr 75), some (vi ((k : Int) + 1))] [] (shF n) 0 0 t8 (Qv (shF n) P)) : R 20 2 [some (vr 75), some (vi (k : Int))] [] (shF n) 0 0 σ (Qv (shF n) P) :=
  wpK_R 11 [2, 28] (And.intro (fun q1 => (show R 18 0 [some (vr 75)] [] (shF n) 0 0 _ _ from wpK_R 8 [] (And.intro (fun q2 => And.intro ret0 ⟨rfl, _, rfl, (have k3 := (o1 q1 q2); And.intro k3 ((l1 q1 q2 _ rfl)))⟩) (fun q2 => And.intro ret0 ⟨rfl, _, rfl, (have k5 := (o2 q1 (Classical.not_not.mp q2)); And.intro k5 ((l2 q1 (Classical.not_not.mp q2) _ rfl)))⟩)))) (fun q1 => (have k7 := (o3 (Int.not_le.mp q1)); And.intro k7 (And.intro (Or.inl rfl) ((have k9 := (o4 (Int.not_le.mp q1) _ rfl); And.intro k9 ((l3 (Int.not_le.mp q1) _ rfl))))))))
theorem v_ss_28 {n : Nat}  (k : Int) {σ : Mm} {P : Mm → Prop} (o1 : (0 : Int) ≤ k → (0 ≤ k ∧ k < 24)) (o2 : (0 : Int) ≤ k → (gi σ 78 k.toNat) ≠ (2 : Int) → rg (k + (-1))) (o3 : (0 : Int) ≤ k → (gi σ 78 k.toNat) = (2 : Int) → (gi σ 79 k.toNat) ≠ (0 : Int) → rg (k + (-1))) (o4 : (0 : Int) ≤ k → (gi σ 78 k.toNat) = (2 : Int) → (gi σ 79 k.toNat) = (0 : Int) → (0 ≤ (gi σ 76 k.toNat) ∧ (gi σ 76 k.toNat) < 24)) (o5 : (0 : Int) ≤ k → (gi σ 78 k.toNat) = (2 : Int) → (gi σ 79 k.toNat) = (0 : Int) → ∀ t10 : Mm, t10 = si σ 79 (gi σ 76 k.toNat).toNat (1 : Int) → rg (k + (-1))) (l1 : k < (0 : Int) → P σ) (l2 : (0 : Int) ≤ k → (gi σ 78 k.toNat) ≠ (2 : Int) → ∀ x5 : Int, x5 = k + (-1) → R 20 28 [some (vr 75), some (vi x5)] [] (shF n) 0 0 σ (Qv (shF n) P)) (l3 : (0 : Int) ≤ k → (gi σ 78 k.toNat) = (2 : Int) → (gi σ 79 k.toNat) ≠ (0 : Int) → ∀ x8 : Int, x8 = k + (-1) → R 20 28 [some (vr 75), some (vi x8)] [] (shF n) 0 0 σ (Qv (shF n) P)) (l4 : (0 : Int) ≤ k → (gi σ 78 k.toNat) = (2 : Int) → (gi σ 79 k.toNat) = (0 : Int) → ∀ t10 : Mm, t10 = si σ 79 (gi σ 76 k.toNat).toNat (1 : Int) → ∀ x12 : Int, x12 = k + (-1) → R 20 28 [some (vr 75), some (vi x12)] [] (shF n) 0 0 t10 (Qv (shF n) P)) : R 20 28 [some (vr 75), some (vi k)] [] (shF n) 0 0 σ (Qv (shF n) P) :=
  wpK_R 24 [28] (And.intro (fun q1 => And.intro ret0 ⟨rfl, rfl, (l1 q1)⟩) (fun q1 => (have k2 := (o1 (Int.not_lt.mp q1)); And.intro k2 (And.intro (fun q3 => (have k4 := (o2 (Int.not_lt.mp q1) q3); And.intro k4 ((l2 (Int.not_lt.mp q1) q3 _ rfl)))) (fun q3 => And.intro k2 (And.intro (fun q6 => (have k7 := (o3 (Int.not_lt.mp q1) (Classical.not_not.mp q3) q6); And.intro k7 ((l3 (Int.not_lt.mp q1) (Classical.not_not.mp q3) q6 _ rfl)))) (fun q6 => And.intro k2 ((have k9 := (o4 (Int.not_lt.mp q1) (Classical.not_not.mp q3) (Classical.not_not.mp q6)); And.intro k9 (And.intro (Or.inr rfl) ((have k11 := (o5 (Int.not_lt.mp q1) (Classical.not_not.mp q3) (Classical.not_not.mp q6) _ rfl); And.intro k11 ((l4 (Int.not_lt.mp q1) (Classical.not_not.mp q3) (Classical.not_not.mp q6) _ rfl _ rfl))))))))))))))
def Ss (σ s : Mm) : Prop := (∀ a i, a ≠ 79 → gi s a i = gi σ a i) ∧ (∀ i, i < 24 → gi s 79 i = b2i (skN (gi σ 78) (gi σ 76) (Kf σ) (Kf σ) i))
theorem c_ss {n : Nat} {σ : Mm} {P : Mm → Prop} (hf : FP σ) (hP : ∀ s, Ss σ s → P s) : Cv 20 [vr 75] (shF n) σ P := by
  obtain ⟨K1, K2, K3⟩ := FP_K hf
  refine v_ss_0 ?_
  refine loopUp (N := 24) (I := fun k => ∀ τ : Mm, (∀ a i, a ≠ 79 → gi τ a i = gi σ a i) → (∀ i, i < k → gi τ 79 i = 0) → R 20 2 [some (vr 75), some (vi (k : Int))] [] (shF n) 0 0 τ (Qv (shF n) P)) (fun k hk ih => ?_) 0 (by omega) σ (fun _ _ _ => rfl) (fun _ q => by omega)
  intro τ f1 f2
  have back : ∀ x4 : Int, x4 = (Kf σ : Int) - 1 → (24 : Int) ≤ (k : Int) → R 20 28 [some (vr 75), some (vi x4)] [] (shF n) 0 0 τ (Qv (shF n) P) := fun x4 ex hk24 => by
    have key := loopUp (N := Kf σ) (I := fun d => ∀ τ : Mm, (∀ a i, a ≠ 79 → gi τ a i = gi σ a i) → (∀ i, i < 24 → gi τ 79 i = b2i (skN (gi σ 78) (gi σ 76) (Kf σ) d i)) → R 20 28 [some (vr 75), some (vi ((Kf σ : Int) - 1 - (d : Int)))] [] (shF n) 0 0 τ (Qv (shF n) P)) (fun d hd ih => ?_) 0 (by omega) τ f1 (fun i hi => by rw [f2 i (by omega)]; rfl)
    · rw [ex]
      exact R_eq key (by rw [show (Kf σ : Int) - 1 - ((0 : Nat) : Int) = (Kf σ : Int) - 1 by omega])
    · intro τ g1 g2
      obtain ⟨q, hq⟩ : ∃ q, q = Kf σ - 1 - d := ⟨_, rfl⟩
      have hqn : d < Kf σ → ((Kf σ : Int) - 1 - (d : Int)).toNat = q := fun _ => by omega
      have hfq := fun z : d < Kf σ => hf.2.2 q (by omega)
      have hlist : ∀ x : Int, x = (Kf σ : Int) - 1 - (d : Int) + -1 → (Kf σ : Int) - 1 - ((d + 1 : Nat) : Int) = x := fun x e => by omega
      refine v_ss_28 _ (by intros; first | omega | (rw [hqn (by omega)]; first | omega | (have z := hfq (by omega); rw [g1 76 _ (by omega)]; (rw [hqn (by omega), g1 78 _ (by omega)] at *); omega)) | (unfold rg; omega)) (by intros; first | omega | (rw [hqn (by omega)]; first | omega | (have z := hfq (by omega); rw [g1 76 _ (by omega)]; (rw [hqn (by omega), g1 78 _ (by omega)] at *); omega)) | (unfold rg; omega)) (by intros; first | omega | (rw [hqn (by omega)]; first | omega | (have z := hfq (by omega); rw [g1 76 _ (by omega)]; (rw [hqn (by omega), g1 78 _ (by omega)] at *); omega)) | (unfold rg; omega)) (by intros; first | omega | (rw [hqn (by omega)]; first | omega | (have z := hfq (by omega); rw [g1 76 _ (by omega)]; (rw [hqn (by omega), g1 78 _ (by omega)] at *); omega)) | (unfold rg; omega)) (by intros; first | omega | (rw [hqn (by omega)]; first | omega | (have z := hfq (by omega); rw [g1 76 _ (by omega)]; (rw [hqn (by omega), g1 78 _ (by omega)] at *); omega)) | (unfold rg; omega)) ?_ ?_ ?_ ?_
      · intro hlt
        exact hP τ ⟨g1, fun i hi => by rw [g2 i hi, show d = Kf σ by omega]⟩
      · intro h0 hne x5 e5
        rw [hqn (by omega), g1 78 _ (by omega)] at hne
        refine R_eq (ih (by omega) τ g1 (fun i hi => ?_)) (by rw [hlist x5 e5])
        rw [g2 i hi]
        simp only [skN]
        rw [← hq, decide_eq_false hne, Bool.false_and, Bool.false_and, Bool.or_false]
      · intro h0 he hst x8 e8
        rw [hqn (by omega), g1 78 _ (by omega)] at he
        rw [hqn (by omega), g2 q (by omega)] at hst
        refine R_eq (ih (by omega) τ g1 (fun i hi => ?_)) (by rw [hlist x8 e8])
        rw [g2 i hi]
        simp only [skN]
        rw [← hq, b2i_nz hst, Bool.not_true, Bool.and_false, Bool.false_and, Bool.or_false]
      · intro h0 he hst t10 e10 x12 e12
        rw [hqn (by omega), g1 78 _ (by omega)] at he
        rw [hqn (by omega), g2 q (by omega)] at hst
        rw [hqn (by omega), g1 76 _ (by omega)] at e10
        have z := hfq (by omega)
        refine R_eq (ih (by omega) t10 (fun a i p => by rw [e10, gi_ne p]; exact g1 a i p) (fun i hi => ?_)) (by rw [hlist x12 e12])
        rw [e10, gi_si, g2 i hi]
        simp only [skN]
        rw [← hq, b2i_z hst, decide_eq_true he]
        by_cases w : i = (gi σ 76 q).toNat
        · rw [if_pos ⟨trivial, w⟩, decide_eq_true w]; simp [b2i]
        · rw [if_neg (fun y => w y.2), decide_eq_false w]; simp
  have e757 := f1 75 7 (by omega)
  have e756 := f1 75 6 (by omega)
  have hf1 := hf.1
  have hf2 := hf.2.1
  refine v_ss_2 k (by intros; first | omega | (unfold rg; omega)) (by intros; first | omega | (unfold rg; omega)) (by intros; first | omega | (unfold rg; omega)) (by intros; first | omega | (unfold rg; omega)) ?_ ?_ ?_
  · intro hge hne x4 e4
    rw [if_neg (by omega)] at K1
    exact back x4 (by omega) hge
  · intro hge he x4 e4
    rw [if_pos (by omega)] at K1
    exact back x4 (by omega) hge
  · intro hlt t8 e8
    refine R_eq (ih (by omega) t8 (fun a i p => by rw [e8, gi_ne p]; exact f1 a i p) (fun i hi => ?_)) rfl
    rw [e8, gi_si]
    by_cases e : i = k
    · rw [if_pos ⟨rfl, e⟩]
    · rw [if_neg (fun z => e z.2)]; exact f2 i (by omega)
theorem v_ft_0 {n : Nat}  (ow : Int) (cu : Int) {σ : Mm} {P : Int → Mm → Prop} (l1 : (gi σ 75 7) ≠ (-1 : Int) → ∀ x2 : Int, x2 = gi σ 75 7 → R 21 9 [some (vr 75), some (vr 40), some (vi ow), some (vi cu), some (vi x2), some (vi 0)] [] (shF n) 0 0 σ (Qi (shF n) P)) (l2 : (gi σ 75 7) = (-1 : Int) → ∀ x3 : Int, x3 = gi σ 75 6 → R 21 9 [some (vr 75), some (vr 40), some (vi ow), some (vi cu), some (vi x3), some (vi 0)] [] (shF n) 0 0 σ (Qi (shF n) P)) : Ci 21 [vr 75, vr 40, vi ow, vi cu] (shF n) σ P :=
  show R 21 0 [some (vr 75), some (vr 40), some (vi ow), some (vi cu), none, none] [] (shF n) 0 0 σ (Qi (shF n) P) from wpK_R 6 [9] ((show R 18 0 [some (vr 75)] [] (shF n) 0 0 _ _ from wpK_R 8 [] (And.intro (fun q1 => And.intro ret0 ⟨rfl, _, rfl, (l1 q1 _ rfl)⟩) (fun q1 => And.intro ret0 ⟨rfl, _, rfl, (l2 (Classical.not_not.mp q1) _ rfl)⟩))))
theorem v_ft_L {n : Nat}  (ow : Nat) (cu : Nat) (en : Int) (i : Nat) {σ : Mm} {P : Int → Mm → Prop} (o1 : (i : Int) < en → (0 ≤ (i : Int) ∧ (i : Int) < 24)) (o2 : (i : Int) < en → (gi σ 78 i) = (2 : Int) → rg ((i : Int) + 1)) (o3 : (i : Int) < en → (gi σ 78 i) ≠ (2 : Int) → (gi σ 79 i) ≠ (0 : Int) → rg ((i : Int) + 1)) (o4 : (i : Int) < en → (gi σ 78 i) ≠ (2 : Int) → (gi σ 79 i) = (0 : Int) → (gi σ 77 i) ≠ (ow : Int) → rg ((i : Int) + 1)) (o5 : (i : Int) < en → (gi σ 78 i) ≠ (2 : Int) → (gi σ 79 i) = (0 : Int) → (gi σ 77 i) = (ow : Int) → (0 ≤ (cu : Int) ∧ (cu : Int) < 5)) (o6 : (i : Int) < en → (gi σ 78 i) ≠ (2 : Int) → (gi σ 79 i) = (0 : Int) → (gi σ 77 i) = (ow : Int) → 0 ≤ (gi σ 76 i)) (o7 : (i : Int) < en → (gi σ 78 i) ≠ (2 : Int) → (gi σ 79 i) = (0 : Int) → (gi σ 77 i) = (ow : Int) → (0 ≤ gi σ 46 cu ∧ gi σ 46 cu ≤ 8)) (o8 : (i : Int) < en → (gi σ 78 i) ≠ (2 : Int) → (gi σ 79 i) = (0 : Int) → (gi σ 77 i) = (ow : Int) → ∀ x9 : Int, x9 = b2i (lies (wv σ 40) cu (gi σ 46 cu) (gi σ 76 i).toNat) → (gi σ 78 i) ≠ (1 : Int) → x9 = (0 : Int) → rg ((i : Int) + 1)) (o9 : (i : Int) < en → (gi σ 78 i) ≠ (2 : Int) → (gi σ 79 i) = (0 : Int) → (gi σ 77 i) = (ow : Int) → ∀ x9 : Int, x9 = b2i (lies (wv σ 40) cu (gi σ 46 cu) (gi σ 76 i).toNat) → (gi σ 78 i) = (1 : Int) → x9 = (1 : Int) → rg ((i : Int) + 1)) (l1 : en ≤ (i : Int) → P 1 σ) (l2 : (i : Int) < en → (gi σ 78 i) = (2 : Int) → R 21 9 [some (vr 75), some (vr 40), some (vi (ow : Int)), some (vi (cu : Int)), some (vi en), some (vi ((i : Int) + 1))] [] (shF n) 0 0 σ (Qi (shF n) P)) (l3 : (i : Int) < en → (gi σ 78 i) ≠ (2 : Int) → (gi σ 79 i) ≠ (0 : Int) → R 21 9 [some (vr 75), some (vr 40), some (vi (ow : Int)), some (vi (cu : Int)), some (vi en), some (vi ((i : Int) + 1))] [] (shF n) 0 0 σ (Qi (shF n) P)) (l4 : (i : Int) < en → (gi σ 78 i) ≠ (2 : Int) → (gi σ 79 i) = (0 : Int) → (gi σ 77 i) ≠ (ow : Int) → R 21 9 [some (vr 75), some (vr 40), some (vi (ow : Int)), some (vi (cu : Int)), some (vi en), some (vi ((i : Int) + 1))] [] (shF n) 0 0 σ (Qi (shF n) P)) (l5 : (i : Int) < en → (gi σ 78 i) ≠ (2 : Int) → (gi σ 79 i) = (0 : Int) → (gi σ 77 i) = (ow : Int) → ∀ x9 : Int, x9 = b2i (lies (wv σ 40) cu (gi σ 46 cu) (gi σ 76 i).toNat) → (gi σ 78 i) ≠ (1 : Int) → x9 = (0 : Int) → R 21 9 [some (vr 75), some (vr 40), some (vi (ow : Int)), some (vi (cu : Int)), some (vi en), some (vi ((i : Int) + 1))] [] (shF n) 0 0 σ (Qi (shF n) P)) (l6 : (i : Int) < en → (gi σ 78 i) ≠ (2 : Int) → (gi σ 79 i) = (0 : Int) → (gi σ 77 i) = (ow : Int) → ∀ x9 : Int, x9 = b2i (lies (wv σ 40) cu (gi σ 46 cu) (gi σ 76 i).toNat) → (gi σ 78 i) ≠ (1 : Int) → x9 ≠ (0 : Int) → P 0 σ) (l7 : (i : Int) < en → (gi σ 78 i) ≠ (2 : Int) → (gi σ 79 i) = (0 : Int) → (gi σ 77 i) = (ow : Int) → ∀ x9 : Int, x9 = b2i (lies (wv σ 40) cu (gi σ 46 cu) (gi σ 76 i).toNat) → (gi σ 78 i) = (1 : Int) → x9 = (1 : Int) → R 21 9 [some (vr 75), some (vr 40), some (vi (ow : Int)), some (vi (cu : Int)), some (vi en), some (vi ((i : Int) + 1))] [] (shF n) 0 0 σ (Qi (shF n) P)) (l8 : (i : Int) < en → (gi σ 78 i) ≠ (2 : Int) → (gi σ 79 i) = (0 : Int) → (gi σ 77 i) = (ow : Int) → ∀ x9 : Int, x9 = b2i (lies (wv σ 40) cu (gi σ 46 cu) (gi σ 76 i).toNat) → (gi σ 78 i) = (1 : Int) → x9 ≠ (1 : Int) → P 0 σ) : R 21 9 [some (vr 75), some (vr 40), some (vi (ow : Int)), some (vi (cu : Int)), some (vi en), some (vi (i : Int))] [] (shF n) 0 0 σ (Qi (shF n) P) :=
  wpK_R 39 [9] (And.intro (fun q1 => And.intro ret0 (And.intro (Or.inr rfl) ⟨rfl, _, rfl, (l1 q1)⟩)) (fun q1 => (have k2 := (o1 (Int.not_le.mp q1)); And.intro k2 (And.intro (fun q3 => (have k4 := (o2 (Int.not_le.mp q1) q3); And.intro k4 ((l2 (Int.not_le.mp q1) q3)))) (fun q3 => And.intro k2 (And.intro (fun q5 => (have k6 := (o3 (Int.not_le.mp q1) q3 q5); And.intro k6 ((l3 (Int.not_le.mp q1) q3 q5)))) (fun q5 => And.intro k2 (And.intro (fun q7 => (have k8 := (o4 (Int.not_le.mp q1) q3 (Classical.not_not.mp q5) q7); And.intro k8 ((l4 (Int.not_le.mp q1) q3 (Classical.not_not.mp q5) q7)))) (fun q7 => And.intro k2 ((c_hf  (o5 (Int.not_le.mp q1) q3 (Classical.not_not.mp q5) (Classical.not_not.mp q7)) (o6 (Int.not_le.mp q1) q3 (Classical.not_not.mp q5) (Classical.not_not.mp q7)) (o7 (Int.not_le.mp q1) q3 (Classical.not_not.mp q5) (Classical.not_not.mp q7)) (And.intro k2 (And.intro (fun q10 => And.intro (fun q11 => (have k12 := (o8 (Int.not_le.mp q1) q3 (Classical.not_not.mp q5) (Classical.not_not.mp q7) _ rfl q10 q11); And.intro k12 ((l5 (Int.not_le.mp q1) q3 (Classical.not_not.mp q5) (Classical.not_not.mp q7) _ rfl q10 q11)))) (fun q11 => And.intro ret0 (And.intro (Or.inl rfl) ⟨rfl, _, rfl, (l6 (Int.not_le.mp q1) q3 (Classical.not_not.mp q5) (Classical.not_not.mp q7) _ rfl q10 q11)⟩))) (fun q10 => And.intro (fun q13 => (have k14 := (o9 (Int.not_le.mp q1) q3 (Classical.not_not.mp q5) (Classical.not_not.mp q7) _ rfl (Classical.not_not.mp q10) q13); And.intro k14 ((l7 (Int.not_le.mp q1) q3 (Classical.not_not.mp q5) (Classical.not_not.mp q7) _ rfl (Classical.not_not.mp q10) q13)))) (fun q13 => And.intro ret0 (And.intro (Or.inl rfl) ⟨rfl, _, rfl, (l8 (Int.not_le.mp q1) q3 (Classical.not_not.mp q5) (Classical.not_not.mp q7) _ rfl (Classical.not_not.mp q10) q13)⟩))))))))))))))))
theorem c_ft {n ow cu : Nat} {σ τ : Mm} {P : Int → Mm → Prop} (hf : FP σ) (hsz : ∀ u, u < 5 → 0 ≤ gi σ 46 u ∧ gi σ 46 u ≤ 8) (hcu : cu < 5) (f1 : ∀ a i, a ≠ 79 → a ≠ 80 → gi τ a i = gi σ a i) (f2 : ∀ i, i < 24 → gi τ 79 i = b2i (skN (gi σ 78) (gi σ 76) (Kf σ) (Kf σ) i)) (hP : P (b2i (ftC σ (wv σ 40) ow cu)) τ) : Ci 21 [vr 75, vr 40, vi (ow : Int), vi (cu : Int)] (shF n) τ P := by
  obtain ⟨K1, K2, K3⟩ := FP_K hf
  have hf1 := hf.1
  have hf2 := hf.2.1
  have e757 := f1 75 7 (by omega) (by omega)
  have e756 := f1 75 6 (by omega) (by omega)
  have hwv : wv τ 40 = wv σ 40 := wv_eq fun f b hf => f1 _ _ (by omega) (by omega)
  have main : ∀ en : Int, en = (Kf σ : Int) → R 21 9 [some (vr 75), some (vr 40), some (vi (ow : Int)), some (vi (cu : Int)), some (vi en), some (vi 0)] [] (shF n) 0 0 τ (Qi (shF n) P) := fun en hen => by
    refine loopUp (N := Kf σ) (I := fun i => anyF (bdC σ (wv σ 40) ow cu) i = false → R 21 9 [some (vr 75), some (vr 40), some (vi (ow : Int)), some (vi (cu : Int)), some (vi en), some (vi (i : Int))] [] (shF n) 0 0 τ (Qi (shF n) P)) (fun i hi ih => ?_) 0 (by omega) rfl
    intro ha
    have hfi := fun z : i < Kf σ => hf.2.2 i (by omega)
    have s46 := hsz cu hcu
    have g78 := f1 78 i (by omega) (by omega)
    have g77 := f1 77 i (by omega) (by omega)
    have g76 := f1 76 i (by omega) (by omega)
    have g46 := f1 46 cu (by omega) (by omega)
    have g79 := fun z : i < Kf σ => f2 i (by omega)
    have hex : i < Kf σ → bdC σ (wv σ 40) ow cu i = true → P 0 τ := fun hlt hb => by
      have : ftC σ (wv σ 40) ow cu = false := by
        unfold ftC
        rw [anyF_iff.mpr ⟨i, hlt, hb⟩]; rfl
      rw [this] at hP
      exact hP
    have hnx : i < Kf σ → bdC σ (wv σ 40) ow cu i = false → R 21 9 [some (vr 75), some (vr 40), some (vi (ow : Int)), some (vi (cu : Int)), some (vi en), some (vi ((i : Int) + 1))] [] (shF n) 0 0 τ (Qi (shF n) P) := fun hlt hb => R_eq (ih (by omega) (by rw [anyF_s, ha, hb]; rfl)) rfl
    have hlv : ∀ x, x = b2i (lies (wv τ 40) cu (gi τ 46 cu) (gi τ 76 i).toNat) → x = b2i (lies (wv σ 40) cu (wv σ 40 6 cu) (gi σ 76 i).toNat) := fun x e => by rw [e, hwv, g46, g76]; rfl
    refine v_ft_L ow cu en i (by intros; first | omega | (have z := hfi (by omega); omega) | (unfold rg; omega)) (by intros; first | omega | (have z := hfi (by omega); omega) | (unfold rg; omega)) (by intros; first | omega | (have z := hfi (by omega); omega) | (unfold rg; omega)) (by intros; first | omega | (have z := hfi (by omega); omega) | (unfold rg; omega)) (by intros; first | omega | (have z := hfi (by omega); omega) | (unfold rg; omega)) (by intros; first | omega | (have z := hfi (by omega); omega) | (unfold rg; omega)) (by intros; first | omega | (have z := hfi (by omega); omega) | (unfold rg; omega)) (by intros; first | omega | (have z := hfi (by omega); omega) | (unfold rg; omega)) (by intros; first | omega | (have z := hfi (by omega); omega) | (unfold rg; omega)) ?_ ?_ ?_ ?_ ?_ ?_ ?_ ?_
    · intro hge
      rw [show ftC σ (wv σ 40) ow cu = true by unfold ftC; rw [show Kf σ = i by omega, ha]; rfl] at hP
      exact hP
    · intro hlt he
      exact hnx (by omega) (by unfold bdC; rw [decide_eq_false (by omega)]; rfl)
    · intro hlt hne hst
      rw [g79 (by omega)] at hst
      exact hnx (by omega) (by unfold bdC; rw [b2i_nz hst]; simp)
    · intro hlt hne hst hj
      exact hnx (by omega) (by unfold bdC; rw [decide_eq_false (show ¬ gi σ 77 i = (ow : Int) by omega)]; simp)
    all_goals
      intro hlt hne hst hj x ex h1 hv
      rw [g79 (by omega)] at hst
      have hst := b2i_z hst
      have hv2 := hlv x ex
      rw [g78] at h1 hne
      rw [g77] at hj
      first
      | (refine hnx (by omega) ?_
         unfold bdC
         rw [decide_eq_true hne, hst, decide_eq_true hj]
         cases zz : lies (wv σ 40) cu (wv σ 40 6 cu) (gi σ 76 i).toNat with
         | true => rw [zz] at hv2; rw [hv2] at hv; first | (exact absurd hv (by decide)) | (rw [decide_eq_true h1]; rfl)
         | false => rw [zz] at hv2; rw [hv2] at hv; first | (exact absurd hv (by decide)) | (rw [decide_eq_false h1]; rfl))
      | (refine hex (by omega) ?_
         unfold bdC
         rw [decide_eq_true hne, hst, decide_eq_true hj]
         cases zz : lies (wv σ 40) cu (wv σ 40 6 cu) (gi σ 76 i).toNat with
         | true => rw [zz] at hv2; rw [hv2] at hv; first | (exact absurd rfl hv) | (rw [decide_eq_false h1]; rfl)
         | false => rw [zz] at hv2; rw [hv2] at hv; first | (exact absurd rfl hv) | (rw [decide_eq_true h1]; rfl))
  refine v_ft_0 (ow : Int) (cu : Int) ?_ ?_
  · intro hne x2 e2
    rw [if_neg (by omega)] at K1
    exact main x2 (by omega)
  · intro he x2 e2
    rw [if_pos (by omega)] at K1
    exact main x2 (by omega)
theorem v_mt_0 {n : Nat}   {σ : Mm} {P : Mm → Prop} (o1 : FP σ) (l1 : ∀ s2 : Mm, Ss σ s2 → R 19 6 [some (vr 75), some (vr 5), some (vr 40), some (vi 0), none] [] (shF n) 0 0 s2 (Qv (shF n) P)) : Cv 19 [vr 75, vr 5, vr 40] (shF n) σ P :=
  show R 19 0 [some (vr 75), some (vr 5), some (vr 40), none, none] [] (shF n) 0 0 σ (Qv (shF n) P) from wpK_R 5 [6, 24] ((c_ss  (o1) (fun s2 h3 => (l1 s2 h3))))
theorem v_mt_6 {n : Nat}  (i : Nat) (z : Option PV) {σ : Mm} {P : Mm → Prop} (o1 : (i : Int) < (gi σ 5 0) → (0 ≤ (i : Int) ∧ (i : Int) < 5)) (l1 : (gi σ 5 0) ≤ (i : Int) → P σ) (l2 : (i : Int) < (gi σ 5 0) → ∀ t3 : Mm, t3 = si σ 80 i (0 : Int) → R 19 24 [some (vr 75), some (vr 5), some (vr 40), some (vi (i : Int)), some (vi 0)] [] (shF n) 0 0 t3 (Qv (shF n) P)) : R 19 6 [some (vr 75), some (vr 5), some (vr 40), some (vi (i : Int)), z] [] (shF n) 0 0 σ (Qv (shF n) P) :=
  wpK_R 12 [6, 24] (And.intro (fun q1 => And.intro ret0 ⟨rfl, rfl, (l1 q1)⟩) (fun q1 => (have k2 := (o1 (Int.not_le.mp q1)); And.intro k2 ((l2 (Int.not_le.mp q1) _ rfl)))))
theorem v_mt_24 {n : Nat}  (i : Nat) (h : Nat) {M1 : Int → Mm → Prop} {σ : Mm} {P : Mm → Prop} (o1 : (gi σ 5 0) ≤ (h : Int) → rg ((i : Int) + 1)) (o2 : (h : Int) < (gi σ 5 0) → (0 ≤ (h : Int) ∧ (h : Int) < 5)) (o3 : (h : Int) < (gi σ 5 0) → Ci 21 [vr 75, vr 40, vi (i : Int), vi (gi σ 45 h)] (shF n) σ M1) (o4 : (h : Int) < (gi σ 5 0) → ∀ (v6 : Int) (s5 : Mm), M1 v6 s5 → v6 = (0 : Int) → rg ((h : Int) + 1)) (o5 : (h : Int) < (gi σ 5 0) → ∀ (v6 : Int) (s5 : Mm), M1 v6 s5 → v6 ≠ (0 : Int) → (0 ≤ (i : Int) ∧ (i : Int) < 5)) (o6 : (h : Int) < (gi σ 5 0) → ∀ (v6 : Int) (s5 : Mm), M1 v6 s5 → v6 ≠ (0 : Int) → ∀ t10 : Mm, t10 = si s5 80 i (oor (gi s5 80 i) (oshl (1 : Int) (h : Int))) → rg ((h : Int) + 1)) (l1 : (gi σ 5 0) ≤ (h : Int) → R 19 6 [some (vr 75), some (vr 5), some (vr 40), some (vi ((i : Int) + 1)), some (vi (h : Int))] [] (shF n) 0 0 σ (Qv (shF n) P)) (l2 : (h : Int) < (gi σ 5 0) → ∀ (v6 : Int) (s5 : Mm), M1 v6 s5 → v6 = (0 : Int) → R 19 24 [some (vr 75), some (vr 5), some (vr 40), some (vi (i : Int)), some (vi ((h : Int) + 1))] [] (shF n) 0 0 s5 (Qv (shF n) P)) (l3 : (h : Int) < (gi σ 5 0) → ∀ (v6 : Int) (s5 : Mm), M1 v6 s5 → v6 ≠ (0 : Int) → ∀ t10 : Mm, t10 = si s5 80 i (oor (gi s5 80 i) (oshl (1 : Int) (h : Int))) → R 19 24 [some (vr 75), some (vr 5), some (vr 40), some (vi (i : Int)), some (vi ((h : Int) + 1))] [] (shF n) 0 0 t10 (Qv (shF n) P)) : R 19 24 [some (vr 75), some (vr 5), some (vr 40), some (vi (i : Int)), some (vi (h : Int))] [] (shF n) 0 0 σ (Qv (shF n) P) :=
  wpK_R 26 [6, 24] (And.intro (fun q1 => (have k2 := (o1 q1); And.intro k2 ((l1 q1)))) (fun q1 => (have k3 := (o2 (Int.not_le.mp q1)); And.intro k3 ((Ci_mono (o3 (Int.not_le.mp q1)) (fun v6 s5 h4 => And.intro (fun q7 => (have k8 := (o4 (Int.not_le.mp q1) v6 s5 h4 q7); And.intro k8 ((l2 (Int.not_le.mp q1) v6 s5 h4 q7)))) (fun q7 => (have k9 := (o5 (Int.not_le.mp q1) v6 s5 h4 q7); And.intro k9 (And.intro k9 ((have k11 := (o6 (Int.not_le.mp q1) v6 s5 h4 q7 _ rfl); And.intro k11 ((l3 (Int.not_le.mp q1) v6 s5 h4 q7 _ rfl)))))))))))))
def Mt (σ s : Mm) : Prop := (∀ a i, a ≠ 79 → a ≠ 80 → gi s a i = gi σ a i) ∧ (∀ i : Nat, (i : Int) < gi σ 5 0 → gi s 80 i = orF (fun h => ftC σ (wv σ 40) i (gi σ 45 h).toNat) (gi σ 5 0).toNat)
theorem c_mt {n : Nat} {σ : Mm} {P : Mm → Prop} (hf : FP σ) (hJ : 0 ≤ gi σ 5 0 ∧ gi σ 5 0 ≤ 5) (hsz : ∀ u, u < 5 → 0 ≤ gi σ 46 u ∧ gi σ 46 u ≤ 8) (hh : ∀ h : Nat, (h : Int) < gi σ 5 0 → 0 ≤ gi σ 45 h ∧ gi σ 45 h < 5) (hP : ∀ s, Mt σ s → P s) : Cv 19 [vr 75, vr 5, vr 40] (shF n) σ P := by
  refine v_mt_0 (by intros; exact hf) ?_
  intro s1 ss
  refine loopUp (N := (gi σ 5 0).toNat) (I := fun i => ∀ (z : Option PV) (τ : Mm), (∀ a q, a ≠ 80 → gi τ a q = gi s1 a q) → (∀ q, q < i → gi τ 80 q = orF (fun h => ftC σ (wv σ 40) q (gi σ 45 h).toNat) (gi σ 5 0).toNat) → R 19 6 [some (vr 75), some (vr 5), some (vr 40), some (vi (i : Int)), z] [] (shF n) 0 0 τ (Qv (shF n) P)) (fun i hi ih => ?_) 0 (by omega) none s1 (fun _ _ _ => rfl) (fun _ q => by omega)
  intro z τ f1 f2
  have g50 : gi τ 5 0 = gi σ 5 0 := by rw [f1 _ _ (by omega)]; exact ss.1 _ _ (by omega)
  refine v_mt_6 i z (by intros; omega) ?_ ?_
  · intro hge
    refine hP τ ⟨fun a q p1 p2 => by rw [f1 a q p2]; exact ss.1 a q p1, fun q hq => f2 q (by omega)⟩
  · intro hlt t3 e3
    refine loopUp (N := (gi σ 5 0).toNat) (I := fun h => ∀ τ' : Mm, (∀ a q, ¬ (a = 80 ∧ q = i) → gi τ' a q = gi τ a q) → gi τ' 80 i = orF (fun h => ftC σ (wv σ 40) i (gi σ 45 h).toNat) h → R 19 24 [some (vr 75), some (vr 5), some (vr 40), some (vi (i : Int)), some (vi (h : Int))] [] (shF n) 0 0 τ' (Qv (shF n) P)) (fun h hh' ihh => ?_) 0 (by omega) t3 (fun a q p => by rw [e3, gi_si, if_neg p]) (by rw [e3, gi_si, if_pos ⟨rfl, rfl⟩]; rfl)
    intro τ' k1 k2
    have k50 : gi τ' 5 0 = gi σ 5 0 := by rw [k1 _ _ (by omega)]; exact g50
    have k45 : gi τ' 45 h = gi σ 45 h := by rw [k1 _ _ (by omega), f1 _ _ (by omega)]; exact ss.1 _ _ (by omega)
    have h45 := fun q : (h : Int) < gi σ 5 0 => hh h q
    have hcall : (h : Int) < gi σ 5 0 → Ci 21 [vr 75, vr 40, vi (i : Int), vi (gi τ' 45 h)] (shF n) τ' (fun v s => v = b2i (ftC σ (wv σ 40) i (gi σ 45 h).toNat) ∧ s = τ') := fun q => by
      have z := h45 q
      rw [k45, show gi σ 45 h = (((gi σ 45 h).toNat : Nat) : Int) by omega]
      refine c_ft hf hsz (by omega) (fun a x p1 p2 => ?_) (fun x hx => ?_) ⟨by rw [Int.toNat_natCast], rfl⟩
      · rw [k1 a x (fun y => p2 y.1), f1 a x p2]; exact ss.1 a x p1
      · rw [k1 79 x (by omega), f1 79 x (by omega)]; exact ss.2 x hx
    have horg := orF_rg (fun h => ftC σ (wv σ 40) i (gi σ 45 h).toNat) h
    refine v_mt_24 i h (M1 := fun v s => v = b2i (ftC σ (wv σ 40) i (gi σ 45 h).toNat) ∧ s = τ') (by intros; first | omega | exact hcall (by omega) | (unfold rg; omega)) (by intros; first | omega | exact hcall (by omega) | (unfold rg; omega)) (by intros; first | omega | exact hcall (by omega) | (unfold rg; omega)) (by intros; first | omega | exact hcall (by omega) | (unfold rg; omega)) (by intros; first | omega | exact hcall (by omega) | (unfold rg; omega)) (by intros; first | omega | exact hcall (by omega) | (unfold rg; omega)) ?_ ?_ ?_
    · intro hge
      refine R_eq (ih (by omega) _ τ' (fun a q p => ?_) (fun q hq => ?_)) rfl
      · rw [k1 a q (fun y => p y.1)]; exact f1 a q p
      · by_cases e : q = i
        · rw [e, k2, show (gi σ 5 0).toNat = h by omega]
        · rw [k1 80 q (fun y => e y.2)]; exact f2 q (by omega)
    · intro hlt2 v s m hv
      obtain ⟨m1, rfl⟩ := m
      refine R_eq (ihh (by omega) _ k1 ?_) rfl
      rw [k2]
      exact (orF_n (p := fun h => ftC σ (wv σ 40) i (gi σ 45 h).toNat) (b2i_z (by rw [← m1]; exact hv))).symm
    · intro hlt2 v s m hv t10 e10
      obtain ⟨m1, rfl⟩ := m
      refine R_eq (ihh (by omega) t10 (fun a q p => by rw [e10, gi_si, if_neg p]; exact k1 a q p) ?_) rfl
      rw [e10, gi_si, if_pos ⟨rfl, rfl⟩, k2]
      exact (orF_y (p := fun h => ftC σ (wv σ 40) i (gi σ 45 h).toNat) (b2i_nz (by rw [← m1]; exact hv))).symm
