/-! QUERY: ahead -/
theorem v_bc {n : Nat}  (x : Int) {σ : Mm} {P : Int → Mm → Prop} (o1 : rg (x - (oand (oushr x (1 : Int)) (1431655765 : Int)))) (o2 : ∀ x2 : Int, x2 = x - (oand (oushr x (1 : Int)) (1431655765 : Int)) → rg ((oand x2 (858993459 : Int)) + (oand (oushr x2 (2 : Int)) (858993459 : Int)))) (o3 : ∀ x2 : Int, x2 = x - (oand (oushr x (1 : Int)) (1431655765 : Int)) → ∀ x4 : Int, x4 = (oand x2 (858993459 : Int)) + (oand (oushr x2 (2 : Int)) (858993459 : Int)) → rg (x4 + (oushr x4 (4 : Int)))) (o4 : ∀ x2 : Int, x2 = x - (oand (oushr x (1 : Int)) (1431655765 : Int)) → ∀ x4 : Int, x4 = (oand x2 (858993459 : Int)) + (oand (oushr x2 (2 : Int)) (858993459 : Int)) → ∀ x6 : Int, x6 = oand (x4 + (oushr x4 (4 : Int))) (252645135 : Int) → rg (x6 + (oushr x6 (8 : Int)))) (o5 : ∀ x2 : Int, x2 = x - (oand (oushr x (1 : Int)) (1431655765 : Int)) → ∀ x4 : Int, x4 = (oand x2 (858993459 : Int)) + (oand (oushr x2 (2 : Int)) (858993459 : Int)) → ∀ x6 : Int, x6 = oand (x4 + (oushr x4 (4 : Int))) (252645135 : Int) → ∀ x8 : Int, x8 = x6 + (oushr x6 (8 : Int)) → rg (x8 + (oushr x8 (16 : Int)))) (l1 : ∀ x2 : Int, x2 = x - (oand (oushr x (1 : Int)) (1431655765 : Int)) → ∀ x4 : Int, x4 = (oand x2 (858993459 : Int)) + (oand (oushr x2 (2 : Int)) (858993459 : Int)) → ∀ x6 : Int, x6 = oand (x4 + (oushr x4 (4 : Int))) (252645135 : Int) → ∀ x8 : Int, x8 = x6 + (oushr x6 (8 : Int)) → ∀ x10 : Int, x10 = x8 + (oushr x8 (16 : Int)) → P (oand x10 (63 : Int)) σ) : Ci 277 [vi x] (shF n) σ P :=
  show R 277 0 [some (vi x)] [] (shF n) 0 0 σ (Qi (shF n) P) from wpK_R 42 [] ((have k1 := (o1); And.intro k1 ((have k3 := (o2 _ rfl); And.intro k3 ((have k5 := (o3 _ rfl _ rfl); And.intro k5 ((have k7 := (o4 _ rfl _ rfl _ rfl); And.intro k7 ((have k9 := (o5 _ rfl _ rfl _ rfl _ rfl); And.intro k9 (And.intro ret0 ⟨rfl, _, rfl, (l1 _ rfl _ rfl _ rfl _ rfl _ rfl)⟩)))))))))))
def bc2 (x : Int) : Int := x - (oand (oushr x (1 : Int)) (1431655765 : Int))
def bc4 (x : Int) : Int := (oand (bc2 x) (858993459 : Int)) + (oand (oushr (bc2 x) (2 : Int)) (858993459 : Int))
def bc6 (x : Int) : Int := oand (bc4 x + (oushr (bc4 x) (4 : Int))) (252645135 : Int)
def bc8 (x : Int) : Int := bc6 x + (oushr (bc6 x) (8 : Int))
def bcA (x : Int) : Int := bc8 x + (oushr (bc8 x) (16 : Int))
theorem bc_all : ∀ x : Nat, x < 1024 → (0 ≤ bc2 x ∧ bc2 x < 2000) ∧ (0 ≤ bc4 x ∧ bc4 x < 2000) ∧ (0 ≤ bc4 x + oushr (bc4 x) 4 ∧ bc4 x + oushr (bc4 x) 4 < 4000) ∧ (0 ≤ bc8 x ∧ bc8 x < 6000) ∧ (0 ≤ bcA x ∧ bcA x < 6000) ∧ oand (bcA x) 63 = cnt (bi (x : Int)) 10 := by decide +kernel
theorem c_bc {n : Nat} {x : Int} {σ : Mm} {P : Int → Mm → Prop} (hx : 0 ≤ x ∧ x < 1024) (hP : P (cnt (bi x) 10) σ) : Ci 277 [vi x] (shF n) σ P := by
  obtain ⟨x, rfl⟩ := Int.eq_ofNat_of_zero_le hx.1
  obtain ⟨a1, a2, a3, a4, a5, a6⟩ := bc_all x (by omega)
  refine v_bc (x : Int) ?_ ?_ ?_ ?_ ?_ ?_
  · show rg (bc2 x); unfold rg; omega
  · intro x2 e2; subst e2; show rg (bc4 x); unfold rg; omega
  · intro x2 e2 x4 e4; subst e2; subst e4; show rg (bc4 x + oushr (bc4 x) 4); unfold rg; omega
  · intro x2 e2 x4 e4 x6 e6; subst e2; subst e4; subst e6; show rg (bc8 x); unfold rg; omega
  · intro x2 e2 x4 e4 x6 e6 x8 e8; subst e2; subst e4; subst e6; subst e8; show rg (bcA x); unfold rg; omega
  · intro x2 e2 x4 e4 x6 e6 x8 e8 x10 e10; subst e2; subst e4; subst e6; subst e8; subst e10
    show P (oand (bcA x) 63) σ
    rw [a6]; exact hP
theorem v_mny_0 {n : Nat}  (x : Int) {σ : Mm} {P : Int → Mm → Prop} (l1 : R 217 4 [some (vi x), some (vi 0), some (vi 0)] [] (shF n) 0 0 σ (Qi (shF n) P)) : Ci 217 [vi x] (shF n) σ P :=
  show R 217 0 [some (vi x), none, none] [] (shF n) 0 0 σ (Qi (shF n) P) from wpK_R 5 [4] ((l1))
theorem v_mny_L {n : Nat}  (x : Int) (c : Int) (k : Nat) {σ : Mm} {P : Int → Mm → Prop} (o1 : (k : Int) < (10 : Int) → rg (c + (oand (oshr x (k : Int)) (1 : Int)))) (o2 : (k : Int) < (10 : Int) → ∀ x3 : Int, x3 = c + (oand (oshr x (k : Int)) (1 : Int)) → rg ((k : Int) + 1)) (l1 : (10 : Int) ≤ (k : Int) → P c σ) (l2 : (k : Int) < (10 : Int) → ∀ x3 : Int, x3 = c + (oand (oshr x (k : Int)) (1 : Int)) → R 217 4 [some (vi x), some (vi x3), some (vi ((k : Int) + 1))] [] (shF n) 0 0 σ (Qi (shF n) P)) : R 217 4 [some (vi x), some (vi c), some (vi (k : Int))] [] (shF n) 0 0 σ (Qi (shF n) P) :=
  wpK_R 14 [4] (And.intro (fun q1 => And.intro ret0 ⟨rfl, _, rfl, (l1 q1)⟩) (fun q1 => (have k2 := (o1 (Int.not_le.mp q1)); And.intro k2 ((have k4 := (o2 (Int.not_le.mp q1) _ rfl); And.intro k4 ((l2 (Int.not_le.mp q1) _ rfl)))))))
theorem c_mny {n : Nat} {x : Int} {σ : Mm} {P : Int → Mm → Prop} (hP : P (cnt (bi x) 10) σ) : Ci 217 [vi x] (shF n) σ P := by
  refine v_mny_0 x ?_
  refine loopUp (N := 10) (I := fun k => R 217 4 [some (vi x), some (vi (cnt (bi x) k)), some (vi (k : Int))] [] (shF n) 0 0 σ (Qi (shF n) P)) (fun k hk ih => ?_) 0 (by omega)
  have hcn := cnt_in (bi x) k
  have hs := shr1 (n := k) (by omega) x
  have hb : (if bi x k then (1 : Int) else 0) = b2i (bi x k) := rfl
  have hb2 := b2i_in (bi x k)
  refine v_mny_L x _ k (by intros; first | omega | (rw [hs, hb]; unfold rg; omega) | (unfold rg; omega)) (by intros; first | omega | (rw [hs, hb]; unfold rg; omega) | (unfold rg; omega)) ?_ ?_
  · intro hge
    rw [show k = 10 by omega]; exact hP
  · intro hlt x3 hx3
    refine R_eq (ih (by omega)) ?_
    rw [hx3, hs, cnt_s]
    rfl
def knO (g : Nat → Int) : Nat → Int
  | 0 => 0
  | k + 1 => oor (knO g k) (g k)
theorem bi_knO {g : Nat → Int} {i : Nat} : ∀ {k : Nat}, bi (knO g k) i = true ↔ ∃ q, q < k ∧ bi (g q) i = true := by
  intro k
  induction k with
  | zero => simp only [knO]; rw [bi_0]; constructor
            · intro h; exact absurd h Bool.false_ne_true
            · rintro ⟨q, hq, -⟩; omega
  | succ k ih =>
    simp only [knO]
    rw [bi_or, Bool.or_eq_true, ih]
    constructor
    · rintro (⟨q, hq, hb⟩ | hb)
      · exact ⟨q, by omega, hb⟩
      · exact ⟨k, by omega, hb⟩
    · rintro ⟨q, hq, hb⟩
      by_cases z : q = k
      · right; rw [← z]; exact hb
      · left; exact ⟨q, by omega, hb⟩
theorem knO_in {g : Nat → Int} : ∀ {k : Nat}, (∀ q, q < k → 0 ≤ g q ∧ g q < 1024) → 0 ≤ knO g k ∧ knO g k < 1024 := by
  intro k
  induction k with
  | zero => intro _; simp only [knO]; omega
  | succ k ih =>
    intro h
    have i1 := ih fun q hq => h q (by omega)
    have i2 := h k (by omega)
    simp only [knO]
    obtain ⟨a, ha⟩ := Int.eq_ofNat_of_zero_le i1.1
    obtain ⟨b, hb⟩ := Int.eq_ofNat_of_zero_le i2.1
    rw [ha, hb, oor_nat (by omega) (by omega)]
    have : a ||| b < 2 ^ 10 := Nat.or_lt_two_pow (by omega) (by omega)
    omega
theorem knO_congr {g g' : Nat → Int} : ∀ {k : Nat}, (∀ q, q < k → g q = g' q) → knO g k = knO g' k := by
  intro k
  induction k with
  | zero => intro _; rfl
  | succ k ih => intro h; simp only [knO]; rw [ih fun q hq => h q (by omega), h k (by omega)]
theorem knO_0 {g : Nat → Int} {m : Nat} (hr : rg (knO g m)) : ∀ {k : Nat}, m ≤ k → (∀ q, m ≤ q → q < k → g q = 0) → knO g k = knO g m := by
  intro k
  induction k with
  | zero => intro h _; rw [show m = 0 by omega]
  | succ k ih =>
    intro h hg
    by_cases z : m = k + 1
    · rw [z]
    · simp only [knO]
      rw [ih (by omega) (fun q a b => hg q a (by omega)), hg k (by omega) (by omega), oor_0 hr]
theorem v_kta_40_0 {n : Nat}   {σ : Mm} {P : Int → Mm → Prop} (l1 : R 94 4 [some (vr 40), some (vi 0), some (vi 0)] [] (shF n) 0 0 σ (Qi (shF n) P)) : Ci 94 [vr 40] (shF n) σ P :=
  show R 94 0 [some (vr 40), none, none] [] (shF n) 0 0 σ (Qi (shF n) P) from wpK_R 5 [4] ((l1))
theorem v_kta_40_L {n : Nat}  (b : Int) (i : Nat) {σ : Mm} {P : Int → Mm → Prop} (o1 : (i : Int) < (5 : Int) → (0 ≤ (i : Int) ∧ (i : Int) < 5)) (o2 : (i : Int) < (5 : Int) → ∀ x3 : Int, x3 = oor b (gi σ 48 i) → rg ((i : Int) + 1)) (l1 : (5 : Int) ≤ (i : Int) → P b σ) (l2 : (i : Int) < (5 : Int) → ∀ x3 : Int, x3 = oor b (gi σ 48 i) → R 94 4 [some (vr 40), some (vi x3), some (vi ((i : Int) + 1))] [] (shF n) 0 0 σ (Qi (shF n) P)) : R 94 4 [some (vr 40), some (vi b), some (vi (i : Int))] [] (shF n) 0 0 σ (Qi (shF n) P) :=
  wpK_R 13 [4] (And.intro (fun q1 => And.intro ret0 ⟨rfl, _, rfl, (l1 q1)⟩) (fun q1 => (have k2 := (o1 (Int.not_le.mp q1)); And.intro k2 ((have k4 := (o2 (Int.not_le.mp q1) _ rfl); And.intro k4 ((l2 (Int.not_le.mp q1) _ rfl)))))))
theorem c_kta_40 {n : Nat} {σ : Mm} {P : Int → Mm → Prop} (hP : P (knO (gi σ 48) 5) σ) : Ci 94 [vr 40] (shF n) σ P := by
  refine v_kta_40_0 ?_
  refine loopUp (N := 5) (I := fun k => R 94 4 [some (vr 40), some (vi (knO (gi σ 48) k)), some (vi (k : Int))] [] (shF n) 0 0 σ (Qi (shF n) P)) (fun k hk ih => ?_) 0 (by omega)
  refine v_kta_40_L _ k (by intros; first | omega | (unfold rg; omega)) (by intros; first | omega | (unfold rg; omega)) ?_ ?_
  · intro hge
    rw [show k = 5 by omega]; exact hP
  · intro hlt x3 hx3
    refine R_eq (ih (by omega)) ?_
    rw [hx3]
    rfl
theorem v_kta_49_0 {n : Nat}   {σ : Mm} {P : Int → Mm → Prop} (l1 : R 94 4 [some (vr 49), some (vi 0), some (vi 0)] [] (shF n) 0 0 σ (Qi (shF n) P)) : Ci 94 [vr 49] (shF n) σ P :=
  show R 94 0 [some (vr 49), none, none] [] (shF n) 0 0 σ (Qi (shF n) P) from wpK_R 5 [4] ((l1))
theorem v_kta_49_L {n : Nat}  (b : Int) (i : Nat) {σ : Mm} {P : Int → Mm → Prop} (o1 : (i : Int) < (5 : Int) → (0 ≤ (i : Int) ∧ (i : Int) < 5)) (o2 : (i : Int) < (5 : Int) → ∀ x3 : Int, x3 = oor b (gi σ 57 i) → rg ((i : Int) + 1)) (l1 : (5 : Int) ≤ (i : Int) → P b σ) (l2 : (i : Int) < (5 : Int) → ∀ x3 : Int, x3 = oor b (gi σ 57 i) → R 94 4 [some (vr 49), some (vi x3), some (vi ((i : Int) + 1))] [] (shF n) 0 0 σ (Qi (shF n) P)) : R 94 4 [some (vr 49), some (vi b), some (vi (i : Int))] [] (shF n) 0 0 σ (Qi (shF n) P) :=
  wpK_R 13 [4] (And.intro (fun q1 => And.intro ret0 ⟨rfl, _, rfl, (l1 q1)⟩) (fun q1 => (have k2 := (o1 (Int.not_le.mp q1)); And.intro k2 ((have k4 := (o2 (Int.not_le.mp q1) _ rfl); And.intro k4 ((l2 (Int.not_le.mp q1) _ rfl)))))))
theorem c_kta_49 {n : Nat} {σ : Mm} {P : Int → Mm → Prop} (hP : P (knO (gi σ 57) 5) σ) : Ci 94 [vr 49] (shF n) σ P := by
  refine v_kta_49_0 ?_
  refine loopUp (N := 5) (I := fun k => R 94 4 [some (vr 49), some (vi (knO (gi σ 57) k)), some (vi (k : Int))] [] (shF n) 0 0 σ (Qi (shF n) P)) (fun k hk ih => ?_) 0 (by omega)
  refine v_kta_49_L _ k (by intros; first | omega | (unfold rg; omega)) (by intros; first | omega | (unfold rg; omega)) ?_ ?_
  · intro hge
    rw [show k = 5 by omega]; exact hP
  · intro hlt x3 hx3
    refine R_eq (ih (by omega)) ?_
    rw [hx3]
    rfl
theorem v_kni_0 {n : Nat}  (b : Nat) {σ : Mm} {P : Int → Mm → Prop} (l1 : R 218 4 [some (vr 85), some (vi (b : Int)), some (vi 0), some (vi 0)] [] (shF n) 0 0 σ (Qi (shF n) P)) : Ci 218 [vr 85, vi (b : Int)] (shF n) σ P :=
  show R 218 0 [some (vr 85), some (vi (b : Int)), none, none] [] (shF n) 0 0 σ (Qi (shF n) P) from wpK_R 5 [4] ((l1))
theorem v_kni_L {n : Nat}  (b : Nat) (c : Int) (k : Nat) {σ : Mm} {P : Int → Mm → Prop} (o1 : (k : Int) < (gi σ 85 14) → rg ((5 : Int) * (b : Int))) (o2 : (k : Int) < (gi σ 85 14) → rg (((5 : Int) * (b : Int)) + (k : Int))) (o3 : (k : Int) < (gi σ 85 14) → (0 ≤ (((5 : Int) * (b : Int)) + (k : Int)) ∧ (((5 : Int) * (b : Int)) + (k : Int)) < 10)) (o4 : (k : Int) < (gi σ 85 14) → ∀ x5 : Int, x5 = oor c (gi σ 119 ((5 * b) + k)) → rg ((k : Int) + 1)) (l1 : (gi σ 85 14) ≤ (k : Int) → P c σ) (l2 : (k : Int) < (gi σ 85 14) → ∀ x5 : Int, x5 = oor c (gi σ 119 ((5 * b) + k)) → R 218 4 [some (vr 85), some (vi (b : Int)), some (vi x5), some (vi ((k : Int) + 1))] [] (shF n) 0 0 σ (Qi (shF n) P)) : R 218 4 [some (vr 85), some (vi (b : Int)), some (vi c), some (vi (k : Int))] [] (shF n) 0 0 σ (Qi (shF n) P) :=
  wpK_R 18 [4] (And.intro (fun q1 => And.intro ret0 ⟨rfl, _, rfl, (l1 q1)⟩) (fun q1 => (have k2 := (o1 (Int.not_le.mp q1)); And.intro k2 ((have k3 := (o2 (Int.not_le.mp q1)); And.intro k3 ((have k4 := (o3 (Int.not_le.mp q1)); And.intro k4 ((have k6 := (o4 (Int.not_le.mp q1) _ rfl); And.intro k6 ((l2 (Int.not_le.mp q1) _ rfl)))))))))))
theorem c_kni {n b : Nat} {σ : Mm} {P : Int → Mm → Prop} (hc : 0 ≤ gi σ 85 14 ∧ gi σ 85 14 ≤ 5) (hb : b < 2) (hP : P (knO (fun q => gi σ 119 (5 * b + q)) (gi σ 85 14).toNat) σ) : Ci 218 [vr 85, vi (b : Int)] (shF n) σ P := by
  refine v_kni_0 b ?_
  refine loopUp (N := (gi σ 85 14).toNat) (I := fun k => R 218 4 [some (vr 85), some (vi (b : Int)), some (vi (knO (fun q => gi σ 119 (5 * b + q)) k)), some (vi (k : Int))] [] (shF n) 0 0 σ (Qi (shF n) P)) (fun k hk ih => ?_) 0 (by omega)
  refine v_kni_L b _ k (by intros; first | omega | (unfold rg; omega)) (by intros; first | omega | (unfold rg; omega)) (by intros; first | omega | (unfold rg; omega)) (by intros; first | omega | (unfold rg; omega)) ?_ ?_
  · intro hge
    rw [show (gi σ 85 14).toNat = k by omega] at hP; exact hP
  · intro hlt x3 hx3
    refine R_eq (ih (by omega)) ?_
    rw [hx3]
    rfl
