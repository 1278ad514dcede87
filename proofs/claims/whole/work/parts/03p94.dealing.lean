/-! GIVEN: the class's dealing -/
/-- the first cases to come, at most six -/
def tc (sd : Nat → Int) : Nat → Nat × (Nat → Nat)
  | 0 => (0, fun _ => 0)
  | i + 1 => if (tc sd i).1 < 6 ∧ sd i = -1 then ((tc sd i).1 + 1, fun x => if x = (tc sd i).1 then i else (tc sd i).2 x) else tc sd i
theorem tc_in {sd : Nat → Int} : ∀ i : Nat, (tc sd i).1 ≤ 6 ∧ ∀ k, k < (tc sd i).1 → (tc sd i).2 k < i := by
  intro i
  induction i with
  | zero => exact ⟨by simp [tc], fun k hk => by simp [tc] at hk⟩
  | succ i ih =>
    simp only [tc]
    split
    · rename_i q
      refine ⟨by show (tc sd i).1 + 1 ≤ 6; omega, fun k hk => ?_⟩
      have hk' : k < (tc sd i).1 + 1 := hk
      show (if k = (tc sd i).1 then i else (tc sd i).2 k) < i + 1
      split
      · omega
      · have := ih.2 k (by omega); omega
    · exact ⟨ih.1, fun k hk => by have := ih.2 k hk; omega⟩
theorem tc_stop {sd : Nat → Int} {i : Nat} (h : 6 ≤ (tc sd i).1) : ∀ d : Nat, tc sd (i + d) = tc sd i := by
  intro d
  induction d with
  | zero => rfl
  | succ d ih =>
    show tc sd (i + d + 1) = _
    simp only [tc]
    rw [ih, if_neg (by omega)]
theorem v_ga_0 {n : Nat}   {σ : Mm} {P : Mm → Prop} (l1 : ∀ t1 : Mm, t1 = si σ 82 2 (0 : Int) → R 5 7 [some (vr 82), some (vr 5), some (vr 40), some (vi 0)] [] (shF n) 0 0 t1 (Qv (shF n) P)) : Cv 5 [vr 82, vr 5, vr 40] (shF n) σ P :=
  show R 5 0 [some (vr 82), some (vr 5), some (vr 40), none] [] (shF n) 0 0 σ (Qv (shF n) P) from wpK_R 6 [7] ((l1 _ rfl))
theorem v_ga_L {n : Nat}  (i : Nat) {σ : Mm} {P : Mm → Prop} (o1 : (i : Int) < (gi σ 5 1) → (gi σ 82 2) < (6 : Int) → (0 ≤ (i : Int) ∧ (i : Int) < 10)) (o2 : (i : Int) < (gi σ 5 1) → (gi σ 82 2) < (6 : Int) → (gi σ 43 i) ≠ (-1 : Int) → rg ((i : Int) + 1)) (o3 : (i : Int) < (gi σ 5 1) → (gi σ 82 2) < (6 : Int) → (gi σ 43 i) = (-1 : Int) → (0 ≤ (gi σ 82 2) ∧ (gi σ 82 2) < 6)) (o4 : (i : Int) < (gi σ 5 1) → (gi σ 82 2) < (6 : Int) → (gi σ 43 i) = (-1 : Int) → ∀ t7 : Mm, t7 = si σ 83 (gi σ 82 2).toNat (gi σ 12 i) → rg ((gi σ 82 2) + 1)) (o5 : (i : Int) < (gi σ 5 1) → (gi σ 82 2) < (6 : Int) → (gi σ 43 i) = (-1 : Int) → ∀ t7 : Mm, t7 = si σ 83 (gi σ 82 2).toNat (gi σ 12 i) → ∀ t9 : Mm, t9 = si t7 82 2 ((gi σ 82 2) + 1) → rg ((i : Int) + 1)) (l1 : (gi σ 5 1) ≤ (i : Int) → P σ) (l2 : (i : Int) < (gi σ 5 1) → (6 : Int) ≤ (gi σ 82 2) → P σ) (l3 : (i : Int) < (gi σ 5 1) → (gi σ 82 2) < (6 : Int) → (gi σ 43 i) ≠ (-1 : Int) → R 5 7 [some (vr 82), some (vr 5), some (vr 40), some (vi ((i : Int) + 1))] [] (shF n) 0 0 σ (Qv (shF n) P)) (l4 : (i : Int) < (gi σ 5 1) → (gi σ 82 2) < (6 : Int) → (gi σ 43 i) = (-1 : Int) → ∀ t7 : Mm, t7 = si σ 83 (gi σ 82 2).toNat (gi σ 12 i) → ∀ t9 : Mm, t9 = si t7 82 2 ((gi σ 82 2) + 1) → R 5 7 [some (vr 82), some (vr 5), some (vr 40), some (vi ((i : Int) + 1))] [] (shF n) 0 0 t9 (Qv (shF n) P)) : R 5 7 [some (vr 82), some (vr 5), some (vr 40), some (vi (i : Int))] [] (shF n) 0 0 σ (Qv (shF n) P) :=
  wpK_R 32 [7] (And.intro (fun q1 => And.intro ret0 ⟨rfl, rfl, (l1 q1)⟩) (fun q1 => And.intro (fun q2 => And.intro ret0 ⟨rfl, rfl, (l2 (Int.not_le.mp q1) q2)⟩) (fun q2 => (have k3 := (o1 (Int.not_le.mp q1) (Int.not_le.mp q2)); And.intro k3 (And.intro (fun q4 => (have k5 := (o2 (Int.not_le.mp q1) (Int.not_le.mp q2) q4); And.intro k5 ((l3 (Int.not_le.mp q1) (Int.not_le.mp q2) q4)))) (fun q4 => And.intro k3 ((have k6 := (o3 (Int.not_le.mp q1) (Int.not_le.mp q2) (Classical.not_not.mp q4)); And.intro k6 ((have k8 := (o4 (Int.not_le.mp q1) (Int.not_le.mp q2) (Classical.not_not.mp q4) _ rfl); And.intro k8 ((have k10 := (o5 (Int.not_le.mp q1) (Int.not_le.mp q2) (Classical.not_not.mp q4) _ rfl _ rfl); And.intro k10 ((l4 (Int.not_le.mp q1) (Int.not_le.mp q2) (Classical.not_not.mp q4) _ rfl _ rfl))))))))))))))
def Ga (σ s : Mm) : Prop := (∀ a i, a ≠ 83 → ¬ (a = 82 ∧ i = 2) → gi s a i = gi σ a i) ∧ gi s 82 2 = ((tc (gi σ 43) (gi σ 5 1).toNat).1 : Int) ∧ (∀ k, k < (tc (gi σ 43) (gi σ 5 1).toNat).1 → gi s 83 k = gi σ 12 ((tc (gi σ 43) (gi σ 5 1).toNat).2 k))
theorem c_ga {n : Nat} {σ : Mm} {P : Mm → Prop} (hC : 0 ≤ gi σ 5 1 ∧ gi σ 5 1 ≤ 10) (hP : ∀ s, Ga σ s → P s) : Cv 5 [vr 82, vr 5, vr 40] (shF n) σ P := by
  refine v_ga_0 ?_
  intro t0 e0
  refine loopUp (N := (gi σ 5 1).toNat) (I := fun i => ∀ τ : Mm, (∀ a i, a ≠ 83 → ¬ (a = 82 ∧ i = 2) → gi τ a i = gi σ a i) → gi τ 82 2 = ((tc (gi σ 43) i).1 : Int) → (∀ k, k < (tc (gi σ 43) i).1 → gi τ 83 k = gi σ 12 ((tc (gi σ 43) i).2 k)) → R 5 7 [some (vr 82), some (vr 5), some (vr 40), some (vi (i : Int))] [] (shF n) 0 0 τ (Qv (shF n) P)) (fun i hi ih => ?_) 0 (by omega) t0 (fun a i _ q => by rw [e0, gi_si, if_neg q]) (by rw [e0, gi_si, if_pos ⟨rfl, rfl⟩]; rfl) (fun k hk => by simp [tc] at hk)
  intro τ f1 f2 f3
  have g51 := f1 5 1 (by omega) (by omega)
  have g43 := f1 43 i (by omega) (by omega)
  have g12 := f1 12 i (by omega) (by omega)
  have hin := (tc_in (sd := gi σ 43) i).1
  refine v_ga_L i (by intros; first | omega | (unfold rg; omega)) (by intros; first | omega | (unfold rg; omega)) (by intros; first | omega | (unfold rg; omega)) (by intros; first | omega | (unfold rg; omega)) (by intros; first | omega | (unfold rg; omega)) ?_ ?_ ?_ ?_
  · intro hge
    refine hP τ ⟨f1, ?_, ?_⟩
    · rw [f2, show (gi σ 5 1).toNat = i by omega]
    · rw [show (gi σ 5 1).toNat = i by omega]; exact f3
  · intro hlt h6
    have e := tc_stop (sd := gi σ 43) (i := i) (by omega) ((gi σ 5 1).toNat - i)
    rw [show i + ((gi σ 5 1).toNat - i) = (gi σ 5 1).toNat by omega] at e
    refine hP τ ⟨f1, ?_, ?_⟩
    · rw [e]; exact f2
    · rw [e]; exact f3
  · intro hlt h6 hne
    have e : tc (gi σ 43) (i + 1) = tc (gi σ 43) i := by simp only [tc]; rw [if_neg (by omega)]
    refine R_eq (ih (by omega) τ f1 (by rw [e]; exact f2) (by rw [e]; exact f3)) rfl
  · intro hlt h6 he t7 e7 t9 e9
    rw [f2, Int.toNat_natCast] at e7
    rw [f2] at e9
    have e : tc (gi σ 43) (i + 1) = ((tc (gi σ 43) i).1 + 1, fun x => if x = (tc (gi σ 43) i).1 then i else (tc (gi σ 43) i).2 x) := by simp only [tc]; rw [if_pos (by omega)]
    refine R_eq (ih (by omega) t9 (fun a q p1 p2 => by rw [e9, gi_si, if_neg p2, e7, gi_ne p1]; exact f1 a q p1 p2) ?_ ?_) rfl
    · rw [e, e9, gi_si, if_pos ⟨rfl, rfl⟩]; rfl
    · rw [e]
      intro k hk
      have hk' : k < (tc (gi σ 43) i).1 + 1 := hk
      show gi t9 83 k = gi σ 12 (if k = (tc (gi σ 43) i).1 then i else (tc (gi σ 43) i).2 k)
      rw [e9, gi_ne (by omega), e7, gi_si]
      by_cases z : k = (tc (gi σ 43) i).1
      · rw [if_pos ⟨rfl, z⟩, if_pos z]; exact g12
      · rw [if_neg (fun y => z y.2), if_neg z]; exact f3 k (by omega)
def PW (σ : Mm) : Prop := ∀ i, i < 6 → gi σ 0 i = ((3 ^ i : Nat) : Int)
theorem pwF_3 : ∀ i : Nat, i < 6 → pwF i = ((3 ^ i : Nat) : Int) := by decide +kernel
theorem v_di_0 {n : Nat}  (l : Int) (J : Int) {σ : Mm} {P : Int → Mm → Prop} (l1 : R 10 4 [some (vi l), some (vi J), some (vi 0), some (vi 0)] [] (shF n) 0 0 σ (Qi (shF n) P)) : Ci 10 [vi l, vi J] (shF n) σ P :=
  show R 10 0 [some (vi l), some (vi J), none, none] [] (shF n) 0 0 σ (Qi (shF n) P) from wpK_R 5 [4] ((l1))
theorem v_di_L {n : Nat}  (l : Int) (J : Int) (d : Int) (k : Nat) {σ : Mm} {P : Int → Mm → Prop} (o1 : (k : Int) < J → (0 ≤ (k : Int) ∧ (k : Int) < 6)) (o2 : (k : Int) < J → (0 ≤ l ∧ l < 2147483648 ∧ 0 < (gi σ 0 k))) (o3 : (k : Int) < J → (0 ≤ (l / (gi σ 0 k)) ∧ 0 < (3 : Int))) (o4 : (k : Int) < J → rg (d + ((l / (gi σ 0 k)) % (3 : Int)))) (o5 : (k : Int) < J → ∀ x6 : Int, x6 = d + ((l / (gi σ 0 k)) % (3 : Int)) → rg ((k : Int) + 1)) (l1 : J ≤ (k : Int) → P d σ) (l2 : (k : Int) < J → ∀ x6 : Int, x6 = d + ((l / (gi σ 0 k)) % (3 : Int)) → R 10 4 [some (vi l), some (vi J), some (vi x6), some (vi ((k : Int) + 1))] [] (shF n) 0 0 σ (Qi (shF n) P)) : R 10 4 [some (vi l), some (vi J), some (vi d), some (vi (k : Int))] [] (shF n) 0 0 σ (Qi (shF n) P) :=
  wpK_R 16 [4] (And.intro (fun q1 => And.intro ret0 ⟨rfl, _, rfl, (l1 q1)⟩) (fun q1 => (have k2 := (o1 (Int.not_le.mp q1)); And.intro k2 ((have k3 := (o2 (Int.not_le.mp q1)); And.intro k3 ((have k4 := (o3 (Int.not_le.mp q1)); And.intro k4 ((have k5 := (o4 (Int.not_le.mp q1)); And.intro k5 ((have k7 := (o5 (Int.not_le.mp q1) _ rfl); And.intro k7 ((l2 (Int.not_le.mp q1) _ rfl)))))))))))))
theorem c_di {n : Nat} {l J : Int} {σ : Mm} {P : Int → Mm → Prop} (hl : 0 ≤ l ∧ l < 243) (hJ : 0 ≤ J ∧ J ≤ 5) (pw : PW σ) (hP : P ((dl l.toNat J.toNat : Nat) : Int) σ) : Ci 10 [vi l, vi J] (shF n) σ P := by
  obtain ⟨l, rfl⟩ := Int.eq_ofNat_of_zero_le hl.1
  rw [Int.toNat_natCast, dl_c] at hP
  refine v_di_0 (l : Int) J ?_
  refine loopUp (N := J.toNat) (I := fun k => R 10 4 [some (vi (l : Int)), some (vi J), some (vi (sumF (fun j => (dt l j : Int)) k)), some (vi (k : Int))] [] (shF n) 0 0 σ (Qi (shF n) P)) (fun k hk ih => ?_) 0 (by omega)
  have hbd := sumF_bd (f := fun j => (dt l j : Int)) (B := 2) (k := k) (fun q _ => by have := dt_2 l q; omega)
  have g0 := fun q : k < 6 => pw k q
  have hp : 0 < 3 ^ k := Nat.pow_pos (by omega)
  have hv : k < 6 → (l : Int) / gi σ 0 k % 3 = (dt l k : Int) := fun q => by rw [g0 q]; unfold dt; rw [Int.natCast_emod, Int.natCast_ediv]; rfl
  have h2 := dt_2 l k
  refine v_di_L (l : Int) J _ k (by intros; first | omega | (rw [g0 (by omega)]; first | omega | exact ⟨Int.ediv_nonneg (by omega) (by omega), by omega⟩) | (rw [hv (by omega)]; unfold rg; omega) | (unfold rg; omega)) (by intros; first | omega | (rw [g0 (by omega)]; first | omega | exact ⟨Int.ediv_nonneg (by omega) (by omega), by omega⟩) | (rw [hv (by omega)]; unfold rg; omega) | (unfold rg; omega)) (by intros; first | omega | (rw [g0 (by omega)]; first | omega | exact ⟨Int.ediv_nonneg (by omega) (by omega), by omega⟩) | (rw [hv (by omega)]; unfold rg; omega) | (unfold rg; omega)) (by intros; first | omega | (rw [g0 (by omega)]; first | omega | exact ⟨Int.ediv_nonneg (by omega) (by omega), by omega⟩) | (rw [hv (by omega)]; unfold rg; omega) | (unfold rg; omega)) (by intros; first | omega | (rw [g0 (by omega)]; first | omega | exact ⟨Int.ediv_nonneg (by omega) (by omega), by omega⟩) | (rw [hv (by omega)]; unfold rg; omega) | (unfold rg; omega)) ?_ ?_
  · intro hge
    rw [show J.toNat = k by omega] at hP; exact hP
  · intro hlt x6 e6
    refine R_eq (ih (by omega)) ?_
    rw [e6, hv (by omega)]
    rfl
