/-! GIVEN: the class's weighing -/
def wg (g e : Nat → Int) (n k j : Nat) : Int := if k < n then iabs (g k - e j) else 0
theorem iabs_in {x : Int} {b : Int} (h : -b ≤ x ∧ x ≤ b) : 0 ≤ iabs x ∧ iabs x ≤ b := by unfold iabs; split <;> omega
theorem wg_in {g e : Nat → Int} {n J : Nat} (hg : ∀ k, k < n → 0 ≤ g k ∧ g k ≤ 99) (he : ∀ j, j < J → 0 ≤ e j ∧ e j ≤ 99) : ∀ k j, j < J → 0 ≤ wg g e n k j ∧ wg g e n k j ≤ 99 := fun k j hj => by
  unfold wg
  split
  · rename_i q
    have := hg k q
    have := he j hj
    exact iabs_in (by omega)
  · omega
theorem dl_le {l J : Nat} : dl l J ≤ 2 * J := by
  have a := dl_c (l := l) (J := J)
  have b := sumF_bd (f := fun j => (dt l j : Int)) (B := 2) (k := J) (fun q _ => by have := dt_2 l q; omega)
  omega
theorem LsB {w : Nat → Nat → Int} {n J : Nat} (hJ : J < 6) (hn : n ≤ 2 * J) (hn6 : n ≤ 6) (hw : ∀ k j, j < J → 0 ≤ w k j ∧ w k j ≤ 99) {l : Nat} (hl : l < 3 ^ J) : 0 ≤ LsS w n J (n - dl l J) l ∧ LsS w n J (n - dl l J) l ≤ 594 := by
  have hd := dl_le (l := l) (J := J)
  have := LsS_in (n := n) hJ hw (n - dl l J) l hl (by omega)
  omega
def Wgh (σ s : Mm) : Prop := (∀ a i, a ≠ 84 → gi s a i = gi σ a i) ∧ (∀ l, l < 3 ^ (gi σ 5 0).toNat → gi s 84 l = LsS (wg (gi σ 83) (gi σ 7) (gi σ 82 2).toNat) (gi σ 82 2).toNat (gi σ 5 0).toNat ((gi σ 82 2).toNat - dl l (gi σ 5 0).toNat) l)
theorem v_wg_0 {n : Nat}   {σ : Mm} {P : Mm → Prop} (o1 : (0 ≤ (gi σ 5 0) ∧ (gi σ 5 0) < 6)) (o2 : rg ((gi σ 0 (gi σ 5 0).toNat) - 1)) (l1 : ∀ x3 : Int, x3 = (gi σ 0 (gi σ 5 0).toNat) - 1 → R 6 11 [some (vr 82), some (vr 5), some (vi x3), none, none] [] (shF n) 0 0 σ (Qv (shF n) P)) : Cv 6 [vr 82, vr 5] (shF n) σ P :=
  show R 6 0 [some (vr 82), some (vr 5), none, none, none] [] (shF n) 0 0 σ (Qv (shF n) P) from wpK_R 8 [11, 50] ((have k1 := (o1); And.intro k1 ((have k2 := (o2); And.intro k2 ((l1 _ rfl))))))
theorem v_wg_11 {n : Nat}  (l : Int) (p : Option PV) (q : Option PV) {σ : Mm} {P : Mm → Prop} (o1 : (0 : Int) ≤ l → (0 ≤ l ∧ l < 243)) (o2 : (0 : Int) ≤ l → (0 ≤ (gi σ 5 0) ∧ (gi σ 5 0) ≤ 5)) (o3 : (0 : Int) ≤ l → PW σ) (o4 : (0 : Int) ≤ l → ∀ x2 : Int, x2 = ((dl l.toNat (gi σ 5 0).toNat : Nat) : Int) → (0 ≤ l ∧ l < 243)) (o5 : (0 : Int) ≤ l → ∀ x2 : Int, x2 = ((dl l.toNat (gi σ 5 0).toNat : Nat) : Int) → ∀ t4 : Mm, t4 = si σ 84 l.toNat (0 : Int) → (gi σ 82 2) ≤ x2 → rg (l + (-1))) (l1 : l < (0 : Int) → P σ) (l2 : (0 : Int) ≤ l → ∀ x2 : Int, x2 = ((dl l.toNat (gi σ 5 0).toNat : Nat) : Int) → ∀ t4 : Mm, t4 = si σ 84 l.toNat (0 : Int) → (gi σ 82 2) ≤ x2 → ∀ x7 : Int, x7 = l + (-1) → R 6 11 [some (vr 82), some (vr 5), some (vi x7), some (vi x2), q] [] (shF n) 0 0 t4 (Qv (shF n) P)) (l3 : (0 : Int) ≤ l → ∀ x2 : Int, x2 = ((dl l.toNat (gi σ 5 0).toNat : Nat) : Int) → ∀ t4 : Mm, t4 = si σ 84 l.toNat (0 : Int) → x2 < (gi σ 82 2) → ∀ t8 : Mm, t8 = si t4 84 l.toNat (2147483647 : Int) → R 6 50 [some (vr 82), some (vr 5), some (vi l), some (vi x2), some (vi 0)] [] (shF n) 0 0 t8 (Qv (shF n) P)) : R 6 11 [some (vr 82), some (vr 5), some (vi l), p, q] [] (shF n) 0 0 σ (Qv (shF n) P) :=
  wpK_R 24 [11, 50] (And.intro (fun q1 => And.intro ret0 ⟨rfl, rfl, (l1 q1)⟩) (fun q1 => (c_di  (o1 (Int.not_lt.mp q1)) (o2 (Int.not_lt.mp q1)) (o3 (Int.not_lt.mp q1)) ((have k3 := (o4 (Int.not_lt.mp q1) _ rfl); And.intro k3 (And.intro (fun q5 => (have k6 := (o5 (Int.not_lt.mp q1) _ rfl _ rfl q5); And.intro k6 ((l2 (Int.not_lt.mp q1) _ rfl _ rfl q5 _ rfl)))) (fun q5 => And.intro k3 ((l3 (Int.not_lt.mp q1) _ rfl _ rfl (Int.not_le.mp q5) _ rfl)))))))))
theorem v_wg_50 {n : Nat}  (l : Nat) (nx : Nat) (j : Nat) {σ : Mm} {P : Mm → Prop} (o1 : (gi σ 5 0) ≤ (j : Int) → rg ((l : Int) + (-1))) (o2 : (j : Int) < (gi σ 5 0) → (0 ≤ (j : Int) ∧ (j : Int) < 6)) (o3 : (j : Int) < (gi σ 5 0) → (0 ≤ (l : Int) ∧ (l : Int) < 2147483648 ∧ 0 < (gi σ 0 j))) (o4 : (j : Int) < (gi σ 5 0) → (0 ≤ ((l : Int) / (gi σ 0 j)) ∧ 0 < (3 : Int))) (o5 : (j : Int) < (gi σ 5 0) → (2 : Int) ≤ (((l : Int) / (gi σ 0 j)) % (3 : Int)) → rg ((j : Int) + 1)) (o6 : (j : Int) < (gi σ 5 0) → (((l : Int) / (gi σ 0 j)) % (3 : Int)) < (2 : Int) → (0 ≤ (l : Int) ∧ (l : Int) < 243)) (o7 : (j : Int) < (gi σ 5 0) → (((l : Int) / (gi σ 0 j)) % (3 : Int)) < (2 : Int) → (0 ≤ (nx : Int) ∧ (nx : Int) < 6)) (o8 : (j : Int) < (gi σ 5 0) → (((l : Int) / (gi σ 0 j)) % (3 : Int)) < (2 : Int) → (0 ≤ (j : Int) ∧ (j : Int) < 5)) (o9 : (j : Int) < (gi σ 5 0) → (((l : Int) / (gi σ 0 j)) % (3 : Int)) < (2 : Int) → rg ((gi σ 83 nx) - (gi σ 7 j))) (o10 : (j : Int) < (gi σ 5 0) → (((l : Int) / (gi σ 0 j)) % (3 : Int)) < (2 : Int) → (-2147483648 < ((gi σ 83 nx) - (gi σ 7 j)) ∧ ((gi σ 83 nx) - (gi σ 7 j)) < 2147483648)) (o11 : (j : Int) < (gi σ 5 0) → (((l : Int) / (gi σ 0 j)) % (3 : Int)) < (2 : Int) → rg ((l : Int) + (gi σ 0 j))) (o12 : (j : Int) < (gi σ 5 0) → (((l : Int) / (gi σ 0 j)) % (3 : Int)) < (2 : Int) → (0 ≤ ((l : Int) + (gi σ 0 j)) ∧ ((l : Int) + (gi σ 0 j)) < 243)) (o13 : (j : Int) < (gi σ 5 0) → (((l : Int) / (gi σ 0 j)) % (3 : Int)) < (2 : Int) → rg ((iabs ((gi σ 83 nx) - (gi σ 7 j))) + (gi σ 84 ((l : Int) + (gi σ 0 j)).toNat))) (o14 : (j : Int) < (gi σ 5 0) → (((l : Int) / (gi σ 0 j)) % (3 : Int)) < (2 : Int) → ∀ x17 : Int, x17 = (iabs ((gi σ 83 nx) - (gi σ 7 j))) + (gi σ 84 ((l : Int) + (gi σ 0 j)).toNat) → ∀ t18 : Mm, t18 = si σ 84 l (if x17 < (gi σ 84 l) then x17 else (gi σ 84 l)) → rg ((j : Int) + 1)) (l1 : (gi σ 5 0) ≤ (j : Int) → ∀ x3 : Int, x3 = (l : Int) + (-1) → R 6 11 [some (vr 82), some (vr 5), some (vi x3), some (vi (nx : Int)), some (vi (j : Int))] [] (shF n) 0 0 σ (Qv (shF n) P)) (l2 : (j : Int) < (gi σ 5 0) → (2 : Int) ≤ (((l : Int) / (gi σ 0 j)) % (3 : Int)) → R 6 50 [some (vr 82), some (vr 5), some (vi (l : Int)), some (vi (nx : Int)), some (vi ((j : Int) + 1))] [] (shF n) 0 0 σ (Qv (shF n) P)) (l3 : (j : Int) < (gi σ 5 0) → (((l : Int) / (gi σ 0 j)) % (3 : Int)) < (2 : Int) → ∀ x17 : Int, x17 = (iabs ((gi σ 83 nx) - (gi σ 7 j))) + (gi σ 84 ((l : Int) + (gi σ 0 j)).toNat) → ∀ t18 : Mm, t18 = si σ 84 l (if x17 < (gi σ 84 l) then x17 else (gi σ 84 l)) → R 6 50 [some (vr 82), some (vr 5), some (vi (l : Int)), some (vi (nx : Int)), some (vi ((j : Int) + 1))] [] (shF n) 0 0 t18 (Qv (shF n) P)) : R 6 50 [some (vr 82), some (vr 5), some (vi (l : Int)), some (vi (nx : Int)), some (vi (j : Int))] [] (shF n) 0 0 σ (Qv (shF n) P) :=
  wpK_R 26 [11, 50] (And.intro (fun q1 => (have k2 := (o1 q1); And.intro k2 ((l1 q1 _ rfl)))) (fun q1 => (show R 9 0 [_, _] [] (shF n) 0 0 _ _ from wpK_R 12 [] ((have k4 := (o2 (Int.not_le.mp q1)); And.intro k4 ((have k5 := (o3 (Int.not_le.mp q1)); And.intro k5 ((have k6 := (o4 (Int.not_le.mp q1)); And.intro k6 (And.intro (fun q7 => And.intro ret0 (And.intro (Or.inl rfl) ⟨rfl, _, rfl, And.intro (fun _ => (have k8 := (o5 (Int.not_le.mp q1) q7); And.intro k8 ((l2 (Int.not_le.mp q1) q7)))) (fun q => absurd (show (0 : Int) = 0 by decide) q)⟩)) (fun q7 => And.intro ret0 (And.intro (Or.inr rfl) ⟨rfl, _, rfl, And.intro (fun q => absurd q (show ¬ ((1 : Int) = 0) by decide)) (fun _ => (have k9 := (o6 (Int.not_le.mp q1) (Int.not_le.mp q7)); And.intro k9 ((show R 8 0 [some (vr 82), some (vr 5), _, _, _] [] (shF n) 0 0 _ _ from wpK_R 20 [] ((have k10 := (o7 (Int.not_le.mp q1) (Int.not_le.mp q7)); And.intro k10 ((have k11 := (o8 (Int.not_le.mp q1) (Int.not_le.mp q7)); And.intro k11 ((have k12 := (o9 (Int.not_le.mp q1) (Int.not_le.mp q7)); And.intro k12 ((have k13 := (o10 (Int.not_le.mp q1) (Int.not_le.mp q7)); And.intro k13 (And.intro k4 ((have k14 := (o11 (Int.not_le.mp q1) (Int.not_le.mp q7)); And.intro k14 ((have k15 := (o12 (Int.not_le.mp q1) (Int.not_le.mp q7)); And.intro k15 ((have k16 := (o13 (Int.not_le.mp q1) (Int.not_le.mp q7)); And.intro k16 (And.intro ret0 ⟨rfl, _, rfl, And.intro k9 ((have k19 := (o14 (Int.not_le.mp q1) (Int.not_le.mp q7) _ rfl _ rfl); And.intro k19 ((l3 (Int.not_le.mp q1) (Int.not_le.mp q7) _ rfl _ rfl))))⟩))))))))))))))))))))⟩))))))))))))
theorem c_wg {n : Nat} {σ : Mm} {P : Mm → Prop} (hJ : 0 ≤ gi σ 5 0 ∧ gi σ 5 0 ≤ 5) (hC : 0 ≤ gi σ 82 2 ∧ gi σ 82 2 ≤ 6 ∧ gi σ 82 2 ≤ 2 * gi σ 5 0) (pw : PW σ) (hg : ∀ k : Nat, (k : Int) < gi σ 82 2 → 0 ≤ gi σ 83 k ∧ gi σ 83 k ≤ 99) (he : ∀ j : Nat, (j : Int) < gi σ 5 0 → 0 ≤ gi σ 7 j ∧ gi σ 7 j ≤ 99) (hP : ∀ s, Wgh σ s → P s) : Cv 6 [vr 82, vr 5] (shF n) σ P := by
  obtain ⟨J, hJe⟩ : ∃ J : Nat, gi σ 5 0 = (J : Int) := ⟨(gi σ 5 0).toNat, by omega⟩
  obtain ⟨C, hCe⟩ : ∃ C : Nat, gi σ 82 2 = (C : Int) := ⟨(gi σ 82 2).toNat, by omega⟩
  obtain ⟨w, hw⟩ : ∃ w, w = wg (gi σ 83) (gi σ 7) C := ⟨_, rfl⟩
  have hwi : ∀ k j, j < J → 0 ≤ w k j ∧ w k j ≤ 99 := by
    rw [hw]; exact wg_in (fun k hk => hg k (by omega)) (fun j hj => he j (by omega))
  have hP' : ∀ s, (∀ a i, a ≠ 84 → gi s a i = gi σ a i) → (∀ l, l < 3 ^ J → gi s 84 l = LsS w C J (C - dl l J) l) → P s := fun s a b => hP s ⟨a, by rw [hJe, hCe, Int.toNat_natCast, Int.toNat_natCast, ← hw]; exact b⟩
  clear hP hg
  have h243 : 3 ^ J ≤ 3 ^ 5 := Nat.pow_le_pow_right (by omega) (by omega)
  have hM0 : 0 < 3 ^ J := Nat.pow_pos (by omega)
  have hJ6 : J < 6 := by omega
  have gM := pw J (by omega)
  obtain ⟨M, hM⟩ : ∃ M, M = 3 ^ J := ⟨_, rfl⟩
  rw [← hM] at h243 hM0 gM
  refine v_wg_0 (by first | omega | (unfold rg; rw [hJe, Int.toNat_natCast, gM]; omega)) (by first | omega | (unfold rg; rw [hJe, Int.toNat_natCast, gM]; omega)) ?_
  intro x3 e3
  rw [hJe, Int.toNat_natCast, gM] at e3
  refine loopUp (N := M) (I := fun d => ∀ (L : Int) (τ : Mm) (p q : Option PV), L = (M : Int) - 1 - (d : Int) → (∀ a i, a ≠ 84 → gi τ a i = gi σ a i) → (∀ l, M ≤ l + d → l < M → gi τ 84 l = LsS w C J (C - dl l J) l) → R 6 11 [some (vr 82), some (vr 5), some (vi L), p, q] [] (shF n) 0 0 τ (Qv (shF n) P)) (fun d hd ih => ?_) 0 (by omega) x3 σ none none (by omega) (fun _ _ _ => rfl) (fun l h1 h2 => by omega)
  intro L τ p q hL f1 f2
  have g5 : gi τ 5 0 = (J : Int) := by rw [f1 5 0 (by omega)]; exact hJe
  have g82 : gi τ 82 2 = (C : Int) := by rw [f1 82 2 (by omega)]; exact hCe
  have pw' : PW τ := fun i hi => by rw [f1 0 i (by omega)]; exact pw i hi
  refine v_wg_11 L p q (by intros; first | omega | exact pw' | (unfold rg; omega)) (by intros; first | omega | exact pw' | (unfold rg; omega)) (by intros; first | omega | exact pw' | (unfold rg; omega)) (by intros; first | omega | exact pw' | (unfold rg; omega)) (by intros; first | omega | exact pw' | (unfold rg; omega)) ?_ ?_ ?_
  · intro hlt
    refine hP' τ f1 fun l hl => f2 l (by omega) (by omega)
  · intro h0 x2 e2 t4 e4 hge x7 e7
    obtain ⟨l, rfl⟩ := Int.eq_ofNat_of_zero_le h0
    rw [g5, Int.toNat_natCast, Int.toNat_natCast] at e2
    rw [Int.toNat_natCast] at e4
    refine ih (by omega) x7 t4 _ _ (by omega) (fun a i p1 => by rw [e4, gi_ne p1]; exact f1 a i p1) fun l' h1 h2 => ?_
    rw [e4, gi_si]
    by_cases z : l' = l
    · rw [if_pos ⟨rfl, z⟩, z, show C - dl l J = 0 by omega]; rfl
    · rw [if_neg (fun y => z y.2)]; exact f2 l' (by omega) h2
  · intro h0 x2 e2 t4 e4 hlt t8 e8
    obtain ⟨l, rfl⟩ := Int.eq_ofNat_of_zero_le h0
    rw [g5, Int.toNat_natCast, Int.toNat_natCast] at e2
    rw [Int.toNat_natCast] at e4 e8
    obtain ⟨nx, hnx⟩ : ∃ nx, nx = dl l J := ⟨_, rfl⟩
    rw [← hnx] at e2
    subst e2
    obtain ⟨r, hr⟩ : ∃ r, C = nx + 1 + r := ⟨C - nx - 1, by omega⟩
    have hlM : l < M := by omega
    obtain ⟨f, hf⟩ : ∃ f : Nat → Int, f = fun j => w (C - 1 - r) j + LsS w C J r (l + 3 ^ j) := ⟨_, rfl⟩
    have hfin : LsS w C J (C - dl l J) l = minR l f J := by rw [← hnx, show C - nx = r + 1 by omega, hf]; rfl
    refine loopUp (N := J) (I := fun j => ∀ s : Mm, (∀ a i, ¬ (a = 84 ∧ i = l) → gi s a i = gi τ a i) → gi s 84 l = minR l f j → R 6 50 [some (vr 82), some (vr 5), some (vi (l : Int)), some (vi (nx : Int)), some (vi (j : Int))] [] (shF n) 0 0 s (Qv (shF n) P)) (fun j hj ij => ?_) 0 (by omega) t8 (fun a i z => by rw [e8, gi_si, if_neg z, e4, gi_si, if_neg z]) (by rw [e8, gi_si, if_pos ⟨rfl, rfl⟩]; rfl)
    intro s k1 k2
    have s5 : gi s 5 0 = (J : Int) := by rw [k1 5 0 (by omega)]; exact g5
    rcases Nat.lt_or_ge j J with hjJ | hjJ
    · have g0 : gi s 0 j = ((3 ^ j : Nat) : Int) := by rw [k1 0 j (by omega)]; exact pw' j (by omega)
      have hp : 0 < 3 ^ j := Nat.pow_pos (by omega)
      have hp2 : 3 ^ j ≤ 3 ^ 5 := Nat.pow_le_pow_right (by omega) (by omega)
      have hv : (l : Int) / gi s 0 j % 3 = (dt l j : Int) := by rw [g0]; unfold dt; rw [Int.natCast_emod, Int.natCast_ediv]; rfl
      have hdv : 0 ≤ (l : Int) / gi s 0 j := by rw [g0]; exact Int.ediv_nonneg (by omega) (by omega)
      have s83 : gi s 83 nx = gi σ 83 nx := by rw [k1 83 nx (by omega)]; exact f1 83 nx (by omega)
      have s7 : gi s 7 j = gi σ 7 j := by rw [k1 7 j (by omega)]; exact f1 7 j (by omega)
      have hwj : w (C - 1 - r) j = iabs (gi s 83 nx - gi s 7 j) := by
        rw [hw, s83, s7, show C - 1 - r = nx by omega]; unfold wg; rw [if_pos (by omega)]
      have hin := hwi (C - 1 - r) j hjJ
      rw [hwj] at hin
      have hro : (l : Int) / gi s 0 j % 3 < 2 → dt l j < 2 ∧ ((l : Int) + gi s 0 j).toNat = l + 3 ^ j ∧ l + 3 ^ j < M ∧ gi s 84 (l + 3 ^ j) = LsS w C J r (l + 3 ^ j) ∧ 0 ≤ gi s 84 (l + 3 ^ j) ∧ gi s 84 (l + 3 ^ j) ≤ 594 := fun q => by
        rw [hv] at q
        have q2 : dt l j < 2 := by omega
        have a1 : l + 3 ^ j < M := by rw [hM]; exact (dt_lt J hJ6 l (by omega) j hjJ).resolve_left (by omega)
        have a2 := f2 (l + 3 ^ j) (by omega) a1
        have a3 := LsB (n := C) hJ6 (by omega) (by omega) hwi (l := l + 3 ^ j) (by omega)
        rw [← a2] at a3
        have a4 : gi s 84 (l + 3 ^ j) = gi τ 84 (l + 3 ^ j) := k1 84 (l + 3 ^ j) (by omega)
        refine ⟨q2, by rw [g0]; omega, a1, ?_, by omega, by omega⟩
        rw [a4, a2, dl_add hJ6 (by omega) hjJ q2, ← hnx, show C - (nx + 1) = r by omega]
      have hsp : (l : Int) / gi s 0 j % 3 < 2 → gi s 84 ((l : Int) + gi s 0 j).toNat = gi s 84 (l + 3 ^ j) := fun q => by rw [(hro q).2.1]
      obtain ⟨G, hG⟩ : ∃ G, G = gi s 0 j := ⟨_, rfl⟩
      have hlow : (-2147483648 : Int) < gi s 83 nx - gi s 7 j ∧ gi s 83 nx - gi s 7 j < 2147483648 := by
        have := hin; unfold iabs at this; split at this <;> omega
      refine v_wg_50 l nx j (by intros; first | omega | (unfold rg; omega) | ((have := hro (by assumption)); (have := hsp (by assumption)); first | omega | (unfold rg; omega))) (by intros; first | omega | (unfold rg; omega) | ((have := hro (by assumption)); (have := hsp (by assumption)); first | omega | (unfold rg; omega))) (by intros; first | omega | (unfold rg; omega) | ((have := hro (by assumption)); (have := hsp (by assumption)); first | omega | (unfold rg; omega))) (by intros; first | omega | (unfold rg; omega) | ((have := hro (by assumption)); (have := hsp (by assumption)); first | omega | (unfold rg; omega))) (by intros; first | omega | (unfold rg; omega) | ((have := hro (by assumption)); (have := hsp (by assumption)); first | omega | (unfold rg; omega))) (by intros; first | omega | (unfold rg; omega) | ((have := hro (by assumption)); (have := hsp (by assumption)); first | omega | (unfold rg; omega))) (by intros; first | omega | (unfold rg; omega) | ((have := hro (by assumption)); (have := hsp (by assumption)); first | omega | (unfold rg; omega))) (by intros; first | omega | (unfold rg; omega) | ((have := hro (by assumption)); (have := hsp (by assumption)); first | omega | (unfold rg; omega))) (by intros; first | omega | (unfold rg; omega) | ((have := hro (by assumption)); (have := hsp (by assumption)); first | omega | (unfold rg; omega))) (by intros; first | omega | (unfold rg; omega) | ((have := hro (by assumption)); (have := hsp (by assumption)); first | omega | (unfold rg; omega))) (by intros; first | omega | (unfold rg; omega) | ((have := hro (by assumption)); (have := hsp (by assumption)); first | omega | (unfold rg; omega))) (by intros; first | omega | (unfold rg; omega) | ((have := hro (by assumption)); (have := hsp (by assumption)); first | omega | (unfold rg; omega))) (by intros; first | omega | (unfold rg; omega) | ((have := hro (by assumption)); (have := hsp (by assumption)); first | omega | (unfold rg; omega))) (by intros; first | omega | (unfold rg; omega) | ((have := hro (by assumption)); (have := hsp (by assumption)); first | omega | (unfold rg; omega))) ?_ ?_ ?_
      · intro hge; omega
      · intro _ hno
        refine R_eq (ij hjJ s k1 ?_) rfl
        rw [k2]
        simp only [minR]
        rw [if_neg (by omega)]
      · intro _ hyes x17 e17 t18 e18
        obtain ⟨q1, q2, q3, q4, -⟩ := hro hyes
        rw [q2, q4, ← hwj] at e17
        have hx : x17 = f j := by rw [e17, hf]
        refine R_eq (ij hjJ t18 (fun a i z => by rw [e18, gi_si, if_neg z]; exact k1 a i z) ?_) rfl
        rw [e18, gi_si, if_pos ⟨rfl, rfl⟩, k2, hx]
        simp only [minR]
        rw [if_pos q1]
    · have ejJ : j = J := by omega
      refine v_wg_50 l nx j (by intros; first | omega | (unfold rg; omega)) (by intros; first | omega | (unfold rg; omega)) (by intros; first | omega | (unfold rg; omega)) (by intros; first | omega | (unfold rg; omega)) (by intros; first | omega | (unfold rg; omega)) (by intros; first | omega | (unfold rg; omega)) (by intros; first | omega | (unfold rg; omega)) (by intros; first | omega | (unfold rg; omega)) (by intros; first | omega | (unfold rg; omega)) (by intros; first | omega | (unfold rg; omega)) (by intros; first | omega | (unfold rg; omega)) (by intros; first | omega | (unfold rg; omega)) (by intros; first | omega | (unfold rg; omega)) (by intros; first | omega | (unfold rg; omega)) ?_ ?_ ?_
      · intro _ x3 e3
        refine ih (by omega) x3 s _ _ (by omega) (fun a i p1 => by rw [k1 a i (by omega)]; exact f1 a i p1) fun l' h1 h2 => ?_
        by_cases z : l' = l
        · rw [z, hfin, k2, ejJ]
        · rw [k1 84 l' (by omega)]; exact f2 l' (by omega) h2
      · intro q; omega
      · intro q; omega
theorem fj_stop {p : Nat → Bool} {j : Nat} (h : anyF p j = true) : ∀ d : Nat, anyF p (j + d) = true ∧ fj p (j + d) = fj p j := by
  intro d
  induction d with
  | zero => exact ⟨h, rfl⟩
  | succ d ih =>
    refine ⟨?_, ?_⟩
    · show anyF p (j + d + 1) = true
      rw [anyF_s, ih.1]; rfl
    · show fj p (j + d + 1) = _
      simp only [fj]
      rw [if_pos ih.1]; exact ih.2
def Lst (σ : Mm) : Prop := ∀ l, l < 3 ^ (gi σ 5 0).toNat → gi σ 84 l = LsS (wg (gi σ 83) (gi σ 7) (gi σ 82 2).toNat) (gi σ 82 2).toNat (gi σ 5 0).toNat ((gi σ 82 2).toNat - dl l (gi σ 5 0).toNat) l
theorem Wgh_Lst {σ s : Mm} (h : Wgh σ s) : Lst s := by
  obtain ⟨a, b⟩ := h
  have e1 : gi s 83 = gi σ 83 := funext fun i => a 83 i (by omega)
  have e2 : gi s 7 = gi σ 7 := funext fun i => a 7 i (by omega)
  unfold Lst
  rw [e1, e2, a 5 0 (by omega), a 82 2 (by omega)]
  exact b
theorem v_jo_0 {n : Nat}  (wh : Nat) {σ : Mm} {P : Int → Mm → Prop} (l1 : R 7 8 [some (vr 82), some (vr 5), some (vi (wh : Int)), some (vi 0), some (vi (-1)), some (vi 0), none] [] (shF n) 0 0 σ (Qi (shF n) P)) : Ci 7 [vr 82, vr 5, vi (wh : Int)] (shF n) σ P :=
  show R 7 0 [some (vr 82), some (vr 5), some (vi (wh : Int)), none, none, none, none] [] (shF n) 0 0 σ (Qi (shF n) P) from wpK_R 7 [8, 20] ((l1))
theorem v_jo_8 {n : Nat}  (wh : Nat) (lo : Nat) (ch : Int) (t : Nat) (q : Option PV) {σ : Mm} {P : Int → Mm → Prop} (l1 : (wh : Int) < (t : Int) → P ch σ) (l2 : (t : Int) ≤ (wh : Int) → R 7 20 [some (vr 82), some (vr 5), some (vi (wh : Int)), some (vi (lo : Int)), some (vi (-1)), some (vi (t : Int)), some (vi 0)] [] (shF n) 0 0 σ (Qi (shF n) P)) : R 7 8 [some (vr 82), some (vr 5), some (vi (wh : Int)), some (vi (lo : Int)), some (vi ch), some (vi (t : Int)), q] [] (shF n) 0 0 σ (Qi (shF n) P) :=
  wpK_R 8 [8, 20] (And.intro (fun q1 => And.intro ret0 ⟨rfl, _, rfl, (l1 q1)⟩) (fun q1 => (l2 (Int.not_lt.mp q1))))
theorem v_jo_20 {n : Nat}  (wh : Nat) (lo : Nat) (ch : Int) (t : Nat) (j : Nat) {σ : Mm} {P : Int → Mm → Prop} (o1 : (gi σ 5 0) ≤ (j : Int) → ch ≠ (-1 : Int) → (0 ≤ ch ∧ ch < 6)) (o2 : (gi σ 5 0) ≤ (j : Int) → ch ≠ (-1 : Int) → rg ((lo : Int) + (gi σ 0 ch.toNat))) (o3 : (gi σ 5 0) ≤ (j : Int) → ch ≠ (-1 : Int) → ∀ x5 : Int, x5 = (lo : Int) + (gi σ 0 ch.toNat) → rg ((t : Int) + 1)) (o4 : (gi σ 5 0) ≤ (j : Int) → ch = (-1 : Int) → rg ((lo : Int) + 0)) (o5 : (gi σ 5 0) ≤ (j : Int) → ch = (-1 : Int) → rg ((t : Int) + 1)) (o6 : (j : Int) < (gi σ 5 0) → ch ≠ (-1 : Int) → ch ≠ (-1 : Int) → (0 ≤ ch ∧ ch < 6)) (o7 : (j : Int) < (gi σ 5 0) → ch ≠ (-1 : Int) → ch ≠ (-1 : Int) → rg ((lo : Int) + (gi σ 0 ch.toNat))) (o8 : (j : Int) < (gi σ 5 0) → ch ≠ (-1 : Int) → ch ≠ (-1 : Int) → ∀ x13 : Int, x13 = (lo : Int) + (gi σ 0 ch.toNat) → rg ((t : Int) + 1)) (o9 : (j : Int) < (gi σ 5 0) → ch ≠ (-1 : Int) → ch = (-1 : Int) → rg ((lo : Int) + 0)) (o10 : (j : Int) < (gi σ 5 0) → ch ≠ (-1 : Int) → ch = (-1 : Int) → rg ((t : Int) + 1)) (o11 : (j : Int) < (gi σ 5 0) → ch = (-1 : Int) → (0 ≤ (j : Int) ∧ (j : Int) < 6)) (o12 : (j : Int) < (gi σ 5 0) → ch = (-1 : Int) → (0 ≤ (lo : Int) ∧ (lo : Int) < 2147483648 ∧ 0 < (gi σ 0 j))) (o13 : (j : Int) < (gi σ 5 0) → ch = (-1 : Int) → (0 ≤ ((lo : Int) / (gi σ 0 j)) ∧ 0 < (3 : Int))) (o14 : (j : Int) < (gi σ 5 0) → ch = (-1 : Int) → (2 : Int) ≤ (((lo : Int) / (gi σ 0 j)) % (3 : Int)) → rg ((j : Int) + 1)) (o15 : (j : Int) < (gi σ 5 0) → ch = (-1 : Int) → (((lo : Int) / (gi σ 0 j)) % (3 : Int)) < (2 : Int) → (0 ≤ (t : Int) ∧ (t : Int) < 6)) (o16 : (j : Int) < (gi σ 5 0) → ch = (-1 : Int) → (((lo : Int) / (gi σ 0 j)) % (3 : Int)) < (2 : Int) → (0 ≤ (j : Int) ∧ (j : Int) < 5)) (o17 : (j : Int) < (gi σ 5 0) → ch = (-1 : Int) → (((lo : Int) / (gi σ 0 j)) % (3 : Int)) < (2 : Int) → rg ((gi σ 83 t) - (gi σ 7 j))) (o18 : (j : Int) < (gi σ 5 0) → ch = (-1 : Int) → (((lo : Int) / (gi σ 0 j)) % (3 : Int)) < (2 : Int) → (-2147483648 < ((gi σ 83 t) - (gi σ 7 j)) ∧ ((gi σ 83 t) - (gi σ 7 j)) < 2147483648)) (o19 : (j : Int) < (gi σ 5 0) → ch = (-1 : Int) → (((lo : Int) / (gi σ 0 j)) % (3 : Int)) < (2 : Int) → rg ((lo : Int) + (gi σ 0 j))) (o20 : (j : Int) < (gi σ 5 0) → ch = (-1 : Int) → (((lo : Int) / (gi σ 0 j)) % (3 : Int)) < (2 : Int) → (0 ≤ ((lo : Int) + (gi σ 0 j)) ∧ ((lo : Int) + (gi σ 0 j)) < 243)) (o21 : (j : Int) < (gi σ 5 0) → ch = (-1 : Int) → (((lo : Int) / (gi σ 0 j)) % (3 : Int)) < (2 : Int) → rg ((iabs ((gi σ 83 t) - (gi σ 7 j))) + (gi σ 84 ((lo : Int) + (gi σ 0 j)).toNat))) (o22 : (j : Int) < (gi σ 5 0) → ch = (-1 : Int) → (((lo : Int) / (gi σ 0 j)) % (3 : Int)) < (2 : Int) → ∀ x29 : Int, x29 = (iabs ((gi σ 83 t) - (gi σ 7 j))) + (gi σ 84 ((lo : Int) + (gi σ 0 j)).toNat) → (0 ≤ (lo : Int) ∧ (lo : Int) < 243)) (o23 : (j : Int) < (gi σ 5 0) → ch = (-1 : Int) → (((lo : Int) / (gi σ 0 j)) % (3 : Int)) < (2 : Int) → ∀ x29 : Int, x29 = (iabs ((gi σ 83 t) - (gi σ 7 j))) + (gi σ 84 ((lo : Int) + (gi σ 0 j)).toNat) → x29 ≠ (gi σ 84 lo) → rg ((j : Int) + 1)) (o24 : (j : Int) < (gi σ 5 0) → ch = (-1 : Int) → (((lo : Int) / (gi σ 0 j)) % (3 : Int)) < (2 : Int) → ∀ x29 : Int, x29 = (iabs ((gi σ 83 t) - (gi σ 7 j))) + (gi σ 84 ((lo : Int) + (gi σ 0 j)).toNat) → x29 = (gi σ 84 lo) → rg ((j : Int) + 1)) (l1 : (gi σ 5 0) ≤ (j : Int) → ch ≠ (-1 : Int) → ∀ x5 : Int, x5 = (lo : Int) + (gi σ 0 ch.toNat) → R 7 8 [some (vr 82), some (vr 5), some (vi (wh : Int)), some (vi x5), some (vi ch), some (vi ((t : Int) + 1)), some (vi (j : Int))] [] (shF n) 0 0 σ (Qi (shF n) P)) (l2 : (gi σ 5 0) ≤ (j : Int) → ch = (-1 : Int) → R 7 8 [some (vr 82), some (vr 5), some (vi (wh : Int)), some (vi ((lo : Int) + 0)), some (vi ch), some (vi ((t : Int) + 1)), some (vi (j : Int))] [] (shF n) 0 0 σ (Qi (shF n) P)) (l3 : (j : Int) < (gi σ 5 0) → ch ≠ (-1 : Int) → ch ≠ (-1 : Int) → ∀ x13 : Int, x13 = (lo : Int) + (gi σ 0 ch.toNat) → R 7 8 [some (vr 82), some (vr 5), some (vi (wh : Int)), some (vi x13), some (vi ch), some (vi ((t : Int) + 1)), some (vi (j : Int))] [] (shF n) 0 0 σ (Qi (shF n) P)) (l4 : (j : Int) < (gi σ 5 0) → ch ≠ (-1 : Int) → ch = (-1 : Int) → R 7 8 [some (vr 82), some (vr 5), some (vi (wh : Int)), some (vi ((lo : Int) + 0)), some (vi ch), some (vi ((t : Int) + 1)), some (vi (j : Int))] [] (shF n) 0 0 σ (Qi (shF n) P)) (l5 : (j : Int) < (gi σ 5 0) → ch = (-1 : Int) → (2 : Int) ≤ (((lo : Int) / (gi σ 0 j)) % (3 : Int)) → R 7 20 [some (vr 82), some (vr 5), some (vi (wh : Int)), some (vi (lo : Int)), some (vi ch), some (vi (t : Int)), some (vi ((j : Int) + 1))] [] (shF n) 0 0 σ (Qi (shF n) P)) (l6 : (j : Int) < (gi σ 5 0) → ch = (-1 : Int) → (((lo : Int) / (gi σ 0 j)) % (3 : Int)) < (2 : Int) → ∀ x29 : Int, x29 = (iabs ((gi σ 83 t) - (gi σ 7 j))) + (gi σ 84 ((lo : Int) + (gi σ 0 j)).toNat) → x29 ≠ (gi σ 84 lo) → R 7 20 [some (vr 82), some (vr 5), some (vi (wh : Int)), some (vi (lo : Int)), some (vi ch), some (vi (t : Int)), some (vi ((j : Int) + 1))] [] (shF n) 0 0 σ (Qi (shF n) P)) (l7 : (j : Int) < (gi σ 5 0) → ch = (-1 : Int) → (((lo : Int) / (gi σ 0 j)) % (3 : Int)) < (2 : Int) → ∀ x29 : Int, x29 = (iabs ((gi σ 83 t) - (gi σ 7 j))) + (gi σ 84 ((lo : Int) + (gi σ 0 j)).toNat) → x29 = (gi σ 84 lo) → R 7 20 [some (vr 82), some (vr 5), some (vi (wh : Int)), some (vi (lo : Int)), some (vi (j : Int)), some (vi (t : Int)), some (vi ((j : Int) + 1))] [] (shF n) 0 0 σ (Qi (shF n) P)) : R 7 20 [some (vr 82), some (vr 5), some (vi (wh : Int)), some (vi (lo : Int)), some (vi ch), some (vi (t : Int)), some (vi (j : Int))] [] (shF n) 0 0 σ (Qi (shF n) P) :=
  wpK_R 27 [8, 20] (And.intro (fun q1 => And.intro (fun q2 => (have k3 := (o1 q1 q2); And.intro k3 ((have k4 := (o2 q1 q2); And.intro k4 ((have k6 := (o3 q1 q2 _ rfl); And.intro k6 ((l1 q1 q2 _ rfl)))))))) (fun q2 => (have k7 := (o4 q1 (Classical.not_not.mp q2)); And.intro k7 ((have k8 := (o5 q1 (Classical.not_not.mp q2)); And.intro k8 ((l2 q1 (Classical.not_not.mp q2)))))))) (fun q1 => And.intro (fun q9 => And.intro (fun q10 => (have k11 := (o6 (Int.not_le.mp q1) q9 q10); And.intro k11 ((have k12 := (o7 (Int.not_le.mp q1) q9 q10); And.intro k12 ((have k14 := (o8 (Int.not_le.mp q1) q9 q10 _ rfl); And.intro k14 ((l3 (Int.not_le.mp q1) q9 q10 _ rfl)))))))) (fun q10 => (have k15 := (o9 (Int.not_le.mp q1) q9 (Classical.not_not.mp q10)); And.intro k15 ((have k16 := (o10 (Int.not_le.mp q1) q9 (Classical.not_not.mp q10)); And.intro k16 ((l4 (Int.not_le.mp q1) q9 (Classical.not_not.mp q10)))))))) (fun q9 => (show R 9 0 [_, _] [] (shF n) 0 0 _ _ from wpK_R 12 [] ((have k17 := (o11 (Int.not_le.mp q1) (Classical.not_not.mp q9)); And.intro k17 ((have k18 := (o12 (Int.not_le.mp q1) (Classical.not_not.mp q9)); And.intro k18 ((have k19 := (o13 (Int.not_le.mp q1) (Classical.not_not.mp q9)); And.intro k19 (And.intro (fun q20 => And.intro ret0 (And.intro (Or.inl rfl) ⟨rfl, _, rfl, And.intro (fun _ => (have k21 := (o14 (Int.not_le.mp q1) (Classical.not_not.mp q9) q20); And.intro k21 ((l5 (Int.not_le.mp q1) (Classical.not_not.mp q9) q20)))) (fun q => absurd (show (0 : Int) = 0 by decide) q)⟩)) (fun q20 => And.intro ret0 (And.intro (Or.inr rfl) ⟨rfl, _, rfl, And.intro (fun q => absurd q (show ¬ ((1 : Int) = 0) by decide)) (fun _ => (show R 8 0 [some (vr 82), some (vr 5), _, _, _] [] (shF n) 0 0 _ _ from wpK_R 20 [] ((have k22 := (o15 (Int.not_le.mp q1) (Classical.not_not.mp q9) (Int.not_le.mp q20)); And.intro k22 ((have k23 := (o16 (Int.not_le.mp q1) (Classical.not_not.mp q9) (Int.not_le.mp q20)); And.intro k23 ((have k24 := (o17 (Int.not_le.mp q1) (Classical.not_not.mp q9) (Int.not_le.mp q20)); And.intro k24 ((have k25 := (o18 (Int.not_le.mp q1) (Classical.not_not.mp q9) (Int.not_le.mp q20)); And.intro k25 (And.intro k17 ((have k26 := (o19 (Int.not_le.mp q1) (Classical.not_not.mp q9) (Int.not_le.mp q20)); And.intro k26 ((have k27 := (o20 (Int.not_le.mp q1) (Classical.not_not.mp q9) (Int.not_le.mp q20)); And.intro k27 ((have k28 := (o21 (Int.not_le.mp q1) (Classical.not_not.mp q9) (Int.not_le.mp q20)); And.intro k28 (And.intro ret0 ⟨rfl, _, rfl, (have k30 := (o22 (Int.not_le.mp q1) (Classical.not_not.mp q9) (Int.not_le.mp q20) _ rfl); And.intro k30 (And.intro (fun q31 => (have k32 := (o23 (Int.not_le.mp q1) (Classical.not_not.mp q9) (Int.not_le.mp q20) _ rfl q31); And.intro k32 ((l6 (Int.not_le.mp q1) (Classical.not_not.mp q9) (Int.not_le.mp q20) _ rfl q31)))) (fun q31 => (have k33 := (o24 (Int.not_le.mp q1) (Classical.not_not.mp q9) (Int.not_le.mp q20) _ rfl (Classical.not_not.mp q31)); And.intro k33 ((l7 (Int.not_le.mp q1) (Classical.not_not.mp q9) (Int.not_le.mp q20) _ rfl (Classical.not_not.mp q31)))))))⟩))))))))))))))))))⟩)))))))))))))
theorem c_jo {n : Nat} {σ : Mm} {P : Int → Mm → Prop} {W : Int} (hJ : 0 ≤ gi σ 5 0 ∧ gi σ 5 0 ≤ 5) (hC : 0 ≤ gi σ 82 2 ∧ gi σ 82 2 ≤ 6 ∧ gi σ 82 2 ≤ 2 * gi σ 5 0) (pw : PW σ) (hg : ∀ k : Nat, (k : Int) < gi σ 82 2 → 0 ≤ gi σ 83 k ∧ gi σ 83 k ≤ 99) (he : ∀ j : Nat, (j : Int) < gi σ 5 0 → 0 ≤ gi σ 7 j ∧ gi σ 7 j ≤ 99) (hl : Lst σ) (hW : 0 ≤ W ∧ W < gi σ 82 2) (hP : P ((gj (wg (gi σ 83) (gi σ 7) (gi σ 82 2).toNat) (gi σ 82 2).toNat (gi σ 5 0).toNat ((gi σ 82 2).toNat - 1 - W.toNat) (glL (wg (gi σ 83) (gi σ 7) (gi σ 82 2).toNat) (gi σ 82 2).toNat (gi σ 5 0).toNat W.toNat) : Nat) : Int) σ) : Ci 7 [vr 82, vr 5, vi W] (shF n) σ P := by
  obtain ⟨wh, rfl⟩ := Int.eq_ofNat_of_zero_le hW.1
  obtain ⟨J, hJe⟩ : ∃ J : Nat, gi σ 5 0 = (J : Int) := ⟨(gi σ 5 0).toNat, by omega⟩
  obtain ⟨C, hCe⟩ : ∃ C : Nat, gi σ 82 2 = (C : Int) := ⟨(gi σ 82 2).toNat, by omega⟩
  unfold Lst at hl
  rw [hJe, hCe] at hl hP
  rw [Int.toNat_natCast, Int.toNat_natCast] at hl
  rw [Int.toNat_natCast, Int.toNat_natCast, Int.toNat_natCast] at hP
  obtain ⟨w, hw⟩ : ∃ w, w = wg (gi σ 83) (gi σ 7) C := ⟨_, rfl⟩
  have hwi : ∀ k j, j < J → 0 ≤ w k j ∧ w k j ≤ 99 := by
    rw [hw]; exact wg_in (fun k hk => hg k (by omega)) (fun j hj => he j (by omega))
  rw [← hw] at hl hP
  have h243 : 3 ^ J ≤ 3 ^ 5 := Nat.pow_le_pow_right (by omega) (by omega)
  have hJ6 : J < 6 := by omega
  refine v_jo_0 wh ?_
  refine loopUp (N := wh + 1) (I := fun t => ∀ (ch : Int) (q : Option PV), (t = 0 ∨ ch = ((gj w C J (C - 1 - (t - 1)) (glL w C J (t - 1)) : Nat) : Int)) → R 7 8 [some (vr 82), some (vr 5), some (vi (wh : Int)), some (vi ((glL w C J t : Nat) : Int)), some (vi ch), some (vi (t : Int)), q] [] (shF n) 0 0 σ (Qi (shF n) P)) (fun t ht ih => ?_) 0 (by omega) _ _ (Or.inl rfl)
  intro ch q hch
  refine v_jo_8 wh (glL w C J t) ch t q ?_ ?_
  · intro hgt
    rw [hch.resolve_left (by omega), show t - 1 = wh by omega]; exact hP
  · intro hle
    have htC : t < C := by omega
    obtain ⟨lo, hlo⟩ : ∃ lo, lo = glL w C J t := ⟨_, rfl⟩
    obtain ⟨lM, ld⟩ := glL_ok (n := C) hJ6 hwi (by omega) t (by omega)
    have hgs := gj_spec (n := C) (r := C - 1 - t) hJ6 hwi lM (by omega)
    have hnext : R 7 8 [some (vr 82), some (vr 5), some (vi (wh : Int)), some (vi ((lo + 3 ^ gj w C J (C - 1 - t) lo : Nat) : Int)), some (vi ((gj w C J (C - 1 - t) lo : Nat) : Int)), some (vi ((t : Int) + 1)), none] [] (shF n) 0 0 σ (Qi (shF n) P) ∧ ∀ q, R 7 8 [some (vr 82), some (vr 5), some (vi (wh : Int)), some (vi ((lo + 3 ^ gj w C J (C - 1 - t) lo : Nat) : Int)), some (vi ((gj w C J (C - 1 - t) lo : Nat) : Int)), some (vi ((t : Int) + 1)), q] [] (shF n) 0 0 σ (Qi (shF n) P) := by
      have := fun q => ih (by omega) ((gj w C J (C - 1 - t) lo : Nat) : Int) q (Or.inr (by rw [hlo]; rfl))
      rw [hlo]
      rw [hlo] at this
      exact ⟨this none, this⟩
    have hnx := hnext.2
    clear hnext ih hch
    rw [← hlo] at lM ld hgs ⊢
    obtain ⟨p, hp⟩ : ∃ p, p = gp w C J (C - 1 - t) lo := ⟨_, rfl⟩
    have hgj : gj w C J (C - 1 - t) lo = fj p J := by rw [hp]; rfl
    rw [← hp, hgj] at hgs
    rw [hgj] at hnx
    obtain ⟨g1, g2, -, -, g5⟩ := hgs
    have pwj := pw (fj p J) (by omega)
    have hpp0 : 0 < 3 ^ fj p J := Nat.pow_pos (by omega)
    have hpp : 3 ^ fj p J ≤ 3 ^ 5 := Nat.pow_le_pow_right (by omega) (by omega)
    have hout : ∀ c : Int, c = ((fj p J : Nat) : Int) → c ≠ -1 → ∀ (x : Int) (q : Option PV), x = (lo : Int) + gi σ 0 c.toNat → R 7 8 [some (vr 82), some (vr 5), some (vi (wh : Int)), some (vi x), some (vi c), some (vi ((t : Int) + 1)), q] [] (shF n) 0 0 σ (Qi (shF n) P) := fun c hc _ x q hx => by
      rw [hc, Int.toNat_natCast, pwj] at hx
      rw [hc, hx]
      refine R_eq (hnx q) ?_
      rw [Int.natCast_add]
    refine loopUp (N := J) (I := fun j => R 7 20 [some (vr 82), some (vr 5), some (vi (wh : Int)), some (vi (lo : Int)), some (vi (if anyF p j = true then ((fj p j : Nat) : Int) else -1)), some (vi (t : Int)), some (vi (j : Int))] [] (shF n) 0 0 σ (Qi (shF n) P)) (fun j hj ij => ?_) 0 (by omega)
    by_cases ha : anyF p j = true
    · rw [if_pos ha]
      have hfe : fj p j = fj p J := by
        have := (fj_stop ha (J - j)).2
        rw [show j + (J - j) = J by omega] at this
        exact this.symm
      rw [hfe]
      have pz : gi σ 0 ((fj p J : Nat) : Int).toNat = ((3 ^ fj p J : Nat) : Int) := by rw [Int.toNat_natCast]; exact pwj
      refine v_jo_20 wh lo ((fj p J : Nat) : Int) t j (by intros; first | omega | (unfold rg; omega)) (by intros; first | omega | (unfold rg; omega)) (by intros; first | omega | (unfold rg; omega)) (by intros; first | omega | (unfold rg; omega)) (by intros; first | omega | (unfold rg; omega)) (by intros; first | omega | (unfold rg; omega)) (by intros; first | omega | (unfold rg; omega)) (by intros; first | omega | (unfold rg; omega)) (by intros; first | omega | (unfold rg; omega)) (by intros; first | omega | (unfold rg; omega)) (by intros; first | omega | (unfold rg; omega)) (by intros; first | omega | (unfold rg; omega)) (by intros; first | omega | (unfold rg; omega)) (by intros; first | omega | (unfold rg; omega)) (by intros; first | omega | (unfold rg; omega)) (by intros; first | omega | (unfold rg; omega)) (by intros; first | omega | (unfold rg; omega)) (by intros; first | omega | (unfold rg; omega)) (by intros; first | omega | (unfold rg; omega)) (by intros; first | omega | (unfold rg; omega)) (by intros; first | omega | (unfold rg; omega)) (by intros; first | omega | (unfold rg; omega)) (by intros; first | omega | (unfold rg; omega)) (by intros; first | omega | (unfold rg; omega)) ?_ ?_ ?_ ?_ ?_ ?_ ?_
      · intro _ hc x5 e5; exact hout _ rfl hc x5 _ e5
      · intro _ hc; omega
      · intro _ hc _ x5 e5; exact hout _ rfl hc x5 _ e5
      · intro _ _ hc; omega
      · intro _ hc; omega
      · intro _ hc; omega
      · intro _ hc; omega
    · rw [if_neg ha]
      have hjJ : j < J := by
        refine Classical.byContradiction fun z => ha ?_
        rw [show j = J by omega]; exact g5
      have g0 := pw j (by omega)
      have hp1 : 0 < 3 ^ j := Nat.pow_pos (by omega)
      have hp2 : 3 ^ j ≤ 3 ^ 5 := Nat.pow_le_pow_right (by omega) (by omega)
      have hv : (lo : Int) / gi σ 0 j % 3 = (dt lo j : Int) := by rw [g0]; unfold dt; rw [Int.natCast_emod, Int.natCast_ediv]; rfl
      have hdv : 0 ≤ (lo : Int) / gi σ 0 j := by rw [g0]; exact Int.ediv_nonneg (by omega) (by omega)
      have hwj : w t j = iabs (gi σ 83 t - gi σ 7 j) := by rw [hw]; unfold wg; rw [if_pos htC]
      have hin := hwi t j hjJ
      rw [hwj] at hin
      have hro : (lo : Int) / gi σ 0 j % 3 < 2 → dt lo j < 2 ∧ ((lo : Int) + gi σ 0 j).toNat = lo + 3 ^ j ∧ lo + 3 ^ j < 3 ^ J ∧ gi σ 84 (lo + 3 ^ j) = LsS w C J (C - 1 - t) (lo + 3 ^ j) ∧ 0 ≤ gi σ 84 (lo + 3 ^ j) ∧ gi σ 84 (lo + 3 ^ j) ≤ 594 := fun q => by
        rw [hv] at q
        have q2 : dt lo j < 2 := by omega
        have a1 : lo + 3 ^ j < 3 ^ J := (dt_lt J hJ6 lo lM j hjJ).resolve_left (by omega)
        have a2 := hl (lo + 3 ^ j) a1
        have a3 := LsB (n := C) hJ6 (by omega) (by omega) hwi (l := lo + 3 ^ j) a1
        rw [← a2] at a3
        refine ⟨q2, by rw [g0]; omega, a1, ?_, by omega, by omega⟩
        rw [a2, dl_add hJ6 (by omega) hjJ q2, ld, show C - (t + 1) = C - 1 - t by omega]
      have hsp : (lo : Int) / gi σ 0 j % 3 < 2 → gi σ 84 ((lo : Int) + gi σ 0 j).toNat = gi σ 84 (lo + 3 ^ j) := fun q => by rw [(hro q).2.1]
      have hlow : (-2147483648 : Int) < gi σ 83 t - gi σ 7 j ∧ gi σ 83 t - gi σ 7 j < 2147483648 := by
        have := hin; unfold iabs at this; split at this <;> omega
      have haf : anyF p j = false := by cases z : anyF p j with | false => rfl | true => exact absurd z ha
      have hlo84 : gi σ 84 lo = LsS w C J (C - 1 - t + 1) lo := by rw [hl lo lM, ld, show C - t = C - 1 - t + 1 by omega]
      have hs : C - 1 - (C - 1 - t) = t := by omega
      have hpj : p j = (decide (dt lo j < 2) && decide (w t j + LsS w C J (C - 1 - t) (lo + 3 ^ j) = LsS w C J (C - 1 - t + 1) lo)) := by rw [hp]; unfold gp; rw [hs]
      have hno : p j = false → R 7 20 [some (vr 82), some (vr 5), some (vi (wh : Int)), some (vi (lo : Int)), some (vi (-1)), some (vi (t : Int)), some (vi ((j : Int) + 1))] [] (shF n) 0 0 σ (Qi (shF n) P) := fun z => by
        refine R_eq (ij hjJ) ?_
        rw [anyF_s, haf, z]; rfl
      refine v_jo_20 wh lo (-1 : Int) t j (by intros; first | omega | (unfold rg; omega) | ((have := hro (by assumption)); (have := hsp (by assumption)); first | omega | (unfold rg; omega))) (by intros; first | omega | (unfold rg; omega) | ((have := hro (by assumption)); (have := hsp (by assumption)); first | omega | (unfold rg; omega))) (by intros; first | omega | (unfold rg; omega) | ((have := hro (by assumption)); (have := hsp (by assumption)); first | omega | (unfold rg; omega))) (by intros; first | omega | (unfold rg; omega) | ((have := hro (by assumption)); (have := hsp (by assumption)); first | omega | (unfold rg; omega))) (by intros; first | omega | (unfold rg; omega) | ((have := hro (by assumption)); (have := hsp (by assumption)); first | omega | (unfold rg; omega))) (by intros; first | omega | (unfold rg; omega) | ((have := hro (by assumption)); (have := hsp (by assumption)); first | omega | (unfold rg; omega))) (by intros; first | omega | (unfold rg; omega) | ((have := hro (by assumption)); (have := hsp (by assumption)); first | omega | (unfold rg; omega))) (by intros; first | omega | (unfold rg; omega) | ((have := hro (by assumption)); (have := hsp (by assumption)); first | omega | (unfold rg; omega))) (by intros; first | omega | (unfold rg; omega) | ((have := hro (by assumption)); (have := hsp (by assumption)); first | omega | (unfold rg; omega))) (by intros; first | omega | (unfold rg; omega) | ((have := hro (by assumption)); (have := hsp (by assumption)); first | omega | (unfold rg; omega))) (by intros; first | omega | (unfold rg; omega) | ((have := hro (by assumption)); (have := hsp (by assumption)); first | omega | (unfold rg; omega))) (by intros; first | omega | (unfold rg; omega) | ((have := hro (by assumption)); (have := hsp (by assumption)); first | omega | (unfold rg; omega))) (by intros; first | omega | (unfold rg; omega) | ((have := hro (by assumption)); (have := hsp (by assumption)); first | omega | (unfold rg; omega))) (by intros; first | omega | (unfold rg; omega) | ((have := hro (by assumption)); (have := hsp (by assumption)); first | omega | (unfold rg; omega))) (by intros; first | omega | (unfold rg; omega) | ((have := hro (by assumption)); (have := hsp (by assumption)); first | omega | (unfold rg; omega))) (by intros; first | omega | (unfold rg; omega) | ((have := hro (by assumption)); (have := hsp (by assumption)); first | omega | (unfold rg; omega))) (by intros; first | omega | (unfold rg; omega) | ((have := hro (by assumption)); (have := hsp (by assumption)); first | omega | (unfold rg; omega))) (by intros; first | omega | (unfold rg; omega) | ((have := hro (by assumption)); (have := hsp (by assumption)); first | omega | (unfold rg; omega))) (by intros; first | omega | (unfold rg; omega) | ((have := hro (by assumption)); (have := hsp (by assumption)); first | omega | (unfold rg; omega))) (by intros; first | omega | (unfold rg; omega) | ((have := hro (by assumption)); (have := hsp (by assumption)); first | omega | (unfold rg; omega))) (by intros; first | omega | (unfold rg; omega) | ((have := hro (by assumption)); (have := hsp (by assumption)); first | omega | (unfold rg; omega))) (by intros; first | omega | (unfold rg; omega) | ((have := hro (by assumption)); (have := hsp (by assumption)); first | omega | (unfold rg; omega))) (by intros; first | omega | (unfold rg; omega) | ((have := hro (by assumption)); (have := hsp (by assumption)); first | omega | (unfold rg; omega))) (by intros; first | omega | (unfold rg; omega) | ((have := hro (by assumption)); (have := hsp (by assumption)); first | omega | (unfold rg; omega))) ?_ ?_ ?_ ?_ ?_ ?_ ?_
      · intro hge; omega
      · intro hge; omega
      · intro _ hc; omega
      · intro _ hc; omega
      · intro _ _ h2
        refine hno ?_
        rw [hpj, decide_eq_false (by omega)]; rfl
      · intro _ _ h2 x31 e31 hne
        obtain ⟨q1, q2, q3, q4, -⟩ := hro h2
        rw [q2, q4, ← hwj] at e31
        rw [hlo84, e31] at hne
        refine hno ?_
        rw [hpj, decide_eq_true q1, decide_eq_false hne]; rfl
      · intro _ _ h2 x31 e31 heq
        obtain ⟨q1, q2, q3, q4, -⟩ := hro h2
        rw [q2, q4, ← hwj] at e31
        rw [hlo84, e31] at heq
        have z : p j = true := by rw [hpj, decide_eq_true q1, decide_eq_true heq]; rfl
        refine R_eq (ij hjJ) ?_
        have z2 : fj p (j + 1) = j := by simp only [fj]; rw [if_neg ha]
        rw [anyF_s, haf, z, z2]; rfl
