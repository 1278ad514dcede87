/-! WAYS: the class's row of deals -/
theorem v_ww_0 {n : Nat}  (J : Int) (b : Int) (h : Int) {σ : Mm} {P : Int → Mm → Prop} (o1 : rg ((oshl (1 : Int) J) - 1)) (l1 : ∀ x2 : Int, x2 = (oshl (1 : Int) J) - 1 → R 22 10 [some (vr 75), some (vi J), some (vi b), some (vi h), some (vi x2), some (vi 0), none, none, none] [] (shF n) 0 0 σ (Qi (shF n) P)) : Ci 22 [vr 75, vi J, vi b, vi h] (shF n) σ P :=
  show R 22 0 [some (vr 75), some (vi J), some (vi b), some (vi h), none, none, none, none, none] [] (shF n) 0 0 σ (Qi (shF n) P) from wpK_R 9 [10, 41, 87] ((have k1 := (o1); And.intro k1 ((l1 _ rfl))))
theorem v_ww_10 {n : Nat}  (J : Int) (b : Int) (h : Int) (al : Int) (k : Nat) (x : Option PV) (y : Option PV) (z : Option PV) {σ : Mm} {P : Int → Mm → Prop} (o1 : (k : Int) ≤ al → (0 ≤ (k : Int) ∧ (k : Int) < 32)) (o2 : (k : Int) ≤ al → ∀ t4 : Mm, t4 = si σ 81 k (0 : Int) → rg ((k : Int) + 1)) (l1 : al < (k : Int) → ∀ t2 : Mm, t2 = si σ 81 0 (1 : Int) → R 22 41 [some (vr 75), some (vi J), some (vi b), some (vi h), some (vi al), some (vi 0), x, y, z] [] (shF n) 0 0 t2 (Qi (shF n) P)) (l2 : (k : Int) ≤ al → ∀ t4 : Mm, t4 = si σ 81 k (0 : Int) → R 22 10 [some (vr 75), some (vi J), some (vi b), some (vi h), some (vi al), some (vi ((k : Int) + 1)), x, y, z] [] (shF n) 0 0 t4 (Qi (shF n) P)) : R 22 10 [some (vr 75), some (vi J), some (vi b), some (vi h), some (vi al), some (vi (k : Int)), x, y, z] [] (shF n) 0 0 σ (Qi (shF n) P) :=
  wpK_R 11 [10, 41, 87] (And.intro (fun q1 => And.intro (by decide) ((l1 q1 _ rfl))) (fun q1 => (have k3 := (o1 (Int.not_lt.mp q1)); And.intro k3 ((have k5 := (o2 (Int.not_lt.mp q1) _ rfl); And.intro k5 ((l2 (Int.not_lt.mp q1) _ rfl)))))))
theorem v_ww_41 {n : Nat}  (J : Int) (b : Int) (h : Int) (al : Int) (t : Nat) (x : Option PV) (y : Option PV) (z : Option PV) {σ : Mm} {P : Int → Mm → Prop} (o1 : al ≤ (t : Int) → (0 ≤ al ∧ al < 32)) (o2 : (t : Int) < al → (0 ≤ (t : Int) ∧ (t : Int) < 1024)) (o3 : (t : Int) < al → ∀ x3 : Int, x3 = cnt (bi (t : Int)) 10 → (0 ≤ x3 ∧ x3 < 5)) (l1 : al ≤ (t : Int) → P (gi σ 81 al.toNat) σ) (l2 : (t : Int) < al → ∀ x3 : Int, x3 = cnt (bi (t : Int)) 10 → x3 ≠ b → ∀ x6 : Int, x6 = oand (oand (gi σ 80 x3.toNat) (oxor (t : Int) (-1 : Int))) al → R 22 87 [some (vr 75), some (vi J), some (vi b), some (vi h), some (vi al), some (vi (t : Int)), some (vi x3), some (vi x6), some (vi 0)] [] (shF n) 0 0 σ (Qi (shF n) P)) (l3 : (t : Int) < al → ∀ x3 : Int, x3 = cnt (bi (t : Int)) 10 → x3 = b → ∀ x7 : Int, x7 = oand (oand (gi σ 80 x3.toNat) (oxor (t : Int) (-1 : Int))) (oshl (1 : Int) h) → R 22 87 [some (vr 75), some (vi J), some (vi b), some (vi h), some (vi al), some (vi (t : Int)), some (vi x3), some (vi x7), some (vi 0)] [] (shF n) 0 0 σ (Qi (shF n) P)) : R 22 41 [some (vr 75), some (vi J), some (vi b), some (vi h), some (vi al), some (vi (t : Int)), x, y, z] [] (shF n) 0 0 σ (Qi (shF n) P) :=
  wpK_R 26 [41, 87] (And.intro (fun q1 => (have k2 := (o1 q1); And.intro k2 (And.intro ret0 ⟨rfl, _, rfl, (l1 q1)⟩))) (fun q1 => (c_bc  (o2 (Int.not_le.mp q1)) ((have k4 := (o3 (Int.not_le.mp q1) _ rfl); And.intro k4 (And.intro (fun q5 => (l2 (Int.not_le.mp q1) _ rfl q5 _ rfl)) (fun q5 => (l3 (Int.not_le.mp q1) _ rfl (Classical.not_not.mp q5) _ rfl))))))))
theorem v_ww_87 {n : Nat}  (J : Int) (b : Int) (h : Int) (al : Int) (t : Nat) (nx : Int) (fr : Int) (i : Nat) {σ : Mm} {P : Int → Mm → Prop} (o1 : J ≤ (i : Int) → rg ((t : Int) + 1)) (o2 : (i : Int) < J → (oand (oshr fr (i : Int)) (1 : Int)) = (0 : Int) → rg ((i : Int) + 1)) (o3 : (i : Int) < J → (oand (oshr fr (i : Int)) (1 : Int)) ≠ (0 : Int) → (0 ≤ (oor (t : Int) (oshl (1 : Int) (i : Int))) ∧ (oor (t : Int) (oshl (1 : Int) (i : Int))) < 32)) (o4 : (i : Int) < J → (oand (oshr fr (i : Int)) (1 : Int)) ≠ (0 : Int) → (0 ≤ (t : Int) ∧ (t : Int) < 32)) (o5 : (i : Int) < J → (oand (oshr fr (i : Int)) (1 : Int)) ≠ (0 : Int) → rg ((gi σ 81 (oor (t : Int) (oshl (1 : Int) (i : Int))).toNat) + (gi σ 81 t))) (o6 : (i : Int) < J → (oand (oshr fr (i : Int)) (1 : Int)) ≠ (0 : Int) → ∀ t8 : Mm, t8 = si σ 81 (oor (t : Int) (oshl (1 : Int) (i : Int))).toNat ((gi σ 81 (oor (t : Int) (oshl (1 : Int) (i : Int))).toNat) + (gi σ 81 t)) → rg ((i : Int) + 1)) (l1 : J ≤ (i : Int) → R 22 41 [some (vr 75), some (vi J), some (vi b), some (vi h), some (vi al), some (vi ((t : Int) + 1)), some (vi nx), some (vi fr), some (vi (i : Int))] [] (shF n) 0 0 σ (Qi (shF n) P)) (l2 : (i : Int) < J → (oand (oshr fr (i : Int)) (1 : Int)) = (0 : Int) → R 22 87 [some (vr 75), some (vi J), some (vi b), some (vi h), some (vi al), some (vi (t : Int)), some (vi nx), some (vi fr), some (vi ((i : Int) + 1))] [] (shF n) 0 0 σ (Qi (shF n) P)) (l3 : (i : Int) < J → (oand (oshr fr (i : Int)) (1 : Int)) ≠ (0 : Int) → ∀ t8 : Mm, t8 = si σ 81 (oor (t : Int) (oshl (1 : Int) (i : Int))).toNat ((gi σ 81 (oor (t : Int) (oshl (1 : Int) (i : Int))).toNat) + (gi σ 81 t)) → R 22 87 [some (vr 75), some (vi J), some (vi b), some (vi h), some (vi al), some (vi (t : Int)), some (vi nx), some (vi fr), some (vi ((i : Int) + 1))] [] (shF n) 0 0 t8 (Qi (shF n) P)) : R 22 87 [some (vr 75), some (vi J), some (vi b), some (vi h), some (vi al), some (vi (t : Int)), some (vi nx), some (vi fr), some (vi (i : Int))] [] (shF n) 0 0 σ (Qi (shF n) P) :=
  wpK_R 27 [41, 87] (And.intro (fun q1 => (have k2 := (o1 q1); And.intro k2 ((l1 q1)))) (fun q1 => And.intro (fun q3 => (have k4 := (o2 (Int.not_le.mp q1) q3); And.intro k4 ((l2 (Int.not_le.mp q1) q3)))) (fun q3 => (have k5 := (o3 (Int.not_le.mp q1) q3); And.intro k5 ((have k6 := (o4 (Int.not_le.mp q1) q3); And.intro k6 ((have k7 := (o5 (Int.not_le.mp q1) q3); And.intro k7 (And.intro k5 ((have k9 := (o6 (Int.not_le.mp q1) q3 _ rfl); And.intro k9 ((l3 (Int.not_le.mp q1) q3 _ rfl)))))))))))))
/-- judge k may own what holder i has -/
def fH (g : Nat → Int) (b h : Int) (k i : Nat) : Bool := bi (g k) i && (decide ((k : Int) ≠ b) || decide ((i : Int) = h))
theorem dlD_mono {D : Nat → Int} {free : Nat → Bool} {t x : Nat} (h : 0 ≤ D t) : ∀ (i j : Nat), i ≤ j → dlD D free t i x ≤ dlD D free t j x := by
  intro i j hij
  unfold dlD
  obtain ⟨d, rfl⟩ : ∃ d, j = i + d := ⟨j - i, by omega⟩
  rw [sumF_app]
  have : 0 ≤ sumF (fun q => if free (i + q) = true ∧ x = t ||| 2 ^ (i + q) then D t else 0) d := by
    have := sumF_le (f := fun _ => 0) (g := fun q => if free (i + q) = true ∧ x = t ||| 2 ^ (i + q) then D t else 0) d (fun q _ => by show (0 : Int) ≤ if _ then _ else _; split <;> omega)
    rw [sumF_zero d fun _ _ => rfl] at this
    exact this
  omega
theorem dlD_t {D : Nat → Int} {free : Nat → Bool} {t i : Nat} (h : ∀ q, q < i → free q = true → t < t ||| 2 ^ q) : dlD D free t i t = D t := by
  unfold dlD
  rw [sumF_zero i fun q hq => if_neg (fun z => by have := h q hq z.1; omega), Int.add_zero]
theorem c_ww {n : Nat} {J b h : Int} {σ : Mm} {P : Int → Mm → Prop} (hJ : 0 ≤ J ∧ J ≤ 5) (hh : b = -1 ∨ (0 ≤ h ∧ h < J)) (hP : ∀ s, (∀ a i, a ≠ 81 → gi s a i = gi σ a i) → P (wM J.toNat (fH (gi σ 80) b h) 0) s) : Ci 22 [vr 75, vi J, vi b, vi h] (shF n) σ P := by
  obtain ⟨j, rfl⟩ := Int.eq_ofNat_of_zero_le hJ.1
  rw [Int.toNat_natCast] at hP
  have hj : j < 6 := by omega
  have hM32 : 2 ^ j ≤ 2 ^ 5 := Nat.pow_le_pow_right (by omega) (by omega)
  have hM1 : 1 ≤ 2 ^ j := Nat.pow_pos (by omega)
  have hsh : oshl 1 (j : Int) = ((2 ^ j : Nat) : Int) := shl1_val j (by omega)
  obtain ⟨M, hM⟩ : ∃ M, M = 2 ^ j := ⟨_, rfl⟩
  rw [← hM] at hM32 hM1 hsh
  obtain ⟨w, hw⟩ : ∃ w, w = wM j (fH (gi σ 80) b h) := ⟨_, rfl⟩
  rw [← hw] at hP
  have hwf : w (M - 1) = 1 := by rw [hw, hM]; exact wM_full hj
  obtain ⟨u, hu⟩ : ∃ u : Nat → Int, u = fun m => fct (j - pcN m) := ⟨_, rfl⟩
  have hu1 : ∀ q, 1 ≤ u q ∧ u q ≤ 120 := fun q => by rw [hu]; exact fct_1 _
  refine v_ww_0 (j : Int) b h (by rw [hsh]; unfold rg; omega) ?_
  intro al eal
  rw [hsh] at eal
  have hal : al = ((M - 1 : Nat) : Int) := by omega
  refine loopUp (N := M) (I := fun k => ∀ (x y z : Option PV) (τ : Mm), (∀ a i, a ≠ 81 → gi τ a i = gi σ a i) → (∀ q, q < k → gi τ 81 q = 0) → R 22 10 [some (vr 75), some (vi (j : Int)), some (vi b), some (vi h), some (vi al), some (vi (k : Int)), x, y, z] [] (shF n) 0 0 τ (Qi (shF n) P)) (fun k hk ih => ?_) 0 (by omega) none none none σ (fun _ _ _ => rfl) (fun _ q => by omega)
  intro x y z τ f1 f2
  refine v_ww_10 (j : Int) b h al k x y z (by intros; first | omega | (unfold rg; omega)) (by intros; first | omega | (unfold rg; omega)) ?_ ?_
  · intro hlt t2 e2
    clear ih
    have hD0 : ∀ q, q < M → gi t2 81 q = if q = 0 then 1 else 0 := fun q hq => by
      rw [e2, gi_si]
      by_cases e : q = 0
      · rw [if_pos ⟨rfl, e⟩, if_pos e]
      · rw [if_neg (fun z => e z.2), if_neg e]; exact f2 q (by omega)
    have hp0 : ∀ v : Nat → Int, pot v (gi t2 81) 0 M = v 0 := fun v => by
      unfold pot
      rw [sumF_one (f := fun m => if 0 ≤ m then gi t2 81 m * v m else 0) (h := 0) M (fun q hq hne => by show (if 0 ≤ q then gi t2 81 q * v q else 0) = 0; rw [if_pos (by omega), hD0 q hq, if_neg hne, Int.zero_mul]), if_pos (by omega)]
      show (if 0 ≤ 0 then gi t2 81 0 * v 0 else 0) = v 0
      rw [if_pos (by omega), hD0 0 (by omega), if_pos rfl, Int.one_mul]
    refine loopUp (N := M - 1) (I := fun t => ∀ (x y z : Option PV) (τ : Mm), (∀ a i, a ≠ 81 → gi τ a i = gi σ a i) → (∀ q, q < M → 0 ≤ gi τ 81 q) → pot w (gi τ 81) t M = w 0 → pot u (gi τ 81) t M ≤ 120 → R 22 41 [some (vr 75), some (vi (j : Int)), some (vi b), some (vi h), some (vi al), some (vi (t : Int)), x, y, z] [] (shF n) 0 0 τ (Qi (shF n) P)) (fun t ht ih => ?_) 0 (by omega) x y z t2 (fun a i p => by rw [e2, gi_ne p]; exact f1 a i p) (fun q hq => by rw [hD0 q hq]; split <;> omega) (hp0 w) (by rw [hp0 u]; exact (hu1 0).2)
    intro x y z τ g1 g2 g3 g4
    have hin : ∀ (nx : Nat) (fr : Int), t + 1 < M → nx = pcN t → (∀ i, i < j → bi fr i = (!t.testBit i && fH (gi σ 80) b h (pcN t) i)) → R 22 87 [some (vr 75), some (vi (j : Int)), some (vi b), some (vi h), some (vi al), some (vi (t : Int)), some (vi (nx : Int)), some (vi fr), some (vi 0)] [] (shF n) 0 0 τ (Qi (shF n) P) := fun nx fr htM hnx hfr => by
      obtain ⟨p1, p2, p3⟩ := pc_all j hj t (by omega)
      have hfree : ∀ i, i < j → bi fr i = true → t < t ||| 2 ^ i ∧ t ||| 2 ^ i < M := fun i hi hb => by
        rw [hfr i hi] at hb
        have tb : t.testBit i = false := by
          cases q : t.testBit i with
          | false => rfl
          | true => rw [q] at hb; exact absurd hb (by simp)
        have := p3 i hi tb
        rw [hM]; exact ⟨this.2.2, this.2.1⟩
      have hstep := fun v : Nat → Int => pot_step (w := v) (D := gi τ 81) (free := fun i => bi fr i) (t := t) (M := M) (J := j) (by omega) hfree
      have hD := g2 t (by omega)
      have hsw : sumF (fun i => if bi fr i = true then w (t ||| 2 ^ i) else 0) j = w t := by
        rw [hw, wM_s hj (by rw [← hM]; omega)]
        exact sumF_congr fun i hi => by rw [hfr i hi]
      have hsu : sumF (fun i => if bi fr i = true then u (t ||| 2 ^ i) else 0) j ≤ u t := by
        have h1 := fct_all j hj t (by omega) (by omega)
        have h2 : u t = fct (j - pcN t) := by rw [hu]
        rw [h2, ← h1]
        refine sumF_le j fun i hi => ?_
        by_cases q : bi fr i = true
        · rw [if_pos q]
          rw [hfr i hi] at q
          have tb : t.testBit i = false := by
            cases z : t.testBit i with
            | false => rfl
            | true => rw [z] at q; exact absurd q (by simp)
          rw [if_pos tb, hu]
          exact Int.le_refl _
        · rw [if_neg q]
          split
          · have := fct_1 (j - pcN (t ||| 2 ^ i)); omega
          · omega
      have hdn : ∀ i x, x < M → 0 ≤ dlD (gi τ 81) (fun i => bi fr i) t i x := fun i x hx => by
        have := dlD_mono (D := gi τ 81) (free := fun i => bi fr i) (t := t) (x := x) hD 0 i (by omega)
        have e : dlD (gi τ 81) (fun i => bi fr i) t 0 x = gi τ 81 x := by unfold dlD; simp [sumF]
        have := g2 x hx
        omega
      have hpu : pot u (dlD (gi τ 81) (fun i => bi fr i) t j) (t + 1) M ≤ 120 := by
        rw [hstep u]
        have : gi τ 81 t * sumF (fun i => if bi fr i = true then u (t ||| 2 ^ i) else 0) j ≤ gi τ 81 t * u t := Int.mul_le_mul_of_nonneg_left hsu hD
        omega
      have hDt : gi τ 81 t ≤ 120 := by
        have := pot_le (w := u) (D := gi τ 81) (t := t) (M := M) (m := t) (fun q _ => (hu1 q).1) (fun q hq _ => g2 q hq) (by omega) (by omega)
        omega
      have hdb : ∀ i x, i ≤ j → t + 1 ≤ x → x < M → dlD (gi τ 81) (fun i => bi fr i) t i x ≤ 120 := fun i x hi hx hxM => by
        have a := dlD_mono (D := gi τ 81) (free := fun i => bi fr i) (t := t) (x := x) hD i j hi
        have b := pot_le (w := u) (D := dlD (gi τ 81) (fun i => bi fr i) t j) (t := t + 1) (M := M) (m := x) (fun q _ => (hu1 q).1) (fun q hq _ => hdn j q hq) hx hxM
        omega
      refine loopUp (N := j) (I := fun i => ∀ τ' : Mm, (∀ a i, a ≠ 81 → gi τ' a i = gi σ a i) → (∀ x, gi τ' 81 x = dlD (gi τ 81) (fun i => bi fr i) t i x) → R 22 87 [some (vr 75), some (vi (j : Int)), some (vi b), some (vi h), some (vi al), some (vi (t : Int)), some (vi (nx : Int)), some (vi fr), some (vi (i : Int))] [] (shF n) 0 0 τ' (Qi (shF n) P)) (fun i hi ihi => ?_) 0 (by omega) τ g1 (fun x => by unfold dlD; simp [sumF])
      intro τ' k1 k2
      have hsr := shr1 (n := i) (by omega) fr
      have hor : i < j → oor (t : Int) (oshl 1 (i : Int)) = ((t ||| 2 ^ i : Nat) : Int) := fun q => by
        have hp : 2 ^ i ≤ 2 ^ 5 := Nat.pow_le_pow_right (by omega) (by omega)
        rw [shl1_val i (by omega), oor_nat (by omega) (by omega)]
      have hdt : gi τ' 81 t = gi τ 81 t := by
        rw [k2]
        exact dlD_t fun q hq hb => (hfree q (by omega) hb).1
      have hlt32 : i < j → t ||| 2 ^ i < 32 := fun q => by
        have : t ||| 2 ^ i < 2 ^ 5 := Nat.or_lt_two_pow (by omega) (Nat.pow_lt_pow_right (by omega) (by omega))
        omega
      refine v_ww_87 (j : Int) b h al t (nx : Int) fr i (by intros; (try rw [hor (by omega)]); first | omega | (unfold rg; omega) | (have q := hlt32 (by omega); omega) | (rw [Int.toNat_natCast, hdt]; have bt : bi fr i = true := (by rw [hsr] at *; cases zz : bi fr i with | true => rfl | false => (simp [zz] at *)); have q1 := hfree i (by omega) bt; have q2 := hdb i (t ||| 2 ^ i) (by omega) (by omega) q1.2; have q3 := hdn i (t ||| 2 ^ i) q1.2; rw [k2]; unfold rg; omega)) (by intros; (try rw [hor (by omega)]); first | omega | (unfold rg; omega) | (have q := hlt32 (by omega); omega) | (rw [Int.toNat_natCast, hdt]; have bt : bi fr i = true := (by rw [hsr] at *; cases zz : bi fr i with | true => rfl | false => (simp [zz] at *)); have q1 := hfree i (by omega) bt; have q2 := hdb i (t ||| 2 ^ i) (by omega) (by omega) q1.2; have q3 := hdn i (t ||| 2 ^ i) q1.2; rw [k2]; unfold rg; omega)) (by intros; (try rw [hor (by omega)]); first | omega | (unfold rg; omega) | (have q := hlt32 (by omega); omega) | (rw [Int.toNat_natCast, hdt]; have bt : bi fr i = true := (by rw [hsr] at *; cases zz : bi fr i with | true => rfl | false => (simp [zz] at *)); have q1 := hfree i (by omega) bt; have q2 := hdb i (t ||| 2 ^ i) (by omega) (by omega) q1.2; have q3 := hdn i (t ||| 2 ^ i) q1.2; rw [k2]; unfold rg; omega)) (by intros; (try rw [hor (by omega)]); first | omega | (unfold rg; omega) | (have q := hlt32 (by omega); omega) | (rw [Int.toNat_natCast, hdt]; have bt : bi fr i = true := (by rw [hsr] at *; cases zz : bi fr i with | true => rfl | false => (simp [zz] at *)); have q1 := hfree i (by omega) bt; have q2 := hdb i (t ||| 2 ^ i) (by omega) (by omega) q1.2; have q3 := hdn i (t ||| 2 ^ i) q1.2; rw [k2]; unfold rg; omega)) (by intros; (try rw [hor (by omega)]); first | omega | (unfold rg; omega) | (have q := hlt32 (by omega); omega) | (rw [Int.toNat_natCast, hdt]; have bt : bi fr i = true := (by rw [hsr] at *; cases zz : bi fr i with | true => rfl | false => (simp [zz] at *)); have q1 := hfree i (by omega) bt; have q2 := hdb i (t ||| 2 ^ i) (by omega) (by omega) q1.2; have q3 := hdn i (t ||| 2 ^ i) q1.2; rw [k2]; unfold rg; omega)) (by intros; (try rw [hor (by omega)]); first | omega | (unfold rg; omega) | (have q := hlt32 (by omega); omega) | (rw [Int.toNat_natCast, hdt]; have bt : bi fr i = true := (by rw [hsr] at *; cases zz : bi fr i with | true => rfl | false => (simp [zz] at *)); have q1 := hfree i (by omega) bt; have q2 := hdb i (t ||| 2 ^ i) (by omega) (by omega) q1.2; have q3 := hdn i (t ||| 2 ^ i) q1.2; rw [k2]; unfold rg; omega)) ?_ ?_ ?_
      · intro hge
        have hij : i = j := by omega
        subst hij
        have hk : gi τ' 81 = dlD (gi τ 81) (fun i => bi fr i) t i := funext k2
        refine R_eq (ih (by omega) _ _ _ τ' k1 (fun q hq => by rw [k2]; exact hdn i q hq) ?_ ?_) rfl
        · rw [hk, hstep w, hsw, g3]; omega
        · rw [hk]; exact hpu
      · intro hlt2 hz
        rw [hsr] at hz
        have bf : bi fr i = false := by
          cases zz : bi fr i with
          | false => rfl
          | true => rw [zz] at hz; simp at hz
        refine R_eq (ihi (by omega) τ' k1 (fun x => ?_)) rfl
        rw [k2 x]
        unfold dlD
        simp only [sumF]
        rw [if_neg (fun z => by rw [bf] at z; exact Bool.noConfusion z.1), Int.add_zero]
      · intro hlt2 hz t8 e8
        rw [hsr] at hz
        have bt : bi fr i = true := by
          cases zz : bi fr i with
          | true => rfl
          | false => rw [zz] at hz; simp at hz
        rw [hor (by omega), Int.toNat_natCast, hdt] at e8
        refine R_eq (ihi (by omega) t8 (fun a q p => by rw [e8, gi_ne p]; exact k1 a q p) (fun x => ?_)) rfl
        rw [e8, gi_si]
        have ed : dlD (gi τ 81) (fun i => bi fr i) t (i + 1) x = dlD (gi τ 81) (fun i => bi fr i) t i x + (if bi fr i = true ∧ x = t ||| 2 ^ i then gi τ 81 t else 0) := by unfold dlD; simp only [sumF]; omega
        rw [ed]
        by_cases q : x = t ||| 2 ^ i
        · rw [if_pos ⟨rfl, q⟩, if_pos ⟨bt, q⟩, k2, q]
        · rw [if_neg (fun z => q z.2), if_neg (fun z => q z.2), Int.add_zero]; exact k2 x
    have hbt : ∀ i, i < 32 → bi (t : Int) i = t.testBit i := fun i _ => bi_nat (by omega) i
    have hcnt : cnt (bi (t : Int)) 10 = ((pcN t : Nat) : Int) := by
      unfold pcN
      have e : cnt (bi (t : Int)) 10 = cnt (fun x => t.testBit x) 10 := cnt_congr fun q hq => hbt q (by omega)
      have := cnt_in (fun x => t.testBit x) 10
      rw [e]; omega
    have hpc5 : t + 1 < M → pcN t < 5 := fun q => by
      have := (pc_all j hj t (by omega)).2.1 (by omega)
      omega
    refine v_ww_41 (j : Int) b h al t x y z (by intros; subst_vars; first | omega | (rw [hcnt]; have q := hpc5 (by omega); omega)) (by intros; subst_vars; first | omega | (rw [hcnt]; have q := hpc5 (by omega); omega)) (by intros; subst_vars; first | omega | (rw [hcnt]; have q := hpc5 (by omega); omega)) ?_ ?_ ?_
    · intro hge
      have et : t = M - 1 := by omega
      have hv : gi τ 81 al.toNat = w 0 := by
        rw [hal, Int.toNat_natCast, ← g3, et]
        unfold pot
        rw [sumF_one (f := fun m => if M - 1 ≤ m then gi τ 81 m * w m else 0) (h := M - 1) M (fun q hq hne => by show (if M - 1 ≤ q then gi τ 81 q * w q else 0) = 0; rw [if_neg (by omega)]), if_pos (by omega)]
        show _ = if M - 1 ≤ M - 1 then gi τ 81 (M - 1) * w (M - 1) else 0
        rw [if_pos (by omega), hwf, Int.mul_one]
      rw [hv]
      exact hP τ g1
    · intro hlt3 x3 e3 hne x6 e6
      rw [hcnt] at e3
      rw [e3]
      refine hin (pcN t) x6 (by omega) rfl (fun i hi => ?_)
      rw [e6, bi_and, bi_and, bi_not (by omega), hbt i (by omega), e3, Int.toNat_natCast, g1 80 _ (by omega), hal, bi_nat (by omega), hM, Nat.testBit_two_pow_sub_one, decide_eq_true hi]
      unfold fH
      rw [decide_eq_true (show ((pcN t : Nat) : Int) ≠ b by omega)]
      cases t.testBit i <;> cases bi (gi σ 80 (pcN t)) i <;> rfl
    · intro hlt3 x3 e3 heq x6 e6
      rw [hcnt] at e3
      rw [e3]
      have hb0 : 0 ≤ h ∧ h < (j : Int) := hh.resolve_left (by omega)
      refine hin (pcN t) x6 (by omega) rfl (fun i hi => ?_)
      obtain ⟨hn, hhn⟩ : ∃ hn : Nat, h = (hn : Int) := ⟨h.toNat, by omega⟩
      rw [e6, bi_and, bi_and, bi_not (by omega), hbt i (by omega), e3, Int.toNat_natCast, g1 80 _ (by omega), hhn, shl1 (by omega) (by omega)]
      unfold fH
      rw [decide_eq_false (show ¬ ((pcN t : Nat) : Int) ≠ b by omega), Bool.false_or, decide_eq_decide.mpr (show i = hn ↔ (i : Int) = (hn : Int) by omega)]
      cases t.testBit i <;> cases bi (gi σ 80 (pcN t)) i <;> rfl
  · intro hle t4 e4
    refine R_eq (ih (by omega) x y z t4 (fun a i p => by rw [e4, gi_ne p]; exact f1 a i p) (fun q hq => ?_)) rfl
    rw [e4, gi_si]
    by_cases e : q = k
    · rw [if_pos ⟨rfl, e⟩]
    · rw [if_neg (fun z => e z.2)]; exact f2 q (by omega)
