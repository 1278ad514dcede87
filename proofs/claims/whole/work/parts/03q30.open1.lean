/-! THE CONSTRUCTORS: the reader's words, the first world -/
def wdF (i : Nat) : Int := (([106, 117, 100, 103, 101, 32, 99, 97, 117, 115, 101, 32, 99, 108, 101, 114, 107, 32, 100, 97, 109, 112, 32, 98, 101, 97, 116, 32, 108, 97, 119, 32, 116, 104, 105, 110, 107, 32, 115, 97, 121, 32, 102, 108, 121, 32, 111, 114, 32, 97, 110, 100, 32, 110, 111, 116, 32, 108, 101, 97, 110, 32, 115, 116, 105, 102, 102, 32, 103, 114, 97, 118, 101, 32, 112, 108, 117, 109, 112, 32, 109, 111, 105, 115, 116, 32, 115, 117, 114, 101, 32, 100, 97, 121, 32] : List Int)[i]?).getD 0
def cwW : Nat → Nat
  | 0 => 0
  | k + 1 => if wdF k = 32 then cwW k + 1 else cwW k
def cwP : Nat → Nat
  | 0 => 0
  | k + 1 => if wdF k = 32 then 0 else cwP k + 1
def cwB : Nat → Nat → Int
  | 0 => fun _ => 0
  | k + 1 => fun i => if wdF k = 32 then cwB k i else if i = cwW k then oor (cwB k i) (if cwP k < 6 then oshl (wdF k - 97 + 1) (5 * (5 - (cwP k : Int))) else 0) else cwB k i
theorem cwW_lt : ∀ k, k < 95 → cwW k < 19 := by decide +kernel
theorem cwP_lt : ∀ k, k < 95 → cwP k < 10 := by decide +kernel
theorem wdF_in : ∀ k, k < 95 → (wdF k = 32 ∨ (97 ≤ wdF k ∧ wdF k ≤ 122)) := by decide +kernel
theorem cwB_95 : ∀ i, i < 19 → cwB 95 i = cdF i := by decide +kernel
def RiM (σ s : Mm) : Prop := (∀ i, i < 19 → gi s 38 i = cdF i) ∧ ∀ a i, a ≠ 38 → gi s a i = gi (sz (sz σ 38) 39) a i
theorem v_ri {n : Nat}  (w : Nat) (p : Nat) (k : Nat) (x : Option PV) {σ : Mm} {P : Mm → Prop} (o1 : (k : Int) < (95 : Int) → (w : Int) < (19 : Int) → (0 ≤ (k : Int) ∧ (k : Int) < 95)) (o2 : (k : Int) < (95 : Int) → (w : Int) < (19 : Int) → ∀ x4 : Int, x4 = gi σ 2 k → x4 ≠ (32 : Int) → (0 ≤ (w : Int) ∧ (w : Int) < 19)) (o3 : (k : Int) < (95 : Int) → (w : Int) < (19 : Int) → ∀ x4 : Int, x4 = gi σ 2 k → x4 ≠ (32 : Int) → (6 : Int) ≤ (p : Int) → ∀ t8 : Mm, t8 = si σ 38 w (oor (gi σ 38 w) (0 : Int)) → rg ((p : Int) + 1)) (o4 : (k : Int) < (95 : Int) → (w : Int) < (19 : Int) → ∀ x4 : Int, x4 = gi σ 2 k → x4 ≠ (32 : Int) → (6 : Int) ≤ (p : Int) → ∀ t8 : Mm, t8 = si σ 38 w (oor (gi σ 38 w) (0 : Int)) → rg ((k : Int) + 1)) (o5 : (k : Int) < (95 : Int) → (w : Int) < (19 : Int) → ∀ x4 : Int, x4 = gi σ 2 k → x4 ≠ (32 : Int) → (p : Int) < (6 : Int) → rg (x4 - 97)) (o6 : (k : Int) < (95 : Int) → (w : Int) < (19 : Int) → ∀ x4 : Int, x4 = gi σ 2 k → x4 ≠ (32 : Int) → (p : Int) < (6 : Int) → rg ((x4 - 97) + 1)) (o7 : (k : Int) < (95 : Int) → (w : Int) < (19 : Int) → ∀ x4 : Int, x4 = gi σ 2 k → x4 ≠ (32 : Int) → (p : Int) < (6 : Int) → rg ((5 : Int) - (p : Int))) (o8 : (k : Int) < (95 : Int) → (w : Int) < (19 : Int) → ∀ x4 : Int, x4 = gi σ 2 k → x4 ≠ (32 : Int) → (p : Int) < (6 : Int) → rg ((5 : Int) * ((5 : Int) - (p : Int)))) (o9 : (k : Int) < (95 : Int) → (w : Int) < (19 : Int) → ∀ x4 : Int, x4 = gi σ 2 k → x4 ≠ (32 : Int) → (p : Int) < (6 : Int) → ∀ x15 : Int, x15 = oshl ((x4 - 97) + 1) ((5 : Int) * ((5 : Int) - (p : Int))) → ∀ t16 : Mm, t16 = si σ 38 w (oor (gi σ 38 w) x15) → rg ((p : Int) + 1)) (o10 : (k : Int) < (95 : Int) → (w : Int) < (19 : Int) → ∀ x4 : Int, x4 = gi σ 2 k → x4 ≠ (32 : Int) → (p : Int) < (6 : Int) → ∀ x15 : Int, x15 = oshl ((x4 - 97) + 1) ((5 : Int) * ((5 : Int) - (p : Int))) → ∀ t16 : Mm, t16 = si σ 38 w (oor (gi σ 38 w) x15) → rg ((k : Int) + 1)) (o11 : (k : Int) < (95 : Int) → (w : Int) < (19 : Int) → ∀ x4 : Int, x4 = gi σ 2 k → x4 = (32 : Int) → rg ((w : Int) + 1)) (o12 : (k : Int) < (95 : Int) → (w : Int) < (19 : Int) → ∀ x4 : Int, x4 = gi σ 2 k → x4 = (32 : Int) → rg ((k : Int) + 1)) (l1 : (95 : Int) ≤ (k : Int) → P σ) (l2 : (k : Int) < (95 : Int) → (19 : Int) ≤ (w : Int) → P σ) (l3 : (k : Int) < (95 : Int) → (w : Int) < (19 : Int) → ∀ x4 : Int, x4 = gi σ 2 k → x4 ≠ (32 : Int) → (6 : Int) ≤ (p : Int) → ∀ t8 : Mm, t8 = si σ 38 w (oor (gi σ 38 w) (0 : Int)) → R 37 38 [some (vr 37), some (vr 4), some (vr 21), some (vi (w : Int)), some (vi ((p : Int) + 1)), some (vi ((k : Int) + 1)), some (vi x4)] [] (sk_43 n) 2 91 t8 (Qv (sk_43 n) P)) (l4 : (k : Int) < (95 : Int) → (w : Int) < (19 : Int) → ∀ x4 : Int, x4 = gi σ 2 k → x4 ≠ (32 : Int) → (p : Int) < (6 : Int) → ∀ x15 : Int, x15 = oshl ((x4 - 97) + 1) ((5 : Int) * ((5 : Int) - (p : Int))) → ∀ t16 : Mm, t16 = si σ 38 w (oor (gi σ 38 w) x15) → R 37 38 [some (vr 37), some (vr 4), some (vr 21), some (vi (w : Int)), some (vi ((p : Int) + 1)), some (vi ((k : Int) + 1)), some (vi x4)] [] (sk_43 n) 2 91 t16 (Qv (sk_43 n) P)) (l5 : (k : Int) < (95 : Int) → (w : Int) < (19 : Int) → ∀ x4 : Int, x4 = gi σ 2 k → x4 = (32 : Int) → R 37 38 [some (vr 37), some (vr 4), some (vr 21), some (vi ((w : Int) + 1)), some (vi 0), some (vi ((k : Int) + 1)), some (vi x4)] [] (sk_43 n) 2 91 σ (Qv (sk_43 n) P)) : R 37 38 [some (vr 37), some (vr 4), some (vr 21), some (vi (w : Int)), some (vi (p : Int)), some (vi (k : Int)), x] [] (sk_43 n) 2 91 σ (Qv (sk_43 n) P) :=
  wpK_R 28 [38] (And.intro (fun q1 => And.intro (retO (by decide) (by decide) rfl) ⟨rfl, rfl, (l1 q1)⟩) (fun q1 => And.intro (fun q2 => And.intro (retO (by decide) (by decide) rfl) ⟨rfl, rfl, (l2 (Int.not_le.mp q1) q2)⟩) (fun q2 => (have k3 := (o1 (Int.not_le.mp q1) (Int.not_le.mp q2)); And.intro k3 (And.intro (fun q5 => (have k6 := (o2 (Int.not_le.mp q1) (Int.not_le.mp q2) _ rfl q5); And.intro k6 ((show R 38 0 [_, _] [] (sk_43 n) 0 0 _ _ from wpK_R 16 [] (And.intro (fun q7 => And.intro (retO (by decide) (by decide) rfl) ⟨rfl, _, rfl, And.intro k6 ((have k9 := (o3 (Int.not_le.mp q1) (Int.not_le.mp q2) _ rfl q5 q7 _ rfl); And.intro k9 ((have k10 := (o4 (Int.not_le.mp q1) (Int.not_le.mp q2) _ rfl q5 q7 _ rfl); And.intro k10 ((l3 (Int.not_le.mp q1) (Int.not_le.mp q2) _ rfl q5 q7 _ rfl))))))⟩) (fun q7 => (have k11 := (o5 (Int.not_le.mp q1) (Int.not_le.mp q2) _ rfl q5 (Int.not_le.mp q7)); And.intro k11 ((have k12 := (o6 (Int.not_le.mp q1) (Int.not_le.mp q2) _ rfl q5 (Int.not_le.mp q7)); And.intro k12 ((have k13 := (o7 (Int.not_le.mp q1) (Int.not_le.mp q2) _ rfl q5 (Int.not_le.mp q7)); And.intro k13 ((have k14 := (o8 (Int.not_le.mp q1) (Int.not_le.mp q2) _ rfl q5 (Int.not_le.mp q7)); And.intro k14 (And.intro (retO (by decide) (by decide) rfl) ⟨rfl, _, rfl, And.intro k6 ((have k17 := (o9 (Int.not_le.mp q1) (Int.not_le.mp q2) _ rfl q5 (Int.not_le.mp q7) _ rfl _ rfl); And.intro k17 ((have k18 := (o10 (Int.not_le.mp q1) (Int.not_le.mp q2) _ rfl q5 (Int.not_le.mp q7) _ rfl _ rfl); And.intro k18 ((l4 (Int.not_le.mp q1) (Int.not_le.mp q2) _ rfl q5 (Int.not_le.mp q7) _ rfl _ rfl))))))⟩)))))))))))))) (fun q5 => (have k19 := (o11 (Int.not_le.mp q1) (Int.not_le.mp q2) _ rfl (Classical.not_not.mp q5)); And.intro k19 ((have k20 := (o12 (Int.not_le.mp q1) (Int.not_le.mp q2) _ rfl (Classical.not_not.mp q5)); And.intro k20 ((l5 (Int.not_le.mp q1) (Int.not_le.mp q2) _ rfl (Classical.not_not.mp q5))))))))))))
theorem ri_loop {n : Nat} {σ : Mm} (hw : ∀ i, i < 95 → gi σ 2 i = wdF i) : R 37 38 [some (vr 37), some (vr 4), some (vr 21), some (vi 0), some (vi 0), some (vi 0), none] [] (sk_43 n) 2 91 (sz (sz σ 38) 39) (Qv (sk_43 n) (RiM σ)) := by
  have hw' : ∀ i, i < 95 → gi (sz (sz σ 38) 39) 2 i = wdF i := fun i hi => by rw [gi_sz, if_neg (by omega), gi_sz, if_neg (by omega)]; exact hw i hi
  refine loopUp (N := 95) (I := fun k => ∀ (x : Option PV) (τ : Mm), (∀ i, i < 19 → gi τ 38 i = cwB k i) → (∀ a i, a ≠ 38 → gi τ a i = gi (sz (sz σ 38) 39) a i) → R 37 38 [some (vr 37), some (vr 4), some (vr 21), some (vi (cwW k : Int)), some (vi (cwP k : Int)), some (vi (k : Int)), x] [] (sk_43 n) 2 91 τ (Qv (sk_43 n) (RiM σ))) (fun k hk ih => ?_) 0 (by omega) none (sz (sz σ 38) 39) (fun i _ => by rw [gi_sz, if_neg (by omega), gi_sz, if_pos rfl]; rfl) (fun _ _ _ => rfl)
  intro x τ h1 h2
  by_cases hk' : k < 95
  · have e2 : gi τ 2 k = wdF k := by rw [h2 2 k (by omega)]; exact hw' k hk'
    have b1 := cwW_lt k hk'
    have b2 := cwP_lt k hk'
    have b3 := wdF_in k hk'
    refine v_ri (cwW k) (cwP k) k x (by intros; first | omega | (unfold rg; omega)) (by intros; first | omega | (unfold rg; omega)) (by intros; first | omega | (unfold rg; omega)) (by intros; first | omega | (unfold rg; omega)) (by intros; first | omega | (unfold rg; omega)) (by intros; first | omega | (unfold rg; omega)) (by intros; first | omega | (unfold rg; omega)) (by intros; first | omega | (unfold rg; omega)) (by intros; first | omega | (unfold rg; omega)) (by intros; first | omega | (unfold rg; omega)) (by intros; first | omega | (unfold rg; omega)) (by intros; first | omega | (unfold rg; omega)) ?_ ?_ ?_ ?_ ?_
    · intro q; exfalso; omega
    · intro _ q; exfalso; omega
    · intro _ _ x4 e4 ne p6 t8 e8
      have nz : ¬ wdF k = 32 := by omega
      have eW : cwW (k + 1) = cwW k := if_neg nz
      have eP : cwP (k + 1) = cwP k + 1 := if_neg nz
      have r := ih (by omega) (some (vi x4)) t8 (fun i hi => ?_) (fun a i p => by rw [e8, gi_si, if_neg (by omega)]; exact h2 a i p)
      · rw [eW, eP] at r; exact r
      · show gi t8 38 i = if wdF k = 32 then cwB k i else if i = cwW k then oor (cwB k i) (if cwP k < 6 then oshl (wdF k - 97 + 1) (5 * (5 - (cwP k : Int))) else 0) else cwB k i
        rw [if_neg nz, e8, gi_si]
        by_cases z : i = cwW k
        · rw [if_pos ⟨rfl, z⟩, if_pos z, if_neg (by omega), h1 _ b1, z]
        · rw [if_neg (by omega), if_neg z]; exact h1 i hi
    · intro _ _ x4 e4 ne p6 x15 e15 t8 e8
      have nz : ¬ wdF k = 32 := by omega
      have eW : cwW (k + 1) = cwW k := if_neg nz
      have eP : cwP (k + 1) = cwP k + 1 := if_neg nz
      have r := ih (by omega) (some (vi x4)) t8 (fun i hi => ?_) (fun a i p => by rw [e8, gi_si, if_neg (by omega)]; exact h2 a i p)
      · rw [eW, eP] at r; exact r
      · show gi t8 38 i = if wdF k = 32 then cwB k i else if i = cwW k then oor (cwB k i) (if cwP k < 6 then oshl (wdF k - 97 + 1) (5 * (5 - (cwP k : Int))) else 0) else cwB k i
        rw [if_neg nz, e8, gi_si]
        by_cases z : i = cwW k
        · rw [if_pos ⟨rfl, z⟩, if_pos z, if_pos (by omega), h1 _ b1, z, e15, e4, e2]
        · rw [if_neg (by omega), if_neg z]; exact h1 i hi
    · intro _ _ x4 e4 ee
      have nz : wdF k = 32 := by omega
      have eW : cwW (k + 1) = cwW k + 1 := if_pos nz
      have eP : cwP (k + 1) = 0 := if_pos nz
      have r := ih (by omega) (some (vi x4)) τ (fun i hi => ?_) h2
      · rw [eW, eP] at r; exact r
      · show gi τ 38 i = if wdF k = 32 then cwB k i else if i = cwW k then oor (cwB k i) (if cwP k < 6 then oshl (wdF k - 97 + 1) (5 * (5 - (cwP k : Int))) else 0) else cwB k i
        rw [if_pos nz]; exact h1 i hi
  · have e : k = 95 := by omega
    subst e
    have fin : RiM σ τ := ⟨fun i hi => by rw [h1 i hi]; exact cwB_95 i hi, h2⟩
    refine v_ri (cwW 95) (cwP 95) 95 x (by intros; exfalso; omega) (by intros; exfalso; omega) (by intros; exfalso; omega) (by intros; exfalso; omega) (by intros; exfalso; omega) (by intros; exfalso; omega) (by intros; exfalso; omega) (by intros; exfalso; omega) (by intros; exfalso; omega) (by intros; exfalso; omega) (by intros; exfalso; omega) (by intros; exfalso; omega) ?_ ?_ ?_ ?_ ?_
    · intro _; exact fin
    · intro _ _; exact fin
    all_goals (intros; exfalso; omega)
theorem i_37_37h {n : Nat} {σ : Mm} {Q : PQ} (hw : ∀ i, i < 95 → gi σ 2 i = wdF i) (h : ∀ s, RiM σ s → Q none (sk_43 n) s) : R 37 0 [some (vr 37), some (vr 4), some (vr 21), none, none, none, none] [] (sk_39 n) 0 0 σ Q :=
  i_37_37a (R_mono _ _ _ _ _ _ _ _ _ _ (fun r sh' σ' q => by obtain ⟨q1, q2, q3⟩ := q; subst q1; subst q2; exact h _ q3) (ri_loop hw))
theorem v_w0o_0 {n : Nat}   {σ : Mm} {P : Mm → Prop} (l1 : ∀ t1 : Mm, t1 = si σ 40 0 (0 : Int) → ∀ t2 : Mm, t2 = si t1 40 1 (0 : Int) → R 81 12 [some (vr 40), some (vr 5), some (vi 0)] [] (sk_99 n) 0 0 t2 (Qv (sk_99 n) P)) : Cv 81 [vr 40, vr 5] (sk_99 n) σ P :=
  show R 81 0 [some (vr 40), some (vr 5), none] [] (sk_99 n) 0 0 σ (Qv (sk_99 n) P) from wpK_R 9 [12, 59, 86] ((l1 _ rfl _ rfl))
theorem v_w0o_12 {n : Nat}  (k : Nat) {σ : Mm} {P : Mm → Prop} (o1 : (k : Int) < (10 : Int) → (0 ≤ (k : Int) ∧ (k : Int) < 10)) (o2 : (k : Int) < (10 : Int) → ∀ t3 : Mm, t3 = si σ 41 k (gi σ 10 k) → ∀ t4 : Mm, t4 = si t3 42 k (-1 : Int) → ∀ t5 : Mm, t5 = si t4 43 k (-1 : Int) → ∀ t6 : Mm, t6 = si t5 44 k (0 : Int) → rg ((k : Int) + 1)) (l1 : (10 : Int) ≤ (k : Int) → R 81 59 [some (vr 40), some (vr 5), some (vi 0)] [] (sk_99 n) 0 0 σ (Qv (sk_99 n) P)) (l2 : (k : Int) < (10 : Int) → ∀ t3 : Mm, t3 = si σ 41 k (gi σ 10 k) → ∀ t4 : Mm, t4 = si t3 42 k (-1 : Int) → ∀ t5 : Mm, t5 = si t4 43 k (-1 : Int) → ∀ t6 : Mm, t6 = si t5 44 k (0 : Int) → R 81 12 [some (vr 40), some (vr 5), some (vi ((k : Int) + 1))] [] (sk_99 n) 0 0 t6 (Qv (sk_99 n) P)) : R 81 12 [some (vr 40), some (vr 5), some (vi (k : Int))] [] (sk_99 n) 0 0 σ (Qv (sk_99 n) P) :=
  wpK_R 29 [12, 59, 86] (And.intro (fun q1 => (l1 q1)) (fun q1 => (have k2 := (o1 (Int.not_le.mp q1)); And.intro k2 (And.intro k2 (And.intro k2 (And.intro k2 (And.intro k2 ((have k7 := (o2 (Int.not_le.mp q1) _ rfl _ rfl _ rfl _ rfl); And.intro k7 ((l2 (Int.not_le.mp q1) _ rfl _ rfl _ rfl _ rfl)))))))))))
theorem v_w0o_59 {n : Nat}  (k : Nat) {σ : Mm} {P : Mm → Prop} (o1 : (k : Int) < (5 : Int) → (0 ≤ (k : Int) ∧ (k : Int) < 5)) (o2 : (k : Int) < (5 : Int) → ∀ t3 : Mm, t3 = si σ 45 k (k : Int) → ∀ t4 : Mm, t4 = si t3 46 k (0 : Int) → rg ((k : Int) + 1)) (l1 : (5 : Int) ≤ (k : Int) → R 81 86 [some (vr 40), some (vr 5), some (vi 0)] [] (sk_99 n) 0 0 σ (Qv (sk_99 n) P)) (l2 : (k : Int) < (5 : Int) → ∀ t3 : Mm, t3 = si σ 45 k (k : Int) → ∀ t4 : Mm, t4 = si t3 46 k (0 : Int) → R 81 59 [some (vr 40), some (vr 5), some (vi ((k : Int) + 1))] [] (sk_99 n) 0 0 t4 (Qv (sk_99 n) P)) : R 81 59 [some (vr 40), some (vr 5), some (vi (k : Int))] [] (sk_99 n) 0 0 σ (Qv (sk_99 n) P) :=
  wpK_R 16 [12, 59, 86] (And.intro (fun q1 => (l1 q1)) (fun q1 => (have k2 := (o1 (Int.not_le.mp q1)); And.intro k2 (And.intro k2 ((have k5 := (o2 (Int.not_le.mp q1) _ rfl _ rfl); And.intro k5 ((l2 (Int.not_le.mp q1) _ rfl _ rfl))))))))
theorem v_w0o_86 {n : Nat}  (k : Nat) {σ : Mm} {P : Mm → Prop} (o1 : (k : Int) < (5 : Int) → (0 ≤ (k : Int) ∧ (k : Int) < 5)) (o2 : (k : Int) < (5 : Int) → ∀ t3 : Mm, t3 = si σ 48 k (0 : Int) → rg ((k : Int) + 1)) (l1 : (5 : Int) ≤ (k : Int) → P σ) (l2 : (k : Int) < (5 : Int) → ∀ t3 : Mm, t3 = si σ 48 k (0 : Int) → R 81 86 [some (vr 40), some (vr 5), some (vi ((k : Int) + 1))] [] (sk_99 n) 0 0 t3 (Qv (sk_99 n) P)) : R 81 86 [some (vr 40), some (vr 5), some (vi (k : Int))] [] (sk_99 n) 0 0 σ (Qv (sk_99 n) P) :=
  wpK_R 11 [12, 59, 86] (And.intro (fun q1 => And.intro (retO (by decide) (by decide) rfl) ⟨rfl, rfl, (l1 q1)⟩) (fun q1 => (have k2 := (o1 (Int.not_le.mp q1)); And.intro k2 ((have k4 := (o2 (Int.not_le.mp q1) _ rfl); And.intro k4 ((l2 (Int.not_le.mp q1) _ rfl)))))))
theorem w0o_86 {n : Nat} {σ : Mm} {P : Mm → Prop} (hP : ∀ s, (∀ j : Nat, j < 5 → gi s 48 j = 0) → (∀ a i, a ≠ 48 → gi s a i = gi σ a i) → P s) : R 81 86 [some (vr 40), some (vr 5), some (vi 0)] [] (sk_99 n) 0 0 σ (Qv (sk_99 n) P) := by
  refine loopUp (N := 5) (I := fun k => ∀ τ : Mm, (∀ j : Nat, j < k → gi τ 48 j = 0) → (∀ a i, a ≠ 48 → gi τ a i = gi σ a i) → R 81 86 [some (vr 40), some (vr 5), some (vi (k : Int))] [] (sk_99 n) 0 0 τ (Qv (sk_99 n) P)) (fun k hk ih => ?_) 0 (by omega) σ (fun j hj => by omega) (fun _ _ _ => rfl)
  intro τ h1 h2
  refine v_w0o_86 k (by intros; first | omega | (unfold rg; omega)) (by intros; first | omega | (unfold rg; omega)) ?_ ?_
  · intro q; exact hP τ (fun j hj => h1 j (by omega)) h2
  · intro q t e
    subst e
    refine ih (by omega) _ (fun j hj => ?_) (fun a i p => by rw [gi_si, if_neg (by omega)]; exact h2 a i p)
    by_cases z : j = k
    · subst z; rw [gi_hit]
    · rw [gi_si, if_neg (by omega)]; exact h1 j (by omega)
theorem w0o_59 {n : Nat} {σ : Mm} {P : Mm → Prop} (hP : ∀ s, (∀ j : Nat, j < 5 → gi s 45 j = (j : Int) ∧ gi s 46 j = 0) → (∀ a i, a ≠ 45 → a ≠ 46 → gi s a i = gi σ a i) → R 81 86 [some (vr 40), some (vr 5), some (vi 0)] [] (sk_99 n) 0 0 s (Qv (sk_99 n) P)) : R 81 59 [some (vr 40), some (vr 5), some (vi 0)] [] (sk_99 n) 0 0 σ (Qv (sk_99 n) P) := by
  refine loopUp (N := 5) (I := fun k => ∀ τ : Mm, (∀ j : Nat, j < k → gi τ 45 j = (j : Int) ∧ gi τ 46 j = 0) → (∀ a i, a ≠ 45 → a ≠ 46 → gi τ a i = gi σ a i) → R 81 59 [some (vr 40), some (vr 5), some (vi (k : Int))] [] (sk_99 n) 0 0 τ (Qv (sk_99 n) P)) (fun k hk ih => ?_) 0 (by omega) σ (fun j hj => by omega) (fun _ _ _ _ => rfl)
  intro τ h1 h2
  refine v_w0o_59 k (by intros; first | omega | (unfold rg; omega)) (by intros; first | omega | (unfold rg; omega)) ?_ ?_
  · intro q; exact hP τ (fun j hj => h1 j (by omega)) h2
  · intro q t3 e3 t4 e4
    subst e4 e3
    refine ih (by omega) _ (fun j hj => ?_) (fun a i p q => by rw [gi_si, if_neg (by omega), gi_si, if_neg (by omega)]; exact h2 a i p q)
    by_cases z : j = k
    · subst z; exact ⟨by rw [gi_si, if_neg (by omega), gi_hit], by rw [gi_hit]⟩
    · exact ⟨by rw [gi_si, if_neg (by omega), gi_si, if_neg (by omega)]; exact (h1 j (by omega)).1, by rw [gi_si, if_neg (by omega), gi_si, if_neg (by omega)]; exact (h1 j (by omega)).2⟩
theorem w0o_12 {n : Nat} {σ : Mm} {P : Mm → Prop} (hP : ∀ s, (∀ c : Nat, c < 10 → gi s 41 c = gi σ 10 c ∧ gi s 42 c = -1 ∧ gi s 43 c = -1 ∧ gi s 44 c = 0) → (∀ a i, ¬ (41 ≤ a ∧ a ≤ 44) → gi s a i = gi σ a i) → R 81 59 [some (vr 40), some (vr 5), some (vi 0)] [] (sk_99 n) 0 0 s (Qv (sk_99 n) P)) : R 81 12 [some (vr 40), some (vr 5), some (vi 0)] [] (sk_99 n) 0 0 σ (Qv (sk_99 n) P) := by
  refine loopUp (N := 10) (I := fun k => ∀ τ : Mm, (∀ c : Nat, c < k → gi τ 41 c = gi σ 10 c ∧ gi τ 42 c = -1 ∧ gi τ 43 c = -1 ∧ gi τ 44 c = 0) → (∀ a i, ¬ (41 ≤ a ∧ a ≤ 44) → gi τ a i = gi σ a i) → R 81 12 [some (vr 40), some (vr 5), some (vi (k : Int))] [] (sk_99 n) 0 0 τ (Qv (sk_99 n) P)) (fun k hk ih => ?_) 0 (by omega) σ (fun j hj => by omega) (fun _ _ _ => rfl)
  intro τ h1 h2
  refine v_w0o_12 k (by intros; first | omega | (unfold rg; omega)) (by intros; first | omega | (unfold rg; omega)) ?_ ?_
  · intro q; exact hP τ (fun j hj => h1 j (by omega)) h2
  · intro q t3 e3 t4 e4 t5 e5 t6 e6
    have e0 := h2 10 k (by omega)
    subst e6 e5 e4 e3
    refine ih (by omega) _ (fun j hj => ?_) (fun a i p => by rw [gi_si, if_neg (by omega), gi_si, if_neg (by omega), gi_si, if_neg (by omega), gi_si, if_neg (by omega)]; exact h2 a i p)
    by_cases z : j = k
    · subst z; simp [gi_si, e0]
    · have := h1 j (by omega)
      simp [gi_si, z, this]
theorem c_w0o {n : Nat} {σ : Mm} {P : Mm → Prop} (hP : ∀ s, W0M σ s → P s) : Cv 81 [vr 40, vr 5] (sk_99 n) σ P := by
  refine v_w0o_0 ?_
  intro t1 e1 t2 e2
  refine w0o_12 fun s1 a1 a2 => w0o_59 fun s2 b1 b2 => w0o_86 fun s3 c1 c2 => hP s3 ⟨?_, ?_, fun c hc => ?_, fun j hj => ?_, c1, fun a i p => ?_⟩
  · rw [c2 40 0 (by omega), b2 40 0 (by omega) (by omega), a2 40 0 (by omega), e2, gi_si, if_neg (by omega), e1, gi_hit]
  · rw [c2 40 1 (by omega), b2 40 1 (by omega) (by omega), a2 40 1 (by omega), e2, gi_hit]
  · have e : gi t2 10 c = gi σ 10 c := by rw [e2, gi_si, if_neg (by omega), e1, gi_si, if_neg (by omega)]
    have := a1 c hc
    rw [c2 41 c (by omega), b2 41 c (by omega) (by omega), c2 42 c (by omega), b2 42 c (by omega) (by omega), c2 43 c (by omega), b2 43 c (by omega) (by omega), c2 44 c (by omega), b2 44 c (by omega) (by omega), ← e]
    exact this
  · rw [c2 45 j (by omega), c2 46 j (by omega)]; exact b1 j hj
  · rw [c2 a i (by omega), b2 a i (by omega) (by omega), a2 a i (by omega), e2, gi_si, if_neg (by omega), e1, gi_si, if_neg (by omega)]
