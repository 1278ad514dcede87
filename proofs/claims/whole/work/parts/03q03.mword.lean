/-! TEXT: the reference's words -/
def smB (σ : Mm) (k : Int) : Bool := decide (k < gi σ 85 6) && isL (gi σ 86 k.toNat)
def dgB (σ : Mm) (k : Int) : Bool := decide (k < gi σ 85 6) && isD (gi σ 86 k.toNat)
theorem v_isSm {n : Nat}  (k : Int) {σ : Mm} {P : Int → Mm → Prop} (o1 : k < (gi σ 85 6) → (0 ≤ k ∧ k < 700)) (l1 : (gi σ 85 6) ≤ k → P 0 σ) (l2 : k < (gi σ 85 6) → (gi σ 86 k.toNat) < (97 : Int) → P 0 σ) (l3 : k < (gi σ 85 6) → (97 : Int) ≤ (gi σ 86 k.toNat) → (122 : Int) < (gi σ 86 k.toNat) → P 0 σ) (l4 : k < (gi σ 85 6) → (97 : Int) ≤ (gi σ 86 k.toNat) → (gi σ 86 k.toNat) ≤ (122 : Int) → P 1 σ) : Ci 161 [vr 85, vi k] (shF n) σ P :=
  show R 161 0 [some (vr 85), some (vi k)] [] (shF n) 0 0 σ (Qi (shF n) P) from wpK_R 19 [] (And.intro (fun q1 => And.intro ret0 (And.intro (Or.inl rfl) ⟨rfl, _, rfl, (l1 q1)⟩)) (fun q1 => (have k2 := (o1 (Int.not_le.mp q1)); And.intro k2 (And.intro (fun q3 => And.intro ret0 (And.intro (Or.inl rfl) ⟨rfl, _, rfl, (l2 (Int.not_le.mp q1) q3)⟩)) (fun q3 => And.intro k2 (And.intro (fun q4 => And.intro ret0 (And.intro (Or.inl rfl) ⟨rfl, _, rfl, (l3 (Int.not_le.mp q1) (Int.not_lt.mp q3) q4)⟩)) (fun q4 => And.intro ret0 (And.intro (Or.inr rfl) ⟨rfl, _, rfl, (l4 (Int.not_le.mp q1) (Int.not_lt.mp q3) (Int.not_lt.mp q4))⟩))))))))
theorem v_isDg {n : Nat}  (k : Int) {σ : Mm} {P : Int → Mm → Prop} (o1 : k < (gi σ 85 6) → (0 ≤ k ∧ k < 700)) (l1 : (gi σ 85 6) ≤ k → P 0 σ) (l2 : k < (gi σ 85 6) → (gi σ 86 k.toNat) < (48 : Int) → P 0 σ) (l3 : k < (gi σ 85 6) → (48 : Int) ≤ (gi σ 86 k.toNat) → (57 : Int) < (gi σ 86 k.toNat) → P 0 σ) (l4 : k < (gi σ 85 6) → (48 : Int) ≤ (gi σ 86 k.toNat) → (gi σ 86 k.toNat) ≤ (57 : Int) → P 1 σ) : Ci 162 [vr 85, vi k] (shF n) σ P :=
  show R 162 0 [some (vr 85), some (vi k)] [] (shF n) 0 0 σ (Qi (shF n) P) from wpK_R 19 [] (And.intro (fun q1 => And.intro ret0 (And.intro (Or.inl rfl) ⟨rfl, _, rfl, (l1 q1)⟩)) (fun q1 => (have k2 := (o1 (Int.not_le.mp q1)); And.intro k2 (And.intro (fun q3 => And.intro ret0 (And.intro (Or.inl rfl) ⟨rfl, _, rfl, (l2 (Int.not_le.mp q1) q3)⟩)) (fun q3 => And.intro k2 (And.intro (fun q4 => And.intro ret0 (And.intro (Or.inl rfl) ⟨rfl, _, rfl, (l3 (Int.not_le.mp q1) (Int.not_lt.mp q3) q4)⟩)) (fun q4 => And.intro ret0 (And.intro (Or.inr rfl) ⟨rfl, _, rfl, (l4 (Int.not_le.mp q1) (Int.not_lt.mp q3) (Int.not_lt.mp q4))⟩))))))))
theorem c_isSm {n : Nat} {k : Int} {σ : Mm} {P : Int → Mm → Prop} (hk : 0 ≤ k ∧ gi σ 85 6 ≤ 700) (hP : P (b2i (smB σ k)) σ) : Ci 161 [vr 85, vi k] (shF n) σ P := by
  have a : ∀ b : Bool, smB σ k = b → P (b2i b) σ := fun b e => by rw [← e]; exact hP
  have f : ¬ (k < gi σ 85 6 ∧ (97 ≤ gi σ 86 k.toNat ∧ gi σ 86 k.toNat ≤ 122)) → smB σ k = false := fun q => by
    unfold smB
    by_cases z : k < gi σ 85 6
    · rw [decide_eq_true z, Bool.true_and]; exact isL_f.mpr (fun y => q ⟨z, y⟩)
    · rw [decide_eq_false z]; rfl
  refine v_isSm k (by intros; omega) ?_ ?_ ?_ ?_
  · intros; exact a false (f (by omega))
  · intros; exact a false (f (by omega))
  · intros; exact a false (f (by omega))
  · intro h1 h2 h3
    refine a true ?_
    unfold smB
    rw [decide_eq_true h1, Bool.true_and]; exact isL_t.mpr ⟨h2, h3⟩
theorem c_isDg {n : Nat} {k : Int} {σ : Mm} {P : Int → Mm → Prop} (hk : 0 ≤ k ∧ gi σ 85 6 ≤ 700) (hP : P (b2i (dgB σ k)) σ) : Ci 162 [vr 85, vi k] (shF n) σ P := by
  have a : ∀ b : Bool, dgB σ k = b → P (b2i b) σ := fun b e => by rw [← e]; exact hP
  have f : ¬ (k < gi σ 85 6 ∧ (48 ≤ gi σ 86 k.toNat ∧ gi σ 86 k.toNat ≤ 57)) → dgB σ k = false := fun q => by
    unfold dgB
    by_cases z : k < gi σ 85 6
    · rw [decide_eq_true z, Bool.true_and]; exact isD_f.mpr (fun y => q ⟨z, y⟩)
    · rw [decide_eq_false z]; rfl
  refine v_isDg k (by intros; omega) ?_ ?_ ?_ ?_
  · intros; exact a false (f (by omega))
  · intros; exact a false (f (by omega))
  · intros; exact a false (f (by omega))
  · intro h1 h2 h3
    refine a true ?_
    unfold dgB
    rw [decide_eq_true h1, Bool.true_and]; exact isD_t.mpr ⟨h2, h3⟩
def wfN (k : Nat) : Nat := (([0, 6, 12, 18, 23, 28, 32, 38, 42, 46, 50, 53, 57, 62, 68, 74, 80, 86, 91, 95] : List Nat)[k]?).getD 95
def wnN (k : Nat) : Nat := wfN (k + 1) - wfN k - 1
theorem wN_f : ∀ k, k < 19 → (1 ≤ wnN k ∧ wnN k ≤ 5) ∧ wfN k + wnN k + 1 = wfN (k + 1) ∧ wfN (k + 1) ≤ 95 ∧ cdW (wfN k + wnN k) = 32 ∧ ∀ i, i < wnN k → 97 ≤ cdW (wfN k + i) ∧ cdW (wfN k + i) ≤ 122 := by decide +kernel
def mwI (t : Nat → Int) (a e k : Nat) : Int := if wnN k = e - a ∧ ∀ i, i < wnN k → cdW (wfN k + i) = t (a + i) then 1 else 0
def wdI (t : Nat → Int) (a e : Nat) : Int := plF (mwI t a e) 1 19
theorem v_wA_0 {n : Nat}  (a : Nat) (e : Nat) {σ : Mm} {P : Int → Mm → Prop} (l1 : R 160 5 [some (vr 85), some (vi (a : Int)), some (vi (e : Int)), some (vi 0), some (vi 0), none, none, none] [] (shF n) 0 0 σ (Qi (shF n) P)) : Ci 160 [vr 85, vi (a : Int), vi (e : Int)] (shF n) σ P :=
  show R 160 0 [some (vr 85), some (vi (a : Int)), some (vi (e : Int)), none, none, none, none, none] [] (shF n) 0 0 σ (Qi (shF n) P) from wpK_R 5 [5, 18, 57] ((l1))
theorem v_wA_5 {n : Nat}  (a : Nat) (e : Nat) (k : Nat) (f : Nat) (p : Option PV) (q : Option PV) (r : Option PV) {σ : Mm} {P : Int → Mm → Prop} (l1 : (95 : Int) ≤ (f : Int) → P (-1) σ) (l2 : (f : Int) < (95 : Int) → R 160 18 [some (vr 85), some (vi (a : Int)), some (vi (e : Int)), some (vi (k : Int)), some (vi (f : Int)), some (vi 0), q, r] [] (shF n) 0 0 σ (Qi (shF n) P)) : R 160 5 [some (vr 85), some (vi (a : Int)), some (vi (e : Int)), some (vi (k : Int)), some (vi (f : Int)), p, q, r] [] (shF n) 0 0 σ (Qi (shF n) P) :=
  wpK_R 8 [5, 18, 57] (And.intro (fun q1 => And.intro ret0 ⟨rfl, _, rfl, (l1 q1)⟩) (fun q1 => (l2 (Int.not_le.mp q1))))
theorem v_wA_18 {n : Nat}  (a : Nat) (e : Nat) (k : Nat) (f : Nat) (m : Nat) (q : Option PV) (r : Option PV) {σ : Mm} {P : Int → Mm → Prop} (o1 : rg ((f : Int) + (m : Int))) (o2 : (0 ≤ ((f : Int) + (m : Int)) ∧ ((f : Int) + (m : Int)) < 95)) (o3 : (gi σ 87 (f + m)) ≠ (32 : Int) → rg ((m : Int) + 1)) (l1 : (gi σ 87 (f + m)) = (32 : Int) → R 160 39 [some (vr 85), some (vi (a : Int)), some (vi (e : Int)), some (vi (k : Int)), some (vi (f : Int)), some (vi (m : Int)), q, r] [] (shF n) 0 0 σ (Qi (shF n) P)) (l2 : (gi σ 87 (f + m)) ≠ (32 : Int) → R 160 18 [some (vr 85), some (vi (a : Int)), some (vi (e : Int)), some (vi (k : Int)), some (vi (f : Int)), some (vi ((m : Int) + 1)), q, r] [] (shF n) 0 0 σ (Qi (shF n) P)) : R 160 18 [some (vr 85), some (vi (a : Int)), some (vi (e : Int)), some (vi (k : Int)), some (vi (f : Int)), some (vi (m : Int)), q, r] [] (shF n) 0 0 σ (Qi (shF n) P) :=
  wpK_R 11 [5, 18, 39] ((have k1 := (o1); And.intro k1 ((have k2 := (o2); And.intro k2 (And.intro (fun q3 => (l1 q3)) (fun q3 => (have k4 := (o3 q3); And.intro k4 ((l2 q3)))))))))
theorem v_wA_39 {n : Nat}  (a : Nat) (e : Nat) (k : Nat) (f : Nat) (m : Nat) (q : Option PV) (r : Option PV) {σ : Mm} {P : Int → Mm → Prop} (o1 : rg ((e : Int) - (a : Int))) (l1 : (m : Int) ≠ ((e : Int) - (a : Int)) → R 160 57 [some (vr 85), some (vi (a : Int)), some (vi (e : Int)), some (vi (k : Int)), some (vi (f : Int)), some (vi (m : Int)), some (vi 0), some (vi 0)] [] (shF n) 0 0 σ (Qi (shF n) P)) (l2 : (m : Int) = ((e : Int) - (a : Int)) → R 160 57 [some (vr 85), some (vi (a : Int)), some (vi (e : Int)), some (vi (k : Int)), some (vi (f : Int)), some (vi (m : Int)), some (vi 1), some (vi 0)] [] (shF n) 0 0 σ (Qi (shF n) P)) : R 160 39 [some (vr 85), some (vi (a : Int)), some (vi (e : Int)), some (vi (k : Int)), some (vi (f : Int)), some (vi (m : Int)), q, r] [] (shF n) 0 0 σ (Qi (shF n) P) :=
  wpK_R 11 [57] ((have k1 := (o1); And.intro k1 (And.intro (fun q2 => (l1 q2)) (fun q2 => (l2 (Classical.not_not.mp q2))))))
theorem v_wA_57 {n : Nat}  (a : Nat) (e : Nat) (k : Nat) (f : Nat) (m : Nat) (sa : Int) (i : Nat) {σ : Mm} {P : Int → Mm → Prop} (o1 : (m : Int) ≤ (i : Int) → sa = (0 : Int) → rg ((m : Int) + 1)) (o2 : (m : Int) ≤ (i : Int) → sa = (0 : Int) → rg ((f : Int) + ((m : Int) + 1))) (o3 : (m : Int) ≤ (i : Int) → sa = (0 : Int) → rg ((k : Int) + 1)) (o4 : (i : Int) < (m : Int) → sa = (0 : Int) → sa = (0 : Int) → rg ((m : Int) + 1)) (o5 : (i : Int) < (m : Int) → sa = (0 : Int) → sa = (0 : Int) → rg ((f : Int) + ((m : Int) + 1))) (o6 : (i : Int) < (m : Int) → sa = (0 : Int) → sa = (0 : Int) → rg ((k : Int) + 1)) (o7 : (i : Int) < (m : Int) → sa ≠ (0 : Int) → rg ((f : Int) + (i : Int))) (o8 : (i : Int) < (m : Int) → sa ≠ (0 : Int) → (0 ≤ ((f : Int) + (i : Int)) ∧ ((f : Int) + (i : Int)) < 95)) (o9 : (i : Int) < (m : Int) → sa ≠ (0 : Int) → rg ((a : Int) + (i : Int))) (o10 : (i : Int) < (m : Int) → sa ≠ (0 : Int) → (0 ≤ ((a : Int) + (i : Int)) ∧ ((a : Int) + (i : Int)) < 700)) (o11 : (i : Int) < (m : Int) → sa ≠ (0 : Int) → (gi σ 87 (f + i)) ≠ (gi σ 86 (a + i)) → rg ((i : Int) + 1)) (o12 : (i : Int) < (m : Int) → sa ≠ (0 : Int) → (gi σ 87 (f + i)) = (gi σ 86 (a + i)) → rg ((i : Int) + 1)) (l1 : (m : Int) ≤ (i : Int) → sa = (0 : Int) → R 160 5 [some (vr 85), some (vi (a : Int)), some (vi (e : Int)), some (vi ((k : Int) + 1)), some (vi ((f : Int) + ((m : Int) + 1))), some (vi (m : Int)), some (vi sa), some (vi (i : Int))] [] (shF n) 0 0 σ (Qi (shF n) P)) (l2 : (m : Int) ≤ (i : Int) → sa ≠ (0 : Int) → P (k : Int) σ) (l3 : (i : Int) < (m : Int) → sa = (0 : Int) → sa = (0 : Int) → R 160 5 [some (vr 85), some (vi (a : Int)), some (vi (e : Int)), some (vi ((k : Int) + 1)), some (vi ((f : Int) + ((m : Int) + 1))), some (vi (m : Int)), some (vi sa), some (vi (i : Int))] [] (shF n) 0 0 σ (Qi (shF n) P)) (l4 : (i : Int) < (m : Int) → sa = (0 : Int) → sa ≠ (0 : Int) → P (k : Int) σ) (l5 : (i : Int) < (m : Int) → sa ≠ (0 : Int) → (gi σ 87 (f + i)) ≠ (gi σ 86 (a + i)) → R 160 57 [some (vr 85), some (vi (a : Int)), some (vi (e : Int)), some (vi (k : Int)), some (vi (f : Int)), some (vi (m : Int)), some (vi 0), some (vi ((i : Int) + 1))] [] (shF n) 0 0 σ (Qi (shF n) P)) (l6 : (i : Int) < (m : Int) → sa ≠ (0 : Int) → (gi σ 87 (f + i)) = (gi σ 86 (a + i)) → R 160 57 [some (vr 85), some (vi (a : Int)), some (vi (e : Int)), some (vi (k : Int)), some (vi (f : Int)), some (vi (m : Int)), some (vi 1), some (vi ((i : Int) + 1))] [] (shF n) 0 0 σ (Qi (shF n) P)) : R 160 57 [some (vr 85), some (vi (a : Int)), some (vi (e : Int)), some (vi (k : Int)), some (vi (f : Int)), some (vi (m : Int)), some (vi sa), some (vi (i : Int))] [] (shF n) 0 0 σ (Qi (shF n) P) :=
  wpK_R 24 [5, 57] (And.intro (fun q1 => And.intro (fun q2 => (have k3 := (o1 q1 q2); And.intro k3 ((have k4 := (o2 q1 q2); And.intro k4 ((have k5 := (o3 q1 q2); And.intro k5 ((l1 q1 q2)))))))) (fun q2 => And.intro ret0 ⟨rfl, _, rfl, (l2 q1 q2)⟩)) (fun q1 => And.intro (fun q6 => And.intro (fun q7 => (have k8 := (o4 (Int.not_le.mp q1) q6 q7); And.intro k8 ((have k9 := (o5 (Int.not_le.mp q1) q6 q7); And.intro k9 ((have k10 := (o6 (Int.not_le.mp q1) q6 q7); And.intro k10 ((l3 (Int.not_le.mp q1) q6 q7)))))))) (fun q7 => And.intro ret0 ⟨rfl, _, rfl, (l4 (Int.not_le.mp q1) q6 q7)⟩)) (fun q6 => (have k11 := (o7 (Int.not_le.mp q1) q6); And.intro k11 ((have k12 := (o8 (Int.not_le.mp q1) q6); And.intro k12 ((have k13 := (o9 (Int.not_le.mp q1) q6); And.intro k13 ((have k14 := (o10 (Int.not_le.mp q1) q6); And.intro k14 (And.intro (fun q15 => (have k16 := (o11 (Int.not_le.mp q1) q6 q15); And.intro k16 ((l5 (Int.not_le.mp q1) q6 q15)))) (fun q15 => (have k17 := (o12 (Int.not_le.mp q1) q6 (Classical.not_not.mp q15)); And.intro k17 ((l6 (Int.not_le.mp q1) q6 (Classical.not_not.mp q15))))))))))))))))
theorem c_wA {n : Nat} {A B : Int} {σ : Mm} {P : Int → Mm → Prop} (hab : 0 ≤ A ∧ A ≤ B ∧ B ≤ 700) (hw : ∀ i, i < 95 → gi σ 87 i = cdW i) (hP : P (wdI (gi σ 86) A.toNat B.toNat) σ) : Ci 160 [vr 85, vi A, vi B] (shF n) σ P := by
  obtain ⟨a, rfl⟩ := Int.eq_ofNat_of_zero_le hab.1
  obtain ⟨e, rfl⟩ := Int.eq_ofNat_of_zero_le (show 0 ≤ B by omega)
  rw [Int.toNat_natCast, Int.toNat_natCast] at hP
  have hae : a ≤ e ∧ e ≤ 700 := by omega
  clear hab
  refine v_wA_0 a e ?_
  have hstart := loopUp (N := 19) (I := fun k => ∀ (f : Nat) (p q r : Option PV), f = wfN k → plF (mwI (gi σ 86) a e) 1 k = -1 → R 160 5 [some (vr 85), some (vi (a : Int)), some (vi (e : Int)), some (vi (k : Int)), some (vi (f : Int)), p, q, r] [] (shF n) 0 0 σ (Qi (shF n) P)) (fun k hk ih => ?_) 0 (by omega) 0 none none none rfl rfl
  · exact hstart
  intro f p q r hf hn
  have hfe : k = 19 → f = 95 := fun z => by rw [hf, z]; rfl
  have hfl : k < 19 → f < 95 := fun z => by have := wN_f k z; omega
  refine v_wA_5 a e k f p q r ?_ ?_
  · intro hge
    have hk19 : k = 19 := Classical.byContradiction fun z => by have := hfl (by omega); omega
    subst hk19
    unfold wdI at hP
    rw [hn] at hP; exact hP
  · intro hlt
    have hk19 : k < 19 := Classical.byContradiction fun z => by have := hfe (by omega); omega
    obtain ⟨w1, w2, w3, w4, w5⟩ := wN_f k hk19
    rw [← hf] at w2 w4 w5
    refine loopUp (N := wnN k) (I := fun m => ∀ q r : Option PV, R 160 18 [some (vr 85), some (vi (a : Int)), some (vi (e : Int)), some (vi (k : Int)), some (vi (f : Int)), some (vi (m : Int)), q, r] [] (shF n) 0 0 σ (Qi (shF n) P)) (fun m hm im => ?_) 0 (by omega) q r
    clear q r
    intro q r
    have h87 : gi σ 87 (f + m) = cdW (f + m) := hw (f + m) (by omega)
    refine v_wA_18 a e k f m q r (by intros; (first | omega | (unfold rg; omega))) (by intros; (first | omega | (unfold rg; omega))) (by intros; (first | omega | (unfold rg; omega))) ?_ ?_
    · intro h32
      have hmm : m = wnN k := Classical.byContradiction fun z => by have := w5 m (by omega); omega
      clear im h87
      have hno : mwI (gi σ 86) a e k = 0 → ∀ (sa : Int) (i : Nat), R 160 5 [some (vr 85), some (vi (a : Int)), some (vi (e : Int)), some (vi ((k : Int) + 1)), some (vi ((f : Int) + ((m : Int) + 1))), some (vi (m : Int)), some (vi sa), some (vi (i : Int))] [] (shF n) 0 0 σ (Qi (shF n) P) := fun z sa i => by
        refine R_eq (ih hk19 (wfN (k + 1)) (some (vi (m : Int))) (some (vi sa)) (some (vi (i : Int))) rfl (plF_none hn (by rw [z]; omega))) ?_
        rw [show ((wfN (k + 1) : Nat) : Int) = (f : Int) + ((m : Int) + 1) by omega]
        rfl
      have hyes : mwI (gi σ 86) a e k = 1 → P (k : Int) σ := fun z => by
        unfold wdI at hP
        rw [plF_here hn z 19 hk19] at hP; exact hP
      clear ih hP
      have hin : ∀ (sa : Int) (i0 : Nat), i0 ≤ m → ((sa = 0 ∧ mwI (gi σ 86) a e k = 0) ∨ (sa = 1 ∧ wnN k = e - a ∧ ∀ j, j < i0 → cdW (f + j) = gi σ 86 (a + j))) → R 160 57 [some (vr 85), some (vi (a : Int)), some (vi (e : Int)), some (vi (k : Int)), some (vi (f : Int)), some (vi (m : Int)), some (vi sa), some (vi (i0 : Int))] [] (shF n) 0 0 σ (Qi (shF n) P) := fun sa i0 hi0 hs => by
        refine loopUp (N := m) (I := fun i => ∀ sa : Int, ((sa = 0 ∧ mwI (gi σ 86) a e k = 0) ∨ (sa = 1 ∧ wnN k = e - a ∧ ∀ j, j < i → cdW (f + j) = gi σ 86 (a + j))) → R 160 57 [some (vr 85), some (vi (a : Int)), some (vi (e : Int)), some (vi (k : Int)), some (vi (f : Int)), some (vi (m : Int)), some (vi sa), some (vi (i : Int))] [] (shF n) 0 0 σ (Qi (shF n) P)) (fun i hi ii => ?_) i0 hi0 sa hs
        clear hs hi0 i0 sa
        intro sa hs
        have h87 : i < m → gi σ 87 (f + i) = cdW (f + i) := fun z => hw (f + i) (by omega)
        refine v_wA_57 a e k f m sa i (by intros; (first | omega | (unfold rg; omega))) (by intros; (first | omega | (unfold rg; omega))) (by intros; (first | omega | (unfold rg; omega))) (by intros; (first | omega | (unfold rg; omega))) (by intros; (first | omega | (unfold rg; omega))) (by intros; (first | omega | (unfold rg; omega))) (by intros; (first | omega | (unfold rg; omega))) (by intros; (first | omega | (unfold rg; omega))) (by intros; (first | omega | (unfold rg; omega))) (by intros; (first | omega | (unfold rg; omega))) (by intros; (first | omega | (unfold rg; omega))) (by intros; (first | omega | (unfold rg; omega))) ?_ ?_ ?_ ?_ ?_ ?_
        · intro b1 b2
          rcases hs with s | s
          · exact hno s.2 _ _
          · omega
        · intro b1 b2
          rcases hs with s | s
          · omega
          · refine hyes ?_
            unfold mwI
            rw [if_pos ⟨s.2.1, fun j hj => by rw [← hf]; exact s.2.2 j (by omega)⟩]
        · intro b1 b2 _
          rcases hs with s | s
          · exact hno s.2 _ _
          · omega
        · intro b1 b2 b3; omega
        · intro b1 b2 b3
          rw [h87 (by omega)] at b3
          refine R_eq (ii (by omega) 0 (Or.inl ⟨rfl, ?_⟩)) rfl
          unfold mwI
          rw [if_neg fun y => b3 (by have := y.2 i (by omega); rw [← hf] at this; exact this)]
        · intro b1 b2 b3
          rw [h87 (by omega)] at b3
          refine R_eq (ii (by omega) 1 (Or.inr ⟨rfl, ?_, fun j hj => ?_⟩)) rfl
          · rcases hs with s | s
            · omega
            · exact s.2.1
          · rcases hs with s | s
            · omega
            · by_cases y : j = i
              · rw [y]; exact b3
              · exact s.2.2 j (by omega)
      refine v_wA_39 a e k f m q r (by intros; (first | omega | (unfold rg; omega))) ?_ ?_
      · intro b1
        refine hin 0 0 (by omega) (Or.inl ⟨rfl, ?_⟩)
        unfold mwI
        rw [if_neg (by omega)]
      · intro b1
        exact hin 1 0 (by omega) (Or.inr ⟨rfl, by omega, fun j hj => by omega⟩)
    · intro h32
      have hmm : m < wnN k := Classical.byContradiction fun z => by
        have : m = wnN k := by omega
        rw [this] at h87 h32; omega
      exact R_eq (im hmm q r) rfl
theorem v_pa_0 {n : Nat}  (a : Nat) (e : Nat) {σ : Mm} {P : Int → Mm → Prop} (l1 : R 165 5 [some (vr 85), some (vi (a : Int)), some (vi (e : Int)), some (vi 0), some (vi (a : Int))] [] (shF n) 0 0 σ (Qi (shF n) P)) : Ci 165 [vr 85, vi (a : Int), vi (e : Int)] (shF n) σ P :=
  show R 165 0 [some (vr 85), some (vi (a : Int)), some (vi (e : Int)), none, none] [] (shF n) 0 0 σ (Qi (shF n) P) from wpK_R 5 [5] ((l1))
theorem v_pa_5 {n : Nat}  (a : Nat) (e : Nat) (x : Nat) (k : Nat) {σ : Mm} {P : Int → Mm → Prop} (o1 : rg ((a : Int) + 6)) (o2 : (k : Int) < ((a : Int) + 6) → (e : Int) ≤ (k : Int) → ∀ x4 : Int, x4 = oor (oshl (x : Int) (5 : Int)) (0 : Int) → rg ((k : Int) + 1)) (o3 : (k : Int) < ((a : Int) + 6) → (k : Int) < (e : Int) → (0 ≤ (k : Int) ∧ (k : Int) < 700)) (o4 : (k : Int) < ((a : Int) + 6) → (k : Int) < (e : Int) → rg ((gi σ 86 k) - 96)) (o5 : (k : Int) < ((a : Int) + 6) → (k : Int) < (e : Int) → ∀ x8 : Int, x8 = oor (oshl (x : Int) (5 : Int)) ((gi σ 86 k) - 96) → rg ((k : Int) + 1)) (l1 : ((a : Int) + 6) ≤ (k : Int) → P (x : Int) σ) (l2 : (k : Int) < ((a : Int) + 6) → (e : Int) ≤ (k : Int) → ∀ x4 : Int, x4 = oor (oshl (x : Int) (5 : Int)) (0 : Int) → R 165 5 [some (vr 85), some (vi (a : Int)), some (vi (e : Int)), some (vi x4), some (vi ((k : Int) + 1))] [] (shF n) 0 0 σ (Qi (shF n) P)) (l3 : (k : Int) < ((a : Int) + 6) → (k : Int) < (e : Int) → ∀ x8 : Int, x8 = oor (oshl (x : Int) (5 : Int)) ((gi σ 86 k) - 96) → R 165 5 [some (vr 85), some (vi (a : Int)), some (vi (e : Int)), some (vi x8), some (vi ((k : Int) + 1))] [] (shF n) 0 0 σ (Qi (shF n) P)) : R 165 5 [some (vr 85), some (vi (a : Int)), some (vi (e : Int)), some (vi (x : Int)), some (vi (k : Int))] [] (shF n) 0 0 σ (Qi (shF n) P) :=
  wpK_R 23 [5] ((have k1 := (o1); And.intro k1 (And.intro (fun q2 => And.intro ret0 ⟨rfl, _, rfl, (l1 q2)⟩) (fun q2 => And.intro (fun q3 => (have k5 := (o2 (Int.not_le.mp q2) q3 _ rfl); And.intro k5 ((l2 (Int.not_le.mp q2) q3 _ rfl)))) (fun q3 => (have k6 := (o3 (Int.not_le.mp q2) (Int.not_le.mp q3)); And.intro k6 ((have k7 := (o4 (Int.not_le.mp q2) (Int.not_le.mp q3)); And.intro k7 ((have k9 := (o5 (Int.not_le.mp q2) (Int.not_le.mp q3) _ rfl); And.intro k9 ((l3 (Int.not_le.mp q2) (Int.not_le.mp q3) _ rfl))))))))))))
theorem c_pa {n : Nat} {A B : Int} {σ : Mm} {P : Int → Mm → Prop} (hab : 0 ≤ A ∧ A ≤ B ∧ B ≤ 700) (hl : ∀ j, A.toNat ≤ j → j < B.toNat → isL (gi σ 86 j) = true) (hP : P ((pkN (gi σ 86) A.toNat B.toNat 6 : Nat) : Int) σ) : Ci 165 [vr 85, vi A, vi B] (shF n) σ P := by
  obtain ⟨a, rfl⟩ := Int.eq_ofNat_of_zero_le hab.1
  obtain ⟨e, rfl⟩ := Int.eq_ofNat_of_zero_le (show 0 ≤ B by omega)
  rw [Int.toNat_natCast, Int.toNat_natCast] at hP hl
  have hae : a ≤ e ∧ e ≤ 700 := by omega
  clear hab
  refine v_pa_0 a e ?_
  have hst := loopUp (N := 6) (I := fun t => ∀ k : Nat, k = a + t → R 165 5 [some (vr 85), some (vi (a : Int)), some (vi (e : Int)), some (vi ((pkN (gi σ 86) a e t : Nat) : Int)), some (vi (k : Int))] [] (shF n) 0 0 σ (Qi (shF n) P)) (fun t ht ih => ?_) 0 (by omega) a rfl
  · exact hst
  intro k hk
  have hlt := pkN_lt hl t
  have hp : 32 ^ t ≤ 32 ^ 6 := Nat.pow_le_pow_right (by omega) ht
  have hp5 : t < 6 → 32 ^ t ≤ 32 ^ 5 := fun q => Nat.pow_le_pow_right (by omega) (by omega)
  have hsh : t < 6 → oshl ((pkN (gi σ 86) a e t : Nat) : Int) (5 : Int) = ((pkN (gi σ 86) a e t * 2 ^ 5 : Nat) : Int) := fun q => by
    have := hp5 q
    exact oshl_nat (n := 5) (by omega) (by omega)
  have hb : k < e → (97 ≤ gi σ 86 k ∧ gi σ 86 k ≤ 122) := fun q => isL_t.mp (hl k (by omega) q)
  refine v_pa_5 a e (pkN (gi σ 86) a e t) k (by intros; (first | omega | (unfold rg; omega) | (have := hb (by omega); unfold rg; omega))) (by intros; (first | omega | (unfold rg; omega) | (have := hb (by omega); unfold rg; omega))) (by intros; (first | omega | (unfold rg; omega) | (have := hb (by omega); unfold rg; omega))) (by intros; (first | omega | (unfold rg; omega) | (have := hb (by omega); unfold rg; omega))) (by intros; (first | omega | (unfold rg; omega) | (have := hb (by omega); unfold rg; omega))) ?_ ?_ ?_
  · intro h6
    rw [show t = 6 by omega]; exact hP
  · intro h6 hge x4 e4
    refine R_eq (ih (by omega) (k + 1) (by omega)) ?_
    have z := oor_add (a := pkN (gi σ 86) a e t) (i := 5) (y := 0) (by omega) (by have := hp5 (by omega); omega)
    have e4' : x4 = ((pkN (gi σ 86) a e t * 2 ^ 5 + 0 : Nat) : Int) := by rw [e4, hsh (by omega)]; exact z
    rw [e4']
    simp only [pkN]
    have hd : dgN (gi σ 86) a e t = 0 := by unfold dgN; rw [if_neg (by omega)]
    rw [hd]
    rfl
  · intro h6 hlt' x8 e8
    have hbk := hb (by omega)
    refine R_eq (ih (by omega) (k + 1) (by omega)) ?_
    have hd : dgN (gi σ 86) a e t = (gi σ 86 k - 96).toNat := by unfold dgN; rw [if_pos (by omega), hk]
    have z := oor_add (a := pkN (gi σ 86) a e t) (i := 5) (y := dgN (gi σ 86) a e t) (by omega) (by have := hp5 (by omega); omega)
    have e8' : x8 = ((pkN (gi σ 86) a e t * 2 ^ 5 + dgN (gi σ 86) a e t : Nat) : Int) := by
      rw [e8, hsh (by omega), ← z, hd]
      congr 1
      omega
    rw [e8']
    rfl
