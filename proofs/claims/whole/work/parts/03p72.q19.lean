/-! QUERY: airing -/
theorem sumF_sub {f g : Nat → Int} : ∀ k : Nat, sumF f k - sumF g k = sumF (fun q => f q - g q) k := by
  intro k
  induction k with
  | zero => rfl
  | succ k ih => simp only [sumF]; rw [← ih]; omega
theorem airJ_ai {T V : Nat → Nat → Int} {mo bt : Int} {ai ai' : Nat → Bool} (hJ : T 0 0 ≤ 5) (hs : SI T V) (h : ∀ x, x < 5 → ai x = ai' x) : ∀ j : Nat, (j : Int) ≤ T 0 0 → airJ T V mo bt ai j = airJ T V mo bt ai' j := by
  intro j
  induction j with
  | zero => intro _; rfl
  | succ j ih =>
    intro hj
    have i5 := hs.2.1 j (by omega)
    simp only [airJ]
    rw [ih (by omega), h _ (by omega)]
theorem dayV_ai {T V : Nat → Nat → Int} {mo bt df : Int} {fr : Bool} {ai ai' : Nat → Bool} (hb : BkOK T) (hs : SI T V) (h : V 0 0 % 7 = 0 → ∀ x, x < 5 → ai x = ai' x) : dayV T V mo bt df fr ai = dayV T V mo bt df fr ai' := by
  have hC := hb.2.1
  have hJ := hb.1
  unfold dayV
  by_cases q : V 0 0 % 7 = 0
  · simp only [if_pos q]
    rw [airJ_ai hJ.2 (SI_hears hb hs _ (by omega)) (h q) _ (by omega)]
  · simp only [if_neg q]
theorem dk_ext {T V : Nat → Nat → Int} {ai : Nat → Nat → Bool} (hK : 0 ≤ T 0 2 ∧ T 0 2 ≤ 5) (k : Nat) : dk (pD T V ai k) V 5 = dk (pD T V ai k) V (T 0 2).toNat := by
  unfold dk
  exact sumF_ext (by omega) fun q h1 h2 => by rw [pD_8 (by omega)]; omega
def hA (T V : Nat → Nat → Int) (m u mo : Nat) : Int := dk (pD T V (plA (d0 V) (pl1 u (mo : Int))) (d0 V + 7 * (m - 1) + 1)) V 5
/-- the same, but the days end with the one on which the cushion is aired -/
def hB (T V : Nat → Nat → Int) (u mo : Nat) : Int := dk (pD T V (plA (d0 V) (pl1 u (mo : Int))) (d0 V + 7 * mo + 1)) V 5
theorem airJ_no {T V : Nat → Nat → Int} {mo bt : Int} {ai : Nat → Bool} {i : Nat} (hJ : T 0 0 ≤ 5) (hs : SI T V) (h : ∀ x, x < 5 → ai x = false) : ∀ j : Nat, (j : Int) ≤ T 0 0 → airJ T V mo bt ai j 8 i = V 8 i := by
  intro j
  induction j with
  | zero => intro _; rfl
  | succ j ih =>
    intro hj
    have i5 := hs.2.1 j (by omega)
    have e := h (V 5 j).toNat (by omega)
    simp only [airJ]
    rw [if_neg (show ¬ ai (V 5 j).toNat = true by rw [e]; decide)]
    exact ih (by omega)
theorem dayV_no {T V : Nat → Nat → Int} (hb : BkOK T) (hs : SI T V) {mo bt df : Int} {fr : Bool} {ai : Nat → Bool} {i : Nat} (h : ∀ x, x < 5 → ai x = false) : dayV T V mo bt df fr ai 8 i = V 8 i := by
  have hC := hb.2.1
  have hJ := hb.1
  rw [dayV_ne (by omega)]
  have hh : hearsV T V mo df fr (T 0 1).toNat 8 i = V 8 i := hearsV_at (by omega) (by omega) (by omega) (by omega) (by omega) _
  by_cases q : V 0 0 % 7 = 0
  · rw [if_pos q, airJ_no hJ.2 (SI_hears hb hs _ (by omega)) h _ (by omega)]; exact hh
  · rw [if_neg q]; exact hh
theorem pD_no {T V : Nat → Nat → Int} {ai : Nat → Nat → Bool} (hb : BkOK T) (hs : SI T V) {K i : Nat} (h : ∀ k, K ≤ k → ∀ x, x < 5 → ai k x = false) : ∀ r : Nat, pD T V ai (K + r) 8 i = pD T V ai K 8 i := by
  intro r
  induction r with
  | zero => rfl
  | succ r ih =>
    show dayV T (pD T V ai (K + r)) (moT T (pD T V ai (K + r) 0 0)) (T 0 5) (-1) false (ai (K + r)) 8 i = _
    rw [dayV_no hb (SI_pD hb hs _) (h (K + r) (Nat.le_add_right K r)), ih]
/-- once the cushion has been aired, nothing more is heard -/
theorem hA_cut {T V : Nat → Nat → Int} (hb : BkOK T) (hs : SI T V) {m u mo : Nat} (hm : mo < m) : hA T V m u mo = hB T V u mo := by
  unfold hA hB dk
  refine sumF_congr fun q hq => ?_
  have e : d0 V + 7 * (m - 1) + 1 = (d0 V + 7 * mo + 1) + 7 * (m - 1 - mo) := by omega
  rw [e, pD_no hb hs (fun k hk x _ => ?_)]
  unfold plA pl1
  exact decide_eq_false (by split <;> omega)
def Re (s : Mm) : Prop := ∃ (xs : Nat → Int) (N : Nat), Rel xs N s
theorem v_ho_0 {n : Nat}  (u : Nat) (mo : Nat) {σ : Mm} {P : Int → Mm → Prop} (o1 : (0 ≤ (gi σ 40 0) ∧ 0 < (7 : Int))) (o2 : rg ((7 : Int) - ((gi σ 40 0) % (7 : Int)))) (o3 : (0 ≤ ((7 : Int) - ((gi σ 40 0) % (7 : Int))) ∧ 0 < (7 : Int))) (o4 : ∀ x4 : Int, x4 = ((7 : Int) - ((gi σ 40 0) % (7 : Int))) % (7 : Int) → rg ((7 : Int) * (mo : Int))) (o5 : ∀ x4 : Int, x4 = ((7 : Int) - ((gi σ 40 0) % (7 : Int))) % (7 : Int) → rg (x4 + ((7 : Int) * (mo : Int)))) (l1 : ∀ x4 : Int, x4 = ((7 : Int) - ((gi σ 40 0) % (7 : Int))) % (7 : Int) → ∀ x7 : Int, x7 = x4 + ((7 : Int) * (mo : Int)) → ∀ s9 : Mm, Bt σ s9 → ∀ t11 : Mm, t11 = si s9 49 1 (31 : Int) → R 124 26 [some (vr 3), some (vi (u : Int)), some (vi (mo : Int)), some (vi x7), some (vi 0)] [] (shF n) 0 0 t11 (Qi (shF n) P)) : Ci 124 [vr 3, vi (u : Int), vi (mo : Int)] (shF n) σ P :=
  show R 124 0 [some (vr 3), some (vi (u : Int)), some (vi (mo : Int)), none, none] [] (shF n) 0 0 σ (Qi (shF n) P) from wpK_R 16 [26] ((show R 122 0 [some (vr 3)] [] (shF n) 0 0 _ _ from wpK_R 10 [] ((have k1 := (o1); And.intro k1 ((have k2 := (o2); And.intro k2 ((have k3 := (o3); And.intro k3 (And.intro ret0 ⟨rfl, _, rfl, (have k5 := (o4 _ rfl); And.intro k5 ((have k6 := (o5 _ rfl); And.intro k6 ((c_begin   (fun s9 h10 => (l1 _ rfl _ rfl s9 h10 _ rfl)))))))⟩)))))))))
theorem v_ho_L {n : Nat}  (u : Nat) (mo : Nat) (ai : Int) (i : Nat) {σ : Mm} {P : Int → Mm → Prop} (o1 : ai < (i : Int) → (∀ i, i < 5 → 0 ≤ gi σ 57 i ∧ gi σ 57 i < 1024)) (o2 : ai < (i : Int) → ∀ x2 : Int, x2 = sumF (fun q => cnt (bi (gi σ 57 q)) 10) 5 → (∀ i, i < 5 → 0 ≤ gi σ 48 i ∧ gi σ 48 i < 1024)) (o3 : ai < (i : Int) → ∀ x2 : Int, x2 = sumF (fun q => cnt (bi (gi σ 57 q)) 10) 5 → ∀ x3 : Int, x3 = sumF (fun q => cnt (bi (gi σ 48 q)) 10) 5 → rg (x2 - x3)) (o4 : (i : Int) ≤ ai → (i : Int) = ai → ∀ x6 : Int, x6 = oshl (1 : Int) (u : Int) → ∀ t7 : Mm, t7 = si σ 49 1 (oand (gi σ 49 1) (oxor x6 (-1 : Int))) → BkOK (vw t7 5)) (o5 : (i : Int) ≤ ai → (i : Int) = ai → ∀ x6 : Int, x6 = oshl (1 : Int) (u : Int) → ∀ t7 : Mm, t7 = si σ 49 1 (oand (gi σ 49 1) (oxor x6 (-1 : Int))) → SI (vw t7 5) (wv t7 49)) (o6 : (i : Int) ≤ ai → (i : Int) = ai → ∀ x6 : Int, x6 = oshl (1 : Int) (u : Int) → ∀ t7 : Mm, t7 = si σ 49 1 (oand (gi σ 49 1) (oxor x6 (-1 : Int))) → (gi t7 70 2 = -1 ∨ (0 ≤ gi t7 70 2 ∧ gi t7 70 2 ≤ 9))) (o7 : (i : Int) ≤ ai → (i : Int) = ai → ∀ x6 : Int, x6 = oshl (1 : Int) (u : Int) → ∀ t7 : Mm, t7 = si σ 49 1 (oand (gi σ 49 1) (oxor x6 (-1 : Int))) → (0 ≤ gi t7 70 3 ∧ gi t7 70 3 ≤ 9)) (o8 : (i : Int) ≤ ai → (i : Int) = ai → ∀ x6 : Int, x6 = oshl (1 : Int) (u : Int) → ∀ t7 : Mm, t7 = si σ 49 1 (oand (gi σ 49 1) (oxor x6 (-1 : Int))) → gi t7 49 0 < 30000) (o9 : (i : Int) ≤ ai → (i : Int) = ai → ∀ x6 : Int, x6 = oshl (1 : Int) (u : Int) → ∀ t7 : Mm, t7 = si σ 49 1 (oand (gi σ 49 1) (oxor x6 (-1 : Int))) → ∀ s9 : Mm, Wg 49 t7 s9 (dayV (vw t7 5) (wv t7 49) (moD (vw t7 5) (gi t7 70 2) (gi t7 49 0)) (gi t7 70 3) (gi t7 70 4) (decide (gi t7 70 5 ≠ 0)) (fun u => !bi (gi t7 49 1) u)) → rg ((i : Int) + 1)) (o10 : (i : Int) ≤ ai → (i : Int) ≠ ai → ∀ x12 : Int, x12 = oshl (1 : Int) (u : Int) → ∀ t13 : Mm, t13 = si σ 49 1 (oor (gi σ 49 1) x12) → BkOK (vw t13 5)) (o11 : (i : Int) ≤ ai → (i : Int) ≠ ai → ∀ x12 : Int, x12 = oshl (1 : Int) (u : Int) → ∀ t13 : Mm, t13 = si σ 49 1 (oor (gi σ 49 1) x12) → SI (vw t13 5) (wv t13 49)) (o12 : (i : Int) ≤ ai → (i : Int) ≠ ai → ∀ x12 : Int, x12 = oshl (1 : Int) (u : Int) → ∀ t13 : Mm, t13 = si σ 49 1 (oor (gi σ 49 1) x12) → (gi t13 70 2 = -1 ∨ (0 ≤ gi t13 70 2 ∧ gi t13 70 2 ≤ 9))) (o13 : (i : Int) ≤ ai → (i : Int) ≠ ai → ∀ x12 : Int, x12 = oshl (1 : Int) (u : Int) → ∀ t13 : Mm, t13 = si σ 49 1 (oor (gi σ 49 1) x12) → (0 ≤ gi t13 70 3 ∧ gi t13 70 3 ≤ 9)) (o14 : (i : Int) ≤ ai → (i : Int) ≠ ai → ∀ x12 : Int, x12 = oshl (1 : Int) (u : Int) → ∀ t13 : Mm, t13 = si σ 49 1 (oor (gi σ 49 1) x12) → gi t13 49 0 < 30000) (o15 : (i : Int) ≤ ai → (i : Int) ≠ ai → ∀ x12 : Int, x12 = oshl (1 : Int) (u : Int) → ∀ t13 : Mm, t13 = si σ 49 1 (oor (gi σ 49 1) x12) → ∀ s15 : Mm, Wg 49 t13 s15 (dayV (vw t13 5) (wv t13 49) (moD (vw t13 5) (gi t13 70 2) (gi t13 49 0)) (gi t13 70 3) (gi t13 70 4) (decide (gi t13 70 5 ≠ 0)) (fun u => !bi (gi t13 49 1) u)) → rg ((i : Int) + 1)) (l1 : ai < (i : Int) → ∀ x2 : Int, x2 = sumF (fun q => cnt (bi (gi σ 57 q)) 10) 5 → ∀ x3 : Int, x3 = sumF (fun q => cnt (bi (gi σ 48 q)) 10) 5 → P (x2 - x3) σ) (l2 : (i : Int) ≤ ai → (i : Int) = ai → ∀ x6 : Int, x6 = oshl (1 : Int) (u : Int) → ∀ t7 : Mm, t7 = si σ 49 1 (oand (gi σ 49 1) (oxor x6 (-1 : Int))) → ∀ s9 : Mm, Wg 49 t7 s9 (dayV (vw t7 5) (wv t7 49) (moD (vw t7 5) (gi t7 70 2) (gi t7 49 0)) (gi t7 70 3) (gi t7 70 4) (decide (gi t7 70 5 ≠ 0)) (fun u => !bi (gi t7 49 1) u)) → R 124 26 [some (vr 3), some (vi (u : Int)), some (vi (mo : Int)), some (vi ai), some (vi ((i : Int) + 1))] [] (shF n) 0 0 s9 (Qi (shF n) P)) (l3 : (i : Int) ≤ ai → (i : Int) ≠ ai → ∀ x12 : Int, x12 = oshl (1 : Int) (u : Int) → ∀ t13 : Mm, t13 = si σ 49 1 (oor (gi σ 49 1) x12) → ∀ s15 : Mm, Wg 49 t13 s15 (dayV (vw t13 5) (wv t13 49) (moD (vw t13 5) (gi t13 70 2) (gi t13 49 0)) (gi t13 70 3) (gi t13 70 4) (decide (gi t13 70 5 ≠ 0)) (fun u => !bi (gi t13 49 1) u)) → R 124 26 [some (vr 3), some (vi (u : Int)), some (vi (mo : Int)), some (vi ai), some (vi ((i : Int) + 1))] [] (shF n) 0 0 s15 (Qi (shF n) P)) : R 124 26 [some (vr 3), some (vi (u : Int)), some (vi (mo : Int)), some (vi ai), some (vi (i : Int))] [] (shF n) 0 0 σ (Qi (shF n) P) :=
  wpK_R 20 [26] (And.intro (fun q1 => (c_kia_49  (o1 q1) ((c_kia_40  (o2 q1 _ rfl) ((have k4 := (o3 q1 _ rfl _ rfl); And.intro k4 (And.intro ret0 ⟨rfl, _, rfl, (l1 q1 _ rfl _ rfl)⟩))))))) (fun q1 => And.intro (fun q5 => (show R 85 0 [some (vr 49), _, some (vi 0), none] [] (shF n) 0 0 _ _ from wpK_R 15 [] (And.intro (fun _ => And.intro ret0 ⟨rfl, rfl, (c_pd_49  (o4 (Int.not_lt.mp q1) q5 _ rfl _ rfl) (o5 (Int.not_lt.mp q1) q5 _ rfl _ rfl) (o6 (Int.not_lt.mp q1) q5 _ rfl _ rfl) (o7 (Int.not_lt.mp q1) q5 _ rfl _ rfl) (o8 (Int.not_lt.mp q1) q5 _ rfl _ rfl) (fun s9 h10 => (have k11 := (o9 (Int.not_lt.mp q1) q5 _ rfl _ rfl s9 h10); And.intro k11 ((l2 (Int.not_lt.mp q1) q5 _ rfl _ rfl s9 h10)))))⟩) (fun q => absurd (show (0 : Int) = 0 by decide) q)))) (fun q5 => (show R 85 0 [some (vr 49), _, some (vi 1), none] [] (shF n) 0 0 _ _ from wpK_R 14 [] (And.intro (fun q => absurd q (show ¬ ((1 : Int) = 0) by decide)) (fun _ => And.intro ret0 ⟨rfl, rfl, (c_pd_49  (o10 (Int.not_lt.mp q1) q5 _ rfl _ rfl) (o11 (Int.not_lt.mp q1) q5 _ rfl _ rfl) (o12 (Int.not_lt.mp q1) q5 _ rfl _ rfl) (o13 (Int.not_lt.mp q1) q5 _ rfl _ rfl) (o14 (Int.not_lt.mp q1) q5 _ rfl _ rfl) (fun s15 h16 => (have k17 := (o15 (Int.not_lt.mp q1) q5 _ rfl _ rfl s15 h16); And.intro k17 ((l3 (Int.not_lt.mp q1) q5 _ rfl _ rfl s15 h16)))))⟩))))))
theorem c_ho {n u mo : Nat} {σ : Mm} {P : Int → Mm → Prop} (hre : Re σ) (hu : u < 5) (hmo : mo < 4) (hP : ∀ s, ScX σ s → P (hB (vw σ 5) (wv σ 40) u mo) s) : Ci 124 [vr 3, vi (u : Int), vi (mo : Int)] (shF n) σ P := by
  obtain ⟨xs, N, h⟩ := hre
  have hb := h.2.2.2.2.1
  have hw := h.2.2.2.2.2.2.1
  have hw0 := Rel_w0 h
  have hday : wv σ 40 0 0 = gi σ 40 0 := rfl
  have hd0 : d0 (wv σ 40) = ((7 - gi σ 40 0 % 7) % 7).toNat := rfl
  have hdi := d0_in (wv σ 40)
  refine v_ho_0 u mo (by intros; subst_vars; first | omega | (unfold rg; omega)) (by intros; subst_vars; first | omega | (unfold rg; omega)) (by intros; subst_vars; first | omega | (unfold rg; omega)) (by intros; subst_vars; first | omega | (unfold rg; omega)) (by intros; subst_vars; first | omega | (unfold rg; omega)) ?_
  intro x4 e4 x7 e7 s14 b t16 e16
  obtain ⟨ag, hag⟩ : ∃ ag, ag = plA (d0 (wv σ 40)) (pl1 u (mo : Int)) := ⟨_, rfl⟩
  have ok := Bt_ok h b
  rw [b.1.T] at ok
  have hx7 : x7 = ((d0 (wv σ 40) + 7 * mo : Nat) : Int) := by omega
  have hV0 : wv s14 49 0 0 = gi σ 40 0 := b.2.1 0 0 (by unfold inW; omega)
  refine loopUp (N := d0 (wv σ 40) + 7 * mo + 1) (I := fun i => ∀ τ : Mm, ScX s14 τ → (∀ j, gi τ 70 j = gi s14 70 j) → eqK (wv τ 49) (pD (vw σ 5) (wv s14 49) ag i) → (∀ x, x < 5 → x ≠ u → bi (gi τ 49 1) x = true) → R 124 26 [some (vr 3), some (vi (u : Int)), some (vi (mo : Int)), some (vi x7), some (vi (i : Int))] [] (shF n) 0 0 τ (Qi (shF n) P)) (fun i hi ih => ?_) 0 (by omega) t16 ?_ ?_ ?_ ?_
  · intro τ sc f70 ek hk
    have scs := b.1.tr sc
    have hT := scs.T
    have h00 : gi τ 49 0 = gi σ 40 0 + (i : Int) := by
      have := ek 0 0 (by omega)
      rw [pD_day, hV0] at this
      exact this
    have hTv : ∀ v, vw (si τ 49 1 v) 5 = vw σ 5 := fun v => by rw [← hT]; exact vw_same fun a b p q => by rw [gi_ne (by omega)]
    have hek : ∀ v, eqK (wv (si τ 49 1 v) 49) (pD (vw σ 5) (wv s14 49) ag i) := fun v f j p => by
      rw [← ek f j p]
      simp only [wv]
      split
      · rw [gi_si, if_neg (by omega)]
      · rfl
    have hSI : ∀ A B : Nat → Nat → Int, eqK A B → SI (vw σ 5) B → SI (vw σ 5) A := fun A B e s => by
      obtain ⟨s1, s2, s3, s4, s5⟩ := s
      have e' : ∀ g x, g ≠ 0 → A g x = B g x := fun g x q => e g x (fun z => q z.1)
      refine ⟨fun c hc => ?_, fun c hc => ?_, fun c hc => ?_, fun u p hu hp => ?_, ?_⟩
      · rw [e' 1 _ (by omega)]; exact s1 c hc
      · rw [e' 5 _ (by omega)]; exact s2 c hc
      · rw [e' 6 _ (by omega)]; exact s3 c hc
      · rw [e' 6 _ (by omega)] at hp; rw [e' 7 _ (by omega)]; exact s4 u p hu hp
      · rw [e 0 0 (by omega)]; exact s5
    have hSp := SI_pD (ai := ag) hb ok.2.1 i
    have hobl : ∀ v, BkOK (vw (si τ 49 1 v) 5) ∧ SI (vw (si τ 49 1 v) 5) (wv (si τ 49 1 v) 49) ∧ (gi (si τ 49 1 v) 70 2 = -1 ∨ (0 ≤ gi (si τ 49 1 v) 70 2 ∧ gi (si τ 49 1 v) 70 2 ≤ 9)) ∧ (0 ≤ gi (si τ 49 1 v) 70 3 ∧ gi (si τ 49 1 v) 70 3 ≤ 9) ∧ gi (si τ 49 1 v) 49 0 < 30000 := fun v => by
      rw [hTv]
      refine ⟨hb, hSI _ _ (hek v) hSp, ?_, ?_, ?_⟩
      · rw [gi_ne (by omega), f70]; exact ok.2.2.1
      · rw [gi_ne (by omega), f70]; exact ok.2.2.2.1
      · rw [gi_si, if_neg (by omega), h00]; omega
    have h57 : ∀ q, q < 5 → gi τ 57 q = pD (vw σ 5) (wv σ 40) ag i 8 q := fun q hq => by
      rw [← eqW_pD hb ok.2.1 b.2.1 i 8 q (by unfold inW; omega)]
      exact ek 8 q (by omega)
    have h48 : ∀ q, q < 5 → gi τ 48 q = wv σ 40 8 q := fun q hq => scs 48 q (Or.inl (by unfold kpX; omega))
    have hB8 : B8 (wv σ 40) := fun q hq => ⟨(hw.2.2.2.2.2.2.2.2.1 q hq).1, (hw.2.2.2.2.2.2.2.2.1 q hq).2.1⟩
    have hp8 := B8_pD (ai := ag) hb hw.1 hB8 i
    have hstep : ∀ (v : Int) (s9 : Mm), (∀ x, x < 5 → x ≠ u → bi v x = true) → ((gi σ 40 0 + (i : Int)) % 7 = 0 → (!bi v u) = ag i u) → (i : Int) ≤ x7 → Wg 49 (si τ 49 1 v) s9 (dayV (vw (si τ 49 1 v) 5) (wv (si τ 49 1 v) 49) (moD (vw (si τ 49 1 v) 5) (gi (si τ 49 1 v) 70 2) (gi (si τ 49 1 v) 49 0)) (gi (si τ 49 1 v) 70 3) (gi (si τ 49 1 v) 70 4) (decide (gi (si τ 49 1 v) 70 5 ≠ 0)) (fun u => !bi (gi (si τ 49 1 v) 49 1) u)) → R 124 26 [some (vr 3), some (vi (u : Int)), some (vi (mo : Int)), some (vi x7), some (vi ((i : Int) + 1))] [] (shF n) 0 0 s9 (Qi (shF n) P) := fun v s9 hv1 hv2 hle w => by
      have a1 : gi (si τ 49 1 v) 49 1 = v := by rw [gi_si, if_pos ⟨rfl, rfl⟩]
      have a2 : gi (si τ 49 1 v) 70 2 = -1 := by rw [gi_ne (by omega), f70]; exact b.2.2.1
      have a3 : gi (si τ 49 1 v) 70 3 = vw σ 5 0 5 := by rw [gi_ne (by omega), f70]; exact b.2.2.2.1
      have a4 : gi (si τ 49 1 v) 70 4 = -1 := by rw [gi_ne (by omega), f70]; exact b.2.2.2.2.1
      have a5 : gi (si τ 49 1 v) 70 5 = 0 := by rw [gi_ne (by omega), f70]; exact b.2.2.2.2.2
      have a0 : gi (si τ 49 1 v) 49 0 = pD (vw σ 5) (wv s14 49) ag i 0 0 := by rw [gi_si, if_neg (by omega), h00, pD_day, hV0]
      have hW := w.2.2
      rw [hTv, a1, a2, a3, a4, a0, decide_eq_false (fun q => q a5)] at hW
      unfold moD at hW
      rw [if_pos rfl] at hW
      refine R_eq (ih (by omega) s9 (sc.tr ?_) (fun j => ?_) (fun f j p => ?_) (fun x hx hne => ?_)) rfl
      · exact ScX.tr (b := si τ 49 1 v) ((ScX.rf τ).si (by unfold kpX; omega)) (ScX.wg w)
      · rw [w.1 70 j (by omega) (by omega), gi_ne (by omega)]; exact f70 j
      · rw [hW, eqK_day (hek v) _ _ _ _ _ f j p]
        simp only [pD]
        rw [dayV_ai hb hSp (fun q x hx => ?_)]
        rw [pD_day, hV0] at q
        by_cases z : x = u
        · rw [z]; exact hv2 q
        · show (!bi v x) = ag i x
          rw [hv1 x hx z, hag]
          unfold plA pl1
          rw [if_neg z]
          exact (decide_eq_false (by omega)).symm
      · have : gi s9 49 1 = v := by
          have := congrFun (congrFun hW 0) 1
          rw [dayV_at (by omega) (by omega) (by omega) (by omega) (by omega) (by omega) (by omega)] at this
          have h2 : wv (si τ 49 1 v) 49 0 1 = v := a1
          rw [h2] at this
          exact this
        rw [this]; exact hv1 x hx hne
    refine v_ho_L u mo x7 i (by intros; subst_vars; first | omega | exact (hobl _).1 | exact (hobl _).2.1 | exact (hobl _).2.2.1 | exact (hobl _).2.2.2.1 | exact (hobl _).2.2.2.2 | (rw [h57 _ (by omega)]; exact hp8 _ (by omega)) | (rw [h48 _ (by omega)]; exact hB8 _ (by omega)) | (have q1 := sumF_bd (f := fun q => cnt (bi (gi τ 57 q)) 10) (B := 10) (k := 5) (fun q _ => cnt_in _ _); have q2 := sumF_bd (f := fun q => cnt (bi (gi τ 48 q)) 10) (B := 10) (k := 5) (fun q _ => cnt_in _ _); unfold rg; omega) | (unfold rg; omega)) (by intros; subst_vars; first | omega | exact (hobl _).1 | exact (hobl _).2.1 | exact (hobl _).2.2.1 | exact (hobl _).2.2.2.1 | exact (hobl _).2.2.2.2 | (rw [h57 _ (by omega)]; exact hp8 _ (by omega)) | (rw [h48 _ (by omega)]; exact hB8 _ (by omega)) | (have q1 := sumF_bd (f := fun q => cnt (bi (gi τ 57 q)) 10) (B := 10) (k := 5) (fun q _ => cnt_in _ _); have q2 := sumF_bd (f := fun q => cnt (bi (gi τ 48 q)) 10) (B := 10) (k := 5) (fun q _ => cnt_in _ _); unfold rg; omega) | (unfold rg; omega)) (by intros; subst_vars; first | omega | exact (hobl _).1 | exact (hobl _).2.1 | exact (hobl _).2.2.1 | exact (hobl _).2.2.2.1 | exact (hobl _).2.2.2.2 | (rw [h57 _ (by omega)]; exact hp8 _ (by omega)) | (rw [h48 _ (by omega)]; exact hB8 _ (by omega)) | (have q1 := sumF_bd (f := fun q => cnt (bi (gi τ 57 q)) 10) (B := 10) (k := 5) (fun q _ => cnt_in _ _); have q2 := sumF_bd (f := fun q => cnt (bi (gi τ 48 q)) 10) (B := 10) (k := 5) (fun q _ => cnt_in _ _); unfold rg; omega) | (unfold rg; omega)) (by intros; subst_vars; first | omega | exact (hobl _).1 | exact (hobl _).2.1 | exact (hobl _).2.2.1 | exact (hobl _).2.2.2.1 | exact (hobl _).2.2.2.2 | (rw [h57 _ (by omega)]; exact hp8 _ (by omega)) | (rw [h48 _ (by omega)]; exact hB8 _ (by omega)) | (have q1 := sumF_bd (f := fun q => cnt (bi (gi τ 57 q)) 10) (B := 10) (k := 5) (fun q _ => cnt_in _ _); have q2 := sumF_bd (f := fun q => cnt (bi (gi τ 48 q)) 10) (B := 10) (k := 5) (fun q _ => cnt_in _ _); unfold rg; omega) | (unfold rg; omega)) (by intros; subst_vars; first | omega | exact (hobl _).1 | exact (hobl _).2.1 | exact (hobl _).2.2.1 | exact (hobl _).2.2.2.1 | exact (hobl _).2.2.2.2 | (rw [h57 _ (by omega)]; exact hp8 _ (by omega)) | (rw [h48 _ (by omega)]; exact hB8 _ (by omega)) | (have q1 := sumF_bd (f := fun q => cnt (bi (gi τ 57 q)) 10) (B := 10) (k := 5) (fun q _ => cnt_in _ _); have q2 := sumF_bd (f := fun q => cnt (bi (gi τ 48 q)) 10) (B := 10) (k := 5) (fun q _ => cnt_in _ _); unfold rg; omega) | (unfold rg; omega)) (by intros; subst_vars; first | omega | exact (hobl _).1 | exact (hobl _).2.1 | exact (hobl _).2.2.1 | exact (hobl _).2.2.2.1 | exact (hobl _).2.2.2.2 | (rw [h57 _ (by omega)]; exact hp8 _ (by omega)) | (rw [h48 _ (by omega)]; exact hB8 _ (by omega)) | (have q1 := sumF_bd (f := fun q => cnt (bi (gi τ 57 q)) 10) (B := 10) (k := 5) (fun q _ => cnt_in _ _); have q2 := sumF_bd (f := fun q => cnt (bi (gi τ 48 q)) 10) (B := 10) (k := 5) (fun q _ => cnt_in _ _); unfold rg; omega) | (unfold rg; omega)) (by intros; subst_vars; first | omega | exact (hobl _).1 | exact (hobl _).2.1 | exact (hobl _).2.2.1 | exact (hobl _).2.2.2.1 | exact (hobl _).2.2.2.2 | (rw [h57 _ (by omega)]; exact hp8 _ (by omega)) | (rw [h48 _ (by omega)]; exact hB8 _ (by omega)) | (have q1 := sumF_bd (f := fun q => cnt (bi (gi τ 57 q)) 10) (B := 10) (k := 5) (fun q _ => cnt_in _ _); have q2 := sumF_bd (f := fun q => cnt (bi (gi τ 48 q)) 10) (B := 10) (k := 5) (fun q _ => cnt_in _ _); unfold rg; omega) | (unfold rg; omega)) (by intros; subst_vars; first | omega | exact (hobl _).1 | exact (hobl _).2.1 | exact (hobl _).2.2.1 | exact (hobl _).2.2.2.1 | exact (hobl _).2.2.2.2 | (rw [h57 _ (by omega)]; exact hp8 _ (by omega)) | (rw [h48 _ (by omega)]; exact hB8 _ (by omega)) | (have q1 := sumF_bd (f := fun q => cnt (bi (gi τ 57 q)) 10) (B := 10) (k := 5) (fun q _ => cnt_in _ _); have q2 := sumF_bd (f := fun q => cnt (bi (gi τ 48 q)) 10) (B := 10) (k := 5) (fun q _ => cnt_in _ _); unfold rg; omega) | (unfold rg; omega)) (by intros; subst_vars; first | omega | exact (hobl _).1 | exact (hobl _).2.1 | exact (hobl _).2.2.1 | exact (hobl _).2.2.2.1 | exact (hobl _).2.2.2.2 | (rw [h57 _ (by omega)]; exact hp8 _ (by omega)) | (rw [h48 _ (by omega)]; exact hB8 _ (by omega)) | (have q1 := sumF_bd (f := fun q => cnt (bi (gi τ 57 q)) 10) (B := 10) (k := 5) (fun q _ => cnt_in _ _); have q2 := sumF_bd (f := fun q => cnt (bi (gi τ 48 q)) 10) (B := 10) (k := 5) (fun q _ => cnt_in _ _); unfold rg; omega) | (unfold rg; omega)) (by intros; subst_vars; first | omega | exact (hobl _).1 | exact (hobl _).2.1 | exact (hobl _).2.2.1 | exact (hobl _).2.2.2.1 | exact (hobl _).2.2.2.2 | (rw [h57 _ (by omega)]; exact hp8 _ (by omega)) | (rw [h48 _ (by omega)]; exact hB8 _ (by omega)) | (have q1 := sumF_bd (f := fun q => cnt (bi (gi τ 57 q)) 10) (B := 10) (k := 5) (fun q _ => cnt_in _ _); have q2 := sumF_bd (f := fun q => cnt (bi (gi τ 48 q)) 10) (B := 10) (k := 5) (fun q _ => cnt_in _ _); unfold rg; omega) | (unfold rg; omega)) (by intros; subst_vars; first | omega | exact (hobl _).1 | exact (hobl _).2.1 | exact (hobl _).2.2.1 | exact (hobl _).2.2.2.1 | exact (hobl _).2.2.2.2 | (rw [h57 _ (by omega)]; exact hp8 _ (by omega)) | (rw [h48 _ (by omega)]; exact hB8 _ (by omega)) | (have q1 := sumF_bd (f := fun q => cnt (bi (gi τ 57 q)) 10) (B := 10) (k := 5) (fun q _ => cnt_in _ _); have q2 := sumF_bd (f := fun q => cnt (bi (gi τ 48 q)) 10) (B := 10) (k := 5) (fun q _ => cnt_in _ _); unfold rg; omega) | (unfold rg; omega)) (by intros; subst_vars; first | omega | exact (hobl _).1 | exact (hobl _).2.1 | exact (hobl _).2.2.1 | exact (hobl _).2.2.2.1 | exact (hobl _).2.2.2.2 | (rw [h57 _ (by omega)]; exact hp8 _ (by omega)) | (rw [h48 _ (by omega)]; exact hB8 _ (by omega)) | (have q1 := sumF_bd (f := fun q => cnt (bi (gi τ 57 q)) 10) (B := 10) (k := 5) (fun q _ => cnt_in _ _); have q2 := sumF_bd (f := fun q => cnt (bi (gi τ 48 q)) 10) (B := 10) (k := 5) (fun q _ => cnt_in _ _); unfold rg; omega) | (unfold rg; omega)) (by intros; subst_vars; first | omega | exact (hobl _).1 | exact (hobl _).2.1 | exact (hobl _).2.2.1 | exact (hobl _).2.2.2.1 | exact (hobl _).2.2.2.2 | (rw [h57 _ (by omega)]; exact hp8 _ (by omega)) | (rw [h48 _ (by omega)]; exact hB8 _ (by omega)) | (have q1 := sumF_bd (f := fun q => cnt (bi (gi τ 57 q)) 10) (B := 10) (k := 5) (fun q _ => cnt_in _ _); have q2 := sumF_bd (f := fun q => cnt (bi (gi τ 48 q)) 10) (B := 10) (k := 5) (fun q _ => cnt_in _ _); unfold rg; omega) | (unfold rg; omega)) (by intros; subst_vars; first | omega | exact (hobl _).1 | exact (hobl _).2.1 | exact (hobl _).2.2.1 | exact (hobl _).2.2.2.1 | exact (hobl _).2.2.2.2 | (rw [h57 _ (by omega)]; exact hp8 _ (by omega)) | (rw [h48 _ (by omega)]; exact hB8 _ (by omega)) | (have q1 := sumF_bd (f := fun q => cnt (bi (gi τ 57 q)) 10) (B := 10) (k := 5) (fun q _ => cnt_in _ _); have q2 := sumF_bd (f := fun q => cnt (bi (gi τ 48 q)) 10) (B := 10) (k := 5) (fun q _ => cnt_in _ _); unfold rg; omega) | (unfold rg; omega)) (by intros; subst_vars; first | omega | exact (hobl _).1 | exact (hobl _).2.1 | exact (hobl _).2.2.1 | exact (hobl _).2.2.2.1 | exact (hobl _).2.2.2.2 | (rw [h57 _ (by omega)]; exact hp8 _ (by omega)) | (rw [h48 _ (by omega)]; exact hB8 _ (by omega)) | (have q1 := sumF_bd (f := fun q => cnt (bi (gi τ 57 q)) 10) (B := 10) (k := 5) (fun q _ => cnt_in _ _); have q2 := sumF_bd (f := fun q => cnt (bi (gi τ 48 q)) 10) (B := 10) (k := 5) (fun q _ => cnt_in _ _); unfold rg; omega) | (unfold rg; omega)) ?_ ?_ ?_
    · intro hlt x2 e2 x3 e3
      have hi' : i = d0 (wv σ 40) + 7 * mo + 1 := by omega
      have : x2 - x3 = hB (vw σ 5) (wv σ 40) u mo := by
        rw [e2, e3, sumF_sub]
        unfold hB dk
        rw [← hag, ← hi']
        exact sumF_congr fun q hq => by show cnt (bi (gi τ 57 q)) 10 - cnt (bi (gi τ 48 q)) 10 = _; rw [h57 q hq, h48 q hq]
      rw [this]
      exact hP τ scs
    · intro hle heq x6 e6 t7 e7' s9 w
      rw [e7'] at w
      refine hstep _ s9 (fun x hx hne => ?_) (fun q => ?_) hle w
      · rw [bi_and, hk x hx hne, bi_not (by omega), e6, shl1 (by omega) (by omega), decide_eq_false hne]; rfl
      · rw [bi_and, bi_not (by omega), e6, shl1 (by omega) (by omega), decide_eq_true rfl, hag]
        unfold plA pl1
        rw [if_pos rfl, decide_eq_true (by omega)]
        simp
    · intro hle hne x6 e6 t7 e7' s9 w
      rw [e7'] at w
      refine hstep _ s9 (fun x hx hnx => ?_) (fun q => ?_) hle w
      · rw [bi_or, hk x hx hnx]; rfl
      · rw [bi_or, e6, shl1 (by omega) (by omega), decide_eq_true rfl, hag]
        unfold plA pl1
        rw [if_pos rfl, decide_eq_false (by omega)]
        simp
  · rw [e16]; exact (ScX.rf s14).si (by unfold kpX; omega)
  · intro j; rw [e16, gi_ne (by omega)]
  · intro f j p
    show _ = wv s14 49 f j
    rw [e16]
    simp only [wv]
    split
    · rw [gi_si, if_neg (by omega)]
    · rfl
  · intro x hx hne
    rw [e16, gi_si, if_pos ⟨rfl, rfl⟩]
    have : ∀ x, x < 5 → bi 31 x = true := by decide +kernel
    exact this x hx
