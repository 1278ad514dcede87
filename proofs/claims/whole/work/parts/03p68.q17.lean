/-! QUERY: chance -/
/-- the reference's scratch alone has changed -/
def kF (s τ : Mm) : Prop := ∀ a i, (a < 85 ∨ kpM a i) → gi τ a i = gi s a i
theorem kF.rf (s : Mm) : kF s s := fun _ _ _ => rfl
theorem kF.tr {a b c : Mm} (h : kF a b) (h' : kF b c) : kF a c := fun x y p => (h' x y p).trans (h x y p)
theorem kF.rel {xs : Nat → Int} {N : Nat} {s τ : Mm} (k : kF s τ) (h : Rel xs N s) : Rel xs N τ := Rel_M h k
theorem kF.T {s τ : Mm} (k : kF s τ) : vw τ 5 = vw s 5 := vw_same fun a b p q => k a b (Or.inl (by omega))
theorem kF.V {s τ : Mm} (k : kF s τ) : wv τ 40 = wv s 40 := wv_eq fun f b hf => k _ _ (Or.inl (by omega))
theorem kF.rg {s τ : Mm} (k : RG 1 s τ) : kF s τ := fun a i p => by
  rcases p with p | p
  · exact k.1 a i (by unfold hf; omega) (by omega)
  · exact k.1 a i (kpM_no p).1 (kpM_no p).2
theorem kpM_sc {a i : Nat} (p : kpM a i) : ¬ (a = 85 ∧ (i = 2 ∨ i = 51 ∨ (64 ≤ i ∧ i ≤ 72))) := by
  rintro ⟨rfl, q⟩
  simp [kpM, hT, hf] at p
  omega
theorem kF.lt {s τ : Mm} (k : Lt s τ) : kF s τ := fun a i p => by
  rcases p with p | p
  · exact k.1 a i (by unfold hf; omega) (by omega)
  · exact k.1 a i (kpM_no p).1 (fun q => kpM_sc p ⟨q.1, by omega⟩)
theorem kF.pl {s τ : Mm} (k : Pl s τ) : kF s τ := fun a i p => by
  rcases p with p | p
  · exact k.2.1 a i (by omega)
  · exact k.2.1 a i (fun q => kpM_sc p ⟨q.1, by omega⟩)
theorem kF.si {s τ : Mm} (k : kF s τ) {i : Nat} {v : Int} (hi : i = 2 ∨ i = 51 ∨ (64 ≤ i ∧ i ≤ 72)) : kF s (si τ 85 i v) := fun a y p => by
  rw [gi_si, if_neg]
  · exact k a y p
  · rintro ⟨rfl, rfl⟩
    rcases p with p | p
    · omega
    · exact kpM_sc p ⟨rfl, hi⟩
theorem kF.eq {s τ τ' : Mm} (k : kF s τ) (h : ∀ a i, gi τ' a i = gi τ a i) : kF s τ' := fun a y p => (h a y).trans (k a y p)
theorem si_self {τ : Mm} {a i : Nat} {v : Int} (h : gi τ a i = v) : si τ a i v = τ := by
  refine Prod.ext (funext fun x => funext fun y => ?_) rfl
  show (if x = a ∧ y = i then v else τ.1 x y) = τ.1 x y
  split
  · rename_i q; rw [q.1, q.2]; exact h.symm
  · rfl
def nx (x : Int) : Int := oland (x * 1103515245 + 12345) 2147483647
theorem nx_in (x : Int) : 0 ≤ nx x ∧ nx x ≤ 2147483647 := by
  unfold nx oland
  have h1 : (Int64.ofInt (x * 1103515245 + 12345) &&& Int64.ofInt 2147483647).toBitVec.toNat ≤ 2147483647 := by
    rw [Int64.toBitVec_and, BitVec.toNat_and]
    exact Nat.le_trans Nat.and_le_right (by decide)
  have h2 : (Int64.ofInt (x * 1103515245 + 12345) &&& Int64.ofInt 2147483647).toInt = ((Int64.ofInt (x * 1103515245 + 12345) &&& Int64.ofInt 2147483647).toBitVec.toNat : Int) := by
    show BitVec.toInt _ = _
    rw [BitVec.toInt_eq_toNat_cond, if_pos (by omega)]
  rw [h2]
  omega
def rn (x : Int) : Nat → Int
  | 0 => x
  | k + 1 => nx (rn x k)
theorem rn_in {x : Int} (h : 0 ≤ x ∧ x ≤ 2147483647) : ∀ k, 0 ≤ rn x k ∧ rn x k ≤ 2147483647
  | 0 => h
  | k + 1 => nx_in _
def dp (x : Int) (q : Nat) : Int := Int.tdiv (rn x (q + 1)) 65536 % 10
theorem dp_in (x : Int) (q : Nat) : 0 ≤ dp x q ∧ dp x q ≤ 9 := by unfold dp; omega
theorem td_in {y : Int} (h : 0 ≤ y ∧ y ≤ 2147483647) : 0 ≤ Int.tdiv y 65536 ∧ Int.tdiv y 65536 ≤ 32767 := by
  rw [Int.tdiv_eq_ediv_of_nonneg h.1]
  omega
/-- days with a damp of their own -/
def chK (T V : Nat → Nat → Int) (g : Nat → Int) : Nat → (Nat → Nat → Int)
  | 0 => V
  | k + 1 => dayV T (chK T V g k) (g k) (T 0 5) (-1) false (fun u => !bi (V 0 1) u)
theorem chK_day {T V : Nat → Nat → Int} {g : Nat → Int} : ∀ k : Nat, chK T V g k 0 0 = V 0 0 + (k : Int) := by
  intro k
  induction k with
  | zero => show V 0 0 = V 0 0 + ((0 : Nat) : Int); omega
  | succ k ih => simp only [chK, dayV]; rw [if_pos ⟨trivial, trivial⟩, ih]; omega
theorem chK_kept {T V : Nat → Nat → Int} {g : Nat → Int} : ∀ k : Nat, chK T V g k 0 1 = V 0 1 := by
  intro k
  induction k with
  | zero => rfl
  | succ k ih => simp only [chK]; rw [dayV_at (by omega) (by omega) (by omega) (by omega) (by omega) (by omega) (by omega), ih]
theorem SI_ch {T V : Nat → Nat → Int} {g : Nat → Int} (hb : BkOK T) (h : SI T V) : ∀ k : Nat, SI T (chK T V g k) := by
  intro k
  induction k with
  | zero => exact h
  | succ k ih => exact SI_day hb ih
theorem eqW_ch {T V V' : Nat → Nat → Int} {g : Nat → Int} (hb : BkOK T) (hs : SI T V) (h : eqW V V') : ∀ k : Nat, eqW (chK T V g k) (chK T V' g k) := by
  intro k
  induction k with
  | zero => exact h
  | succ k ih =>
    simp only [chK]
    rw [h 0 1 (by unfold inW; omega)]
    exact eqW_day hb (SI_ch hb hs k) ih _ _ _ _ _
def tmv (T V : Nat → Nat → Int) (m : Nat) (ou x : Int) (i : Nat) : Int := if ou ≤ cnt (fun q => decide (chK T V (fun k => dp x (i * m + k)) m 4 q = 2)) 10 - cnt (fun q => decide (V 4 q = 2)) 10 then 1 else 0
def tmN (T V : Nat → Nat → Int) (m : Nat) (ou x : Int) : Nat → Int
  | 0 => 0
  | i + 1 => tmN T V m ou x i + tmv T V m ou x i
theorem tmN_in {T V : Nat → Nat → Int} {m : Nat} {ou x : Int} : ∀ i : Nat, 0 ≤ tmN T V m ou x i ∧ tmN T V m ou x i ≤ i := by
  intro i
  induction i with
  | zero => exact ⟨Int.le_refl _, Int.le_refl _⟩
  | succ i ih => simp only [tmN, tmv]; split <;> omega
/-- the reference's trial after k days, damps by chance -/
def cR (T V : Nat → Nat → Int) (x : Int) (q : Nat) (t τ : Mm) (k : Nat) : Prop := (∀ a i, ¬ hf 1 a i → ¬ (a = 85 ∧ (i = 51 ∨ i = 64 ∨ i = 67 ∨ i = 72)) → gi τ a i = gi t a i) ∧ gl τ 85 81 = rn x (q + k) ∧ RW T (chK T V (fun k => dp x (q + k)) k) τ 1 ∧ WI T (chK T V (fun k => dp x (q + k)) k) ∧ UH T (chK T V (fun k => dp x (q + k)) k) ∧ (0 ≤ gi τ 85 72 ∧ gi τ 85 72 ≤ (k : Int))
theorem cR.kf {T V : Nat → Nat → Int} {x : Int} {q : Nat} {t τ : Mm} {k : Nat} (h : cR T V x q t τ k) : kF t τ := fun a i p => by
  rcases p with p | p
  · exact h.1 a i (by unfold hf; omega) (by omega)
  · exact h.1 a i (kpM_no p).1 (fun z => kpM_sc p ⟨z.1, by omega⟩)
theorem cR.ok {T V : Nat → Nat → Int} {x : Int} {q : Nat} {t τ : Mm} {k : Nat} {m : Int} (h : cR T V x q t τ k) (g : GP T V t m) (hk : k ≤ 300) {y z : Int} (hy : 0 ≤ y ∧ y ≤ 9) : GQ T (chK T V (fun k => dp x (q + k)) k) (si (sl τ 85 81 z) 85 67 y) := by
  obtain ⟨g1, g2, g3, g4, g5, g6, g7, g8, g9, g10⟩ := g
  obtain ⟨r1, r2, r3, r4, r5, r6⟩ := h
  have ho : ∀ a i, ¬ (a = 85 ∧ i = 67) → gi (si (sl τ 85 81 z) 85 67 y) a i = gi τ a i := fun a i p => by rw [gi_si, if_neg p]; rfl
  refine ⟨g2, RB_eq (fun y p q => ?_) (fun x y p q => ?_) g3, RW_out (fun a i p => ho a i (by omega)) r3, r4, r5, ⟨?_, ?_⟩, ?_, ?_⟩
  · rw [ho 85 y (by omega)]; exact r1 85 y (by unfold hf; omega) (by omega)
  · rw [ho x y (by omega)]; exact r1 x y (by unfold hf; omega) (by omega)
  · rw [ho 85 68 (by omega), r1 85 68 (by unfold hf; omega) (by omega)]; exact g7.1
  · rw [gi_si, if_pos ⟨rfl, rfl⟩]; omega
  · rw [chK_day]; omega
  · rw [ho 85 72 (by omega)]; omega
theorem cR.st {s0 : Mm} {T V : Nat → Nat → Int} {x : Int} {q : Nat} {t τ s : Mm} {k : Nat} (h : cR T V x q t τ k) (l : Lt s0 t) (g : GO T (chK T V (fun k => dp x (q + k)) k) (si (sl τ 85 81 (nx (gl τ 85 81))) 85 67 (Int.tdiv (nx (gl τ 85 81)) 65536 % 10)) s) : cR T V x q t s (k + 1) := by
  obtain ⟨r1, r2, r3, r4, r5, r6⟩ := h
  obtain ⟨g1, g2, g3, g4, g5⟩ := g
  obtain ⟨l65, l66, l67, l68, l69, l70, l71, l72⟩ := l.2.2.2.2.2.2
  rw [r2] at g1 g2 g3 g4 g5
  have ho : ∀ a i, ¬ (a = 85 ∧ i = 67) → gi (si (sl τ 85 81 (nx (rn x (q + k)))) 85 67 (Int.tdiv (nx (rn x (q + k))) 65536 % 10)) a i = gi τ a i := fun a i p => by rw [gi_si, if_neg p]; rfl
  have h67 : gi (si (sl τ 85 81 (nx (rn x (q + k)))) 85 67 (Int.tdiv (nx (rn x (q + k))) 65536 % 10)) 85 67 = dp x (q + k) := by rw [gi_si, if_pos ⟨rfl, rfl⟩]; rfl
  obtain ⟨t17, ht17⟩ : ∃ t17, t17 = si (sl τ 85 81 (nx (rn x (q + k)))) 85 67 (Int.tdiv (nx (rn x (q + k))) 65536 % 10) := ⟨_, rfl⟩
  have hgl : gl t17 85 81 = rn x (q + (k + 1)) := by
    rw [ht17]
    simp [gl, si, sl, rn]
  rw [← ht17] at g1 g2 g3 g4 g5 ho h67
  have h65 : gi t17 85 65 = -1 := by rw [ho 85 65 (by omega), r1 85 65 (by unfold hf; omega) (by omega)]; exact l65
  have h70 : gi t17 85 70 = -1 := by rw [ho 85 70 (by omega), r1 85 70 (by unfold hf; omega) (by omega)]; exact l70
  have h71 : gi t17 85 71 = 0 := by rw [ho 85 71 (by omega), r1 85 71 (by unfold hf; omega) (by omega)]; exact l71
  have hdp := dp_in x (q + k)
  have hD : dO T (chK T V (fun k => dp x (q + k)) k) t17 = chK T V (fun k => dp x (q + k)) (k + 1) := by
    unfold dO
    have e1 : dmR t17 = dp x (q + k) := by unfold dmR; rw [if_neg (by omega)]; exact h67
    have e2 : btR T t17 = T 0 5 := by unfold btR; rw [if_neg (by omega)]
    have e3 : dfR t17 = -1 := by unfold dfR; rw [if_neg (by omega)]
    have e5 : aiR t17 (chK T V (fun k => dp x (q + k)) k) = fun u => !bi (V 0 1) u := funext fun u => by
      unfold aiR
      rw [if_pos h71, decide_eq_false (show ¬ (u : Int) = gi t17 85 70 by omega), decide_eq_false (show ¬ gi t17 85 65 = 0 by omega), chK_kept]
      rfl
    rw [e1, e2, e3, e5, decide_eq_false (show ¬ gi t17 85 65 = 3 by omega)]
    unfold moD
    rw [if_neg (by omega)]
    rfl
  rw [hD] at g3 g4 g5
  refine ⟨fun a i p z => ?_, ?_, g3, g4, g5, ?_⟩
  · rw [g1.1 a i p (by omega), ho a i (by omega)]; exact r1 a i p z
  · rw [g1.2 85 81 (by omega) (by omega)]; exact hgl
  · rw [g2, ho 85 72 (by omega)]; split <;> omega
theorem v_chR_0 {n : Nat}  (sd : Int) (m : Int) (ou : Int) {σ : Mm} {P : Int → Mm → Prop} (l1 : ∀ t1 : Mm, t1 = si σ 85 2 (0 : Int) → sd < (0 : Int) → P (-1) t1) (l2 : ∀ t1 : Mm, t1 = si σ 85 2 (0 : Int) → (0 : Int) ≤ sd → m < (1 : Int) → P (-1) t1) (l3 : ∀ t1 : Mm, t1 = si σ 85 2 (0 : Int) → (0 : Int) ≤ sd → (1 : Int) ≤ m → (99 : Int) < m → P (-1) t1) (l4 : ∀ t1 : Mm, t1 = si σ 85 2 (0 : Int) → (0 : Int) ≤ sd → (1 : Int) ≤ m → m ≤ (99 : Int) → ou < (0 : Int) → P (-1) t1) (l5 : ∀ t1 : Mm, t1 = si σ 85 2 (0 : Int) → (0 : Int) ≤ sd → (1 : Int) ≤ m → m ≤ (99 : Int) → (0 : Int) ≤ ou → (99 : Int) < ou → P (-1) t1) (l6 : ∀ t1 : Mm, t1 = si σ 85 2 (0 : Int) → (0 : Int) ≤ sd → (1 : Int) ≤ m → m ≤ (99 : Int) → (0 : Int) ≤ ou → ou ≤ (99 : Int) → ∀ t7 : Mm, t7 = sl t1 85 81 sd → R 266 43 [some (vr 85), some (vi sd), some (vi m), some (vi ou), some (vi 0), some (vi 0), none] [] (shF n) 0 0 t7 (Qi (shF n) P)) : Ci 266 [vr 85, vi sd, vi m, vi ou] (shF n) σ P :=
  show R 266 0 [some (vr 85), some (vi sd), some (vi m), some (vi ou), none, none, none] [] (shF n) 0 0 σ (Qi (shF n) P) from wpK_R 24 [43, 57] (And.intro (fun q2 => And.intro ret0 ⟨rfl, _, rfl, (l1 _ rfl q2)⟩) (fun q2 => (show R 157 0 [_, some (vi 1), some (vi 99)] [] (shF n) 0 0 _ _ from wpK_R 9 [] (And.intro (fun q3 => And.intro ret0 (And.intro (Or.inl rfl) ⟨rfl, _, rfl, And.intro (fun _ => And.intro ret0 ⟨rfl, _, rfl, (l2 _ rfl (Int.not_lt.mp q2) q3)⟩) (fun q => absurd (show (0 : Int) = 0 by decide) q)⟩)) (fun q3 => And.intro (fun q4 => And.intro ret0 (And.intro (Or.inl rfl) ⟨rfl, _, rfl, And.intro (fun _ => And.intro ret0 ⟨rfl, _, rfl, (l3 _ rfl (Int.not_lt.mp q2) (Int.not_lt.mp q3) q4)⟩) (fun q => absurd (show (0 : Int) = 0 by decide) q)⟩)) (fun q4 => And.intro ret0 (And.intro (Or.inr rfl) ⟨rfl, _, rfl, And.intro (fun q => absurd q (show ¬ ((1 : Int) = 0) by decide)) (fun _ => (show R 157 0 [_, some (vi 0), some (vi 99)] [] (shF n) 0 0 _ _ from wpK_R 9 [] (And.intro (fun q5 => And.intro ret0 (And.intro (Or.inl rfl) ⟨rfl, _, rfl, And.intro (fun q => absurd q (show ¬ ((0 : Int) ≠ 0) by decide)) (fun _ => And.intro ret0 ⟨rfl, _, rfl, (l4 _ rfl (Int.not_lt.mp q2) (Int.not_lt.mp q3) (Int.not_lt.mp q4) q5)⟩)⟩)) (fun q5 => And.intro (fun q6 => And.intro ret0 (And.intro (Or.inl rfl) ⟨rfl, _, rfl, And.intro (fun q => absurd q (show ¬ ((0 : Int) ≠ 0) by decide)) (fun _ => And.intro ret0 ⟨rfl, _, rfl, (l5 _ rfl (Int.not_lt.mp q2) (Int.not_lt.mp q3) (Int.not_lt.mp q4) (Int.not_lt.mp q5) q6)⟩)⟩)) (fun q6 => And.intro ret0 (And.intro (Or.inr rfl) ⟨rfl, _, rfl, And.intro (fun _ => (l6 _ rfl (Int.not_lt.mp q2) (Int.not_lt.mp q3) (Int.not_lt.mp q4) (Int.not_lt.mp q5) (Int.not_lt.mp q6) _ rfl)) (fun q => absurd (show (1 : Int) ≠ 0 by decide) q)⟩))))))⟩)))))))
theorem v_chR_43 {n : Nat} (T : Nat → Nat → Int) (V : Nat → Nat → Int) (sd : Int) (m : Int) (ou : Int) (ti : Int) (i : Nat) (z : Option PV) {σ : Mm} {P : Int → Mm → Prop} (o1 : (i : Int) < (10 : Int) → KB σ) (l1 : (10 : Int) ≤ (i : Int) → ∀ s3 : Mm, Pl σ s3 → P ti s3) (l2 : (i : Int) < (10 : Int) → ∀ s6 : Mm, Lt σ s6 → R 266 57 [some (vr 85), some (vi sd), some (vi m), some (vi ou), some (vi ti), some (vi (i : Int)), some (vi 0)] [] (shF n) 0 0 s6 (Qi (shF n) P)) : R 266 43 [some (vr 85), some (vi sd), some (vi m), some (vi ou), some (vi ti), some (vi (i : Int)), z] [] (shF n) 0 0 σ (Qi (shF n) P) :=
  wpK_R 8 [57] (And.intro (fun q1 => (c_plain   (fun s3 h4 => And.intro ret0 ⟨rfl, _, rfl, (l1 q1 s3 h4)⟩))) (fun q1 => (c_lyT  (o1 (Int.not_le.mp q1)) (fun s6 h7 => (l2 (Int.not_le.mp q1) s6 h7)))))
theorem v_chR_57 {n : Nat} (T : Nat → Nat → Int) (V : Nat → Nat → Int) (sd : Int) (m : Int) (ou : Int) (ti : Int) (i : Nat) (k : Nat) {σ : Mm} {P : Int → Mm → Prop} (o1 : m ≤ (k : Int) → rg ((gi σ 121 1) - (gi σ 121 0))) (o2 : m ≤ (k : Int) → ((gi σ 121 1) - (gi σ 121 0)) < ou → rg (ti + 0)) (o3 : m ≤ (k : Int) → ((gi σ 121 1) - (gi σ 121 0)) < ou → ∀ x5 : Int, x5 = ti + 0 → rg ((i : Int) + 1)) (o4 : m ≤ (k : Int) → ou ≤ ((gi σ 121 1) - (gi σ 121 0)) → rg (ti + 1)) (o5 : m ≤ (k : Int) → ou ≤ ((gi σ 121 1) - (gi σ 121 0)) → ∀ x8 : Int, x8 = ti + 1 → rg ((i : Int) + 1)) (o6 : (k : Int) < m → rgl ((gl σ 85 81) * 1103515245)) (o7 : (k : Int) < m → rgl (((gl σ 85 81) * 1103515245) + 12345)) (o8 : (k : Int) < m → ∀ t12 : Mm, t12 = sl σ 85 81 (oland (((gl σ 85 81) * 1103515245) + 12345) (2147483647 : Int)) → ((65536 : Int) ≠ 0 ∧ rgl (Int.tdiv (oland (((gl σ 85 81) * 1103515245) + 12345) (2147483647 : Int)) (65536 : Int)))) (o9 : (k : Int) < m → ∀ t12 : Mm, t12 = sl σ 85 81 (oland (((gl σ 85 81) * 1103515245) + 12345) (2147483647 : Int)) → (0 ≤ (Int.tdiv (oland (((gl σ 85 81) * 1103515245) + 12345) (2147483647 : Int)) (65536 : Int)) ∧ 0 < (10 : Int))) (o10 : (k : Int) < m → ∀ t12 : Mm, t12 = sl σ 85 81 (oland (((gl σ 85 81) * 1103515245) + 12345) (2147483647 : Int)) → rg ((Int.tdiv (oland (((gl σ 85 81) * 1103515245) + 12345) (2147483647 : Int)) (65536 : Int)) % (10 : Int))) (o11 : (k : Int) < m → ∀ t12 : Mm, t12 = sl σ 85 81 (oland (((gl σ 85 81) * 1103515245) + 12345) (2147483647 : Int)) → ∀ x16 : Int, x16 = (Int.tdiv (oland (((gl σ 85 81) * 1103515245) + 12345) (2147483647 : Int)) (65536 : Int)) % (10 : Int) → ∀ t17 : Mm, t17 = si t12 85 67 x16 → GQ T V t17) (o12 : (k : Int) < m → ∀ t12 : Mm, t12 = sl σ 85 81 (oland (((gl σ 85 81) * 1103515245) + 12345) (2147483647 : Int)) → ∀ x16 : Int, x16 = (Int.tdiv (oland (((gl σ 85 81) * 1103515245) + 12345) (2147483647 : Int)) (65536 : Int)) % (10 : Int) → ∀ t17 : Mm, t17 = si t12 85 67 x16 → ∀ s19 : Mm, GO T V t17 s19 → rg ((k : Int) + 1)) (l1 : m ≤ (k : Int) → ((gi σ 121 1) - (gi σ 121 0)) < ou → ∀ x5 : Int, x5 = ti + 0 → R 266 43 [some (vr 85), some (vi sd), some (vi m), some (vi ou), some (vi x5), some (vi ((i : Int) + 1)), some (vi (k : Int))] [] (shF n) 0 0 σ (Qi (shF n) P)) (l2 : m ≤ (k : Int) → ou ≤ ((gi σ 121 1) - (gi σ 121 0)) → ∀ x8 : Int, x8 = ti + 1 → R 266 43 [some (vr 85), some (vi sd), some (vi m), some (vi ou), some (vi x8), some (vi ((i : Int) + 1)), some (vi (k : Int))] [] (shF n) 0 0 σ (Qi (shF n) P)) (l3 : (k : Int) < m → ∀ t12 : Mm, t12 = sl σ 85 81 (oland (((gl σ 85 81) * 1103515245) + 12345) (2147483647 : Int)) → ∀ x16 : Int, x16 = (Int.tdiv (oland (((gl σ 85 81) * 1103515245) + 12345) (2147483647 : Int)) (65536 : Int)) % (10 : Int) → ∀ t17 : Mm, t17 = si t12 85 67 x16 → ∀ s19 : Mm, GO T V t17 s19 → R 266 57 [some (vr 85), some (vi sd), some (vi m), some (vi ou), some (vi ti), some (vi (i : Int)), some (vi ((k : Int) + 1))] [] (shF n) 0 0 s19 (Qi (shF n) P)) : R 266 57 [some (vr 85), some (vi sd), some (vi m), some (vi ou), some (vi ti), some (vi (i : Int)), some (vi (k : Int))] [] (shF n) 0 0 σ (Qi (shF n) P) :=
  wpK_R 22 [43, 57] (And.intro (fun q1 => And.intro (by decide) (And.intro (by decide) ((have k2 := (o1 q1); And.intro k2 (And.intro (fun q3 => (have k4 := (o2 q1 q3); And.intro k4 ((have k6 := (o3 q1 q3 _ rfl); And.intro k6 ((l1 q1 q3 _ rfl)))))) (fun q3 => (have k7 := (o4 q1 (Int.not_lt.mp q3)); And.intro k7 ((have k9 := (o5 q1 (Int.not_lt.mp q3) _ rfl); And.intro k9 ((l2 q1 (Int.not_lt.mp q3) _ rfl))))))))))) (fun q1 => (show R 265 0 [some (vr 85), some (vi 10)] [] (shF n) 0 0 _ _ from wpK_R 19 [] ((have k10 := (o6 (Int.not_le.mp q1)); And.intro k10 ((have k11 := (o7 (Int.not_le.mp q1)); And.intro k11 ((have k13 := (o8 (Int.not_le.mp q1) _ rfl); And.intro k13 ((have k14 := (o9 (Int.not_le.mp q1) _ rfl); And.intro k14 ((have k15 := (o10 (Int.not_le.mp q1) _ rfl); And.intro k15 (And.intro ret0 ⟨rfl, _, rfl, (c_goD (T := T) (V := V) (o11 (Int.not_le.mp q1) _ rfl _ rfl _ rfl) (fun s19 h20 => (have k21 := (o12 (Int.not_le.mp q1) _ rfl _ rfl _ rfl s19 h20); And.intro k21 ((l3 (Int.not_le.mp q1) _ rfl _ rfl _ rfl s19 h20)))))⟩))))))))))))))
theorem r_chance {xs : Nat → Int} {N n : Nat} {s : Mm} (h : Rel xs N s) (sd m ou : Int) (hsd : sd ≤ 2147483647) : Ci 266 [vr 85, vi sd, vi m, vi ou] (shF n) s (fun v' s' => v' = (if 0 ≤ sd ∧ (1 ≤ m ∧ m ≤ 99) ∧ (0 ≤ ou ∧ ou ≤ 99) then tmN (vw s 5) (wv s 40) m.toNat ou sd 10 else -1) ∧ Rel xs N s') := by
  refine v_chR_0 sd m ou ?_ ?_ ?_ ?_ ?_ ?_
  · intro t1 ht; intros; rw [ht]; exact ⟨by rw [if_neg (by omega)], Rel_th h⟩
  · intro t1 ht; intros; rw [ht]; exact ⟨by rw [if_neg (by omega)], Rel_th h⟩
  · intro t1 ht; intros; rw [ht]; exact ⟨by rw [if_neg (by omega)], Rel_th h⟩
  · intro t1 ht; intros; rw [ht]; exact ⟨by rw [if_neg (by omega)], Rel_th h⟩
  · intro t1 ht; intros; rw [ht]; exact ⟨by rw [if_neg (by omega)], Rel_th h⟩
  · intro t1 ht h1 h2 h3 h4 h5 t7 e7
    rw [if_pos (by omega)]
    have k1 : kF s t1 := by rw [ht]; exact (kF.rf s).si (by omega)
    have k7 : kF s t7 := by rw [e7]; exact k1.eq fun a i => rfl
    refine loopUp (N := 10) (I := fun i => ∀ z : Option PV, ∀ τ : Mm, kF s τ → gi τ 85 2 = 0 → gl τ 85 81 = rn sd (i * m.toNat) → R 266 43 [some (vr 85), some (vi sd), some (vi m), some (vi ou), some (vi (tmN (vw s 5) (wv s 40) m.toNat ou sd i)), some (vi (i : Int)), z] [] (shF n) 0 0 τ (Qi (shF n) (fun v' s' => v' = tmN (vw s 5) (wv s 40) m.toNat ou sd 10 ∧ Rel xs N s'))) (fun i hi ih => ?_) 0 (by omega) none t7 k7 ?_ ?_
    · intro z τ kf h2' hgl
      have hti := tmN_in (T := vw s 5) (V := wv s 40) (m := m.toNat) (ou := ou) (x := sd) i
      refine v_chR_43 (vw s 5) (wv s 40) sd m ou _ i z (by intros; exact Rel_KB (kf.rel h)) ?_ ?_
      · intro hge s3 p
        rw [show i = 10 by omega]
        exact ⟨rfl, Pl_rel2 (kf.rel h) p⟩
      · intro hlt s6 l
        have l' : Lt (si τ 85 2 0) s6 := by rw [si_self h2']; exact l
        have hr := kf.rel h
        have g := Lt_GP (m := 0) hr l' (V := wv s 40) (by rw [kf.V]; exact fun _ _ _ => rfl) (by omega)
        rw [kf.T] at g
        have hgl6 : gl s6 85 81 = rn sd (i * m.toNat) := (l.2.1 85 81).trans hgl
        refine loopUp (N := m.toNat) (I := fun k => ∀ τ' : Mm, cR (vw s 5) (wv s 40) sd (i * m.toNat) s6 τ' k → R 266 57 [some (vr 85), some (vi sd), some (vi m), some (vi ou), some (vi (tmN (vw s 5) (wv s 40) m.toNat ou sd i)), some (vi (i : Int)), some (vi (k : Int))] [] (shF n) 0 0 τ' (Qi (shF n) (fun v' s' => v' = tmN (vw s 5) (wv s 40) m.toNat ou sd 10 ∧ Rel xs N s'))) (fun k hk ihk => ?_) 0 (by omega) s6 ⟨fun _ _ _ _ => rfl, hgl6, g.2.2.2.1, g.2.2.2.2.1, g.2.2.2.2.2.1, by have := l.2.2.2.2.2.2.2.2.2.2.2.2.2; omega⟩
        intro τ' c
        have hx := rn_in (x := sd) ⟨h1, hsd⟩ (i * m.toNat + k)
        have hgk := c.2.1
        have hnx := nx_in (rn sd (i * m.toNat + k))
        have htd := td_in hnx
        have hnn : oland (gl τ' 85 81 * 1103515245 + 12345) 2147483647 = nx (rn sd (i * m.toNat + k)) := by rw [hgk]; rfl
        have h121 : gi τ' 121 0 = cnt (fun q => decide (wv s 40 4 q = 2)) 10 := by
          rw [c.1 121 0 (by unfold hf; omega) (by omega), l.1 121 0 (by unfold hf; omega) (by omega), (Rel_w0 hr).2.2.2.1]
          exact cnt_congr fun q _ => by rw [kf 44 q (Or.inl (by omega))]; rfl
        have h121b : gi τ' 121 1 = cnt (fun q => decide (chK (vw s 5) (wv s 40) (fun k => dp sd (i * m.toNat + k)) k 4 q = 2)) 10 := c.2.2.1.2.2.2.2.2.1
        have hn1 := cnt_in (fun q => decide (wv s 40 4 q = 2)) 10
        have hn2 := cnt_in (fun q => decide (chK (vw s 5) (wv s 40) (fun k => dp sd (i * m.toNat + k)) k 4 q = 2)) 10
        refine v_chR_57 (vw s 5) (chK (vw s 5) (wv s 40) (fun k => dp sd (i * m.toNat + k)) k) sd m ou _ i k (by intros; subst_vars; (try rw [hnn]); (try rw [hgk]); first | omega | (unfold rg; omega) | (unfold rgl; omega) | exact ⟨by omega, by unfold rgl; omega⟩ | exact ⟨by omega, by omega⟩ | exact c.ok g (by omega) (by omega)) (by intros; subst_vars; (try rw [hnn]); (try rw [hgk]); first | omega | (unfold rg; omega) | (unfold rgl; omega) | exact ⟨by omega, by unfold rgl; omega⟩ | exact ⟨by omega, by omega⟩ | exact c.ok g (by omega) (by omega)) (by intros; subst_vars; (try rw [hnn]); (try rw [hgk]); first | omega | (unfold rg; omega) | (unfold rgl; omega) | exact ⟨by omega, by unfold rgl; omega⟩ | exact ⟨by omega, by omega⟩ | exact c.ok g (by omega) (by omega)) (by intros; subst_vars; (try rw [hnn]); (try rw [hgk]); first | omega | (unfold rg; omega) | (unfold rgl; omega) | exact ⟨by omega, by unfold rgl; omega⟩ | exact ⟨by omega, by omega⟩ | exact c.ok g (by omega) (by omega)) (by intros; subst_vars; (try rw [hnn]); (try rw [hgk]); first | omega | (unfold rg; omega) | (unfold rgl; omega) | exact ⟨by omega, by unfold rgl; omega⟩ | exact ⟨by omega, by omega⟩ | exact c.ok g (by omega) (by omega)) (by intros; subst_vars; (try rw [hnn]); (try rw [hgk]); first | omega | (unfold rg; omega) | (unfold rgl; omega) | exact ⟨by omega, by unfold rgl; omega⟩ | exact ⟨by omega, by omega⟩ | exact c.ok g (by omega) (by omega)) (by intros; subst_vars; (try rw [hnn]); (try rw [hgk]); first | omega | (unfold rg; omega) | (unfold rgl; omega) | exact ⟨by omega, by unfold rgl; omega⟩ | exact ⟨by omega, by omega⟩ | exact c.ok g (by omega) (by omega)) (by intros; subst_vars; (try rw [hnn]); (try rw [hgk]); first | omega | (unfold rg; omega) | (unfold rgl; omega) | exact ⟨by omega, by unfold rgl; omega⟩ | exact ⟨by omega, by omega⟩ | exact c.ok g (by omega) (by omega)) (by intros; subst_vars; (try rw [hnn]); (try rw [hgk]); first | omega | (unfold rg; omega) | (unfold rgl; omega) | exact ⟨by omega, by unfold rgl; omega⟩ | exact ⟨by omega, by omega⟩ | exact c.ok g (by omega) (by omega)) (by intros; subst_vars; (try rw [hnn]); (try rw [hgk]); first | omega | (unfold rg; omega) | (unfold rgl; omega) | exact ⟨by omega, by unfold rgl; omega⟩ | exact ⟨by omega, by omega⟩ | exact c.ok g (by omega) (by omega)) (by intros; subst_vars; (try rw [hnn]); (try rw [hgk]); first | omega | (unfold rg; omega) | (unfold rgl; omega) | exact ⟨by omega, by unfold rgl; omega⟩ | exact ⟨by omega, by omega⟩ | exact c.ok g (by omega) (by omega)) (by intros; subst_vars; (try rw [hnn]); (try rw [hgk]); first | omega | (unfold rg; omega) | (unfold rgl; omega) | exact ⟨by omega, by unfold rgl; omega⟩ | exact ⟨by omega, by omega⟩ | exact c.ok g (by omega) (by omega)) ?_ ?_ ?_
        · intro hge hlt2 x5 hx5
          rw [h121, h121b, show k = m.toNat by omega] at hlt2
          have he : tmN (vw s 5) (wv s 40) m.toNat ou sd (i + 1) = x5 := by
            simp only [tmN, tmv]; rw [if_neg (by omega), hx5]
          rw [← he]
          exact R_eq (ih (by omega) _ τ' (kf.tr ((kF.lt l).tr c.kf)) (by rw [c.1 85 2 (by unfold hf; omega) (by omega), l.1 85 2 (by unfold hf; omega) (by omega)]; exact h2') (by rw [hgk, show k = m.toNat by omega, Nat.succ_mul])) rfl
        · intro hge hlt2 x5 hx5
          rw [h121, h121b, show k = m.toNat by omega] at hlt2
          have he : tmN (vw s 5) (wv s 40) m.toNat ou sd (i + 1) = x5 := by
            simp only [tmN, tmv]; rw [if_pos (by omega), hx5]
          rw [← he]
          exact R_eq (ih (by omega) _ τ' (kf.tr ((kF.lt l).tr c.kf)) (by rw [c.1 85 2 (by unfold hf; omega) (by omega), l.1 85 2 (by unfold hf; omega) (by omega)]; exact h2') (by rw [hgk, show k = m.toNat by omega, Nat.succ_mul])) rfl
        · intro hlt2 t12 e12 x16 hx16 t17 e17 s19 go
          subst e12; subst hx16; subst e17
          exact R_eq (ihk (by omega) s19 (c.st l go)) rfl
    · rw [e7]; show gi t1 85 2 = 0; rw [ht, gi_si, if_pos ⟨rfl, rfl⟩]
    · rw [e7, Nat.zero_mul]
      simp [gl, sl, rn]
theorem v_ch_0 {n : Nat}  (sd : Int) (m : Int) (ou : Int) {σ : Mm} {P : Int → Mm → Prop} (l1 : sd < (0 : Int) → P (-1) σ) (l2 : (0 : Int) ≤ sd → m < (1 : Int) → P (-1) σ) (l3 : (0 : Int) ≤ sd → (1 : Int) ≤ m → (99 : Int) < m → P (-1) σ) (l4 : (0 : Int) ≤ sd → (1 : Int) ≤ m → m ≤ (99 : Int) → ou < (0 : Int) → P (-1) σ) (l5 : (0 : Int) ≤ sd → (1 : Int) ≤ m → m ≤ (99 : Int) → (0 : Int) ≤ ou → ou ≤ (99 : Int) → R 148 37 [some (vr 3), some (vi sd), some (vi m), some (vi ou), some (vl sd), none, some (vi 0), some (vi 0), none] [] (shF n) 0 0 σ (Qi (shF n) P)) (l6 : (0 : Int) ≤ sd → (1 : Int) ≤ m → m ≤ (99 : Int) → (0 : Int) ≤ ou → (99 : Int) < ou → P (-1) σ) : Ci 148 [vr 3, vi sd, vi m, vi ou] (shF n) σ P :=
  show R 148 0 [some (vr 3), some (vi sd), some (vi m), some (vi ou), none, none, none, none, none] [] (shF n) 0 0 σ (Qi (shF n) P) from wpK_R 21 [37, 51] (And.intro (fun q1 => And.intro ret0 ⟨rfl, _, rfl, (l1 q1)⟩) (fun q1 => And.intro (fun q2 => And.intro ret0 ⟨rfl, _, rfl, (l2 (Int.not_lt.mp q1) q2)⟩) (fun q2 => And.intro (fun q3 => And.intro ret0 ⟨rfl, _, rfl, (l3 (Int.not_lt.mp q1) (Int.not_lt.mp q2) q3)⟩) (fun q3 => And.intro (fun q4 => And.intro ret0 ⟨rfl, _, rfl, (l4 (Int.not_lt.mp q1) (Int.not_lt.mp q2) (Int.not_lt.mp q3) q4)⟩) (fun q4 => And.intro (fun q5 => (l5 (Int.not_lt.mp q1) (Int.not_lt.mp q2) (Int.not_lt.mp q3) (Int.not_lt.mp q4) q5)) (fun q5 => And.intro ret0 ⟨rfl, _, rfl, (l6 (Int.not_lt.mp q1) (Int.not_lt.mp q2) (Int.not_lt.mp q3) (Int.not_lt.mp q4) (Int.not_le.mp q5))⟩))))))
theorem v_ch_37 {n : Nat}  (sd : Int) (m : Int) (ou : Int) (x : Int) (ti : Int) (i : Nat) (z : Option PV) {σ : Mm} {P : Int → Mm → Prop} (l1 : (10 : Int) ≤ (i : Int) → P ti σ) (l2 : (i : Int) < (10 : Int) → ∀ s3 : Mm, Bt σ s3 → R 148 51 [some (vr 3), some (vi sd), some (vi m), some (vi ou), some (vl x), none, some (vi ti), some (vi (i : Int)), some (vi 0)] [] (shF n) 0 0 s3 (Qi (shF n) P)) : R 148 37 [some (vr 3), some (vi sd), some (vi m), some (vi ou), some (vl x), none, some (vi ti), some (vi (i : Int)), z] [] (shF n) 0 0 σ (Qi (shF n) P) :=
  wpK_R 8 [51, 37] (And.intro (fun q1 => And.intro ret0 ⟨rfl, _, rfl, (l1 q1)⟩) (fun q1 => (c_begin   (fun s3 h4 => (l2 (Int.not_le.mp q1) s3 h4)))))
theorem v_ch_51 {n : Nat}  (sd : Int) (m : Int) (ou : Int) (x : Int) (ti : Int) (i : Nat) (k : Nat) {σ : Mm} {P : Int → Mm → Prop} (o1 : m ≤ (k : Int) → ∀ x2 : Int, x2 = cnt (fun q => decide (gi σ 53 q = 2)) 10 - cnt (fun q => decide (gi σ 44 q = 2)) 10 → x2 < ou → rg ((i : Int) + 1)) (o2 : m ≤ (k : Int) → ∀ x2 : Int, x2 = cnt (fun q => decide (gi σ 53 q = 2)) 10 - cnt (fun q => decide (gi σ 44 q = 2)) 10 → ou ≤ x2 → rg (ti + 1)) (o3 : m ≤ (k : Int) → ∀ x2 : Int, x2 = cnt (fun q => decide (gi σ 53 q = 2)) 10 - cnt (fun q => decide (gi σ 44 q = 2)) 10 → ou ≤ x2 → ∀ x6 : Int, x6 = ti + 1 → rg ((i : Int) + 1)) (o4 : (k : Int) < m → rgl (x * 1103515245)) (o5 : (k : Int) < m → rgl ((x * 1103515245) + 12345)) (o6 : (k : Int) < m → ∀ x10 : Int, x10 = oland ((x * 1103515245) + 12345) (2147483647 : Int) → ((65536 : Int) ≠ 0 ∧ rgl (Int.tdiv x10 (65536 : Int)))) (o7 : (k : Int) < m → ∀ x10 : Int, x10 = oland ((x * 1103515245) + 12345) (2147483647 : Int) → (0 ≤ (Int.tdiv x10 (65536 : Int)) ∧ 0 < (10 : Int))) (o8 : (k : Int) < m → ∀ x10 : Int, x10 = oland ((x * 1103515245) + 12345) (2147483647 : Int) → rg ((Int.tdiv x10 (65536 : Int)) % (10 : Int))) (o9 : (k : Int) < m → ∀ x10 : Int, x10 = oland ((x * 1103515245) + 12345) (2147483647 : Int) → ∀ t14 : Mm, t14 = si σ 70 2 ((Int.tdiv x10 (65536 : Int)) % (10 : Int)) → BkOK (vw t14 5)) (o10 : (k : Int) < m → ∀ x10 : Int, x10 = oland ((x * 1103515245) + 12345) (2147483647 : Int) → ∀ t14 : Mm, t14 = si σ 70 2 ((Int.tdiv x10 (65536 : Int)) % (10 : Int)) → SI (vw t14 5) (wv t14 49)) (o11 : (k : Int) < m → ∀ x10 : Int, x10 = oland ((x * 1103515245) + 12345) (2147483647 : Int) → ∀ t14 : Mm, t14 = si σ 70 2 ((Int.tdiv x10 (65536 : Int)) % (10 : Int)) → (gi t14 70 2 = -1 ∨ (0 ≤ gi t14 70 2 ∧ gi t14 70 2 ≤ 9))) (o12 : (k : Int) < m → ∀ x10 : Int, x10 = oland ((x * 1103515245) + 12345) (2147483647 : Int) → ∀ t14 : Mm, t14 = si σ 70 2 ((Int.tdiv x10 (65536 : Int)) % (10 : Int)) → (0 ≤ gi t14 70 3 ∧ gi t14 70 3 ≤ 9)) (o13 : (k : Int) < m → ∀ x10 : Int, x10 = oland ((x * 1103515245) + 12345) (2147483647 : Int) → ∀ t14 : Mm, t14 = si σ 70 2 ((Int.tdiv x10 (65536 : Int)) % (10 : Int)) → gi t14 49 0 < 30000) (o14 : (k : Int) < m → ∀ x10 : Int, x10 = oland ((x * 1103515245) + 12345) (2147483647 : Int) → ∀ t14 : Mm, t14 = si σ 70 2 ((Int.tdiv x10 (65536 : Int)) % (10 : Int)) → ∀ s16 : Mm, Wg 49 t14 s16 (dayV (vw t14 5) (wv t14 49) (moD (vw t14 5) (gi t14 70 2) (gi t14 49 0)) (gi t14 70 3) (gi t14 70 4) (decide (gi t14 70 5 ≠ 0)) (fun u => !bi (gi t14 49 1) u)) → rg ((k : Int) + 1)) (l1 : m ≤ (k : Int) → ∀ x2 : Int, x2 = cnt (fun q => decide (gi σ 53 q = 2)) 10 - cnt (fun q => decide (gi σ 44 q = 2)) 10 → x2 < ou → R 148 37 [some (vr 3), some (vi sd), some (vi m), some (vi ou), some (vl x), none, some (vi ti), some (vi ((i : Int) + 1)), some (vi (k : Int))] [] (shF n) 0 0 σ (Qi (shF n) P)) (l2 : m ≤ (k : Int) → ∀ x2 : Int, x2 = cnt (fun q => decide (gi σ 53 q = 2)) 10 - cnt (fun q => decide (gi σ 44 q = 2)) 10 → ou ≤ x2 → ∀ x6 : Int, x6 = ti + 1 → R 148 37 [some (vr 3), some (vi sd), some (vi m), some (vi ou), some (vl x), none, some (vi x6), some (vi ((i : Int) + 1)), some (vi (k : Int))] [] (shF n) 0 0 σ (Qi (shF n) P)) (l3 : (k : Int) < m → ∀ x10 : Int, x10 = oland ((x * 1103515245) + 12345) (2147483647 : Int) → ∀ t14 : Mm, t14 = si σ 70 2 ((Int.tdiv x10 (65536 : Int)) % (10 : Int)) → ∀ s16 : Mm, Wg 49 t14 s16 (dayV (vw t14 5) (wv t14 49) (moD (vw t14 5) (gi t14 70 2) (gi t14 49 0)) (gi t14 70 3) (gi t14 70 4) (decide (gi t14 70 5 ≠ 0)) (fun u => !bi (gi t14 49 1) u)) → R 148 51 [some (vr 3), some (vi sd), some (vi m), some (vi ou), some (vl x10), none, some (vi ti), some (vi (i : Int)), some (vi ((k : Int) + 1))] [] (shF n) 0 0 s16 (Qi (shF n) P)) : R 148 51 [some (vr 3), some (vi sd), some (vi m), some (vi ou), some (vl x), none, some (vi ti), some (vi (i : Int)), some (vi (k : Int))] [] (shF n) 0 0 σ (Qi (shF n) P) :=
  wpK_R 28 [37, 51] (And.intro (fun q1 => (c_om   (And.intro (fun q3 => (have k4 := (o1 q1 _ rfl q3); And.intro k4 ((l1 q1 _ rfl q3)))) (fun q3 => (have k5 := (o2 q1 _ rfl (Int.not_lt.mp q3)); And.intro k5 ((have k7 := (o3 q1 _ rfl (Int.not_lt.mp q3) _ rfl); And.intro k7 ((l2 q1 _ rfl (Int.not_lt.mp q3) _ rfl))))))))) (fun q1 => (have k8 := (o4 (Int.not_le.mp q1)); And.intro k8 ((have k9 := (o5 (Int.not_le.mp q1)); And.intro k9 ((have k11 := (o6 (Int.not_le.mp q1) _ rfl); And.intro k11 ((have k12 := (o7 (Int.not_le.mp q1) _ rfl); And.intro k12 ((have k13 := (o8 (Int.not_le.mp q1) _ rfl); And.intro k13 ((c_pd_49  (o9 (Int.not_le.mp q1) _ rfl _ rfl) (o10 (Int.not_le.mp q1) _ rfl _ rfl) (o11 (Int.not_le.mp q1) _ rfl _ rfl) (o12 (Int.not_le.mp q1) _ rfl _ rfl) (o13 (Int.not_le.mp q1) _ rfl _ rfl) (fun s16 h17 => (have k18 := (o14 (Int.not_le.mp q1) _ rfl _ rfl s16 h17); And.intro k18 ((l3 (Int.not_le.mp q1) _ rfl _ rfl s16 h17)))))))))))))))))
theorem q_chance {xs : Nat → Int} {N n : Nat} {σ : Mm} (h : Rel xs N σ) (sd m ou : Int) (hsd : sd ≤ 2147483647) : Bi xs N n 148 [vr 3, vi sd, vi m, vi ou] 266 [vr 85, vi sd, vi m, vi ou] σ := by
  have hno : ¬ (0 ≤ sd ∧ (1 ≤ m ∧ m ≤ 99) ∧ (0 ≤ ou ∧ ou ≤ 99)) → Ci 266 [vr 85, vi sd, vi m, vi ou] (shF n) σ (fun v' s' => v' = -1 ∧ Rel xs N s') := fun q => Ci_mono (r_chance h sd m ou hsd) fun v' s' p => ⟨by rw [p.1, if_neg q], p.2⟩
  have hb := h.2.2.2.2.1
  have hw := h.2.2.2.2.2.2.1
  refine v_ch_0 sd m ou ?_ ?_ ?_ ?_ ?_ ?_
  · intros; exact hno (by omega)
  · intros; exact hno (by omega)
  · intros; exact hno (by omega)
  · intros; exact hno (by omega)
  · intro h1 h2 h3 h4 h5
    have key := loopUp (N := 10) (I := fun i => ∀ z : Option PV, ∀ τ : Mm, ScX σ τ → R 148 37 [some (vr 3), some (vi sd), some (vi m), some (vi ou), some (vl (rn sd (i * m.toNat))), none, some (vi (tmN (vw σ 5) (wv σ 40) m.toNat ou sd i)), some (vi (i : Int)), z] [] (shF n) 0 0 τ (Qi (shF n) (fun v s => Ci 266 [vr 85, vi sd, vi m, vi ou] (shF n) s (fun v' s' => v' = v ∧ Rel xs N s')))) (fun i hi ih => ?_) 0 (by omega) none σ (ScX.rf σ)
    · rw [Nat.zero_mul] at key
      exact key
    · intro z τ sc
      refine v_ch_37 sd m ou _ _ i z ?_ ?_
      · intro hge
        refine Ci_mono (r_chance (sc.rel h) sd m ou hsd) fun v' s' p => ⟨?_, p.2⟩
        rw [p.1, if_pos (by omega), sc.T, sc.V, show i = 10 by omega]
      · intro hlt s3 b
        have sc3 := sc.tr b.1
        have hts : SI (vw σ 5) (wv s3 49) := by
          have := (Bt_ok (sc.rel h) b).2.1
          rw [b.1.T, sc.T] at this
          exact this
        have heq : eqW (wv s3 49) (wv σ 40) := by rw [← sc.V]; exact b.2.1
        have b3 : gi s3 70 3 = vw σ 5 0 5 := by rw [b.2.2.2.1, sc 5 5 (Or.inl (by unfold kpX; omega))]; rfl
        have i3 := (Bt_ok (sc.rel h) b).2.2.2.1
        have i0 := (Bt_ok (sc.rel h) b).2.2.2.2
        refine loopUp (N := m.toNat) (I := fun k => ∀ τ' : Mm, ScX s3 τ' → (∀ i, i ≠ 2 → gi τ' 70 i = gi s3 70 i) → wv τ' 49 = chK (vw σ 5) (wv s3 49) (fun k => dp sd (i * m.toNat + k)) k → R 148 51 [some (vr 3), some (vi sd), some (vi m), some (vi ou), some (vl (rn sd (i * m.toNat + k))), none, some (vi (tmN (vw σ 5) (wv σ 40) m.toNat ou sd i)), some (vi (i : Int)), some (vi (k : Int))] [] (shF n) 0 0 τ' (Qi (shF n) (fun v s => Ci 266 [vr 85, vi sd, vi m, vi ou] (shF n) s (fun v' s' => v' = v ∧ Rel xs N s')))) (fun k hk ihk => ?_) 0 (by omega) s3 (ScX.rf s3) (fun _ _ => rfl) rfl
        intro τ' sc' f70 hV
        have hti := tmN_in (T := vw σ 5) (V := wv σ 40) (m := m.toNat) (ou := ou) (x := sd) i
        have hx := rn_in (x := sd) ⟨h1, hsd⟩ (i * m.toNat + k)
        have hnx := nx_in (rn sd (i * m.toNat + k))
        have htd := td_in hnx
        have hnn : oland (rn sd (i * m.toNat + k) * 1103515245 + 12345) 2147483647 = nx (rn sd (i * m.toNat + k)) := rfl
        have h0 : gi τ' 49 0 = gi s3 49 0 + (k : Int) := by
          have := congrFun (congrFun hV 0) 0
          rw [chK_day] at this
          exact this
        have h01 : gi τ' 49 1 = wv s3 49 0 1 := by
          have := congrFun (congrFun hV 0) 1
          rw [chK_kept] at this
          exact this
        have hcnt : k = m.toNat → cnt (fun q => decide (gi τ' 53 q = 2)) 10 - cnt (fun q => decide (gi τ' 44 q = 2)) 10 = cnt (fun q => decide (chK (vw σ 5) (wv σ 40) (fun k => dp sd (i * m.toNat + k)) m.toNat 4 q = 2)) 10 - cnt (fun q => decide (wv σ 40 4 q = 2)) 10 := fun ek => by
          rw [cnt_congr (p := fun q => decide (gi τ' 53 q = 2)) (p' := fun q => decide (chK (vw σ 5) (wv σ 40) (fun k => dp sd (i * m.toNat + k)) m.toNat 4 q = 2)) (fun q hq => by rw [(wv49 hV).2.2.1, ek, eqW_ch hb hts heq _ 4 q (by unfold inW; omega)]), cnt_congr (p := fun q => decide (gi τ' 44 q = 2)) (p' := fun q => decide (wv σ 40 4 q = 2)) (fun q hq => by rw [(sc3.tr sc') 44 q (Or.inl (by unfold kpX; omega))]; rfl)]
        have hT' : ∀ v, vw (si τ' 70 2 v) 5 = vw σ 5 := fun v => by rw [← (sc3.tr sc').T]; exact vw_same fun a b p q => by rw [gi_ne (by omega)]
        have hV' : ∀ v, wv (si τ' 70 2 v) 49 = wv τ' 49 := fun v => wv_eq fun f b hf => by rw [gi_ne (by omega)]
        have hobl : ∀ v, (0 ≤ v ∧ v ≤ 9) → BkOK (vw (si τ' 70 2 v) 5) ∧ SI (vw (si τ' 70 2 v) 5) (wv (si τ' 70 2 v) 49) ∧ (gi (si τ' 70 2 v) 70 2 = -1 ∨ (0 ≤ gi (si τ' 70 2 v) 70 2 ∧ gi (si τ' 70 2 v) 70 2 ≤ 9)) ∧ (0 ≤ gi (si τ' 70 2 v) 70 3 ∧ gi (si τ' 70 2 v) 70 3 ≤ 9) ∧ gi (si τ' 70 2 v) 49 0 < 30000 := fun v hv => by
          rw [hT', hV', hV]
          refine ⟨hb, SI_ch hb hts _, Or.inr ?_, ?_, ?_⟩
          · rw [gi_si, if_pos ⟨rfl, rfl⟩]; exact hv
          · rw [gi_si, if_neg (by omega), f70 3 (by omega)]; exact i3
          · rw [gi_ne (by omega), h0]; omega
        refine v_ch_51 sd m ou _ _ i k (by intros; subst_vars; (try rw [hnn]); first | omega | (unfold rg; omega) | (unfold rgl; omega) | exact ⟨by omega, by unfold rgl; omega⟩ | exact ⟨by omega, by omega⟩ | exact (hobl _ (by omega)).1 | exact (hobl _ (by omega)).2.1 | exact (hobl _ (by omega)).2.2.1 | exact (hobl _ (by omega)).2.2.2.1 | exact (hobl _ (by omega)).2.2.2.2) (by intros; subst_vars; (try rw [hnn]); first | omega | (unfold rg; omega) | (unfold rgl; omega) | exact ⟨by omega, by unfold rgl; omega⟩ | exact ⟨by omega, by omega⟩ | exact (hobl _ (by omega)).1 | exact (hobl _ (by omega)).2.1 | exact (hobl _ (by omega)).2.2.1 | exact (hobl _ (by omega)).2.2.2.1 | exact (hobl _ (by omega)).2.2.2.2) (by intros; subst_vars; (try rw [hnn]); first | omega | (unfold rg; omega) | (unfold rgl; omega) | exact ⟨by omega, by unfold rgl; omega⟩ | exact ⟨by omega, by omega⟩ | exact (hobl _ (by omega)).1 | exact (hobl _ (by omega)).2.1 | exact (hobl _ (by omega)).2.2.1 | exact (hobl _ (by omega)).2.2.2.1 | exact (hobl _ (by omega)).2.2.2.2) (by intros; subst_vars; (try rw [hnn]); first | omega | (unfold rg; omega) | (unfold rgl; omega) | exact ⟨by omega, by unfold rgl; omega⟩ | exact ⟨by omega, by omega⟩ | exact (hobl _ (by omega)).1 | exact (hobl _ (by omega)).2.1 | exact (hobl _ (by omega)).2.2.1 | exact (hobl _ (by omega)).2.2.2.1 | exact (hobl _ (by omega)).2.2.2.2) (by intros; subst_vars; (try rw [hnn]); first | omega | (unfold rg; omega) | (unfold rgl; omega) | exact ⟨by omega, by unfold rgl; omega⟩ | exact ⟨by omega, by omega⟩ | exact (hobl _ (by omega)).1 | exact (hobl _ (by omega)).2.1 | exact (hobl _ (by omega)).2.2.1 | exact (hobl _ (by omega)).2.2.2.1 | exact (hobl _ (by omega)).2.2.2.2) (by intros; subst_vars; (try rw [hnn]); first | omega | (unfold rg; omega) | (unfold rgl; omega) | exact ⟨by omega, by unfold rgl; omega⟩ | exact ⟨by omega, by omega⟩ | exact (hobl _ (by omega)).1 | exact (hobl _ (by omega)).2.1 | exact (hobl _ (by omega)).2.2.1 | exact (hobl _ (by omega)).2.2.2.1 | exact (hobl _ (by omega)).2.2.2.2) (by intros; subst_vars; (try rw [hnn]); first | omega | (unfold rg; omega) | (unfold rgl; omega) | exact ⟨by omega, by unfold rgl; omega⟩ | exact ⟨by omega, by omega⟩ | exact (hobl _ (by omega)).1 | exact (hobl _ (by omega)).2.1 | exact (hobl _ (by omega)).2.2.1 | exact (hobl _ (by omega)).2.2.2.1 | exact (hobl _ (by omega)).2.2.2.2) (by intros; subst_vars; (try rw [hnn]); first | omega | (unfold rg; omega) | (unfold rgl; omega) | exact ⟨by omega, by unfold rgl; omega⟩ | exact ⟨by omega, by omega⟩ | exact (hobl _ (by omega)).1 | exact (hobl _ (by omega)).2.1 | exact (hobl _ (by omega)).2.2.1 | exact (hobl _ (by omega)).2.2.2.1 | exact (hobl _ (by omega)).2.2.2.2) (by intros; subst_vars; (try rw [hnn]); first | omega | (unfold rg; omega) | (unfold rgl; omega) | exact ⟨by omega, by unfold rgl; omega⟩ | exact ⟨by omega, by omega⟩ | exact (hobl _ (by omega)).1 | exact (hobl _ (by omega)).2.1 | exact (hobl _ (by omega)).2.2.1 | exact (hobl _ (by omega)).2.2.2.1 | exact (hobl _ (by omega)).2.2.2.2) (by intros; subst_vars; (try rw [hnn]); first | omega | (unfold rg; omega) | (unfold rgl; omega) | exact ⟨by omega, by unfold rgl; omega⟩ | exact ⟨by omega, by omega⟩ | exact (hobl _ (by omega)).1 | exact (hobl _ (by omega)).2.1 | exact (hobl _ (by omega)).2.2.1 | exact (hobl _ (by omega)).2.2.2.1 | exact (hobl _ (by omega)).2.2.2.2) (by intros; subst_vars; (try rw [hnn]); first | omega | (unfold rg; omega) | (unfold rgl; omega) | exact ⟨by omega, by unfold rgl; omega⟩ | exact ⟨by omega, by omega⟩ | exact (hobl _ (by omega)).1 | exact (hobl _ (by omega)).2.1 | exact (hobl _ (by omega)).2.2.1 | exact (hobl _ (by omega)).2.2.2.1 | exact (hobl _ (by omega)).2.2.2.2) (by intros; subst_vars; (try rw [hnn]); first | omega | (unfold rg; omega) | (unfold rgl; omega) | exact ⟨by omega, by unfold rgl; omega⟩ | exact ⟨by omega, by omega⟩ | exact (hobl _ (by omega)).1 | exact (hobl _ (by omega)).2.1 | exact (hobl _ (by omega)).2.2.1 | exact (hobl _ (by omega)).2.2.2.1 | exact (hobl _ (by omega)).2.2.2.2) (by intros; subst_vars; (try rw [hnn]); first | omega | (unfold rg; omega) | (unfold rgl; omega) | exact ⟨by omega, by unfold rgl; omega⟩ | exact ⟨by omega, by omega⟩ | exact (hobl _ (by omega)).1 | exact (hobl _ (by omega)).2.1 | exact (hobl _ (by omega)).2.2.1 | exact (hobl _ (by omega)).2.2.2.1 | exact (hobl _ (by omega)).2.2.2.2) (by intros; subst_vars; (try rw [hnn]); first | omega | (unfold rg; omega) | (unfold rgl; omega) | exact ⟨by omega, by unfold rgl; omega⟩ | exact ⟨by omega, by omega⟩ | exact (hobl _ (by omega)).1 | exact (hobl _ (by omega)).2.1 | exact (hobl _ (by omega)).2.2.1 | exact (hobl _ (by omega)).2.2.2.1 | exact (hobl _ (by omega)).2.2.2.2) ?_ ?_ ?_
        · intro hge x2 hx2 hlt2
          have ek : k = m.toNat := by omega
          rw [hcnt ek] at hx2
          have he : tmN (vw σ 5) (wv σ 40) m.toNat ou sd (i + 1) = tmN (vw σ 5) (wv σ 40) m.toNat ou sd i := by
            simp only [tmN, tmv]; rw [if_neg (by omega), Int.add_zero]
          rw [← he]
          exact R_eq (ih (by omega) _ τ' (sc3.tr sc')) (by rw [ek, Nat.succ_mul]; rfl)
        · intro hge x2 hx2 hlt2 x6 hx6
          have ek : k = m.toNat := by omega
          rw [hcnt ek] at hx2
          have he : tmN (vw σ 5) (wv σ 40) m.toNat ou sd (i + 1) = x6 := by
            simp only [tmN, tmv]; rw [if_pos (by omega), hx6]
          rw [← he]
          exact R_eq (ih (by omega) _ τ' (sc3.tr sc')) (by rw [ek, Nat.succ_mul]; rfl)
        · intro hlt2 x10 hx10 t14 e14 s16 w
          subst hx10
          have hv : Int.tdiv (oland (rn sd (i * m.toNat + k) * 1103515245 + 12345) 2147483647) 65536 % 10 = dp sd (i * m.toNat + k) := rfl
          have hdp := dp_in sd (i * m.toNat + k)
          rw [hv] at e14
          subst e14
          have hW := w.2.2
          have a1 : gi (si τ' 70 2 (dp sd (i * m.toNat + k))) 49 1 = wv s3 49 0 1 := by rw [gi_ne (by omega)]; exact h01
          have a2 : gi (si τ' 70 2 (dp sd (i * m.toNat + k))) 70 2 = dp sd (i * m.toNat + k) := by rw [gi_si, if_pos ⟨rfl, rfl⟩]
          have a3 : gi (si τ' 70 2 (dp sd (i * m.toNat + k))) 70 3 = vw σ 5 0 5 := by rw [gi_si, if_neg (by omega), f70 3 (by omega), b3]
          have a4 : gi (si τ' 70 2 (dp sd (i * m.toNat + k))) 70 4 = -1 := by rw [gi_si, if_neg (by omega), f70 4 (by omega)]; exact b.2.2.2.2.1
          have a5 : gi (si τ' 70 2 (dp sd (i * m.toNat + k))) 70 5 = 0 := by rw [gi_si, if_neg (by omega), f70 5 (by omega)]; exact b.2.2.2.2.2
          rw [hT', hV', hV, a1, a2, a3, a4, decide_eq_false (fun q => q a5)] at hW
          unfold moD at hW
          rw [if_neg (by omega)] at hW
          refine R_eq (ihk (by omega) s16 (sc'.tr ?_) (fun i hi => ?_) hW) rfl
          · refine ScX.tr (b := si τ' 70 2 (dp sd (i * m.toNat + k))) ((ScX.rf τ').si (by unfold kpX; omega)) (ScX.wg w)
          · rw [w.1 70 i (by omega) (by omega), gi_si, if_neg (by omega)]; exact f70 i hi
  · intros; exact hno (by omega)
