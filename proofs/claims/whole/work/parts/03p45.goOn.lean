/-! A DAY: the reference's side -/
def hldF (U : Nat → Nat → Int) (u : Nat) : Nat := if U 5 0 = (u : Int) then 0 else if U 5 1 = (u : Int) then 1 else if U 5 2 = (u : Int) then 2 else if U 5 3 = (u : Int) then 3 else 4
theorem hldF_eq {T U : Nat → Nat → Int} (hb : BkOK T) (hi : WI T U) {j u : Nat} (hj : (j : Int) < T 0 0) (hu : U 5 j = (u : Int)) : hldF U u = j := by
  have hJ := hb.1
  have inj := hi.2.2.2.2.2.2.1
  have h : ∀ q : Nat, q < j → U 5 q ≠ (u : Int) := fun q hq e => by
    have := inj q j (by omega) hj (by rw [e, hu]); omega
  have h5 : j = 0 ∨ j = 1 ∨ j = 2 ∨ j = 3 ∨ j = 4 := by omega
  unfold hldF
  rcases h5 with rfl | rfl | rfl | rfl | rfl
  · rw [if_pos hu]
  · rw [if_neg (h 0 (by omega)), if_pos hu]
  · rw [if_neg (h 0 (by omega)), if_neg (h 1 (by omega)), if_pos hu]
  · rw [if_neg (h 0 (by omega)), if_neg (h 1 (by omega)), if_neg (h 2 (by omega)), if_pos hu]
  · rw [if_neg (h 0 (by omega)), if_neg (h 1 (by omega)), if_neg (h 2 (by omega)), if_neg (h 3 (by omega))]
def airQ (T U : Nat → Nat → Int) (mo bt : Int) (ai : Nat → Bool) (h : Nat → Nat) : Nat → (Nat → Nat → Int)
  | 0 => U
  | u + 1 => airC T mo bt ai h (airQ T U mo bt ai h u) u
theorem airQ_fold (T U : Nat → Nat → Int) (mo bt : Int) (ai : Nat → Bool) (h : Nat → Nat) : ∀ u, airQ T U mo bt ai h u = (List.range u).foldl (airC T mo bt ai h) U := by
  intro u
  induction u with
  | zero => rfl
  | succ u ih => rw [List.range_succ, List.foldl_append, ← ih]; rfl
theorem airJ_fold {T U : Nat → Nat → Int} (hb : BkOK T) (hi : WI T U) (mo bt : Int) (ai : Nat → Bool) : ∀ j : Nat, (j : Int) ≤ T 0 0 → airJ T U mo bt ai j = ((List.range j).map (fun q => (U 5 q).toNat)).foldl (airC T mo bt ai (hldF U)) U := by
  intro j
  induction j with
  | zero => intro _; rfl
  | succ j ih =>
    intro hj
    have h5 := hi.1.2.1 j (by omega)
    rw [List.range_succ, List.map_append, List.foldl_append, ← ih (by omega)]
    show _ = airC T mo bt ai (hldF U) (airJ T U mo bt ai j) (U 5 j).toNat
    unfold airC
    rw [hldF_eq hb hi (j := j) (u := (U 5 j).toNat) (by omega) (by omega)]
    rfl
theorem airJ_Q {T U : Nat → Nat → Int} (hb : BkOK T) (hi : WI T U) (mo bt : Int) (ai : Nat → Bool) : airJ T U mo bt ai (T 0 0).toNat = airQ T U mo bt ai (hldF U) (T 0 0).toNat := by
  have hJ := hb.1
  rw [airJ_fold hb hi mo bt ai _ (by omega), airQ_fold]
  refine foldl_perm (airC_cm T mo bt ai (hldF U)) (perm_range _ _ ?_ ?_ ?_) U
  · rw [List.Nodup, List.pairwise_map]
    refine List.Pairwise.imp_of_mem ?_ List.nodup_range
    intro a b ha hb' hab e
    have ha := List.mem_range.mp ha
    have hb' := List.mem_range.mp hb'
    have h1 := hi.1.2.1 a (by omega)
    have h2 := hi.1.2.1 b (by omega)
    exact hab (hi.2.2.2.2.2.2.1 a b (by omega) (by omega) (by omega))
  · intro x hx
    obtain ⟨q, hq, rfl⟩ := List.mem_map.mp hx
    have hq := List.mem_range.mp hq
    have h1 := hi.1.2.1 q (by omega)
    omega
  · rw [List.length_map, List.length_range]
def dfR (σ : Mm) : Int := if gi σ 85 65 = 2 then gi σ 85 66 else -1
def aiR (σ : Mm) (V : Nat → Nat → Int) (u : Nat) : Bool := if gi σ 85 71 = 0 then (decide ((u : Int) = gi σ 85 70) || decide (gi σ 85 65 = 0) || !bi (V 0 1) u) else decide (gi σ 123 u = gi σ 85 72)
/-- what comes today and later isn't heard yet -/
def UH (T V : Nat → Nat → Int) : Prop := ∀ c : Nat, (c : Int) < T 0 1 → V 0 0 ≤ T 6 c → V 3 c = -1
theorem v_aired {n : Nat}  (b : Nat) (u : Nat) {σ : Mm} {P : Int → Mm → Prop} (o1 : (gi σ 85 71) = (0 : Int) → (u : Int) ≠ (gi σ 85 70) → (gi σ 85 65) ≠ (0 : Int) → rg ((5 : Int) * (b : Int))) (o2 : (gi σ 85 71) = (0 : Int) → (u : Int) ≠ (gi σ 85 70) → (gi σ 85 65) ≠ (0 : Int) → rg (((5 : Int) * (b : Int)) + (u : Int))) (o3 : (gi σ 85 71) = (0 : Int) → (u : Int) ≠ (gi σ 85 70) → (gi σ 85 65) ≠ (0 : Int) → (0 ≤ (((5 : Int) * (b : Int)) + (u : Int)) ∧ (((5 : Int) * (b : Int)) + (u : Int)) < 10)) (o4 : (gi σ 85 71) ≠ (0 : Int) → (0 ≤ (u : Int) ∧ (u : Int) < 5)) (l1 : (gi σ 85 71) = (0 : Int) → (u : Int) = (gi σ 85 70) → P 1 σ) (l2 : (gi σ 85 71) = (0 : Int) → (u : Int) ≠ (gi σ 85 70) → (gi σ 85 65) = (0 : Int) → P 1 σ) (l3 : (gi σ 85 71) = (0 : Int) → (u : Int) ≠ (gi σ 85 70) → (gi σ 85 65) ≠ (0 : Int) → (gi σ 112 ((5 * b) + u)) ≠ (0 : Int) → P 0 σ) (l4 : (gi σ 85 71) = (0 : Int) → (u : Int) ≠ (gi σ 85 70) → (gi σ 85 65) ≠ (0 : Int) → (gi σ 112 ((5 * b) + u)) = (0 : Int) → P 1 σ) (l5 : (gi σ 85 71) ≠ (0 : Int) → (gi σ 123 u) ≠ (gi σ 85 72) → P 0 σ) (l6 : (gi σ 85 71) ≠ (0 : Int) → (gi σ 123 u) = (gi σ 85 72) → P 1 σ) : Ci 214 [vr 85, vi (b : Int), vi (u : Int)] (shF n) σ P :=
  show R 214 0 [some (vr 85), some (vi (b : Int)), some (vi (u : Int))] [] (shF n) 0 0 σ (Qi (shF n) P) from wpK_R 22 [] (And.intro (fun q1 => And.intro (fun q2 => And.intro ret0 (And.intro (Or.inr rfl) ⟨rfl, _, rfl, (l1 q1 q2)⟩)) (fun q2 => And.intro (fun q3 => And.intro ret0 (And.intro (Or.inr rfl) ⟨rfl, _, rfl, (l2 q1 q2 q3)⟩)) (fun q3 => (have k4 := (o1 q1 q2 q3); And.intro k4 ((have k5 := (o2 q1 q2 q3); And.intro k5 ((have k6 := (o3 q1 q2 q3); And.intro k6 (And.intro (fun q7 => And.intro ret0 (And.intro (Or.inl rfl) ⟨rfl, _, rfl, (l3 q1 q2 q3 q7)⟩)) (fun q7 => And.intro ret0 (And.intro (Or.inr rfl) ⟨rfl, _, rfl, (l4 q1 q2 q3 (Classical.not_not.mp q7))⟩))))))))))) (fun q1 => (have k8 := (o4 q1); And.intro k8 (And.intro (fun q9 => And.intro ret0 (And.intro (Or.inl rfl) ⟨rfl, _, rfl, (l5 q1 q9)⟩)) (fun q9 => And.intro ret0 (And.intro (Or.inr rfl) ⟨rfl, _, rfl, (l6 q1 (Classical.not_not.mp q9))⟩))))))
theorem c_aired {n b u : Nat} {T V : Nat → Nat → Int} {σ : Mm} {P : Int → Mm → Prop} (hb2 : b < 2) (hu : u < 5) (hw : RW T V σ b) (hP : P (b2i (aiR σ V u)) σ) : Ci 214 [vr 85, vi (b : Int), vi (u : Int)] (shF n) σ P := by
  have e112 := (hw.2.2.2.1 u hu).2.1
  refine v_aired b u (by intros; first | omega | (unfold rg; omega) | (subst_vars; simp only [gi_si, gi_sl, gl_si, gl_sl]; first | omega | (unfold rg; omega))) (by intros; first | omega | (unfold rg; omega) | (subst_vars; simp only [gi_si, gi_sl, gl_si, gl_sl]; first | omega | (unfold rg; omega))) (by intros; first | omega | (unfold rg; omega) | (subst_vars; simp only [gi_si, gi_sl, gl_si, gl_sl]; first | omega | (unfold rg; omega))) (by intros; first | omega | (unfold rg; omega) | (subst_vars; simp only [gi_si, gi_sl, gl_si, gl_sl]; first | omega | (unfold rg; omega))) ?_ ?_ ?_ ?_ ?_ ?_
  all_goals (intros; refine p_eq hP ?_; unfold aiR; simp only [e112] at *; cases hq : bi (V 0 1) u <;> simp_all [b2i])
theorem v_go_0 {n : Nat}  (b : Nat) {σ : Mm} {P : Mm → Prop} (l1 : ∀ t1 : Mm, t1 = si σ 85 64 (0 : Int) → R 215 7 [some (vr 85), some (vi (b : Int)), some (vi 0)] [] (shF n) 0 0 t1 (Qv (shF n) P)) : Cv 215 [vr 85, vi (b : Int)] (shF n) σ P :=
  show R 215 0 [some (vr 85), some (vi (b : Int)), none] [] (shF n) 0 0 σ (Qv (shF n) P) from wpK_R 6 [7] ((l1 _ rfl))
theorem v_go_7 {n : Nat}  (b : Nat) (k : Nat) {M1 : Mm → Prop} {M2 : Mm → Prop} {σ : Mm} {P : Mm → Prop} (o1 : (k : Int) < (gi σ 85 13) → (0 ≤ (k : Int) ∧ (k : Int) < 20)) (o2 : (k : Int) < (gi σ 85 13) → (0 ≤ (b : Int) ∧ (b : Int) < 2)) (o3 : (k : Int) < (gi σ 85 13) → (gi σ 95 k) ≠ (gi σ 120 b) → rg ((k : Int) + 1)) (o4 : (k : Int) < (gi σ 85 13) → (gi σ 95 k) = (gi σ 120 b) → rg ((10 : Int) * (b : Int))) (o5 : (k : Int) < (gi σ 85 13) → (gi σ 95 k) = (gi σ 120 b) → rg (((10 : Int) * (b : Int)) + (k : Int))) (o6 : (k : Int) < (gi σ 85 13) → (gi σ 95 k) = (gi σ 120 b) → (0 ≤ (((10 : Int) * (b : Int)) + (k : Int)) ∧ (((10 : Int) * (b : Int)) + (k : Int)) < 20)) (o7 : (k : Int) < (gi σ 85 13) → (gi σ 95 k) = (gi σ 120 b) → (gi σ 117 ((10 * b) + k)) < (0 : Int) → (gi σ 85 65) ≠ (2 : Int) → Cv 212 [vr 85, vi (b : Int), vi (k : Int)] (shF n) σ M1) (o8 : (k : Int) < (gi σ 85 13) → (gi σ 95 k) = (gi σ 120 b) → (gi σ 117 ((10 * b) + k)) < (0 : Int) → (gi σ 85 65) ≠ (2 : Int) → ∀ s12 : Mm, M1 s12 → rg ((k : Int) + 1)) (o9 : (k : Int) < (gi σ 85 13) → (gi σ 95 k) = (gi σ 120 b) → (gi σ 117 ((10 * b) + k)) < (0 : Int) → (gi σ 85 65) = (2 : Int) → (gi σ 115 ((10 * b) + k)) ≠ (gi σ 85 66) → Cv 212 [vr 85, vi (b : Int), vi (k : Int)] (shF n) σ M2) (o10 : (k : Int) < (gi σ 85 13) → (gi σ 95 k) = (gi σ 120 b) → (gi σ 117 ((10 * b) + k)) < (0 : Int) → (gi σ 85 65) = (2 : Int) → (gi σ 115 ((10 * b) + k)) ≠ (gi σ 85 66) → ∀ s16 : Mm, M2 s16 → rg ((k : Int) + 1)) (o11 : (k : Int) < (gi σ 85 13) → (gi σ 95 k) = (gi σ 120 b) → (gi σ 117 ((10 * b) + k)) < (0 : Int) → (gi σ 85 65) = (2 : Int) → (gi σ 115 ((10 * b) + k)) = (gi σ 85 66) → rg ((k : Int) + 1)) (o12 : (k : Int) < (gi σ 85 13) → (gi σ 95 k) = (gi σ 120 b) → (0 : Int) ≤ (gi σ 117 ((10 * b) + k)) → rg ((k : Int) + 1)) (l1 : (gi σ 85 13) ≤ (k : Int) → R 215 88 [some (vr 85), some (vi (b : Int)), some (vi (k : Int))] [] (shF n) 0 0 σ (Qv (shF n) P)) (l2 : (k : Int) < (gi σ 85 13) → (gi σ 95 k) ≠ (gi σ 120 b) → R 215 7 [some (vr 85), some (vi (b : Int)), some (vi ((k : Int) + 1))] [] (shF n) 0 0 σ (Qv (shF n) P)) (l3 : (k : Int) < (gi σ 85 13) → (gi σ 95 k) = (gi σ 120 b) → (gi σ 117 ((10 * b) + k)) < (0 : Int) → (gi σ 85 65) ≠ (2 : Int) → ∀ s12 : Mm, M1 s12 → R 215 7 [some (vr 85), some (vi (b : Int)), some (vi ((k : Int) + 1))] [] (shF n) 0 0 s12 (Qv (shF n) P)) (l4 : (k : Int) < (gi σ 85 13) → (gi σ 95 k) = (gi σ 120 b) → (gi σ 117 ((10 * b) + k)) < (0 : Int) → (gi σ 85 65) = (2 : Int) → (gi σ 115 ((10 * b) + k)) ≠ (gi σ 85 66) → ∀ s16 : Mm, M2 s16 → R 215 7 [some (vr 85), some (vi (b : Int)), some (vi ((k : Int) + 1))] [] (shF n) 0 0 s16 (Qv (shF n) P)) (l5 : (k : Int) < (gi σ 85 13) → (gi σ 95 k) = (gi σ 120 b) → (gi σ 117 ((10 * b) + k)) < (0 : Int) → (gi σ 85 65) = (2 : Int) → (gi σ 115 ((10 * b) + k)) = (gi σ 85 66) → R 215 7 [some (vr 85), some (vi (b : Int)), some (vi ((k : Int) + 1))] [] (shF n) 0 0 σ (Qv (shF n) P)) (l6 : (k : Int) < (gi σ 85 13) → (gi σ 95 k) = (gi σ 120 b) → (0 : Int) ≤ (gi σ 117 ((10 * b) + k)) → R 215 7 [some (vr 85), some (vi (b : Int)), some (vi ((k : Int) + 1))] [] (shF n) 0 0 σ (Qv (shF n) P)) : R 215 7 [some (vr 85), some (vi (b : Int)), some (vi (k : Int))] [] (shF n) 0 0 σ (Qv (shF n) P) :=
  wpK_R 44 [7, 88] (And.intro (fun q1 => (l1 q1)) (fun q1 => (have k2 := (o1 (Int.not_le.mp q1)); And.intro k2 ((have k3 := (o2 (Int.not_le.mp q1)); And.intro k3 (And.intro (fun q4 => (have k5 := (o3 (Int.not_le.mp q1) q4); And.intro k5 ((l2 (Int.not_le.mp q1) q4)))) (fun q4 => (have k6 := (o4 (Int.not_le.mp q1) (Classical.not_not.mp q4)); And.intro k6 ((have k7 := (o5 (Int.not_le.mp q1) (Classical.not_not.mp q4)); And.intro k7 ((have k8 := (o6 (Int.not_le.mp q1) (Classical.not_not.mp q4)); And.intro k8 (And.intro (fun q9 => And.intro (fun q10 => (Cv_mono (o7 (Int.not_le.mp q1) (Classical.not_not.mp q4) q9 q10) (fun s12 h11 => (have k13 := (o8 (Int.not_le.mp q1) (Classical.not_not.mp q4) q9 q10 s12 h11); And.intro k13 ((l3 (Int.not_le.mp q1) (Classical.not_not.mp q4) q9 q10 s12 h11)))))) (fun q10 => And.intro k6 (And.intro k7 (And.intro k8 (And.intro (fun q14 => (Cv_mono (o9 (Int.not_le.mp q1) (Classical.not_not.mp q4) q9 (Classical.not_not.mp q10) q14) (fun s16 h15 => (have k17 := (o10 (Int.not_le.mp q1) (Classical.not_not.mp q4) q9 (Classical.not_not.mp q10) q14 s16 h15); And.intro k17 ((l4 (Int.not_le.mp q1) (Classical.not_not.mp q4) q9 (Classical.not_not.mp q10) q14 s16 h15)))))) (fun q14 => (have k18 := (o11 (Int.not_le.mp q1) (Classical.not_not.mp q4) q9 (Classical.not_not.mp q10) (Classical.not_not.mp q14)); And.intro k18 ((l5 (Int.not_le.mp q1) (Classical.not_not.mp q4) q9 (Classical.not_not.mp q10) (Classical.not_not.mp q14)))))))))) (fun q9 => (have k19 := (o12 (Int.not_le.mp q1) (Classical.not_not.mp q4) (Int.not_lt.mp q9)); And.intro k19 ((l6 (Int.not_le.mp q1) (Classical.not_not.mp q4) (Int.not_lt.mp q9))))))))))))))))))
theorem v_go_88 {n : Nat}  (b : Nat) (z : Option PV) {σ : Mm} {P : Mm → Prop} (o1 : (0 ≤ (b : Int) ∧ (b : Int) < 2)) (o2 : (0 ≤ (gi σ 120 b) ∧ 0 < (7 : Int))) (l1 : ((gi σ 120 b) % (7 : Int)) ≠ (0 : Int) → R 215 141 [some (vr 85), some (vi (b : Int)), z] [] (shF n) 0 0 σ (Qv (shF n) P)) (l2 : ((gi σ 120 b) % (7 : Int)) = (0 : Int) → R 215 102 [some (vr 85), some (vi (b : Int)), some (vi 0)] [] (shF n) 0 0 σ (Qv (shF n) P)) : R 215 88 [some (vr 85), some (vi (b : Int)), z] [] (shF n) 0 0 σ (Qv (shF n) P) :=
  wpK_R 10 [102, 141] ((have k1 := (o1); And.intro k1 ((have k2 := (o2); And.intro k2 (And.intro (fun q3 => (l1 q3)) (fun q3 => (l2 (Classical.not_not.mp q3))))))))
theorem v_go_102 {n : Nat} (T : Nat → Nat → Int) (V : Nat → Nat → Int) (b : Nat) (k : Nat) {M1 : Mm → Prop} {σ : Mm} {P : Mm → Prop} (o1 : (k : Int) < (gi σ 85 12) → b < 2) (o2 : (k : Int) < (gi σ 85 12) → k < 5) (o3 : (k : Int) < (gi σ 85 12) → RW T V σ b) (o4 : (k : Int) < (gi σ 85 12) → ∀ x2 : Int, x2 = b2i (aiR σ V k) → x2 = (0 : Int) → rg ((k : Int) + 1)) (o5 : (k : Int) < (gi σ 85 12) → ∀ x2 : Int, x2 = b2i (aiR σ V k) → x2 ≠ (0 : Int) → Cv 213 [vr 85, vi (b : Int), vi (k : Int)] (shF n) σ M1) (o6 : (k : Int) < (gi σ 85 12) → ∀ x2 : Int, x2 = b2i (aiR σ V k) → x2 ≠ (0 : Int) → ∀ s6 : Mm, M1 s6 → rg ((k : Int) + 1)) (l1 : (gi σ 85 12) ≤ (k : Int) → R 215 131 [some (vr 85), some (vi (b : Int)), some (vi (k : Int))] [] (shF n) 0 0 σ (Qv (shF n) P)) (l2 : (k : Int) < (gi σ 85 12) → ∀ x2 : Int, x2 = b2i (aiR σ V k) → x2 = (0 : Int) → R 215 102 [some (vr 85), some (vi (b : Int)), some (vi ((k : Int) + 1))] [] (shF n) 0 0 σ (Qv (shF n) P)) (l3 : (k : Int) < (gi σ 85 12) → ∀ x2 : Int, x2 = b2i (aiR σ V k) → x2 ≠ (0 : Int) → ∀ s6 : Mm, M1 s6 → R 215 102 [some (vr 85), some (vi (b : Int)), some (vi ((k : Int) + 1))] [] (shF n) 0 0 s6 (Qv (shF n) P)) : R 215 102 [some (vr 85), some (vi (b : Int)), some (vi (k : Int))] [] (shF n) 0 0 σ (Qv (shF n) P) :=
  wpK_R 16 [102, 131] (And.intro (fun q1 => (l1 q1)) (fun q1 => (c_aired (T := T) (V := V) (b := b) (u := k) (o1 (Int.not_le.mp q1)) (o2 (Int.not_le.mp q1)) (o3 (Int.not_le.mp q1)) (And.intro (fun q3 => (have k4 := (o4 (Int.not_le.mp q1) _ rfl q3); And.intro k4 ((l2 (Int.not_le.mp q1) _ rfl q3)))) (fun q3 => (Cv_mono (o5 (Int.not_le.mp q1) _ rfl q3) (fun s6 h5 => (have k7 := (o6 (Int.not_le.mp q1) _ rfl q3 s6 h5); And.intro k7 ((l3 (Int.not_le.mp q1) _ rfl q3 s6 h5))))))))))
theorem v_go_131 {n : Nat}  (b : Nat) (z : Option PV) {σ : Mm} {P : Mm → Prop} (o1 : rg ((gi σ 85 72) + 1)) (l1 : ∀ t2 : Mm, t2 = si σ 85 72 ((gi σ 85 72) + 1) → R 215 141 [some (vr 85), some (vi (b : Int)), z] [] (shF n) 0 0 t2 (Qv (shF n) P)) : R 215 131 [some (vr 85), some (vi (b : Int)), z] [] (shF n) 0 0 σ (Qv (shF n) P) :=
  wpK_R 7 [141] ((have k1 := (o1); And.intro k1 ((l1 _ rfl))))
theorem v_go_141 {n : Nat}  (b : Nat) (z : Option PV) {σ : Mm} {P : Mm → Prop} (o1 : (0 ≤ (b : Int) ∧ (b : Int) < 2)) (o2 : rg ((gi σ 120 b) + 1)) (l1 : ∀ t3 : Mm, t3 = si σ 120 b ((gi σ 120 b) + 1) → P t3) : R 215 141 [some (vr 85), some (vi (b : Int)), z] [] (shF n) 0 0 σ (Qv (shF n) P) :=
  wpK_R 9 [] ((have k1 := (o1); And.intro k1 ((have k2 := (o2); And.intro k2 (And.intro k1 (And.intro ret0 ⟨rfl, rfl, (l1 _ rfl)⟩))))))
theorem airQ_at {T U : Nat → Nat → Int} {mo bt : Int} {ai : Nat → Bool} {h : Nat → Nat} {f i : Nat} (h4 : f ≠ 4) (h6 : f ≠ 6) (h8 : f ≠ 8) : ∀ u, airQ T U mo bt ai h u f i = U f i := by
  intro u
  induction u with
  | zero => rfl
  | succ u ih =>
    simp only [airQ, airC]
    split
    · rw [airU_at h4 h6 h8, ih]
    · exact ih
theorem WI_day {T A : Nat → Nat → Int} (h : WI T A) (d : Int) (hd : 0 ≤ d) : WI T (fun f i => if f = 0 ∧ i = 0 then d else A f i) := by
  obtain ⟨⟨s1, s2, s3, s4, s5⟩, w1, w2, w3, w4, w5, w6, w7, w8, w9, w10, w11, w12⟩ := h
  have e : ∀ f, f ≠ 0 → (fun i => if f = 0 ∧ i = 0 then d else A f i) = A f := fun f hf => by funext i; simp [hf]
  exact ⟨⟨by simpa using s1, by simpa using s2, by simpa using s3, by simpa using s4, by simpa using hd⟩, by simpa using w1, by simpa using w2, by simpa using w3, by simpa using w4, by simpa using w5, by simpa using w6, by simpa using w7, by simpa using w8, by simpa using w9, by simpa using w10, by simpa using w11, by simpa using w12⟩
theorem RW_day {T A : Nat → Nat → Int} {σ : Mm} {b : Nat} (hw : RW T A σ b) (d : Int) : RW T (fun f i => if f = 0 ∧ i = 0 then d else A f i) (si σ 120 b d) b := by
  obtain ⟨r1, r2, r3, r4, r5, r6, r7⟩ := hw
  refine ⟨by simp [gi_hit], fun c hc => by simpa [gi_ne] using r2 c hc, fun c hc => by simpa [gi_ne] using r3 c hc, fun c hc => by simpa [gi_ne] using r4 c hc, fun c hc => by simpa [gi_ne] using r5 c hc, by simpa [gi_ne] using r6, by simpa [gi_ne] using r7⟩
theorem RW_85 {T A : Nat → Nat → Int} {σ : Mm} {b y : Nat} {v : Int} (hw : RW T A σ b) : RW T A (si σ 85 y v) b := by
  obtain ⟨r1, r2, r3, r4, r5, r6, r7⟩ := hw
  refine ⟨by simpa [gi_ne] using r1, fun c hc => by simpa [gi_ne] using r2 c hc, fun c hc => by simpa [gi_ne] using r3 c hc, fun c hc => by simpa [gi_ne] using r4 c hc, fun c hc => by simpa [gi_ne] using r5 c hc, by simpa [gi_ne] using r6, by simpa [gi_ne] using r7⟩
theorem c_goOn {n b : Nat} {T V : Nat → Nat → Int} {σ : Mm} {P : Mm → Prop} (hb2 : b < 2) (hb : BkOK T) (hr : RB T σ) (hw : RW T V σ b) (hi : WI T V) (huh : UH T V) (hp : PP σ) (hd : V 0 0 < 30000) (hm : 0 ≤ gi σ 85 72 ∧ gi σ 85 72 < 100000)
    (hP : ∀ σ', RG b σ σ' → gi σ' 85 72 = gi σ 85 72 + (if V 0 0 % 7 = 0 then 1 else 0) → RW T (dayV T V (moD T (dmR σ) (V 0 0)) (btR T σ) (dfR σ) (decide (gi σ 85 65 = 3)) (aiR σ V)) σ' b → WI T (dayV T V (moD T (dmR σ) (V 0 0)) (btR T σ) (dfR σ) (decide (gi σ 85 65 = 3)) (aiR σ V)) → UH T (dayV T V (moD T (dmR σ) (V 0 0)) (btR T σ) (dfR σ) (decide (gi σ 85 65 = 3)) (aiR σ V)) → HN (gi σ' 85 64) V (dayV T V (moD T (dmR σ) (V 0 0)) (btR T σ) (dfR σ) (decide (gi σ 85 65 = 3)) (aiR σ V)) → P σ') : Cv 215 [vr 85, vi (b : Int)] (shF n) σ P := by
  have hJ := hb.1
  have hC := hb.2.1
  have hd0 := hi.1.2.2.2.2
  obtain ⟨mo, hmo⟩ : ∃ mo, mo = moD T (dmR σ) (V 0 0) := ⟨_, rfl⟩
  obtain ⟨bt, hbt⟩ : ∃ bt, bt = btR T σ := ⟨_, rfl⟩
  obtain ⟨ai, hai⟩ : ∃ ai, ai = aiR σ V := ⟨_, rfl⟩
  obtain ⟨fr, hfr⟩ : ∃ fr, fr = decide (gi σ 85 65 = 3) := ⟨_, rfl⟩
  obtain ⟨df, hdf⟩ : ∃ df, df = dfR σ := ⟨_, rfl⟩
  rw [← hmo, ← hbt, ← hai, ← hfr, ← hdf] at hP
  have kp : ∀ τ : Mm, RG b σ τ → gi τ 85 65 = gi σ 85 65 ∧ gi τ 85 66 = gi σ 85 66 ∧ dmR τ = dmR σ ∧ btR T τ = btR T σ ∧ PP τ ∧ gi τ 85 13 = T 0 1 ∧ gi τ 85 12 = T 0 0 := fun τ f => by
    have e65 := f.1 85 65 (by unfold hf; omega) (by omega)
    have e67 := f.1 85 67 (by unfold hf; omega) (by omega)
    refine ⟨e65, f.1 85 66 (by unfold hf; omega) (by omega), by unfold dmR; rw [e65, e67], by unfold btR; rw [e65], RG_pp f hp, ?_, ?_⟩
    · rw [f.1 85 13 (by unfold hf; omega) (by omega)]; exact hr.1.2.1
    · rw [f.1 85 12 (by unfold hf; omega) (by omega)]; exact hr.1.1
  have p141 : ∀ (τ : Mm) (A : Nat → Nat → Int) (z : Option PV), RG b σ τ → gi τ 85 72 = gi σ 85 72 + (if V 0 0 % 7 = 0 then 1 else 0) → RW T A τ b → WI T A → A 0 0 = V 0 0 → HN (gi τ 85 64) V A → (dayV T V mo bt df fr ai = fun f i => if f = 0 ∧ i = 0 then V 0 0 + 1 else A f i) → (∀ c : Nat, (c : Int) < T 0 1 → V 0 0 < T 6 c → A 3 c = -1) → R 215 141 [some (vr 85), some (vi (b : Int)), z] [] (shF n) 0 0 τ (Qv (shF n) P) := by
    intro τ A z f1 f2 f3 f4 f5 f6 f7 f8
    have e120 : gi τ 120 b = V 0 0 := by rw [f3.1, f5]
    refine v_go_141 b z (by intros; first | omega | (unfold rg; omega) | (subst_vars; simp only [gi_si, gi_sl, gl_si, gl_sl]; first | omega | (unfold rg; omega))) (by intros; first | omega | (unfold rg; omega) | (subst_vars; simp only [gi_si, gi_sl, gl_si, gl_sl]; first | omega | (unfold rg; omega))) ?_
    intro t ht
    rw [e120] at ht
    subst ht
    rw [f7] at hP
    refine hP _ ⟨fun a i p q => ?_, fun a i p q => f1.2 a i p q⟩ (by rw [gi_ne (by omega)]; exact f2) (RW_day f3 _) (WI_day f4 _ (by omega)) (fun c hc h => ?_) ?_
    · unfold hf at p
      rw [gi_si, if_neg (by omega)]
      exact f1.1 a i (by unfold hf; omega) q
    · simp only [if_neg (show ¬ ((3 : Nat) = 0 ∧ c = 0) by omega)]
      refine f8 c hc ?_
      simp at h
      omega
    · rw [gi_ne (by omega)]
      exact f6
  have p88 : ∀ (τ : Mm) (U : Nat → Nat → Int) (z : Option PV), RG b σ τ → gi τ 85 72 = gi σ 85 72 → gi τ 85 64 = 0 → RW T U τ b → WI T U → U 0 = V 0 → U 8 = V 8 → (∀ c : Nat, (c : Int) < T 0 1 → V 0 0 < T 6 c → U 3 c = -1) → U = hearsV T V mo df fr (T 0 1).toNat → R 215 88 [some (vr 85), some (vi (b : Int)), z] [] (shF n) 0 0 τ (Qv (shF n) P) := by
    intro τ U z f1 f2 f3 f4 f5 f6 f7 f8 f9
    have e120 : gi τ 120 b = V 0 0 := by rw [f4.1, f6]
    have hn0 : HN (gi τ 85 64) V U := by
      rw [f3]
      refine ⟨by omega, fun i hi' => ?_, fun i x hi' h => by rw [f7]; exact h⟩
      rw [bi_0, f7]; simp
    refine v_go_88 b z (by intros; first | omega | (unfold rg; omega)) (by intros; first | omega | (unfold rg; omega)) ?_ ?_
    · intro h
      rw [e120] at h
      refine p141 τ U z f1 (by rw [if_neg h, f2]; omega) f4 f5 (by rw [f6]) hn0 ?_ f8
      unfold dayV
      simp only [if_neg h, ← f9]
    · intro h
      rw [e120] at h
      have hJQ := airJ_Q hb f5 mo bt ai
      refine loopUp (N := (T 0 0).toNat) (I := fun u => ∀ τ1 : Mm, RG b σ τ1 → gi τ1 85 72 = gi σ 85 72 → RW T (airQ T U mo bt ai (hldF U) u) τ1 b → WI T (airQ T U mo bt ai (hldF U) u) → HN (gi τ1 85 64) V (airQ T U mo bt ai (hldF U) u) → R 215 102 [some (vr 85), some (vi (b : Int)), some (vi (u : Int))] [] (shF n) 0 0 τ1 (Qv (shF n) P)) (fun u hu ih => ?_) 0 (by omega) τ f1 f2 f4 f5 hn0
      intro τ1 g1 g2 g3 g4 g5
      obtain ⟨k65, k66, kdm, kbt, kpp, k13, k12⟩ := kp τ1 g1
      have hQ0 : airQ T U mo bt ai (hldF U) u 0 = V 0 := by funext i; rw [airQ_at (by omega) (by omega) (by omega), f6]
      have hai1 : aiR τ1 (airQ T U mo bt ai (hldF U) u) u = ai u := by
        rw [show ai u = aiR σ V u from congrFun hai u]
        unfold aiR
        rw [hQ0, k65, g2, g1.1 85 71 (by unfold hf; omega) (by omega), g1.1 85 70 (by unfold hf; omega) (by omega), g1.1 123 u (by unfold hf; omega) (by omega)]
      have hcall : (u : Int) < T 0 0 → Cv 213 [vr 85, vi (b : Int), vi (u : Int)] (shF n) τ1 (fun s => RG b τ1 s ∧ gi s 85 72 = gi τ1 85 72 ∧ RW T (airU T (airQ T U mo bt ai (hldF U) u) u (outN T (airQ T U mo bt ai (hldF U) u) mo bt (hldF U u) u)) s b ∧ WI T (airU T (airQ T U mo bt ai (hldF U) u) u (outN T (airQ T U mo bt ai (hldF U) u) mo bt (hldF U u) u)) ∧ HN (gi s 85 64) V (airU T (airQ T U mo bt ai (hldF U) u) u (outN T (airQ T U mo bt ai (hldF U) u) mo bt (hldF U u) u))) := fun huJ => by
        obtain ⟨j, j1, j2⟩ := f5.2.2.2.2.2.2.2.1 u huJ
        have hh := hldF_eq hb f5 j1 j2
        rw [hh]
        have hc := c_airR (n := n) (V0 := V) (P := fun s => RG b τ1 s ∧ gi s 85 72 = gi τ1 85 72 ∧ RW T (airU T (airQ T U mo bt ai (hldF U) u) u (outN T (airQ T U mo bt ai (hldF U) u) mo bt j u)) s b ∧ WI T (airU T (airQ T U mo bt ai (hldF U) u) u (outN T (airQ T U mo bt ai (hldF U) u) mo bt j u)) ∧ HN (gi s 85 64) V (airU T (airQ T U mo bt ai (hldF U) u) u (outN T (airQ T U mo bt ai (hldF U) u) mo bt j u))) hb2 hb (g1.rb hr) g3 g4 kpp huJ j1 (by rw [airQ_at (by omega) (by omega) (by omega)]; exact j2) (by rw [hQ0]; omega) g5
        rw [kdm, kbt, hQ0, ← hmo, ← hbt] at hc
        exact hc (fun s a1 a2 a3 a4 a5 => ⟨a1, a2, a3, a4, a5⟩)
      refine v_go_102 T (airQ T U mo bt ai (hldF U) u) b u (M1 := fun s => RG b τ1 s ∧ gi s 85 72 = gi τ1 85 72 ∧ RW T (airU T (airQ T U mo bt ai (hldF U) u) u (outN T (airQ T U mo bt ai (hldF U) u) mo bt (hldF U u) u)) s b ∧ WI T (airU T (airQ T U mo bt ai (hldF U) u) u (outN T (airQ T U mo bt ai (hldF U) u) mo bt (hldF U u) u)) ∧ HN (gi s 85 64) V (airU T (airQ T U mo bt ai (hldF U) u) u (outN T (airQ T U mo bt ai (hldF U) u) mo bt (hldF U u) u))) (by intros; rw [k12] at *; first | omega | (unfold rg; omega) | exact g3 | exact hcall (by assumption)) (by intros; rw [k12] at *; first | omega | (unfold rg; omega) | exact g3 | exact hcall (by assumption)) (by intros; rw [k12] at *; first | omega | (unfold rg; omega) | exact g3 | exact hcall (by assumption)) (by intros; rw [k12] at *; first | omega | (unfold rg; omega) | exact g3 | exact hcall (by assumption)) (by intros; rw [k12] at *; first | omega | (unfold rg; omega) | exact g3 | exact hcall (by assumption)) (by intros; rw [k12] at *; first | omega | (unfold rg; omega) | exact g3 | exact hcall (by assumption)) ?_ ?_ ?_
      · intro hge
        rw [k12] at hge
        have huN : u = (T 0 0).toNat := by omega
        refine v_go_131 b (some (vi (u : Int))) (by intros; first | omega | (unfold rg; omega)) ?_
        intro t2 ht2
        subst ht2
        refine p141 _ (airQ T U mo bt ai (hldF U) u) _ ⟨fun a i p q => ?_, fun a i p q => g1.2 a i p q⟩ (by rw [gi_hit, if_pos h, g2]) (RW_85 g3) g4 (by rw [hQ0]) (by rw [gi_si, if_neg (by omega)]; exact g5) ?_ (fun c hc hlt => ?_)
        · rw [gi_si, if_neg (by omega)]; exact g1.1 a i p q
        · unfold dayV
          simp only [if_pos h, ← f9]
          rw [hJQ, huN]
        · rw [airQ_at (by omega) (by omega) (by omega)]; exact f8 c hc hlt
      · intro hlt x2 hx2 h0
        rw [k12] at hlt
        rw [hai1] at hx2
        have hf0 : ai u = false := b2i_z (hx2.symm.trans h0)
        have e : airQ T U mo bt ai (hldF U) (u + 1) = airQ T U mo bt ai (hldF U) u := by simp only [airQ, airC, hf0]; rfl
        exact ih (by omega) τ1 g1 g2 (by rw [e]; exact g3) (by rw [e]; exact g4) (by rw [e]; exact g5)
      · intro hlt x2 hx2 h0 s hs
        rw [k12] at hlt
        rw [hai1] at hx2
        have hf1 : ai u = true := b2i_nz (by rw [← hx2]; exact h0)
        have e : airQ T U mo bt ai (hldF U) (u + 1) = airU T (airQ T U mo bt ai (hldF U) u) u (outN T (airQ T U mo bt ai (hldF U) u) mo bt (hldF U u) u) := by simp only [airQ, airC, hf1]; rfl
        obtain ⟨a1, a2, a3, a4, a5⟩ := hs
        exact ih (by omega) s (g1.tr a1) (a2.trans g2) (by rw [e]; exact a3) (by rw [e]; exact a4) (by rw [e]; exact a5)
  refine v_go_0 b ?_
  intro t0 ht0
  refine loopUp (N := (T 0 1).toNat) (I := fun k => ∀ τ : Mm, RG b σ τ → gi τ 85 72 = gi σ 85 72 → gi τ 85 64 = 0 → RW T (hearsV T V mo df fr k) τ b → WI T (hearsV T V mo df fr k) → (∀ c : Nat, (c : Int) < T 0 1 → (V 0 0 < T 6 c ∨ (V 0 0 ≤ T 6 c ∧ k ≤ c)) → hearsV T V mo df fr k 3 c = -1) → R 215 7 [some (vr 85), some (vi (b : Int)), some (vi (k : Int))] [] (shF n) 0 0 τ (Qv (shF n) P)) (fun k hk ih => ?_) 0 (by omega) t0 (by rw [ht0]; exact ⟨fun a i p q => by rw [gi_si, if_neg (by omega)], fun _ _ _ _ => rfl⟩) (by rw [ht0, gi_si, if_neg (by omega)]) (by rw [ht0, gi_hit]) (by rw [ht0]; exact RW_85 hw) hi (fun c hc h => huh c hc (by omega))
  intro τ g1 g2 g3 g4 g5 g6
  obtain ⟨k65, k66, kdm, kbt, kpp, k13, k12⟩ := kp τ g1
  obtain ⟨U, hU⟩ : ∃ U, U = hearsV T V mo df fr k := ⟨_, rfl⟩
  rw [← hU] at g4 g5 g6
  have hU0 : U 0 = V 0 := by funext i; rw [hU, hearsV_at (by omega) (by omega) (by omega) (by omega) (by omega)]
  have hU8 : U 8 = V 8 := by funext i; rw [hU, hearsV_at (by omega) (by omega) (by omega) (by omega) (by omega)]
  have e120 : gi τ 120 b = V 0 0 := by rw [g4.1, hU0]
  have e95 : (k : Int) < T 0 1 → gi τ 95 k = T 6 k := fun h => ((g1.rb hr).2.2.1 k h).2.2.1
  have e117 : (k : Int) < T 0 1 → gi τ 117 (10 * b + k) = U 3 k := fun h => (g4.2.2.1 k (by omega)).2.1
  have e115 : (k : Int) < T 0 1 → gi τ 115 (10 * b + k) = U 1 k := fun h => g4.2.1 k h
  have hU1 : (k : Int) < T 0 1 → 0 ≤ U 1 k := fun h => (g5.1.1 k h).1
  have hU3 : (k : Int) < T 0 1 → T 6 k = V 0 0 → U 3 k = -1 := fun h e => g6 k h (Or.inr ⟨by omega, Nat.le_refl _⟩)
  have hcall : (k : Int) < T 0 1 → T 6 k = V 0 0 → Cv 212 [vr 85, vi (b : Int), vi (k : Int)] (shF n) τ (fun s => RF b τ s ∧ RW T (hearV T U mo fr k) s b) := fun h e => by
    have hc := c_hearR (n := n) (P := fun s => RF b τ s ∧ RW T (hearV T U mo fr k) s b) hb2 hb (g1.rb hr) g4 g5 kpp h (hU3 h e) (by rw [hU0]; omega)
    rw [kdm, hU0, k65, ← hmo, ← hfr] at hc
    exact hc (fun s a1 a2 => ⟨a1, a2⟩)
  have skip : (k : Int) < T 0 1 → ¬ (T 6 k = V 0 0 ∧ U 1 k ≠ df) → R 215 7 [some (vr 85), some (vi (b : Int)), some (vi ((k : Int) + 1))] [] (shF n) 0 0 τ (Qv (shF n) P) := fun h hno => by
    have e : hearsV T V mo df fr (k + 1) = U := by simp only [hearsV]; rw [← hU, if_neg hno]
    exact ih (by omega) τ g1 g2 g3 (by rw [e]; exact g4) (by rw [e]; exact g5) (fun c hc h' => by rw [e]; exact g6 c hc (by omega))
  have take : (k : Int) < T 0 1 → T 6 k = V 0 0 → U 1 k ≠ df → ∀ s, RF b τ s ∧ RW T (hearV T U mo fr k) s b → R 215 7 [some (vr 85), some (vi (b : Int)), some (vi ((k : Int) + 1))] [] (shF n) 0 0 s (Qv (shF n) P) := fun h e1 e2 s hs => by
    have e : hearsV T V mo df fr (k + 1) = hearV T U mo fr k := by simp only [hearsV]; rw [← hU, if_pos ⟨e1, e2⟩]
    refine ih (by omega) s (g1.tr hs.1.rg) (by rw [hs.1.1 85 72 (by unfold hf; omega) (by omega)]; exact g2) (by rw [hs.1.1 85 64 (by unfold hf; omega) (by omega)]; exact g3) (by rw [e]; exact hs.2) (by rw [e]; exact WI_hear hb g5 h (hU3 h e1)) (fun c hc h' => ?_)
    rw [e, hearV_3 (by intro z; subst z; omega)]
    exact g6 c hc (by omega)
  have hdf2 : gi σ 85 65 ≠ 2 → df = -1 := fun h => by rw [hdf]; unfold dfR; rw [if_neg h]
  have hdf3 : gi σ 85 65 = 2 → df = gi σ 85 66 := fun h => by rw [hdf]; unfold dfR; rw [if_pos h]
  refine v_go_7 b k (M1 := fun s => RF b τ s ∧ RW T (hearV T U mo fr k) s b) (M2 := fun s => RF b τ s ∧ RW T (hearV T U mo fr k) s b) (by intros; rw [k13] at *; first | omega | (unfold rg; omega) | (rw [e95 (by assumption), e120] at *; exact hcall (by assumption) (by assumption))) (by intros; rw [k13] at *; first | omega | (unfold rg; omega) | (rw [e95 (by assumption), e120] at *; exact hcall (by assumption) (by assumption))) (by intros; rw [k13] at *; first | omega | (unfold rg; omega) | (rw [e95 (by assumption), e120] at *; exact hcall (by assumption) (by assumption))) (by intros; rw [k13] at *; first | omega | (unfold rg; omega) | (rw [e95 (by assumption), e120] at *; exact hcall (by assumption) (by assumption))) (by intros; rw [k13] at *; first | omega | (unfold rg; omega) | (rw [e95 (by assumption), e120] at *; exact hcall (by assumption) (by assumption))) (by intros; rw [k13] at *; first | omega | (unfold rg; omega) | (rw [e95 (by assumption), e120] at *; exact hcall (by assumption) (by assumption))) (by intros; rw [k13] at *; first | omega | (unfold rg; omega) | (rw [e95 (by assumption), e120] at *; exact hcall (by assumption) (by assumption))) (by intros; rw [k13] at *; first | omega | (unfold rg; omega) | (rw [e95 (by assumption), e120] at *; exact hcall (by assumption) (by assumption))) (by intros; rw [k13] at *; first | omega | (unfold rg; omega) | (rw [e95 (by assumption), e120] at *; exact hcall (by assumption) (by assumption))) (by intros; rw [k13] at *; first | omega | (unfold rg; omega) | (rw [e95 (by assumption), e120] at *; exact hcall (by assumption) (by assumption))) (by intros; rw [k13] at *; first | omega | (unfold rg; omega) | (rw [e95 (by assumption), e120] at *; exact hcall (by assumption) (by assumption))) (by intros; rw [k13] at *; first | omega | (unfold rg; omega) | (rw [e95 (by assumption), e120] at *; exact hcall (by assumption) (by assumption))) ?_ ?_ ?_ ?_ ?_ ?_
  · intro h
    rw [k13] at h
    have hkN : k = (T 0 1).toNat := by omega
    exact p88 τ U _ g1 g2 g3 g4 g5 hU0 hU8 (fun c hc h' => g6 c hc (Or.inl h')) (by rw [hU, hkN])
  · intro h1 h2
    rw [k13] at h1
    rw [e95 h1, e120] at h2
    exact skip h1 (fun z => h2 z.1)
  · intro h1 h2 h3 h4 s hs
    rw [k13] at h1
    rw [e95 h1, e120] at h2
    rw [k65] at h4
    exact take h1 h2 (by rw [hdf2 h4]; have := hU1 h1; omega) s hs
  · intro h1 h2 h3 h4 h5 s hs
    rw [k13] at h1
    rw [e95 h1, e120] at h2
    rw [k65] at h4
    rw [e115 h1, k66] at h5
    exact take h1 h2 (by rw [hdf3 h4]; exact h5) s hs
  · intro h1 h2 h3 h4 h5
    rw [k13] at h1
    rw [k65] at h4
    rw [e115 h1, k66] at h5
    exact skip h1 (fun z => z.2 (by rw [hdf3 h4]; exact h5))
  · intro h1 h2 h3
    rw [k13] at h1
    rw [e95 h1, e120] at h2
    rw [e117 h1, hU3 h1 h2] at h3
    omega
