/-! A DAY: the reference's side -/
def hldF (U : Nat → Nat → Int) (u : Nat) : Nat := if U 5 0 = (u : Int) then 0 else if U 5 1 = (u : Int) then 1 else if U 5 2 = (u : Int) then 2 else if U 5 3 = (u : Int) then 3 else 4
theorem hldF_eq {T U : Nat → Nat → Int} (hb : BkOK T) (hi : WI T U) {j u : Nat} (hj : (j : Int) < T 0 0) (hu : U 5 j = (u : Int)) : hldF U u = j := by
  have hJ := hb.1
  have inj := hi.2.2.2.2.2.2.1
  have h : ∀ q : Nat, q < j → U 5 q ≠ (u : Int) := fun q hq e => by
    have := inj q j (by omega) hj (by rw [e, hu]); omega
  have h5 : j = 0 ∨ j = 1 ∨ j = 2 ∨ j = 3 ∨ j = 4 := by omega
  unfold hldF
  rcases h5 with rfl | rfl | rfl | rfl | rfl
  · rw [if_pos hu]
  · rw [if_neg (h 0 (by omega)), if_pos hu]
  · rw [if_neg (h 0 (by omega)), if_neg (h 1 (by omega)), if_pos hu]
  · rw [if_neg (h 0 (by omega)), if_neg (h 1 (by omega)), if_neg (h 2 (by omega)), if_pos hu]
  · rw [if_neg (h 0 (by omega)), if_neg (h 1 (by omega)), if_neg (h 2 (by omega)), if_neg (h 3 (by omega))]
def airQ (T U : Nat → Nat → Int) (mo bt : Int) (ai : Nat → Bool) (h : Nat → Nat) : Nat → (Nat → Nat → Int)
  | 0 => U
  | u + 1 => airC T mo bt ai h (airQ T U mo bt ai h u) u
theorem airQ_fold (T U : Nat → Nat → Int) (mo bt : Int) (ai : Nat → Bool) (h : Nat → Nat) : ∀ u, airQ T U mo bt ai h u = (List.range u).foldl (airC T mo bt ai h) U := by
  intro u
  induction u with
  | zero => rfl
  | succ u ih => rw [List.range_succ, List.foldl_append, ← ih]; rfl
theorem airJ_fold {T U : Nat → Nat → Int} (hb : BkOK T) (hi : WI T U) (mo bt : Int) (ai : Nat → Bool) : ∀ j : Nat, (j : Int) ≤ T 0 0 → airJ T U mo bt ai j = ((List.range j).map (fun q => (U 5 q).toNat)).foldl (airC T mo bt ai (hldF U)) U := by
  intro j
  induction j with
  | zero => intro _; rfl
  | succ j ih =>
    intro hj
    have h5 := hi.1.2.1 j (by omega)
    rw [List.range_succ, List.map_append, List.foldl_append, ← ih (by omega)]
    show _ = airC T mo bt ai (hldF U) (airJ T U mo bt ai j) (U 5 j).toNat
    unfold airC
    rw [hldF_eq hb hi (j := j) (u := (U 5 j).toNat) (by omega) (by omega)]
    rfl
theorem airJ_Q {T U : Nat → Nat → Int} (hb : BkOK T) (hi : WI T U) (mo bt : Int) (ai : Nat → Bool) : airJ T U mo bt ai (T 0 0).toNat = airQ T U mo bt ai (hldF U) (T 0 0).toNat := by
  have hJ := hb.1
  rw [airJ_fold hb hi mo bt ai _ (by omega), airQ_fold]
  refine foldl_perm (airC_cm T mo bt ai (hldF U)) (perm_range _ _ ?_ ?_ ?_) U
  · rw [List.Nodup, List.pairwise_map]
    refine List.Pairwise.imp_of_mem ?_ List.nodup_range
    intro a b ha hb' hab e
    have ha := List.mem_range.mp ha
    have hb' := List.mem_range.mp hb'
    have h1 := hi.1.2.1 a (by omega)
    have h2 := hi.1.2.1 b (by omega)
    exact hab (hi.2.2.2.2.2.2.1 a b (by omega) (by omega) (by omega))
  · intro x hx
    obtain ⟨q, hq, rfl⟩ := List.mem_map.mp hx
    have hq := List.mem_range.mp hq
    have h1 := hi.1.2.1 q (by omega)
    omega
  · rw [List.length_map, List.length_range]
def dfR (σ : Mm) : Int := if gi σ 85 65 = 2 then gi σ 85 66 else -1
def aiR (σ : Mm) (V : Nat → Nat → Int) (u : Nat) : Bool := if gi σ 85 71 = 0 then (decide ((u : Int) = gi σ 85 70) || decide (gi σ 85 65 = 0) || !bi (V 0 1) u) else decide (gi σ 123 u = gi σ 85 72)
/-- what comes today and later isn't heard yet -/
def UH (T V : Nat → Nat → Int) : Prop := ∀ c : Nat, (c : Int) < T 0 1 → V 0 0 ≤ T 6 c → V 3 c = -1
theorem v_aired {n : Nat}  (b : Nat) (u : Nat) {σ : Mm} {P : Int → Mm → Prop} (o1 : (gi σ 85 71) = (0 : Int) → (u : Int) ≠ (gi σ 85 70) → (gi σ 85 65) ≠ (0 : Int) → rg ((5 : Int) * (b : Int))) (o2 : (gi σ 85 71) = (0 : Int) → (u : Int) ≠ (gi σ 85 70) → (gi σ 85 65) ≠ (0 : Int) → rg (((5 : Int) * (b : Int)) + (u : Int))) (o3 : (gi σ 85 71) = (0 : Int) → (u : Int) ≠ (gi σ 85 70) → (gi σ 85 65) ≠ (0 : Int) → (0 ≤ (((5 : Int) * (b : Int)) + (u : Int)) ∧ (((5 : Int) * (b : Int)) + (u : Int)) < 10)) (o4 : (gi σ 85 71) ≠ (0 : Int) → (0 ≤ (u : Int) ∧ (u : Int) < 5)) (l1 : (gi σ 85 71) = (0 : Int) → (u : Int) = (gi σ 85 70) → P 1 σ) (l2 : (gi σ 85 71) = (0 : Int) → (u : Int) ≠ (gi σ 85 70) → (gi σ 85 65) = (0 : Int) → P 1 σ) (l3 : (gi σ 85 71) = (0 : Int) → (u : Int) ≠ (gi σ 85 70) → (gi σ 85 65) ≠ (0 : Int) → (gi σ 112 ((5 * b) + u)) ≠ (0 : Int) → P 0 σ) (l4 : (gi σ 85 71) = (0 : Int) → (u : Int) ≠ (gi σ 85 70) → (gi σ 85 65) ≠ (0 : Int) → (gi σ 112 ((5 * b) + u)) = (0 : Int) → P 1 σ) (l5 : (gi σ 85 71) ≠ (0 : Int) → (gi σ 123 u) ≠ (gi σ 85 72) → P 0 σ) (l6 : (gi σ 85 71) ≠ (0 : Int) → (gi σ 123 u) = (gi σ 85 72) → P 1 σ) : Ci 214 [vr 85, vi (b : Int), vi (u : Int)] (shF n) σ P :=
  show R 214 0 [some (vr 85), some (vi (b : Int)), some (vi (u : Int))] [] (shF n) 0 0 σ (Qi (shF n) P) from wpK_R 22 [] (And.intro (fun q1 => And.intro (fun q2 => And.intro ret0 (And.intro (Or.inr rfl) ⟨rfl, _, rfl, (l1 q1 q2)⟩)) (fun q2 => And.intro (fun q3 => And.intro ret0 (And.intro (Or.inr rfl) ⟨rfl, _, rfl, (l2 q1 q2 q3)⟩)) (fun q3 => (have k4 := (o1 q1 q2 q3); And.intro k4 ((have k5 := (o2 q1 q2 q3); And.intro k5 ((have k6 := (o3 q1 q2 q3); And.intro k6 (And.intro (fun q7 => And.intro ret0 (And.intro (Or.inl rfl) ⟨rfl, _, rfl, (l3 q1 q2 q3 q7)⟩)) (fun q7 => And.intro ret0 (And.intro (Or.inr rfl) ⟨rfl, _, rfl, (l4 q1 q2 q3 (Classical.not_not.mp q7))⟩))))))))))) (fun q1 => (have k8 := (o4 q1); And.intro k8 (And.intro (fun q9 => And.intro ret0 (And.intro (Or.inl rfl) ⟨rfl, _, rfl, (l5 q1 q9)⟩)) (fun q9 => And.intro ret0 (And.intro (Or.inr rfl) ⟨rfl, _, rfl, (l6 q1 (Classical.not_not.mp q9))⟩))))))
theorem c_aired {n b u : Nat} {T V : Nat → Nat → Int} {σ : Mm} {P : Int → Mm → Prop} (hb2 : b < 2) (hu : u < 5) (hw : RW T V σ b) (hP : P (b2i (aiR σ V u)) σ) : Ci 214 [vr 85, vi (b : Int), vi (u : Int)] (shF n) σ P := by
  have e112 := (hw.2.2.2.1 u hu).2.1
  refine v_aired b u (by intros; first | omega | (unfold rg; omega) | (subst_vars; simp only [gi_si, gi_sl, gl_si, gl_sl]; first | omega | (unfold rg; omega))) (by intros; first | omega | (unfold rg; omega) | (subst_vars; simp only [gi_si, gi_sl, gl_si, gl_sl]; first | omega | (unfold rg; omega))) (by intros; first | omega | (unfold rg; omega) | (subst_vars; simp only [gi_si, gi_sl, gl_si, gl_sl]; first | omega | (unfold rg; omega))) (by intros; first | omega | (unfold rg; omega) | (subst_vars; simp only [gi_si, gi_sl, gl_si, gl_sl]; first | omega | (unfold rg; omega))) ?_ ?_ ?_ ?_ ?_ ?_
  all_goals (intros; refine p_eq hP ?_; unfold aiR; simp only [e112] at *; cases hq : bi (V 0 1) u <;> simp_all [b2i])
theorem v_go_0 {n : Nat}  (b : Nat) {σ : Mm} {P : Mm → Prop} (l1 : ∀ t1 : Mm, t1 = si σ 85 64 (0 : Int) → R 215 7 [some (vr 85), some (vi (b : Int)), some (vi 0)] [] (shF n) 0 0 t1 (Qv (shF n) P)) : Cv 215 [vr 85, vi (b : Int)] (shF n) σ P :=
  show R 215 0 [some (vr 85), some (vi (b : Int)), none] [] (shF n) 0 0 σ (Qv (shF n) P) from wpK_R 6 [7] ((l1 _ rfl))
theorem v_go_7 {n : Nat}  (b : Nat) (k : Nat) {M1 : Mm → Prop} {M2 : Mm → Prop} {σ : Mm} {P : Mm → Prop} (o1 : (k : Int) < (gi σ 85 13) → (0 ≤ (k : Int) ∧ (k : Int) < 20)) (o2 : (k : Int) < (gi σ 85 13) → (0 ≤ (b : Int) ∧ (b : Int) < 2)) (o3 : (k : Int) < (gi σ 85 13) → (gi σ 95 k) ≠ (gi σ 120 b) → rg ((k : Int) + 1)) (o4 : (k : Int) < (gi σ 85 13) → (gi σ 95 k) = (gi σ 120 b) → rg ((10 : Int) * (b : Int))) (o5 : (k : Int) < (gi σ 85 13) → (gi σ 95 k) = (gi σ 120 b) → rg (((10 : Int) * (b : Int)) + (k : Int))) (o6 : (k : Int) < (gi σ 85 13) → (gi σ 95 k) = (gi σ 120 b) → (0 ≤ (((10 : Int) * (b : Int)) + (k : Int)) ∧ (((10 : Int) * (b : Int)) + (k : Int)) < 20)) (o7 : (k : Int) < (gi σ 85 13) → (gi σ 95 k) = (gi σ 120 b) → (gi σ 117 ((10 * b) + k)) < (0 : Int) → (gi σ 85 65) ≠ (2 : Int) → Cv 212 [vr 85, vi (b : Int), vi (k : Int)] (shF n) σ M1) (o8 : (k : Int) < (gi σ 85 13) → (gi σ 95 k) = (gi σ 120 b) → (gi σ 117 ((10 * b) + k)) < (0 : Int) → (gi σ 85 65) ≠ (2 : Int) → ∀ s12 : Mm, M1 s12 → rg ((k : Int) + 1)) (o9 : (k : Int) < (gi σ 85 13) → (gi σ 95 k) = (gi σ 120 b) → (gi σ 117 ((10 * b) + k)) < (0 : Int) → (gi σ 85 65) = (2 : Int) → (gi σ 115 ((10 * b) + k)) ≠ (gi σ 85 66) → Cv 212 [vr 85, vi (b : Int), vi (k : Int)] (shF n) σ M2) (o10 : (k : Int) < (gi σ 85 13) → (gi σ 95 k) = (gi σ 120 b) → (gi σ 117 ((10 * b) + k)) < (0 : Int) → (gi σ 85 65) = (2 : Int) → (gi σ 115 ((10 * b) + k)) ≠ (gi σ 85 66) → ∀ s16 : Mm, M2 s16 → rg ((k : Int) + 1)) (o11 : (k : Int) < (gi σ 85 13) → (gi σ 95 k) = (gi σ 120 b) → (gi σ 117 ((10 * b) + k)) < (0 : Int) → (gi σ 85 65) = (2 : Int) → (gi σ 115 ((10 * b) + k)) = (gi σ 85 66) → rg ((k : Int) + 1)) (o12 : (k : Int) < (gi σ 85 13) → (gi σ 95 k) = (gi σ 120 b) → (0 : Int) ≤ (gi σ 117 ((10 * b) + k)) → rg ((k : Int) + 1)) (l1 : (gi σ 85 13) ≤ (k : Int) → R 215 88 [some (vr 85), some (vi (b : Int)), some (vi (k : Int))] [] (shF n) 0 0 σ (Qv (shF n) P)) (l2 : (k : Int) < (gi σ 85 13) → (gi σ 95 k) ≠ (gi σ 120 b) → R 215 7 [some (vr 85), some (vi (b : Int)), some (vi ((k : Int) + 1))] [] (shF n) 0 0 σ (Qv (shF n) P)) (l3 : (k : Int) < (gi σ 85 13) → (gi σ 95 k) = (gi σ 120 b) → (gi σ 117 ((10 * b) + k)) < (0 : Int) → (gi σ 85 65) ≠ (2 : Int) → ∀ s12 : Mm, M1 s12 → R 215 7 [some (vr 85), some (vi (b : Int)), some (vi ((k : Int) + 1))] [] (shF n) 0 0 s12 (Qv (shF n) P)) (l4 : (k : Int) < (gi σ 85 13) → (gi σ 95 k) = (gi σ 120 b) → (gi σ 117 ((10 * b) + k)) < (0 : Int) → (gi σ 85 65) = (2 : Int) → (gi σ 115 ((10 * b) + k)) ≠ (gi σ 85 66) → ∀ s16 : Mm, M2 s16 → R 215 7 [some (vr 85), some (vi (b : Int)), some (vi ((k : Int) + 1))] [] (shF n) 0 0 s16 (Qv (shF n) P)) (l5 : (k : Int) < (gi σ 85 13) → (gi σ 95 k) = (gi σ 120 b) → (gi σ 117 ((10 * b) + k)) < (0 : Int) → (gi σ 85 65) = (2 : Int) → (gi σ 115 ((10 * b) + k)) = (gi σ 85 66) → R 215 7 [some (vr 85), some (vi (b : Int)), some (vi ((k : Int) + 1))] [] (shF n) 0 0 σ (Qv (shF n) P)) (l6 : (k : Int) < (gi σ 85 13) → (gi σ 95 k) = (gi σ 120 b) → (0 : Int) ≤ (gi σ 117 ((10 * b) + k)) → R 215 7 [some (vr 85), some (vi (b : Int)), some (vi ((k : Int) + 1))] [] (shF n) 0 0 σ (Qv (shF n) P)) : R 215 7 [some (vr 85), some (vi (b : Int)), some (vi (k : Int))] [] (shF n) 0 0 σ (Qv (shF n) P) :=
  wpK_R 44 [7, 88] (And.intro (fun q1 => (l1 q1)) (fun q1 => (have k2 := (o1 (Int.not_le.mp q1)); And.intro k2 ((have k3 := (o2 (Int.not_le.mp q1)); And.intro k3 (And.intro (fun q4 => (have k5 := (o3 (Int.not_le.mp q1) q4); And.intro k5 ((l2 (Int.not_le.mp q1) q4)))) (fun q4 => (have k6 := (o4 (Int.not_le.mp q1) (Classical.not_not.mp q4)); And.intro k6 ((have k7 := (o5 (Int.not_le.mp q1) (Classical.not_not.mp q4)); And.intro k7 ((have k8 := (o6 (Int.not_le.mp q1) (Classical.not_not.mp q4)); And.intro k8 (And.intro (fun q9 => And.intro (fun q10 => (Cv_mono (o7 (Int.not_le.mp q1) (Classical.not_not.mp q4) q9 q10) (fun s12 h11 => (have k13 := (o8 (Int.not_le.mp q1) (Classical.not_not.mp q4) q9 q10 s12 h11); And.intro k13 ((l3 (Int.not_le.mp q1) (Classical.not_not.mp q4) q9 q10 s12 h11)))))) (fun q10 => And.intro k6 (And.intro k7 (And.intro k8 (And.intro (fun q14 => (Cv_mono (o9 (Int.not_le.mp q1) (Classical.not_not.mp q4) q9 (Classical.not_not.mp q10) q14) (fun s16 h15 => (have k17 := (o10 (Int.not_le.mp q1) (Classical.not_not.mp q4) q9 (Classical.not_not.mp q10) q14 s16 h15); And.intro k17 ((l4 (Int.not_le.mp q1) (Classical.not_not.mp q4) q9 (Classical.not_not.mp q10) q14 s16 h15)))))) (fun q14 => (have k18 := (o11 (Int.not_le.mp q1) (Classical.not_not.mp q4) q9 (Classical.not_not.mp q10) (Classical.not_not.mp q14)); And.intro k18 ((l5 (Int.not_le.mp q1) (Classical.not_not.mp q4) q9 (Classical.not_not.mp q10) (Classical.not_not.mp q14)))))))))) (fun q9 => (have k19 := (o12 (Int.not_le.mp q1) (Classical.not_not.mp q4) (Int.not_lt.mp q9)); And.intro k19 ((l6 (Int.not_le.mp q1) (Classical.not_not.mp q4) (Int.not_lt.mp q9))))))))))))))))))
theorem v_go_88 {n : Nat}  (b : Nat) (z : Option PV) {σ : Mm} {P : Mm → Prop} (o1 : (0 ≤ (b : Int) ∧ (b : Int) < 2)) (o2 : (0 ≤ (gi σ 120 b) ∧ 0 < (7 : Int))) (l1 : ((gi σ 120 b) % (7 : Int)) ≠ (0 : Int) → R 215 141 [some (vr 85), some (vi (b : Int)), z] [] (shF n) 0 0 σ (Qv (shF n) P)) (l2 : ((gi σ 120 b) % (7 : Int)) = (0 : Int) → R 215 102 [some (vr 85), some (vi (b : Int)), some (vi 0)] [] (shF n) 0 0 σ (Qv (shF n) P)) : R 215 88 [some (vr 85), some (vi (b : Int)), z] [] (shF n) 0 0 σ (Qv (shF n) P) :=
  wpK_R 10 [102, 141] ((have k1 := (o1); And.intro k1 ((have k2 := (o2); And.intro k2 (And.intro (fun q3 => (l1 q3)) (fun q3 => (l2 (Classical.not_not.mp q3))))))))
theorem v_go_102 {n : Nat} (T : Nat → Nat → Int) (V : Nat → Nat → Int) (b : Nat) (k : Nat) {M1 : Mm → Prop} {σ : Mm} {P : Mm → Prop} (o1 : (k : Int) < (gi σ 85 12) → b < 2) (o2 : (k : Int) < (gi σ 85 12) → k < 5) (o3 : (k : Int) < (gi σ 85 12) → RW T V σ b) (o4 : (k : Int) < (gi σ 85 12) → ∀ x2 : Int, x2 = b2i (aiR σ V k) → x2 = (0 : Int) → rg ((k : Int) + 1)) (o5 : (k : Int) < (gi σ 85 12) → ∀ x2 : Int, x2 = b2i (aiR σ V k) → x2 ≠ (0 : Int) → Cv 213 [vr 85, vi (b : Int), vi (k : Int)] (shF n) σ M1) (o6 : (k : Int) < (gi σ 85 12) → ∀ x2 : Int, x2 = b2i (aiR σ V k) → x2 ≠ (0 : Int) → ∀ s6 : Mm, M1 s6 → rg ((k : Int) + 1)) (l1 : (gi σ 85 12) ≤ (k : Int) → R 215 131 [some (vr 85), some (vi (b : Int)), some (vi (k : Int))] [] (shF n) 0 0 σ (Qv (shF n) P)) (l2 : (k : Int) < (gi σ 85 12) → ∀ x2 : Int, x2 = b2i (aiR σ V k) → x2 = (0 : Int) → R 215 102 [some (vr 85), some (vi (b : Int)), some (vi ((k : Int) + 1))] [] (shF n) 0 0 σ (Qv (shF n) P)) (l3 : (k : Int) < (gi σ 85 12) → ∀ x2 : Int, x2 = b2i (aiR σ V k) → x2 ≠ (0 : Int) → ∀ s6 : Mm, M1 s6 → R 215 102 [some (vr 85), some (vi (b : Int)), some (vi ((k : Int) + 1))] [] (shF n) 0 0 s6 (Qv (shF n) P)) : R 215 102 [some (vr 85), some (vi (b : Int)), some (vi (k : Int))] [] (shF n) 0 0 σ (Qv (shF n) P) :=
  wpK_R 16 [102, 131] (And.intro (fun q1 => (l1 q1)) (fun q1 => (c_aired (T := T) (V := V) (b := b) (u := k) (o1 (Int.not_le.mp q1)) (o2 (Int.not_le.mp q1)) (o3 (Int.not_le.mp q1)) (And.intro (fun q3 => (have k4 := (o4 (Int.not_le.mp q1) _ rfl q3); And.intro k4 ((l2 (Int.not_le.mp q1) _ rfl q3)))) (fun q3 => (Cv_mono (o5 (Int.not_le.mp q1) _ rfl q3) (fun s6 h5 => (have k7 := (o6 (Int.not_le.mp q1) _ rfl q3 s6 h5); And.intro k7 ((l3 (Int.not_le.mp q1) _ rfl q3 s6 h5))))))))))
theorem v_go_131 {n : Nat}  (b : Nat) (z : Option PV) {σ : Mm} {P : Mm → Prop} (o1 : rg ((gi σ 85 72) + 1)) (l1 : ∀ t2 : Mm, t2 = si σ 85 72 ((gi σ 85 72) + 1) → R 215 141 [some (vr 85), some (vi (b : Int)), z] [] (shF n) 0 0 t2 (Qv (shF n) P)) : R 215 131 [some (vr 85), some (vi (b : Int)), z] [] (shF n) 0 0 σ (Qv (shF n) P) :=
  wpK_R 7 [141] ((have k1 := (o1); And.intro k1 ((l1 _ rfl))))
theorem v_go_141 {n : Nat}  (b : Nat) (z : Option PV) {σ : Mm} {P : Mm → Prop} (o1 : (0 ≤ (b : Int) ∧ (b : Int) < 2)) (o2 : rg ((gi σ 120 b) + 1)) (l1 : ∀ t3 : Mm, t3 = si σ 120 b ((gi σ 120 b) + 1) → P t3) : R 215 141 [some (vr 85), some (vi (b : Int)), z] [] (shF n) 0 0 σ (Qv (shF n) P) :=
  wpK_R 9 [] ((have k1 := (o1); And.intro k1 ((have k2 := (o2); And.intro k2 (And.intro k1 (And.intro ret0 ⟨rfl, rfl, (l1 _ rfl)⟩))))))
