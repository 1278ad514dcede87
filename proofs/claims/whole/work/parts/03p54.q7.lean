/-! QUERIES over the mind: lot, law, leans -/
theorem Bi_of {xs : Nat → Int} {N n k1 k2 : Nat} {a1 a2 : List PV} {σ : Mm} {f : Mm → Int} (hc : Ci k1 a1 (shF n) σ (fun v s => Rel xs N s ∧ v = f s)) (hr : ∀ s, Rel xs N s → Ci k2 a2 (shF n) s (fun v' s' => v' = f s ∧ Rel xs N s')) : Bi xs N n k1 a1 k2 a2 σ :=
  Ci_mono hc fun v s q => Ci_mono (hr s q.1) fun v' s' q' => ⟨q'.1.trans q.2.symm, q'.2⟩
/-- the class has changed what Rel doesn't speak of -/
def ScX (σ s : Mm) : Prop := ∀ a i, kpX a ∨ 85 ≤ a → gi s a i = gi σ a i
theorem ScX.rel {xs : Nat → Int} {N : Nat} {σ s : Mm} (k : ScX σ s) (h : Rel xs N σ) : Rel xs N s := Rel_X h k
theorem ScX.T {σ s : Mm} (k : ScX σ s) : vw s 5 = vw σ 5 := vw_same fun a b p q => k a b (Or.inl (by unfold kpX; omega))
theorem ScX.V {σ s : Mm} (k : ScX σ s) : wv s 40 = wv σ 40 := wv_eq fun f b hf => k _ _ (Or.inl (by unfold kpX; omega))
theorem ScX.rf (σ : Mm) : ScX σ σ := fun _ _ _ => rfl
theorem ScX.tr {a b c : Mm} (h : ScX a b) (h' : ScX b c) : ScX a c := fun x y p => (h' x y p).trans (h x y p)
theorem ScX.si {σ s : Mm} (h : ScX σ s) {a i : Nat} {v : Int} (ha : ¬ kpX a ∧ a < 85) : ScX σ (si s a i v) := fun x y p => by
  rw [gi_si, if_neg (fun q => by rcases p with p | p
                                 · exact ha.1 (q.1 ▸ p)
                                 · omega)]
  exact h x y p
theorem ScX.se {σ s : Mm} {nm : Nat → Int} (h : Se σ s nm) : ScX σ s := fun a i p => h.2.1 a i (by rcases p with p | p
                                                                                                   · unfold kpX at p; omega
                                                                                                   · omega)
theorem ScX.mk {σ s : Mm} (h : Mk σ s) : ScX σ s := fun a i _ => gi_of h.1 a i
theorem ScX.wg {σ s : Mm} {A : Nat → Nat → Int} (h : Wg 49 σ s A) : ScX σ s := fun a i p => h.1 a i (by rcases p with p | p
                                                                                                        · unfold kpX at p; omega
                                                                                                        · omega) (by rcases p with p | p
                                                                                                                     · unfold kpX at p; omega
                                                                                                                     · omega)
theorem Rel_rk {xs : Nat → Int} {N : Nat} {σ s : Mm} (h : Rel xs N σ) (k : Rk σ s) : Rel xs N s := Rel_M h fun a i p => k.1 a i (by
  rintro ⟨rfl, rfl⟩
  rcases p with p | p
  · omega
  · simp [kpM, hT, hf] at p)
theorem Rel_rg {xs : Nat → Int} {N : Nat} {σ s : Mm} (h : Rel xs N σ) (k : RG 1 σ s) : Rel xs N s := Rel_M h fun a i p => by
  rcases p with p | p
  · exact k.1 a i (by unfold hf; omega) (by omega)
  · exact k.1 a i (kpM_no p).1 (kpM_no p).2
/-- the reference's settings are plain, its book and its world as Rel has them -/
theorem Pl_PP {σ s : Mm} (hp : Pl σ s) : PP s := ⟨hp.2.2.2.2.2.1, by have := hp.2.2.2.2.1; omega⟩
def lotV (T V : Nat → Nat → Int) (c w : Int) : Int := if (0 ≤ c ∧ c < T 0 1) ∧ (0 ≤ w ∧ w ≤ 1) then ltF (cnt (fun k => thinkS T (nmZ (T 2 k) (T 3 k) (T 7 c.toNat) (V 6 (V 5 k).toNat) (moT T (V 0 0)) (V 0 0))) (T 0 0).toNat) (T 0 0) w else -1
theorem wvT {σ : Mm} : (∀ i, vw σ 5 0 i = gi σ 5 i) ∧ (∀ i, vw σ 5 2 i = gi σ 7 i) ∧ (∀ i, vw σ 5 3 i = gi σ 8 i) ∧ (∀ i, vw σ 5 6 i = gi σ 11 i) ∧ (∀ i, vw σ 5 7 i = gi σ 12 i) := ⟨fun _ => rfl, fun _ => rfl, fun _ => rfl, fun _ => rfl, fun _ => rfl⟩
theorem wvV {σ : Mm} : (∀ i, wv σ 40 0 i = gi σ 40 i) ∧ (∀ i, wv σ 40 1 i = gi σ 41 i) ∧ (∀ i, wv σ 40 3 i = gi σ 43 i) ∧ (∀ i, wv σ 40 5 i = gi σ 45 i) ∧ (∀ i, wv σ 40 6 i = gi σ 46 i) := ⟨fun _ => rfl, fun _ => rfl, fun _ => rfl, fun _ => rfl, fun _ => rfl⟩
theorem v_lot_0 {n : Nat}  (c : Int) (w : Int) {σ : Mm} {P : Int → Mm → Prop} (o1 : (0 : Int) ≤ c → c < (gi σ 5 1) → (0 : Int) ≤ w → w ≤ (1 : Int) → 0 ≤ (gi σ 40 0)) (o2 : (0 : Int) ≤ c → c < (gi σ 5 1) → (0 : Int) ≤ w → w ≤ (1 : Int) → gi σ 5 3 ≤ 8) (l1 : c < (0 : Int) → P (-1) σ) (l2 : (0 : Int) ≤ c → (gi σ 5 1) ≤ c → P (-1) σ) (l3 : (0 : Int) ≤ c → c < (gi σ 5 1) → w < (0 : Int) → P (-1) σ) (l4 : (0 : Int) ≤ c → c < (gi σ 5 1) → (0 : Int) ≤ w → w ≤ (1 : Int) → ∀ x5 : Int, x5 = moT (vw σ 5) (gi σ 40 0) → R 127 40 [some (vr 3), some (vi c), some (vi w), some (vi 0), some (vi x5), some (vi 0)] [] (shF n) 0 0 σ (Qi (shF n) P)) (l5 : (0 : Int) ≤ c → c < (gi σ 5 1) → (0 : Int) ≤ w → (1 : Int) < w → P (-1) σ) : Ci 127 [vr 3, vi c, vi w] (shF n) σ P :=
  show R 127 0 [some (vr 3), some (vi c), some (vi w), none, none, none] [] (shF n) 0 0 σ (Qi (shF n) P) from wpK_R 21 [40] ((show R 104 0 [some (vr 3), _] [] (shF n) 0 0 _ _ from wpK_R 10 [] (And.intro (fun q1 => And.intro ret0 (And.intro (Or.inl rfl) ⟨rfl, _, rfl, And.intro (fun _ => And.intro ret0 ⟨rfl, _, rfl, (l1 q1)⟩) (fun q => absurd (show (0 : Int) = 0 by decide) q)⟩)) (fun q1 => And.intro (fun q2 => And.intro ret0 (And.intro (Or.inl rfl) ⟨rfl, _, rfl, And.intro (fun _ => And.intro ret0 ⟨rfl, _, rfl, (l2 (Int.not_lt.mp q1) q2)⟩) (fun q => absurd (show (0 : Int) = 0 by decide) q)⟩)) (fun q2 => And.intro ret0 (And.intro (Or.inr rfl) ⟨rfl, _, rfl, And.intro (fun q => absurd q (show ¬ ((1 : Int) = 0) by decide)) (fun _ => And.intro (fun q3 => And.intro ret0 ⟨rfl, _, rfl, (l3 (Int.not_lt.mp q1) (Int.not_le.mp q2) q3)⟩) (fun q3 => And.intro (fun q4 => (c_moist  (o1 (Int.not_lt.mp q1) (Int.not_le.mp q2) (Int.not_lt.mp q3) q4) (o2 (Int.not_lt.mp q1) (Int.not_le.mp q2) (Int.not_lt.mp q3) q4) ((l4 (Int.not_lt.mp q1) (Int.not_le.mp q2) (Int.not_lt.mp q3) q4 _ rfl)))) (fun q4 => And.intro ret0 ⟨rfl, _, rfl, (l5 (Int.not_lt.mp q1) (Int.not_le.mp q2) (Int.not_lt.mp q3) (Int.not_le.mp q4))⟩)))⟩))))))
theorem v_lot_L {n : Nat}  (c : Int) (w : Int) (x : Int) (mo : Int) (k : Nat) {σ : Mm} {P : Int → Mm → Prop} (o1 : (gi σ 5 0) ≤ (k : Int) → (0 ≤ x ∧ x ≤ 20)) (o2 : (gi σ 5 0) ≤ (k : Int) → (0 ≤ (gi σ 5 0) ∧ (gi σ 5 0) ≤ 20)) (o3 : (k : Int) < (gi σ 5 0) → (0 ≤ (k : Int) ∧ (k : Int) < 5)) (o4 : (k : Int) < (gi σ 5 0) → (0 ≤ (gi σ 45 k) ∧ (gi σ 45 k) < 5)) (o5 : (k : Int) < (gi σ 5 0) → ∀ x5 : Int, x5 = gi σ 46 (gi σ 45 k).toNat → (0 ≤ c ∧ c < 10)) (o6 : (k : Int) < (gi σ 5 0) → ∀ x5 : Int, x5 = gi σ 46 (gi σ 45 k).toNat → (0 ≤ (gi σ 7 k) ∧ (gi σ 7 k) ≤ 99)) (o7 : (k : Int) < (gi σ 5 0) → ∀ x5 : Int, x5 = gi σ 46 (gi σ 45 k).toNat → (0 ≤ (gi σ 12 c.toNat) ∧ (gi σ 12 c.toNat) ≤ 99)) (o8 : (k : Int) < (gi σ 5 0) → ∀ x5 : Int, x5 = gi σ 46 (gi σ 45 k).toNat → ∀ s8 : Mm, Se σ s8 (nmZ (gi σ 7 k) (gi σ 8 k) (gi σ 12 c.toNat) x5 mo (gi σ 40 0)) → LwOK s8) (o9 : (k : Int) < (gi σ 5 0) → ∀ x5 : Int, x5 = gi σ 46 (gi σ 45 k).toNat → ∀ s8 : Mm, Se σ s8 (nmZ (gi σ 7 k) (gi σ 8 k) (gi σ 12 c.toNat) x5 mo (gi σ 40 0)) → ∀ x13 : Int, x13 = b2i (thinkS (vw s8 5) (gi s8 68)) → ∀ s11 : Mm, Mk s8 s11 → x13 = (0 : Int) → rg ((k : Int) + 1)) (o10 : (k : Int) < (gi σ 5 0) → ∀ x5 : Int, x5 = gi σ 46 (gi σ 45 k).toNat → ∀ s8 : Mm, Se σ s8 (nmZ (gi σ 7 k) (gi σ 8 k) (gi σ 12 c.toNat) x5 mo (gi σ 40 0)) → ∀ x13 : Int, x13 = b2i (thinkS (vw s8 5) (gi s8 68)) → ∀ s11 : Mm, Mk s8 s11 → x13 ≠ (0 : Int) → rg (x + 1)) (o11 : (k : Int) < (gi σ 5 0) → ∀ x5 : Int, x5 = gi σ 46 (gi σ 45 k).toNat → ∀ s8 : Mm, Se σ s8 (nmZ (gi σ 7 k) (gi σ 8 k) (gi σ 12 c.toNat) x5 mo (gi σ 40 0)) → ∀ x13 : Int, x13 = b2i (thinkS (vw s8 5) (gi s8 68)) → ∀ s11 : Mm, Mk s8 s11 → x13 ≠ (0 : Int) → ∀ x17 : Int, x17 = x + 1 → rg ((k : Int) + 1)) (l1 : (gi σ 5 0) ≤ (k : Int) → ∀ x2 : Int, x2 = ltF x (gi σ 5 0) w → P x2 σ) (l2 : (k : Int) < (gi σ 5 0) → ∀ x5 : Int, x5 = gi σ 46 (gi σ 45 k).toNat → ∀ s8 : Mm, Se σ s8 (nmZ (gi σ 7 k) (gi σ 8 k) (gi σ 12 c.toNat) x5 mo (gi σ 40 0)) → ∀ x13 : Int, x13 = b2i (thinkS (vw s8 5) (gi s8 68)) → ∀ s11 : Mm, Mk s8 s11 → x13 = (0 : Int) → R 127 40 [some (vr 3), some (vi c), some (vi w), some (vi x), some (vi mo), some (vi ((k : Int) + 1))] [] (shF n) 0 0 s11 (Qi (shF n) P)) (l3 : (k : Int) < (gi σ 5 0) → ∀ x5 : Int, x5 = gi σ 46 (gi σ 45 k).toNat → ∀ s8 : Mm, Se σ s8 (nmZ (gi σ 7 k) (gi σ 8 k) (gi σ 12 c.toNat) x5 mo (gi σ 40 0)) → ∀ x13 : Int, x13 = b2i (thinkS (vw s8 5) (gi s8 68)) → ∀ s11 : Mm, Mk s8 s11 → x13 ≠ (0 : Int) → ∀ x17 : Int, x17 = x + 1 → R 127 40 [some (vr 3), some (vi c), some (vi w), some (vi x17), some (vi mo), some (vi ((k : Int) + 1))] [] (shF n) 0 0 s11 (Qi (shF n) P)) : R 127 40 [some (vr 3), some (vi c), some (vi w), some (vi x), some (vi mo), some (vi (k : Int))] [] (shF n) 0 0 σ (Qi (shF n) P) :=
  wpK_R 24 [40] (And.intro (fun q1 => (c_lt  (o1 q1) (o2 q1) (And.intro ret0 ⟨rfl, _, rfl, (l1 q1 _ rfl)⟩))) (fun q1 => (show R 75 0 [some (vr 70), some (vr 40), _, _, _, none] [] (shF n) 0 0 _ _ from wpK_R 31 [] ((have k3 := (o3 (Int.not_le.mp q1)); And.intro k3 ((have k4 := (o4 (Int.not_le.mp q1)); And.intro k4 (And.intro k3 (And.intro k3 ((have k6 := (o5 (Int.not_le.mp q1) _ rfl); And.intro k6 ((c_see  (o6 (Int.not_le.mp q1) _ rfl) (o7 (Int.not_le.mp q1) _ rfl) (fun s8 h9 => And.intro ret0 ⟨rfl, rfl, (c_thinks  (o8 (Int.not_le.mp q1) _ rfl s8 h9) (fun s11 h12 => And.intro (fun q14 => (have k15 := (o9 (Int.not_le.mp q1) _ rfl s8 h9 _ rfl s11 h12 q14); And.intro k15 ((l2 (Int.not_le.mp q1) _ rfl s8 h9 _ rfl s11 h12 q14)))) (fun q14 => (have k16 := (o10 (Int.not_le.mp q1) _ rfl s8 h9 _ rfl s11 h12 q14); And.intro k16 ((have k18 := (o11 (Int.not_le.mp q1) _ rfl s8 h9 _ rfl s11 h12 q14 _ rfl); And.intro k18 ((l3 (Int.not_le.mp q1) _ rfl s8 h9 _ rfl s11 h12 q14 _ rfl))))))))⟩))))))))))))))
theorem v_lotR_0 {n : Nat}  (c : Int) (w : Int) {σ : Mm} {P : Int → Mm → Prop} (l1 : ∀ t1 : Mm, t1 = si σ 85 2 (0 : Int) → c < (0 : Int) → P (-1) t1) (l2 : ∀ t1 : Mm, t1 = si σ 85 2 (0 : Int) → (0 : Int) ≤ c → (gi σ 85 13) ≤ c → P (-1) t1) (l3 : ∀ t1 : Mm, t1 = si σ 85 2 (0 : Int) → (0 : Int) ≤ c → c < (gi σ 85 13) → w < (0 : Int) → P (-1) t1) (l4 : ∀ t1 : Mm, t1 = si σ 85 2 (0 : Int) → (0 : Int) ≤ c → c < (gi σ 85 13) → (0 : Int) ≤ w → (1 : Int) < w → P (-1) t1) (l5 : ∀ t1 : Mm, t1 = si σ 85 2 (0 : Int) → (0 : Int) ≤ c → c < (gi σ 85 13) → (0 : Int) ≤ w → w ≤ (1 : Int) → ∀ s7 : Mm, Pl t1 s7 → R 243 33 [some (vr 85), some (vi c), some (vi w), some (vi 0), some (vi 0)] [] (shF n) 0 0 s7 (Qi (shF n) P)) : Ci 243 [vr 85, vi c, vi w] (shF n) σ P :=
  show R 243 0 [some (vr 85), some (vi c), some (vi w), none, none] [] (shF n) 0 0 σ (Qi (shF n) P) from wpK_R 19 [33] ((show R 201 0 [some (vr 85), _] [] (shF n) 0 0 _ _ from wpK_R 9 [] (And.intro (fun q2 => And.intro ret0 (And.intro (Or.inl rfl) ⟨rfl, _, rfl, And.intro (fun _ => And.intro ret0 ⟨rfl, _, rfl, (l1 _ rfl q2)⟩) (fun q => absurd (show (0 : Int) = 0 by decide) q)⟩)) (fun q2 => And.intro (fun q3 => And.intro ret0 (And.intro (Or.inl rfl) ⟨rfl, _, rfl, And.intro (fun _ => And.intro ret0 ⟨rfl, _, rfl, (l2 _ rfl (Int.not_lt.mp q2) q3)⟩) (fun q => absurd (show (0 : Int) = 0 by decide) q)⟩)) (fun q3 => And.intro ret0 (And.intro (Or.inr rfl) ⟨rfl, _, rfl, And.intro (fun q => absurd q (show ¬ ((1 : Int) = 0) by decide)) (fun _ => (show R 157 0 [_, some (vi 0), some (vi 1)] [] (shF n) 0 0 _ _ from wpK_R 9 [] (And.intro (fun q4 => And.intro ret0 (And.intro (Or.inl rfl) ⟨rfl, _, rfl, And.intro (fun q => absurd q (show ¬ ((0 : Int) ≠ 0) by decide)) (fun _ => And.intro ret0 ⟨rfl, _, rfl, (l3 _ rfl (Int.not_lt.mp q2) (Int.not_le.mp q3) q4)⟩)⟩)) (fun q4 => And.intro (fun q5 => And.intro ret0 (And.intro (Or.inl rfl) ⟨rfl, _, rfl, And.intro (fun q => absurd q (show ¬ ((0 : Int) ≠ 0) by decide)) (fun _ => And.intro ret0 ⟨rfl, _, rfl, (l4 _ rfl (Int.not_lt.mp q2) (Int.not_le.mp q3) (Int.not_lt.mp q4) q5)⟩)⟩)) (fun q5 => And.intro ret0 (And.intro (Or.inr rfl) ⟨rfl, _, rfl, And.intro (fun _ => (c_plain   (fun s7 h8 => (l5 _ rfl (Int.not_lt.mp q2) (Int.not_le.mp q3) (Int.not_lt.mp q4) (Int.not_lt.mp q5) s7 h8)))) (fun q => absurd (show (1 : Int) ≠ 0 by decide) q)⟩))))))⟩))))))
theorem v_lotR_L {n : Nat} (T : Nat → Nat → Int) (c : Int) (w : Int) (x : Int) (k : Nat) {σ : Mm} {P : Int → Mm → Prop} (o1 : (gi σ 85 12) ≤ (k : Int) → (0 ≤ x ∧ x ≤ 20)) (o2 : (gi σ 85 12) ≤ (k : Int) → (0 < (gi σ 85 12) ∧ (gi σ 85 12) ≤ 20)) (o3 : (k : Int) < (gi σ 85 12) → (0 ≤ (k : Int) ∧ (k : Int) < 10)) (o4 : (k : Int) < (gi σ 85 12) → (0 ≤ (gi σ 111 k) ∧ (gi σ 111 k) < 10)) (o5 : (k : Int) < (gi σ 85 12) → ThP T σ (k : Int) (gi σ 113 (gi σ 111 k).toNat) (gi σ 120 0)) (o6 : (k : Int) < (gi σ 85 12) → (0 ≤ c ∧ c < T 0 1)) (o7 : (k : Int) < (gi σ 85 12) → ∀ x8 : Int, x8 = b2i (thinkS T (nmZ (leR T σ k) (T 3 k) (T 7 c.toNat) (gi σ 113 (gi σ 111 k).toNat) (moD T (dmR σ) (gi σ 120 0)) (gi σ 120 0))) → ∀ s6 : Mm, Rk σ s6 → rg (x + x8)) (o8 : (k : Int) < (gi σ 85 12) → ∀ x8 : Int, x8 = b2i (thinkS T (nmZ (leR T σ k) (T 3 k) (T 7 c.toNat) (gi σ 113 (gi σ 111 k).toNat) (moD T (dmR σ) (gi σ 120 0)) (gi σ 120 0))) → ∀ s6 : Mm, Rk σ s6 → ∀ x10 : Int, x10 = x + x8 → rg ((k : Int) + 1)) (l1 : (gi σ 85 12) ≤ (k : Int) → ∀ x2 : Int, x2 = ltF x (gi σ 85 12) w → P x2 σ) (l2 : (k : Int) < (gi σ 85 12) → ∀ x8 : Int, x8 = b2i (thinkS T (nmZ (leR T σ k) (T 3 k) (T 7 c.toNat) (gi σ 113 (gi σ 111 k).toNat) (moD T (dmR σ) (gi σ 120 0)) (gi σ 120 0))) → ∀ s6 : Mm, Rk σ s6 → ∀ x10 : Int, x10 = x + x8 → R 243 33 [some (vr 85), some (vi c), some (vi w), some (vi x10), some (vi ((k : Int) + 1))] [] (shF n) 0 0 s6 (Qi (shF n) P)) : R 243 33 [some (vr 85), some (vi c), some (vi w), some (vi x), some (vi (k : Int))] [] (shF n) 0 0 σ (Qi (shF n) P) :=
  wpK_R 25 [33] (And.intro (fun q1 => (c_l1  (o1 q1) (o2 q1) (And.intro ret0 ⟨rfl, _, rfl, (l1 q1 _ rfl)⟩))) (fun q1 => (have k3 := (o3 (Int.not_le.mp q1)); And.intro k3 ((have k4 := (o4 (Int.not_le.mp q1)); And.intro k4 (And.intro (by decide) ((c_thR (T := T) (o5 (Int.not_le.mp q1)) (o6 (Int.not_le.mp q1)) (fun s6 h7 => (have k9 := (o7 (Int.not_le.mp q1) _ rfl s6 h7); And.intro k9 ((have k11 := (o8 (Int.not_le.mp q1) _ rfl s6 h7 _ rfl); And.intro k11 ((l2 (Int.not_le.mp q1) _ rfl s6 h7 _ rfl))))))))))))))
theorem q_lot {xs : Nat → Int} {N n : Nat} {σ : Mm} (h : Rel xs N σ) (c w : Int) : Bi xs N n 127 [vr 3, vi c, vi w] 243 [vr 85, vi c, vi w] σ := by
  refine Bi_of (f := fun s => lotV (vw s 5) (wv s 40) c w) ?_ ?_
  · obtain ⟨c0, c1, c2, c3, c5, d0, d1, d2, d3, -⟩ := Rel_cnt h
    have hw0 := Rel_w0 h
    have hb := h.2.2.2.2.1
    have hno : ¬ ((0 ≤ c ∧ c < gi σ 5 1) ∧ (0 ≤ w ∧ w ≤ 1)) → Rel xs N σ ∧ -1 = lotV (vw σ 5) (wv σ 40) c w := fun hn => ⟨h, by unfold lotV; rw [if_neg (show ¬ ((0 ≤ c ∧ c < vw σ 5 0 1) ∧ (0 ≤ w ∧ w ≤ 1)) from hn)]⟩
    refine v_lot_0 c w (by intros; first | omega | (unfold rg; omega) | (subst_vars; simp only [gi_si, gi_sl, gl_si, gl_sl]; first | omega | (unfold rg; omega))) (by intros; first | omega | (unfold rg; omega) | (subst_vars; simp only [gi_si, gi_sl, gl_si, gl_sl]; first | omega | (unfold rg; omega))) ?_ ?_ ?_ ?_ ?_
    · intros; exact hno (by omega)
    · intros; exact hno (by omega)
    · intros; exact hno (by omega)
    · intro h1 h2 h3 h4 x5 hx5
      have hmoin := moT_in hb (d := gi σ 40 0)
      refine loopUp (N := (gi σ 5 0).toNat) (I := fun k => ∀ τ : Mm, ScX σ τ → R 127 40 [some (vr 3), some (vi c), some (vi w), some (vi (cnt (fun k => thinkS (vw σ 5) (nmZ (gi σ 7 k) (gi σ 8 k) (gi σ 12 c.toNat) (gi σ 46 (gi σ 45 k).toNat) (moT (vw σ 5) (gi σ 40 0)) (gi σ 40 0))) k)), some (vi x5), some (vi (k : Int))] [] (shF n) 0 0 τ (Qi (shF n) (fun v s => Rel xs N s ∧ v = lotV (vw s 5) (wv s 40) c w))) (fun k hk ih => ?_) 0 (by omega) σ (ScX.rf σ)
      intro τ hs
      have kk : ∀ a i, kpX a → gi τ a i = gi σ a i := fun a i p => hs a i (Or.inl p)
      have g5 := kk 5 0 (by unfold kpX; omega)
      have g5' := kk 5 1 (by unfold kpX; omega)
      have g7 := kk 7 k (by unfold kpX; omega)
      have g8 := kk 8 k (by unfold kpX; omega)
      have g12 := kk 12 c.toNat (by unfold kpX; omega)
      have g45 := kk 45 k (by unfold kpX; omega)
      have g46 := kk 46 (gi σ 45 k).toNat (by unfold kpX; omega)
      have g40 := kk 40 0 (by unfold kpX; omega)
      have hcn := cnt_in (fun k => thinkS (vw σ 5) (nmZ (gi σ 7 k) (gi σ 8 k) (gi σ 12 c.toNat) (gi σ 46 (gi σ 45 k).toNat) (moT (vw σ 5) (gi σ 40 0)) (gi σ 40 0))) k
      have hj := fun q : (k : Int) < gi σ 5 0 => Rel_j h q
      have hcc := (Rel_c h (c := c.toNat) (by omega)).2.2.1
      have hlw : LwOK τ := lw_bk (by rw [hs.T]; exact hb)
      have hval : ∀ (x13 : Int) (s8 : Mm), Se τ s8 (nmZ (gi τ 7 k) (gi τ 8 k) (gi τ 12 c.toNat) (gi τ 46 (gi τ 45 k).toNat) x5 (gi τ 40 0)) → x13 = b2i (thinkS (vw s8 5) (gi s8 68)) → x13 = b2i (thinkS (vw σ 5) (nmZ (gi σ 7 k) (gi σ 8 k) (gi σ 12 c.toNat) (gi σ 46 (gi σ 45 k).toNat) (moT (vw σ 5) (gi σ 40 0)) (gi σ 40 0))) := fun x13 s8 hse hx13 => by
        rw [g7, g8, g12, g45, g46, g40, hx5] at hse
        rw [hx13, (ScX.se hse).T, hs.T, thinkS_seen hse.2.2]
      refine v_lot_L c w _ x5 k (by intros; subst_vars; first | omega | exact lw_bk (by rw [(ScX.se ‹Se _ _ _›).T, hs.T]; exact hb) | (have q := hj (by omega); rw [g45, g46]; have q2 := Rel_w5 h (j := (gi σ 45 k).toNat) (by omega); omega) | (have q := hj (by omega); omega) | (unfold rg; omega)) (by intros; subst_vars; first | omega | exact lw_bk (by rw [(ScX.se ‹Se _ _ _›).T, hs.T]; exact hb) | (have q := hj (by omega); rw [g45, g46]; have q2 := Rel_w5 h (j := (gi σ 45 k).toNat) (by omega); omega) | (have q := hj (by omega); omega) | (unfold rg; omega)) (by intros; subst_vars; first | omega | exact lw_bk (by rw [(ScX.se ‹Se _ _ _›).T, hs.T]; exact hb) | (have q := hj (by omega); rw [g45, g46]; have q2 := Rel_w5 h (j := (gi σ 45 k).toNat) (by omega); omega) | (have q := hj (by omega); omega) | (unfold rg; omega)) (by intros; subst_vars; first | omega | exact lw_bk (by rw [(ScX.se ‹Se _ _ _›).T, hs.T]; exact hb) | (have q := hj (by omega); rw [g45, g46]; have q2 := Rel_w5 h (j := (gi σ 45 k).toNat) (by omega); omega) | (have q := hj (by omega); omega) | (unfold rg; omega)) (by intros; subst_vars; first | omega | exact lw_bk (by rw [(ScX.se ‹Se _ _ _›).T, hs.T]; exact hb) | (have q := hj (by omega); rw [g45, g46]; have q2 := Rel_w5 h (j := (gi σ 45 k).toNat) (by omega); omega) | (have q := hj (by omega); omega) | (unfold rg; omega)) (by intros; subst_vars; first | omega | exact lw_bk (by rw [(ScX.se ‹Se _ _ _›).T, hs.T]; exact hb) | (have q := hj (by omega); rw [g45, g46]; have q2 := Rel_w5 h (j := (gi σ 45 k).toNat) (by omega); omega) | (have q := hj (by omega); omega) | (unfold rg; omega)) (by intros; subst_vars; first | omega | exact lw_bk (by rw [(ScX.se ‹Se _ _ _›).T, hs.T]; exact hb) | (have q := hj (by omega); rw [g45, g46]; have q2 := Rel_w5 h (j := (gi σ 45 k).toNat) (by omega); omega) | (have q := hj (by omega); omega) | (unfold rg; omega)) (by intros; subst_vars; first | omega | exact lw_bk (by rw [(ScX.se ‹Se _ _ _›).T, hs.T]; exact hb) | (have q := hj (by omega); rw [g45, g46]; have q2 := Rel_w5 h (j := (gi σ 45 k).toNat) (by omega); omega) | (have q := hj (by omega); omega) | (unfold rg; omega)) (by intros; subst_vars; first | omega | exact lw_bk (by rw [(ScX.se ‹Se _ _ _›).T, hs.T]; exact hb) | (have q := hj (by omega); rw [g45, g46]; have q2 := Rel_w5 h (j := (gi σ 45 k).toNat) (by omega); omega) | (have q := hj (by omega); omega) | (unfold rg; omega)) (by intros; subst_vars; first | omega | exact lw_bk (by rw [(ScX.se ‹Se _ _ _›).T, hs.T]; exact hb) | (have q := hj (by omega); rw [g45, g46]; have q2 := Rel_w5 h (j := (gi σ 45 k).toNat) (by omega); omega) | (have q := hj (by omega); omega) | (unfold rg; omega)) (by intros; subst_vars; first | omega | exact lw_bk (by rw [(ScX.se ‹Se _ _ _›).T, hs.T]; exact hb) | (have q := hj (by omega); rw [g45, g46]; have q2 := Rel_w5 h (j := (gi σ 45 k).toNat) (by omega); omega) | (have q := hj (by omega); omega) | (unfold rg; omega)) ?_ ?_ ?_
      · intro hge x2 hx2
        refine ⟨hs.rel h, ?_⟩
        rw [hx2, hs.T, hs.V]
        unfold lotV
        rw [if_pos (show (0 ≤ c ∧ c < vw σ 5 0 1) ∧ (0 ≤ w ∧ w ≤ 1) from ⟨⟨h1, h2⟩, h3, h4⟩), g5]
        rw [show (vw σ 5 0 0).toNat = k from (show (gi σ 5 0).toNat = k by omega)]
        rfl
      · intro hlt x5' hx5' s8 hse x13 hx13 s11 hmk hz
        subst hx5'
        have := hval x13 s8 hse hx13
        refine R_eq (ih (by omega) s11 ((hs.tr (ScX.se hse)).tr (ScX.mk hmk))) ?_
        rw [cnt_s, ← this, hz]
        simp
      · intro hlt x5' hx5' s8 hse x13 hx13 s11 hmk hz x17 hx17
        subst hx5'
        have := hval x13 s8 hse hx13
        refine R_eq (ih (by omega) s11 ((hs.tr (ScX.se hse)).tr (ScX.mk hmk))) ?_
        rw [hx17, cnt_s, ← this]
        rw [hx13] at hz
        rw [hx13, b2i_ne hz]
        rfl
    · intros; exact hno (by omega)
  · intro σ h
    obtain ⟨c0, c1, c2, c3, c5, d0, d1, d2, d3, -⟩ := Rel_cnt h
    have hw0 := Rel_w0 h
    have hb := h.2.2.2.2.1
    have hr := h.2.2.2.2.2.1
    have hno : ∀ t, t = si σ 85 2 0 → ¬ ((0 ≤ c ∧ c < gi σ 5 1) ∧ (0 ≤ w ∧ w ≤ 1)) → -1 = lotV (vw σ 5) (wv σ 40) c w ∧ Rel xs N t := fun t ht hn => ⟨by unfold lotV; rw [if_neg (show ¬ ((0 ≤ c ∧ c < vw σ 5 0 1) ∧ (0 ≤ w ∧ w ≤ 1)) from hn)], by rw [ht]; exact Rel_th h⟩
    refine v_lotR_0 c w ?_ ?_ ?_ ?_ ?_
    · intro t ht; intros; exact hno t ht (by omega)
    · intro t ht; intros; exact hno t ht (by omega)
    · intro t ht; intros; exact hno t ht (by omega)
    · intro t ht; intros; exact hno t ht (by omega)
    · intro t ht h1 h2 h3 h4 s hp
      rw [d1] at h2
      subst ht
      have hrel := Pl_rel h hp
      have hpp := Pl_PP hp
      have hdm := Pl_dm hp
      have hsame : ∀ a i, a ≠ 85 → gi s a i = gi σ a i := fun a i q => by rw [hp.2.1 a i (by omega), gi_ne q]
      have e12 : gi s 85 12 = gi σ 5 0 := by rw [hp.2.1 85 12 (by omega), gi_si, if_neg (by omega), d0]
      have hrs := Pl_rb hr hp
      have hJpos : 0 < gi σ 5 0 := by have := (Rel_c h (c := c.toNat) (by omega)).2.2.2.2; omega
      obtain ⟨LV, hLV⟩ : ∃ LV, LV = lotV (vw σ 5) (wv σ 40) c w := ⟨_, rfl⟩
      rw [← hLV]
      refine loopUp (N := (gi σ 5 0).toNat) (I := fun k => ∀ τ : Mm, Rk s τ → R 243 33 [some (vr 85), some (vi c), some (vi w), some (vi (cnt (fun k => thinkS (vw σ 5) (nmZ (gi σ 7 k) (gi σ 8 k) (gi σ 12 c.toNat) (gi σ 46 (gi σ 45 k).toNat) (moT (vw σ 5) (gi σ 40 0)) (gi σ 40 0))) k)), some (vi (k : Int))] [] (shF n) 0 0 τ (Qi (shF n) (fun v' s' => v' = LV ∧ Rel xs N s'))) (fun k hk ih => ?_) 0 (by omega) s (Rk.rf s)
      intro τ hk'
      have kk : ∀ a i, a ≠ 85 → gi τ a i = gi σ a i := fun a i q => by rw [hk'.1 a i (fun z => q z.1), hsame a i q]
      have e12' : gi τ 85 12 = gi σ 5 0 := by rw [hk'.1 85 12 (by omega), e12]
      have hcn := cnt_in (fun k => thinkS (vw σ 5) (nmZ (gi σ 7 k) (gi σ 8 k) (gi σ 12 c.toNat) (gi σ 46 (gi σ 45 k).toNat) (moT (vw σ 5) (gi σ 40 0)) (gi σ 40 0))) k
      have hppτ : PP τ := ⟨by rw [hk'.1 _ _ (by omega)]; exact hpp.1, by rw [hk'.1 85 67 (by omega)]; exact hpp.2⟩
      have hfacts : (k : Int) < gi σ 5 0 → gi τ 113 (gi τ 111 k).toNat = gi σ 46 (gi σ 45 k).toNat ∧ gi τ 120 0 = gi σ 40 0 ∧ ThP (vw σ 5) τ (k : Int) (gi τ 113 (gi τ 111 k).toNat) (gi τ 120 0) ∧ (0 ≤ gi τ 111 k ∧ gi τ 111 k < 5) := fun q => by
        have hj := Rel_j h q
        have e111 : gi τ 111 k = gi σ 45 k := by rw [kk _ _ (by omega)]; exact (Rel_w5 h (by omega)).1
        have hw5 := Rel_w5 h (j := (gi σ 45 k).toNat) (by omega)
        have e113 : gi τ 113 (gi τ 111 k).toNat = gi σ 46 (gi σ 45 k).toNat := by rw [e111, kk _ _ (by omega)]; exact hw5.2.2.1
        have e120 : gi τ 120 0 = gi σ 40 0 := by rw [kk _ _ (by omega)]; exact hw0.1
        refine ⟨e113, e120, ⟨hb, hk'.rb hrs, ⟨by omega, q⟩, ?_, by omega, hppτ.2, by omega⟩, by omega⟩
        rw [Int.toNat_natCast, hppτ.le]
        exact hj.2.1
      refine v_lotR_L (vw σ 5) c w _ k (by intros; subst_vars; first | omega | exact (hfacts (by omega)).2.2.1 | (have q := hfacts (by omega); omega) | (have q := hfacts (by omega); rw [(Rel_w5 h (j := k) (by omega)).1] at *; omega) | (show 0 ≤ c ∧ c < gi σ 5 1; omega) | (have q4 := b2i_in (thinkS (vw σ 5) (nmZ (leR (vw σ 5) τ k) (vw σ 5 3 k) (vw σ 5 7 c.toNat) (gi τ 113 (gi τ 111 k).toNat) (moD (vw σ 5) (dmR τ) (gi τ 120 0)) (gi τ 120 0))); unfold rg; omega)) (by intros; subst_vars; first | omega | exact (hfacts (by omega)).2.2.1 | (have q := hfacts (by omega); omega) | (have q := hfacts (by omega); rw [(Rel_w5 h (j := k) (by omega)).1] at *; omega) | (show 0 ≤ c ∧ c < gi σ 5 1; omega) | (have q4 := b2i_in (thinkS (vw σ 5) (nmZ (leR (vw σ 5) τ k) (vw σ 5 3 k) (vw σ 5 7 c.toNat) (gi τ 113 (gi τ 111 k).toNat) (moD (vw σ 5) (dmR τ) (gi τ 120 0)) (gi τ 120 0))); unfold rg; omega)) (by intros; subst_vars; first | omega | exact (hfacts (by omega)).2.2.1 | (have q := hfacts (by omega); omega) | (have q := hfacts (by omega); rw [(Rel_w5 h (j := k) (by omega)).1] at *; omega) | (show 0 ≤ c ∧ c < gi σ 5 1; omega) | (have q4 := b2i_in (thinkS (vw σ 5) (nmZ (leR (vw σ 5) τ k) (vw σ 5 3 k) (vw σ 5 7 c.toNat) (gi τ 113 (gi τ 111 k).toNat) (moD (vw σ 5) (dmR τ) (gi τ 120 0)) (gi τ 120 0))); unfold rg; omega)) (by intros; subst_vars; first | omega | exact (hfacts (by omega)).2.2.1 | (have q := hfacts (by omega); omega) | (have q := hfacts (by omega); rw [(Rel_w5 h (j := k) (by omega)).1] at *; omega) | (show 0 ≤ c ∧ c < gi σ 5 1; omega) | (have q4 := b2i_in (thinkS (vw σ 5) (nmZ (leR (vw σ 5) τ k) (vw σ 5 3 k) (vw σ 5 7 c.toNat) (gi τ 113 (gi τ 111 k).toNat) (moD (vw σ 5) (dmR τ) (gi τ 120 0)) (gi τ 120 0))); unfold rg; omega)) (by intros; subst_vars; first | omega | exact (hfacts (by omega)).2.2.1 | (have q := hfacts (by omega); omega) | (have q := hfacts (by omega); rw [(Rel_w5 h (j := k) (by omega)).1] at *; omega) | (show 0 ≤ c ∧ c < gi σ 5 1; omega) | (have q4 := b2i_in (thinkS (vw σ 5) (nmZ (leR (vw σ 5) τ k) (vw σ 5 3 k) (vw σ 5 7 c.toNat) (gi τ 113 (gi τ 111 k).toNat) (moD (vw σ 5) (dmR τ) (gi τ 120 0)) (gi τ 120 0))); unfold rg; omega)) (by intros; subst_vars; first | omega | exact (hfacts (by omega)).2.2.1 | (have q := hfacts (by omega); omega) | (have q := hfacts (by omega); rw [(Rel_w5 h (j := k) (by omega)).1] at *; omega) | (show 0 ≤ c ∧ c < gi σ 5 1; omega) | (have q4 := b2i_in (thinkS (vw σ 5) (nmZ (leR (vw σ 5) τ k) (vw σ 5 3 k) (vw σ 5 7 c.toNat) (gi τ 113 (gi τ 111 k).toNat) (moD (vw σ 5) (dmR τ) (gi τ 120 0)) (gi τ 120 0))); unfold rg; omega)) (by intros; subst_vars; first | omega | exact (hfacts (by omega)).2.2.1 | (have q := hfacts (by omega); omega) | (have q := hfacts (by omega); rw [(Rel_w5 h (j := k) (by omega)).1] at *; omega) | (show 0 ≤ c ∧ c < gi σ 5 1; omega) | (have q4 := b2i_in (thinkS (vw σ 5) (nmZ (leR (vw σ 5) τ k) (vw σ 5 3 k) (vw σ 5 7 c.toNat) (gi τ 113 (gi τ 111 k).toNat) (moD (vw σ 5) (dmR τ) (gi τ 120 0)) (gi τ 120 0))); unfold rg; omega)) (by intros; subst_vars; first | omega | exact (hfacts (by omega)).2.2.1 | (have q := hfacts (by omega); omega) | (have q := hfacts (by omega); rw [(Rel_w5 h (j := k) (by omega)).1] at *; omega) | (show 0 ≤ c ∧ c < gi σ 5 1; omega) | (have q4 := b2i_in (thinkS (vw σ 5) (nmZ (leR (vw σ 5) τ k) (vw σ 5 3 k) (vw σ 5 7 c.toNat) (gi τ 113 (gi τ 111 k).toNat) (moD (vw σ 5) (dmR τ) (gi τ 120 0)) (gi τ 120 0))); unfold rg; omega)) ?_ ?_
      · intro hge x2 hx2
        refine ⟨?_, Rel_rk hrel hk'⟩
        rw [hx2, hLV, e12']
        unfold lotV
        rw [if_pos (show (0 ≤ c ∧ c < vw σ 5 0 1) ∧ (0 ≤ w ∧ w ≤ 1) from ⟨⟨h1, h2⟩, h3, h4⟩)]
        rw [show (vw σ 5 0 0).toNat = k from (show (gi σ 5 0).toNat = k by omega)]
        rfl
      · intro hlt x8 hx8 s6 hk2 x10 hx10
        obtain ⟨f1, f2, f3, f4⟩ := hfacts (by omega)
        rw [hppτ.le, f1, f2, hk'.dm, hdm] at hx8
        refine R_eq (ih (by omega) s6 (hk'.tr hk2)) ?_
        rw [hx10, cnt_s, hx8]
        rfl
