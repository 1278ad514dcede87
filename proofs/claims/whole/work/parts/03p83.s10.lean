/-! CALLS that change the state: feed -/
theorem Rel_P {xs : Nat → Int} {N : Nat} {σ σ' : Mm} (h : Rel xs N σ) (kx : ∀ a i, kpX a → ¬ (a = 3 ∧ i = 1) → a ≠ 4 → gi σ' a i = gi σ a i) (km : ∀ a i, kpM a i → a ≠ 86 → ¬ (a = 85 ∧ i = 1) → gi σ' a i = gi σ a i) (rp : RelP σ') : Rel xs N σ' := by
  obtain ⟨r1, r2, r3, r4, r5, r6, r7, r8, r9, r10, r11, r12, r13, r14⟩ := h
  have eT : vw σ' 5 = vw σ 5 := vw_same fun a b p q => kx a b (by unfold kpX; omega) (by omega) (by omega)
  have eV : wv σ' 40 = wv σ 40 := wv_eq fun f b hf => kx _ _ (by unfold kpX; omega) (by omega) (by omega)
  unfold Rel
  rw [eT, eV, kx 40 0 (by unfold kpX; omega) (by omega) (by omega)]
  have hTm : ∀ a i, hT a i → gi σ' a i = gi σ a i := fun a i p => km a i (by simp [kpM, p]) (by unfold hT at p; omega) (by unfold hT at p; omega)
  have hfm : ∀ a i, hf 0 a i → gi σ' a i = gi σ a i := fun a i p => km a i (by simp [kpM, p]) (by unfold hf at p; omega) (by unfold hf at p; omega)
  have m85 : ∀ i, (i = 4 ∨ i = 5 ∨ i = 76 ∨ i = 77 ∨ i = 82 ∨ i = 84) → gi σ' 85 i = gi σ 85 i := fun i q => km 85 i (Or.inl ⟨rfl, by omega⟩) (by omega) (by omega)
  have m : ∀ a i, (a = 87 ∨ a = 126 ∨ a = 129 ∨ a = 130 ∨ a = 131) → gi σ' a i = gi σ a i := fun a i q => km a i (by rcases q with rfl | rfl | rfl | rfl | rfl <;> simp [kpM]) (by omega) (by omega)
  refine ⟨fun i hi => by rw [kx 1 i (by unfold kpX; omega) (by omega) (by omega)]; exact r1 i hi, fun i hi => by rw [kx 0 i (by unfold kpX; omega) (by omega) (by omega)]; exact r2 i hi, fun i hi => by rw [kx 38 i (by unfold kpX; omega) (by omega) (by omega)]; exact r3 i hi, fun i hi => by rw [m 87 i (by omega)]; exact r4 i hi, r5, RB_hT r5 hTm r6, r7, r8, RW_hf r5.2.1.2 hfm r9, r10, RelU_eq (fun a i p => ?_) r11, RelI_eq (fun a i p => ?_) r12, RelF_eq (fun a i p => ?_) r13, rp⟩
  · rcases p with p | p | p
    · exact kx a i (by unfold kpX; omega) (by omega) (by omega)
    · exact m a i (by omega)
    · rw [p.1]; exact m85 i (by omega)
  · rcases p with p | p | p | p | p
    · exact kx a i (by unfold kpX; omega) (by omega) (by omega)
    · exact m a i (by omega)
    · exact m a i (by omega)
    · rw [p.1]; exact m85 i (by omega)
    · exact kx a i (by unfold kpX; omega) (by omega) (by omega)
  · rcases p with p | p | p
    · exact kx a i (by unfold kpX; omega) (by omega) (by omega)
    · exact m a i (by omega)
    · rw [p.1]; exact m85 i (by omega)
theorem oand255 (z : Int) : oand z 255 = z % 256 := by
  unfold oand
  have h1 : (Int32.ofInt z &&& Int32.ofInt 255).toBitVec.toNat = (z % 256).toNat := by
    rw [Int32.toBitVec_and, BitVec.toNat_and]
    have e2 : (Int32.ofInt 255).toBitVec.toNat = 2 ^ 8 - 1 := by decide
    rw [e2, Nat.and_two_pow_sub_one_eq_mod]
    have e1 : (Int32.ofInt z).toBitVec.toNat = (z % (2 ^ 32 : Nat)).toNat := by
      show (BitVec.ofInt 32 z).toNat = _
      rw [BitVec.toNat_ofInt]
    rw [e1]
    have e3 : ((2 ^ 32 : Nat) : Int) = 4294967296 := by decide
    rw [e3, show (2 : Nat) ^ 8 = 256 by decide]
    omega
  show BitVec.toInt _ = _
  rw [BitVec.toInt_eq_toNat_cond, h1, if_pos (by omega)]
  omega
theorem w8_b8 (z : Int) : w8 (w8 z) = b8 (oand z 255) := by
  rw [oand255]
  unfold w8 b8
  rw [Int.bmod_def, Int.bmod_def]
  simp only [show (((256 : Nat) : Int) + 1) / 2 = 128 by decide, show ((256 : Nat) : Int) = 256 from rfl]
  split <;> split <;> (try split) <;> omega
def Pb (σ s : Mm) (x : Int) (L : Nat) : Prop := (∀ a i, ¬ (a = 3 ∧ i = 1) → ¬ (a = 4 ∧ L ≤ i ∧ i < L + 4) → gi s a i = gi σ a i) ∧ gi s 3 1 = (L : Int) + 4 ∧ (∀ k, k < 4 → gi s 4 (L + k) = b8 (oand (oshr x (24 - 8 * (k : Int))) 255))
theorem v_pb_0 {n : Nat}  (x : Int) {σ : Mm} {P : Mm → Prop} (l1 : R 98 3 [some (vr 3), some (vi x), some (vi 24)] [] (shF n) 0 0 σ (Qv (shF n) P)) : Cv 98 [vr 3, vi x] (shF n) σ P :=
  show R 98 0 [some (vr 3), some (vi x), none] [] (shF n) 0 0 σ (Qv (shF n) P) from wpK_R 3 [3] ((l1))
theorem v_pb_L {n : Nat}  (x : Int) (s : Int) {σ : Mm} {P : Mm → Prop} (o1 : (0 : Int) ≤ s → (gi σ 3 1) < (700 : Int) → (0 ≤ (gi σ 3 1) ∧ (gi σ 3 1) < 700)) (o2 : (0 : Int) ≤ s → (gi σ 3 1) < (700 : Int) → ∀ t4 : Mm, t4 = si σ 4 (gi σ 3 1).toNat (w8 (w8 (oshr x s))) → rg ((gi σ 3 1) + 1)) (o3 : (0 : Int) ≤ s → (gi σ 3 1) < (700 : Int) → ∀ t4 : Mm, t4 = si σ 4 (gi σ 3 1).toNat (w8 (w8 (oshr x s))) → ∀ t6 : Mm, t6 = si t4 3 1 ((gi σ 3 1) + 1) → rg (s + (-8))) (l1 : s < (0 : Int) → P σ) (l2 : (0 : Int) ≤ s → (700 : Int) ≤ (gi σ 3 1) → P σ) (l3 : (0 : Int) ≤ s → (gi σ 3 1) < (700 : Int) → ∀ t4 : Mm, t4 = si σ 4 (gi σ 3 1).toNat (w8 (w8 (oshr x s))) → ∀ t6 : Mm, t6 = si t4 3 1 ((gi σ 3 1) + 1) → ∀ x8 : Int, x8 = s + (-8) → R 98 3 [some (vr 3), some (vi x), some (vi x8)] [] (shF n) 0 0 t6 (Qv (shF n) P)) : R 98 3 [some (vr 3), some (vi x), some (vi s)] [] (shF n) 0 0 σ (Qv (shF n) P) :=
  wpK_R 24 [3] (And.intro (fun q1 => And.intro ret0 ⟨rfl, rfl, (l1 q1)⟩) (fun q1 => And.intro (fun q2 => And.intro ret0 ⟨rfl, rfl, (l2 (Int.not_lt.mp q1) q2)⟩) (fun q2 => (have k3 := (o1 (Int.not_lt.mp q1) (Int.not_le.mp q2)); And.intro k3 ((have k5 := (o2 (Int.not_lt.mp q1) (Int.not_le.mp q2) _ rfl); And.intro k5 ((have k7 := (o3 (Int.not_lt.mp q1) (Int.not_le.mp q2) _ rfl _ rfl); And.intro k7 ((l3 (Int.not_lt.mp q1) (Int.not_le.mp q2) _ rfl _ rfl _ rfl))))))))))
theorem c_pb {n : Nat} {x : Int} {σ : Mm} {P : Mm → Prop} (hL : 0 ≤ gi σ 3 1 ∧ gi σ 3 1 + 4 ≤ 700) (hP : ∀ s, Pb σ s x (gi σ 3 1).toNat → P s) : Cv 98 [vr 3, vi x] (shF n) σ P := by
  obtain ⟨L, hLL⟩ : ∃ L : Nat, gi σ 3 1 = (L : Int) := ⟨(gi σ 3 1).toNat, by omega⟩
  rw [hLL, Int.toNat_natCast] at hP
  refine v_pb_0 x ?_
  refine loopUp (N := 4) (I := fun k => ∀ τ : Mm, (∀ a i, ¬ (a = 3 ∧ i = 1) → ¬ (a = 4 ∧ L ≤ i ∧ i < L + 4) → gi τ a i = gi σ a i) → gi τ 3 1 = (L : Int) + (k : Int) → (∀ q, q < k → gi τ 4 (L + q) = b8 (oand (oshr x (24 - 8 * (q : Int))) 255)) → R 98 3 [some (vr 3), some (vi x), some (vi (24 - 8 * (k : Int)))] [] (shF n) 0 0 τ (Qv (shF n) P)) (fun k hk ih => ?_) 0 (by omega) σ (fun _ _ _ _ => rfl) (by omega) (fun _ q => by omega)
  intro τ f1 f2 f3
  refine v_pb_L x _ (by intros; first | omega | (unfold rg; omega)) (by intros; first | omega | (unfold rg; omega)) (by intros; first | omega | (unfold rg; omega)) ?_ ?_ ?_
  · intro hs
    exact hP τ ⟨f1, by omega, fun q hq => f3 q (by omega)⟩
  · intros; exfalso; omega
  · intro hs hlt t4 e4 t6 e6 x8 e8
    rw [f2, show ((L : Int) + (k : Int)).toNat = L + k by omega] at e4
    rw [f2] at e6
    refine R_eq (ih (by omega) t6 (fun a i p q => ?_) ?_ (fun q hq => ?_)) (by rw [e8, show (24 - 8 * ((k + 1 : Nat) : Int)) = 24 - 8 * (k : Int) + (-8) by omega])
    · rw [e6, gi_si, if_neg p, e4, gi_si, if_neg (by omega)]; exact f1 a i p q
    · rw [e6, gi_si, if_pos ⟨rfl, rfl⟩]; omega
    · rw [e6, gi_ne (by omega), e4, gi_si]
      by_cases z : q = k
      · rw [if_pos (by omega), z]; exact w8_b8 _
      · rw [if_neg (by omega)]; exact f3 q (by omega)
theorem v_fd {n : Nat}  (a : Int) (b : Int) (c : Int) (d : Int) (e : Int) {σ : Mm} {P : Int → Mm → Prop} (o1 : rg ((gi σ 3 1) + 20)) (o2 : ((gi σ 3 1) + 20) ≤ (700 : Int) → (0 ≤ gi σ 3 1 ∧ gi σ 3 1 + 4 ≤ 700)) (o3 : ((gi σ 3 1) + 20) ≤ (700 : Int) → ∀ s4 : Mm, Pb σ s4 a (gi σ 3 1).toNat → (0 ≤ gi s4 3 1 ∧ gi s4 3 1 + 4 ≤ 700)) (o4 : ((gi σ 3 1) + 20) ≤ (700 : Int) → ∀ s4 : Mm, Pb σ s4 a (gi σ 3 1).toNat → ∀ s7 : Mm, Pb s4 s7 b (gi s4 3 1).toNat → (0 ≤ gi s7 3 1 ∧ gi s7 3 1 + 4 ≤ 700)) (o5 : ((gi σ 3 1) + 20) ≤ (700 : Int) → ∀ s4 : Mm, Pb σ s4 a (gi σ 3 1).toNat → ∀ s7 : Mm, Pb s4 s7 b (gi s4 3 1).toNat → ∀ s10 : Mm, Pb s7 s10 c (gi s7 3 1).toNat → (0 ≤ gi s10 3 1 ∧ gi s10 3 1 + 4 ≤ 700)) (o6 : ((gi σ 3 1) + 20) ≤ (700 : Int) → ∀ s4 : Mm, Pb σ s4 a (gi σ 3 1).toNat → ∀ s7 : Mm, Pb s4 s7 b (gi s4 3 1).toNat → ∀ s10 : Mm, Pb s7 s10 c (gi s7 3 1).toNat → ∀ s13 : Mm, Pb s10 s13 d (gi s10 3 1).toNat → (0 ≤ gi s13 3 1 ∧ gi s13 3 1 + 4 ≤ 700)) (l1 : ((gi σ 3 1) + 20) ≤ (700 : Int) → ∀ s4 : Mm, Pb σ s4 a (gi σ 3 1).toNat → ∀ s7 : Mm, Pb s4 s7 b (gi s4 3 1).toNat → ∀ s10 : Mm, Pb s7 s10 c (gi s7 3 1).toNat → ∀ s13 : Mm, Pb s10 s13 d (gi s10 3 1).toNat → ∀ s16 : Mm, Pb s13 s16 e (gi s13 3 1).toNat → P (gi s16 3 1) s16) (l2 : (700 : Int) < ((gi σ 3 1) + 20) → P (-1) σ) : Ci 97 [vr 3, vi a, vi b, vi c, vi d, vi e] (shF n) σ P :=
  show R 97 0 [some (vr 3), some (vi a), some (vi b), some (vi c), some (vi d), some (vi e)] [] (shF n) 0 0 σ (Qi (shF n) P) from wpK_R 24 [] ((have k1 := (o1); And.intro k1 (And.intro (fun q2 => (c_pb  (o2 q2) (fun s4 h5 => (c_pb  (o3 q2 s4 h5) (fun s7 h8 => (c_pb  (o4 q2 s4 h5 s7 h8) (fun s10 h11 => (c_pb  (o5 q2 s4 h5 s7 h8 s10 h11) (fun s13 h14 => (c_pb  (o6 q2 s4 h5 s7 h8 s10 h11 s13 h14) (fun s16 h17 => And.intro ret0 ⟨rfl, _, rfl, (l1 q2 s4 h5 s7 h8 s10 h11 s13 h14 s16 h17)⟩))))))))))) (fun q2 => And.intro ret0 ⟨rfl, _, rfl, (l2 (Int.not_le.mp q2))⟩))))
theorem v_fdR_0 {n : Nat}  (a : Int) (b : Int) (c : Int) (d : Int) (e : Int) {σ : Mm} {P : Int → Mm → Prop} (o1 : ∀ t1 : Mm, t1 = si σ 85 2 (0 : Int) → rg ((gi σ 85 1) + 20)) (l1 : ∀ t1 : Mm, t1 = si σ 85 2 (0 : Int) → ((gi σ 85 1) + 20) ≤ (700 : Int) → R 156 23 [some (vr 85), some (vi a), some (vi b), some (vi c), some (vi d), some (vi e), some (vi 0), none] [] (shF n) 0 0 t1 (Qi (shF n) P)) (l2 : ∀ t1 : Mm, t1 = si σ 85 2 (0 : Int) → (700 : Int) < ((gi σ 85 1) + 20) → P (-1) t1) : Ci 156 [vr 85, vi a, vi b, vi c, vi d, vi e] (shF n) σ P :=
  show R 156 0 [some (vr 85), some (vi a), some (vi b), some (vi c), some (vi d), some (vi e), none, none] [] (shF n) 0 0 σ (Qi (shF n) P) from wpK_R 12 [23] ((have k2 := (o1 _ rfl); And.intro k2 (And.intro (fun q3 => (l1 _ rfl q3)) (fun q3 => And.intro ret0 ⟨rfl, _, rfl, (l2 _ rfl (Int.not_le.mp q3))⟩))))
theorem v_fdR_L {n : Nat}  (a : Int) (b : Int) (c : Int) (d : Int) (e : Int) (k : Nat) (z : Option PV) {σ : Mm} {P : Int → Mm → Prop} (o1 : (20 : Int) ≤ (k : Int) → rg ((gi σ 85 1) + 20)) (o2 : (k : Int) < (20 : Int) → (4 : Int) ≤ (k : Int) → (8 : Int) ≤ (k : Int) → (12 : Int) ≤ (k : Int) → (16 : Int) ≤ (k : Int) → rg ((gi σ 85 1) + (k : Int))) (o3 : (k : Int) < (20 : Int) → (4 : Int) ≤ (k : Int) → (8 : Int) ≤ (k : Int) → (12 : Int) ≤ (k : Int) → (16 : Int) ≤ (k : Int) → (0 ≤ (k : Int) ∧ 0 < (4 : Int))) (o4 : (k : Int) < (20 : Int) → (4 : Int) ≤ (k : Int) → (8 : Int) ≤ (k : Int) → (12 : Int) ≤ (k : Int) → (16 : Int) ≤ (k : Int) → rg ((8 : Int) * ((k : Int) % (4 : Int)))) (o5 : (k : Int) < (20 : Int) → (4 : Int) ≤ (k : Int) → (8 : Int) ≤ (k : Int) → (12 : Int) ≤ (k : Int) → (16 : Int) ≤ (k : Int) → rg ((24 : Int) - ((8 : Int) * ((k : Int) % (4 : Int))))) (o6 : (k : Int) < (20 : Int) → (4 : Int) ≤ (k : Int) → (8 : Int) ≤ (k : Int) → (12 : Int) ≤ (k : Int) → (16 : Int) ≤ (k : Int) → (0 ≤ ((gi σ 85 1) + (k : Int)) ∧ ((gi σ 85 1) + (k : Int)) < 700)) (o7 : (k : Int) < (20 : Int) → (4 : Int) ≤ (k : Int) → (8 : Int) ≤ (k : Int) → (12 : Int) ≤ (k : Int) → (16 : Int) ≤ (k : Int) → ∀ t13 : Mm, t13 = si σ 86 ((gi σ 85 1) + (k : Int)).toNat (oand (oshr e ((24 : Int) - ((8 : Int) * ((k : Int) % (4 : Int))))) (255 : Int)) → rg ((k : Int) + 1)) (o8 : (k : Int) < (20 : Int) → (4 : Int) ≤ (k : Int) → (8 : Int) ≤ (k : Int) → (12 : Int) ≤ (k : Int) → (k : Int) < (16 : Int) → rg ((gi σ 85 1) + (k : Int))) (o9 : (k : Int) < (20 : Int) → (4 : Int) ≤ (k : Int) → (8 : Int) ≤ (k : Int) → (12 : Int) ≤ (k : Int) → (k : Int) < (16 : Int) → (0 ≤ (k : Int) ∧ 0 < (4 : Int))) (o10 : (k : Int) < (20 : Int) → (4 : Int) ≤ (k : Int) → (8 : Int) ≤ (k : Int) → (12 : Int) ≤ (k : Int) → (k : Int) < (16 : Int) → rg ((8 : Int) * ((k : Int) % (4 : Int)))) (o11 : (k : Int) < (20 : Int) → (4 : Int) ≤ (k : Int) → (8 : Int) ≤ (k : Int) → (12 : Int) ≤ (k : Int) → (k : Int) < (16 : Int) → rg ((24 : Int) - ((8 : Int) * ((k : Int) % (4 : Int))))) (o12 : (k : Int) < (20 : Int) → (4 : Int) ≤ (k : Int) → (8 : Int) ≤ (k : Int) → (12 : Int) ≤ (k : Int) → (k : Int) < (16 : Int) → (0 ≤ ((gi σ 85 1) + (k : Int)) ∧ ((gi σ 85 1) + (k : Int)) < 700)) (o13 : (k : Int) < (20 : Int) → (4 : Int) ≤ (k : Int) → (8 : Int) ≤ (k : Int) → (12 : Int) ≤ (k : Int) → (k : Int) < (16 : Int) → ∀ t20 : Mm, t20 = si σ 86 ((gi σ 85 1) + (k : Int)).toNat (oand (oshr d ((24 : Int) - ((8 : Int) * ((k : Int) % (4 : Int))))) (255 : Int)) → rg ((k : Int) + 1)) (o14 : (k : Int) < (20 : Int) → (4 : Int) ≤ (k : Int) → (8 : Int) ≤ (k : Int) → (k : Int) < (12 : Int) → rg ((gi σ 85 1) + (k : Int))) (o15 : (k : Int) < (20 : Int) → (4 : Int) ≤ (k : Int) → (8 : Int) ≤ (k : Int) → (k : Int) < (12 : Int) → (0 ≤ (k : Int) ∧ 0 < (4 : Int))) (o16 : (k : Int) < (20 : Int) → (4 : Int) ≤ (k : Int) → (8 : Int) ≤ (k : Int) → (k : Int) < (12 : Int) → rg ((8 : Int) * ((k : Int) % (4 : Int)))) (o17 : (k : Int) < (20 : Int) → (4 : Int) ≤ (k : Int) → (8 : Int) ≤ (k : Int) → (k : Int) < (12 : Int) → rg ((24 : Int) - ((8 : Int) * ((k : Int) % (4 : Int))))) (o18 : (k : Int) < (20 : Int) → (4 : Int) ≤ (k : Int) → (8 : Int) ≤ (k : Int) → (k : Int) < (12 : Int) → (0 ≤ ((gi σ 85 1) + (k : Int)) ∧ ((gi σ 85 1) + (k : Int)) < 700)) (o19 : (k : Int) < (20 : Int) → (4 : Int) ≤ (k : Int) → (8 : Int) ≤ (k : Int) → (k : Int) < (12 : Int) → ∀ t27 : Mm, t27 = si σ 86 ((gi σ 85 1) + (k : Int)).toNat (oand (oshr c ((24 : Int) - ((8 : Int) * ((k : Int) % (4 : Int))))) (255 : Int)) → rg ((k : Int) + 1)) (o20 : (k : Int) < (20 : Int) → (4 : Int) ≤ (k : Int) → (k : Int) < (8 : Int) → rg ((gi σ 85 1) + (k : Int))) (o21 : (k : Int) < (20 : Int) → (4 : Int) ≤ (k : Int) → (k : Int) < (8 : Int) → (0 ≤ (k : Int) ∧ 0 < (4 : Int))) (o22 : (k : Int) < (20 : Int) → (4 : Int) ≤ (k : Int) → (k : Int) < (8 : Int) → rg ((8 : Int) * ((k : Int) % (4 : Int)))) (o23 : (k : Int) < (20 : Int) → (4 : Int) ≤ (k : Int) → (k : Int) < (8 : Int) → rg ((24 : Int) - ((8 : Int) * ((k : Int) % (4 : Int))))) (o24 : (k : Int) < (20 : Int) → (4 : Int) ≤ (k : Int) → (k : Int) < (8 : Int) → (0 ≤ ((gi σ 85 1) + (k : Int)) ∧ ((gi σ 85 1) + (k : Int)) < 700)) (o25 : (k : Int) < (20 : Int) → (4 : Int) ≤ (k : Int) → (k : Int) < (8 : Int) → ∀ t34 : Mm, t34 = si σ 86 ((gi σ 85 1) + (k : Int)).toNat (oand (oshr b ((24 : Int) - ((8 : Int) * ((k : Int) % (4 : Int))))) (255 : Int)) → rg ((k : Int) + 1)) (o26 : (k : Int) < (20 : Int) → (k : Int) < (4 : Int) → rg ((gi σ 85 1) + (k : Int))) (o27 : (k : Int) < (20 : Int) → (k : Int) < (4 : Int) → (0 ≤ (k : Int) ∧ 0 < (4 : Int))) (o28 : (k : Int) < (20 : Int) → (k : Int) < (4 : Int) → rg ((8 : Int) * ((k : Int) % (4 : Int)))) (o29 : (k : Int) < (20 : Int) → (k : Int) < (4 : Int) → rg ((24 : Int) - ((8 : Int) * ((k : Int) % (4 : Int))))) (o30 : (k : Int) < (20 : Int) → (k : Int) < (4 : Int) → (0 ≤ ((gi σ 85 1) + (k : Int)) ∧ ((gi σ 85 1) + (k : Int)) < 700)) (o31 : (k : Int) < (20 : Int) → (k : Int) < (4 : Int) → ∀ t41 : Mm, t41 = si σ 86 ((gi σ 85 1) + (k : Int)).toNat (oand (oshr a ((24 : Int) - ((8 : Int) * ((k : Int) % (4 : Int))))) (255 : Int)) → rg ((k : Int) + 1)) (l1 : (20 : Int) ≤ (k : Int) → ∀ t3 : Mm, t3 = si σ 85 1 ((gi σ 85 1) + 20) → P ((gi σ 85 1) + 20) t3) (l2 : (k : Int) < (20 : Int) → (4 : Int) ≤ (k : Int) → (8 : Int) ≤ (k : Int) → (12 : Int) ≤ (k : Int) → (16 : Int) ≤ (k : Int) → ∀ t13 : Mm, t13 = si σ 86 ((gi σ 85 1) + (k : Int)).toNat (oand (oshr e ((24 : Int) - ((8 : Int) * ((k : Int) % (4 : Int))))) (255 : Int)) → R 156 23 [some (vr 85), some (vi a), some (vi b), some (vi c), some (vi d), some (vi e), some (vi ((k : Int) + 1)), some (vi e)] [] (shF n) 0 0 t13 (Qi (shF n) P)) (l3 : (k : Int) < (20 : Int) → (4 : Int) ≤ (k : Int) → (8 : Int) ≤ (k : Int) → (12 : Int) ≤ (k : Int) → (k : Int) < (16 : Int) → ∀ t20 : Mm, t20 = si σ 86 ((gi σ 85 1) + (k : Int)).toNat (oand (oshr d ((24 : Int) - ((8 : Int) * ((k : Int) % (4 : Int))))) (255 : Int)) → R 156 23 [some (vr 85), some (vi a), some (vi b), some (vi c), some (vi d), some (vi e), some (vi ((k : Int) + 1)), some (vi d)] [] (shF n) 0 0 t20 (Qi (shF n) P)) (l4 : (k : Int) < (20 : Int) → (4 : Int) ≤ (k : Int) → (8 : Int) ≤ (k : Int) → (k : Int) < (12 : Int) → ∀ t27 : Mm, t27 = si σ 86 ((gi σ 85 1) + (k : Int)).toNat (oand (oshr c ((24 : Int) - ((8 : Int) * ((k : Int) % (4 : Int))))) (255 : Int)) → R 156 23 [some (vr 85), some (vi a), some (vi b), some (vi c), some (vi d), some (vi e), some (vi ((k : Int) + 1)), some (vi c)] [] (shF n) 0 0 t27 (Qi (shF n) P)) (l5 : (k : Int) < (20 : Int) → (4 : Int) ≤ (k : Int) → (k : Int) < (8 : Int) → ∀ t34 : Mm, t34 = si σ 86 ((gi σ 85 1) + (k : Int)).toNat (oand (oshr b ((24 : Int) - ((8 : Int) * ((k : Int) % (4 : Int))))) (255 : Int)) → R 156 23 [some (vr 85), some (vi a), some (vi b), some (vi c), some (vi d), some (vi e), some (vi ((k : Int) + 1)), some (vi b)] [] (shF n) 0 0 t34 (Qi (shF n) P)) (l6 : (k : Int) < (20 : Int) → (k : Int) < (4 : Int) → ∀ t41 : Mm, t41 = si σ 86 ((gi σ 85 1) + (k : Int)).toNat (oand (oshr a ((24 : Int) - ((8 : Int) * ((k : Int) % (4 : Int))))) (255 : Int)) → R 156 23 [some (vr 85), some (vi a), some (vi b), some (vi c), some (vi d), some (vi e), some (vi ((k : Int) + 1)), some (vi a)] [] (shF n) 0 0 t41 (Qi (shF n) P)) : R 156 23 [some (vr 85), some (vi a), some (vi b), some (vi c), some (vi d), some (vi e), some (vi (k : Int)), z] [] (shF n) 0 0 σ (Qi (shF n) P) :=
  wpK_R 39 [23] (And.intro (fun q1 => (have k2 := (o1 q1); And.intro k2 (And.intro ret0 ⟨rfl, _, rfl, (l1 q1 _ rfl)⟩))) (fun q1 => And.intro (fun q4 => And.intro (fun q5 => And.intro (fun q6 => And.intro (fun q7 => (have k8 := (o2 (Int.not_le.mp q1) q4 q5 q6 q7); And.intro k8 ((have k9 := (o3 (Int.not_le.mp q1) q4 q5 q6 q7); And.intro k9 ((have k10 := (o4 (Int.not_le.mp q1) q4 q5 q6 q7); And.intro k10 ((have k11 := (o5 (Int.not_le.mp q1) q4 q5 q6 q7); And.intro k11 ((have k12 := (o6 (Int.not_le.mp q1) q4 q5 q6 q7); And.intro k12 ((have k14 := (o7 (Int.not_le.mp q1) q4 q5 q6 q7 _ rfl); And.intro k14 ((l2 (Int.not_le.mp q1) q4 q5 q6 q7 _ rfl)))))))))))))) (fun q7 => (have k15 := (o8 (Int.not_le.mp q1) q4 q5 q6 (Int.not_le.mp q7)); And.intro k15 ((have k16 := (o9 (Int.not_le.mp q1) q4 q5 q6 (Int.not_le.mp q7)); And.intro k16 ((have k17 := (o10 (Int.not_le.mp q1) q4 q5 q6 (Int.not_le.mp q7)); And.intro k17 ((have k18 := (o11 (Int.not_le.mp q1) q4 q5 q6 (Int.not_le.mp q7)); And.intro k18 ((have k19 := (o12 (Int.not_le.mp q1) q4 q5 q6 (Int.not_le.mp q7)); And.intro k19 ((have k21 := (o13 (Int.not_le.mp q1) q4 q5 q6 (Int.not_le.mp q7) _ rfl); And.intro k21 ((l3 (Int.not_le.mp q1) q4 q5 q6 (Int.not_le.mp q7) _ rfl))))))))))))))) (fun q6 => (have k22 := (o14 (Int.not_le.mp q1) q4 q5 (Int.not_le.mp q6)); And.intro k22 ((have k23 := (o15 (Int.not_le.mp q1) q4 q5 (Int.not_le.mp q6)); And.intro k23 ((have k24 := (o16 (Int.not_le.mp q1) q4 q5 (Int.not_le.mp q6)); And.intro k24 ((have k25 := (o17 (Int.not_le.mp q1) q4 q5 (Int.not_le.mp q6)); And.intro k25 ((have k26 := (o18 (Int.not_le.mp q1) q4 q5 (Int.not_le.mp q6)); And.intro k26 ((have k28 := (o19 (Int.not_le.mp q1) q4 q5 (Int.not_le.mp q6) _ rfl); And.intro k28 ((l4 (Int.not_le.mp q1) q4 q5 (Int.not_le.mp q6) _ rfl))))))))))))))) (fun q5 => (have k29 := (o20 (Int.not_le.mp q1) q4 (Int.not_le.mp q5)); And.intro k29 ((have k30 := (o21 (Int.not_le.mp q1) q4 (Int.not_le.mp q5)); And.intro k30 ((have k31 := (o22 (Int.not_le.mp q1) q4 (Int.not_le.mp q5)); And.intro k31 ((have k32 := (o23 (Int.not_le.mp q1) q4 (Int.not_le.mp q5)); And.intro k32 ((have k33 := (o24 (Int.not_le.mp q1) q4 (Int.not_le.mp q5)); And.intro k33 ((have k35 := (o25 (Int.not_le.mp q1) q4 (Int.not_le.mp q5) _ rfl); And.intro k35 ((l5 (Int.not_le.mp q1) q4 (Int.not_le.mp q5) _ rfl))))))))))))))) (fun q4 => (have k36 := (o26 (Int.not_le.mp q1) (Int.not_le.mp q4)); And.intro k36 ((have k37 := (o27 (Int.not_le.mp q1) (Int.not_le.mp q4)); And.intro k37 ((have k38 := (o28 (Int.not_le.mp q1) (Int.not_le.mp q4)); And.intro k38 ((have k39 := (o29 (Int.not_le.mp q1) (Int.not_le.mp q4)); And.intro k39 ((have k40 := (o30 (Int.not_le.mp q1) (Int.not_le.mp q4)); And.intro k40 ((have k42 := (o31 (Int.not_le.mp q1) (Int.not_le.mp q4) _ rfl); And.intro k42 ((l6 (Int.not_le.mp q1) (Int.not_le.mp q4) _ rfl))))))))))))))))
def fdW (a b c d e : Int) (k : Nat) : Int := if k < 4 then a else if k < 8 then b else if k < 12 then c else if k < 16 then d else e
def fdB (a b c d e : Int) (k : Nat) : Int := oand (oshr (fdW a b c d e k) (24 - 8 * ((k % 4 : Nat) : Int))) 255
theorem q_feed {xs : Nat → Int} {N n : Nat} {σ : Mm} (h : Rel xs N σ) (a b c d e : Int) : Bi xs N n 97 [vr 3, vi a, vi b, vi c, vi d, vi e] 156 [vr 85, vi a, vi b, vi c, vi d, vi e] σ := by
  obtain ⟨p1, p2, p3, p4, p5, p6⟩ := h.2.2.2.2.2.2.2.2.2.2.2.2.2
  obtain ⟨L, hL⟩ : ∃ L : Nat, gi σ 3 1 = (L : Int) := ⟨(gi σ 3 1).toNat, by omega⟩
  have hno : 700 < gi σ 3 1 + 20 → Ci 156 [vr 85, vi a, vi b, vi c, vi d, vi e] (shF n) σ (fun v' s' => v' = -1 ∧ Rel xs N s') := fun q => by
    refine v_fdR_0 a b c d e (by intros; unfold rg; omega) ?_ ?_
    · intros; exfalso; omega
    · intro t1 ht _; rw [ht]; exact ⟨rfl, Rel_th h⟩
  refine v_fd a b c d e (by unfold rg; omega) (by intros; omega) (by intro h0 s4 w4; have z4 := w4.2.1; omega) (by intro h0 s4 w4 s7 w7; have z4 := w4.2.1; have z7 := w7.2.1; omega) (by intro h0 s4 w4 s7 w7 s10 w10; have z4 := w4.2.1; have z7 := w7.2.1; have z10 := w10.2.1; omega) (by intro h0 s4 w4 s7 w7 s10 w10 s13 w13; have z4 := w4.2.1; have z7 := w7.2.1; have z10 := w10.2.1; have z13 := w13.2.1; omega) ?_ ?_
  · intro h0 s4 w4 s7 w7 s10 w10 s13 w13 s w16
    have z4 := w4.2.1
    have z7 := w7.2.1
    have z10 := w10.2.1
    have z13 := w13.2.1
    have z16 := w16.2.1
    rw [hL, Int.toNat_natCast] at w4
    rw [show (gi s4 3 1).toNat = L + 4 by omega] at w7
    rw [show (gi s7 3 1).toNat = L + 8 by omega] at w10
    rw [show (gi s10 3 1).toNat = L + 12 by omega] at w13
    rw [show (gi s13 3 1).toNat = L + 16 by omega] at w16
    have hout : ∀ a i, ¬ (a = 3 ∧ i = 1) → ¬ (a = 4 ∧ L ≤ i ∧ i < L + 20) → gi s a i = gi σ a i := fun a i p q => by
      rw [w16.1 a i p (by omega), w13.1 a i p (by omega), w10.1 a i p (by omega), w7.1 a i p (by omega), w4.1 a i p (by omega)]
    have hby : ∀ k, k < 20 → gi s 4 (L + k) = b8 (fdB a b c d e k) := fun k hk => by
      unfold fdB fdW
      by_cases k4 : k < 4
      · rw [if_pos k4, w16.1 _ _ (by omega) (by omega), w13.1 _ _ (by omega) (by omega), w10.1 _ _ (by omega) (by omega), w7.1 _ _ (by omega) (by omega), show k % 4 = k by omega]; exact w4.2.2 k k4
      · rw [if_neg k4]
        by_cases k8 : k < 8
        · rw [if_pos k8, w16.1 _ _ (by omega) (by omega), w13.1 _ _ (by omega) (by omega), w10.1 _ _ (by omega) (by omega), show k % 4 = k - 4 by omega, show L + k = L + 4 + (k - 4) by omega]; exact w7.2.2 (k - 4) (by omega)
        · rw [if_neg k8]
          by_cases k12 : k < 12
          · rw [if_pos k12, w16.1 _ _ (by omega) (by omega), w13.1 _ _ (by omega) (by omega), show k % 4 = k - 8 by omega, show L + k = L + 8 + (k - 8) by omega]; exact w10.2.2 (k - 8) (by omega)
          · rw [if_neg k12]
            by_cases k16 : k < 16
            · rw [if_pos k16, w16.1 _ _ (by omega) (by omega), show k % 4 = k - 12 by omega, show L + k = L + 12 + (k - 12) by omega]; exact w13.2.2 (k - 12) (by omega)
            · rw [if_neg k16, show k % 4 = k - 16 by omega, show L + k = L + 16 + (k - 16) by omega]; exact w16.2.2 (k - 16) (by omega)
    have g31 : gi s 3 1 = (L : Int) + 20 := by omega
    have g851 : gi s 85 1 = (L : Int) := by rw [hout _ _ (by omega) (by omega)]; omega
    rw [g31]
    clear w4 w7 w10 w13 w16
    refine v_fdR_0 a b c d e (by intros; unfold rg; omega) ?_ ?_
    · intro t1 ht _
      have ho1 : ∀ a i, ¬ (a = 85 ∧ i = 2) → gi t1 a i = gi s a i := fun a i q => by rw [ht, gi_si, if_neg q]
      refine loopUp (N := 20) (I := fun k => ∀ (z : Option PV) (τ : Mm), (∀ a i, ¬ (a = 86 ∧ L ≤ i ∧ i < L + 20) → gi τ a i = gi t1 a i) → (∀ q, q < k → gi τ 86 (L + q) = fdB a b c d e q) → R 156 23 [some (vr 85), some (vi a), some (vi b), some (vi c), some (vi d), some (vi e), some (vi (k : Int)), z] [] (shF n) 0 0 τ (Qi (shF n) (fun v' s' => v' = (L : Int) + 20 ∧ Rel xs N s'))) (fun k hk ih => ?_) 0 (by omega) none t1 (fun _ _ _ => rfl) (fun _ q => by omega)
      intro z τ f1 f2
      have e1 : gi τ 85 1 = (L : Int) := by rw [f1 _ _ (by omega), ho1 _ _ (by omega)]; exact g851
      have hstep : ∀ (t : Mm) (w : Int) (z : Option PV), k < 20 → w = fdW a b c d e k → t = si τ 86 (gi τ 85 1 + (k : Int)).toNat (oand (oshr w (24 - 8 * ((k : Int) % 4))) 255) → R 156 23 [some (vr 85), some (vi a), some (vi b), some (vi c), some (vi d), some (vi e), some (vi ((k : Int) + 1)), z] [] (shF n) 0 0 t (Qi (shF n) (fun v' s' => v' = (L : Int) + 20 ∧ Rel xs N s')) := fun t w z hk20 hw et => by
        rw [e1, show ((L : Int) + (k : Int)).toNat = L + k by omega] at et
        refine R_eq (ih (by omega) z t (fun a i p => ?_) (fun q hq => ?_)) rfl
        · rw [et, gi_si, if_neg (by omega)]; exact f1 a i p
        · rw [et, gi_si]
          by_cases y : q = k
          · rw [if_pos (by omega), y, hw]
            unfold fdB
            rw [Int.natCast_emod]
            rfl
          · rw [if_neg (by omega)]; exact f2 q (by omega)
      refine v_fdR_L a b c d e k z (by intros; (try rw [e1]); first | omega | (unfold rg; omega)) (by intros; (try rw [e1]); first | omega | (unfold rg; omega)) (by intros; (try rw [e1]); first | omega | (unfold rg; omega)) (by intros; (try rw [e1]); first | omega | (unfold rg; omega)) (by intros; (try rw [e1]); first | omega | (unfold rg; omega)) (by intros; (try rw [e1]); first | omega | (unfold rg; omega)) (by intros; (try rw [e1]); first | omega | (unfold rg; omega)) (by intros; (try rw [e1]); first | omega | (unfold rg; omega)) (by intros; (try rw [e1]); first | omega | (unfold rg; omega)) (by intros; (try rw [e1]); first | omega | (unfold rg; omega)) (by intros; (try rw [e1]); first | omega | (unfold rg; omega)) (by intros; (try rw [e1]); first | omega | (unfold rg; omega)) (by intros; (try rw [e1]); first | omega | (unfold rg; omega)) (by intros; (try rw [e1]); first | omega | (unfold rg; omega)) (by intros; (try rw [e1]); first | omega | (unfold rg; omega)) (by intros; (try rw [e1]); first | omega | (unfold rg; omega)) (by intros; (try rw [e1]); first | omega | (unfold rg; omega)) (by intros; (try rw [e1]); first | omega | (unfold rg; omega)) (by intros; (try rw [e1]); first | omega | (unfold rg; omega)) (by intros; (try rw [e1]); first | omega | (unfold rg; omega)) (by intros; (try rw [e1]); first | omega | (unfold rg; omega)) (by intros; (try rw [e1]); first | omega | (unfold rg; omega)) (by intros; (try rw [e1]); first | omega | (unfold rg; omega)) (by intros; (try rw [e1]); first | omega | (unfold rg; omega)) (by intros; (try rw [e1]); first | omega | (unfold rg; omega)) (by intros; (try rw [e1]); first | omega | (unfold rg; omega)) (by intros; (try rw [e1]); first | omega | (unfold rg; omega)) (by intros; (try rw [e1]); first | omega | (unfold rg; omega)) (by intros; (try rw [e1]); first | omega | (unfold rg; omega)) (by intros; (try rw [e1]); first | omega | (unfold rg; omega)) (by intros; (try rw [e1]); first | omega | (unfold rg; omega)) ?_ ?_ ?_ ?_ ?_ ?_
      · intro hge t3 e3
        rw [e1] at e3 ⊢
        refine ⟨rfl, Rel_P h (fun x i p q1 q2 => ?_) (fun x i p q1 q2 => ?_) ⟨?_, ?_, fun i hi => ?_, ?_, ?_, fun k hk hk2 => ?_⟩⟩
        · have hx : x < 85 := by unfold kpX at p; omega
          rw [e3, gi_ne (by omega), f1 _ _ (by omega), ho1 _ _ (by omega)]; exact hout x i q1 (by omega)
        · have hx := kpM_85 p
          have hn := kpM_sc p
          rw [e3, gi_si, if_neg q2, f1 _ _ (by omega), ho1 _ _ (by omega)]; exact hout x i (by omega) (by omega)
        · rw [e3, gi_ne (by omega), f1 _ _ (by omega), ho1 _ _ (by omega)]; omega
        · rw [e3, gi_si, if_pos ⟨rfl, rfl⟩, gi_ne (by omega), f1 _ _ (by omega), ho1 _ _ (by omega)]; omega
        · rw [e3, gi_ne (by omega), f1 _ _ (by omega), ho1 _ _ (by omega), g31] at hi
          rw [e3, gi_ne (by omega), gi_ne (by omega), f1 4 _ (by omega), ho1 _ _ (by omega)]
          by_cases y : i < L
          · rw [f1 86 _ (by omega), ho1 _ _ (by omega), hout _ _ (by omega) (by omega), hout _ _ (by omega) (by omega)]
            exact p3 i (by omega)
          · obtain ⟨q, hq⟩ : ∃ q, i = L + q := ⟨i - L, by omega⟩
            rw [hq, f2 q (by omega), hby q (by omega)]
            refine ⟨?_, rfl⟩
            unfold fdB
            rw [oand255]
            omega
        · rw [e3, gi_si, if_neg (by omega), gi_ne (by omega), f1 _ _ (by omega), ho1 _ _ (by omega), f1 _ _ (by omega), ho1 _ _ (by omega), hout _ _ (by omega) (by omega), hout _ _ (by omega) (by omega)]; exact p4
        · rw [e3, gi_si, if_neg (by omega), gi_ne (by omega), f1 _ _ (by omega), ho1 _ _ (by omega), f1 _ _ (by omega), ho1 _ _ (by omega), hout _ _ (by omega) (by omega), hout _ _ (by omega) (by omega)]; exact p5
        · rw [e3, gi_ne (by omega), f1 _ _ (by omega), ho1 _ _ (by omega), hout _ _ (by omega) (by omega)] at hk2
          have zz : ∀ x i, x < 85 → ¬ (x = 3 ∧ i = 1) → x ≠ 4 → gi t3 x i = gi σ x i := fun x i q q1 q2 => by rw [e3, gi_ne (by omega), f1 _ _ (by omega), ho1 _ _ (by omega)]; exact hout x i q1 (by omega)
          rw [zz 48 k (by omega) (by omega) (by omega), zz 66 k (by omega) (by omega) (by omega), zz 3 10 (by omega) (by omega) (by omega)]; exact p6 k hk hk2
      all_goals (intros; refine hstep _ _ _ (by omega) ?_ (by assumption); unfold fdW; first | rw [if_neg (by omega), if_neg (by omega), if_neg (by omega), if_neg (by omega)] | rw [if_neg (by omega), if_neg (by omega), if_neg (by omega), if_pos (by omega)] | rw [if_neg (by omega), if_neg (by omega), if_pos (by omega)] | rw [if_neg (by omega), if_pos (by omega)] | rw [if_pos (by omega)])
    · intros; exfalso; omega
  · intro hq; exact hno hq
