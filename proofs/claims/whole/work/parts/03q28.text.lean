/-! TEXT: both -/
theorem Rel_Q {xs : Nat → Int} {N : Nat} {σ σ' : Mm} (h : Rel xs N σ) (kx : ∀ a i, kpX a → ¬ (a = 3 ∧ (1 ≤ i ∧ i ≤ 3)) → gi σ' a i = gi σ a i) (km : ∀ a i, kpM a i → ¬ (a = 85 ∧ (i = 1 ∨ i = 4 ∨ i = 5)) → gi σ' a i = gi σ a i) (rp : RelP σ') : Rel xs N σ' := by
  obtain ⟨r1, r2, r3, r4, r5, r6, r7, r8, r9, r10, r11, r12, r13, r14⟩ := h
  have eT : vw σ' 5 = vw σ 5 := vw_same fun a b p q => kx a b (by unfold kpX; omega) (by omega)
  have eV : wv σ' 40 = wv σ 40 := wv_eq fun f b hf => kx _ _ (by unfold kpX; omega) (by omega)
  unfold Rel
  rw [eT, eV, kx 40 0 (by unfold kpX; omega) (by omega)]
  have hTm : ∀ a i, hT a i → gi σ' a i = gi σ a i := fun a i p => km a i (by simp [kpM, p]) (by unfold hT at p; omega)
  have hfm : ∀ a i, hf 0 a i → gi σ' a i = gi σ a i := fun a i p => km a i (by simp [kpM, p]) (by unfold hf at p; omega)
  have m85 : ∀ i, (i = 76 ∨ i = 77 ∨ i = 82 ∨ i = 84) → gi σ' 85 i = gi σ 85 i := fun i q => km 85 i (Or.inl ⟨rfl, by omega⟩) (by omega)
  have m : ∀ a i, (a = 87 ∨ a = 126 ∨ a = 129 ∨ a = 130 ∨ a = 131) → gi σ' a i = gi σ a i := fun a i q => km a i (by rcases q with rfl | rfl | rfl | rfl | rfl <;> simp [kpM]) (by omega)
  refine ⟨fun i hi => by rw [kx 1 i (by unfold kpX; omega) (by omega)]; exact r1 i hi, fun i hi => by rw [kx 0 i (by unfold kpX; omega) (by omega)]; exact r2 i hi, fun i hi => by rw [kx 38 i (by unfold kpX; omega) (by omega)]; exact r3 i hi, fun i hi => by rw [m 87 i (by omega)]; exact r4 i hi, r5, RB_hT r5 hTm r6, r7, r8, RW_hf r5.2.1.2 hfm r9, r10, RelU_eq (fun a i p => ?_) r11, RelI_eq (fun a i p => ?_) r12, RelF_eq (fun a i p => ?_) r13, rp⟩
  · rcases p with p | p | p
    · exact kx a i (by unfold kpX; omega) (by omega)
    · exact m a i (by omega)
    · rw [p.1]; exact m85 i (by omega)
  · rcases p with p | p | p | p | p
    · exact kx a i (by unfold kpX; omega) (by omega)
    · exact m a i (by omega)
    · exact m a i (by omega)
    · rw [p.1]; exact m85 i (by omega)
    · exact kx a i (by unfold kpX; omega) (by omega)
  · rcases p with p | p | p
    · exact kx a i (by unfold kpX; omega) (by omega)
    · exact m a i (by omega)
    · rw [p.1]; exact m85 i (by omega)
/-- the new book -/
theorem new_bk {T : Nat → Nat → Int} {D ρ z : Mm} (hd : RD D ρ) (c0 : T 0 0 = gi D 21 0 ∧ T 0 1 = gi D 21 1 ∧ T 0 2 = gi D 21 2 ∧ T 0 3 = gi D 21 3 ∧ T 0 5 = gi D 21 5 ∧ T 12 0 = gi D 33 0) (c1 : ∀ i : Nat, i < 5 → T 1 i = gi D 22 i ∧ T 2 i = gi D 23 i ∧ T 3 i = gi D 24 i) (c2 : ∀ i : Nat, i < 10 → T 4 i = gi D 25 i ∧ T 5 i = gi D 26 i ∧ T 6 i = gi D 27 i ∧ T 7 i = gi D 28 i) (c3 : ∀ i : Nat, i < 5 → T 8 i = gi D 29 i ∧ T 9 i = gi D 30 i ∧ T 10 i = gi D 31 i) (c4 : ∀ i : Nat, i < 8 → T 11 i = gi D 32 i) (c5 : ∀ i : Nat, i < 64 → T 13 i = gi D 34 i) (c6 : ∀ i : Nat, i < 3 → T 14 i = gi D 35 i ∧ T 15 i = gi D 36 i)
  (r0 : ∀ i : Nat, i < 5 → gi z 85 (12 + i) = gi ρ 85 (17 + i)) (r1 : ∀ x i : Nat, 89 ≤ x → x ≤ 106 → i < nKt x → gi z x i = gi ρ x (nKt x + i)) : BkOK T ∧ RB T z := by
  obtain ⟨a0, a1, a2, a3, a5, a12⟩ := c0
  obtain ⟨⟨j1, j2, j3⟩, ⟨k1, k2, k3⟩, ⟨l1, l2, l3⟩, ⟨d1, d2, d3⟩, ⟨t1, t2, t3, t4⟩, ⟨w1, w2, w3, w4, w5⟩⟩ := hd
  have q1 : ∀ x i c : Nat, nKt x = c → 89 ≤ x → x ≤ 106 → i < c → gi z x i = gi ρ x (c + i) := fun x i c e p q r => by
    rw [r1 x i p q (by omega), e]
  refine ⟨⟨by rw [a0]; exact j1, by rw [a1]; exact k1, by rw [a2]; exact l1, by rw [a3]; exact d1, by rw [a5]; exact t1, fun j hj => ?_, fun c hc => ?_, fun k hk => ?_, fun d hd => ?_, fun w hw => ?_⟩, ⟨?_, ?_, ?_, ?_, ?_, ?_⟩, fun j hj => ?_, fun c hc => ?_, fun k hk => ?_, fun d hd => ?_, fun w hw => ?_⟩
  · rw [a0] at hj
    rw [(c1 j (by omega)).2.1, (c1 j (by omega)).2.2]
    exact ⟨(j3 j hj).2.2.2.1, (j3 j hj).2.2.2.2⟩
  · rw [a1] at hc
    rw [(c2 c (by omega)).2.1, (c2 c (by omega)).2.2.1, (c2 c (by omega)).2.2.2, a0]
    exact ⟨(k3 c hc).2.2.2.2.1, (k3 c hc).2.2.2.2.2.1, (k3 c hc).2.2.2.2.2.2⟩
  · rw [a2] at hk
    rw [(c3 k (by omega)).2.1, (c3 k (by omega)).2.2]
    exact ⟨(l3 k hk).2.2.2.1, (l3 k hk).2.2.2.2⟩
  · rw [a3] at hd
    rw [c4 d (by omega)]
    exact (d3 d hd).2
  · rw [(c6 w hw).1, (c6 w hw).2]
    have := (w5 w hw).1
    omega
  · rw [a0, ← j2]; exact r0 0 (by omega)
  · rw [a1, ← k2]; exact r0 1 (by omega)
  · rw [a2, ← l2]; exact r0 2 (by omega)
  · rw [a3, ← d2]; exact r0 3 (by omega)
  · rw [a12, ← w3]; exact r0 4 (by omega)
  · rw [a5, ← t2]; exact q1 89 0 1 (by decide) (by omega) (by omega) (by omega)
  · rw [a0] at hj
    have := j3 j hj
    rw [(c1 j (by omega)).1, (c1 j (by omega)).2.1, (c1 j (by omega)).2.2, q1 90 j 5 (by decide) (by omega) (by omega) (by omega), q1 91 j 5 (by decide) (by omega) (by omega) (by omega), q1 92 j 5 (by decide) (by omega) (by omega) (by omega)]
    exact ⟨this.1, this.2.1, this.2.2.1⟩
  · rw [a1] at hc
    have := k3 c hc
    rw [(c2 c (by omega)).1, (c2 c (by omega)).2.1, (c2 c (by omega)).2.2.1, (c2 c (by omega)).2.2.2, q1 93 c 10 (by decide) (by omega) (by omega) (by omega), q1 94 c 10 (by decide) (by omega) (by omega) (by omega), q1 95 c 10 (by decide) (by omega) (by omega) (by omega), q1 96 c 10 (by decide) (by omega) (by omega) (by omega)]
    exact ⟨this.1, this.2.1, this.2.2.1, this.2.2.2.1⟩
  · rw [a2] at hk
    have := l3 k hk
    rw [(c3 k (by omega)).1, (c3 k (by omega)).2.1, (c3 k (by omega)).2.2, q1 97 k 5 (by decide) (by omega) (by omega) (by omega), q1 98 k 5 (by decide) (by omega) (by omega) (by omega), q1 99 k 5 (by decide) (by omega) (by omega) (by omega)]
    exact ⟨this.1, this.2.1, this.2.2.1⟩
  · rw [a3] at hd
    rw [c4 d (by omega), q1 100 d 8 (by decide) (by omega) (by omega) (by omega)]
    exact (d3 d hd).1
  · obtain ⟨v1, v2, v3⟩ := w5 w hw
    unfold LawR
    rw [(c6 w hw).1, (c6 w hw).2, q1 101 w 3 (by decide) (by omega) (by omega) hw, q1 102 w 3 (by decide) (by omega) (by omega) hw, q1 103 w 3 (by decide) (by omega) (by omega) hw]
    refine ⟨v2, fun q => ?_⟩
    obtain ⟨v4, v5, v6, v7⟩ := v3 q
    refine ⟨v4, v5, KnR_cg v6 (fun i hi => c5 _ (by omega)) (fun x i p q r => ?_), ?_⟩
    · have e : nKt x = 64 := by unfold nKt; rw [if_neg (by omega), if_neg (by omega), if_neg (by omega), if_neg (by omega), if_neg (by omega), if_neg (by omega)]
      rw [q1 x (0 + (gi D 35 w).toNat + i) 64 e (by omega) q (by omega)]
      congr 1
      omega
    · rw [hS_cg _ (fun i hi => c5 _ (by omega))]; exact v7
theorem cnt_no {p : Nat → Bool} {K : Nat} (h : ∀ q, q < K → p q = false) : cnt p K = 0 := by
  rw [cnt_ext (M := 0) (by omega) (fun q _ hq => h q hq)]; rfl
/-- the new world -/
theorem new_w {T V : Nat → Nat → Int} {z : Mm} (hb : BkOK T) (v00 : V 0 0 = 0) (v01 : V 0 1 = 0) (vc : ∀ c : Nat, c < 10 → V 1 c = T 5 c ∧ V 2 c = -1 ∧ V 3 c = -1 ∧ V 4 c = 0) (vj : ∀ j : Nat, j < 5 → V 5 j = (j : Int) ∧ V 6 j = 0) (v8 : ∀ j : Nat, j < 5 → V 8 j = 0)
  (z1 : ∀ j : Nat, j < 5 → gi z 111 j = (j : Int) ∧ gi z 112 j = 0 ∧ gi z 113 j = 0 ∧ gi z 119 j = 0) (z2 : ∀ c : Nat, c < 10 → ((c : Int) < T 0 1 → gi z 115 c = T 5 c) ∧ gi z 116 c = -1 ∧ gi z 117 c = -1 ∧ gi z 118 c = 0) (z3 : gi z 120 0 = 0 ∧ gi z 121 0 = 0 ∧ gi z 122 0 = 0) (z4 : ∀ i : Nat, i < 40 → gi z 114 i = V 7 i) : WI T V ∧ UH T V ∧ RW T V z 0 := by
  have b1 := hb.1
  have b2 := hb.2.1
  have b7 := hb.2.2.2.2.2.2.1
  have n4 : ∀ m : Int, m ≠ 0 → cnt (fun x => decide (V 4 x = m)) 10 = 0 := fun m hm => cnt_no fun q hq => decide_eq_false (by rw [(vc q hq).2.2.2]; omega)
  have s6 : sumF (V 6) 5 = 0 := sumF_zero 5 fun q hq => (vj q hq).2
  refine ⟨⟨⟨fun c hc => ?_, fun j hj => ?_, fun u hu => ?_, fun u p hu hp => ?_, by omega⟩, fun u p hu hp => ?_, fun u p u' p' hu hu' hp => ?_, fun c hc _ => (vc c hc).2.2.2, fun c hc => ?_, fun c _ hc => (vc c hc).2.2.1, fun j j' hj hj' e => ?_, fun u hu => ⟨u, hu, (vj u (by omega)).1⟩, fun k hk => ?_, fun u _ hu => (vj u hu).2, ?_, fun x hx => ?_, by omega⟩, fun c hc _ => (vc c (by omega)).2.2.1, ?_, fun c hc => ?_, fun c hc => ?_, fun j hj => ?_, fun i hi => ?_, ?_, ?_⟩
  · rw [(vc c (by omega)).1]; exact (b7 c hc).1
  · rw [(vj j (by omega)).1]; omega
  · rw [(vj u hu).2]; omega
  · rw [(vj u hu).2] at hp; omega
  · rw [(vj u hu).2] at hp; omega
  · rw [(vj u hu).2] at hp; omega
  · rw [(vc c hc).2.1, (vc c hc).2.2.1]; exact ⟨Or.inl rfl, Or.inl rfl, Iff.rfl⟩
  · rw [(vj j (by omega)).1, (vj j' (by omega)).1] at e; omega
  · rw [v8 k hk]; exact ⟨by omega, by omega, fun x _ q => by rw [bi_0] at q; exact absurd q (by decide)⟩
  · rw [s6, n4 1 (by omega)]
  · rw [(vc x hx).2.2.2]; omega
  · rw [v00]; exact z3.1
  · rw [Nat.mul_zero, Nat.zero_add, (vc c (by omega)).1]; exact (z2 c (by omega)).1 hc
  · rw [Nat.mul_zero, Nat.zero_add, (vc c hc).2.1, (vc c hc).2.2.1, (vc c hc).2.2.2]; exact (z2 c hc).2
  · rw [Nat.mul_zero, Nat.zero_add, (vj j hj).1, (vj j hj).2, v8 j hj, v01, bi_0]; exact z1 j hj
  · rw [Nat.mul_zero, Nat.zero_add]; exact z4 i hi
  · rw [n4 2 (by omega)]; exact z3.2.1
  · rw [n4 3 (by omega)]; exact z3.2.2
theorem KtM_r {σ s : Mm} (h : KtM σ s) : (∀ i : Nat, i < 5 → gi s 85 (12 + i) = gi σ 85 (17 + i)) ∧ (∀ x i : Nat, 89 ≤ x → x ≤ 106 → i < nKt x → gi s x i = gi σ x (nKt x + i)) ∧ (∀ j : Nat, j < 5 → gi s 111 j = (j : Int) ∧ gi s 112 j = 0 ∧ gi s 113 j = 0 ∧ gi s 119 j = 0) ∧ (∀ c : Nat, c < 10 → gi s 115 c = gi s 94 c ∧ gi s 116 c = -1 ∧ gi s 117 c = -1 ∧ gi s 118 c = 0) ∧ (gi s 120 0 = 0 ∧ gi s 121 0 = 0 ∧ gi s 122 0 = 0) ∧ (gi s 85 76 = 0 ∧ gi s 85 77 = -1 ∧ gi s 85 82 = 0 ∧ gi s 85 84 = 0) ∧ (∀ a i, ¬ (89 ≤ a ∧ a ≤ 106) → ¬ (111 ≤ a ∧ a ≤ 122 ∧ a ≠ 114) → ¬ (a = 85 ∧ ((12 ≤ i ∧ i ≤ 16) ∨ 65 ≤ i)) → gi s a i = gi σ a i) := by
  obtain ⟨t, u, f2, f1, cu, b1, b2, b3, b4, b5⟩ := h
  have e : ∀ x i : Nat, 89 ≤ x → x ≤ 106 → i < nKt x → gi s x i = gi σ x (nKt x + i) := fun x i p q r => by
    rw [b5 x i (by omega) (by omega), cu x i, if_pos ⟨⟨p, q⟩, r⟩, f1 x _ (by omega)]
  refine ⟨fun i hi => ?_, e, b1, fun c hc => ?_, b3, b4, fun a i p q r => ?_⟩
  · rw [b5 85 _ (by omega) (by omega), cu, if_neg (by omega), f2 i, if_pos hi]
  · rw [b5 94 c (by omega) (by omega)]; exact b2 c hc
  · rw [b5 a i q (by omega), cu, if_neg (by omega), f1 a i (by omega)]
theorem Rel_new {xs : Nat → Int} {N : Nat} {D t8 s11 s14 ρ z : Mm} (hd : RD D ρ) (kt : KtM ρ z) (cb : CbM t8 s11) (e21 : ∀ a i, 21 ≤ a → a ≤ 36 → gi t8 a i = gi D a i) (w0 : W0M s11 s14) (ez : ∀ a i, a < 85 → ¬ (a = 75 ∧ (i = 6 ∨ i = 7)) → ¬ (a = 71 ∧ (i = 3 ∨ i = 4)) → ¬ (a = 3 ∧ i = 10) → gi ρ a i = gi s14 a i) (z75 : gi ρ 75 6 = 0 ∧ gi ρ 75 7 = -1 ∧ gi ρ 71 3 = 0 ∧ gi ρ 71 4 = 0 ∧ gi ρ 3 10 = 0) (zp : gi ρ 3 1 = 0 ∧ gi ρ 85 1 = 0 ∧ gi ρ 85 4 = gi ρ 3 2 ∧ gi ρ 85 5 = gi ρ 3 3) (r1 : ∀ i, i < N → gi ρ 1 i = xs i) (r2 : ∀ i, i < 6 → gi ρ 0 i = pwF i) (r3 : ∀ i, i < 19 → gi ρ 38 i = cdF i) (r4 : ∀ i, i < 95 → gi ρ 87 i = cdW i) (r9 : ∀ i : Nat, i < 40 → gi ρ 114 i = gi ρ 47 i) : Rel xs N z := by
  obtain ⟨k1, k2, k3, k4, k5, k6, k7⟩ := KtM_r kt
  obtain ⟨c0, c1, c2, c3, c4, c5, c6, c7, c8⟩ := cb
  obtain ⟨w1, w2, w3, w4, w5, w6⟩ := w0
  have zc : ∀ a i, a < 85 → ¬ (a = 75 ∧ (i = 6 ∨ i = 7)) → ¬ (a = 71 ∧ (i = 3 ∨ i = 4)) → ¬ (a = 3 ∧ i = 10) → gi z a i = gi s14 a i := fun a i p q r s => by
    rw [k7 a i (by omega) (by omega) (by omega), ez a i p q r s]
  have zB : ∀ a i, 5 ≤ a → a ≤ 20 → gi z a i = gi s11 a i := fun a i p q => by
    rw [zc a i (by omega) (by omega) (by omega) (by omega), w6 a i (by omega)]
  have zK : ∀ a i, a = 0 ∨ a = 1 ∨ a = 38 ∨ a = 47 ∨ a = 87 ∨ a = 114 → gi z a i = gi ρ a i := fun a i p => k7 a i (by omega) (by omega) (by omega)
  have hT : ∀ f i, f ≤ 15 → vw z 5 f i = gi s11 (5 + f) i := fun f i q => (if_pos q).trans (zB (5 + f) i (by omega) (by omega))
  have hV : ∀ f i, f ≤ 8 → wv z 40 f i = gi s14 (40 + f) i := fun f i q => (if_pos q).trans (zc (40 + f) i (by omega) (by omega) (by omega) (by omega))
  obtain ⟨c00, c01, c02, c03, c04, c05, c06⟩ := c0
  obtain ⟨bk, rb⟩ := new_bk (T := vw z 5) (z := z) hd ⟨by rw [hT 0 0 (by omega), c00, e21 21 0 (by omega) (by omega)], by rw [hT 0 1 (by omega), c01, e21 21 1 (by omega) (by omega)], by rw [hT 0 2 (by omega), c02, e21 21 2 (by omega) (by omega)], by rw [hT 0 3 (by omega), c03, e21 21 3 (by omega) (by omega)], by rw [hT 0 5 (by omega), c05, e21 21 5 (by omega) (by omega)], by rw [hT 12 0 (by omega), c5, e21 33 0 (by omega) (by omega)]⟩
    (fun i hi => ⟨by rw [hT 1 i (by omega), (c1 i hi).1, e21 22 i (by omega) (by omega)], by rw [hT 2 i (by omega), (c1 i hi).2.1, e21 23 i (by omega) (by omega)], by rw [hT 3 i (by omega), (c1 i hi).2.2, e21 24 i (by omega) (by omega)]⟩)
    (fun i hi => ⟨by rw [hT 4 i (by omega), (c2 i hi).1, e21 25 i (by omega) (by omega)], by rw [hT 5 i (by omega), (c2 i hi).2.1, e21 26 i (by omega) (by omega)], by rw [hT 6 i (by omega), (c2 i hi).2.2.1, e21 27 i (by omega) (by omega)], by rw [hT 7 i (by omega), (c2 i hi).2.2.2, e21 28 i (by omega) (by omega)]⟩)
    (fun i hi => ⟨by rw [hT 8 i (by omega), (c3 i hi).1, e21 29 i (by omega) (by omega)], by rw [hT 9 i (by omega), (c3 i hi).2.1, e21 30 i (by omega) (by omega)], by rw [hT 10 i (by omega), (c3 i hi).2.2, e21 31 i (by omega) (by omega)]⟩)
    (fun i hi => by rw [hT 11 i (by omega), c4 i hi, e21 32 i (by omega) (by omega)]) (fun i hi => by rw [hT 13 i (by omega), c6 i hi, e21 34 i (by omega) (by omega)])
    (fun i hi => ⟨by rw [hT 14 i (by omega), (c7 i hi).1, e21 35 i (by omega) (by omega)], by rw [hT 15 i (by omega), (c7 i hi).2, e21 36 i (by omega) (by omega)]⟩) k1 k2
  have z94 : ∀ c : Nat, (c : Int) < vw z 5 0 1 → gi z 94 c = vw z 5 5 c := fun c hc => (rb.2.2.1 c hc).2.1
  obtain ⟨wi, uh, rw'⟩ := new_w (T := vw z 5) (V := wv z 40) (z := z) bk (by rw [hV 0 0 (by omega)]; exact w1) (by rw [hV 0 1 (by omega)]; exact w2)
    (fun c hc => ⟨by rw [hV 1 c (by omega), hT 5 c (by omega)]; exact (w3 c hc).1, by rw [hV 2 c (by omega)]; exact (w3 c hc).2.1, by rw [hV 3 c (by omega)]; exact (w3 c hc).2.2.1, by rw [hV 4 c (by omega)]; exact (w3 c hc).2.2.2⟩)
    (fun j hj => ⟨by rw [hV 5 j (by omega)]; exact (w4 j hj).1, by rw [hV 6 j (by omega)]; exact (w4 j hj).2⟩) (fun j hj => by rw [hV 8 j (by omega)]; exact w5 j hj) k3
    (fun c hc => ⟨fun q => by rw [(k4 c hc).1]; exact z94 c q, (k4 c hc).2⟩) k5 (fun i hi => by
      rw [zK 114 i (by omega), r9 i hi]
      show gi ρ 47 i = gi z 47 i
      rw [zK 47 i (by omega)])
  refine ⟨fun i hi => by rw [zK 1 i (by omega)]; exact r1 i hi, fun i hi => by rw [zK 0 i (by omega)]; exact r2 i hi, fun i hi => by rw [zK 38 i (by omega)]; exact r3 i hi, fun i hi => by rw [zK 87 i (by omega)]; exact r4 i hi, bk, rb, wi, uh, rw', ?_, ⟨0, 0, ?_, ?_, ?_, by omega, by omega, fun t ht => by omega⟩, ⟨?_, Or.inl ?_⟩, ⟨?_, ?_, ?_, ?_, fun i hi => ?_⟩, ⟨?_, ?_, fun i hi => ?_, ?_, ?_, fun k hk _ => ⟨?_, Or.inl ?_⟩⟩⟩
  · rw [zc 40 0 (by omega) (by omega) (by omega) (by omega), w1]; omega
  · rw [k7 71 3 (by omega) (by omega) (by omega), z75.2.2.1]; rfl
  · rw [k7 71 4 (by omega) (by omega) (by omega), z75.2.2.2.1]; rfl
  · rw [k6.2.2.1]; rfl
  · rw [k6.2.2.2, k7 3 10 (by omega) (by omega) (by omega), z75.2.2.2.2]
  · rw [k7 3 10 (by omega) (by omega) (by omega), z75.2.2.2.2]
  · rw [k7 75 6 (by omega) (by omega) (by omega), z75.1]; omega
  · rw [k7 75 6 (by omega) (by omega) (by omega), z75.1, k6.1]
  · rw [k7 75 6 (by omega) (by omega) (by omega), z75.1, k7 75 7 (by omega) (by omega) (by omega), z75.2.1]; omega
  · rw [k7 75 7 (by omega) (by omega) (by omega), z75.2.1, k6.2.1]
  · rw [k7 75 6 (by omega) (by omega) (by omega), z75.1] at hi; omega
  · rw [k7 3 1 (by omega) (by omega) (by omega), zp.1]; omega
  · rw [k7 3 1 (by omega) (by omega) (by omega), zp.1, k7 85 1 (by omega) (by omega) (by omega), zp.2.1]
  · rw [k7 3 1 (by omega) (by omega) (by omega), zp.1] at hi; omega
  · rw [k7 3 2 (by omega) (by omega) (by omega), k7 85 4 (by omega) (by omega) (by omega), zp.2.2.1]
  · rw [k7 3 3 (by omega) (by omega) (by omega), k7 85 5 (by omega) (by omega) (by omega), zp.2.2.2]
  · rw [zc 48 k (by omega) (by omega) (by omega) (by omega)]; exact w5 k hk
  · rw [k7 3 10 (by omega) (by omega) (by omega), z75.2.2.2.2]
def B6 (σ : Mm) : Prop := gi σ 21 6 = 0 ∨ gi σ 21 6 = 1
theorem B6_e {σ s : Mm} (h : B6 σ) (e : gi s 21 6 = gi σ 21 6) : B6 s := by unfold B6; rw [e]; exact h
theorem lin_b6 {σ t : Mm} (j : linT σ t) (h : B6 σ) : B6 t := by
  rcases j with ⟨-, -, j⟩ | ⟨-, -, j⟩ | ⟨-, -, j⟩ | ⟨-, -, j⟩ | ⟨-, -, j⟩ | ⟨-, -, j⟩ | ⟨-, j⟩
  · obtain ⟨s1, s2, s3, s4, c1, c2, c3, c4, c5⟩ := j
    have e4 : gi s4 21 6 = gi σ 21 6 := by rw [TkS_fr c4 21 6 (by omega), TkS_fr c3 21 6 (by omega), TkS_fr c2 21 6 (by omega), TkS_fr c1 21 6 (by omega)]
    rcases c5 with ⟨-, z, e⟩ | ⟨-, e⟩
    · exact B6_e h (by rw [e, gi_si, if_neg (by omega), gi_si, if_neg (by omega), gi_si, if_neg (by omega), gi_si, if_neg (by omega), e4])
    · exact B6_e h (by rw [e, e4])
  · obtain ⟨s1, s2, s3, s4, s5, c1, c2, c3, c4, c5, c6⟩ := j
    have e4 : gi s5 21 6 = gi σ 21 6 := by rw [TkS_fr c5 21 6 (by omega), TkS_fr c4 21 6 (by omega), TkS_fr c3 21 6 (by omega), TkS_fr c2 21 6 (by omega), TkS_fr c1 21 6 (by omega)]
    rcases c6 with ⟨-, z, e⟩ | ⟨-, e⟩
    · exact B6_e h (by rw [e, gi_si, if_neg (by omega), gi_si, if_neg (by omega), gi_si, if_neg (by omega), gi_si, if_neg (by omega), gi_si, if_neg (by omega), e4])
    · exact B6_e h (by rw [e, e4])
  · obtain ⟨s1, s2, s3, s4, c1, c2, c3, c4, c5⟩ := j
    have e4 : gi s4 21 6 = gi σ 21 6 := by rw [TkS_fr c4 21 6 (by omega), TkS_fr c3 21 6 (by omega), TkS_fr c2 21 6 (by omega), TkS_fr c1 21 6 (by omega)]
    rcases c5 with ⟨-, z, e⟩ | ⟨-, e⟩
    · exact B6_e h (by rw [e, gi_si, if_neg (by omega), gi_si, if_neg (by omega), gi_si, if_neg (by omega), gi_si, if_neg (by omega), e4])
    · exact B6_e h (by rw [e, e4])
  · obtain ⟨s1, s2, c1, c2, c5⟩ := j
    have e4 : gi s2 21 6 = gi σ 21 6 := by rw [TkS_fr c2 21 6 (by omega), TkS_fr c1 21 6 (by omega)]
    rcases c5 with ⟨-, z, e⟩ | ⟨-, e⟩
    · exact B6_e h (by rw [e, gi_si, if_neg (by omega), gi_si, if_neg (by omega), e4])
    · exact B6_e h (by rw [e, e4])
  · obtain ⟨s1, s2, c1, c2, c5⟩ := j
    have e4 : gi s2 21 6 = gi σ 21 6 := by rw [TkS_fr c2 21 6 (by omega), TkS_fr c1 21 6 (by omega)]
    rcases c5 with ⟨-, e⟩ | ⟨-, e⟩
    · exact Or.inr (by rw [e, gi_hit])
    · exact B6_e h (by rw [e, e4])
  · obtain ⟨s1, t1, j⟩ := j
    rcases j with ⟨w, e⟩ | ⟨-, s2, s3, t2, ex, e⟩
    · exact B6_e h (by rw [e, rfM_g (by omega), t1.1 21 6 (by omega)])
    · exact B6_e h (by rw [e, gi_si, if_neg (by omega), ex.2.2.1 21 6 (by omega), gi_si, if_neg (by omega), t2.1 21 6 (by omega), t1.1 21 6 (by omega)])
  · exact B6_e h (by rw [j, rfM_g (by omega)])
theorem ln_b6 {σ s : Mm} (j : LnR σ s) (h : B6 σ) : B6 s := by
  obtain ⟨-, -, t, u, lt, tk, es⟩ := j
  exact B6_e (lin_b6 lt h) (by rw [es, gi_si, if_neg (by omega), TkS_fr tk 21 6 (by omega)])
theorem rd_b6 {m : Int} {σ s : Mm} (h : RdC m σ s) : B6 s := by
  obtain ⟨s1, s2, bg, st, z0, en, kc⟩ := h
  obtain ⟨t, b1, b2, b3, b4, b5⟩ := bg
  have h1 : B6 s1 := Or.inl (by rw [b1.1 21 6 (by omega)]; exact b4.2.2.2.2.2.2.1)
  have h2 : B6 s2 := st B6 h1 (fun u1 u2 a b _ => ln_b6 b a)
  rcases en with ⟨-, e⟩ | ⟨e, -⟩
  · rw [e]; exact h2
  · exact ln_b6 e h2
theorem v_qtx {n : Nat}  (a : Int) {σ : Mm} {P : Int → Mm → Prop} (o1 : (0 : Int) ≤ a → a ≤ (gi σ 3 1) → ∀ t3 : Mm, t3 = si σ 3 1 (0 : Int) → (0 ≤ a ∧ a ≤ 700)) (o2 : (0 : Int) ≤ a → a ≤ (gi σ 3 1) → ∀ t3 : Mm, t3 = si σ 3 1 (0 : Int) → (∀ i, i < 19 → gi t3 38 i = cdF i)) (o3 : (0 : Int) ≤ a → a ≤ (gi σ 3 1) → ∀ t3 : Mm, t3 = si σ 3 1 (0 : Int) → ∀ s5 : Mm, RdC a t3 s5 → ∀ t7 : Mm, t7 = si s5 3 2 (gi s5 37 12) → ∀ t8 : Mm, t8 = si t7 3 3 (gi s5 37 13) → (gi s5 37 12) = (0 : Int) → (gi t8 21 6 = 0 ∨ gi t8 21 6 = 1)) (l1 : a < (0 : Int) → P (-2) σ) (l2 : (0 : Int) ≤ a → a ≤ (gi σ 3 1) → ∀ t3 : Mm, t3 = si σ 3 1 (0 : Int) → ∀ s5 : Mm, RdC a t3 s5 → ∀ t7 : Mm, t7 = si s5 3 2 (gi s5 37 12) → ∀ t8 : Mm, t8 = si t7 3 3 (gi s5 37 13) → (gi s5 37 12) = (0 : Int) → ∀ s11 : Mm, CbM t8 s11 → ∀ s14 : Mm, W0M s11 s14 → ∀ t16 : Mm, t16 = si s14 75 6 (0 : Int) → ∀ t17 : Mm, t17 = si t16 75 7 (-1 : Int) → ∀ t18 : Mm, t18 = si t17 71 3 (0 : Int) → ∀ t19 : Mm, t19 = si t18 71 4 (0 : Int) → ∀ t20 : Mm, t20 = si t19 3 10 (0 : Int) → P (gi s14 5 4) t20) (l3 : (0 : Int) ≤ a → a ≤ (gi σ 3 1) → ∀ t3 : Mm, t3 = si σ 3 1 (0 : Int) → ∀ s5 : Mm, RdC a t3 s5 → ∀ t7 : Mm, t7 = si s5 3 2 (gi s5 37 12) → ∀ t8 : Mm, t8 = si t7 3 3 (gi s5 37 13) → (gi s5 37 12) ≠ (0 : Int) → P (-1) t8) (l4 : (0 : Int) ≤ a → (gi σ 3 1) < a → P (-2) σ) : Ci 99 [vr 3, vi a] (shF n) σ P :=
  show R 99 0 [some (vr 3), some (vi a)] [] (shF n) 0 0 σ (Qi (shF n) P) from wpK_R 49 [] (And.intro (fun q1 => And.intro ret0 ⟨rfl, _, rfl, (l1 q1)⟩) (fun q1 => And.intro (fun q2 => (c_rd  (o1 (Int.not_lt.mp q1) q2 _ rfl) (o2 (Int.not_lt.mp q1) q2 _ rfl) (fun s5 h6 => And.intro (fun q9 => (c_cb  (o3 (Int.not_lt.mp q1) q2 _ rfl s5 h6 _ rfl _ rfl q9) (fun s11 h12 => (c_w0   (fun s14 h15 => (show R 16 0 [some (vr 75)] [] (shF n) 0 0 _ _ from wpK_R 7 [] (And.intro ret0 ⟨rfl, rfl, (show R 12 0 [some (vr 71)] [] (shF n) 0 0 _ _ from wpK_R 7 [] (And.intro ret0 ⟨rfl, rfl, And.intro (Or.inl rfl) (And.intro ret0 ⟨rfl, _, rfl, (l2 (Int.not_lt.mp q1) q2 _ rfl s5 h6 _ rfl _ rfl q9 s11 h12 s14 h15 _ rfl _ rfl _ rfl _ rfl _ rfl)⟩)⟩))⟩))))))) (fun q9 => And.intro ret0 ⟨rfl, _, rfl, (l3 (Int.not_lt.mp q1) q2 _ rfl s5 h6 _ rfl _ rfl q9)⟩)))) (fun q2 => And.intro ret0 ⟨rfl, _, rfl, (l4 (Int.not_lt.mp q1) (Int.not_le.mp q2))⟩)))
theorem r_tx2 {n : Nat} {m : Int} {ρ : Mm} {P : Int → Mm → Prop} (h : m < 0 ∨ gi ρ 85 1 < m) (hP : P (-2) (si ρ 85 2 0)) : Ci 180 [vr 85, vi m] (shF n) ρ P := by
  refine v_tx_0 m (by intros; exfalso; omega) ?_ ?_ ?_
  · intro t1 e1 _; subst e1; exact hP
  · intro t1 e1 q1 q2; exfalso; omega
  · intro t1 e1 _ _; subst e1; exact hP
theorem q_text {xs : Nat → Int} {N n : Nat} {σ : Mm} (h : Rel xs N σ) (a : Int) : Bi xs N n 99 [vr 3, vi a] 180 [vr 85, vi a] σ := by
  have h' := h
  obtain ⟨r1, r2, r3, r4, r5, r6, r7, r8, r9, r10, r11, r12, r13, p1, p2, p3, p4, p5, p6⟩ := h'
  have h2 : a < 0 ∨ gi σ 85 1 < a → Ci 180 [vr 85, vi a] (shF n) σ (fun v' s' => v' = -2 ∧ Rel xs N s') := fun q =>
    r_tx2 q ⟨rfl, Rel_M h fun x i p => by rw [gi_si, if_neg]; intro z; rcases p with p | p; · omega
                                          · unfold kpM hT hf at p; omega⟩
  refine v_qtx a (by intros; first | omega | (subst_vars; rw [gi_si, if_neg (by omega)]; exact r3 _ (by assumption)) | (have hb6 := rd_b6 (by assumption); subst_vars; rw [gi_si, if_neg (by omega), gi_si, if_neg (by omega)]; exact hb6)) (by intros; first | omega | (subst_vars; rw [gi_si, if_neg (by omega)]; exact r3 _ (by assumption)) | (have hb6 := rd_b6 (by assumption); subst_vars; rw [gi_si, if_neg (by omega), gi_si, if_neg (by omega)]; exact hb6)) (by intros; first | omega | (subst_vars; rw [gi_si, if_neg (by omega)]; exact r3 _ (by assumption)) | (have hb6 := rd_b6 (by assumption); subst_vars; rw [gi_si, if_neg (by omega), gi_si, if_neg (by omega)]; exact hb6)) ?_ ?_ ?_ ?_
  · intro q; exact h2 (Or.inl q)
  · intro q1 q2 t3 e3 s5 rd t7 e7 t8 e8 f0 s11 cb s14 w0 t16 e16 t17 e17 t18 e18 t19 e19 t20 e20
    have kc : kC t3 s5 := by obtain ⟨_, _, _, _, _, _, k⟩ := rd; exact k
    have f8 : ∀ x i, ¬ (x = 3 ∧ (i = 2 ∨ i = 3)) → gi t8 x i = gi s5 x i := fun x i p => by
      rw [e8, gi_si, if_neg (by omega), e7, gi_si, if_neg (by omega)]
    have f20 : ∀ x i, ¬ (x = 75 ∧ (i = 6 ∨ i = 7)) → ¬ (x = 71 ∧ (i = 3 ∨ i = 4)) → ¬ (x = 3 ∧ i = 10) → gi t20 x i = gi s14 x i := fun x i p q r => by
      rw [e20, gi_si, if_neg (by omega), e19, gi_si, if_neg (by omega), e18, gi_si, if_neg (by omega), e17, gi_si, if_neg (by omega), e16, gi_si, if_neg (by omega)]
    have fa : ∀ x i, ¬ (5 ≤ x ∧ x ≤ 37) → ¬ (x = 39) → ¬ (40 ≤ x ∧ x ≤ 48 ∧ x ≠ 47) → ¬ (x = 3) → ¬ (x = 71 ∨ x = 75) → gi t20 x i = gi σ x i := fun x i p1 p2 p3 p4 p5 => by
      rw [f20 x i (by omega) (by omega) (by omega), w0.2.2.2.2.2 x i (by omega), cb.2.2.2.2.2.2.2.2 x i (by omega), f8 x i (by omega), kc x i (by omega), e3, gi_si, if_neg (by omega)]
    have g3 : ∀ i, i ≠ 10 → gi t20 3 i = gi t8 3 i := fun i p => by
      rw [f20 3 i (by omega) (by omega) (by omega), w0.2.2.2.2.2 3 i (by omega), cb.2.2.2.2.2.2.2.2 3 i (by omega)]
    have g31 : gi t20 3 1 = 0 := by rw [g3 1 (by omega), f8 3 1 (by omega), kc 3 1 (by omega), e3, gi_hit]
    have g32 : gi t20 3 2 = 0 := by rw [g3 2 (by omega), e8, gi_si, if_neg (by omega), e7, gi_hit]; exact f0
    have g33 : gi t20 3 3 = gi s5 37 13 := by rw [g3 3 (by omega), e8, gi_hit]
    have g54 : gi s14 5 4 = gi s5 21 4 := by rw [w0.2.2.2.2.2 5 4 (by omega), cb.1.2.2.2.2.1, f8 21 4 (by omega)]
    have g75 : gi t20 75 6 = 0 ∧ gi t20 75 7 = -1 ∧ gi t20 71 3 = 0 ∧ gi t20 71 4 = 0 ∧ gi t20 3 10 = 0 := by
      subst e20 e19 e18 e17 e16
      simp [gi_si]
    refine r_text rd (by omega) (by rw [fa 85 1 (by omega) (by omega) (by omega) (by omega) (by omega)]; omega) (fun i hi => by rw [fa 87 i (by omega) (by omega) (by omega) (by omega) (by omega)]; exact r4 i hi) (fun i hi => ?_) (fun ρ' u1 u2 u3 => absurd f0 u1.1) (fun ρ' u0 u1 u2 u3 u4 u5 => c_kt (fun w hw => by rw [(u3.2.2.2.2.2.2.2.2.2 w hw).2.1]; unfold b2i; split <;> omega) fun z kz => ⟨by rw [g54], ?_⟩)
    · rw [fa 86 i (by omega) (by omega) (by omega) (by omega) (by omega), e3, gi_si, if_neg (by omega)]; exact p3 i (by omega)
    · have ku : ∀ x i, x < 85 → gi ρ' x i = gi t20 x i := fun x i p => u4 x i (by unfold chM; omega) (by omega)
      have kq : ∀ x i, x = 0 ∨ x = 1 ∨ x = 38 ∨ x = 47 ∨ x = 87 ∨ x = 114 → gi ρ' x i = gi σ x i := fun x i p => by
        rw [u4 x i (by unfold chM; omega) (by omega), fa x i (by omega) (by omega) (by omega) (by omega) (by omega)]
      refine Rel_new u3 kz cb (fun x i p q => f8 x i (by omega)) w0 (fun x i p q r s => by rw [ku x i p, f20 x i q r s]) (by rw [ku 75 6 (by omega), ku 75 7 (by omega), ku 71 3 (by omega), ku 71 4 (by omega), ku 3 10 (by omega)]; exact g75) ⟨by rw [ku 3 1 (by omega)]; exact g31, u5, by rw [ku 3 2 (by omega), g32]; exact u1, by rw [ku 3 3 (by omega), g33]; exact u2⟩ (fun i hi => by rw [kq 1 i (by omega)]; exact r1 i hi) (fun i hi => by rw [kq 0 i (by omega)]; exact r2 i hi) (fun i hi => by rw [kq 38 i (by omega)]; exact r3 i hi) (fun i hi => by rw [kq 87 i (by omega)]; exact r4 i hi) (fun i hi => ?_)
      have e1 := r9.2.2.2.2.1 i hi
      rw [Nat.mul_zero, Nat.zero_add] at e1
      rw [kq 114 i (by omega), kq 47 i (by omega), e1]
      rfl
  · intro q1 q2 t3 e3 s5 rd t7 e7 t8 e8 f0
    have kc : kC t3 s5 := by obtain ⟨_, _, _, _, _, _, k⟩ := rd; exact k
    have f8 : ∀ x i, ¬ (x = 3 ∧ (i = 2 ∨ i = 3)) → gi t8 x i = gi s5 x i := fun x i p => by
      rw [e8, gi_si, if_neg (by omega), e7, gi_si, if_neg (by omega)]
    have fa : ∀ x i, ¬ ((21 ≤ x ∧ x ≤ 37) ∨ x = 39) → ¬ (x = 3 ∧ (1 ≤ i ∧ i ≤ 3)) → gi t8 x i = gi σ x i := fun x i p1 p2 => by
      rw [f8 x i (by omega), kc x i p1, e3, gi_si, if_neg (by omega)]
    have g31 : gi t8 3 1 = 0 := by rw [f8 3 1 (by omega), kc 3 1 (by omega), e3, gi_hit]
    have g32 : gi t8 3 2 = gi s5 37 12 := by rw [e8, gi_si, if_neg (by omega), e7, gi_hit]
    have g33 : gi t8 3 3 = gi s5 37 13 := by rw [e8, gi_hit]
    refine r_text rd (by omega) (by rw [fa 85 1 (by omega) (by omega)]; omega) (fun i hi => by rw [fa 87 i (by omega) (by omega)]; exact r4 i hi) (fun i hi => ?_) (fun ρ' u1 u2 u3 => ⟨rfl, ?_⟩) (fun ρ' u0 u1 u2 u3 u4 u5 => absurd u0 f0)
    · rw [fa 86 i (by omega) (by omega), e3, gi_si, if_neg (by omega)]; exact p3 i (by omega)
    · have ku : ∀ x i, x < 85 → gi ρ' x i = gi t8 x i := fun x i p => u2 x i (by unfold chM; omega) (by omega)
      refine Rel_Q h (fun x i p q => ?_) (fun x i p q => ?_) ⟨?_, ?_, fun i hi => ?_, ?_, ?_, fun k hk hk2 => ?_⟩
      · rw [ku x i (by unfold kpX at p; omega), fa x i (by unfold kpX at p; omega) q]
      · have hx := kpM_85 p
        rw [u2 x i (by unfold kpM hT hf at p; unfold chM; omega) (by unfold kpM hT hf at p; omega), fa x i (by omega) (by omega)]
      · rw [ku 3 1 (by omega), g31]; omega
      · rw [ku 3 1 (by omega), g31, u3]
      · rw [ku 3 1 (by omega), g31] at hi; omega
      · rw [ku 3 2 (by omega), g32]; exact u1.2.1
      · rw [ku 3 3 (by omega), g33]; exact u1.2.2
      · rw [ku 5 2 (by omega), fa 5 2 (by omega) (by omega)] at hk2
        rw [ku 48 k (by omega), fa 48 k (by omega) (by omega), ku 66 k (by omega), fa 66 k (by omega) (by omega), ku 3 10 (by omega), fa 3 10 (by omega) (by omega)]
        exact p6 k hk hk2
  · intro q1 q2
    exact h2 (Or.inr (by omega))
