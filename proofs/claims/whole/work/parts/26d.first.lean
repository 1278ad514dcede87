/-! THE FIRST STATE, AND THE PURE LAW -/
def Kz (E : Nat → Nat → Prop) (σ t : Mm) : Prop := ∀ a i, ¬ E a i → gi t a i = gi σ a i
theorem Kz_rf {E : Nat → Nat → Prop} (σ : Mm) : Kz E σ σ := fun _ _ _ => rfl
theorem Kz_tr {E : Nat → Nat → Prop} {σ t s : Mm} (h : Kz E σ t) (k : Kz E t s) : Kz E σ s := fun a i p => (k a i p).trans (h a i p)
theorem Kz_sz {E : Nat → Nat → Prop} {σ t : Mm} {k : Nat} (h : Kz E σ t) (hz : ∀ i, gi σ k i = 0) : Kz E σ (sz t k) := fun a i p => by
  rw [gi_sz]
  by_cases q : a = k
  · rw [if_pos q, q, hz]
  · rw [if_neg q]; exact h a i p
theorem Kz_si {E : Nat → Nat → Prop} {σ t : Mm} {a i : Nat} {v : Int} (h : Kz E σ t) (he : E a i) : Kz E σ (si t a i v) := fun x j p => by
  rw [gi_si, if_neg (fun q => p (by rw [q.1, q.2]; exact he))]; exact h x j p
theorem Kz_szE {E : Nat → Nat → Prop} {σ t : Mm} {k : Nat} (h : Kz E σ t) (he : ∀ i, E k i) : Kz E σ (sz t k) := fun a i p => by
  rw [gi_sz, if_neg (fun q => p (by rw [q]; exact he i))]; exact h a i p
/-- a row is written, place by place -/
def wrs (σ : Mm) (a : Nat) : Nat → List Int → Mm
  | _, [] => σ
  | k, v :: vs => wrs (si σ a k v) a (k + 1) vs
theorem gi_wrs : ∀ (vs : List Int) (σ : Mm) (a k x i : Nat), gi (wrs σ a k vs) x i = if x = a ∧ k ≤ i ∧ i < k + vs.length then (vs[i - k]?).getD 0 else gi σ x i := by
  intro vs
  induction vs with
  | nil => intro σ a k x i; rw [if_neg (by simp)]; rfl
  | cons v vs ih =>
    intro σ a k x i
    show gi (wrs (si σ a k v) a (k + 1) vs) x i = _
    rw [ih, List.length_cons]
    by_cases z : x = a ∧ i = k
    · rw [if_neg (by omega), gi_si, if_pos z, if_pos (by omega), z.2, Nat.sub_self]; rfl
    · by_cases y : x = a ∧ k + 1 ≤ i ∧ i < k + 1 + vs.length
      · rw [if_pos y, if_pos (by omega), show i - k = (i - (k + 1)) + 1 by omega]; rfl
      · rw [if_neg y, if_neg (by omega), gi_si, if_neg z]
def E10 (a i : Nat) : Prop := (a = 85 ∧ (i = 5 ∨ i = 77)) ∨ a = 87
def X10M (σ s : Mm) : Prop := (∀ a i, 85 ≤ a → gi σ a i = 0) → ∃ t p : Mm, Kz E10 σ t ∧ (∀ i, i < 95 → gi t 87 i = cdW i) ∧ gi t 85 5 = -1 ∧ PnM t p ∧ KtM p s
set_option maxRecDepth 20000 in
theorem c_x10 {n : Nat} {σ : Mm} {Q : PQ} (h : ∀ s, X10M σ s → Q none (sk_147 n) s) : R 154 0 [some (vr 85)] [] (sk_100 n) 0 0 σ Q := by
  refine i_154_85_0 (i_154_85_1 (i_154_85_2 (i_154_85_3 (i_154_85_4 (i_154_85_5 fun t1 e1 => i_154_85_6 (i_154_85_7 fun t2 e2 => i_154_85 fun t3 e3 s1 p1 s2 k2 => h s2 fun hz => ?_))))))
  have w1 : t1 = wrs (sz (sz σ 86) 87) 87 0 [106, 117, 100, 103, 101, 32, 99, 97, 117, 115, 101, 32, 99, 108, 101, 114, 107, 32, 100, 97, 109, 112, 32, 98, 101, 97, 116, 32, 108, 97, 119, 32, 116, 104, 105, 110, 107, 32, 115, 97, 121, 32, 102, 108, 121, 32, 97, 110, 100, 32, 111, 114, 32, 110, 111, 116, 32, 108, 101, 97, 110, 32, 115, 116, 105, 102, 102, 32, 103, 114, 97, 118, 101, 32, 112, 108, 117, 109, 112, 32, 109, 111, 105, 115, 116, 32, 115, 117, 114, 101, 32, 100, 97, 121, 32] := e1
  clear e1
  have K1 : Kz E10 σ t1 := fun a i p => by
    unfold E10 at p
    rw [w1, gi_wrs, if_neg (by omega), gi_sz, if_neg (by omega), gi_sz]
    by_cases q : a = 86
    · rw [if_pos q, q, hz 86 i (by omega)]
    · rw [if_neg q]
  have W1 : ∀ i, i < 95 → gi t1 87 i = cdW i := fun i hi => by
    rw [w1, gi_wrs, if_pos ⟨rfl, Nat.zero_le _, by simp; omega⟩]; rfl
  clear w1
  subst e3 e2
  refine ⟨_, s1, ?_, fun i hi => ?_, ?_, p1, k2⟩
  · repeat (first | refine Kz_sz ?_ (fun i => hz _ i (by omega)) | refine Kz_si ?_ (Or.inl ⟨rfl, by omega⟩))
    exact K1
  · rw [← W1 i hi]; simp [gi_sz, gi_si]
  · simp [gi_sz, gi_si]
def E9 (a i : Nat) : Prop := (a = 3 ∧ i = 3) ∨ (a = 5 ∧ i = 5) ∨ (a = 21 ∧ i = 5) ∨ (a = 75 ∧ i = 7) ∨ a = 38
def X9M (σ s : Mm) : Prop := (∀ a i, 3 ≤ a → gi σ a i = 0) → ∃ t : Mm, Kz E9 σ t ∧ gi t 3 3 = -1 ∧ gi t 5 5 = 1 ∧ gi t 21 5 = 1 ∧ gi t 75 7 = -1 ∧ (∀ i, i < 19 → gi t 38 i = cdF i) ∧ W0M t s
theorem c_x9 {n : Nat} {σ : Mm} {Q : PQ} (hw : ∀ i, i < 95 → gi σ 2 i = wdF i) (h : ∀ s, X9M σ s → Q none (sk_99 n) s) : R 96 0 [some (vr 3)] [] (sk_1 n) 0 0 σ Q := by
  refine i_96_3 hw fun t1 e1 t2 e2 t3 e3 t4 e4 t5 e5 t6 e6 s7 r7 t8 e8 t9 e9 t10 e10 t11 e11 t12 e12 t13 e13 t14 e14 t15 e15 t16 e16 t17 e17 t18 e18 t19 e19 t20 e20 t21 e21 t22 e22 s23 w0 => h s23 fun hz => ?_
  have K6 : Kz E9 σ t6 ∧ gi t6 3 3 = -1 ∧ gi t6 5 5 = 1 ∧ gi t6 21 5 = 1 := by
    subst e6 e5 e4 e3 e2 e1
    refine ⟨?_, ?_, ?_, ?_⟩
    · repeat (first | refine Kz_sz ?_ (fun i => hz _ i (by omega)) | refine Kz_si ?_ (by unfold E9; omega))
      exact Kz_rf σ
    · simp [gi_sz, gi_si]
    · simp [gi_sz, gi_si]
    · simp [gi_sz, gi_si]
  have K7 : Kz E9 σ s7 ∧ gi s7 3 3 = -1 ∧ gi s7 5 5 = 1 ∧ gi s7 21 5 = 1 := by
    refine ⟨fun a i p => ?_, ?_, ?_, ?_⟩
    · rw [r7.2 a i (by unfold E9 at p; omega)]
      exact Kz_sz (Kz_sz K6.1 (fun i => hz _ i (by omega))) (fun i => hz _ i (by omega)) a i p
    · rw [r7.2 3 3 (by omega), gi_sz, if_neg (by omega), gi_sz, if_neg (by omega)]; exact K6.2.1
    · rw [r7.2 5 5 (by omega), gi_sz, if_neg (by omega), gi_sz, if_neg (by omega)]; exact K6.2.2.1
    · rw [r7.2 21 5 (by omega), gi_sz, if_neg (by omega), gi_sz, if_neg (by omega)]; exact K6.2.2.2
  clear e1 e2 e3 e4 e5 e6
  subst e22 e21 e20 e19 e18 e17 e16 e15 e14 e13 e12 e11 e10 e9 e8
  refine ⟨_, ?_, ?_, ?_, ?_, ?_, fun i hi => ?_, w0⟩
  · repeat (first | refine Kz_sz ?_ (fun i => hz _ i (by omega)) | refine Kz_si ?_ (by unfold E9; omega))
    exact K7.1
  · rw [← K7.2.1]; simp [gi_sz, gi_si]
  · rw [← K7.2.2.1]; simp [gi_sz, gi_si]
  · rw [← K7.2.2.2]; simp [gi_sz, gi_si]
  · simp [gi_sz, gi_si]
  · rw [← r7.1 i hi]; simp [gi_sz, gi_si]
set_option maxRecDepth 20000 in
theorem i_law {n : Nat} {σ : Mm} {Q : PQ} (hw : ∀ i, i < 95 → gi (sz σ 3) 2 i = wdF i) (h : ∀ t1 : Mm, t1 = sz σ 3 → ∀ s2 : Mm, X9M t1 s2 → ∀ t3 : Mm, t3 = sz s2 85 → ∀ s4 : Mm, X10M t3 s4 → R 276 23 [some (vr 1), some (vr 3), some (vr 85), some (vr 132), some (vi 0), none, none] [] (sk_148 n) 130 5670 ((sz s4 132)) Q) : R 276 0 [some (vr 1), none, none, none, none, none, none] [] (sk_0 n) 0 0 σ Q :=
  wpK_R 2 [] (And.intro ⟨by decide, by decide⟩ ((show R 276 4 [some (vr 1), none, none, none, none, none, none] [vr 3, vr 3] (sk_1 n) 1 16 (sz σ 3) Q from R_step (And.intro (by decide) (And.intro (by decide) (c_x9 hw (fun s2 h2 => ⟨rfl, (show R 276 7 [some (vr 1), none, none, none, none, none, none] [vr 3] (sk_99 n) 82 2017 s2 Q from wpK_R 3 [] (And.intro ⟨by decide, by decide⟩ ((show R 276 12 [some (vr 1), some (vr 3), none, none, none, none, none] [vr 85, vr 85] (sk_100 n) 83 2104 (sz s2 85) Q from R_step (And.intro (by decide) (And.intro (by decide) (c_x10 (fun s4 h4 => ⟨rfl, (show R 276 15 [some (vr 1), some (vr 3), none, none, none, none, none] [vr 85] (sk_147 n) 129 5669 s4 Q from wpK_R 6 [] (And.intro ⟨by decide, by decide, by decide, by decide⟩ ((show R 276 23 [some (vr 1), some (vr 3), some (vr 85), some (vr 132), some (vi 0), none, none] [] (sk_148 n) 130 5670 (sz s4 132) Q from (h _ rfl s2 h2 _ rfl s4 h4)))))⟩))))))))⟩)))))))
theorem first_rel {xs : Nat → Int} {N : Nat} {σ s2 s4 : Mm} (hz : ∀ a i, 3 ≤ a → gi σ a i = 0) (hx : ∀ i, i < N → gi σ 1 i = xs i) (hp : ∀ i, i < 6 → gi σ 0 i = pwF i) (x9 : X9M (sz σ 3) s2) (x10 : X10M (sz s2 85) s4) : Rel xs N (sz s4 132) := by
  have hz' : ∀ a i, 3 ≤ a → gi (sz σ 3) a i = 0 := fun a i p => by
    rw [gi_sz]
    by_cases q : a = 3
    · rw [if_pos q]
    · rw [if_neg q, hz a i p]
  obtain ⟨u, k9, v33, v55, v21, v75, v38, w0⟩ := x9 hz'
  have hu : ∀ a i, 3 ≤ a → ¬ E9 a i → gi u a i = 0 := fun a i p q => by rw [k9 a i q]; exact hz' a i p
  have hl : ∀ a i, a < 3 → gi u a i = gi σ a i := fun a i p => by rw [k9 a i (by unfold E9; omega), gi_sz, if_neg (by omega)]
  have hz2 : ∀ a i, 85 ≤ a → gi (sz s2 85) a i = 0 := fun a i p => by
    rw [gi_sz]
    by_cases q : a = 85
    · rw [if_pos q]
    · rw [if_neg q, w0.2.2.2.2.2 a i (by omega)]; exact hu a i (by omega) (by unfold E9; omega)
  obtain ⟨t, p, k10, wd, t5, pn, kt⟩ := x10 hz2
  obtain ⟨p1, p2, p3, p4, p5⟩ := pn
  have pf : ∀ a i, a < 85 → gi p a i = gi s2 a i := fun a i q => by
    rw [p5 a i (by omega) (by omega) (by omega) (by omega), k10 a i (by unfold E10; omega), gi_sz, if_neg (by omega)]
  have pu : ∀ a i, a < 85 → ¬ (40 ≤ a ∧ a ≤ 48 ∧ a ≠ 47) → gi p a i = gi u a i := fun a i q r => by
    rw [pf a i q, w0.2.2.2.2.2 a i r]
  have p85 : ∀ i, i < 5 → gi p 85 i = 0 := fun i q => by
    rw [p5 85 i (by omega) (by omega) (by omega) (by omega), k10 85 i (by unfold E10; omega)]; exact hz2 85 i (by omega)
  have cb : CbM u u := by
    have z5 : ∀ a i, 5 ≤ a → a ≤ 36 → ¬ (a = 5 ∧ i = 5) → ¬ (a = 21 ∧ i = 5) → gi u a i = 0 := fun a i q1 q2 q3 q4 => hu a i (by omega) (by unfold E9; omega)
    refine ⟨⟨?_, ?_, ?_, ?_, ?_, ?_, ?_⟩, fun i hi => ⟨?_, ?_, ?_⟩, fun i hi => ⟨?_, ?_, ?_, ?_⟩, fun i hi => ⟨?_, ?_, ?_⟩, fun i hi => ?_, ?_, fun i hi => ?_, fun i hi => ⟨?_, ?_⟩, fun _ _ _ => rfl⟩
    all_goals first
      | rw [z5 _ _ (by omega) (by omega) (by omega) (by omega), z5 _ _ (by omega) (by omega) (by omega) (by omega)]
      | rw [v55, v21]
  have cl : Cl0 u := ⟨hu 21 0 (by omega) (by unfold E9; omega), hu 21 1 (by omega) (by unfold E9; omega), hu 21 2 (by omega) (by unfold E9; omega), hu 21 3 (by omega) (by unfold E9; omega), hu 21 4 (by omega) (by unfold E9; omega), v21, hu 21 6 (by omega) (by unfold E9; omega), hu 33 0 (by omega) (by unfold E9; omega), fun w hw => ⟨hu 35 w (by omega) (by unfold E9; omega), hu 36 w (by omega) (by unfold E9; omega)⟩⟩
  have rel : Rel xs N s4 := by
    refine Rel_new (RD_0 cl (hu 37 6 (by omega) (by unfold E9; omega)) p1 p2 p3 p4) kt cb (fun _ _ _ _ => rfl) w0 (fun a i q _ _ _ => pf a i q) ⟨?_, ?_, ?_, ?_, ?_⟩ ⟨?_, p85 1 (by omega), ?_, ?_⟩ (fun i hi => ?_) (fun i hi => ?_) (fun i hi => ?_) (fun i hi => ?_) (fun i hi => ?_)
    · rw [pu 75 6 (by omega) (by omega)]; exact hu 75 6 (by omega) (by unfold E9; omega)
    · rw [pu 75 7 (by omega) (by omega)]; exact v75
    · rw [pu 71 3 (by omega) (by omega)]; exact hu 71 3 (by omega) (by unfold E9; omega)
    · rw [pu 71 4 (by omega) (by omega)]; exact hu 71 4 (by omega) (by unfold E9; omega)
    · rw [pu 3 10 (by omega) (by omega)]; exact hu 3 10 (by omega) (by unfold E9; omega)
    · rw [pu 3 1 (by omega) (by omega)]; exact hu 3 1 (by omega) (by unfold E9; omega)
    · rw [pu 3 2 (by omega) (by omega), hu 3 2 (by omega) (by unfold E9; omega)]; exact p85 4 (by omega)
    · rw [pu 3 3 (by omega) (by omega), v33, p5 85 5 (by omega) (by omega) (by omega) (by omega)]; exact t5
    · rw [pu 1 i (by omega) (by omega), hl 1 i (by omega)]; exact hx i hi
    · rw [pu 0 i (by omega) (by omega), hl 0 i (by omega)]; exact hp i hi
    · rw [pu 38 i (by omega) (by omega)]; exact v38 i hi
    · rw [p5 87 i (by omega) (by omega) (by omega) (by omega)]; exact wd i hi
    · rw [p5 114 i (by omega) (by omega) (by omega) (by omega), k10 114 i (by unfold E10; omega), hz2 114 i (by omega), pu 47 i (by omega) (by omega), hu 47 i (by omega) (by unfold E9; omega)]
  refine Rel_kp rel (fun a i q => ?_) (fun a i q => ?_)
  · rw [gi_sz, if_neg (by unfold kpX at q; omega)]
  · rw [gi_sz, if_neg (by unfold kpM hT hf at q; omega)]
theorem hy_all (xs : Nat → Int) (N : Nat) : HY xs N := ⟨fun σ a h => q_text h a, fun σ a h => q_given h a, fun σ h => q_ways h, fun σ a h => q_whose h a⟩
set_option maxRecDepth 20000 in
theorem pure_law {xs : Nat → Int} {N : Nat} {σ : Mm} (hN : N ≤ 3072) (hz : ∀ a i, 3 ≤ a → gi σ a i = 0) (hx : ∀ i, i < N → gi σ 1 i = xs i) (hp : ∀ i, i < 6 → gi σ 0 i = pwF i) (hw : ∀ i, i < 95 → gi σ 2 i = wdF i) : R 276 0 [some (vr 1), none, none, none, none, none, none] [] (sk_0 N) 0 0 σ (fun r _ _ => r = some (vi 1)) := by
  refine i_law (fun i hi => by rw [gi_sz, if_neg (by omega)]; exact hw i hi) fun t1 e1 s2 x9 t3 e3 s4 x10 => R_shut ?_
  subst e1 e3
  have r := law_loop hN (hy_all xs N) none none (c := 130) (s := 5670) (by omega) (by omega) (first_rel hz hx hp x9 x10)
  exact R_mono _ _ _ _ _ _ _ _ _ _ (fun r sh' σ' q => by obtain ⟨q1, v, q2, q3⟩ := q; rw [q2, q3]) r
