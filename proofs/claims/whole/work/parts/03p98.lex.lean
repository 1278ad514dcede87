/-! TEXT: tokens, the pure side and the class's side -/
def lrF (f : Nat → Bool) : Nat → Nat → Nat
  | 0, p => p
  | k + 1, p => if f p then lrF f k (p + 1) else p
/-- the first place from p on, below n, that isn't of f -/
def lr (f : Nat → Bool) (n p : Nat) : Nat := lrF f (n - p) p
theorem lr_go {f : Nat → Bool} {n p : Nat} (h : p < n) (hf : f p = true) : lr f n p = lr f n (p + 1) := by
  unfold lr
  rw [show n - p = (n - (p + 1)) + 1 by omega]
  simp only [lrF]
  rw [if_pos hf]
theorem lr_st {f : Nat → Bool} {n p : Nat} (h : n ≤ p ∨ f p = false) : lr f n p = p := by
  unfold lr
  rcases h with h | h
  · rw [show n - p = 0 by omega]; rfl
  · cases n - p with
    | zero => rfl
    | succ k => simp only [lrF]; rw [if_neg (by rw [h]; exact Bool.noConfusion)]
theorem lr_all {f : Nat → Bool} {n : Nat} : ∀ (d p : Nat), p ≤ n → n - p = d → p ≤ lr f n p ∧ lr f n p ≤ n ∧ (lr f n p < n → f (lr f n p) = false) ∧ ∀ q, p ≤ q → q < lr f n p → f q = true := by
  intro d
  induction d with
  | zero => intro p h1 h2; rw [lr_st (Or.inl (by omega))]; exact ⟨by omega, h1, fun q => by omega, fun q _ _ => by omega⟩
  | succ d ih =>
    intro p h1 h2
    cases hf : f p with
    | false => rw [lr_st (Or.inr hf)]; exact ⟨by omega, h1, fun _ => hf, fun q _ _ => by omega⟩
    | true =>
      rw [lr_go (by omega) hf]
      obtain ⟨a, b, c, e⟩ := ih (p + 1) (by omega) (by omega)
      refine ⟨by omega, b, c, fun q p1 p2 => ?_⟩
      by_cases z : q = p
      · rw [z]; exact hf
      · exact e q (by omega) p2
theorem lr_in {f : Nat → Bool} {n p : Nat} (h : p ≤ n) : p ≤ lr f n p ∧ lr f n p ≤ n ∧ (lr f n p < n → f (lr f n p) = false) ∧ ∀ q, p ≤ q → q < lr f n p → f q = true := lr_all _ p h rfl
theorem lr_lt {f : Nat → Bool} {n p : Nat} (h : p < n) (hf : f p = true) : p < lr f n p := by
  rw [lr_go h hf]
  have := (lr_in (f := f) (n := n) (p := p + 1) (by omega)).1
  omega
def isL (x : Int) : Bool := decide (97 ≤ x ∧ x ≤ 122)
def isD (x : Int) : Bool := decide (48 ≤ x ∧ x ≤ 57)
def isB (x : Int) : Bool := decide (x = 10 ∨ x = 32)
theorem isL_t {x : Int} : isL x = true ↔ (97 ≤ x ∧ x ≤ 122) := decide_eq_true_iff
theorem isD_t {x : Int} : isD x = true ↔ (48 ≤ x ∧ x ≤ 57) := decide_eq_true_iff
theorem isB_t {x : Int} : isB x = true ↔ (x = 10 ∨ x = 32) := decide_eq_true_iff
theorem isL_f {x : Int} : isL x = false ↔ ¬ (97 ≤ x ∧ x ≤ 122) := decide_eq_false_iff_not
theorem isD_f {x : Int} : isD x = false ↔ ¬ (48 ≤ x ∧ x ≤ 57) := decide_eq_false_iff_not
theorem isB_f {x : Int} : isB x = false ↔ ¬ (x = 10 ∨ x = 32) := decide_eq_false_iff_not
/-- the letters' digits of a word from p to e -/
def dgN (b : Nat → Int) (p e i : Nat) : Nat := if p + i < e then (b (p + i) - 96).toNat else 0
def pkN (b : Nat → Int) (p e : Nat) : Nat → Nat
  | 0 => 0
  | k + 1 => pkN b p e k * 32 + dgN b p e k
theorem pk_ext {b : Nat → Int} {p e e' : Nat} : ∀ k, (∀ i, i < k → dgN b p e i = dgN b p e' i) → pkN b p e k = pkN b p e' k := by
  intro k
  induction k with
  | zero => intro _; rfl
  | succ k ih => intro h; simp only [pkN]; rw [ih fun i hi => h i (by omega), h k (by omega)]
theorem pk_zero {b : Nat → Int} {p e t : Nat} (h : ∀ i, t ≤ i → dgN b p e i = 0) : ∀ k, pkN b p e (t + k) = pkN b p e t * 32 ^ k := by
  intro k
  induction k with
  | zero => rw [Nat.pow_zero, Nat.mul_one]; rfl
  | succ k ih =>
    show pkN b p e (t + k + 1) = _
    simp only [pkN]
    rw [h (t + k) (by omega), ih, Nat.add_zero, Nat.pow_succ, Nat.mul_assoc]
theorem dg_lt {b : Nat → Int} {p e i : Nat} (h : ∀ j, p ≤ j → j < e → isL (b j) = true) : dgN b p e i < 32 := by
  unfold dgN
  split
  · rename_i q
    have := isL_t.mp (h (p + i) (by omega) q)
    omega
  · omega
theorem pkN_lt {b : Nat → Int} {p e : Nat} (h : ∀ j, p ≤ j → j < e → isL (b j) = true) : ∀ k, pkN b p e k < 32 ^ k := by
  intro k
  induction k with
  | zero => exact Nat.one_pos
  | succ k ih =>
    simp only [pkN]
    have := dg_lt (i := k) h
    rw [Nat.pow_succ]
    have h2 : (pkN b p e k + 1) * 32 ≤ 32 ^ k * 32 := Nat.mul_le_mul_right _ ih
    rw [Nat.succ_mul] at h2
    omega
theorem oshl_nat {a n : Nat} (hn : n < 31) (h : a * 2 ^ n < 2147483648) : oshl (a : Int) (n : Int) = ((a * 2 ^ n : Nat) : Int) := by
  have ha : a < 2147483648 := Nat.lt_of_le_of_lt (Nat.le_mul_of_pos_right a (Nat.pow_pos (by omega))) h
  refine bi_ext (oshl_rg _ _) (nat_rg h) fun k hk => ?_
  rw [bi_shl (by omega) _ hk, bi_nat h, bi_nat ha, Nat.testBit_mul_two_pow]
theorem oor_add {a i y : Nat} (hy : y < 2 ^ i) (h : a * 2 ^ i + y < 2147483648) : oor ((a * 2 ^ i : Nat) : Int) (y : Int) = ((a * 2 ^ i + y : Nat) : Int) := by
  rw [oor_nat (by omega) (by omega), ← Nat.shiftLeft_eq, ← Nat.shiftLeft_add_eq_or_of_lt hy]
theorem oor_00 {a : Nat} (h : a < 2147483648) : oor (a : Int) 0 = (a : Int) := by
  have := oor_nat h (show 0 < 2147483648 by omega)
  rw [Nat.or_zero] at this
  exact this
/-- one letter more -/
theorem pk_step {b : Nat → Int} {p e : Nat} (h : ∀ j, p ≤ j → j < e + 1 → isL (b j) = true) (hpe : p ≤ e) (h6 : e - p < 6) : oor ((pkN b p e 6 : Nat) : Int) (oshl (b e - 97 + 1) (5 * (5 - ((e : Int) - (p : Int))))) = ((pkN b p (e + 1) 6 : Nat) : Int) := by
  obtain ⟨t, rfl⟩ : ∃ t, e = p + t := ⟨e - p, by omega⟩
  obtain ⟨u, hu⟩ : ∃ u, 5 = t + u := ⟨5 - t, by omega⟩
  have hl := isL_t.mp (h (p + t) (by omega) (by omega))
  obtain ⟨d, hd⟩ : ∃ d : Nat, b (p + t) - 97 + 1 = (d : Int) := ⟨(b (p + t) - 97 + 1).toNat, by omega⟩
  have e1 : pkN b p (p + t) 6 = pkN b p (p + t) t * 32 ^ (u + 1) := by
    have := pk_zero (b := b) (p := p) (e := p + t) (t := t) (fun i hi => by unfold dgN; rw [if_neg (by omega)]) (u + 1)
    rw [show t + (u + 1) = 6 by omega] at this
    exact this
  have e2 : pkN b p (p + t + 1) 6 = pkN b p (p + t + 1) (t + 1) * 32 ^ u := by
    have := pk_zero (b := b) (p := p) (e := p + t + 1) (t := t + 1) (fun i hi => by unfold dgN; rw [if_neg (by omega)]) u
    rw [show t + 1 + u = 6 by omega] at this
    exact this
  have e3 : pkN b p (p + t + 1) (t + 1) = pkN b p (p + t) t * 32 + d := by
    simp only [pkN]
    rw [pk_ext (e' := p + t) t fun i hi => by unfold dgN; rw [if_pos (by omega), if_pos (by omega)]]
    congr 1
    unfold dgN
    rw [if_pos (by omega)]
    omega
  have hA : pkN b p (p + t) t < 32 ^ t := pkN_lt (fun j a c => h j a (by omega)) t
  have hpw : ∀ x : Nat, (32 : Nat) ^ x = 2 ^ (5 * x) := fun x => by rw [Nat.pow_mul]
  have hlt : pkN b p (p + t + 1) 6 < 32 ^ 6 := pkN_lt h 6
  have hd32 : d < 32 := by omega
  have hp0 : 0 < 2 ^ (5 * u) := Nat.pow_pos (by omega)
  have hy : d * 2 ^ (5 * u) < 2 ^ (5 * (u + 1)) := by
    rw [show 5 * (u + 1) = 5 + 5 * u by omega, Nat.pow_add]
    exact Nat.mul_lt_mul_of_pos_right (by omega) hp0
  rw [e2, e3, Nat.add_mul, Nat.mul_assoc, show 32 * 32 ^ u = 32 ^ (u + 1) by rw [Nat.pow_succ, Nat.mul_comm], hpw, hpw] at hlt ⊢
  rw [e1, hd, hpw, show (5 : Int) * (5 - (((p + t : Nat) : Int) - (p : Int))) = ((5 * u : Nat) : Int) by omega, oshl_nat (by omega) (by omega)]
  exact oor_add hy (by omega)
theorem pk_stop {b : Nat → Int} {p e : Nat} (h6 : 6 ≤ e - p) : pkN b p (e + 1) 6 = pkN b p e 6 := pk_ext 6 fun i hi => by unfold dgN; rw [if_pos (by omega), if_pos (by omega)]
/-- a number's digits, as far as the class counts them -/
def nvC (b : Nat → Int) (p : Nat) : Nat → Int
  | 0 => 0
  | k + 1 => if nvC b p k ≤ 9999 then 10 * nvC b p k + b (p + k) - 48 else nvC b p k
def nvR (b : Nat → Int) (p : Nat) : Nat → Int
  | 0 => 0
  | k + 1 => if 99999 < nvR b p k then nvR b p k else 10 * nvR b p k + b (p + k) - 48
theorem nv_rel {b : Nat → Int} {p : Nat} : ∀ k, (∀ i, i < k → isD (b (p + i)) = true) → (0 ≤ nvC b p k ∧ nvC b p k ≤ 99999) ∧ (0 ≤ nvR b p k ∧ nvR b p k ≤ 999999 + 9) ∧ ((nvC b p k = nvR b p k) ∨ (9999 < nvC b p k ∧ 9999 < nvR b p k)) := by
  intro k
  induction k with
  | zero => intro _; simp [nvC, nvR]
  | succ k ih =>
    intro h
    have ih := ih fun i hi => h i (by omega)
    have hd := isD_t.mp (h k (by omega))
    simp only [nvC, nvR]
    split <;> split <;> omega
def sgF (x : Int) : Int := if x = 60 then -11 else if x = 61 then -13 else if x = 62 then -16 else if x = 43 then -17 else if x = 45 then -18 else if x = 42 then -19 else if x = 47 then -20 else if x = 40 then -21 else if x = 41 then -22 else if x = 59 then -23 else 0
theorem v_sgO {n : Nat}  (x : Int) {σ : Mm} {P : Int → Mm → Prop} (l1 : (x < 40 ∨ 62 < x) → P 0 σ) (l2 : x = 40 → P (-21) σ) (l3 : x = 41 → P (-22) σ) (l4 : x = 42 → P (-19) σ) (l5 : x = 43 → P (-17) σ) (l6 : x = 44 → P 0 σ) (l7 : x = 45 → P (-18) σ) (l8 : x = 46 → P 0 σ) (l9 : x = 47 → P (-20) σ) (l10 : x = 48 → P 0 σ) (l11 : x = 49 → P 0 σ) (l12 : x = 50 → P 0 σ) (l13 : x = 51 → P 0 σ) (l14 : x = 52 → P 0 σ) (l15 : x = 53 → P 0 σ) (l16 : x = 54 → P 0 σ) (l17 : x = 55 → P 0 σ) (l18 : x = 56 → P 0 σ) (l19 : x = 57 → P 0 σ) (l20 : x = 58 → P 0 σ) (l21 : x = 59 → P (-23) σ) (l22 : x = 60 → P (-11) σ) (l23 : x = 61 → P (-13) σ) (l24 : x = 62 → P (-16) σ) : Ci 70 [vi x] (shF n) σ P :=
  show R 70 0 [some (vi x)] [] (shF n) 0 0 σ (Qi (shF n) P) from wpK_R 4 [] (And.intro (fun q1 => And.intro ret0 ⟨rfl, _, rfl, (l1 q1)⟩) (And.intro (fun q1 => And.intro ret0 ⟨rfl, _, rfl, (l2 q1)⟩) (And.intro (fun q1 => And.intro ret0 ⟨rfl, _, rfl, (l3 q1)⟩) (And.intro (fun q1 => And.intro ret0 ⟨rfl, _, rfl, (l4 q1)⟩) (And.intro (fun q1 => And.intro ret0 ⟨rfl, _, rfl, (l5 q1)⟩) (And.intro (fun q1 => And.intro ret0 ⟨rfl, _, rfl, (l6 q1)⟩) (And.intro (fun q1 => And.intro ret0 ⟨rfl, _, rfl, (l7 q1)⟩) (And.intro (fun q1 => And.intro ret0 ⟨rfl, _, rfl, (l8 q1)⟩) (And.intro (fun q1 => And.intro ret0 ⟨rfl, _, rfl, (l9 q1)⟩) (And.intro (fun q1 => And.intro ret0 ⟨rfl, _, rfl, (l10 q1)⟩) (And.intro (fun q1 => And.intro ret0 ⟨rfl, _, rfl, (l11 q1)⟩) (And.intro (fun q1 => And.intro ret0 ⟨rfl, _, rfl, (l12 q1)⟩) (And.intro (fun q1 => And.intro ret0 ⟨rfl, _, rfl, (l13 q1)⟩) (And.intro (fun q1 => And.intro ret0 ⟨rfl, _, rfl, (l14 q1)⟩) (And.intro (fun q1 => And.intro ret0 ⟨rfl, _, rfl, (l15 q1)⟩) (And.intro (fun q1 => And.intro ret0 ⟨rfl, _, rfl, (l16 q1)⟩) (And.intro (fun q1 => And.intro ret0 ⟨rfl, _, rfl, (l17 q1)⟩) (And.intro (fun q1 => And.intro ret0 ⟨rfl, _, rfl, (l18 q1)⟩) (And.intro (fun q1 => And.intro ret0 ⟨rfl, _, rfl, (l19 q1)⟩) (And.intro (fun q1 => And.intro ret0 ⟨rfl, _, rfl, (l20 q1)⟩) (And.intro (fun q1 => And.intro ret0 ⟨rfl, _, rfl, (l21 q1)⟩) (And.intro (fun q1 => And.intro ret0 ⟨rfl, _, rfl, (l22 q1)⟩) (And.intro (fun q1 => And.intro ret0 ⟨rfl, _, rfl, (l23 q1)⟩) (And.intro (fun q1 => And.intro ret0 ⟨rfl, _, rfl, (l24 q1)⟩) (trivial)))))))))))))))))))))))))
theorem c_sgO {n : Nat} {x : Int} {σ : Mm} {P : Int → Mm → Prop} (hP : P (sgF x) σ) : Ci 70 [vi x] (shF n) σ P := by
  refine v_sgO x ?_ ?_ ?_ ?_ ?_ ?_ ?_ ?_ ?_ ?_ ?_ ?_ ?_ ?_ ?_ ?_ ?_ ?_ ?_ ?_ ?_ ?_ ?_ ?_
  · intro e
    refine p_eq hP ?_
    unfold sgF
    rw [if_neg (by omega), if_neg (by omega), if_neg (by omega), if_neg (by omega), if_neg (by omega), if_neg (by omega), if_neg (by omega), if_neg (by omega), if_neg (by omega), if_neg (by omega)]
  all_goals (intro e; subst e; exact hP)
