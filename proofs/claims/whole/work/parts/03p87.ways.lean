/-! WAYS: counting permutations that fit -/
def Wc (J : Nat) (fit : Nat → Nat → Bool) : Nat → Nat → (Nat → Bool) → Int
  | 0, _, _ => 1
  | r + 1, k, S => sumF (fun d => if (!S d && fit k d) = true then Wc J fit r (k + 1) (fun x => S x || decide (x = d)) else 0) J
def okC (J : Nat) (fit : Nat → Nat → Bool) : Nat → Nat → (Nat → Bool) → Nat → Bool
  | 0, _, _, _ => true
  | r + 1, k, S, code => (!S (code % J) && fit k (code % J)) && okC J fit r (k + 1) (fun x => S x || decide (x = code % J)) (code / J)
theorem sumF_app {f : Nat → Int} {a : Nat} : ∀ b : Nat, sumF f (a + b) = sumF f a + sumF (fun q => f (a + q)) b := by
  intro b
  induction b with
  | zero => simp [sumF]
  | succ b ih => rw [← Nat.add_assoc]; simp only [sumF]; rw [ih]; omega
theorem sumF_mul {g : Nat → Int} {J : Nat} : ∀ M : Nat, sumF g (J * M) = sumF (fun q => sumF (fun d => g (J * q + d)) J) M := by
  intro M
  induction M with
  | zero => rfl
  | succ M ih => rw [Nat.mul_succ, sumF_app, ih]; rfl
theorem sumF_if {P : Prop} [Decidable P] {f : Nat → Int} : ∀ M : Nat, sumF (fun q => if P then f q else 0) M = if P then sumF f M else 0 := by
  intro M
  by_cases h : P
  · simp only [if_pos h]
  · simp only [if_neg h]
    exact sumF_zero M fun _ _ => rfl
theorem okC_cnt {J : Nat} {fit : Nat → Nat → Bool} : ∀ (r k : Nat) (S : Nat → Bool), (r = 0 ∨ 0 < J) → sumF (fun code => b2i (okC J fit r k S code)) (J ^ r) = Wc J fit r k S := by
  intro r
  induction r with
  | zero => intro k S _; simp [sumF, okC, Wc, b2i]
  | succ r ih =>
    intro k S h
    have hJ : 0 < J := by omega
    rw [Nat.pow_succ, Nat.mul_comm, sumF_mul, sumF_swap]
    simp only [Wc]
    refine sumF_congr fun d hd => ?_
    rw [← ih (k + 1) _ (Or.inr hJ), ← sumF_if]
    refine sumF_congr fun q _ => ?_
    simp only [okC]
    rw [show (J * q + d) % J = d by rw [Nat.mul_add_mod]; exact Nat.mod_eq_of_lt hd, show (J * q + d) / J = q by rw [Nat.mul_add_div hJ, Nat.div_eq_of_lt hd, Nat.add_zero]]
    by_cases z : (!S d && fit k d) = true
    · rw [if_pos z, z, Bool.true_and]
    · rw [if_neg z, show (!S d && fit k d) = false by simpa using z, Bool.false_and]; rfl
theorem Wc_congr {J : Nat} {fit fit' : Nat → Nat → Bool} : ∀ (r k : Nat) (S S' : Nat → Bool), (∀ x, x < J → S x = S' x) → (∀ k x, x < J → fit k x = fit' k x) → Wc J fit r k S = Wc J fit' r k S' := by
  intro r
  induction r with
  | zero => intros; rfl
  | succ r ih =>
    intro k S S' h hf
    simp only [Wc]
    refine sumF_congr fun d hd => ?_
    rw [h d hd, hf k d hd, ih (k + 1) _ _ (fun x hx => by rw [h x hx]) hf]
theorem perm_sum {J : Nat} {hold : Nat → Nat} {g : Nat → Int} (hb : ∀ h, h < J → hold h < J) (inj : ∀ a b, a < J → b < J → hold a = hold b → a = b) (sur : ∀ u, u < J → ∃ h, h < J ∧ hold h = u) : sumF (fun h => g (hold h)) J = sumF g J := by
  have e1 : sumF (fun h => g (hold h)) J = sumF (fun h => sumF (fun u => if u = hold h then g u else 0) J) J := sumF_congr fun h hh => by
    rw [sumF_one (f := fun u => if u = hold h then g u else 0) (h := hold h) J (fun q _ hne => by show (if q = hold h then g q else 0) = 0; rw [if_neg hne]), if_pos (hb h hh)]
    show g (hold h) = if hold h = hold h then g (hold h) else 0
    rw [if_pos rfl]
  rw [e1, sumF_swap]
  refine sumF_congr fun u hu => ?_
  obtain ⟨h, hh, he⟩ := sur u hu
  rw [sumF_one (f := fun i => if u = hold i then g u else 0) (h := h) J (fun q hq hne => by show (if u = hold q then g u else 0) = 0; rw [if_neg (fun z => hne (inj q h hq hh (by rw [he]; exact z.symm)))]), if_pos hh]
  show (if u = hold h then g u else 0) = g u
  rw [if_pos he.symm]
theorem Wc_perm {J : Nat} {fit : Nat → Nat → Bool} {hold : Nat → Nat} (hb : ∀ h, h < J → hold h < J) (inj : ∀ a b, a < J → b < J → hold a = hold b → a = b) (sur : ∀ u, u < J → ∃ h, h < J ∧ hold h = u) : ∀ (r k : Nat) (S : Nat → Bool), Wc J (fun k h => fit k (hold h)) r k (fun h => S (hold h)) = Wc J fit r k S := by
  intro r
  induction r with
  | zero => intros; rfl
  | succ r ih =>
    intro k S
    have e : Wc J (fun k h => fit k (hold h)) (r + 1) k (fun h => S (hold h)) = sumF (fun h => (fun u => if (!S u && fit k u) = true then Wc J fit r (k + 1) (fun x => S x || decide (x = u)) else 0) (hold h)) J := by
      simp only [Wc]
      refine sumF_congr fun h hh => ?_
      rw [← ih (k + 1)]
      rw [Wc_congr r (k + 1) (fun x => S (hold x) || decide (x = h)) (fun x => S (hold x) || decide (hold x = hold h)) (fun x hx => by
        congr 1
        exact decide_eq_decide.mpr ⟨fun z => by rw [z], fun z => inj x h hx hh z⟩) (fun _ _ _ => rfl)]
    rw [e, perm_sum (g := fun u => if (!S u && fit k u) = true then Wc J fit r (k + 1) (fun x => S x || decide (x = u)) else 0) hb inj sur]
    rfl
/-- bits of a mask -/
def pcN (m : Nat) : Nat := (cnt (fun x => m.testBit x) 10).toNat
theorem pc_1 : ∀ J : Nat, J < 6 → ∀ m : Nat, m < 2 ^ J → pcN m ≤ J := by decide +kernel
theorem pc_2 : ∀ J : Nat, J < 6 → ∀ m : Nat, m < 2 ^ J → m + 1 < 2 ^ J → pcN m < J := by decide +kernel
theorem pc_3 : ∀ m : Nat, m < 32 → ∀ i : Nat, i < 5 → m.testBit i = true ∨ (pcN (m ||| 2 ^ i) = pcN m + 1 ∧ m < m ||| 2 ^ i) := by decide +kernel
theorem pc_all (J : Nat) (hJ : J < 6) (m : Nat) (hm : m < 2 ^ J) : pcN m ≤ J ∧ (m + 1 < 2 ^ J → pcN m < J) ∧ ∀ i : Nat, i < J → m.testBit i = false → pcN (m ||| 2 ^ i) = pcN m + 1 ∧ m ||| 2 ^ i < 2 ^ J ∧ m < m ||| 2 ^ i := by
  refine ⟨pc_1 J hJ m hm, pc_2 J hJ m hm, fun i hi hb => ?_⟩
  have h32 : 2 ^ J ≤ 2 ^ 5 := Nat.pow_le_pow_right (by omega) (by omega)
  have h := (pc_3 m (by omega) i (by omega)).resolve_left (by rw [hb]; decide)
  exact ⟨h.1, Nat.or_lt_two_pow hm (Nat.pow_lt_pow_right (by omega) hi), h.2⟩
theorem pc_full : ∀ J : Nat, J < 6 → pcN (2 ^ J - 1) = J := by decide +kernel
def fct (n : Nat) : Int := if n = 0 then 1 else if n = 1 then 1 else if n = 2 then 2 else if n = 3 then 6 else if n = 4 then 24 else 120
theorem fct_all : ∀ J : Nat, J < 6 → ∀ m : Nat, m < 2 ^ J → m + 1 < 2 ^ J → sumF (fun i => if m.testBit i = false then fct (J - pcN (m ||| 2 ^ i)) else 0) J = fct (J - pcN m) := by decide +kernel
theorem fct_1 (n : Nat) : 1 ≤ fct n ∧ fct n ≤ 120 := by unfold fct; repeat' split <;> omega
/-- completions of a mask of holders -/
def wM (J : Nat) (fit : Nat → Nat → Bool) (m : Nat) : Int := Wc J fit (J - pcN m) (pcN m) (fun x => m.testBit x)
theorem wM_s {J : Nat} {fit : Nat → Nat → Bool} (hJ : J < 6) {m : Nat} (hm : m + 1 < 2 ^ J) : wM J fit m = sumF (fun i => if (!m.testBit i && fit (pcN m) i) = true then wM J fit (m ||| 2 ^ i) else 0) J := by
  obtain ⟨p1, p2, p3⟩ := pc_all J hJ m (by omega)
  have p2 := p2 hm
  unfold wM
  rw [show J - pcN m = (J - pcN m - 1) + 1 by omega]
  simp only [Wc]
  refine sumF_congr fun i hi => ?_
  by_cases z : (!m.testBit i && fit (pcN m) i) = true
  · rw [if_pos z, if_pos z]
    have zb : m.testBit i = false := by
      cases h : m.testBit i with
      | false => rfl
      | true => rw [h] at z; exact absurd z (by simp)
    rw [(p3 i hi zb).1, show J - (pcN m + 1) = J - pcN m - 1 by omega]
    refine Wc_congr _ _ _ _ (fun x hx => ?_) (fun _ _ _ => rfl)
    rw [Nat.testBit_or, Nat.testBit_two_pow]
    congr 1
    exact decide_eq_decide.mpr ⟨fun q => q.symm, fun q => q.symm⟩
  · rw [if_neg z, if_neg z]
theorem wM_full {J : Nat} {fit : Nat → Nat → Bool} (hJ : J < 6) : wM J fit (2 ^ J - 1) = 1 := by
  unfold wM
  rw [pc_full J hJ, Nat.sub_self]
  rfl
/-- what is dealt from mask t on, weighed -/
def pot (w : Nat → Int) (D : Nat → Int) (t M : Nat) : Int := sumF (fun m => if t ≤ m then D m * w m else 0) M
def dlD (D : Nat → Int) (free : Nat → Bool) (t i : Nat) : Nat → Int := fun x => D x + sumF (fun i' => if free i' = true ∧ x = t ||| 2 ^ i' then D t else 0) i
theorem sumF_mulr {f : Nat → Int} {a : Int} : ∀ k : Nat, sumF (fun q => a * f q) k = a * sumF f k := by
  intro k
  induction k with
  | zero => simp [sumF]
  | succ k ih => simp only [sumF]; rw [ih, Int.mul_add]
theorem pot_step {w D : Nat → Int} {free : Nat → Bool} {t M J : Nat} (ht : t < M) (hf : ∀ i, i < J → free i = true → t < t ||| 2 ^ i ∧ t ||| 2 ^ i < M) : pot w (dlD D free t J) (t + 1) M = pot w D t M - D t * w t + D t * sumF (fun i => if free i = true then w (t ||| 2 ^ i) else 0) J := by
  have e1 : pot w (dlD D free t J) (t + 1) M = sumF (fun m => (if t + 1 ≤ m then D m * w m else 0) + sumF (fun i => if free i = true ∧ m = t ||| 2 ^ i then D t * w m else 0) J) M := by
    unfold pot
    refine sumF_congr fun m hm => ?_
    by_cases z : t + 1 ≤ m
    · rw [if_pos z, if_pos z]
      unfold dlD
      rw [Int.add_mul]
      congr 1
      rw [Int.mul_comm, ← sumF_mulr]
      refine sumF_congr fun i _ => ?_
      by_cases q : free i = true ∧ m = t ||| 2 ^ i
      · rw [if_pos q, if_pos q, Int.mul_comm]
      · rw [if_neg q, if_neg q, Int.mul_zero]
    · rw [if_neg z, if_neg z, sumF_zero J fun i hi => if_neg (fun q => by have := (hf i hi q.1).1; omega)]; rfl
  rw [e1, sumF_add, sumF_swap]
  have e2 : sumF (fun m => if t + 1 ≤ m then D m * w m else 0) M = pot w D t M - D t * w t := by
    unfold pot
    rw [sumF_upd (f := fun m => if t + 1 ≤ m then D m * w m else 0) (g := fun m => if t ≤ m then D m * w m else 0) (w := t) M ht (fun q hq hne => by
      show (if t + 1 ≤ q then D q * w q else 0) = if t ≤ q then D q * w q else 0
      by_cases z : t + 1 ≤ q
      · rw [if_pos z, if_pos (by omega)]
      · rw [if_neg z, if_neg (by omega)])]
    show _ - (if t ≤ t then D t * w t else 0) + (if t + 1 ≤ t then D t * w t else 0) = _
    rw [if_pos (by omega), if_neg (by omega), Int.add_zero]
  rw [e2, ← sumF_mulr]
  congr 1
  refine sumF_congr fun i hi => ?_
  by_cases z : free i = true
  · have hh := hf i hi z
    rw [sumF_one (f := fun m => if free i = true ∧ m = t ||| 2 ^ i then D t * w m else 0) (h := t ||| 2 ^ i) M (fun q _ hne => by show (if free i = true ∧ q = t ||| 2 ^ i then D t * w q else 0) = 0; rw [if_neg (fun y => hne y.2)]), if_pos hh.2]
    show (if free i = true ∧ t ||| 2 ^ i = t ||| 2 ^ i then D t * w (t ||| 2 ^ i) else 0) = D t * (if free i = true then w (t ||| 2 ^ i) else 0)
    rw [if_pos ⟨z, rfl⟩, if_pos z]
  · rw [sumF_zero M fun q _ => if_neg (fun y => z y.1), if_neg z, Int.mul_zero]
theorem pot_le {w D : Nat → Int} {t M m : Nat} (hw : ∀ q, q < M → 1 ≤ w q) (hD : ∀ q, q < M → t ≤ q → 0 ≤ D q) (hm : t ≤ m) (hmM : m < M) : D m ≤ pot w D t M := by
  have h1 : sumF (fun q => if q = m then D m else 0) M ≤ pot w D t M := by
    refine sumF_le M fun q hq => ?_
    by_cases z : q = m
    · subst z
      rw [if_pos rfl, if_pos hm]
      have a := hD q hq hm
      have b := hw q hq
      have : D q * 1 ≤ D q * w q := Int.mul_le_mul_of_nonneg_left b a
      omega
    · rw [if_neg z]
      split
      · rename_i y
        exact Int.mul_nonneg (hD q hq y) (by have := hw q hq; omega)
      · exact Int.le_refl _
  rw [sumF_one (f := fun q => if q = m then D m else 0) (h := m) M (fun q _ hne => by show (if q = m then D m else 0) = 0; rw [if_neg hne]), if_pos hmM] at h1
  have e : (if m = m then D m else 0) = D m := if_pos rfl
  have h1' : (if m = m then D m else 0) ≤ pot w D t M := h1
  omega
