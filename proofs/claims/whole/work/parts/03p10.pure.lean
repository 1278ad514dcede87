/-! THE PURE MACHINE. Values are mathematical integers; cells have numbers: 0 the static row POWERS, 1 the script, 2 the text of words, from 3 on what the law makes, in the order in which it is made. -/
abbrev PV : Type := Int ⊕ (Int ⊕ Nat)
abbrev vi (z : Int) : PV := .inl z
abbrev vl (z : Int) : PV := .inr (.inl z)
abbrev vr (k : Nat) : PV := .inr (.inr k)
/-- a cell's kind: an array (0 int, 1 byte, 2 boolean, 3 long, 4 the static row, 5 the script; its length) or an object of a class -/
abbrev Kd : Type := (Nat × Nat) ⊕ Nat
abbrev Sh : Type := List (Kd × List (Option Nat))
abbrev Mm : Type := (Nat → Nat → Int) × (Nat → Nat → Int)
abbrev PQ : Type := Option PV → Sh → Mm → Prop
abbrev XT : Type := Nat → Nat → List (Option PV) → List PV → Sh → Nat → Nat → Mm → PQ → Prop
def gi (σ : Mm) (k i : Nat) : Int := σ.1 k i
def gl (σ : Mm) (k i : Nat) : Int := σ.2 k i
def si (σ : Mm) (k i : Nat) (v : Int) : Mm := (fun a b => if a = k ∧ b = i then v else σ.1 a b, σ.2)
def sl (σ : Mm) (k i : Nat) (v : Int) : Mm := (σ.1, fun a b => if a = k ∧ b = i then v else σ.2 a b)
/-- a new cell: all its places are 0 -/
def sz (σ : Mm) (k : Nat) : Mm := (fun a b => if a = k then 0 else σ.1 a b, fun a b => if a = k then 0 else σ.2 a b)
/-- n places of row k from i on come into row a from b on -/
def cp (σ : Mm) (k i a b n : Nat) : Mm := (fun x y => if x = a ∧ b ≤ y ∧ y < b + n then σ.1 k (i + (y - b)) else σ.1 x y, σ.2)
def w32 (z : Int) : Int := z.bmod 4294967296
def w64 (z : Int) : Int := z.bmod 18446744073709551616
def w8 (z : Int) : Int := z.bmod 256
def oand (a b : Int) : Int := (Int32.ofInt a &&& Int32.ofInt b).toInt
def oor (a b : Int) : Int := (Int32.ofInt a ||| Int32.ofInt b).toInt
def oxor (a b : Int) : Int := (Int32.ofInt a ^^^ Int32.ofInt b).toInt
def oshl (a b : Int) : Int := (Int32.ofInt a <<< (Int32.ofInt b &&& 31)).toInt
def oshr (a b : Int) : Int := (Int32.ofInt a >>> (Int32.ofInt b &&& 31)).toInt
def oushr (a b : Int) : Int := ((Int32.ofInt a).toUInt32 >>> ((Int32.ofInt b).toUInt32 &&& Int32.toUInt32 31)).toInt32.toInt
def oland (a b : Int) : Int := (Int64.ofInt a &&& Int64.ofInt b).toInt
def jmp (pc : Nat) (off : Int) : Nat := ((pc : Int) + off).toNat
/-- a local gets a value of one word; a long ahead of it is gone -/
def st1 (L : List (Option PV)) (i : Nat) (v : PV) : List (Option PV) := match i with
  | 0 => L.set 0 (some v)
  | i' + 1 => match L[i']? with
    | some (some (.inr (.inl _))) => (L.set i' none).set (i' + 1) (some v)
    | _ => L.set (i' + 1) (some v)
def st2 (L : List (Option PV)) (i : Nat) (v : Int) : List (Option PV) := (st1 L i (.inr (.inl v))).set (i + 1) none
/-- the locals of a call's start -/
def lo : List PV → List (Option PV)
  | [] => []
  | .inr (.inl z) :: r => some (.inr (.inl z)) :: none :: lo r
  | v :: r => some v :: lo r
def pad (n : Nat) (l : List (Option PV)) : List (Option PV) := match n with
  | 0 => []
  | n + 1 => match l with
    | [] => none :: pad n []
    | x :: r => x :: pad n r
def catP : PV → Nat
  | .inr (.inl _) => 2
  | _ => 1
def catS : List PV → Nat
  | [] => 0
  | v :: r => catP v + catS r
def rev (l acc : List PV) : List PV := match l with
  | [] => acc
  | x :: r => rev r (x :: acc)
def isOpen (sh : Sh) : Bool := match sh with
  | (_, []) :: _ => true
  | _ => false
/-- no more is made from now on -/
def shut (sh : Sh) : Sh := match sh with
  | (k, _) :: r => (k, [none]) :: r
  | [] => []
/-- a method may return: no more was made than is counted; while the shape is still growing, just so many cells -/
def retOK (j : Nat) (sh : Sh) (c s : Nat) : Prop := c ≤ mcN j ∧ s ≤ msN j ∧ (isOpen sh = true → c = mcN j)
def tsw (x : Int) (pc : Nat) (k : Nat → Prop) : Int → List Int → Prop
  | _, [] => True
  | lo, o :: os => (x = lo → k (jmp pc o)) ∧ tsw x pc k (lo + 1) os
def lsw (x : Int) (pc : Nat) (k : Nat → Prop) (dflt : Int) : List (Int × Int) → Prop
  | [] => k (jmp pc dflt)
  | (a, o) :: ps => (x = a → k (jmp pc o)) ∧ (x ≠ a → lsw x pc k dflt ps)
/-- a call's arguments are there, and what is left on the stack has at most eight words -/
def okK (k : Nat) : Bool := Nat.blt k 278 && (!Nat.beq k 275 && !Nat.beq k 276)
def cg (k : Nat) (S : List PV) : Bool := okK k && (Nat.ble (catS (S.drop (nargN k))) 8 && (Nat.ble (catS (S.take (nargN k))) (maxLN k) && Nat.beq (S.take (nargN k)).length (nargN k)))
def callW (XC X : XT) (k j pc : Nat) (L : List (Option PV)) (S : List PV) (sh : Sh) (c s : Nat) (σ : Mm) (Q : PQ) : Prop :=
  match cg k S with
  | false => False
  | true => c + mcN k ≤ mcN j ∧ s + msN k ≤ msN j ∧ match retN k with
    | 0 => XC k 0 (pad (maxLN k) (lo (rev (S.take (nargN k)) []))) [] sh 0 0 σ (fun r sh' σ' => r = none ∧ X j (pc + 3) L (S.drop (nargN k)) sh' (c + mcN k) (s + msN k) σ' Q)
    | 2 => XC k 0 (pad (maxLN k) (lo (rev (S.take (nargN k)) []))) [] sh 0 0 σ (fun r sh' σ' => ∃ v, r = some (vl v) ∧ X j (pc + 3) L (vl v :: S.drop (nargN k)) sh' (c + mcN k) (s + msN k) σ' Q)
    | _ => XC k 0 (pad (maxLN k) (lo (rev (S.take (nargN k)) []))) [] sh 0 0 σ (fun r sh' σ' => ∃ v, r = some (vi v) ∧ X j (pc + 3) L (vi v :: S.drop (nargN k)) sh' (c + mcN k) (s + msN k) σ' Q)
/-- the receiver of a call is an object of the method's class -/
def rcv (sh : Sh) (k : Nat) : List PV → Bool
  | .inr (.inr r) :: _ => match sh[r]? with
    | some (.inr ci, _) => Nat.beq ci (ownN k)
    | _ => false
  | _ => false
/-- what a case answers: the judge, the day, how grave, thought, said, the feather -/
def causeV (σ : Mm) (c w : Int) : Int := match w with
  | 0 => gi σ 41 c.toNat
  | 1 => gi σ 11 c.toNat
  | 2 => gi σ 12 c.toNat
  | 3 => gi σ 42 c.toNat
  | 4 => gi σ 43 c.toNat
  | _ => gi σ 44 c.toNat
/-- the shape, once all is made; n: the length of the script -/
def shF (n : Nat) : Sh := [(.inl (4, 6), [none]),
  (.inl (5, n), []),
  (.inl (9, 0), []),
  (.inr 9, [some 4, none, none, none, some 5, some 21, some 37, some 40, some 49, some 58, none, some 67, some 70, some 71, some 75, some 82]),
  (.inl (1, 700), []),
  (.inr 0, [none, none, none, none, none, none, none, some 6, some 7, some 8, some 9, some 10, some 11, some 12, some 13, some 14, some 15, some 16, some 17]),
  (.inl (0, 5), []),
  (.inl (0, 5), []),
  (.inl (0, 5), []),
  (.inl (0, 10), []),
  (.inl (0, 10), []),
  (.inl (0, 10), []),
  (.inl (0, 10), []),
  (.inl (0, 5), []),
  (.inl (0, 5), []),
  (.inl (0, 5), []),
  (.inl (0, 8), []),
  (.inr 4, [none, some 18, some 19, some 20]),
  (.inl (0, 64), []),
  (.inl (0, 3), []),
  (.inl (0, 3), []),
  (.inr 0, [none, none, none, none, none, none, none, some 22, some 23, some 24, some 25, some 26, some 27, some 28, some 29, some 30, some 31, some 32, some 33]),
  (.inl (0, 5), []),
  (.inl (0, 5), []),
  (.inl (0, 5), []),
  (.inl (0, 10), []),
  (.inl (0, 10), []),
  (.inl (0, 10), []),
  (.inl (0, 10), []),
  (.inl (0, 5), []),
  (.inl (0, 5), []),
  (.inl (0, 5), []),
  (.inl (0, 8), []),
  (.inr 4, [none, some 34, some 35, some 36]),
  (.inl (0, 64), []),
  (.inl (0, 3), []),
  (.inl (0, 3), []),
  (.inr 6, [some 4, some 21, some 38, some 39, none, none, none, none, none, none, none, none, none, none]),
  (.inl (0, 19), []),
  (.inl (0, 72), []),
  (.inr 8, [none, none, some 41, some 42, some 43, some 44, some 45, some 46, some 47, some 48]),
  (.inl (0, 10), []),
  (.inl (0, 10), []),
  (.inl (0, 10), []),
  (.inl (0, 10), []),
  (.inl (0, 5), []),
  (.inl (0, 5), []),
  (.inl (0, 40), []),
  (.inl (0, 5), []),
  (.inr 8, [none, none, some 50, some 51, some 52, some 53, some 54, some 55, some 56, some 57]),
  (.inl (0, 10), []),
  (.inl (0, 10), []),
  (.inl (0, 10), []),
  (.inl (0, 10), []),
  (.inl (0, 5), []),
  (.inl (0, 5), []),
  (.inl (0, 40), []),
  (.inl (0, 5), []),
  (.inr 8, [none, none, some 59, some 60, some 61, some 62, some 63, some 64, some 65, some 66]),
  (.inl (0, 10), []),
  (.inl (0, 10), []),
  (.inl (0, 10), []),
  (.inl (0, 10), []),
  (.inl (0, 5), []),
  (.inl (0, 5), []),
  (.inl (0, 40), []),
  (.inl (0, 5), []),
  (.inr 5, [some 68, some 69, none, none]),
  (.inl (0, 7), []),
  (.inl (3, 64), []),
  (.inr 7, [some 5, some 67, none, none, none, none]),
  (.inr 2, [some 72, some 73, some 74, none, none]),
  (.inl (0, 20), []),
  (.inl (0, 20), []),
  (.inl (0, 20), []),
  (.inr 3, [some 76, some 77, some 78, some 79, some 80, some 81, none, none]),
  (.inl (0, 24), []),
  (.inl (0, 24), []),
  (.inl (0, 24), []),
  (.inl (2, 24), []),
  (.inl (0, 5), []),
  (.inl (0, 32), []),
  (.inr 1, [some 83, some 84, none]),
  (.inl (0, 6), []),
  (.inl (0, 243), []),
  (.inr 10, [some 86, none, none, some 87, none, none, none, none, none, none, none, none, none, none, none, none, none, none, none, none, none, none, some 88, some 89, some 90, some 91, some 92, some 93, some 94, some 95, some 96, some 97, some 98, some 99, some 100, some 101, some 102, some 103, some 104, some 105, some 106, some 107, some 108, none, none, none, none, none, none, some 109, some 110, none, some 111, some 112, some 113, some 114, some 115, some 116, some 117, some 118, some 119, some 120, some 121, some 122, none, none, none, none, none, none, none, none, none, some 123, some 124, some 125, none, none, some 126, some 127, some 128, none, none, some 129, none, some 130, some 131]),
  (.inl (0, 700), []),
  (.inl (0, 95), []),
  (.inl (2, 1), []),
  (.inl (0, 2), []),
  (.inl (0, 10), []),
  (.inl (0, 10), []),
  (.inl (0, 10), []),
  (.inl (0, 20), []),
  (.inl (0, 20), []),
  (.inl (0, 20), []),
  (.inl (0, 20), []),
  (.inl (0, 10), []),
  (.inl (0, 10), []),
  (.inl (0, 10), []),
  (.inl (0, 16), []),
  (.inl (2, 6), []),
  (.inl (0, 6), []),
  (.inl (0, 6), []),
  (.inl (0, 128), []),
  (.inl (0, 128), []),
  (.inl (0, 128), []),
  (.inl (0, 96), []),
  (.inl (0, 96), []),
  (.inl (3, 7), []),
  (.inl (3, 64), []),
  (.inl (0, 10), []),
  (.inl (2, 10), []),
  (.inl (0, 10), []),
  (.inl (0, 80), []),
  (.inl (0, 20), []),
  (.inl (0, 20), []),
  (.inl (0, 20), []),
  (.inl (0, 20), []),
  (.inl (0, 10), []),
  (.inl (0, 2), []),
  (.inl (0, 2), []),
  (.inl (0, 2), []),
  (.inl (0, 5), []),
  (.inl (0, 6), []),
  (.inl (0, 5), []),
  (.inl (0, 72), []),
  (.inl (2, 24), []),
  (.inl (0, 5), []),
  (.inl (0, 1520), []),
  (.inl (0, 76), []),
  (.inl (0, 27), []),
  (.inl (3, 1), [])]
/-- the law's own catch: 1 or 2 if an exception was caught; else 0, and 'out' has the answer -/
def causeW (X : XT) (j pc : Nat) (L : List (Option PV)) (S : List PV) (sh : Sh) (c s : Nat) (σ : Mm) (Q : PQ) : Prop := match S with
  | .inr (.inr 132) :: .inl b :: .inl a :: .inr (.inr 3) :: S' => (∃ n, sh = shF n) ∧ (catS S' ≤ 8 ∧ c + 2 ≤ mcN j ∧ s + 16 ≤ msN j) ∧
    ((a < 0 ∨ gi σ 5 1 ≤ a) → X j (pc + 3) L (vi 1 :: S') sh (c + 2) (s + 16) σ Q) ∧
    (0 ≤ a → a < gi σ 5 1 → (b < 0 ∨ 5 < b) → X j (pc + 3) L (vi 2 :: S') sh (c + 2) (s + 16) σ Q) ∧
    (0 ≤ a → a < gi σ 5 1 → 0 ≤ b → b ≤ 5 → a < 10 ∧ X j (pc + 3) L (vi 0 :: S') sh (c + 2) (s + 16) (sl σ 132 0 (causeV σ a b)) Q)
  | _ => False
/-- what is left on the stack has at most eight words -/
def gd (S : List PV) (P : Prop) : Prop := match Nat.ble (catS S) 8 with
  | true => P
  | false => False
def ldI (j pc len : Nat) (X : XT) (L : List (Option PV)) (S : List PV) (sh : Sh) (c s : Nat) (σ : Mm) (Q : PQ) (i : Nat) : Prop := match L[i]? with
  | some (some (.inl a)) => X j (pc + len) L (.inl a :: S) sh c s σ Q
  | _ => False
def ldL (j pc len : Nat) (X : XT) (L : List (Option PV)) (S : List PV) (sh : Sh) (c s : Nat) (σ : Mm) (Q : PQ) (i : Nat) : Prop := match L[i]? with
  | some (some (.inr (.inl a))) => X j (pc + len) L (.inr (.inl a) :: S) sh c s σ Q
  | _ => False
def ldA (j pc len : Nat) (X : XT) (L : List (Option PV)) (S : List PV) (sh : Sh) (c s : Nat) (σ : Mm) (Q : PQ) (i : Nat) : Prop := match L[i]? with
  | some (some (.inr (.inr a))) => X j (pc + len) L (.inr (.inr a) :: S) sh c s σ Q
  | _ => False
def brP (A B : Prop) (k : Prop) : Prop := (k → A) ∧ (¬ k → B)
def cndP (c : ClassFile.Cond) (a b : Int) : Prop := match c with
  | .eq => a = b
  | .ne => a ≠ b
  | .lt => a < b
  | .ge => b ≤ a
  | .gt => b < a
  | .le => a ≤ b
/-- one instruction: what must hold ahead of it, by what must hold behind it (XC: of a call's start, X: of this method) -/
def wpI (XC X : XT) (j pc : Nat) (L : List (Option PV)) (S : List PV) (sh : Sh) (c s : Nat) (σ : Mm) (Q : PQ) (ins : Instr) : Prop := match ins with
  | .iconst n => X j (pc + 1) L (.inl n :: S) sh c s σ Q
  | .bipush n => X j (pc + 2) L (.inl n :: S) sh c s σ Q
  | .sipush n => X j (pc + 3) L (.inl n :: S) sh c s σ Q
  | .lconst n => X j (pc + 1) L (.inr (.inl (n.val : Int)) :: S) sh c s σ Q
  | .ldc i => match poolAt t_const (ownN j) i with
    | some v => X j (pc + 2) L (.inl v :: S) sh c s σ Q
    | none => match ownN j, i with
      | 6, 26 => X j (pc + 2) L (vr 2 :: S) sh c s σ Q
      | _, _ => False
  | .ldc_w i => match poolAt t_const (ownN j) i with
    | some v => X j (pc + 3) L (.inl v :: S) sh c s σ Q
    | none => False
  | .ldc2_w i => match poolAt t_constL (ownN j) i with
    | some v => X j (pc + 3) L (.inr (.inl v) :: S) sh c s σ Q
    | none => False
  | .iload i => ldI j pc 2 X L S sh c s σ Q i
  | .iload_n i => ldI j pc 1 X L S sh c s σ Q i.val
  | .lload i => ldL j pc 2 X L S sh c s σ Q i
  | .lload_n i => ldL j pc 1 X L S sh c s σ Q i.val
  | .aload i => ldA j pc 2 X L S sh c s σ Q i
  | .aload_n i => ldA j pc 1 X L S sh c s σ Q i.val
  | .istore i => match S with
    | .inl a :: S' => X j (pc + 2) (st1 L i (.inl a)) S' sh c s σ Q
    | _ => False
  | .istore_n i => match S with
    | .inl a :: S' => X j (pc + 1) (st1 L i.val (.inl a)) S' sh c s σ Q
    | _ => False
  | .astore i => match S with
    | .inr (.inr a) :: S' => X j (pc + 2) (st1 L i (.inr (.inr a))) S' sh c s σ Q
    | _ => False
  | .astore_n i => match S with
    | .inr (.inr a) :: S' => X j (pc + 1) (st1 L i.val (.inr (.inr a))) S' sh c s σ Q
    | _ => False
  | .lstore i => match S with
    | .inr (.inl a) :: S' => X j (pc + 2) (st2 L i a) S' sh c s σ Q
    | _ => False
  | .lstore_n i => match S with
    | .inr (.inl a) :: S' => X j (pc + 1) (st2 L i.val a) S' sh c s σ Q
    | _ => False
  | .iinc i n => match L[i]? with
    | some (some (.inl a)) => X j (pc + 3) (st1 L i (.inl (w32 (a + n)))) S sh c s σ Q
    | _ => False
  | .iadd => match S with
    | .inl b :: .inl a :: S' => X j (pc + 1) L (.inl (w32 (a + b)) :: S') sh c s σ Q
    | _ => False
  | .isub => match S with
    | .inl b :: .inl a :: S' => X j (pc + 1) L (.inl (w32 (a - b)) :: S') sh c s σ Q
    | _ => False
  | .imul => match S with
    | .inl b :: .inl a :: S' => X j (pc + 1) L (.inl (w32 (a * b)) :: S') sh c s σ Q
    | _ => False
  | .idiv => match S with
    | .inl b :: .inl a :: S' => b ≠ 0 ∧ X j (pc + 1) L (.inl (w32 (a.tdiv b)) :: S') sh c s σ Q
    | _ => False
  | .irem => match S with
    | .inl b :: .inl a :: S' => b ≠ 0 ∧ X j (pc + 1) L (.inl (a.tmod b) :: S') sh c s σ Q
    | _ => False
  | .ineg => match S with
    | .inl a :: S' => X j (pc + 1) L (.inl (w32 (-a)) :: S') sh c s σ Q
    | _ => False
  | .iand => match S with
    | .inl b :: .inl a :: S' => X j (pc + 1) L (.inl (oand a b) :: S') sh c s σ Q
    | _ => False
  | .ior => match S with
    | .inl b :: .inl a :: S' => X j (pc + 1) L (.inl (oor a b) :: S') sh c s σ Q
    | _ => False
  | .ixor => match S with
    | .inl b :: .inl a :: S' => X j (pc + 1) L (.inl (oxor a b) :: S') sh c s σ Q
    | _ => False
  | .ishl => match S with
    | .inl b :: .inl a :: S' => X j (pc + 1) L (.inl (oshl a b) :: S') sh c s σ Q
    | _ => False
  | .ishr => match S with
    | .inl b :: .inl a :: S' => X j (pc + 1) L (.inl (oshr a b) :: S') sh c s σ Q
    | _ => False
  | .iushr => match S with
    | .inl b :: .inl a :: S' => X j (pc + 1) L (.inl (oushr a b) :: S') sh c s σ Q
    | _ => False
  | .ladd => match S with
    | .inr (.inl b) :: .inr (.inl a) :: S' => X j (pc + 1) L (.inr (.inl (w64 (a + b))) :: S') sh c s σ Q
    | _ => False
  | .lsub => match S with
    | .inr (.inl b) :: .inr (.inl a) :: S' => X j (pc + 1) L (.inr (.inl (w64 (a - b))) :: S') sh c s σ Q
    | _ => False
  | .lmul => match S with
    | .inr (.inl b) :: .inr (.inl a) :: S' => X j (pc + 1) L (.inr (.inl (w64 (a * b))) :: S') sh c s σ Q
    | _ => False
  | .ldiv => match S with
    | .inr (.inl b) :: .inr (.inl a) :: S' => b ≠ 0 ∧ X j (pc + 1) L (.inr (.inl (w64 (a.tdiv b))) :: S') sh c s σ Q
    | _ => False
  | .lrem => match S with
    | .inr (.inl b) :: .inr (.inl a) :: S' => b ≠ 0 ∧ X j (pc + 1) L (.inr (.inl (a.tmod b)) :: S') sh c s σ Q
    | _ => False
  | .lneg => match S with
    | .inr (.inl a) :: S' => X j (pc + 1) L (.inr (.inl (w64 (-a))) :: S') sh c s σ Q
    | _ => False
  | .land => match S with
    | .inr (.inl b) :: .inr (.inl a) :: S' => X j (pc + 1) L (.inr (.inl (oland a b)) :: S') sh c s σ Q
    | _ => False
  | .lcmp => match S with
    | .inr (.inl b) :: .inr (.inl a) :: S' => (a < b → X j (pc + 1) L (.inl (-1) :: S') sh c s σ Q) ∧ (a = b → X j (pc + 1) L (.inl 0 :: S') sh c s σ Q) ∧ (b < a → X j (pc + 1) L (.inl 1 :: S') sh c s σ Q)
    | _ => False
  | .i2l => match S with
    | .inl a :: S' => X j (pc + 1) L (.inr (.inl a) :: S') sh c s σ Q
    | _ => False
  | .l2i => match S with
    | .inr (.inl a) :: S' => X j (pc + 1) L (.inl (w32 a) :: S') sh c s σ Q
    | _ => False
  | .i2b => match S with
    | .inl a :: S' => X j (pc + 1) L (.inl (w8 a) :: S') sh c s σ Q
    | _ => False
  | .dup => match S with
    | .inl a :: S' => X j (pc + 1) L (.inl a :: .inl a :: S') sh c s σ Q
    | .inr (.inr a) :: S' => X j (pc + 1) L (.inr (.inr a) :: .inr (.inr a) :: S') sh c s σ Q
    | _ => False
  | .dup2 => match S with
    | .inl b :: .inr (.inr a) :: S' => X j (pc + 1) L (.inl b :: .inr (.inr a) :: .inl b :: .inr (.inr a) :: S') sh c s σ Q
    | _ => False
  | .ifCond cd off => match S with
    | .inl a :: S' => brP (X j (jmp pc off) L S' sh c s σ Q) (X j (pc + 3) L S' sh c s σ Q) (cndP cd a 0)
    | _ => False
  | .if_icmp cd off => match S with
    | .inl b :: .inl a :: S' => brP (X j (jmp pc off) L S' sh c s σ Q) (X j (pc + 3) L S' sh c s σ Q) (cndP cd a b)
    | _ => False
  | .goto off => X j (jmp pc off) L S sh c s σ Q
  | .tableswitch d l h os => match S with
    | .inl a :: S' => (a < l ∨ h < a → X j (jmp pc d) L S' sh c s σ Q) ∧ tsw a pc (fun p => X j p L S' sh c s σ Q) l os.toList
    | _ => False
  | .lookupswitch d ps => match S with
    | .inl a :: S' => lsw a pc (fun p => X j p L S' sh c s σ Q) d ps.toList
    | _ => False
  | .getstatic i => match ownN j, i with
    | 1, 31 => X j (pc + 3) L (vr 0 :: S) sh c s σ Q
    | _, _ => False
  | .getfield i => match poolAt t_field (ownN j) i with
    | some (ci, sl, ty) => match S with
      | .inr (.inr k) :: S' => match sh[k]? with
        | some (.inr cj, rs) => match Nat.beq ci cj with
          | true => match ty with
            | 3 => match rs[sl]? with
              | some (some r) => X j (pc + 3) L (.inr (.inr r) :: S') sh c s σ Q
              | _ => False
            | 2 => X j (pc + 3) L (.inr (.inl (gl σ k sl)) :: S') sh c s σ Q
            | _ => X j (pc + 3) L (.inl (gi σ k sl) :: S') sh c s σ Q
          | false => False
        | _ => False
      | _ => False
    | none => False
  | .putfield i => match poolAt t_field (ownN j) i with
    | some (ci, st, ty) => match S with
      | .inl v :: .inr (.inr k) :: S' => match sh[k]? with
        | some (.inr cj, _) => match Nat.beq ci cj with
          | true => match ty with
            | 0 => X j (pc + 3) L S' sh c s (si σ k st v) Q
            | 1 => (v = 0 ∨ v = 1) ∧ X j (pc + 3) L S' sh c s (si σ k st v) Q
            | _ => False
          | false => False
        | _ => False
      | .inr (.inl v) :: .inr (.inr k) :: S' => match sh[k]? with
        | some (.inr cj, _) => match Nat.beq ci cj with
          | true => match ty with
            | 2 => X j (pc + 3) L S' sh c s (sl σ k st v) Q
            | _ => False
          | false => False
        | _ => False
      | .inr (.inr v) :: .inr (.inr k) :: S' => match sh[k]? with
        | some (.inr cj, rs) => match Nat.beq ci cj with
          | true => match ty with
            | 3 => X j (pc + 3) L S' (sh.set k (.inr cj, rs.set st (some v))) c s σ Q
            | _ => False
          | false => False
        | _ => False
      | _ => False
    | none => False
  | .iaload => match S with
    | .inl i :: .inr (.inr k) :: S' => match sh[k]? with
      | some (.inl (ty, n), _) => match ty with
        | 0 | 4 | 5 => (0 ≤ i ∧ i < n) ∧ X j (pc + 1) L (.inl (gi σ k i.toNat) :: S') sh c s σ Q
        | _ => False
      | _ => False
    | _ => False
  | .baload => match S with
    | .inl i :: .inr (.inr k) :: S' => match sh[k]? with
      | some (.inl (ty, n), _) => match ty with
        | 1 | 2 => (0 ≤ i ∧ i < n) ∧ X j (pc + 1) L (.inl (gi σ k i.toNat) :: S') sh c s σ Q
        | _ => False
      | _ => False
    | _ => False
  | .laload => match S with
    | .inl i :: .inr (.inr k) :: S' => match sh[k]? with
      | some (.inl (ty, n), _) => match ty with
        | 3 => (0 ≤ i ∧ i < n) ∧ X j (pc + 1) L (.inr (.inl (gl σ k i.toNat)) :: S') sh c s σ Q
        | _ => False
      | _ => False
    | _ => False
  | .iastore => match S with
    | .inl v :: .inl i :: .inr (.inr k) :: S' => match sh[k]? with
      | some (.inl (ty, n), _) => match ty with
        | 0 => (0 ≤ i ∧ i < n) ∧ X j (pc + 1) L S' sh c s (si σ k i.toNat v) Q
        | _ => False
      | _ => False
    | _ => False
  | .bastore => match S with
    | .inl v :: .inl i :: .inr (.inr k) :: S' => match sh[k]? with
      | some (.inl (ty, n), _) => match ty with
        | 1 => (0 ≤ i ∧ i < n) ∧ X j (pc + 1) L S' sh c s (si σ k i.toNat (w8 v)) Q
        | 2 => (0 ≤ i ∧ i < n) ∧ (v = 0 ∨ v = 1) ∧ X j (pc + 1) L S' sh c s (si σ k i.toNat v) Q
        | _ => False
      | _ => False
    | _ => False
  | .lastore => match S with
    | .inr (.inl v) :: .inl i :: .inr (.inr k) :: S' => match sh[k]? with
      | some (.inl (ty, n), _) => match ty with
        | 3 => (0 ≤ i ∧ i < n) ∧ X j (pc + 1) L S' sh c s (sl σ k i.toNat v) Q
        | _ => False
      | _ => False
    | _ => False
  | .arraylength => match S with
    | .inr (.inr k) :: S' => match sh[k]? with
      | some (.inl (ty, n), _) => match ty with
        | 0 | 1 | 2 | 3 | 5 => X j (pc + 1) L (.inl (n : Int) :: S') sh c s σ Q
        | _ => False
      | _ => False
    | _ => False
  | .newarray at' => match S with
    | .inl n :: S' => match isOpen sh with
      | true => (0 ≤ n ∧ n < 65536 ∧ c + 1 ≤ mcN j ∧ s + n.toNat ≤ msN j) ∧ match at' with
        | .int => X j (pc + 2) L (.inr (.inr sh.length) :: S') (sh ++ [(.inl (0, n.toNat), [])]) (c + 1) (s + n.toNat) (sz σ sh.length) Q
        | .byte => X j (pc + 2) L (.inr (.inr sh.length) :: S') (sh ++ [(.inl (1, n.toNat), [])]) (c + 1) (s + n.toNat) (sz σ sh.length) Q
        | .boolean => X j (pc + 2) L (.inr (.inr sh.length) :: S') (sh ++ [(.inl (2, n.toNat), [])]) (c + 1) (s + n.toNat) (sz σ sh.length) Q
        | .long => X j (pc + 2) L (.inr (.inr sh.length) :: S') (sh ++ [(.inl (3, n.toNat), [])]) (c + 1) (s + n.toNat) (sz σ sh.length) Q
        | _ => False
      | false => False
    | _ => False
  | .new i => match poolAt t_class (ownN j) i with
    | some ci => match t_nslots[ci]? with
      | some n => match isOpen sh with
        | true => (c + 1 ≤ mcN j ∧ s + n ≤ msN j) ∧ X j (pc + 3) L (.inr (.inr sh.length) :: S) (sh ++ [(.inr ci, List.replicate n none)]) (c + 1) (s + n) (sz σ sh.length) Q
        | false => False
      | none => False
    | none => False
  | .invokevirtual i => match poolAt t_meth (ownN j) i with
    | some k => match k with
      | 1008 => match S with
        | .inr (.inr 2) :: S' => gd S' (X j (pc + 3) L (.inl 95 :: S') sh c s σ Q)
        | _ => False
      | 1009 => match S with
        | .inl n :: .inr (.inr 2) :: S' => gd S' ((0 ≤ n ∧ n < 95) ∧ X j (pc + 3) L (.inl (gi σ 2 n.toNat) :: S') sh c s σ Q)
        | _ => False
      | k => match rcv sh k (rev (S.take (nargN k)) []) with
        | true => callW XC X k j pc L S sh c s σ Q
        | false => False
    | none => False
  | .invokespecial i => match poolAt t_meth (ownN j) i with
    | some k => match k with
      | 1000 => match S with
        | .inr (.inr _) :: S' => gd S' (X j (pc + 3) L S' sh c s σ Q)
        | _ => False
      | k => match rcv sh k (rev (S.take (nargN k)) []) with
        | true => callW XC X k j pc L S sh c s σ Q
        | false => False
    | none => False
  | .invokestatic i => match poolAt t_meth (ownN j) i with
    | some k => match k with
      | 1001 => match S with
        | .inl n :: .inl dp :: .inr (.inr a) :: .inl sp :: .inr (.inr b) :: S' => match sh[a]?, sh[b]? with
          | some (.inl (0, na), _), some (.inl (0, nb), _) => gd S' ((0 ≤ n ∧ 0 ≤ dp ∧ 0 ≤ sp ∧ dp + n ≤ na ∧ sp + n ≤ nb) ∧ X j (pc + 3) L S' sh c s (cp σ b sp.toNat a dp.toNat n.toNat) Q)
          | _, _ => False
        | _ => False
      | 275 => causeW X j pc L S sh c s σ Q
      | 1002 => match S with
        | .inl a :: S' => gd S' (X j (pc + 3) L (.inl (if 0 ≤ a then a else w32 (0 - a)) :: S') sh c s σ Q)
        | _ => False
      | 1003 => match S with
        | .inr (.inl a) :: S' => gd S' (X j (pc + 3) L (.inr (.inl (if 0 < a then a else w64 (-a))) :: S') sh c s σ Q)
        | _ => False
      | 1004 => match S with
        | .inl b :: .inl a :: S' => gd S' (X j (pc + 3) L (.inl (if b < a then b else a) :: S') sh c s σ Q)
        | _ => False
      | 1005 => match S with
        | .inl b :: .inl a :: S' => gd S' (X j (pc + 3) L (.inl (if a < b then b else a) :: S') sh c s σ Q)
        | _ => False
      | 1006 => match S with
        | .inr (.inl b) :: .inr (.inl a) :: S' => gd S' (X j (pc + 3) L (.inr (.inl (if b < a then b else a)) :: S') sh c s σ Q)
        | _ => False
      | 1007 => match S with
        | .inr (.inl b) :: .inr (.inl a) :: S' => gd S' (X j (pc + 3) L (.inr (.inl (if b < a then a else b)) :: S') sh c s σ Q)
        | _ => False
      | k => callW XC X k j pc L S sh c s σ Q
    | none => False
  | .ireturn => match S with
    | [.inl v] => retOK j sh c s ∧ match retN j with
      | 1 => Q (some (.inl v)) sh σ
      | 3 => (v = 0 ∨ v = 1) ∧ Q (some (.inl v)) sh σ
      | _ => False
    | _ => False
  | .lreturn => match S with
    | [.inr (.inl v)] => retOK j sh c s ∧ match retN j with
      | 2 => Q (some (.inr (.inl v))) sh σ
      | _ => False
    | _ => False
  | .return_ => match S with
    | [] => retOK j sh c s ∧ match retN j with
      | 0 => Q none sh σ
      | _ => False
    | _ => False
  | _ => False
def wp1 (XC X : XT) : XT := fun j pc L S sh c s σ Q => match insAt j pc with
  | some i => wpI XC X j pc L S sh c s σ Q i
  | none => False
