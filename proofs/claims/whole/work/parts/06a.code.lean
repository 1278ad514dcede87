/-! THE CODE, checked by the kernel: each instruction is what the bytes say; what it needs of the tables, of locals, of room -/
def lenI : Instr → Nat
  | .bipush _ | .ldc _ | .iload _ | .lload _ | .aload _ | .istore _ | .lstore _ | .astore _ | .newarray _ => 2
  | .sipush _ | .ldc_w _ | .ldc2_w _ | .iinc _ _ | .ifCond _ _ | .if_icmp _ _ | .goto _ | .getstatic _ | .getfield _ | .putfield _ | .new _ | .invokevirtual _ | .invokespecial _ | .invokestatic _ => 3
  | .tableswitch _ _ _ _ | .lookupswitch _ _ => 0
  | _ => 1
def callOK (j k : Nat) : Bool := decide (frN k + 1 ≤ frN j) && decide (8 + (maxLN k + 11) + loN k ≤ loN j) && decide (k < 278)
def jOK (pc : Nat) (off : Int) : Bool := decide (0 ≤ (pc : Int) + off)
def finN (ci sl : Nat) : Bool := match vwCl[ci]? with
  | some (_, T, _) => (T sl).2.2.2
  | none => false
def ichk (j pc : Nat) (ins : Instr) : Bool := match ins with
  | .iconst n => decide (-128 ≤ n ∧ n < 128)
  | .bipush n => decide (-128 ≤ n ∧ n < 128)
  | .sipush n => decide (-32768 ≤ n ∧ n < 32768)
  | .istore i | .astore i => decide (i < maxLN j)
  | .istore_n i | .astore_n i => decide (i.val < maxLN j)
  | .lstore i => decide (i + 1 < maxLN j)
  | .lstore_n i => decide (i.val + 1 < maxLN j)
  | .iinc i n => decide (i < maxLN j) && decide (-32768 ≤ n ∧ n < 32768)
  | .ifCond _ off | .if_icmp _ off | .goto off => jOK pc off
  | .tableswitch d l h os => jOK pc d && os.toList.all (jOK pc) && decide (l + os.size = h + 1) && decide (-2147483648 ≤ l ∧ h < 2147483648)
  | .lookupswitch d ps => jOK pc d && ps.toList.all (fun q => jOK pc q.2) && (ps.toList.zip (ps.toList.drop 1)).all (fun (a, next) => decide (a.1 < next.1))
  | .putfield i => match poolAt t_field (ownN j) i with
    | some (ci, sl, _) => !finN ci sl || (decide (ownN j = ci) && decide ((yN j).name = "<init>"))
    | none => true
  | .invokevirtual i => match poolAt t_meth (ownN j) i with
    | some k => if k < 1000 then callOK j k && !statN k && gwAt ((ch k p_sel).getD 0) (.selects (yN k).cls (yN k) (yN k)) && !decide (ownN k = 12) && !decide (ownN k = 11) else decide (5 ≤ frN j) && decide (150 ≤ loN j)
    | none => true
  | .invokespecial i => match poolAt t_meth (ownN j) i with
    | some k => if k < 1000 then callOK j k && !statN k && decide ((yN k).name = "<init>") && decide (retN k = 0) else decide (1 ≤ frN j) && decide (20 ≤ loN j) && decide (k = 1000)
    | none => true
  | .invokestatic i => match poolAt t_meth (ownN j) i with
    | some k => if k < 1000 then (callOK j k && statN k) || decide (k = 275) else decide (1 ≤ frN j) && decide (8 + 13 ≤ loN j) && decide (1001 ≤ k ∧ k ≤ 1007) && (!decide (k = 1001) || decide (8 + (nativeFrameWords "java/lang/System" "arraycopy" 5 + 11) ≤ loN j))
    | none => true
  | _ => true
def dchk (j pc : Nat) (ins : Instr) : Bool := match decode (bytesN j) pc with
  | .ok (i, l) => decide (i = ins) && (Nat.beq (lenI ins) 0 || Nat.beq l (lenI ins))
  | .error _ => false
def cckR (j a : Nat) : Bool := match ch j t_code with
  | some k => match k[a]? with
    | some r => r.zipIdx.all (fun x => match x.1 with
      | some i => ichk j (16 * a + x.2) i && dchk j (16 * a + x.2) i
      | none => true)
    | none => true
  | none => true
def cckF (j n : Nat) : Nat → Bool
  | 0 => true
  | m + 1 => cckR j (n - (m + 1)) && cckF j n m

set_option maxRecDepth 100000 in
theorem cck_0 : ∀ a, a < 7 → cckR 0 a = true := by decide +kernel
set_option maxRecDepth 100000 in
theorem cck_1 : ∀ a, a < 3 → cckR 1 a = true := by decide +kernel
set_option maxRecDepth 100000 in
theorem cck_2 : ∀ a, a < 15 → cckR 2 a = true := by decide +kernel
set_option maxRecDepth 100000 in
theorem cck_3 : ∀ a, a < 2 → cckR 3 a = true := by decide +kernel
set_option maxRecDepth 100000 in
theorem cck_4 : ∀ a, a < 2 → cckR 4 a = true := by decide +kernel
set_option maxRecDepth 100000 in
theorem cck_5 : ∀ a, a < 5 → cckR 5 a = true := by decide +kernel
set_option maxRecDepth 100000 in
theorem cck_6 : ∀ a, a < 7 → cckR 6 a = true := by decide +kernel
set_option maxRecDepth 100000 in
theorem cck_7 : ∀ a, a < 7 → cckR 7 a = true := by decide +kernel
set_option maxRecDepth 100000 in
theorem cck_8 : ∀ a, a < 2 → cckR 8 a = true := by decide +kernel
set_option maxRecDepth 100000 in
theorem cck_9 : ∀ a, a < 2 → cckR 9 a = true := by decide +kernel
set_option maxRecDepth 100000 in
theorem cck_10 : ∀ a, a < 2 → cckR 10 a = true := by decide +kernel
set_option maxRecDepth 100000 in
theorem cck_11 : ∀ a, a < 2 → cckR 11 a = true := by decide +kernel
set_option maxRecDepth 100000 in
theorem cck_12 : ∀ a, a < 1 → cckR 12 a = true := by decide +kernel
set_option maxRecDepth 100000 in
theorem cck_13 : ∀ a, a < 5 → cckR 13 a = true := by decide +kernel
set_option maxRecDepth 100000 in
theorem cck_14 : ∀ a, a < 10 → cckR 14 a = true := by decide +kernel
set_option maxRecDepth 100000 in
theorem cck_15 : ∀ a, a < 4 → cckR 15 a = true := by decide +kernel
set_option maxRecDepth 100000 in
theorem cck_16 : ∀ a, a < 1 → cckR 16 a = true := by decide +kernel
set_option maxRecDepth 100000 in
theorem cck_17 : ∀ a, a < 4 → cckR 17 a = true := by decide +kernel
set_option maxRecDepth 100000 in
theorem cck_18 : ∀ a, a < 2 → cckR 18 a = true := by decide +kernel
set_option maxRecDepth 100000 in
theorem cck_19 : ∀ a, a < 5 → cckR 19 a = true := by decide +kernel
set_option maxRecDepth 100000 in
theorem cck_20 : ∀ a, a < 5 → cckR 20 a = true := by decide +kernel
set_option maxRecDepth 100000 in
theorem cck_21 : ∀ a, a < 6 → cckR 21 a = true := by decide +kernel
set_option maxRecDepth 100000 in
theorem cck_22 : ∀ a, a < 10 → cckR 22 a = true := by decide +kernel
set_option maxRecDepth 100000 in
theorem cck_23 : ∀ a, a < 2 → cckR 23 a = true := by decide +kernel
set_option maxRecDepth 100000 in
theorem cck_24 : ∀ a, a < 3 → cckR 24 a = true := by decide +kernel
set_option maxRecDepth 100000 in
theorem cck_25 : ∀ a, a < 4 → cckR 25 a = true := by decide +kernel
set_option maxRecDepth 100000 in
theorem cck_26 : ∀ a, a < 2 → cckR 26 a = true := by decide +kernel
set_option maxRecDepth 100000 in
theorem cck_27 : ∀ a, a < 2 → cckR 27 a = true := by decide +kernel
set_option maxRecDepth 100000 in
theorem cck_28 : ∀ a, a < 4 → cckR 28 a = true := by decide +kernel
set_option maxRecDepth 100000 in
theorem cck_29 : ∀ a, a < 1 → cckR 29 a = true := by decide +kernel
set_option maxRecDepth 100000 in
theorem cck_30 : ∀ a, a < 3 → cckR 30 a = true := by decide +kernel
set_option maxRecDepth 100000 in
theorem cck_31 : ∀ a, a < 4 → cckR 31 a = true := by decide +kernel
set_option maxRecDepth 100000 in
theorem cck_32 : ∀ a, a < 3 → cckR 32 a = true := by decide +kernel
set_option maxRecDepth 100000 in
theorem cck_33 : ∀ a, a < 13 → cckR 33 a = true := by decide +kernel
set_option maxRecDepth 100000 in
theorem cck_34 : ∀ a, a < 2 → cckR 34 a = true := by decide +kernel
set_option maxRecDepth 100000 in
theorem cck_35 : ∀ a, a < 9 → cckR 35 a = true := by decide +kernel
set_option maxRecDepth 100000 in
theorem cck_36 : ∀ a, a < 10 → cckR 36 a = true := by decide +kernel
set_option maxRecDepth 100000 in
theorem cck_37 : ∀ a, a < 7 → cckR 37 a = true := by decide +kernel
set_option maxRecDepth 100000 in
theorem cck_38 : ∀ a, a < 2 → cckR 38 a = true := by decide +kernel
set_option maxRecDepth 100000 in
theorem cck_39 : ∀ a, a < 10 → cckR 39 a = true := by decide +kernel
set_option maxRecDepth 100000 in
theorem cck_40 : ∀ a, a < 3 → cckR 40 a = true := by decide +kernel
set_option maxRecDepth 100000 in
theorem cck_41 : ∀ a, a < 2 → cckR 41 a = true := by decide +kernel
set_option maxRecDepth 100000 in
theorem cck_42 : ∀ a, a < 1 → cckR 42 a = true := by decide +kernel
set_option maxRecDepth 100000 in
theorem cck_43 : ∀ a, a < 7 → cckR 43 a = true := by decide +kernel
set_option maxRecDepth 100000 in
theorem cck_44 : ∀ a, a < 8 → cckR 44 a = true := by decide +kernel
set_option maxRecDepth 100000 in
theorem cck_45 : ∀ a, a < 7 → cckR 45 a = true := by decide +kernel
set_option maxRecDepth 100000 in
theorem cck_46 : ∀ a, a < 5 → cckR 46 a = true := by decide +kernel
set_option maxRecDepth 100000 in
theorem cck_47 : ∀ a, a < 3 → cckR 47 a = true := by decide +kernel
set_option maxRecDepth 100000 in
theorem cck_48 : ∀ a, a < 7 → cckR 48 a = true := by decide +kernel
set_option maxRecDepth 100000 in
theorem cck_49 : ∀ a, a < 3 → cckR 49 a = true := by decide +kernel
set_option maxRecDepth 100000 in
theorem cck_50 : ∀ a, a < 4 → cckR 50 a = true := by decide +kernel
set_option maxRecDepth 100000 in
theorem cck_51 : ∀ a, a < 3 → cckR 51 a = true := by decide +kernel
set_option maxRecDepth 100000 in
theorem cck_52 : ∀ a, a < 2 → cckR 52 a = true := by decide +kernel
set_option maxRecDepth 100000 in
theorem cck_53 : ∀ a, a < 6 → cckR 53 a = true := by decide +kernel
set_option maxRecDepth 100000 in
theorem cck_54 : ∀ a, a < 11 → cckR 54 a = true := by decide +kernel
set_option maxRecDepth 100000 in
theorem cck_55 : ∀ a, a < 8 → cckR 55 a = true := by decide +kernel
set_option maxRecDepth 100000 in
theorem cck_56 : ∀ a, a < 4 → cckR 56 a = true := by decide +kernel
set_option maxRecDepth 100000 in
theorem cck_57 : ∀ a, a < 6 → cckR 57 a = true := by decide +kernel
set_option maxRecDepth 100000 in
theorem cck_58 : ∀ a, a < 2 → cckR 58 a = true := by decide +kernel
set_option maxRecDepth 100000 in
theorem cck_59 : ∀ a, a < 2 → cckR 59 a = true := by decide +kernel
set_option maxRecDepth 100000 in
theorem cck_60 : ∀ a, a < 3 → cckR 60 a = true := by decide +kernel
set_option maxRecDepth 100000 in
theorem cck_61 : ∀ a, a < 4 → cckR 61 a = true := by decide +kernel
set_option maxRecDepth 100000 in
theorem cck_62 : ∀ a, a < 3 → cckR 62 a = true := by decide +kernel
set_option maxRecDepth 100000 in
theorem cck_63 : ∀ a, a < 8 → cckR 63 a = true := by decide +kernel
set_option maxRecDepth 100000 in
theorem cck_64 : ∀ a, a < 2 → cckR 64 a = true := by decide +kernel
set_option maxRecDepth 100000 in
theorem cck_65 : ∀ a, a < 2 → cckR 65 a = true := by decide +kernel
set_option maxRecDepth 100000 in
theorem cck_66 : ∀ a, a < 2 → cckR 66 a = true := by decide +kernel
set_option maxRecDepth 100000 in
theorem cck_67 : ∀ a, a < 8 → cckR 67 a = true := by decide +kernel
set_option maxRecDepth 100000 in
theorem cck_68 : ∀ a, a < 5 → cckR 68 a = true := by decide +kernel
set_option maxRecDepth 100000 in
theorem cck_69 : ∀ a, a < 10 → cckR 69 a = true := by decide +kernel
set_option maxRecDepth 100000 in
theorem cck_70 : ∀ a, a < 9 → cckR 70 a = true := by decide +kernel
set_option maxRecDepth 100000 in
theorem cck_71 : ∀ a, a < 1 → cckR 71 a = true := by decide +kernel
set_option maxRecDepth 100000 in
theorem cck_72 : ∀ a, a < 2 → cckR 72 a = true := by decide +kernel
set_option maxRecDepth 100000 in
theorem cck_73 : ∀ a, a < 2 → cckR 73 a = true := by decide +kernel
set_option maxRecDepth 100000 in
theorem cck_74 : ∀ a, a < 9 → cckR 74 a = true := by decide +kernel
set_option maxRecDepth 100000 in
theorem cck_75 : ∀ a, a < 4 → cckR 75 a = true := by decide +kernel
set_option maxRecDepth 100000 in
theorem cck_76 : ∀ a, a < 4 → cckR 76 a = true := by decide +kernel
set_option maxRecDepth 100000 in
theorem cck_77 : ∀ a, a < 8 → cckR 77 a = true := by decide +kernel
set_option maxRecDepth 100000 in
theorem cck_78 : ∀ a, a < 8 → cckR 78 a = true := by decide +kernel
set_option maxRecDepth 100000 in
theorem cck_79 : ∀ a, a < 5 → cckR 79 a = true := by decide +kernel
set_option maxRecDepth 100000 in
theorem cck_80 : ∀ a, a < 5 → cckR 80 a = true := by decide +kernel
set_option maxRecDepth 100000 in
theorem cck_81 : ∀ a, a < 7 → cckR 81 a = true := by decide +kernel
set_option maxRecDepth 100000 in
theorem cck_82 : ∀ a, a < 9 → cckR 82 a = true := by decide +kernel
set_option maxRecDepth 100000 in
theorem cck_83 : ∀ a, a < 2 → cckR 83 a = true := by decide +kernel
set_option maxRecDepth 100000 in
theorem cck_84 : ∀ a, a < 2 → cckR 84 a = true := by decide +kernel
set_option maxRecDepth 100000 in
theorem cck_85 : ∀ a, a < 2 → cckR 85 a = true := by decide +kernel
set_option maxRecDepth 100000 in
theorem cck_86 : ∀ a, a < 7 → cckR 86 a = true := by decide +kernel
set_option maxRecDepth 100000 in
theorem cck_87 : ∀ a, a < 1 → cckR 87 a = true := by decide +kernel
set_option maxRecDepth 100000 in
theorem cck_88 : ∀ a, a < 1 → cckR 88 a = true := by decide +kernel
set_option maxRecDepth 100000 in
theorem cck_89 : ∀ a, a < 3 → cckR 89 a = true := by decide +kernel
set_option maxRecDepth 100000 in
theorem cck_90 : ∀ a, a < 3 → cckR 90 a = true := by decide +kernel
set_option maxRecDepth 100000 in
theorem cck_91 : ∀ a, a < 2 → cckR 91 a = true := by decide +kernel
set_option maxRecDepth 100000 in
theorem cck_92 : ∀ a, a < 2 → cckR 92 a = true := by decide +kernel
set_option maxRecDepth 100000 in
theorem cck_93 : ∀ a, a < 2 → cckR 93 a = true := by decide +kernel
set_option maxRecDepth 100000 in
theorem cck_94 : ∀ a, a < 2 → cckR 94 a = true := by decide +kernel
set_option maxRecDepth 100000 in
theorem cck_95 : ∀ a, a < 2 → cckR 95 a = true := by decide +kernel
set_option maxRecDepth 100000 in
theorem cck_96 : ∀ a, a < 11 → cckR 96 a = true := by decide +kernel
set_option maxRecDepth 100000 in
theorem cck_97 : ∀ a, a < 3 → cckR 97 a = true := by decide +kernel
set_option maxRecDepth 100000 in
theorem cck_98 : ∀ a, a < 3 → cckR 98 a = true := by decide +kernel
set_option maxRecDepth 100000 in
theorem cck_99 : ∀ a, a < 7 → cckR 99 a = true := by decide +kernel
set_option maxRecDepth 100000 in
theorem cck_100 : ∀ a, a < 3 → cckR 100 a = true := by decide +kernel
set_option maxRecDepth 100000 in
theorem cck_101 : ∀ a, a < 6 → cckR 101 a = true := by decide +kernel
set_option maxRecDepth 100000 in
theorem cck_102 : ∀ a, a < 2 → cckR 102 a = true := by decide +kernel
set_option maxRecDepth 100000 in
theorem cck_103 : ∀ a, a < 2 → cckR 103 a = true := by decide +kernel
set_option maxRecDepth 100000 in
theorem cck_104 : ∀ a, a < 2 → cckR 104 a = true := by decide +kernel
set_option maxRecDepth 100000 in
theorem cck_105 : ∀ a, a < 2 → cckR 105 a = true := by decide +kernel
set_option maxRecDepth 100000 in
theorem cck_106 : ∀ a, a < 1 → cckR 106 a = true := by decide +kernel
set_option maxRecDepth 100000 in
theorem cck_107 : ∀ a, a < 8 → cckR 107 a = true := by decide +kernel
set_option maxRecDepth 100000 in
theorem cck_108 : ∀ a, a < 8 → cckR 108 a = true := by decide +kernel
set_option maxRecDepth 100000 in
theorem cck_109 : ∀ a, a < 4 → cckR 109 a = true := by decide +kernel
set_option maxRecDepth 100000 in
theorem cck_110 : ∀ a, a < 4 → cckR 110 a = true := by decide +kernel
set_option maxRecDepth 100000 in
theorem cck_111 : ∀ a, a < 2 → cckR 111 a = true := by decide +kernel
set_option maxRecDepth 100000 in
theorem cck_112 : ∀ a, a < 2 → cckR 112 a = true := by decide +kernel
set_option maxRecDepth 100000 in
theorem cck_113 : ∀ a, a < 9 → cckR 113 a = true := by decide +kernel
set_option maxRecDepth 100000 in
theorem cck_114 : ∀ a, a < 3 → cckR 114 a = true := by decide +kernel
set_option maxRecDepth 100000 in
theorem cck_115 : ∀ a, a < 4 → cckR 115 a = true := by decide +kernel
set_option maxRecDepth 100000 in
theorem cck_116 : ∀ a, a < 4 → cckR 116 a = true := by decide +kernel
set_option maxRecDepth 100000 in
theorem cck_117 : ∀ a, a < 5 → cckR 117 a = true := by decide +kernel
set_option maxRecDepth 100000 in
theorem cck_118 : ∀ a, a < 4 → cckR 118 a = true := by decide +kernel
set_option maxRecDepth 100000 in
theorem cck_119 : ∀ a, a < 2 → cckR 119 a = true := by decide +kernel
set_option maxRecDepth 100000 in
theorem cck_120 : ∀ a, a < 8 → cckR 120 a = true := by decide +kernel
set_option maxRecDepth 100000 in
theorem cck_121 : ∀ a, a < 2 → cckR 121 a = true := by decide +kernel
set_option maxRecDepth 100000 in
theorem cck_122 : ∀ a, a < 2 → cckR 122 a = true := by decide +kernel
set_option maxRecDepth 100000 in
theorem cck_123 : ∀ a, a < 10 → cckR 123 a = true := by decide +kernel
set_option maxRecDepth 100000 in
theorem cck_124 : ∀ a, a < 6 → cckR 124 a = true := by decide +kernel
set_option maxRecDepth 100000 in
theorem cck_125 : ∀ a, a < 5 → cckR 125 a = true := by decide +kernel
set_option maxRecDepth 100000 in
theorem cck_126 : ∀ a, a < 7 → cckR 126 a = true := by decide +kernel
set_option maxRecDepth 100000 in
theorem cck_127 : ∀ a, a < 7 → cckR 127 a = true := by decide +kernel
set_option maxRecDepth 100000 in
theorem cck_128 : ∀ a, a < 3 → cckR 128 a = true := by decide +kernel
set_option maxRecDepth 100000 in
theorem cck_129 : ∀ a, a < 3 → cckR 129 a = true := by decide +kernel
set_option maxRecDepth 100000 in
theorem cck_130 : ∀ a, a < 6 → cckR 130 a = true := by decide +kernel
set_option maxRecDepth 100000 in
theorem cck_131 : ∀ a, a < 6 → cckR 131 a = true := by decide +kernel
set_option maxRecDepth 100000 in
theorem cck_132 : ∀ a, a < 5 → cckR 132 a = true := by decide +kernel
set_option maxRecDepth 100000 in
theorem cck_133 : ∀ a, a < 7 → cckR 133 a = true := by decide +kernel
set_option maxRecDepth 100000 in
theorem cck_134 : ∀ a, a < 3 → cckR 134 a = true := by decide +kernel
set_option maxRecDepth 100000 in
theorem cck_135 : ∀ a, a < 2 → cckR 135 a = true := by decide +kernel
set_option maxRecDepth 100000 in
theorem cck_136 : ∀ a, a < 8 → cckR 136 a = true := by decide +kernel
set_option maxRecDepth 100000 in
theorem cck_137 : ∀ a, a < 4 → cckR 137 a = true := by decide +kernel
set_option maxRecDepth 100000 in
theorem cck_138 : ∀ a, a < 4 → cckR 138 a = true := by decide +kernel
set_option maxRecDepth 100000 in
theorem cck_139 : ∀ a, a < 5 → cckR 139 a = true := by decide +kernel
