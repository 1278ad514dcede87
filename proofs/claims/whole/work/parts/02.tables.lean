/-! THE PROGRAM AS DATA, by program out of the names that the kit prints: code by method number, pools by owner. -/
-- owners: 0 CushionCourt$Book, 1 CushionCourt$Dealing, 2 CushionCourt$Deeds, 3 CushionCourt$Findings, 4 CushionCourt$Laws, 5 CushionCourt$Mind, 6 CushionCourt$Reader, 7 CushionCourt$Term, 8 CushionCourt$World, 9 CushionCourt, 10 CushionCourtModel, 11 CushionCourtLaw, 12 java/lang/Integer
-- 0: CushionCourt$Book.<init>()V
def k_0 : List (List (Option Instr)) := [[some (.aload_n 0), some (.invokespecial 3), none, none, some (.aload_n 0), some (.iconst 1), some (.putfield 9), none, none, some (.aload_n 0), some (.iconst 5), some (.newarray .int), none, some (.putfield 15), none, none],
  [some (.aload_n 0), some (.iconst 5), some (.newarray .int), none, some (.putfield 19), none, none, some (.aload_n 0), some (.iconst 5), some (.newarray .int), none, some (.putfield 22), none, none, some (.aload_n 0), some (.bipush 10)],
  [none, some (.newarray .int), none, some (.putfield 25), none, none, some (.aload_n 0), some (.bipush 10), none, some (.newarray .int), none, some (.putfield 28), none, none, some (.aload_n 0), some (.bipush 10)],
  [none, some (.newarray .int), none, some (.putfield 31), none, none, some (.aload_n 0), some (.bipush 10), none, some (.newarray .int), none, some (.putfield 34), none, none, some (.aload_n 0), some (.iconst 5)],
  [some (.newarray .int), none, some (.putfield 37), none, none, some (.aload_n 0), some (.iconst 5), some (.newarray .int), none, some (.putfield 40), none, none, some (.aload_n 0), some (.iconst 5), some (.newarray .int), none],
  [some (.putfield 43), none, none, some (.aload_n 0), some (.bipush 8), none, some (.newarray .int), none, some (.putfield 46), none, none, some (.aload_n 0), some (.new 49), none, none, some .dup],
  [some (.invokespecial 51), none, none, some (.putfield 52), none, none, some .return_]]
-- 1: CushionCourt$Book.clear()V
def k_1 : List (List (Option Instr)) := [[some (.aload_n 0), some (.iconst 0), some (.putfield 56), none, none, some (.aload_n 0), some (.iconst 0), some (.putfield 59), none, none, some (.aload_n 0), some (.iconst 0), some (.putfield 62), none, none, some (.aload_n 0)],
  [some (.iconst 0), some (.putfield 65), none, none, some (.aload_n 0), some (.iconst 0), some (.putfield 68), none, none, some (.aload_n 0), some (.iconst 1), some (.putfield 9), none, none, some (.aload_n 0), some (.iconst 0)],
  [some (.putfield 71), none, none, some (.aload_n 0), some (.getfield 52), none, none, some (.invokevirtual 75), none, none, some .return_]]
-- 2: CushionCourt$Book.copyFrom(LCushionCourt$Book;)V
def k_2 : List (List (Option Instr)) := [[some (.aload_n 0), some (.aload_n 1), some (.getfield 56), none, none, some (.putfield 56), none, none, some (.aload_n 0), some (.aload_n 1), some (.getfield 59), none, none, some (.putfield 59), none, none],
  [some (.aload_n 0), some (.aload_n 1), some (.getfield 62), none, none, some (.putfield 62), none, none, some (.aload_n 0), some (.aload_n 1), some (.getfield 65), none, none, some (.putfield 65), none, none],
  [some (.aload_n 0), some (.aload_n 1), some (.getfield 68), none, none, some (.putfield 68), none, none, some (.aload_n 0), some (.aload_n 1), some (.getfield 9), none, none, some (.putfield 9), none, none],
  [some (.aload_n 0), some (.aload_n 1), some (.getfield 71), none, none, some (.putfield 71), none, none, some (.aload_n 1), some (.getfield 15), none, none, some (.iconst 0), some (.aload_n 0), some (.getfield 15), none],
  [none, some (.iconst 0), some (.iconst 5), some (.invokestatic 78), none, none, some (.aload_n 1), some (.getfield 19), none, none, some (.iconst 0), some (.aload_n 0), some (.getfield 19), none, none, some (.iconst 0)],
  [some (.iconst 5), some (.invokestatic 78), none, none, some (.aload_n 1), some (.getfield 22), none, none, some (.iconst 0), some (.aload_n 0), some (.getfield 22), none, none, some (.iconst 0), some (.iconst 5), some (.invokestatic 78)],
  [none, none, some (.aload_n 1), some (.getfield 25), none, none, some (.iconst 0), some (.aload_n 0), some (.getfield 25), none, none, some (.iconst 0), some (.bipush 10), none, some (.invokestatic 78), none],
  [none, some (.aload_n 1), some (.getfield 28), none, none, some (.iconst 0), some (.aload_n 0), some (.getfield 28), none, none, some (.iconst 0), some (.bipush 10), none, some (.invokestatic 78), none, none],
  [some (.aload_n 1), some (.getfield 31), none, none, some (.iconst 0), some (.aload_n 0), some (.getfield 31), none, none, some (.iconst 0), some (.bipush 10), none, some (.invokestatic 78), none, none, some (.aload_n 1)],
  [some (.getfield 34), none, none, some (.iconst 0), some (.aload_n 0), some (.getfield 34), none, none, some (.iconst 0), some (.bipush 10), none, some (.invokestatic 78), none, none, some (.aload_n 1), some (.getfield 37)],
  [none, none, some (.iconst 0), some (.aload_n 0), some (.getfield 37), none, none, some (.iconst 0), some (.iconst 5), some (.invokestatic 78), none, none, some (.aload_n 1), some (.getfield 40), none, none],
  [some (.iconst 0), some (.aload_n 0), some (.getfield 40), none, none, some (.iconst 0), some (.iconst 5), some (.invokestatic 78), none, none, some (.aload_n 1), some (.getfield 43), none, none, some (.iconst 0), some (.aload_n 0)],
  [some (.getfield 43), none, none, some (.iconst 0), some (.iconst 5), some (.invokestatic 78), none, none, some (.aload_n 1), some (.getfield 46), none, none, some (.iconst 0), some (.aload_n 0), some (.getfield 46), none],
  [none, some (.iconst 0), some (.bipush 8), none, some (.invokestatic 78), none, none, some (.aload_n 0), some (.getfield 52), none, none, some (.aload_n 1), some (.getfield 52), none, none, some (.invokevirtual 84)],
  [none, none, some .return_]]
-- 3: CushionCourt$Book.moistOn(I)I
def k_3 : List (List (Option Instr)) := [[some (.aload_n 0), some (.getfield 65), none, none, some (.ifCond .le 17), none, none, some (.aload_n 0), some (.getfield 46), none, none, some (.iload_n 1), some (.aload_n 0), some (.getfield 65), none, none],
  [some .irem, some .iaload, some (.goto 4), none, none, some (.iconst 0), some .ireturn]]
-- 4: CushionCourt$Dealing.<init>()V
def k_4 : List (List (Option Instr)) := [[some (.aload_n 0), some (.invokespecial 3), none, none, some (.aload_n 0), some (.bipush 6), none, some (.newarray .int), none, some (.putfield 9), none, none, some (.aload_n 0), some (.sipush 243), none, none],
  [some (.newarray .int), none, some (.putfield 15), none, none, some .return_]]
-- 5: CushionCourt$Dealing.gather(LCushionCourt$Book;LCushionCourt$World;)V
def k_5 : List (List (Option Instr)) := [[some (.aload_n 0), some (.iconst 0), some (.putfield 18), none, none, some (.iconst 0), some (.istore_n 3), some (.iload_n 3), some (.aload_n 1), some (.getfield 22), none, none, some (.if_icmp .ge 53), none, none, some (.aload_n 0)],
  [some (.getfield 18), none, none, some (.bipush 6), none, some (.if_icmp .ge 44), none, none, some (.aload_n 2), some (.getfield 25), none, none, some (.iload_n 3), some .iaload, some (.iconst (-1)), some (.if_icmp .ne 28)],
  [none, none, some (.aload_n 0), some (.getfield 9), none, none, some (.aload_n 0), some (.getfield 18), none, none, some (.aload_n 1), some (.getfield 30), none, none, some (.iload_n 3), some .iaload],
  [some .iastore, some (.aload_n 0), some .dup, some (.getfield 18), none, none, some (.iconst 1), some .iadd, some (.putfield 18), none, none, some (.iinc 3 1), none, none, some (.goto (-55)), none],
  [none, some .return_]]
-- 6: CushionCourt$Dealing.weigh(LCushionCourt$Book;)V
def k_6 : List (List (Option Instr)) := [[some (.getstatic 31), none, none, some (.aload_n 1), some (.getfield 34), none, none, some .iaload, some (.iconst 1), some .isub, some (.istore_n 2), some (.iload_n 2), some (.ifCond .lt 92), none, none, some (.iload_n 2)],
  [some (.aload_n 1), some (.getfield 34), none, none, some (.invokestatic 37), none, none, some (.istore_n 3), some (.aload_n 0), some (.getfield 15), none, none, some (.iload_n 2), some (.iconst 0), some .iastore, some (.iload_n 3)],
  [some (.aload_n 0), some (.getfield 18), none, none, some (.if_icmp .ge 62), none, none, some (.aload_n 0), some (.getfield 15), none, none, some (.iload_n 2), some (.ldc 43), none, some .iastore, some (.iconst 0)],
  [some (.istore 4), none, some (.iload 4), none, some (.aload_n 1), some (.getfield 34), none, none, some (.if_icmp .ge 42), none, none, some (.iload_n 2), some (.iload 4), none, some (.invokestatic 44), none],
  [none, some (.ifCond .eq 27), none, none, some (.aload_n 0), some (.getfield 15), none, none, some (.iload_n 2), some (.aload_n 0), some (.getfield 15), none, none, some (.iload_n 2), some .iaload, some (.aload_n 0)],
  [some (.aload_n 1), some (.iload_n 2), some (.iload_n 3), some (.iload 4), none, some (.invokevirtual 48), none, none, some (.invokestatic 52), none, none, some .iastore, some (.iinc 4 1), none, none, some (.goto (-45))],
  [none, none, some (.iinc 2 (-1)), none, none, some (.goto (-90)), none, none, some .return_]]
-- 7: CushionCourt$Dealing.judgeOf(LCushionCourt$Book;I)I
def k_7 : List (List (Option Instr)) := [[some (.iconst 0), some (.istore_n 3), some (.iconst (-1)), some (.istore 4), none, some (.iconst 0), some (.istore 5), none, some (.iload 5), none, some (.iload_n 2), some (.if_icmp .gt 87), none, none, some (.iconst (-1)), some (.istore 4)],
  [none, some (.iconst 0), some (.istore 6), none, some (.iload 6), none, some (.aload_n 1), some (.getfield 34), none, none, some (.if_icmp .ge 47), none, none, some (.iload 4), none, some (.iconst (-1))],
  [some (.if_icmp .ne 41), none, none, some (.iload_n 3), some (.iload 6), none, some (.invokestatic 44), none, none, some (.ifCond .eq 26), none, none, some (.aload_n 0), some (.aload_n 1), some (.iload_n 3), some (.iload 5)],
  [none, some (.iload 6), none, some (.invokevirtual 48), none, none, some (.aload_n 0), some (.getfield 15), none, none, some (.iload_n 3), some .iaload, some (.if_icmp .ne 7), none, none, some (.iload 6)],
  [none, some (.istore 4), none, some (.iinc 6 1), none, none, some (.goto (-50)), none, none, some (.iload_n 3), some (.iload 4), none, some (.iconst (-1)), some (.if_icmp .ne 7), none, none],
  [some (.iconst 0), some (.goto 9), none, none, some (.getstatic 31), none, none, some (.iload 4), none, some .iaload, some .iadd, some (.istore_n 3), some (.iinc 5 1), none, none, some (.goto (-87))],
  [none, none, some (.iload 4), none, some .ireturn]]
-- 8: CushionCourt$Dealing.sumWith(LCushionCourt$Book;III)I
def k_8 : List (List (Option Instr)) := [[some (.aload_n 0), some (.getfield 9), none, none, some (.iload_n 3), some .iaload, some (.aload_n 1), some (.getfield 57), none, none, some (.iload 4), none, some .iaload, some .isub, some (.invokestatic 60), none],
  [none, some (.aload_n 0), some (.getfield 15), none, none, some (.iload_n 2), some (.getstatic 31), none, none, some (.iload 4), none, some .iaload, some .iadd, some .iaload, some .iadd, some .ireturn]]
-- 9: CushionCourt$Dealing.hasRoom(II)Z
def k_9 : List (List (Option Instr)) := [[some (.iload_n 0), some (.getstatic 31), none, none, some (.iload_n 1), some .iaload, some .idiv, some (.iconst 3), some .irem, some (.iconst 2), some (.if_icmp .ge 7), none, none, some (.iconst 1), some (.goto 4), none],
  [none, some (.iconst 0), some .ireturn]]
-- 10: CushionCourt$Dealing.dealtIn(II)I
def k_10 : List (List (Option Instr)) := [[some (.iconst 0), some (.istore_n 2), some (.iconst 0), some (.istore_n 3), some (.iload_n 3), some (.iload_n 1), some (.if_icmp .ge 21), none, none, some (.iload_n 2), some (.iload_n 0), some (.getstatic 31), none, none, some (.iload_n 3), some .iaload],
  [some .idiv, some (.iconst 3), some .irem, some .iadd, some (.istore_n 2), some (.iinc 3 1), none, none, some (.goto (-20)), none, none, some (.iload_n 2), some .ireturn]]
-- 11: CushionCourt$Deeds.<init>()V
def k_11 : List (List (Option Instr)) := [[some (.aload_n 0), some (.invokespecial 3), none, none, some (.aload_n 0), some (.bipush 20), none, some (.newarray .int), none, some (.putfield 9), none, none, some (.aload_n 0), some (.bipush 20), none, some (.newarray .int)],
  [none, some (.putfield 15), none, none, some (.aload_n 0), some (.bipush 20), none, some (.newarray .int), none, some (.putfield 18), none, none, some .return_]]
-- 12: CushionCourt$Deeds.clear()V
def k_12 : List (List (Option Instr)) := [[some (.aload_n 0), some (.iconst 0), some (.putfield 21), none, none, some (.aload_n 0), some (.iconst 0), some (.putfield 25), none, none, some .return_]]
-- 13: CushionCourt$Deeds.note(III)V
def k_13 : List (List (Option Instr)) := [[some (.aload_n 0), some (.getfield 21), none, none, some (.aload_n 0), some (.getfield 25), none, none, some .iadd, some (.bipush 20), none, some .irem, some (.istore 4), none, some (.aload_n 0), some (.getfield 9)],
  [none, none, some (.iload 4), none, some (.iload_n 1), some .iastore, some (.aload_n 0), some (.getfield 15), none, none, some (.iload 4), none, some (.iload_n 2), some .iastore, some (.aload_n 0), some (.getfield 18)],
  [none, none, some (.iload 4), none, some (.iload_n 3), some .iastore, some (.aload_n 0), some (.getfield 25), none, none, some (.bipush 20), none, some (.if_icmp .ge 16), none, none, some (.aload_n 0)],
  [some .dup, some (.getfield 25), none, none, some (.iconst 1), some .iadd, some (.putfield 25), none, none, some (.goto 16), none, none, some (.aload_n 0), some (.aload_n 0), some (.getfield 21), none],
  [none, some (.iconst 1), some .iadd, some (.bipush 20), none, some .irem, some (.putfield 21), none, none, some .return_]]
-- 14: CushionCourt$Deeds.takeBack(LCushionCourt$World;)V
def k_14 : List (List (Option Instr)) := [[some (.aload_n 0), some (.getfield 25), none, none, some (.ifCond .ne 4), none, none, some .return_, some (.aload_n 0), some .dup, some (.getfield 25), none, none, some (.iconst 1), some .isub, some (.putfield 25)],
  [none, none, some (.aload_n 0), some (.getfield 21), none, none, some (.aload_n 0), some (.getfield 25), none, none, some .iadd, some (.bipush 20), none, some .irem, some (.istore_n 2), some (.aload_n 0)],
  [some (.getfield 9), none, none, some (.iload_n 2), some .iaload, some (.tableswitch 96 0 2 #[27, 46, 77]), none, none, none, none, none, none, none, none, none, none],
  [none, none, none, none, none, none, none, none, none, none, none, none, none, none, none, none],
  [some (.aload_n 1), some (.aload_n 0), some (.getfield 15), none, none, some (.iload_n 2), some .iaload, some (.aload_n 0), some (.getfield 18), none, none, some (.iload_n 2), some .iaload, some (.invokevirtual 28), none, none],
  [some (.goto 70), none, none, some (.aload_n 1), some (.aload_n 0), some (.getfield 15), none, none, some (.iload_n 2), some .iaload, some (.aload_n 1), some (.aload_n 0), some (.getfield 15), none, none, some (.iload_n 2)],
  [some .iaload, some (.invokevirtual 34), none, none, some (.ifCond .ne 7), none, none, some (.iconst 1), some (.goto 4), none, none, some (.iconst 0), some (.invokevirtual 38), none, none, some (.goto 39)],
  [none, none, some (.aload_n 1), some (.aload_n 0), some (.getfield 15), none, none, some (.iload_n 2), some .iaload, some (.aload_n 0), some (.getfield 18), none, none, some (.iload_n 2), some .iaload, some (.invokevirtual 42)],
  [none, none, some (.goto 20), none, none, some (.aload_n 1), some (.getfield 45), none, none, some (.aload_n 0), some (.getfield 15), none, none, some (.iload_n 2), some .iaload, some (.aload_n 0)],
  [some (.getfield 18), none, none, some (.iload_n 2), some .iaload, some .iastore, some .return_]]
-- 15: CushionCourt$Findings.<init>()V
def k_15 : List (List (Option Instr)) := [[some (.aload_n 0), some (.invokespecial 3), none, none, some (.aload_n 0), some (.bipush 24), none, some (.newarray .int), none, some (.putfield 9), none, none, some (.aload_n 0), some (.bipush 24), none, some (.newarray .int)],
  [none, some (.putfield 15), none, none, some (.aload_n 0), some (.bipush 24), none, some (.newarray .int), none, some (.putfield 18), none, none, some (.aload_n 0), some (.bipush 24), none, some (.newarray .boolean)],
  [none, some (.putfield 21), none, none, some (.aload_n 0), some (.iconst 5), some (.newarray .int), none, some (.putfield 25), none, none, some (.aload_n 0), some (.bipush 32), none, some (.newarray .int), none],
  [some (.putfield 28), none, none, some (.aload_n 0), some (.iconst (-1)), some (.putfield 31), none, none, some .return_]]
-- 16: CushionCourt$Findings.clear()V
def k_16 : List (List (Option Instr)) := [[some (.aload_n 0), some (.iconst 0), some (.putfield 35), none, none, some (.aload_n 0), some (.iconst (-1)), some (.putfield 31), none, none, some .return_]]
-- 17: CushionCourt$Findings.add(III)I
def k_17 : List (List (Option Instr)) := [[some (.aload_n 0), some (.getfield 35), none, none, some (.bipush 24), none, some (.if_icmp .lt 5), none, none, some (.iconst (-1)), some .ireturn, some (.aload_n 0), some (.getfield 9), none, none, some (.aload_n 0)],
  [some (.getfield 35), none, none, some (.iload_n 1), some .iastore, some (.aload_n 0), some (.getfield 15), none, none, some (.aload_n 0), some (.getfield 35), none, none, some (.iload_n 2), some .iastore, some (.aload_n 0)],
  [some (.getfield 18), none, none, some (.aload_n 0), some (.getfield 35), none, none, some (.iload_n 3), some .iastore, some (.aload_n 0), some .dup, some (.getfield 35), none, none, some (.iconst 1), some .iadd],
  [some (.putfield 35), none, none, some (.aload_n 0), some (.getfield 35), none, none, some (.iconst 1), some .isub, some .ireturn]]
-- 18: CushionCourt$Findings.first()I
def k_18 : List (List (Option Instr)) := [[some (.aload_n 0), some (.getfield 31), none, none, some (.iconst (-1)), some (.if_icmp .ne 10), none, none, some (.aload_n 0), some (.getfield 35), none, none, some (.goto 7), none, none, some (.aload_n 0)],
  [some (.getfield 31), none, none, some .ireturn]]
-- 19: CushionCourt$Findings.match(LCushionCourt$Book;LCushionCourt$World;)V
def k_19 : List (List (Option Instr)) := [[some (.aload_n 0), some (.invokevirtual 38), none, none, some (.iconst 0), some (.istore_n 3), some (.iload_n 3), some (.aload_n 1), some (.getfield 41), none, none, some (.if_icmp .ge 63), none, none, some (.aload_n 0), some (.getfield 25)],
  [none, none, some (.iload_n 3), some (.iconst 0), some .iastore, some (.iconst 0), some (.istore 4), none, some (.iload 4), none, some (.aload_n 1), some (.getfield 41), none, none, some (.if_icmp .ge 38), none],
  [none, some (.aload_n 0), some (.aload_n 2), some (.iload_n 3), some (.aload_n 2), some (.getfield 46), none, none, some (.iload 4), none, some .iaload, some (.invokevirtual 51), none, none, some (.ifCond .eq 16), none],
  [none, some (.aload_n 0), some (.getfield 25), none, none, some (.iload_n 3), some .dup2, some .iaload, some (.iconst 1), some (.iload 4), none, some .ishl, some .ior, some .iastore, some (.iinc 4 1), none],
  [none, some (.goto (-41)), none, none, some (.iinc 3 1), none, none, some (.goto (-65)), none, none, some .return_]]
-- 20: CushionCourt$Findings.settleStrikes()V
def k_20 : List (List (Option Instr)) := [[some (.iconst 0), some (.istore_n 1), some (.iload_n 1), some (.bipush 24), none, some (.if_icmp .ge 16), none, none, some (.aload_n 0), some (.getfield 21), none, none, some (.iload_n 1), some (.iconst 0), some .bastore, some (.iinc 1 1)],
  [none, none, some (.goto (-16)), none, none, some (.aload_n 0), some (.invokevirtual 55), none, none, some (.iconst 1), some .isub, some (.istore_n 1), some (.iload_n 1), some (.ifCond .lt 40), none, none],
  [some (.aload_n 0), some (.getfield 18), none, none, some (.iload_n 1), some .iaload, some (.iconst 2), some (.if_icmp .ne 24), none, none, some (.aload_n 0), some (.getfield 21), none, none, some (.iload_n 1), some .baload],
  [some (.ifCond .ne 15), none, none, some (.aload_n 0), some (.getfield 21), none, none, some (.aload_n 0), some (.getfield 9), none, none, some (.iload_n 1), some .iaload, some (.iconst 1), some .bastore, some (.iinc 1 (-1))],
  [none, none, some (.goto (-38)), none, none, some .return_]]
-- 21: CushionCourt$Findings.fits(LCushionCourt$World;II)Z
def k_21 : List (List (Option Instr)) := [[some (.aload_n 0), some (.invokevirtual 55), none, none, some (.istore 4), none, some (.iconst 0), some (.istore 5), none, some (.iload 5), none, some (.iload 4), none, some (.if_icmp .ge 74), none, none],
  [some (.aload_n 0), some (.getfield 18), none, none, some (.iload 5), none, some .iaload, some (.iconst 2), some (.if_icmp .eq 57), none, none, some (.aload_n 0), some (.getfield 21), none, none, some (.iload 5)],
  [none, some .baload, some (.ifCond .ne 47), none, none, some (.aload_n 0), some (.getfield 15), none, none, some (.iload 5), none, some .iaload, some (.iload_n 2), some (.if_icmp .ne 36), none, none],
  [some (.aload_n 1), some (.iload_n 3), some (.aload_n 0), some (.getfield 9), none, none, some (.iload 5), none, some .iaload, some (.invokevirtual 59), none, none, some (.aload_n 0), some (.getfield 18), none, none],
  [some (.iload 5), none, some .iaload, some (.iconst 1), some (.if_icmp .ne 7), none, none, some (.iconst 1), some (.goto 4), none, none, some (.iconst 0), some (.if_icmp .eq 5), none, none, some (.iconst 0)],
  [some .ireturn, some (.iinc 5 1), none, none, some (.goto (-75)), none, none, some (.iconst 1), some .ireturn]]
-- 22: CushionCourt$Findings.waysWith(III)I
def k_22 : List (List (Option Instr)) := [[some (.iconst 1), some (.iload_n 1), some .ishl, some (.iconst 1), some .isub, some (.istore 4), none, some (.iconst 0), some (.istore 5), none, some (.iload 5), none, some (.iload 4), none, some (.if_icmp .gt 17), none],
  [none, some (.aload_n 0), some (.getfield 28), none, none, some (.iload 5), none, some (.iconst 0), some .iastore, some (.iinc 5 1), none, none, some (.goto (-18)), none, none, some (.aload_n 0)],
  [some (.getfield 28), none, none, some (.iconst 0), some (.iconst 1), some .iastore, some (.iconst 0), some (.istore 5), none, some (.iload 5), none, some (.iload 4), none, some (.if_icmp .ge 92), none, none],
  [some (.iload 5), none, some (.invokestatic 63), none, none, some (.istore 6), none, some (.aload_n 0), some (.getfield 25), none, none, some (.iload 6), none, some .iaload, some (.iload 5), none],
  [some (.iconst (-1)), some .ixor, some .iand, some (.iload 6), none, some (.iload_n 2), some (.if_icmp .ne 9), none, none, some (.iconst 1), some (.iload_n 3), some .ishl, some (.goto 5), none, none, some (.iload 4)],
  [none, some .iand, some (.istore 7), none, some (.iconst 0), some (.istore 8), none, some (.iload 8), none, some (.iload_n 1), some (.if_icmp .ge 41), none, none, some (.iload 7), none, some (.iload 8)],
  [none, some .ishr, some (.iconst 1), some .iand, some (.ifCond .eq 25), none, none, some (.aload_n 0), some (.getfield 28), none, none, some (.iload 5), none, some (.iconst 1), some (.iload 8), none],
  [some .ishl, some .ior, some .dup2, some .iaload, some (.aload_n 0), some (.getfield 28), none, none, some (.iload 5), none, some .iaload, some .iadd, some .iastore, some (.iinc 8 1), none, none],
  [some (.goto (-41)), none, none, some (.iinc 5 1), none, none, some (.goto (-93)), none, none, some (.aload_n 0), some (.getfield 28), none, none, some (.iload 4), none, some .iaload],
  [some .ireturn]]
-- 23: CushionCourt$Laws.<init>()V
def k_23 : List (List (Option Instr)) := [[some (.aload_n 0), some (.invokespecial 3), none, none, some (.aload_n 0), some (.bipush 64), none, some (.newarray .int), none, some (.putfield 9), none, none, some (.aload_n 0), some (.iconst 3), some (.newarray .int), none],
  [some (.putfield 15), none, none, some (.aload_n 0), some (.iconst 3), some (.newarray .int), none, some (.putfield 18), none, none, some .return_]]
-- 24: CushionCourt$Laws.clear()V
def k_24 : List (List (Option Instr)) := [[some (.aload_n 0), some (.iconst 0), some (.putfield 21), none, none, some (.iconst 0), some (.istore_n 1), some (.iload_n 1), some (.iconst 3), some (.if_icmp .ge 23), none, none, some (.aload_n 0), some (.getfield 15), none, none],
  [some (.iload_n 1), some (.iconst 0), some .iastore, some (.aload_n 0), some (.getfield 18), none, none, some (.iload_n 1), some (.iconst 0), some .iastore, some (.iinc 1 1), none, none, some (.goto (-22)), none, none],
  [some .return_]]
-- 25: CushionCourt$Laws.copyFrom(LCushionCourt$Laws;)V
def k_25 : List (List (Option Instr)) := [[some (.aload_n 0), some (.aload_n 1), some (.getfield 21), none, none, some (.putfield 21), none, none, some (.aload_n 1), some (.getfield 9), none, none, some (.iconst 0), some (.aload_n 0), some (.getfield 9), none],
  [none, some (.iconst 0), some (.bipush 64), none, some (.invokestatic 25), none, none, some (.aload_n 1), some (.getfield 15), none, none, some (.iconst 0), some (.aload_n 0), some (.getfield 15), none, none],
  [some (.iconst 0), some (.iconst 3), some (.invokestatic 25), none, none, some (.aload_n 1), some (.getfield 18), none, none, some (.iconst 0), some (.aload_n 0), some (.getfield 18), none, none, some (.iconst 0), some (.iconst 3)],
  [some (.invokestatic 25), none, none, some .return_]]
-- 26: CushionCourt$Laws.isTold(I)Z
def k_26 : List (List (Option Instr)) := [[some (.aload_n 0), some (.getfield 18), none, none, some (.iload_n 1), some .iaload, some (.aload_n 0), some (.getfield 15), none, none, some (.iload_n 1), some .iaload, some (.if_icmp .le 7), none, none, some (.iconst 1)],
  [some (.goto 4), none, none, some (.iconst 0), some .ireturn]]
-- 27: CushionCourt$Mind.<init>()V
def k_27 : List (List (Option Instr)) := [[some (.aload_n 0), some (.invokespecial 3), none, none, some (.aload_n 0), some (.bipush 7), none, some (.newarray .int), none, some (.putfield 11), none, none, some (.aload_n 0), some (.bipush 64), none, some (.newarray .long)],
  [none, some (.putfield 15), none, none, some .return_]]
-- 28: CushionCourt$Mind.see(IIIIII)V
def k_28 : List (List (Option Instr)) := [[some (.aload_n 0), some (.getfield 11), none, none, some (.iconst 0), some (.iload_n 1), some .iastore, some (.aload_n 0), some (.getfield 11), none, none, some (.iconst 1), some (.iload_n 2), some .iastore, some (.aload_n 0), some (.getfield 11)],
  [none, none, some (.iconst 2), some (.iload_n 3), some .iastore, some (.aload_n 0), some (.getfield 11), none, none, some (.iconst 3), some (.iload 4), none, some .iastore, some (.aload_n 0), some (.getfield 11), none],
  [none, some (.iconst 4), some (.iload 5), none, some .iastore, some (.aload_n 0), some (.getfield 11), none, none, some (.iconst 5), some (.iload_n 3), some (.iload_n 1), some .isub, some (.invokestatic 19), none, none],
  [some .iastore, some (.aload_n 0), some (.getfield 11), none, none, some (.bipush 6), none, some (.iload 6), none, some .iastore, some .return_]]
-- 29: CushionCourt$Mind.seeNoCase()V
def k_29 : List (List (Option Instr)) := [[some (.aload_n 0), some (.getfield 11), none, none, some (.iconst 5), some (.iconst 0), some .iastore, some .return_]]
-- 30: CushionCourt$Mind.thinksGuilty(LCushionCourt$Laws;)Z
def k_30 : List (List (Option Instr)) := [[some (.aload_n 0), some (.aload_n 1), some (.iconst 0), some (.invokevirtual 25), none, none, some (.ifCond .eq 20), none, none, some (.aload_n 0), some (.getfield 29), none, none, some (.lconst 0), some .lcmp, some (.ifCond .eq 7)],
  [none, none, some (.iconst 1), some (.goto 27), none, none, some (.iconst 0), some (.goto 23), none, none, some (.aload_n 0), some (.getfield 11), none, none, some (.iconst 2), some .iaload],
  [some (.aload_n 0), some (.getfield 11), none, none, some (.iconst 0), some .iaload, some (.if_icmp .le 7), none, none, some (.iconst 1), some (.goto 4), none, none, some (.iconst 0), some .ireturn]]
-- 31: CushionCourt$Mind.saysGuilty(LCushionCourt$Laws;Z)Z
def k_31 : List (List (Option Instr)) := [[some (.aload_n 0), some (.aload_n 1), some (.iconst 1), some (.invokevirtual 25), none, none, some (.ifCond .eq 18), none, none, some (.aload_n 0), some (.getfield 29), none, none, some (.lconst 0), some .lcmp, some (.ifCond .eq 7)],
  [none, none, some (.iconst 1), some (.goto 4), none, none, some (.iconst 0), some .ireturn, some (.iload_n 2), some (.ifCond .ne 24), none, none, some (.aload_n 0), some (.getfield 11), none, none],
  [some (.iconst 1), some .iaload, some (.iconst 5), some (.if_icmp .lt 18), none, none, some (.aload_n 0), some (.getfield 11), none, none, some (.iconst 5), some .iaload, some (.bipush 10), none, some (.if_icmp .ge 7), none],
  [none, some (.iconst 1), some (.goto 4), none, none, some (.iconst 0), some .ireturn]]
-- 32: CushionCourt$Mind.feathersOut(LCushionCourt$Laws;I)I
def k_32 : List (List (Option Instr)) := [[some (.aload_n 0), some (.aload_n 1), some (.iconst 2), some (.invokevirtual 25), none, none, some (.ifCond .eq 10), none, none, some (.aload_n 0), some (.getfield 29), none, none, some (.goto 14), none, none],
  [some (.iload_n 2), some (.aload_n 0), some (.getfield 11), none, none, some (.iconst 4), some .iaload, some (.iconst 3), some .idiv, some .iadd, some .i2l, some (.lstore_n 3), some (.lconst 0), some (.lload_n 3), some (.ldc2_w 33), none],
  [none, some (.invokestatic 35), none, none, some (.invokestatic 39), none, none, some .l2i, some .ireturn]]
-- 33: CushionCourt$Mind.works(LCushionCourt$Laws;I)Z
def k_33 : List (List (Option Instr)) := [[some (.iconst 0), some (.istore_n 3), some (.aload_n 1), some (.getfield 42), none, none, some (.iload_n 2), some .iaload, some (.istore 4), none, some (.aload_n 1), some (.getfield 47), none, none, some (.iload_n 2), some .iaload],
  [some (.istore 5), none, some (.iload 5), none, some (.iload 4), none, some (.if_icmp .ge 155), none, none, some (.iload 5), none, some (.bipush 64), none, some (.if_icmp .ge 148), none, none],
  [some (.aload_n 1), some (.getfield 50), none, none, some (.iload 5), none, some .iaload, some (.istore 6), none, some (.iload 6), none, some (.bipush (-7)), none, some (.if_icmp .lt 36), none, none],
  [some (.aload_n 0), some (.getfield 15), none, none, some (.iload_n 3), some (.iload 6), none, some (.ifCond .lt 9), none, none, some (.iload 6), none, some .i2l, some (.goto 13), none, none],
  [some (.aload_n 0), some (.getfield 11), none, none, some (.iconst (-1)), some (.iload 6), none, some .isub, some .iaload, some .i2l, some .lastore, some (.iinc 3 1), none, none, some (.goto 93), none],
  [none, some (.iload 6), none, some (.bipush (-10)), none, some (.if_icmp .ne 39), none, none, some (.iload_n 3), some (.iconst 1), some (.if_icmp .ge 5), none, none, some (.iconst 0), some .ireturn, some (.aload_n 0)],
  [some (.getfield 15), none, none, some (.iload_n 3), some (.iconst 1), some .isub, some (.aload_n 0), some (.getfield 15), none, none, some (.iload_n 3), some (.iconst 1), some .isub, some .laload, some (.lconst 0), some .lcmp],
  [some (.ifCond .ne 7), none, none, some (.lconst 1), some (.goto 4), none, none, some (.lconst 0), some .lastore, some (.goto 50), none, none, some (.iload_n 3), some (.iconst 2), some (.if_icmp .lt 28), none],
  [none, some (.aload_n 0), some (.iload 6), none, some (.aload_n 0), some (.getfield 15), none, none, some (.iload_n 3), some (.iconst 2), some .isub, some .laload, some (.aload_n 0), some (.getfield 15), none, none],
  [some (.iload_n 3), some (.iconst 1), some .isub, some .laload, some (.invokevirtual 53), none, none, some (.ifCond .ne 5), none, none, some (.iconst 0), some .ireturn, some (.iinc 3 (-1)), none, none, some (.aload_n 0)],
  [some (.getfield 15), none, none, some (.iload_n 3), some (.iconst 1), some .isub, some (.aload_n 0), some (.getfield 57), none, none, some .lastore, some (.iinc 5 1), none, none, some (.goto (-156)), none],
  [none, some (.aload_n 0), some (.aload_n 0), some (.getfield 15), none, none, some (.iconst 0), some .laload, some (.putfield 29), none, none, some (.iload_n 3), some (.iconst 1), some (.if_icmp .ne 7), none, none],
  [some (.iconst 1), some (.goto 4), none, none, some (.iconst 0), some .ireturn]]
-- 34: CushionCourt$Mind.isInReach(J)Z
def k_34 : List (List (Option Instr)) := [[some (.lload_n 0), some (.ldc2_w 60), none, none, some .lcmp, some (.ifCond .gt 15), none, none, some (.lload_n 0), some (.ldc2_w 62), none, none, some .lcmp, some (.ifCond .lt 7), none, none],
  [some (.iconst 1), some (.goto 4), none, none, some (.iconst 0), some .ireturn]]
-- 35: CushionCourt$Mind.joins(IJJ)Z
def k_35 : List (List (Option Instr)) := [[some (.iload_n 1), some (.tableswitch 118 (-20) (-17) #[99, 63, 47, 31]), none, none, none, none, none, none, none, none, none, none, none, none, none, none],
  [none, none, none, none, none, none, none, none, none, none, none, none, none, none, none, none],
  [some (.aload_n 0), some (.lload_n 2), some (.lload 4), none, some .ladd, some (.putfield 57), none, none, some (.aload_n 0), some (.getfield 57), none, none, some (.invokestatic 64), none, none, some .ireturn],
  [some (.aload_n 0), some (.lload_n 2), some (.lload 4), none, some .lsub, some (.putfield 57), none, none, some (.aload_n 0), some (.getfield 57), none, none, some (.invokestatic 64), none, none, some .ireturn],
  [some (.lload 4), none, some (.lconst 0), some .lcmp, some (.ifCond .eq 22), none, none, some (.lload_n 2), some (.invokestatic 68), none, none, some (.ldc2_w 60), none, none, some (.lload 4), none],
  [some (.invokestatic 68), none, none, some .ldiv, some .lcmp, some (.ifCond .le 5), none, none, some (.iconst 0), some .ireturn, some (.aload_n 0), some (.lload_n 2), some (.lload 4), none, some .lmul, some (.putfield 57)],
  [none, none, some (.iconst 1), some .ireturn, some (.lload 4), none, some (.lconst 0), some .lcmp, some (.ifCond .ne 5), none, none, some (.iconst 0), some .ireturn, some (.aload_n 0), some (.lload_n 2), some (.lload 4)],
  [none, some .ldiv, some (.putfield 57), none, none, some (.iconst 1), some .ireturn, some (.aload_n 0), some (.iload_n 1), some (.lload_n 2), some (.lload 4), none, some (.invokestatic 71), none, none, some (.ifCond .eq 7)],
  [none, none, some (.lconst 1), some (.goto 4), none, none, some (.lconst 0), some (.putfield 57), none, none, some (.iconst 1), some .ireturn]]
-- 36: CushionCourt$Mind.isSo(IJJ)Z
def k_36 : List (List (Option Instr)) := [[some (.iload_n 0), some (.tableswitch 143 (-15) (-8) #[131, 119, 107, 95, 83, 143, 65, 47]), none, none, none, none, none, none, none, none, none, none, none, none, none, none],
  [none, none, none, none, none, none, none, none, none, none, none, none, none, none, none, none],
  [none, none, none, none, none, none, none, none, none, none, none, none, none, none, none, none],
  [some (.lload_n 1), some (.lconst 0), some .lcmp, some (.ifCond .ne 9), none, none, some (.lload_n 3), some (.lconst 0), some .lcmp, some (.ifCond .eq 7), none, none, some (.iconst 1), some (.goto 4), none, none],
  [some (.iconst 0), some .ireturn, some (.lload_n 1), some (.lconst 0), some .lcmp, some (.ifCond .eq 13), none, none, some (.lload_n 3), some (.lconst 0), some .lcmp, some (.ifCond .eq 7), none, none, some (.iconst 1), some (.goto 4)],
  [none, none, some (.iconst 0), some .ireturn, some (.lload_n 1), some (.lload_n 3), some .lcmp, some (.ifCond .ge 7), none, none, some (.iconst 1), some (.goto 4), none, none, some (.iconst 0), some .ireturn],
  [some (.lload_n 1), some (.lload_n 3), some .lcmp, some (.ifCond .gt 7), none, none, some (.iconst 1), some (.goto 4), none, none, some (.iconst 0), some .ireturn, some (.lload_n 1), some (.lload_n 3), some .lcmp, some (.ifCond .ne 7)],
  [none, none, some (.iconst 1), some (.goto 4), none, none, some (.iconst 0), some .ireturn, some (.lload_n 1), some (.lload_n 3), some .lcmp, some (.ifCond .eq 7), none, none, some (.iconst 1), some (.goto 4)],
  [none, none, some (.iconst 0), some .ireturn, some (.lload_n 1), some (.lload_n 3), some .lcmp, some (.ifCond .lt 7), none, none, some (.iconst 1), some (.goto 4), none, none, some (.iconst 0), some .ireturn],
  [some (.lload_n 1), some (.lload_n 3), some .lcmp, some (.ifCond .le 7), none, none, some (.iconst 1), some (.goto 4), none, none, some (.iconst 0), some .ireturn]]
-- 37: CushionCourt$Reader.<init>([BLCushionCourt$Book;)V
def k_37 : List (List (Option Instr)) := [[some (.aload_n 0), some (.invokespecial 3), none, none, some (.aload_n 0), some (.bipush 19), none, some (.newarray .int), none, some (.putfield 11), none, none, some (.aload_n 0), some (.bipush 72), none, some (.newarray .int)],
  [none, some (.putfield 15), none, none, some (.aload_n 0), some (.aload_n 1), some (.putfield 18), none, none, some (.aload_n 0), some (.aload_n 2), some (.putfield 22), none, none, some (.iconst 0), some (.istore_n 3)],
  [some (.iconst 0), some (.istore 4), none, some (.iconst 0), some (.istore 5), none, some (.iload 5), none, some (.ldc 26), none, some (.invokevirtual 28), none, none, some (.if_icmp .ge 59), none, none],
  [some (.iload_n 3), some (.bipush 19), none, some (.if_icmp .ge 53), none, none, some (.ldc 26), none, some (.iload 5), none, some (.invokevirtual 34), none, none, some (.istore 6), none, some (.iload 6)],
  [none, some (.bipush 32), none, some (.if_icmp .ne 12), none, none, some (.iinc 3 1), none, none, some (.iconst 0), some (.istore 4), none, some (.goto 22), none, none, some (.aload_n 0)],
  [some (.getfield 11), none, none, some (.iload_n 3), some .dup2, some .iaload, some (.iload 6), none, some (.iload 4), none, some (.invokestatic 38), none, none, some .ior, some .iastore, some (.iinc 4 1)],
  [none, none, some (.iinc 5 1), none, none, some (.goto (-63)), none, none, some .return_]]
-- 38: CushionCourt$Reader.codeOf(II)I
def k_38 : List (List (Option Instr)) := [[some (.iload_n 1), some (.bipush 6), none, some (.if_icmp .ge 18), none, none, some (.iload_n 0), some (.bipush 97), none, some .isub, some (.iconst 1), some .iadd, some (.iconst 5), some (.iconst 5), some (.iload_n 1), some .isub],
  [some .imul, some .ishl, some (.goto 4), none, none, some (.iconst 0), some .ireturn]]
-- 39: CushionCourt$Reader.read(I)V
def k_39 : List (List (Option Instr)) := [[some (.aload_n 0), some (.iload_n 1), some (.invokevirtual 42), none, none, some (.iconst 0), some (.istore_n 2), some (.iload_n 2), some (.sipush 700), none, none, some (.if_icmp .ge 143), none, none, some (.aload_n 0), some (.getfield 46)],
  [none, none, some (.ifCond .ne 136), none, none, some (.aload_n 0), some (.getfield 50), none, none, some (.ifCond .eq 129), none, none, some (.aload_n 0), some (.getfield 50), none, none],
  [some (.iconst 1), some (.if_icmp .ne 10), none, none, some (.aload_n 0), some (.getfield 53), none, none, some (.goto 4), none, none, some (.iconst (-1)), some (.tableswitch 82 0 5 #[40, 47, 54, 61, 68, 75]), none, none, none],
  [none, none, none, none, none, none, none, none, none, none, none, none, none, none, none, none],
  [none, none, none, none, none, none, none, none, none, none, none, none, none, none, none, none],
  [none, none, none, none, some (.aload_n 0), some (.invokevirtual 56), none, none, some (.goto 43), none, none, some (.aload_n 0), some (.invokevirtual 59), none, none, some (.goto 36)],
  [none, none, some (.aload_n 0), some (.invokevirtual 62), none, none, some (.goto 29), none, none, some (.aload_n 0), some (.invokevirtual 65), none, none, some (.goto 22), none, none],
  [some (.aload_n 0), some (.invokevirtual 68), none, none, some (.goto 15), none, none, some (.aload_n 0), some (.invokevirtual 71), none, none, some (.goto 8), none, none, some (.aload_n 0), some (.iconst 1)],
  [some (.invokevirtual 74), none, none, some (.aload_n 0), some (.invokevirtual 77), none, none, some (.aload_n 0), some (.getfield 22), none, none, some .dup, some (.getfield 80), none, none, some (.iconst 1)],
  [some .iadd, some (.putfield 80), none, none, some (.iinc 2 1), none, none, some (.goto (-144)), none, none, some .return_]]
-- 40: CushionCourt$Reader.begin(I)V
def k_40 : List (List (Option Instr)) := [[some (.aload_n 0), some (.iload_n 1), some (.putfield 85), none, none, some (.aload_n 0), some (.iconst 0), some (.putfield 87), none, none, some (.aload_n 0), some (.iconst 0), some (.putfield 46), none, none, some (.aload_n 0)],
  [some (.iconst (-1)), some (.putfield 90), none, none, some (.aload_n 0), some (.iconst 0), some (.putfield 93), none, none, some (.aload_n 0), some (.getfield 22), none, none, some (.invokevirtual 96), none, none],
  [some (.aload_n 0), some (.invokevirtual 99), none, none, some .return_]]
-- 41: CushionCourt$Reader.refuse(I)V
def k_41 : List (List (Option Instr)) := [[some (.aload_n 0), some (.getfield 46), none, none, some (.ifCond .ne 16), none, none, some (.aload_n 0), some (.iload_n 1), some (.putfield 46), none, none, some (.aload_n 0), some (.aload_n 0), some (.getfield 102), none],
  [none, some (.putfield 90), none, none, some .return_]]
-- 42: CushionCourt$Reader.takeLineWord(ZI)V
def k_42 : List (List (Option Instr)) := [[some (.iload_n 1), some (.ifCond .eq 8), none, none, some (.aload_n 0), some (.iload_n 2), some (.invokevirtual 74), none, none, some (.aload_n 0), some (.invokevirtual 99), none, none, some .return_]]
-- 43: CushionCourt$Reader.readJudge()V
def k_43 : List (List (Option Instr)) := [[some (.aload_n 0), some (.getfield 22), none, none, some (.getfield 105), none, none, some (.istore_n 1), some (.aload_n 0), some (.iload_n 1), some (.iconst 5), some (.if_icmp .lt 7), none, none, some (.iconst 1), some (.goto 4)],
  [none, none, some (.iconst 0), some (.iconst 2), some (.invokevirtual 108), none, none, some (.aload_n 0), some (.aload_n 0), some (.getfield 22), none, none, some (.getfield 112), none, none, some (.iload_n 1)],
  [some (.invokevirtual 115), none, none, some (.istore_n 2), some (.aload_n 0), some (.bipush 99), none, some (.invokevirtual 119), none, none, some (.istore_n 3), some (.aload_n 0), some (.bipush 9), none, some (.invokevirtual 119), none],
  [none, some (.istore 4), none, some (.aload_n 0), some (.getfield 46), none, none, some (.ifCond .ne 52), none, none, some (.iload_n 1), some (.iconst 5), some (.if_icmp .ge 47), none, none, some (.aload_n 0)],
  [some (.getfield 22), none, none, some (.getfield 112), none, none, some (.iload_n 1), some (.iload_n 2), some .iastore, some (.aload_n 0), some (.getfield 22), none, none, some (.getfield 123), none, none],
  [some (.iload_n 1), some (.iload_n 3), some .iastore, some (.aload_n 0), some (.getfield 22), none, none, some (.getfield 126), none, none, some (.iload_n 1), some (.iload 4), none, some .iastore, some (.aload_n 0), some (.getfield 22)],
  [none, none, some .dup, some (.getfield 105), none, none, some (.iconst 1), some .iadd, some (.putfield 105), none, none, some .return_]]
-- 44: CushionCourt$Reader.readCase()V
def k_44 : List (List (Option Instr)) := [[some (.aload_n 0), some (.getfield 22), none, none, some (.getfield 129), none, none, some (.istore_n 1), some (.aload_n 0), some (.iload_n 1), some (.bipush 10), none, some (.if_icmp .lt 7), none, none, some (.iconst 1)],
  [some (.goto 4), none, none, some (.iconst 0), some (.iconst 2), some (.invokevirtual 108), none, none, some (.aload_n 0), some (.aload_n 0), some (.getfield 22), none, none, some (.getfield 132), none, none],
  [some (.iload_n 1), some (.invokevirtual 115), none, none, some (.istore_n 2), some (.aload_n 0), some (.invokevirtual 135), none, none, some (.istore_n 3), some (.aload_n 0), some (.bipush 99), none, some (.invokevirtual 119), none, none],
  [some (.istore 4), none, some (.aload_n 0), some (.bipush 99), none, some (.invokevirtual 119), none, none, some (.istore 5), none, some (.aload_n 0), some (.getfield 46), none, none, some (.ifCond .ne 64), none],
  [none, some (.iload_n 1), some (.bipush 10), none, some (.if_icmp .ge 58), none, none, some (.aload_n 0), some (.getfield 22), none, none, some (.getfield 132), none, none, some (.iload_n 1), some (.iload_n 2)],
  [some .iastore, some (.aload_n 0), some (.getfield 22), none, none, some (.getfield 138), none, none, some (.iload_n 1), some (.iload_n 3), some .iastore, some (.aload_n 0), some (.getfield 22), none, none, some (.getfield 141)],
  [none, none, some (.iload_n 1), some (.iload 4), none, some .iastore, some (.aload_n 0), some (.getfield 22), none, none, some (.getfield 144), none, none, some (.iload_n 1), some (.iload 5), none],
  [some .iastore, some (.aload_n 0), some (.getfield 22), none, none, some .dup, some (.getfield 129), none, none, some (.iconst 1), some .iadd, some (.putfield 129), none, none, some .return_]]
-- 45: CushionCourt$Reader.readClerk()V
def k_45 : List (List (Option Instr)) := [[some (.aload_n 0), some (.getfield 22), none, none, some (.getfield 147), none, none, some (.istore_n 1), some (.aload_n 0), some (.iload_n 1), some (.iconst 5), some (.if_icmp .lt 7), none, none, some (.iconst 1), some (.goto 4)],
  [none, none, some (.iconst 0), some (.iconst 2), some (.invokevirtual 108), none, none, some (.aload_n 0), some (.aload_n 0), some (.getfield 22), none, none, some (.getfield 150), none, none, some (.iload_n 1)],
  [some (.invokevirtual 115), none, none, some (.istore_n 2), some (.aload_n 0), some (.bipush 127), none, some (.invokevirtual 119), none, none, some (.istore_n 3), some (.aload_n 0), some (.bipush 9), none, some (.invokevirtual 119), none],
  [none, some (.istore 4), none, some (.aload_n 0), some (.getfield 46), none, none, some (.ifCond .ne 52), none, none, some (.iload_n 1), some (.iconst 5), some (.if_icmp .ge 47), none, none, some (.aload_n 0)],
  [some (.getfield 22), none, none, some (.getfield 150), none, none, some (.iload_n 1), some (.iload_n 2), some .iastore, some (.aload_n 0), some (.getfield 22), none, none, some (.getfield 153), none, none],
  [some (.iload_n 1), some (.iload_n 3), some .iastore, some (.aload_n 0), some (.getfield 22), none, none, some (.getfield 156), none, none, some (.iload_n 1), some (.iload 4), none, some .iastore, some (.aload_n 0), some (.getfield 22)],
  [none, none, some .dup, some (.getfield 147), none, none, some (.iconst 1), some .iadd, some (.putfield 147), none, none, some .return_]]
-- 46: CushionCourt$Reader.readDamp()V
def k_46 : List (List (Option Instr)) := [[some (.aload_n 0), some (.getfield 22), none, none, some (.getfield 159), none, none, some (.istore_n 1), some (.aload_n 0), some (.iload_n 1), some (.bipush 8), none, some (.if_icmp .lt 7), none, none, some (.iconst 1)],
  [some (.goto 4), none, none, some (.iconst 0), some (.iconst 2), some (.invokevirtual 108), none, none, some (.aload_n 0), some (.bipush 9), none, some (.invokevirtual 119), none, none, some (.istore_n 2), some (.aload_n 0)],
  [some (.getfield 46), none, none, some (.ifCond .ne 32), none, none, some (.iload_n 1), some (.bipush 8), none, some (.if_icmp .ge 26), none, none, some (.aload_n 0), some (.getfield 22), none, none],
  [some (.getfield 162), none, none, some (.iload_n 1), some (.iload_n 2), some .iastore, some (.aload_n 0), some (.getfield 22), none, none, some .dup, some (.getfield 159), none, none, some (.iconst 1), some .iadd],
  [some (.putfield 159), none, none, some .return_]]
-- 47: CushionCourt$Reader.readBeat()V
def k_47 : List (List (Option Instr)) := [[some (.aload_n 0), some (.aload_n 0), some (.getfield 22), none, none, some (.getfield 165), none, none, some (.iconst 3), some (.invokevirtual 108), none, none, some (.aload_n 0), some (.bipush 9), none, some (.invokevirtual 119)],
  [none, none, some (.istore_n 1), some (.aload_n 0), some (.getfield 46), none, none, some (.ifCond .ne 19), none, none, some (.aload_n 0), some (.getfield 22), none, none, some (.iload_n 1), some (.putfield 169)],
  [none, none, some (.aload_n 0), some (.getfield 22), none, none, some (.iconst 1), some (.putfield 165), none, none, some .return_]]
-- 48: CushionCourt$Reader.readLaw()V
def k_48 : List (List (Option Instr)) := [[some (.aload_n 0), some (.invokevirtual 99), none, none, some (.aload_n 0), some (.getfield 53), none, none, some (.bipush 6), none, some .isub, some (.istore_n 1), some (.aload_n 0), some (.getfield 50), none, none],
  [some (.iconst 1), some (.if_icmp .ne 12), none, none, some (.iload_n 1), some (.ifCond .lt 8), none, none, some (.iload_n 1), some (.iconst 3), some (.if_icmp .lt 9), none, none, some (.aload_n 0), some (.iconst 1), some (.invokevirtual 74)],
  [none, none, some .return_, some (.aload_n 0), some (.getfield 22), none, none, some (.getfield 172), none, none, some (.iload_n 1), some (.invokevirtual 176), none, none, some (.ifCond .eq 9), none],
  [none, some (.aload_n 0), some (.iconst 3), some (.invokevirtual 74), none, none, some .return_, some (.aload_n 0), some (.invokevirtual 99), none, none, some (.aload_n 0), some (.getfield 22), none, none, some (.getfield 172)],
  [none, none, some (.getfield 182), none, none, some (.iload_n 1), some (.aload_n 0), some (.getfield 22), none, none, some (.getfield 172), none, none, some (.getfield 185), none, none],
  [some .iastore, some (.aload_n 0), some (.invokevirtual 188), none, none, some (.aload_n 0), some (.getfield 22), none, none, some (.getfield 172), none, none, some (.getfield 191), none, none, some (.iload_n 1)],
  [some (.aload_n 0), some (.getfield 22), none, none, some (.getfield 172), none, none, some (.getfield 185), none, none, some .iastore, some .return_]]
-- 49: CushionCourt$Reader.takeNewName([II)I
def k_49 : List (List (Option Instr)) := [[some (.aload_n 0), some (.getfield 53), none, none, some (.istore_n 3), some (.aload_n 0), some (.getfield 50), none, none, some (.iconst 2), some (.if_icmp .eq 11), none, none, some (.aload_n 0), some (.iconst 1), some (.invokevirtual 74)],
  [none, none, some (.goto 18), none, none, some (.iload_n 3), some (.aload_n 1), some (.iload_n 2), some (.invokestatic 194), none, none, some (.iconst (-1)), some (.if_icmp .eq 8), none, none, some (.aload_n 0)],
  [some (.iconst 3), some (.invokevirtual 74), none, none, some (.aload_n 0), some (.invokevirtual 99), none, none, some (.iload_n 3), some .ireturn]]
-- 50: CushionCourt$Reader.takeJudge()I
def k_50 : List (List (Option Instr)) := [[some (.aload_n 0), some (.getfield 53), none, none, some (.aload_n 0), some (.getfield 22), none, none, some (.getfield 112), none, none, some (.aload_n 0), some (.getfield 22), none, none, some (.getfield 105)],
  [none, none, some (.invokestatic 194), none, none, some (.istore_n 1), some (.aload_n 0), some (.getfield 50), none, none, some (.iconst 2), some (.if_icmp .eq 11), none, none, some (.aload_n 0), some (.iconst 1)],
  [some (.invokevirtual 74), none, none, some (.goto 13), none, none, some (.iload_n 1), some (.iconst (-1)), some (.if_icmp .ne 8), none, none, some (.aload_n 0), some (.iconst 4), some (.invokevirtual 74), none, none],
  [some (.aload_n 0), some (.invokevirtual 99), none, none, some (.iload_n 1), some .ireturn]]
-- 51: CushionCourt$Reader.takeNumber(I)I
def k_51 : List (List (Option Instr)) := [[some (.aload_n 0), some (.getfield 53), none, none, some (.istore_n 2), some (.aload_n 0), some (.getfield 50), none, none, some (.iconst 3), some (.if_icmp .eq 11), none, none, some (.aload_n 0), some (.iconst 1), some (.invokevirtual 74)],
  [none, none, some (.goto 13), none, none, some (.iload_n 2), some (.iload_n 1), some (.if_icmp .le 8), none, none, some (.aload_n 0), some (.iconst 2), some (.invokevirtual 74), none, none, some (.aload_n 0)],
  [some (.invokevirtual 99), none, none, some (.iload_n 2), some .ireturn]]
-- 52: CushionCourt$Reader.takeStop()V
def k_52 : List (List (Option Instr)) := [[some (.aload_n 0), some (.getfield 50), none, none, some (.iconst 4), some (.if_icmp .ne 12), none, none, some (.aload_n 0), some (.getfield 53), none, none, some (.bipush (-23)), none, some (.if_icmp .eq 8), none],
  [none, some (.aload_n 0), some (.iconst 1), some (.invokevirtual 74), none, none, some (.aload_n 0), some (.invokevirtual 99), none, none, some .return_]]
-- 53: CushionCourt$Reader.readExpression()V
def k_53 : List (List (Option Instr)) := [[some (.aload_n 0), some (.iconst 0), some (.putfield 198), none, none, some (.aload_n 0), some (.iconst 0), some (.putfield 201), none, none, some (.iconst 1), some (.istore_n 1), some (.iconst 0), some (.istore_n 2), some (.iload_n 2), some (.sipush 700)],
  [none, none, some (.if_icmp .ge 67), none, none, some (.aload_n 0), some (.getfield 46), none, none, some (.ifCond .ne 60), none, none, some (.iload_n 1), some (.ifCond .ne 30), none, none],
  [some (.aload_n 0), some (.getfield 201), none, none, some (.ifCond .ne 23), none, none, some (.aload_n 0), some (.getfield 50), none, none, some (.iconst 4), some (.if_icmp .ne 15), none, none, some (.aload_n 0)],
  [some (.getfield 53), none, none, some (.bipush (-23)), none, some (.if_icmp .ne 6), none, none, some (.goto 29), none, none, some (.iload_n 1), some (.ifCond .eq 10), none, none, some (.aload_n 0)],
  [some (.invokevirtual 204), none, none, some (.goto 7), none, none, some (.aload_n 0), some (.invokevirtual 208), none, none, some (.istore_n 1), some (.aload_n 0), some (.invokevirtual 99), none, none, some (.iinc 2 1)],
  [none, none, some (.goto (-68)), none, none, some (.aload_n 0), some (.iconst 1), some (.invokevirtual 211), none, none, some .return_]]
-- 54: CushionCourt$Reader.meetSide()Z
def k_54 : List (List (Option Instr)) := [[some (.aload_n 0), some (.getfield 50), none, none, some (.iconst 3), some (.if_icmp .ne 32), none, none, some (.aload_n 0), some (.aload_n 0), some (.getfield 53), none, none, some (.sipush 9999), none, none],
  [some (.if_icmp .le 7), none, none, some (.iconst 1), some (.goto 4), none, none, some (.iconst 0), some (.invokevirtual 214), none, none, some (.aload_n 0), some (.aload_n 0), some (.getfield 53), none, none],
  [some (.invokevirtual 218), none, none, some (.iconst 0), some .ireturn, some (.aload_n 0), some (.getfield 50), none, none, some (.iconst 1), some (.if_icmp .ne 30), none, none, some (.aload_n 0), some (.getfield 53), none],
  [none, some (.bipush 12), none, some (.if_icmp .lt 21), none, none, some (.aload_n 0), some (.iconst 0), some (.invokevirtual 214), none, none, some (.aload_n 0), some (.bipush 11), none, some (.aload_n 0), some (.getfield 53)],
  [none, none, some .isub, some (.invokevirtual 218), none, none, some (.iconst 0), some .ireturn, some (.aload_n 0), some (.getfield 50), none, none, some (.iconst 1), some (.if_icmp .ne 37), none, none],
  [some (.aload_n 0), some (.getfield 53), none, none, some (.bipush 11), none, some (.if_icmp .ne 28), none, none, some (.aload_n 0), some (.invokevirtual 221), none, none, some (.bipush (-10)), none, some (.invokestatic 224)],
  [none, none, some (.if_icmp .gt 16), none, none, some (.aload_n 0), some (.iconst 0), some (.invokevirtual 214), none, none, some (.aload_n 0), some (.bipush (-10)), none, some (.invokevirtual 227), none, none],
  [some (.iconst 1), some .ireturn, some (.aload_n 0), some (.getfield 50), none, none, some (.iconst 4), some (.if_icmp .ne 12), none, none, some (.aload_n 0), some (.getfield 53), none, none, some (.bipush (-21)), none],
  [some (.if_icmp .eq 11), none, none, some (.aload_n 0), some (.iconst 1), some (.invokevirtual 74), none, none, some (.goto 17), none, none, some (.aload_n 0), some (.getfield 201), none, none, some (.bipush 8)],
  [none, some (.if_icmp .lt 8), none, none, some (.aload_n 0), some (.iconst 2), some (.invokevirtual 74), none, none, some (.aload_n 0), some .dup, some (.getfield 201), none, none, some (.iconst 1), some .iadd],
  [some (.putfield 201), none, none, some (.aload_n 0), some (.bipush (-21)), none, some (.invokevirtual 227), none, none, some (.iconst 1), some .ireturn]]
-- 55: CushionCourt$Reader.meetJoint()Z
def k_55 : List (List (Option Instr)) := [[some (.aload_n 0), some (.getfield 50), none, none, some (.iconst 4), some (.if_icmp .ne 46), none, none, some (.aload_n 0), some (.getfield 53), none, none, some (.bipush (-22)), none, some (.if_icmp .ne 37), none],
  [none, some (.aload_n 0), some (.getfield 201), none, none, some (.ifCond .le 30), none, none, some (.aload_n 0), some (.iconst 1), some (.invokevirtual 211), none, none, some (.aload_n 0), some .dup, some (.getfield 198)],
  [none, none, some (.iconst 1), some .isub, some (.putfield 198), none, none, some (.aload_n 0), some .dup, some (.getfield 201), none, none, some (.iconst 1), some .isub, some (.putfield 201), none],
  [none, some (.iconst 0), some .ireturn, some (.aload_n 0), some (.invokevirtual 230), none, none, some (.istore_n 1), some (.iload_n 1), some (.invokestatic 224), none, none, some (.istore_n 2), some (.iload_n 2), some (.ifCond .ne 10), none],
  [none, some (.aload_n 0), some (.iconst 1), some (.invokevirtual 74), none, none, some (.iconst 0), some .ireturn, some (.iload_n 2), some (.iconst 4), some (.if_icmp .ne 7), none, none, some (.iconst 1), some (.goto 4), none],
  [none, some (.iconst 0), some (.istore_n 3), some (.aload_n 0), some (.iload_n 3), some (.ifCond .eq 9), none, none, some (.iload_n 2), some (.iconst 1), some .iadd, some (.goto 4), none, none, some (.iload_n 2), some (.invokevirtual 211)],
  [none, none, some (.iload_n 3), some (.ifCond .eq 16), none, none, some (.aload_n 0), some (.invokevirtual 221), none, none, some (.iload_n 2), some (.if_icmp .ne 8), none, none, some (.aload_n 0), some (.iconst 1)],
  [some (.invokevirtual 74), none, none, some (.aload_n 0), some (.iconst 0), some (.invokevirtual 214), none, none, some (.aload_n 0), some (.iload_n 1), some (.invokevirtual 227), none, none, some (.iconst 1), some .ireturn]]
-- 56: CushionCourt$Reader.jointHere()I
def k_56 : List (List (Option Instr)) := [[some (.aload_n 0), some (.getfield 50), none, none, some (.iconst 4), some (.if_icmp .ne 8), none, none, some (.aload_n 0), some (.getfield 53), none, none, some .ireturn, some (.aload_n 0), some (.getfield 50), none],
  [none, some (.iconst 1), some (.if_icmp .ne 15), none, none, some (.aload_n 0), some (.getfield 53), none, none, some (.bipush 9), none, some (.if_icmp .ne 6), none, none, some (.bipush (-8)), none],
  [some .ireturn, some (.aload_n 0), some (.getfield 50), none, none, some (.iconst 1), some (.if_icmp .ne 17), none, none, some (.aload_n 0), some (.getfield 53), none, none, some (.bipush 10), none, some (.if_icmp .ne 8)],
  [none, none, some (.bipush (-9)), none, some (.goto 5), none, none, some (.bipush (-21)), none, some .ireturn]]
-- 57: CushionCourt$Reader.strength(I)I
def k_57 : List (List (Option Instr)) := [[some (.iload_n 0), some (.tableswitch 92 (-23) (-8) #[90, 90, 90, 79, 79, 82, 82, 92, 92, 92, 92, 92, 92, 84, 86, 88]), none, none, none, none, none, none, none, none, none, none, none, none, none, none],
  [none, none, none, none, none, none, none, none, none, none, none, none, none, none, none, none],
  [none, none, none, none, none, none, none, none, none, none, none, none, none, none, none, none],
  [none, none, none, none, none, none, none, none, none, none, none, none, none, none, none, none],
  [none, none, none, none, none, none, none, none, none, none, none, none, none, none, none, none],
  [some (.bipush 6), none, some .ireturn, some (.iconst 5), some .ireturn, some (.iconst 3), some .ireturn, some (.iconst 2), some .ireturn, some (.iconst 1), some .ireturn, some (.iconst 0), some .ireturn, some (.iconst 4), some .ireturn]]
-- 58: CushionCourt$Reader.strengthHeld()I
def k_58 : List (List (Option Instr)) := [[some (.aload_n 0), some (.getfield 198), none, none, some (.ifCond .le 20), none, none, some (.aload_n 0), some (.getfield 15), none, none, some (.aload_n 0), some (.getfield 198), none, none, some (.iconst 1)],
  [some .isub, some .iaload, some (.invokestatic 224), none, none, some (.goto 4), none, none, some (.iconst 0), some .ireturn]]
-- 59: CushionCourt$Reader.meetKnot(Z)V
def k_59 : List (List (Option Instr)) := [[some (.iload_n 1), some (.ifCond .ne 12), none, none, some (.aload_n 0), some (.getfield 93), none, none, some (.bipush 64), none, some (.if_icmp .lt 8), none, none, some (.aload_n 0), some (.iconst 2), some (.invokevirtual 74)],
  [none, none, some (.aload_n 0), some .dup, some (.getfield 93), none, none, some (.iconst 1), some .iadd, some (.putfield 93), none, none, some .return_]]
-- 60: CushionCourt$Reader.hold(I)V
def k_60 : List (List (Option Instr)) := [[some (.aload_n 0), some (.getfield 46), none, none, some (.ifCond .ne 35), none, none, some (.aload_n 0), some (.getfield 198), none, none, some (.aload_n 0), some (.getfield 15), none, none, some .arraylength],
  [some (.if_icmp .ge 23), none, none, some (.aload_n 0), some (.getfield 15), none, none, some (.aload_n 0), some (.getfield 198), none, none, some (.iload_n 1), some .iastore, some (.aload_n 0), some .dup, some (.getfield 198)],
  [none, none, some (.iconst 1), some .iadd, some (.putfield 198), none, none, some .return_]]
-- 61: CushionCourt$Reader.emit(I)V
def k_61 : List (List (Option Instr)) := [[some (.aload_n 0), some (.getfield 46), none, none, some (.ifCond .ne 56), none, none, some (.aload_n 0), some (.getfield 22), none, none, some (.getfield 172), none, none, some (.getfield 185), none],
  [none, some (.bipush 64), none, some (.if_icmp .ge 41), none, none, some (.aload_n 0), some (.getfield 22), none, none, some (.getfield 172), none, none, some (.getfield 233), none, none],
  [some (.aload_n 0), some (.getfield 22), none, none, some (.getfield 172), none, none, some (.getfield 185), none, none, some (.iload_n 1), some .iastore, some (.aload_n 0), some (.getfield 22), none, none],
  [some (.getfield 172), none, none, some .dup, some (.getfield 185), none, none, some (.iconst 1), some .iadd, some (.putfield 185), none, none, some .return_]]
-- 62: CushionCourt$Reader.release(I)V
def k_62 : List (List (Option Instr)) := [[some (.aload_n 0), some (.getfield 198), none, none, some (.iconst 1), some .isub, some (.istore_n 2), some (.iload_n 2), some (.ifCond .lt 37), none, none, some (.aload_n 0), some (.getfield 15), none, none, some (.iload_n 2)],
  [some .iaload, some (.invokestatic 224), none, none, some (.iload_n 1), some (.if_icmp .lt 24), none, none, some (.aload_n 0), some (.aload_n 0), some (.getfield 15), none, none, some (.iload_n 2), some .iaload, some (.invokevirtual 218)],
  [none, none, some (.aload_n 0), some (.iload_n 2), some (.putfield 198), none, none, some (.iinc 2 (-1)), none, none, some (.goto (-35)), none, none, some .return_]]
-- 63: CushionCourt$Reader.step()V
def k_63 : List (List (Option Instr)) := [[some (.aload_n 0), some (.getfield 87), none, none, some (.aload_n 0), some (.getfield 85), none, none, some (.if_icmp .ge 31), none, none, some (.aload_n 0), some (.getfield 18), none, none, some (.aload_n 0)],
  [some (.getfield 87), none, none, some .baload, some (.invokestatic 236), none, none, some (.ifCond .eq 16), none, none, some (.aload_n 0), some .dup, some (.getfield 87), none, none, some (.iconst 1)],
  [some .iadd, some (.putfield 87), none, none, some (.goto (-36)), none, none, some (.aload_n 0), some (.aload_n 0), some (.getfield 87), none, none, some (.putfield 102), none, none, some (.aload_n 0)],
  [some (.iconst 0), some (.putfield 53), none, none, some (.aload_n 0), some (.getfield 87), none, none, some (.aload_n 0), some (.getfield 85), none, none, some (.if_icmp .lt 11), none, none, some (.aload_n 0)],
  [some (.iconst 0), some (.putfield 50), none, none, some (.goto 51), none, none, some (.aload_n 0), some (.getfield 18), none, none, some (.aload_n 0), some (.getfield 87), none, none, some .baload],
  [some (.invokestatic 239), none, none, some (.ifCond .eq 10), none, none, some (.aload_n 0), some (.invokevirtual 242), none, none, some (.goto 29), none, none, some (.aload_n 0), some (.getfield 18), none],
  [none, some (.aload_n 0), some (.getfield 87), none, none, some .baload, some (.invokestatic 245), none, none, some (.ifCond .eq 10), none, none, some (.aload_n 0), some (.invokevirtual 248), none, none],
  [some (.goto 7), none, none, some (.aload_n 0), some (.invokevirtual 251), none, none, some .return_]]
-- 64: CushionCourt$Reader.isBlank(I)Z
def k_64 : List (List (Option Instr)) := [[some (.iload_n 0), some (.bipush 10), none, some (.if_icmp .eq 9), none, none, some (.iload_n 0), some (.bipush 32), none, some (.if_icmp .ne 7), none, none, some (.iconst 1), some (.goto 4), none, none],
  [some (.iconst 0), some .ireturn]]
-- 65: CushionCourt$Reader.isLetter(I)Z
def k_65 : List (List (Option Instr)) := [[some (.iload_n 0), some (.bipush 97), none, some (.if_icmp .lt 13), none, none, some (.iload_n 0), some (.bipush 122), none, some (.if_icmp .gt 7), none, none, some (.iconst 1), some (.goto 4), none, none],
  [some (.iconst 0), some .ireturn]]
-- 66: CushionCourt$Reader.isDigit(I)Z
def k_66 : List (List (Option Instr)) := [[some (.iload_n 0), some (.bipush 48), none, some (.if_icmp .lt 13), none, none, some (.iload_n 0), some (.bipush 57), none, some (.if_icmp .gt 7), none, none, some (.iconst 1), some (.goto 4), none, none],
  [some (.iconst 0), some .ireturn]]
-- 67: CushionCourt$Reader.scanWord()V
def k_67 : List (List (Option Instr)) := [[some (.iconst 0), some (.istore_n 1), some (.aload_n 0), some (.getfield 87), none, none, some (.aload_n 0), some (.getfield 85), none, none, some (.if_icmp .ge 55), none, none, some (.aload_n 0), some (.getfield 18), none],
  [none, some (.aload_n 0), some (.getfield 87), none, none, some .baload, some (.invokestatic 239), none, none, some (.ifCond .eq 40), none, none, some (.iload_n 1), some (.aload_n 0), some (.getfield 18), none],
  [none, some (.aload_n 0), some (.getfield 87), none, none, some .baload, some (.aload_n 0), some (.getfield 87), none, none, some (.aload_n 0), some (.getfield 102), none, none, some .isub, some (.invokestatic 38)],
  [none, none, some .ior, some (.istore_n 1), some (.aload_n 0), some .dup, some (.getfield 87), none, none, some (.iconst 1), some .iadd, some (.putfield 87), none, none, some (.goto (-60)), none],
  [none, some (.iload_n 1), some (.aload_n 0), some (.getfield 11), none, none, some (.bipush 19), none, some (.invokestatic 194), none, none, some (.istore_n 2), some (.aload_n 0), some (.getfield 87), none, none],
  [some (.aload_n 0), some (.getfield 102), none, none, some .isub, some (.bipush 6), none, some (.if_icmp .le 11), none, none, some (.aload_n 0), some (.iconst 5), some (.putfield 50), none, none, some (.goto 31)],
  [none, none, some (.aload_n 0), some (.iload_n 2), some (.iconst (-1)), some (.if_icmp .ne 7), none, none, some (.iconst 2), some (.goto 4), none, none, some (.iconst 1), some (.putfield 50), none, none],
  [some (.aload_n 0), some (.iload_n 2), some (.iconst (-1)), some (.if_icmp .ne 7), none, none, some (.iload_n 1), some (.goto 4), none, none, some (.iload_n 2), some (.putfield 53), none, none, some .return_]]
-- 68: CushionCourt$Reader.scanNumber()V
def k_68 : List (List (Option Instr)) := [[some (.aload_n 0), some (.iconst 3), some (.putfield 50), none, none, some (.aload_n 0), some (.getfield 87), none, none, some (.aload_n 0), some (.getfield 85), none, none, some (.if_icmp .ge 65), none, none],
  [some (.aload_n 0), some (.getfield 18), none, none, some (.aload_n 0), some (.getfield 87), none, none, some .baload, some (.invokestatic 245), none, none, some (.ifCond .eq 50), none, none, some (.aload_n 0)],
  [some (.getfield 53), none, none, some (.sipush 9999), none, none, some (.if_icmp .gt 27), none, none, some (.aload_n 0), some (.bipush 10), none, some (.aload_n 0), some (.getfield 53), none, none],
  [some .imul, some (.aload_n 0), some (.getfield 18), none, none, some (.aload_n 0), some (.getfield 87), none, none, some .baload, some .iadd, some (.bipush 48), none, some .isub, some (.putfield 53), none],
  [none, some (.aload_n 0), some .dup, some (.getfield 87), none, none, some (.iconst 1), some .iadd, some (.putfield 87), none, none, some (.goto (-70)), none, none, some .return_]]
-- 69: CushionCourt$Reader.scanSign()V
def k_69 : List (List (Option Instr)) := [[some (.aload_n 0), some (.getfield 18), none, none, some (.aload_n 0), some (.getfield 87), none, none, some .baload, some (.istore_n 1), some (.aload_n 0), some .dup, some (.getfield 87), none, none, some (.iconst 1)],
  [some .iadd, some (.putfield 87), none, none, some (.aload_n 0), some (.getfield 87), none, none, some (.aload_n 0), some (.getfield 85), none, none, some (.if_icmp .ge 15), none, none, some (.aload_n 0)],
  [some (.getfield 18), none, none, some (.aload_n 0), some (.getfield 87), none, none, some .baload, some (.goto 4), none, none, some (.iconst 0), some (.istore_n 2), some (.aload_n 0), some (.iconst 4), some (.putfield 50)],
  [none, none, some (.aload_n 0), some (.iload_n 1), some (.invokestatic 254), none, none, some (.putfield 53), none, none, some (.iload_n 1), some (.bipush 60), none, some (.if_icmp .ne 45), none, none],
  [some (.iload_n 2), some (.bipush 61), none, some (.if_icmp .eq 9), none, none, some (.iload_n 2), some (.bipush 62), none, some (.if_icmp .ne 33), none, none, some (.aload_n 0), some (.iload_n 2), some (.bipush 61), none],
  [some (.if_icmp .ne 8), none, none, some (.bipush (-12)), none, some (.goto 5), none, none, some (.bipush (-14)), none, some (.putfield 53), none, none, some (.aload_n 0), some .dup, some (.getfield 87)],
  [none, none, some (.iconst 1), some .iadd, some (.putfield 87), none, none, some (.goto 46), none, none, some (.iload_n 1), some (.bipush 62), none, some (.if_icmp .ne 28), none, none],
  [some (.iload_n 2), some (.bipush 61), none, some (.if_icmp .ne 22), none, none, some (.aload_n 0), some (.bipush (-15)), none, some (.putfield 53), none, none, some (.aload_n 0), some .dup, some (.getfield 87), none],
  [none, some (.iconst 1), some .iadd, some (.putfield 87), none, none, some (.goto 15), none, none, some (.aload_n 0), some (.getfield 53), none, none, some (.ifCond .ne 8), none, none],
  [some (.aload_n 0), some (.iconst 5), some (.putfield 50), none, none, some .return_]]
-- 70: CushionCourt$Reader.signOf(I)I
def k_70 : List (List (Option Instr)) := [[some (.iload_n 0), some (.tableswitch 137 40 62 #[128, 131, 122, 116, 137, 119, 137, 125, 137, 137, 137, 137, 137, 137, 137, 137, 137, 137, 137, 134, 107, 110, 113]), none, none, none, none, none, none, none, none, none, none, none, none, none, none],
  [none, none, none, none, none, none, none, none, none, none, none, none, none, none, none, none],
  [none, none, none, none, none, none, none, none, none, none, none, none, none, none, none, none],
  [none, none, none, none, none, none, none, none, none, none, none, none, none, none, none, none],
  [none, none, none, none, none, none, none, none, none, none, none, none, none, none, none, none],
  [none, none, none, none, none, none, none, none, none, none, none, none, none, none, none, none],
  [none, none, none, none, none, none, none, none, none, none, none, none, some (.bipush (-11)), none, some .ireturn, some (.bipush (-13))],
  [none, some .ireturn, some (.bipush (-16)), none, some .ireturn, some (.bipush (-17)), none, some .ireturn, some (.bipush (-18)), none, some .ireturn, some (.bipush (-19)), none, some .ireturn, some (.bipush (-20)), none],
  [some .ireturn, some (.bipush (-21)), none, some .ireturn, some (.bipush (-22)), none, some .ireturn, some (.bipush (-23)), none, some .ireturn, some (.iconst 0), some .ireturn]]
-- 71: CushionCourt$Term.<init>(LCushionCourt$Book;LCushionCourt$Mind;)V
def k_71 : List (List (Option Instr)) := [[some (.aload_n 0), some (.invokespecial 3), none, none, some (.aload_n 0), some (.aload_n 1), some (.putfield 9), none, none, some (.aload_n 0), some (.aload_n 2), some (.putfield 15), none, none, some .return_]]
-- 72: CushionCourt$Term.asTold()V
def k_72 : List (List (Option Instr)) := [[some (.aload_n 0), some (.iconst (-1)), some (.putfield 19), none, none, some (.aload_n 0), some (.aload_n 0), some (.getfield 9), none, none, some (.getfield 23), none, none, some (.putfield 28), none, none],
  [some (.aload_n 0), some (.iconst (-1)), some (.putfield 29), none, none, some (.aload_n 0), some (.iconst 0), some (.putfield 32), none, none, some .return_]]
-- 73: CushionCourt$Term.pass(LCushionCourt$World;I)V
def k_73 : List (List (Option Instr)) := [[some (.iconst 0), some (.istore_n 3), some (.iload_n 3), some (.iload_n 2), some (.if_icmp .ge 14), none, none, some (.aload_n 0), some (.aload_n 1), some (.invokevirtual 36), none, none, some (.iinc 3 1), none, none, some (.goto (-13))],
  [none, none, some .return_]]
-- 74: CushionCourt$Term.passDay(LCushionCourt$World;)V
def k_74 : List (List (Option Instr)) := [[some (.aload_n 0), some (.getfield 19), none, none, some (.iconst (-1)), some (.if_icmp .ne 17), none, none, some (.aload_n 0), some (.getfield 9), none, none, some (.aload_n 1), some (.getfield 40), none, none],
  [some (.invokevirtual 45), none, none, some (.goto 7), none, none, some (.aload_n 0), some (.getfield 19), none, none, some (.istore_n 2), some (.iconst 0), some (.istore_n 3), some (.iload_n 3), some (.aload_n 0), some (.getfield 9)],
  [none, none, some (.getfield 49), none, none, some (.if_icmp .ge 45), none, none, some (.aload_n 0), some (.getfield 9), none, none, some (.getfield 52), none, none, some (.iload_n 3)],
  [some .iaload, some (.aload_n 1), some (.getfield 40), none, none, some (.if_icmp .ne 23), none, none, some (.aload_n 1), some (.getfield 55), none, none, some (.iload_n 3), some .iaload, some (.aload_n 0), some (.getfield 29)],
  [none, none, some (.if_icmp .eq 10), none, none, some (.aload_n 0), some (.aload_n 1), some (.iload_n 3), some (.iload_n 2), some (.invokevirtual 58), none, none, some (.iinc 3 1), none, none, some (.goto (-50))],
  [none, none, some (.aload_n 1), some (.getfield 40), none, none, some (.bipush 7), none, some .irem, some (.ifCond .ne 42), none, none, some (.iconst 0), some (.istore_n 3), some (.iload_n 3), some (.aload_n 0)],
  [some (.getfield 9), none, none, some (.getfield 62), none, none, some (.if_icmp .ge 29), none, none, some (.aload_n 1), some (.aload_n 1), some (.getfield 65), none, none, some (.iload_n 3), some .iaload],
  [some (.invokevirtual 68), none, none, some (.ifCond .ne 10), none, none, some (.aload_n 0), some (.aload_n 1), some (.iload_n 3), some (.iload_n 2), some (.invokevirtual 72), none, none, some (.iinc 3 1), none, none],
  [some (.goto (-34)), none, none, some (.aload_n 1), some .dup, some (.getfield 40), none, none, some (.iconst 1), some .iadd, some (.putfield 40), none, none, some .return_]]
-- 75: CushionCourt$Term.seeCase(LCushionCourt$World;III)V
def k_75 : List (List (Option Instr)) := [[some (.aload_n 1), some (.getfield 75), none, none, some (.aload_n 1), some (.getfield 65), none, none, some (.iload_n 3), some .iaload, some .iaload, some (.istore 5), none, some (.aload_n 0), some (.getfield 15), none],
  [none, some (.aload_n 0), some (.getfield 9), none, none, some (.getfield 78), none, none, some (.iload_n 3), some .iaload, some (.aload_n 0), some (.getfield 9), none, none, some (.getfield 81), none],
  [none, some (.iload_n 3), some .iaload, some (.aload_n 0), some (.getfield 9), none, none, some (.getfield 84), none, none, some (.iload_n 2), some .iaload, some (.iload 5), none, some (.iload 4), none],
  [some (.aload_n 1), some (.getfield 40), none, none, some (.invokevirtual 87), none, none, some .return_]]
-- 76: CushionCourt$Term.seeCushion(LCushionCourt$World;II)V
def k_76 : List (List (Option Instr)) := [[some (.aload_n 1), some (.getfield 75), none, none, some (.aload_n 1), some (.getfield 65), none, none, some (.iload_n 2), some .iaload, some .iaload, some (.istore 4), none, some (.aload_n 0), some (.getfield 15), none],
  [none, some (.aload_n 0), some (.getfield 9), none, none, some (.getfield 78), none, none, some (.iload_n 2), some .iaload, some (.aload_n 0), some (.getfield 9), none, none, some (.getfield 81), none],
  [none, some (.iload_n 2), some .iaload, some (.iconst 0), some (.iload 4), none, some (.iload_n 3), some (.aload_n 1), some (.getfield 40), none, none, some (.invokevirtual 87), none, none, some (.aload_n 0), some (.getfield 15)],
  [none, none, some (.invokevirtual 93), none, none, some .return_]]
-- 77: CushionCourt$Term.hear(LCushionCourt$World;II)V
def k_77 : List (List (Option Instr)) := [[some (.aload_n 1), some (.getfield 55), none, none, some (.iload_n 2), some .iaload, some (.istore 4), none, some (.aload_n 0), some (.aload_n 1), some (.iload_n 2), some (.iload 4), none, some (.iload_n 3), some (.invokevirtual 96), none],
  [none, some (.aload_n 0), some (.getfield 15), none, none, some (.aload_n 0), some (.getfield 9), none, none, some (.getfield 100), none, none, some (.invokevirtual 104), none, none, some (.istore 5)],
  [none, some (.aload_n 0), some (.getfield 32), none, none, some (.ifCond .eq 8), none, none, some (.iload 5), none, some (.goto 19), none, none, some (.aload_n 0), some (.getfield 15), none],
  [none, some (.aload_n 0), some (.getfield 9), none, none, some (.getfield 100), none, none, some (.iload 5), none, some (.invokevirtual 108), none, none, some (.istore 6), none, some (.aload_n 1)],
  [some (.getfield 112), none, none, some (.iload_n 2), some (.iload 5), none, some (.ifCond .eq 7), none, none, some (.iconst 1), some (.goto 4), none, none, some (.iconst 0), some .iastore, some (.aload_n 1)],
  [some (.getfield 115), none, none, some (.iload_n 2), some (.iload 6), none, some (.ifCond .eq 7), none, none, some (.iconst 1), some (.goto 4), none, none, some (.iconst 0), some .iastore, some (.iload 6)],
  [none, some (.iload 5), none, some (.if_icmp .eq 15), none, none, some (.aload_n 1), some (.aload_n 1), some (.getfield 65), none, none, some (.iload 4), none, some .iaload, some (.iload_n 2), some (.invokevirtual 118)],
  [none, none, some .return_]]
-- 78: CushionCourt$Term.air(LCushionCourt$World;II)V
def k_78 : List (List (Option Instr)) := [[some (.aload_n 1), some (.getfield 65), none, none, some (.iload_n 2), some .iaload, some (.istore 4), none, some (.aload_n 0), some (.aload_n 1), some (.iload_n 2), some (.iload_n 3), some (.invokevirtual 122), none, none, some (.iconst 0)],
  [some (.aload_n 1), some (.getfield 75), none, none, some (.iload 4), none, some .iaload, some (.aload_n 0), some (.getfield 15), none, none, some (.aload_n 0), some (.getfield 9), none, none, some (.getfield 100)],
  [none, none, some (.aload_n 0), some (.getfield 28), none, none, some (.invokevirtual 125), none, none, some .isub, some (.invokestatic 129), none, none, some (.istore 5), none, some (.aload_n 1)],
  [some (.getfield 75), none, none, some (.iload 4), none, some .iaload, some (.iconst 1), some .isub, some (.istore 6), none, some (.iload 6), none, some (.iload 5), none, some (.if_icmp .lt 41), none],
  [none, some (.aload_n 1), some (.getfield 135), none, none, some (.iload 4), none, some (.bipush 8), none, some .imul, some (.iload 6), none, some .iadd, some .iaload, some (.istore 7), none],
  [some (.aload_n 1), some (.getfield 138), none, none, some (.iload 7), none, some (.iconst 2), some .iastore, some (.aload_n 0), some (.aload_n 1), some (.iload 7), none, some (.iload 6), none, some (.invokevirtual 141), none],
  [none, some (.iinc 6 (-1)), none, none, some (.goto (-42)), none, none, some (.aload_n 1), some (.getfield 75), none, none, some (.iload 4), none, some (.iload 5), none, some .iastore],
  [some .return_]]
-- 79: CushionCourt$Term.tellClerks(LCushionCourt$World;II)V
def k_79 : List (List (Option Instr)) := [[some (.iconst 1), some (.aload_n 1), some (.getfield 40), none, none, some (.bipush 7), none, some .irem, some .ishl, some (.istore 4), none, some (.iconst 0), some (.istore 5), none, some (.iload 5), none],
  [some (.aload_n 0), some (.getfield 9), none, none, some (.getfield 144), none, none, some (.if_icmp .ge 52), none, none, some (.aload_n 0), some (.getfield 9), none, none, some (.getfield 147), none],
  [none, some (.iload 5), none, some .iaload, some (.iload 4), none, some .iand, some (.ifCond .eq 30), none, none, some (.aload_n 0), some (.getfield 9), none, none, some (.getfield 150), none],
  [none, some (.iload 5), none, some .iaload, some (.iload_n 3), some (.if_icmp .lt 16), none, none, some (.aload_n 1), some (.getfield 153), none, none, some (.iload 5), none, some .dup2, some .iaload],
  [some (.iconst 1), some (.iload_n 2), some .ishl, some .ior, some .iastore, some (.iinc 5 1), none, none, some (.goto (-58)), none, none, some .return_]]
-- 80: CushionCourt$World.<init>()V
def k_80 : List (List (Option Instr)) := [[some (.aload_n 0), some (.invokespecial 3), none, none, some (.aload_n 0), some (.bipush 10), none, some (.newarray .int), none, some (.putfield 9), none, none, some (.aload_n 0), some (.bipush 10), none, some (.newarray .int)],
  [none, some (.putfield 15), none, none, some (.aload_n 0), some (.bipush 10), none, some (.newarray .int), none, some (.putfield 18), none, none, some (.aload_n 0), some (.bipush 10), none, some (.newarray .int)],
  [none, some (.putfield 21), none, none, some (.aload_n 0), some (.iconst 5), some (.newarray .int), none, some (.putfield 24), none, none, some (.aload_n 0), some (.iconst 5), some (.newarray .int), none, some (.putfield 27)],
  [none, none, some (.aload_n 0), some (.bipush 40), none, some (.newarray .int), none, some (.putfield 30), none, none, some (.aload_n 0), some (.iconst 5), some (.newarray .int), none, some (.putfield 33), none],
  [none, some .return_]]
-- 81: CushionCourt$World.begin(LCushionCourt$Book;)V
def k_81 : List (List (Option Instr)) := [[some (.aload_n 0), some (.iconst 0), some (.putfield 36), none, none, some (.aload_n 0), some (.iconst 0), some (.putfield 40), none, none, some (.iconst 0), some (.istore_n 2), some (.iload_n 2), some (.bipush 10), none, some (.if_icmp .ge 42)],
  [none, none, some (.aload_n 0), some (.getfield 9), none, none, some (.iload_n 2), some (.aload_n 1), some (.getfield 43), none, none, some (.iload_n 2), some .iaload, some .iastore, some (.aload_n 0), some (.getfield 15)],
  [none, none, some (.iload_n 2), some (.iconst (-1)), some .iastore, some (.aload_n 0), some (.getfield 18), none, none, some (.iload_n 2), some (.iconst (-1)), some .iastore, some (.aload_n 0), some (.getfield 21), none, none],
  [some (.iload_n 2), some (.iconst 0), some .iastore, some (.iinc 2 1), none, none, some (.goto (-42)), none, none, some (.iconst 0), some (.istore_n 2), some (.iload_n 2), some (.iconst 5), some (.if_icmp .ge 23), none, none],
  [some (.aload_n 0), some (.getfield 24), none, none, some (.iload_n 2), some (.iload_n 2), some .iastore, some (.aload_n 0), some (.getfield 27), none, none, some (.iload_n 2), some (.iconst 0), some .iastore, some (.iinc 2 1), none],
  [none, some (.goto (-22)), none, none, some (.iconst 0), some (.istore_n 2), some (.iload_n 2), some (.iconst 5), some (.if_icmp .ge 16), none, none, some (.aload_n 0), some (.getfield 33), none, none, some (.iload_n 2)],
  [some (.iconst 0), some .iastore, some (.iinc 2 1), none, none, some (.goto (-15)), none, none, some .return_]]
-- 82: CushionCourt$World.copyFrom(LCushionCourt$World;)V
def k_82 : List (List (Option Instr)) := [[some (.aload_n 0), some (.aload_n 1), some (.getfield 36), none, none, some (.putfield 36), none, none, some (.aload_n 0), some (.aload_n 1), some (.getfield 40), none, none, some (.putfield 40), none, none],
  [some (.aload_n 1), some (.getfield 9), none, none, some (.iconst 0), some (.aload_n 0), some (.getfield 9), none, none, some (.iconst 0), some (.bipush 10), none, some (.invokestatic 46), none, none, some (.aload_n 1)],
  [some (.getfield 15), none, none, some (.iconst 0), some (.aload_n 0), some (.getfield 15), none, none, some (.iconst 0), some (.bipush 10), none, some (.invokestatic 46), none, none, some (.aload_n 1), some (.getfield 18)],
  [none, none, some (.iconst 0), some (.aload_n 0), some (.getfield 18), none, none, some (.iconst 0), some (.bipush 10), none, some (.invokestatic 46), none, none, some (.aload_n 1), some (.getfield 21), none],
  [none, some (.iconst 0), some (.aload_n 0), some (.getfield 21), none, none, some (.iconst 0), some (.bipush 10), none, some (.invokestatic 46), none, none, some (.aload_n 1), some (.getfield 24), none, none],
  [some (.iconst 0), some (.aload_n 0), some (.getfield 24), none, none, some (.iconst 0), some (.iconst 5), some (.invokestatic 46), none, none, some (.aload_n 1), some (.getfield 27), none, none, some (.iconst 0), some (.aload_n 0)],
  [some (.getfield 27), none, none, some (.iconst 0), some (.iconst 5), some (.invokestatic 46), none, none, some (.aload_n 1), some (.getfield 30), none, none, some (.iconst 0), some (.aload_n 0), some (.getfield 30), none],
  [none, some (.iconst 0), some (.bipush 40), none, some (.invokestatic 46), none, none, some (.aload_n 1), some (.getfield 33), none, none, some (.iconst 0), some (.aload_n 0), some (.getfield 33), none, none],
  [some (.iconst 0), some (.iconst 5), some (.invokestatic 46), none, none, some .return_]]
-- 83: CushionCourt$World.swap(II)V
def k_83 : List (List (Option Instr)) := [[some (.aload_n 0), some (.getfield 24), none, none, some (.iload_n 1), some .iaload, some (.istore_n 3), some (.aload_n 0), some (.getfield 24), none, none, some (.iload_n 1), some (.aload_n 0), some (.getfield 24), none, none],
  [some (.iload_n 2), some .iaload, some .iastore, some (.aload_n 0), some (.getfield 24), none, none, some (.iload_n 2), some (.iload_n 3), some .iastore, some .return_]]
-- 84: CushionCourt$World.isKeptIn(I)Z
def k_84 : List (List (Option Instr)) := [[some (.aload_n 0), some (.getfield 40), none, none, some (.iload_n 1), some .ishr, some (.iconst 1), some .iand, some (.ifCond .eq 7), none, none, some (.iconst 1), some (.goto 4), none, none, some (.iconst 0)],
  [some .ireturn]]
-- 85: CushionCourt$World.setKeptIn(IZ)V
def k_85 : List (List (Option Instr)) := [[some (.iconst 1), some (.iload_n 1), some .ishl, some (.istore_n 3), some (.aload_n 0), some (.iload_n 2), some (.ifCond .eq 12), none, none, some (.aload_n 0), some (.getfield 40), none, none, some (.iload_n 3), some .ior, some (.goto 11)],
  [none, none, some (.aload_n 0), some (.getfield 40), none, none, some (.iload_n 3), some (.iconst (-1)), some .ixor, some .iand, some (.putfield 40), none, none, some .return_]]
-- 86: CushionCourt$World.lay(II)V
def k_86 : List (List (Option Instr)) := [[some (.iload_n 1), some (.bipush 8), none, some .imul, some (.istore_n 3), some (.aload_n 0), some (.getfield 27), none, none, some (.iload_n 1), some .iaload, some (.bipush 8), none, some (.if_icmp .lt 59), none, none],
  [some (.aload_n 0), some (.getfield 21), none, none, some (.aload_n 0), some (.getfield 30), none, none, some (.iload_n 3), some .iaload, some (.iconst 3), some .iastore, some (.iconst 1), some (.istore 4), none, some (.iload 4)],
  [none, some (.bipush 8), none, some (.if_icmp .ge 29), none, none, some (.aload_n 0), some (.getfield 30), none, none, some (.iload_n 3), some (.iload 4), none, some .iadd, some (.iconst 1), some .isub],
  [some (.aload_n 0), some (.getfield 30), none, none, some (.iload_n 3), some (.iload 4), none, some .iadd, some .iaload, some .iastore, some (.iinc 4 1), none, none, some (.goto (-30)), none, none],
  [some (.aload_n 0), some (.getfield 27), none, none, some (.iload_n 1), some (.bipush 7), none, some .iastore, some (.aload_n 0), some (.getfield 30), none, none, some (.iload_n 3), some (.aload_n 0), some (.getfield 27), none],
  [none, some (.iload_n 1), some .iaload, some .iadd, some (.iload_n 2), some .iastore, some (.aload_n 0), some (.getfield 27), none, none, some (.iload_n 1), some .dup2, some .iaload, some (.iconst 1), some .iadd, some .iastore],
  [some (.aload_n 0), some (.getfield 21), none, none, some (.iload_n 2), some (.iconst 1), some .iastore, some .return_]]
-- 87: CushionCourt$World.empty(I)V
def k_87 : List (List (Option Instr)) := [[some (.aload_n 0), some (.iload_n 1), some (.iconst 3), some (.invokevirtual 52), none, none, some (.aload_n 0), some (.getfield 27), none, none, some (.iload_n 1), some (.iconst 0), some .iastore, some .return_]]
-- 88: CushionCourt$World.refill(II)V
def k_88 : List (List (Option Instr)) := [[some (.aload_n 0), some (.getfield 27), none, none, some (.iload_n 1), some (.iload_n 2), some .iastore, some (.aload_n 0), some (.iload_n 1), some (.iconst 1), some (.invokevirtual 52), none, none, some .return_]]
-- 89: CushionCourt$World.setFate(II)V
def k_89 : List (List (Option Instr)) := [[some (.iconst 0), some (.istore_n 3), some (.iload_n 3), some (.aload_n 0), some (.getfield 27), none, none, some (.iload_n 1), some .iaload, some (.if_icmp .ge 32), none, none, some (.iload_n 3), some (.bipush 8), none, some (.if_icmp .ge 26)],
  [none, none, some (.aload_n 0), some (.getfield 21), none, none, some (.aload_n 0), some (.getfield 30), none, none, some (.iload_n 1), some (.bipush 8), none, some .imul, some (.iload_n 3), some .iadd],
  [some .iaload, some (.iload_n 2), some .iastore, some (.iinc 3 1), none, none, some (.goto (-36)), none, none, some .return_]]
-- 90: CushionCourt$World.hasFeather(II)Z
def k_90 : List (List (Option Instr)) := [[some (.iconst 0), some (.istore_n 3), some (.iload_n 3), some (.aload_n 0), some (.getfield 27), none, none, some (.iload_n 1), some .iaload, some (.if_icmp .ge 32), none, none, some (.iload_n 3), some (.bipush 8), none, some (.if_icmp .ge 26)],
  [none, none, some (.aload_n 0), some (.getfield 30), none, none, some (.iload_n 1), some (.bipush 8), none, some .imul, some (.iload_n 3), some .iadd, some .iaload, some (.iload_n 2), some (.if_icmp .ne 5), none],
  [none, some (.iconst 1), some .ireturn, some (.iinc 3 1), none, none, some (.goto (-36)), none, none, some (.iconst 0), some .ireturn]]
-- 91: CushionCourt$World.casesHeard()I
def k_91 : List (List (Option Instr)) := [[some (.iconst 0), some (.istore_n 1), some (.iconst 0), some (.istore_n 2), some (.iload_n 2), some (.bipush 10), none, some (.if_icmp .ge 22), none, none, some (.aload_n 0), some (.getfield 18), none, none, some (.iload_n 2), some .iaload],
  [some (.iconst (-1)), some (.if_icmp .eq 6), none, none, some (.iinc 1 1), none, none, some (.iinc 2 1), none, none, some (.goto (-22)), none, none, some (.iload_n 1), some .ireturn]]
-- 92: CushionCourt$World.guilty()I
def k_92 : List (List (Option Instr)) := [[some (.iconst 0), some (.istore_n 1), some (.iconst 0), some (.istore_n 2), some (.iload_n 2), some (.bipush 10), none, some (.if_icmp .ge 22), none, none, some (.aload_n 0), some (.getfield 18), none, none, some (.iload_n 2), some .iaload],
  [some (.iconst 1), some (.if_icmp .ne 6), none, none, some (.iinc 1 1), none, none, some (.iinc 2 1), none, none, some (.goto (-22)), none, none, some (.iload_n 1), some .ireturn]]
-- 93: CushionCourt$World.fated(I)I
def k_93 : List (List (Option Instr)) := [[some (.iconst 0), some (.istore_n 2), some (.iconst 0), some (.istore_n 3), some (.iload_n 3), some (.bipush 10), none, some (.if_icmp .ge 22), none, none, some (.aload_n 0), some (.getfield 21), none, none, some (.iload_n 3), some .iaload],
  [some (.iload_n 1), some (.if_icmp .ne 6), none, none, some (.iinc 2 1), none, none, some (.iinc 3 1), none, none, some (.goto (-22)), none, none, some (.iload_n 2), some .ireturn]]
-- 94: CushionCourt$World.knownToAny()I
def k_94 : List (List (Option Instr)) := [[some (.iconst 0), some (.istore_n 1), some (.iconst 0), some (.istore_n 2), some (.iload_n 2), some (.iconst 5), some (.if_icmp .ge 18), none, none, some (.iload_n 1), some (.aload_n 0), some (.getfield 33), none, none, some (.iload_n 2), some .iaload],
  [some .ior, some (.istore_n 1), some (.iinc 2 1), none, none, some (.goto (-17)), none, none, some (.iload_n 1), some .ireturn]]
-- 95: CushionCourt$World.knownInAll()I
def k_95 : List (List (Option Instr)) := [[some (.iconst 0), some (.istore_n 1), some (.iconst 0), some (.istore_n 2), some (.iload_n 2), some (.iconst 5), some (.if_icmp .ge 21), none, none, some (.iload_n 1), some (.aload_n 0), some (.getfield 33), none, none, some (.iload_n 2), some .iaload],
  [some (.invokestatic 56), none, none, some .iadd, some (.istore_n 1), some (.iinc 2 1), none, none, some (.goto (-20)), none, none, some (.iload_n 1), some .ireturn]]
-- 96: CushionCourt.<init>()V
def k_96 : List (List (Option Instr)) := [[some (.aload_n 0), some (.invokespecial 3), none, none, some (.aload_n 0), some (.sipush 700), none, none, some (.newarray .byte), none, some (.putfield 9), none, none, some (.aload_n 0), some (.iconst (-1)), some (.putfield 13)],
  [none, none, some (.aload_n 0), some (.new 17), none, none, some .dup, some (.invokespecial 19), none, none, some (.putfield 20), none, none, some (.aload_n 0), some (.new 17), none],
  [none, some .dup, some (.invokespecial 19), none, none, some (.putfield 24), none, none, some (.aload_n 0), some (.new 27), none, none, some .dup, some (.aload_n 0), some (.getfield 9), none],
  [none, some (.aload_n 0), some (.getfield 24), none, none, some (.invokespecial 29), none, none, some (.putfield 32), none, none, some (.aload_n 0), some (.new 36), none, none, some .dup],
  [some (.invokespecial 38), none, none, some (.putfield 39), none, none, some (.aload_n 0), some (.new 36), none, none, some .dup, some (.invokespecial 38), none, none, some (.putfield 43), none],
  [none, some (.aload_n 0), some (.new 36), none, none, some .dup, some (.invokespecial 38), none, none, some (.putfield 46), none, none, some (.aload_n 0), some (.new 49), none, none],
  [some .dup, some (.invokespecial 51), none, none, some (.putfield 52), none, none, some (.aload_n 0), some (.new 56), none, none, some .dup, some (.aload_n 0), some (.getfield 20), none, none],
  [some (.aload_n 0), some (.getfield 52), none, none, some (.invokespecial 58), none, none, some (.putfield 61), none, none, some (.aload_n 0), some (.new 65), none, none, some .dup, some (.invokespecial 67)],
  [none, none, some (.putfield 68), none, none, some (.aload_n 0), some (.new 72), none, none, some .dup, some (.invokespecial 74), none, none, some (.putfield 75), none, none],
  [some (.aload_n 0), some (.new 79), none, none, some .dup, some (.invokespecial 81), none, none, some (.putfield 82), none, none, some (.aload_n 0), some (.getfield 39), none, none, some (.aload_n 0)],
  [some (.getfield 20), none, none, some (.invokevirtual 86), none, none, some .return_]]
-- 97: CushionCourt.feed(IIIII)I
def k_97 : List (List (Option Instr)) := [[some (.aload_n 0), some (.getfield 90), none, none, some (.bipush 20), none, some .iadd, some (.sipush 700), none, none, some (.if_icmp .le 5), none, none, some (.iconst (-1)), some .ireturn, some (.aload_n 0)],
  [some (.iload_n 1), some (.invokevirtual 93), none, none, some (.aload_n 0), some (.iload_n 2), some (.invokevirtual 93), none, none, some (.aload_n 0), some (.iload_n 3), some (.invokevirtual 93), none, none, some (.aload_n 0), some (.iload 4)],
  [none, some (.invokevirtual 93), none, none, some (.aload_n 0), some (.iload 5), none, some (.invokevirtual 93), none, none, some (.aload_n 0), some (.getfield 90), none, none, some .ireturn]]
-- 98: CushionCourt.putBytes(I)V
def k_98 : List (List (Option Instr)) := [[some (.bipush 24), none, some (.istore_n 2), some (.iload_n 2), some (.ifCond .lt 42), none, none, some (.aload_n 0), some (.getfield 90), none, none, some (.sipush 700), none, none, some (.if_icmp .ge 32), none],
  [none, some (.aload_n 0), some (.getfield 9), none, none, some (.aload_n 0), some (.getfield 90), none, none, some (.iload_n 1), some (.iload_n 2), some .ishr, some .i2b, some .bastore, some (.aload_n 0), some .dup],
  [some (.getfield 90), none, none, some (.iconst 1), some .iadd, some (.putfield 90), none, none, some (.iinc 2 (-8)), none, none, some (.goto (-40)), none, none, some .return_]]
-- 99: CushionCourt.text(I)I
def k_99 : List (List (Option Instr)) := [[some (.iload_n 1), some (.ifCond .lt 11), none, none, some (.iload_n 1), some (.aload_n 0), some (.getfield 90), none, none, some (.if_icmp .le 6), none, none, some (.bipush (-2)), none, some .ireturn, some (.aload_n 0)],
  [some (.iconst 0), some (.putfield 90), none, none, some (.aload_n 0), some (.getfield 32), none, none, some (.iload_n 1), some (.invokevirtual 97), none, none, some (.aload_n 0), some (.aload_n 0), some (.getfield 32), none],
  [none, some (.getfield 100), none, none, some (.putfield 103), none, none, some (.aload_n 0), some (.aload_n 0), some (.getfield 32), none, none, some (.getfield 106), none, none, some (.putfield 13)],
  [none, none, some (.aload_n 0), some (.getfield 103), none, none, some (.ifCond .eq 5), none, none, some (.iconst (-1)), some .ireturn, some (.aload_n 0), some (.getfield 20), none, none, some (.aload_n 0)],
  [some (.getfield 24), none, none, some (.invokevirtual 109), none, none, some (.aload_n 0), some (.getfield 39), none, none, some (.aload_n 0), some (.getfield 20), none, none, some (.invokevirtual 86), none],
  [none, some (.aload_n 0), some (.getfield 75), none, none, some (.invokevirtual 112), none, none, some (.aload_n 0), some (.getfield 68), none, none, some (.invokevirtual 115), none, none, some (.aload_n 0)],
  [some (.iconst 0), some (.putfield 116), none, none, some (.aload_n 0), some (.getfield 20), none, none, some (.getfield 120), none, none, some .ireturn]]
-- 100: CushionCourt.fault(I)I
def k_100 : List (List (Option Instr)) := [[some (.iload_n 1), some (.lookupswitch 37 #[(0, 27), (1, 32)]), none, none, none, none, none, none, none, none, none, none, none, none, none, none],
  [none, none, none, none, none, none, none, none, none, none, none, none, some (.aload_n 0), some (.getfield 103), none, none],
  [some .ireturn, some (.aload_n 0), some (.getfield 13), none, none, some .ireturn, some (.iconst (-1)), some .ireturn]]
-- 101: CushionCourt.named(II)I
def k_101 : List (List (Option Instr)) := [[some (.iload_n 1), some (.tableswitch 84 0 2 #[27, 46, 65]), none, none, none, none, none, none, none, none, none, none, none, none, none, none],
  [none, none, none, none, none, none, none, none, none, none, none, none, some (.iload_n 2), some (.aload_n 0), some (.getfield 20), none],
  [none, some (.getfield 123), none, none, some (.aload_n 0), some (.getfield 20), none, none, some (.getfield 127), none, none, some (.invokestatic 130), none, none, some .ireturn, some (.iload_n 2)],
  [some (.aload_n 0), some (.getfield 20), none, none, some (.getfield 134), none, none, some (.aload_n 0), some (.getfield 20), none, none, some (.getfield 137), none, none, some (.invokestatic 130), none],
  [none, some .ireturn, some (.iload_n 2), some (.aload_n 0), some (.getfield 20), none, none, some (.getfield 140), none, none, some (.aload_n 0), some (.getfield 20), none, none, some (.getfield 143), none],
  [none, some (.invokestatic 130), none, none, some .ireturn, some (.iconst (-1)), some .ireturn]]
-- 102: CushionCourt.placeOf(I[II)I
def k_102 : List (List (Option Instr)) := [[some (.iconst 0), some (.istore_n 3), some (.iload_n 3), some (.iload_n 2), some (.if_icmp .ge 24), none, none, some (.iload_n 3), some (.aload_n 1), some .arraylength, some (.if_icmp .ge 18), none, none, some (.aload_n 1), some (.iload_n 3), some .iaload],
  [some (.iload_n 0), some (.if_icmp .ne 5), none, none, some (.iload_n 3), some .ireturn, some (.iinc 3 1), none, none, some (.goto (-23)), none, none, some (.iconst (-1)), some .ireturn]]
-- 103: CushionCourt.isJudge(I)Z
def k_103 : List (List (Option Instr)) := [[some (.iload_n 1), some (.ifCond .lt 18), none, none, some (.iload_n 1), some (.aload_n 0), some (.getfield 20), none, none, some (.getfield 127), none, none, some (.if_icmp .ge 7), none, none, some (.iconst 1)],
  [some (.goto 4), none, none, some (.iconst 0), some .ireturn]]
-- 104: CushionCourt.isCase(I)Z
def k_104 : List (List (Option Instr)) := [[some (.iload_n 1), some (.ifCond .lt 18), none, none, some (.iload_n 1), some (.aload_n 0), some (.getfield 20), none, none, some (.getfield 137), none, none, some (.if_icmp .ge 7), none, none, some (.iconst 1)],
  [some (.goto 4), none, none, some (.iconst 0), some .ireturn]]
-- 105: CushionCourt.isClerk(I)Z
def k_105 : List (List (Option Instr)) := [[some (.iload_n 1), some (.ifCond .lt 18), none, none, some (.iload_n 1), some (.aload_n 0), some (.getfield 20), none, none, some (.getfield 143), none, none, some (.if_icmp .ge 7), none, none, some (.iconst 1)],
  [some (.goto 4), none, none, some (.iconst 0), some .ireturn]]
-- 106: CushionCourt.isSpan(I)Z
def k_106 : List (List (Option Instr)) := [[some (.iload_n 0), some (.ifCond .lt 13), none, none, some (.iload_n 0), some (.bipush 99), none, some (.if_icmp .gt 7), none, none, some (.iconst 1), some (.goto 4), none, none, some (.iconst 0), some .ireturn]]
-- 107: CushionCourt.cause(II)I
def k_107 : List (List (Option Instr)) := [[some (.aload_n 0), some (.iload_n 1), some (.invokevirtual 146), none, none, some (.ifCond .ne 13), none, none, some (.new 150), none, none, some .dup, some (.ldc 152), none, some (.invokespecial 154), none],
  [none, some .athrow, some (.iload_n 2), some (.tableswitch 97 0 5 #[37, 47, 57, 67, 77, 87]), none, none, none, none, none, none, none, none, none, none, none, none],
  [none, none, none, none, none, none, none, none, none, none, none, none, none, none, none, none],
  [none, none, none, none, none, none, none, none, some (.aload_n 0), some (.getfield 39), none, none, some (.getfield 157), none, none, some (.iload_n 1)],
  [some .iaload, some .ireturn, some (.aload_n 0), some (.getfield 20), none, none, some (.getfield 160), none, none, some (.iload_n 1), some .iaload, some .ireturn, some (.aload_n 0), some (.getfield 20), none, none],
  [some (.getfield 163), none, none, some (.iload_n 1), some .iaload, some .ireturn, some (.aload_n 0), some (.getfield 39), none, none, some (.getfield 166), none, none, some (.iload_n 1), some .iaload, some .ireturn],
  [some (.aload_n 0), some (.getfield 39), none, none, some (.getfield 169), none, none, some (.iload_n 1), some .iaload, some .ireturn, some (.aload_n 0), some (.getfield 39), none, none, some (.getfield 172), none],
  [none, some (.iload_n 1), some .iaload, some .ireturn, some (.new 175), none, none, some .dup, some (.ldc 177), none, some (.invokespecial 179), none, none, some .athrow]]
-- 108: CushionCourt.judge(II)I
def k_108 : List (List (Option Instr)) := [[some (.aload_n 0), some (.iload_n 1), some (.invokevirtual 180), none, none, some (.ifCond .ne 5), none, none, some (.iconst (-1)), some .ireturn, some (.aload_n 0), some (.getfield 39), none, none, some (.getfield 183), none],
  [none, some (.iload_n 1), some .iaload, some (.istore_n 3), some (.iload_n 2), some (.tableswitch 94 0 5 #[39, 49, 59, 61, 71, 88]), none, none, none, none, none, none, none, none, none, none],
  [none, none, none, none, none, none, none, none, none, none, none, none, none, none, none, none],
  [none, none, none, none, none, none, none, none, none, none, none, none, some (.aload_n 0), some (.getfield 20), none, none],
  [some (.getfield 186), none, none, some (.iload_n 1), some .iaload, some .ireturn, some (.aload_n 0), some (.getfield 20), none, none, some (.getfield 189), none, none, some (.iload_n 1), some .iaload, some .ireturn],
  [some (.iload_n 3), some .ireturn, some (.aload_n 0), some (.getfield 39), none, none, some (.getfield 192), none, none, some (.iload_n 3), some .iaload, some .ireturn, some (.aload_n 0), some (.getfield 39), none, none],
  [some (.iload_n 3), some (.invokevirtual 195), none, none, some (.ifCond .eq 7), none, none, some (.iconst 1), some (.goto 4), none, none, some (.iconst 0), some .ireturn, some (.aload_n 0), some (.iload_n 1), some (.invokevirtual 198)],
  [none, none, some .ireturn, some (.iconst (-1)), some .ireturn]]
-- 109: CushionCourt.heardBy(I)I
def k_109 : List (List (Option Instr)) := [[some (.iconst 0), some (.istore_n 2), some (.iconst 0), some (.istore_n 3), some (.iload_n 3), some (.aload_n 0), some (.getfield 20), none, none, some (.getfield 137), none, none, some (.if_icmp .ge 38), none, none, some (.aload_n 0)],
  [some (.getfield 39), none, none, some (.getfield 157), none, none, some (.iload_n 3), some .iaload, some (.iload_n 1), some (.if_icmp .ne 19), none, none, some (.aload_n 0), some (.getfield 39), none, none],
  [some (.getfield 169), none, none, some (.iload_n 3), some .iaload, some (.iconst (-1)), some (.if_icmp .eq 6), none, none, some (.iinc 2 1), none, none, some (.iinc 3 1), none, none, some (.goto (-43))],
  [none, none, some (.iload_n 2), some .ireturn]]
-- 110: CushionCourt.feather(II)I
def k_110 : List (List (Option Instr)) := [[some (.aload_n 0), some (.iload_n 1), some (.invokevirtual 180), none, none, some (.ifCond .eq 7), none, none, some (.iload_n 2), some (.ifCond .ge 5), none, none, some (.iconst (-1)), some .ireturn, some (.aload_n 0), some (.getfield 39)],
  [none, none, some (.getfield 183), none, none, some (.iload_n 1), some .iaload, some (.istore_n 3), some (.iload_n 2), some (.aload_n 0), some (.getfield 39), none, none, some (.getfield 192), none, none],
  [some (.iload_n 3), some .iaload, some (.if_icmp .ge 20), none, none, some (.aload_n 0), some (.getfield 39), none, none, some (.getfield 202), none, none, some (.iload_n 3), some (.bipush 8), none, some .imul],
  [some (.iload_n 2), some .iadd, some .iaload, some (.goto 5), none, none, some (.bipush (-2)), none, some .ireturn]]
-- 111: CushionCourt.knows(I)I
def k_111 : List (List (Option Instr)) := [[some (.aload_n 0), some (.iload_n 1), some (.invokevirtual 205), none, none, some (.ifCond .eq 15), none, none, some (.aload_n 0), some (.getfield 39), none, none, some (.getfield 208), none, none, some (.iload_n 1)],
  [some .iaload, some (.goto 4), none, none, some (.iconst (-1)), some .ireturn]]
-- 112: CushionCourt.damp(I)I
def k_112 : List (List (Option Instr)) := [[some (.iload_n 1), some (.ifCond .lt 21), none, none, some (.iload_n 1), some (.sipush 9999), none, none, some (.if_icmp .gt 14), none, none, some (.aload_n 0), some (.getfield 20), none, none, some (.iload_n 1)],
  [some (.invokevirtual 211), none, none, some (.goto 4), none, none, some (.iconst (-1)), some .ireturn]]
-- 113: CushionCourt.law(II)J
def k_113 : List (List (Option Instr)) := [[some (.iload_n 1), some (.iconst 2), some (.if_icmp .ne 44), none, none, some (.aload_n 0), some (.iload_n 2), some (.invokevirtual 180), none, none, some (.ifCond .ne 7), none, none, some (.ldc2_w 216), none, none],
  [some .lreturn, some (.aload_n 0), some (.getfield 61), none, none, some (.aload_n 0), some (.getfield 39), none, none, some (.iload_n 2), some (.aload_n 0), some (.getfield 20), none, none, some (.aload_n 0), some (.getfield 39)],
  [none, none, some (.getfield 218), none, none, some (.invokevirtual 211), none, none, some (.invokevirtual 220), none, none, some (.goto 66), none, none, some (.iload_n 1), some (.ifCond .eq 8)],
  [none, none, some (.iload_n 1), some (.iconst 1), some (.if_icmp .ne 53), none, none, some (.aload_n 0), some (.iload_n 2), some (.invokevirtual 146), none, none, some (.ifCond .ne 7), none, none, some (.ldc2_w 216)],
  [none, none, some .lreturn, some (.aload_n 0), some (.getfield 61), none, none, some (.aload_n 0), some (.getfield 39), none, none, some (.iload_n 2), some (.aload_n 0), some (.getfield 39), none, none],
  [some (.getfield 157), none, none, some (.iload_n 2), some .iaload, some (.aload_n 0), some (.getfield 20), none, none, some (.aload_n 0), some (.getfield 39), none, none, some (.getfield 218), none, none],
  [some (.invokevirtual 211), none, none, some (.invokevirtual 224), none, none, some (.goto 7), none, none, some (.ldc2_w 216), none, none, some .lreturn, some (.aload_n 0), some (.getfield 52), none],
  [none, some (.aload_n 0), some (.getfield 20), none, none, some (.getfield 228), none, none, some (.iload_n 1), some (.invokevirtual 232), none, none, some (.ifCond .eq 13), none, none, some (.aload_n 0)],
  [some (.getfield 52), none, none, some (.getfield 236), none, none, some (.goto 6), none, none, some (.ldc2_w 216), none, none, some .lreturn]]
-- 114: CushionCourt.exchange(II)Z
def k_114 : List (List (Option Instr)) := [[some (.aload_n 0), some (.iload_n 1), some (.invokevirtual 180), none, none, some (.ifCond .eq 16), none, none, some (.aload_n 0), some (.iload_n 2), some (.invokevirtual 180), none, none, some (.ifCond .eq 8), none, none],
  [some (.iload_n 1), some (.iload_n 2), some (.if_icmp .ne 5), none, none, some (.iconst 0), some .ireturn, some (.aload_n 0), some (.getfield 39), none, none, some (.iload_n 1), some (.iload_n 2), some (.invokevirtual 240), none, none],
  [some (.aload_n 0), some (.getfield 68), none, none, some (.iconst 0), some (.iload_n 1), some (.iload_n 2), some (.invokevirtual 244), none, none, some (.iconst 1), some .ireturn]]
-- 115: CushionCourt.keepIn(IZ)Z
def k_115 : List (List (Option Instr)) := [[some (.aload_n 0), some (.iload_n 1), some (.invokevirtual 180), none, none, some (.ifCond .ne 5), none, none, some (.iconst 0), some .ireturn, some (.aload_n 0), some (.getfield 39), none, none, some (.getfield 183), none],
  [none, some (.iload_n 1), some .iaload, some (.istore_n 3), some (.aload_n 0), some (.getfield 39), none, none, some (.iload_n 3), some (.invokevirtual 195), none, none, some (.iload_n 2), some (.if_icmp .ne 5), none, none],
  [some (.iconst 0), some .ireturn, some (.aload_n 0), some (.getfield 39), none, none, some (.iload_n 3), some (.iload_n 2), some (.invokevirtual 248), none, none, some (.aload_n 0), some (.getfield 68), none, none, some (.iconst 1)],
  [some (.iload_n 3), some (.iconst 0), some (.invokevirtual 244), none, none, some (.iconst 1), some .ireturn]]
-- 116: CushionCourt.restuff(I)I
def k_116 : List (List (Option Instr)) := [[some (.aload_n 0), some (.iload_n 1), some (.invokevirtual 180), none, none, some (.ifCond .ne 5), none, none, some (.iconst (-1)), some .ireturn, some (.aload_n 0), some (.getfield 39), none, none, some (.getfield 183), none],
  [none, some (.iload_n 1), some .iaload, some (.istore_n 2), some (.aload_n 0), some (.getfield 39), none, none, some (.getfield 192), none, none, some (.iload_n 2), some .iaload, some (.istore_n 3), some (.aload_n 0), some (.getfield 39)],
  [none, none, some (.iload_n 2), some (.invokevirtual 252), none, none, some (.aload_n 0), some (.getfield 68), none, none, some (.iconst 2), some (.iload_n 2), some (.iload_n 3), some (.invokevirtual 244), none, none],
  [some (.iload_n 3), some .ireturn]]
-- 117: CushionCourt.give(II)Z
def k_117 : List (List (Option Instr)) := [[some (.aload_n 0), some (.iload_n 1), some (.invokevirtual 146), none, none, some (.ifCond .eq 37), none, none, some (.aload_n 0), some (.iload_n 2), some (.invokevirtual 180), none, none, some (.ifCond .eq 29), none, none],
  [some (.aload_n 0), some (.getfield 39), none, none, some (.getfield 169), none, none, some (.iload_n 1), some .iaload, some (.iconst (-1)), some (.if_icmp .ne 16), none, none, some (.aload_n 0), some (.getfield 39), none],
  [none, some (.getfield 157), none, none, some (.iload_n 1), some .iaload, some (.iload_n 2), some (.if_icmp .ne 5), none, none, some (.iconst 0), some .ireturn, some (.aload_n 0), some (.getfield 68), none, none],
  [some (.iconst 3), some (.iload_n 1), some (.aload_n 0), some (.getfield 39), none, none, some (.getfield 157), none, none, some (.iload_n 1), some .iaload, some (.invokevirtual 244), none, none, some (.aload_n 0), some (.getfield 39)],
  [none, none, some (.getfield 157), none, none, some (.iload_n 1), some (.iload_n 2), some .iastore, some (.iconst 1), some .ireturn]]
-- 118: CushionCourt.days(I)I
def k_118 : List (List (Option Instr)) := [[some (.iload_n 1), some (.invokestatic 255), none, none, some (.ifCond .eq 18), none, none, some (.aload_n 0), some (.getfield 39), none, none, some (.getfield 218), none, none, some (.iload_n 1), some .iadd],
  [some (.sipush 9900), none, none, some (.if_icmp .le 5), none, none, some (.iconst (-1)), some .ireturn, some (.iload_n 1), some (.ifCond .le 10), none, none, some (.aload_n 0), some (.getfield 68), none, none],
  [some (.invokevirtual 115), none, none, some (.aload_n 0), some (.getfield 61), none, none, some (.invokevirtual 258), none, none, some (.aload_n 0), some (.getfield 61), none, none, some (.aload_n 0), some (.getfield 39)],
  [none, none, some (.iload_n 1), some (.invokevirtual 261), none, none, some (.aload_n 0), some (.getfield 39), none, none, some (.getfield 218), none, none, some .ireturn]]
-- 119: CushionCourt.beginTrial()V
def k_119 : List (List (Option Instr)) := [[some (.aload_n 0), some (.getfield 43), none, none, some (.aload_n 0), some (.getfield 39), none, none, some (.invokevirtual 265), none, none, some (.aload_n 0), some (.getfield 61), none, none, some (.invokevirtual 258)],
  [none, none, some .return_]]
-- 120: CushionCourt.ahead(II)I
def k_120 : List (List (Option Instr)) := [[some (.iload_n 1), some (.invokestatic 255), none, none, some (.ifCond .eq 12), none, none, some (.iload_n 2), some (.ifCond .lt 8), none, none, some (.iload_n 2), some (.iconst 3), some (.if_icmp .le 5), none, none],
  [some (.iconst (-1)), some .ireturn, some (.aload_n 0), some (.invokevirtual 268), none, none, some (.aload_n 0), some (.getfield 61), none, none, some (.aload_n 0), some (.getfield 43), none, none, some (.iload_n 1), some (.invokevirtual 261)],
  [none, none, some (.iload_n 2), some (.tableswitch 80 0 2 #[25, 41, 62]), none, none, none, none, none, none, none, none, none, none, none, none],
  [none, none, none, none, none, none, none, none, none, none, none, none, some (.aload_n 0), some (.getfield 43), none, none],
  [some (.invokevirtual 271), none, none, some (.aload_n 0), some (.getfield 39), none, none, some (.invokevirtual 271), none, none, some .isub, some .ireturn, some (.aload_n 0), some (.getfield 43), none, none],
  [some (.invokevirtual 275), none, none, some (.aload_n 0), some (.getfield 39), none, none, some (.invokevirtual 275), none, none, some (.iconst (-1)), some .ixor, some .iand, some (.invokestatic 278), none, none],
  [some .ireturn, some (.aload_n 0), some (.getfield 43), none, none, some (.iconst 3), some (.invokevirtual 283), none, none, some (.aload_n 0), some (.getfield 39), none, none, some (.iconst 3), some (.invokevirtual 283), none],
  [none, some .isub, some .ireturn, some (.aload_n 0), some (.invokevirtual 286), none, none, some .ireturn]]
-- 121: CushionCourt.outMore()I
def k_121 : List (List (Option Instr)) := [[some (.aload_n 0), some (.getfield 43), none, none, some (.iconst 2), some (.invokevirtual 283), none, none, some (.aload_n 0), some (.getfield 39), none, none, some (.iconst 2), some (.invokevirtual 283), none, none],
  [some .isub, some .ireturn]]
-- 122: CushionCourt.daysToMonday()I
def k_122 : List (List (Option Instr)) := [[some (.bipush 7), none, some (.aload_n 0), some (.getfield 39), none, none, some (.getfield 218), none, none, some (.bipush 7), none, some .irem, some .isub, some (.bipush 7), none, some .irem],
  [some .ireturn]]
-- 123: CushionCourt.airing(II)I
def k_123 : List (List (Option Instr)) := [[some (.iload_n 1), some (.iconst 1), some (.if_icmp .lt 17), none, none, some (.iload_n 1), some (.iconst 4), some (.if_icmp .gt 12), none, none, some (.iload_n 2), some (.ifCond .lt 8), none, none, some (.iload_n 2), some (.iconst 5)],
  [some (.if_icmp .le 5), none, none, some (.iconst (-1)), some .ireturn, some (.iload_n 2), some (.iconst 5), some (.if_icmp .ne 7), none, none, some (.iconst 1), some (.goto 4), none, none, some (.iconst 0), some (.istore_n 3)],
  [some (.iload_n 3), some (.ifCond .eq 13), none, none, some (.aload_n 0), some (.getfield 20), none, none, some (.getfield 127), none, none, some (.goto 16), none, none, some (.aload_n 0), some (.getfield 20)],
  [none, none, some (.getfield 127), none, none, some (.iload_n 2), some (.iconst 1), some .iadd, some (.invokestatic 289), none, none, some (.istore 4), none, some (.bipush (-2)), none, some (.istore 5)],
  [none, some (.iconst 0), some (.istore 6), none, some (.iload_n 3), some (.ifCond .eq 7), none, none, some (.iconst 0), some (.goto 4), none, none, some (.iload_n 2), some (.istore 7), none, some (.iload 7)],
  [none, some (.iload 4), none, some (.if_icmp .ge 61), none, none, some (.ldc_w 295), none, none, some (.istore 8), none, some (.iconst 0), some (.istore 9), none, some (.iload 9), none],
  [some (.iload_n 1), some (.if_icmp .ge 34), none, none, some (.aload_n 0), some (.iload 7), none, some (.iload 9), none, some (.invokevirtual 296), none, none, some (.istore 10), none, some (.iload 10), none],
  [some (.iload 8), none, some (.if_icmp .ge 11), none, none, some (.iload 10), none, some (.istore 8), none, some (.iload 9), none, some (.istore 5), none, some (.iinc 9 1), none, none],
  [some (.goto (-34)), none, none, some (.iload 6), none, some (.iload 8), none, some .iadd, some (.istore 6), none, some (.iinc 7 1), none, none, some (.goto (-62)), none, none],
  [some (.iload_n 3), some (.ifCond .eq 8), none, none, some (.iload 6), none, some (.goto 5), none, none, some (.iload 5), none, some .ireturn]]
-- 124: CushionCourt.heardOf(II)I
def k_124 : List (List (Option Instr)) := [[some (.aload_n 0), some (.invokevirtual 299), none, none, some (.bipush 7), none, some (.iload_n 2), some .imul, some .iadd, some (.istore_n 3), some (.aload_n 0), some (.invokevirtual 268), none, none, some (.aload_n 0), some (.getfield 43)],
  [none, none, some (.bipush 31), none, some (.putfield 302), none, none, some (.iconst 0), some (.istore 4), none, some (.iload 4), none, some (.iload_n 3), some (.if_icmp .gt 39), none, none],
  [some (.aload_n 0), some (.getfield 43), none, none, some (.iload_n 1), some (.iload 4), none, some (.iload_n 3), some (.if_icmp .eq 7), none, none, some (.iconst 1), some (.goto 4), none, none, some (.iconst 0)],
  [some (.invokevirtual 248), none, none, some (.aload_n 0), some (.getfield 61), none, none, some (.aload_n 0), some (.getfield 43), none, none, some (.invokevirtual 305), none, none, some (.iinc 4 1), none],
  [none, some (.goto (-39)), none, none, some (.aload_n 0), some (.getfield 43), none, none, some (.invokevirtual 308), none, none, some (.aload_n 0), some (.getfield 39), none, none, some (.invokevirtual 308)],
  [none, none, some .isub, some .ireturn]]
-- 125: CushionCourt.away()I
def k_125 : List (List (Option Instr)) := [[some (.aload_n 0), some (.invokevirtual 268), none, none, some (.aload_n 0), some (.getfield 61), none, none, some (.aload_n 0), some (.getfield 43), none, none, some (.aload_n 0), some (.invokevirtual 299), none, none],
  [some (.iconst 1), some .iadd, some (.invokevirtual 261), none, none, some (.iconst 0), some (.istore_n 1), some (.iconst 0), some (.istore_n 2), some (.iload_n 2), some (.aload_n 0), some (.getfield 20), none, none, some (.getfield 143), none],
  [none, some (.if_icmp .ge 36), none, none, some (.aload_n 0), some (.getfield 43), none, none, some (.getfield 208), none, none, some (.iload_n 2), some .iaload, some (.aload_n 0), some (.getfield 39), none],
  [none, some (.getfield 208), none, none, some (.iload_n 2), some .iaload, some (.if_icmp .eq 9), none, none, some (.iload_n 1), some (.iconst 1), some (.iload_n 2), some .ishl, some .ior, some (.istore_n 1), some (.iinc 2 1)],
  [none, none, some (.goto (-41)), none, none, some (.iload_n 1), some .ireturn]]
-- 126: CushionCourt.given(I)I
def k_126 : List (List (Option Instr)) := [[some (.iload_n 1), some (.ifCond .lt 9), none, none, some (.iload_n 1), some (.bipush 6), none, some (.if_icmp .le 5), none, none, some (.iconst (-1)), some .ireturn, some (.aload_n 0), some (.getfield 82), none, none],
  [some (.aload_n 0), some (.getfield 20), none, none, some (.aload_n 0), some (.getfield 39), none, none, some (.invokevirtual 311), none, none, some (.iload_n 1), some (.bipush 6), none, some (.if_icmp .ge 17), none],
  [none, some (.iload_n 1), some (.aload_n 0), some (.getfield 82), none, none, some (.getfield 315), none, none, some (.if_icmp .lt 6), none, none, some (.bipush (-2)), none, some .ireturn, some (.aload_n 0)],
  [some (.getfield 82), none, none, some (.getfield 315), none, none, some (.iconst 2), some (.aload_n 0), some (.getfield 20), none, none, some (.getfield 127), none, none, some .imul, some (.if_icmp .le 6)],
  [none, none, some (.bipush (-3)), none, some .ireturn, some (.aload_n 0), some (.getfield 82), none, none, some (.aload_n 0), some (.getfield 20), none, none, some (.invokevirtual 316), none, none],
  [some (.iload_n 1), some (.bipush 6), none, some (.if_icmp .ne 15), none, none, some (.aload_n 0), some (.getfield 82), none, none, some (.getfield 319), none, none, some (.iconst 0), some .iaload, some (.goto 15)],
  [none, none, some (.aload_n 0), some (.getfield 82), none, none, some (.aload_n 0), some (.getfield 20), none, none, some (.iload_n 1), some (.invokevirtual 322), none, none, some .ireturn]]
-- 127: CushionCourt.lot(II)I
def k_127 : List (List (Option Instr)) := [[some (.aload_n 0), some (.iload_n 1), some (.invokevirtual 146), none, none, some (.ifCond .eq 12), none, none, some (.iload_n 2), some (.ifCond .lt 8), none, none, some (.iload_n 2), some (.iconst 1), some (.if_icmp .le 5), none],
  [none, some (.iconst (-1)), some .ireturn, some (.iconst 0), some (.istore_n 3), some (.aload_n 0), some (.getfield 20), none, none, some (.aload_n 0), some (.getfield 39), none, none, some (.getfield 218), none, none],
  [some (.invokevirtual 211), none, none, some (.istore 4), none, some (.iconst 0), some (.istore 5), none, some (.iload 5), none, some (.aload_n 0), some (.getfield 20), none, none, some (.getfield 127), none],
  [none, some (.if_icmp .ge 45), none, none, some (.aload_n 0), some (.getfield 61), none, none, some (.aload_n 0), some (.getfield 39), none, none, some (.iload_n 1), some (.iload 5), none, some (.iload 4)],
  [none, some (.invokevirtual 224), none, none, some (.aload_n 0), some (.getfield 52), none, none, some (.aload_n 0), some (.getfield 20), none, none, some (.getfield 228), none, none, some (.invokevirtual 326)],
  [none, none, some (.ifCond .eq 6), none, none, some (.iinc 3 1), none, none, some (.iinc 5 1), none, none, some (.goto (-51)), none, none, some (.iload_n 3), some (.aload_n 0)],
  [some (.getfield 20), none, none, some (.getfield 127), none, none, some (.iload_n 2), some (.invokestatic 330), none, none, some .ireturn]]
-- 128: CushionCourt.leastTerm(III)I
def k_128 : List (List (Option Instr)) := [[some (.iload_n 1), some (.ifCond .gt 5), none, none, some (.iload_n 2), some .ireturn, some (.iload_n 0), some (.iload_n 1), some (.invokestatic 334), none, none, some (.istore_n 3), some (.iload_n 2), some (.ifCond .ne 7), none, none],
  [some (.iload_n 0), some (.goto 4), none, none, some (.iload_n 1), some (.istore 4), none, some (.iload_n 3), some (.ifCond .le 10), none, none, some (.iload 4), none, some (.iload_n 3), some .idiv, some (.goto 5)],
  [none, none, some (.iload 4), none, some .ireturn]]
-- 129: CushionCourt.commonDivisor(II)I
def k_129 : List (List (Option Instr)) := [[some (.iload_n 0), some (.istore_n 2), some (.iload_n 1), some (.istore_n 3), some (.iconst 0), some (.istore 4), none, some (.iload 4), none, some (.bipush 64), none, some (.if_icmp .ge 23), none, none, some (.iload_n 3), some (.ifCond .eq 19)],
  [none, none, some (.iload_n 2), some (.iload_n 3), some .irem, some (.istore 5), none, some (.iload_n 3), some (.istore_n 2), some (.iload 5), none, some (.istore_n 3), some (.iinc 4 1), none, none, some (.goto (-24))],
  [none, none, some (.iload_n 2), some .ireturn]]
-- 130: CushionCourt.clashes()I
def k_130 : List (List (Option Instr)) := [[some (.iconst 0), some (.istore_n 1), some (.iconst 0), some (.istore_n 2), some (.iload_n 2), some (.aload_n 0), some (.getfield 20), none, none, some (.getfield 137), none, none, some (.if_icmp .ge 77), none, none, some (.iconst 0)],
  [some (.istore_n 3), some (.iload_n 3), some (.aload_n 0), some (.getfield 20), none, none, some (.getfield 137), none, none, some (.if_icmp .ge 58), none, none, some (.aload_n 0), some (.getfield 39), none, none],
  [some (.getfield 169), none, none, some (.iload_n 2), some .iaload, some (.iconst 1), some (.if_icmp .ne 39), none, none, some (.aload_n 0), some (.getfield 39), none, none, some (.getfield 169), none, none],
  [some (.iload_n 3), some .iaload, some (.ifCond .ne 27), none, none, some (.aload_n 0), some (.getfield 20), none, none, some (.getfield 163), none, none, some (.iload_n 2), some .iaload, some (.aload_n 0), some (.getfield 20)],
  [none, none, some (.getfield 163), none, none, some (.iload_n 3), some .iaload, some (.if_icmp .ge 6), none, none, some (.iinc 1 1), none, none, some (.iinc 3 1), none, none],
  [some (.goto (-63)), none, none, some (.iinc 2 1), none, none, some (.goto (-82)), none, none, some (.iload_n 1), some .ireturn]]
-- 131: CushionCourt.bold(II)I
def k_131 : List (List (Option Instr)) := [[some (.aload_n 0), some (.iload_n 1), some (.invokevirtual 180), none, none, some (.ifCond .eq 12), none, none, some (.iload_n 2), some (.ifCond .lt 8), none, none, some (.iload_n 2), some (.iconst 1), some (.if_icmp .le 5), none],
  [none, some (.iconst (-1)), some .ireturn, some (.iconst 0), some (.istore_n 3), some (.iconst 0), some (.istore 4), none, some (.iload 4), none, some (.aload_n 0), some (.getfield 20), none, none, some (.getfield 137), none],
  [none, some (.if_icmp .ge 49), none, none, some (.aload_n 0), some (.getfield 39), none, none, some (.getfield 157), none, none, some (.iload 4), none, some .iaload, some (.iload_n 1), some (.if_icmp .ne 29)],
  [none, none, some (.aload_n 0), some (.getfield 39), none, none, some (.getfield 169), none, none, some (.iload 4), none, some .iaload, some (.aload_n 0), some (.getfield 39), none, none],
  [some (.getfield 166), none, none, some (.iload 4), none, some .iaload, some (.if_icmp .eq 6), none, none, some (.iinc 3 1), none, none, some (.iinc 4 1), none, none, some (.goto (-55))],
  [none, none, some (.iload_n 3), some (.aload_n 0), some (.iload_n 1), some (.invokevirtual 198), none, none, some (.iload_n 2), some (.invokestatic 330), none, none, some .ireturn]]
-- 132: CushionCourt.rests(I)I
def k_132 : List (List (Option Instr)) := [[some (.aload_n 0), some (.iload_n 1), some (.invokevirtual 180), none, none, some (.ifCond .ne 5), none, none, some (.iconst (-1)), some .ireturn, some (.aload_n 0), some (.getfield 39), none, none, some (.getfield 192), none],
  [none, some (.aload_n 0), some (.getfield 39), none, none, some (.getfield 183), none, none, some (.iload_n 1), some .iaload, some .iaload, some (.istore_n 2), some (.iconst 0), some (.istore_n 3), some (.iconst 0), some (.istore 4)],
  [none, some (.iload 4), none, some (.iconst 4), some (.if_icmp .gt 38), none, none, some (.iconst 0), some (.istore 5), none, some (.iload 5), none, some (.iconst 4), some (.if_icmp .gt 23), none, none],
  [some (.iload_n 2), some (.iload 4), none, some (.iload 5), none, some (.invokestatic 337), none, none, some (.ifCond .eq 6), none, none, some (.iinc 3 1), none, none, some (.iinc 5 1), none],
  [none, some (.goto (-23)), none, none, some (.iinc 4 1), none, none, some (.goto (-38)), none, none, some (.iload_n 3), some .ireturn]]
-- 133: CushionCourt.rest(II)I
def k_133 : List (List (Option Instr)) := [[some (.aload_n 0), some (.iload_n 1), some (.invokevirtual 180), none, none, some (.ifCond .eq 7), none, none, some (.iload_n 2), some (.ifCond .ge 5), none, none, some (.iconst (-1)), some .ireturn, some (.aload_n 0), some (.getfield 39)],
  [none, none, some (.getfield 192), none, none, some (.aload_n 0), some (.getfield 39), none, none, some (.getfield 183), none, none, some (.iload_n 1), some .iaload, some .iaload, some (.istore_n 3)],
  [some (.iconst 0), some (.istore 4), none, some (.iconst 0), some (.istore 5), none, some (.iload 5), none, some (.iconst 4), some (.if_icmp .gt 53), none, none, some (.iconst 0), some (.istore 6), none, some (.iload 6)],
  [none, some (.iconst 4), some (.if_icmp .gt 38), none, none, some (.iload_n 3), some (.iload 5), none, some (.iload 6), none, some (.invokestatic 337), none, none, some (.ifCond .eq 21), none, none],
  [some (.iload 4), none, some (.iload_n 2), some (.if_icmp .ne 12), none, none, some (.bipush 10), none, some (.iload 5), none, some .imul, some (.iload 6), none, some .iadd, some .ireturn, some (.iinc 4 1)],
  [none, none, some (.iinc 6 1), none, none, some (.goto (-38)), none, none, some (.iinc 5 1), none, none, some (.goto (-53)), none, none, some (.bipush (-2)), none],
  [some .ireturn]]
-- 134: CushionCourt.isRest(III)Z
def k_134 : List (List (Option Instr)) := [[some (.iconst 0), some (.istore_n 3), some (.iload_n 3), some (.iconst 4), some (.if_icmp .gt 41), none, none, some (.iload_n 0), some (.iload_n 3), some (.iload_n 2), some (.invokestatic 341), none, none, some (.iload_n 0), some (.iload_n 1), some (.iload_n 2)],
  [some (.invokestatic 341), none, none, some (.if_icmp .gt 18), none, none, some (.iload_n 0), some (.iload_n 3), some (.iload_n 1), some (.invokestatic 341), none, none, some (.iload_n 0), some (.iload_n 2), some (.iload_n 1), some (.invokestatic 341)],
  [none, none, some (.if_icmp .le 5), none, none, some (.iconst 0), some .ireturn, some (.iinc 3 1), none, none, some (.goto (-40)), none, none, some (.iconst 1), some .ireturn]]
-- 135: CushionCourt.gain(III)I
def k_135 : List (List (Option Instr)) := [[some (.iload_n 1), some (.iload_n 2), some (.if_icmp .le 7), none, none, some (.iload_n 0), some (.iload_n 1), some .isub, some .ireturn, some (.iload_n 1), some (.iload_n 2), some (.if_icmp .ne 11), none, none, some (.iload_n 0), some (.iconst 2)],
  [some .idiv, some (.iload_n 1), some .isub, some (.goto 5), none, none, some (.iload_n 1), some .ineg, some .ireturn]]
-- 136: CushionCourt.empties(I)I
def k_136 : List (List (Option Instr)) := [[some (.aload_n 0), some (.iload_n 1), some (.invokevirtual 180), none, none, some (.ifCond .ne 5), none, none, some (.iconst (-1)), some .ireturn, some (.aload_n 0), some (.getfield 39), none, none, some (.getfield 183), none],
  [none, some (.iload_n 1), some .iaload, some (.istore_n 2), some (.aload_n 0), some (.getfield 39), none, none, some (.getfield 192), none, none, some (.iload_n 2), some .iaload, some (.ifCond .ne 5), none, none],
  [some (.iconst 0), some .ireturn, some (.aload_n 0), some (.invokevirtual 268), none, none, some (.aload_n 0), some (.getfield 43), none, none, some (.iload_n 2), some (.iconst 0), some (.invokevirtual 248), none, none, some (.aload_n 0)],
  [some (.getfield 61), none, none, some (.aload_n 0), some (.getfield 43), none, none, some (.aload_n 0), some (.invokevirtual 299), none, none, some (.invokevirtual 261), none, none, some (.iconst 1), some (.istore_n 3)],
  [some (.iload_n 3), some (.bipush 20), none, some (.if_icmp .gt 47), none, none, some (.aload_n 0), some (.getfield 61), none, none, some (.aload_n 0), some (.getfield 43), none, none, some (.invokevirtual 305), none],
  [none, some (.aload_n 0), some (.getfield 43), none, none, some (.getfield 192), none, none, some (.iload_n 2), some .iaload, some (.ifCond .ne 5), none, none, some (.iload_n 3), some .ireturn, some (.aload_n 0)],
  [some (.getfield 61), none, none, some (.aload_n 0), some (.getfield 43), none, none, some (.bipush 6), none, some (.invokevirtual 261), none, none, some (.iinc 3 1), none, none, some (.goto (-47))],
  [none, none, some (.bipush (-2)), none, some .ireturn]]
-- 137: CushionCourt.plumpest()I
def k_137 : List (List (Option Instr)) := [[some (.iconst (-1)), some (.istore_n 1), some (.iconst (-1)), some (.istore_n 2), some (.iconst 0), some (.istore_n 3), some (.iload_n 3), some (.aload_n 0), some (.getfield 20), none, none, some (.getfield 127), none, none, some (.if_icmp .ge 39), none],
  [none, some (.aload_n 0), some (.getfield 39), none, none, some (.getfield 192), none, none, some (.aload_n 0), some (.getfield 39), none, none, some (.getfield 183), none, none, some (.iload_n 3)],
  [some .iaload, some .iaload, some (.istore 4), none, some (.iload 4), none, some (.iload_n 2), some (.if_icmp .le 8), none, none, some (.iload 4), none, some (.istore_n 2), some (.iload_n 3), some (.istore_n 1), some (.iinc 3 1)],
  [none, none, some (.goto (-44)), none, none, some (.iload_n 1), some .ireturn]]
-- 138: CushionCourt.gossip(I)I
def k_138 : List (List (Option Instr)) := [[some (.aload_n 0), some (.iload_n 1), some (.invokevirtual 146), none, none, some (.ifCond .ne 5), none, none, some (.iconst (-1)), some .ireturn, some (.iconst 0), some (.istore_n 2), some (.iconst 0), some (.istore_n 3), some (.iload_n 3), some (.aload_n 0)],
  [some (.getfield 20), none, none, some (.getfield 143), none, none, some (.if_icmp .ge 31), none, none, some (.aload_n 0), some (.getfield 39), none, none, some (.getfield 208), none, none],
  [some (.iload_n 3), some .iaload, some (.iload_n 1), some .ishr, some (.iconst 1), some .iand, some (.ifCond .eq 9), none, none, some (.iload_n 2), some (.iconst 1), some (.iload_n 3), some .ishl, some .ior, some (.istore_n 2), some (.iinc 3 1)],
  [none, none, some (.goto (-36)), none, none, some (.iload_n 2), some .ireturn]]
-- 139: CushionCourt.learns(II)I
def k_139 : List (List (Option Instr)) := [[some (.aload_n 0), some (.iload_n 1), some (.invokevirtual 205), none, none, some (.ifCond .eq 14), none, none, some (.iload_n 2), some (.iconst 1), some (.if_icmp .lt 9), none, none, some (.iload_n 2), some (.bipush 99), none],
  [some (.if_icmp .le 5), none, none, some (.iconst (-1)), some .ireturn, some (.aload_n 0), some (.invokevirtual 268), none, none, some (.iconst 1), some (.istore_n 3), some (.iload_n 3), some (.iload_n 2), some (.if_icmp .gt 43), none, none],
  [some (.aload_n 0), some (.getfield 61), none, none, some (.aload_n 0), some (.getfield 43), none, none, some (.invokevirtual 305), none, none, some (.aload_n 0), some (.getfield 43), none, none, some (.getfield 208)],
  [none, none, some (.iload_n 1), some .iaload, some (.aload_n 0), some (.getfield 39), none, none, some (.getfield 208), none, none, some (.iload_n 1), some .iaload, some (.if_icmp .eq 5), none, none],
  [some (.iload_n 3), some .ireturn, some (.iinc 3 1), none, none, some (.goto (-42)), none, none, some (.bipush (-2)), none, some .ireturn]]
-- 140: CushionCourt.plump(II)I
def k_140 : List (List (Option Instr)) := [[some (.aload_n 0), some (.iload_n 1), some (.invokevirtual 180), none, none, some (.ifCond .eq 10), none, none, some (.iload_n 2), some (.invokestatic 255), none, none, some (.ifCond .ne 5), none, none, some (.iconst (-1))],
  [some .ireturn, some (.aload_n 0), some (.invokevirtual 268), none, none, some (.aload_n 0), some (.getfield 61), none, none, some (.aload_n 0), some (.getfield 43), none, none, some (.iload_n 2), some (.invokevirtual 261), none],
  [none, some (.aload_n 0), some (.getfield 43), none, none, some (.getfield 192), none, none, some (.aload_n 0), some (.getfield 39), none, none, some (.getfield 183), none, none, some (.iload_n 1)],
  [some .iaload, some .iaload, some .ireturn]]
-- 141: CushionCourt.find(IIZ)I
def k_141 : List (List (Option Instr)) := [[some (.aload_n 0), some (.iload_n 1), some (.invokevirtual 146), none, none, some (.ifCond .eq 32), none, none, some (.aload_n 0), some (.iload_n 2), some (.invokevirtual 180), none, none, some (.ifCond .eq 24), none, none],
  [some (.aload_n 0), some (.getfield 75), none, none, some (.iload_n 1), some (.iload_n 2), some (.iload_n 3), some (.ifCond .eq 7), none, none, some (.iconst 1), some (.goto 4), none, none, some (.iconst 0), some (.invokevirtual 344)],
  [none, none, some (.goto 4), none, none, some (.iconst (-1)), some .ireturn]]
-- 142: CushionCourt.strike(I)I
def k_142 : List (List (Option Instr)) := [[some (.iload_n 1), some (.ifCond .lt 27), none, none, some (.iload_n 1), some (.aload_n 0), some (.getfield 75), none, none, some (.getfield 347), none, none, some (.if_icmp .ge 16), none, none, some (.aload_n 0)],
  [some (.getfield 75), none, none, some (.iload_n 1), some (.iconst (-1)), some (.iconst 2), some (.invokevirtual 344), none, none, some (.goto 4), none, none, some (.iconst (-1)), some .ireturn]]
-- 143: CushionCourt.known(I)Z
def k_143 : List (List (Option Instr)) := [[some (.iload_n 1), some (.iconst (-1)), some (.if_icmp .lt 14), none, none, some (.iload_n 1), some (.aload_n 0), some (.getfield 75), none, none, some (.getfield 347), none, none, some (.if_icmp .le 5), none, none],
  [some (.iconst 0), some .ireturn, some (.aload_n 0), some (.getfield 75), none, none, some (.iload_n 1), some (.putfield 350), none, none, some (.iconst 1), some .ireturn]]
-- 144: CushionCourt.ways()I
def k_144 : List (List (Option Instr)) := [[some (.aload_n 0), some (.getfield 75), none, none, some (.aload_n 0), some (.getfield 20), none, none, some (.aload_n 0), some (.getfield 39), none, none, some (.invokevirtual 353), none, none, some (.aload_n 0)],
  [some (.getfield 75), none, none, some (.aload_n 0), some (.getfield 20), none, none, some (.getfield 127), none, none, some (.iconst (-1)), some (.iconst 0), some (.invokevirtual 356), none, none, some .ireturn]]
-- 145: CushionCourt.whose(I)I
def k_145 : List (List (Option Instr)) := [[some (.aload_n 0), some (.iload_n 1), some (.invokevirtual 180), none, none, some (.ifCond .ne 5), none, none, some (.iconst (-1)), some .ireturn, some (.aload_n 0), some (.getfield 75), none, none, some (.aload_n 0), some (.getfield 20)],
  [none, none, some (.aload_n 0), some (.getfield 39), none, none, some (.invokevirtual 353), none, none, some (.iconst 0), some (.istore_n 2), some (.iconst 0), some (.istore_n 3), some (.iload_n 3), some (.aload_n 0), some (.getfield 20)],
  [none, none, some (.getfield 127), none, none, some (.if_icmp .ge 34), none, none, some (.aload_n 0), some (.getfield 75), none, none, some (.aload_n 0), some (.getfield 20), none, none],
  [some (.getfield 127), none, none, some (.iload_n 1), some (.iload_n 3), some (.invokevirtual 356), none, none, some (.ifCond .le 9), none, none, some (.iload_n 2), some (.iconst 1), some (.iload_n 3), some .ishl, some .ior],
  [some (.istore_n 2), some (.iinc 3 1), none, none, some (.goto (-39)), none, none, some (.iload_n 2), some .ireturn]]
-- 146: CushionCourt.leans(I)I
def k_146 : List (List (Option Instr)) := [[some (.aload_n 0), some (.iload_n 1), some (.invokevirtual 180), none, none, some (.ifCond .ne 5), none, none, some (.iconst (-1)), some .ireturn, some (.iconst 0), some (.istore_n 2), some (.iconst 0), some (.istore_n 3), some (.iload_n 3), some (.bipush 10)],
  [none, some (.if_icmp .ge 27), none, none, some (.aload_n 0), some (.iload_n 1), some (.bipush 10), none, some (.iload_n 3), some .imul, some (.invokevirtual 359), none, none, some (.ifCond .eq 9), none, none],
  [some (.iload_n 2), some (.iconst 1), some (.iload_n 3), some .ishl, some .ior, some (.istore_n 2), some (.iinc 3 1), none, none, some (.goto (-27)), none, none, some (.iload_n 2), some .ireturn]]
-- 147: CushionCourt.isAsSaid(II)Z
def k_147 : List (List (Option Instr)) := [[some (.iconst 0), some (.istore_n 3), some (.iload_n 3), some (.aload_n 0), some (.getfield 20), none, none, some (.getfield 137), none, none, some (.if_icmp .ge 139), none, none, some (.aload_n 0), some (.getfield 39), none],
  [none, some (.getfield 157), none, none, some (.iload_n 3), some .iaload, some (.iload_n 1), some (.if_icmp .ne 120), none, none, some (.aload_n 0), some (.getfield 39), none, none, some (.getfield 169), none],
  [none, some (.iload_n 3), some .iaload, some (.iconst (-1)), some (.if_icmp .eq 107), none, none, some (.aload_n 0), some (.getfield 20), none, none, some (.getfield 160), none, none, some (.iload_n 3), some .iaload],
  [some (.istore 4), none, some (.aload_n 0), some (.getfield 52), none, none, some (.iload_n 2), some (.aload_n 0), some (.getfield 20), none, none, some (.getfield 189), none, none, some (.iload_n 1), some .iaload],
  [some (.aload_n 0), some (.getfield 20), none, none, some (.getfield 163), none, none, some (.iload_n 3), some .iaload, some (.iconst 0), some (.aload_n 0), some (.getfield 20), none, none, some (.iload 4), none],
  [some (.invokevirtual 211), none, none, some (.iload 4), none, some (.invokevirtual 363), none, none, some (.aload_n 0), some (.getfield 52), none, none, some (.aload_n 0), some (.getfield 20), none, none],
  [some (.getfield 228), none, none, some (.aload_n 0), some (.getfield 52), none, none, some (.aload_n 0), some (.getfield 20), none, none, some (.getfield 228), none, none, some (.invokevirtual 326), none],
  [none, some (.invokevirtual 367), none, none, some (.istore 5), none, some (.iload 5), none, some (.aload_n 0), some (.getfield 39), none, none, some (.getfield 169), none, none, some (.iload_n 3)],
  [some .iaload, some (.iconst 1), some (.if_icmp .ne 7), none, none, some (.iconst 1), some (.goto 4), none, none, some (.iconst 0), some (.if_icmp .eq 5), none, none, some (.iconst 0), some .ireturn, some (.iinc 3 1)],
  [none, none, some (.goto (-144)), none, none, some (.iconst 1), some .ireturn]]
-- 148: CushionCourt.chance(III)I
def k_148 : List (List (Option Instr)) := [[some (.iload_n 1), some (.ifCond .lt 24), none, none, some (.iload_n 2), some (.iconst 1), some (.if_icmp .lt 19), none, none, some (.iload_n 2), some (.bipush 99), none, some (.if_icmp .gt 13), none, none, some (.iload_n 3)],
  [some (.ifCond .lt 9), none, none, some (.iload_n 3), some (.bipush 99), none, some (.if_icmp .le 5), none, none, some (.iconst (-1)), some .ireturn, some (.iload_n 1), some .i2l, some (.lstore 4), none, some (.iconst 0)],
  [some (.istore 6), none, some (.iconst 0), some (.istore 7), none, some (.iload 7), none, some (.bipush 10), none, some (.if_icmp .ge 84), none, none, some (.aload_n 0), some (.invokevirtual 268), none, none],
  [some (.iconst 0), some (.istore 8), none, some (.iload 8), none, some (.iload_n 2), some (.if_icmp .ge 54), none, none, some (.lload 4), none, some (.ldc2_w 371), none, none, some .lmul, some (.ldc2_w 373)],
  [none, none, some .ladd, some (.ldc2_w 375), none, none, some .land, some (.lstore 4), none, some (.aload_n 0), some (.getfield 61), none, none, some (.lload 4), none, some (.ldc2_w 377)],
  [none, none, some .ldiv, some (.ldc2_w 379), none, none, some .lrem, some .l2i, some (.putfield 381), none, none, some (.aload_n 0), some (.getfield 61), none, none, some (.aload_n 0)],
  [some (.getfield 43), none, none, some (.invokevirtual 305), none, none, some (.iinc 8 1), none, none, some (.goto (-54)), none, none, some (.aload_n 0), some (.invokevirtual 286), none, none],
  [some (.iload_n 3), some (.if_icmp .lt 6), none, none, some (.iinc 6 1), none, none, some (.iinc 7 1), none, none, some (.goto (-85)), none, none, some (.iload 6), none, some .ireturn]]
-- 149: CushionCourt.tried(III)I
def k_149 : List (List (Option Instr)) := [[some (.iload_n 3), some (.invokestatic 255), none, none, some (.ifCond .eq 23), none, none, some (.iload_n 1), some (.iconst 2), some (.if_icmp .ne 14), none, none, some (.aload_n 0), some (.iload_n 2), some (.invokevirtual 180), none],
  [none, some (.ifCond .ne 12), none, none, some (.goto 7), none, none, some (.iload_n 2), some (.ifCond .eq 5), none, none, some (.iconst (-1)), some .ireturn, some (.aload_n 0), some (.invokevirtual 268), none],
  [none, some (.iload_n 1), some (.tableswitch 90 0 4 #[34, 45, 56, 67, 78]), none, none, none, none, none, none, none, none, none, none, none, none, none],
  [none, none, none, none, none, none, none, none, none, none, none, none, none, none, none, none],
  [none, none, none, none, some (.aload_n 0), some (.getfield 43), none, none, some (.iconst 0), some (.putfield 302), none, none, some (.goto 50), none, none, some (.aload_n 0)],
  [some (.getfield 61), none, none, some (.iconst 0), some (.putfield 381), none, none, some (.goto 39), none, none, some (.aload_n 0), some (.getfield 61), none, none, some (.iload_n 2), some (.putfield 384)],
  [none, none, some (.goto 28), none, none, some (.aload_n 0), some (.getfield 61), none, none, some (.iconst 1), some (.putfield 387), none, none, some (.goto 17), none, none],
  [some (.aload_n 0), some (.getfield 61), none, none, some (.bipush 9), none, some (.putfield 390), none, none, some (.goto 5), none, none, some (.iconst (-1)), some .ireturn, some (.aload_n 0), some (.getfield 61)],
  [none, none, some (.aload_n 0), some (.getfield 43), none, none, some (.iload_n 3), some (.invokevirtual 261), none, none, some (.aload_n 0), some (.invokevirtual 286), none, none, some .ireturn]]
-- 150: CushionCourt.undo()I
def k_150 : List (List (Option Instr)) := [[some (.aload_n 0), some (.getfield 68), none, none, some (.getfield 393), none, none, some (.ifCond .ne 5), none, none, some (.iconst (-1)), some .ireturn, some (.aload_n 0), some (.getfield 68), none, none],
  [some (.aload_n 0), some (.getfield 39), none, none, some (.invokevirtual 394), none, none, some (.aload_n 0), some (.getfield 68), none, none, some (.getfield 393), none, none, some .ireturn]]
-- 151: CushionCourt.keep()I
def k_151 : List (List (Option Instr)) := [[some (.aload_n 0), some (.getfield 46), none, none, some (.aload_n 0), some (.getfield 39), none, none, some (.invokevirtual 265), none, none, some (.aload_n 0), some (.iconst 1), some (.putfield 116), none, none],
  [some (.aload_n 0), some (.getfield 39), none, none, some (.getfield 218), none, none, some .ireturn]]
-- 152: CushionCourt.back()I
def k_152 : List (List (Option Instr)) := [[some (.aload_n 0), some (.getfield 116), none, none, some (.ifCond .ne 5), none, none, some (.iconst (-1)), some .ireturn, some (.aload_n 0), some (.getfield 39), none, none, some (.aload_n 0), some (.getfield 46), none],
  [none, some (.invokevirtual 265), none, none, some (.aload_n 0), some (.getfield 68), none, none, some (.invokevirtual 115), none, none, some (.aload_n 0), some (.getfield 39), none, none, some (.getfield 218)],
  [none, none, some .ireturn]]
-- 153: CushionCourt.count(I)I
def k_153 : List (List (Option Instr)) := [[some (.iload_n 1), some (.tableswitch 177 0 12 #[67, 75, 83, 91, 102, 110, 118, 126, 135, 144, 153, 161, 169]), none, none, none, none, none, none, none, none, none, none, none, none, none, none],
  [none, none, none, none, none, none, none, none, none, none, none, none, none, none, none, none],
  [none, none, none, none, none, none, none, none, none, none, none, none, none, none, none, none],
  [none, none, none, none, none, none, none, none, none, none, none, none, none, none, none, none],
  [none, none, none, none, some (.aload_n 0), some (.getfield 20), none, none, some (.getfield 127), none, none, some .ireturn, some (.aload_n 0), some (.getfield 20), none, none],
  [some (.getfield 137), none, none, some .ireturn, some (.aload_n 0), some (.getfield 20), none, none, some (.getfield 143), none, none, some .ireturn, some (.aload_n 0), some (.getfield 20), none, none],
  [some (.getfield 228), none, none, some (.getfield 397), none, none, some .ireturn, some (.aload_n 0), some (.getfield 39), none, none, some (.getfield 218), none, none, some .ireturn, some (.aload_n 0)],
  [some (.getfield 39), none, none, some (.invokevirtual 402), none, none, some .ireturn, some (.aload_n 0), some (.getfield 39), none, none, some (.invokevirtual 271), none, none, some .ireturn, some (.aload_n 0)],
  [some (.getfield 39), none, none, some (.iconst 1), some (.invokevirtual 283), none, none, some .ireturn, some (.aload_n 0), some (.getfield 39), none, none, some (.iconst 2), some (.invokevirtual 283), none, none],
  [some .ireturn, some (.aload_n 0), some (.getfield 39), none, none, some (.iconst 3), some (.invokevirtual 283), none, none, some .ireturn, some (.aload_n 0), some (.getfield 75), none, none, some (.getfield 347), none],
  [none, some .ireturn, some (.aload_n 0), some (.getfield 75), none, none, some (.invokevirtual 405), none, none, some .ireturn, some (.aload_n 0), some (.getfield 68), none, none, some (.getfield 393), none],
  [none, some .ireturn, some (.iconst (-1)), some .ireturn]]
-- 154: CushionCourtModel.<init>()V
def k_154 : List (List (Option Instr)) := [[some (.aload_n 0), some (.invokespecial 1), none, none, some (.aload_n 0), some (.sipush 700), none, none, some (.newarray .int), none, some (.putfield 7), none, none, some (.aload_n 0), some (.bipush 95), none],
  [some (.newarray .int), none, some .dup, some (.iconst 0), some (.bipush 106), none, some .iastore, some .dup, some (.iconst 1), some (.bipush 117), none, some .iastore, some .dup, some (.iconst 2), some (.bipush 100), none],
  [some .iastore, some .dup, some (.iconst 3), some (.bipush 103), none, some .iastore, some .dup, some (.iconst 4), some (.bipush 101), none, some .iastore, some .dup, some (.iconst 5), some (.bipush 32), none, some .iastore],
  [some .dup, some (.bipush 6), none, some (.bipush 99), none, some .iastore, some .dup, some (.bipush 7), none, some (.bipush 97), none, some .iastore, some .dup, some (.bipush 8), none, some (.bipush 117)],
  [none, some .iastore, some .dup, some (.bipush 9), none, some (.bipush 115), none, some .iastore, some .dup, some (.bipush 10), none, some (.bipush 101), none, some .iastore, some .dup, some (.bipush 11)],
  [none, some (.bipush 32), none, some .iastore, some .dup, some (.bipush 12), none, some (.bipush 99), none, some .iastore, some .dup, some (.bipush 13), none, some (.bipush 108), none, some .iastore],
  [some .dup, some (.bipush 14), none, some (.bipush 101), none, some .iastore, some .dup, some (.bipush 15), none, some (.bipush 114), none, some .iastore, some .dup, some (.bipush 16), none, some (.bipush 107)],
  [none, some .iastore, some .dup, some (.bipush 17), none, some (.bipush 32), none, some .iastore, some .dup, some (.bipush 18), none, some (.bipush 100), none, some .iastore, some .dup, some (.bipush 19)],
  [none, some (.bipush 97), none, some .iastore, some .dup, some (.bipush 20), none, some (.bipush 109), none, some .iastore, some .dup, some (.bipush 21), none, some (.bipush 112), none, some .iastore],
  [some .dup, some (.bipush 22), none, some (.bipush 32), none, some .iastore, some .dup, some (.bipush 23), none, some (.bipush 98), none, some .iastore, some .dup, some (.bipush 24), none, some (.bipush 101)],
  [none, some .iastore, some .dup, some (.bipush 25), none, some (.bipush 97), none, some .iastore, some .dup, some (.bipush 26), none, some (.bipush 116), none, some .iastore, some .dup, some (.bipush 27)],
  [none, some (.bipush 32), none, some .iastore, some .dup, some (.bipush 28), none, some (.bipush 108), none, some .iastore, some .dup, some (.bipush 29), none, some (.bipush 97), none, some .iastore],
  [some .dup, some (.bipush 30), none, some (.bipush 119), none, some .iastore, some .dup, some (.bipush 31), none, some (.bipush 32), none, some .iastore, some .dup, some (.bipush 32), none, some (.bipush 116)],
  [none, some .iastore, some .dup, some (.bipush 33), none, some (.bipush 104), none, some .iastore, some .dup, some (.bipush 34), none, some (.bipush 105), none, some .iastore, some .dup, some (.bipush 35)],
  [none, some (.bipush 110), none, some .iastore, some .dup, some (.bipush 36), none, some (.bipush 107), none, some .iastore, some .dup, some (.bipush 37), none, some (.bipush 32), none, some .iastore],
  [some .dup, some (.bipush 38), none, some (.bipush 115), none, some .iastore, some .dup, some (.bipush 39), none, some (.bipush 97), none, some .iastore, some .dup, some (.bipush 40), none, some (.bipush 121)],
  [none, some .iastore, some .dup, some (.bipush 41), none, some (.bipush 32), none, some .iastore, some .dup, some (.bipush 42), none, some (.bipush 102), none, some .iastore, some .dup, some (.bipush 43)],
  [none, some (.bipush 108), none, some .iastore, some .dup, some (.bipush 44), none, some (.bipush 121), none, some .iastore, some .dup, some (.bipush 45), none, some (.bipush 32), none, some .iastore],
  [some .dup, some (.bipush 46), none, some (.bipush 97), none, some .iastore, some .dup, some (.bipush 47), none, some (.bipush 110), none, some .iastore, some .dup, some (.bipush 48), none, some (.bipush 100)],
  [none, some .iastore, some .dup, some (.bipush 49), none, some (.bipush 32), none, some .iastore, some .dup, some (.bipush 50), none, some (.bipush 111), none, some .iastore, some .dup, some (.bipush 51)],
  [none, some (.bipush 114), none, some .iastore, some .dup, some (.bipush 52), none, some (.bipush 32), none, some .iastore, some .dup, some (.bipush 53), none, some (.bipush 110), none, some .iastore],
  [some .dup, some (.bipush 54), none, some (.bipush 111), none, some .iastore, some .dup, some (.bipush 55), none, some (.bipush 116), none, some .iastore, some .dup, some (.bipush 56), none, some (.bipush 32)],
  [none, some .iastore, some .dup, some (.bipush 57), none, some (.bipush 108), none, some .iastore, some .dup, some (.bipush 58), none, some (.bipush 101), none, some .iastore, some .dup, some (.bipush 59)],
  [none, some (.bipush 97), none, some .iastore, some .dup, some (.bipush 60), none, some (.bipush 110), none, some .iastore, some .dup, some (.bipush 61), none, some (.bipush 32), none, some .iastore],
  [some .dup, some (.bipush 62), none, some (.bipush 115), none, some .iastore, some .dup, some (.bipush 63), none, some (.bipush 116), none, some .iastore, some .dup, some (.bipush 64), none, some (.bipush 105)],
  [none, some .iastore, some .dup, some (.bipush 65), none, some (.bipush 102), none, some .iastore, some .dup, some (.bipush 66), none, some (.bipush 102), none, some .iastore, some .dup, some (.bipush 67)],
  [none, some (.bipush 32), none, some .iastore, some .dup, some (.bipush 68), none, some (.bipush 103), none, some .iastore, some .dup, some (.bipush 69), none, some (.bipush 114), none, some .iastore],
  [some .dup, some (.bipush 70), none, some (.bipush 97), none, some .iastore, some .dup, some (.bipush 71), none, some (.bipush 118), none, some .iastore, some .dup, some (.bipush 72), none, some (.bipush 101)],
  [none, some .iastore, some .dup, some (.bipush 73), none, some (.bipush 32), none, some .iastore, some .dup, some (.bipush 74), none, some (.bipush 112), none, some .iastore, some .dup, some (.bipush 75)],
  [none, some (.bipush 108), none, some .iastore, some .dup, some (.bipush 76), none, some (.bipush 117), none, some .iastore, some .dup, some (.bipush 77), none, some (.bipush 109), none, some .iastore],
  [some .dup, some (.bipush 78), none, some (.bipush 112), none, some .iastore, some .dup, some (.bipush 79), none, some (.bipush 32), none, some .iastore, some .dup, some (.bipush 80), none, some (.bipush 109)],
  [none, some .iastore, some .dup, some (.bipush 81), none, some (.bipush 111), none, some .iastore, some .dup, some (.bipush 82), none, some (.bipush 105), none, some .iastore, some .dup, some (.bipush 83)],
  [none, some (.bipush 115), none, some .iastore, some .dup, some (.bipush 84), none, some (.bipush 116), none, some .iastore, some .dup, some (.bipush 85), none, some (.bipush 32), none, some .iastore],
  [some .dup, some (.bipush 86), none, some (.bipush 115), none, some .iastore, some .dup, some (.bipush 87), none, some (.bipush 117), none, some .iastore, some .dup, some (.bipush 88), none, some (.bipush 114)],
  [none, some .iastore, some .dup, some (.bipush 89), none, some (.bipush 101), none, some .iastore, some .dup, some (.bipush 90), none, some (.bipush 32), none, some .iastore, some .dup, some (.bipush 91)],
  [none, some (.bipush 100), none, some .iastore, some .dup, some (.bipush 92), none, some (.bipush 97), none, some .iastore, some .dup, some (.bipush 93), none, some (.bipush 121), none, some .iastore],
  [some .dup, some (.bipush 94), none, some (.bipush 32), none, some .iastore, some (.putfield 13), none, none, some (.aload_n 0), some (.iconst (-1)), some (.putfield 16), none, none, some (.aload_n 0), some (.iconst 1)],
  [some (.newarray .boolean), none, some (.putfield 20), none, none, some (.aload_n 0), some (.iconst 2), some (.newarray .int), none, some (.putfield 24), none, none, some (.aload_n 0), some (.bipush 10), none, some (.newarray .int)],
  [none, some (.putfield 27), none, none, some (.aload_n 0), some (.bipush 10), none, some (.newarray .int), none, some (.putfield 30), none, none, some (.aload_n 0), some (.bipush 10), none, some (.newarray .int)],
  [none, some (.putfield 33), none, none, some (.aload_n 0), some (.bipush 20), none, some (.newarray .int), none, some (.putfield 36), none, none, some (.aload_n 0), some (.bipush 20), none, some (.newarray .int)],
  [none, some (.putfield 39), none, none, some (.aload_n 0), some (.bipush 20), none, some (.newarray .int), none, some (.putfield 42), none, none, some (.aload_n 0), some (.bipush 20), none, some (.newarray .int)],
  [none, some (.putfield 45), none, none, some (.aload_n 0), some (.bipush 10), none, some (.newarray .int), none, some (.putfield 48), none, none, some (.aload_n 0), some (.bipush 10), none, some (.newarray .int)],
  [none, some (.putfield 51), none, none, some (.aload_n 0), some (.bipush 10), none, some (.newarray .int), none, some (.putfield 54), none, none, some (.aload_n 0), some (.bipush 16), none, some (.newarray .int)],
  [none, some (.putfield 57), none, none, some (.aload_n 0), some (.bipush 6), none, some (.newarray .boolean), none, some (.putfield 60), none, none, some (.aload_n 0), some (.bipush 6), none, some (.newarray .int)],
  [none, some (.putfield 63), none, none, some (.aload_n 0), some (.bipush 6), none, some (.newarray .int), none, some (.putfield 66), none, none, some (.aload_n 0), some (.sipush 128), none, none],
  [some (.newarray .int), none, some (.putfield 69), none, none, some (.aload_n 0), some (.sipush 128), none, none, some (.newarray .int), none, some (.putfield 72), none, none, some (.aload_n 0), some (.sipush 128)],
  [none, none, some (.newarray .int), none, some (.putfield 75), none, none, some (.aload_n 0), some (.bipush 96), none, some (.newarray .int), none, some (.putfield 78), none, none, some (.aload_n 0)],
  [some (.bipush 96), none, some (.newarray .int), none, some (.putfield 81), none, none, some (.aload_n 0), some (.bipush 7), none, some (.newarray .long), none, some (.putfield 84), none, none, some (.aload_n 0)],
  [some (.bipush 64), none, some (.newarray .long), none, some (.putfield 88), none, none, some (.aload_n 0), some (.bipush 10), none, some (.newarray .int), none, some (.putfield 91), none, none, some (.aload_n 0)],
  [some (.bipush 10), none, some (.newarray .boolean), none, some (.putfield 94), none, none, some (.aload_n 0), some (.bipush 10), none, some (.newarray .int), none, some (.putfield 97), none, none, some (.aload_n 0)],
  [some (.bipush 80), none, some (.newarray .int), none, some (.putfield 100), none, none, some (.aload_n 0), some (.bipush 20), none, some (.newarray .int), none, some (.putfield 103), none, none, some (.aload_n 0)],
  [some (.bipush 20), none, some (.newarray .int), none, some (.putfield 106), none, none, some (.aload_n 0), some (.bipush 20), none, some (.newarray .int), none, some (.putfield 109), none, none, some (.aload_n 0)],
  [some (.bipush 20), none, some (.newarray .int), none, some (.putfield 112), none, none, some (.aload_n 0), some (.bipush 10), none, some (.newarray .int), none, some (.putfield 115), none, none, some (.aload_n 0)],
  [some (.iconst 2), some (.newarray .int), none, some (.putfield 118), none, none, some (.aload_n 0), some (.iconst 2), some (.newarray .int), none, some (.putfield 121), none, none, some (.aload_n 0), some (.iconst 2), some (.newarray .int)],
  [none, some (.putfield 124), none, none, some (.aload_n 0), some (.iconst 5), some (.newarray .int), none, some (.putfield 127), none, none, some (.aload_n 0), some (.bipush 6), none, some (.newarray .int), none],
  [some (.putfield 130), none, none, some (.aload_n 0), some (.iconst 5), some (.newarray .int), none, some (.putfield 133), none, none, some (.aload_n 0), some (.iconst (-1)), some (.putfield 136), none, none, some (.aload_n 0)],
  [some (.bipush 72), none, some (.newarray .int), none, some (.putfield 139), none, none, some (.aload_n 0), some (.bipush 24), none, some (.newarray .boolean), none, some (.putfield 142), none, none, some (.aload_n 0)],
  [some (.iconst 5), some (.newarray .int), none, some (.putfield 145), none, none, some (.aload_n 0), some (.sipush 1520), none, none, some (.newarray .int), none, some (.putfield 148), none, none, some (.aload_n 0)],
  [some (.bipush 76), none, some (.newarray .int), none, some (.putfield 151), none, none, some (.aload_n 0), some (.bipush 27), none, some (.newarray .int), none, some (.putfield 154), none, none, some (.aload_n 0)],
  [some (.invokevirtual 157), none, none, some (.aload_n 0), some (.invokevirtual 160), none, none, some .return_]]
-- 155: CushionCourtModel.thrown()I
def k_155 : List (List (Option Instr)) := [[some (.aload_n 0), some (.getfield 163), none, none, some .ireturn]]
-- 156: CushionCourtModel.feed(IIIII)I
def k_156 : List (List (Option Instr)) := [[some (.aload_n 0), some (.iconst 0), some (.putfield 163), none, none, some (.aload_n 0), some (.getfield 166), none, none, some (.bipush 20), none, some .iadd, some (.sipush 700), none, none, some (.if_icmp .le 5)],
  [none, none, some (.iconst (-1)), some .ireturn, some (.iconst 0), some (.istore 6), none, some (.iload 6), none, some (.bipush 20), none, some (.if_icmp .ge 86), none, none, some (.iload 6), none],
  [some (.iconst 4), some (.if_icmp .ge 7), none, none, some (.iload_n 1), some (.goto 39), none, none, some (.iload 6), none, some (.bipush 8), none, some (.if_icmp .ge 7), none, none, some (.iload_n 2)],
  [some (.goto 28), none, none, some (.iload 6), none, some (.bipush 12), none, some (.if_icmp .ge 7), none, none, some (.iload_n 3), some (.goto 17), none, none, some (.iload 6), none],
  [some (.bipush 16), none, some (.if_icmp .ge 8), none, none, some (.iload 4), none, some (.goto 5), none, none, some (.iload 5), none, some (.istore 7), none, some (.aload_n 0), some (.getfield 7)],
  [none, none, some (.aload_n 0), some (.getfield 166), none, none, some (.iload 6), none, some .iadd, some (.iload 7), none, some (.bipush 24), none, some (.bipush 8), none, some (.iload 6)],
  [none, some (.iconst 4), some .irem, some .imul, some .isub, some .ishr, some (.sipush 255), none, none, some .iand, some .iastore, some (.iinc 6 1), none, none, some (.goto (-87)), none],
  [none, some (.aload_n 0), some .dup, some (.getfield 166), none, none, some (.bipush 20), none, some .iadd, some (.putfield 166), none, none, some (.aload_n 0), some (.getfield 166), none, none],
  [some .ireturn]]
-- 157: CushionCourtModel.isIn(III)Z
def k_157 : List (List (Option Instr)) := [[some (.iload_n 0), some (.iload_n 1), some (.if_icmp .lt 12), none, none, some (.iload_n 0), some (.iload_n 2), some (.if_icmp .gt 7), none, none, some (.iconst 1), some (.goto 4), none, none, some (.iconst 0), some .ireturn]]
-- 158: CushionCourtModel.isOf(II)Z
def k_158 : List (List (Option Instr)) := [[some (.iload_n 0), some (.iload_n 1), some .ishr, some (.iconst 1), some .iand, some (.iconst 1), some (.if_icmp .ne 7), none, none, some (.iconst 1), some (.goto 4), none, none, some (.iconst 0), some .ireturn]]
-- 159: CushionCourtModel.wrong(I)Z
def k_159 : List (List (Option Instr)) := [[some (.aload_n 0), some (.iload_n 1), some (.putfield 169), none, none, some (.aload_n 0), some (.aload_n 0), some (.getfield 172), none, none, some (.putfield 16), none, none, some (.iconst 0), some .ireturn]]
-- 160: CushionCourtModel.wordAt(II)I
def k_160 : List (List (Option Instr)) := [[some (.iconst 0), some (.istore_n 3), some (.iconst 0), some (.istore 4), none, some (.iload 4), none, some (.aload_n 0), some (.getfield 13), none, none, some .arraylength, some (.if_icmp .ge 114), none, none, some (.iconst 0)],
  [some (.istore 5), none, some (.aload_n 0), some (.getfield 13), none, none, some (.iload 4), none, some (.iload 5), none, some .iadd, some .iaload, some (.bipush 32), none, some (.if_icmp .eq 9), none],
  [none, some (.iinc 5 1), none, none, some (.goto (-18)), none, none, some (.iload 5), none, some (.iload_n 2), some (.iload_n 1), some .isub, some (.if_icmp .ne 7), none, none, some (.iconst 1)],
  [some (.goto 4), none, none, some (.iconst 0), some (.istore 6), none, some (.iconst 0), some (.istore 7), none, some (.iload 7), none, some (.iload 5), none, some (.if_icmp .ge 43), none, none],
  [some (.iload 6), none, some (.ifCond .eq 38), none, none, some (.aload_n 0), some (.getfield 13), none, none, some (.iload 4), none, some (.iload 7), none, some .iadd, some .iaload, some (.aload_n 0)],
  [some (.getfield 7), none, none, some (.iload_n 1), some (.iload 7), none, some .iadd, some .iaload, some (.if_icmp .ne 7), none, none, some (.iconst 1), some (.goto 4), none, none, some (.iconst 0)],
  [some (.istore 6), none, some (.iinc 7 1), none, none, some (.goto (-44)), none, none, some (.iload 6), none, some (.ifCond .eq 5), none, none, some (.iload_n 3), some .ireturn, some (.iload 4)],
  [none, some (.iload 5), none, some (.iconst 1), some .iadd, some .iadd, some (.istore 4), none, some (.iinc 3 1), none, none, some (.goto (-118)), none, none, some (.iconst (-1)), some .ireturn]]
-- 161: CushionCourtModel.isSmall(I)Z
def k_161 : List (List (Option Instr)) := [[some (.iload_n 1), some (.aload_n 0), some (.getfield 175), none, none, some (.if_icmp .ge 29), none, none, some (.aload_n 0), some (.getfield 7), none, none, some (.iload_n 1), some .iaload, some (.bipush 97), none],
  [some (.if_icmp .lt 18), none, none, some (.aload_n 0), some (.getfield 7), none, none, some (.iload_n 1), some .iaload, some (.bipush 122), none, some (.if_icmp .gt 7), none, none, some (.iconst 1), some (.goto 4)],
  [none, none, some (.iconst 0), some .ireturn]]
-- 162: CushionCourtModel.isDigit(I)Z
def k_162 : List (List (Option Instr)) := [[some (.iload_n 1), some (.aload_n 0), some (.getfield 175), none, none, some (.if_icmp .ge 29), none, none, some (.aload_n 0), some (.getfield 7), none, none, some (.iload_n 1), some .iaload, some (.bipush 48), none],
  [some (.if_icmp .lt 18), none, none, some (.aload_n 0), some (.getfield 7), none, none, some (.iload_n 1), some .iaload, some (.bipush 57), none, some (.if_icmp .gt 7), none, none, some (.iconst 1), some (.goto 4)],
  [none, none, some (.iconst 0), some .ireturn]]
-- 163: CushionCourtModel.token()V
def k_163 : List (List (Option Instr)) := [[some (.aload_n 0), some (.getfield 178), none, none, some (.aload_n 0), some (.getfield 175), none, none, some (.if_icmp .ge 44), none, none, some (.aload_n 0), some (.getfield 7), none, none, some (.aload_n 0)],
  [some (.getfield 178), none, none, some .iaload, some (.bipush 10), none, some (.if_icmp .eq 17), none, none, some (.aload_n 0), some (.getfield 7), none, none, some (.aload_n 0), some (.getfield 178), none],
  [none, some .iaload, some (.bipush 32), none, some (.if_icmp .ne 16), none, none, some (.aload_n 0), some .dup, some (.getfield 178), none, none, some (.iconst 1), some .iadd, some (.putfield 178), none],
  [none, some (.goto (-49)), none, none, some (.aload_n 0), some (.aload_n 0), some (.getfield 178), none, none, some (.putfield 172), none, none, some (.aload_n 0), some (.getfield 178), none, none],
  [some (.aload_n 0), some (.getfield 175), none, none, some (.if_icmp .ne 11), none, none, some (.aload_n 0), some (.iconst 0), some (.putfield 181), none, none, some (.goto 205), none, none, some (.aload_n 0)],
  [some (.aload_n 0), some (.getfield 178), none, none, some (.invokevirtual 184), none, none, some (.ifCond .eq 105), none, none, some (.aload_n 0), some (.aload_n 0), some (.getfield 178), none, none, some (.invokevirtual 184)],
  [none, none, some (.ifCond .eq 16), none, none, some (.aload_n 0), some .dup, some (.getfield 178), none, none, some (.iconst 1), some .iadd, some (.putfield 178), none, none, some (.goto (-21))],
  [none, none, some (.aload_n 0), some (.aload_n 0), some (.aload_n 0), some (.getfield 172), none, none, some (.aload_n 0), some (.getfield 178), none, none, some (.invokevirtual 188), none, none, some (.putfield 192)],
  [none, none, some (.aload_n 0), some (.aload_n 0), some (.getfield 192), none, none, some (.ifCond .lt 7), none, none, some (.iconst 1), some (.goto 23), none, none, some (.aload_n 0), some (.getfield 178)],
  [none, none, some (.aload_n 0), some (.getfield 172), none, none, some .isub, some (.bipush 6), none, some (.if_icmp .le 8), none, none, some (.bipush 6), none, some (.goto 4), none],
  [none, some (.iconst 2), some (.putfield 181), none, none, some (.aload_n 0), some (.getfield 181), none, none, some (.iconst 2), some (.if_icmp .ne 111), none, none, some (.aload_n 0), some (.aload_n 0), some (.aload_n 0)],
  [some (.getfield 172), none, none, some (.aload_n 0), some (.getfield 178), none, none, some (.invokevirtual 195), none, none, some (.putfield 192), none, none, some (.goto 92), none, none],
  [some (.aload_n 0), some (.aload_n 0), some (.getfield 178), none, none, some (.invokevirtual 198), none, none, some (.ifCond .eq 77), none, none, some (.aload_n 0), some (.iconst 3), some (.putfield 181), none, none],
  [some (.aload_n 0), some (.iconst 0), some (.putfield 192), none, none, some (.aload_n 0), some (.aload_n 0), some (.getfield 178), none, none, some (.invokevirtual 198), none, none, some (.ifCond .eq 60), none, none],
  [some (.aload_n 0), some (.aload_n 0), some (.getfield 192), none, none, some (.ldc 201), none, some (.if_icmp .le 10), none, none, some (.aload_n 0), some (.getfield 192), none, none, some (.goto 23), none],
  [none, some (.bipush 10), none, some (.aload_n 0), some (.getfield 192), none, none, some .imul, some (.aload_n 0), some (.getfield 7), none, none, some (.aload_n 0), some (.getfield 178), none, none],
  [some .iaload, some .iadd, some (.bipush 48), none, some .isub, some (.putfield 192), none, none, some (.aload_n 0), some .dup, some (.getfield 178), none, none, some (.iconst 1), some .iadd, some (.putfield 178)],
  [none, none, some (.goto (-61)), none, none, some (.aload_n 0), some (.invokevirtual 202), none, none, some .return_]]
-- 164: CushionCourtModel.signToken()V
def k_164 : List (List (Option Instr)) := [[some (.aload_n 0), some (.aload_n 0), some (.getfield 7), none, none, some (.aload_n 0), some (.getfield 178), none, none, some .iaload, some (.putfield 192), none, none, some (.aload_n 0), some .dup, some (.getfield 178)],
  [none, none, some (.iconst 1), some .iadd, some (.putfield 178), none, none, some (.aload_n 0), some (.getfield 192), none, none, some (.bipush 60), none, some (.if_icmp .eq 21), none, none],
  [some (.aload_n 0), some (.getfield 192), none, none, some (.bipush 62), none, some (.if_icmp .eq 12), none, none, some (.aload_n 0), some (.getfield 192), none, none, some (.bipush 61), none, some (.if_icmp .ne 151)],
  [none, none, some (.aload_n 0), some (.getfield 178), none, none, some (.aload_n 0), some (.getfield 175), none, none, some (.if_icmp .ge 15), none, none, some (.aload_n 0), some (.getfield 7), none],
  [none, some (.aload_n 0), some (.getfield 178), none, none, some .iaload, some (.goto 4), none, none, some (.iconst 0), some (.istore_n 1), some (.aload_n 0), some (.getfield 192), none, none, some (.bipush 61)],
  [none, some (.if_icmp .eq 13), none, none, some (.iload_n 1), some (.bipush 61), none, some (.if_icmp .ne 7), none, none, some (.iconst 1), some (.goto 4), none, none, some (.iconst 0), some (.istore_n 2)],
  [some (.aload_n 0), some (.getfield 192), none, none, some (.bipush 60), none, some (.if_icmp .ne 13), none, none, some (.iload_n 1), some (.bipush 62), none, some (.if_icmp .ne 7), none, none, some (.iconst 1)],
  [some (.goto 4), none, none, some (.iconst 0), some (.istore_n 3), some (.iload_n 2), some (.ifCond .ne 7), none, none, some (.iload_n 3), some (.ifCond .eq 13), none, none, some (.aload_n 0), some .dup, some (.getfield 178)],
  [none, none, some (.iconst 1), some .iadd, some (.putfield 178), none, none, some (.aload_n 0), some (.iconst 5), some (.putfield 181), none, none, some (.aload_n 0), some (.aload_n 0), some (.getfield 192), none],
  [none, some (.bipush 61), none, some (.if_icmp .ne 7), none, none, some (.iconst 2), some (.goto 41), none, none, some (.aload_n 0), some (.getfield 192), none, none, some (.bipush 60), none],
  [some (.if_icmp .ne 23), none, none, some (.iload_n 2), some (.ifCond .eq 7), none, none, some (.iconst 1), some (.goto 24), none, none, some (.iload_n 3), some (.ifCond .eq 7), none, none, some (.iconst 3)],
  [some (.goto 16), none, none, some (.iconst 0), some (.goto 12), none, none, some (.iload_n 2), some (.ifCond .eq 7), none, none, some (.iconst 4), some (.goto 4), none, none, some (.iconst 5)],
  [some (.putfield 192), none, none, some (.goto 95), none, none, some (.aload_n 0), some (.getfield 192), none, none, some (.bipush 59), none, some (.if_icmp .eq 66), none, none, some (.aload_n 0)],
  [some (.getfield 192), none, none, some (.bipush 40), none, some (.if_icmp .eq 57), none, none, some (.aload_n 0), some (.getfield 192), none, none, some (.bipush 41), none, some (.if_icmp .eq 48), none],
  [none, some (.aload_n 0), some (.getfield 192), none, none, some (.bipush 43), none, some (.if_icmp .eq 39), none, none, some (.aload_n 0), some (.getfield 192), none, none, some (.bipush 45), none],
  [some (.if_icmp .eq 30), none, none, some (.aload_n 0), some (.getfield 192), none, none, some (.bipush 42), none, some (.if_icmp .eq 21), none, none, some (.aload_n 0), some (.getfield 192), none, none],
  [some (.bipush 47), none, some (.if_icmp .eq 12), none, none, some (.aload_n 0), some (.getfield 192), none, none, some (.bipush 37), none, some (.if_icmp .ne 7), none, none, some (.iconst 1), some (.goto 4)],
  [none, none, some (.iconst 0), some (.istore_n 1), some (.aload_n 0), some (.iload_n 1), some (.ifCond .eq 7), none, none, some (.iconst 4), some (.goto 5), none, none, some (.bipush 6), none, some (.putfield 181)],
  [none, none, some .return_]]
-- 165: CushionCourtModel.packed(II)I
def k_165 : List (List (Option Instr)) := [[some (.iconst 0), some (.istore_n 3), some (.iload_n 1), some (.istore 4), none, some (.iload 4), none, some (.iload_n 1), some (.bipush 6), none, some .iadd, some (.if_icmp .ge 34), none, none, some (.iload_n 3), some (.iconst 5)],
  [some .ishl, some (.iload 4), none, some (.iload_n 2), some (.if_icmp .ge 16), none, none, some (.aload_n 0), some (.getfield 7), none, none, some (.iload 4), none, some .iaload, some (.bipush 96), none],
  [some .isub, some (.goto 4), none, none, some (.iconst 0), some .ior, some (.istore_n 3), some (.iinc 4 1), none, none, some (.goto (-37)), none, none, some (.iload_n 3), some .ireturn]]
-- 166: CushionCourtModel.isKey(I)Z
def k_166 : List (List (Option Instr)) := [[some (.aload_n 0), some (.getfield 181), none, none, some (.iconst 1), some (.if_icmp .ne 15), none, none, some (.aload_n 0), some (.getfield 192), none, none, some (.iload_n 1), some (.if_icmp .ne 7), none, none],
  [some (.iconst 1), some (.goto 4), none, none, some (.iconst 0), some .ireturn]]
-- 167: CushionCourtModel.isSign(I)Z
def k_167 : List (List (Option Instr)) := [[some (.aload_n 0), some (.getfield 181), none, none, some (.iconst 4), some (.if_icmp .ne 15), none, none, some (.aload_n 0), some (.getfield 192), none, none, some (.iload_n 1), some (.if_icmp .ne 7), none, none],
  [some (.iconst 1), some (.goto 4), none, none, some (.iconst 0), some .ireturn]]
-- 168: CushionCourtModel.number(II)Z
def k_168 : List (List (Option Instr)) := [[some (.aload_n 0), some (.getfield 181), none, none, some (.iconst 3), some (.if_icmp .eq 9), none, none, some (.aload_n 0), some (.iconst 1), some (.invokevirtual 205), none, none, some .ireturn, some (.aload_n 0), some (.getfield 192)],
  [none, none, some (.iload_n 1), some (.iload_n 2), some (.invokestatic 208), none, none, some (.ifCond .ne 9), none, none, some (.aload_n 0), some (.iconst 2), some (.invokevirtual 205), none, none, some .ireturn],
  [some (.aload_n 0), some (.aload_n 0), some (.getfield 192), none, none, some (.putfield 212), none, none, some (.aload_n 0), some (.invokevirtual 215), none, none, some (.iconst 1), some .ireturn]]
-- 169: CushionCourtModel.plain()V
def k_169 : List (List (Option Instr)) := [[some (.aload_n 0), some (.iconst 0), some (.putfield 225), none, none, some (.aload_n 0), some (.iconst 0), some (.putfield 228), none, none, some (.aload_n 0), some (.iconst 0), some (.putfield 231), none, none, some (.aload_n 0)],
  [some (.iconst 0), some (.putfield 234), none, none, some (.aload_n 0), some (.iconst 0), some (.putfield 237), none, none, some (.aload_n 0), some (.iconst 0), some (.putfield 240), none, none, some (.aload_n 0), some (.getfield 20)],
  [none, none, some (.iconst 0), some (.iconst 0), some .bastore, some (.aload_n 0), some (.getfield 24), none, none, some (.iconst 1), some (.iconst 1), some .iastore, some (.iconst 3), some (.istore_n 1), some (.iload_n 1), some (.bipush 6)],
  [none, some (.if_icmp .ge 16), none, none, some (.aload_n 0), some (.getfield 60), none, none, some (.iload_n 1), some (.iconst 0), some .bastore, some (.iinc 1 1), none, none, some (.goto (-16)), none],
  [none, some .return_]]
-- 170: CushionCourtModel.copies([II)V
def k_170 : List (List (Option Instr)) := [[some (.iconst 0), some (.istore_n 2), some (.iload_n 2), some (.iload_n 1), some (.if_icmp .ge 17), none, none, some (.aload_n 0), some (.iload_n 2), some (.aload_n 0), some (.iload_n 1), some (.iload_n 2), some .iadd, some .iaload, some .iastore, some (.iinc 2 1)],
  [none, none, some (.goto (-16)), none, none, some .return_]]
-- 171: CushionCourtModel.keepText()V
def k_171 : List (List (Option Instr)) := [[some (.aload_n 0), some (.aload_n 0), some (.getfield 225), none, none, some (.putfield 243), none, none, some (.aload_n 0), some (.aload_n 0), some (.getfield 228), none, none, some (.putfield 246), none, none],
  [some (.aload_n 0), some (.aload_n 0), some (.getfield 231), none, none, some (.putfield 249), none, none, some (.aload_n 0), some (.aload_n 0), some (.getfield 234), none, none, some (.putfield 252), none, none],
  [some (.aload_n 0), some (.aload_n 0), some (.getfield 237), none, none, some (.putfield 255), none, none, some (.aload_n 0), some (.getfield 24), none, none, some (.iconst 1), some (.invokestatic 258), none, none],
  [some (.aload_n 0), some (.getfield 27), none, none, some (.iconst 5), some (.invokestatic 258), none, none, some (.aload_n 0), some (.getfield 30), none, none, some (.iconst 5), some (.invokestatic 258), none, none],
  [some (.aload_n 0), some (.getfield 33), none, none, some (.iconst 5), some (.invokestatic 258), none, none, some (.aload_n 0), some (.getfield 36), none, none, some (.bipush 10), none, some (.invokestatic 258), none],
  [none, some (.aload_n 0), some (.getfield 39), none, none, some (.bipush 10), none, some (.invokestatic 258), none, none, some (.aload_n 0), some (.getfield 42), none, none, some (.bipush 10), none],
  [some (.invokestatic 258), none, none, some (.aload_n 0), some (.getfield 45), none, none, some (.bipush 10), none, some (.invokestatic 258), none, none, some (.aload_n 0), some (.getfield 48), none, none],
  [some (.iconst 5), some (.invokestatic 258), none, none, some (.aload_n 0), some (.getfield 51), none, none, some (.iconst 5), some (.invokestatic 258), none, none, some (.aload_n 0), some (.getfield 54), none, none],
  [some (.iconst 5), some (.invokestatic 258), none, none, some (.aload_n 0), some (.getfield 57), none, none, some (.bipush 8), none, some (.invokestatic 258), none, none, some (.iconst 0), some (.istore_n 1), some (.iload_n 1)],
  [some (.iconst 3), some (.if_icmp .ge 23), none, none, some (.aload_n 0), some (.getfield 60), none, none, some (.iload_n 1), some (.aload_n 0), some (.getfield 60), none, none, some (.iconst 3), some (.iload_n 1), some .iadd],
  [some .baload, some .bastore, some (.iinc 1 1), none, none, some (.goto (-22)), none, none, some (.aload_n 0), some (.getfield 63), none, none, some (.iconst 3), some (.invokestatic 258), none, none],
  [some (.aload_n 0), some (.getfield 66), none, none, some (.iconst 3), some (.invokestatic 258), none, none, some (.aload_n 0), some (.getfield 69), none, none, some (.bipush 64), none, some (.invokestatic 258), none],
  [none, some (.aload_n 0), some (.getfield 72), none, none, some (.bipush 64), none, some (.invokestatic 258), none, none, some (.aload_n 0), some (.getfield 75), none, none, some (.bipush 64), none],
  [some (.invokestatic 258), none, none, some (.aload_n 0), some (.invokevirtual 262), none, none, some .return_]]
-- 172: CushionCourtModel.seek([IIII)I
def k_172 : List (List (Option Instr)) := [[some (.iconst 0), some (.istore 4), none, some (.iload 4), none, some (.iload_n 2), some (.if_icmp .ge 22), none, none, some (.aload_n 0), some (.iload_n 1), some (.iload 4), none, some .iadd, some .iaload, some (.iload_n 3)],
  [some (.if_icmp .ne 6), none, none, some (.iload 4), none, some .ireturn, some (.iinc 4 1), none, none, some (.goto (-22)), none, none, some (.iconst (-1)), some .ireturn]]
-- 173: CushionCourtModel.newName([III)Z
def k_173 : List (List (Option Instr)) := [[some (.aload_n 0), some (.getfield 181), none, none, some (.iconst 2), some (.if_icmp .eq 9), none, none, some (.aload_n 0), some (.iconst 1), some (.invokevirtual 205), none, none, some .ireturn, some (.aload_n 1), some (.iload_n 2)],
  [some (.iload_n 3), some (.aload_n 0), some (.getfield 192), none, none, some (.invokestatic 265), none, none, some (.ifCond .lt 9), none, none, some (.aload_n 0), some (.iconst 3), some (.invokevirtual 205), none, none],
  [some .ireturn, some (.aload_n 1), some (.iload_n 2), some (.iload_n 3), some .iadd, some (.aload_n 0), some (.getfield 192), none, none, some .iastore, some (.aload_n 0), some (.invokevirtual 215), none, none, some (.iconst 1), some .ireturn]]
-- 174: CushionCourtModel.judgeLine()Z
def k_174 : List (List (Option Instr)) := [[some (.aload_n 0), some (.getfield 225), none, none, some (.iconst 5), some (.if_icmp .ne 9), none, none, some (.aload_n 0), some (.iconst 2), some (.invokevirtual 205), none, none, some .ireturn, some (.aload_n 0), some (.invokevirtual 215)],
  [none, none, some (.aload_n 0), some (.aload_n 0), some (.getfield 27), none, none, some (.iconst 5), some (.aload_n 0), some (.getfield 225), none, none, some (.invokevirtual 269), none, none, some (.ifCond .ne 5)],
  [none, none, some (.iconst 0), some .ireturn, some (.iconst 5), some (.aload_n 0), some (.getfield 225), none, none, some .iadd, some (.istore_n 1), some (.aload_n 0), some (.iconst 0), some (.bipush 99), none, some (.invokevirtual 221)],
  [none, none, some (.ifCond .ne 5), none, none, some (.iconst 0), some .ireturn, some (.aload_n 0), some (.getfield 30), none, none, some (.iload_n 1), some (.aload_n 0), some (.getfield 212), none, none],
  [some .iastore, some (.aload_n 0), some (.iconst 0), some (.bipush 9), none, some (.invokevirtual 221), none, none, some (.ifCond .ne 5), none, none, some (.iconst 0), some .ireturn, some (.aload_n 0), some (.getfield 33), none],
  [none, some (.iload_n 1), some (.aload_n 0), some (.getfield 212), none, none, some .iastore, some (.aload_n 0), some .dup, some (.getfield 225), none, none, some (.iconst 1), some .iadd, some (.putfield 225), none],
  [none, some (.iconst 1), some .ireturn]]
-- 175: CushionCourtModel.caseLine()Z
def k_175 : List (List (Option Instr)) := [[some (.aload_n 0), some (.getfield 228), none, none, some (.bipush 10), none, some (.if_icmp .ne 9), none, none, some (.aload_n 0), some (.iconst 2), some (.invokevirtual 205), none, none, some .ireturn, some (.aload_n 0)],
  [some (.invokevirtual 215), none, none, some (.aload_n 0), some (.aload_n 0), some (.getfield 36), none, none, some (.bipush 10), none, some (.aload_n 0), some (.getfield 228), none, none, some (.invokevirtual 269), none],
  [none, some (.ifCond .ne 5), none, none, some (.iconst 0), some .ireturn, some (.bipush 10), none, some (.aload_n 0), some (.getfield 228), none, none, some .iadd, some (.istore_n 1), some (.aload_n 0), some (.getfield 181)],
  [none, none, some (.iconst 2), some (.if_icmp .eq 9), none, none, some (.aload_n 0), some (.iconst 1), some (.invokevirtual 205), none, none, some .ireturn, some (.aload_n 0), some (.getfield 27), none, none],
  [some (.iconst 5), some (.aload_n 0), some (.getfield 225), none, none, some (.aload_n 0), some (.getfield 192), none, none, some (.invokestatic 265), none, none, some (.istore_n 2), some (.iload_n 2), some (.ifCond .ge 9), none],
  [none, some (.aload_n 0), some (.iconst 4), some (.invokevirtual 205), none, none, some .ireturn, some (.aload_n 0), some (.invokevirtual 215), none, none, some (.aload_n 0), some (.getfield 39), none, none, some (.iload_n 1)],
  [some (.iload_n 2), some .iastore, some (.aload_n 0), some (.iconst 0), some (.bipush 99), none, some (.invokevirtual 221), none, none, some (.ifCond .ne 5), none, none, some (.iconst 0), some .ireturn, some (.aload_n 0), some (.getfield 42)],
  [none, none, some (.iload_n 1), some (.aload_n 0), some (.getfield 212), none, none, some .iastore, some (.aload_n 0), some (.iconst 0), some (.bipush 99), none, some (.invokevirtual 221), none, none, some (.ifCond .ne 5)],
  [none, none, some (.iconst 0), some .ireturn, some (.aload_n 0), some (.getfield 45), none, none, some (.iload_n 1), some (.aload_n 0), some (.getfield 212), none, none, some .iastore, some (.aload_n 0), some .dup],
  [some (.getfield 228), none, none, some (.iconst 1), some .iadd, some (.putfield 228), none, none, some (.iconst 1), some .ireturn]]
-- 176: CushionCourtModel.clerkLine()Z
def k_176 : List (List (Option Instr)) := [[some (.aload_n 0), some (.getfield 231), none, none, some (.iconst 5), some (.if_icmp .ne 9), none, none, some (.aload_n 0), some (.iconst 2), some (.invokevirtual 205), none, none, some .ireturn, some (.aload_n 0), some (.invokevirtual 215)],
  [none, none, some (.aload_n 0), some (.aload_n 0), some (.getfield 48), none, none, some (.iconst 5), some (.aload_n 0), some (.getfield 231), none, none, some (.invokevirtual 269), none, none, some (.ifCond .ne 5)],
  [none, none, some (.iconst 0), some .ireturn, some (.iconst 5), some (.aload_n 0), some (.getfield 231), none, none, some .iadd, some (.istore_n 1), some (.aload_n 0), some (.iconst 0), some (.bipush 127), none, some (.invokevirtual 221)],
  [none, none, some (.ifCond .ne 5), none, none, some (.iconst 0), some .ireturn, some (.aload_n 0), some (.getfield 51), none, none, some (.iload_n 1), some (.aload_n 0), some (.getfield 212), none, none],
  [some .iastore, some (.aload_n 0), some (.iconst 0), some (.bipush 9), none, some (.invokevirtual 221), none, none, some (.ifCond .ne 5), none, none, some (.iconst 0), some .ireturn, some (.aload_n 0), some (.getfield 54), none],
  [none, some (.iload_n 1), some (.aload_n 0), some (.getfield 212), none, none, some .iastore, some (.aload_n 0), some .dup, some (.getfield 231), none, none, some (.iconst 1), some .iadd, some (.putfield 231), none],
  [none, some (.iconst 1), some .ireturn]]
-- 177: CushionCourtModel.dampLine()Z
def k_177 : List (List (Option Instr)) := [[some (.aload_n 0), some (.getfield 234), none, none, some (.bipush 8), none, some (.if_icmp .ne 9), none, none, some (.aload_n 0), some (.iconst 2), some (.invokevirtual 205), none, none, some .ireturn, some (.aload_n 0)],
  [some (.invokevirtual 215), none, none, some (.aload_n 0), some (.iconst 0), some (.bipush 9), none, some (.invokevirtual 221), none, none, some (.ifCond .ne 5), none, none, some (.iconst 0), some .ireturn, some (.aload_n 0)],
  [some (.getfield 57), none, none, some (.bipush 8), none, some (.aload_n 0), some (.getfield 234), none, none, some .iadd, some (.aload_n 0), some (.getfield 212), none, none, some .iastore, some (.aload_n 0)],
  [some .dup, some (.getfield 234), none, none, some (.iconst 1), some .iadd, some (.putfield 234), none, none, some (.iconst 1), some .ireturn]]
-- 178: CushionCourtModel.beatLine()Z
def k_178 : List (List (Option Instr)) := [[some (.aload_n 0), some (.getfield 20), none, none, some (.iconst 0), some .baload, some (.ifCond .eq 9), none, none, some (.aload_n 0), some (.iconst 3), some (.invokevirtual 205), none, none, some .ireturn, some (.aload_n 0)],
  [some (.getfield 20), none, none, some (.iconst 0), some (.iconst 1), some .bastore, some (.aload_n 0), some (.invokevirtual 215), none, none, some (.aload_n 0), some (.iconst 0), some (.bipush 9), none, some (.invokevirtual 221), none],
  [none, some (.ifCond .ne 5), none, none, some (.iconst 0), some .ireturn, some (.aload_n 0), some (.getfield 24), none, none, some (.iconst 1), some (.aload_n 0), some (.getfield 212), none, none, some .iastore],
  [some (.iconst 1), some .ireturn]]
-- 179: CushionCourtModel.lineRead()Z
def k_179 : List (List (Option Instr)) := [[some (.aload_n 0), some (.getfield 181), none, none, some (.iconst 1), some (.if_icmp .ne 11), none, none, some (.aload_n 0), some (.getfield 192), none, none, some (.iconst 5), some (.if_icmp .le 9), none, none],
  [some (.aload_n 0), some (.iconst 1), some (.invokevirtual 205), none, none, some .ireturn, some (.aload_n 0), some (.getfield 192), none, none, some (.tableswitch 74 0 4 #[34, 42, 50, 58, 66]), none, none, none, none, none],
  [none, none, none, none, none, none, none, none, none, none, none, none, none, none, none, none],
  [none, none, none, none, none, none, none, none, none, none, none, none, some (.aload_n 0), some (.invokevirtual 273), none, none],
  [some (.istore_n 1), some (.goto 132), none, none, some (.aload_n 0), some (.invokevirtual 277), none, none, some (.istore_n 1), some (.goto 124), none, none, some (.aload_n 0), some (.invokevirtual 280), none, none],
  [some (.istore_n 1), some (.goto 116), none, none, some (.aload_n 0), some (.invokevirtual 283), none, none, some (.istore_n 1), some (.goto 108), none, none, some (.aload_n 0), some (.invokevirtual 286), none, none],
  [some (.istore_n 1), some (.goto 100), none, none, some (.aload_n 0), some (.invokevirtual 215), none, none, some (.aload_n 0), some (.getfield 181), none, none, some (.iconst 1), some (.if_icmp .ne 21), none, none],
  [some (.aload_n 0), some (.getfield 192), none, none, some (.bipush 6), none, some (.if_icmp .lt 12), none, none, some (.aload_n 0), some (.getfield 192), none, none, some (.bipush 8), none, some (.if_icmp .le 9)],
  [none, none, some (.aload_n 0), some (.iconst 1), some (.invokevirtual 205), none, none, some .ireturn, some (.iconst 3), some (.aload_n 0), some (.getfield 192), none, none, some .iadd, some (.bipush 6), none],
  [some .isub, some (.istore_n 2), some (.aload_n 0), some (.getfield 60), none, none, some (.iload_n 2), some .baload, some (.ifCond .eq 9), none, none, some (.aload_n 0), some (.iconst 3), some (.invokevirtual 205), none, none],
  [some .ireturn, some (.aload_n 0), some (.getfield 60), none, none, some (.iload_n 2), some (.iconst 1), some .bastore, some (.aload_n 0), some (.invokevirtual 215), none, none, some (.aload_n 0), some (.getfield 63), none, none],
  [some (.iload_n 2), some (.aload_n 0), some (.getfield 237), none, none, some .iastore, some (.aload_n 0), some (.invokevirtual 289), none, none, some (.istore_n 1), some (.aload_n 0), some (.getfield 66), none, none, some (.iload_n 2)],
  [some (.aload_n 0), some (.getfield 237), none, none, some .iastore, some (.iload_n 1), some (.ifCond .ne 5), none, none, some (.iconst 0), some .ireturn, some (.aload_n 0), some (.bipush 59), none, some (.invokevirtual 218), none],
  [none, some (.ifCond .ne 9), none, none, some (.aload_n 0), some (.iconst 1), some (.invokevirtual 205), none, none, some .ireturn, some (.aload_n 0), some (.invokevirtual 215), none, none, some (.iconst 1), some .ireturn]]
-- 180: CushionCourtModel.text(I)I
def k_180 : List (List (Option Instr)) := [[some (.aload_n 0), some (.iconst 0), some (.putfield 163), none, none, some (.iload_n 1), some (.ifCond .lt 11), none, none, some (.iload_n 1), some (.aload_n 0), some (.getfield 166), none, none, some (.if_icmp .le 6), none],
  [none, some (.bipush (-2)), none, some .ireturn, some (.aload_n 0), some (.iload_n 1), some (.putfield 175), none, none, some (.aload_n 0), some (.iconst 0), some (.putfield 166), none, none, some (.aload_n 0), some (.iconst 0)],
  [some (.putfield 169), none, none, some (.aload_n 0), some (.iconst (-1)), some (.putfield 16), none, none, some (.aload_n 0), some (.iconst 0), some (.putfield 178), none, none, some (.aload_n 0), some (.invokevirtual 157), none],
  [none, some (.aload_n 0), some (.invokevirtual 215), none, none, some (.iconst 0), some (.istore_n 2), some (.aload_n 0), some (.getfield 181), none, none, some (.ifCond .eq 18), none, none, some (.aload_n 0), some (.invokevirtual 292)],
  [none, none, some (.ifCond .ne 5), none, none, some (.iconst (-1)), some .ireturn, some (.iinc 2 1), none, none, some (.goto (-19)), none, none, some (.aload_n 0), some (.invokevirtual 160), none],
  [none, some (.iload_n 2), some .ireturn]]
-- 181: CushionCourtModel.fault(I)I
def k_181 : List (List (Option Instr)) := [[some (.aload_n 0), some (.iconst 0), some (.putfield 163), none, none, some (.iload_n 1), some (.ifCond .ne 10), none, none, some (.aload_n 0), some (.getfield 169), none, none, some (.goto 16), none, none],
  [some (.iload_n 1), some (.iconst 1), some (.if_icmp .ne 10), none, none, some (.aload_n 0), some (.getfield 16), none, none, some (.goto 4), none, none, some (.iconst (-1)), some .ireturn]]
-- 182: CushionCourtModel.named(II)I
def k_182 : List (List (Option Instr)) := [[some (.aload_n 0), some (.iconst 0), some (.putfield 163), none, none, some (.iload_n 1), some (.ifCond .ne 19), none, none, some (.aload_n 0), some (.getfield 27), none, none, some (.iconst 0), some (.aload_n 0), some (.getfield 243)],
  [none, none, some (.iload_n 2), some (.invokestatic 265), none, none, some (.goto 46), none, none, some (.iload_n 1), some (.iconst 1), some (.if_icmp .ne 19), none, none, some (.aload_n 0), some (.getfield 36)],
  [none, none, some (.iconst 0), some (.aload_n 0), some (.getfield 246), none, none, some (.iload_n 2), some (.invokestatic 265), none, none, some (.goto 25), none, none, some (.iload_n 1), some (.iconst 2)],
  [some (.if_icmp .ne 19), none, none, some (.aload_n 0), some (.getfield 48), none, none, some (.iconst 0), some (.aload_n 0), some (.getfield 249), none, none, some (.iload_n 2), some (.invokestatic 265), none, none],
  [some (.goto 4), none, none, some (.iconst (-1)), some .ireturn]]
-- 183: CushionCourtModel.rank(I)I
def k_183 : List (List (Option Instr)) := [[some (.iload_n 0), some (.bipush 13), none, some (.if_icmp .lt 8), none, none, some (.bipush 6), none, some (.goto 50), none, none, some (.iload_n 0), some (.bipush 11), none, some (.if_icmp .lt 7), none],
  [none, some (.iconst 5), some (.goto 40), none, none, some (.iload_n 0), some (.iconst 5), some (.if_icmp .lt 7), none, none, some (.iconst 4), some (.goto 31), none, none, some (.iload_n 0), some (.iconst 2)],
  [some (.if_icmp .ne 7), none, none, some (.iconst 3), some (.goto 22), none, none, some (.iload_n 0), some (.iconst 3), some (.if_icmp .ne 7), none, none, some (.iconst 2), some (.goto 13), none, none],
  [some (.iload_n 0), some (.iconst 4), some (.if_icmp .ne 7), none, none, some (.iconst 1), some (.goto 4), none, none, some (.iconst 0), some .ireturn]]
-- 184: CushionCourtModel.grown(III)V
def k_184 : List (List (Option Instr)) := [[some (.aload_n 0), some (.getfield 69), none, none, some (.bipush 64), none, some (.aload_n 0), some (.getfield 237), none, none, some .iadd, some (.iload_n 1), some .iastore, some (.aload_n 0), some (.getfield 72), none],
  [none, some (.bipush 64), none, some (.aload_n 0), some (.getfield 237), none, none, some .iadd, some (.iload_n 2), some .iastore, some (.aload_n 0), some (.getfield 75), none, none, some (.bipush 64), none],
  [some (.aload_n 0), some (.getfield 237), none, none, some .iadd, some (.iload_n 3), some .iastore, some (.aload_n 0), some (.getfield 81), none, none, some (.aload_n 0), some (.getfield 295), none, none, some (.aload_n 0)],
  [some (.getfield 237), none, none, some .iastore, some (.aload_n 0), some .dup, some (.getfield 295), none, none, some (.iconst 1), some .iadd, some (.putfield 295), none, none, some (.aload_n 0), some .dup],
  [some (.getfield 237), none, none, some (.iconst 1), some .iadd, some (.putfield 237), none, none, some .return_]]
-- 185: CushionCourtModel.dropHeld()I
def k_185 : List (List (Option Instr)) := [[some (.aload_n 0), some .dup, some (.getfield 295), none, none, some (.iconst 1), some .isub, some (.putfield 295), none, none, some (.aload_n 0), some (.getfield 81), none, none, some (.aload_n 0), some (.getfield 295)],
  [none, none, some .iaload, some .ireturn]]
-- 186: CushionCourtModel.bind(I)V
def k_186 : List (List (Option Instr)) := [[some (.aload_n 0), some (.getfield 298), none, none, some (.ifCond .le 72), none, none, some (.aload_n 0), some (.getfield 78), none, none, some (.aload_n 0), some (.getfield 298), none, none, some (.iconst 1)],
  [some .isub, some .iaload, some (.invokestatic 301), none, none, some (.iload_n 1), some (.if_icmp .lt 54), none, none, some (.aload_n 0), some .dup, some (.getfield 298), none, none, some (.iconst 1), some .isub],
  [some (.putfield 298), none, none, some (.aload_n 0), some (.getfield 78), none, none, some (.aload_n 0), some (.getfield 298), none, none, some .iaload, some (.istore_n 2), some (.iload_n 2), some (.iconst 2), some (.if_icmp .ne 7)],
  [none, none, some (.iconst (-1)), some (.goto 7), none, none, some (.aload_n 0), some (.invokevirtual 305), none, none, some (.istore_n 3), some (.aload_n 0), some (.invokevirtual 305), none, none, some (.istore 4)],
  [none, some (.aload_n 0), some (.iload_n 2), some (.iload 4), none, some (.iload_n 3), some (.invokevirtual 309), none, none, some (.goto (-73)), none, none, some .return_]]
-- 187: CushionCourtModel.isCounted()Z
def k_187 : List (List (Option Instr)) := [[some (.aload_n 0), some (.getfield 240), none, none, some (.bipush 64), none, some (.if_icmp .ne 9), none, none, some (.aload_n 0), some (.iconst 2), some (.invokevirtual 205), none, none, some .ireturn, some (.aload_n 0)],
  [some .dup, some (.getfield 240), none, none, some (.iconst 1), some .iadd, some (.putfield 240), none, none, some (.iconst 1), some .ireturn]]
-- 188: CushionCourtModel.waitsFor(I)V
def k_188 : List (List (Option Instr)) := [[some (.aload_n 0), some (.getfield 78), none, none, some (.aload_n 0), some (.getfield 298), none, none, some (.iload_n 1), some .iastore, some (.aload_n 0), some .dup, some (.getfield 298), none, none, some (.iconst 1)],
  [some .iadd, some (.putfield 298), none, none, some .return_]]
-- 189: CushionCourtModel.nameMet()I
def k_189 : List (List (Option Instr)) := [[some (.aload_n 0), some (.getfield 181), none, none, some (.iconst 1), some (.if_icmp .ne 22), none, none, some (.aload_n 0), some (.getfield 192), none, none, some (.bipush 12), none, some (.if_icmp .lt 13), none],
  [none, some (.aload_n 0), some (.getfield 192), none, none, some (.bipush 12), none, some .isub, some (.goto 4), none, none, some (.iconst (-1)), some .ireturn]]
-- 190: CushionCourtModel.leafRead()Z
def k_190 : List (List (Option Instr)) := [[some (.aload_n 0), some (.bipush 40), none, some (.invokevirtual 218), none, none, some (.ifCond .eq 44), none, none, some (.aload_n 0), some (.getfield 313), none, none, some (.bipush 8), none, some (.if_icmp .ne 9)],
  [none, none, some (.aload_n 0), some (.iconst 2), some (.invokevirtual 205), none, none, some .ireturn, some (.aload_n 0), some .dup, some (.getfield 313), none, none, some (.iconst 1), some .iadd, some (.putfield 313)],
  [none, none, some (.aload_n 0), some (.iconst 0), some (.invokevirtual 316), none, none, some (.aload_n 0), some (.iconst 1), some (.putfield 320), none, none, some (.aload_n 0), some (.invokevirtual 215), none, none],
  [some (.iconst 1), some .ireturn, some (.aload_n 0), some (.bipush 11), none, some (.invokevirtual 324), none, none, some (.ifCond .eq 30), none, none, some (.aload_n 0), some (.getfield 320), none, none, some (.ifCond .eq 23)],
  [none, none, some (.aload_n 0), some (.invokevirtual 327), none, none, some (.ifCond .ne 5), none, none, some (.iconst 0), some .ireturn, some (.aload_n 0), some (.iconst 2), some (.invokevirtual 316), none, none],
  [some (.aload_n 0), some (.invokevirtual 215), none, none, some (.iconst 1), some .ireturn, some (.aload_n 0), some (.invokevirtual 330), none, none, some (.istore_n 1), some (.iload_n 1), some (.ifCond .ge 17), none, none, some (.aload_n 0)],
  [some (.getfield 181), none, none, some (.iconst 3), some (.if_icmp .eq 9), none, none, some (.aload_n 0), some (.iconst 1), some (.invokevirtual 205), none, none, some .ireturn, some (.iload_n 1), some (.ifCond .ge 19), none],
  [none, some (.aload_n 0), some (.getfield 192), none, none, some (.sipush 9999), none, none, some (.if_icmp .le 9), none, none, some (.aload_n 0), some (.iconst 2), some (.invokevirtual 205), none, none],
  [some .ireturn, some (.aload_n 0), some (.invokevirtual 327), none, none, some (.ifCond .ne 5), none, none, some (.iconst 0), some .ireturn, some (.aload_n 0), some (.iload_n 1), some (.ifCond .lt 7), none, none, some (.iconst 1)],
  [some (.goto 4), none, none, some (.iconst 0), some (.iload_n 1), some (.ifCond .lt 7), none, none, some (.iload_n 1), some (.goto 7), none, none, some (.aload_n 0), some (.getfield 192), none, none],
  [some (.iconst 0), some (.invokevirtual 309), none, none, some (.aload_n 0), some (.iconst 0), some (.putfield 333), none, none, some (.aload_n 0), some (.invokevirtual 215), none, none, some (.iconst 1), some .ireturn]]
-- 191: CushionCourtModel.signs()Z
def k_191 : List (List (Option Instr)) := [[some (.aload_n 0), some (.bipush 41), none, some (.invokevirtual 218), none, none, some (.ifCond .eq 41), none, none, some (.aload_n 0), some (.getfield 313), none, none, some (.ifCond .le 34), none, none],
  [some (.aload_n 0), some (.iconst 1), some (.invokevirtual 336), none, none, some (.aload_n 0), some .dup, some (.getfield 298), none, none, some (.iconst 1), some .isub, some (.putfield 298), none, none, some (.aload_n 0)],
  [some .dup, some (.getfield 313), none, none, some (.iconst 1), some .isub, some (.putfield 313), none, none, some (.aload_n 0), some (.invokevirtual 215), none, none, some (.iconst 1), some .ireturn, some (.aload_n 0)],
  [some (.bipush 9), none, some (.invokevirtual 324), none, none, some (.ifCond .eq 7), none, none, some (.iconst 3), some (.goto 90), none, none, some (.aload_n 0), some (.bipush 10), none, some (.invokevirtual 324)],
  [none, none, some (.ifCond .eq 7), none, none, some (.iconst 4), some (.goto 77), none, none, some (.aload_n 0), some (.getfield 181), none, none, some (.iconst 5), some (.if_icmp .ne 12), none],
  [none, some (.iconst 5), some (.aload_n 0), some (.getfield 192), none, none, some .iadd, some (.goto 60), none, none, some (.aload_n 0), some (.bipush 43), none, some (.invokevirtual 218), none, none],
  [some (.ifCond .eq 8), none, none, some (.bipush 11), none, some (.goto 46), none, none, some (.aload_n 0), some (.bipush 45), none, some (.invokevirtual 218), none, none, some (.ifCond .eq 8), none],
  [none, some (.bipush 12), none, some (.goto 32), none, none, some (.aload_n 0), some (.bipush 42), none, some (.invokevirtual 218), none, none, some (.ifCond .eq 8), none, none, some (.bipush 13)],
  [none, some (.goto 18), none, none, some (.aload_n 0), some (.bipush 47), none, some (.invokevirtual 218), none, none, some (.ifCond .eq 8), none, none, some (.bipush 14), none, some (.goto 4)],
  [none, none, some (.iconst 0), some (.istore_n 1), some (.iload_n 1), some (.ifCond .ne 9), none, none, some (.aload_n 0), some (.iconst 1), some (.invokevirtual 205), none, none, some .ireturn, some (.aload_n 0), some (.iload_n 1)],
  [some (.invokestatic 301), none, none, some (.iconst 4), some (.if_icmp .ne 7), none, none, some (.iconst 5), some (.goto 7), none, none, some (.iload_n 1), some (.invokestatic 301), none, none, some (.invokevirtual 336)],
  [none, none, some (.iload_n 1), some (.invokestatic 301), none, none, some (.iconst 4), some (.if_icmp .ne 34), none, none, some (.aload_n 0), some (.getfield 298), none, none, some (.ifCond .le 27), none],
  [none, some (.aload_n 0), some (.getfield 78), none, none, some (.aload_n 0), some (.getfield 298), none, none, some (.iconst 1), some .isub, some .iaload, some (.invokestatic 301), none, none, some (.iconst 4)],
  [some (.if_icmp .ne 9), none, none, some (.aload_n 0), some (.iconst 1), some (.invokevirtual 205), none, none, some .ireturn, some (.aload_n 0), some (.invokevirtual 327), none, none, some (.ifCond .ne 5), none, none],
  [some (.iconst 0), some .ireturn, some (.aload_n 0), some (.iload_n 1), some (.invokevirtual 316), none, none, some (.aload_n 0), some (.iconst 1), some (.putfield 333), none, none, some (.aload_n 0), some (.iload_n 1), some (.invokestatic 301), none],
  [none, some (.iconst 3), some (.if_icmp .ge 7), none, none, some (.iconst 1), some (.goto 4), none, none, some (.iconst 0), some (.putfield 320), none, none, some (.aload_n 0), some (.invokevirtual 215), none],
  [none, some (.iconst 1), some .ireturn]]
-- 192: CushionCourtModel.sumRead()Z
def k_192 : List (List (Option Instr)) := [[some (.aload_n 0), some (.iconst 0), some (.putfield 298), none, none, some (.aload_n 0), some (.iconst 0), some (.putfield 295), none, none, some (.aload_n 0), some (.iconst 0), some (.putfield 313), none, none, some (.aload_n 0)],
  [some (.iconst 1), some (.putfield 333), none, none, some (.aload_n 0), some (.iconst 1), some (.putfield 320), none, none, some (.aload_n 0), some (.bipush 59), none, some (.invokevirtual 218), none, none, some (.ifCond .eq 17)],
  [none, none, some (.aload_n 0), some (.getfield 333), none, none, some (.ifCond .ne 10), none, none, some (.aload_n 0), some (.getfield 313), none, none, some (.ifCond .le 29), none, none],
  [some (.aload_n 0), some (.getfield 333), none, none, some (.ifCond .eq 13), none, none, some (.aload_n 0), some (.invokevirtual 339), none, none, some (.ifCond .eq 13), none, none, some (.goto (-37)), none],
  [none, some (.aload_n 0), some (.invokevirtual 342), none, none, some (.ifCond .ne (-44)), none, none, some (.iconst 0), some .ireturn, some (.aload_n 0), some (.iconst 1), some (.invokevirtual 336), none, none, some (.iconst 1)],
  [some .ireturn]]
-- 193: CushionCourtModel.bounded(J)J
def k_193 : List (List (Option Instr)) := [[some (.aload_n 0), some (.aload_n 0), some (.getfield 345), none, none, some (.ifCond .ne 19), none, none, some (.lload_n 1), some (.ldc2_w 348), none, none, some .lcmp, some (.ifCond .gt 11), none, none],
  [some (.lload_n 1), some (.ldc2_w 350), none, none, some .lcmp, some (.ifCond .ge 7), none, none, some (.iconst 1), some (.goto 4), none, none, some (.iconst 0), some (.putfield 345), none, none],
  [some (.aload_n 0), some (.getfield 345), none, none, some (.ifCond .eq 7), none, none, some (.lconst 0), some (.goto 4), none, none, some (.lload_n 1), some .lreturn]]
-- 194: CushionCourtModel.compares(IJJ)Z
def k_194 : List (List (Option Instr)) := [[some (.iload_n 0), some (.tableswitch 95 5 9 #[35, 47, 59, 71, 83]), none, none, none, none, none, none, none, none, none, none, none, none, none, none],
  [none, none, none, none, none, none, none, none, none, none, none, none, none, none, none, none],
  [none, none, none, none, some (.lload_n 1), some (.lload_n 3), some .lcmp, some (.ifCond .ge 7), none, none, some (.iconst 1), some (.goto 4), none, none, some (.iconst 0), some .ireturn],
  [some (.lload_n 1), some (.lload_n 3), some .lcmp, some (.ifCond .gt 7), none, none, some (.iconst 1), some (.goto 4), none, none, some (.iconst 0), some .ireturn, some (.lload_n 1), some (.lload_n 3), some .lcmp, some (.ifCond .ne 7)],
  [none, none, some (.iconst 1), some (.goto 4), none, none, some (.iconst 0), some .ireturn, some (.lload_n 1), some (.lload_n 3), some .lcmp, some (.ifCond .eq 7), none, none, some (.iconst 1), some (.goto 4)],
  [none, none, some (.iconst 0), some .ireturn, some (.lload_n 1), some (.lload_n 3), some .lcmp, some (.ifCond .lt 7), none, none, some (.iconst 1), some (.goto 4), none, none, some (.iconst 0), some .ireturn],
  [some (.lload_n 1), some (.lload_n 3), some .lcmp, some (.ifCond .le 7), none, none, some (.iconst 1), some (.goto 4), none, none, some (.iconst 0), some .ireturn]]
-- 195: CushionCourtModel.times(JJ)J
def k_195 : List (List (Option Instr)) := [[some (.lload_n 1), some (.lconst 0), some .lcmp, some (.ifCond .eq 45), none, none, some (.lload_n 3), some (.lconst 0), some .lcmp, some (.ifCond .eq 39), none, none, some (.lload_n 3), some (.lconst 0), some .lcmp, some (.ifCond .ge 8)],
  [none, none, some (.lload_n 3), some .lneg, some (.goto 4), none, none, some (.lload_n 3), some (.ldc2_w 348), none, none, some (.lload_n 1), some (.lconst 0), some .lcmp, some (.ifCond .ge 8), none],
  [none, some (.lload_n 1), some .lneg, some (.goto 4), none, none, some (.lload_n 1), some .ldiv, some .lcmp, some (.ifCond .le 7), none, none, some (.iconst 1), some (.goto 4), none, none],
  [some (.iconst 0), some (.istore 5), none, some (.aload_n 0), some (.aload_n 0), some (.getfield 345), none, none, some (.ifCond .ne 8), none, none, some (.iload 5), none, some (.ifCond .eq 7), none, none],
  [some (.iconst 1), some (.goto 4), none, none, some (.iconst 0), some (.putfield 345), none, none, some (.aload_n 0), some (.getfield 345), none, none, some (.ifCond .eq 7), none, none, some (.lconst 0)],
  [some (.goto 6), none, none, some (.lload_n 1), some (.lload_n 3), some .lmul, some .lreturn]]
-- 196: CushionCourtModel.valueOf(I)J
def k_196 : List (List (Option Instr)) := [[some (.aload_n 0), some (.getfield 69), none, none, some (.iload_n 1), some .iaload, some (.ifCond .ne 11), none, none, some (.aload_n 0), some (.getfield 72), none, none, some (.iload_n 1), some .iaload, some .i2l],
  [some .lreturn, some (.aload_n 0), some (.getfield 69), none, none, some (.iload_n 1), some .iaload, some (.iconst 1), some (.if_icmp .ne 15), none, none, some (.aload_n 0), some (.getfield 84), none, none, some (.aload_n 0)],
  [some (.getfield 72), none, none, some (.iload_n 1), some .iaload, some .laload, some .lreturn, some (.aload_n 0), some (.getfield 88), none, none, some (.aload_n 0), some (.getfield 72), none, none, some (.iload_n 1)],
  [some .iaload, some .laload, some (.lstore_n 2), some (.aload_n 0), some (.getfield 69), none, none, some (.iload_n 1), some .iaload, some (.iconst 2), some (.if_icmp .ne 15), none, none, some (.lload_n 2), some (.lconst 0), some .lcmp],
  [some (.ifCond .ne 7), none, none, some (.lconst 1), some (.goto 4), none, none, some (.lconst 0), some .lreturn, some (.aload_n 0), some (.getfield 88), none, none, some (.aload_n 0), some (.getfield 75), none],
  [none, some (.iload_n 1), some .iaload, some .laload, some (.lstore 4), none, some (.aload_n 0), some (.getfield 69), none, none, some (.iload_n 1), some .iaload, some (.tableswitch 167 3 14 #[64, 83, 167, 167, 167, 167, 167, 167, 102, 111, 120, 128]), none, none, none],
  [none, none, none, none, none, none, none, none, none, none, none, none, none, none, none, none],
  [none, none, none, none, none, none, none, none, none, none, none, none, none, none, none, none],
  [none, none, none, none, none, none, none, none, none, none, none, none, none, none, none, none],
  [none, none, none, none, none, none, none, none, none, none, none, none, some (.lload_n 2), some (.lconst 0), some .lcmp, some (.ifCond .eq 14)],
  [none, none, some (.lload 4), none, some (.lconst 0), some .lcmp, some (.ifCond .eq 7), none, none, some (.lconst 1), some (.goto 4), none, none, some (.lconst 0), some .lreturn, some (.lload_n 2)],
  [some (.lconst 0), some .lcmp, some (.ifCond .ne 10), none, none, some (.lload 4), none, some (.lconst 0), some .lcmp, some (.ifCond .eq 7), none, none, some (.lconst 1), some (.goto 4), none, none],
  [some (.lconst 0), some .lreturn, some (.aload_n 0), some (.lload_n 2), some (.lload 4), none, some .ladd, some (.invokevirtual 352), none, none, some .lreturn, some (.aload_n 0), some (.lload_n 2), some (.lload 4), none, some .lsub],
  [some (.invokevirtual 352), none, none, some .lreturn, some (.aload_n 0), some (.lload_n 2), some (.lload 4), none, some (.invokevirtual 356), none, none, some .lreturn, some (.aload_n 0), some (.aload_n 0), some (.getfield 345), none],
  [none, some (.ifCond .ne 10), none, none, some (.lload 4), none, some (.lconst 0), some .lcmp, some (.ifCond .ne 7), none, none, some (.iconst 1), some (.goto 4), none, none, some (.iconst 0)],
  [some (.putfield 345), none, none, some (.aload_n 0), some (.getfield 345), none, none, some (.ifCond .eq 7), none, none, some (.lconst 0), some (.goto 7), none, none, some (.lload_n 2), some (.lload 4)],
  [none, some .ldiv, some .lreturn, some (.aload_n 0), some (.getfield 69), none, none, some (.iload_n 1), some .iaload, some (.lload_n 2), some (.lload 4), none, some (.invokestatic 360), none, none, some (.ifCond .eq 7)],
  [none, none, some (.lconst 1), some (.goto 4), none, none, some (.lconst 0), some .lreturn]]
-- 197: CushionCourtModel.begin()V
def k_197 : List (List (Option Instr)) := [[some (.iconst 0), some (.istore_n 1), some (.iload_n 1), some (.iconst 5), some (.if_icmp .ge 37), none, none, some (.aload_n 0), some (.getfield 91), none, none, some (.iload_n 1), some (.iload_n 1), some .iastore, some (.aload_n 0), some (.getfield 94)],
  [none, none, some (.iload_n 1), some (.iconst 0), some .bastore, some (.aload_n 0), some (.getfield 97), none, none, some (.iload_n 1), some (.iconst 0), some .iastore, some (.aload_n 0), some (.getfield 115), none, none],
  [some (.iload_n 1), some (.iconst 0), some .iastore, some (.iinc 1 1), none, none, some (.goto (-36)), none, none, some (.iconst 0), some (.istore_n 1), some (.iload_n 1), some (.bipush 10), none, some (.if_icmp .ge 42), none],
  [none, some (.aload_n 0), some (.getfield 103), none, none, some (.iload_n 1), some (.aload_n 0), some (.getfield 39), none, none, some (.iload_n 1), some .iaload, some .iastore, some (.aload_n 0), some (.getfield 106), none],
  [none, some (.iload_n 1), some (.iconst (-1)), some .iastore, some (.aload_n 0), some (.getfield 109), none, none, some (.iload_n 1), some (.iconst (-1)), some .iastore, some (.aload_n 0), some (.getfield 112), none, none, some (.iload_n 1)],
  [some (.iconst 0), some .iastore, some (.iinc 1 1), none, none, some (.goto (-42)), none, none, some (.aload_n 0), some (.getfield 118), none, none, some (.iconst 0), some (.iconst 0), some .iastore, some (.aload_n 0)],
  [some (.getfield 121), none, none, some (.iconst 0), some (.iconst 0), some .iastore, some (.aload_n 0), some (.getfield 124), none, none, some (.iconst 0), some (.iconst 0), some .iastore, some (.aload_n 0), some (.invokevirtual 364), none],
  [none, some (.aload_n 0), some (.iconst 0), some (.putfield 367), none, none, some (.aload_n 0), some (.iconst (-1)), some (.putfield 136), none, none, some (.aload_n 0), some (.iconst 0), some (.putfield 370), none, none],
  [some (.aload_n 0), some (.iconst 0), some (.putfield 373), none, none, some .return_]]
-- 198: CushionCourtModel.plainTried()V
def k_198 : List (List (Option Instr)) := [[some (.aload_n 0), some (.iconst (-1)), some (.putfield 376), none, none, some (.aload_n 0), some (.iconst (-1)), some (.putfield 379), none, none, some (.aload_n 0), some (.iconst (-1)), some (.putfield 382), none, none, some (.aload_n 0)],
  [some (.iconst (-1)), some (.putfield 385), none, none, some (.aload_n 0), some (.iconst 0), some (.putfield 388), none, none, some (.aload_n 0), some (.iconst (-1)), some (.putfield 391), none, none, some (.aload_n 0), some (.iconst 0)],
  [some (.putfield 394), none, none, some (.aload_n 0), some (.iconst 0), some (.putfield 397), none, none, some .return_]]
-- 199: CushionCourtModel.layTried()V
def k_199 : List (List (Option Instr)) := [[some (.iconst 0), some (.istore_n 1), some (.iload_n 1), some (.iconst 5), some (.if_icmp .ge 65), none, none, some (.aload_n 0), some (.getfield 91), none, none, some (.iconst 5), some (.iload_n 1), some .iadd, some (.aload_n 0), some (.getfield 91)],
  [none, none, some (.iload_n 1), some .iaload, some .iastore, some (.aload_n 0), some (.getfield 94), none, none, some (.iconst 5), some (.iload_n 1), some .iadd, some (.aload_n 0), some (.getfield 94), none, none],
  [some (.iload_n 1), some .baload, some .bastore, some (.aload_n 0), some (.getfield 97), none, none, some (.iconst 5), some (.iload_n 1), some .iadd, some (.aload_n 0), some (.getfield 97), none, none, some (.iload_n 1), some .iaload],
  [some .iastore, some (.aload_n 0), some (.getfield 115), none, none, some (.iconst 5), some (.iload_n 1), some .iadd, some (.aload_n 0), some (.getfield 115), none, none, some (.iload_n 1), some .iaload, some .iastore, some (.iinc 1 1)],
  [none, none, some (.goto (-64)), none, none, some (.iconst 0), some (.istore_n 1), some (.iload_n 1), some (.bipush 40), none, some (.if_icmp .ge 24), none, none, some (.aload_n 0), some (.getfield 100), none],
  [none, some (.bipush 40), none, some (.iload_n 1), some .iadd, some (.aload_n 0), some (.getfield 100), none, none, some (.iload_n 1), some .iaload, some .iastore, some (.iinc 1 1), none, none, some (.goto (-24))],
  [none, none, some (.iconst 0), some (.istore_n 1), some (.iload_n 1), some (.bipush 10), none, some (.if_icmp .ge 69), none, none, some (.aload_n 0), some (.getfield 103), none, none, some (.bipush 10), none],
  [some (.iload_n 1), some .iadd, some (.aload_n 0), some (.getfield 103), none, none, some (.iload_n 1), some .iaload, some .iastore, some (.aload_n 0), some (.getfield 106), none, none, some (.bipush 10), none, some (.iload_n 1)],
  [some .iadd, some (.aload_n 0), some (.getfield 106), none, none, some (.iload_n 1), some .iaload, some .iastore, some (.aload_n 0), some (.getfield 109), none, none, some (.bipush 10), none, some (.iload_n 1), some .iadd],
  [some (.aload_n 0), some (.getfield 109), none, none, some (.iload_n 1), some .iaload, some .iastore, some (.aload_n 0), some (.getfield 112), none, none, some (.bipush 10), none, some (.iload_n 1), some .iadd, some (.aload_n 0)],
  [some (.getfield 112), none, none, some (.iload_n 1), some .iaload, some .iastore, some (.iinc 1 1), none, none, some (.goto (-69)), none, none, some (.aload_n 0), some (.getfield 118), none, none],
  [some (.iconst 1), some (.aload_n 0), some (.getfield 118), none, none, some (.iconst 0), some .iaload, some .iastore, some (.aload_n 0), some (.getfield 121), none, none, some (.iconst 1), some (.aload_n 0), some (.getfield 121), none],
  [none, some (.iconst 0), some .iaload, some .iastore, some (.aload_n 0), some (.getfield 124), none, none, some (.iconst 1), some (.aload_n 0), some (.getfield 124), none, none, some (.iconst 0), some .iaload, some .iastore],
  [some (.aload_n 0), some (.invokevirtual 364), none, none, some .return_]]
-- 200: CushionCourtModel.isJudge(I)Z
def k_200 : List (List (Option Instr)) := [[some (.iload_n 1), some (.ifCond .lt 15), none, none, some (.iload_n 1), some (.aload_n 0), some (.getfield 243), none, none, some (.if_icmp .ge 7), none, none, some (.iconst 1), some (.goto 4), none, none],
  [some (.iconst 0), some .ireturn]]
-- 201: CushionCourtModel.isCase(I)Z
def k_201 : List (List (Option Instr)) := [[some (.iload_n 1), some (.ifCond .lt 15), none, none, some (.iload_n 1), some (.aload_n 0), some (.getfield 246), none, none, some (.if_icmp .ge 7), none, none, some (.iconst 1), some (.goto 4), none, none],
  [some (.iconst 0), some .ireturn]]
-- 202: CushionCourtModel.isClerk(I)Z
def k_202 : List (List (Option Instr)) := [[some (.iload_n 1), some (.ifCond .lt 15), none, none, some (.iload_n 1), some (.aload_n 0), some (.getfield 249), none, none, some (.if_icmp .ge 7), none, none, some (.iconst 1), some (.goto 4), none, none],
  [some (.iconst 0), some .ireturn]]
-- 203: CushionCourtModel.dampOf(I)I
def k_203 : List (List (Option Instr)) := [[some (.aload_n 0), some (.getfield 376), none, none, some (.iconst 1), some (.if_icmp .ne 5), none, none, some (.iconst 0), some .ireturn, some (.aload_n 0), some (.getfield 382), none, none, some (.ifCond .lt 8), none],
  [none, some (.aload_n 0), some (.getfield 382), none, none, some .ireturn, some (.aload_n 0), some (.getfield 252), none, none, some (.ifCond .ne 7), none, none, some (.iconst 0), some (.goto 14), none],
  [none, some (.aload_n 0), some (.getfield 57), none, none, some (.iload_n 1), some (.aload_n 0), some (.getfield 252), none, none, some .irem, some .iaload, some .ireturn]]
-- 204: CushionCourtModel.leanIn(I)I
def k_204 : List (List (Option Instr)) := [[some (.iload_n 1), some (.aload_n 0), some (.getfield 385), none, none, some (.if_icmp .ne 10), none, none, some (.aload_n 0), some (.getfield 388), none, none, some (.goto 9), none, none, some (.aload_n 0)],
  [some (.getfield 30), none, none, some (.iload_n 1), some .iaload, some .ireturn]]
-- 205: CushionCourtModel.sureOf(II)I
def k_205 : List (List (Option Instr)) := [[some (.aload_n 0), some (.getfield 45), none, none, some (.iload_n 2), some .iaload, some (.aload_n 0), some (.iload_n 1), some (.invokevirtual 400), none, none, some .isub, some (.istore_n 3), some (.iload_n 3), some (.ifCond .ge 8), none],
  [none, some (.iload_n 3), some .ineg, some (.goto 4), none, none, some (.iload_n 3), some .ireturn]]
-- 206: CushionCourtModel.layNames(IIII)V
def k_206 : List (List (Option Instr)) := [[some (.aload_n 0), some (.getfield 84), none, none, some (.iconst 0), some (.aload_n 0), some (.iload_n 1), some (.invokevirtual 400), none, none, some .i2l, some .lastore, some (.aload_n 0), some (.getfield 84), none, none],
  [some (.iconst 1), some (.aload_n 0), some (.getfield 33), none, none, some (.iload_n 1), some .iaload, some .i2l, some .lastore, some (.aload_n 0), some (.getfield 84), none, none, some (.iconst 2), some (.iload_n 2), some (.ifCond .ge 7)],
  [none, none, some (.lconst 0), some (.goto 10), none, none, some (.aload_n 0), some (.getfield 45), none, none, some (.iload_n 2), some .iaload, some .i2l, some .lastore, some (.aload_n 0), some (.getfield 84)],
  [none, none, some (.iconst 3), some (.iload_n 3), some .i2l, some .lastore, some (.aload_n 0), some (.getfield 84), none, none, some (.iconst 4), some (.aload_n 0), some (.iload 4), none, some (.invokevirtual 403), none],
  [none, some .i2l, some .lastore, some (.aload_n 0), some (.getfield 84), none, none, some (.iconst 5), some (.iload_n 2), some (.ifCond .ge 7), none, none, some (.lconst 0), some (.goto 10), none, none],
  [some (.aload_n 0), some (.iload_n 1), some (.iload_n 2), some (.invokevirtual 406), none, none, some .i2l, some .lastore, some (.aload_n 0), some (.getfield 84), none, none, some (.bipush 6), none, some (.iload 4), none],
  [some .i2l, some .lastore, some .return_]]
-- 207: CushionCourtModel.lawOf(I)J
def k_207 : List (List (Option Instr)) := [[some (.aload_n 0), some (.iconst 0), some (.putfield 345), none, none, some (.aload_n 0), some (.getfield 63), none, none, some (.iload_n 1), some .iaload, some (.istore_n 2), some (.iload_n 2), some (.aload_n 0), some (.getfield 66), none],
  [none, some (.iload_n 1), some .iaload, some (.if_icmp .ge 20), none, none, some (.aload_n 0), some (.getfield 88), none, none, some (.iload_n 2), some (.aload_n 0), some (.iload_n 2), some (.invokevirtual 409), none, none],
  [some .lastore, some (.iinc 2 1), none, none, some (.goto (-24)), none, none, some (.aload_n 0), some (.getfield 345), none, none, some (.ifCond .eq 7), none, none, some (.lconst 0), some (.goto 16)],
  [none, none, some (.aload_n 0), some (.getfield 88), none, none, some (.aload_n 0), some (.getfield 66), none, none, some (.iload_n 1), some .iaload, some (.iconst 1), some .isub, some .laload, some .lreturn]]
-- 208: CushionCourtModel.thinks(IIII)I
def k_208 : List (List (Option Instr)) := [[some (.aload_n 0), some (.getfield 45), none, none, some (.iload_n 2), some .iaload, some (.aload_n 0), some (.iload_n 1), some (.invokevirtual 400), none, none, some (.if_icmp .le 7), none, none, some (.iconst 1), some (.goto 4)],
  [none, none, some (.iconst 0), some (.istore 5), none, some (.aload_n 0), some (.getfield 60), none, none, some (.iconst 0), some .baload, some (.ifCond .ne 6), none, none, some (.iload 5), none],
  [some .ireturn, some (.aload_n 0), some (.iload_n 1), some (.iload_n 2), some (.iload_n 3), some (.iload 4), none, some (.invokevirtual 413), none, none, some (.aload_n 0), some (.iconst 0), some (.invokevirtual 417), none, none, some (.lstore 6)],
  [none, some (.aload_n 0), some (.getfield 345), none, none, some (.ifCond .eq 8), none, none, some (.iload 5), none, some (.goto 15), none, none, some (.lload 6), none, some (.lconst 0)],
  [some .lcmp, some (.ifCond .eq 7), none, none, some (.iconst 1), some (.goto 4), none, none, some (.iconst 0), some .ireturn]]
-- 209: CushionCourtModel.says(IIII)I
def k_209 : List (List (Option Instr)) := [[some (.aload_n 0), some (.iload_n 1), some (.iload_n 2), some (.iload_n 3), some (.iload 4), none, some (.invokevirtual 420), none, none, some (.istore 5), none, some (.aload_n 0), some (.getfield 376), none, none, some (.iconst 3)],
  [some (.if_icmp .ne 6), none, none, some (.iload 5), none, some .ireturn, some (.aload_n 0), some (.getfield 33), none, none, some (.iload_n 1), some .iaload, some (.iconst 5), some (.if_icmp .lt 18), none, none],
  [some (.aload_n 0), some (.iload_n 1), some (.iload_n 2), some (.invokevirtual 406), none, none, some (.bipush 10), none, some (.if_icmp .ge 7), none, none, some (.iconst 1), some (.goto 5), none, none, some (.iload 5)],
  [none, some (.istore 6), none, some (.aload_n 0), some (.getfield 60), none, none, some (.iconst 1), some .baload, some (.ifCond .ne 6), none, none, some (.iload 6), none, some .ireturn, some (.aload_n 0)],
  [some (.iload_n 1), some (.iload_n 2), some (.iload_n 3), some (.iload 4), none, some (.invokevirtual 413), none, none, some (.aload_n 0), some (.iconst 1), some (.invokevirtual 417), none, none, some (.lstore 7), none, some (.aload_n 0)],
  [some (.getfield 345), none, none, some (.ifCond .eq 8), none, none, some (.iload 6), none, some (.goto 15), none, none, some (.lload 7), none, some (.lconst 0), some .lcmp, some (.ifCond .eq 7)],
  [none, none, some (.iconst 1), some (.goto 4), none, none, some (.iconst 0), some .ireturn]]
-- 210: CushionCourtModel.flies(II)I
def k_210 : List (List (Option Instr)) := [[some (.iconst 0), some (.istore_n 3), some (.aload_n 0), some (.getfield 91), none, none, some (.iconst 5), some (.iload_n 1), some .imul, some (.iload_n 3), some .iadd, some .iaload, some (.iload_n 2), some (.if_icmp .eq 9), none, none],
  [some (.iinc 3 1), none, none, some (.goto (-17)), none, none, some (.aload_n 0), some (.getfield 376), none, none, some (.iconst 4), some (.if_icmp .ne 8), none, none, some (.bipush 9), none],
  [some (.goto 9), none, none, some (.aload_n 0), some (.getfield 24), none, none, some (.iconst 0), some .iaload, some (.aload_n 0), some (.aload_n 0), some (.getfield 118), none, none, some (.iload_n 1), some .iaload],
  [some (.invokevirtual 403), none, none, some (.iconst 3), some .idiv, some .iadd, some (.istore 4), none, some (.iload 4), none, some (.bipush 8), none, some (.if_icmp .le 8), none, none, some (.bipush 8)],
  [none, some (.goto 5), none, none, some (.iload 4), none, some (.istore 4), none, some (.aload_n 0), some (.getfield 60), none, none, some (.iconst 2), some .baload, some (.ifCond .ne 6), none],
  [none, some (.iload 4), none, some .ireturn, some (.aload_n 0), some (.iload_n 3), some (.iconst (-1)), some (.aload_n 0), some (.getfield 97), none, none, some (.iconst 5), some (.iload_n 1), some .imul, some (.iload_n 2), some .iadd],
  [some .iaload, some (.aload_n 0), some (.getfield 118), none, none, some (.iload_n 1), some .iaload, some (.invokevirtual 413), none, none, some (.aload_n 0), some (.iconst 2), some (.invokevirtual 417), none, none, some (.lstore 5)],
  [none, some (.aload_n 0), some (.getfield 345), none, none, some (.ifCond .eq 6), none, none, some (.iload 4), none, some .ireturn, some (.lload 5), none, some (.lconst 0), some .lcmp, some (.ifCond .ge 7)],
  [none, none, some (.iconst 0), some (.goto 20), none, none, some (.lload 5), none, some (.ldc2_w 424), none, none, some .lcmp, some (.ifCond .le 8), none, none, some (.bipush 8)],
  [none, some (.goto 6), none, none, some (.lload 5), none, some .l2i, some .ireturn]]
-- 211: CushionCourtModel.lays(III)V
def k_211 : List (List (Option Instr)) := [[some (.bipush 40), none, some (.iload_n 1), some .imul, some (.bipush 8), none, some (.iload_n 2), some .imul, some .iadd, some (.istore 4), none, some (.aload_n 0), some (.getfield 97), none, none, some (.iconst 5)],
  [some (.iload_n 1), some .imul, some (.iload_n 2), some .iadd, some .iaload, some (.bipush 8), none, some (.if_icmp .ne 83), none, none, some (.aload_n 0), some (.getfield 112), none, none, some (.bipush 10), none],
  [some (.iload_n 1), some .imul, some (.aload_n 0), some (.getfield 100), none, none, some (.iload 4), none, some .iaload, some .iadd, some (.iconst 3), some .iastore, some (.aload_n 0), some (.getfield 124), none, none],
  [some (.iload_n 1), some .dup2, some .iaload, some (.iconst 1), some .iadd, some .iastore, some (.iconst 0), some (.istore 5), none, some (.iload 5), none, some (.bipush 7), none, some (.if_icmp .ge 31), none, none],
  [some (.aload_n 0), some (.getfield 100), none, none, some (.iload 4), none, some (.iload 5), none, some .iadd, some (.aload_n 0), some (.getfield 100), none, none, some (.iload 4), none, some (.iload 5)],
  [none, some .iadd, some (.iconst 1), some .iadd, some .iaload, some .iastore, some (.iinc 5 1), none, none, some (.goto (-32)), none, none, some (.aload_n 0), some (.getfield 97), none, none],
  [some (.iconst 5), some (.iload_n 1), some .imul, some (.iload_n 2), some .iadd, some .dup2, some .iaload, some (.iconst 1), some .isub, some .iastore, some (.aload_n 0), some (.getfield 100), none, none, some (.iload 4), none],
  [some (.aload_n 0), some (.getfield 97), none, none, some (.iconst 5), some (.iload_n 1), some .imul, some (.iload_n 2), some .iadd, some .iaload, some .iadd, some (.iload_n 3), some .iastore, some (.aload_n 0), some (.getfield 97), none],
  [none, some (.iconst 5), some (.iload_n 1), some .imul, some (.iload_n 2), some .iadd, some .dup2, some .iaload, some (.iconst 1), some .iadd, some .iastore, some (.aload_n 0), some (.getfield 112), none, none, some (.bipush 10)],
  [none, some (.iload_n 1), some .imul, some (.iload_n 3), some .iadd, some (.iconst 1), some .iastore, some .return_]]
-- 212: CushionCourtModel.hears(II)V
def k_212 : List (List (Option Instr)) := [[some (.aload_n 0), some (.getfield 103), none, none, some (.bipush 10), none, some (.iload_n 1), some .imul, some (.iload_n 2), some .iadd, some .iaload, some (.istore_n 3), some (.aload_n 0), some (.getfield 91), none, none],
  [some (.iconst 5), some (.iload_n 1), some .imul, some (.iload_n 3), some .iadd, some .iaload, some (.istore 4), none, some (.aload_n 0), some (.getfield 97), none, none, some (.iconst 5), some (.iload_n 1), some .imul, some (.iload 4)],
  [none, some .iadd, some .iaload, some (.istore 5), none, some (.aload_n 0), some (.iload_n 3), some (.iload_n 2), some (.iload 5), none, some (.aload_n 0), some (.getfield 118), none, none, some (.iload_n 1), some .iaload],
  [some (.invokevirtual 420), none, none, some (.istore 6), none, some (.aload_n 0), some (.iload_n 3), some (.iload_n 2), some (.iload 5), none, some (.aload_n 0), some (.getfield 118), none, none, some (.iload_n 1), some .iaload],
  [some (.invokevirtual 426), none, none, some (.istore 7), none, some (.aload_n 0), some (.getfield 106), none, none, some (.bipush 10), none, some (.iload_n 1), some .imul, some (.iload_n 2), some .iadd, some (.iload 6)],
  [none, some .iastore, some (.aload_n 0), some (.getfield 109), none, none, some (.bipush 10), none, some (.iload_n 1), some .imul, some (.iload_n 2), some .iadd, some (.iload 7), none, some .iastore, some (.iload 7)],
  [none, some (.iload 6), none, some (.if_icmp .eq 11), none, none, some (.aload_n 0), some (.iload_n 1), some (.iload 4), none, some (.iload_n 2), some (.invokevirtual 429), none, none, some .return_]]
-- 213: CushionCourtModel.airs(II)V
def k_213 : List (List (Option Instr)) := [[some (.aload_n 0), some (.iload_n 1), some (.iload_n 2), some (.invokevirtual 432), none, none, some (.istore_n 3), some (.iconst 0), some (.istore 4), none, some (.iload 4), none, some (.iload_n 3), some (.if_icmp .ge 176), none, none],
  [some (.aload_n 0), some (.getfield 97), none, none, some (.iconst 5), some (.iload_n 1), some .imul, some (.iload_n 2), some .iadd, some .iaload, some (.ifCond .le 163), none, none, some (.aload_n 0), some (.getfield 97), none],
  [none, some (.iconst 5), some (.iload_n 1), some .imul, some (.iload_n 2), some .iadd, some .dup2, some .iaload, some (.iconst 1), some .isub, some .iastore, some (.aload_n 0), some (.getfield 97), none, none, some (.iconst 5)],
  [some (.iload_n 1), some .imul, some (.iload_n 2), some .iadd, some .iaload, some (.istore 5), none, some (.aload_n 0), some (.getfield 100), none, none, some (.bipush 40), none, some (.iload_n 1), some .imul, some (.bipush 8)],
  [none, some (.iload_n 2), some .imul, some .iadd, some (.iload 5), none, some .iadd, some .iaload, some (.istore 6), none, some (.aload_n 0), some (.getfield 112), none, none, some (.bipush 10), none],
  [some (.iload_n 1), some .imul, some (.iload 6), none, some .iadd, some (.iconst 2), some .iastore, some (.aload_n 0), some (.getfield 121), none, none, some (.iload_n 1), some .dup2, some .iaload, some (.iconst 1), some .iadd],
  [some .iastore, some (.iconst 0), some (.istore 7), none, some (.iload 7), none, some (.aload_n 0), some (.getfield 249), none, none, some (.if_icmp .ge 77), none, none, some (.aload_n 0), some (.getfield 51), none],
  [none, some (.iload 7), none, some .iaload, some (.aload_n 0), some (.getfield 118), none, none, some (.iload_n 1), some .iaload, some (.bipush 7), none, some .irem, some (.invokestatic 435), none, none],
  [some (.ifCond .eq 49), none, none, some (.aload_n 0), some (.getfield 54), none, none, some (.iload 7), none, some .iaload, some (.iload 5), none, some (.if_icmp .ge 6), none, none, some (.goto 34)],
  [none, none, some (.aload_n 0), some (.getfield 115), none, none, some (.iconst 5), some (.iload_n 1), some .imul, some (.iload 7), none, some .iadd, some .dup2, some .iaload, some (.iconst 1), some (.iload 6)],
  [none, some .ishl, some .ior, some .iastore, some (.aload_n 0), some .dup, some (.getfield 438), none, none, some (.iconst 1), some (.iload 7), none, some .ishl, some .ior, some (.putfield 438), none],
  [none, some (.iinc 7 1), none, none, some (.goto (-80)), none, none, some (.iinc 4 1), none, none, some (.goto (-176)), none, none, some .return_]]
-- 214: CushionCourtModel.isAired(II)Z
def k_214 : List (List (Option Instr)) := [[some (.aload_n 0), some (.getfield 394), none, none, some (.ifCond .eq 22), none, none, some (.aload_n 0), some (.getfield 127), none, none, some (.iload_n 2), some .iaload, some (.aload_n 0), some (.getfield 397), none],
  [none, some (.if_icmp .ne 7), none, none, some (.iconst 1), some (.goto 4), none, none, some (.iconst 0), some .ireturn, some (.iload_n 2), some (.aload_n 0), some (.getfield 391), none, none, some (.if_icmp .eq 23)],
  [none, none, some (.aload_n 0), some (.getfield 376), none, none, some (.ifCond .eq 16), none, none, some (.aload_n 0), some (.getfield 94), none, none, some (.iconst 5), some (.iload_n 1), some .imul],
  [some (.iload_n 2), some .iadd, some .baload, some (.ifCond .ne 7), none, none, some (.iconst 1), some (.goto 4), none, none, some (.iconst 0), some .ireturn]]
-- 215: CushionCourtModel.goOn(I)V
def k_215 : List (List (Option Instr)) := [[some (.aload_n 0), some (.iconst 0), some (.putfield 438), none, none, some (.iconst 0), some (.istore_n 2), some (.iload_n 2), some (.aload_n 0), some (.getfield 246), none, none, some (.if_icmp .ge 76), none, none, some (.aload_n 0)],
  [some (.getfield 42), none, none, some (.iload_n 2), some .iaload, some (.aload_n 0), some (.getfield 118), none, none, some (.iload_n 1), some .iaload, some (.if_icmp .ne 55), none, none, some (.aload_n 0), some (.getfield 109)],
  [none, none, some (.bipush 10), none, some (.iload_n 1), some .imul, some (.iload_n 2), some .iadd, some .iaload, some (.ifCond .lt 6), none, none, some (.goto 38), none, none, some (.aload_n 0)],
  [some (.getfield 376), none, none, some (.iconst 2), some (.if_icmp .ne 24), none, none, some (.aload_n 0), some (.getfield 103), none, none, some (.bipush 10), none, some (.iload_n 1), some .imul, some (.iload_n 2)],
  [some .iadd, some .iaload, some (.aload_n 0), some (.getfield 379), none, none, some (.if_icmp .ne 6), none, none, some (.goto 9), none, none, some (.aload_n 0), some (.iload_n 1), some (.iload_n 2), some (.invokevirtual 441)],
  [none, none, some (.iinc 2 1), none, none, some (.goto (-78)), none, none, some (.aload_n 0), some (.getfield 118), none, none, some (.iload_n 1), some .iaload, some (.bipush 7), none],
  [some .irem, some (.ifCond .ne 44), none, none, some (.iconst 0), some (.istore_n 2), some (.iload_n 2), some (.aload_n 0), some (.getfield 243), none, none, some (.if_icmp .ge 24), none, none, some (.aload_n 0), some (.iload_n 1)],
  [some (.iload_n 2), some (.invokevirtual 445), none, none, some (.ifCond .eq 9), none, none, some (.aload_n 0), some (.iload_n 1), some (.iload_n 2), some (.invokevirtual 448), none, none, some (.iinc 2 1), none, none],
  [some (.goto (-26)), none, none, some (.aload_n 0), some .dup, some (.getfield 397), none, none, some (.iconst 1), some .iadd, some (.putfield 397), none, none, some (.aload_n 0), some (.getfield 118), none],
  [none, some (.iload_n 1), some .dup2, some .iaload, some (.iconst 1), some .iadd, some .iastore, some .return_]]
-- 216: CushionCourtModel.goMany(I)V
def k_216 : List (List (Option Instr)) := [[some (.iconst 0), some (.istore_n 2), some (.iload_n 2), some (.iload_n 1), some (.if_icmp .ge 14), none, none, some (.aload_n 0), some (.iconst 1), some (.invokevirtual 451), none, none, some (.iinc 2 1), none, none, some (.goto (-13))],
  [none, none, some .return_]]
-- 217: CushionCourtModel.manyOf(I)I
def k_217 : List (List (Option Instr)) := [[some (.iconst 0), some (.istore_n 1), some (.iconst 0), some (.istore_n 2), some (.iload_n 2), some (.bipush 10), none, some (.if_icmp .ge 17), none, none, some (.iload_n 1), some (.iload_n 0), some (.iload_n 2), some .ishr, some (.iconst 1), some .iand],
  [some .iadd, some (.istore_n 1), some (.iinc 2 1), none, none, some (.goto (-17)), none, none, some (.iload_n 1), some .ireturn]]
-- 218: CushionCourtModel.knownIn(I)I
def k_218 : List (List (Option Instr)) := [[some (.iconst 0), some (.istore_n 2), some (.iconst 0), some (.istore_n 3), some (.iload_n 3), some (.aload_n 0), some (.getfield 249), none, none, some (.if_icmp .ge 22), none, none, some (.iload_n 2), some (.aload_n 0), some (.getfield 115), none],
  [none, some (.iconst 5), some (.iload_n 1), some .imul, some (.iload_n 3), some .iadd, some .iaload, some .ior, some (.istore_n 2), some (.iinc 3 1), none, none, some (.goto (-24)), none, none, some (.iload_n 2)],
  [some .ireturn]]
-- 219: CushionCourtModel.knowsAll(I)I
def k_219 : List (List (Option Instr)) := [[some (.iconst 0), some (.istore_n 2), some (.iconst 0), some (.istore_n 3), some (.iload_n 3), some (.aload_n 0), some (.getfield 249), none, none, some (.if_icmp .ge 25), none, none, some (.iload_n 2), some (.aload_n 0), some (.getfield 115), none],
  [none, some (.iconst 5), some (.iload_n 1), some .imul, some (.iload_n 3), some .iadd, some .iaload, some (.invokestatic 454), none, none, some .iadd, some (.istore_n 2), some (.iinc 3 1), none, none, some (.goto (-27))],
  [none, none, some (.iload_n 2), some .ireturn]]
-- 220: CushionCourtModel.guiltyIn(I)I
def k_220 : List (List (Option Instr)) := [[some (.iconst 0), some (.istore_n 2), some (.iconst 0), some (.istore_n 3), some (.iload_n 3), some (.aload_n 0), some (.getfield 246), none, none, some (.if_icmp .ge 32), none, none, some (.iload_n 2), some (.aload_n 0), some (.getfield 109), none],
  [none, some (.bipush 10), none, some (.iload_n 1), some .imul, some (.iload_n 3), some .iadd, some .iaload, some (.iconst 1), some (.if_icmp .ne 7), none, none, some (.iconst 1), some (.goto 4), none, none],
  [some (.iconst 0), some .iadd, some (.istore_n 2), some (.iinc 3 1), none, none, some (.goto (-34)), none, none, some (.iload_n 2), some .ireturn]]
-- 221: CushionCourtModel.fails(I)I
def k_221 : List (List (Option Instr)) := [[some (.aload_n 0), some (.iload_n 1), some (.putfield 163), none, none, some (.iconst 0), some .ireturn]]
-- 222: CushionCourtModel.cause(II)I
def k_222 : List (List (Option Instr)) := [[some (.aload_n 0), some (.iconst 0), some (.putfield 163), none, none, some (.aload_n 0), some (.iload_n 1), some (.invokevirtual 457), none, none, some (.ifCond .ne 9), none, none, some (.aload_n 0), some (.iconst 1), some (.invokevirtual 460)],
  [none, none, some .ireturn, some (.iload_n 2), some (.tableswitch 82 0 5 #[40, 47, 54, 61, 68, 75]), none, none, none, none, none, none, none, none, none, none, none],
  [none, none, none, none, none, none, none, none, none, none, none, none, none, none, none, none],
  [none, none, none, none, none, none, none, none, none, none, none, none, some (.aload_n 0), some (.getfield 103), none, none],
  [some (.iload_n 1), some .iaload, some .ireturn, some (.aload_n 0), some (.getfield 42), none, none, some (.iload_n 1), some .iaload, some .ireturn, some (.aload_n 0), some (.getfield 45), none, none, some (.iload_n 1), some .iaload],
  [some .ireturn, some (.aload_n 0), some (.getfield 106), none, none, some (.iload_n 1), some .iaload, some .ireturn, some (.aload_n 0), some (.getfield 109), none, none, some (.iload_n 1), some .iaload, some .ireturn, some (.aload_n 0)],
  [some (.getfield 112), none, none, some (.iload_n 1), some .iaload, some .ireturn, some (.aload_n 0), some (.iconst 2), some (.invokevirtual 460), none, none, some .ireturn]]
-- 223: CushionCourtModel.heardBy(I)I
def k_223 : List (List (Option Instr)) := [[some (.iconst 0), some (.istore_n 2), some (.iconst 0), some (.istore_n 3), some (.iload_n 3), some (.aload_n 0), some (.getfield 246), none, none, some (.if_icmp .ge 36), none, none, some (.iload_n 2), some (.aload_n 0), some (.getfield 103), none],
  [none, some (.iload_n 3), some .iaload, some (.iload_n 1), some (.if_icmp .ne 16), none, none, some (.aload_n 0), some (.getfield 109), none, none, some (.iload_n 3), some .iaload, some (.ifCond .lt 7), none, none],
  [some (.iconst 1), some (.goto 4), none, none, some (.iconst 0), some .iadd, some (.istore_n 2), some (.iinc 3 1), none, none, some (.goto (-38)), none, none, some (.iload_n 2), some .ireturn]]
-- 224: CushionCourtModel.judge(II)I
def k_224 : List (List (Option Instr)) := [[some (.aload_n 0), some (.iconst 0), some (.putfield 163), none, none, some (.aload_n 0), some (.iload_n 1), some (.invokevirtual 463), none, none, some (.ifCond .ne 5), none, none, some (.iconst (-1)), some .ireturn, some (.iload_n 2)],
  [some (.tableswitch 99 0 5 #[40, 47, 54, 61, 73, 93]), none, none, none, none, none, none, none, none, none, none, none, none, none, none, none],
  [none, none, none, none, none, none, none, none, none, none, none, none, none, none, none, none],
  [none, none, none, none, none, none, none, none, some (.aload_n 0), some (.getfield 30), none, none, some (.iload_n 1), some .iaload, some .ireturn, some (.aload_n 0)],
  [some (.getfield 33), none, none, some (.iload_n 1), some .iaload, some .ireturn, some (.aload_n 0), some (.getfield 91), none, none, some (.iload_n 1), some .iaload, some .ireturn, some (.aload_n 0), some (.getfield 97), none],
  [none, some (.aload_n 0), some (.getfield 91), none, none, some (.iload_n 1), some .iaload, some .iaload, some .ireturn, some (.aload_n 0), some (.getfield 94), none, none, some (.aload_n 0), some (.getfield 91), none],
  [none, some (.iload_n 1), some .iaload, some .baload, some (.ifCond .eq 7), none, none, some (.iconst 1), some (.goto 4), none, none, some (.iconst 0), some .ireturn, some (.aload_n 0), some (.iload_n 1), some (.invokevirtual 466)],
  [none, none, some .ireturn, some (.iconst (-1)), some .ireturn]]
-- 225: CushionCourtModel.feather(II)I
def k_225 : List (List (Option Instr)) := [[some (.aload_n 0), some (.iconst 0), some (.putfield 163), none, none, some (.aload_n 0), some (.iload_n 1), some (.invokevirtual 463), none, none, some (.ifCond .eq 7), none, none, some (.iload_n 2), some (.ifCond .ge 5), none],
  [none, some (.iconst (-1)), some .ireturn, some (.iload_n 2), some (.aload_n 0), some (.getfield 97), none, none, some (.aload_n 0), some (.getfield 91), none, none, some (.iload_n 1), some .iaload, some .iaload, some (.if_icmp .lt 8)],
  [none, none, some (.bipush (-2)), none, some (.goto 19), none, none, some (.aload_n 0), some (.getfield 100), none, none, some (.bipush 8), none, some (.aload_n 0), some (.getfield 91), none],
  [none, some (.iload_n 1), some .iaload, some .imul, some (.iload_n 2), some .iadd, some .iaload, some .ireturn]]
-- 226: CushionCourtModel.knows(I)I
def k_226 : List (List (Option Instr)) := [[some (.aload_n 0), some (.iconst 0), some (.putfield 163), none, none, some (.aload_n 0), some (.iload_n 1), some (.invokevirtual 469), none, none, some (.ifCond .eq 12), none, none, some (.aload_n 0), some (.getfield 115), none],
  [none, some (.iload_n 1), some .iaload, some (.goto 4), none, none, some (.iconst (-1)), some .ireturn]]
-- 227: CushionCourtModel.gossip(I)I
def k_227 : List (List (Option Instr)) := [[some (.aload_n 0), some (.iconst 0), some (.putfield 163), none, none, some (.aload_n 0), some (.iload_n 1), some (.invokevirtual 457), none, none, some (.ifCond .ne 5), none, none, some (.iconst (-1)), some .ireturn, some (.iconst 0)],
  [some (.istore_n 2), some (.iconst 0), some (.istore_n 3), some (.iload_n 3), some (.aload_n 0), some (.getfield 249), none, none, some (.if_icmp .ge 32), none, none, some (.iload_n 2), some (.aload_n 0), some (.getfield 115), none, none],
  [some (.iload_n 3), some .iaload, some (.iload_n 1), some (.invokestatic 435), none, none, some (.ifCond .eq 9), none, none, some (.iconst 1), some (.iload_n 3), some .ishl, some (.goto 4), none, none, some (.iconst 0)],
  [some .ior, some (.istore_n 2), some (.iinc 3 1), none, none, some (.goto (-34)), none, none, some (.iload_n 2), some .ireturn]]
-- 228: CushionCourtModel.damp(I)I
def k_228 : List (List (Option Instr)) := [[some (.aload_n 0), some (.iconst 0), some (.putfield 163), none, none, some (.aload_n 0), some (.invokevirtual 364), none, none, some (.iload_n 1), some (.iconst 0), some (.sipush 9999), none, none, some (.invokestatic 208), none],
  [none, some (.ifCond .eq 11), none, none, some (.aload_n 0), some (.iload_n 1), some (.invokevirtual 403), none, none, some (.goto 4), none, none, some (.iconst (-1)), some .ireturn]]
-- 229: CushionCourtModel.law(II)J
def k_229 : List (List (Option Instr)) := [[some (.aload_n 0), some (.iconst 0), some (.putfield 163), none, none, some (.iload_n 1), some (.iconst 0), some (.iconst 2), some (.invokestatic 208), none, none, some (.ifCond .eq 36), none, none, some (.aload_n 0), some (.getfield 60)],
  [none, none, some (.iload_n 1), some .baload, some (.ifCond .eq 27), none, none, some (.iload_n 1), some (.iconst 2), some (.if_icmp .ne 14), none, none, some (.aload_n 0), some (.iload_n 2), some (.invokevirtual 463), none],
  [none, some (.ifCond .ne 18), none, none, some (.goto 11), none, none, some (.aload_n 0), some (.iload_n 2), some (.invokevirtual 457), none, none, some (.ifCond .ne 7), none, none, some (.ldc2_w 472)],
  [none, none, some .lreturn, some (.aload_n 0), some (.invokevirtual 364), none, none, some (.iload_n 1), some (.iconst 2), some (.if_icmp .ne 7), none, none, some (.iload_n 2), some (.goto 9), none, none],
  [some (.aload_n 0), some (.getfield 103), none, none, some (.iload_n 2), some .iaload, some (.istore_n 3), some (.aload_n 0), some (.iload_n 3), some (.iload_n 1), some (.iconst 2), some (.if_icmp .ne 7), none, none, some (.iconst (-1)), some (.goto 4)],
  [none, none, some (.iload_n 2), some (.aload_n 0), some (.getfield 97), none, none, some (.aload_n 0), some (.getfield 91), none, none, some (.iload_n 3), some .iaload, some .iaload, some (.aload_n 0), some (.getfield 118)],
  [none, none, some (.iconst 0), some .iaload, some (.invokevirtual 413), none, none, some (.aload_n 0), some (.iload_n 1), some (.invokevirtual 417), none, none, some (.lstore 4), none, some (.aload_n 0), some (.getfield 345)],
  [none, none, some (.ifCond .eq 9), none, none, some (.ldc2_w 472), none, none, some (.goto 5), none, none, some (.lload 4), none, some .lreturn]]
-- 230: CushionCourtModel.exchange(II)Z
def k_230 : List (List (Option Instr)) := [[some (.aload_n 0), some (.iconst 0), some (.putfield 163), none, none, some (.aload_n 0), some (.iload_n 1), some (.invokevirtual 463), none, none, some (.ifCond .eq 16), none, none, some (.aload_n 0), some (.iload_n 2), some (.invokevirtual 463)],
  [none, none, some (.ifCond .eq 8), none, none, some (.iload_n 1), some (.iload_n 2), some (.if_icmp .ne 5), none, none, some (.iconst 0), some .ireturn, some (.aload_n 0), some (.invokevirtual 474), none, none],
  [some (.aload_n 0), some (.getfield 91), none, none, some (.iload_n 1), some .iaload, some (.istore_n 3), some (.aload_n 0), some (.getfield 91), none, none, some (.iload_n 1), some (.aload_n 0), some (.getfield 91), none, none],
  [some (.iload_n 2), some .iaload, some .iastore, some (.aload_n 0), some (.getfield 91), none, none, some (.iload_n 2), some (.iload_n 3), some .iastore, some (.iconst 1), some .ireturn]]
-- 231: CushionCourtModel.keepIn(IZ)Z
def k_231 : List (List (Option Instr)) := [[some (.aload_n 0), some (.iconst 0), some (.putfield 163), none, none, some (.aload_n 0), some (.iload_n 1), some (.invokevirtual 463), none, none, some (.ifCond .eq 18), none, none, some (.aload_n 0), some (.getfield 94), none],
  [none, some (.aload_n 0), some (.getfield 91), none, none, some (.iload_n 1), some .iaload, some .baload, some (.iload_n 2), some (.if_icmp .ne 5), none, none, some (.iconst 0), some .ireturn, some (.aload_n 0), some (.invokevirtual 474)],
  [none, none, some (.aload_n 0), some (.getfield 94), none, none, some (.aload_n 0), some (.getfield 91), none, none, some (.iload_n 1), some .iaload, some (.iload_n 2), some .bastore, some (.iconst 1), some .ireturn]]
-- 232: CushionCourtModel.restuff(I)I
def k_232 : List (List (Option Instr)) := [[some (.aload_n 0), some (.iconst 0), some (.putfield 163), none, none, some (.aload_n 0), some (.iload_n 1), some (.invokevirtual 463), none, none, some (.ifCond .ne 5), none, none, some (.iconst (-1)), some .ireturn, some (.aload_n 0)],
  [some (.invokevirtual 474), none, none, some (.aload_n 0), some (.getfield 91), none, none, some (.iload_n 1), some .iaload, some (.istore_n 2), some (.aload_n 0), some (.getfield 97), none, none, some (.iload_n 2), some .iaload],
  [some (.istore_n 3), some (.iconst 0), some (.istore 4), none, some (.iload 4), none, some (.iload_n 3), some (.if_icmp .ge 27), none, none, some (.aload_n 0), some (.getfield 112), none, none, some (.aload_n 0), some (.getfield 100)],
  [none, none, some (.bipush 8), none, some (.iload_n 2), some .imul, some (.iload 4), none, some .iadd, some .iaload, some (.iconst 3), some .iastore, some (.iinc 4 1), none, none, some (.goto (-27))],
  [none, none, some (.aload_n 0), some (.getfield 124), none, none, some (.iconst 0), some .dup2, some .iaload, some (.iload_n 3), some .iadd, some .iastore, some (.aload_n 0), some (.getfield 97), none, none],
  [some (.iload_n 2), some (.iconst 0), some .iastore, some (.iload_n 3), some .ireturn]]
-- 233: CushionCourtModel.give(II)Z
def k_233 : List (List (Option Instr)) := [[some (.aload_n 0), some (.iconst 0), some (.putfield 163), none, none, some (.aload_n 0), some (.iload_n 1), some (.invokevirtual 457), none, none, some (.ifCond .eq 30), none, none, some (.aload_n 0), some (.iload_n 2), some (.invokevirtual 463)],
  [none, none, some (.ifCond .eq 22), none, none, some (.aload_n 0), some (.getfield 109), none, none, some (.iload_n 1), some .iaload, some (.ifCond .ge 13), none, none, some (.aload_n 0), some (.getfield 103)],
  [none, none, some (.iload_n 1), some .iaload, some (.iload_n 2), some (.if_icmp .ne 5), none, none, some (.iconst 0), some .ireturn, some (.aload_n 0), some (.invokevirtual 474), none, none, some (.aload_n 0), some (.getfield 103)],
  [none, none, some (.iload_n 1), some (.iload_n 2), some .iastore, some (.iconst 1), some .ireturn]]
-- 234: CushionCourtModel.days(I)I
def k_234 : List (List (Option Instr)) := [[some (.aload_n 0), some (.iconst 0), some (.putfield 163), none, none, some (.iload_n 1), some (.iconst 0), some (.bipush 99), none, some (.invokestatic 208), none, none, some (.ifCond .eq 17), none, none, some (.aload_n 0)],
  [some (.getfield 118), none, none, some (.iconst 0), some .iaload, some (.iload_n 1), some .iadd, some (.sipush 9900), none, none, some (.if_icmp .le 5), none, none, some (.iconst (-1)), some .ireturn, some (.aload_n 0)],
  [some (.invokevirtual 364), none, none, some (.iconst 0), some (.istore_n 2), some (.iload_n 2), some (.iload_n 1), some (.if_icmp .ge 14), none, none, some (.aload_n 0), some (.iconst 0), some (.invokevirtual 451), none, none, some (.iinc 2 1)],
  [none, none, some (.goto (-13)), none, none, some (.aload_n 0), some (.iload_n 1), some (.ifCond .le 7), none, none, some (.iconst 0), some (.goto 7), none, none, some (.aload_n 0), some (.getfield 370)],
  [none, none, some (.putfield 370), none, none, some (.aload_n 0), some (.getfield 118), none, none, some (.iconst 0), some .iaload, some .ireturn]]
-- 235: CushionCourtModel.ahead(II)I
def k_235 : List (List (Option Instr)) := [[some (.aload_n 0), some (.iconst 0), some (.putfield 163), none, none, some (.iload_n 1), some (.iconst 0), some (.bipush 99), none, some (.invokestatic 208), none, none, some (.ifCond .eq 12), none, none, some (.iload_n 2)],
  [some (.iconst 0), some (.iconst 3), some (.invokestatic 208), none, none, some (.ifCond .ne 5), none, none, some (.iconst (-1)), some .ireturn, some (.aload_n 0), some (.invokevirtual 477), none, none, some (.aload_n 0), some (.iload_n 1)],
  [some (.invokevirtual 480), none, none, some (.iload_n 2), some (.tableswitch 72 0 2 #[28, 40, 58]), none, none, none, none, none, none, none, none, none, none, none],
  [none, none, none, none, none, none, none, none, none, none, none, none, none, none, none, none],
  [some (.aload_n 0), some (.iconst 1), some (.invokevirtual 483), none, none, some (.aload_n 0), some (.iconst 0), some (.invokevirtual 483), none, none, some .isub, some .ireturn, some (.aload_n 0), some (.iconst 1), some (.invokevirtual 486), none],
  [none, some (.invokestatic 454), none, none, some (.aload_n 0), some (.iconst 0), some (.invokevirtual 486), none, none, some (.invokestatic 454), none, none, some .isub, some .ireturn, some (.aload_n 0), some (.getfield 124)],
  [none, none, some (.iconst 1), some .iaload, some (.aload_n 0), some (.getfield 124), none, none, some (.iconst 0), some .iaload, some .isub, some .ireturn, some (.aload_n 0), some (.getfield 121), none, none],
  [some (.iconst 1), some .iaload, some (.aload_n 0), some (.getfield 121), none, none, some (.iconst 0), some .iaload, some .isub, some .ireturn]]
-- 236: CushionCourtModel.toMonday()I
def k_236 : List (List (Option Instr)) := [[some (.bipush 7), none, some (.aload_n 0), some (.getfield 118), none, none, some (.iconst 0), some .iaload, some (.bipush 7), none, some .irem, some .isub, some (.bipush 7), none, some .irem, some .ireturn]]
-- 237: CushionCourtModel.powerOf(II)I
def k_237 : List (List (Option Instr)) := [[some (.iconst 1), some (.istore_n 2), some (.iconst 0), some (.istore_n 3), some (.iload_n 3), some (.iload_n 1), some (.if_icmp .ge 13), none, none, some (.iload_n 2), some (.iload_n 0), some .imul, some (.istore_n 2), some (.iinc 3 1), none, none],
  [some (.goto (-12)), none, none, some (.iload_n 2), some .ireturn]]
-- 238: CushionCourtModel.airing(II)I
def k_238 : List (List (Option Instr)) := [[some (.aload_n 0), some (.iconst 0), some (.putfield 163), none, none, some (.iload_n 1), some (.iconst 1), some (.iconst 4), some (.invokestatic 208), none, none, some (.ifCond .eq 12), none, none, some (.iload_n 2), some (.iconst 0)],
  [some (.iconst 5), some (.invokestatic 208), none, none, some (.ifCond .ne 5), none, none, some (.iconst (-1)), some .ireturn, some (.iload_n 2), some (.iconst 5), some (.if_icmp .ge 14), none, none, some (.iload_n 2), some (.aload_n 0)],
  [some (.getfield 243), none, none, some (.if_icmp .lt 6), none, none, some (.bipush (-2)), none, some .ireturn, some (.iconst (-1)), some (.istore_n 3), some (.iconst 0), some (.istore 4), none, some (.iconst 0), some (.istore 5)],
  [none, some (.iload 5), none, some (.iload_n 1), some (.aload_n 0), some (.getfield 243), none, none, some (.invokestatic 489), none, none, some (.if_icmp .ge 112), none, none, some (.aload_n 0), some (.invokevirtual 477)],
  [none, none, some (.aload_n 0), some (.iconst 1), some (.putfield 394), none, none, some (.iconst 0), some (.istore 6), none, some (.iload 6), none, some (.aload_n 0), some (.getfield 243), none, none],
  [some (.if_icmp .ge 34), none, none, some (.aload_n 0), some (.getfield 127), none, none, some (.iload 6), none, some (.iload 5), none, some (.iload_n 1), some (.aload_n 0), some (.getfield 243), none, none],
  [some (.iconst 1), some .isub, some (.iload 6), none, some .isub, some (.invokestatic 489), none, none, some .idiv, some (.iload_n 1), some .irem, some .iastore, some (.iinc 6 1), none, none, some (.goto (-37))],
  [none, none, some (.aload_n 0), some (.aload_n 0), some (.invokevirtual 492), none, none, some (.bipush 7), none, some (.iload_n 1), some (.iconst 1), some .isub, some .imul, some .iadd, some (.iconst 1), some .iadd],
  [some (.invokevirtual 480), none, none, some (.aload_n 0), some (.iconst 1), some (.invokevirtual 495), none, none, some (.aload_n 0), some (.iconst 0), some (.invokevirtual 495), none, none, some .isub, some (.istore 6), none],
  [some (.iload_n 3), some (.ifCond .lt 13), none, none, some (.iload 6), none, some (.iload 4), none, some (.if_icmp .lt 6), none, none, some (.goto 10), none, none, some (.iload 5), none],
  [some (.istore_n 3), some (.iload 6), none, some (.istore 4), none, some (.iinc 5 1), none, none, some (.goto (-119)), none, none, some (.aload_n 0), some (.invokevirtual 364), none, none, some (.iload_n 2)],
  [some (.iconst 5), some (.if_icmp .ne 8), none, none, some (.iload 4), none, some (.goto 19), none, none, some (.iload_n 3), some (.iload_n 1), some (.aload_n 0), some (.getfield 243), none, none, some (.iconst 1)],
  [some .isub, some (.iload_n 2), some .isub, some (.invokestatic 489), none, none, some .idiv, some (.iload_n 1), some .irem, some .ireturn]]
-- 239: CushionCourtModel.away()I
def k_239 : List (List (Option Instr)) := [[some (.aload_n 0), some (.iconst 0), some (.putfield 163), none, none, some (.aload_n 0), some (.invokevirtual 477), none, none, some (.aload_n 0), some (.aload_n 0), some (.invokevirtual 492), none, none, some (.iconst 1), some .iadd],
  [some (.invokevirtual 480), none, none, some (.aload_n 0), some (.getfield 438), none, none, some .ireturn]]
-- 240: CushionCourtModel.given(I)I
def k_240 : List (List (Option Instr)) := [[some (.aload_n 0), some (.iconst 0), some (.putfield 163), none, none, some (.iload_n 1), some (.iconst 0), some (.bipush 6), none, some (.invokestatic 208), none, none, some (.ifCond .ne 5), none, none, some (.iconst (-1))],
  [some .ireturn, some (.aload_n 0), some (.invokevirtual 364), none, none, some (.iconst 0), some (.istore_n 2), some (.iconst 0), some (.istore_n 3), some (.iload_n 3), some (.aload_n 0), some (.getfield 246), none, none, some (.if_icmp .ge 37), none],
  [none, some (.iload_n 2), some (.bipush 6), none, some (.if_icmp .ge 31), none, none, some (.aload_n 0), some (.getfield 109), none, none, some (.iload_n 3), some .iaload, some (.ifCond .lt 6), none, none],
  [some (.goto 13), none, none, some (.aload_n 0), some (.getfield 130), none, none, some (.iload_n 2), some (.iload_n 3), some .iastore, some (.iinc 2 1), none, none, some (.iinc 3 1), none, none],
  [some (.goto (-39)), none, none, some (.iload_n 1), some (.bipush 6), none, some (.if_icmp .ge 11), none, none, some (.iload_n 1), some (.iload_n 2), some (.if_icmp .lt 6), none, none, some (.bipush (-2)), none],
  [some .ireturn, some (.iload_n 2), some (.iconst 2), some (.aload_n 0), some (.getfield 243), none, none, some .imul, some (.if_icmp .le 6), none, none, some (.bipush (-3)), none, some .ireturn, some (.iconst (-1)), some (.istore_n 3)],
  [some (.iconst 0), some (.istore 4), none, some (.iconst 0), some (.istore 5), none, some (.iload 5), none, some (.aload_n 0), some (.getfield 243), none, none, some (.iload_n 2), some (.invokestatic 489), none, none],
  [some (.if_icmp .ge 154), none, none, some (.iconst 0), some (.istore 6), none, some (.iload 6), none, some (.iconst 5), some (.if_icmp .ge 17), none, none, some (.aload_n 0), some (.getfield 133), none, none],
  [some (.iload 6), none, some (.iconst 0), some .iastore, some (.iinc 6 1), none, none, some (.goto (-17)), none, none, some (.iconst 0), some (.istore 6), none, some (.iconst 1), some (.istore 7), none],
  [some (.iconst 0), some (.istore 8), none, some (.iload 8), none, some (.iload_n 2), some (.if_icmp .ge 84), none, none, some (.iload 5), none, some (.aload_n 0), some (.getfield 243), none, none, some (.iload_n 2)],
  [some (.iconst 1), some .isub, some (.iload 8), none, some .isub, some (.invokestatic 489), none, none, some .idiv, some (.aload_n 0), some (.getfield 243), none, none, some .irem, some (.istore 9), none],
  [some (.aload_n 0), some (.getfield 133), none, none, some (.iload 9), none, some .dup2, some .iaload, some (.iconst 1), some .iadd, some .iastore, some (.iload 7), none, some (.ifCond .eq 18), none, none],
  [some (.aload_n 0), some (.getfield 133), none, none, some (.iload 9), none, some .iaload, some (.iconst 2), some (.if_icmp .gt 7), none, none, some (.iconst 1), some (.goto 4), none, none, some (.iconst 0)],
  [some (.istore 7), none, some (.iload 6), none, some (.aload_n 0), some (.iload 9), none, some (.aload_n 0), some (.getfield 130), none, none, some (.iload 8), none, some .iaload, some (.invokevirtual 406), none],
  [none, some .iadd, some (.istore 6), none, some (.iinc 8 1), none, none, some (.goto (-84)), none, none, some (.iload 7), none, some (.ifCond .eq 24), none, none, some (.iload_n 3)],
  [some (.ifCond .lt 13), none, none, some (.iload 6), none, some (.iload 4), none, some (.if_icmp .lt 6), none, none, some (.goto 10), none, none, some (.iload 5), none, some (.istore_n 3)],
  [some (.iload 6), none, some (.istore 4), none, some (.iinc 5 1), none, none, some (.goto (-161)), none, none, some (.iload_n 1), some (.bipush 6), none, some (.if_icmp .ne 8), none, none],
  [some (.iload 4), none, some (.goto 22), none, none, some (.iload_n 3), some (.aload_n 0), some (.getfield 243), none, none, some (.iload_n 2), some (.iconst 1), some .isub, some (.iload_n 1), some .isub, some (.invokestatic 489)],
  [none, none, some .idiv, some (.aload_n 0), some (.getfield 243), none, none, some .irem, some .ireturn]]
-- 241: CushionCourtModel.common(II)I
def k_241 : List (List (Option Instr)) := [[some (.iload_n 0), some (.istore_n 2), some (.iload_n 1), some (.istore_n 3), some (.iload_n 3), some (.ifCond .eq 16), none, none, some (.iload_n 2), some (.iload_n 3), some .irem, some (.istore 4), none, some (.iload_n 3), some (.istore_n 2), some (.iload 4)],
  [none, some (.istore_n 3), some (.goto (-14)), none, none, some (.iload_n 2), some .ireturn]]
-- 242: CushionCourtModel.least1(III)I
def k_242 : List (List (Option Instr)) := [[some (.iload_n 1), some (.iload_n 0), some (.invokestatic 498), none, none, some (.istore_n 3), some (.iload_n 2), some (.ifCond .ne 9), none, none, some (.iload_n 0), some (.iload_n 3), some .idiv, some (.goto 6), none, none],
  [some (.iload_n 1), some (.iload_n 3), some .idiv, some .ireturn]]
-- 243: CushionCourtModel.lot(II)I
def k_243 : List (List (Option Instr)) := [[some (.aload_n 0), some (.iconst 0), some (.putfield 163), none, none, some (.aload_n 0), some (.iload_n 1), some (.invokevirtual 457), none, none, some (.ifCond .eq 12), none, none, some (.iload_n 2), some (.iconst 0), some (.iconst 1)],
  [some (.invokestatic 208), none, none, some (.ifCond .ne 5), none, none, some (.iconst (-1)), some .ireturn, some (.aload_n 0), some (.invokevirtual 364), none, none, some (.iconst 0), some (.istore_n 3), some (.iconst 0), some (.istore 4)],
  [none, some (.iload 4), none, some (.aload_n 0), some (.getfield 243), none, none, some (.if_icmp .ge 37), none, none, some (.iload_n 3), some (.aload_n 0), some (.iload 4), none, some (.iload_n 1), some (.aload_n 0)],
  [some (.getfield 97), none, none, some (.aload_n 0), some (.getfield 91), none, none, some (.iload 4), none, some .iaload, some .iaload, some (.aload_n 0), some (.getfield 118), none, none, some (.iconst 0)],
  [some .iaload, some (.invokevirtual 420), none, none, some .iadd, some (.istore_n 3), some (.iinc 4 1), none, none, some (.goto (-40)), none, none, some (.iload_n 3), some (.aload_n 0), some (.getfield 243), none],
  [none, some (.iload_n 2), some (.invokestatic 501), none, none, some .ireturn]]
-- 244: CushionCourtModel.clashes()I
def k_244 : List (List (Option Instr)) := [[some (.aload_n 0), some (.iconst 0), some (.putfield 163), none, none, some (.iconst 0), some (.istore_n 1), some (.iconst 0), some (.istore_n 2), some (.iload_n 2), some (.aload_n 0), some (.getfield 246), none, none, some (.if_icmp .ge 67), none],
  [none, some (.iconst 0), some (.istore_n 3), some (.iload_n 3), some (.aload_n 0), some (.getfield 246), none, none, some (.if_icmp .ge 51), none, none, some (.iload_n 1), some (.aload_n 0), some (.getfield 109), none, none],
  [some (.iload_n 2), some .iaload, some (.iconst 1), some (.if_icmp .ne 31), none, none, some (.aload_n 0), some (.getfield 109), none, none, some (.iload_n 3), some .iaload, some (.ifCond .ne 22), none, none, some (.aload_n 0)],
  [some (.getfield 45), none, none, some (.iload_n 2), some .iaload, some (.aload_n 0), some (.getfield 45), none, none, some (.iload_n 3), some .iaload, some (.if_icmp .ge 7), none, none, some (.iconst 1), some (.goto 4)],
  [none, none, some (.iconst 0), some .iadd, some (.istore_n 1), some (.iinc 3 1), none, none, some (.goto (-53)), none, none, some (.iinc 2 1), none, none, some (.goto (-69)), none],
  [none, some (.iload_n 1), some .ireturn]]
-- 245: CushionCourtModel.bold(II)I
def k_245 : List (List (Option Instr)) := [[some (.aload_n 0), some (.iconst 0), some (.putfield 163), none, none, some (.aload_n 0), some (.iload_n 1), some (.invokevirtual 463), none, none, some (.ifCond .eq 12), none, none, some (.iload_n 2), some (.iconst 0), some (.iconst 1)],
  [some (.invokestatic 208), none, none, some (.ifCond .ne 5), none, none, some (.iconst (-1)), some .ireturn, some (.aload_n 0), some (.iload_n 1), some (.invokevirtual 466), none, none, some (.istore_n 3), some (.iconst 0), some (.istore 4)],
  [none, some (.iconst 0), some (.istore 5), none, some (.iload 5), none, some (.aload_n 0), some (.getfield 246), none, none, some (.if_icmp .ge 47), none, none, some (.iload 4), none, some (.aload_n 0)],
  [some (.getfield 103), none, none, some (.iload 5), none, some .iaload, some (.iload_n 1), some (.if_icmp .ne 24), none, none, some (.aload_n 0), some (.getfield 109), none, none, some (.iload 5), none],
  [some .iaload, some (.aload_n 0), some (.getfield 106), none, none, some (.iload 5), none, some .iaload, some (.if_icmp .eq 7), none, none, some (.iconst 1), some (.goto 4), none, none, some (.iconst 0)],
  [some .iadd, some (.istore 4), none, some (.iinc 5 1), none, none, some (.goto (-50)), none, none, some (.iload_n 3), some (.ifCond .ne 7), none, none, some (.iload_n 2), some (.goto 10), none],
  [none, some (.iload 4), none, some (.iload_n 3), some (.iload_n 2), some (.invokestatic 501), none, none, some .ireturn]]
-- 246: CushionCourtModel.learnt(III)I
def k_246 : List (List (Option Instr)) := [[some (.iload_n 1), some (.iload_n 2), some (.if_icmp .le 7), none, none, some (.iload_n 0), some (.goto 15), none, none, some (.iload_n 1), some (.iload_n 2), some (.if_icmp .ne 9), none, none, some (.iload_n 0), some (.iconst 2)],
  [some .idiv, some (.goto 4), none, none, some (.iconst 0), some (.iload_n 1), some .isub, some .ireturn]]
-- 247: CushionCourtModel.restAt(II)I
def k_247 : List (List (Option Instr)) := [[some (.iconst 0), some (.istore_n 3), some (.iconst 0), some (.istore 4), none, some (.iload 4), none, some (.bipush 25), none, some (.if_icmp .ge 114), none, none, some (.iload 4), none, some (.iconst 5), some .idiv],
  [some (.istore 5), none, some (.iload 4), none, some (.iconst 5), some .irem, some (.istore 6), none, some (.iconst 1), some (.istore 7), none, some (.iconst 0), some (.istore 8), none, some (.iload 8), none],
  [some (.iconst 5), some (.if_icmp .ge 59), none, none, some (.iload 7), none, some (.ifCond .eq 45), none, none, some (.iload_n 1), some (.iload 8), none, some (.iload 6), none, some (.invokestatic 505), none],
  [none, some (.iload_n 1), some (.iload 5), none, some (.iload 6), none, some (.invokestatic 505), none, none, some (.if_icmp .gt 26), none, none, some (.iload_n 1), some (.iload 8), none, some (.iload 5)],
  [none, some (.invokestatic 505), none, none, some (.iload_n 1), some (.iload 6), none, some (.iload 5), none, some (.invokestatic 505), none, none, some (.if_icmp .gt 7), none, none, some (.iconst 1)],
  [some (.goto 4), none, none, some (.iconst 0), some (.istore 7), none, some (.iinc 8 1), none, none, some (.goto (-59)), none, none, some (.iload 7), none, some (.ifCond .ne 6), none],
  [none, some (.goto 20), none, none, some (.iload_n 3), some (.iload_n 2), some (.if_icmp .ne 12), none, none, some (.bipush 10), none, some (.iload 5), none, some .imul, some (.iload 6), none],
  [some .iadd, some .ireturn, some (.iinc 3 1), none, none, some (.iinc 4 1), none, none, some (.goto (-115)), none, none, some (.iload_n 2), some (.ifCond .ge 7), none, none, some (.iload_n 3)],
  [some (.goto 5), none, none, some (.bipush (-2)), none, some .ireturn]]
-- 248: CushionCourtModel.rests(I)I
def k_248 : List (List (Option Instr)) := [[some (.aload_n 0), some (.iconst 0), some (.putfield 163), none, none, some (.aload_n 0), some (.iload_n 1), some (.invokevirtual 463), none, none, some (.ifCond .eq 22), none, none, some (.aload_n 0), some (.aload_n 0), some (.getfield 97)],
  [none, none, some (.aload_n 0), some (.getfield 91), none, none, some (.iload_n 1), some .iaload, some .iaload, some (.iconst (-1)), some (.invokevirtual 508), none, none, some (.goto 4), none, none],
  [some (.iconst (-1)), some .ireturn]]
-- 249: CushionCourtModel.rest(II)I
def k_249 : List (List (Option Instr)) := [[some (.aload_n 0), some (.iconst 0), some (.putfield 163), none, none, some (.aload_n 0), some (.iload_n 1), some (.invokevirtual 463), none, none, some (.ifCond .eq 26), none, none, some (.iload_n 2), some (.ifCond .lt 22), none],
  [none, some (.aload_n 0), some (.aload_n 0), some (.getfield 97), none, none, some (.aload_n 0), some (.getfield 91), none, none, some (.iload_n 1), some .iaload, some .iaload, some (.iload_n 2), some (.invokevirtual 508), none],
  [none, some (.goto 4), none, none, some (.iconst (-1)), some .ireturn]]
-- 250: CushionCourtModel.empties(I)I
def k_250 : List (List (Option Instr)) := [[some (.aload_n 0), some (.iconst 0), some (.putfield 163), none, none, some (.aload_n 0), some (.iload_n 1), some (.invokevirtual 463), none, none, some (.ifCond .ne 5), none, none, some (.iconst (-1)), some .ireturn, some (.aload_n 0)],
  [some (.getfield 91), none, none, some (.iload_n 1), some .iaload, some (.istore_n 2), some (.aload_n 0), some (.getfield 97), none, none, some (.iload_n 2), some .iaload, some (.ifCond .ne 5), none, none, some (.iconst 0)],
  [some .ireturn, some (.aload_n 0), some (.invokevirtual 477), none, none, some (.aload_n 0), some (.iload_n 2), some (.putfield 391), none, none, some (.aload_n 0), some (.getfield 397), none, none, some (.bipush 20), none],
  [some (.if_icmp .ge 40), none, none, some (.aload_n 0), some (.getfield 397), none, none, some (.istore_n 3), some (.aload_n 0), some (.iconst 1), some (.invokevirtual 451), none, none, some (.aload_n 0), some (.getfield 397), none],
  [none, some (.iload_n 3), some (.if_icmp .le 19), none, none, some (.aload_n 0), some (.getfield 97), none, none, some (.iconst 5), some (.iload_n 2), some .iadd, some .iaload, some (.ifCond .ne 8), none, none],
  [some (.aload_n 0), some (.getfield 397), none, none, some .ireturn, some (.goto (-43)), none, none, some (.bipush (-2)), none, some .ireturn]]
-- 251: CushionCourtModel.plumpest()I
def k_251 : List (List (Option Instr)) := [[some (.aload_n 0), some (.iconst 0), some (.putfield 163), none, none, some (.iconst (-1)), some (.istore_n 1), some (.iconst 0), some (.istore_n 2), some (.iload_n 2), some (.aload_n 0), some (.getfield 243), none, none, some (.if_icmp .ge 44), none],
  [none, some (.iload_n 1), some (.ifCond .lt 28), none, none, some (.aload_n 0), some (.getfield 97), none, none, some (.aload_n 0), some (.getfield 91), none, none, some (.iload_n 2), some .iaload, some .iaload],
  [some (.aload_n 0), some (.getfield 97), none, none, some (.aload_n 0), some (.getfield 91), none, none, some (.iload_n 1), some .iaload, some .iaload, some (.if_icmp .le 7), none, none, some (.iload_n 2), some (.goto 4)],
  [none, none, some (.iload_n 1), some (.istore_n 1), some (.iinc 2 1), none, none, some (.goto (-46)), none, none, some (.iload_n 1), some .ireturn]]
-- 252: CushionCourtModel.learns(II)I
def k_252 : List (List (Option Instr)) := [[some (.aload_n 0), some (.iconst 0), some (.putfield 163), none, none, some (.aload_n 0), some (.iload_n 1), some (.invokevirtual 469), none, none, some (.ifCond .eq 13), none, none, some (.iload_n 2), some (.iconst 1), some (.bipush 99)],
  [none, some (.invokestatic 208), none, none, some (.ifCond .ne 5), none, none, some (.iconst (-1)), some .ireturn, some (.aload_n 0), some (.invokevirtual 477), none, none, some (.iconst 1), some (.istore_n 3), some (.iload_n 3)],
  [some (.iload_n 2), some (.if_icmp .gt 33), none, none, some (.aload_n 0), some (.iconst 1), some (.invokevirtual 451), none, none, some (.aload_n 0), some (.getfield 115), none, none, some (.iconst 5), some (.iload_n 1), some .iadd],
  [some .iaload, some (.aload_n 0), some (.getfield 115), none, none, some (.iload_n 1), some .iaload, some (.if_icmp .eq 5), none, none, some (.iload_n 3), some .ireturn, some (.iinc 3 1), none, none, some (.goto (-32))],
  [none, none, some (.bipush (-2)), none, some .ireturn]]
-- 253: CushionCourtModel.plump(II)I
def k_253 : List (List (Option Instr)) := [[some (.aload_n 0), some (.iconst 0), some (.putfield 163), none, none, some (.aload_n 0), some (.iload_n 1), some (.invokevirtual 463), none, none, some (.ifCond .eq 13), none, none, some (.iload_n 2), some (.iconst 0), some (.bipush 99)],
  [none, some (.invokestatic 208), none, none, some (.ifCond .ne 5), none, none, some (.iconst (-1)), some .ireturn, some (.aload_n 0), some (.invokevirtual 477), none, none, some (.aload_n 0), some (.iload_n 2), some (.invokevirtual 480)],
  [none, none, some (.aload_n 0), some (.getfield 97), none, none, some (.iconst 5), some (.aload_n 0), some (.getfield 91), none, none, some (.iload_n 1), some .iaload, some .iadd, some .iaload, some .ireturn]]
-- 254: CushionCourtModel.noted(III)I
def k_254 : List (List (Option Instr)) := [[some (.aload_n 0), some (.getfield 139), none, none, some (.iconst 3), some (.aload_n 0), some (.getfield 367), none, none, some .imul, some (.iload_n 1), some .iastore, some (.aload_n 0), some (.getfield 139), none, none],
  [some (.iconst 3), some (.aload_n 0), some (.getfield 367), none, none, some .imul, some (.iconst 1), some .iadd, some (.iload_n 2), some .iastore, some (.aload_n 0), some (.getfield 139), none, none, some (.iconst 3), some (.aload_n 0)],
  [some (.getfield 367), none, none, some .imul, some (.iconst 2), some .iadd, some (.iload_n 3), some .iastore, some (.aload_n 0), some .dup, some (.getfield 367), none, none, some (.iconst 1), some .iadd, some (.putfield 367)],
  [none, none, some (.aload_n 0), some (.getfield 367), none, none, some (.iconst 1), some .isub, some .ireturn]]
-- 255: CushionCourtModel.find(IIZ)I
def k_255 : List (List (Option Instr)) := [[some (.aload_n 0), some (.iconst 0), some (.putfield 163), none, none, some (.aload_n 0), some (.getfield 367), none, none, some (.bipush 24), none, some (.if_icmp .eq 19), none, none, some (.aload_n 0), some (.iload_n 1)],
  [some (.invokevirtual 457), none, none, some (.ifCond .eq 11), none, none, some (.aload_n 0), some (.iload_n 2), some (.invokevirtual 463), none, none, some (.ifCond .ne 7), none, none, some (.iconst (-1)), some (.goto 18)],
  [none, none, some (.aload_n 0), some (.iload_n 1), some (.iload_n 2), some (.iload_n 3), some (.ifCond .eq 7), none, none, some (.iconst 1), some (.goto 4), none, none, some (.iconst 0), some (.invokevirtual 511), none],
  [none, some .ireturn]]
-- 256: CushionCourtModel.strike(I)I
def k_256 : List (List (Option Instr)) := [[some (.aload_n 0), some (.iconst 0), some (.putfield 163), none, none, some (.aload_n 0), some (.getfield 367), none, none, some (.bipush 24), none, some (.if_icmp .eq 15), none, none, some (.iload_n 1), some (.ifCond .lt 11)],
  [none, none, some (.iload_n 1), some (.aload_n 0), some (.getfield 367), none, none, some (.if_icmp .lt 7), none, none, some (.iconst (-1)), some (.goto 10), none, none, some (.aload_n 0), some (.iconst (-1))],
  [some (.iload_n 1), some (.iconst 0), some (.invokevirtual 511), none, none, some .ireturn]]
-- 257: CushionCourtModel.known(I)Z
def k_257 : List (List (Option Instr)) := [[some (.aload_n 0), some (.iconst 0), some (.putfield 163), none, none, some (.iload_n 1), some (.iconst (-1)), some (.aload_n 0), some (.getfield 367), none, none, some (.invokestatic 208), none, none, some (.ifCond .ne 5), none],
  [none, some (.iconst 0), some .ireturn, some (.aload_n 0), some (.iload_n 1), some (.putfield 136), none, none, some (.iconst 1), some .ireturn]]
-- 258: CushionCourtModel.knownBy()I
def k_258 : List (List (Option Instr)) := [[some (.aload_n 0), some (.getfield 136), none, none, some (.ifCond .ge 10), none, none, some (.aload_n 0), some (.getfield 367), none, none, some (.goto 7), none, none, some (.aload_n 0), some (.getfield 136)],
  [none, none, some .ireturn]]
-- 259: CushionCourtModel.isThere(II)Z
def k_259 : List (List (Option Instr)) := [[some (.iconst 0), some (.istore_n 3), some (.iload_n 3), some (.aload_n 0), some (.getfield 97), none, none, some (.iload_n 2), some .iaload, some (.if_icmp .ge 26), none, none, some (.aload_n 0), some (.getfield 100), none, none],
  [some (.bipush 8), none, some (.iload_n 2), some .imul, some (.iload_n 3), some .iadd, some .iaload, some (.iload_n 1), some (.if_icmp .ne 5), none, none, some (.iconst 1), some .ireturn, some (.iinc 3 1), none, none],
  [some (.goto (-30)), none, none, some (.iconst 0), some .ireturn]]
-- 260: CushionCourtModel.isRight(I)Z
def k_260 : List (List (Option Instr)) := [[some (.iconst 0), some (.istore_n 2), some (.iconst 0), some (.istore_n 3), some (.iload_n 3), some (.aload_n 0), some (.getfield 243), none, none, some (.if_icmp .ge 56), none, none, some (.aload_n 0), some (.getfield 145), none, none],
  [some (.iload_n 3), some (.iload_n 1), some (.aload_n 0), some (.getfield 243), none, none, some (.iload_n 3), some (.invokestatic 489), none, none, some .idiv, some (.aload_n 0), some (.getfield 243), none, none, some .irem],
  [some .iastore, some (.iload_n 2), some (.aload_n 0), some (.getfield 145), none, none, some (.iload_n 3), some .iaload, some (.invokestatic 435), none, none, some (.ifCond .eq 5), none, none, some (.iconst 0), some .ireturn],
  [some (.iload_n 2), some (.iconst 1), some (.aload_n 0), some (.getfield 145), none, none, some (.iload_n 3), some .iaload, some .ishl, some .ior, some (.istore_n 2), some (.iinc 3 1), none, none, some (.goto (-58)), none],
  [none, some (.iconst 0), some (.istore_n 3), some (.iload_n 3), some (.aload_n 0), some (.invokevirtual 514), none, none, some (.if_icmp .ge 83), none, none, some (.aload_n 0), some (.getfield 142), none, none, some (.iload_n 3)],
  [some .baload, some (.ifCond .eq 68), none, none, some (.aload_n 0), some (.getfield 139), none, none, some (.iconst 3), some (.iload_n 3), some .imul, some .iaload, some (.ifCond .ge 6), none, none, some (.goto 54)],
  [none, none, some (.aload_n 0), some (.aload_n 0), some (.getfield 139), none, none, some (.iconst 3), some (.iload_n 3), some .imul, some .iaload, some (.aload_n 0), some (.getfield 145), none, none, some (.aload_n 0)],
  [some (.getfield 139), none, none, some (.iconst 3), some (.iload_n 3), some .imul, some (.iconst 1), some .iadd, some .iaload, some .iaload, some (.invokevirtual 517), none, none, some (.aload_n 0), some (.getfield 139), none],
  [none, some (.iconst 3), some (.iload_n 3), some .imul, some (.iconst 2), some .iadd, some .iaload, some (.iconst 1), some (.if_icmp .ne 7), none, none, some (.iconst 1), some (.goto 4), none, none, some (.iconst 0)],
  [some (.if_icmp .eq 5), none, none, some (.iconst 0), some .ireturn, some (.iinc 3 1), none, none, some (.goto (-85)), none, none, some (.iconst 1), some .ireturn]]
-- 261: CushionCourtModel.layCounts()V
def k_261 : List (List (Option Instr)) := [[some (.iconst 0), some (.istore_n 1), some (.iload_n 1), some (.aload_n 0), some (.invokevirtual 514), none, none, some (.if_icmp .ge 16), none, none, some (.aload_n 0), some (.getfield 142), none, none, some (.iload_n 1), some (.iconst 1)],
  [some .bastore, some (.iinc 1 1), none, none, some (.goto (-18)), none, none, some (.aload_n 0), some (.invokevirtual 514), none, none, some (.iconst 1), some .isub, some (.istore_n 1), some (.iload_n 1), some (.ifCond .lt 45)],
  [none, none, some (.aload_n 0), some (.getfield 142), none, none, some (.iload_n 1), some .baload, some (.ifCond .eq 30), none, none, some (.aload_n 0), some (.getfield 139), none, none, some (.iconst 3)],
  [some (.iload_n 1), some .imul, some .iaload, some (.ifCond .ge 19), none, none, some (.aload_n 0), some (.getfield 142), none, none, some (.aload_n 0), some (.getfield 139), none, none, some (.iconst 3), some (.iload_n 1)],
  [some .imul, some (.iconst 1), some .iadd, some .iaload, some (.iconst 0), some .bastore, some (.iinc 1 (-1)), none, none, some (.goto (-43)), none, none, some .return_]]
-- 262: CushionCourtModel.ways()I
def k_262 : List (List (Option Instr)) := [[some (.aload_n 0), some (.iconst 0), some (.putfield 163), none, none, some (.aload_n 0), some (.invokevirtual 520), none, none, some (.iconst 0), some (.istore_n 1), some (.iconst 0), some (.istore_n 2), some (.iload_n 2), some (.aload_n 0), some (.getfield 243)],
  [none, none, some (.aload_n 0), some (.getfield 243), none, none, some (.invokestatic 489), none, none, some (.if_icmp .ge 25), none, none, some (.iload_n 1), some (.aload_n 0), some (.iload_n 2), some (.invokevirtual 523)],
  [none, none, some (.ifCond .eq 7), none, none, some (.iconst 1), some (.goto 4), none, none, some (.iconst 0), some .iadd, some (.istore_n 1), some (.iinc 2 1), none, none, some (.goto (-34))],
  [none, none, some (.iload_n 1), some .ireturn]]
-- 263: CushionCourtModel.whose(I)I
def k_263 : List (List (Option Instr)) := [[some (.aload_n 0), some (.iconst 0), some (.putfield 163), none, none, some (.aload_n 0), some (.iload_n 1), some (.invokevirtual 463), none, none, some (.ifCond .ne 5), none, none, some (.iconst (-1)), some .ireturn, some (.aload_n 0)],
  [some (.invokevirtual 520), none, none, some (.iconst 0), some (.istore_n 2), some (.iconst 0), some (.istore_n 3), some (.iload_n 3), some (.aload_n 0), some (.getfield 243), none, none, some (.aload_n 0), some (.getfield 243), none, none],
  [some (.invokestatic 489), none, none, some (.if_icmp .ge 65), none, none, some (.aload_n 0), some (.iload_n 3), some (.invokevirtual 523), none, none, some (.ifCond .ne 6), none, none, some (.goto 48), none],
  [none, some (.iconst 0), some (.istore 4), none, some (.iload 4), none, some (.aload_n 0), some (.getfield 243), none, none, some (.if_icmp .ge 36), none, none, some (.iload_n 2), some (.aload_n 0), some (.getfield 91)],
  [none, none, some (.iload 4), none, some .iaload, some (.aload_n 0), some (.getfield 145), none, none, some (.iload_n 1), some .iaload, some (.if_icmp .ne 10), none, none, some (.iconst 1), some (.iload 4)],
  [none, some .ishl, some (.goto 4), none, none, some (.iconst 0), some .ior, some (.istore_n 2), some (.iinc 4 1), none, none, some (.goto (-39)), none, none, some (.iinc 3 1), none],
  [none, some (.goto (-74)), none, none, some (.iload_n 2), some .ireturn]]
-- 264: CushionCourtModel.leans(I)I
def k_264 : List (List (Option Instr)) := [[some (.aload_n 0), some (.iconst 0), some (.putfield 163), none, none, some (.aload_n 0), some (.iload_n 1), some (.invokevirtual 463), none, none, some (.ifCond .ne 5), none, none, some (.iconst (-1)), some .ireturn, some (.aload_n 0)],
  [some (.invokevirtual 364), none, none, some (.aload_n 0), some (.iload_n 1), some (.putfield 385), none, none, some (.iconst 0), some (.istore_n 2), some (.iconst 0), some (.istore_n 3), some (.iload_n 3), some (.bipush 10), none, some (.if_icmp .ge 114)],
  [none, none, some (.aload_n 0), some (.bipush 10), none, some (.iload_n 3), some .imul, some (.putfield 388), none, none, some (.iconst 1), some (.istore 4), none, some (.iconst 0), some (.istore 5), none],
  [some (.iload 5), none, some (.aload_n 0), some (.getfield 246), none, none, some (.if_icmp .ge 70), none, none, some (.aload_n 0), some (.getfield 103), none, none, some (.iload 5), none, some .iaload],
  [some (.iload_n 1), some (.if_icmp .ne 53), none, none, some (.aload_n 0), some (.getfield 109), none, none, some (.iload 5), none, some .iaload, some (.ifCond .ge 6), none, none, some (.goto 40), none],
  [none, some (.iload 4), none, some (.ifCond .eq 32), none, none, some (.aload_n 0), some (.iload_n 1), some (.iload 5), none, some (.iconst 0), some (.aload_n 0), some (.getfield 42), none, none, some (.iload 5)],
  [none, some .iaload, some (.invokevirtual 426), none, none, some (.aload_n 0), some (.getfield 109), none, none, some (.iload 5), none, some .iaload, some (.if_icmp .ne 7), none, none, some (.iconst 1)],
  [some (.goto 4), none, none, some (.iconst 0), some (.istore 4), none, some (.iinc 5 1), none, none, some (.goto (-73)), none, none, some (.iload_n 2), some (.iload 4), none, some (.ifCond .eq 9)],
  [none, none, some (.iconst 1), some (.iload_n 3), some .ishl, some (.goto 4), none, none, some (.iconst 0), some .ior, some (.istore_n 2), some (.iinc 3 1), none, none, some (.goto (-114)), none],
  [none, some (.aload_n 0), some (.invokevirtual 364), none, none, some (.iload_n 2), some .ireturn]]
-- 265: CushionCourtModel.number1(I)I
def k_265 : List (List (Option Instr)) := [[some (.aload_n 0), some (.aload_n 0), some (.getfield 526), none, none, some (.ldc2_w 530), none, none, some .lmul, some (.ldc2_w 532), none, none, some .ladd, some (.ldc2_w 534), none, none],
  [some .land, some (.putfield 526), none, none, some (.aload_n 0), some (.getfield 526), none, none, some (.ldc2_w 536), none, none, some .ldiv, some (.iload_n 1), some .i2l, some .lrem, some .l2i],
  [some .ireturn]]
-- 266: CushionCourtModel.chance(III)I
def k_266 : List (List (Option Instr)) := [[some (.aload_n 0), some (.iconst 0), some (.putfield 163), none, none, some (.iload_n 1), some (.ifCond .lt 23), none, none, some (.iload_n 2), some (.iconst 1), some (.bipush 99), none, some (.invokestatic 208), none, none],
  [some (.ifCond .eq 13), none, none, some (.iload_n 3), some (.iconst 0), some (.bipush 99), none, some (.invokestatic 208), none, none, some (.ifCond .ne 5), none, none, some (.iconst (-1)), some .ireturn, some (.aload_n 0)],
  [some (.iload_n 1), some .i2l, some (.putfield 526), none, none, some (.iconst 0), some (.istore 4), none, some (.iconst 0), some (.istore 5), none, some (.iload 5), none, some (.bipush 10), none, some (.if_icmp .ge 70)],
  [none, none, some (.aload_n 0), some (.invokevirtual 477), none, none, some (.iconst 0), some (.istore 6), none, some (.iload 6), none, some (.iload_n 2), some (.if_icmp .ge 24), none, none, some (.aload_n 0)],
  [some (.aload_n 0), some (.bipush 10), none, some (.invokevirtual 538), none, none, some (.putfield 382), none, none, some (.aload_n 0), some (.iconst 1), some (.invokevirtual 451), none, none, some (.iinc 6 1), none],
  [none, some (.goto (-24)), none, none, some (.iload 4), none, some (.aload_n 0), some (.getfield 121), none, none, some (.iconst 1), some .iaload, some (.aload_n 0), some (.getfield 121), none, none],
  [some (.iconst 0), some .iaload, some .isub, some (.iload_n 3), some (.if_icmp .lt 7), none, none, some (.iconst 1), some (.goto 4), none, none, some (.iconst 0), some .iadd, some (.istore 4), none, some (.iinc 5 1)],
  [none, none, some (.goto (-71)), none, none, some (.aload_n 0), some (.invokevirtual 364), none, none, some (.iload 4), none, some .ireturn]]
-- 267: CushionCourtModel.tried(III)I
def k_267 : List (List (Option Instr)) := [[some (.aload_n 0), some (.iconst 0), some (.putfield 163), none, none, some (.iload_n 1), some (.iconst 0), some (.iconst 4), some (.invokestatic 208), none, none, some (.ifCond .eq 33), none, none, some (.iload_n 3), some (.iconst 0)],
  [some (.bipush 99), none, some (.invokestatic 208), none, none, some (.ifCond .eq 23), none, none, some (.iload_n 1), some (.iconst 2), some (.if_icmp .ne 14), none, none, some (.aload_n 0), some (.iload_n 2), some (.invokevirtual 463)],
  [none, none, some (.ifCond .ne 12), none, none, some (.goto 7), none, none, some (.iload_n 2), some (.ifCond .eq 5), none, none, some (.iconst (-1)), some .ireturn, some (.aload_n 0), some (.invokevirtual 477)],
  [none, none, some (.aload_n 0), some (.iload_n 1), some (.putfield 376), none, none, some (.aload_n 0), some (.iload_n 2), some (.putfield 379), none, none, some (.aload_n 0), some (.iload_n 3), some (.invokevirtual 480), none],
  [none, some (.aload_n 0), some (.invokevirtual 364), none, none, some (.aload_n 0), some (.getfield 121), none, none, some (.iconst 1), some .iaload, some (.aload_n 0), some (.getfield 121), none, none, some (.iconst 0)],
  [some .iaload, some .isub, some .ireturn]]
-- 268: CushionCourtModel.put([II)V
def k_268 : List (List (Option Instr)) := [[some (.iconst 0), some (.istore_n 3), some (.iload_n 3), some (.iconst 5), some (.if_icmp .ge 55), none, none, some (.aload_n 1), some (.iload_n 2), some (.iload_n 3), some .iadd, some (.aload_n 0), some (.getfield 91), none, none, some (.iload_n 3)],
  [some .iaload, some .iastore, some (.aload_n 1), some (.iload_n 2), some (.iconst 5), some .iadd, some (.iload_n 3), some .iadd, some (.aload_n 0), some (.getfield 94), none, none, some (.iload_n 3), some .baload, some (.ifCond .eq 7), none],
  [none, some (.iconst 1), some (.goto 4), none, none, some (.iconst 0), some .iastore, some (.aload_n 1), some (.iload_n 2), some (.bipush 10), none, some .iadd, some (.iload_n 3), some .iadd, some (.aload_n 0), some (.getfield 97)],
  [none, none, some (.iload_n 3), some .iaload, some .iastore, some (.iinc 3 1), none, none, some (.goto (-54)), none, none, some (.iconst 0), some (.istore_n 3), some (.iload_n 3), some (.bipush 40), none],
  [some (.if_icmp .ge 23), none, none, some (.aload_n 1), some (.iload_n 2), some (.bipush 15), none, some .iadd, some (.iload_n 3), some .iadd, some (.aload_n 0), some (.getfield 100), none, none, some (.iload_n 3), some .iaload],
  [some .iastore, some (.iinc 3 1), none, none, some (.goto (-23)), none, none, some (.iconst 0), some (.istore_n 3), some (.iload_n 3), some (.bipush 10), none, some (.if_icmp .ge 37), none, none, some (.aload_n 1)],
  [some (.iload_n 2), some (.bipush 55), none, some .iadd, some (.iload_n 3), some .iadd, some (.aload_n 0), some (.getfield 103), none, none, some (.iload_n 3), some .iaload, some .iastore, some (.aload_n 1), some (.iload_n 2), some (.bipush 65)],
  [none, some .iadd, some (.iload_n 3), some .iadd, some (.aload_n 0), some (.getfield 112), none, none, some (.iload_n 3), some .iaload, some .iastore, some (.iinc 3 1), none, none, some (.goto (-37)), none],
  [none, some (.aload_n 1), some (.iload_n 2), some (.bipush 75), none, some .iadd, some (.aload_n 0), some (.getfield 124), none, none, some (.iconst 0), some .iaload, some .iastore, some .return_]]
-- 269: CushionCourtModel.take([II)V
def k_269 : List (List (Option Instr)) := [[some (.iconst 0), some (.istore_n 3), some (.iload_n 3), some (.iconst 5), some (.if_icmp .ge 56), none, none, some (.aload_n 0), some (.getfield 91), none, none, some (.iload_n 3), some (.aload_n 1), some (.iload_n 2), some (.iload_n 3), some .iadd],
  [some .iaload, some .iastore, some (.aload_n 0), some (.getfield 94), none, none, some (.iload_n 3), some (.aload_n 1), some (.iload_n 2), some (.iconst 5), some .iadd, some (.iload_n 3), some .iadd, some .iaload, some (.iconst 1), some (.if_icmp .ne 7)],
  [none, none, some (.iconst 1), some (.goto 4), none, none, some (.iconst 0), some .bastore, some (.aload_n 0), some (.getfield 97), none, none, some (.iload_n 3), some (.aload_n 1), some (.iload_n 2), some (.bipush 10)],
  [none, some .iadd, some (.iload_n 3), some .iadd, some .iaload, some .iastore, some (.iinc 3 1), none, none, some (.goto (-55)), none, none, some (.iconst 0), some (.istore_n 3), some (.iload_n 3), some (.bipush 40)],
  [none, some (.if_icmp .ge 23), none, none, some (.aload_n 0), some (.getfield 100), none, none, some (.iload_n 3), some (.aload_n 1), some (.iload_n 2), some (.bipush 15), none, some .iadd, some (.iload_n 3), some .iadd],
  [some .iaload, some .iastore, some (.iinc 3 1), none, none, some (.goto (-23)), none, none, some (.iconst 0), some (.istore_n 3), some (.iload_n 3), some (.bipush 10), none, some (.if_icmp .ge 37), none, none],
  [some (.aload_n 0), some (.getfield 103), none, none, some (.iload_n 3), some (.aload_n 1), some (.iload_n 2), some (.bipush 55), none, some .iadd, some (.iload_n 3), some .iadd, some .iaload, some .iastore, some (.aload_n 0), some (.getfield 112)],
  [none, none, some (.iload_n 3), some (.aload_n 1), some (.iload_n 2), some (.bipush 65), none, some .iadd, some (.iload_n 3), some .iadd, some .iaload, some .iastore, some (.iinc 3 1), none, none, some (.goto (-37))],
  [none, none, some (.aload_n 0), some (.getfield 124), none, none, some (.iconst 0), some (.aload_n 1), some (.iload_n 2), some (.bipush 75), none, some .iadd, some .iaload, some .iastore, some .return_]]
-- 270: CushionCourtModel.remember()V
def k_270 : List (List (Option Instr)) := [[some (.aload_n 0), some (.getfield 370), none, none, some (.bipush 20), none, some (.if_icmp .ne 43), none, none, some (.iconst 0), some (.istore_n 1), some (.iload_n 1), some (.sipush 1444), none, none, some (.if_icmp .ge 24)],
  [none, none, some (.aload_n 0), some (.getfield 148), none, none, some (.iload_n 1), some (.aload_n 0), some (.getfield 148), none, none, some (.iload_n 1), some (.bipush 76), none, some .iadd, some .iaload],
  [some .iastore, some (.iinc 1 1), none, none, some (.goto (-25)), none, none, some (.aload_n 0), some .dup, some (.getfield 370), none, none, some (.iconst 1), some .isub, some (.putfield 370), none],
  [none, some (.aload_n 0), some (.aload_n 0), some (.getfield 148), none, none, some (.bipush 76), none, some (.aload_n 0), some (.getfield 370), none, none, some .imul, some (.invokevirtual 541), none, none],
  [some (.aload_n 0), some .dup, some (.getfield 370), none, none, some (.iconst 1), some .iadd, some (.putfield 370), none, none, some .return_]]
-- 271: CushionCourtModel.undo()I
def k_271 : List (List (Option Instr)) := [[some (.aload_n 0), some (.iconst 0), some (.putfield 163), none, none, some (.aload_n 0), some (.getfield 370), none, none, some (.ifCond .ne 5), none, none, some (.iconst (-1)), some .ireturn, some (.aload_n 0), some .dup],
  [some (.getfield 370), none, none, some (.iconst 1), some .isub, some (.putfield 370), none, none, some (.aload_n 0), some (.aload_n 0), some (.getfield 148), none, none, some (.bipush 76), none, some (.aload_n 0)],
  [some (.getfield 370), none, none, some .imul, some (.invokevirtual 544), none, none, some (.aload_n 0), some (.getfield 370), none, none, some .ireturn]]
-- 272: CushionCourtModel.keep()I
def k_272 : List (List (Option Instr)) := [[some (.aload_n 0), some (.iconst 0), some (.putfield 163), none, none, some (.aload_n 0), some (.iconst 1), some (.putfield 373), none, none, some (.aload_n 0), some (.aload_n 0), some (.getfield 151), none, none, some (.iconst 0)],
  [some (.invokevirtual 541), none, none, some (.iconst 0), some (.istore_n 1), some (.iload_n 1), some (.bipush 10), none, some (.if_icmp .ge 36), none, none, some (.aload_n 0), some (.getfield 154), none, none, some (.iload_n 1)],
  [some (.aload_n 0), some (.getfield 106), none, none, some (.iload_n 1), some .iaload, some .iastore, some (.aload_n 0), some (.getfield 154), none, none, some (.bipush 10), none, some (.iload_n 1), some .iadd, some (.aload_n 0)],
  [some (.getfield 109), none, none, some (.iload_n 1), some .iaload, some .iastore, some (.iinc 1 1), none, none, some (.goto (-36)), none, none, some (.iconst 0), some (.istore_n 1), some (.iload_n 1), some (.iconst 5)],
  [some (.if_icmp .ge 24), none, none, some (.aload_n 0), some (.getfield 154), none, none, some (.bipush 20), none, some (.iload_n 1), some .iadd, some (.aload_n 0), some (.getfield 115), none, none, some (.iload_n 1)],
  [some .iaload, some .iastore, some (.iinc 1 1), none, none, some (.goto (-23)), none, none, some (.aload_n 0), some (.getfield 154), none, none, some (.bipush 25), none, some (.aload_n 0), some (.getfield 118)],
  [none, none, some (.iconst 0), some .iaload, some .iastore, some (.aload_n 0), some (.getfield 154), none, none, some (.bipush 26), none, some (.aload_n 0), some (.getfield 121), none, none, some (.iconst 0)],
  [some .iaload, some .iastore, some (.aload_n 0), some (.getfield 118), none, none, some (.iconst 0), some .iaload, some .ireturn]]
-- 273: CushionCourtModel.back()I
def k_273 : List (List (Option Instr)) := [[some (.aload_n 0), some (.iconst 0), some (.putfield 163), none, none, some (.aload_n 0), some (.getfield 373), none, none, some (.ifCond .ne 5), none, none, some (.iconst (-1)), some .ireturn, some (.aload_n 0), some (.aload_n 0)],
  [some (.getfield 151), none, none, some (.iconst 0), some (.invokevirtual 544), none, none, some (.iconst 0), some (.istore_n 1), some (.iload_n 1), some (.bipush 10), none, some (.if_icmp .ge 36), none, none, some (.aload_n 0)],
  [some (.getfield 106), none, none, some (.iload_n 1), some (.aload_n 0), some (.getfield 154), none, none, some (.iload_n 1), some .iaload, some .iastore, some (.aload_n 0), some (.getfield 109), none, none, some (.iload_n 1)],
  [some (.aload_n 0), some (.getfield 154), none, none, some (.bipush 10), none, some (.iload_n 1), some .iadd, some .iaload, some .iastore, some (.iinc 1 1), none, none, some (.goto (-36)), none, none],
  [some (.iconst 0), some (.istore_n 1), some (.iload_n 1), some (.iconst 5), some (.if_icmp .ge 24), none, none, some (.aload_n 0), some (.getfield 115), none, none, some (.iload_n 1), some (.aload_n 0), some (.getfield 154), none, none],
  [some (.bipush 20), none, some (.iload_n 1), some .iadd, some .iaload, some .iastore, some (.iinc 1 1), none, none, some (.goto (-23)), none, none, some (.aload_n 0), some (.getfield 118), none, none],
  [some (.iconst 0), some (.aload_n 0), some (.getfield 154), none, none, some (.bipush 25), none, some .iaload, some .iastore, some (.aload_n 0), some (.getfield 121), none, none, some (.iconst 0), some (.aload_n 0), some (.getfield 154)],
  [none, none, some (.bipush 26), none, some .iaload, some .iastore, some (.aload_n 0), some (.iconst 0), some (.putfield 370), none, none, some (.aload_n 0), some (.getfield 118), none, none, some (.iconst 0)],
  [some .iaload, some .ireturn]]
-- 274: CushionCourtModel.count(I)I
def k_274 : List (List (Option Instr)) := [[some (.aload_n 0), some (.iconst 0), some (.putfield 163), none, none, some (.iconst 0), some (.istore_n 2), some (.iload_n 1), some (.tableswitch 192 0 12 #[68, 73, 78, 83, 88, 95, 130, 136, 163, 170, 177, 182, 187]), none, none, none, none, none, none, none],
  [none, none, none, none, none, none, none, none, none, none, none, none, none, none, none, none],
  [none, none, none, none, none, none, none, none, none, none, none, none, none, none, none, none],
  [none, none, none, none, none, none, none, none, none, none, none, none, none, none, none, none],
  [none, none, none, none, none, none, none, none, none, none, none, none, some (.aload_n 0), some (.getfield 243), none, none],
  [some .ireturn, some (.aload_n 0), some (.getfield 246), none, none, some .ireturn, some (.aload_n 0), some (.getfield 249), none, none, some .ireturn, some (.aload_n 0), some (.getfield 255), none, none, some .ireturn],
  [some (.aload_n 0), some (.getfield 118), none, none, some (.iconst 0), some .iaload, some .ireturn, some (.iconst 0), some (.istore_n 3), some (.iload_n 3), some (.aload_n 0), some (.getfield 246), none, none, some (.if_icmp .ge 26), none],
  [none, some (.iload_n 2), some (.aload_n 0), some (.getfield 109), none, none, some (.iload_n 3), some .iaload, some (.ifCond .lt 7), none, none, some (.iconst 1), some (.goto 4), none, none, some (.iconst 0)],
  [some .iadd, some (.istore_n 2), some (.iinc 3 1), none, none, some (.goto (-28)), none, none, some (.iload_n 2), some .ireturn, some (.aload_n 0), some (.iconst 0), some (.invokevirtual 483), none, none, some .ireturn],
  [some (.iconst 0), some (.istore_n 3), some (.iload_n 3), some (.aload_n 0), some (.getfield 243), none, none, some (.if_icmp .ge 18), none, none, some (.iload_n 2), some (.aload_n 0), some (.getfield 97), none, none, some (.iload_n 3)],
  [some .iaload, some .iadd, some (.istore_n 2), some (.iinc 3 1), none, none, some (.goto (-20)), none, none, some (.iload_n 2), some .ireturn, some (.aload_n 0), some (.getfield 121), none, none, some (.iconst 0)],
  [some .iaload, some .ireturn, some (.aload_n 0), some (.getfield 124), none, none, some (.iconst 0), some .iaload, some .ireturn, some (.aload_n 0), some (.getfield 367), none, none, some .ireturn, some (.aload_n 0), some (.invokevirtual 514)],
  [none, none, some .ireturn, some (.aload_n 0), some (.getfield 370), none, none, some .ireturn, some (.iconst (-1)), some .ireturn]]
-- 275: CushionCourtLaw.cause(LCushionCourt;II[J)I
def k_275 : List (List (Option Instr)) := [[some (.aload_n 3), some (.iconst 0), some (.aload_n 0), some (.iload_n 1), some (.iload_n 2), some (.invokevirtual 7), none, none, some .i2l, some .lastore, some (.goto 11), none, none, some (.astore 4), none, some (.iconst 1)],
  [some .ireturn, some (.astore 4), none, some (.iconst 2), some .ireturn, some (.iconst 0), some .ireturn]]
-- 276: CushionCourtLaw.law([I)Z
def k_276 : List (List (Option Instr)) := [[some (.new 8), none, none, some .dup, some (.invokespecial 17), none, none, some (.astore_n 1), some (.new 18), none, none, some .dup, some (.invokespecial 20), none, none, some (.astore_n 2)],
  [some (.iconst 1), some (.newarray .long), none, some (.astore_n 3), some (.iconst 0), some (.istore 4), none, some (.iload 4), none, some (.aload_n 0), some .arraylength, some (.bipush 6), none, some .isub, some (.if_icmp .gt 1501), none],
  [none, some (.aload_n 0), some (.iload 4), none, some .iaload, some (.bipush 63), none, some .iand, some (.tableswitch 1485 0 40 #[180, 253, 278, 303, 340, 408, 445, 482, 507, 532, 570, 607, 660, 685, 722, 747, 784, 821, 834, 859, 896, 909, 946, 971, 1008, 1033, 1046, 1071, 1108, 1145, 1210, 1235, 1260, 1273, 1298, 1323, 1372, 1421, 1434, 1447, 1460]), none, none, none, none, none, none, none],
  [none, none, none, none, none, none, none, none, none, none, none, none, none, none, none, none],
  [none, none, none, none, none, none, none, none, none, none, none, none, none, none, none, none],
  [none, none, none, none, none, none, none, none, none, none, none, none, none, none, none, none],
  [none, none, none, none, none, none, none, none, none, none, none, none, none, none, none, none],
  [none, none, none, none, none, none, none, none, none, none, none, none, none, none, none, none],
  [none, none, none, none, none, none, none, none, none, none, none, none, none, none, none, none],
  [none, none, none, none, none, none, none, none, none, none, none, none, none, none, none, none],
  [none, none, none, none, none, none, none, none, none, none, none, none, none, none, none, none],
  [none, none, none, none, none, none, none, none, none, none, none, none, none, none, none, none],
  [none, none, none, none, none, none, none, none, none, none, none, none, none, none, none, none],
  [none, none, none, none, none, none, none, none, none, none, none, none, some (.aload_n 1), some (.aload_n 0), some (.iload 4), none],
  [some (.iconst 1), some .iadd, some .iaload, some (.aload_n 0), some (.iload 4), none, some (.iconst 2), some .iadd, some .iaload, some (.aload_n 0), some (.iload 4), none, some (.iconst 3), some .iadd, some .iaload, some (.aload_n 0)],
  [some (.iload 4), none, some (.iconst 4), some .iadd, some .iaload, some (.aload_n 0), some (.iload 4), none, some (.iconst 5), some .iadd, some .iaload, some (.invokevirtual 21), none, none, some (.aload_n 2), some (.aload_n 0)],
  [some (.iload 4), none, some (.iconst 1), some .iadd, some .iaload, some (.aload_n 0), some (.iload 4), none, some (.iconst 2), some .iadd, some .iaload, some (.aload_n 0), some (.iload 4), none, some (.iconst 3), some .iadd],
  [some .iaload, some (.aload_n 0), some (.iload 4), none, some (.iconst 4), some .iadd, some .iaload, some (.aload_n 0), some (.iload 4), none, some (.iconst 5), some .iadd, some .iaload, some (.invokevirtual 25), none, none],
  [some (.if_icmp .eq 1237), none, none, some (.iconst 0), some .ireturn, some (.aload_n 1), some (.aload_n 0), some (.iload 4), none, some (.iconst 1), some .iadd, some .iaload, some (.invokevirtual 26), none, none, some (.aload_n 2)],
  [some (.aload_n 0), some (.iload 4), none, some (.iconst 1), some .iadd, some .iaload, some (.invokevirtual 30), none, none, some (.if_icmp .eq 1212), none, none, some (.iconst 0), some .ireturn, some (.aload_n 1), some (.aload_n 0)],
  [some (.iload 4), none, some (.iconst 1), some .iadd, some .iaload, some (.invokevirtual 31), none, none, some (.aload_n 2), some (.aload_n 0), some (.iload 4), none, some (.iconst 1), some .iadd, some .iaload, some (.invokevirtual 34)],
  [none, none, some (.if_icmp .eq 1187), none, none, some (.iconst 0), some .ireturn, some (.aload_n 1), some (.aload_n 0), some (.iload 4), none, some (.iconst 1), some .iadd, some .iaload, some (.aload_n 0), some (.iload 4)],
  [none, some (.iconst 2), some .iadd, some .iaload, some (.invokevirtual 35), none, none, some (.aload_n 2), some (.aload_n 0), some (.iload 4), none, some (.iconst 1), some .iadd, some .iaload, some (.aload_n 0), some (.iload 4)],
  [none, some (.iconst 2), some .iadd, some .iaload, some (.invokevirtual 38), none, none, some (.if_icmp .eq 1150), none, none, some (.iconst 0), some .ireturn, some (.aload_n 1), some (.aload_n 0), some (.iload 4), none],
  [some (.iconst 1), some .iadd, some .iaload, some (.aload_n 0), some (.iload 4), none, some (.iconst 2), some .iadd, some .iaload, some (.aload_n 3), some (.invokestatic 39), none, none, some (.istore 5), none, some (.aload_n 2)],
  [some (.aload_n 0), some (.iload 4), none, some (.iconst 1), some .iadd, some .iaload, some (.aload_n 0), some (.iload 4), none, some (.iconst 2), some .iadd, some .iaload, some (.invokevirtual 44), none, none, some (.istore 6)],
  [none, some (.aload_n 2), some (.invokevirtual 45), none, none, some (.iload 5), none, some (.if_icmp .eq 5), none, none, some (.iconst 0), some .ireturn, some (.iload 5), none, some (.ifCond .ne 15), none],
  [none, some (.aload_n 3), some (.iconst 0), some .laload, some (.iload 6), none, some .i2l, some .lcmp, some (.ifCond .eq 5), none, none, some (.iconst 0), some .ireturn, some (.goto 1080), none, none],
  [some (.aload_n 1), some (.aload_n 0), some (.iload 4), none, some (.iconst 1), some .iadd, some .iaload, some (.aload_n 0), some (.iload 4), none, some (.iconst 2), some .iadd, some .iaload, some (.invokevirtual 49), none, none],
  [some (.aload_n 2), some (.aload_n 0), some (.iload 4), none, some (.iconst 1), some .iadd, some .iaload, some (.aload_n 0), some (.iload 4), none, some (.iconst 2), some .iadd, some .iaload, some (.invokevirtual 52), none, none],
  [some (.if_icmp .eq 1045), none, none, some (.iconst 0), some .ireturn, some (.aload_n 1), some (.aload_n 0), some (.iload 4), none, some (.iconst 1), some .iadd, some .iaload, some (.aload_n 0), some (.iload 4), none, some (.iconst 2)],
  [some .iadd, some .iaload, some (.invokevirtual 53), none, none, some (.aload_n 2), some (.aload_n 0), some (.iload 4), none, some (.iconst 1), some .iadd, some .iaload, some (.aload_n 0), some (.iload 4), none, some (.iconst 2)],
  [some .iadd, some .iaload, some (.invokevirtual 56), none, none, some (.if_icmp .eq 1008), none, none, some (.iconst 0), some .ireturn, some (.aload_n 1), some (.aload_n 0), some (.iload 4), none, some (.iconst 1), some .iadd],
  [some .iaload, some (.invokevirtual 57), none, none, some (.aload_n 2), some (.aload_n 0), some (.iload 4), none, some (.iconst 1), some .iadd, some .iaload, some (.invokevirtual 60), none, none, some (.if_icmp .eq 983), none],
  [none, some (.iconst 0), some .ireturn, some (.aload_n 1), some (.aload_n 0), some (.iload 4), none, some (.iconst 1), some .iadd, some .iaload, some (.invokevirtual 61), none, none, some (.aload_n 2), some (.aload_n 0), some (.iload 4)],
  [none, some (.iconst 1), some .iadd, some .iaload, some (.invokevirtual 64), none, none, some (.if_icmp .eq 958), none, none, some (.iconst 0), some .ireturn, some (.aload_n 1), some (.aload_n 0), some (.iload 4), none],
  [some (.iconst 1), some .iadd, some .iaload, some (.aload_n 0), some (.iload 4), none, some (.iconst 2), some .iadd, some .iaload, some (.invokevirtual 65), none, none, some (.aload_n 2), some (.aload_n 0), some (.iload 4), none],
  [some (.iconst 1), some .iadd, some .iaload, some (.aload_n 0), some (.iload 4), none, some (.iconst 2), some .iadd, some .iaload, some (.invokevirtual 69), none, none, some .lcmp, some (.ifCond .eq 920), none, none],
  [some (.iconst 0), some .ireturn, some (.aload_n 1), some (.aload_n 0), some (.iload 4), none, some (.iconst 1), some .iadd, some .iaload, some (.aload_n 0), some (.iload 4), none, some (.iconst 2), some .iadd, some .iaload, some (.invokevirtual 70)],
  [none, none, some (.aload_n 2), some (.aload_n 0), some (.iload 4), none, some (.iconst 1), some .iadd, some .iaload, some (.aload_n 0), some (.iload 4), none, some (.iconst 2), some .iadd, some .iaload, some (.invokevirtual 74)],
  [none, none, some (.if_icmp .eq 883), none, none, some (.iconst 0), some .ireturn, some (.aload_n 1), some (.aload_n 0), some (.iload 4), none, some (.iconst 1), some .iadd, some .iaload, some (.aload_n 0), some (.iload 4)],
  [none, some (.iconst 2), some .iadd, some .iaload, some (.ifCond .eq 7), none, none, some (.iconst 1), some (.goto 4), none, none, some (.iconst 0), some (.invokevirtual 75), none, none, some (.aload_n 2)],
  [some (.aload_n 0), some (.iload 4), none, some (.iconst 1), some .iadd, some .iaload, some (.aload_n 0), some (.iload 4), none, some (.iconst 2), some .iadd, some .iaload, some (.ifCond .eq 7), none, none, some (.iconst 1)],
  [some (.goto 4), none, none, some (.iconst 0), some (.invokevirtual 79), none, none, some (.if_icmp .eq 830), none, none, some (.iconst 0), some .ireturn, some (.aload_n 1), some (.aload_n 0), some (.iload 4), none],
  [some (.iconst 1), some .iadd, some .iaload, some (.invokevirtual 80), none, none, some (.aload_n 2), some (.aload_n 0), some (.iload 4), none, some (.iconst 1), some .iadd, some .iaload, some (.invokevirtual 83), none, none],
  [some (.if_icmp .eq 805), none, none, some (.iconst 0), some .ireturn, some (.aload_n 1), some (.aload_n 0), some (.iload 4), none, some (.iconst 1), some .iadd, some .iaload, some (.aload_n 0), some (.iload 4), none, some (.iconst 2)],
  [some .iadd, some .iaload, some (.invokevirtual 84), none, none, some (.aload_n 2), some (.aload_n 0), some (.iload 4), none, some (.iconst 1), some .iadd, some .iaload, some (.aload_n 0), some (.iload 4), none, some (.iconst 2)],
  [some .iadd, some .iaload, some (.invokevirtual 87), none, none, some (.if_icmp .eq 768), none, none, some (.iconst 0), some .ireturn, some (.aload_n 1), some (.aload_n 0), some (.iload 4), none, some (.iconst 1), some .iadd],
  [some .iaload, some (.invokevirtual 88), none, none, some (.aload_n 2), some (.aload_n 0), some (.iload 4), none, some (.iconst 1), some .iadd, some .iaload, some (.invokevirtual 91), none, none, some (.if_icmp .eq 743), none],
  [none, some (.iconst 0), some .ireturn, some (.aload_n 1), some (.aload_n 0), some (.iload 4), none, some (.iconst 1), some .iadd, some .iaload, some (.aload_n 0), some (.iload 4), none, some (.iconst 2), some .iadd, some .iaload],
  [some (.invokevirtual 92), none, none, some (.aload_n 2), some (.aload_n 0), some (.iload 4), none, some (.iconst 1), some .iadd, some .iaload, some (.aload_n 0), some (.iload 4), none, some (.iconst 2), some .iadd, some .iaload],
  [some (.invokevirtual 95), none, none, some (.if_icmp .eq 706), none, none, some (.iconst 0), some .ireturn, some (.aload_n 1), some (.aload_n 0), some (.iload 4), none, some (.iconst 1), some .iadd, some .iaload, some (.aload_n 0)],
  [some (.iload 4), none, some (.iconst 2), some .iadd, some .iaload, some (.invokevirtual 96), none, none, some (.aload_n 2), some (.aload_n 0), some (.iload 4), none, some (.iconst 1), some .iadd, some .iaload, some (.aload_n 0)],
  [some (.iload 4), none, some (.iconst 2), some .iadd, some .iaload, some (.invokevirtual 99), none, none, some (.if_icmp .eq 669), none, none, some (.iconst 0), some .ireturn, some (.aload_n 1), some (.invokevirtual 100), none],
  [none, some (.aload_n 2), some (.invokevirtual 103), none, none, some (.if_icmp .eq 656), none, none, some (.iconst 0), some .ireturn, some (.aload_n 1), some (.aload_n 0), some (.iload 4), none, some (.iconst 1), some .iadd],
  [some .iaload, some (.invokevirtual 104), none, none, some (.aload_n 2), some (.aload_n 0), some (.iload 4), none, some (.iconst 1), some .iadd, some .iaload, some (.invokevirtual 107), none, none, some (.if_icmp .eq 631), none],
  [none, some (.iconst 0), some .ireturn, some (.aload_n 1), some (.aload_n 0), some (.iload 4), none, some (.iconst 1), some .iadd, some .iaload, some (.aload_n 0), some (.iload 4), none, some (.iconst 2), some .iadd, some .iaload],
  [some (.invokevirtual 108), none, none, some (.aload_n 2), some (.aload_n 0), some (.iload 4), none, some (.iconst 1), some .iadd, some .iaload, some (.aload_n 0), some (.iload 4), none, some (.iconst 2), some .iadd, some .iaload],
  [some (.invokevirtual 111), none, none, some (.if_icmp .eq 594), none, none, some (.iconst 0), some .ireturn, some (.aload_n 1), some (.invokevirtual 112), none, none, some (.aload_n 2), some (.invokevirtual 115), none, none],
  [some (.if_icmp .eq 581), none, none, some (.iconst 0), some .ireturn, some (.aload_n 1), some (.aload_n 0), some (.iload 4), none, some (.iconst 1), some .iadd, some .iaload, some (.aload_n 0), some (.iload 4), none, some (.iconst 2)],
  [some .iadd, some .iaload, some (.invokevirtual 116), none, none, some (.aload_n 2), some (.aload_n 0), some (.iload 4), none, some (.iconst 1), some .iadd, some .iaload, some (.aload_n 0), some (.iload 4), none, some (.iconst 2)],
  [some .iadd, some .iaload, some (.invokevirtual 119), none, none, some (.if_icmp .eq 544), none, none, some (.iconst 0), some .ireturn, some (.aload_n 1), some (.aload_n 0), some (.iload 4), none, some (.iconst 1), some .iadd],
  [some .iaload, some (.invokevirtual 120), none, none, some (.aload_n 2), some (.aload_n 0), some (.iload 4), none, some (.iconst 1), some .iadd, some .iaload, some (.invokevirtual 123), none, none, some (.if_icmp .eq 519), none],
  [none, some (.iconst 0), some .ireturn, some (.aload_n 1), some (.aload_n 0), some (.iload 4), none, some (.iconst 1), some .iadd, some .iaload, some (.aload_n 0), some (.iload 4), none, some (.iconst 2), some .iadd, some .iaload],
  [some (.invokevirtual 124), none, none, some (.aload_n 2), some (.aload_n 0), some (.iload 4), none, some (.iconst 1), some .iadd, some .iaload, some (.aload_n 0), some (.iload 4), none, some (.iconst 2), some .iadd, some .iaload],
  [some (.invokevirtual 127), none, none, some (.if_icmp .eq 482), none, none, some (.iconst 0), some .ireturn, some (.aload_n 1), some (.aload_n 0), some (.iload 4), none, some (.iconst 1), some .iadd, some .iaload, some (.invokevirtual 128)],
  [none, none, some (.aload_n 2), some (.aload_n 0), some (.iload 4), none, some (.iconst 1), some .iadd, some .iaload, some (.invokevirtual 131), none, none, some (.if_icmp .eq 457), none, none, some (.iconst 0)],
  [some .ireturn, some (.aload_n 1), some (.invokevirtual 132), none, none, some (.aload_n 2), some (.invokevirtual 135), none, none, some (.if_icmp .eq 444), none, none, some (.iconst 0), some .ireturn, some (.aload_n 1), some (.aload_n 0)],
  [some (.iload 4), none, some (.iconst 1), some .iadd, some .iaload, some (.invokevirtual 136), none, none, some (.aload_n 2), some (.aload_n 0), some (.iload 4), none, some (.iconst 1), some .iadd, some .iaload, some (.invokevirtual 139)],
  [none, none, some (.if_icmp .eq 419), none, none, some (.iconst 0), some .ireturn, some (.aload_n 1), some (.aload_n 0), some (.iload 4), none, some (.iconst 1), some .iadd, some .iaload, some (.aload_n 0), some (.iload 4)],
  [none, some (.iconst 2), some .iadd, some .iaload, some (.invokevirtual 140), none, none, some (.aload_n 2), some (.aload_n 0), some (.iload 4), none, some (.iconst 1), some .iadd, some .iaload, some (.aload_n 0), some (.iload 4)],
  [none, some (.iconst 2), some .iadd, some .iaload, some (.invokevirtual 143), none, none, some (.if_icmp .eq 382), none, none, some (.iconst 0), some .ireturn, some (.aload_n 1), some (.aload_n 0), some (.iload 4), none],
  [some (.iconst 1), some .iadd, some .iaload, some (.aload_n 0), some (.iload 4), none, some (.iconst 2), some .iadd, some .iaload, some (.invokevirtual 144), none, none, some (.aload_n 2), some (.aload_n 0), some (.iload 4), none],
  [some (.iconst 1), some .iadd, some .iaload, some (.aload_n 0), some (.iload 4), none, some (.iconst 2), some .iadd, some .iaload, some (.invokevirtual 147), none, none, some (.if_icmp .eq 345), none, none, some (.iconst 0)],
  [some .ireturn, some (.aload_n 1), some (.aload_n 0), some (.iload 4), none, some (.iconst 1), some .iadd, some .iaload, some (.aload_n 0), some (.iload 4), none, some (.iconst 2), some .iadd, some .iaload, some (.aload_n 0), some (.iload 4)],
  [none, some (.iconst 3), some .iadd, some .iaload, some (.ifCond .eq 7), none, none, some (.iconst 1), some (.goto 4), none, none, some (.iconst 0), some (.invokevirtual 148), none, none, some (.aload_n 2)],
  [some (.aload_n 0), some (.iload 4), none, some (.iconst 1), some .iadd, some .iaload, some (.aload_n 0), some (.iload 4), none, some (.iconst 2), some .iadd, some .iaload, some (.aload_n 0), some (.iload 4), none, some (.iconst 3)],
  [some .iadd, some .iaload, some (.ifCond .eq 7), none, none, some (.iconst 1), some (.goto 4), none, none, some (.iconst 0), some (.invokevirtual 152), none, none, some (.if_icmp .eq 280), none, none],
  [some (.iconst 0), some .ireturn, some (.aload_n 1), some (.aload_n 0), some (.iload 4), none, some (.iconst 1), some .iadd, some .iaload, some (.invokevirtual 153), none, none, some (.aload_n 2), some (.aload_n 0), some (.iload 4), none],
  [some (.iconst 1), some .iadd, some .iaload, some (.invokevirtual 156), none, none, some (.if_icmp .eq 255), none, none, some (.iconst 0), some .ireturn, some (.aload_n 1), some (.aload_n 0), some (.iload 4), none, some (.iconst 1)],
  [some .iadd, some .iaload, some (.invokevirtual 157), none, none, some (.aload_n 2), some (.aload_n 0), some (.iload 4), none, some (.iconst 1), some .iadd, some .iaload, some (.invokevirtual 161), none, none, some (.if_icmp .eq 230)],
  [none, none, some (.iconst 0), some .ireturn, some (.aload_n 1), some (.invokevirtual 162), none, none, some (.aload_n 2), some (.invokevirtual 165), none, none, some (.if_icmp .eq 217), none, none, some (.iconst 0)],
  [some .ireturn, some (.aload_n 1), some (.aload_n 0), some (.iload 4), none, some (.iconst 1), some .iadd, some .iaload, some (.invokevirtual 166), none, none, some (.aload_n 2), some (.aload_n 0), some (.iload 4), none, some (.iconst 1)],
  [some .iadd, some .iaload, some (.invokevirtual 169), none, none, some (.if_icmp .eq 192), none, none, some (.iconst 0), some .ireturn, some (.aload_n 1), some (.aload_n 0), some (.iload 4), none, some (.iconst 1), some .iadd],
  [some .iaload, some (.invokevirtual 170), none, none, some (.aload_n 2), some (.aload_n 0), some (.iload 4), none, some (.iconst 1), some .iadd, some .iaload, some (.invokevirtual 173), none, none, some (.if_icmp .eq 167), none],
  [none, some (.iconst 0), some .ireturn, some (.aload_n 1), some (.aload_n 0), some (.iload 4), none, some (.iconst 1), some .iadd, some .iaload, some (.aload_n 0), some (.iload 4), none, some (.iconst 2), some .iadd, some .iaload],
  [some (.aload_n 0), some (.iload 4), none, some (.iconst 3), some .iadd, some .iaload, some (.invokevirtual 174), none, none, some (.aload_n 2), some (.aload_n 0), some (.iload 4), none, some (.iconst 1), some .iadd, some .iaload],
  [some (.aload_n 0), some (.iload 4), none, some (.iconst 2), some .iadd, some .iaload, some (.aload_n 0), some (.iload 4), none, some (.iconst 3), some .iadd, some .iaload, some (.invokevirtual 178), none, none, some (.if_icmp .eq 118)],
  [none, none, some (.iconst 0), some .ireturn, some (.aload_n 1), some (.aload_n 0), some (.iload 4), none, some (.iconst 1), some .iadd, some .iaload, some (.aload_n 0), some (.iload 4), none, some (.iconst 2), some .iadd],
  [some .iaload, some (.aload_n 0), some (.iload 4), none, some (.iconst 3), some .iadd, some .iaload, some (.invokevirtual 179), none, none, some (.aload_n 2), some (.aload_n 0), some (.iload 4), none, some (.iconst 1), some .iadd],
  [some .iaload, some (.aload_n 0), some (.iload 4), none, some (.iconst 2), some .iadd, some .iaload, some (.aload_n 0), some (.iload 4), none, some (.iconst 3), some .iadd, some .iaload, some (.invokevirtual 182), none, none],
  [some (.if_icmp .eq 69), none, none, some (.iconst 0), some .ireturn, some (.aload_n 1), some (.invokevirtual 183), none, none, some (.aload_n 2), some (.invokevirtual 186), none, none, some (.if_icmp .eq 56), none, none],
  [some (.iconst 0), some .ireturn, some (.aload_n 1), some (.invokevirtual 187), none, none, some (.aload_n 2), some (.invokevirtual 190), none, none, some (.if_icmp .eq 43), none, none, some (.iconst 0), some .ireturn, some (.aload_n 1)],
  [some (.invokevirtual 191), none, none, some (.aload_n 2), some (.invokevirtual 194), none, none, some (.if_icmp .eq 30), none, none, some (.iconst 0), some .ireturn, some (.aload_n 1), some (.aload_n 0), some (.iload 4), none],
  [some (.iconst 1), some .iadd, some .iaload, some (.invokevirtual 195), none, none, some (.aload_n 2), some (.aload_n 0), some (.iload 4), none, some (.iconst 1), some .iadd, some .iaload, some (.invokevirtual 198), none, none],
  [some (.if_icmp .eq 5), none, none, some (.iconst 0), some .ireturn, some (.iinc 4 6), none, none, some (.goto (-1505)), none, none, some (.iconst 1), some .ireturn]]
-- 277: java/lang/Integer.bitCount(I)I
def k_277 : List (List (Option Instr)) := [[some (.iload_n 0), some (.iload_n 0), some (.iconst 1), some .iushr, some (.ldc_w 265), none, none, some .iand, some .isub, some (.istore_n 0), some (.iload_n 0), some (.ldc_w 266), none, none, some .iand, some (.iload_n 0)],
  [some (.iconst 2), some .iushr, some (.ldc_w 266), none, none, some .iand, some .iadd, some (.istore_n 0), some (.iload_n 0), some (.iload_n 0), some (.iconst 4), some .iushr, some .iadd, some (.ldc_w 267), none, none],
  [some .iand, some (.istore_n 0), some (.iload_n 0), some (.iload_n 0), some (.bipush 8), none, some .iushr, some .iadd, some (.istore_n 0), some (.iload_n 0), some (.iload_n 0), some (.bipush 16), none, some .iushr, some .iadd, some (.istore_n 0)],
  [some (.iload_n 0), some (.bipush 63), none, some .iand, some .ireturn]]
def t_code : List (List (List (List (Option Instr)))) := [[k_0, k_1, k_2, k_3, k_4, k_5, k_6, k_7, k_8, k_9, k_10, k_11, k_12, k_13, k_14, k_15],
  [k_16, k_17, k_18, k_19, k_20, k_21, k_22, k_23, k_24, k_25, k_26, k_27, k_28, k_29, k_30, k_31],
  [k_32, k_33, k_34, k_35, k_36, k_37, k_38, k_39, k_40, k_41, k_42, k_43, k_44, k_45, k_46, k_47],
  [k_48, k_49, k_50, k_51, k_52, k_53, k_54, k_55, k_56, k_57, k_58, k_59, k_60, k_61, k_62, k_63],
  [k_64, k_65, k_66, k_67, k_68, k_69, k_70, k_71, k_72, k_73, k_74, k_75, k_76, k_77, k_78, k_79],
  [k_80, k_81, k_82, k_83, k_84, k_85, k_86, k_87, k_88, k_89, k_90, k_91, k_92, k_93, k_94, k_95],
  [k_96, k_97, k_98, k_99, k_100, k_101, k_102, k_103, k_104, k_105, k_106, k_107, k_108, k_109, k_110, k_111],
  [k_112, k_113, k_114, k_115, k_116, k_117, k_118, k_119, k_120, k_121, k_122, k_123, k_124, k_125, k_126, k_127],
  [k_128, k_129, k_130, k_131, k_132, k_133, k_134, k_135, k_136, k_137, k_138, k_139, k_140, k_141, k_142, k_143],
  [k_144, k_145, k_146, k_147, k_148, k_149, k_150, k_151, k_152, k_153, k_154, k_155, k_156, k_157, k_158, k_159],
  [k_160, k_161, k_162, k_163, k_164, k_165, k_166, k_167, k_168, k_169, k_170, k_171, k_172, k_173, k_174, k_175],
  [k_176, k_177, k_178, k_179, k_180, k_181, k_182, k_183, k_184, k_185, k_186, k_187, k_188, k_189, k_190, k_191],
  [k_192, k_193, k_194, k_195, k_196, k_197, k_198, k_199, k_200, k_201, k_202, k_203, k_204, k_205, k_206, k_207],
  [k_208, k_209, k_210, k_211, k_212, k_213, k_214, k_215, k_216, k_217, k_218, k_219, k_220, k_221, k_222, k_223],
  [k_224, k_225, k_226, k_227, k_228, k_229, k_230, k_231, k_232, k_233, k_234, k_235, k_236, k_237, k_238, k_239],
  [k_240, k_241, k_242, k_243, k_244, k_245, k_246, k_247, k_248, k_249, k_250, k_251, k_252, k_253, k_254, k_255],
  [k_256, k_257, k_258, k_259, k_260, k_261, k_262, k_263, k_264, k_265, k_266, k_267, k_268, k_269, k_270, k_271],
  [k_272, k_273, k_274, k_275, k_276, k_277]]
def t_own : List (List (Nat)) := [[0, 0, 0, 0, 1, 1, 1, 1, 1, 1, 1, 2, 2, 2, 2, 3],
  [3, 3, 3, 3, 3, 3, 3, 4, 4, 4, 4, 5, 5, 5, 5, 5],
  [5, 5, 5, 5, 5, 6, 6, 6, 6, 6, 6, 6, 6, 6, 6, 6],
  [6, 6, 6, 6, 6, 6, 6, 6, 6, 6, 6, 6, 6, 6, 6, 6],
  [6, 6, 6, 6, 6, 6, 6, 7, 7, 7, 7, 7, 7, 7, 7, 7],
  [8, 8, 8, 8, 8, 8, 8, 8, 8, 8, 8, 8, 8, 8, 8, 8],
  [9, 9, 9, 9, 9, 9, 9, 9, 9, 9, 9, 9, 9, 9, 9, 9],
  [9, 9, 9, 9, 9, 9, 9, 9, 9, 9, 9, 9, 9, 9, 9, 9],
  [9, 9, 9, 9, 9, 9, 9, 9, 9, 9, 9, 9, 9, 9, 9, 9],
  [9, 9, 9, 9, 9, 9, 9, 9, 9, 9, 10, 10, 10, 10, 10, 10],
  [10, 10, 10, 10, 10, 10, 10, 10, 10, 10, 10, 10, 10, 10, 10, 10],
  [10, 10, 10, 10, 10, 10, 10, 10, 10, 10, 10, 10, 10, 10, 10, 10],
  [10, 10, 10, 10, 10, 10, 10, 10, 10, 10, 10, 10, 10, 10, 10, 10],
  [10, 10, 10, 10, 10, 10, 10, 10, 10, 10, 10, 10, 10, 10, 10, 10],
  [10, 10, 10, 10, 10, 10, 10, 10, 10, 10, 10, 10, 10, 10, 10, 10],
  [10, 10, 10, 10, 10, 10, 10, 10, 10, 10, 10, 10, 10, 10, 10, 10],
  [10, 10, 10, 10, 10, 10, 10, 10, 10, 10, 10, 10, 10, 10, 10, 10],
  [10, 10, 10, 11, 11, 12]]
def t_narg : List (List (Nat)) := [[1, 1, 2, 2, 1, 3, 2, 3, 5, 2, 2, 1, 1, 4, 2, 1],
  [1, 4, 1, 3, 1, 4, 4, 1, 1, 2, 2, 1, 7, 1, 2, 3],
  [3, 3, 1, 4, 3, 3, 2, 2, 2, 2, 3, 1, 1, 1, 1, 1],
  [1, 3, 1, 2, 1, 1, 1, 1, 1, 1, 1, 2, 2, 2, 2, 1],
  [1, 1, 1, 1, 1, 1, 1, 3, 1, 3, 2, 5, 4, 4, 4, 4],
  [1, 2, 2, 3, 2, 3, 3, 2, 3, 3, 3, 1, 1, 2, 1, 1],
  [1, 6, 2, 2, 2, 3, 3, 2, 2, 2, 1, 3, 3, 2, 3, 2],
  [2, 3, 3, 3, 2, 3, 2, 1, 3, 1, 1, 3, 3, 1, 2, 3],
  [3, 2, 1, 3, 2, 3, 3, 3, 2, 1, 2, 3, 3, 4, 2, 2],
  [1, 2, 2, 3, 4, 4, 1, 1, 1, 2, 1, 1, 6, 3, 2, 2],
  [3, 2, 2, 1, 1, 3, 2, 2, 3, 1, 2, 1, 4, 4, 1, 1],
  [1, 1, 1, 1, 2, 2, 3, 1, 4, 1, 2, 1, 2, 1, 1, 1],
  [1, 2, 3, 3, 2, 1, 1, 1, 2, 2, 2, 2, 2, 3, 5, 2],
  [5, 5, 3, 4, 3, 3, 3, 2, 2, 1, 2, 2, 2, 2, 3, 2],
  [3, 3, 2, 2, 2, 3, 3, 3, 2, 3, 2, 3, 1, 2, 3, 1],
  [2, 2, 3, 3, 1, 3, 3, 3, 2, 3, 2, 1, 3, 3, 4, 4],
  [2, 2, 1, 3, 2, 1, 1, 2, 2, 2, 4, 4, 3, 3, 1, 1],
  [1, 1, 2, 4, 1, 1]]
def t_maxL : List (List (Nat)) := [[1, 1, 2, 2, 1, 4, 5, 7, 5, 2, 4, 1, 1, 5, 3, 1],
  [1, 4, 1, 5, 2, 6, 9, 1, 2, 2, 2, 1, 7, 1, 2, 3],
  [5, 7, 2, 6, 5, 7, 2, 3, 2, 2, 3, 5, 6, 5, 3, 2],
  [2, 4, 2, 3, 1, 3, 1, 4, 1, 1, 1, 2, 2, 2, 3, 1],
  [1, 1, 1, 3, 1, 3, 1, 3, 1, 4, 4, 6, 5, 7, 8, 6],
  [1, 3, 2, 4, 2, 4, 5, 2, 3, 4, 4, 3, 3, 4, 3, 3],
  [1, 6, 3, 2, 2, 3, 4, 2, 2, 2, 1, 3, 4, 4, 4, 2],
  [2, 3, 3, 4, 4, 3, 2, 1, 3, 1, 1, 11, 5, 3, 2, 6],
  [5, 6, 4, 5, 6, 7, 4, 3, 4, 5, 4, 4, 3, 4, 2, 2],
  [1, 4, 4, 6, 9, 4, 1, 1, 1, 2, 1, 1, 8, 3, 2, 2],
  [8, 2, 2, 1, 4, 5, 2, 2, 3, 2, 3, 2, 5, 4, 2, 3],
  [2, 1, 1, 3, 3, 2, 3, 1, 4, 1, 5, 1, 2, 1, 2, 2],
  [1, 3, 5, 6, 6, 2, 1, 2, 2, 2, 2, 2, 2, 4, 5, 3],
  [8, 9, 7, 6, 8, 8, 3, 3, 3, 3, 4, 4, 4, 2, 3, 4],
  [3, 3, 2, 4, 2, 6, 4, 3, 5, 3, 3, 3, 1, 4, 7, 1],
  [10, 5, 4, 5, 4, 6, 3, 9, 2, 3, 4, 3, 4, 3, 4, 4],
  [2, 2, 1, 4, 4, 2, 3, 5, 6, 2, 7, 4, 4, 4, 2, 1],
  [2, 2, 4, 5, 7, 1]]
def t_ret : List (List (Nat)) := [[0, 0, 0, 1, 0, 0, 0, 1, 1, 3, 1, 0, 0, 0, 0, 0],
  [0, 1, 1, 0, 0, 3, 1, 0, 0, 0, 3, 0, 0, 0, 3, 3],
  [1, 3, 3, 3, 3, 0, 1, 0, 0, 0, 0, 0, 0, 0, 0, 0],
  [0, 1, 1, 1, 0, 0, 3, 3, 1, 1, 1, 0, 0, 0, 0, 0],
  [3, 3, 3, 0, 0, 0, 1, 0, 0, 0, 0, 0, 0, 0, 0, 0],
  [0, 0, 0, 0, 3, 0, 0, 0, 0, 0, 3, 1, 1, 1, 1, 1],
  [0, 1, 0, 1, 1, 1, 1, 3, 3, 3, 3, 1, 1, 1, 1, 1],
  [1, 2, 3, 3, 1, 3, 1, 0, 1, 1, 1, 1, 1, 1, 1, 1],
  [1, 1, 1, 1, 1, 1, 3, 1, 1, 1, 1, 1, 1, 1, 1, 3],
  [1, 1, 1, 3, 1, 1, 1, 1, 1, 1, 0, 1, 1, 3, 3, 3],
  [1, 3, 3, 0, 0, 1, 3, 3, 3, 0, 0, 0, 1, 3, 3, 3],
  [3, 3, 3, 3, 1, 1, 1, 1, 0, 1, 0, 3, 0, 1, 3, 3],
  [3, 2, 3, 2, 2, 0, 0, 0, 3, 3, 3, 1, 1, 1, 0, 2],
  [1, 1, 1, 0, 0, 0, 3, 0, 0, 1, 1, 1, 1, 1, 1, 1],
  [1, 1, 1, 1, 1, 2, 3, 3, 1, 3, 1, 1, 1, 1, 1, 1],
  [1, 1, 1, 1, 1, 1, 1, 1, 1, 1, 1, 1, 1, 1, 1, 1],
  [1, 3, 1, 3, 3, 0, 1, 1, 1, 1, 1, 1, 0, 0, 0, 1],
  [1, 1, 1, 1, 3, 1]]
def t_mc : List (List (Nat × Nat)) := [[(15, 152), (0, 0), (0, 0), (0, 0), (2, 249), (0, 0), (0, 0), (0, 0), (0, 0), (0, 0), (0, 0), (3, 60), (0, 0), (0, 0), (0, 0), (6, 133)],
  [(0, 0), (0, 0), (0, 0), (0, 0), (0, 0), (0, 0), (0, 0), (3, 70), (0, 0), (0, 0), (0, 0), (2, 71), (0, 0), (0, 0), (0, 0), (0, 0)],
  [(0, 0), (0, 0), (0, 0), (0, 0), (0, 0), (2, 91), (0, 0), (0, 0), (0, 0), (0, 0), (0, 0), (0, 0), (0, 0), (0, 0), (0, 0), (0, 0)],
  [(0, 0), (0, 0), (0, 0), (0, 0), (0, 0), (0, 0), (0, 0), (0, 0), (0, 0), (0, 0), (0, 0), (0, 0), (0, 0), (0, 0), (0, 0), (0, 0)],
  [(0, 0), (0, 0), (0, 0), (0, 0), (0, 0), (0, 0), (0, 0), (0, 0), (0, 0), (0, 0), (0, 0), (0, 0), (0, 0), (0, 0), (0, 0), (0, 0)],
  [(8, 95), (0, 0), (0, 0), (0, 0), (0, 0), (0, 0), (0, 0), (0, 0), (0, 0), (0, 0), (0, 0), (0, 0), (0, 0), (0, 0), (0, 0), (0, 0)],
  [(81, 2001), (0, 0), (0, 0), (0, 0), (0, 0), (0, 0), (0, 0), (0, 0), (0, 0), (0, 0), (0, 0), (1, 6), (0, 0), (0, 0), (0, 0), (0, 0)],
  [(0, 0), (0, 0), (0, 0), (0, 0), (0, 0), (0, 0), (0, 0), (0, 0), (0, 0), (0, 0), (0, 0), (0, 0), (0, 0), (0, 0), (0, 0), (0, 0)],
  [(0, 0), (0, 0), (0, 0), (0, 0), (0, 0), (0, 0), (0, 0), (0, 0), (0, 0), (0, 0), (0, 0), (0, 0), (0, 0), (0, 0), (0, 0), (0, 0)],
  [(0, 0), (0, 0), (0, 0), (0, 0), (0, 0), (0, 0), (0, 0), (0, 0), (0, 0), (0, 0), (46, 3565), (0, 0), (0, 0), (0, 0), (0, 0), (0, 0)],
  [(0, 0), (0, 0), (0, 0), (0, 0), (0, 0), (0, 0), (0, 0), (0, 0), (0, 0), (0, 0), (0, 0), (0, 0), (0, 0), (0, 0), (0, 0), (0, 0)],
  [(0, 0), (0, 0), (0, 0), (0, 0), (0, 0), (0, 0), (0, 0), (0, 0), (0, 0), (0, 0), (0, 0), (0, 0), (0, 0), (0, 0), (0, 0), (0, 0)],
  [(0, 0), (0, 0), (0, 0), (0, 0), (0, 0), (0, 0), (0, 0), (0, 0), (0, 0), (0, 0), (0, 0), (0, 0), (0, 0), (0, 0), (0, 0), (0, 0)],
  [(0, 0), (0, 0), (0, 0), (0, 0), (0, 0), (0, 0), (0, 0), (0, 0), (0, 0), (0, 0), (0, 0), (0, 0), (0, 0), (0, 0), (0, 0), (0, 0)],
  [(0, 0), (0, 0), (0, 0), (0, 0), (0, 0), (0, 0), (0, 0), (0, 0), (0, 0), (0, 0), (0, 0), (0, 0), (0, 0), (0, 0), (0, 0), (0, 0)],
  [(0, 0), (0, 0), (0, 0), (0, 0), (0, 0), (0, 0), (0, 0), (0, 0), (0, 0), (0, 0), (0, 0), (0, 0), (0, 0), (0, 0), (0, 0), (0, 0)],
  [(0, 0), (0, 0), (0, 0), (0, 0), (0, 0), (0, 0), (0, 0), (0, 0), (0, 0), (0, 0), (0, 0), (0, 0), (0, 0), (0, 0), (0, 0), (0, 0)],
  [(0, 0), (0, 0), (0, 0), (2, 16), (1156, 13874), (0, 0)]]
def t_room : List (List (Nat × Nat)) := [[(2, 40), (1, 21), (2, 69), (0, 0), (1, 20), (0, 0), (2, 45), (2, 45), (1, 21), (0, 0), (0, 0), (1, 20), (0, 0), (0, 0), (2, 45), (1, 20)],
  [(0, 0), (0, 0), (0, 0), (2, 48), (1, 20), (1, 23), (1, 20), (1, 20), (0, 0), (1, 48), (0, 0), (1, 20), (1, 21), (0, 0), (3, 75), (3, 75)],
  [(3, 75), (2, 49), (0, 0), (1, 24), (0, 0), (5, 150), (0, 0), (5, 113), (3, 65), (0, 0), (3, 65), (4, 88), (4, 88), (4, 88), (4, 87), (4, 87)],
  [(4, 88), (3, 65), (3, 65), (3, 65), (3, 65), (3, 66), (2, 42), (2, 43), (0, 0), (0, 0), (1, 20), (1, 21), (0, 0), (0, 0), (1, 21), (2, 45)],
  [(0, 0), (0, 0), (0, 0), (1, 23), (1, 20), (1, 20), (0, 0), (1, 20), (0, 0), (6, 149), (5, 126), (2, 47), (2, 47), (4, 97), (4, 99), (0, 0)],
  [(1, 20), (0, 0), (1, 48), (0, 0), (0, 0), (0, 0), (0, 0), (1, 23), (1, 23), (0, 0), (0, 0), (0, 0), (0, 0), (0, 0), (0, 0), (1, 20)],
  [(6, 176), (1, 22), (0, 0), (6, 135), (0, 0), (1, 23), (0, 0), (0, 0), (0, 0), (0, 0), (0, 0), (6, 82), (1, 23), (0, 0), (1, 21), (1, 21)],
  [(1, 21), (3, 75), (1, 24), (1, 24), (2, 44), (1, 24), (7, 172), (2, 69), (7, 172), (1, 23), (0, 0), (7, 173), (6, 149), (7, 172), (3, 71), (4, 96)],
  [(1, 25), (0, 0), (0, 0), (2, 49), (2, 45), (2, 45), (1, 22), (0, 0), (7, 172), (0, 0), (1, 21), (6, 149), (7, 172), (1, 23), (1, 23), (0, 0)],
  [(3, 72), (3, 72), (5, 122), (4, 97), (6, 149), (7, 172), (3, 67), (2, 69), (2, 69), (1, 23), (3, 62), (0, 0), (0, 0), (0, 0), (0, 0), (0, 0)],
  [(0, 0), (0, 0), (0, 0), (1, 27), (0, 0), (0, 0), (0, 0), (0, 0), (2, 47), (0, 0), (0, 0), (2, 41), (0, 0), (2, 47), (3, 70), (3, 70)],
  [(3, 70), (3, 69), (3, 69), (4, 92), (5, 114), (0, 0), (1, 24), (0, 0), (0, 0), (0, 0), (1, 23), (1, 21), (0, 0), (0, 0), (2, 47), (2, 47)],
  [(3, 68), (0, 0), (0, 0), (0, 0), (1, 25), (1, 20), (0, 0), (1, 20), (0, 0), (0, 0), (0, 0), (0, 0), (0, 0), (1, 21), (2, 44), (2, 50)],
  [(3, 72), (4, 99), (3, 72), (0, 0), (5, 127), (4, 98), (0, 0), (6, 154), (7, 176), (0, 0), (0, 0), (1, 22), (0, 0), (0, 0), (1, 21), (0, 0)],
  [(1, 23), (1, 21), (1, 21), (1, 21), (1, 22), (3, 72), (2, 44), (2, 44), (2, 44), (2, 44), (7, 176), (8, 198), (0, 0), (0, 0), (8, 198), (8, 198)],
  [(2, 44), (0, 0), (1, 24), (4, 99), (0, 0), (2, 47), (0, 0), (1, 22), (2, 50), (2, 50), (7, 176), (0, 0), (7, 176), (8, 198), (0, 0), (1, 23)],
  [(1, 23), (1, 22), (0, 0), (0, 0), (1, 23), (1, 20), (2, 46), (2, 46), (5, 127), (0, 0), (7, 176), (8, 198), (0, 0), (0, 0), (1, 23), (1, 23)],
  [(1, 23), (1, 23), (1, 23), (7, 104), (11, 450), (0, 0)]]
def t_field : List (List (List (Option (Nat × Nat × Nat)))) := [[[none, none, none, none, none, none, none, none, none, some (0, 5, 0), none, none, none, none, none, some (0, 7, 3)],
  [none, none, none, some (0, 8, 3), none, none, some (0, 9, 3), none, none, some (0, 10, 3), none, none, some (0, 11, 3), none, none, some (0, 12, 3)],
  [none, none, some (0, 13, 3), none, none, some (0, 14, 3), none, none, some (0, 15, 3), none, none, some (0, 16, 3), none, none, some (0, 17, 3), none],
  [none, none, none, none, some (0, 18, 3), none, none, none, some (0, 0, 0), none, none, some (0, 1, 0), none, none, some (0, 2, 0), none],
  [none, some (0, 3, 0), none, none, some (0, 4, 0), none, none, some (0, 6, 1)]],
  [[none, none, none, none, none, none, none, none, none, some (1, 0, 3), none, none, none, none, none, some (1, 1, 3)],
  [none, none, some (1, 2, 0), none, none, none, some (0, 1, 0), none, none, some (8, 4, 3), none, none, none, none, some (0, 13, 3), none],
  [none, none, some (0, 0, 0), none, none, none, none, none, none, none, none, none, none, none, none, none],
  [none, none, none, none, none, none, none, none, none, some (0, 8, 3)]],
  [[none, none, none, none, none, none, none, none, none, some (2, 0, 3), none, none, none, none, none, some (2, 1, 3)],
  [none, none, some (2, 2, 3), none, none, some (2, 3, 0), none, none, none, some (2, 4, 0), none, none, none, none, none, none],
  [none, none, none, none, none, none, none, none, none, none, none, none, none, some (8, 2, 3)]],
  [[none, none, none, none, none, none, none, none, none, some (3, 0, 3), none, none, none, none, none, some (3, 1, 3)],
  [none, none, some (3, 2, 3), none, none, some (3, 3, 3), none, none, none, some (3, 4, 3), none, none, some (3, 5, 3), none, none, some (3, 7, 0)],
  [none, none, none, some (3, 6, 0), none, none, none, none, none, some (0, 0, 0), none, none, none, none, some (8, 6, 3)]],
  [[none, none, none, none, none, none, none, none, none, some (4, 1, 3), none, none, none, none, none, some (4, 2, 3)],
  [none, none, some (4, 3, 3), none, none, some (4, 0, 0)]],
  [[none, none, none, none, none, none, none, none, none, none, none, some (5, 0, 3), none, none, none, some (5, 1, 3)],
  [none, none, none, none, none, none, none, none, none, none, none, none, none, some (5, 2, 2), none, none],
  [none, none, none, none, none, none, none, none, none, none, some (4, 3, 3), none, none, none, none, some (4, 2, 3)],
  [none, none, some (4, 1, 3), none, none, none, none, none, none, some (5, 3, 2)]],
  [[none, none, none, none, none, none, none, none, none, none, none, some (6, 2, 3), none, none, none, some (6, 3, 3)],
  [none, none, some (6, 0, 3), none, none, none, some (6, 1, 3), none, none, none, none, none, none, none, none, none],
  [none, none, none, none, none, none, none, none, none, none, none, none, none, none, some (6, 12, 0), none],
  [none, none, some (6, 10, 0), none, none, some (6, 11, 0), none, none, none, none, none, none, none, none, none, none],
  [none, none, none, none, none, none, none, none, none, none, none, none, none, none, none, none],
  [some (0, 4, 0), none, none, none, none, some (6, 7, 0), none, some (6, 8, 0), none, none, some (6, 13, 0), none, none, some (6, 6, 0), none, none],
  [none, none, none, none, none, none, some (6, 9, 0), none, none, some (0, 0, 0), none, none, none, none, none, none],
  [some (0, 7, 3), none, none, none, none, none, none, none, none, none, none, some (0, 8, 3), none, none, some (0, 9, 3), none],
  [none, some (0, 1, 0), none, none, some (0, 10, 3), none, none, none, none, none, some (0, 11, 3), none, none, some (0, 12, 3), none, none],
  [some (0, 13, 3), none, none, some (0, 2, 0), none, none, some (0, 14, 3), none, none, some (0, 15, 3), none, none, some (0, 16, 3), none, none, some (0, 3, 0)],
  [none, none, some (0, 17, 3), none, none, some (0, 6, 1), none, none, none, some (0, 5, 0), none, none, some (0, 18, 3), none, none, none],
  [none, none, none, none, none, none, some (4, 2, 3), none, none, some (4, 0, 0), none, none, none, none, none, some (4, 3, 3)],
  [none, none, none, none, none, none, some (6, 4, 0), none, none, some (6, 5, 0), none, none, none, none, none, none],
  [none, none, none, none, none, none, none, none, none, none, none, none, none, none, none, none],
  [none, none, none, none, none, none, none, none, none, some (4, 1, 3)]],
  [[none, none, none, none, none, none, none, none, none, some (7, 0, 3), none, none, none, none, none, some (7, 1, 3)],
  [none, none, none, some (7, 2, 0), none, none, none, some (0, 5, 0), none, none, none, none, some (7, 3, 0), some (7, 4, 0), none, none],
  [some (7, 5, 1), none, none, none, none, none, none, none, some (8, 0, 0), none, none, none, none, none, none, none],
  [none, some (0, 1, 0), none, none, some (0, 12, 3), none, none, some (8, 2, 3), none, none, none, none, none, none, some (0, 0, 0), none],
  [none, some (8, 6, 3), none, none, none, none, none, none, none, none, none, some (8, 7, 3), none, none, some (0, 8, 3), none],
  [none, some (0, 9, 3), none, none, some (0, 13, 3), none, none, none, none, none, none, none, none, none, none, none],
  [none, none, none, none, some (0, 18, 3), none, none, none, none, none, none, none, none, none, none, none],
  [some (8, 3, 3), none, none, some (8, 4, 3), none, none, none, none, none, none, none, none, none, none, none, none],
  [none, none, none, none, none, none, none, some (8, 8, 3), none, none, some (8, 5, 3), none, none, none, none, none],
  [some (0, 2, 0), none, none, some (0, 15, 3), none, none, some (0, 16, 3), none, none, some (8, 9, 3)]],
  [[none, none, none, none, none, none, none, none, none, some (8, 2, 3), none, none, none, none, none, some (8, 3, 3)],
  [none, none, some (8, 4, 3), none, none, some (8, 5, 3), none, none, some (8, 6, 3), none, none, some (8, 7, 3), none, none, some (8, 8, 3), none],
  [none, some (8, 9, 3), none, none, some (8, 0, 0), none, none, none, some (8, 1, 0), none, none, some (0, 11, 3)]],
  [[none, none, none, none, none, none, none, none, none, some (9, 0, 3), none, none, none, some (9, 3, 0), none, none],
  [none, none, none, none, some (9, 4, 3), none, none, none, some (9, 5, 3), none, none, none, none, none, none, none],
  [some (9, 6, 3), none, none, none, none, none, none, some (9, 7, 3), none, none, none, some (9, 8, 3), none, none, some (9, 9, 3), none],
  [none, none, none, none, some (9, 11, 3), none, none, none, none, none, none, none, none, some (9, 12, 3), none, none],
  [none, none, none, none, some (9, 13, 3), none, none, none, none, none, none, some (9, 14, 3), none, none, none, none],
  [none, none, some (9, 15, 3), none, none, none, none, none, none, none, some (9, 1, 0), none, none, none, none, none],
  [none, none, none, none, some (6, 12, 0), none, none, some (9, 2, 0), none, none, some (6, 13, 0), none, none, none, none, none],
  [none, none, none, none, some (9, 10, 1), none, none, none, some (0, 4, 0), none, none, some (0, 7, 3), none, none, none, some (0, 0, 0)],
  [none, none, none, none, none, none, some (0, 10, 3), none, none, some (0, 1, 0), none, none, some (0, 14, 3), none, none, some (0, 2, 0)],
  [none, none, none, none, none, none, none, none, none, none, none, none, none, some (8, 2, 3), none, none],
  [some (0, 12, 3), none, none, some (0, 13, 3), none, none, some (8, 3, 3), none, none, some (8, 4, 3), none, none, some (8, 5, 3), none, none, none],
  [none, none, none, none, none, none, none, some (8, 6, 3), none, none, some (0, 8, 3), none, none, some (0, 9, 3), none, none],
  [some (8, 7, 3), none, none, none, none, none, none, none, none, none, some (8, 8, 3), none, none, none, none, none],
  [some (8, 9, 3), none, none, none, none, none, none, none, none, none, some (8, 0, 0), none, none, none, none, none],
  [none, none, none, none, some (0, 18, 3), none, none, none, none, none, none, none, some (5, 2, 2), none, none, none],
  [none, none, none, none, none, none, none, none, none, none, none, none, none, none, none, none],
  [none, none, none, none, none, none, none, none, none, none, none, none, none, none, none, none],
  [none, none, none, none, none, none, none, none, none, none, none, none, none, none, none, none],
  [none, none, none, none, none, none, none, none, none, none, none, none, none, none, some (8, 1, 0), none],
  [none, none, none, none, none, none, none, none, none, none, none, some (1, 2, 0), none, none, none, some (1, 1, 3)],
  [none, none, none, none, none, none, none, none, none, none, none, none, none, none, none, none],
  [none, none, none, none, none, none, none, none, none, none, none, some (3, 6, 0), none, none, some (3, 7, 0), none],
  [none, none, none, none, none, none, none, none, none, none, none, none, none, none, none, none],
  [none, none, none, none, none, none, none, none, none, none, none, none, none, some (7, 2, 0), none, none],
  [some (7, 4, 0), none, none, some (7, 5, 1), none, none, some (7, 3, 0), none, none, some (2, 4, 0), none, none, none, some (4, 0, 0)]],
  [[none, none, none, none, none, none, none, some (10, 0, 3), none, none, none, none, none, some (10, 3, 3), none, none],
  [some (10, 5, 0), none, none, none, some (10, 22, 3), none, none, none, some (10, 23, 3), none, none, some (10, 24, 3), none, none, some (10, 25, 3), none],
  [none, some (10, 26, 3), none, none, some (10, 27, 3), none, none, some (10, 28, 3), none, none, some (10, 29, 3), none, none, some (10, 30, 3), none, none],
  [some (10, 31, 3), none, none, some (10, 32, 3), none, none, some (10, 33, 3), none, none, some (10, 34, 3), none, none, some (10, 35, 3), none, none, some (10, 36, 3)],
  [none, none, some (10, 37, 3), none, none, some (10, 38, 3), none, none, some (10, 39, 3), none, none, some (10, 40, 3), none, none, some (10, 41, 3), none],
  [none, some (10, 42, 3), none, none, some (10, 49, 3), none, none, none, some (10, 50, 3), none, none, some (10, 52, 3), none, none, some (10, 53, 3), none],
  [none, some (10, 54, 3), none, none, some (10, 55, 3), none, none, some (10, 56, 3), none, none, some (10, 57, 3), none, none, some (10, 58, 3), none, none],
  [some (10, 59, 3), none, none, some (10, 60, 3), none, none, some (10, 61, 3), none, none, some (10, 62, 3), none, none, some (10, 63, 3), none, none, some (10, 73, 3)],
  [none, none, some (10, 74, 3), none, none, some (10, 75, 3), none, none, some (10, 77, 0), none, none, some (10, 78, 3), none, none, some (10, 79, 3), none],
  [none, some (10, 80, 3), none, none, some (10, 83, 3), none, none, some (10, 85, 3), none, none, some (10, 86, 3), none, none, none, none, none],
  [none, none, none, some (10, 2, 0), none, none, some (10, 1, 0), none, none, some (10, 4, 0), none, none, some (10, 10, 0), none, none, some (10, 6, 0)],
  [none, none, some (10, 7, 0), none, none, some (10, 8, 0), none, none, none, none, none, none, none, none, none, none],
  [some (10, 9, 0), none, none, none, none, none, none, none, none, none, none, none, none, none, none, none],
  [none, none, none, none, some (10, 11, 0), none, none, none, none, none, none, none, none, none, none, none],
  [none, some (10, 17, 0), none, none, some (10, 18, 0), none, none, some (10, 19, 0), none, none, some (10, 20, 0), none, none, some (10, 21, 0), none, none],
  [some (10, 46, 0), none, none, some (10, 12, 0), none, none, some (10, 13, 0), none, none, some (10, 14, 0), none, none, some (10, 15, 0), none, none, some (10, 16, 0)],
  [none, none, none, none, none, none, none, none, none, none, none, none, none, none, none, none],
  [none, none, none, none, none, none, none, none, none, none, none, none, none, none, none, none],
  [none, none, none, none, none, none, none, some (10, 44, 0), none, none, some (10, 43, 0), none, none, none, none, none],
  [none, none, none, none, none, none, none, none, none, some (10, 45, 0), none, none, none, none, none, none],
  [some (10, 48, 1), none, none, none, none, none, none, none, none, none, none, none, none, some (10, 47, 1), none, none],
  [none, none, none, none, none, none, none, none, none, some (10, 51, 1), none, none, none, none, none, none],
  [none, none, none, none, none, none, none, none, none, none, none, none, none, none, none, some (10, 76, 0)],
  [none, none, some (10, 82, 0), none, none, some (10, 84, 1), none, none, some (10, 65, 0), none, none, some (10, 66, 0), none, none, some (10, 67, 0), none],
  [none, some (10, 68, 0), none, none, some (10, 69, 0), none, none, some (10, 70, 0), none, none, some (10, 71, 1), none, none, some (10, 72, 0), none, none],
  [none, none, none, none, none, none, none, none, none, none, none, none, none, none, none, none],
  [none, none, none, none, none, none, none, none, none, none, none, none, none, none, none, none],
  [none, none, none, none, none, none, some (10, 64, 0), none, none, none, none, none, none, none, none, none],
  [none, none, none, none, none, none, none, none, none, none, none, none, none, none, none, none],
  [none, none, none, none, none, none, none, none, none, none, none, none, none, none, none, none],
  [none, none, none, none, none, none, none, none, none, none, none, none, none, none, none, none],
  [none, none, none, none, none, none, none, none, none, none, none, none, none, none, none, none],
  [none, none, none, none, none, none, none, none, none, none, none, none, none, none, some (10, 81, 2)]],
  [],
  []]
def t_meth : List (List (List (Option (Nat)))) := [[[none, none, none, some 1000, none, none, none, none, none, none, none, none, none, none, none, none],
  [none, none, none, none, none, none, none, none, none, none, none, none, none, none, none, none],
  [none, none, none, none, none, none, none, none, none, none, none, none, none, none, none, none],
  [none, none, none, some 23, none, none, none, none, none, none, none, none, none, none, none, none],
  [none, none, none, none, none, none, none, none, none, none, none, some 24, none, none, some 1001, none],
  [none, none, none, none, some 25]],
  [[none, none, none, some 1000, none, none, none, none, none, none, none, none, none, none, none, none],
  [none, none, none, none, none, none, none, none, none, none, none, none, none, none, none, none],
  [none, none, none, none, none, some 10, none, none, none, none, none, none, some 9, none, none, none],
  [some 8, none, none, none, some 1004, none, none, none, none, none, none, none, some 1002]],
  [[none, none, none, some 1000, none, none, none, none, none, none, none, none, none, none, none, none],
  [none, none, none, none, none, none, none, none, none, none, none, none, some 83, none, none, none],
  [none, none, some 84, none, none, none, some 85, none, none, none, some 88]],
  [[none, none, none, some 1000, none, none, none, none, none, none, none, none, none, none, none, none],
  [none, none, none, none, none, none, none, none, none, none, none, none, none, none, none, none],
  [none, none, none, none, none, none, some 20, none, none, none, none, none, none, none, none, none],
  [none, none, none, some 21, none, none, none, some 18, none, none, none, some 90, none, none, none, some 277]],
  [[none, none, none, some 1000, none, none, none, none, none, none, none, none, none, none, none, none],
  [none, none, none, none, none, none, none, none, none, some 1001]],
  [[none, none, none, some 1000, none, none, none, none, none, none, none, none, none, none, none, none],
  [none, none, none, some 1002, none, none, none, none, none, some 33, none, none, none, none, none, none],
  [none, none, none, some 1006, none, none, none, some 1007, none, none, none, none, none, none, none, none],
  [none, none, none, none, none, some 35, none, none, none, none, none, none, none, none, none, none],
  [some 34, none, none, none, some 1003, none, none, some 36]],
  [[none, none, none, some 1000, none, none, none, none, none, none, none, none, none, none, none, none],
  [none, none, none, none, none, none, none, none, none, none, none, none, some 1008, none, none, none],
  [none, none, some 1009, none, none, none, some 38, none, none, none, some 40, none, none, none, none, none],
  [none, none, none, none, none, none, none, none, some 43, none, none, some 44, none, none, some 45, none],
  [none, some 46, none, none, some 47, none, none, some 48, none, none, some 41, none, none, some 52, none, none],
  [none, none, none, none, none, none, none, none, none, none, none, none, none, none, none, none],
  [some 1, none, none, some 63, none, none, none, none, none, none, none, none, some 42, none, none, none],
  [none, none, none, some 49, none, none, none, some 51, none, none, none, none, none, none, none, none],
  [none, none, none, none, none, none, none, some 50, none, none, none, none, none, none, none, none],
  [none, none, none, none, none, none, none, none, none, none, none, none, none, none, none, none],
  [none, none, none, none, none, none, none, none, none, none, none, none, none, none, none, none],
  [some 26, none, none, none, none, none, none, none, none, none, none, none, some 53, none, none, none],
  [none, none, some 102, none, none, none, none, none, none, none, none, none, some 54, none, none, none],
  [some 55, none, none, some 62, none, none, some 59, none, none, none, some 61, none, none, some 58, none, none],
  [some 57, none, none, some 60, none, none, some 56, none, none, none, none, none, some 64, none, none, some 65],
  [none, none, some 67, none, none, some 66, none, none, some 68, none, none, some 69, none, none, some 70]],
  [[none, none, none, some 1000, none, none, none, none, none, none, none, none, none, none, none, none],
  [none, none, none, none, none, none, none, none, none, none, none, none, none, none, none, none],
  [none, none, none, none, some 74, none, none, none, none, none, none, none, none, some 3, none, none],
  [none, none, none, none, none, none, none, none, none, none, some 77, none, none, none, none, none],
  [none, none, none, none, some 84, none, none, none, some 78, none, none, none, none, none, none, none],
  [none, none, none, none, none, none, none, some 28, none, none, none, none, none, some 29, none, none],
  [some 75, none, none, none, none, none, none, none, some 30, none, none, none, some 31, none, none, none],
  [none, none, none, none, none, none, some 86, none, none, none, some 76, none, none, some 32, none, none],
  [none, some 1005, none, none, none, none, none, none, none, none, none, none, none, some 79]],
  [[none, none, none, some 1000, none, none, none, none, none, none, none, none, none, none, none, none],
  [none, none, none, none, none, none, none, none, none, none, none, none, none, none, none, none],
  [none, none, none, none, none, none, none, none, none, none, none, none, none, none, some 1001, none],
  [none, none, none, none, some 89, none, none, none, some 277]],
  [[none, none, none, some 1000, none, none, none, none, none, none, none, none, none, none, none, none],
  [none, none, none, some 0, none, none, none, none, none, none, none, none, none, some 37, none, none],
  [none, none, none, none, none, none, some 80, none, none, none, none, none, none, none, none, none],
  [none, none, none, some 27, none, none, none, none, none, none, some 71, none, none, none, none, none],
  [none, none, none, some 11, none, none, none, none, none, none, some 15, none, none, none, none, none],
  [none, some 4, none, none, none, none, some 81, none, none, none, none, none, none, some 98, none, none],
  [none, some 39, none, none, none, none, none, none, none, none, none, none, none, some 2, none, none],
  [some 16, none, none, some 12, none, none, none, none, none, none, none, none, none, none, none, none],
  [none, none, some 102, none, none, none, none, none, none, none, none, none, none, none, none, none],
  [none, none, some 104, none, none, none, none, none, none, none, none, none, none, none, none, none],
  [none, none, none, none, none, none, none, none, none, none, none, none, none, none, none, none],
  [none, none, none, none, some 103, none, none, none, none, none, none, none, none, none, none, none],
  [none, none, none, some 84, none, none, some 109, none, none, none, none, none, none, some 105, none, none],
  [none, none, none, some 3, none, none, none, none, none, none, none, none, some 76, none, none, none],
  [some 75, none, none, none, none, none, none, none, some 33, none, none, none, none, none, none, none],
  [some 83, none, none, none, some 13, none, none, none, some 85, none, none, none, some 87, none, none, some 106],
  [none, none, some 72, none, none, some 73, none, none, none, some 82, none, none, some 119, none, none, some 92],
  [none, none, none, some 94, none, none, some 277, none, none, none, none, some 93, none, none, some 121, none],
  [none, some 1004, none, none, none, none, none, none, some 124, none, none, some 122, none, none, none, none],
  [none, some 74, none, none, some 95, none, none, some 5, none, none, none, none, some 6, none, none, none],
  [none, none, some 7, none, none, none, some 30, none, none, none, some 128, none, none, none, some 129, none],
  [none, some 134, none, none, none, some 135, none, none, some 17, none, none, none, none, none, none, none],
  [none, some 19, none, none, some 22, none, none, some 147, none, none, none, some 28, none, none, none, some 31],
  [none, none, none, none, none, none, none, none, none, none, none, none, none, none, none, none],
  [none, none, none, none, none, none, none, none, none, none, some 14, none, none, none, none, none],
  [none, none, some 91, none, none, some 18]],
  [[none, some 1000, none, none, none, none, none, none, none, none, none, none, none, none, none, none],
  [none, none, none, none, none, none, none, none, none, none, none, none, none, none, none, none],
  [none, none, none, none, none, none, none, none, none, none, none, none, none, none, none, none],
  [none, none, none, none, none, none, none, none, none, none, none, none, none, none, none, none],
  [none, none, none, none, none, none, none, none, none, none, none, none, none, none, none, none],
  [none, none, none, none, none, none, none, none, none, none, none, none, none, none, none, none],
  [none, none, none, none, none, none, none, none, none, none, none, none, none, none, none, none],
  [none, none, none, none, none, none, none, none, none, none, none, none, none, none, none, none],
  [none, none, none, none, none, none, none, none, none, none, none, none, none, none, none, none],
  [none, none, none, none, none, none, none, none, none, none, none, none, none, some 169, none, none],
  [some 171, none, none, none, none, none, none, none, none, none, none, none, none, none, none, none],
  [none, none, none, none, none, none, none, none, some 161, none, none, none, some 160, none, none, none],
  [none, none, none, some 165, none, none, some 162, none, none, none, some 164, none, none, some 159, none, none],
  [some 157, none, none, none, none, none, none, some 163, none, none, some 167, none, none, some 168, none, none],
  [none, none, none, none, none, none, none, none, none, none, none, none, none, none, none, none],
  [none, none, none, none, none, none, none, none, none, none, none, none, none, none, none, none],
  [none, none, some 170, none, none, none, some 197, none, none, some 172, none, none, none, some 173, none, none],
  [none, some 174, none, none, none, some 175, none, none, some 176, none, none, some 177, none, none, some 178, none],
  [none, some 192, none, none, some 179, none, none, none, none, none, none, none, none, some 183, none, none],
  [none, some 185, none, none, none, some 184, none, none, none, none, none, none, some 188, none, none, none],
  [none, none, none, none, some 166, none, none, some 187, none, none, some 189, none, none, none, none, none],
  [some 186, none, none, some 190, none, none, some 191, none, none, none, none, none, none, none, none, none],
  [some 193, none, none, none, some 195, none, none, none, some 194, none, none, none, some 198, none, none, none],
  [none, none, none, none, none, none, none, none, none, none, none, none, none, none, none, none],
  [none, none, none, none, none, none, none, none, none, none, none, none, none, none, none, none],
  [some 204, none, none, some 203, none, none, some 205, none, none, some 196, none, none, none, some 206, none, none],
  [none, some 207, none, none, some 208, none, none, none, none, none, some 209, none, none, some 211, none, none],
  [some 210, none, none, some 158, none, none, none, none, none, some 212, none, none, none, some 214, none, none],
  [some 213, none, none, some 215, none, none, some 217, none, none, some 201, none, none, some 221, none, none, some 200],
  [none, none, some 223, none, none, some 202, none, none, none, none, some 270, none, none, some 199, none, none],
  [some 216, none, none, some 220, none, none, some 218, none, none, some 237, none, none, some 236, none, none, some 219],
  [none, none, some 241, none, none, some 242, none, none, none, some 246, none, none, some 247, none, none, some 254],
  [none, none, some 258, none, none, some 259, none, none, some 261, none, none, some 260, none, none, none, none],
  [none, none, none, none, none, none, none, none, none, none, some 265, none, none, some 268, none, none],
  [some 269]],
  [[none, none, none, none, none, none, none, some 107, none, none, none, none, none, none, none, none],
  [none, some 96, none, none, some 154, some 97, none, none, none, some 156, some 99, none, none, none, some 180, some 100],
  [none, none, some 181, some 101, none, none, some 182, some 275, none, none, none, none, some 222, some 155, none, none],
  [none, some 108, none, none, some 224, some 110, none, none, some 225, some 111, none, none, some 226, some 112, none, none],
  [some 228, some 113, none, none, none, some 229, some 114, none, none, none, some 230, some 115, none, none, none, some 231],
  [some 116, none, none, some 232, some 117, none, none, some 233, some 118, none, none, some 234, some 120, none, none, some 235],
  [some 123, none, none, some 238, some 125, none, none, some 239, some 126, none, none, some 240, some 127, none, none, some 243],
  [some 130, none, none, some 244, some 131, none, none, some 245, some 132, none, none, some 248, some 133, none, none, some 249],
  [some 136, none, none, some 250, some 137, none, none, some 251, some 138, none, none, some 227, some 139, none, none, some 252],
  [some 140, none, none, some 253, some 141, none, none, none, some 255, some 142, none, none, some 256, some 143, none, none],
  [none, some 257, some 144, none, none, some 262, some 145, none, none, some 263, some 146, none, none, some 264, some 148, none],
  [none, none, some 266, some 149, none, none, some 267, some 150, none, none, some 271, some 151, none, none, some 272, some 152],
  [none, none, some 273, some 153, none, none, some 274]],
  []]
def t_class : List (List (List (Option (Nat)))) := [[[none, none, none, none, none, none, none, none, none, none, none, none, none, none, none, none],
  [none, none, none, none, none, none, none, none, none, none, none, none, none, none, none, none],
  [none, none, none, none, none, none, none, none, none, none, none, none, none, none, none, none],
  [none, some 4]],
  [],
  [],
  [],
  [],
  [],
  [],
  [],
  [],
  [[none, none, none, none, none, none, none, none, none, none, none, none, none, none, none, none],
  [none, some 0, none, none, none, none, none, none, none, none, none, some 6, none, none, none, none],
  [none, none, none, none, some 8, none, none, none, none, none, none, none, none, none, none, none],
  [none, some 5, none, none, none, none, none, none, some 7, none, none, none, none, none, none, none],
  [none, some 2, none, none, none, none, none, none, some 3, none, none, none, none, none, none, some 1],
  [none, none, none, none, none, none, none, none, none, none, none, none, none, none, none, none],
  [none, none, none, none, none, none, none, none, none, none, none, none, none, none, none, none],
  [none, none, none, none, none, none, none, none, none, none, none, none, none, none, none, none],
  [none, none, none, none, none, none, none, none, none, none, none, none, none, none, none, none],
  [none, none, none, none, none, none, none, none, none, none, none, none, none, none, none, none],
  [none, none, none, none, none, none, none, none, none, none, none, none, none, none, none, none]],
  [],
  [[none, none, none, none, none, none, none, none, some 9, none, none, none, none, none, none, none],
  [none, none, some 10]],
  []]
def t_const : List (List (List (Option (Int)))) := [[],
  [[none, none, none, none, none, none, none, none, none, none, none, none, none, none, none, none],
  [none, none, none, none, none, none, none, none, none, none, none, none, none, none, none, none],
  [none, none, none, none, none, none, none, none, none, none, none, some (2147483647)]],
  [],
  [],
  [],
  [],
  [],
  [],
  [],
  [[none, none, none, none, none, none, none, none, none, none, none, none, none, none, none, none],
  [none, none, none, none, none, none, none, none, none, none, none, none, none, none, none, none],
  [none, none, none, none, none, none, none, none, none, none, none, none, none, none, none, none],
  [none, none, none, none, none, none, none, none, none, none, none, none, none, none, none, none],
  [none, none, none, none, none, none, none, none, none, none, none, none, none, none, none, none],
  [none, none, none, none, none, none, none, none, none, none, none, none, none, none, none, none],
  [none, none, none, none, none, none, none, none, none, none, none, none, none, none, none, none],
  [none, none, none, none, none, none, none, none, none, none, none, none, none, none, none, none],
  [none, none, none, none, none, none, none, none, none, none, none, none, none, none, none, none],
  [none, none, none, none, none, none, none, none, none, none, none, none, none, none, none, none],
  [none, none, none, none, none, none, none, none, none, none, none, none, none, none, none, none],
  [none, none, none, none, none, none, none, none, none, none, none, none, none, none, none, none],
  [none, none, none, none, none, none, none, none, none, none, none, none, none, none, none, none],
  [none, none, none, none, none, none, none, none, none, none, none, none, none, none, none, none],
  [none, none, none, none, none, none, none, none, none, none, none, none, none, none, none, none],
  [none, none, none, none, none, none, none, none, none, none, none, none, none, none, none, none],
  [none, none, none, none, none, none, none, none, none, none, none, none, none, none, none, none],
  [none, none, none, none, none, none, none, none, none, none, none, none, none, none, none, none],
  [none, none, none, none, none, none, none, some (2147483647)]],
  [[none, none, none, none, none, none, none, none, none, none, none, none, none, none, none, none],
  [none, none, none, none, none, none, none, none, none, none, none, none, none, none, none, none],
  [none, none, none, none, none, none, none, none, none, none, none, none, none, none, none, none],
  [none, none, none, none, none, none, none, none, none, none, none, none, none, none, none, none],
  [none, none, none, none, none, none, none, none, none, none, none, none, none, none, none, none],
  [none, none, none, none, none, none, none, none, none, none, none, none, none, none, none, none],
  [none, none, none, none, none, none, none, none, none, none, none, none, none, none, none, none],
  [none, none, none, none, none, none, none, none, none, none, none, none, none, none, none, none],
  [none, none, none, none, none, none, none, none, none, none, none, none, none, none, none, none],
  [none, none, none, none, none, none, none, none, none, none, none, none, none, none, none, none],
  [none, none, none, none, none, none, none, none, none, none, none, none, none, none, none, none],
  [none, none, none, none, none, none, none, none, none, none, none, none, none, none, none, none],
  [none, none, none, none, none, none, none, none, none, some (99999)]],
  [],
  [[none, none, none, none, none, none, none, none, none, none, none, none, none, none, none, none],
  [none, none, none, none, none, none, none, none, none, none, none, none, none, none, none, none],
  [none, none, none, none, none, none, none, none, none, none, none, none, none, none, none, none],
  [none, none, none, none, none, none, none, none, none, none, none, none, none, none, none, none],
  [none, none, none, none, none, none, none, none, none, none, none, none, none, none, none, none],
  [none, none, none, none, none, none, none, none, none, none, none, none, none, none, none, none],
  [none, none, none, none, none, none, none, none, none, none, none, none, none, none, none, none],
  [none, none, none, none, none, none, none, none, none, none, none, none, none, none, none, none],
  [none, none, none, none, none, none, none, none, none, none, none, none, none, none, none, none],
  [none, none, none, none, none, none, none, none, none, none, none, none, none, none, none, none],
  [none, none, none, none, none, none, none, none, none, none, none, none, none, none, none, none],
  [none, none, none, none, none, none, none, none, none, none, none, none, none, none, none, none],
  [none, none, none, none, none, none, none, none, none, none, none, none, none, none, none, none],
  [none, none, none, none, none, none, none, none, none, none, none, none, none, none, none, none],
  [none, none, none, none, none, none, none, none, none, none, none, none, none, none, none, none],
  [none, none, none, none, none, none, none, none, none, none, none, none, none, none, none, none],
  [none, none, none, none, none, none, none, none, none, some (1431655765), some (858993459), some (252645135)]]]
def t_constL : List (List (List (Option (Int)))) := [[],
  [],
  [],
  [],
  [],
  [[none, none, none, none, none, none, none, none, none, none, none, none, none, none, none, none],
  [none, none, none, none, none, none, none, none, none, none, none, none, none, none, none, none],
  [none, some (8), none, none, none, none, none, none, none, none, none, none, none, none, none, none],
  [none, none, none, none, none, none, none, none, none, none, none, none, some (1000000000000), none, some (-1000000000000)]],
  [],
  [],
  [],
  [[none, none, none, none, none, none, none, none, none, none, none, none, none, none, none, none],
  [none, none, none, none, none, none, none, none, none, none, none, none, none, none, none, none],
  [none, none, none, none, none, none, none, none, none, none, none, none, none, none, none, none],
  [none, none, none, none, none, none, none, none, none, none, none, none, none, none, none, none],
  [none, none, none, none, none, none, none, none, none, none, none, none, none, none, none, none],
  [none, none, none, none, none, none, none, none, none, none, none, none, none, none, none, none],
  [none, none, none, none, none, none, none, none, none, none, none, none, none, none, none, none],
  [none, none, none, none, none, none, none, none, none, none, none, none, none, none, none, none],
  [none, none, none, none, none, none, none, none, none, none, none, none, none, none, none, none],
  [none, none, none, none, none, none, none, none, none, none, none, none, none, none, none, none],
  [none, none, none, none, none, none, none, none, none, none, none, none, none, none, none, none],
  [none, none, none, none, none, none, none, none, none, none, none, none, none, none, none, none],
  [none, none, none, none, none, none, none, none, none, none, none, none, none, none, none, none],
  [none, none, none, none, none, none, none, none, some (-9223372036854775808), none, none, none, none, none, none, none],
  [none, none, none, none, none, none, none, none, none, none, none, none, none, none, none, none],
  [none, none, none, none, none, none, none, none, none, none, none, none, none, none, none, none],
  [none, none, none, none, none, none, none, none, none, none, none, none, none, none, none, none],
  [none, none, none, none, none, none, none, none, none, none, none, none, none, none, none, none],
  [none, none, none, none, none, none, none, none, none, none, none, none, none, none, none, none],
  [none, none, none, none, none, none, none, none, none, none, none, none, none, none, none, none],
  [none, none, none, none, none, none, none, none, none, none, none, none, none, none, none, none],
  [none, none, none, none, none, none, none, none, none, none, none, none, none, none, none, none],
  [none, none, none, none, none, none, none, none, none, none, none, none, none, none, none, none],
  [none, none, none, some (1103515245), none, some (12345), none, some (2147483647), none, some (65536), none, some (10)]],
  [[none, none, none, none, none, none, none, none, none, none, none, none, none, none, none, none],
  [none, none, none, none, none, none, none, none, none, none, none, none, none, none, none, none],
  [none, none, none, none, none, none, none, none, none, none, none, none, none, none, none, none],
  [none, none, none, none, none, none, none, none, none, none, none, none, none, none, none, none],
  [none, none, none, none, none, none, none, none, none, none, none, none, none, none, none, none],
  [none, none, none, none, none, none, none, none, none, none, none, none, none, none, none, none],
  [none, none, none, none, none, none, none, none, none, none, none, none, none, none, none, none],
  [none, none, none, none, none, none, none, none, none, none, none, none, none, none, none, none],
  [none, none, none, none, none, none, none, none, none, none, none, none, none, none, none, none],
  [none, none, none, none, none, none, none, none, none, none, none, none, none, none, none, none],
  [none, none, none, none, none, none, none, none, none, none, none, none, none, none, none, none],
  [none, none, none, none, none, none, none, none, none, none, none, none, none, none, none, none],
  [none, none, none, none, none, none, none, none, none, none, none, none, none, none, none, none],
  [none, none, none, none, none, none, none, none, none, none, none, none, none, none, none, none],
  [none, none, none, none, none, none, none, none, none, none, none, none, none, none, none, none],
  [none, none, none, none, none, none, none, none, none, none, none, none, none, none, none, none],
  [none, none, none, none, none, none, none, none, none, none, none, none, none, none, none, none],
  [none, none, none, none, none, none, none, none, none, none, none, none, none, none, none, none],
  [none, none, none, none, none, none, none, none, none, none, none, none, none, none, none, none],
  [none, none, none, none, none, none, none, none, none, none, none, none, none, none, none, none],
  [none, none, none, none, none, none, none, none, none, none, none, none, none, none, none, none],
  [none, none, none, none, none, none, none, none, none, none, none, none, some (1000000000000), none, some (-1000000000000), none],
  [none, none, none, none, none, none, none, none, none, none, none, none, none, none, none, none],
  [none, none, none, none, none, none, none, none, none, none, none, none, none, none, none, none],
  [none, none, none, none, none, none, none, none, none, none, none, none, none, none, none, none],
  [none, none, none, none, none, none, none, none, none, none, none, none, none, none, none, none],
  [none, none, none, none, none, none, none, none, some (8), none, none, none, none, none, none, none],
  [none, none, none, none, none, none, none, none, none, none, none, none, none, none, none, none],
  [none, none, none, none, none, none, none, none, none, none, none, none, none, none, none, none],
  [none, none, none, none, none, none, none, none, some (-9223372036854775808), none, none, none, none, none, none, none],
  [none, none, none, none, none, none, none, none, none, none, none, none, none, none, none, none],
  [none, none, none, none, none, none, none, none, none, none, none, none, none, none, none, none],
  [none, none, none, none, none, none, none, none, none, none, none, none, none, none, none, none],
  [none, none, some (1103515245), none, some (12345), none, some (2147483647), none, some (65536)]],
  [],
  []]
def t_nslots : List Nat := [19, 3, 5, 8, 4, 4, 14, 6, 10, 16, 87]
def t_fty : List (List Nat) := [[0, 0, 0, 0, 0, 0, 1, 3, 3, 3, 3, 3, 3, 3, 3, 3, 3, 3, 3], [3, 3, 0], [3, 3, 3, 0, 0], [3, 3, 3, 3, 3, 3, 0, 0], [0, 3, 3, 3], [3, 3, 2, 2], [3, 3, 3, 3, 0, 0, 0, 0, 0, 0, 0, 0, 0, 0], [3, 3, 0, 0, 0, 1], [0, 0, 3, 3, 3, 3, 3, 3, 3, 3], [3, 0, 0, 0, 3, 3, 3, 3, 3, 3, 1, 3, 3, 3, 3, 3], [3, 0, 0, 3, 0, 0, 0, 0, 0, 0, 0, 0, 0, 0, 0, 0, 0, 0, 0, 0, 0, 0, 3, 3, 3, 3, 3, 3, 3, 3, 3, 3, 3, 3, 3, 3, 3, 3, 3, 3, 3, 3, 3, 0, 0, 0, 0, 1, 1, 3, 3, 1, 3, 3, 3, 3, 3, 3, 3, 3, 3, 3, 3, 3, 0, 0, 0, 0, 0, 0, 0, 1, 0, 3, 3, 3, 0, 0, 3, 3, 3, 2, 0, 3, 1, 3, 3]]
