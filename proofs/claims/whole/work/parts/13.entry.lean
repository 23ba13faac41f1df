/-! a method by its entry, by program -/
/- Acts.<init>()V -/
theorem e0 {G : GE} {d n : Nat} {sh : TS} {I : TI} {L : TL} {P : TP} {Q : TQ} {q : Nat} (h : WP G 0 d Q 0 [some (.ref q)] [] 1 20 n sh I L P) : Cl G d 0 [.ref q] n sh I L P Q := Cl_of (by decide) (by simp) (show 1 ≤ mML 0 by decide) h
/- Acts.forget()V -/
theorem e1 {G : GE} {d n : Nat} {sh : TS} {I : TI} {L : TL} {P : TP} {Q : TQ} {q : Nat} (h : WP G 1 d Q 0 [some (.ref q)] [] 0 0 n sh I L P) : Cl G d 1 [.ref q] n sh I L P Q := Cl_of (by decide) (by simp) (show 1 ≤ mML 1 by decide) h
/- Acts.done(LGeeseKeys$Goose;III)I -/
theorem e2 {G : GE} {d n : Nat} {sh : TS} {I : TI} {L : TL} {P : TP} {Q : TQ} {q : Nat} {x0 : Nat} {x1 : Int32} {x2 : Int32} {x3 : Int32} (h : WP G 2 d Q 0 [some (.ref q), some (.ref x0), some (.int x1), some (.int x2), some (.int x3)] [] 0 0 n sh I L P) : Cl G d 2 [.ref q, .ref x0, .int x1, .int x2, .int x3] n sh I L P Q := Cl_of (by decide) (by simp) (show 5 ≤ mML 2 by decide) h
/- Acts.begin(I)V -/
theorem e3 {G : GE} {d n : Nat} {sh : TS} {I : TI} {L : TL} {P : TP} {Q : TQ} {q : Nat} {x0 : Int32} (h : WP G 3 d Q 0 [some (.ref q), some (.int x0)] [] 0 0 n sh I L P) : Cl G d 3 [.ref q, .int x0] n sh I L P Q := Cl_of (by decide) (by simp) (show 2 ≤ mML 3 by decide) h
/- Acts.honks(LGeeseKeys$Acts;II)I -/
theorem e4 {G : GE} {d n : Nat} {sh : TS} {I : TI} {L : TL} {P : TP} {Q : TQ} {x0 : Nat} {x1 : Int32} {x2 : Int32} (h : WP G 4 d Q 0 [some (.ref x0), some (.int x1), some (.int x2)] [] 0 0 n sh I L P) : Cl G d 4 [.ref x0, .int x1, .int x2] n sh I L P Q := Cl_of (by decide) (by simp) (show 3 ≤ mML 4 by decide) h
/- Acts.struts(LGeeseKeys$Acts;II)I -/
theorem e5 {G : GE} {d n : Nat} {sh : TS} {I : TI} {L : TL} {P : TP} {Q : TQ} {x0 : Nat} {x1 : Int32} {x2 : Int32} (h : WP G 5 d Q 0 [some (.ref x0), some (.int x1), some (.int x2)] [] 0 0 n sh I L P) : Cl G d 5 [.ref x0, .int x1, .int x2] n sh I L P Q := Cl_of (by decide) (by simp) (show 3 ≤ mML 5 by decide) h
/- Acts.tells(LGeeseKeys$Acts;II)I -/
theorem e6 {G : GE} {d n : Nat} {sh : TS} {I : TI} {L : TL} {P : TP} {Q : TQ} {x0 : Nat} {x1 : Int32} {x2 : Int32} (h : WP G 6 d Q 0 [some (.ref x0), some (.int x1), some (.int x2)] [] 0 0 n sh I L P) : Cl G d 6 [.ref x0, .int x1, .int x2] n sh I L P Q := Cl_of (by decide) (by simp) (show 3 ≤ mML 6 by decide) h
/- Ahead.<init>()V -/
theorem e7 {G : GE} {d n : Nat} {sh : TS} {I : TI} {L : TL} {P : TP} {Q : TQ} {q : Nat} (h : WP G 7 d Q 0 [some (.ref q)] [] 18 107 n sh I L P) : Cl G d 7 [.ref q] n sh I L P Q := Cl_of (by decide) (by simp) (show 1 ≤ mML 7 by decide) h
/- Ahead.behind(LGeeseKeys$Yard;I)LGeeseKeys$Yard; -/
theorem e8 {G : GE} {d n : Nat} {sh : TS} {I : TI} {L : TL} {P : TP} {Q : TQ} {q : Nat} {x0 : Nat} {x1 : Int32} (h : WP G 8 d Q 0 [some (.ref q), some (.ref x0), some (.int x1)] [] 0 0 n sh I L P) : Cl G d 8 [.ref q, .ref x0, .int x1] n sh I L P Q := Cl_of (by decide) (by simp) (show 3 ≤ mML 8 by decide) h
/- Ahead.hoursToOpen(LGeeseKeys$Yard;I)I -/
theorem e9 {G : GE} {d n : Nat} {sh : TS} {I : TI} {L : TL} {P : TP} {Q : TQ} {q : Nat} {x0 : Nat} {x1 : Int32} (h : WP G 9 d Q 0 [some (.ref q), some (.ref x0), some (.int x1)] [] 0 0 n sh I L P) : Cl G d 9 [.ref q, .ref x0, .int x1] n sh I L P Q := Cl_of (by decide) (by simp) (show 3 ≤ mML 9 by decide) h
/- Ahead.hoursUntilOpen(I)I -/
theorem e10 {G : GE} {d n : Nat} {sh : TS} {I : TI} {L : TL} {P : TP} {Q : TQ} {q : Nat} {x0 : Int32} (h : WP G 10 d Q 0 [some (.ref q), some (.int x0), none] [] 0 0 n sh I L P) : Cl G d 10 [.ref q, .int x0] n sh I L P Q := Cl_of (by decide) (by simp) (show 2 ≤ mML 10 by decide) h
/- Ahead.shutGates(LGeeseKeys$Yard;)I -/
theorem e11 {G : GE} {d n : Nat} {sh : TS} {I : TI} {L : TL} {P : TP} {Q : TQ} {q : Nat} {x0 : Nat} (h : WP G 11 d Q 0 [some (.ref q), some (.ref x0), none, none] [] 0 0 n sh I L P) : Cl G d 11 [.ref q, .ref x0] n sh I L P Q := Cl_of (by decide) (by simp) (show 2 ≤ mML 11 by decide) h
/- Ahead.hoursOfWay(LGeeseKeys$Yard;II)I -/
theorem e12 {G : GE} {d n : Nat} {sh : TS} {I : TI} {L : TL} {P : TP} {Q : TQ} {q : Nat} {x0 : Nat} {x1 : Int32} {x2 : Int32} (h : WP G 12 d Q 0 [some (.ref q), some (.ref x0), some (.int x1), some (.int x2)] [] 0 0 n sh I L P) : Cl G d 12 [.ref q, .ref x0, .int x1, .int x2] n sh I L P Q := Cl_of (by decide) (by simp) (show 4 ≤ mML 12 by decide) h
/- Ahead.hoursUntilThere(II)I -/
theorem e13 {G : GE} {d n : Nat} {sh : TS} {I : TI} {L : TL} {P : TP} {Q : TQ} {q : Nat} {x0 : Int32} {x1 : Int32} (h : WP G 13 d Q 0 [some (.ref q), some (.int x0), some (.int x1), none, none] [] 0 0 n sh I L P) : Cl G d 13 [.ref q, .int x0, .int x1] n sh I L P Q := Cl_of (by decide) (by simp) (show 3 ≤ mML 13 by decide) h
/- Ahead.reachedFrom(LGeeseKeys$Yard;I)I -/
theorem e14 {G : GE} {d n : Nat} {sh : TS} {I : TI} {L : TL} {P : TP} {Q : TQ} {q : Nat} {x0 : Nat} {x1 : Int32} (h : WP G 14 d Q 0 [some (.ref q), some (.ref x0), some (.int x1), none, none] [] 0 0 n sh I L P) : Cl G d 14 [.ref q, .ref x0, .int x1] n sh I L P Q := Cl_of (by decide) (by simp) (show 3 ≤ mML 14 by decide) h
/- Ahead.keysToSwap(LGeeseKeys$Yard;II)I -/
theorem e15 {G : GE} {d n : Nat} {sh : TS} {I : TI} {L : TL} {P : TP} {Q : TQ} {q : Nat} {x0 : Nat} {x1 : Int32} {x2 : Int32} (h : WP G 15 d Q 0 [some (.ref q), some (.ref x0), some (.int x1), some (.int x2), none, none, none, none, none] [] 0 0 n sh I L P) : Cl G d 15 [.ref q, .ref x0, .int x1, .int x2] n sh I L P Q := Cl_of (by decide) (by simp) (show 4 ≤ mML 15 by decide) h
/- Ahead.courtToLead(LGeeseKeys$Yard;II)I -/
theorem e16 {G : GE} {d n : Nat} {sh : TS} {I : TI} {L : TL} {P : TP} {Q : TQ} {q : Nat} {x0 : Nat} {x1 : Int32} {x2 : Int32} (h : WP G 16 d Q 0 [some (.ref q), some (.ref x0), some (.int x1), some (.int x2), none, none, none, none] [] 0 0 n sh I L P) : Cl G d 16 [.ref q, .ref x0, .int x1, .int x2] n sh I L P Q := Cl_of (by decide) (by simp) (show 4 ≤ mML 16 by decide) h
/- Ahead.courtsThatOpen(LGeeseKeys$Yard;II)I -/
theorem e17 {G : GE} {d n : Nat} {sh : TS} {I : TI} {L : TL} {P : TP} {Q : TQ} {q : Nat} {x0 : Nat} {x1 : Int32} {x2 : Int32} (h : WP G 17 d Q 0 [some (.ref q), some (.ref x0), some (.int x1), some (.int x2), none, none] [] 0 0 n sh I L P) : Cl G d 17 [.ref q, .ref x0, .int x1, .int x2] n sh I L P Q := Cl_of (by decide) (by simp) (show 4 ≤ mML 17 by decide) h
/- Ahead.courtsAsSeen(LGeeseKeys$Whole;I)I -/
theorem e18 {G : GE} {d n : Nat} {sh : TS} {I : TI} {L : TL} {P : TP} {Q : TQ} {q : Nat} {x0 : Nat} {x1 : Int32} (h : WP G 18 d Q 0 [some (.ref q), some (.ref x0), some (.int x1), none, none] [] 0 0 n sh I L P) : Cl G d 18 [.ref q, .ref x0, .int x1] n sh I L P Q := Cl_of (by decide) (by simp) (show 3 ≤ mML 18 by decide) h
/- Ahead.numbersAsSeen(LGeeseKeys$Whole;I)I -/
theorem e19 {G : GE} {d n : Nat} {sh : TS} {I : TI} {L : TL} {P : TP} {Q : TQ} {q : Nat} {x0 : Nat} {x1 : Int32} (h : WP G 19 d Q 0 [some (.ref q), some (.ref x0), some (.int x1), none, none] [] 0 0 n sh I L P) : Cl G d 19 [.ref q, .ref x0, .int x1] n sh I L P Q := Cl_of (by decide) (by simp) (show 3 ≤ mML 19 by decide) h
/- Ahead.isAsSeen(LGeeseKeys$Rows;)Z -/
theorem e20 {G : GE} {d n : Nat} {sh : TS} {I : TI} {L : TL} {P : TP} {Q : TQ} {q : Nat} {x0 : Nat} (h : WP G 20 d Q 0 [some (.ref q), some (.ref x0), none, none, none] [] 0 0 n sh I L P) : Cl G d 20 [.ref q, .ref x0] n sh I L P Q := Cl_of (by decide) (by simp) (show 2 ≤ mML 20 by decide) h
/- Ahead.planned(LGeeseKeys$Whole;)LGeeseKeys$Yard; -/
theorem e21 {G : GE} {d n : Nat} {sh : TS} {I : TI} {L : TL} {P : TP} {Q : TQ} {q : Nat} {x0 : Nat} (h : WP G 21 d Q 0 [some (.ref q), some (.ref x0), none, none] [] 0 0 n sh I L P) : Cl G d 21 [.ref q, .ref x0] n sh I L P Q := Cl_of (by decide) (by simp) (show 2 ≤ mML 21 by decide) h
/- Fortress.<init>()V -/
theorem e22 {G : GE} {d n : Nat} {sh : TS} {I : TI} {L : TL} {P : TP} {Q : TQ} {q : Nat} (h : WP G 22 d Q 0 [some (.ref q)] [] 3 300 n sh I L P) : Cl G d 22 [.ref q] n sh I L P Q := Cl_of (by decide) (by simp) (show 1 ≤ mML 22 by decide) h
/- Fortress.clear()V -/
theorem e23 {G : GE} {d n : Nat} {sh : TS} {I : TI} {L : TL} {P : TP} {Q : TQ} {q : Nat} (h : WP G 23 d Q 0 [some (.ref q)] [] 0 0 n sh I L P) : Cl G d 23 [.ref q] n sh I L P Q := Cl_of (by decide) (by simp) (show 1 ≤ mML 23 by decide) h
/- Fortress.add(III)V -/
theorem e24 {G : GE} {d n : Nat} {sh : TS} {I : TI} {L : TL} {P : TP} {Q : TQ} {q : Nat} {x0 : Int32} {x1 : Int32} {x2 : Int32} (h : WP G 24 d Q 0 [some (.ref q), some (.int x0), some (.int x1), some (.int x2)] [] 0 0 n sh I L P) : Cl G d 24 [.ref q, .int x0, .int x1, .int x2] n sh I L P Q := Cl_of (by decide) (by simp) (show 4 ≤ mML 24 by decide) h
/- Fortress.lured([I)I -/
theorem e25 {G : GE} {d n : Nat} {sh : TS} {I : TI} {L : TL} {P : TP} {Q : TQ} {q : Nat} {x0 : Nat} (h : WP G 25 d Q 0 [some (.ref q), some (.ref x0), none, none, none, none, none] [] 0 0 n sh I L P) : Cl G d 25 [.ref q, .ref x0] n sh I L P Q := Cl_of (by decide) (by simp) (show 2 ≤ mML 25 by decide) h
/- Goose.<init>()V -/
theorem e26 {G : GE} {d n : Nat} {sh : TS} {I : TI} {L : TL} {P : TP} {Q : TQ} {q : Nat} (h : WP G 26 d Q 0 [some (.ref q)] [] 1 4 n sh I L P) : Cl G d 26 [.ref q] n sh I L P Q := Cl_of (by decide) (by simp) (show 1 ≤ mML 26 by decide) h
/- Goose.hatch(IIII)V -/
theorem e27 {G : GE} {d n : Nat} {sh : TS} {I : TI} {L : TL} {P : TP} {Q : TQ} {q : Nat} {x0 : Int32} {x1 : Int32} {x2 : Int32} {x3 : Int32} (h : WP G 27 d Q 0 [some (.ref q), some (.int x0), some (.int x1), some (.int x2), some (.int x3), none] [] 0 0 n sh I L P) : Cl G d 27 [.ref q, .int x0, .int x1, .int x2, .int x3] n sh I L P Q := Cl_of (by decide) (by simp) (show 5 ≤ mML 27 by decide) h
/- Goose.copyFrom(LGeeseKeys$Goose;)V -/
theorem e28 {G : GE} {d n : Nat} {sh : TS} {I : TI} {L : TL} {P : TP} {Q : TQ} {q : Nat} {x0 : Nat} (h : WP G 28 d Q 0 [some (.ref q), some (.ref x0)] [] 0 0 n sh I L P) : Cl G d 28 [.ref q, .ref x0] n sh I L P Q := Cl_of (by decide) (by simp) (show 2 ≤ mML 28 by decide) h
/- Reader.<init>()V -/
theorem e29 {G : GE} {d n : Nat} {sh : TS} {I : TI} {L : TL} {P : TP} {Q : TQ} {q : Nat} (h : WP G 29 d Q 0 [some (.ref q)] [] 5 405 n sh I L P) : Cl G d 29 [.ref q] n sh I L P Q := Cl_of (by decide) (by simp) (show 1 ≤ mML 29 by decide) h
/- Reader.fortressTold()LGeeseKeys$Fortress; -/
theorem e30 {G : GE} {d n : Nat} {sh : TS} {I : TI} {L : TL} {P : TP} {Q : TQ} {q : Nat} (h : WP G 30 d Q 0 [some (.ref q), none, none] [] 4 305 n sh I L P) : Cl G d 30 [.ref q] n sh I L P Q := Cl_of (by decide) (by simp) (show 1 ≤ mML 30 by decide) h
/- Reader.readClause()Z -/
theorem e31 {G : GE} {d n : Nat} {sh : TS} {I : TI} {L : TL} {P : TP} {Q : TQ} {q : Nat} (h : WP G 31 d Q 0 [some (.ref q), none, none] [] 0 0 n sh I L P) : Cl G d 31 [.ref q] n sh I L P Q := Cl_of (by decide) (by simp) (show 1 ≤ mML 31 by decide) h
/- Reader.readEither(I)Z -/
theorem e32 {G : GE} {d n : Nat} {sh : TS} {I : TI} {L : TL} {P : TP} {Q : TQ} {q : Nat} {x0 : Int32} (h : WP G 32 d Q 0 [some (.ref q), some (.int x0), none] [] 0 0 n sh I L P) : Cl G d 32 [.ref q, .int x0] n sh I L P Q := Cl_of (by decide) (by simp) (show 2 ≤ mML 32 by decide) h
/- Reader.readBoth(I)Z -/
theorem e33 {G : GE} {d n : Nat} {sh : TS} {I : TI} {L : TL} {P : TP} {Q : TQ} {q : Nat} {x0 : Int32} (h : WP G 33 d Q 0 [some (.ref q), some (.int x0), none] [] 0 0 n sh I L P) : Cl G d 33 [.ref q, .int x0] n sh I L P Q := Cl_of (by decide) (by simp) (show 2 ≤ mML 33 by decide) h
/- Reader.readFactor(I)Z -/
theorem e34 {G : GE} {d n : Nat} {sh : TS} {I : TI} {L : TL} {P : TP} {Q : TQ} {q : Nat} {x0 : Int32} (h : WP G 34 d Q 0 [some (.ref q), some (.int x0), none, none] [] 0 0 n sh I L P) : Cl G d 34 [.ref q, .int x0] n sh I L P Q := Cl_of (by decide) (by simp) (show 2 ≤ mML 34 by decide) h
/- Reader.readNumber()Z -/
theorem e35 {G : GE} {d n : Nat} {sh : TS} {I : TI} {L : TL} {P : TP} {Q : TQ} {q : Nat} (h : WP G 35 d Q 0 [some (.ref q)] [] 0 0 n sh I L P) : Cl G d 35 [.ref q] n sh I L P Q := Cl_of (by decide) (by simp) (show 1 ≤ mML 35 by decide) h
/- Reader.readWord(Ljava/lang/String;)Z -/
theorem e36 {G : GE} {d n : Nat} {sh : TS} {I : TI} {L : TL} {P : TP} {Q : TQ} {q : Nat} {x0 : Nat} (h : WP G 36 d Q 0 [some (.ref q), some (.ref x0), none] [] 0 0 n sh I L P) : Cl G d 36 [.ref q, .ref x0] n sh I L P Q := Cl_of (by decide) (by simp) (show 2 ≤ mML 36 by decide) h
/- Reader.readSign(C)Z -/
theorem e37 {G : GE} {d n : Nat} {sh : TS} {I : TI} {L : TL} {P : TP} {Q : TQ} {q : Nat} {x0 : Int32} (h : WP G 37 d Q 0 [some (.ref q), some (.int x0)] [] 0 0 n sh I L P) : Cl G d 37 [.ref q, .int x0] n sh I L P Q := Cl_of (by decide) (by simp) (show 2 ≤ mML 37 by decide) h
/- Reader.readOneOf(Ljava/lang/String;)I -/
theorem e38 {G : GE} {d n : Nat} {sh : TS} {I : TI} {L : TL} {P : TP} {Q : TQ} {q : Nat} {x0 : Nat} (h : WP G 38 d Q 0 [some (.ref q), some (.ref x0), none] [] 0 0 n sh I L P) : Cl G d 38 [.ref q, .ref x0] n sh I L P Q := Cl_of (by decide) (by simp) (show 2 ≤ mML 38 by decide) h
/- Reader.isNext(C)Z -/
theorem e39 {G : GE} {d n : Nat} {sh : TS} {I : TI} {L : TL} {P : TP} {Q : TQ} {q : Nat} {x0 : Int32} (h : WP G 39 d Q 0 [some (.ref q), some (.int x0)] [] 0 0 n sh I L P) : Cl G d 39 [.ref q, .int x0] n sh I L P Q := Cl_of (by decide) (by simp) (show 2 ≤ mML 39 by decide) h
/- Reader.isDigit()Z -/
theorem e40 {G : GE} {d n : Nat} {sh : TS} {I : TI} {L : TL} {P : TP} {Q : TQ} {q : Nat} (h : WP G 40 d Q 0 [some (.ref q)] [] 0 0 n sh I L P) : Cl G d 40 [.ref q] n sh I L P Q := Cl_of (by decide) (by simp) (show 1 ≤ mML 40 by decide) h
/- Rows.<init>(I)V -/
theorem e41 {G : GE} {d n : Nat} {sh : TS} {I : TI} {L : TL} {P : TP} {Q : TQ} {q : Nat} {x0 : Int32} (h : WP G 41 d Q 0 [some (.ref q), some (.int x0)] [] 3 30 n sh I L P) : Cl G d 41 [.ref q, .int x0] n sh I L P Q := Cl_of (by decide) (by simp) (show 2 ≤ mML 41 by decide) h
/- Rows.add(III)I -/
theorem e42 {G : GE} {d n : Nat} {sh : TS} {I : TI} {L : TL} {P : TP} {Q : TQ} {q : Nat} {x0 : Int32} {x1 : Int32} {x2 : Int32} (h : WP G 42 d Q 0 [some (.ref q), some (.int x0), some (.int x1), some (.int x2)] [] 0 0 n sh I L P) : Cl G d 42 [.ref q, .int x0, .int x1, .int x2] n sh I L P Q := Cl_of (by decide) (by simp) (show 4 ≤ mML 42 by decide) h
/- Rows.copyFrom(LGeeseKeys$Rows;)V -/
theorem e43 {G : GE} {d n : Nat} {sh : TS} {I : TI} {L : TL} {P : TP} {Q : TQ} {q : Nat} {x0 : Nat} (h : WP G 43 d Q 0 [some (.ref q), some (.ref x0)] [] 0 0 n sh I L P) : Cl G d 43 [.ref q, .ref x0] n sh I L P Q := Cl_of (by decide) (by simp) (show 2 ≤ mML 43 by decide) h
/- Tape.<init>()V -/
theorem e44 {G : GE} {d n : Nat} {sh : TS} {I : TI} {L : TL} {P : TP} {Q : TQ} {q : Nat} (h : WP G 44 d Q 0 [some (.ref q)] [] 1 60 n sh I L P) : Cl G d 44 [.ref q] n sh I L P Q := Cl_of (by decide) (by simp) (show 1 ≤ mML 44 by decide) h
/- Tape.isThere()Z -/
theorem e45 {G : GE} {d n : Nat} {sh : TS} {I : TI} {L : TL} {P : TP} {Q : TQ} {q : Nat} (h : WP G 45 d Q 0 [some (.ref q)] [] 0 0 n sh I L P) : Cl G d 45 [.ref q] n sh I L P Q := Cl_of (by decide) (by simp) (show 1 ≤ mML 45 by decide) h
/- Tape.become(II)V -/
theorem e46 {G : GE} {d n : Nat} {sh : TS} {I : TI} {L : TL} {P : TP} {Q : TQ} {q : Nat} {x0 : Int32} {x1 : Int32} (h : WP G 46 d Q 0 [some (.ref q), some (.int x0), some (.int x1), none] [] 0 0 n sh I L P) : Cl G d 46 [.ref q, .int x0, .int x1] n sh I L P Q := Cl_of (by decide) (by simp) (show 3 ≤ mML 46 by decide) h
/- Tape.hasPlaces(II)Z -/
theorem e47 {G : GE} {d n : Nat} {sh : TS} {I : TI} {L : TL} {P : TP} {Q : TQ} {q : Nat} {x0 : Int32} {x1 : Int32} (h : WP G 47 d Q 0 [some (.ref q), some (.int x0), some (.int x1)] [] 0 0 n sh I L P) : Cl G d 47 [.ref q, .int x0, .int x1] n sh I L P Q := Cl_of (by decide) (by simp) (show 3 ≤ mML 47 by decide) h
/- Tape.cut(J)J -/
theorem e48 {G : GE} {d n : Nat} {sh : TS} {I : TI} {L : TL} {P : TP} {Q : TQ} {q : Nat} {x0 : Int64} (h : WP G 48 d Q 0 [some (.ref q), some (.long x0), none] [] 0 0 n sh I L P) : Cl G d 48 [.ref q, .long x0] n sh I L P Q := Cl_of (by decide) (by simp) (show 3 ≤ mML 48 by decide) h
/- Whole.<init>()V -/
theorem e49 {G : GE} {d n : Nat} {sh : TS} {I : TI} {L : TL} {P : TP} {Q : TQ} {q : Nat} (h : WP G 49 d Q 0 [some (.ref q)] [] 30 209 n sh I L P) : Cl G d 49 [.ref q] n sh I L P Q := Cl_of (by decide) (by simp) (show 1 ≤ mML 49 by decide) h
/- Whole.copyFrom(LGeeseKeys$Whole;)V -/
theorem e50 {G : GE} {d n : Nat} {sh : TS} {I : TI} {L : TL} {P : TP} {Q : TQ} {q : Nat} {x0 : Nat} (h : WP G 50 d Q 0 [some (.ref q), some (.ref x0)] [] 0 0 n sh I L P) : Cl G d 50 [.ref q, .ref x0] n sh I L P Q := Cl_of (by decide) (by simp) (show 2 ≤ mML 50 by decide) h
/- Yard.<init>()V -/
theorem e51 {G : GE} {d n : Nat} {sh : TS} {I : TI} {L : TL} {P : TP} {Q : TQ} {q : Nat} (h : WP G 51 d Q 0 [some (.ref q), none] [] 17 98 n sh I L P) : Cl G d 51 [.ref q] n sh I L P Q := Cl_of (by decide) (by simp) (show 1 ≤ mML 51 by decide) h
/- Yard.copyFrom(LGeeseKeys$Yard;)V -/
theorem e52 {G : GE} {d n : Nat} {sh : TS} {I : TI} {L : TL} {P : TP} {Q : TQ} {q : Nat} {x0 : Nat} (h : WP G 52 d Q 0 [some (.ref q), some (.ref x0), none] [] 0 0 n sh I L P) : Cl G d 52 [.ref q, .ref x0] n sh I L P Q := Cl_of (by decide) (by simp) (show 2 ≤ mML 52 by decide) h
/- Yard.eaten()I -/
theorem e53 {G : GE} {d n : Nat} {sh : TS} {I : TI} {L : TL} {P : TP} {Q : TQ} {q : Nat} (h : WP G 53 d Q 0 [some (.ref q)] [] 0 0 n sh I L P) : Cl G d 53 [.ref q] n sh I L P Q := Cl_of (by decide) (by simp) (show 1 ≤ mML 53 by decide) h
/- Yard.allGrain()I -/
theorem e54 {G : GE} {d n : Nat} {sh : TS} {I : TI} {L : TL} {P : TP} {Q : TQ} {q : Nat} (h : WP G 54 d Q 0 [some (.ref q), none, none] [] 0 0 n sh I L P) : Cl G d 54 [.ref q] n sh I L P Q := Cl_of (by decide) (by simp) (show 1 ≤ mML 54 by decide) h
/- Yard.addGrain(II)V -/
theorem e55 {G : GE} {d n : Nat} {sh : TS} {I : TI} {L : TL} {P : TP} {Q : TQ} {q : Nat} {x0 : Int32} {x1 : Int32} (h : WP G 55 d Q 0 [some (.ref q), some (.int x0), some (.int x1)] [] 0 0 n sh I L P) : Cl G d 55 [.ref q, .int x0, .int x1] n sh I L P Q := Cl_of (by decide) (by simp) (show 3 ≤ mML 55 by decide) h
/- Yard.isEnd(II)Z -/
theorem e56 {G : GE} {d n : Nat} {sh : TS} {I : TI} {L : TL} {P : TP} {Q : TQ} {q : Nat} {x0 : Int32} {x1 : Int32} (h : WP G 56 d Q 0 [some (.ref q), some (.int x0), some (.int x1)] [] 0 0 n sh I L P) : Cl G d 56 [.ref q, .int x0, .int x1] n sh I L P Q := Cl_of (by decide) (by simp) (show 3 ≤ mML 56 by decide) h
/- Yard.openGates()I -/
theorem e57 {G : GE} {d n : Nat} {sh : TS} {I : TI} {L : TL} {P : TP} {Q : TQ} {q : Nat} (h : WP G 57 d Q 0 [some (.ref q), none, none, none] [] 0 0 n sh I L P) : Cl G d 57 [.ref q] n sh I L P Q := Cl_of (by decide) (by simp) (show 1 ≤ mML 57 by decide) h
/- Yard.beyond(II)I -/
theorem e58 {G : GE} {d n : Nat} {sh : TS} {I : TI} {L : TL} {P : TP} {Q : TQ} {q : Nat} {x0 : Int32} {x1 : Int32} (h : WP G 58 d Q 0 [some (.ref q), some (.int x0), some (.int x1), none, none] [] 0 0 n sh I L P) : Cl G d 58 [.ref q, .int x0, .int x1] n sh I L P Q := Cl_of (by decide) (by simp) (show 3 ≤ mML 58 by decide) h
/- Yard.isOtherAt(II)Z -/
theorem e59 {G : GE} {d n : Nat} {sh : TS} {I : TI} {L : TL} {P : TP} {Q : TQ} {q : Nat} {x0 : Int32} {x1 : Int32} (h : WP G 59 d Q 0 [some (.ref q), some (.int x0), some (.int x1), none] [] 0 0 n sh I L P) : Cl G d 59 [.ref q, .int x0, .int x1] n sh I L P Q := Cl_of (by decide) (by simp) (show 3 ≤ mML 59 by decide) h
/- Yard.sum(II)I -/
theorem e60 {G : GE} {d n : Nat} {sh : TS} {I : TI} {L : TL} {P : TP} {Q : TQ} {q : Nat} {x0 : Int32} {x1 : Int32} (h : WP G 60 d Q 0 [some (.ref q), some (.int x0), some (.int x1)] [] 0 0 n sh I L P) : Cl G d 60 [.ref q, .int x0, .int x1] n sh I L P Q := Cl_of (by decide) (by simp) (show 3 ≤ mML 60 by decide) h
/- Yard.pull(II)I -/
theorem e61 {G : GE} {d n : Nat} {sh : TS} {I : TI} {L : TL} {P : TP} {Q : TQ} {q : Nat} {x0 : Int32} {x1 : Int32} (h : WP G 61 d Q 0 [some (.ref q), some (.int x0), some (.int x1), none, none, none, none] [] 0 0 n sh I L P) : Cl G d 61 [.ref q, .int x0, .int x1] n sh I L P Q := Cl_of (by decide) (by simp) (show 3 ≤ mML 61 by decide) h
/- Yard.goal(I)I -/
theorem e62 {G : GE} {d n : Nat} {sh : TS} {I : TI} {L : TL} {P : TP} {Q : TQ} {q : Nat} {x0 : Int32} (h : WP G 62 d Q 0 [some (.ref q), some (.int x0), none, none, none, none, none] [] 0 0 n sh I L P) : Cl G d 62 [.ref q, .int x0] n sh I L P Q := Cl_of (by decide) (by simp) (show 2 ≤ mML 62 by decide) h
/- Yard.goHour()V -/
theorem e63 {G : GE} {d n : Nat} {sh : TS} {I : TI} {L : TL} {P : TP} {Q : TQ} {q : Nat} (h : WP G 63 d Q 0 [some (.ref q), none, none, none] [] 0 0 n sh I L P) : Cl G d 63 [.ref q] n sh I L P Q := Cl_of (by decide) (by simp) (show 1 ≤ mML 63 by decide) h
/- Yard.goHours(I)V -/
theorem e64 {G : GE} {d n : Nat} {sh : TS} {I : TI} {L : TL} {P : TP} {Q : TQ} {q : Nat} {x0 : Int32} (h : WP G 64 d Q 0 [some (.ref q), some (.int x0), none] [] 0 0 n sh I L P) : Cl G d 64 [.ref q, .int x0] n sh I L P Q := Cl_of (by decide) (by simp) (show 2 ≤ mML 64 by decide) h
/- GK.<init>()V -/
theorem e65 {G : GE} {d n : Nat} {sh : TS} {I : TI} {L : TL} {P : TP} {Q : TQ} {q : Nat} (h : WP G 65 d Q 0 [some (.ref q), none] [] 102 1353 n sh I L P) : Cl G d 65 [.ref q] n sh I L P Q := Cl_of (by decide) (by simp) (show 1 ≤ mML 65 by decide) h
/- GK.gate(II)I -/
theorem e66 {G : GE} {d n : Nat} {sh : TS} {I : TI} {L : TL} {P : TP} {Q : TQ} {q : Nat} {x0 : Int32} {x1 : Int32} (h : WP G 66 d Q 0 [some (.ref q), some (.int x0), some (.int x1), none] [] 0 0 n sh I L P) : Cl G d 66 [.ref q, .int x0, .int x1] n sh I L P Q := Cl_of (by decide) (by simp) (show 3 ≤ mML 66 by decide) h
/- GK.goose(IIII)I -/
theorem e67 {G : GE} {d n : Nat} {sh : TS} {I : TI} {L : TL} {P : TP} {Q : TQ} {q : Nat} {x0 : Int32} {x1 : Int32} {x2 : Int32} {x3 : Int32} (h : WP G 67 d Q 0 [some (.ref q), some (.int x0), some (.int x1), some (.int x2), some (.int x3), none] [] 0 0 n sh I L P) : Cl G d 67 [.ref q, .int x0, .int x1, .int x2, .int x3] n sh I L P Q := Cl_of (by decide) (by simp) (show 5 ≤ mML 67 by decide) h
/- GK.of(II)I -/
theorem e68 {G : GE} {d n : Nat} {sh : TS} {I : TI} {L : TL} {P : TP} {Q : TQ} {q : Nat} {x0 : Int32} {x1 : Int32} (h : WP G 68 d Q 0 [some (.ref q), some (.int x0), some (.int x1), none, none] [] 0 0 n sh I L P) : Cl G d 68 [.ref q, .int x0, .int x1] n sh I L P Q := Cl_of (by decide) (by simp) (show 3 ≤ mML 68 by decide) h
/- GK.key(II)I -/
theorem e69 {G : GE} {d n : Nat} {sh : TS} {I : TI} {L : TL} {P : TP} {Q : TQ} {q : Nat} {x0 : Int32} {x1 : Int32} (h : WP G 69 d Q 0 [some (.ref q), some (.int x0), some (.int x1), none, none] [] 0 0 n sh I L P) : Cl G d 69 [.ref q, .int x0, .int x1] n sh I L P Q := Cl_of (by decide) (by simp) (show 3 ≤ mML 69 by decide) h
/- GK.put(II)I -/
theorem e70 {G : GE} {d n : Nat} {sh : TS} {I : TI} {L : TL} {P : TP} {Q : TQ} {q : Nat} {x0 : Int32} {x1 : Int32} (h : WP G 70 d Q 0 [some (.ref q), some (.int x0), some (.int x1), none, none] [] 0 0 n sh I L P) : Cl G d 70 [.ref q, .int x0, .int x1] n sh I L P Q := Cl_of (by decide) (by simp) (show 3 ≤ mML 70 by decide) h
/- GK.take(IZ)I -/
theorem e71 {G : GE} {d n : Nat} {sh : TS} {I : TI} {L : TL} {P : TP} {Q : TQ} {q : Nat} {x0 : Int32} {x1 : Int32} (h : WP G 71 d Q 0 [some (.ref q), some (.int x0), some (.int x1), none, none] [] 0 0 n sh I L P) : Cl G d 71 [.ref q, .int x0, .int x1] n sh I L P Q := Cl_of (by decide) (by simp) (show 3 ≤ mML 71 by decide) h
/- GK.grain(II)I -/
theorem e72 {G : GE} {d n : Nat} {sh : TS} {I : TI} {L : TL} {P : TP} {Q : TQ} {q : Nat} {x0 : Int32} {x1 : Int32} (h : WP G 72 d Q 0 [some (.ref q), some (.int x0), some (.int x1), none] [] 0 0 n sh I L P) : Cl G d 72 [.ref q, .int x0, .int x1] n sh I L P Q := Cl_of (by decide) (by simp) (show 3 ≤ mML 72 by decide) h
/- GK.row(III)I -/
theorem e73 {G : GE} {d n : Nat} {sh : TS} {I : TI} {L : TL} {P : TP} {Q : TQ} {q : Nat} {x0 : Int32} {x1 : Int32} {x2 : Int32} (h : WP G 73 d Q 0 [some (.ref q), some (.int x0), some (.int x1), some (.int x2), none, none] [] 0 0 n sh I L P) : Cl G d 73 [.ref q, .int x0, .int x1, .int x2] n sh I L P Q := Cl_of (by decide) (by simp) (show 4 ≤ mML 73 by decide) h
/- GK.feed(I)I -/
theorem e74 {G : GE} {d n : Nat} {sh : TS} {I : TI} {L : TL} {P : TP} {Q : TQ} {q : Nat} {x0 : Int32} (h : WP G 74 d Q 0 [some (.ref q), some (.int x0)] [] 0 0 n sh I L P) : Cl G d 74 [.ref q, .int x0] n sh I L P Q := Cl_of (by decide) (by simp) (show 2 ≤ mML 74 by decide) h
/- GK.fortress()I -/
theorem e75 {G : GE} {d n : Nat} {sh : TS} {I : TI} {L : TL} {P : TP} {Q : TQ} {q : Nat} (h : WP G 75 d Q 0 [some (.ref q), none] [] 4 305 n sh I L P) : Cl G d 75 [.ref q] n sh I L P Q := Cl_of (by decide) (by simp) (show 1 ≤ mML 75 by decide) h
/- GK.told(I)I -/
theorem e76 {G : GE} {d n : Nat} {sh : TS} {I : TI} {L : TL} {P : TP} {Q : TQ} {q : Nat} {x0 : Int32} (h : WP G 76 d Q 0 [some (.ref q), some (.int x0), none] [] 0 0 n sh I L P) : Cl G d 76 [.ref q, .int x0] n sh I L P Q := Cl_of (by decide) (by simp) (show 2 ≤ mML 76 by decide) h
/- GK.pass(I)I -/
theorem e77 {G : GE} {d n : Nat} {sh : TS} {I : TI} {L : TL} {P : TP} {Q : TQ} {q : Nat} {x0 : Int32} (h : WP G 77 d Q 0 [some (.ref q), some (.int x0)] [] 0 0 n sh I L P) : Cl G d 77 [.ref q, .int x0] n sh I L P Q := Cl_of (by decide) (by simp) (show 2 ≤ mML 77 by decide) h
/- GK.on(II)I -/
theorem e78 {G : GE} {d n : Nat} {sh : TS} {I : TI} {L : TL} {P : TP} {Q : TQ} {q : Nat} {x0 : Int32} {x1 : Int32} (h : WP G 78 d Q 0 [some (.ref q), some (.int x0), some (.int x1), none, none, none, none] [] 0 0 n sh I L P) : Cl G d 78 [.ref q, .int x0, .int x1] n sh I L P Q := Cl_of (by decide) (by simp) (show 3 ≤ mML 78 by decide) h
/- GK.opens(I)I -/
theorem e79 {G : GE} {d n : Nat} {sh : TS} {I : TI} {L : TL} {P : TP} {Q : TQ} {q : Nat} {x0 : Int32} (h : WP G 79 d Q 0 [some (.ref q), some (.int x0)] [] 0 0 n sh I L P) : Cl G d 79 [.ref q, .int x0] n sh I L P Q := Cl_of (by decide) (by simp) (show 2 ≤ mML 79 by decide) h
/- GK.way(III)I -/
theorem e80 {G : GE} {d n : Nat} {sh : TS} {I : TI} {L : TL} {P : TP} {Q : TQ} {q : Nat} {x0 : Int32} {x1 : Int32} {x2 : Int32} (h : WP G 80 d Q 0 [some (.ref q), some (.int x0), some (.int x1), some (.int x2)] [] 0 0 n sh I L P) : Cl G d 80 [.ref q, .int x0, .int x1, .int x2] n sh I L P Q := Cl_of (by decide) (by simp) (show 4 ≤ mML 80 by decide) h
/- GK.lead(II)I -/
theorem e81 {G : GE} {d n : Nat} {sh : TS} {I : TI} {L : TL} {P : TP} {Q : TQ} {q : Nat} {x0 : Int32} {x1 : Int32} (h : WP G 81 d Q 0 [some (.ref q), some (.int x0), some (.int x1)] [] 0 0 n sh I L P) : Cl G d 81 [.ref q, .int x0, .int x1] n sh I L P Q := Cl_of (by decide) (by simp) (show 3 ≤ mML 81 by decide) h
/- GK.see(III)I -/
theorem e82 {G : GE} {d n : Nat} {sh : TS} {I : TI} {L : TL} {P : TP} {Q : TQ} {q : Nat} {x0 : Int32} {x1 : Int32} {x2 : Int32} (h : WP G 82 d Q 0 [some (.ref q), some (.int x0), some (.int x1), some (.int x2)] [] 0 0 n sh I L P) : Cl G d 82 [.ref q, .int x0, .int x1, .int x2] n sh I L P Q := Cl_of (by decide) (by simp) (show 4 ≤ mML 82 by decide) h
/- GK.from(I)I -/
theorem e83 {G : GE} {d n : Nat} {sh : TS} {I : TI} {L : TL} {P : TP} {Q : TQ} {q : Nat} {x0 : Int32} (h : WP G 83 d Q 0 [some (.ref q), some (.int x0)] [] 0 0 n sh I L P) : Cl G d 83 [.ref q, .int x0] n sh I L P Q := Cl_of (by decide) (by simp) (show 2 ≤ mML 83 by decide) h
/- GK.can(II)I -/
theorem e84 {G : GE} {d n : Nat} {sh : TS} {I : TI} {L : TL} {P : TP} {Q : TQ} {q : Nat} {x0 : Int32} {x1 : Int32} (h : WP G 84 d Q 0 [some (.ref q), some (.int x0), some (.int x1), none] [] 0 0 n sh I L P) : Cl G d 84 [.ref q, .int x0, .int x1] n sh I L P Q := Cl_of (by decide) (by simp) (show 3 ≤ mML 84 by decide) h
/- GK.odds(III)J -/
theorem e85 {G : GE} {d n : Nat} {sh : TS} {I : TI} {L : TL} {P : TP} {Q : TQ} {q : Nat} {x0 : Int32} {x1 : Int32} {x2 : Int32} (h : WP G 85 d Q 0 [some (.ref q), some (.int x0), some (.int x1), some (.int x2)] [] 0 0 n sh I L P) : Cl G d 85 [.ref q, .int x0, .int x1, .int x2] n sh I L P Q := Cl_of (by decide) (by simp) (show 4 ≤ mML 85 by decide) h
/- GK.mean(II)J -/
theorem e86 {G : GE} {d n : Nat} {sh : TS} {I : TI} {L : TL} {P : TP} {Q : TQ} {q : Nat} {x0 : Int32} {x1 : Int32} (h : WP G 86 d Q 0 [some (.ref q), some (.int x0), some (.int x1)] [] 0 0 n sh I L P) : Cl G d 86 [.ref q, .int x0, .int x1] n sh I L P Q := Cl_of (by decide) (by simp) (show 3 ≤ mML 86 by decide) h
/- GK.plan(II)I -/
theorem e87 {G : GE} {d n : Nat} {sh : TS} {I : TI} {L : TL} {P : TP} {Q : TQ} {q : Nat} {x0 : Int32} {x1 : Int32} (h : WP G 87 d Q 0 [some (.ref q), some (.int x0), some (.int x1), none] [] 0 0 n sh I L P) : Cl G d 87 [.ref q, .int x0, .int x1] n sh I L P Q := Cl_of (by decide) (by simp) (show 3 ≤ mML 87 by decide) h
/- GK.ends(I)I -/
theorem e88 {G : GE} {d n : Nat} {sh : TS} {I : TI} {L : TL} {P : TP} {Q : TQ} {q : Nat} {x0 : Int32} (h : WP G 88 d Q 0 [some (.ref q), some (.int x0), none] [] 0 0 n sh I L P) : Cl G d 88 [.ref q, .int x0] n sh I L P Q := Cl_of (by decide) (by simp) (show 2 ≤ mML 88 by decide) h
/- GK.book(II)I -/
theorem e89 {G : GE} {d n : Nat} {sh : TS} {I : TI} {L : TL} {P : TP} {Q : TQ} {q : Nat} {x0 : Int32} {x1 : Int32} (h : WP G 89 d Q 0 [some (.ref q), some (.int x0), some (.int x1)] [] 0 0 n sh I L P) : Cl G d 89 [.ref q, .int x0, .int x1] n sh I L P Q := Cl_of (by decide) (by simp) (show 3 ≤ mML 89 by decide) h
/- GK.looked()I -/
theorem e90 {G : GE} {d n : Nat} {sh : TS} {I : TI} {L : TL} {P : TP} {Q : TQ} {q : Nat} (h : WP G 90 d Q 0 [some (.ref q), none, none] [] 0 0 n sh I L P) : Cl G d 90 [.ref q] n sh I L P Q := Cl_of (by decide) (by simp) (show 1 ≤ mML 90 by decide) h
/- GK.judge(II)I -/
theorem e91 {G : GE} {d n : Nat} {sh : TS} {I : TI} {L : TL} {P : TP} {Q : TQ} {q : Nat} {x0 : Int32} {x1 : Int32} (h : WP G 91 d Q 0 [some (.ref q), some (.int x0), some (.int x1), none, none] [] 0 0 n sh I L P) : Cl G d 91 [.ref q, .int x0, .int x1] n sh I L P Q := Cl_of (by decide) (by simp) (show 3 ≤ mML 91 by decide) h
/- GK.image()I -/
theorem e92 {G : GE} {d n : Nat} {sh : TS} {I : TI} {L : TL} {P : TP} {Q : TQ} {q : Nat} (h : WP G 92 d Q 0 [some (.ref q)] [] 0 0 n sh I L P) : Cl G d 92 [.ref q] n sh I L P Q := Cl_of (by decide) (by simp) (show 1 ≤ mML 92 by decide) h
/- GK.undo()I -/
theorem e93 {G : GE} {d n : Nat} {sh : TS} {I : TI} {L : TL} {P : TP} {Q : TQ} {q : Nat} (h : WP G 93 d Q 0 [some (.ref q)] [] 0 0 n sh I L P) : Cl G d 93 [.ref q] n sh I L P Q := Cl_of (by decide) (by simp) (show 1 ≤ mML 93 by decide) h
/- GK.act(III)I -/
theorem e94 {G : GE} {d n : Nat} {sh : TS} {I : TI} {L : TL} {P : TP} {Q : TQ} {q : Nat} {x0 : Int32} {x1 : Int32} {x2 : Int32} (h : WP G 94 d Q 0 [some (.ref q), some (.int x0), some (.int x1), some (.int x2)] [] 0 0 n sh I L P) : Cl G d 94 [.ref q, .int x0, .int x1, .int x2] n sh I L P Q := Cl_of (by decide) (by simp) (show 4 ≤ mML 94 by decide) h
/- GK.trace(I)I -/
theorem e95 {G : GE} {d n : Nat} {sh : TS} {I : TI} {L : TL} {P : TP} {Q : TQ} {q : Nat} {x0 : Int32} (h : WP G 95 d Q 0 [some (.ref q), some (.int x0)] [] 0 0 n sh I L P) : Cl G d 95 [.ref q, .int x0] n sh I L P Q := Cl_of (by decide) (by simp) (show 2 ≤ mML 95 by decide) h
/- GK.taken(II)I -/
theorem e96 {G : GE} {d n : Nat} {sh : TS} {I : TI} {L : TL} {P : TP} {Q : TQ} {q : Nat} {x0 : Int32} {x1 : Int32} (h : WP G 96 d Q 0 [some (.ref q), some (.int x0), some (.int x1), none] [] 0 0 n sh I L P) : Cl G d 96 [.ref q, .int x0, .int x1] n sh I L P Q := Cl_of (by decide) (by simp) (show 3 ≤ mML 96 by decide) h
/- GK.count(I)I -/
theorem e97 {G : GE} {d n : Nat} {sh : TS} {I : TI} {L : TL} {P : TP} {Q : TQ} {q : Nat} {x0 : Int32} (h : WP G 97 d Q 0 [some (.ref q), some (.int x0)] [] 0 0 n sh I L P) : Cl G d 97 [.ref q, .int x0] n sh I L P Q := Cl_of (by decide) (by simp) (show 2 ≤ mML 97 by decide) h
/- GK.tape(III)I -/
theorem e98 {G : GE} {d n : Nat} {sh : TS} {I : TI} {L : TL} {P : TP} {Q : TQ} {q : Nat} {x0 : Int32} {x1 : Int32} {x2 : Int32} (h : WP G 98 d Q 0 [some (.ref q), some (.int x0), some (.int x1), some (.int x2)] [] 0 0 n sh I L P) : Cl G d 98 [.ref q, .int x0, .int x1, .int x2] n sh I L P Q := Cl_of (by decide) (by simp) (show 4 ≤ mML 98 by decide) h
/- GK.item(IIJ)I -/
theorem e99 {G : GE} {d n : Nat} {sh : TS} {I : TI} {L : TL} {P : TP} {Q : TQ} {q : Nat} {x0 : Int32} {x1 : Int32} {x2 : Int64} (h : WP G 99 d Q 0 [some (.ref q), some (.int x0), some (.int x1), some (.long x2), none, none] [] 0 0 n sh I L P) : Cl G d 99 [.ref q, .int x0, .int x1, .long x2] n sh I L P Q := Cl_of (by decide) (by simp) (show 5 ≤ mML 99 by decide) h
/- GK.read(II)J -/
theorem e100 {G : GE} {d n : Nat} {sh : TS} {I : TI} {L : TL} {P : TP} {Q : TQ} {q : Nat} {x0 : Int32} {x1 : Int32} (h : WP G 100 d Q 0 [some (.ref q), some (.int x0), some (.int x1)] [] 0 0 n sh I L P) : Cl G d 100 [.ref q, .int x0, .int x1] n sh I L P Q := Cl_of (by decide) (by simp) (show 3 ≤ mML 100 by decide) h
/- GK.shift(IIIII)I -/
theorem e101 {G : GE} {d n : Nat} {sh : TS} {I : TI} {L : TL} {P : TP} {Q : TQ} {q : Nat} {x0 : Int32} {x1 : Int32} {x2 : Int32} {x3 : Int32} {x4 : Int32} (h : WP G 101 d Q 0 [some (.ref q), some (.int x0), some (.int x1), some (.int x2), some (.int x3), some (.int x4), none, none] [] 0 0 n sh I L P) : Cl G d 101 [.ref q, .int x0, .int x1, .int x2, .int x3, .int x4] n sh I L P Q := Cl_of (by decide) (by simp) (show 6 ≤ mML 101 by decide) h
/- GK.isCourt(I)Z -/
theorem e102 {G : GE} {d n : Nat} {sh : TS} {I : TI} {L : TL} {P : TP} {Q : TQ} {x0 : Int32} (h : WP G 102 d Q 0 [some (.int x0)] [] 0 0 n sh I L P) : Cl G d 102 [.int x0] n sh I L P Q := Cl_of (by decide) (by simp) (show 1 ≤ mML 102 by decide) h
/- GK.isKind(I)Z -/
theorem e103 {G : GE} {d n : Nat} {sh : TS} {I : TI} {L : TL} {P : TP} {Q : TQ} {x0 : Int32} (h : WP G 103 d Q 0 [some (.int x0)] [] 0 0 n sh I L P) : Cl G d 103 [.int x0] n sh I L P Q := Cl_of (by decide) (by simp) (show 1 ≤ mML 103 by decide) h
/- GK.isKey(I)Z -/
theorem e104 {G : GE} {d n : Nat} {sh : TS} {I : TI} {L : TL} {P : TP} {Q : TQ} {x0 : Int32} (h : WP G 104 d Q 0 [some (.int x0)] [] 0 0 n sh I L P) : Cl G d 104 [.int x0] n sh I L P Q := Cl_of (by decide) (by simp) (show 1 ≤ mML 104 by decide) h
/- GK.isGrain(I)Z -/
theorem e105 {G : GE} {d n : Nat} {sh : TS} {I : TI} {L : TL} {P : TP} {Q : TQ} {x0 : Int32} (h : WP G 105 d Q 0 [some (.int x0)] [] 0 0 n sh I L P) : Cl G d 105 [.int x0] n sh I L P Q := Cl_of (by decide) (by simp) (show 1 ≤ mML 105 by decide) h
/- GK.isHours(II)Z -/
theorem e106 {G : GE} {d n : Nat} {sh : TS} {I : TI} {L : TL} {P : TP} {Q : TQ} {x0 : Int32} {x1 : Int32} (h : WP G 106 d Q 0 [some (.int x0), some (.int x1)] [] 0 0 n sh I L P) : Cl G d 106 [.int x0, .int x1] n sh I L P Q := Cl_of (by decide) (by simp) (show 2 ≤ mML 106 by decide) h
/- GK.isPart(I)Z -/
theorem e107 {G : GE} {d n : Nat} {sh : TS} {I : TI} {L : TL} {P : TP} {Q : TQ} {x0 : Int32} (h : WP G 107 d Q 0 [some (.int x0)] [] 0 0 n sh I L P) : Cl G d 107 [.int x0] n sh I L P Q := Cl_of (by decide) (by simp) (show 1 ≤ mML 107 by decide) h
/- GK.isTape(I)Z -/
theorem e108 {G : GE} {d n : Nat} {sh : TS} {I : TI} {L : TL} {P : TP} {Q : TQ} {x0 : Int32} (h : WP G 108 d Q 0 [some (.int x0)] [] 0 0 n sh I L P) : Cl G d 108 [.int x0] n sh I L P Q := Cl_of (by decide) (by simp) (show 1 ≤ mML 108 by decide) h
/- GK.isGoose(I)Z -/
theorem e109 {G : GE} {d n : Nat} {sh : TS} {I : TI} {L : TL} {P : TP} {Q : TQ} {q : Nat} {x0 : Int32} (h : WP G 109 d Q 0 [some (.ref q), some (.int x0)] [] 0 0 n sh I L P) : Cl G d 109 [.ref q, .int x0] n sh I L P Q := Cl_of (by decide) (by simp) (show 2 ≤ mML 109 by decide) h
/- GK.isGate(I)Z -/
theorem e110 {G : GE} {d n : Nat} {sh : TS} {I : TI} {L : TL} {P : TP} {Q : TQ} {q : Nat} {x0 : Int32} (h : WP G 110 d Q 0 [some (.ref q), some (.int x0)] [] 0 0 n sh I L P) : Cl G d 110 [.ref q, .int x0] n sh I L P Q := Cl_of (by decide) (by simp) (show 2 ≤ mML 110 by decide) h
/- GK.isUnder(II)Z -/
theorem e111 {G : GE} {d n : Nat} {sh : TS} {I : TI} {L : TL} {P : TP} {Q : TQ} {x0 : Int32} {x1 : Int32} (h : WP G 111 d Q 0 [some (.int x0), some (.int x1), none, none] [] 0 0 n sh I L P) : Cl G d 111 [.int x0, .int x1] n sh I L P Q := Cl_of (by decide) (by simp) (show 2 ≤ mML 111 by decide) h
/- GK.orNever(I)I -/
theorem e112 {G : GE} {d n : Nat} {sh : TS} {I : TI} {L : TL} {P : TP} {Q : TQ} {x0 : Int32} (h : WP G 112 d Q 0 [some (.int x0)] [] 0 0 n sh I L P) : Cl G d 112 [.int x0] n sh I L P Q := Cl_of (by decide) (by simp) (show 1 ≤ mML 112 by decide) h
/- GK.hoursOrNever(I)I -/
theorem e113 {G : GE} {d n : Nat} {sh : TS} {I : TI} {L : TL} {P : TP} {Q : TQ} {x0 : Int32} (h : WP G 113 d Q 0 [some (.int x0)] [] 0 0 n sh I L P) : Cl G d 113 [.int x0] n sh I L P Q := Cl_of (by decide) (by simp) (show 1 ≤ mML 113 by decide) h
/- GK.leastIn(I)I -/
theorem e114 {G : GE} {d n : Nat} {sh : TS} {I : TI} {L : TL} {P : TP} {Q : TQ} {x0 : Int32} (h : WP G 114 d Q 0 [some (.int x0), none] [] 0 0 n sh I L P) : Cl G d 114 [.int x0] n sh I L P Q := Cl_of (by decide) (by simp) (show 1 ≤ mML 114 by decide) h
/- GK.hasBit(II)Z -/
theorem e115 {G : GE} {d n : Nat} {sh : TS} {I : TI} {L : TL} {P : TP} {Q : TQ} {x0 : Int32} {x1 : Int32} (h : WP G 115 d Q 0 [some (.int x0), some (.int x1)] [] 0 0 n sh I L P) : Cl G d 115 [.int x0, .int x1] n sh I L P Q := Cl_of (by decide) (by simp) (show 2 ≤ mML 115 by decide) h
/- GK.eighths(II)J -/
theorem e116 {G : GE} {d n : Nat} {sh : TS} {I : TI} {L : TL} {P : TP} {Q : TQ} {x0 : Int32} {x1 : Int32} (h : WP G 116 d Q 0 [some (.int x0), some (.int x1), none, none] [] 0 0 n sh I L P) : Cl G d 116 [.int x0, .int x1] n sh I L P Q := Cl_of (by decide) (by simp) (show 2 ≤ mML 116 by decide) h
/- M.<init>()V -/
theorem e117 {G : GE} {d n : Nat} {sh : TS} {I : TI} {L : TL} {P : TP} {Q : TQ} {q : Nat} (h : WP G 117 d Q 0 [some (.ref q)] [] 19 2160 n sh I L P) : Cl G d 117 [.ref q] n sh I L P Q := Cl_of (by decide) (by simp) (show 1 ≤ mML 117 by decide) h
/- M.isIn(III)Z -/
theorem e118 {G : GE} {d n : Nat} {sh : TS} {I : TI} {L : TL} {P : TP} {Q : TQ} {x0 : Int32} {x1 : Int32} {x2 : Int32} (h : WP G 118 d Q 0 [some (.int x0), some (.int x1), some (.int x2)] [] 0 0 n sh I L P) : Cl G d 118 [.int x0, .int x1, .int x2] n sh I L P Q := Cl_of (by decide) (by simp) (show 3 ≤ mML 118 by decide) h
/- M.fresh()[I -/
theorem e119 {G : GE} {d n : Nat} {sh : TS} {I : TI} {L : TL} {P : TP} {Q : TQ}  (h : WP G 119 d Q 0 [none, none] [] 1 138 n sh I L P) : Cl G d 119 [] n sh I L P Q := Cl_of (by decide) (by simp) (show 0 ≤ mML 119 by decide) h
/- M.keep(I)V -/
theorem e120 {G : GE} {d n : Nat} {sh : TS} {I : TI} {L : TL} {P : TP} {Q : TQ} {q : Nat} {x0 : Int32} (h : WP G 120 d Q 0 [some (.ref q), some (.int x0), none] [] 0 0 n sh I L P) : Cl G d 120 [.ref q, .int x0] n sh I L P Q := Cl_of (by decide) (by simp) (show 2 ≤ mML 120 by decide) h
/- M.lay(I)V -/
theorem e121 {G : GE} {d n : Nat} {sh : TS} {I : TI} {L : TL} {P : TP} {Q : TQ} {q : Nat} {x0 : Int32} (h : WP G 121 d Q 0 [some (.ref q), some (.int x0), none] [] 0 0 n sh I L P) : Cl G d 121 [.ref q, .int x0] n sh I L P Q := Cl_of (by decide) (by simp) (show 2 ≤ mML 121 by decide) h
/- M.image()I -/
theorem e122 {G : GE} {d n : Nat} {sh : TS} {I : TI} {L : TL} {P : TP} {Q : TQ} {q : Nat} (h : WP G 122 d Q 0 [some (.ref q), none] [] 0 0 n sh I L P) : Cl G d 122 [.ref q] n sh I L P Q := Cl_of (by decide) (by simp) (show 1 ≤ mML 122 by decide) h
/- M.undo()I -/
theorem e123 {G : GE} {d n : Nat} {sh : TS} {I : TI} {L : TL} {P : TP} {Q : TQ} {q : Nat} (h : WP G 123 d Q 0 [some (.ref q), none] [] 0 0 n sh I L P) : Cl G d 123 [.ref q] n sh I L P Q := Cl_of (by decide) (by simp) (show 1 ≤ mML 123 by decide) h
/- M.isCourt(I)Z -/
theorem e124 {G : GE} {d n : Nat} {sh : TS} {I : TI} {L : TL} {P : TP} {Q : TQ} {x0 : Int32} (h : WP G 124 d Q 0 [some (.int x0)] [] 0 0 n sh I L P) : Cl G d 124 [.int x0] n sh I L P Q := Cl_of (by decide) (by simp) (show 1 ≤ mML 124 by decide) h
/- M.isGate(I)Z -/
theorem e125 {G : GE} {d n : Nat} {sh : TS} {I : TI} {L : TL} {P : TP} {Q : TQ} {q : Nat} {x0 : Int32} (h : WP G 125 d Q 0 [some (.ref q), some (.int x0)] [] 0 0 n sh I L P) : Cl G d 125 [.ref q, .int x0] n sh I L P Q := Cl_of (by decide) (by simp) (show 2 ≤ mML 125 by decide) h
/- M.isGoose(I)Z -/
theorem e126 {G : GE} {d n : Nat} {sh : TS} {I : TI} {L : TL} {P : TP} {Q : TQ} {q : Nat} {x0 : Int32} (h : WP G 126 d Q 0 [some (.ref q), some (.int x0)] [] 0 0 n sh I L P) : Cl G d 126 [.ref q, .int x0] n sh I L P Q := Cl_of (by decide) (by simp) (show 2 ≤ mML 126 by decide) h
/- M.end(II)I -/
theorem e127 {G : GE} {d n : Nat} {sh : TS} {I : TI} {L : TL} {P : TP} {Q : TQ} {q : Nat} {x0 : Int32} {x1 : Int32} (h : WP G 127 d Q 0 [some (.ref q), some (.int x0), some (.int x1)] [] 0 0 n sh I L P) : Cl G d 127 [.ref q, .int x0, .int x1] n sh I L P Q := Cl_of (by decide) (by simp) (show 3 ≤ mML 127 by decide) h
/- M.goose(II)I -/
theorem e128 {G : GE} {d n : Nat} {sh : TS} {I : TI} {L : TL} {P : TP} {Q : TQ} {q : Nat} {x0 : Int32} {x1 : Int32} (h : WP G 128 d Q 0 [some (.ref q), some (.int x0), some (.int x1)] [] 0 0 n sh I L P) : Cl G d 128 [.ref q, .int x0, .int x1] n sh I L P Q := Cl_of (by decide) (by simp) (show 3 ≤ mML 128 by decide) h
/- M.isTaken(I)Z -/
theorem e129 {G : GE} {d n : Nat} {sh : TS} {I : TI} {L : TL} {P : TP} {Q : TQ} {q : Nat} {x0 : Int32} (h : WP G 129 d Q 0 [some (.ref q), some (.int x0)] [] 0 0 n sh I L P) : Cl G d 129 [.ref q, .int x0] n sh I L P Q := Cl_of (by decide) (by simp) (show 2 ≤ mML 129 by decide) h
/- M.gate(II)I -/
theorem e130 {G : GE} {d n : Nat} {sh : TS} {I : TI} {L : TL} {P : TP} {Q : TQ} {q : Nat} {x0 : Int32} {x1 : Int32} (h : WP G 130 d Q 0 [some (.ref q), some (.int x0), some (.int x1), none] [] 0 0 n sh I L P) : Cl G d 130 [.ref q, .int x0, .int x1] n sh I L P Q := Cl_of (by decide) (by simp) (show 3 ≤ mML 130 by decide) h
/- M.goose(IIII)I -/
theorem e131 {G : GE} {d n : Nat} {sh : TS} {I : TI} {L : TL} {P : TP} {Q : TQ} {q : Nat} {x0 : Int32} {x1 : Int32} {x2 : Int32} {x3 : Int32} (h : WP G 131 d Q 0 [some (.ref q), some (.int x0), some (.int x1), some (.int x2), some (.int x3), none, none] [] 0 0 n sh I L P) : Cl G d 131 [.ref q, .int x0, .int x1, .int x2, .int x3] n sh I L P Q := Cl_of (by decide) (by simp) (show 5 ≤ mML 131 by decide) h
/- M.orNever(I)I -/
theorem e132 {G : GE} {d n : Nat} {sh : TS} {I : TI} {L : TL} {P : TP} {Q : TQ} {x0 : Int32} (h : WP G 132 d Q 0 [some (.int x0)] [] 0 0 n sh I L P) : Cl G d 132 [.int x0] n sh I L P Q := Cl_of (by decide) (by simp) (show 1 ≤ mML 132 by decide) h
/- M.of(II)I -/
theorem e133 {G : GE} {d n : Nat} {sh : TS} {I : TI} {L : TL} {P : TP} {Q : TQ} {q : Nat} {x0 : Int32} {x1 : Int32} (h : WP G 133 d Q 0 [some (.ref q), some (.int x0), some (.int x1)] [] 0 0 n sh I L P) : Cl G d 133 [.ref q, .int x0, .int x1] n sh I L P Q := Cl_of (by decide) (by simp) (show 3 ≤ mML 133 by decide) h
/- M.change(III)I -/
theorem e134 {G : GE} {d n : Nat} {sh : TS} {I : TI} {L : TL} {P : TP} {Q : TQ} {q : Nat} {x0 : Int32} {x1 : Int32} {x2 : Int32} (h : WP G 134 d Q 0 [some (.ref q), some (.int x0), some (.int x1), some (.int x2), none] [] 0 0 n sh I L P) : Cl G d 134 [.ref q, .int x0, .int x1, .int x2] n sh I L P Q := Cl_of (by decide) (by simp) (show 4 ≤ mML 134 by decide) h
/- M.key(II)I -/
theorem e135 {G : GE} {d n : Nat} {sh : TS} {I : TI} {L : TL} {P : TP} {Q : TQ} {q : Nat} {x0 : Int32} {x1 : Int32} (h : WP G 135 d Q 0 [some (.ref q), some (.int x0), some (.int x1)] [] 0 0 n sh I L P) : Cl G d 135 [.ref q, .int x0, .int x1] n sh I L P Q := Cl_of (by decide) (by simp) (show 3 ≤ mML 135 by decide) h
/- M.put(II)I -/
theorem e136 {G : GE} {d n : Nat} {sh : TS} {I : TI} {L : TL} {P : TP} {Q : TQ} {q : Nat} {x0 : Int32} {x1 : Int32} (h : WP G 136 d Q 0 [some (.ref q), some (.int x0), some (.int x1)] [] 0 0 n sh I L P) : Cl G d 136 [.ref q, .int x0, .int x1] n sh I L P Q := Cl_of (by decide) (by simp) (show 3 ≤ mML 136 by decide) h
/- M.take(IZ)I -/
theorem e137 {G : GE} {d n : Nat} {sh : TS} {I : TI} {L : TL} {P : TP} {Q : TQ} {q : Nat} {x0 : Int32} {x1 : Int32} (h : WP G 137 d Q 0 [some (.ref q), some (.int x0), some (.int x1)] [] 0 0 n sh I L P) : Cl G d 137 [.ref q, .int x0, .int x1] n sh I L P Q := Cl_of (by decide) (by simp) (show 3 ≤ mML 137 by decide) h
/- M.grain(II)I -/
theorem e138 {G : GE} {d n : Nat} {sh : TS} {I : TI} {L : TL} {P : TP} {Q : TQ} {q : Nat} {x0 : Int32} {x1 : Int32} (h : WP G 138 d Q 0 [some (.ref q), some (.int x0), some (.int x1), none] [] 0 0 n sh I L P) : Cl G d 138 [.ref q, .int x0, .int x1] n sh I L P Q := Cl_of (by decide) (by simp) (show 3 ≤ mML 138 by decide) h
/- M.row(III)I -/
theorem e139 {G : GE} {d n : Nat} {sh : TS} {I : TI} {L : TL} {P : TP} {Q : TQ} {q : Nat} {x0 : Int32} {x1 : Int32} {x2 : Int32} (h : WP G 139 d Q 0 [some (.ref q), some (.int x0), some (.int x1), some (.int x2)] [] 0 0 n sh I L P) : Cl G d 139 [.ref q, .int x0, .int x1, .int x2] n sh I L P Q := Cl_of (by decide) (by simp) (show 4 ≤ mML 139 by decide) h
/- M.feed(I)I -/
theorem e140 {G : GE} {d n : Nat} {sh : TS} {I : TI} {L : TL} {P : TP} {Q : TQ} {q : Nat} {x0 : Int32} (h : WP G 140 d Q 0 [some (.ref q), some (.int x0)] [] 0 0 n sh I L P) : Cl G d 140 [.ref q, .int x0] n sh I L P Q := Cl_of (by decide) (by simp) (show 2 ≤ mML 140 by decide) h
/- M.isAt(I)Z -/
theorem e141 {G : GE} {d n : Nat} {sh : TS} {I : TI} {L : TL} {P : TP} {Q : TQ} {q : Nat} {x0 : Int32} (h : WP G 141 d Q 0 [some (.ref q), some (.int x0)] [] 0 0 n sh I L P) : Cl G d 141 [.ref q, .int x0] n sh I L P Q := Cl_of (by decide) (by simp) (show 2 ≤ mML 141 by decide) h
/- M.takes(I)V -/
theorem e142 {G : GE} {d n : Nat} {sh : TS} {I : TI} {L : TL} {P : TP} {Q : TQ} {q : Nat} {x0 : Int32} (h : WP G 142 d Q 0 [some (.ref q), some (.int x0)] [] 0 0 n sh I L P) : Cl G d 142 [.ref q, .int x0] n sh I L P Q := Cl_of (by decide) (by simp) (show 2 ≤ mML 142 by decide) h
/- M.isDigit()Z -/
theorem e143 {G : GE} {d n : Nat} {sh : TS} {I : TI} {L : TL} {P : TP} {Q : TQ} {q : Nat} (h : WP G 143 d Q 0 [some (.ref q)] [] 0 0 n sh I L P) : Cl G d 143 [.ref q] n sh I L P Q := Cl_of (by decide) (by simp) (show 1 ≤ mML 143 by decide) h
/- M.number()I -/
theorem e144 {G : GE} {d n : Nat} {sh : TS} {I : TI} {L : TL} {P : TP} {Q : TQ} {q : Nat} (h : WP G 144 d Q 0 [some (.ref q), none] [] 0 0 n sh I L P) : Cl G d 144 [.ref q] n sh I L P Q := Cl_of (by decide) (by simp) (show 1 ≤ mML 144 by decide) h
/- M.test()Z -/
theorem e145 {G : GE} {d n : Nat} {sh : TS} {I : TI} {L : TL} {P : TP} {Q : TQ} {q : Nat} (h : WP G 145 d Q 0 [some (.ref q), none, none, none] [] 0 0 n sh I L P) : Cl G d 145 [.ref q] n sh I L P Q := Cl_of (by decide) (by simp) (show 1 ≤ mML 145 by decide) h
/- M.factor()Z -/
theorem e146 {G : GE} {d n : Nat} {sh : TS} {I : TI} {L : TL} {P : TP} {Q : TQ} {q : Nat} (h : WP G 146 d Q 0 [some (.ref q), none] [] 0 0 n sh I L P) : Cl G d 146 [.ref q] n sh I L P Q := Cl_of (by decide) (by simp) (show 1 ≤ mML 146 by decide) h
/- M.both()Z -/
theorem e147 {G : GE} {d n : Nat} {sh : TS} {I : TI} {L : TL} {P : TP} {Q : TQ} {q : Nat} (h : WP G 147 d Q 0 [some (.ref q), none, none] [] 0 0 n sh I L P) : Cl G d 147 [.ref q] n sh I L P Q := Cl_of (by decide) (by simp) (show 1 ≤ mML 147 by decide) h
/- M.any()Z -/
theorem e148 {G : GE} {d n : Nat} {sh : TS} {I : TI} {L : TL} {P : TP} {Q : TQ} {q : Nat} (h : WP G 148 d Q 0 [some (.ref q), none, none] [] 0 0 n sh I L P) : Cl G d 148 [.ref q] n sh I L P Q := Cl_of (by decide) (by simp) (show 1 ≤ mML 148 by decide) h
/- M.clause()V -/
theorem e149 {G : GE} {d n : Nat} {sh : TS} {I : TI} {L : TL} {P : TP} {Q : TQ} {q : Nat} (h : WP G 149 d Q 0 [some (.ref q), none, none, none] [] 0 0 n sh I L P) : Cl G d 149 [.ref q] n sh I L P Q := Cl_of (by decide) (by simp) (show 1 ≤ mML 149 by decide) h
/- M.readAll()Z -/
theorem e150 {G : GE} {d n : Nat} {sh : TS} {I : TI} {L : TL} {P : TP} {Q : TQ} {q : Nat} (h : WP G 150 d Q 0 [some (.ref q), none] [] 0 0 n sh I L P) : Cl G d 150 [.ref q] n sh I L P Q := Cl_of (by decide) (by simp) (show 1 ≤ mML 150 by decide) h
/- M.readFor(II)V -/
theorem e151 {G : GE} {d n : Nat} {sh : TS} {I : TI} {L : TL} {P : TP} {Q : TQ} {q : Nat} {x0 : Int32} {x1 : Int32} (h : WP G 151 d Q 0 [some (.ref q), some (.int x0), some (.int x1), none, none] [] 0 0 n sh I L P) : Cl G d 151 [.ref q, .int x0, .int x1] n sh I L P Q := Cl_of (by decide) (by simp) (show 3 ≤ mML 151 by decide) h
/- M.fortress()I -/
theorem e152 {G : GE} {d n : Nat} {sh : TS} {I : TI} {L : TL} {P : TP} {Q : TQ} {q : Nat} (h : WP G 152 d Q 0 [some (.ref q), none] [] 0 0 n sh I L P) : Cl G d 152 [.ref q] n sh I L P Q := Cl_of (by decide) (by simp) (show 1 ≤ mML 152 by decide) h
/- M.isAnother(II)Z -/
theorem e153 {G : GE} {d n : Nat} {sh : TS} {I : TI} {L : TL} {P : TP} {Q : TQ} {q : Nat} {x0 : Int32} {x1 : Int32} (h : WP G 153 d Q 0 [some (.ref q), some (.int x0), some (.int x1), none, none] [] 0 0 n sh I L P) : Cl G d 153 [.ref q, .int x0, .int x1] n sh I L P Q := Cl_of (by decide) (by simp) (show 3 ≤ mML 153 by decide) h
/- M.isEnd(II)Z -/
theorem e154 {G : GE} {d n : Nat} {sh : TS} {I : TI} {L : TL} {P : TP} {Q : TQ} {q : Nat} {x0 : Int32} {x1 : Int32} (h : WP G 154 d Q 0 [some (.ref q), some (.int x0), some (.int x1)] [] 0 0 n sh I L P) : Cl G d 154 [.ref q, .int x0, .int x1] n sh I L P Q := Cl_of (by decide) (by simp) (show 3 ≤ mML 154 by decide) h
/- M.pull(II)I -/
theorem e155 {G : GE} {d n : Nat} {sh : TS} {I : TI} {L : TL} {P : TP} {Q : TQ} {q : Nat} {x0 : Int32} {x1 : Int32} (h : WP G 155 d Q 0 [some (.ref q), some (.int x0), some (.int x1), none, none] [] 0 0 n sh I L P) : Cl G d 155 [.ref q, .int x0, .int x1] n sh I L P Q := Cl_of (by decide) (by simp) (show 3 ≤ mML 155 by decide) h
/- M.beyond(II)I -/
theorem e156 {G : GE} {d n : Nat} {sh : TS} {I : TI} {L : TL} {P : TP} {Q : TQ} {q : Nat} {x0 : Int32} {x1 : Int32} (h : WP G 156 d Q 0 [some (.ref q), some (.int x0), some (.int x1)] [] 0 0 n sh I L P) : Cl G d 156 [.ref q, .int x0, .int x1] n sh I L P Q := Cl_of (by decide) (by simp) (show 3 ≤ mML 156 by decide) h
/- M.goesTo(I)I -/
theorem e157 {G : GE} {d n : Nat} {sh : TS} {I : TI} {L : TL} {P : TP} {Q : TQ} {q : Nat} {x0 : Int32} (h : WP G 157 d Q 0 [some (.ref q), some (.int x0), none, none, none, none, none, none] [] 0 0 n sh I L P) : Cl G d 157 [.ref q, .int x0] n sh I L P Q := Cl_of (by decide) (by simp) (show 2 ≤ mML 157 by decide) h
/- M.eatNow()I -/
theorem e158 {G : GE} {d n : Nat} {sh : TS} {I : TI} {L : TL} {P : TP} {Q : TQ} {q : Nat} (h : WP G 158 d Q 0 [some (.ref q)] [] 0 0 n sh I L P) : Cl G d 158 [.ref q] n sh I L P Q := Cl_of (by decide) (by simp) (show 1 ≤ mML 158 by decide) h
/- M.hour()V -/
theorem e159 {G : GE} {d n : Nat} {sh : TS} {I : TI} {L : TL} {P : TP} {Q : TQ} {q : Nat} (h : WP G 159 d Q 0 [some (.ref q), none, none, none] [] 0 0 n sh I L P) : Cl G d 159 [.ref q] n sh I L P Q := Cl_of (by decide) (by simp) (show 1 ≤ mML 159 by decide) h
/- M.open()I -/
theorem e160 {G : GE} {d n : Nat} {sh : TS} {I : TI} {L : TL} {P : TP} {Q : TQ} {q : Nat} (h : WP G 160 d Q 0 [some (.ref q), none, none] [] 0 0 n sh I L P) : Cl G d 160 [.ref q] n sh I L P Q := Cl_of (by decide) (by simp) (show 1 ≤ mML 160 by decide) h
/- M.grains()I -/
theorem e161 {G : GE} {d n : Nat} {sh : TS} {I : TI} {L : TL} {P : TP} {Q : TQ} {q : Nat} (h : WP G 161 d Q 0 [some (.ref q), none, none] [] 0 0 n sh I L P) : Cl G d 161 [.ref q] n sh I L P Q := Cl_of (by decide) (by simp) (show 1 ≤ mML 161 by decide) h
/- M.soon(I)I -/
theorem e162 {G : GE} {d n : Nat} {sh : TS} {I : TI} {L : TL} {P : TP} {Q : TQ} {q : Nat} {x0 : Int32} (h : WP G 162 d Q 0 [some (.ref q), some (.int x0), none, none] [] 0 0 n sh I L P) : Cl G d 162 [.ref q, .int x0] n sh I L P Q := Cl_of (by decide) (by simp) (show 2 ≤ mML 162 by decide) h
/- M.shut()I -/
theorem e163 {G : GE} {d n : Nat} {sh : TS} {I : TI} {L : TL} {P : TP} {Q : TQ} {q : Nat} (h : WP G 163 d Q 0 [some (.ref q), none, none] [] 0 0 n sh I L P) : Cl G d 163 [.ref q] n sh I L P Q := Cl_of (by decide) (by simp) (show 1 ≤ mML 163 by decide) h
/- M.walk(I)V -/
theorem e164 {G : GE} {d n : Nat} {sh : TS} {I : TI} {L : TL} {P : TP} {Q : TQ} {q : Nat} {x0 : Int32} (h : WP G 164 d Q 0 [some (.ref q), some (.int x0), none, none, none, none, none] [] 0 0 n sh I L P) : Cl G d 164 [.ref q, .int x0] n sh I L P Q := Cl_of (by decide) (by simp) (show 2 ≤ mML 164 by decide) h
/- M.wayTo(II)I -/
theorem e165 {G : GE} {d n : Nat} {sh : TS} {I : TI} {L : TL} {P : TP} {Q : TQ} {q : Nat} {x0 : Int32} {x1 : Int32} (h : WP G 165 d Q 0 [some (.ref q), some (.int x0), some (.int x1), none] [] 0 0 n sh I L P) : Cl G d 165 [.ref q, .int x0, .int x1] n sh I L P Q := Cl_of (by decide) (by simp) (show 3 ≤ mML 165 by decide) h
/- M.far(I)I -/
theorem e166 {G : GE} {d n : Nat} {sh : TS} {I : TI} {L : TL} {P : TP} {Q : TQ} {q : Nat} {x0 : Int32} (h : WP G 166 d Q 0 [some (.ref q), some (.int x0)] [] 0 0 n sh I L P) : Cl G d 166 [.ref q, .int x0] n sh I L P Q := Cl_of (by decide) (by simp) (show 2 ≤ mML 166 by decide) h
/- M.told(I)I -/
theorem e167 {G : GE} {d n : Nat} {sh : TS} {I : TI} {L : TL} {P : TP} {Q : TQ} {q : Nat} {x0 : Int32} (h : WP G 167 d Q 0 [some (.ref q), some (.int x0)] [] 0 0 n sh I L P) : Cl G d 167 [.ref q, .int x0] n sh I L P Q := Cl_of (by decide) (by simp) (show 2 ≤ mML 167 by decide) h
/- M.pass(I)I -/
theorem e168 {G : GE} {d n : Nat} {sh : TS} {I : TI} {L : TL} {P : TP} {Q : TQ} {q : Nat} {x0 : Int32} (h : WP G 168 d Q 0 [some (.ref q), some (.int x0), none] [] 0 0 n sh I L P) : Cl G d 168 [.ref q, .int x0] n sh I L P Q := Cl_of (by decide) (by simp) (show 2 ≤ mML 168 by decide) h
/- M.on(II)I -/
theorem e169 {G : GE} {d n : Nat} {sh : TS} {I : TI} {L : TL} {P : TP} {Q : TQ} {q : Nat} {x0 : Int32} {x1 : Int32} (h : WP G 169 d Q 0 [some (.ref q), some (.int x0), some (.int x1), none] [] 0 0 n sh I L P) : Cl G d 169 [.ref q, .int x0, .int x1] n sh I L P Q := Cl_of (by decide) (by simp) (show 3 ≤ mML 169 by decide) h
/- M.opens(I)I -/
theorem e170 {G : GE} {d n : Nat} {sh : TS} {I : TI} {L : TL} {P : TP} {Q : TQ} {q : Nat} {x0 : Int32} (h : WP G 170 d Q 0 [some (.ref q), some (.int x0)] [] 0 0 n sh I L P) : Cl G d 170 [.ref q, .int x0] n sh I L P Q := Cl_of (by decide) (by simp) (show 2 ≤ mML 170 by decide) h
/- M.late(I)I -/
theorem e171 {G : GE} {d n : Nat} {sh : TS} {I : TI} {L : TL} {P : TP} {Q : TQ} {x0 : Int32} (h : WP G 171 d Q 0 [some (.int x0)] [] 0 0 n sh I L P) : Cl G d 171 [.int x0] n sh I L P Q := Cl_of (by decide) (by simp) (show 1 ≤ mML 171 by decide) h
/- M.keys(II)I -/
theorem e172 {G : GE} {d n : Nat} {sh : TS} {I : TI} {L : TL} {P : TP} {Q : TQ} {q : Nat} {x0 : Int32} {x1 : Int32} (h : WP G 172 d Q 0 [some (.ref q), some (.int x0), some (.int x1), none, none, none, none, none, none, none] [] 0 0 n sh I L P) : Cl G d 172 [.ref q, .int x0, .int x1] n sh I L P Q := Cl_of (by decide) (by simp) (show 3 ≤ mML 172 by decide) h
/- M.way(III)I -/
theorem e173 {G : GE} {d n : Nat} {sh : TS} {I : TI} {L : TL} {P : TP} {Q : TQ} {q : Nat} {x0 : Int32} {x1 : Int32} {x2 : Int32} (h : WP G 173 d Q 0 [some (.ref q), some (.int x0), some (.int x1), some (.int x2)] [] 0 0 n sh I L P) : Cl G d 173 [.ref q, .int x0, .int x1, .int x2] n sh I L P Q := Cl_of (by decide) (by simp) (show 4 ≤ mML 173 by decide) h
/- M.lead(II)I -/
theorem e174 {G : GE} {d n : Nat} {sh : TS} {I : TI} {L : TL} {P : TP} {Q : TQ} {q : Nat} {x0 : Int32} {x1 : Int32} (h : WP G 174 d Q 0 [some (.ref q), some (.int x0), some (.int x1), none, none, none, none, none] [] 0 0 n sh I L P) : Cl G d 174 [.ref q, .int x0, .int x1] n sh I L P Q := Cl_of (by decide) (by simp) (show 3 ≤ mML 174 by decide) h
/- M.see(III)I -/
theorem e175 {G : GE} {d n : Nat} {sh : TS} {I : TI} {L : TL} {P : TP} {Q : TQ} {q : Nat} {x0 : Int32} {x1 : Int32} {x2 : Int32} (h : WP G 175 d Q 0 [some (.ref q), some (.int x0), some (.int x1), some (.int x2), none] [] 0 0 n sh I L P) : Cl G d 175 [.ref q, .int x0, .int x1, .int x2] n sh I L P Q := Cl_of (by decide) (by simp) (show 4 ≤ mML 175 by decide) h
/- M.isAllSeen()Z -/
theorem e176 {G : GE} {d n : Nat} {sh : TS} {I : TI} {L : TL} {P : TP} {Q : TQ} {q : Nat} (h : WP G 176 d Q 0 [some (.ref q), none, none, none, none] [] 0 0 n sh I L P) : Cl G d 176 [.ref q] n sh I L P Q := Cl_of (by decide) (by simp) (show 1 ≤ mML 176 by decide) h
/- M.fits(III)I -/
theorem e177 {G : GE} {d n : Nat} {sh : TS} {I : TI} {L : TL} {P : TP} {Q : TQ} {q : Nat} {x0 : Int32} {x1 : Int32} {x2 : Int32} (h : WP G 177 d Q 0 [some (.ref q), some (.int x0), some (.int x1), some (.int x2), none, none, none] [] 0 0 n sh I L P) : Cl G d 177 [.ref q, .int x0, .int x1, .int x2] n sh I L P Q := Cl_of (by decide) (by simp) (show 4 ≤ mML 177 by decide) h
/- M.from(I)I -/
theorem e178 {G : GE} {d n : Nat} {sh : TS} {I : TI} {L : TL} {P : TP} {Q : TQ} {q : Nat} {x0 : Int32} (h : WP G 178 d Q 0 [some (.ref q), some (.int x0)] [] 0 0 n sh I L P) : Cl G d 178 [.ref q, .int x0] n sh I L P Q := Cl_of (by decide) (by simp) (show 2 ≤ mML 178 by decide) h
/- M.can(II)I -/
theorem e179 {G : GE} {d n : Nat} {sh : TS} {I : TI} {L : TL} {P : TP} {Q : TQ} {q : Nat} {x0 : Int32} {x1 : Int32} (h : WP G 179 d Q 0 [some (.ref q), some (.int x0), some (.int x1), none, none, none, none] [] 0 0 n sh I L P) : Cl G d 179 [.ref q, .int x0, .int x1] n sh I L P Q := Cl_of (by decide) (by simp) (show 3 ≤ mML 179 by decide) h
/- M.fraction(JJI)J -/
theorem e180 {G : GE} {d n : Nat} {sh : TS} {I : TI} {L : TL} {P : TP} {Q : TQ} {x0 : Int64} {x1 : Int64} {x2 : Int32} (h : WP G 180 d Q 0 [some (.long x0), none, some (.long x1), none, some (.int x2), none, none, none, none, none, none] [] 0 0 n sh I L P) : Cl G d 180 [.long x0, .long x1, .int x2] n sh I L P Q := Cl_of (by decide) (by simp) (show 5 ≤ mML 180 by decide) h
/- M.odds(III)J -/
theorem e181 {G : GE} {d n : Nat} {sh : TS} {I : TI} {L : TL} {P : TP} {Q : TQ} {q : Nat} {x0 : Int32} {x1 : Int32} {x2 : Int32} (h : WP G 181 d Q 0 [some (.ref q), some (.int x0), some (.int x1), some (.int x2), none, none, none] [] 0 0 n sh I L P) : Cl G d 181 [.ref q, .int x0, .int x1, .int x2] n sh I L P Q := Cl_of (by decide) (by simp) (show 4 ≤ mML 181 by decide) h
/- M.mean(II)J -/
theorem e182 {G : GE} {d n : Nat} {sh : TS} {I : TI} {L : TL} {P : TP} {Q : TQ} {q : Nat} {x0 : Int32} {x1 : Int32} (h : WP G 182 d Q 0 [some (.ref q), some (.int x0), some (.int x1), none] [] 0 0 n sh I L P) : Cl G d 182 [.ref q, .int x0, .int x1] n sh I L P Q := Cl_of (by decide) (by simp) (show 3 ≤ mML 182 by decide) h
/- M.plan(II)I -/
theorem e183 {G : GE} {d n : Nat} {sh : TS} {I : TI} {L : TL} {P : TP} {Q : TQ} {q : Nat} {x0 : Int32} {x1 : Int32} (h : WP G 183 d Q 0 [some (.ref q), some (.int x0), some (.int x1), none] [] 0 0 n sh I L P) : Cl G d 183 [.ref q, .int x0, .int x1] n sh I L P Q := Cl_of (by decide) (by simp) (show 3 ≤ mML 183 by decide) h
/- M.ends(I)I -/
theorem e184 {G : GE} {d n : Nat} {sh : TS} {I : TI} {L : TL} {P : TP} {Q : TQ} {q : Nat} {x0 : Int32} (h : WP G 184 d Q 0 [some (.ref q), some (.int x0), none, none, none] [] 0 0 n sh I L P) : Cl G d 184 [.ref q, .int x0] n sh I L P Q := Cl_of (by decide) (by simp) (show 2 ≤ mML 184 by decide) h
/- M.book(II)I -/
theorem e185 {G : GE} {d n : Nat} {sh : TS} {I : TI} {L : TL} {P : TP} {Q : TQ} {q : Nat} {x0 : Int32} {x1 : Int32} (h : WP G 185 d Q 0 [some (.ref q), some (.int x0), some (.int x1)] [] 0 0 n sh I L P) : Cl G d 185 [.ref q, .int x0, .int x1] n sh I L P Q := Cl_of (by decide) (by simp) (show 3 ≤ mML 185 by decide) h
/- M.looked()I -/
theorem e186 {G : GE} {d n : Nat} {sh : TS} {I : TI} {L : TL} {P : TP} {Q : TQ} {q : Nat} (h : WP G 186 d Q 0 [some (.ref q), none] [] 0 0 n sh I L P) : Cl G d 186 [.ref q] n sh I L P Q := Cl_of (by decide) (by simp) (show 1 ≤ mML 186 by decide) h
/- M.body(I)I -/
theorem e187 {G : GE} {d n : Nat} {sh : TS} {I : TI} {L : TL} {P : TP} {Q : TQ} {q : Nat} {x0 : Int32} (h : WP G 187 d Q 0 [some (.ref q), some (.int x0)] [] 0 0 n sh I L P) : Cl G d 187 [.ref q, .int x0] n sh I L P Q := Cl_of (by decide) (by simp) (show 2 ≤ mML 187 by decide) h
/- M.all(III)I -/
theorem e188 {G : GE} {d n : Nat} {sh : TS} {I : TI} {L : TL} {P : TP} {Q : TQ} {q : Nat} {x0 : Int32} {x1 : Int32} {x2 : Int32} (h : WP G 188 d Q 0 [some (.ref q), some (.int x0), some (.int x1), some (.int x2)] [] 0 0 n sh I L P) : Cl G d 188 [.ref q, .int x0, .int x1, .int x2] n sh I L P Q := Cl_of (by decide) (by simp) (show 4 ≤ mML 188 by decide) h
/- M.byKind(IIII)I -/
theorem e189 {G : GE} {d n : Nat} {sh : TS} {I : TI} {L : TL} {P : TP} {Q : TQ} {q : Nat} {x0 : Int32} {x1 : Int32} {x2 : Int32} {x3 : Int32} (h : WP G 189 d Q 0 [some (.ref q), some (.int x0), some (.int x1), some (.int x2), some (.int x3), none, none] [] 0 0 n sh I L P) : Cl G d 189 [.ref q, .int x0, .int x1, .int x2, .int x3] n sh I L P Q := Cl_of (by decide) (by simp) (show 5 ≤ mML 189 by decide) h
/- M.act(III)I -/
theorem e190 {G : GE} {d n : Nat} {sh : TS} {I : TI} {L : TL} {P : TP} {Q : TQ} {q : Nat} {x0 : Int32} {x1 : Int32} {x2 : Int32} (h : WP G 190 d Q 0 [some (.ref q), some (.int x0), some (.int x1), some (.int x2)] [] 0 0 n sh I L P) : Cl G d 190 [.ref q, .int x0, .int x1, .int x2] n sh I L P Q := Cl_of (by decide) (by simp) (show 4 ≤ mML 190 by decide) h
/- M.trace(I)I -/
theorem e191 {G : GE} {d n : Nat} {sh : TS} {I : TI} {L : TL} {P : TP} {Q : TQ} {q : Nat} {x0 : Int32} (h : WP G 191 d Q 0 [some (.ref q), some (.int x0)] [] 0 0 n sh I L P) : Cl G d 191 [.ref q, .int x0] n sh I L P Q := Cl_of (by decide) (by simp) (show 2 ≤ mML 191 by decide) h
/- M.taken(II)I -/
theorem e192 {G : GE} {d n : Nat} {sh : TS} {I : TI} {L : TL} {P : TP} {Q : TQ} {q : Nat} {x0 : Int32} {x1 : Int32} (h : WP G 192 d Q 0 [some (.ref q), some (.int x0), some (.int x1), none] [] 0 0 n sh I L P) : Cl G d 192 [.ref q, .int x0, .int x1] n sh I L P Q := Cl_of (by decide) (by simp) (show 3 ≤ mML 192 by decide) h
/- M.count(I)I -/
theorem e193 {G : GE} {d n : Nat} {sh : TS} {I : TI} {L : TL} {P : TP} {Q : TQ} {q : Nat} {x0 : Int32} (h : WP G 193 d Q 0 [some (.ref q), some (.int x0)] [] 0 0 n sh I L P) : Cl G d 193 [.ref q, .int x0] n sh I L P Q := Cl_of (by decide) (by simp) (show 2 ≤ mML 193 by decide) h
/- M.isTape(I)Z -/
theorem e194 {G : GE} {d n : Nat} {sh : TS} {I : TI} {L : TL} {P : TP} {Q : TQ} {x0 : Int32} (h : WP G 194 d Q 0 [some (.int x0)] [] 0 0 n sh I L P) : Cl G d 194 [.int x0] n sh I L P Q := Cl_of (by decide) (by simp) (show 1 ≤ mML 194 by decide) h
/- M.tape(III)I -/
theorem e195 {G : GE} {d n : Nat} {sh : TS} {I : TI} {L : TL} {P : TP} {Q : TQ} {q : Nat} {x0 : Int32} {x1 : Int32} {x2 : Int32} (h : WP G 195 d Q 0 [some (.ref q), some (.int x0), some (.int x1), some (.int x2), none] [] 0 0 n sh I L P) : Cl G d 195 [.ref q, .int x0, .int x1, .int x2] n sh I L P Q := Cl_of (by decide) (by simp) (show 4 ≤ mML 195 by decide) h
/- M.item(IIJ)I -/
theorem e196 {G : GE} {d n : Nat} {sh : TS} {I : TI} {L : TL} {P : TP} {Q : TQ} {q : Nat} {x0 : Int32} {x1 : Int32} {x2 : Int64} (h : WP G 196 d Q 0 [some (.ref q), some (.int x0), some (.int x1), some (.long x2), none, none] [] 0 0 n sh I L P) : Cl G d 196 [.ref q, .int x0, .int x1, .long x2] n sh I L P Q := Cl_of (by decide) (by simp) (show 5 ≤ mML 196 by decide) h
/- M.read(II)J -/
theorem e197 {G : GE} {d n : Nat} {sh : TS} {I : TI} {L : TL} {P : TP} {Q : TQ} {q : Nat} {x0 : Int32} {x1 : Int32} (h : WP G 197 d Q 0 [some (.ref q), some (.int x0), some (.int x1)] [] 0 0 n sh I L P) : Cl G d 197 [.ref q, .int x0, .int x1] n sh I L P Q := Cl_of (by decide) (by simp) (show 3 ≤ mML 197 by decide) h
/- M.shift(IIIII)I -/
theorem e198 {G : GE} {d n : Nat} {sh : TS} {I : TI} {L : TL} {P : TP} {Q : TQ} {q : Nat} {x0 : Int32} {x1 : Int32} {x2 : Int32} {x3 : Int32} {x4 : Int32} (h : WP G 198 d Q 0 [some (.ref q), some (.int x0), some (.int x1), some (.int x2), some (.int x3), some (.int x4), none] [] 0 0 n sh I L P) : Cl G d 198 [.ref q, .int x0, .int x1, .int x2, .int x3, .int x4] n sh I L P Q := Cl_of (by decide) (by simp) (show 6 ≤ mML 198 by decide) h
/- M.judge(II)I -/
theorem e199 {G : GE} {d n : Nat} {sh : TS} {I : TI} {L : TL} {P : TP} {Q : TQ} {q : Nat} {x0 : Int32} {x1 : Int32} (h : WP G 199 d Q 0 [some (.ref q), some (.int x0), some (.int x1), none, none, none] [] 0 0 n sh I L P) : Cl G d 199 [.ref q, .int x0, .int x1] n sh I L P Q := Cl_of (by decide) (by simp) (show 3 ≤ mML 199 by decide) h
/- String.length()I -/
theorem e200 {G : GE} {d n : Nat} {sh : TS} {I : TI} {L : TL} {P : TP} {Q : TQ} {q : Nat} (h : WP G 200 d Q 0 [some (.ref q)] [] 0 0 n sh I L P) : Cl G d 200 [.ref q] n sh I L P Q := Cl_of (by decide) (by simp) (show 1 ≤ mML 200 by decide) h
/- String.charAt(I)C -/
theorem e201 {G : GE} {d n : Nat} {sh : TS} {I : TI} {L : TL} {P : TP} {Q : TQ} {q : Nat} {x0 : Int32} (h : WP G 201 d Q 0 [some (.ref q), some (.int x0)] [] 0 0 n sh I L P) : Cl G d 201 [.ref q, .int x0] n sh I L P Q := Cl_of (by decide) (by simp) (show 2 ≤ mML 201 by decide) h
/- String.indexOf(I)I -/
theorem e202 {G : GE} {d n : Nat} {sh : TS} {I : TI} {L : TL} {P : TP} {Q : TQ} {q : Nat} {x0 : Int32} (h : WP G 202 d Q 0 [some (.ref q), some (.int x0)] [] 0 0 n sh I L P) : Cl G d 202 [.ref q, .int x0] n sh I L P Q := Cl_of (by decide) (by simp) (show 2 ≤ mML 202 by decide) h
/- String.indexOf(II)I -/
theorem e203 {G : GE} {d n : Nat} {sh : TS} {I : TI} {L : TL} {P : TP} {Q : TQ} {q : Nat} {x0 : Int32} {x1 : Int32} (h : WP G 203 d Q 0 [some (.ref q), some (.int x0), some (.int x1)] [] 0 0 n sh I L P) : Cl G d 203 [.ref q, .int x0, .int x1] n sh I L P Q := Cl_of (by decide) (by simp) (show 3 ≤ mML 203 by decide) h
/- String.coder()B -/
theorem e204 {G : GE} {d n : Nat} {sh : TS} {I : TI} {L : TL} {P : TP} {Q : TQ} {q : Nat} (h : WP G 204 d Q 0 [some (.ref q)] [] 0 0 n sh I L P) : Cl G d 204 [.ref q] n sh I L P Q := Cl_of (by decide) (by simp) (show 1 ≤ mML 204 by decide) h
/- String.isLatin1()Z -/
theorem e205 {G : GE} {d n : Nat} {sh : TS} {I : TI} {L : TL} {P : TP} {Q : TQ} {q : Nat} (h : WP G 205 d Q 0 [some (.ref q)] [] 0 0 n sh I L P) : Cl G d 205 [.ref q] n sh I L P Q := Cl_of (by decide) (by simp) (show 1 ≤ mML 205 by decide) h
/- String.checkIndex(II)V -/
theorem e206 {G : GE} {d n : Nat} {sh : TS} {I : TI} {L : TL} {P : TP} {Q : TQ} {x0 : Int32} {x1 : Int32} (h : WP G 206 d Q 0 [some (.int x0), some (.int x1)] [] 0 0 n sh I L P) : Cl G d 206 [.int x0, .int x1] n sh I L P Q := Cl_of (by decide) (by simp) (show 2 ≤ mML 206 by decide) h
/- Latin1.charAt([BI)C -/
theorem e207 {G : GE} {d n : Nat} {sh : TS} {I : TI} {L : TL} {P : TP} {Q : TQ} {x0 : Nat} {x1 : Int32} (h : WP G 207 d Q 0 [some (.ref x0), some (.int x1)] [] 0 0 n sh I L P) : Cl G d 207 [.ref x0, .int x1] n sh I L P Q := Cl_of (by decide) (by simp) (show 2 ≤ mML 207 by decide) h
/- Latin1.canEncode(I)Z -/
theorem e208 {G : GE} {d n : Nat} {sh : TS} {I : TI} {L : TL} {P : TP} {Q : TQ} {x0 : Int32} (h : WP G 208 d Q 0 [some (.int x0)] [] 0 0 n sh I L P) : Cl G d 208 [.int x0] n sh I L P Q := Cl_of (by decide) (by simp) (show 1 ≤ mML 208 by decide) h
/- Latin1.indexOf([BIII)I -/
theorem e209 {G : GE} {d n : Nat} {sh : TS} {I : TI} {L : TL} {P : TP} {Q : TQ} {x0 : Nat} {x1 : Int32} {x2 : Int32} {x3 : Int32} (h : WP G 209 d Q 0 [some (.ref x0), some (.int x1), some (.int x2), some (.int x3)] [] 0 0 n sh I L P) : Cl G d 209 [.ref x0, .int x1, .int x2, .int x3] n sh I L P Q := Cl_of (by decide) (by simp) (show 4 ≤ mML 209 by decide) h
/- Latin1.indexOfChar([BIII)I -/
theorem e210 {G : GE} {d n : Nat} {sh : TS} {I : TI} {L : TL} {P : TP} {Q : TQ} {x0 : Nat} {x1 : Int32} {x2 : Int32} {x3 : Int32} (h : WP G 210 d Q 0 [some (.ref x0), some (.int x1), some (.int x2), some (.int x3), none, none] [] 0 0 n sh I L P) : Cl G d 210 [.ref x0, .int x1, .int x2, .int x3] n sh I L P Q := Cl_of (by decide) (by simp) (show 4 ≤ mML 210 by decide) h
/- Pre.checkIndex(IILjava/util/function/BiFunction;)I -/
theorem e211 {G : GE} {d n : Nat} {sh : TS} {I : TI} {L : TL} {P : TP} {Q : TQ} {x0 : Int32} {x1 : Int32} {x2 : Nat} (h : WP G 211 d Q 0 [some (.int x0), some (.int x1), some (.ref x2)] [] 0 0 n sh I L P) : Cl G d 211 [.int x0, .int x1, .ref x2] n sh I L P Q := Cl_of (by decide) (by simp) (show 3 ≤ mML 211 by decide) h
/- Integer.bitCount(I)I -/
theorem e212 {G : GE} {d n : Nat} {sh : TS} {I : TI} {L : TL} {P : TP} {Q : TQ} {x0 : Int32} (h : WP G 212 d Q 0 [some (.int x0)] [] 0 0 n sh I L P) : Cl G d 212 [.int x0] n sh I L P Q := Cl_of (by decide) (by simp) (show 1 ≤ mML 212 by decide) h
