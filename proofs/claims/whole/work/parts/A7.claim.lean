/-! THE CLAIM OUT OF ONE WALK OF THE LAW'S BODY. Your part is whole_start (and what it stands on); all else here is the same for every law, but numbers. -/
def R_law : String := "GeeseKeysLaw"
def lw_P (b : Addr) (xs : List Int32) (args : Array Value) (s : State) : Prop := args = #[.ref b] ∧ s.IntsAt b xs ∧ xs.length ≤ 3072 ∧ (Jvm.Cond.and given_1 narrow_1).before args s = true
def lw_Q (_ : Array Value) (s : State) (o : Outcome) (t : State) : Prop := o = .returned (some (.int 1)) ∧ Framed s o t [] 600000 7302250
def lw_Z (below : List Frame) (a : Array Value) (s : State) : State → Prop := fun t => ∃ o, t.status = .running ∧ Ended t below o ∧ lw_Q a s o t
/-- the law's own end, with 1 on the stack, nothing written that was there before, its room as the claim has it -/
theorem lw_ret {p : Program} {l : Launch} {e : Env} {s : State} {m : MethodId} {below : List Frame} {meth : Method} {c : Code} {b : Nat} (hx : p.tables.exec = Jvm.exec) (hb : c.code = code) (hr : meth.sig.returnType = ret) (hlocks : meth.locks = false) {pc : Nat} {H : Heap} {ls : Array Slot} (hdg : decode code pc = .ok (.ireturn, 1)) : W p l e room_1 s m #[Value.ref b] below meth c H [] 600000 7302250 (lw_Z below #[Value.ref b] s) (F0 m pc ls [.int 1]) := by
  intro T hT X
  obtain ⟨fs, hret, hrun, hended, hW, hframe⟩ := X.leave (v := some (.int 1)) (hlocks := hlocks) (fun h => by rw [hr] at h; cases h)
  have hmeth' : T.vm.method? m = some meth := X.method'
  refine ⟨T.setFrames fs, ?_, .returned (some (.int 1)), hrun, hended, rfl, ⟨_, rfl⟩, hW, hframe⟩
  jvm_step X.here [X.here.top, hx, hb, hdg, hmeth', hr, ret, narrow_b1]
  (try refine ⟨rfl, ?_⟩); (try refine ⟨rfl, ?_⟩)
  first | (intro acts; rw [hret _ acts rfl rfl rfl]) | rw [hret _ _ rfl rfl rfl]
  exact Steps.refl _
/-- what holds at the law's entry: the machine, the code, the tables' words (any of lw_tbl by 'hts w (by decide +kernel)'), the script of L ints xs at the cell b, what the Statement gives of the start (any of its parts by flat_of_before) -/
def lw_At (p : Program) (s : State) (m : MethodId) (meth : Method) (c : Code) (b L : Nat) (xs : Nat → Int32) : Prop :=
  p.tables.exec = Jvm.exec ∧ c.code = code ∧ meth.sig.returnType = ret ∧ c.maxLocals = 4 ∧ s.vm.findClass R_law = some m.cls ∧ (∀ w ∈ lw_tbl, w.before #[Value.ref b] s = true) ∧ va_X b L xs s s.heap ∧ b < s.heap.size ∧ meth.locks = false ∧ (Jvm.Cond.and given_1 narrow_1).before #[Value.ref b] s = true

/-! ### the world at the law's entry -/
theorem wk_start (l : Launch) {s : State} {b L : Nat} {xs : Nat → Int32} (hts : ∀ w ∈ lw_tbl, w.before #[Value.ref b] s = true) (hX : va_X b L xs s s.heap) (hbl : b < s.heap.size) (hgv : (Jvm.Cond.and given_1 narrow_1).before #[Value.ref b] s = true) :
    ∃ G : GE, Gl G = l ∧ GS G = s.heap.size ∧ GA G 3 = b ∧ GL G = L ∧ GX G = xs ∧ WK G s := by
  have hA : ∀ a : Nat, a < s.heap.size → ¬ (fun q : Nat => s.heap.size ≤ q) a := fun a h => Nat.not_le.mpr h
  have htG : ∀ w ∈ tblG, w.before #[Value.ref b] s = true := fun w h => hts w (List.mem_filter.mp h).1
  have hs := flat_of_before _ hgv
  have hKn : ∀ k : Nat, ∃ q : ClassId × (Nat → Nat), k < 11 → u_Kn s (cNm k) (fT k) (fN k) q.1 q.2 := by
    intro k
    by_cases hk : k < 11
    · obtain ⟨c, i, h⟩ := u_known htG (fT_ws k hk) (htG _ (gkI_ok k hk).1)
      exact ⟨(c, i), fun _ => h⟩
    · exact ⟨(0, fun _ => 0), fun h => absurd h hk⟩
  obtain ⟨D, hD⟩ := Classical.axiomOfChoice hKn
  have m1 : ∀ j : Nat, j < 7 → Cond.eq (.elem (.static "GeeseKeys" "ABOVE" "[I") (.int (Int32.ofNat j))) (.int (aboveV j)) ∈ flatC (Jvm.Cond.and given_1 narrow_1) := by decide +kernel
  obtain ⟨t, ht, hT⟩ := va_Tof (tm := .static "GeeseKeys" "ABOVE" "[I") (ty := .int) (N := 7) (f := fun j => .int (aboveV j)) (A := fun q : Nat => s.heap.size ≤ q) (by decide) (hs _ (by decide +kernel)) (va_eqt (hs _ (by decide +kernel))) (fun j hj => va_eqt (hs _ (m1 j hj))) hA
  have hZ0 : va_Z "GeeseKeys" "ABOVE" "[I" (.ref t) (fun q : Nat => s.heap.size ≤ q) s s.heap := va_Zref (hts (.laysStatic "GeeseKeys" "ABOVE" "[I") (by decide +kernel)) (hts (.initialized "GeeseKeys") (by decide +kernel)) ht hA
  have hZ1 : va_Z "java/lang/String" "COMPACT_STRINGS" "Z" (.int 1) (fun q : Nat => s.heap.size ≤ q) s s.heap := va_Zof (hts (.laysStatic "java/lang/String" "COMPACT_STRINGS" "Z") (by decide +kernel)) (hts (.initialized "java/lang/String") (by decide +kernel)) (va_eqi (hs _ (by decide +kernel))) hA
  obtain ⟨F, hF, hZ2⟩ : ∃ F : Value, (F = .null ∨ ∃ t, F = .ref t) ∧ va_Z "jdk/internal/util/Preconditions" "SIOOBE_FORMATTER" "Ljava/util/function/BiFunction;" F (fun q : Nat => s.heap.size ≤ q) s s.heap := by
    rcases va_Zqof (A := fun q : Nat => s.heap.size ≤ q) (hts (.laysStatic "jdk/internal/util/Preconditions" "SIOOBE_FORMATTER" "Ljava/util/function/BiFunction;") (by decide +kernel)) (hts (.initialized "jdk/internal/util/Preconditions") (by decide +kernel)) (hs _ (by decide +kernel)) hA with h | ⟨t, h⟩
    · exact ⟨_, Or.inl rfl, h⟩
    · exact ⟨_, Or.inr ⟨t, rfl⟩, h⟩
  have q1 : ∀ i : Nat, i < 5 → Cond.exactly (.string "GeeseKeys$Reader" (([46, 58, 60, 76, 82] : List Nat).getD i 0)) "java/lang/String" ∈ flatC (Jvm.Cond.and given_1 narrow_1) := by decide +kernel
  have q2 : ∀ i : Nat, i < 5 → Cond.eq (.field (.string "GeeseKeys$Reader" (([46, 58, 60, 76, 82] : List Nat).getD i 0)) "java/lang/String" "coder" "B") (.int 0) ∈ flatC (Jvm.Cond.and given_1 narrow_1) := by decide +kernel
  have q3 : ∀ i : Nat, i < 5 → Cond.arrayOf (.field (.string "GeeseKeys$Reader" (([46, 58, 60, 76, 82] : List Nat).getD i 0)) "java/lang/String" "value" "[B") .byte ∈ flatC (Jvm.Cond.and given_1 narrow_1) := by decide +kernel
  have q4 : ∀ i : Nat, i < 5 → Cond.eq (.length (.field (.string "GeeseKeys$Reader" (([46, 58, 60, 76, 82] : List Nat).getD i 0)) "java/lang/String" "value" "[B")) (.int (Int32.ofNat (strN.getD i 0))) ∈ flatC (Jvm.Cond.and given_1 narrow_1) := by decide +kernel
  have q5 : ∀ i : Nat, i < 5 → ∀ j : Nat, j < strN.getD i 0 → Cond.eq (.elem (.field (.string "GeeseKeys$Reader" (([46, 58, 60, 76, 82] : List Nat).getD i 0)) "java/lang/String" "value" "[B") (.int (Int32.ofNat j))) (.int ((strB.getD i []).getD j 0)) ∈ flatC (Jvm.Cond.and given_1 narrow_1) := by decide +kernel
  have q6 : ∀ i : Nat, i < 5 → ∀ j : Nat, j < 5 → i ≠ j → Cond.not (Cond.eq (.string "GeeseKeys$Reader" (([46, 58, 60, 76, 82] : List Nat).getD i 0)) (.string "GeeseKeys$Reader" (([46, 58, 60, 76, 82] : List Nat).getD j 0))) ∈ flatC (Jvm.Cond.and given_1 narrow_1) ∨ Cond.not (Cond.eq (.string "GeeseKeys$Reader" (([46, 58, 60, 76, 82] : List Nat).getD j 0)) (.string "GeeseKeys$Reader" (([46, 58, 60, 76, 82] : List Nat).getD i 0))) ∈ flatC (Jvm.Cond.and given_1 narrow_1) := by decide +kernel
  obtain ⟨adK, adV, hS, hE⟩ := vk_Sof (args := #[Value.ref b]) (s := s) (N := 5) (tm := fun i => .string "GeeseKeys$Reader" (([46, 58, 60, 76, 82] : List Nat).getD i 0)) (len := strN) (byt := strB) (A := fun q : Nat => s.heap.size ≤ q) (by decide) (fun i hi => hs _ (q1 i hi)) (fun i hi => hs _ (q2 i hi)) (fun i hi => hs _ (q3 i hi)) (fun i hi => hs _ (q4 i hi)) (fun i hi j hj => hs _ (q5 i hi j hj))
    (fun i j hi hj hij => (q6 i hi j hj hij).elim (fun h => Or.inl (hs _ h)) (fun h => Or.inr (hs _ h))) hA
  have e1 : ∀ i, i < 5 → (fun a => if a = 2 then t else if a = 3 then b else if a < 9 then adK (a - 4) else adV (a - 9)) (4 + i) = adK i := by
    intro i hi
    show (if 4 + i = 2 then t else if 4 + i = 3 then b else if 4 + i < 9 then adK (4 + i - 4) else adV (4 + i - 9)) = _
    rw [if_neg (by omega), if_neg (by omega), if_pos (by omega), Nat.add_sub_cancel_left]
  have e2 : ∀ i, (fun a => if a = 2 then t else if a = 3 then b else if a < 9 then adK (a - 4) else adV (a - 9)) (9 + i) = adV i := by
    intro i
    show (if 9 + i = 2 then t else if 9 + i = 3 then b else if 9 + i < 9 then adK (9 + i - 4) else adV (9 + i - 9)) = _
    rw [if_neg (by omega), if_neg (by omega), if_neg (by omega), Nat.add_sub_cancel_left]
  obtain ⟨GA0, hGA⟩ : ∃ GA0 : Nat → Nat, GA0 = fun a => if a = 2 then t else if a = 3 then b else if a < 9 then adK (a - 4) else adV (a - 9) := ⟨_, rfl⟩
  rw [← hGA] at e1 e2
  have g2 : GA0 2 = t := by rw [hGA]; rfl
  have g3 : GA0 3 = b := by rw [hGA]; rfl
  obtain ⟨scr, x1, x2, x3, x4, x5⟩ := hX
  refine ⟨(l, s.heap.size, (fun k => (D k).1, fun k => (D k).2), GA0, F, xs, L), rfl, rfl, g3, rfl, rfl, ⟨fun c q hq => ?_, fun k q h => by simp at h⟩, fun e he => va_Nw.of rfl (hts _ (gkLN_ok e he).1), va_AO.of (hts _ gw_oG), va_AO.of (hts _ gw_oT), ?_, ?_, ?_, ?_, ?_, hF⟩
  · by_cases hc : c < 11
    · rw [kCl_at hc] at hq
      cases hq
      exact hD c hc
    · exact absurd (List.getElem?_eq_some_iff.mp hq).1 (by simpa [kCl] using hc)
  · intro i hi
    rcases (show i = 0 ∨ i = 1 ∨ i = 2 by omega) with rfl | rfl | rfl
    · show va_Z "GeeseKeys" "ABOVE" "[I" (.ref (GA0 2)) _ s s.heap
      rw [g2]
      exact hZ0
    · exact hZ1
    · exact hZ2
  · show va_T .int (GA0 2) 7 _ _ s s.heap
    rw [g2]
    exact hT
  · show va_T .int (GA0 3) L (fun j => .int (xs j)) _ s s.heap
    rw [g3]
    exact ⟨scr, x1, x2, x3, Nat.le_of_eq x4.symm, by rw [x4], x5, hA b hbl⟩
  · refine ⟨fun i hi => ?_, fun i j hi hj h => hS.2 i j hi hj ?_⟩
    · show va_O "java/lang/String" (GA0 (4 + i)) _ s s.heap ∧ va_OF "java/lang/String" "coder" "B" (.int 0) (GA0 (4 + i)) _ s s.heap ∧ va_OF "java/lang/String" "value" "[B" (.ref (GA0 (9 + i))) (GA0 (4 + i)) _ s s.heap ∧ va_T .byte (GA0 (9 + i)) (strN.getD i 0) (fun j => .int ((strB.getD i []).getD j 0)) _ s s.heap
      rw [e1 i hi, e2 i]
      exact hS.1 i hi
    · rw [← e1 i hi, ← e1 j hj]
      exact h
  · intro e he
    have hp : ∀ e ∈ gkLT, cNm e.1 = "GeeseKeys$Reader" ∧ e.2.2.2 < 5 ∧ e.2.1 = ([46, 58, 60, 76, 82] : List Nat).getD e.2.2.2 0 := by decide +kernel
    obtain ⟨p1, p2, p3⟩ := hp e he
    have hr := hts _ (gkLT_ok e he)
    have hv := hE _ p2
    rw [← p3, ← p1] at hv
    show vk_R (cNm e.1) e.2.1 e.2.2.1 (GA0 (4 + e.2.2.2)) s
    rw [e1 _ p2]
    exact vk_R.of hr hv
/-- the tables of numbers at the start -/
def sh00 (L : Nat) : TS := fun a => if a = 2 then (100, 7) else if a = 3 then (100, L) else if a < 4 then (999, 0) else if a < 9 then (11, 2) else if a < 14 then (103, strN.getD (a - 9) 0) else (999, 0)
def I00 (xs : Nat → Int32) : TI := fun a j => if a = 2 then aboveV j else if a = 3 then xs j else if a < 9 then 0 else (strB.getD (a - 9) []).getD j 0
theorem sf_start (G : GE) : SF G (sh00 (GL G)) (I00 (GX G)) (fun a _ => a + 5) := by
  refine ⟨rfl, rfl, rfl, rfl, fun i hi => ?_, fun i hi => ?_, fun a h1 h2 => ?_, fun j _ => rfl, fun j _ => rfl, fun i hi => ⟨?_, ?_⟩, fun i hi j _ => ?_⟩
  · show (if 4 + i = 2 then ((100, 7) : Nat × Nat) else if 4 + i = 3 then (100, GL G) else if 4 + i < 4 then (999, 0) else if 4 + i < 9 then (11, 2) else if 4 + i < 14 then (103, strN.getD (4 + i - 9) 0) else (999, 0)) = _
    rw [if_neg (by omega), if_neg (by omega), if_neg (by omega), if_pos (by omega)]
  · show (if 9 + i = 2 then ((100, 7) : Nat × Nat) else if 9 + i = 3 then (100, GL G) else if 9 + i < 4 then (999, 0) else if 9 + i < 9 then (11, 2) else if 9 + i < 14 then (103, strN.getD (9 + i - 9) 0) else (999, 0)) = _
    rw [if_neg (by omega), if_neg (by omega), if_neg (by omega), if_neg (by omega), if_pos (by omega), Nat.add_sub_cancel_left]
  · show (if a = 2 then ((100, 7) : Nat × Nat) else if a = 3 then (100, GL G) else if a < 4 then (999, 0) else if a < 9 then (11, 2) else if a < 14 then (103, strN.getD (a - 9) 0) else (999, 0)) = _
    rw [if_neg (by omega), if_neg (by omega), if_neg (by omega), if_neg (by omega), if_neg (by omega)]
  · show 4 + i + 5 = 9 + i
    omega
  · show (if 4 + i = 2 then aboveV 1 else if 4 + i = 3 then GX G 1 else if 4 + i < 9 then 0 else (strB.getD (4 + i - 9) []).getD 1 0) = 0
    rw [if_neg (by omega), if_neg (by omega), if_pos (by omega)]
  · show (if 9 + i = 2 then aboveV j else if 9 + i = 3 then GX G j else if 9 + i < 9 then 0 else (strB.getD (9 + i - 9) []).getD j 0) = _
    rw [if_neg (by omega), if_neg (by omega), if_neg (by omega), Nat.add_sub_cancel_left]
theorem sh00_hi (L a : Nat) (h : 20 ≤ a) : sh00 L a = (999, 0) := by
  show (if a = 2 then ((100, 7) : Nat × Nat) else if a = 3 then (100, L) else if a < 4 then (999, 0) else if a < 9 then (11, 2) else if a < 14 then (103, strN.getD (a - 9) 0) else (999, 0)) = _
  rw [if_neg (by omega), if_neg (by omega), if_neg (by omega), if_neg (by omega), if_neg (by omega)]
/-- from the entry, for every script of at most 3072 ints, the law comes to its end with true -/
theorem whole_start {p : Program} {e : Env} {s : State} {m : MethodId} {below : List Frame} {meth : Method} {c : Code} (l : Launch) (hflags : l.flags = flags0) {b L : Nat} {xs : Nat → Int32} (hL : L ≤ 3072) (C0 : lw_At p s m meth c b L xs) : W p l e room_1 s m #[Value.ref b] below meth c s.heap [] 0 0 (lw_Z below #[Value.ref b] s) (entryFrame m ([Value.ref b] : List Value).toArray 4) := by
  obtain ⟨hx, hb, hr, hml, hown, hts, hX, hbl, hlocks, hgv⟩ := C0
  obtain ⟨G, g1, g2, g3, g4, g5, hW⟩ := wk_start l hts hX hbl hgv
  have e3 : tr G (.ref 3) = .ref b := by
    rw [tr_ref (by omega)]
    show Value.ref (if 3 < 20 then GA G 3 else GS G + (3 - 20)) = _
    rw [if_pos (by omega), g3]
  have hC : Ctx G 213 2000 p s m #[Value.ref b] meth c room_1 :=
    ⟨hx, hb, hr, hml, hown, fun w h => hts w (List.mem_filter.mp h).1, hlocks, fun h => absurd h (by decide), hW, by decide, by decide, rfl, rfl, rfl, Nat.le_of_eq g2⟩
  have hM : Mat G s s.heap 20 (sh00 (GL G)) (I00 (GX G)) (fun _ _ => 0) (fun a _ => a + 5) :=
    ⟨by rw [g2], Nat.le_refl _, sf_start G, fun a ha => sh00_hi _ a ha, fun a h1 h2 => absurd h2 (Nat.not_lt.mpr h1)⟩
  have hLR := LR.entry (G := G) hW.2.2.2.2.2.2.2.2.2 (as := [.ref 3]) (n := 4) (by simp) (by decide)
  rw [show List.map (tr G) [Value.ref 3] = [Value.ref b] from by rw [List.map_cons, e3]; rfl] at hLR
  have hwp := law_W (G := G) (d := 2000) (Q := fun r _ _ _ _ _ => r = some (.int (nI 1))) (sh := sh00 (GL G)) (I := I00 (GX G)) (L := fun _ _ => 0) (P := fun a _ => a + 5) (by decide) (by rw [g4]; exact hL) (fun _ _ _ _ _ => rfl)
  rw [lg_entry_eq]
  have hfin := hwp p e s m #[Value.ref b] below meth c room_1 s.heap [] 0 0 _ hC hM va_S.rf hLR rfl (by decide) (by decide)
  rw [g1] at hfin
  intro T hT X
  obtain ⟨t, st, o, hrun, hend, hq, Lc, hfe, hfree⟩ := hfin T hT X
  obtain ⟨⟨r, n, sh, I, L', P, ho, hr', -⟩, -⟩ := hq
  refine ⟨t, st, o, hrun, hend, ?_, hfe.1, hfe.2.1, State.sameButNew.drop_fresh (L := []) (J := Lc) hfe.2.2 (fun q hq => ?_)⟩
  · rw [ho, hr']
    rfl
  · have h := hfree q hq
    exact Nat.le_trans (Nat.le_of_eq g2.symm) h
-- ===== YOUR PART ENDS =====
set_option maxHeartbeats 4000000 in
theorem lw_walk (l : Launch) (hflags : l.flags = flags0) (b : Addr) (xs : List Int32) : MetFree l x (headSpec (Jvm.Cond.code x code maxLocals ret :: tables_1) room_1) (lw_P b xs) (fun _ _ _ _ _ => True) lw_Q := by
  refine MetFree.of_bodyS (code := code) (maxLocals := maxLocals) (ret := ret) (by decide) ?_ ?_
  · intro args s m h hn
    obtain ⟨meth, c, h1, h2, h3, h4, h5, h6, -, -⟩ := Cond.code_spec hn (atoms_spec (ws := Jvm.Cond.code x code maxLocals ret :: tables_1) h _ List.mem_cons_self)
    exact ⟨meth, c, h1, h2, h3, h4, h5, h6⟩
  · intro p e s m args below meth c s₁ B hml0 hP _
    obtain ⟨rfl, hx, hbd, hgv⟩ := hP
    obtain ⟨scr, harrAt, hlist, hof, hsmall⟩ := hx
    obtain ⟨hcb, hkn, -, -⟩ := State.arrayAt?_spec harrAt
    have hown : s.vm.findClass R_law = some m.cls := findClass_of_methodNamed B.named
    have hts0 : ∀ c ∈ (Jvm.Cond.code x code maxLocals ret :: tables_1), c.before #[Value.ref b] s = true := atoms_spec (ws := Jvm.Cond.code x code maxLocals ret :: tables_1) B.pre
    have hts : ∀ w ∈ lw_tbl, w.before #[Value.ref b] s = true := k2_hts_sels lw_privs (fun w hw => hts0 w (List.mem_cons_of_mem _ hw)) lw_privs_ok
    have hml : c.maxLocals = 4 := B.maxLocals_eq (hts0 _ List.mem_cons_self)
    have X₀ : Stand p l e room_1 s m #[Value.ref b] below meth c s₁ [] 0 0 := Stand.of_body B
    have hh0 : s₁.heap = s.heap := by rw [B.state]; rfl
    have hsz : scr.slots.size = xs.length := by rw [← Array.length_toList, hlist, List.length_map]
    have hval : ∀ j : Nat, j < xs.length → scr.slots[j]? = some (.int (xs.getD j 0)) := fun j hj => by
      rw [← Array.getElem?_toList, hlist]
      simp [hj]
    have hbl : b < s.heap.size := (Array.getElem?_eq_some_iff.mp hcb).1
    have hX : va_X b xs.length (fun j => xs.getD j 0) s s.heap := ⟨scr, hcb, hof, hkn, hsz, hval⟩
    have K : W p l e room_1 s m #[Value.ref b] below meth c s₁.heap [] 0 0 (lw_Z below #[Value.ref b] s) (entryFrame m ([Value.ref b] : List Value).toArray 4) := by
      rw [hh0]
      exact whole_start l hflags hbd ⟨B.exec, B.bytes, B.returns, hml, hown, hts, hX, hbl, B.notSynchronized, hgv⟩
    obtain ⟨t, a1, o, b1, b2, b3⟩ := K s₁ rfl X₀
    exact ⟨t, o, a1, b1, b2, b3⟩
theorem lw_pre_spec {args : Array Value} {s : State} (h : (Jvm.Cond.and given_1 narrow_1).before args s = true) (hr : rest_1_c.before args s = true) : ∃ (b : Addr) (xs : List Int32), lw_P b xs args s := by
  have hs := flat_of_before _ h
  have hq := flat_of_before _ hr
  have hc : (Cond.count 1).before args s = true := hs _ (by decide +kernel)
  have harr : (Cond.arrayOf (.arg 0) .int).before args s = true := hs _ (by decide +kernel)
  have hle : (Cond.le (.length (.arg 0)) (.int 3072)).before args s = true := hs _ (by decide +kernel)
  have hlen : (Cond.isInt (.length (.arg 0))).before args s = true := hq _ (by decide +kernel)
  have hall : (Cond.all (.arg 0) (.isInt (.elem (.arg 0) (.index 0)))).before args s = true := hq _ (by decide +kernel)
  obtain ⟨b, xs, hb, hx⟩ := State.ints_of_pre rfl harr hlen hall
  have hsm : xs.length < 2 ^ 31 := hx.choose_spec.2.2.2
  have hev : (Term.length (.arg 0)).eval args s none [] s = some (.int xs.length.toInt32) := hx.length_eval hb
  have hv := Cond.le_ints hev (show (Term.int 3072).eval args s none [] s = some (.int 3072) from rfl)
  have hd : xs.length.toInt32 ≤ 3072 := by
    simpa [Cond.before, Cond.holds, hv] using hle
  have hN : xs.length ≤ 3072 := (Int32.ofNat_le_ofNat hsm (by decide)).mp (show Int32.ofNat xs.length ≤ Int32.ofNat 3072 from hd)
  exact ⟨b, xs, Cond.one_arg hc (show args[0]? = some (.ref b) from hb), hx, hN, h⟩
theorem lw_comes (l : Launch) (hflags : l.flags = flags0) : Comes l x (Jvm.Cond.code x code maxLocals ret :: tables_1) room_1 (fun tb e args s => Calls_1 tb e args s ∧ rest_1 tb e args s ∧ Pre_1 tb e args s)
    (fun _ _ args s o t => lw_Q args s o t) := by
  intro p e ha hc hk s m args below hf hfit hheap happ hpre
  obtain ⟨b, xs, hP⟩ := lw_pre_spec hpre.2.2 hpre.2.1
  obtain ⟨k, o, h1, h2, h3, hQ⟩ := lw_walk l hflags b xs p e ha hc hk s m args below hf ((Spec.applies_iff_loose hf).mp happ).1 hP trivial
  exact ⟨k, o, h1, h2, h3, hQ⟩
theorem lw_frame {s t : State} {o : Outcome} {args : Array Value} (h : Framed s o t [] 600000 7302250) :
    Framed s o t (fieldLocs frame_1_writes args s ++ arrayLocs frame_1_arrays args s ++ staticLocs frame_1_statics s) 600000 7302250 := h
theorem lw_limb (L : Cond) (hL : ∀ (args : Array Value) (s t : State), L.after args s (.returned (some (.int 1))) t = true) :
    ArmFor flags0 classFile x code maxLocals ret World_1 tables_1 room_1 Calls_1 rest_1 Pre_1
      (fun tb e a s o t => postC L tb e a s o t ∧ Framed s o t (fieldLocs frame_1_writes a s ++ arrayLocs frame_1_arrays a s ++ staticLocs frame_1_statics s) 600000 7302250) := by
  intro l hflags _ _ p e ha hc hk s m args below hf hfit hheap happ hpre
  obtain ⟨k, o, h1, h2, h3, rfl, hF⟩ := lw_comes l hflags p e ha hc hk s m args below hf hfit hheap happ hpre
  exact ⟨k, _, h1, h2, h3, hL args s _, lw_frame hF⟩
theorem i_vc : Claimed_1_1 ∧ Claimed_1_2 := ⟨lw_limb limb_1_1 (fun args s t => by simp [limb_1_1, Cond.after, Cond.holds, Cond.value]), lw_limb limb_1_2 (fun args s t => Cond.after_iff.mpr (by
  first | (rw [show limb_1_2 = Cond.eq .result (.int 1) from rfl, Cond.eq_ints (x := 1) (y := 1) rfl rfl]; simp; done) | (simp [limb_1_2, Cond.value, Term.eval]; done)))⟩
