/-! Calls -/
theorem popN_eq : ∀ (k : Nat) (acc st l r : List Value), popN k acc st = some (l, r) → l.reverse ++ r = acc.reverse ++ st ∧ l.length = k + acc.length
  | 0, acc, st, l, r, h => by cases h; exact ⟨rfl, (Nat.zero_add _).symm⟩
  | k + 1, acc, [], l, r, h => by cases h
  | k + 1, acc, v :: st, l, r, h => by
    obtain ⟨h1, h2⟩ := popN_eq k (v :: acc) st l r h
    refine ⟨by rw [h1]; simp, by rw [h2]; simp; omega⟩
theorem cat_le (v : Value) : v.category ≤ 2 := by cases v <;> simp [Value.category]
theorem cat_sum : ∀ (l : List Value), (l.map fun v => v.category).sum ≤ 2 * l.length
  | [] => Nat.le_refl _
  | v :: l => by
    have h1 := cat_le v
    have h2 := cat_sum l
    simp only [List.map_cons, List.sum_cons, List.length_cons]
    omega
theorem goodG {ws : List Cond} (h : ∀ w ∈ ws, w ∈ tblG) : GoodIn tblG ws := fun w hw => ⟨h w hw, good_of_word (List.all_eq_true.mp tblG_all w (h w hw))⟩
section SC
variable {p : Program} {l : Launch} {e : Env} {R : Room} {s : State} {m : MethodId} {args : Array Value} {below : List Frame} {meth : Method} {c : Code} {H : Heap} {locs : List Loc} {cells slots : Nat} {Q : State → Prop}
theorem va_callG {pc : Nat} {ls : Array Slot} {st0 rest : List Value} {mc ms : Nat} {Qa : State → Outcome → State → Prop} {free : Addr → Prop} (hr : va_Run p l e R s m args below meth c H locs cells slots mc ms (F0 m pc ls st0) rest Qa free)
    (kk : ∀ (v : Option Value) (st₀ t : State) (H1 : Heap) (L : List Loc), st₀.heap = H → t.heap = H1 → s.vm.Alike t.vm → (∀ q ∈ L, free q.base) → Qa st₀ (.returned v) t → W p l e R s m args below meth c H1 (locs ++ L) (cells + mc) (slots + ms) Q (F0 m (pc + 3) ls (v.toList ++ rest))) : W p l e R s m args below meth c H locs cells slots Q (F0 m pc ls st0) := by
  intro T hT X
  obtain ⟨v, st₀, t, T', L, h0, X', hL, e1, e2, hq, st⟩ := hr T hT X
  obtain ⟨t2, a1, b1⟩ := kk v st₀ t T'.heap L h0 e1.symm (by rw [← e2]; exact X'.warmed.alike) hL hq T' rfl X'
  exact ⟨t2, st t2 a1, b1⟩
end SC
section SCC
variable {G : GE} {y d pc len : Nat} {Q : TQ} {ls : List (Option Value)} {st : List Value} {c s n : Nat} {sh : TS} {I : TI} {L : TL} {P : TP}
theorem wp_after {p : Program} {e : Env} {S : State} {m : MethodId} {args : Array Value} {below : List Frame} {meth : Method} {cd : Code} {R : Room} {H : Heap} {locs : List Loc} {cells slots : Nat} {lsr : Array Slot} (X : Ctx G y d p S m args meth cd R) (hS : va_S (AA G) S.heap H locs) (hl : LR G lsr ls) (hn : ls.length = mML y) (hc : cells + c ≤ mMc y) (hs : slots + s ≤ mMs y)
    {a : Nat} (h1 : mMc a ≤ c) (h2 : mMs a ≤ s) {r st0 : List Value} {As : Array Value} {Q0 : TQ} (hr : va_Run p (Gl G) e R S m args below meth cd H locs cells slots (mMc a) (mMs a) (F0 m pc lsr st0) (r.map (tr G)) (QC G Q0 As) (AA G))
    (hQ : ∀ v n' sh' I' L' P', Q0 v n' sh' I' L' P' → WP G y d Q (pc + 3) ls (rpush v r) (c - mMc a) (s - mMs a) n' sh' I' L' P') :
    W p (Gl G) e R S m args below meth cd H locs cells slots (MQ below (QC G Q) args S (mMc y) (mMs y) (AA G)) (F0 m pc lsr st0) := by
  refine va_callG hr fun v st₀ t H1 L h0 ht hvm hL hq => ?_
  obtain ⟨⟨v', n', sh', I', L', P', hv, hq, hM'⟩, hz, hk⟩ := hq
  cases hv
  rw [h0] at hz hk
  rw [ht] at hz hk hM'
  have h := hQ v' n' sh' I' L' P' hq p e S m args below meth cd R H1 (locs ++ L) (cells + mMc a) (slots + mMs a) lsr X (hM'.moved hvm.symm)
    ⟨Nat.le_trans hS.1 hz, fun q g1 g2 => by rw [hk q (Nat.lt_of_lt_of_le g1 hS.1) g2]; exact hS.2.1 q g1 g2, fun q hq => by
      rcases List.mem_append.mp hq with h | h
      · exact hS.2.2 q h
      · exact hL q h⟩ hl hn (by omega) (by omega)
  cases v' with
  | none => exact h
  | some v => exact h
/-- what a callee may take as given -/
theorem call_pre {S : State} {H : Heap} {locs : List Loc} (hK : WK G S) (hM : Mat G S H n sh I L P) (hS : va_S (AA G) S.heap H locs) {U : State} (hU : U.heap = H) (hW : S.WarmedH U.vm) : WK G U ∧ Mat G U U.heap n sh I L P ∧ GS G ≤ U.heap.size := by
  refine ⟨hK.warm hW (by rw [hU]; exact hK.2.2.2.2.kept hS.2.1), by rw [hU]; exact hM.moved hW.alike, ?_⟩
  rw [hU]
  obtain ⟨h1, h2, -⟩ := hM
  omega
theorem call_blind {as : List Value} : FrameBlind (va_Pc (as.map (tr G)) (fun U => WK G U ∧ Mat G U U.heap n sh I L P ∧ GS G ≤ U.heap.size)) := by
  intro a U g mk h
  obtain ⟨h1, h2, h3, h4⟩ := h
  exact ⟨h1, h2.same (U := U.calling g mk a) rfl rfl, h3.moved (u := U) (U := U.calling g mk a) (Vm.Alike.refl U.vm), h4⟩
theorem recv {S : State} {H : Heap} {locs : List Loc} (hK : WK G S) (hM : Mat G S H n sh I L P) (hS : va_S (AA G) S.heap H locs) {q ci : Nat} (h : (sh q).1 = ci) (hci : ci < 12) : (∃ cellB : Cell, H[adr G q]? = some cellB ∧ cellB.vm.isStatics = false ∧ S.vm.findClass (cNm ci) = some cellB.cls) ∧ 2 ≤ q := by
  rcases Nat.lt_or_ge ci 11 with h1 | h1
  · obtain ⟨⟨cell, q1, q2, q3, -⟩, hq, -⟩ := hM.obj h h1
    exact ⟨⟨cell, q1, by rw [q3]; rfl, by rw [q2]; exact (hK.1.1 ci _ (kCl_at h1)).2.1⟩, by omega⟩
  · have : ci = 11 := by omega
    subst this
    obtain ⟨i, hi, rfl⟩ := hM.str h
    obtain ⟨cell, g1, g2, g3⟩ := vk_recv hK.2.2.2.2.2.2.2.1 hi hS
    refine ⟨⟨cell, ?_, g2, g3⟩, by omega⟩
    rw [show adr G (4 + i) = GA G (4 + i) from if_pos (by omega)]
    exact g1
theorem Mat.tag {S : State} {H : Heap} (hM : Mat G S H n sh I L P) (q : Nat) : (sh q).1 < 12 ∨ 100 ≤ (sh q).1 := by
  obtain ⟨-, -, ⟨a0, a1, a2, a3, a4, a5, a6, -⟩, hz, hC⟩ := hM
  rcases Nat.lt_or_ge q 20 with y1 | y1
  · rcases (show q = 0 ∨ q = 1 ∨ q = 2 ∨ q = 3 ∨ (4 ≤ q ∧ q < 9) ∨ (9 ≤ q ∧ q < 14) ∨ 14 ≤ q by omega) with rfl | rfl | rfl | rfl | h | h | h
    · rw [a0]; decide
    · rw [a1]; decide
    · rw [a2]; decide
    · rw [a3]; exact Or.inr (Nat.le_refl 100)
    · have e := a4 (q - 4) (by omega)
      rw [show 4 + (q - 4) = q by omega] at e
      rw [e]; decide
    · have e := a5 (q - 9) (by omega)
      rw [show 9 + (q - 9) = q by omega] at e
      rw [e]; exact Or.inr (show 100 ≤ 103 by decide)
    · rw [a6 q h y1]; decide
  · rcases Nat.lt_or_ge q n with y2 | y2
    · rcases hC q y1 y2 with ⟨z1, -⟩ | ⟨z1, -⟩ <;> omega
    · rw [hz q y2]; decide
theorem gkM_ci : ∀ m ∈ gkMs, m.2.2.2.2.2.2.1 < 17 := by decide +kernel
theorem mCi_lt {a : Nat} (h : a < lawY) : mCi a < 17 := by
  unfold mCi gkM
  rw [List.getD_eq_getElem?_getD, List.getElem?_eq_getElem (by rw [gkMs_len]; exact h)]
  exact gkM_ci _ (List.getElem_mem _)
theorem wsG {y : Nat} (h : y < lawY) : ∀ w ∈ wsOf y, w ∈ tblG := by
  intro w hw
  rcases List.mem_cons.mp hw with rfl | hw
  · exact (mOk h).1
  · exact hw
theorem room_ok {R : Room} (h0 : 0 < d) (hf : d ≤ R.frames) (hlo : 40 * d ≤ R.locals) {a : Nat} (ha : a < lawY) : (rmOf (d - 1) a).frames + 1 ≤ R.frames ∧ 8 + (mML a + 11) + (rmOf (d - 1) a).locals ≤ R.locals := by
  have h16 : mML a ≤ 16 := (mOk ha).2.2.2.2.2.2.1
  have e1 : (rmOf (d - 1) a).frames = d - 1 := rfl
  have e2 : (rmOf (d - 1) a).locals = 40 * (d - 1) := rfl
  rw [e1, e2]
  omega
theorem lkM_ok {own idx t : Nat} (h : lk3 gkLM own idx = some t) : Cond.methodLink (cNm own) idx (gkMN t) ∈ tblG := (gkLM_ok _ (lk3_ok h)).1
theorem gkMN_lt {t : Nat} (h : t < lawY) : gkMN t = mNm t := by
  have h : t < 213 := h
  unfold gkMN
  rw [if_neg (by omega), if_neg (by omega), if_neg (by omega), if_neg (by omega)]
theorem sd_invokevirtual {idx : Nat} (hd : decode (mBy y) pc = .ok (.invokevirtual idx, len)) (h : LI G y d Q pc (.invokevirtual idx) len ls st c s n sh I L P) : WP G y d Q pc ls st c s n sh I L P := by
  obtain ⟨rfl, h⟩ := lift_if h
  split at h
  · rename_i a hk
    obtain ⟨⟨ha, hki⟩, h⟩ := lift_if h
    have h : (match (generalizing := false) popN (mAr a) [] st with | some (.ref q :: as, r) => 0 < d ∧ r.length ≤ 4 ∧ (sh q).1 = mCi a ∧ mMc a ≤ c ∧ mMs a ≤ s ∧ Cl G (d - 1) a (.ref q :: as) n sh I L P (fun v n' sh' I' L' P' => WP G y d Q (pc + 3) ls (rpush v r) (c - mMc a) (s - mMs a) n' sh' I' L' P') | _ => False) := h
    split at h
    · rename_i q as r hp
      obtain ⟨hp1, hp2⟩ := popN_eq _ _ _ _ _ hp
      obtain ⟨h0, hr4, hq, hmc, hms, Q0, hQ0, hMet⟩ := h
      intro p e S m args below meth cd R H locs cells slots lsr X hM hS hl hn hc hs
      obtain ⟨o1, o2, o3, o4, o5, o6, o7, o8, o9, -, -⟩ := mOk ha
      have o9 := o9 hki
      have o3 : (mNm a).cls = cNm (mCi a) := o3
      have o6 : (parseMethodDescriptor (mNm a).desc).map (fun d => d.parameters.length) = some (mAr a - (if mKi a = 1 then 0 else 1)) := o6
      rw [hki, if_neg (by decide)] at o6
      have hci : mCi a < 12 := by
        rcases Nat.lt_or_ge (mCi a) 12 with z | z
        · exact z
        · exfalso
          have hcl := mCi_lt ha
          have ht := hM.tag q
          rw [hq] at ht
          omega
      obtain ⟨hrecv, hq2⟩ := recv X.wk hM hS hq hci
      have hst : st.map (tr G) = (as.map (tr G)).reverse ++ .ref (adr G q) :: r.map (tr G) := by
        have hp1 : (Value.ref q :: as).reverse ++ r = st := hp1
        rw [← hp1, ← tr_ref hq2]
        simp
      rw [hst]
      have hlen : as.length = mAr a - 1 := by
        have : as.length + 1 = mAr a := by simpa using hp2
        omega
      have hG : GoodIn tblG (wsV (cNm (mCi y)) idx (cNm (mCi a)) (mNm a) (wsOf a)) := goodG (by
        intro w hw
        rcases List.mem_append.mp hw with hw | hw
        · rcases List.mem_cons.mp hw with rfl | hw
          · rw [← gkMN_lt ha]; exact lkM_ok hk
          · rcases List.mem_cons.mp hw with rfl | hw
            · exact o9.1
            · rcases List.mem_cons.mp hw with rfl | hw
              · rw [← o3]; exact o9.2
              · rcases List.mem_cons.mp hw with rfl | hw
                · rw [← o3]; exact o2
                · cases hw
        · exact wsG ha w hw)
      refine wp_after X hS hl hn hc hs hmc hms (va_runV (As := as.map (tr G)) (rest := r.map (tr G)) (b := adr G q) ⟨X.1, X.2.1, X.ml, X.own, X.word⟩ hMet (cwV (mAr a - 1) X.word hG rfl rfl rfl ⟨o3, o5.1, o5.2, o6⟩ (room_ok h0 X.fr X.lo ha)) ⟨call_blind, hrecv, fun U hU hW => ⟨by rw [← tr_ref hq2]; rfl, call_pre X.wk hM hS hU hW⟩⟩ rfl (by rw [List.length_map]; exact hlen) (by show lsr.size = _; rw [hl.1]; exact hn) rfl (Nat.le_trans (Nat.add_le_add_left (cat_sum _) _) (by rw [List.length_map]; show 2 * 0 + _ ≤ 8; omega)) hd ⟨by rw [X.cells]; omega, by rw [X.slots]; omega⟩) (fun v n' sh' I' L' P' hq => hQ0 _ _ _ _ _ _ hq)
    · exact h.elim
  · exact h.elim
theorem wp_static {idx a : Nat} {as r : List Value} (hd : decode (mBy y) pc = .ok (.invokestatic idx, 3)) (ha : a < lawY) (hki : mKi a = 1) (hlink : lk3 gkLM (mCi y) idx = some a ∨ lk3 gkLN (mCi y) idx = some a) (hp : popN (mAr a) [] st = some (as, r))
    (h : 0 < d ∧ r.length ≤ 4 ∧ mMc a ≤ c ∧ mMs a ≤ s ∧ Cl G (d - 1) a as n sh I L P (fun v n' sh' I' L' P' => WP G y d Q (pc + 3) ls (rpush v r) (c - mMc a) (s - mMs a) n' sh' I' L' P')) : WP G y d Q pc ls st c s n sh I L P := by
  obtain ⟨hp1, hp2⟩ := popN_eq _ _ _ _ _ hp
  obtain ⟨h0, hr4, hmc, hms, Q0, hQ0, hMet⟩ := h
  intro p e S m args below meth cd R H locs cells slots lsr X hM hS hl hn hc hs
  obtain ⟨o1, o2, o3, o4, o5, o6, o7, o8, -, o9, -⟩ := mOk ha
  have o9 := o9 hki
  have o6 : (parseMethodDescriptor (mNm a).desc).map (fun d => d.parameters.length) = some (mAr a - (if mKi a = 1 then 0 else 1)) := o6
  rw [hki, if_pos rfl] at o6
  have hst : st.map (tr G) = (as.map (tr G)).reverse ++ r.map (tr G) := by
    have hp1 : as.reverse ++ r = st := hp1
    rw [← hp1]
    simp
  rw [hst]
  have hlen : as.length = mAr a := by simpa using hp2
  have hpre : PreS S H (va_Pc (as.map (tr G)) (fun U => WK G U ∧ Mat G U U.heap n sh I L P ∧ GS G ≤ U.heap.size)) (as.map (tr G)) := ⟨call_blind, fun U hU hW => ⟨rfl, call_pre X.wk hM hS hU hW⟩⟩
  have hW8 : 2 * (F0 m pc lsr ((as.map (tr G)).reverse ++ r.map (tr G))).monitorRoom + ((r.map (tr G)).map fun v => v.category).sum ≤ 8 := Nat.le_trans (Nat.add_le_add_left (cat_sum _) _) (by rw [List.length_map]; show 2 * 0 + _ ≤ 8; omega)
  have hsz : (F0 m pc lsr ((as.map (tr G)).reverse ++ r.map (tr G))).locals.size = mML y := by show lsr.size = _; rw [hl.1]; exact hn
  rcases hlink with hk | hk
  · have hG : GoodIn tblG (va_wsS (cNm (mCi y)) idx (mNm a) (wsOf a)) := goodG (by
      intro w hw
      rcases List.mem_append.mp hw with hw | hw
      · rcases List.mem_cons.mp hw with rfl | hw
        · rw [← gkMN_lt ha]; exact lkM_ok hk
        · rcases List.mem_cons.mp hw with rfl | hw
          · exact o9
          · rcases List.mem_cons.mp hw with rfl | hw
            · exact o2
            · cases hw
      · exact wsG ha w hw)
    exact wp_after X hS hl hn hc hs hmc hms (va_runS (As := as.map (tr G)) (rest := r.map (tr G)) ⟨X.1, X.2.1, X.ml, X.own, X.word⟩ hMet (va_cwS (mAr a) X.word hG rfl rfl rfl ⟨o5.1, o5.2, o6⟩ (room_ok h0 X.fr X.lo ha)) hpre rfl (by rw [List.length_map]; exact hlen) hsz rfl hW8 hd ⟨by rw [X.cells]; omega, by rw [X.slots]; omega⟩) (fun v n' sh' I' L' P' hq => hQ0 _ _ _ _ _ _ hq)
  · have hz : va_Nw (.methodLinkNest (cNm (mCi y)) idx (mNm a) "GeeseKeys") S := X.wk.2.1 (mCi y, idx, a) (lk3_ok hk)
    exact wp_after X hS hl hn hc hs hmc hms (va_runSN (As := as.map (tr G)) (rest := r.map (tr G)) (host := "GeeseKeys") ⟨X.1, X.2.1, X.ml, X.own, X.word⟩ hMet ⟨va_cnB (mAr a) X.word (goodG (wsG ha)) rfl rfl rfl hz (X.word _ o2) ⟨o5.1, o5.2, o6⟩ (room_ok h0 X.fr X.lo ha), X.word _ o9, trivial⟩ hpre rfl (by rw [List.length_map]; exact hlen) hsz rfl hW8 hd ⟨by rw [X.cells]; omega, by rw [X.slots]; omega⟩) (fun v n' sh' I' L' P' hq => hQ0 _ _ _ _ _ _ hq)
theorem cpy2_va {α : Type} {f : Nat → Nat → α} {sq sp dq dp k : Nat} : cpy2 f sq sp dq dp k dq = va_cpy (f sq) (f dq) sp dp k := by
  funext j
  simp [cpy2, va_cpy]
theorem nfw : nativeFrameWords "java/lang/System" "arraycopy" 5 ≤ 16 := by decide +kernel
theorem cpy_i {S : State} {H : Heap} {a b : Nat} {sp dp z : Nat} {H1 : Heap} (hM : Mat G S H n sh I L P) (hb : 20 ≤ b) (hz : H1.size = H.size) (ho : ∀ q : Nat, q ≠ adr G b → H1[q]? = H[q]?) {cA : ClassId} {g : Nat → Value} (e1 : H1[adr G b]? = some (arrV cA (sh b).2 g)) (h1 : 100 ≤ (sh b).1) (h2 : (sh b).1 ≤ 105) (hA : ARO S cA (sh b).1)
    (hg : ∀ j, j < (sh b).2 → g j = tr G (ev (sh b).1 (cpy2 I a sp b dp z b j) (cpy2 L a sp b dp z b j) (P b j))) : Mat G S H1 n sh (cpy2 I a sp b dp z) (cpy2 L a sp b dp z) P := by
  refine hM.put hb hz ho (fun x k hx => if_neg (fun q => hx q.1)) (fun x k hx => if_neg (fun q => hx q.1)) (fun _ _ _ => rfl) (Or.inr ⟨h1, h2, cA, ?_, hA⟩)
  rw [e1]
  exact congrArg some (arrV_congr hg)
theorem wp_intcopy {p : Program} {e : Env} {S : State} {m : MethodId} {args : Array Value} {below : List Frame} {meth : Method} {cd : Code} {R : Room} {H : Heap} {locs : List Loc} {cells slots : Nat} {lsr : Array Slot} {Qs : State → Prop} (X : Ctx G y d p S m args meth cd R) (hl : LR G lsr ls) (hn : ls.length = mML y)
    {idx : Nat} {z dp sp : Int32} {dq sq n0 n1 : Nat} {rest : List Value} {c0 c1 : ClassId} {f g : Nat → Int32} (hdq : 20 ≤ dq) (hsq : 20 ≤ sq) (a1 : H[adr G sq]? = some (arrV c0 n0 (fun j => .int (f j)))) (b1 : H[adr G dq]? = some (arrV c1 n1 (fun j => .int (g j)))) (hK : va_K (GD G) kCl [(c0, .int), (c1, .int)] S) (hS : va_S (AA G) S.heap H locs)
    (hlk : Cond.methodLink (cNm (mCi y)) idx arraycopyName ∈ tblG) (h0 : 0 < d) (h1 : ¬ sp < 0) (h2 : ¬ dp < 0) (h3 : ¬ z < 0) (h4 : sp.toNatClampNeg + z.toNatClampNeg ≤ n0) (h5 : dp.toNatClampNeg + z.toNatClampNeg ≤ n1)
    (hroom : (rest.map fun v => v.category).sum + (nativeFrameWords "java/lang/System" "arraycopy" 5 + 11) ≤ R.locals) (hd : decode (mBy y) pc = .ok (.invokestatic idx, 3))
    (fin : ∀ (H1 : Heap) (locs1 : List Loc), H1[adr G dq]? = some (arrV c1 n1 (fun j => .int (va_cpy f g sp.toNatClampNeg dp.toNatClampNeg z.toNatClampNeg j))) → H1.size = H.size → (∀ q : Nat, q ≠ adr G dq → H1[q]? = H[q]?) → va_S (AA G) S.heap H1 locs1 → W p (Gl G) e R S m args below meth cd H1 locs1 cells slots Qs (F0 m (pc + 3) lsr rest)) :
    W p (Gl G) e R S m args below meth cd H locs cells slots Qs (F0 m pc lsr (.int z :: .int dp :: .ref (adr G dq) :: .int sp :: .ref (adr G sq) :: rest)) := by
  have hml : cd.maxLocals = lsr.size := by rw [X.ml, hl.1]; exact hn.symm
  have nn : ∀ z : Int32, ¬ z < 0 → z.toInt = (z.toNatClampNeg : Int) := by
    intro z hz
    have hz0 : (0 : Int) ≤ z.toInt := by
      have := Int32.not_lt.mp hz
      simpa using Int32.le_iff_toInt_le.mp this
    show z.toInt = ((z.toInt.toNat : Nat) : Int)
    omega
  intro T hT Y
  obtain ⟨⟨-, k0, hk0, cm0, hkk0⟩⟩ : S.isArrayOf (arrV c0 n0 (fun j => .int (f j))) .int ∧ True := ⟨(hK.2 0 _ rfl).1 n0 (fun j => .int (f j)), trivial⟩
  obtain ⟨⟨-, k1, hk1, cm1, hkk1⟩⟩ : S.isArrayOf (arrV c1 n1 (fun j => .int (g j))) .int ∧ True := ⟨(hK.2 1 _ rfl).1 n1 (fun j => .int (g j)), trivial⟩
  obtain ⟨vm', X', step⟩ := Y.arraycopy X.1 X.own (X.word _ hlk) (X.word _ gw_native) (X.word _ gw_acst) (X.word _ gw_sys) (src := adr G sq) (dst := adr G dq) (cs := arrV c0 n0 (fun j => .int (f j))) (cd := arrV c1 n1 (fun j => .int (g j))) (srcPos := sp) (destPos := dp) (n := z) (by rw [hT]; exact a1) (by rw [hT]; exact b1)
    (fun _ h => by cases h) (fun _ h => by cases h) (fun h => by cases h) (fun h => by cases h) hk0 hk1 hkk0 hkk1 rfl h1 h2 h3
    (by rw [nn sp h1, nn z h3, arrV_size]; omega)
    (by rw [nn dp h2, nn z h3, arrV_size]; omega)
    (fun vm₁ _ i hi => by
      have e : (arrV c0 n0 (fun j => Value.int (f j))).slots.getD (sp.toNatClampNeg + i) .null = .int (f (sp.toNatClampNeg + i)) := by
        rw [Array.getD_eq_getD_getElem?, arrV_read _ _ (by omega)]
        rfl
      rw [e]
      exact ⟨rfl, trivial⟩)
    (g := F0 m pc lsr (.int z :: .int dp :: .ref (adr G dq) :: .int sp :: .ref (adr G sq) :: rest)) rfl (by rw [hml]) (rest := rest) rfl (by rw [X.2.1]; exact hd) (Nat.le_trans h0 X.fr) (by show 2 * 0 + _ + _ ≤ _; omega)
  have e1 : copied (arrV c0 n0 (fun j => Value.int (f j))) (arrV c1 n1 (fun j => Value.int (g j))) sp dp z = arrV c1 n1 (fun j => .int (va_cpy f g sp.toNatClampNeg dp.toNatClampNeg z.toNatClampNeg j)) := va_copied (fun z => Value.int z) c0 c1 f g h4
  rw [e1] at X' step
  have hl : adr G dq < H.size := (Array.getElem?_eq_some_iff.mp b1).1
  generalize hC : arrV c1 n1 (fun j => Value.int (va_cpy f g sp.toNatClampNeg dp.toNatClampNeg z.toNatClampNeg j)) = C9 at X' step fin
  have hheap : ((T.setVm vm').setCell (adr G dq) C9).heap = H.setIfInBounds (adr G dq) C9 := by rw [← hT]; rfl
  have oq : ∀ q : Nat, q ≠ adr G dq → (H.setIfInBounds (adr G dq) C9)[q]? = H[q]? := fun q hq => by simp [Array.getElem?_setIfInBounds, Ne.symm hq]
  obtain ⟨t, r1, r2⟩ := fin _ _ (by simp [Array.getElem?_setIfInBounds, hl]) (by simp) oq ⟨by simp; exact hS.1, fun q g1 g2 => by
      rw [oq q (fun e => g2 (by rw [e]; exact AA_adr hdq))]
      exact hS.2.1 q g1 g2, fun q hq => by
      rcases List.mem_append.mp hq with h | h
      · exact hS.2.2 q h
      · obtain ⟨w, -, hw⟩ := List.mem_map.mp h
        rw [← hw]
        exact AA_adr hdq⟩ _ hheap X'
  exact ⟨t, step t r1, r2⟩
theorem wp_longcopy {p : Program} {e : Env} {S : State} {m : MethodId} {args : Array Value} {below : List Frame} {meth : Method} {cd : Code} {R : Room} {H : Heap} {locs : List Loc} {cells slots : Nat} {lsr : Array Slot} {Qs : State → Prop} (X : Ctx G y d p S m args meth cd R) (hl : LR G lsr ls) (hn : ls.length = mML y)
    {idx : Nat} {z dp sp : Int32} {dq sq n0 n1 : Nat} {rest : List Value} {c0 c1 : ClassId} {f g : Nat → Int64} (hdq : 20 ≤ dq) (hsq : 20 ≤ sq) (a1 : H[adr G sq]? = some (arrV c0 n0 (fun j => .long (f j)))) (b1 : H[adr G dq]? = some (arrV c1 n1 (fun j => .long (g j)))) (hK : va_K (GD G) kCl [(c0, .long), (c1, .long)] S) (hS : va_S (AA G) S.heap H locs)
    (hlk : Cond.methodLink (cNm (mCi y)) idx arraycopyName ∈ tblG) (h0 : 0 < d) (h1 : ¬ sp < 0) (h2 : ¬ dp < 0) (h3 : ¬ z < 0) (h4 : sp.toNatClampNeg + z.toNatClampNeg ≤ n0) (h5 : dp.toNatClampNeg + z.toNatClampNeg ≤ n1)
    (hroom : (rest.map fun v => v.category).sum + (nativeFrameWords "java/lang/System" "arraycopy" 5 + 11) ≤ R.locals) (hd : decode (mBy y) pc = .ok (.invokestatic idx, 3))
    (fin : ∀ (H1 : Heap) (locs1 : List Loc), H1[adr G dq]? = some (arrV c1 n1 (fun j => .long (va_cpy f g sp.toNatClampNeg dp.toNatClampNeg z.toNatClampNeg j))) → H1.size = H.size → (∀ q : Nat, q ≠ adr G dq → H1[q]? = H[q]?) → va_S (AA G) S.heap H1 locs1 → W p (Gl G) e R S m args below meth cd H1 locs1 cells slots Qs (F0 m (pc + 3) lsr rest)) :
    W p (Gl G) e R S m args below meth cd H locs cells slots Qs (F0 m pc lsr (.int z :: .int dp :: .ref (adr G dq) :: .int sp :: .ref (adr G sq) :: rest)) := by
  have hml : cd.maxLocals = lsr.size := by rw [X.ml, hl.1]; exact hn.symm
  have nn : ∀ z : Int32, ¬ z < 0 → z.toInt = (z.toNatClampNeg : Int) := by
    intro z hz
    have hz0 : (0 : Int) ≤ z.toInt := by
      have := Int32.not_lt.mp hz
      simpa using Int32.le_iff_toInt_le.mp this
    show z.toInt = ((z.toInt.toNat : Nat) : Int)
    omega
  intro T hT Y
  obtain ⟨⟨-, k0, hk0, cm0, hkk0⟩⟩ : S.isArrayOf (arrV c0 n0 (fun j => .long (f j))) .long ∧ True := ⟨(hK.2 0 _ rfl).1 n0 (fun j => .long (f j)), trivial⟩
  obtain ⟨⟨-, k1, hk1, cm1, hkk1⟩⟩ : S.isArrayOf (arrV c1 n1 (fun j => .long (g j))) .long ∧ True := ⟨(hK.2 1 _ rfl).1 n1 (fun j => .long (g j)), trivial⟩
  obtain ⟨vm', X', step⟩ := Y.arraycopy X.1 X.own (X.word _ hlk) (X.word _ gw_native) (X.word _ gw_acst) (X.word _ gw_sys) (src := adr G sq) (dst := adr G dq) (cs := arrV c0 n0 (fun j => .long (f j))) (cd := arrV c1 n1 (fun j => .long (g j))) (srcPos := sp) (destPos := dp) (n := z) (by rw [hT]; exact a1) (by rw [hT]; exact b1)
    (fun _ h => by cases h) (fun _ h => by cases h) (fun h => by cases h) (fun h => by cases h) hk0 hk1 hkk0 hkk1 rfl h1 h2 h3
    (by rw [nn sp h1, nn z h3, arrV_size]; omega)
    (by rw [nn dp h2, nn z h3, arrV_size]; omega)
    (fun vm₁ _ i hi => by
      have e : (arrV c0 n0 (fun j => Value.long (f j))).slots.getD (sp.toNatClampNeg + i) .null = .long (f (sp.toNatClampNeg + i)) := by
        rw [Array.getD_eq_getD_getElem?, arrV_read _ _ (by omega)]
        rfl
      rw [e]
      exact ⟨rfl, trivial⟩)
    (g := F0 m pc lsr (.int z :: .int dp :: .ref (adr G dq) :: .int sp :: .ref (adr G sq) :: rest)) rfl (by rw [hml]) (rest := rest) rfl (by rw [X.2.1]; exact hd) (Nat.le_trans h0 X.fr) (by show 2 * 0 + _ + _ ≤ _; omega)
  have e1 : copied (arrV c0 n0 (fun j => Value.long (f j))) (arrV c1 n1 (fun j => Value.long (g j))) sp dp z = arrV c1 n1 (fun j => .long (va_cpy f g sp.toNatClampNeg dp.toNatClampNeg z.toNatClampNeg j)) := va_copied (fun z => Value.long z) c0 c1 f g h4
  rw [e1] at X' step
  have hl : adr G dq < H.size := (Array.getElem?_eq_some_iff.mp b1).1
  generalize hC : arrV c1 n1 (fun j => Value.long (va_cpy f g sp.toNatClampNeg dp.toNatClampNeg z.toNatClampNeg j)) = C9 at X' step fin
  have hheap : ((T.setVm vm').setCell (adr G dq) C9).heap = H.setIfInBounds (adr G dq) C9 := by rw [← hT]; rfl
  have oq : ∀ q : Nat, q ≠ adr G dq → (H.setIfInBounds (adr G dq) C9)[q]? = H[q]? := fun q hq => by simp [Array.getElem?_setIfInBounds, Ne.symm hq]
  obtain ⟨t, r1, r2⟩ := fin _ _ (by simp [Array.getElem?_setIfInBounds, hl]) (by simp) oq ⟨by simp; exact hS.1, fun q g1 g2 => by
      rw [oq q (fun e => g2 (by rw [e]; exact AA_adr hdq))]
      exact hS.2.1 q g1 g2, fun q hq => by
      rcases List.mem_append.mp hq with h | h
      · exact hS.2.2 q h
      · obtain ⟨w, -, hw⟩ := List.mem_map.mp h
        rw [← hw]
        exact AA_adr hdq⟩ _ hheap X'
  exact ⟨t, step t r1, r2⟩
theorem wp_copy {idx : Nat} {z dp sp : Int32} {dq sq : Nat} {r : List Value} (hd : decode (mBy y) pc = .ok (.invokestatic idx, 3)) (hk : lk3 gkLM (mCi y) idx = some 1001)
    (h : 0 < d ∧ r.length ≤ 4 ∧ nle 20 dq ∧ nle 20 sq ∧ ¬ sp < 0 ∧ ¬ dp < 0 ∧ ¬ z < 0 ∧ sp.toNatClampNeg + z.toNatClampNeg ≤ (sh sq).2 ∧ dp.toNatClampNeg + z.toNatClampNeg ≤ (sh dq).2 ∧
      (((sh sq).1 = 100 ∧ (sh dq).1 = 100) ∨ ((sh sq).1 = 101 ∧ (sh dq).1 = 101)) ∧
      WP G y d Q (pc + 3) ls r c s n sh (cpy2 I sq sp.toNatClampNeg dq dp.toNatClampNeg z.toNatClampNeg) (cpy2 L sq sp.toNatClampNeg dq dp.toNatClampNeg z.toNatClampNeg) P) :
    WP G y d Q pc ls (.int z :: .int dp :: .ref dq :: .int sp :: .ref sq :: r) c s n sh I L P := by
  obtain ⟨h0, hr4, hdq, hsq, h1, h2, h3, h4, h5, hty, h⟩ := h
  unfold nle at hdq hsq
  intro p e S m args below meth cd R H locs cells slots lsr X hM hS hl hn hc hs
  show W p (Gl G) e R S m args below meth cd H locs cells slots _ (F0 m pc lsr (.int z :: .int dp :: tr G (.ref dq) :: .int sp :: tr G (.ref sq) :: r.map (tr G)))
  rw [tr_ref (Nat.le_trans (by decide) hdq : 2 ≤ dq), tr_ref (Nat.le_trans (by decide) hsq : 2 ≤ sq)]
  have hroom : ((r.map (tr G)).map fun v => v.category).sum + (nativeFrameWords "java/lang/System" "arraycopy" 5 + 11) ≤ R.locals := by
    have := nfw
    have := X.lo
    have := cat_sum (r.map (tr G))
    rw [List.length_map] at this
    omega
  rcases hty with hty | hty
  · obtain ⟨t1, t2⟩ := hty
    obtain ⟨⟨c0, a1, a2⟩, hsn⟩ := hM.arrD (a := sq) hsq (by rw [t1]; decide) (by rw [t1]; decide)
    obtain ⟨⟨c1, b1, b2⟩, hdn⟩ := hM.arrD (a := dq) hdq (by rw [t2]; decide) (by rw [t2]; decide)
    have e0 : (fun j => tr G (ev (sh sq).1 (I sq j) (L sq j) (P sq j))) = fun j => Value.int (I sq j) := by rw [t1]; rfl
    have e1 : (fun j => tr G (ev (sh dq).1 (I dq j) (L dq j) (P dq j))) = fun j => Value.int (I dq j) := by rw [t2]; rfl
    rw [e0] at a1
    rw [e1] at b1
    have hA0 := a2
    have hA1 := b2
    rw [t1] at hA0
    rw [t2] at hA1
    have hKt : va_K (GD G) kCl [(c0, .int), (c1, .int)] S := ⟨X.wk.1.1, fun k x hx => by
      match k, hx with
      | 0, hx => cases hx; exact hA0
      | 1, hx => cases hx; exact hA1
      | k + 2, hx => simp at hx⟩
    have fin : ∀ (H1 : Heap) (locs1 : List Loc), H1[adr G dq]? = some (arrV c1 (sh dq).2 (fun j => .int (va_cpy (I sq) (I dq) sp.toNatClampNeg dp.toNatClampNeg z.toNatClampNeg j))) → H1.size = H.size → (∀ q : Nat, q ≠ adr G dq → H1[q]? = H[q]?) → va_S (AA G) S.heap H1 locs1 →
        W p (Gl G) e R S m args below meth cd H1 locs1 cells slots (MQ below (QC G Q) args S (mMc y) (mMs y) (AA G)) (F0 m (pc + 3) lsr (r.map (tr G))) := by
      intro H1 locs1 f1 f2 f3 f4
      refine h p e S m args below meth cd R H1 locs1 cells slots lsr X (cpy_i hM hdq f2 f3 f1 (by rw [t2]; decide) (by rw [t2]; decide) b2 (fun j hj => ?_)) f4 hl hn hc hs
      rw [t2]
      show _ = Value.int (cpy2 I sq sp.toNatClampNeg dq dp.toNatClampNeg z.toNatClampNeg dq j)
      rw [cpy2_va]
    exact wp_intcopy X hl hn hdq hsq a1 b1 hKt hS (lkM_ok hk) h0 h1 h2 h3 h4 h5 hroom hd fin
  · obtain ⟨t1, t2⟩ := hty
    obtain ⟨⟨c0, a1, a2⟩, hsn⟩ := hM.arrD (a := sq) hsq (by rw [t1]; decide) (by rw [t1]; decide)
    obtain ⟨⟨c1, b1, b2⟩, hdn⟩ := hM.arrD (a := dq) hdq (by rw [t2]; decide) (by rw [t2]; decide)
    have e0 : (fun j => tr G (ev (sh sq).1 (I sq j) (L sq j) (P sq j))) = fun j => Value.long (L sq j) := by rw [t1]; rfl
    have e1 : (fun j => tr G (ev (sh dq).1 (I dq j) (L dq j) (P dq j))) = fun j => Value.long (L dq j) := by rw [t2]; rfl
    rw [e0] at a1
    rw [e1] at b1
    have hA0 := a2
    have hA1 := b2
    rw [t1] at hA0
    rw [t2] at hA1
    have hKt : va_K (GD G) kCl [(c0, .long), (c1, .long)] S := ⟨X.wk.1.1, fun k x hx => by
      match k, hx with
      | 0, hx => cases hx; exact hA0
      | 1, hx => cases hx; exact hA1
      | k + 2, hx => simp at hx⟩
    have fin : ∀ (H1 : Heap) (locs1 : List Loc), H1[adr G dq]? = some (arrV c1 (sh dq).2 (fun j => .long (va_cpy (L sq) (L dq) sp.toNatClampNeg dp.toNatClampNeg z.toNatClampNeg j))) → H1.size = H.size → (∀ q : Nat, q ≠ adr G dq → H1[q]? = H[q]?) → va_S (AA G) S.heap H1 locs1 →
        W p (Gl G) e R S m args below meth cd H1 locs1 cells slots (MQ below (QC G Q) args S (mMc y) (mMs y) (AA G)) (F0 m (pc + 3) lsr (r.map (tr G))) := by
      intro H1 locs1 f1 f2 f3 f4
      refine h p e S m args below meth cd R H1 locs1 cells slots lsr X (cpy_i hM hdq f2 f3 f1 (by rw [t2]; decide) (by rw [t2]; decide) b2 (fun j hj => ?_)) f4 hl hn hc hs
      rw [t2]
      show _ = Value.long (cpy2 L sq sp.toNatClampNeg dq dp.toNatClampNeg z.toNatClampNeg dq j)
      rw [cpy2_va]
    exact wp_longcopy X hl hn hdq hsq a1 b1 hKt hS (lkM_ok hk) h0 h1 h2 h3 h4 h5 hroom hd fin
theorem sd_invokestatic {idx : Nat} (hd : decode (mBy y) pc = .ok (.invokestatic idx, len)) (h : LI G y d Q pc (.invokestatic idx) len ls st c s n sh I L P) : WP G y d Q pc ls st c s n sh I L P := by
  obtain ⟨rfl, h⟩ := lift_if h
  split at h
  · rename_i a hk
    split at h
    · rename_i hc
      obtain ⟨ha, hki⟩ := hc
      have h : (match (generalizing := false) popN (mAr a) [] st with | some (as, r) => 0 < d ∧ r.length ≤ 4 ∧ mMc a ≤ c ∧ mMs a ≤ s ∧ Cl G (d - 1) a as n sh I L P (fun v n' sh' I' L' P' => WP G y d Q (pc + 3) ls (rpush v r) (c - mMc a) (s - mMs a) n' sh' I' L' P') | _ => False) := h
      split at h
      · rename_i as r hp
        exact wp_static hd ha hki (Or.inl hk) hp h
      · exact h.elim
    · split at h
      · rename_i ha
        subst ha
        have h : (match (generalizing := false) st with
          | .int z :: .int dp :: .ref dq :: .int sp :: .ref sq :: r => 0 < d ∧ r.length ≤ 4 ∧ nle 20 dq ∧ nle 20 sq ∧ ¬ sp < 0 ∧ ¬ dp < 0 ∧ ¬ z < 0 ∧ sp.toNatClampNeg + z.toNatClampNeg ≤ (sh sq).2 ∧ dp.toNatClampNeg + z.toNatClampNeg ≤ (sh dq).2 ∧
            (((sh sq).1 = 100 ∧ (sh dq).1 = 100) ∨ ((sh sq).1 = 101 ∧ (sh dq).1 = 101)) ∧
            WP G y d Q (pc + 3) ls r c s n sh (cpy2 I sq sp.toNatClampNeg dq dp.toNatClampNeg z.toNatClampNeg) (cpy2 L sq sp.toNatClampNeg dq dp.toNatClampNeg z.toNatClampNeg) P
          | _ => False) := h
        split at h
        · exact wp_copy hd hk h
        · exact h.elim
      · split at h
        · rename_i ha
          subst ha
          have h : (match (generalizing := false) st with | .int z :: .int x :: r => 0 < d ∧ r.length ≤ 4 ∧ WP G y d Q (pc + 3) ls (.int (if x < z then z else x) :: r) c s n sh I L P | _ => False) := h
          split at h
          · rename_i z x r _ _
            obtain ⟨h0, h4, h⟩ := h
            intro p e S m args below meth cd R H locs cells slots lsr X hM hS hl hn hc hs
            have hw := lkM_ok hk
            have hlo := X.lo
            have hcs := cat_sum (r.map (tr G))
            rw [List.length_map] at hcs
            exact va_mmax X.1 X.2.1 (by rw [X.ml, hl.1]; exact hn.symm) X.own (X.word _ hw) (X.word _ gw_maxs) (X.word _ gw_math) (X.word _ gw_maxc) (Nat.le_trans h0 X.fr) (by omega) (by rw [X.cells]; omega) (by rw [X.slots]; omega) hd (h p e S m args below meth cd R H locs cells slots lsr X hM hS hl hn hc hs)
          · exact h.elim
        · split at h
          · rename_i ha
            subst ha
            have h : (match (generalizing := false) st with | .int z :: .int x :: r => 0 < d ∧ r.length ≤ 4 ∧ WP G y d Q (pc + 3) ls (.int (if z < x then z else x) :: r) c s n sh I L P | _ => False) := h
            split at h
            · rename_i z x r _ _
              obtain ⟨h0, h4, h⟩ := h
              intro p e S m args below meth cd R H locs cells slots lsr X hM hS hl hn hc hs
              have hw := lkM_ok hk
              have hlo := X.lo
              have hcs := cat_sum (r.map (tr G))
              rw [List.length_map] at hcs
              exact va_mmin X.1 X.2.1 (by rw [X.ml, hl.1]; exact hn.symm) X.own (X.word _ hw) (X.word _ gw_mins) (X.word _ gw_math) (X.word _ gw_minc) (Nat.le_trans h0 X.fr) (by omega) (by rw [X.cells]; omega) (by rw [X.slots]; omega) hd (h p e S m args below meth cd R H locs cells slots lsr X hM hS hl hn hc hs)
            · exact h.elim
          · exact h.elim
  · split at h
    · rename_i a hk
      obtain ⟨⟨ha, hki⟩, h⟩ := lift_if h
      have h : (match (generalizing := false) popN (mAr a) [] st with | some (as, r) => 0 < d ∧ r.length ≤ 4 ∧ mMc a ≤ c ∧ mMs a ≤ s ∧ Cl G (d - 1) a as n sh I L P (fun v n' sh' I' L' P' => WP G y d Q (pc + 3) ls (rpush v r) (c - mMc a) (s - mMs a) n' sh' I' L' P') | _ => False) := h
      split at h
      · rename_i as r hp
        exact wp_static hd ha hki (Or.inr hk) hp h
      · exact h.elim
    · exact h.elim
end SCC
