/-! the start -/
def nwF : List Cond := flatC (Jvm.Cond.and given_1 narrow_1)
def tmE : Jvm.Term := Jvm.Term.static "java/util/ArrayList" "DEFAULTCAPACITY_EMPTY_ELEMENTDATA" "[Ljava/lang/Object;"
theorem nw_e1 : Cond.exactly tmE "[Ljava/lang/Object;" ∈ nwF := by decide +kernel
theorem nw_e2 : Cond.arrayOf tmE (.object "java/lang/Object") ∈ nwF := by decide +kernel
theorem nw_e3 : Cond.eq (.length tmE) (.int 0) ∈ nwF := by decide +kernel
theorem nw_mi : Cond.isRef (.mirror "[Ljava/lang/Object;") ∈ nwF := by decide +kernel
theorem tb_at (i : Nat) {w : Cond} (h : lw_tbl[i]? = some w) : w ∈ lw_tbl := List.mem_of_getElem? h
theorem e0_len {args : Array Value} {s : State} {t : Jvm.Term} {a : Nat} {cell : Cell} (ht : t.eval args s none [] s = some (.ref a)) (hc : s.heap[a]? = some cell) (h : (Cond.eq (.length t) (.int 0)).before args s = true) : cell.slots.size = 0 := by
  have hv := va_eqt h
  simp only [Term.eval, Option.bind_eq_bind, ht, Option.bind_some] at hv
  obtain ⟨cell', hat, hv⟩ := Option.bind_eq_some_iff.mp hv
  obtain ⟨hcell, -⟩ := State.arrayAt?_spec hat
  cases hc.symm.trans hcell
  by_cases hn : cell.slots.size < 2147483648
  · rw [if_pos hn] at hv
    have e : cell.slots.size.toInt32 = 0 := by simpa using hv
    exact (nI_eq (a := cell.slots.size) (b := 0) (by omega) (by omega)).mp e
  · rw [if_neg hn] at hv
    cases hv
theorem ka_prim {args : Array Value} {s : State} {ty : FieldType} (hra : ∀ c, s.vm.findClass ("[" ++ ty.toString) = some c → va_RA s c ty) (h : (Cond.arrayClass ty).before args s = true) : ∃ c, ArrOfT s c ty ∧ va_RA s c ty := by
  obtain ⟨c, k, comp, h1, h2, h3⟩ := Cond.arrayClass_spec h
  exact ⟨c, fun N z => ⟨(fun k h => by cases h), k, h2, comp, h3⟩, hra c h1⟩
theorem ka_obj {args : Array Value} {s : State} {C : String} (h : (Cond.arrayOver (.object C)).before args s = true) : ∃ c, ArrOfT s c (.object C) ∧ va_RA s c (.object C) := by
  obtain ⟨comp, c, k, h1, -, h2, h3, h4⟩ := Cond.arrayOver_spec h
  exact ⟨c, fun N z => ⟨(fun k h => by cases h), k, h2, comp, h3⟩, k, comp, h2, h3, h1, h4⟩
theorem ka_arr {args : Array Value} {s : State} {t : FieldType} (h : (Cond.arrayOver (.array t)).before args s = true) : ∃ c, ArrOfT s c (.array t) ∧ va_RA s c (.array t) := by
  obtain ⟨comp, c, k, h1, h2, h3, h4⟩ := Cond.arrayOver_specA h
  exact ⟨c, fun N z => ⟨(fun k h => by cases h), k, h2, comp, h3⟩, h4⟩
theorem st_cls {A : Array Value} {s : State} (hB : ∀ w ∈ BIG, w.before A s = true) (hT : ∀ w ∈ lw_tbl, w.before A s = true) : ∃ D : va_G, ∀ (c : Nat) (q : vw_C), vwCl[c]? = some q → u_Kn s q.1 q.2.1 q.2.2 (D.1 c) (D.2 c) := by
  have h : ∀ k : Nat, ∃ x : ClassId × (Nat → Nat), ∀ q : vw_C, vwCl[k]? = some q → u_Kn s q.1 q.2.1 q.2.2 x.1 x.2 := by
    intro k
    match k with
    | 0 =>
      obtain ⟨c, iS, h⟩ := u_known (C := RJx4a65c) (T := TJx4a65c) (N := 3) (n := 3) hB cw_Jx4a65c (hT _ (tb_at 49 (by decide +kernel)))
      exact ⟨(c, iS), fun q hq => by cases hq; exact h⟩
    | 1 =>
      obtain ⟨c, iS, h⟩ := u_known (C := RX0) (T := TX0) (N := 3) (n := 3) hB cw_X0 (hT _ (tb_at 100 (by decide +kernel)))
      exact ⟨(c, iS), fun q hq => by cases hq; exact h⟩
    | 2 =>
      obtain ⟨c, iS, h⟩ := u_known (C := RX1) (T := TX1) (N := 3) (n := 3) hB cw_X1 (hT _ (tb_at 146 (by decide +kernel)))
      exact ⟨(c, iS), fun q hq => by cases hq; exact h⟩
    | 3 =>
      obtain ⟨c, iS, h⟩ := u_known (C := RX2) (T := TX2) (N := 5) (n := 5) hB cw_X2 (hT _ (tb_at 43 (by decide +kernel)))
      exact ⟨(c, iS), fun q hq => by cases hq; exact h⟩
    | 4 =>
      obtain ⟨c, iS, h⟩ := u_known (C := RX3) (T := TX3) (N := 5) (n := 5) hB cw_X3 (hT _ (tb_at 164 (by decide +kernel)))
      exact ⟨(c, iS), fun q hq => by cases hq; exact h⟩
    | 5 =>
      obtain ⟨c, iS, h⟩ := u_known (C := RX4) (T := TX4) (N := 7) (n := 7) hB cw_X4 (hT _ (tb_at 119 (by decide +kernel)))
      exact ⟨(c, iS), fun q hq => by cases hq; exact h⟩
    | 6 =>
      obtain ⟨c, iS, h⟩ := u_known (C := RX5) (T := TX5) (N := 3) (n := 3) hB cw_X5 (hT _ (tb_at 263 (by decide +kernel)))
      exact ⟨(c, iS), fun q hq => by cases hq; exact h⟩
    | 7 =>
      obtain ⟨c, iS, h⟩ := u_known (C := RX6) (T := TX6) (N := 6) (n := 6) hB cw_X6 (hT _ (tb_at 35 (by decide +kernel)))
      exact ⟨(c, iS), fun q hq => by cases hq; exact h⟩
    | k + 8 => exact ⟨(0, fun _ => 0), fun q hq => by simp [vwCl] at hq⟩
  obtain ⟨f, hf⟩ := Classical.axiomOfChoice h
  exact ⟨(fun k => (f k).1, fun k => (f k).2), hf⟩
theorem st_arr {A : Array Value} {s : State} (hT : ∀ w ∈ lw_tbl, w.before A s = true) : ∃ KA : Nat → ClassId, ∀ (k : Nat) (q : ClassId × FieldType), (tysK KA)[k]? = some q → ArrOfT s q.1 q.2 ∧ va_RA s q.1 q.2 := by
  obtain ⟨a0, h0⟩ := ka_prim (ty := .int) (fun _ h => h) (hT _ (tb_at 162 (w := .arrayClass .int) (by decide +kernel)))
  obtain ⟨a1, h1⟩ := ka_prim (ty := .char) (fun _ h => h) (hT _ (tb_at 98 (w := .arrayClass .char) (by decide +kernel)))
  obtain ⟨a2, h2⟩ := ka_obj (C := "java/lang/Object") (hT _ (tb_at 374 (w := .arrayOver (.object "java/lang/Object")) (by decide +kernel)))
  obtain ⟨a3, h3⟩ := ka_obj (C := "TitleFinder$State") (hT _ (tb_at 106 (w := .arrayOver (.object "TitleFinder$State")) (by decide +kernel)))
  obtain ⟨a4, h4⟩ := ka_arr (t := .int) (hT _ (tb_at 170 (w := .arrayOver (.array .int)) (by decide +kernel)))
  obtain ⟨a5, h5⟩ := ka_prim (ty := .long) (fun _ h => h) (hT _ (tb_at 676 (w := .arrayClass .long) (by decide +kernel)))
  refine ⟨fun k => [a0, a1, a2, a3, a4, a5].getD k 0, fun k q hq => ?_⟩
  match k, hq with
  | 0, hq => cases hq; exact h0
  | 1, hq => cases hq; exact h1
  | 2, hq => cases hq; exact h2
  | 3, hq => cases hq; exact h3
  | 4, hq => cases hq; exact h4
  | 5, hq => cases hq; exact h5
  | k + 6, hq => simp [tysK] at hq
theorem st_K {b L : Nat} {xs : Nat → Int32} {s : State} (l : Launch) (hT : ∀ w ∈ lw_tbl, w.before #[Value.ref b] s = true) (hgv : (Jvm.Cond.and given_1 narrow_1).before #[Value.ref b] s = true) (hX : va_X b L xs s s.heap) (hbl : b < s.heap.size) (hL : L ≤ 260) : ∃ G : mG, G.1 = l ∧ G.2.1 = s.heap ∧ mK G s ∧ G.2.2.2.2.1 0 = b ∧ ∃ cell : Cell, s.heap[G.2.2.2.2.2.2.1]? = some cell ∧ cell.cls = G.2.2.2.1 2 ∧ cell.slots.size = 0 ∧ cell.vm.isStatics = false ∧ cell.vm ≠ .unknown := by
  have hB : ∀ w ∈ BIG, w.before #[Value.ref b] s = true := fun w hw => hT w (List.mem_filter.mp hw).1
  have hN : ∀ w ∈ nwF, w.before #[Value.ref b] s = true := flat_of_before _ hgv
  obtain ⟨D, hD⟩ := st_cls hB hT
  obtain ⟨KA, hKA⟩ := st_arr hT
  have hA : ∀ a : Nat, a < s.heap.size → ¬ mAf s.heap a := fun a h => Nat.not_le.mpr h
  obtain ⟨e0, c2, cell, k2, q1, q2, q3, q4, q5, q6, -⟩ := Cond.exactly_spec (hN _ nw_e1)
  obtain ⟨-, q7⟩ := Cond.arrayOf_spec (hN _ nw_e2) q1 q3
  have q8 := e0_len q1 q3 (hN _ nw_e3)
  have hK2 : s.vm.findClass "[Ljava/lang/Object;" = some (KA 2) := by
    obtain ⟨-, kA, comp, -, -, -, h4⟩ := hKA 2 (KA 2, .object "java/lang/Object") rfl
    exact h4
  obtain ⟨mi, hmi⟩ := va_Mi.of (hN _ nw_mi)
  refine ⟨(l, s.heap, D, KA, fun i => if i = 0 then b else L, xs, e0, mi), rfl, rfl, ⟨⟨hD, hKA⟩, ?_, trivial, trivial, hX, ⟨hbl, hL⟩, ?_, ?_, ?_, fun w hw => ?_, ?_, hmi, ?_⟩, rfl, cell, q3, ?_, q8, q5, q7⟩
  · exact va_Zref (hT _ (tb_at 61 (by decide +kernel))) (hT _ (tb_at 22 (by decide +kernel))) q1 hA
  · exact va_AO.of (hT _ (tb_at 374 (w := .arrayOver (.object "java/lang/Object")) (by decide +kernel)))
  · exact va_AO.of (hT _ (tb_at 106 (w := .arrayOver (.object "TitleFinder$State")) (by decide +kernel)))
  · exact hT _ (tb_at 170 (w := .arrayOver (.array .int)) (by decide +kernel))
  · simp only [mNest, List.mem_cons, List.not_mem_nil, or_false] at hw
    rcases hw with rfl | rfl | rfl | rfl | rfl
    · exact va_Nw.of rfl (hT _ (tb_at 44 (by decide +kernel)))
    · exact va_Nw.of rfl (hT _ (tb_at 107 (by decide +kernel)))
    · exact va_Nw.of rfl (hT _ (tb_at 120 (by decide +kernel)))
    · exact va_Nw.of rfl (hT _ (tb_at 147 (by decide +kernel)))
    · exact va_Nw.of rfl (hT _ (tb_at 165 (by decide +kernel)))
  · exact va_Nw.of rfl (hT _ (tb_at 684 (by decide +kernel)))
  · exact va_Dc.of (hT _ (tb_at 687 (by decide +kernel)))
  · rw [q6]
    exact Option.some.inj (q2.symm.trans hK2)
set_option maxHeartbeats 4000000 in
/-- YOUR PART: from the entry, for every script of at most 260 ints, the law comes to its end with true -/
theorem whole_start {p : Program} {e : Env} {s : State} {m : MethodId} {below : List Frame} {meth : Method} {c : Code} (l : Launch) (hflags : l.flags = flags0) {b L : Nat} {xs : Nat → Int32} (hL : L ≤ 260) (C0 : lw_At p s m meth c b L xs) : W p l e room_1 s m #[Value.ref b] below meth c s.heap [] 0 0 (lw_Z below #[Value.ref b] s) (entryFrame m ([Value.ref b] : List Value).toArray 17) := by
  obtain ⟨hx, hb, hr, hml, hown, hts, hX, hbl, hlocks, hgv⟩ := C0
  obtain ⟨G, hG1, hG2, hK, hG3, cell, q1, q2, q3, q4, q5⟩ := st_K l hts hgv hX hbl hL
  have hB : ∀ w ∈ BIG, w.before #[Value.ref b] s = true := fun w hw => hts w (List.mem_filter.mp hw).1
  have hlt : G.2.2.2.2.2.2.1 < s.heap.size := (Array.getElem?_eq_some_iff.mp q1).1
  subst hG1
  have hS : va_S (mAf G.2.1) G.2.1 s.heap [] := by rw [hG2]; exact va_S.rf
  have C : Cx (p, e, room_1, s, m, #[Value.ref b], below, meth, c, lw_Z below #[Value.ref b] s, 906490, 6382777, G) G iL_law := ⟨rfl, hx, hb, hml, hr, hlocks, hown, hB, hK, ⟨by decide, by decide, Nat.le_refl _, Nat.le_refl _⟩, fun h => absurd h (by decide), hS⟩
  have hX' : lawX (p, e, room_1, s, m, #[Value.ref b], below, meth, c, lw_Z below #[Value.ref b] s, 906490, 6382777, G) G b := ⟨rfl, rfl, rfl, rfl, rfl, hG2⟩
  obtain ⟨M, hM⟩ : ∃ M : mM, M = fun a => if a = G.2.2.2.2.2.2.1 then some (0, .inr (2, 0, .inr fun _ => none)) else none := ⟨_, rfl⟩
  have hE0 : M G.2.2.2.2.2.2.1 = some (0, .inr (2, 0, .inr fun _ => none)) := by rw [hM]; exact if_pos rfl
  have hM2 : ∀ a t x, M a = some (t, x) → a = G.2.2.2.2.2.2.1 ∧ t = 0 ∧ x = .inr (2, 0, .inr fun _ => none) := by
    intro a t x h
    by_cases ha : a = G.2.2.2.2.2.2.1
    · subst ha
      rw [hE0] at h
      cases h
      exact ⟨rfl, rfl, rfl⟩
    · rw [hM] at h
      simp only [if_neg ha] at h
      cases h
  have hR : mR G M s.heap [] := by
    refine ⟨fun a t x h => ?_, fun a t x h => ?_, hS⟩
    · obtain ⟨rfl, rfl, rfl⟩ := hM2 a t x h
      exact Or.inr ⟨rfl, _, cell, rfl, q1, q2, q3, q4, q5⟩
    · obtain ⟨rfl, rfl, rfl⟩ := hM2 a t x h
      rw [hG2]
      exact ⟨fun _ => hlt, fun _ => rfl⟩
  have w := law_walk C hX' hE0
  rw [hG3] at w
  have hl := lv_entry ([.ref b]) (n := 17) (Nat.le_of_ble_eq_true rfl)
  rw [lg_entry_eq]
  have hl2 : mL ((lg_sl [Value.ref b] ++ List.replicate (17 - (lg_sl [Value.ref b]).length) Slot.unset).toArray) [some (.ref b), none, none, none, none, none, none, none, none, none, none, none, none, none, none, none, none] := by
    refine ⟨hl.1, hl.2.1, fun q hq => hl.2.2 q ?_⟩
    have := mA_in [.ref b] 17 0 q.1 q.2 (mP_mem.mp hq)
    rw [Nat.zero_add] at this
    exact this
  exact w s.heap [] 0 0 _ hR (by omega) (by omega) hl2
set_option maxHeartbeats 4000000 in
theorem lw_walk (l : Launch) (hflags : l.flags = flags0) (b : Addr) (xs : List Int32) : MetFree l x (headSpec (Jvm.Cond.code x code maxLocals ret :: tables_1) room_1) (lw_P b xs) (fun _ _ _ _ _ => True) lw_Q := by
  refine MetFree.of_bodyS (code := code) (maxLocals := maxLocals) (ret := ret) (by decide) ?_ ?_
  · intro args s m h hn
    obtain ⟨meth, c, h1, h2, h3, h4, h5, h6, -, -⟩ := Cond.code_spec hn (atoms_spec (ws := Jvm.Cond.code x code maxLocals ret :: tables_1) h _ List.mem_cons_self)
    exact ⟨meth, c, h1, h2, h3, h4, h5, h6⟩
  · intro p e s m args below meth c s₁ B hml0 hP _
    obtain ⟨rfl, hx, hbd, hgv⟩ := hP
    obtain ⟨scr, harrAt, hlist, hof, hsmall⟩ := hx
    obtain ⟨hcb, hkn, -, -⟩ := State.arrayAt?_spec harrAt
    have hown : s.vm.findClass R_law = some m.cls := findClass_of_methodNamed B.named
    have hts0 : ∀ c ∈ (Jvm.Cond.code x code maxLocals ret :: tables_1), c.before #[Value.ref b] s = true := atoms_spec (ws := Jvm.Cond.code x code maxLocals ret :: tables_1) B.pre
    have hts : ∀ w ∈ lw_tbl, w.before #[Value.ref b] s = true := k2_hts_sels lw_privs (fun w hw => hts0 w (List.mem_cons_of_mem _ hw)) lw_privs_ok
    have hml : c.maxLocals = 17 := B.maxLocals_eq (hts0 _ List.mem_cons_self)
    have X₀ : Stand p l e room_1 s m #[Value.ref b] below meth c s₁ [] 0 0 := Stand.of_body B
    have hh0 : s₁.heap = s.heap := by rw [B.state]; rfl
    have hsz : scr.slots.size = xs.length := by rw [← Array.length_toList, hlist, List.length_map]
    have hval : ∀ j : Nat, j < xs.length → scr.slots[j]? = some (.int (xs.getD j 0)) := fun j hj => by
      rw [← Array.getElem?_toList, hlist]
      simp [hj]
    have hbl : b < s.heap.size := (Array.getElem?_eq_some_iff.mp hcb).1
    have hX : va_X b xs.length (fun j => xs.getD j 0) s s.heap := ⟨scr, hcb, hof, hkn, hsz, hval⟩
    have K : W p l e room_1 s m #[Value.ref b] below meth c s₁.heap [] 0 0 (lw_Z below #[Value.ref b] s) (entryFrame m ([Value.ref b] : List Value).toArray 17) := by
      rw [hh0]
      exact whole_start l hflags hbd ⟨B.exec, B.bytes, B.returns, hml, hown, hts, hX, hbl, B.notSynchronized, hgv⟩
    obtain ⟨t, a1, o, b1, b2, b3⟩ := K s₁ rfl X₀
    exact ⟨t, o, a1, b1, b2, b3⟩
theorem lw_pre_spec {args : Array Value} {s : State} (h : (Jvm.Cond.and given_1 narrow_1).before args s = true) (hr : rest_1_c.before args s = true) : ∃ (b : Addr) (xs : List Int32), lw_P b xs args s := by
  have hs := flat_of_before _ h
  have hq := flat_of_before _ hr
  have hc : (Cond.count 1).before args s = true := hs _ (by decide +kernel)
  have harr : (Cond.arrayOf (.arg 0) .int).before args s = true := hs _ (by decide +kernel)
  have hle : (Cond.le (.length (.arg 0)) (.int 260)).before args s = true := hs _ (by decide +kernel)
  have hlen : (Cond.isInt (.length (.arg 0))).before args s = true := hq _ (by decide +kernel)
  have hall : (Cond.all (.arg 0) (.isInt (.elem (.arg 0) (.index 0)))).before args s = true := hq _ (by decide +kernel)
  obtain ⟨b, xs, hb, hx⟩ := State.ints_of_pre rfl harr hlen hall
  have hsm : xs.length < 2 ^ 31 := hx.choose_spec.2.2.2
  have hev : (Term.length (.arg 0)).eval args s none [] s = some (.int xs.length.toInt32) := hx.length_eval hb
  have hv := Cond.le_ints hev (show (Term.int 260).eval args s none [] s = some (.int 260) from rfl)
  have hd : xs.length.toInt32 ≤ 260 := by
    simpa [Cond.before, Cond.holds, hv] using hle
  have hN : xs.length ≤ 260 := (Int32.ofNat_le_ofNat hsm (by decide)).mp (show Int32.ofNat xs.length ≤ Int32.ofNat 260 from hd)
  exact ⟨b, xs, Cond.one_arg hc (show args[0]? = some (.ref b) from hb), hx, hN, h⟩
theorem lw_comes (l : Launch) (hflags : l.flags = flags0) : Comes l x (Jvm.Cond.code x code maxLocals ret :: tables_1) room_1 (fun tb e args s => Calls_1 tb e args s ∧ rest_1 tb e args s ∧ Pre_1 tb e args s)
    (fun _ _ args s o t => lw_Q args s o t) := by
  intro p e ha hc hk s m args below hf hfit hheap happ hpre
  obtain ⟨b, xs, hP⟩ := lw_pre_spec hpre.2.2 hpre.2.1
  obtain ⟨k, o, h1, h2, h3, hQ⟩ := lw_walk l hflags b xs p e ha hc hk s m args below hf ((Spec.applies_iff_loose hf).mp happ).1 hP trivial
  exact ⟨k, o, h1, h2, h3, hQ⟩
theorem lw_frame {s t : State} {o : Outcome} {args : Array Value} (h : Framed s o t [] 906490 6382777) :
    Framed s o t (fieldLocs frame_1_writes args s ++ arrayLocs frame_1_arrays args s ++ staticLocs frame_1_statics s) 906490 6382777 := h
theorem lw_limb (L : Cond) (hL : ∀ (args : Array Value) (s t : State), L.after args s (.returned (some (.int 1))) t = true) :
    ArmFor flags0 classFile x code maxLocals ret World_1 tables_1 room_1 Calls_1 rest_1 Pre_1
      (fun tb e a s o t => postC L tb e a s o t ∧ Framed s o t (fieldLocs frame_1_writes a s ++ arrayLocs frame_1_arrays a s ++ staticLocs frame_1_statics s) 906490 6382777) := by
  intro l hflags _ _ p e ha hc hk s m args below hf hfit hheap happ hpre
  obtain ⟨k, o, h1, h2, h3, rfl, hF⟩ := lw_comes l hflags p e ha hc hk s m args below hf hfit hheap happ hpre
  exact ⟨k, _, h1, h2, h3, hL args s _, lw_frame hF⟩
theorem i_vc : Claimed_1_1 ∧ Claimed_1_2 := ⟨lw_limb limb_1_1 (fun args s t => by simp [limb_1_1, Cond.after, Cond.holds, Cond.value]), lw_limb limb_1_2 (fun args s t => Cond.after_iff.mpr (by
  first | (rw [show limb_1_2 = Cond.eq .result (.int 1) from rfl, Cond.eq_ints (x := 1) (y := 1) rfl rfl]; simp; done) | (simp [limb_1_2, Cond.value, Term.eval]; done)))⟩
