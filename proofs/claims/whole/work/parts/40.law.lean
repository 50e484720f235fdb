/-! the law -/
theorem mZ.nw {M M1 : mM} {a : Nat} {x : Nat × mE} (u : mU M a x M1) (hA : M a = none) : mZ [] M M1 := mZ.new mZ.rf u hA
theorem zR.at {G : mG} {M M1 : mM} {Ts : List Nat} {z : Nat} {x : mSt} {c : Nat} {hs : Nat → mSt} {n : Nat} {g : Nat → Int32} (hF : mZ Ts M M1) (hT : ∀ t, t ∈ Ts → 300 ≤ t) (h : zR G M z x c hs n g) : zR G M1 z x c hs n g := by
  obtain ⟨rc, rr, rp, y1, y2, y3, y4, s, tr, h, tx, rk, sy, hZ, hs0, ⟨yt, htr⟩, hh, ⟨p, cmd, val, fr, to, hx⟩, hk, ⟨yw, hy⟩, hch⟩ := h
  have no : ∀ t, t < 300 → t ∉ Ts := fun t h1 h2 => absurd (hT t h2) (by omega)
  exact ⟨rc, rr, rp, y1, y2, y3, y4, s, tr, h, tx, rk, sy, hF.at hZ (no _ (by omega)), hs0.at hF (no _ (by omega)) (no _ (by omega)) (fun j hj => no _ (by omega)), ⟨yt, htr.at hF (no _ (by omega)) (no _ (by omega)) (fun j hj => no _ (by omega))⟩, hh.at hF (no _ (by omega)) (no _ (by omega)) (no _ (by omega)) (fun t ht => no _ (by rw [mem_TH] at ht; omega)), ⟨p, cmd, val, fr, to, hx.at hF (no _ (by omega)) (no _ (by omega))⟩, hk.at hF (no _ (by omega)) (no _ (by omega)) (no _ (by omega)), ⟨yw, hy.at hF (no _ (by omega)) (no _ (by omega)) (no _ (by omega))⟩, hch⟩
theorem nR.T16 {M : mM} {m T mo od ql c tl : Nat} {q : Nat → Int32} {ln : Nat → Nat} {fl : Nat → Nat → Int32} {us : Nat → Int32} {hs : Nat → mSt} {g : Nat → Int32} (h : nR M m (T, mo, od, ql, q, ln, fl, us) c hs tl g) : T ≤ 16 := by
  obtain ⟨sa, ha, xa, ra, la, qa, al, ka, rm, pa, fs, fe, za, wa, ua, ap, cm, nu, be, en, S, H, xt, so, sn, Q, K, P, Z, W, U, hO, hS, hx, hH, hHr, hc6, hX, hXg, htl, hSo, hSn, hQ, hK, hP, hZ, hW, hU, hok⟩ := h.get
  exact hok.T16
theorem tz_300 {t : Nat} (h : t ∈ TZ) : t < 300 := by rw [mem_TZ] at h; omega
theorem tm_300 {t : Nat} (h : t ∈ TM) : 300 ≤ t := by unfold TM at h; simp at h; omega
theorem lcmp_self {x : Int64} : lg_cmp x x = 0 := by unfold lg_cmp; simp
theorem lw_i3 {i L : Nat} (hi : i ≤ L) (hL : L ≤ 1536) (h : ¬ nI L - nI 3 < nI i) : i + 3 ≤ L := by
  rcases Nat.lt_or_ge L 3 with q | q
  · exfalso
    obtain rfl | rfl | rfl : L = 0 ∨ L = 1 ∨ L = 2 := by omega
    · obtain rfl : i = 0 := by omega
      exact h (by decide)
    · obtain rfl | rfl : i = 0 ∨ i = 1 := by omega
      · exact h (by decide)
      · exact h (by decide)
    · obtain rfl | rfl | rfl : i = 0 ∨ i = 1 ∨ i = 2 := by omega
      · exact h (by decide)
      · exact h (by decide)
      · exact h (by decide)
  · rcases Nat.lt_or_ge L (i + 3) with q2 | q2
    · exfalso
      obtain ⟨j, rfl⟩ : ∃ j, L = j + 3 := ⟨L - 3, by omega⟩
      refine h ?_
      have e : nI (j + 3) - nI 3 = nI j := by rw [← nI_add]; exact Int32.add_sub_cancel _ _
      rw [e]
      exact nI_lt (by omega) (by omega)
    · exact q2
abbrev iL_law : mI := (yL_law, cL_law, 4, some .boolean, 12)
/-! THE CLAIM OUT OF ONE WALK OF THE LAW'S BODY. Your part is whole_start (and what it stands on); all else here is the same for every law, but numbers. -/
def R_law : String := "TitleFinderLaw"
def lw_P (b : Addr) (xs : List Int32) (args : Array Value) (s : State) : Prop := args = #[.ref b] ∧ s.IntsAt b xs ∧ xs.length ≤ 1536 ∧ (Jvm.Cond.and given_1 narrow_1).before args s = true
def lw_Q (_ : Array Value) (s : State) (o : Outcome) (t : State) : Prop := o = .returned (some (.int 1)) ∧ Framed s o t [] 600000 7302250
def lw_Z (below : List Frame) (a : Array Value) (s : State) : State → Prop := fun t => ∃ o, t.status = .running ∧ Ended t below o ∧ lw_Q a s o t
/-- the law's own end, with 1 on the stack, nothing written that was there before, its room as the claim has it -/
theorem lw_ret {p : Program} {l : Launch} {e : Env} {s : State} {m : MethodId} {below : List Frame} {meth : Method} {c : Code} {b : Nat} (hx : p.tables.exec = Jvm.exec) (hb : c.code = code) (hr : meth.sig.returnType = ret) (hlocks : meth.locks = false) {pc : Nat} {H : Heap} {ls : Array Slot} (hdg : decode code pc = .ok (.ireturn, 1)) : W p l e room_1 s m #[Value.ref b] below meth c H [] 600000 7302250 (lw_Z below #[Value.ref b] s) (F0 m pc ls [.int 1]) := by
  intro T hT X
  obtain ⟨fs, hret, hrun, hended, hW, hframe⟩ := X.leave (v := some (.int 1)) (hlocks := hlocks) (fun h => by rw [hr] at h; cases h)
  have hmeth' : T.vm.method? m = some meth := X.method'
  refine ⟨T.setFrames fs, ?_, .returned (some (.int 1)), hrun, hended, rfl, ⟨_, rfl⟩, hW, hframe⟩
  jvm_step X.here [X.here.top, hx, hb, hdg, hmeth', hr, ret, narrow_b1]
  (try refine ⟨rfl, ?_⟩); (try refine ⟨rfl, ?_⟩)
  first | (intro acts; rw [hret _ acts rfl rfl rfl]) | rw [hret _ _ rfl rfl rfl]
  exact Steps.refl _
/-- what holds at the law's entry: the machine, the code, the tables' words (any of lw_tbl by 'hts w (by decide +kernel)'), the script of L ints xs at the cell b, what the Statement gives of the start (any of its parts by flat_of_before) -/
def lw_At (p : Program) (s : State) (m : MethodId) (meth : Method) (c : Code) (b L : Nat) (xs : Nat → Int32) : Prop :=
  p.tables.exec = Jvm.exec ∧ c.code = code ∧ meth.sig.returnType = ret ∧ c.maxLocals = 4 ∧ s.vm.findClass R_law = some m.cls ∧ (∀ w ∈ lw_tbl, w.before #[Value.ref b] s = true) ∧ va_X b L xs s s.heap ∧ b < s.heap.size ∧ meth.locks = false ∧ (Jvm.Cond.and given_1 narrow_1).before #[Value.ref b] s = true
/-- what the law's activation is -/
def lawX (X : mX) (G : mG) (b Ls : Nat) (xs : Nat → Int32) : Prop := match X with
  | (_, _, R, s, _, args, below, _, _, Q, mc, ms, _) => R = room_1 ∧ args = #[Value.ref b] ∧ Q = lw_Z below #[Value.ref b] s ∧ mc = 600000 ∧ ms = 7302250 ∧ G.2.1 = s.heap ∧ va_X b Ls xs s s.heap ∧ b < s.heap.size
theorem s_slen {X : mX} {G : mG} {I : mI} (C : Cx X G I) {b Ls : Nat} {xs : Nat → Int32} (hX : lawX X G b Ls xs) {bc bs pc : Nat} (q : Nat) {L : List (Option Value)} {st : List Value} {M : mM} (d : decode I.2.1 pc = .ok (.arraylength, 1)) (e : pc + 1 = q) (h : V X bc bs q L (.int (nI Ls) :: st) M) : V X bc bs pc L (.ref b :: st) M := by
  obtain ⟨p, e0, R, s, m, args, below, meth, c, Q, mc, ms, G'⟩ := X
  obtain ⟨rfl, hx, hb, hml, hr, hlk, hown, hts, hK, hroom, hini, hS0⟩ := C
  obtain ⟨h1, h2, h3, h4, h5, h6, h7, h8⟩ := hX
  subst e
  intro H locs cells slots ls hR hc hs hl
  have hS := hR.2.2
  rw [h6] at hS
  exact va_slen hx hb h7 h8 (Nat.not_le.mpr h8) hS d (h H locs cells slots ls hR hc hs hl)
theorem s_sld {X : mX} {G : mG} {I : mI} (C : Cx X G I) {b Ls : Nat} {xs : Nat → Int32} (hX : lawX X G b Ls xs) {bc bs pc : Nat} (q : Nat) {L : List (Option Value)} {st : List Value} {M : mM} {i : Nat} (d : decode I.2.1 pc = .ok (.iaload, 1)) (e : pc + 1 = q) (hi : i < Ls) (hn : Ls ≤ 1536) (h : V X bc bs q L (.int (xs i) :: st) M) : V X bc bs pc L (.int (nI i) :: .ref b :: st) M := by
  obtain ⟨p, e0, R, s, m, args, below, meth, c, Q, mc, ms, G'⟩ := X
  obtain ⟨rfl, hx, hb, hml, hr, hlk, hown, hts, hK, hroom, hini, hS0⟩ := C
  obtain ⟨h1, h2, h3, h4, h5, h6, h7, h8⟩ := hX
  subst e
  intro H locs cells slots ls hR hc hs hl
  have hS := hR.2.2
  rw [h6] at hS
  have k := h H locs cells slots ls hR hc hs hl
  have e2 : (nI i).toNatClampNeg = i := nI_clamp (by omega)
  exact va_sld hx hb h7 h8 (Nat.not_le.mpr h8) hS (i := nI i) (vp_in_nI hi (by omega)) d (by rw [e2]; exact k)
theorem s_lawret {X : mX} {G : mG} (C : Cx X G iL_law) {b Ls : Nat} {xs : Nat → Int32} (hX : lawX X G b Ls xs) {bc bs pc : Nat} {L : List (Option Value)} {M : mM} (d : decode code pc = .ok (.ireturn, 1)) : V X bc bs pc L [.int 1] M := by
  obtain ⟨p, e0, R, s, m, args, below, meth, c, Q, mc, ms, G'⟩ := X
  obtain ⟨rfl, hx, hb, hml, hr, hlk, hown, hts, hK, hroom, hini, hS0⟩ := C
  obtain ⟨rfl, rfl, rfl, rfl, rfl, h6, h7, h8⟩ := hX
  intro H locs cells slots ls hR hc hs hl
  have hS := hR.2.2
  rw [h6] at hS
  refine va_forget (fun q hq => hS.2.2 q hq) ?_
  refine W.widen (k := 600000) (n := 7302250) (by omega) (by omega) ?_
  exact lw_ret hx hb hr hlk d
set_option maxRecDepth 100000 in
set_option maxHeartbeats 40000000 in
theorem law_walk {X : mX} {G : mG} (C : Cx X G iL_law) {b Ls : Nat} {xs : Nat → Int32} (hX : lawX X G b Ls xs) (hLs : Ls ≤ 1536) {M : mM} {g0 : Nat → Option Nat} (hE0 : M G.2.2.2.2.2.2.1 = some (0, .inr (2, 0, .inr g0))) : V X 600000 7302250 0 [some (.ref b), none, none, none] [] M := by
  refine s_newU C 3 (336 * ((Ls - 0) / 3) + 74) (6272 * ((Ls - 0) / 3) + 4795) 6 dL_law_0 rfl n_L_7 (by first | decide | omega) (by omega) (by first | omega | (show _ + _ ≤ _; simp only [List.length_cons, List.length_nil]; omega)) (fun z M1 hnz U2 => ?_)
  have hE0 := U2.n hnz hE0
  have hZ := U2.s
  refine s_dup C 4 dL_law_3 rfl rfl ?_
  refine s_invI C 7 (336 * ((Ls - 0) / 3) + 12) (6272 * ((Ls - 0) / 3) + 3723) [.ref z] dL_law_4 rfl m_L_9 (z_init (hs := fun _ => st0) hZ hE0) rfl rfl rfl ⟨by decide, by decide⟩ (Nat.le_of_ble_eq_true rfl) (by omega) (by omega) ?_
  rintro _ M3 ⟨rfl, hz, hF1⟩
  dsimp only [Option.toList, List.cons_append, List.nil_append]
  refine s_astore_n C 8 dL_law_7 rfl rfl rfl ?_
  dsimp only [List.set]
  refine s_newU C 11 (336 * ((Ls - 0) / 3) + 11) (6272 * ((Ls - 0) / 3) + 3701) 300 dL_law_8 rfl n_L_10 (by first | decide | omega) (by omega) (by first | omega | (show _ + _ ≤ _; simp only [List.length_cons, List.length_nil]; omega)) (fun m M4 hnm U5 => ?_)
  have hO := U5.s
  refine s_dup C 12 dL_law_11 rfl rfl ?_
  have hz := hz.at (mZ.nw U5 hnm) (fun t ht => by simp at ht)
  refine s_invI C 15 (336 * ((Ls - 0) / 3)) (6272 * ((Ls - 0) / 3)) [.ref m] dL_law_12 rfl m_L_12 (nn_init (hs := fun _ => st0) hO) rfl rfl rfl ⟨by decide, by decide⟩ (Nat.le_of_ble_eq_true rfl) (by omega) (by omega) ?_
  rintro _ M6 ⟨rfl, hn, hF2⟩
  dsimp only [Option.toList, List.cons_append, List.nil_append]
  have hz := hz.at hF2 (fun t ht => tm_300 ht)
  refine s_astore_n C 16 dL_law_15 rfl rfl rfl ?_
  dsimp only [List.set]
  refine s_iconst C 17 (nI 0) dL_law_16 rfl (by decide) ?_
  refine s_istore_n C 18 dL_law_17 rfl rfl rfl ?_
  dsimp only [List.set]
  suffices lp18 : ∀ (fu18 : Nat) (kk : Nat) (x9 : mSt) (c n : Nat) (hs : Nat → mSt) (g : Nat → Int32) (M9 : mM), Ls - kk < fu18 → kk ≤ Ls → zR G M9 z x9 c hs n g → nR M9 m x9 c hs n g → V X (336 * ((Ls - kk) / 3)) (6272 * ((Ls - kk) / 3)) 18 [some (.ref b), some (.ref z), some (.ref m), some (.int (nI kk))] [] M9 from lp18 (Ls + 1) 0 _ _ _ _ _ _ (by omega) (Nat.zero_le _) hz hn
  intro fu18
  induction fu18 with
  | zero => intro kk x9 c n hs g M9 hi0 hi hz hn; omega
  | succ fu18 ih18 =>
    intro kk x9 c n hs g M9 hi0 hi hz hn
    obtain ⟨T, mo, od, ql, q, ln, fl, us⟩ := x9
    refine s_iload_n C 19 dL_law_18 rfl rfl ?_
    refine s_aload_n C 20 dL_law_19 rfl rfl ?_
    refine s_slen C hX 21 dL_law_20 rfl ?_
    refine s_iconst C 22 (nI 3) dL_law_21 rfl (by decide) ?_
    refine s_isub C 23 dL_law_22 rfl ?_
    refine s_icmp_gt C 691 26 dL_law_23 (by decide) rfl (fun z23 => ?_) (fun z23 => ?_)
    · skip
      refine s_iconst C 692 (nI 1) dL_law_691 rfl (by decide) ?_
      exact s_lawret C hX dL_law_692
    · skip
      have hi3 := lw_i3 hi hLs z23
      refine s_aload_n C 27 dL_law_26 rfl rfl ?_
      refine s_iload_n C 28 dL_law_27 rfl rfl ?_
      refine s_sld C hX 29 dL_law_28 rfl (by omega) hLs ?_
      refine s_bipush C 31 (nI 31) dL_law_29 rfl (by decide) ?_
      refine s_iand C 32 dL_law_31 rfl ?_
      by_cases w32_0 : ((xs kk) &&& (nI 31)) = nI 0
      · skip
        rw [w32_0]
        refine s_tabI C 160 dL_law_32 (off := 128) (by decide) (by decide) rfl (by decide) ?_
        refine s_aload_n C 161 dL_law_160 rfl rfl ?_
        refine s_aload_n C 162 dL_law_161 rfl rfl ?_
        refine s_iload_n C 163 dL_law_162 rfl rfl ?_
        refine s_iconst C 164 (nI 1) dL_law_163 rfl (by decide) ?_
        refine s_iaddN C 165 dL_law_164 rfl ?_
        refine s_sld C hX 166 dL_law_165 rfl (by omega) hLs ?_
        refine s_invV C 169 (336 * ((Ls - (kk + 3)) / 3)) (6272 * ((Ls - (kk + 3)) / 3)) [] (zR_rv hz) dL_law_166 rfl m_L_13 (z_type hz) rfl rfl rfl ⟨by decide, by decide⟩ (Nat.le_of_ble_eq_true rfl) (by omega) (by omega) ?_
        rintro _ M7 ⟨rfl, hz, hF1⟩
        dsimp only [Option.toList, List.cons_append, List.nil_append]
        have hn := hn.at hF1 (fun t ht => tz_300 ht)
        refine s_aload_n C 170 dL_law_169 rfl rfl ?_
        refine s_aload_n C 171 dL_law_170 rfl rfl ?_
        refine s_iload_n C 172 dL_law_171 rfl rfl ?_
        refine s_iconst C 173 (nI 1) dL_law_172 rfl (by decide) ?_
        refine s_iaddN C 174 dL_law_173 rfl ?_
        refine s_sld C hX 175 dL_law_174 rfl (by omega) hLs ?_
        refine s_invV C 178 (336 * ((Ls - (kk + 3)) / 3)) (6272 * ((Ls - (kk + 3)) / 3)) [.int (if tyB ((xs (kk + 1))) = true then if n < 80 then nI (n + 1) else -4 else -2)] (nR_rv hn) dL_law_175 rfl m_L_17 (nn_type hn) rfl rfl rfl ⟨by decide, by decide⟩ (Nat.le_of_ble_eq_true rfl) (by omega) (by omega) ?_
        rintro _ M8 ⟨rfl, hn, hF2⟩
        dsimp only [Option.toList, List.cons_append, List.nil_append]
        have hz := hz.at hF2 (fun t ht => tm_300 ht)
        refine s_icmp_eq C 685 181 dL_law_178 (by decide) rfl (fun z178 => ?_) (fun z178 => ?_)
        · skip
          refine s_iinc C 688 (nI (kk + 3)) dL_law_685 rfl rfl (by rw [← nI_add]; rfl) rfl ?_
          dsimp only [List.set]
          refine s_goto C 18 dL_law_688 (by decide) ?_
          exact ih18 (kk + 3) _ _ _ _ _ _ (by omega) (by omega) hz hn
        · skip
          exact absurd rfl z178
      by_cases w32_1 : ((xs kk) &&& (nI 31)) = nI 1
      · skip
        rw [w32_1]
        refine s_tabI C 183 dL_law_32 (off := 151) (by decide) (by decide) rfl (by decide) ?_
        refine s_aload_n C 184 dL_law_183 rfl rfl ?_
        refine s_invV C 187 (336 * ((Ls - (kk + 3)) / 3)) (6272 * ((Ls - (kk + 3)) / 3)) [] (zR_rv hz) dL_law_184 rfl m_L_18 (z_clearText hz) rfl rfl rfl ⟨by decide, by decide⟩ (Nat.le_of_ble_eq_true rfl) (by omega) (by omega) ?_
        rintro _ M9 ⟨rfl, hz, hF1⟩
        dsimp only [Option.toList, List.cons_append, List.nil_append]
        have hn := hn.at hF1 (fun t ht => tz_300 ht)
        refine s_aload_n C 188 dL_law_187 rfl rfl ?_
        refine s_invV C 191 (336 * ((Ls - (kk + 3)) / 3)) (6272 * ((Ls - (kk + 3)) / 3)) [.int (nI n)] (nR_rv hn) dL_law_188 rfl m_L_22 (nn_clearText hn) rfl rfl rfl ⟨by decide, by decide⟩ (Nat.le_of_ble_eq_true rfl) (by omega) (by omega) ?_
        rintro _ M10 ⟨rfl, hn, hF2⟩
        dsimp only [Option.toList, List.cons_append, List.nil_append]
        have hz := hz.at hF2 (fun t ht => tm_300 ht)
        refine s_icmp_eq C 685 194 dL_law_191 (by decide) rfl (fun z191 => ?_) (fun z191 => ?_)
        · skip
          refine s_iinc C 688 (nI (kk + 3)) dL_law_685 rfl rfl (by rw [← nI_add]; rfl) rfl ?_
          dsimp only [List.set]
          refine s_goto C 18 dL_law_688 (by decide) ?_
          exact ih18 (kk + 3) _ _ _ _ _ _ (by omega) (by omega) hz hn
        · skip
          exact absurd rfl z191
      by_cases w32_2 : ((xs kk) &&& (nI 31)) = nI 2
      · skip
        rw [w32_2]
        refine s_tabI C 196 dL_law_32 (off := 164) (by decide) (by decide) rfl (by decide) ?_
        refine s_aload_n C 197 dL_law_196 rfl rfl ?_
        refine s_invV C 200 (336 * ((Ls - (kk + 3)) / 3)) (6272 * ((Ls - (kk + 3)) / 3)) [] (zR_rv hz) dL_law_197 rfl m_L_23 (z_syntaxError hz) rfl rfl rfl ⟨by decide, by decide⟩ (Nat.le_of_ble_eq_true rfl) (by omega) (by omega) ?_
        rintro _ M11 ⟨rfl, hz, hF1⟩
        dsimp only [Option.toList, List.cons_append, List.nil_append]
        have hn := hn.at hF1 (fun t ht => tz_300 ht)
        refine s_aload_n C 201 dL_law_200 rfl rfl ?_
        refine s_invV C 204 (336 * ((Ls - (kk + 3)) / 3)) (6272 * ((Ls - (kk + 3)) / 3)) [.int (oI (ffO g n 81 0))] (nR_rv hn) dL_law_201 rfl m_L_26 (nn_syntaxError hn) rfl rfl rfl ⟨by decide, by decide⟩ (Nat.le_of_ble_eq_true rfl) (by omega) (by omega) ?_
        rintro _ M12 ⟨rfl, hn, hF2⟩
        dsimp only [Option.toList, List.cons_append, List.nil_append]
        have hz := hz.at hF2 (fun t ht => tm_300 ht)
        refine s_icmp_eq C 685 207 dL_law_204 (by decide) rfl (fun z204 => ?_) (fun z204 => ?_)
        · skip
          refine s_iinc C 688 (nI (kk + 3)) dL_law_685 rfl rfl (by rw [← nI_add]; rfl) rfl ?_
          dsimp only [List.set]
          refine s_goto C 18 dL_law_688 (by decide) ?_
          exact ih18 (kk + 3) _ _ _ _ _ _ (by omega) (by omega) hz hn
        · skip
          exact absurd rfl z204
      by_cases w32_3 : ((xs kk) &&& (nI 31)) = nI 3
      · skip
        rw [w32_3]
        refine s_tabI C 209 dL_law_32 (off := 177) (by decide) (by decide) rfl (by decide) ?_
        refine s_aload_n C 210 dL_law_209 rfl rfl ?_
        refine s_invV C 213 (336 * ((Ls - (kk + 3)) / 3)) (6272 * ((Ls - (kk + 3)) / 3)) [] (zR_rv hz) dL_law_210 rfl m_L_27 (z_carryOut hz) rfl rfl rfl ⟨by decide, by decide⟩ (Nat.le_of_ble_eq_true rfl) (by omega) (by omega) ?_
        rintro _ M13 ⟨rfl, hz, hF1⟩
        dsimp only [Option.toList, List.cons_append, List.nil_append]
        have hn := hn.at hF1 (fun t ht => tz_300 ht)
        refine s_aload_n C 214 dL_law_213 rfl rfl ?_
        refine s_invV C 217 (336 * ((Ls - (kk + 3)) / 3)) (6272 * ((Ls - (kk + 3)) / 3)) [.int (if ffO g n 81 0 = none then nI (coS g n 80 0 (T, mo, od, ql, q, ln, fl, us) 0).2 else -5)] (nR_rv hn) dL_law_214 rfl m_L_30 (nn_carryOut hn) rfl rfl rfl ⟨by decide, by decide⟩ (Nat.le_of_ble_eq_true rfl) (by omega) (by omega) ?_
        rintro _ M14 ⟨rfl, hn, hF2⟩
        dsimp only [Option.toList, List.cons_append, List.nil_append]
        have hz := hz.at hF2 (fun t ht => tm_300 ht)
        refine s_icmp_eq C 685 220 dL_law_217 (by decide) rfl (fun z217 => ?_) (fun z217 => ?_)
        · skip
          refine s_iinc C 688 (nI (kk + 3)) dL_law_685 rfl rfl (by rw [← nI_add]; rfl) rfl ?_
          dsimp only [List.set]
          refine s_goto C 18 dL_law_688 (by decide) ?_
          exact ih18 (kk + 3) _ _ _ _ _ _ (by omega) (by omega) hz hn
        · skip
          exact absurd rfl z217
      by_cases w32_4 : ((xs kk) &&& (nI 31)) = nI 4
      · skip
        rw [w32_4]
        refine s_tabI C 222 dL_law_32 (off := 190) (by decide) (by decide) rfl (by decide) ?_
        refine s_aload_n C 223 dL_law_222 rfl rfl ?_
        refine s_invV C 226 (336 * ((Ls - (kk + 3)) / 3)) (6272 * ((Ls - (kk + 3)) / 3)) [] (zR_rv hz) dL_law_223 rfl m_L_31 (z_add hz) rfl rfl rfl ⟨by decide, by decide⟩ (Nat.le_of_ble_eq_true rfl) (by omega) (by omega) ?_
        rintro _ M15 ⟨rfl, hz, hF1⟩
        dsimp only [Option.toList, List.cons_append, List.nil_append]
        have hn := hn.at hF1 (fun t ht => tz_300 ht)
        refine s_aload_n C 227 dL_law_226 rfl rfl ?_
        refine s_invV C 230 (336 * ((Ls - (kk + 3)) / 3)) (6272 * ((Ls - (kk + 3)) / 3)) [.int (if itB g n = true then (if refV T ln fl (fun j => g (0 + j)) n < 0 then refV T ln fl (fun j => g (0 + j)) n else nI T) else -5)] (nR_rv hn) dL_law_227 rfl m_L_34 (nn_add hn) rfl rfl rfl ⟨by decide, by decide⟩ (Nat.le_of_ble_eq_true rfl) (by omega) (by omega) ?_
        rintro _ M16 ⟨rfl, hn, hF2⟩
        dsimp only [Option.toList, List.cons_append, List.nil_append]
        have hz := hz.at hF2 (fun t ht => tm_300 ht)
        refine s_icmp_eq C 685 233 dL_law_230 (by decide) rfl (fun z230 => ?_) (fun z230 => ?_)
        · skip
          refine s_iinc C 688 (nI (kk + 3)) dL_law_685 rfl rfl (by rw [← nI_add]; rfl) rfl ?_
          dsimp only [List.set]
          refine s_goto C 18 dL_law_688 (by decide) ?_
          exact ih18 (kk + 3) _ _ _ _ _ _ (by omega) (by omega) hz hn
        · skip
          exact absurd rfl z230
      by_cases w32_5 : ((xs kk) &&& (nI 31)) = nI 5
      · skip
        rw [w32_5]
        refine s_tabI C 235 dL_law_32 (off := 203) (by decide) (by decide) rfl (by decide) ?_
        refine s_aload_n C 236 dL_law_235 rfl rfl ?_
        refine s_aload_n C 237 dL_law_236 rfl rfl ?_
        refine s_iload_n C 238 dL_law_237 rfl rfl ?_
        refine s_iconst C 239 (nI 1) dL_law_238 rfl (by decide) ?_
        refine s_iaddN C 240 dL_law_239 rfl ?_
        refine s_sld C hX 241 dL_law_240 rfl (by omega) hLs ?_
        refine s_invV C 244 (336 * ((Ls - (kk + 3)) / 3)) (6272 * ((Ls - (kk + 3)) / 3)) [] (zR_rv hz) dL_law_241 rfl m_L_35 (z_drop hz) rfl rfl rfl ⟨by decide, by decide⟩ (Nat.le_of_ble_eq_true rfl) (by omega) (by omega) ?_
        rintro _ M17 ⟨rfl, hz, hF1⟩
        dsimp only [Option.toList, List.cons_append, List.nil_append]
        have hn := hn.at hF1 (fun t ht => tz_300 ht)
        refine s_aload_n C 245 dL_law_244 rfl rfl ?_
        refine s_aload_n C 246 dL_law_245 rfl rfl ?_
        refine s_iload_n C 247 dL_law_246 rfl rfl ?_
        refine s_iconst C 248 (nI 1) dL_law_247 rfl (by decide) ?_
        refine s_iaddN C 249 dL_law_248 rfl ?_
        refine s_sld C hX 250 dL_law_249 rfl (by omega) hLs ?_
        refine s_invV C 253 (336 * ((Ls - (kk + 3)) / 3)) (6272 * ((Ls - (kk + 3)) / 3)) [.int (if isIx ((xs (kk + 1))) T = true then nI (T - 1) else -1)] (nR_rv hn) dL_law_250 rfl m_L_38 (nn_drop hn) rfl rfl rfl ⟨by decide, by decide⟩ (Nat.le_of_ble_eq_true rfl) (by omega) (by omega) ?_
        rintro _ M18 ⟨rfl, hn, hF2⟩
        dsimp only [Option.toList, List.cons_append, List.nil_append]
        have hz := hz.at hF2 (fun t ht => tm_300 ht)
        refine s_icmp_eq C 685 256 dL_law_253 (by decide) rfl (fun z253 => ?_) (fun z253 => ?_)
        · skip
          refine s_iinc C 688 (nI (kk + 3)) dL_law_685 rfl rfl (by rw [← nI_add]; rfl) rfl ?_
          dsimp only [List.set]
          refine s_goto C 18 dL_law_688 (by decide) ?_
          exact ih18 (kk + 3) _ _ _ _ _ _ (by omega) (by omega) hz hn
        · skip
          exact absurd rfl z253
      by_cases w32_6 : ((xs kk) &&& (nI 31)) = nI 6
      · skip
        rw [w32_6]
        refine s_tabI C 258 dL_law_32 (off := 226) (by decide) (by decide) rfl (by decide) ?_
        refine s_aload_n C 259 dL_law_258 rfl rfl ?_
        refine s_invV C 262 (336 * ((Ls - (kk + 3)) / 3)) (6272 * ((Ls - (kk + 3)) / 3)) [] (zR_rv hz) dL_law_259 rfl m_L_39 (z_titles hz) rfl rfl rfl ⟨by decide, by decide⟩ (Nat.le_of_ble_eq_true rfl) (by omega) (by omega) ?_
        rintro _ M9x ⟨rfl, rfl⟩
        dsimp only [Option.toList, List.cons_append, List.nil_append]
        refine s_aload_n C 263 dL_law_262 rfl rfl ?_
        refine s_invV C 266 (336 * ((Ls - (kk + 3)) / 3)) (6272 * ((Ls - (kk + 3)) / 3)) [.int (nI T)] (nR_rv hn) dL_law_263 rfl m_L_42 (nn_titles hn) rfl rfl rfl ⟨by decide, by decide⟩ (Nat.le_of_ble_eq_true rfl) (by omega) (by omega) ?_
        rintro _ M9xx ⟨rfl, rfl⟩
        dsimp only [Option.toList, List.cons_append, List.nil_append]
        refine s_icmp_eq C 685 269 dL_law_266 (by decide) rfl (fun z266 => ?_) (fun z266 => ?_)
        · skip
          refine s_iinc C 688 (nI (kk + 3)) dL_law_685 rfl rfl (by rw [← nI_add]; rfl) rfl ?_
          dsimp only [List.set]
          refine s_goto C 18 dL_law_688 (by decide) ?_
          exact ih18 (kk + 3) _ _ _ _ _ _ (by omega) (by omega) hz hn
        · skip
          exact absurd rfl z266
      by_cases w32_7 : ((xs kk) &&& (nI 31)) = nI 7
      · skip
        rw [w32_7]
        refine s_tabI C 271 dL_law_32 (off := 239) (by decide) (by decide) rfl (by decide) ?_
        refine s_aload_n C 272 dL_law_271 rfl rfl ?_
        refine s_aload_n C 273 dL_law_272 rfl rfl ?_
        refine s_iload_n C 274 dL_law_273 rfl rfl ?_
        refine s_iconst C 275 (nI 1) dL_law_274 rfl (by decide) ?_
        refine s_iaddN C 276 dL_law_275 rfl ?_
        refine s_sld C hX 277 dL_law_276 rfl (by omega) hLs ?_
        refine s_aload_n C 278 dL_law_277 rfl rfl ?_
        refine s_iload_n C 279 dL_law_278 rfl rfl ?_
        refine s_iconst C 280 (nI 2) dL_law_279 rfl (by decide) ?_
        refine s_iaddN C 281 dL_law_280 rfl ?_
        refine s_sld C hX 282 dL_law_281 rfl (by omega) hLs ?_
        refine s_invV C 285 (336 * ((Ls - (kk + 3)) / 3)) (6272 * ((Ls - (kk + 3)) / 3)) [] (zR_rv hz) dL_law_282 rfl m_L_43 (z_character hz) rfl rfl rfl ⟨by decide, by decide⟩ (Nat.le_of_ble_eq_true rfl) (by omega) (by omega) ?_
        rintro _ M9x ⟨rfl, rfl⟩
        dsimp only [Option.toList, List.cons_append, List.nil_append]
        refine s_aload_n C 286 dL_law_285 rfl rfl ?_
        refine s_aload_n C 287 dL_law_286 rfl rfl ?_
        refine s_iload_n C 288 dL_law_287 rfl rfl ?_
        refine s_iconst C 289 (nI 1) dL_law_288 rfl (by decide) ?_
        refine s_iaddN C 290 dL_law_289 rfl ?_
        refine s_sld C hX 291 dL_law_290 rfl (by omega) hLs ?_
        refine s_aload_n C 292 dL_law_291 rfl rfl ?_
        refine s_iload_n C 293 dL_law_292 rfl rfl ?_
        refine s_iconst C 294 (nI 2) dL_law_293 rfl (by decide) ?_
        refine s_iaddN C 295 dL_law_294 rfl ?_
        refine s_sld C hX 296 dL_law_295 rfl (by omega) hLs ?_
        refine s_invV C 299 (336 * ((Ls - (kk + 3)) / 3)) (6272 * ((Ls - (kk + 3)) / 3)) [.int (if (isIx ((xs (kk + 1))) T && isIx ((xs (kk + 2))) (ln ((xs (kk + 1))).toNatClampNeg)) = true then fl ((xs (kk + 1))).toNatClampNeg ((xs (kk + 2))).toNatClampNeg else -1)] (nR_rv hn) dL_law_296 rfl m_L_47 (nn_character hn) rfl rfl rfl ⟨by decide, by decide⟩ (Nat.le_of_ble_eq_true rfl) (by omega) (by omega) ?_
        rintro _ M9xx ⟨rfl, rfl⟩
        dsimp only [Option.toList, List.cons_append, List.nil_append]
        refine s_icmp_eq C 685 302 dL_law_299 (by decide) rfl (fun z299 => ?_) (fun z299 => ?_)
        · skip
          refine s_iinc C 688 (nI (kk + 3)) dL_law_685 rfl rfl (by rw [← nI_add]; rfl) rfl ?_
          dsimp only [List.set]
          refine s_goto C 18 dL_law_688 (by decide) ?_
          exact ih18 (kk + 3) _ _ _ _ _ _ (by omega) (by omega) hz hn
        · skip
          exact absurd rfl z299
      by_cases w32_8 : ((xs kk) &&& (nI 31)) = nI 8
      · skip
        rw [w32_8]
        refine s_tabI C 304 dL_law_32 (off := 272) (by decide) (by decide) rfl (by decide) ?_
        refine s_aload_n C 305 dL_law_304 rfl rfl ?_
        refine s_aload_n C 306 dL_law_305 rfl rfl ?_
        refine s_iload_n C 307 dL_law_306 rfl rfl ?_
        refine s_iconst C 308 (nI 1) dL_law_307 rfl (by decide) ?_
        refine s_iaddN C 309 dL_law_308 rfl ?_
        refine s_sld C hX 310 dL_law_309 rfl (by omega) hLs ?_
        refine s_aload_n C 311 dL_law_310 rfl rfl ?_
        refine s_iload_n C 312 dL_law_311 rfl rfl ?_
        refine s_iconst C 313 (nI 2) dL_law_312 rfl (by decide) ?_
        refine s_iaddN C 314 dL_law_313 rfl ?_
        refine s_sld C hX 315 dL_law_314 rfl (by omega) hLs ?_
        refine s_invV C 318 (336 * ((Ls - (kk + 3)) / 3)) (6272 * ((Ls - (kk + 3)) / 3)) [] (zR_rv hz) dL_law_315 rfl m_L_48 (z_of hz) rfl rfl rfl ⟨by decide, by decide⟩ (Nat.le_of_ble_eq_true rfl) (by omega) (by omega) ?_
        rintro _ M19 ⟨rfl, hz, hF1⟩
        dsimp only [Option.toList, List.cons_append, List.nil_append]
        have hn := hn.at hF1 (fun t ht => by simp at ht; omega)
        refine s_aload_n C 319 dL_law_318 rfl rfl ?_
        refine s_aload_n C 320 dL_law_319 rfl rfl ?_
        refine s_iload_n C 321 dL_law_320 rfl rfl ?_
        refine s_iconst C 322 (nI 1) dL_law_321 rfl (by decide) ?_
        refine s_iaddN C 323 dL_law_322 rfl ?_
        refine s_sld C hX 324 dL_law_323 rfl (by omega) hLs ?_
        refine s_aload_n C 325 dL_law_324 rfl rfl ?_
        refine s_iload_n C 326 dL_law_325 rfl rfl ?_
        refine s_iconst C 327 (nI 2) dL_law_326 rfl (by decide) ?_
        refine s_iaddN C 328 dL_law_327 rfl ?_
        refine s_sld C hX 329 dL_law_328 rfl (by omega) hLs ?_
        refine s_invV C 332 (336 * ((Ls - (kk + 3)) / 3)) (6272 * ((Ls - (kk + 3)) / 3)) [.int (if (isIx ((xs (kk + 1))) T) = true then (if (isIx ((xs (kk + 2))) 7) = true then (ofN (ln ((xs (kk + 1))).toNatClampNeg) (1 + cnB (fl ((xs (kk + 1))).toNatClampNeg) (ln ((xs (kk + 1))).toNatClampNeg)) (us ((xs (kk + 1))).toNatClampNeg) (kyN T mo ln fl ((xs (kk + 1))).toNatClampNeg).1 (kyN T mo ln fl ((xs (kk + 1))).toNatClampNeg).2 (shN T mo od ln fl us ((xs (kk + 1))).toNatClampNeg).1 (shN T mo od ln fl us ((xs (kk + 1))).toNatClampNeg).2 ((xs (kk + 2))).toNatClampNeg) else -2) else -1)] (nR_rv hn) dL_law_329 rfl m_L_51 (nn_of hn) rfl rfl rfl ⟨by decide, by decide⟩ (Nat.le_of_ble_eq_true rfl) (by omega) (by omega) ?_
        rintro _ M20 ⟨rfl, hn, hF2⟩
        dsimp only [Option.toList, List.cons_append, List.nil_append]
        have hz := hz.at hF2 (fun t ht => tm_300 ht)
        refine s_icmp_eq C 685 335 dL_law_332 (by decide) rfl (fun z332 => ?_) (fun z332 => ?_)
        · skip
          refine s_iinc C 688 (nI (kk + 3)) dL_law_685 rfl rfl (by rw [← nI_add]; rfl) rfl ?_
          dsimp only [List.set]
          refine s_goto C 18 dL_law_688 (by decide) ?_
          exact ih18 (kk + 3) _ _ _ _ _ _ (by omega) (by omega) hz hn
        · skip
          exact absurd rfl z332
      by_cases w32_9 : ((xs kk) &&& (nI 31)) = nI 9
      · skip
        rw [w32_9]
        refine s_tabI C 337 dL_law_32 (off := 305) (by decide) (by decide) rfl (by decide) ?_
        refine s_aload_n C 338 dL_law_337 rfl rfl ?_
        refine s_aload_n C 339 dL_law_338 rfl rfl ?_
        refine s_iload_n C 340 dL_law_339 rfl rfl ?_
        refine s_iconst C 341 (nI 1) dL_law_340 rfl (by decide) ?_
        refine s_iaddN C 342 dL_law_341 rfl ?_
        refine s_sld C hX 343 dL_law_342 rfl (by omega) hLs ?_
        refine s_aload_n C 344 dL_law_343 rfl rfl ?_
        refine s_iload_n C 345 dL_law_344 rfl rfl ?_
        refine s_iconst C 346 (nI 2) dL_law_345 rfl (by decide) ?_
        refine s_iaddN C 347 dL_law_346 rfl ?_
        refine s_sld C hX 348 dL_law_347 rfl (by omega) hLs ?_
        refine s_invV C 351 (336 * ((Ls - (kk + 3)) / 3)) (6272 * ((Ls - (kk + 3)) / 3)) [] (zR_rv hz) dL_law_348 rfl m_L_52 (z_common hz) rfl rfl rfl ⟨by decide, by decide⟩ (Nat.le_of_ble_eq_true rfl) (by omega) (by omega) ?_
        rintro _ M9x ⟨rfl, rfl⟩
        dsimp only [Option.toList, List.cons_append, List.nil_append]
        refine s_aload_n C 352 dL_law_351 rfl rfl ?_
        refine s_aload_n C 353 dL_law_352 rfl rfl ?_
        refine s_iload_n C 354 dL_law_353 rfl rfl ?_
        refine s_iconst C 355 (nI 1) dL_law_354 rfl (by decide) ?_
        refine s_iaddN C 356 dL_law_355 rfl ?_
        refine s_sld C hX 357 dL_law_356 rfl (by omega) hLs ?_
        refine s_aload_n C 358 dL_law_357 rfl rfl ?_
        refine s_iload_n C 359 dL_law_358 rfl rfl ?_
        refine s_iconst C 360 (nI 2) dL_law_359 rfl (by decide) ?_
        refine s_iaddN C 361 dL_law_360 rfl ?_
        refine s_sld C hX 362 dL_law_361 rfl (by omega) hLs ?_
        refine s_invV C 365 (336 * ((Ls - (kk + 3)) / 3)) (6272 * ((Ls - (kk + 3)) / 3)) [.int (if (isIx ((xs (kk + 1))) T && isIx ((xs (kk + 2))) T) = true then nI (cmI (fl ((xs (kk + 1))).toNatClampNeg) (fl ((xs (kk + 2))).toNatClampNeg) (ln ((xs (kk + 1))).toNatClampNeg) (ln ((xs (kk + 2))).toNatClampNeg) (ln ((xs (kk + 1))).toNatClampNeg)) else -1)] (nR_rv hn) dL_law_362 rfl m_L_55 (nn_common hn) rfl rfl rfl ⟨by decide, by decide⟩ (Nat.le_of_ble_eq_true rfl) (by omega) (by omega) ?_
        rintro _ M21 ⟨rfl, hn, hF2⟩
        dsimp only [Option.toList, List.cons_append, List.nil_append]
        have hz := hz.at hF2 (fun t ht => tm_300 ht)
        refine s_icmp_eq C 685 368 dL_law_365 (by decide) rfl (fun z365 => ?_) (fun z365 => ?_)
        · skip
          refine s_iinc C 688 (nI (kk + 3)) dL_law_685 rfl rfl (by rw [← nI_add]; rfl) rfl ?_
          dsimp only [List.set]
          refine s_goto C 18 dL_law_688 (by decide) ?_
          exact ih18 (kk + 3) _ _ _ _ _ _ (by omega) (by omega) hz hn
        · skip
          exact absurd rfl z365
      by_cases w32_10 : ((xs kk) &&& (nI 31)) = nI 10
      · skip
        rw [w32_10]
        refine s_tabI C 370 dL_law_32 (off := 338) (by decide) (by decide) rfl (by decide) ?_
        refine s_aload_n C 371 dL_law_370 rfl rfl ?_
        refine s_aload_n C 372 dL_law_371 rfl rfl ?_
        refine s_iload_n C 373 dL_law_372 rfl rfl ?_
        refine s_iconst C 374 (nI 1) dL_law_373 rfl (by decide) ?_
        refine s_iaddN C 375 dL_law_374 rfl ?_
        refine s_sld C hX 376 dL_law_375 rfl (by omega) hLs ?_
        refine s_invV C 379 (336 * ((Ls - (kk + 3)) / 3)) (6272 * ((Ls - (kk + 3)) / 3)) [] (zR_rv hz) dL_law_376 rfl m_L_56 (z_closest hz) rfl rfl rfl ⟨by decide, by decide⟩ (Nat.le_of_ble_eq_true rfl) (by omega) (by omega) ?_
        rintro _ M9x ⟨rfl, rfl⟩
        dsimp only [Option.toList, List.cons_append, List.nil_append]
        refine s_aload_n C 380 dL_law_379 rfl rfl ?_
        refine s_aload_n C 381 dL_law_380 rfl rfl ?_
        refine s_iload_n C 382 dL_law_381 rfl rfl ?_
        refine s_iconst C 383 (nI 1) dL_law_382 rfl (by decide) ?_
        refine s_iaddN C 384 dL_law_383 rfl ?_
        refine s_sld C hX 385 dL_law_384 rfl (by omega) hLs ?_
        refine s_invV C 388 (336 * ((Ls - (kk + 3)) / 3)) (6272 * ((Ls - (kk + 3)) / 3)) [.int (if isIx ((xs (kk + 1))) T = true then oI (clN (fun i => cmI (fl ((xs (kk + 1))).toNatClampNeg) (fl i) (ln ((xs (kk + 1))).toNatClampNeg) (ln i) (ln ((xs (kk + 1))).toNatClampNeg)) ((xs (kk + 1))).toNatClampNeg T) else -1)] (nR_rv hn) dL_law_385 rfl m_L_59 (nn_closest hn) rfl rfl rfl ⟨by decide, by decide⟩ (Nat.le_of_ble_eq_true rfl) (by omega) (by omega) ?_
        rintro _ M22 ⟨rfl, hn, hF2⟩
        dsimp only [Option.toList, List.cons_append, List.nil_append]
        have hz := hz.at hF2 (fun t ht => tm_300 ht)
        refine s_icmp_eq C 685 391 dL_law_388 (by decide) rfl (fun z388 => ?_) (fun z388 => ?_)
        · skip
          refine s_iinc C 688 (nI (kk + 3)) dL_law_685 rfl rfl (by rw [← nI_add]; rfl) rfl ?_
          dsimp only [List.set]
          refine s_goto C 18 dL_law_688 (by decide) ?_
          exact ih18 (kk + 3) _ _ _ _ _ _ (by omega) (by omega) hz hn
        · skip
          exact absurd rfl z388
      by_cases w32_11 : ((xs kk) &&& (nI 31)) = nI 11
      · skip
        rw [w32_11]
        refine s_tabI C 393 dL_law_32 (off := 361) (by decide) (by decide) rfl (by decide) ?_
        refine s_aload_n C 394 dL_law_393 rfl rfl ?_
        refine s_invV C 397 (336 * ((Ls - (kk + 3)) / 3)) (6272 * ((Ls - (kk + 3)) / 3)) [] (zR_rv hz) dL_law_394 rfl m_L_60 (z_unknown hz hn.T16) rfl rfl rfl ⟨by decide, by decide⟩ (Nat.le_of_ble_eq_true rfl) (by omega) (by omega) ?_
        rintro _ M23 ⟨rfl, hz, hF1⟩
        dsimp only [Option.toList, List.cons_append, List.nil_append]
        have hn := hn.at hF1 (fun t ht => by simp at ht; omega)
        refine s_aload_n C 398 dL_law_397 rfl rfl ?_
        refine s_invV C 401 (336 * ((Ls - (kk + 3)) / 3)) (6272 * ((Ls - (kk + 3)) / 3)) [.int (nI (unN T mo ln fl T))] (nR_rv hn) dL_law_398 rfl m_L_63 (nn_unknown hn) rfl rfl rfl ⟨by decide, by decide⟩ (Nat.le_of_ble_eq_true rfl) (by omega) (by omega) ?_
        rintro _ M24 ⟨rfl, hn, hF2⟩
        dsimp only [Option.toList, List.cons_append, List.nil_append]
        have hz := hz.at hF2 (fun t ht => tm_300 ht)
        refine s_icmp_eq C 685 404 dL_law_401 (by decide) rfl (fun z401 => ?_) (fun z401 => ?_)
        · skip
          refine s_iinc C 688 (nI (kk + 3)) dL_law_685 rfl rfl (by rw [← nI_add]; rfl) rfl ?_
          dsimp only [List.set]
          refine s_goto C 18 dL_law_688 (by decide) ?_
          exact ih18 (kk + 3) _ _ _ _ _ _ (by omega) (by omega) hz hn
        · skip
          exact absurd rfl z401
      by_cases w32_12 : ((xs kk) &&& (nI 31)) = nI 12
      · skip
        rw [w32_12]
        refine s_tabI C 406 dL_law_32 (off := 374) (by decide) (by decide) rfl (by decide) ?_
        refine s_aload_n C 407 dL_law_406 rfl rfl ?_
        refine s_invV C 410 (336 * ((Ls - (kk + 3)) / 3)) (6272 * ((Ls - (kk + 3)) / 3)) [] (zR_rv hz) dL_law_407 rfl m_L_64 (z_hardest hz hn.T16) rfl rfl rfl ⟨by decide, by decide⟩ (Nat.le_of_ble_eq_true rfl) (by omega) (by omega) ?_
        rintro _ M25 ⟨rfl, hz, hF1⟩
        dsimp only [Option.toList, List.cons_append, List.nil_append]
        have hn := hn.at hF1 (fun t ht => by simp at ht; omega)
        refine s_aload_n C 411 dL_law_410 rfl rfl ?_
        refine s_invV C 414 (336 * ((Ls - (kk + 3)) / 3)) (6272 * ((Ls - (kk + 3)) / 3)) [.int (oI (hdN T mo ln fl T).2)] (nR_rv hn) dL_law_411 rfl m_L_67 (nn_hardest hn) rfl rfl rfl ⟨by decide, by decide⟩ (Nat.le_of_ble_eq_true rfl) (by omega) (by omega) ?_
        rintro _ M26 ⟨rfl, hn, hF2⟩
        dsimp only [Option.toList, List.cons_append, List.nil_append]
        have hz := hz.at hF2 (fun t ht => tm_300 ht)
        refine s_icmp_eq C 685 417 dL_law_414 (by decide) rfl (fun z414 => ?_) (fun z414 => ?_)
        · skip
          refine s_iinc C 688 (nI (kk + 3)) dL_law_685 rfl rfl (by rw [← nI_add]; rfl) rfl ?_
          dsimp only [List.set]
          refine s_goto C 18 dL_law_688 (by decide) ?_
          exact ih18 (kk + 3) _ _ _ _ _ _ (by omega) (by omega) hz hn
        · skip
          exact absurd rfl z414
      by_cases w32_13 : ((xs kk) &&& (nI 31)) = nI 13
      · skip
        rw [w32_13]
        refine s_tabI C 419 dL_law_32 (off := 387) (by decide) (by decide) rfl (by decide) ?_
        refine s_aload_n C 420 dL_law_419 rfl rfl ?_
        refine s_invV C 423 (336 * ((Ls - (kk + 3)) / 3)) (6272 * ((Ls - (kk + 3)) / 3)) [] (zR_rv hz) dL_law_420 rfl m_L_68 (z_ifAdded hz) rfl rfl rfl ⟨by decide, by decide⟩ (Nat.le_of_ble_eq_true rfl) (by omega) (by omega) ?_
        rintro _ M27 ⟨rfl, hz, hF1⟩
        dsimp only [Option.toList, List.cons_append, List.nil_append]
        have hn := hn.at hF1 (fun t ht => tz_300 ht)
        refine s_aload_n C 424 dL_law_423 rfl rfl ?_
        refine s_invV C 427 (336 * ((Ls - (kk + 3)) / 3)) (6272 * ((Ls - (kk + 3)) / 3)) [.int (if itB g n = true then (if refV T ln fl (fun j => g (0 + j)) n < 0 then refV T ln fl (fun j => g (0 + j)) n else nI (chN T mo ln fl n (fun j => g (0 + j)) T)) else -5)] (nR_rv hn) dL_law_424 rfl m_L_71 (nn_ifAdded hn) rfl rfl rfl ⟨by decide, by decide⟩ (Nat.le_of_ble_eq_true rfl) (by omega) (by omega) ?_
        rintro _ M28 ⟨rfl, hn, hF2⟩
        dsimp only [Option.toList, List.cons_append, List.nil_append]
        have hz := hz.at hF2 (fun t ht => tm_300 ht)
        refine s_icmp_eq C 685 430 dL_law_427 (by decide) rfl (fun z427 => ?_) (fun z427 => ?_)
        · skip
          refine s_iinc C 688 (nI (kk + 3)) dL_law_685 rfl rfl (by rw [← nI_add]; rfl) rfl ?_
          dsimp only [List.set]
          refine s_goto C 18 dL_law_688 (by decide) ?_
          exact ih18 (kk + 3) _ _ _ _ _ _ (by omega) (by omega) hz hn
        · skip
          exact absurd rfl z427
      by_cases w32_14 : ((xs kk) &&& (nI 31)) = nI 14
      · skip
        rw [w32_14]
        refine s_tabI C 432 dL_law_32 (off := 400) (by decide) (by decide) rfl (by decide) ?_
        refine s_aload_n C 433 dL_law_432 rfl rfl ?_
        refine s_aload_n C 434 dL_law_433 rfl rfl ?_
        refine s_iload_n C 435 dL_law_434 rfl rfl ?_
        refine s_iconst C 436 (nI 1) dL_law_435 rfl (by decide) ?_
        refine s_iaddN C 437 dL_law_436 rfl ?_
        refine s_sld C hX 438 dL_law_437 rfl (by omega) hLs ?_
        refine s_invV C 441 (336 * ((Ls - (kk + 3)) / 3)) (6272 * ((Ls - (kk + 3)) / 3)) [] (zR_rv hz) dL_law_438 rfl m_L_72 (z_setMode hz) rfl rfl rfl ⟨by decide, by decide⟩ (Nat.le_of_ble_eq_true rfl) (by omega) (by omega) ?_
        rintro _ M29 ⟨rfl, hz, hF1⟩
        dsimp only [Option.toList, List.cons_append, List.nil_append]
        have hn := hn.at hF1 (fun t ht => tz_300 ht)
        refine s_aload_n C 442 dL_law_441 rfl rfl ?_
        refine s_aload_n C 443 dL_law_442 rfl rfl ?_
        refine s_iload_n C 444 dL_law_443 rfl rfl ?_
        refine s_iconst C 445 (nI 1) dL_law_444 rfl (by decide) ?_
        refine s_iaddN C 446 dL_law_445 rfl ?_
        refine s_sld C hX 447 dL_law_446 rfl (by omega) hLs ?_
        refine s_invV C 450 (336 * ((Ls - (kk + 3)) / 3)) (6272 * ((Ls - (kk + 3)) / 3)) [.int (if (isIx ((xs (kk + 1))) 4) = true then nI mo else -2)] (nR_rv hn) dL_law_447 rfl m_L_75 (nn_setMode hn) rfl rfl rfl ⟨by decide, by decide⟩ (Nat.le_of_ble_eq_true rfl) (by omega) (by omega) ?_
        rintro _ M30 ⟨rfl, hn, hF2⟩
        dsimp only [Option.toList, List.cons_append, List.nil_append]
        have hz := hz.at hF2 (fun t ht => tm_300 ht)
        refine s_icmp_eq C 685 453 dL_law_450 (by decide) rfl (fun z450 => ?_) (fun z450 => ?_)
        · skip
          refine s_iinc C 688 (nI (kk + 3)) dL_law_685 rfl rfl (by rw [← nI_add]; rfl) rfl ?_
          dsimp only [List.set]
          refine s_goto C 18 dL_law_688 (by decide) ?_
          exact ih18 (kk + 3) _ _ _ _ _ _ (by omega) (by omega) hz hn
        · skip
          exact absurd rfl z450
      by_cases w32_15 : ((xs kk) &&& (nI 31)) = nI 15
      · skip
        rw [w32_15]
        refine s_tabI C 455 dL_law_32 (off := 423) (by decide) (by decide) rfl (by decide) ?_
        refine s_aload_n C 456 dL_law_455 rfl rfl ?_
        refine s_aload_n C 457 dL_law_456 rfl rfl ?_
        refine s_iload_n C 458 dL_law_457 rfl rfl ?_
        refine s_iconst C 459 (nI 1) dL_law_458 rfl (by decide) ?_
        refine s_iaddN C 460 dL_law_459 rfl ?_
        refine s_sld C hX 461 dL_law_460 rfl (by omega) hLs ?_
        refine s_invV C 464 (336 * ((Ls - (kk + 3)) / 3)) (6272 * ((Ls - (kk + 3)) / 3)) [] (zR_rv hz) dL_law_461 rfl m_L_76 (z_setOrder hz) rfl rfl rfl ⟨by decide, by decide⟩ (Nat.le_of_ble_eq_true rfl) (by omega) (by omega) ?_
        rintro _ M31 ⟨rfl, hz, hF1⟩
        dsimp only [Option.toList, List.cons_append, List.nil_append]
        have hn := hn.at hF1 (fun t ht => tz_300 ht)
        refine s_aload_n C 465 dL_law_464 rfl rfl ?_
        refine s_aload_n C 466 dL_law_465 rfl rfl ?_
        refine s_iload_n C 467 dL_law_466 rfl rfl ?_
        refine s_iconst C 468 (nI 1) dL_law_467 rfl (by decide) ?_
        refine s_iaddN C 469 dL_law_468 rfl ?_
        refine s_sld C hX 470 dL_law_469 rfl (by omega) hLs ?_
        refine s_invV C 473 (336 * ((Ls - (kk + 3)) / 3)) (6272 * ((Ls - (kk + 3)) / 3)) [.int (if (isIx ((xs (kk + 1))) 3) = true then nI od else -2)] (nR_rv hn) dL_law_470 rfl m_L_79 (nn_setOrder hn) rfl rfl rfl ⟨by decide, by decide⟩ (Nat.le_of_ble_eq_true rfl) (by omega) (by omega) ?_
        rintro _ M32 ⟨rfl, hn, hF2⟩
        dsimp only [Option.toList, List.cons_append, List.nil_append]
        have hz := hz.at hF2 (fun t ht => tm_300 ht)
        refine s_icmp_eq C 685 476 dL_law_473 (by decide) rfl (fun z473 => ?_) (fun z473 => ?_)
        · skip
          refine s_iinc C 688 (nI (kk + 3)) dL_law_685 rfl rfl (by rw [← nI_add]; rfl) rfl ?_
          dsimp only [List.set]
          refine s_goto C 18 dL_law_688 (by decide) ?_
          exact ih18 (kk + 3) _ _ _ _ _ _ (by omega) (by omega) hz hn
        · skip
          exact absurd rfl z473
      by_cases w32_16 : ((xs kk) &&& (nI 31)) = nI 16
      · skip
        rw [w32_16]
        refine s_tabI C 478 dL_law_32 (off := 446) (by decide) (by decide) rfl (by decide) ?_
        refine s_aload_n C 479 dL_law_478 rfl rfl ?_
        refine s_invV C 482 (336 * ((Ls - (kk + 3)) / 3)) (6272 * ((Ls - (kk + 3)) / 3)) [] (zR_rv hz) dL_law_479 rfl m_L_80 (z_mode hz) rfl rfl rfl ⟨by decide, by decide⟩ (Nat.le_of_ble_eq_true rfl) (by omega) (by omega) ?_
        rintro _ M9x ⟨rfl, rfl⟩
        dsimp only [Option.toList, List.cons_append, List.nil_append]
        refine s_aload_n C 483 dL_law_482 rfl rfl ?_
        refine s_invV C 486 (336 * ((Ls - (kk + 3)) / 3)) (6272 * ((Ls - (kk + 3)) / 3)) [.int (nI mo)] (nR_rv hn) dL_law_483 rfl m_L_83 (nn_mode hn) rfl rfl rfl ⟨by decide, by decide⟩ (Nat.le_of_ble_eq_true rfl) (by omega) (by omega) ?_
        rintro _ M9xx ⟨rfl, rfl⟩
        dsimp only [Option.toList, List.cons_append, List.nil_append]
        refine s_icmp_eq C 685 489 dL_law_486 (by decide) rfl (fun z486 => ?_) (fun z486 => ?_)
        · skip
          refine s_iinc C 688 (nI (kk + 3)) dL_law_685 rfl rfl (by rw [← nI_add]; rfl) rfl ?_
          dsimp only [List.set]
          refine s_goto C 18 dL_law_688 (by decide) ?_
          exact ih18 (kk + 3) _ _ _ _ _ _ (by omega) (by omega) hz hn
        · skip
          exact absurd rfl z486
      by_cases w32_17 : ((xs kk) &&& (nI 31)) = nI 17
      · skip
        rw [w32_17]
        refine s_tabI C 491 dL_law_32 (off := 459) (by decide) (by decide) rfl (by decide) ?_
        refine s_aload_n C 492 dL_law_491 rfl rfl ?_
        refine s_invV C 495 (336 * ((Ls - (kk + 3)) / 3)) (6272 * ((Ls - (kk + 3)) / 3)) [] (zR_rv hz) dL_law_492 rfl m_L_84 (z_order hz) rfl rfl rfl ⟨by decide, by decide⟩ (Nat.le_of_ble_eq_true rfl) (by omega) (by omega) ?_
        rintro _ M9x ⟨rfl, rfl⟩
        dsimp only [Option.toList, List.cons_append, List.nil_append]
        refine s_aload_n C 496 dL_law_495 rfl rfl ?_
        refine s_invV C 499 (336 * ((Ls - (kk + 3)) / 3)) (6272 * ((Ls - (kk + 3)) / 3)) [.int (nI od)] (nR_rv hn) dL_law_496 rfl m_L_87 (nn_order hn) rfl rfl rfl ⟨by decide, by decide⟩ (Nat.le_of_ble_eq_true rfl) (by omega) (by omega) ?_
        rintro _ M9xx ⟨rfl, rfl⟩
        dsimp only [Option.toList, List.cons_append, List.nil_append]
        refine s_icmp_eq C 685 502 dL_law_499 (by decide) rfl (fun z499 => ?_) (fun z499 => ?_)
        · skip
          refine s_iinc C 688 (nI (kk + 3)) dL_law_685 rfl rfl (by rw [← nI_add]; rfl) rfl ?_
          dsimp only [List.set]
          refine s_goto C 18 dL_law_688 (by decide) ?_
          exact ih18 (kk + 3) _ _ _ _ _ _ (by omega) (by omega) hz hn
        · skip
          exact absurd rfl z499
      by_cases w32_18 : ((xs kk) &&& (nI 31)) = nI 18
      · skip
        rw [w32_18]
        refine s_tabI C 504 dL_law_32 (off := 472) (by decide) (by decide) rfl (by decide) ?_
        refine s_aload_n C 505 dL_law_504 rfl rfl ?_
        refine s_aload_n C 506 dL_law_505 rfl rfl ?_
        refine s_iload_n C 507 dL_law_506 rfl rfl ?_
        refine s_iconst C 508 (nI 1) dL_law_507 rfl (by decide) ?_
        refine s_iaddN C 509 dL_law_508 rfl ?_
        refine s_sld C hX 510 dL_law_509 rfl (by omega) hLs ?_
        refine s_invV C 513 (336 * ((Ls - (kk + 3)) / 3)) (6272 * ((Ls - (kk + 3)) / 3)) [] (zR_rv hz) dL_law_510 rfl m_L_88 (z_ask hz) rfl rfl rfl ⟨by decide, by decide⟩ (Nat.le_of_ble_eq_true rfl) (by omega) (by omega) ?_
        rintro _ M33 ⟨rfl, hz, hF1⟩
        dsimp only [Option.toList, List.cons_append, List.nil_append]
        have hn := hn.at hF1 (fun t ht => tz_300 ht)
        refine s_aload_n C 514 dL_law_513 rfl rfl ?_
        refine s_aload_n C 515 dL_law_514 rfl rfl ?_
        refine s_iload_n C 516 dL_law_515 rfl rfl ?_
        refine s_iconst C 517 (nI 1) dL_law_516 rfl (by decide) ?_
        refine s_iaddN C 518 dL_law_517 rfl ?_
        refine s_sld C hX 519 dL_law_518 rfl (by omega) hLs ?_
        refine s_invV C 522 (336 * ((Ls - (kk + 3)) / 3)) (6272 * ((Ls - (kk + 3)) / 3)) [.int (if ¬ (((xs (kk + 1))) = nI 32 ∨ isL ((xs (kk + 1))) = true) then -2 else if ((xs (kk + 1))) = nI 32 ∧ qeB ql q = false then -3 else if 24 ≤ ql then -4 else nI (rkN T mo od (ql + 1) (upd q ql ((xs (kk + 1)))) ln fl us T).1)] (nR_rv hn) dL_law_519 rfl m_L_91 (nn_ask hn) rfl rfl rfl ⟨by decide, by decide⟩ (Nat.le_of_ble_eq_true rfl) (by omega) (by omega) ?_
        rintro _ M34 ⟨rfl, hn, hF2⟩
        dsimp only [Option.toList, List.cons_append, List.nil_append]
        have hz := hz.at hF2 (fun t ht => tm_300 ht)
        refine s_icmp_eq C 685 525 dL_law_522 (by decide) rfl (fun z522 => ?_) (fun z522 => ?_)
        · skip
          refine s_iinc C 688 (nI (kk + 3)) dL_law_685 rfl rfl (by rw [← nI_add]; rfl) rfl ?_
          dsimp only [List.set]
          refine s_goto C 18 dL_law_688 (by decide) ?_
          exact ih18 (kk + 3) _ _ _ _ _ _ (by omega) (by omega) hz hn
        · skip
          exact absurd rfl z522
      by_cases w32_19 : ((xs kk) &&& (nI 31)) = nI 19
      · skip
        rw [w32_19]
        refine s_tabI C 527 dL_law_32 (off := 495) (by decide) (by decide) rfl (by decide) ?_
        refine s_aload_n C 528 dL_law_527 rfl rfl ?_
        refine s_invV C 531 (336 * ((Ls - (kk + 3)) / 3)) (6272 * ((Ls - (kk + 3)) / 3)) [] (zR_rv hz) dL_law_528 rfl m_L_92 (z_erase hz) rfl rfl rfl ⟨by decide, by decide⟩ (Nat.le_of_ble_eq_true rfl) (by omega) (by omega) ?_
        rintro _ M35 ⟨rfl, hz, hF1⟩
        dsimp only [Option.toList, List.cons_append, List.nil_append]
        have hn := hn.at hF1 (fun t ht => tz_300 ht)
        refine s_aload_n C 532 dL_law_531 rfl rfl ?_
        refine s_invV C 535 (336 * ((Ls - (kk + 3)) / 3)) (6272 * ((Ls - (kk + 3)) / 3)) [.int (if 0 < ql then nI (rkN T mo od (ql - 1) q ln fl us T).1 else -3)] (nR_rv hn) dL_law_532 rfl m_L_95 (nn_erase hn) rfl rfl rfl ⟨by decide, by decide⟩ (Nat.le_of_ble_eq_true rfl) (by omega) (by omega) ?_
        rintro _ M36 ⟨rfl, hn, hF2⟩
        dsimp only [Option.toList, List.cons_append, List.nil_append]
        have hz := hz.at hF2 (fun t ht => tm_300 ht)
        refine s_icmp_eq C 685 538 dL_law_535 (by decide) rfl (fun z535 => ?_) (fun z535 => ?_)
        · skip
          refine s_iinc C 688 (nI (kk + 3)) dL_law_685 rfl rfl (by rw [← nI_add]; rfl) rfl ?_
          dsimp only [List.set]
          refine s_goto C 18 dL_law_688 (by decide) ?_
          exact ih18 (kk + 3) _ _ _ _ _ _ (by omega) (by omega) hz hn
        · skip
          exact absurd rfl z535
      by_cases w32_20 : ((xs kk) &&& (nI 31)) = nI 20
      · skip
        rw [w32_20]
        refine s_tabI C 540 dL_law_32 (off := 508) (by decide) (by decide) rfl (by decide) ?_
        refine s_aload_n C 541 dL_law_540 rfl rfl ?_
        refine s_invV C 544 (336 * ((Ls - (kk + 3)) / 3)) (6272 * ((Ls - (kk + 3)) / 3)) [] (zR_rv hz) dL_law_541 rfl m_L_96 (z_queryLength hz) rfl rfl rfl ⟨by decide, by decide⟩ (Nat.le_of_ble_eq_true rfl) (by omega) (by omega) ?_
        rintro _ M9x ⟨rfl, rfl⟩
        dsimp only [Option.toList, List.cons_append, List.nil_append]
        refine s_aload_n C 545 dL_law_544 rfl rfl ?_
        refine s_invV C 548 (336 * ((Ls - (kk + 3)) / 3)) (6272 * ((Ls - (kk + 3)) / 3)) [.int (nI ql)] (nR_rv hn) dL_law_545 rfl m_L_99 (nn_queryLength hn) rfl rfl rfl ⟨by decide, by decide⟩ (Nat.le_of_ble_eq_true rfl) (by omega) (by omega) ?_
        rintro _ M9xx ⟨rfl, rfl⟩
        dsimp only [Option.toList, List.cons_append, List.nil_append]
        refine s_icmp_eq C 685 551 dL_law_548 (by decide) rfl (fun z548 => ?_) (fun z548 => ?_)
        · skip
          refine s_iinc C 688 (nI (kk + 3)) dL_law_685 rfl rfl (by rw [← nI_add]; rfl) rfl ?_
          dsimp only [List.set]
          refine s_goto C 18 dL_law_688 (by decide) ?_
          exact ih18 (kk + 3) _ _ _ _ _ _ (by omega) (by omega) hz hn
        · skip
          exact absurd rfl z548
      by_cases w32_21 : ((xs kk) &&& (nI 31)) = nI 21
      · skip
        rw [w32_21]
        refine s_tabI C 553 dL_law_32 (off := 521) (by decide) (by decide) rfl (by decide) ?_
        refine s_aload_n C 554 dL_law_553 rfl rfl ?_
        refine s_aload_n C 555 dL_law_554 rfl rfl ?_
        refine s_iload_n C 556 dL_law_555 rfl rfl ?_
        refine s_iconst C 557 (nI 1) dL_law_556 rfl (by decide) ?_
        refine s_iaddN C 558 dL_law_557 rfl ?_
        refine s_sld C hX 559 dL_law_558 rfl (by omega) hLs ?_
        refine s_invV C 562 (336 * ((Ls - (kk + 3)) / 3)) (6272 * ((Ls - (kk + 3)) / 3)) [] (zR_rv hz) dL_law_559 rfl m_L_100 (z_queryCharacter hz) rfl rfl rfl ⟨by decide, by decide⟩ (Nat.le_of_ble_eq_true rfl) (by omega) (by omega) ?_
        rintro _ M9x ⟨rfl, rfl⟩
        dsimp only [Option.toList, List.cons_append, List.nil_append]
        refine s_aload_n C 563 dL_law_562 rfl rfl ?_
        refine s_aload_n C 564 dL_law_563 rfl rfl ?_
        refine s_iload_n C 565 dL_law_564 rfl rfl ?_
        refine s_iconst C 566 (nI 1) dL_law_565 rfl (by decide) ?_
        refine s_iaddN C 567 dL_law_566 rfl ?_
        refine s_sld C hX 568 dL_law_567 rfl (by omega) hLs ?_
        refine s_invV C 571 (336 * ((Ls - (kk + 3)) / 3)) (6272 * ((Ls - (kk + 3)) / 3)) [.int (if isIx ((xs (kk + 1))) ql = true then q ((xs (kk + 1))).toNatClampNeg else -1)] (nR_rv hn) dL_law_568 rfl m_L_103 (nn_queryCharacter hn) rfl rfl rfl ⟨by decide, by decide⟩ (Nat.le_of_ble_eq_true rfl) (by omega) (by omega) ?_
        rintro _ M9xx ⟨rfl, rfl⟩
        dsimp only [Option.toList, List.cons_append, List.nil_append]
        refine s_icmp_eq C 685 574 dL_law_571 (by decide) rfl (fun z571 => ?_) (fun z571 => ?_)
        · skip
          refine s_iinc C 688 (nI (kk + 3)) dL_law_685 rfl rfl (by rw [← nI_add]; rfl) rfl ?_
          dsimp only [List.set]
          refine s_goto C 18 dL_law_688 (by decide) ?_
          exact ih18 (kk + 3) _ _ _ _ _ _ (by omega) (by omega) hz hn
        · skip
          exact absurd rfl z571
      by_cases w32_22 : ((xs kk) &&& (nI 31)) = nI 22
      · skip
        rw [w32_22]
        refine s_tabI C 576 dL_law_32 (off := 544) (by decide) (by decide) rfl (by decide) ?_
        refine s_aload_n C 577 dL_law_576 rfl rfl ?_
        refine s_invV C 580 (336 * ((Ls - (kk + 3)) / 3)) (6272 * ((Ls - (kk + 3)) / 3)) [] (zR_rv hz) dL_law_577 rfl m_L_104 (z_results hz) rfl rfl rfl ⟨by decide, by decide⟩ (Nat.le_of_ble_eq_true rfl) (by omega) (by omega) ?_
        rintro _ M37 ⟨rfl, ⟨_, _, _, _, hzA⟩, hF1⟩
        dsimp only [Option.toList, List.cons_append, List.nil_append]
        have hz := hzA.R
        have hn := hn.at hF1 (fun t ht => by simp at ht; omega)
        refine s_aload_n C 581 dL_law_580 rfl rfl ?_
        refine s_invV C 584 (336 * ((Ls - (kk + 3)) / 3)) (6272 * ((Ls - (kk + 3)) / 3)) [.int (nI (rkN T mo od ql q ln fl us T).1)] (nR_rv hn) dL_law_581 rfl m_L_107 (nn_results hn) rfl rfl rfl ⟨by decide, by decide⟩ (Nat.le_of_ble_eq_true rfl) (by omega) (by omega) ?_
        rintro _ M38 ⟨rfl, hn, hF2⟩
        dsimp only [Option.toList, List.cons_append, List.nil_append]
        have hz := hz.at hF2 (fun t ht => tm_300 ht)
        refine s_icmp_eq C 685 587 dL_law_584 (by decide) rfl (fun z584 => ?_) (fun z584 => ?_)
        · skip
          refine s_iinc C 688 (nI (kk + 3)) dL_law_685 rfl rfl (by rw [← nI_add]; rfl) rfl ?_
          dsimp only [List.set]
          refine s_goto C 18 dL_law_688 (by decide) ?_
          exact ih18 (kk + 3) _ _ _ _ _ _ (by omega) (by omega) hz hn
        · skip
          exact absurd rfl z584
      by_cases w32_23 : ((xs kk) &&& (nI 31)) = nI 23
      · skip
        rw [w32_23]
        refine s_tabI C 589 dL_law_32 (off := 557) (by decide) (by decide) rfl (by decide) ?_
        refine s_aload_n C 590 dL_law_589 rfl rfl ?_
        refine s_aload_n C 591 dL_law_590 rfl rfl ?_
        refine s_iload_n C 592 dL_law_591 rfl rfl ?_
        refine s_iconst C 593 (nI 1) dL_law_592 rfl (by decide) ?_
        refine s_iaddN C 594 dL_law_593 rfl ?_
        refine s_sld C hX 595 dL_law_594 rfl (by omega) hLs ?_
        refine s_invV C 598 (336 * ((Ls - (kk + 3)) / 3)) (6272 * ((Ls - (kk + 3)) / 3)) [] (zR_rv hz) dL_law_595 rfl m_L_108 (z_result hz) rfl rfl rfl ⟨by decide, by decide⟩ (Nat.le_of_ble_eq_true rfl) (by omega) (by omega) ?_
        rintro _ M39 ⟨rfl, ⟨_, _, _, _, hzA⟩, hF1⟩
        dsimp only [Option.toList, List.cons_append, List.nil_append]
        have hz := hzA.R
        have hn := hn.at hF1 (fun t ht => by simp at ht; omega)
        refine s_aload_n C 599 dL_law_598 rfl rfl ?_
        refine s_aload_n C 600 dL_law_599 rfl rfl ?_
        refine s_iload_n C 601 dL_law_600 rfl rfl ?_
        refine s_iconst C 602 (nI 1) dL_law_601 rfl (by decide) ?_
        refine s_iaddN C 603 dL_law_602 rfl ?_
        refine s_sld C hX 604 dL_law_603 rfl (by omega) hLs ?_
        refine s_invV C 607 (336 * ((Ls - (kk + 3)) / 3)) (6272 * ((Ls - (kk + 3)) / 3)) [.int (if isIx ((xs (kk + 1))) (rkN T mo od ql q ln fl us T).1 = true then nI ((rkN T mo od ql q ln fl us T).2 ((xs (kk + 1))).toNatClampNeg) else -1)] (nR_rv hn) dL_law_604 rfl m_L_111 (nn_result hn) rfl rfl rfl ⟨by decide, by decide⟩ (Nat.le_of_ble_eq_true rfl) (by omega) (by omega) ?_
        rintro _ M40 ⟨rfl, hn, hF2⟩
        dsimp only [Option.toList, List.cons_append, List.nil_append]
        have hz := hz.at hF2 (fun t ht => tm_300 ht)
        refine s_icmp_eq C 685 610 dL_law_607 (by decide) rfl (fun z607 => ?_) (fun z607 => ?_)
        · skip
          refine s_iinc C 688 (nI (kk + 3)) dL_law_685 rfl rfl (by rw [← nI_add]; rfl) rfl ?_
          dsimp only [List.set]
          refine s_goto C 18 dL_law_688 (by decide) ?_
          exact ih18 (kk + 3) _ _ _ _ _ _ (by omega) (by omega) hz hn
        · skip
          exact absurd rfl z607
      by_cases w32_24 : ((xs kk) &&& (nI 31)) = nI 24
      · skip
        rw [w32_24]
        refine s_tabI C 612 dL_law_32 (off := 580) (by decide) (by decide) rfl (by decide) ?_
        refine s_aload_n C 613 dL_law_612 rfl rfl ?_
        refine s_aload_n C 614 dL_law_613 rfl rfl ?_
        refine s_iload_n C 615 dL_law_614 rfl rfl ?_
        refine s_iconst C 616 (nI 1) dL_law_615 rfl (by decide) ?_
        refine s_iaddN C 617 dL_law_616 rfl ?_
        refine s_sld C hX 618 dL_law_617 rfl (by omega) hLs ?_
        refine s_invV C 621 (336 * ((Ls - (kk + 3)) / 3)) (6272 * ((Ls - (kk + 3)) / 3)) [] (zR_rv hz) dL_law_618 rfl m_L_112 (z_matchPlace hz) rfl rfl rfl ⟨by decide, by decide⟩ (Nat.le_of_ble_eq_true rfl) (by omega) (by omega) ?_
        rintro _ M41 ⟨rfl, ⟨_, _, _, _, hzA⟩, hF1⟩
        dsimp only [Option.toList, List.cons_append, List.nil_append]
        have hz := hzA.R
        have hn := hn.at hF1 (fun t ht => by simp at ht; omega)
        refine s_aload_n C 622 dL_law_621 rfl rfl ?_
        refine s_aload_n C 623 dL_law_622 rfl rfl ?_
        refine s_iload_n C 624 dL_law_623 rfl rfl ?_
        refine s_iconst C 625 (nI 1) dL_law_624 rfl (by decide) ?_
        refine s_iaddN C 626 dL_law_625 rfl ?_
        refine s_sld C hX 627 dL_law_626 rfl (by omega) hLs ?_
        refine s_invV C 630 (336 * ((Ls - (kk + 3)) / 3)) (6272 * ((Ls - (kk + 3)) / 3)) [.int (if isIx ((xs (kk + 1))) (rkN T mo od ql q ln fl us T).1 = true then nI (plN mo ql q ln fl ((rkN T mo od ql q ln fl us T).2 ((xs (kk + 1))).toNatClampNeg)) else -1)] (nR_rv hn) dL_law_627 rfl m_L_115 (nn_matchPlace hn) rfl rfl rfl ⟨by decide, by decide⟩ (Nat.le_of_ble_eq_true rfl) (by omega) (by omega) ?_
        rintro _ M42 ⟨rfl, hn, hF2⟩
        dsimp only [Option.toList, List.cons_append, List.nil_append]
        have hz := hz.at hF2 (fun t ht => tm_300 ht)
        refine s_icmp_eq C 685 633 dL_law_630 (by decide) rfl (fun z630 => ?_) (fun z630 => ?_)
        · skip
          refine s_iinc C 688 (nI (kk + 3)) dL_law_685 rfl rfl (by rw [← nI_add]; rfl) rfl ?_
          dsimp only [List.set]
          refine s_goto C 18 dL_law_688 (by decide) ?_
          exact ih18 (kk + 3) _ _ _ _ _ _ (by omega) (by omega) hz hn
        · skip
          exact absurd rfl z630
      by_cases w32_25 : ((xs kk) &&& (nI 31)) = nI 25
      · skip
        rw [w32_25]
        refine s_tabI C 635 dL_law_32 (off := 603) (by decide) (by decide) rfl (by decide) ?_
        refine s_aload_n C 636 dL_law_635 rfl rfl ?_
        refine s_aload_n C 637 dL_law_636 rfl rfl ?_
        refine s_iload_n C 638 dL_law_637 rfl rfl ?_
        refine s_iconst C 639 (nI 1) dL_law_638 rfl (by decide) ?_
        refine s_iaddN C 640 dL_law_639 rfl ?_
        refine s_sld C hX 641 dL_law_640 rfl (by omega) hLs ?_
        refine s_invV C 644 (336 * ((Ls - (kk + 3)) / 3)) (6272 * ((Ls - (kk + 3)) / 3)) [] (zR_rv hz) dL_law_641 rfl m_L_116 (z_pick hz) rfl rfl rfl ⟨by decide, by decide⟩ (Nat.le_of_ble_eq_true rfl) (by omega) (by omega) ?_
        rintro _ M43 ⟨rfl, hz, hF1⟩
        dsimp only [Option.toList, List.cons_append, List.nil_append]
        have hn := hn.at hF1 (fun t ht => tz_300 ht)
        refine s_aload_n C 645 dL_law_644 rfl rfl ?_
        refine s_aload_n C 646 dL_law_645 rfl rfl ?_
        refine s_iload_n C 647 dL_law_646 rfl rfl ?_
        refine s_iconst C 648 (nI 1) dL_law_647 rfl (by decide) ?_
        refine s_iaddN C 649 dL_law_648 rfl ?_
        refine s_sld C hX 650 dL_law_649 rfl (by omega) hLs ?_
        refine s_invV C 653 (336 * ((Ls - (kk + 3)) / 3)) (6272 * ((Ls - (kk + 3)) / 3)) [.int (if isIx ((xs (kk + 1))) (rkN T mo od ql q ln fl us T).1 = true then nI ((rkN T mo od ql q ln fl us T).2 ((xs (kk + 1))).toNatClampNeg) else -1)] (nR_rv hn) dL_law_650 rfl m_L_119 (nn_pick hn) rfl rfl rfl ⟨by decide, by decide⟩ (Nat.le_of_ble_eq_true rfl) (by omega) (by omega) ?_
        rintro _ M44 ⟨rfl, hn, hF2⟩
        dsimp only [Option.toList, List.cons_append, List.nil_append]
        have hz := hz.at hF2 (fun t ht => tm_300 ht)
        refine s_icmp_eq C 685 656 dL_law_653 (by decide) rfl (fun z653 => ?_) (fun z653 => ?_)
        · skip
          refine s_iinc C 688 (nI (kk + 3)) dL_law_685 rfl rfl (by rw [← nI_add]; rfl) rfl ?_
          dsimp only [List.set]
          refine s_goto C 18 dL_law_688 (by decide) ?_
          exact ih18 (kk + 3) _ _ _ _ _ _ (by omega) (by omega) hz hn
        · skip
          exact absurd rfl z653
      by_cases w32_26 : ((xs kk) &&& (nI 31)) = nI 26
      · skip
        rw [w32_26]
        refine s_tabI C 658 dL_law_32 (off := 626) (by decide) (by decide) rfl (by decide) ?_
        refine s_aload_n C 659 dL_law_658 rfl rfl ?_
        refine s_invV C 662 (336 * ((Ls - (kk + 3)) / 3)) (6272 * ((Ls - (kk + 3)) / 3)) [] (zR_rv hz) dL_law_659 rfl m_L_120 (z_undo hz) rfl rfl rfl ⟨by decide, by decide⟩ (Nat.le_of_ble_eq_true rfl) (by omega) (by omega) ?_
        rintro _ M45 ⟨rfl, hz, hF1⟩
        dsimp only [Option.toList, List.cons_append, List.nil_append]
        have hn := hn.at hF1 (fun t ht => tz_300 ht)
        refine s_aload_n C 663 dL_law_662 rfl rfl ?_
        refine s_invV C 666 (336 * ((Ls - (kk + 3)) / 3)) (6272 * ((Ls - (kk + 3)) / 3)) [.int (if 0 < c then nI (c - 1) else -3)] (nR_rv hn) dL_law_663 rfl m_L_123 (nn_undo hn) rfl rfl rfl ⟨by decide, by decide⟩ (Nat.le_of_ble_eq_true rfl) (by omega) (by omega) ?_
        rintro _ M46 ⟨rfl, hn, hF2⟩
        dsimp only [Option.toList, List.cons_append, List.nil_append]
        have hz := hz.at hF2 (fun t ht => tm_300 ht)
        refine s_icmp_eq C 685 669 dL_law_666 (by decide) rfl (fun z666 => ?_) (fun z666 => ?_)
        · skip
          refine s_iinc C 688 (nI (kk + 3)) dL_law_685 rfl rfl (by rw [← nI_add]; rfl) rfl ?_
          dsimp only [List.set]
          refine s_goto C 18 dL_law_688 (by decide) ?_
          exact ih18 (kk + 3) _ _ _ _ _ _ (by omega) (by omega) hz hn
        · skip
          exact absurd rfl z666
      by_cases w32_27 : ((xs kk) &&& (nI 31)) = nI 27
      · skip
        rw [w32_27]
        refine s_tabI C 671 dL_law_32 (off := 639) (by decide) (by decide) rfl (by decide) ?_
        refine s_aload_n C 672 dL_law_671 rfl rfl ?_
        refine s_invV C 675 (336 * ((Ls - (kk + 3)) / 3)) (6272 * ((Ls - (kk + 3)) / 3)) [] (zR_rv hz) dL_law_672 rfl m_L_124 (z_digest hz) rfl rfl rfl ⟨by decide, by decide⟩ (Nat.le_of_ble_eq_true rfl) (by omega) (by omega) ?_
        rintro _ M47 ⟨rfl, hz, hF1⟩
        dsimp only [Option.toList, List.cons_append, List.nil_append]
        have hn := hn.at hF1 (fun t ht => tz_300 ht)
        refine s_aload_n C 676 dL_law_675 rfl rfl ?_
        refine s_invV C 679 (336 * ((Ls - (kk + 3)) / 3)) (6272 * ((Ls - (kk + 3)) / 3)) [.long (dgN T mo od ql q ln fl us)] (nR_rv hn) dL_law_676 rfl m_L_128 (nn_digest hn) rfl rfl rfl ⟨by decide, by decide⟩ (Nat.le_of_ble_eq_true rfl) (by omega) (by omega) ?_
        rintro _ M48 ⟨rfl, hn, hF2⟩
        dsimp only [Option.toList, List.cons_append, List.nil_append]
        have hz := hz.at hF2 (fun t ht => tm_300 ht)
        refine s_lcmp C 680 dL_law_679 rfl ?_
        refine s_if_eq C 685 683 dL_law_680 (by decide) rfl (fun z680 => ?_) (fun z680 => ?_)
        · skip
          refine s_iinc C 688 (nI (kk + 3)) dL_law_685 rfl rfl (by rw [← nI_add]; rfl) rfl ?_
          dsimp only [List.set]
          refine s_goto C 18 dL_law_688 (by decide) ?_
          exact ih18 (kk + 3) _ _ _ _ _ _ (by omega) (by omega) hz hn
        · skip
          exact absurd lcmp_self z680
      refine s_tabO C 685 dL_law_32 (sw_out (x := ((xs kk) &&& (nI 31))) (lo := 0) (hi := 27) (by decide) (fun k h1 h2 => by have h3 : k = 0 ∨ k = 1 ∨ k = 2 ∨ k = 3 ∨ k = 4 ∨ k = 5 ∨ k = 6 ∨ k = 7 ∨ k = 8 ∨ k = 9 ∨ k = 10 ∨ k = 11 ∨ k = 12 ∨ k = 13 ∨ k = 14 ∨ k = 15 ∨ k = 16 ∨ k = 17 ∨ k = 18 ∨ k = 19 ∨ k = 20 ∨ k = 21 ∨ k = 22 ∨ k = 23 ∨ k = 24 ∨ k = 25 ∨ k = 26 ∨ k = 27 := (by omega); rcases h3 with rfl | rfl | rfl | rfl | rfl | rfl | rfl | rfl | rfl | rfl | rfl | rfl | rfl | rfl | rfl | rfl | rfl | rfl | rfl | rfl | rfl | rfl | rfl | rfl | rfl | rfl | rfl | rfl <;> assumption)) (by decide) ?_
      refine V.widen (bc' := 336 * ((Ls - (kk + 3)) / 3)) (bs' := 6272 * ((Ls - (kk + 3)) / 3)) (by omega) (by omega) ?_
      refine s_iinc C 688 (nI (kk + 3)) dL_law_685 rfl rfl (by rw [← nI_add]; rfl) rfl ?_
      dsimp only [List.set]
      refine s_goto C 18 dL_law_688 (by decide) ?_
      exact ih18 (kk + 3) _ _ _ _ _ _ (by omega) (by omega) hz hn
