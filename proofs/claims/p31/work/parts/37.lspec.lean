/-! the law -/
theorem mZ.nw {M M1 : mM} {a : Nat} {x : Nat × mE} (u : mU M a x M1) (hA : M a = none) : mZ [] M M1 := mZ.new mZ.rf u hA
theorem zR.at {G : mG} {M M1 : mM} {Ts : List Nat} {z : Nat} {x : mSt} {c : Nat} {hs : Nat → mSt} {n : Nat} {g : Nat → Int32} (hF : mZ Ts M M1) (hT : ∀ t, t ∈ Ts → 300 ≤ t) (h : zR G M z x c hs n g) : zR G M1 z x c hs n g := by
  obtain ⟨rc, rr, rp, y1, y2, y3, y4, s, tr, h, tx, rk, sy, hZ, hs0, ⟨yt, htr⟩, hh, ⟨p, cmd, val, fr, to, hx⟩, hk, ⟨yw, hy⟩, hch⟩ := h
  have no : ∀ t, t < 300 → t ∉ Ts := fun t h1 h2 => absurd (hT t h2) (by omega)
  exact ⟨rc, rr, rp, y1, y2, y3, y4, s, tr, h, tx, rk, sy, hF.at hZ (no _ (by omega)), hs0.at hF (no _ (by omega)) (no _ (by omega)) (fun j hj => no _ (by omega)), ⟨yt, htr.at hF (no _ (by omega)) (no _ (by omega)) (fun j hj => no _ (by omega))⟩, hh.at hF (no _ (by omega)) (no _ (by omega)) (no _ (by omega)) (fun t ht => no _ (by rw [mem_TH] at ht; omega)), ⟨p, cmd, val, fr, to, hx.at hF (no _ (by omega)) (no _ (by omega))⟩, hk.at hF (no _ (by omega)) (no _ (by omega)) (no _ (by omega)), ⟨yw, hy.at hF (no _ (by omega)) (no _ (by omega)) (no _ (by omega))⟩, hch⟩
theorem zR_new {G : mG} {M M1 : mM} {z a : Nat} {x : mSt} {c : Nat} {hs : Nat → mSt} {n : Nat} {g : Nat → Int32} {e : Nat × mE} (h : zR G M z x c hs n g) (u : mU M a e M1) (hA : M a = none) : zR G M1 z x c hs n g := h.at (mZ.nw u hA) (fun t ht => absurd ht List.not_mem_nil)
theorem zR_put {G : mG} {M M1 : mM} {z a t : Nat} {x : mSt} {c : Nat} {hs : Nat → mSt} {n : Nat} {g : Nat → Int32} {e : Nat × mE} {e0 : mE} (h : zR G M z x c hs n g) (u : mU M a e M1) (hA : M a = some (t, e0)) (ht : Nat.ble 300 t = true) : zR G M1 z x c hs n g := h.at (mZ.put (T := [t]) mZ.rf u hA List.mem_cons_self) (fun t' ht' => by rw [List.mem_singleton.mp ht']; exact Nat.le_of_ble_eq_true ht)
abbrev iL_law : mI := (yL_law, cL_law, 17, some .boolean, 12)
/-! THE CLAIM OUT OF ONE WALK OF THE LAW'S BODY. Your part is whole_start (and what it stands on); all else here is the same for every law, but numbers. -/
def R_law : String := "TitleFinderLaw"
def lw_P (b : Addr) (xs : List Int32) (args : Array Value) (s : State) : Prop := args = #[.ref b] ∧ s.IntsAt b xs ∧ xs.length ≤ 260 ∧ (Jvm.Cond.and given_1 narrow_1).before args s = true
def lw_Q (_ : Array Value) (s : State) (o : Outcome) (t : State) : Prop := o = .returned (some (.int 1)) ∧ Framed s o t [] 906490 6382777
def lw_Z (below : List Frame) (a : Array Value) (s : State) : State → Prop := fun t => ∃ o, t.status = .running ∧ Ended t below o ∧ lw_Q a s o t
/-- the law's own end, with 1 on the stack, nothing written that was there before, its room as the claim has it -/
theorem lw_ret {p : Program} {l : Launch} {e : Env} {s : State} {m : MethodId} {below : List Frame} {meth : Method} {c : Code} {b : Nat} (hx : p.tables.exec = Jvm.exec) (hb : c.code = code) (hr : meth.sig.returnType = ret) (hlocks : meth.locks = false) {pc : Nat} {H : Heap} {ls : Array Slot} (hdg : decode code pc = .ok (.ireturn, 1)) : W p l e room_1 s m #[Value.ref b] below meth c H [] 906490 6382777 (lw_Z below #[Value.ref b] s) (F0 m pc ls [.int 1]) := by
  intro T hT X
  obtain ⟨fs, hret, hrun, hended, hW, hframe⟩ := X.leave (v := some (.int 1)) (hlocks := hlocks) (fun h => by rw [hr] at h; cases h)
  have hmeth' : T.vm.method? m = some meth := X.method'
  refine ⟨T.setFrames fs, ?_, .returned (some (.int 1)), hrun, hended, rfl, ⟨_, rfl⟩, hW, hframe⟩
  jvm_step X.here [X.here.top, hx, hb, hdg, hmeth', hr, ret, narrow_b1]
  (try refine ⟨rfl, ?_⟩); (try refine ⟨rfl, ?_⟩)
  first | (intro acts; rw [hret _ acts rfl rfl rfl]) | rw [hret _ _ rfl rfl rfl]
  exact Steps.refl _
/-- what holds at the law's entry: the machine, the code, the tables' words (any of lw_tbl by 'hts w (by decide +kernel)'), the script of L ints xs at the cell b, what the Statement gives of the start (any of its parts by flat_of_before) -/
def lw_At (p : Program) (s : State) (m : MethodId) (meth : Method) (c : Code) (b L : Nat) (xs : Nat → Int32) : Prop :=
  p.tables.exec = Jvm.exec ∧ c.code = code ∧ meth.sig.returnType = ret ∧ c.maxLocals = 17 ∧ s.vm.findClass R_law = some m.cls ∧ (∀ w ∈ lw_tbl, w.before #[Value.ref b] s = true) ∧ va_X b L xs s s.heap ∧ b < s.heap.size ∧ meth.locks = false ∧ (Jvm.Cond.and given_1 narrow_1).before #[Value.ref b] s = true
/-- what the law's activation is -/
def lawX (X : mX) (G : mG) (b : Nat) : Prop := match X with
  | (_, _, R, s, _, args, below, _, _, Q, mc, ms, _) => R = room_1 ∧ args = #[Value.ref b] ∧ Q = lw_Z below #[Value.ref b] s ∧ mc = 906490 ∧ ms = 6382777 ∧ G.2.1 = s.heap
theorem s_lawret {X : mX} {G : mG} (C : Cx X G iL_law) {b : Nat} (hX : lawX X G b) {bc bs pc : Nat} {L : List (Option Value)} {M : mM} (d : decode code pc = .ok (.ireturn, 1)) : V X bc bs pc L [.int 1] M := by
  obtain ⟨p, e0, R, s, m, args, below, meth, c, Q, mc, ms, G'⟩ := X
  obtain ⟨rfl, hx, hb, hml, hr, hlk, hown, hts, hK, hroom, hini, hS0⟩ := C
  obtain ⟨rfl, rfl, rfl, rfl, rfl, h6⟩ := hX
  intro H locs cells slots ls hR hc hs hl
  have hS := hR.2.2
  rw [h6] at hS
  refine va_forget (fun q hq => hS.2.2 q hq) ?_
  refine W.widen (k := 906490) (n := 6382777) (by omega) (by omega) ?_
  exact lw_ret hx hb hr hlk d
