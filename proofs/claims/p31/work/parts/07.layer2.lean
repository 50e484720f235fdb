/-! memory steps as relations; frames by tags -/
def mU (M : mM) (a : Nat) (x : Nat × mE) (M1 : mM) : Prop := M1 a = some x ∧ ∀ b, b ≠ a → M1 b = M b
theorem mU.up {M : mM} {a : Nat} {x : Nat × mE} : mU M a x (mup M a x) := ⟨mup_s, fun _ h => mup_n h⟩
theorem mU.s {M M1 : mM} {a : Nat} {x : Nat × mE} (h : mU M a x M1) : M1 a = some x := h.1
theorem mU.o {M M1 : mM} {a b t t' : Nat} {x : Nat × mE} {e e' : mE} (h : mU M a x M1) (hA : M a = some (t, e)) (hB : M b = some (t', e')) (hne : t' ≠ t) : M1 b = some (t', e') := by
  rw [h.2 b (fun q => hne (by rw [q, hA] at hB; cases hB; rfl))]
  exact hB
theorem mU.od {M M1 : mM} {a b : Nat} {x y : Nat × mE} (h : mU M a x M1) (hB : M b = some y) (hne : b ≠ a) : M1 b = some y := by
  rw [h.2 b hne]
  exact hB
theorem mU.n {M M1 : mM} {a b : Nat} {x y : Nat × mE} (h : mU M a x M1) (hA : M a = none) (hB : M b = some y) : M1 b = some y := by
  rw [h.2 b (fun q => by rw [q, hA] at hB; cases hB)]
  exact hB
/-- what has no tag of T stays; nothing goes -/
def mZ (T : List Nat) (M M1 : mM) : Prop := (∀ b t e, M b = some (t, e) → t ∉ T → M1 b = some (t, e)) ∧ ∀ b, M1 b = none → M b = none
theorem mZ.rf {T : List Nat} {M : mM} : mZ T M M := ⟨fun _ _ _ h _ => h, fun _ h => h⟩
theorem mZ.tr {T : List Nat} {M M1 M2 : mM} (h1 : mZ T M M1) (h2 : mZ T M1 M2) : mZ T M M2 := ⟨fun b t e h ht => h2.1 b t e (h1.1 b t e h ht) ht, fun b h => h1.2 b (h2.2 b h)⟩
theorem mZ.mono {T T' : List Nat} {M M1 : mM} (h : mZ T M M1) (hT : ∀ t ∈ T, t ∈ T') : mZ T' M M1 := ⟨fun b t e hb ht => h.1 b t e hb (fun q => ht (hT t q)), h.2⟩
theorem mZ.put {T : List Nat} {M0 M M1 : mM} {a t : Nat} {x : Nat × mE} {e : mE} (h : mZ T M0 M) (u : mU M a x M1) (hA : M a = some (t, e)) (ht : t ∈ T) : mZ T M0 M1 := by
  refine ⟨fun b tb eb hb hn => ?_, fun b hb => ?_⟩
  · have h1 := h.1 b tb eb hb hn
    rw [u.2 b (fun q => by rw [q, hA] at h1; cases h1; exact hn ht)]
    exact h1
  · by_cases q : b = a
    · rw [q, u.1] at hb; cases hb
    · rw [u.2 b q] at hb; exact h.2 b hb
theorem mZ.new {T : List Nat} {M0 M M1 : mM} {a : Nat} {x : Nat × mE} (h : mZ T M0 M) (u : mU M a x M1) (hA : M a = none) : mZ T M0 M1 := by
  refine ⟨fun b tb eb hb hn => u.n hA (h.1 b tb eb hb hn), fun b hb => ?_⟩
  by_cases q : b = a
  · rw [q, u.1] at hb; cases hb
  · rw [u.2 b q] at hb; exact h.2 b hb
/-- a cell that the start didn't have -/
theorem mZ.putn {T : List Nat} {M0 M M1 : mM} {a : Nat} {x : Nat × mE} (h : mZ T M0 M) (u : mU M a x M1) (hA : M0 a = none) : mZ T M0 M1 := by
  refine ⟨fun b tb eb hb hn => ?_, fun b hb => ?_⟩
  · rw [u.2 b (fun q => by rw [q, hA] at hb; cases hb)]
    exact h.1 b tb eb hb hn
  · by_cases q : b = a
    · rw [q, u.1] at hb; cases hb
    · rw [u.2 b q] at hb; exact h.2 b hb
theorem mZ.at {T : List Nat} {M M1 : mM} {b t : Nat} {e : mE} (h : mZ T M M1) (hb : M b = some (t, e)) (ht : t ∉ T) : M1 b = some (t, e) := h.1 b t e hb ht
theorem mZ.no {T : List Nat} {M M1 : mM} {b : Nat} (h : mZ T M M1) (hb : M1 b = none) : M b = none := h.2 b hb
theorem s_putU {X : mX} {G : mG} {I : mI} (C : Cx X G I) {bc bs pc : Nat} (q : Nat) {L : List (Option Value)} {st : List Value} {M : mM} {idx ci k a t : Nat} {ty : FieldType} {fs : List Value} {v : Value} (d : decode I.2.1 pc = .ok (.putfield idx, 3)) (e : pc + 3 = q) (hf : mFp I.1.cls idx ci k ty false) (hM : M a = some (t, .inl (ci, fs))) (ht : t ≠ 0) (hn : narrow ty v = v) (hfit : fits ty v = true) (hlen : Nat.ble (k + 1) fs.length = true) {fs' : List Value} (hfs : fs.set k v = fs') (h : ∀ M1, mU M a (t, .inl (ci, fs')) M1 → V X bc bs q L st M1) : V X bc bs pc L (v :: .ref a :: st) M := s_putf C q d e hf hM ht hn hfit hlen (h _ (by rw [← hfs]; exact mU.up))
theorem s_putFU {X : mX} {G : mG} {I : mI} (C : Cx X G I) {bc bs pc : Nat} (q : Nat) {L : List (Option Value)} {st : List Value} {M : mM} {idx ci k a t : Nat} {ty : FieldType} {fs : List Value} {v : Value} (d : decode I.2.1 pc = .ok (.putfield idx, 3)) (e : pc + 3 = q) (hf : mFp I.1.cls idx ci k ty true) (hI : I.1.name = "<init>") (hM : M a = some (t, .inl (ci, fs))) (ht : t ≠ 0) (hn : narrow ty v = v) (hfit : fits ty v = true) (hlen : Nat.ble (k + 1) fs.length = true) {fs' : List Value} (hfs : fs.set k v = fs') (h : ∀ M1, mU M a (t, .inl (ci, fs')) M1 → V X bc bs q L st M1) : V X bc bs pc L (v :: .ref a :: st) M := s_putF C q d e hf hI hM ht hn hfit hlen (h _ (by rw [← hfs]; exact mU.up))
theorem s_iastU {X : mX} {G : mG} {I : mI} (C : Cx X G I) {bc bs pc : Nat} (q : Nat) {L : List (Option Value)} {st : List Value} {M : mM} {a t n : Nat} {f : Nat → Int32} {i : Nat} {x : Int32} (d : decode I.2.1 pc = .ok (.iastore, 1)) (e : pc + 1 = q) (hM : M a = some (t, .inr (0, n, .inl f))) (ht : t ≠ 0) (hi : i < n) (hn : n < 2 ^ 31) (h : ∀ M1, mU M a (t, .inr (0, n, .inl (upd f i x))) M1 → V X bc bs q L st M1) : V X bc bs pc L (.int x :: .int (nI i) :: .ref a :: st) M := s_iast C q d e hM ht hi hn (h _ mU.up)
theorem s_castU {X : mX} {G : mG} {I : mI} (C : Cx X G I) {bc bs pc : Nat} (q : Nat) {L : List (Option Value)} {st : List Value} {M : mM} {a t n : Nat} {f : Nat → Int32} {i : Nat} {x : Int32} (d : decode I.2.1 pc = .ok (.castore, 1)) (e : pc + 1 = q) (hM : M a = some (t, .inr (1, n, .inl f))) (ht : t ≠ 0) (hi : i < n) (hn : n < 2 ^ 31) (hx0 : vp_nar .char x = x) (h : ∀ M1, mU M a (t, .inr (1, n, .inl (upd f i x))) M1 → V X bc bs q L st M1) : V X bc bs pc L (.int x :: .int (nI i) :: .ref a :: st) M := s_cast C q d e hM ht hi hn hx0 (h _ mU.up)
theorem s_aastU {X : mX} {G : mG} {I : mI} (C : Cx X G I) {bc bs pc : Nat} (q : Nat) {L : List (Option Value)} {st : List Value} {M : mM} {a t n kd v tv ci : Nat} {f : Nat → Option Nat} {vs : List Value} {i : Nat} {E : String} {r : vw_C} (d : decode I.2.1 pc = .ok (.aastore, 1)) (e : pc + 1 = q) (hM : M a = some (t, .inr (kd, n, .inr f))) (ht : t ≠ 0) (hkd : kd = 2 ∧ E = "java/lang/Object" ∨ kd = 3 ∧ E = "TitleFinder$State") (hv : M v = some (tv, .inl (ci, vs))) (hci : vwCl[ci]? = some r) (hcs : r.1 = "TitleFinder$Title" ∧ E = "java/lang/Object" ∨ r.1 = E) (hi : i < n) (hn : n < 2 ^ 31) (h : ∀ M1, mU M a (t, .inr (kd, n, .inr (va_up f i (some v)))) M1 → V X bc bs q L st M1) : V X bc bs pc L (.ref v :: .int (nI i) :: .ref a :: st) M := s_aast C q d e hM ht hkd hv hci hcs hi hn (h _ mU.up)
theorem s_aastNU {X : mX} {G : mG} {I : mI} (C : Cx X G I) {bc bs pc : Nat} (q : Nat) {L : List (Option Value)} {st : List Value} {M : mM} {a t n : Nat} {f : Nat → Option Nat} {i : Nat} (d : decode I.2.1 pc = .ok (.aastore, 1)) (e : pc + 1 = q) (hM : M a = some (t, .inr (2, n, .inr f))) (ht : t ≠ 0) (hi : i < n) (hn : n < 2 ^ 31) (h : ∀ M1, mU M a (t, .inr (2, n, .inr (va_up f i none))) M1 → V X bc bs q L st M1) : V X bc bs pc L (.null :: .int (nI i) :: .ref a :: st) M := s_aastN C q d e hM ht hi hn (h _ mU.up)
theorem s_newU {X : mX} {G : mG} {I : mI} (C : Cx X G I) {bc bs pc : Nat} (q bc' bs' tag : Nat) {L : List (Option Value)} {st : List Value} {M : mM} {idx ci : Nat} {fs : List Value} (d : decode I.2.1 pc = .ok (.new idx, 3)) (e : pc + 3 = q) (hn : mN I.1.cls idx ci fs) (ht : tag ≠ 0) (hbc : bc' + 1 ≤ bc) (hbs : bs' + fs.length ≤ bs) (h : ∀ a M1, M a = none → mU M a (tag, .inl (ci, fs)) M1 → V X bc' bs' q L (.ref a :: st) M1) : V X bc bs pc L st M := s_new C q bc' bs' tag d e hn ht hbc hbs (fun a h1 _ => h a _ h1 mU.up)
theorem s_newaU {X : mX} {G : mG} {I : mI} (C : Cx X G I) {bc bs pc : Nat} (q bc' bs' tag : Nat) {L : List (Option Value)} {st : List Value} {M : mM} {at0 : ArrayType} {kd n : Nat} (d : decode I.2.1 pc = .ok (.newarray at0, 2)) (e : pc + 2 = q) (hkd : at0 = .int ∧ kd = 0 ∧ Cond.arrayClass .int ∈ BIG ∨ at0 = .char ∧ kd = 1 ∧ Cond.arrayClass .char ∈ BIG) (hn : n ≤ 100000) (ht : tag ≠ 0) (hbc : bc' + 1 ≤ bc) (hbs : bs' + n ≤ bs) (h : ∀ a M1, M a = none → mU M a (tag, .inr (kd, n, .inl (fun _ => 0))) M1 → V X bc' bs' q L (.ref a :: st) M1) : V X bc bs pc L (.int (nI n) :: st) M := s_newa C q bc' bs' tag d e hkd hn ht hbc hbs (fun a h1 _ => h a _ h1 mU.up)
theorem s_tagU {X : mX} {bc bs pc : Nat} {L : List (Option Value)} {st : List Value} {M : mM} (a t t' : Nat) {e : mE} (ha : M a = some (t, e)) (ht : t ≠ 0) (ht' : t' ≠ 0) (h : ∀ M1, mU M a (t', e) M1 → V X bc bs pc L st M1) : V X bc bs pc L st M := s_tag a t t' ha ht ht' (h _ mU.up)
/-- Object's constructor -/
theorem s_oi {X : mX} {G : mG} {I : mI} (C : Cx X G I) {bc bs pc : Nat} (q : Nat) {L : List (Option Value)} {st : List Value} {M : mM} {idx a : Nat} (d : decode I.2.1 pc = .ok (.invokespecial idx, 3)) (e : pc + 3 = q) (hm : Cond.methodLink I.1.cls idx objectInit ∈ BIG) (hL : L.length = I.2.2.1) (hI : 1 ≤ I.2.2.2.2) (hw : (st.map fun v => v.category).sum ≤ 8) (k : V X bc bs q L st M) : V X bc bs pc L (.ref a :: st) M := by
  obtain ⟨p, e0, R, s, m, args, below, meth, c, Q, mc, ms, G'⟩ := X
  obtain ⟨rfl, hx, hb, hml, hr, hlk, hown, hts, hK, hroom, hini, hS0⟩ := C
  subst e
  intro H locs cells slots ls hR hc' hs hl
  have hlv := lv_room (m := m) (pc := pc) (ls := ls) (rest := st) hw
  refine W.objInit hx hb hown (hts _ hm) (hts _ oi_inst) (hts _ oi_code) rfl (by show ls.size = _; rw [hl.1, hL, hml]) rfl d (by omega) (by have : (2 * (F0 m pc ls (.ref a :: st)).monitorRoom) = 0 := rfl; omega) ?_
  exact k H locs cells slots ls hR hc' hs hl
/-- a local is forgotten -/
theorem V.drop {X : mX} {bc bs pc : Nat} {L : List (Option Value)} {st : List Value} {M : mM} (i : Nat) (h : V X bc bs pc (L.set i none) st M) : V X bc bs pc L st M := by
  obtain ⟨p, e, R, s, m, args, below, meth, c, Q, mc, ms, G⟩ := X
  intro H locs cells slots ls hR hc hs hl
  refine h H locs cells slots ls hR hc hs ?_
  unfold mL at hl ⊢
  rw [List.length_set]
  refine ⟨hl.1, hl.2.1, fun q hq => hl.2.2 q ?_⟩
  have h1 : (L.set i none)[q.1]? = some (some q.2) := mP_mem.mp hq
  refine mP_mem.mpr ?_
  by_cases e : i = q.1
  · have hlt : q.1 < (L.set i none).length := (List.getElem?_eq_some_iff.mp h1).1
    rw [List.length_set] at hlt
    rw [← e] at hlt h1
    rw [List.getElem?_set_self hlt] at h1
    cases h1
  · rwa [List.getElem?_set_ne e] at h1
/-- a static that nobody writes -/
theorem s_gets {X : mX} {G : mG} {I : mI} (C : Cx X G I) {bc bs pc : Nat} (q : Nat) {L : List (Option Value)} {st : List Value} {M : mM} {idx : Nat} {o n dd : String} {v : Value} (d : decode I.2.1 pc = .ok (.getstatic idx, 3)) (e : pc + 3 = q) (hZ : ∀ s, mK G s → va_Z o n dd v (mAf G.2.1) s G.2.1) (hlink : Cond.fieldLink I.1.cls idx o n dd ∈ BIG) (k : V X bc bs q L (v :: st) M) : V X bc bs pc L st M := by
  obtain ⟨p, e0, R, s, m, args, below, meth, c, Q, mc, ms, G'⟩ := X
  obtain ⟨rfl, hx, hb, hml, hr, hlk, hown, hts, hK, hroom, hini, hS0⟩ := C
  subst e
  intro H locs cells slots ls hR hc hs hl
  obtain ⟨cf, kf, fi, f, a, cell, h1, h2, h3, h4, h5, h6, h7, h8⟩ := hZ s hK
  have hlt : a < G'.2.1.size := (Array.getElem?_eq_some_iff.mp h5).1
  exact W.gets hx hb hown (hts _ hlink) h1 h2 h3 h4 (by rw [hR.2.2.2.1 a hlt h8]; exact h5) (fun e => by rw [e] at h6; cases h6) h7 rfl d (k H locs cells slots ls hR hc hs hl)
/-- the class of rows of Objects; its own class object -/
theorem s_getC {X : mX} {G : mG} {I : mI} (C : Cx X G I) {bc bs pc : Nat} (q : Nat) {L : List (Option Value)} {st : List Value} {M : mM} {idx a t n : Nat} {f : Nat → Option Nat} (d : decode I.2.1 pc = .ok (.invokevirtual idx, 3)) (e : pc + 3 = q) (hM : M a = some (t, .inr (2, n, .inr f))) (hlink : Cond.methodLink I.1.cls idx ⟨"java/lang/Object", "getClass", "()Ljava/lang/Class;"⟩ ∈ BIG) (hsel : Cond.selects "[Ljava/lang/Object;" ⟨"java/lang/Object", "getClass", "()Ljava/lang/Class;"⟩ ⟨"java/lang/Object", "getClass", "()Ljava/lang/Class;"⟩ ∈ BIG) (hinst : Cond.instanceMethod ⟨"java/lang/Object", "getClass", "()Ljava/lang/Class;"⟩ ∈ BIG) (hnat : Cond.native ⟨"java/lang/Object", "getClass", "()Ljava/lang/Class;"⟩ ∈ BIG) (hL : L.length = I.2.2.1) (hI : 1 ≤ I.2.2.2.2) (hw : (st.map fun v => v.category).sum ≤ 8) (k : V X bc bs q L (.ref G.2.2.2.2.2.2.2 :: st) M) : V X bc bs pc L (.ref a :: st) M := by
  obtain ⟨p, e0, R, s, m, args, below, meth, c, Q, mc, ms, G'⟩ := X
  obtain ⟨rfl, hx, hb, hml, hr, hlk, hown, hts, hK, hroom, hini, hS0⟩ := C
  subst e
  intro H locs cells slots ls hR hc hs hl
  have hfc : s.vm.findClass "[Ljava/lang/Object;" = some (G'.2.2.2.1 2) := va_nmO (hK.1.2 2 _ rfl).2 (by decide +kernel)
  exact va_getC hx hb (hml.trans (hL.symm.trans hl.1.symm)) hown (hts _ hlink) (va_Dc.use hK.2.2.2.2.2.2.2.2.2.2.2.2) (hts _ hsel) (hts _ hinst) (hts _ hnat) hK.2.2.2.2.2.2.2.2.2.2.2.1 (by rcases hR.1 a t _ hM with ⟨-, hA⟩ | ⟨-, g0, c0, e0', k1, k2, k3, k4, -⟩; (· exact ⟨_, hA, rfl, hfc⟩); exact ⟨c0, k1, k4, by rw [k2]; exact hfc⟩) (by omega) (by omega) d (k H locs cells slots ls hR hc hs hl)
theorem s_ldcC {X : mX} {G : mG} {I : mI} (C : Cx X G I) {bc bs pc : Nat} (q : Nat) {L : List (Option Value)} {st : List Value} {M : mM} {idx : Nat} (d : decode I.2.1 pc = .ok (.ldc idx, 2)) (e : pc + 2 = q) (hlink : Cond.classLink I.1.cls idx "[Ljava/lang/Object;" ∈ BIG) (k : V X bc bs q L (.ref G.2.2.2.2.2.2.2 :: st) M) : V X bc bs pc L st M := by
  obtain ⟨p, e0, R, s, m, args, below, meth, c, Q, mc, ms, G'⟩ := X
  obtain ⟨rfl, hx, hb, hml, hr, hlk, hown, hts, hK, hroom, hini, hS0⟩ := C
  subst e
  intro H locs cells slots ls hR hc hs hl
  exact va_ldcM hx hb hown (hts _ hlink) hK.2.2.2.2.2.2.2.2.2.2.2.1 d (k H locs cells slots ls hR hc hs hl)
/-- making a row of objects: of Objects (kind 2), of States (kind 3) -/
theorem s_newqU {X : mX} {G : mG} {I : mI} (C : Cx X G I) {bc bs pc : Nat} (q bc' bs' tag : Nat) {L : List (Option Value)} {st : List Value} {M : mM} {idx kd n : Nat} {E : String} (d : decode I.2.1 pc = .ok (.anewarray idx, 3)) (e : pc + 3 = q) (hkd : kd = 2 ∧ E = "java/lang/Object" ∨ kd = 3 ∧ E = "TitleFinder$State") (hlink : Cond.classLink I.1.cls idx E ∈ BIG) (hn : n ≤ 100000) (ht : tag ≠ 0) (hbc : bc' + 1 ≤ bc) (hbs : bs' + n ≤ bs) (h : ∀ a M1, M a = none → mU M a (tag, .inr (kd, n, .inr (fun _ => none))) M1 → V X bc' bs' q L (.ref a :: st) M1) : V X bc bs pc L (.int (nI n) :: st) M := by
  obtain ⟨p, e0, R, s, m, args, below, meth, c, Q, mc, ms, G'⟩ := X
  obtain ⟨rfl, hx, hb, hml, hr, hlk, hown, hts, hK, hroom, hini, hS0⟩ := C
  subst e
  intro H locs cells slots ls hR hc hs hl
  have hz : (nI n).toNatClampNeg = n := nI_clamp (by omega)
  have go : ∀ cA0, va_AO E s → G'.2.2.2.1 kd = cA0 → s.vm.findClass ("[" ++ (FieldType.object E).toString) = some cA0 → W p G'.1 e0 R s m args below meth c H locs cells slots Q (F0 m pc ls (.int (nI n) :: st)) := by
    intro cA0 hAO hA0 hfc
    refine va_newq (ws := mW G'.2.2.2.1 M H.size (fun _ => true)) (C := E) hx hb hown (hts _ hlink) hAO hK.1 (mW_P hR) (mW_D hR) hR.2.2 (fun q h => h) (nI_pos (by omega)) hz (by omega) (by omega) (by omega) d (fun a cA H1 hK1 hP hD hS => ?_)
    have hcA : cA = G'.2.2.2.1 kd := by
      have h2 := (hK1.2 6 (cA, .object E) (by simp [tysK])).2
      obtain ⟨-, -, -, -, -, h4⟩ := h2
      rw [hA0]
      exact Option.some.inj (h4.symm.trans hfc)
    subst hcA
    have hb5 : Nat.beq kd 5 = false := by rcases hkd with ⟨rfl, -⟩ | ⟨rfl, -⟩ <;> rfl
    have hmv : mv G'.2.2.2.1 (.inr (kd, n, .inr (fun _ => none))) = _ := mv_r hb5
    obtain ⟨g1, g2, g3⟩ := mR_new (e := .inr (kd, n, .inr (fun _ => none))) hR ht (by rw [hmv]; exact hP) (by rw [hmv]; exact hD) hS
    exact h a _ g1 mU.up H1 locs _ _ ls g3 (by omega) (by omega) hl
  rcases hkd with ⟨rfl, rfl⟩ | ⟨rfl, rfl⟩
  · obtain ⟨-, -, -, -, -, h4⟩ := (hK.1.2 2 _ rfl).2
    exact go _ hK.2.2.2.2.2.2.1 rfl h4
  · obtain ⟨-, -, -, -, -, h4⟩ := (hK.1.2 3 _ rfl).2
    exact go _ hK.2.2.2.2.2.2.2.1 rfl h4
/-- System.arraycopy over rows of Objects that hold Titles -/
def mTit (M : mM) (f : Nat → Option Nat) (a n : Nat) : Prop := ∀ i, i < n → ∀ y, f (a + i) = some y → ∃ t fs, M y = some (t, .inl (6, fs))
theorem s_acopy {X : mX} {G : mG} {I : mI} (C : Cx X G I) {bc bs pc : Nat} (q : Nat) {L : List (Option Value)} {st : List Value} {M : mM} {idx a0 a1 t0 t1 n0 n1 sp dp n : Nat} {f g : Nat → Option Nat} (d : decode I.2.1 pc = .ok (.invokestatic idx, 3)) (e : pc + 3 = q) (hlink : Cond.methodLink I.1.cls idx arraycopyName ∈ BIG) (hnat : Cond.native arraycopyName ∈ BIG) (hstat : Cond.static arraycopyName ∈ BIG) (hini : Cond.initialized "java/lang/System" ∈ BIG)
    (h0 : M a0 = some (t0, .inr (2, n0, .inr f))) (h1 : M a1 = some (t1, .inr (2, n1, .inr g))) (ht0 : t0 ≠ 0) (ht1 : t1 ≠ 0) (hs : sp + n ≤ n0) (hd : dp + n ≤ n1) (hb0 : n0 < 100000) (hb1 : n1 < 100000) (hT : mTit M f sp n) (hL : L.length = I.2.2.1) (hI : 1 ≤ I.2.2.2.2) (hw : (st.map fun v => v.category).sum ≤ 8) (h : ∀ M1, mU M a1 (t1, .inr (2, n1, .inr (va_cpy f g sp dp n))) M1 → V X bc bs q L st M1) : V X bc bs pc L (.int (nI n) :: .int (nI dp) :: .ref a1 :: .int (nI sp) :: .ref a0 :: st) M := by
  obtain ⟨p, e0, R, s, m, args, below, meth, c, Q, mc, ms, G'⟩ := X
  obtain ⟨rfl, hx, hb, hml, hr, hlk, hown, hts, hK, hroom, hini', hS0⟩ := C
  subst e
  intro H locs cells slots ls hR hc hs' hl
  have e1 : (nI sp).toNatClampNeg = sp := nI_clamp (by omega)
  have e2 : (nI dp).toNatClampNeg = dp := nI_clamp (by omega)
  have e3 : (nI n).toNatClampNeg = n := nI_clamp (by omega)
  have hel : ∀ i : Nat, i < (nI n).toNatClampNeg → ∀ y : Nat, f ((nI sp).toNatClampNeg + i) = some y → va_Any "java/lang/Object" s H y := by
    rw [e1, e3]
    intro i hi y hy
    obtain ⟨t, fs, hM⟩ := hT i hi y hy
    obtain ⟨r', hr', cellV, g1, g2, g3, -⟩ := (hR.1 y t _ hM).o
    have hr'' : r' = (RX5, TX5, 3) := (Option.some.inj (hr'.symm.trans (rfl : vwCl[6]? = some (RX5, TX5, 3))))
    subst hr''
    have hcls := (hK.1.1 6 (RX5, TX5, 3) rfl).2
    obtain ⟨kC, hkC, -⟩ := hcls.2
    refine ⟨cellV, g1, by rw [g3]; rfl, ⟨kC, by rw [g2]; exact hkC⟩, fun comp hcomp => ?_⟩
    rw [g2]
    have hn := hK.2.2.2.2.2.2.2.2.2.2.1
    have hcls1 : s.vm.findClass "TitleFinder$Title" = some (G'.2.2.1.1 6) := hcls.1
    unfold va_Nw at hn
    simp [Cond.before, Cond.holds, Cond.value, hcls1, hcomp] at hn
    exact hn
  have hnw : nativeFrameWords "java/lang/System" "arraycopy" 5 + 11 ≤ 24 := by decide +kernel
  have key : ∀ q0 : Nat, ((a1, .inl (G'.2.2.2.1 2, n1, .inr (.inr (.inr (.inr g))))) :: mWx G' M H a1 : va_W)[q0]? = some (a0, .inl (G'.2.2.2.1 2, n0, .inr (.inr (.inr (.inr f))))) → W p G'.1 e0 R s m args below meth c H locs cells slots Q (F0 m pc ls (.int (nI n) :: .int (nI dp) :: .ref a1 :: .int (nI sp) :: .ref a0 :: st)) := by
    intro q0 hq0
    refine va_copyM (ws := (a1, .inl (G'.2.2.2.1 2, n1, .inr (.inr (.inr (.inr g))))) :: mWx G' M H a1) hx hb (hml.trans (hL.symm.trans hl.1.symm)) hown (hts _ hlink) (hts _ hnat) (hts _ hstat) (hts _ hini) hK.1 (mWx_P hR h1 ht1) (mWx_D hR h1 ht1 _) hR.2.2 q0 0 2 2 hq0 rfl rfl rfl (nI_pos (by omega)) (nI_pos (by omega)) (nI_pos (by omega)) (by omega) (by omega) hel (by omega) (by omega) d (fun H1 locs1 hP _ hS => ?_)
    rw [e1, e2, e3] at hP
    exact h _ mU.up H1 locs1 cells slots ls (mR_put (e' := .inr (2, n1, .inr (va_cpy f g sp dp n))) hR h1 ht1 hP hS) hc hs' hl
  by_cases ha : a0 = a1
  · subst ha
    rw [h0] at h1
    cases h1
    exact key 0 rfl
  · have hm : (a0, mv G'.2.2.2.1 (.inr (2, n0, .inr f))) ∈ mWx G' M H a1 := mW_mem.mpr ⟨hR.lt h0, by simpa using ha, t0, _, h0, ht0, rfl⟩
    obtain ⟨k, hk⟩ := List.mem_iff_getElem?.mp hm
    exact key (k + 1) hk
theorem s_acmp_eq {X : mX} {G : mG} {I : mI} (C : Cx X G I) {bc bs pc : Nat} (t q : Nat) {L : List (Option Value)} {st : List Value} {M : mM} {x y : Nat} {off : Int} (d : decode I.2.1 pc = .ok (.if_acmp .eq off, 3)) (e : (pc : Int) + off = (t : Int)) (e2 : pc + 3 = q) (kt : x = y → V X bc bs t L st M) (kf : ¬ x = y → V X bc bs q L st M) : V X bc bs pc L (.ref y :: .ref x :: st) M := by
  obtain ⟨p, e0, R, s, m, args, below, meth, c, Q, mc, ms, G'⟩ := X
  obtain ⟨rfl, hx, hb, hml, hr, hlk, hown, hts, hK, hroom, hini, hS0⟩ := C
  subst e2
  intro H locs cells slots ls hR hc hs hl
  exact lv_acmp_eq (rx := some x) (ry := some y) hx hb d e (fun z => kt (Option.some.inj z) H locs cells slots ls hR hc hs hl) (fun z => kf (fun w => z (by rw [w])) H locs cells slots ls hR hc hs hl)
/-! longs that are small naturals -/
theorem wb_tb (n : Nat) : (lN n).toBitVec = BitVec.ofNat 64 n := rfl
theorem wb_inj {a b : Int64} (h : a.toBitVec = b.toBitVec) : a = b := Int64.toBitVec_inj.mp h
theorem wb_c : ∀ k, k < 64 → ((nI k).toInt64 &&& 63) = lN k := by decide +kernel
theorem wb_sm : ∀ k, k < 64 → (BitVec.ofNat 64 k).smod 64 = BitVec.ofNat 64 k := by decide +kernel
theorem wb_shl (n : Nat) {k : Nat} (hk : k < 64) : lN n <<< ((nI k).toInt64 &&& 63) = lN (n * 2 ^ k) := by
  rw [wb_c k hk]
  apply wb_inj
  rw [Int64.toBitVec_shiftLeft, wb_tb, wb_tb, wb_tb, wb_sm k hk]
  apply BitVec.eq_of_toNat_eq
  rw [BitVec.shiftLeft_eq', BitVec.toNat_shiftLeft, BitVec.toNat_ofNat, BitVec.toNat_ofNat, BitVec.toNat_ofNat, Nat.mod_eq_of_lt (show k < 2 ^ 64 by omega), Nat.shiftLeft_eq, Nat.mul_mod, Nat.mod_mod, ← Nat.mul_mod]
theorem fb_andL (a b : Nat) : lN a &&& lN b = lN (a &&& b) := by
  apply Int64.toBitVec_inj.1
  show BitVec.ofNat 64 a &&& BitVec.ofNat 64 b = BitVec.ofNat 64 (a &&& b)
  apply BitVec.eq_of_getLsbD_eq
  intro i hi
  simp [hi]
theorem fb_orL (a b : Nat) : lN a ||| lN b = lN (a ||| b) := by
  apply Int64.toBitVec_inj.1
  show BitVec.ofNat 64 a ||| BitVec.ofNat 64 b = BitVec.ofNat 64 (a ||| b)
  apply BitVec.eq_of_getLsbD_eq
  intro i hi
  simp [hi]
theorem pf_lI {a : Nat} (h : a < 2 ^ 63) : (lN a).toInt = (a : Int) := lg_ofNat_toInt h
theorem pf_shr {a d : Nat} {D : Int64} (hD : (D.toBitVec.smod 64).toNat = d) (h : a < 2 ^ 62) : lN a >>> D = lN (a / 2 ^ d) := by
  have hd : a / 2 ^ d ≤ a := Nat.div_le_self _ _
  apply Int64.toInt_inj.mp
  have e : (lN a >>> D).toInt = (lN a).toInt >>> d := by
    rw [← hD]
    exact BitVec.toInt_sshiftRight ..
  rw [e, Int.shiftRight_eq_div_pow, pf_lI (by omega), pf_lI (by omega)]
  rfl
theorem wl_shr {n k : Nat} (hn : n < 2 ^ 62) (hk : k < 64) : lN n >>> ((nI k).toInt64 &&& 63) = lN (n / 2 ^ k) := by
  rw [wb_c k hk]
  refine pf_shr ?_ hn
  rw [wb_tb, wb_sm k hk, BitVec.toNat_ofNat, Nat.mod_eq_of_lt (by omega)]
theorem lcmp_z {x y : Int64} : lg_cmp x y = 0 ↔ x = y := by
  unfold lg_cmp
  by_cases h : x > y
  · rw [if_pos h]
    constructor
    · intro w; exact absurd w (by decide)
    · rintro rfl
      rw [gt_iff_lt, Int64.lt_iff_toInt_lt] at h
      omega
  · rw [if_neg h]
    by_cases e : x = y
    · rw [if_pos e]; exact ⟨fun _ => e, fun _ => rfl⟩
    · rw [if_neg e]
      exact ⟨fun w => absurd w (by decide), fun w => absurd w e⟩
theorem lcmpN {a b : Nat} (ha : a < 2 ^ 63) (hb : b < 2 ^ 63) : lg_cmp (lN a) (lN b) = 0 ↔ a = b := lcmp_z.trans (pk_lEQ ha hb)
section LNG
variable {X : mX} {G : mG} {I : mI} {bc bs pc : Nat} {L : List (Option Value)} {st : List Value} {M : mM}
theorem s_lorN (C : Cx X G I) (q : Nat) {a b : Nat} (d : decode I.2.1 pc = .ok (.lor, 1)) (e : pc + 1 = q) (k : V X bc bs q L (.long (lN (a ||| b)) :: st) M) : V X bc bs pc L (.long (lN b) :: .long (lN a) :: st) M := s_lor C q d e (by rw [fb_orL]; exact k)
theorem s_landN (C : Cx X G I) (q : Nat) {a b : Nat} (d : decode I.2.1 pc = .ok (.land, 1)) (e : pc + 1 = q) (k : V X bc bs q L (.long (lN (a &&& b)) :: st) M) : V X bc bs pc L (.long (lN b) :: .long (lN a) :: st) M := s_land C q d e (by rw [fb_andL]; exact k)
theorem s_lsubN (C : Cx X G I) (q : Nat) {a b : Nat} (d : decode I.2.1 pc = .ok (.lsub, 1)) (e : pc + 1 = q) (h : b ≤ a) (k : V X bc bs q L (.long (lN (a - b)) :: st) M) : V X bc bs pc L (.long (lN b) :: .long (lN a) :: st) M := s_lsub C q d e (by rw [lN_sub h]; exact k)
theorem s_lshlN (C : Cx X G I) (q : Nat) {a n : Nat} (d : decode I.2.1 pc = .ok (.lshl, 1)) (e : pc + 1 = q) (h : n < 64) (k : V X bc bs q L (.long (lN (a * 2 ^ n)) :: st) M) : V X bc bs pc L (.int (nI n) :: .long (lN a) :: st) M := s_lshl C q d e (by rw [wb_shl a h]; exact k)
theorem s_lshrN (C : Cx X G I) (q : Nat) {a n : Nat} (d : decode I.2.1 pc = .ok (.lshr, 1)) (e : pc + 1 = q) (h : n < 64) (ha : a < 2 ^ 62) (k : V X bc bs q L (.long (lN (a / 2 ^ n)) :: st) M) : V X bc bs pc L (.int (nI n) :: .long (lN a) :: st) M := s_lshr C q d e (by rw [wl_shr ha h]; exact k)
theorem s_l2iN (C : Cx X G I) (q : Nat) {a : Nat} (d : decode I.2.1 pc = .ok (.l2i, 1)) (e : pc + 1 = q) (k : V X bc bs q L (.int (nI a) :: st) M) : V X bc bs pc L (.long (lN a) :: st) M := s_l2i C q d e (by rw [lN_i]; exact k)
theorem s_i2lN (C : Cx X G I) (q : Nat) {a : Nat} (d : decode I.2.1 pc = .ok (.i2l, 1)) (e : pc + 1 = q) (h : a < 2 ^ 31) (k : V X bc bs q L (.long (lN a) :: st) M) : V X bc bs pc L (.int (nI a) :: st) M := s_i2l C q d e (by rw [nI_l h]; exact k)
theorem s_idivN (C : Cx X G I) (q : Nat) {a b : Nat} (d : decode I.2.1 pc = .ok (.idiv, 1)) (e : pc + 1 = q) (ha : a < 2 ^ 31) (h0 : 0 < b) (hb : b < 2 ^ 31) (k : V X bc bs q L (.int (nI (a / b)) :: st) M) : V X bc bs pc L (.int (nI b) :: .int (nI a) :: st) M := s_idiv C q d e (nI_ne0 h0 hb) (by rw [pk_div ha h0 hb]; exact k)
theorem s_iremN (C : Cx X G I) (q : Nat) {a b : Nat} (d : decode I.2.1 pc = .ok (.irem, 1)) (e : pc + 1 = q) (ha : a < 2 ^ 31) (h0 : 0 < b) (hb : b < 2 ^ 31) (k : V X bc bs q L (.int (nI (a % b)) :: st) M) : V X bc bs pc L (.int (nI b) :: .int (nI a) :: st) M := s_irem C q d e (nI_ne0 h0 hb) (by rw [pk_rem ha h0 hb]; exact k)
end LNG
/-! the script -/
theorem s_slen {X : mX} {G : mG} {I : mI} (C : Cx X G I) {bc bs pc : Nat} (q : Nat) {L : List (Option Value)} {st : List Value} {M : mM} (d : decode I.2.1 pc = .ok (.arraylength, 1)) (e : pc + 1 = q) (k : V X bc bs q L (.int (nI (G.2.2.2.2.1 1)) :: st) M) : V X bc bs pc L (.ref (G.2.2.2.2.1 0) :: st) M := by
  obtain ⟨p, e0, R, s, m, args, below, meth, c, Q, mc, ms, G'⟩ := X
  obtain ⟨rfl, hx, hb, hml, hr, hlk, hown, hts, hK, hroom, hini, hS0⟩ := C
  subst e
  intro H locs cells slots ls hR hc' hs hl
  exact va_slen hx hb hK.2.2.2.2.1 hK.2.2.2.2.2.1.1 (Nat.not_le.mpr hK.2.2.2.2.2.1.1) hR.2.2 d (k H locs cells slots ls hR hc' hs hl)
theorem s_sld {X : mX} {G : mG} {I : mI} (C : Cx X G I) {bc bs pc : Nat} (q : Nat) {L : List (Option Value)} {st : List Value} {M : mM} {i : Nat} (d : decode I.2.1 pc = .ok (.iaload, 1)) (e : pc + 1 = q) (hi : i < G.2.2.2.2.1 1) (k : V X bc bs q L (.int (G.2.2.2.2.2.1 i) :: st) M) : V X bc bs pc L (.int (nI i) :: .ref (G.2.2.2.2.1 0) :: st) M := by
  obtain ⟨p, e0, R, s, m, args, below, meth, c, Q, mc, ms, G'⟩ := X
  obtain ⟨rfl, hx, hb, hml, hr, hlk, hown, hts, hK, hroom, hini, hS0⟩ := C
  subst e
  intro H locs cells slots ls hR hc' hs hl
  have h260 := hK.2.2.2.2.2.1.2
  refine va_sld hx hb hK.2.2.2.2.1 hK.2.2.2.2.2.1.1 (Nat.not_le.mpr hK.2.2.2.2.2.1.1) hR.2.2 (vp_in_nI hi (by omega)) d ?_
  rw [nI_clamp (by omega)]
  exact k H locs cells slots ls hR hc' hs hl
theorem s_script {X : mX} {G : mG} {I : mI} (C : Cx X G I) : G.2.2.2.2.1 1 ≤ 260 := by
  obtain ⟨p, e0, R, s, m, args, below, meth, c, Q, mc, ms, G'⟩ := X
  obtain ⟨rfl, hx, hb, hml, hr, hlk, hown, hts, hK, hroom, hini, hS0⟩ := C
  exact hK.2.2.2.2.2.1.2
/-! rows of longs (kind 5): what is in them stands as natural numbers -/
/-- the contents of a row of longs -/
def lA (f : Nat → Nat) : Nat → Option Nat := fun i => some (f i)
theorem s_laldN {X : mX} {G : mG} {I : mI} (C : Cx X G I) {bc bs pc : Nat} (q : Nat) {L : List (Option Value)} {st : List Value} {M : mM} {a t n : Nat} {f : Nat → Nat} {i : Nat} (d : decode I.2.1 pc = .ok (.laload, 1)) (e : pc + 1 = q) (hM : M a = some (t, .inr (5, n, .inr (lA f)))) (hi : i < n) (hn : n < 2 ^ 31) (h : V X bc bs q L (.long (lN (f i)) :: st) M) : V X bc bs pc L (.int (nI i) :: .ref a :: st) M := by
  obtain ⟨p, e0, R, s, m, args, below, meth, c, Q, mc, ms, G'⟩ := X
  obtain ⟨rfl, hx, hb, hml, hr, hlk, hown, hts, hK, hroom, hini, hS0⟩ := C
  subst e
  intro H locs cells slots ls hR hc hs hl
  have hA : va_at G'.2.2.1 vwCl (a, .inl (G'.2.2.2.1 5, n, .inr (.inl (fun j => lN (f j))))) H := by
    rcases hR.1 a t _ hM with ⟨-, h⟩ | ⟨-, g0, c0, e0', -⟩
    · exact h
    · cases e0'
  refine va_lald (ws := [(a, .inl (G'.2.2.2.1 5, n, .inr (.inl (fun j => lN (f j)))))]) hx hb hK.1 (fun k q hq => by
    cases k with
    | zero => cases hq; exact hA
    | succ k => cases hq) 0 5 rfl rfl (vp_in_nI hi hn) d ?_
  rw [nI_clamp (by omega)]
  exact h H locs cells slots ls hR hc hs hl
theorem s_lastU {X : mX} {G : mG} {I : mI} (C : Cx X G I) {bc bs pc : Nat} (q : Nat) {L : List (Option Value)} {st : List Value} {M : mM} {a t n x : Nat} {f : Nat → Nat} {i : Nat} (d : decode I.2.1 pc = .ok (.lastore, 1)) (e : pc + 1 = q) (hM : M a = some (t, .inr (5, n, .inr (lA f)))) (ht : t ≠ 0) (hi : i < n) (hn : n < 2 ^ 31) (h : ∀ M1, mU M a (t, .inr (5, n, .inr (lA (va_up f i x)))) M1 → V X bc bs q L st M1) : V X bc bs pc L (.long (lN x) :: .int (nI i) :: .ref a :: st) M := by
  have h9 := h _ mU.up
  obtain ⟨p, e0, R, s, m, args, below, meth, c, Q, mc, ms, G'⟩ := X
  obtain ⟨rfl, hx, hb, hml, hr, hlk, hown, hts, hK, hroom, hini, hS0⟩ := C
  subst e
  intro H locs cells slots ls hR hc hs hl
  refine va_last (ws := (a, .inl (G'.2.2.2.1 5, n, .inr (.inl (fun j => lN (f j))))) :: mWx G' M H a) hx hb hK.1 (mWx_P hR hM ht) (mWx_D hR hM ht _) hR.2.2 0 5 rfl rfl (vp_in_nI hi hn) d (fun H1 locs1 hP _ hS => ?_)
  rw [nI_clamp (by omega)] at hP
  have hu : vp_updL (fun j => lN (f j)) i (lN x) = fun j => lN (va_up f i x j) := by
    funext j
    unfold vp_updL va_up
    by_cases e : j = i
    · simp only [if_pos e]
    · simp only [if_neg e]
  rw [hu] at hP
  exact h9 H1 locs1 cells slots ls (mR_put (e' := .inr (5, n, .inr (lA (va_up f i x)))) hR hM ht hP hS) hc hs hl
theorem s_newLU {X : mX} {G : mG} {I : mI} (C : Cx X G I) {bc bs pc : Nat} (q bc' bs' tag : Nat) {L : List (Option Value)} {st : List Value} {M : mM} {n : Nat} (d : decode I.2.1 pc = .ok (.newarray .long, 2)) (e : pc + 2 = q) (hw : Cond.arrayClass .long ∈ BIG) (hn : n ≤ 100000) (ht : tag ≠ 0) (hbc : bc' + 1 ≤ bc) (hbs : bs' + n ≤ bs) (h : ∀ a M1, M a = none → mU M a (tag, .inr (5, n, .inr (lA (fun _ => 0)))) M1 → V X bc' bs' q L (.ref a :: st) M1) : V X bc bs pc L (.int (nI n) :: st) M := by
  obtain ⟨p, e0, R, s, m, args, below, meth, c, Q, mc, ms, G'⟩ := X
  obtain ⟨rfl, hx, hb, hml, hr, hlk, hown, hts, hK, hroom, hini, hS0⟩ := C
  subst e
  intro H locs cells slots ls hR hc hs hl
  have hz : (nI n).toNatClampNeg = n := nI_clamp (by omega)
  refine va_newaK hx hb (atype := .long) (hts _ hw) rfl d rfl (nI_pos (by omega)) hz (by show n * 8 ≤ _; omega) (by omega) (by omega) rfl (fun H1 cA e1 z1 o1 hAr hNm => ?_)
  have hcA : cA = G'.2.2.2.1 5 := Option.some.inj (hNm.symm.trans (hK.1.2 5 _ rfl).2)
  subst hcA
  have hk : ∀ (k : Nat) (x : Nat × va_E), (mW G'.2.2.2.1 M H.size (fun _ => true))[k]? = some x → H1[x.1]? = H[x.1]? := fun k x hx => o1 x.1 ((mW_P hR k x hx).lt)
  obtain ⟨g1, g2, g3⟩ := mR_new (q := H.size) (e := .inr (5, n, .inr (lA (fun _ => 0)))) hR ht (((mW_P hR).kept hk).app (fun k x hx => by
    cases k with
    | zero => cases hx; exact e1
    | succ k => cases hx)) ((mW_D hR).push (mW_P hR) rfl hR.2.2.1) ⟨Nat.le_trans hR.2.2.1 (by omega), fun x h1 h2 => (o1 x (Nat.lt_of_lt_of_le h1 hR.2.2.1)).trans (hR.2.2.2.1 x h1 h2), hR.2.2.2.2⟩
  exact h H.size _ g1 mU.up H1 locs _ _ ls g3 (by omega) (by omega) hl
