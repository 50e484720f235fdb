/-! ===== BEGIN new T[n][m]: the outer array a place, the inner ones among the pooled ===== -/
/-- f, but v at every address of l -/
def vr_up {α : Type} (f : Nat → α) (l : List Nat) (v : α) : Nat → α := fun a => if a ∈ l then v else f a
theorem vr_up_in {α : Type} {f : Nat → α} {l : List Nat} {v : α} {a : Nat} (h : a ∈ l) : vr_up f l v a = v := if_pos h
theorem vr_up_ne {α : Type} {f : Nat → α} {l : List Nat} {v : α} {a : Nat} (h : a ∉ l) : vr_up f l v a = f a := if_neg h
theorem vr_rows {L l : List Nat} {f : Nat → va_E} {e : va_E} (h : ∀ a, a ∈ l → a ∉ L) : va_pl L f ++ l.map (fun a => (a, e)) = va_pl (L ++ l) (vr_up f l e) := by
  unfold va_pl
  rw [List.map_append]
  congr 1
  · apply List.map_congr_left
    intro a ha
    rw [vr_up_ne (fun q => h a q ha)]
  · apply List.map_congr_left
    intro a ha
    rw [vr_up_in ha]
theorem vr_lay {X rows : va_W} {x : Nat × va_E} {pl : va_W} {D : va_G} {cl : List vw_C} {H : Heap} (hP : va_P D cl (((X ++ pl) ++ [x]) ++ rows) H) : va_P D cl ((X ++ [x]) ++ (pl ++ rows)) H := by
  rw [List.append_assoc (X ++ pl)] at hP
  have h := va_P.swap hP
  rw [← List.append_assoc X] at h
  have h2 := va_P.swap h
  rw [List.append_assoc (X ++ [x])] at h2
  exact h2
theorem vr_layD {X rows : va_W} {x : Nat × va_E} {pl : va_W} {A : Nat → Prop} (hD : va_D A (((X ++ pl) ++ [x]) ++ rows)) : va_D A ((X ++ [x]) ++ (pl ++ rows)) := by
  rw [List.append_assoc (X ++ pl)] at hD
  have h := va_D.swap hD
  rw [← List.append_assoc X] at h
  have h2 := va_D.swap h
  rw [List.append_assoc (X ++ [x])] at h2
  exact h2
theorem vr_outer (c : ClassId) (N h0 : Nat) : ∀ i : Nat, Jvm.Free.Multi.outerC c N h0 i = arrV c N (fun j => va_rf (if j < i then some (h0 + 1 + j) else none))
  | 0 => by
    show ({ cls := c, slots := Array.replicate N .null, vm := .none } : Cell) = _
    rw [arrV_new]
    refine congrArg (arrV c N) (funext fun j => ?_)
    simp [va_rf]
  | i + 1 => by
    show (Jvm.Free.Multi.outerC c N h0 i).setSlot i (.ref (h0 + 1 + i)) = _
    rw [vr_outer c N h0 i, arrV_store]
    refine congrArg (arrV c N) (funext fun j => ?_)
    by_cases e : j = i
    · subst e
      simp [updV, va_rf]
    · by_cases h : j < i
      · simp [updV, e, h, Nat.lt_succ_of_lt h]
      · simp [updV, e, h, show ¬ j < i + 1 by omega]
section VGM
variable {p : Program} {l : Launch} {e : Env} {R : Room} {s : State} {m : MethodId} {args : Array Value} {below : List Frame} {meth : Method} {c : Code} {H : Heap} {locs : List Loc} {cells slots : Nat} {Q : State → Prop}
variable {cc : ByteArray} {pc : Nat} {ls : Array Slot} {rest : List Value} {D : va_G} {cl : List vw_C} {A : Nat → Prop} {a : Nat} {tys : List (ClassId × FieldType)} {ws : va_W} {H0 : Heap}
theorem va_mna {X : va_W} {L : List Nat} {f : Nat → va_E} {cc : ByteArray} (hexec : p.tables.exec = Jvm.exec) (hb : c.code = cc) {own : String} {index : Nat} {ty : FieldType} {cy : ClassId} (hown : s.vm.findClass own = some m.cls) (hclink : (Cond.classLink own index ("[" ++ (FieldType.array ty).toString)).before args s = true) (hover : va_AOA ty s) (harr : (Cond.arrayClass ty).before args s = true) (hcy : s.vm.findClass (FieldType.array ty).toString = some cy)
    (hK : va_K D cl tys s) (hP : va_P D cl (X ++ va_pl L f) H) (hD : va_D A (X ++ va_pl L f)) (hS : va_S A H0 H locs) (hA : ∀ q, H0.size ≤ q → A q) {n k : Int32} {N' K' : Nat} {z : vp_A} (hn : ¬ n < 0) (hk : ¬ k < 0) (hN : n.toNatClampNeg = N') (hM : k.toNatClampNeg = K')
    (hb1 : N' * 4 ≤ 536870912) (hb2 : K' * componentBytes ty ≤ 536870912) (hb3 : K' ≤ 536870912) (hdf : fits ty (defaultValue ty) = true) (hdd : (defaultValue ty).isDefault = true) (hcells : cells + (1 + N') ≤ R.cells) (hslots : slots + (N' + N' * K') ≤ R.slots) (hz : ∀ c : ClassId, Jvm.Free.Multi.innerC c K' (defaultValue ty) = vp_cell c z) (hdg : decode cc pc = .ok (.multianewarray index 2, 4))
    (kk : ∀ (q : Nat) (r : Nat → Nat) (cA : ClassId) (H1 : Heap), (∀ i j : Nat, i < N' → j < N' → r i = r j → i = j) → (∀ i : Nat, i < N' → r i ∉ L) → va_K D cl (tys ++ [(cA, .array ty)]) s →
      va_P D cl ((X ++ [(q, .inl (cA, N', .inr (.inr (.inr (.inr (fun i => if i < N' then some (r i) else none))))))]) ++ va_pl (L ++ (List.range N').map r) (vr_up f ((List.range N').map r) (.inl (cy, z)))) H1 → va_D A ((X ++ [(q, .inl (cA, N', .inr (.inr (.inr (.inr (fun i => if i < N' then some (r i) else none))))))]) ++ va_pl (L ++ (List.range N').map r) (vr_up f ((List.range N').map r) (.inl (cy, z)))) → va_S A H0 H1 locs →
      W p l e R s m args below meth c H1 locs (cells + 1 + N') (slots + N' + N' * K') Q (F0 m (pc + 4) ls (.ref q :: rest))) : W p l e R s m args below meth c H locs cells slots Q (F0 m pc ls (.int k :: .int n :: rest)) := by
  subst hN
  subst hM
  intro T hT Xs
  obtain ⟨vm₁, cA, comp, -, fA, fC, hO, -, X', step⟩ := Xs.multianewarray2F hexec hown hclink (va_AOA.use hover) harr (g := F0 m pc ls (.int k :: .int n :: rest)) rfl (by rw [hb]; exact hdg) rfl hn hk hb1 hb2 hb3 hdf hdd hcells hslots
  have ec : some cy = some comp := hcy.symm.trans fC
  cases ec
  generalize hF : Jvm.Free.Multi.fill (T.setVm vm₁) cA cy n.toNatClampNeg k.toNatClampNeg (defaultValue ty) n.toNatClampNeg = F at X' step
  have hTh : (T.setVm vm₁).heap = H := hT
  obtain ⟨f1, f2, -, -⟩ := Jvm.Free.Multi.fill_facts (T.setVm vm₁) cA cy n.toNatClampNeg k.toNatClampNeg (defaultValue ty) n.toNatClampNeg
  rw [hF, hTh] at f1 f2
  have hold : ∀ x : Nat, x < H.size → F.heap[x]? = H[x]? := fun x hx => by
    have := Jvm.Free.Multi.fill_old (T.setVm vm₁) cA cy n.toNatClampNeg k.toNatClampNeg (defaultValue ty) (a := x) (by rw [hTh]; exact hx) n.toNatClampNeg
    rw [hF, hTh] at this
    exact this
  have hrow : ∀ j : Nat, j < n.toNatClampNeg → F.heap[H.size + 1 + j]? = some (vp_cell cy z) := fun j hj => by
    have := Jvm.Free.Multi.fill_inner (T.setVm vm₁) cA cy n.toNatClampNeg k.toNatClampNeg (defaultValue ty) n.toNatClampNeg j hj
    rw [hF, hTh, hz] at this
    exact this
  have hout : Jvm.Free.Multi.outerC cA n.toNatClampNeg H.size n.toNatClampNeg = vp_cell cA (n.toNatClampNeg, .inr (.inr (.inr (.inr (fun i => if i < n.toNatClampNeg then some (H.size + 1 + i) else none))))) := by
    rw [vp_cell_q]
    exact vr_outer cA n.toNatClampNeg H.size n.toNatClampNeg
  rw [hout] at f2
  have hlt : ∀ a, a ∈ L → a < H.size := fun a ha => by
    obtain ⟨k9, hk9⟩ := va_pl_get (X := X) (f := f) ha
    exact (hP k9 _ hk9).lt
  have hnl : ∀ i : Nat, i < n.toNatClampNeg → H.size + 1 + i ∉ L := fun i _ h => by
    have := hlt _ h
    omega
  have hnm : ∀ a, a ∈ (List.range n.toNatClampNeg).map (fun i => H.size + 1 + i) → a ∉ L := fun a ha h => by
    obtain ⟨i, -, rfl⟩ := List.mem_map.mp ha
    have := hlt _ h
    omega
  have hP0 : va_P D cl (X ++ va_pl L f) F.heap := hP.kept (fun k9 x hx => hold x.1 ((hP k9 x hx).lt))
  have hP1 : va_P D cl ((X ++ va_pl L f) ++ [(H.size, .inl (cA, n.toNatClampNeg, .inr (.inr (.inr (.inr (fun i => if i < n.toNatClampNeg then some (H.size + 1 + i) else none))))))]) F.heap := hP0.app (fun k9 x hx => by
    have h0 : k9 < 1 := (List.getElem?_eq_some_iff.mp hx).1
    rw [show k9 = 0 by omega] at hx
    cases hx
    exact f2)
  have hP2 : va_P D cl (((X ++ va_pl L f) ++ [(H.size, .inl (cA, n.toNatClampNeg, .inr (.inr (.inr (.inr (fun i => if i < n.toNatClampNeg then some (H.size + 1 + i) else none))))))]) ++ ((List.range n.toNatClampNeg).map (fun i => H.size + 1 + i)).map (fun a => (a, .inl (cy, z)))) F.heap := hP1.app (fun k9 x hx => by
    obtain ⟨a, ha, rfl⟩ := List.mem_map.mp (List.mem_of_getElem? hx)
    obtain ⟨i, hi, rfl⟩ := List.mem_map.mp ha
    exact hrow i (List.mem_range.mp hi))
  have hD2 : va_D A (((X ++ va_pl L f) ++ [(H.size, .inl (cA, n.toNatClampNeg, .inr (.inr (.inr (.inr (fun i => if i < n.toNatClampNeg then some (H.size + 1 + i) else none))))))]) ++ ((List.range n.toNatClampNeg).map (fun i => H.size + 1 + i)).map (fun a => (a, .inl (cy, z)))) := by
    have hD1 := hD.push (e := .inl (cA, n.toNatClampNeg, .inr (.inr (.inr (.inr (fun i => if i < n.toNatClampNeg then some (H.size + 1 + i) else none)))))) hP rfl (hA _ hS.1)
    generalize hW1 : (X ++ va_pl L f) ++ [(H.size, .inl (cA, n.toNatClampNeg, .inr (.inr (.inr (.inr (fun i => if i < n.toNatClampNeg then some (H.size + 1 + i) else none))))))] = W1 at hD1 hP1 ⊢
    have hle : ∀ (k9 : Nat) (x : Nat × va_E), W1[k9]? = some x → x.1 ≤ H.size := fun k9 x hx => by
      rw [← hW1] at hx
      by_cases hl : k9 < (X ++ va_pl L f).length
      · rw [List.getElem?_append_left hl] at hx
        exact Nat.le_of_lt ((hP k9 x hx).lt)
      · rw [List.getElem?_append_right (by omega)] at hx
        have h0 : k9 - (X ++ va_pl L f).length < 1 := (List.getElem?_eq_some_iff.mp hx).1
        rw [show k9 - (X ++ va_pl L f).length = 0 by omega] at hx
        cases hx
        exact Nat.le_refl _
    have hr : ∀ (k9 : Nat) (x : Nat × va_E), (((List.range n.toNatClampNeg).map (fun i => H.size + 1 + i)).map (fun a => ((a, .inl (cy, z)) : Nat × va_E)))[k9]? = some x → x.1 = H.size + 1 + k9 := fun k9 x hx => by
      rw [List.getElem?_map, List.getElem?_map] at hx
      by_cases h9 : k9 < n.toNatClampNeg
      · rw [List.getElem?_range h9] at hx
        cases hx
        rfl
      · have hn0 : (List.range n.toNatClampNeg)[k9]? = none := List.getElem?_eq_none (by rw [List.length_range]; omega)
        rw [hn0] at hx
        cases hx
    refine ⟨fun i j x y hi hj hxy => ?_, fun k9 x hx => ?_⟩
    · by_cases h1 : i < W1.length <;> by_cases h2 : j < W1.length
      · rw [List.getElem?_append_left h1] at hi
        rw [List.getElem?_append_left h2] at hj
        exact hD1.1 i j x y hi hj hxy
      · rw [List.getElem?_append_left h1] at hi
        rw [List.getElem?_append_right (by omega)] at hj
        have := hle _ _ hi
        have := hr _ _ hj
        omega
      · rw [List.getElem?_append_right (by omega)] at hi
        rw [List.getElem?_append_left h2] at hj
        have := hle _ _ hj
        have := hr _ _ hi
        omega
      · rw [List.getElem?_append_right (by omega)] at hi hj
        have := hr _ _ hi
        have := hr _ _ hj
        omega
    · by_cases h1 : k9 < W1.length
      · rw [List.getElem?_append_left h1] at hx
        exact hD1.2 k9 x hx
      · rw [List.getElem?_append_right (by omega)] at hx
        have := hr _ _ hx
        exact hA _ (by have := hS.1; omega)
  have hAr : ArrOfT s cA (.array ty) := fun N9 z9 => by
    obtain ⟨-, k9, hk9, cm9, hkk9⟩ := (hO 0 0 0).1
    exact ⟨(fun q hq => by cases hq), k9, hk9, cm9, hkk9⟩
  have hK2 : va_K D cl (tys ++ [(cA, .array ty)]) s := ⟨hK.1, fun k9 x hx => by
    by_cases hl : k9 < tys.length
    · rw [List.getElem?_append_left hl] at hx
      exact hK.2 k9 x hx
    · rw [List.getElem?_append_right (by omega)] at hx
      have h0 : k9 - tys.length < 1 := (List.getElem?_eq_some_iff.mp hx).1
      rw [show k9 - tys.length = 0 by omega] at hx
      cases hx
      exact ⟨hAr, fA⟩⟩
  obtain ⟨t, a1, b1⟩ := kk H.size (fun i => H.size + 1 + i) cA F.heap (fun i j _ _ h => by have h9 : H.size + 1 + i = H.size + 1 + j := h; omega) hnl hK2 (by rw [← vr_rows hnm]; exact vr_lay hP2) (by rw [← vr_rows hnm]; exact vr_layD hD2) ⟨by rw [f1]; have := hS.1; omega, fun x h1 h2 => (hold x (Nat.lt_of_lt_of_le h1 hS.1)).trans (hS.2.1 x h1 h2), hS.2.2⟩ F rfl X'
  refine ⟨t, step t ?_, b1⟩
  have e : T.heap.size = H.size := by rw [hT]
  rw [e]
  exact a1
end VGM
/-! ===== END ===== -/
/-! more of the layer: contents that are read only up to their length; rows of rows; states -/
theorem mR_add {G : mG} {M : mM} {H : Heap} {locs : List Loc} {a t : Nat} {e : mE} (h : mR G M H locs) (ht : t ≠ 0) (ha : G.2.1.size ≤ a) (he : va_at G.2.2.1 vwCl (a, mv G.2.2.2.1 e) H) : mR G (mup M a (t, e)) H locs := by
  refine ⟨fun b tb eb hb => ?_, fun b tb eb hb => ?_, h.2.2⟩
  · by_cases hba : b = a
    · subst hba
      rw [mup_s] at hb
      cases hb
      exact Or.inl ⟨ht, he⟩
    · rw [mup_n hba] at hb
      exact h.1 b tb eb hb
  · by_cases hba : b = a
    · subst hba
      rw [mup_s] at hb
      cases hb
      exact ⟨fun q => absurd q ht, fun q => by omega⟩
    · rw [mup_n hba] at hb
      exact h.2.1 b tb eb hb
/-- rows r 0 .. r (n - 1) put into a memory -/
def mrow (M : mM) (r : Nat → Nat) (x : Nat × mE) : Nat → mM
  | 0 => M
  | j + 1 => mup (mrow M r x j) (r j) x
theorem mrow_in {M : mM} {r : Nat → Nat} {x : Nat × mE} : ∀ n i, i < n → mrow M r x n (r i) = some x := by
  intro n
  induction n with
  | zero => intro i h; omega
  | succ n ih =>
    intro i h
    rw [mrow]
    by_cases e : r i = r n
    · rw [e]; exact mup_s
    · rw [mup_n e]
      exact ih i (by
        rcases Nat.lt_or_ge i n with g | g
        · exact g
        · exact absurd (by rw [show i = n by omega]) e)
theorem mrow_out {M : mM} {r : Nat → Nat} {x : Nat × mE} {b : Nat} : ∀ n, (∀ i, i < n → b ≠ r i) → mrow M r x n b = M b := by
  intro n
  induction n with
  | zero => intro _; rfl
  | succ n ih =>
    intro h
    rw [mrow, mup_n (h n (Nat.lt_succ_self _))]
    exact ih (fun i hi => h i (by omega))
theorem s_mna {X : mX} {G : mG} {I : mI} (C : Cx X G I) {bc bs pc : Nat} (q bc' bs' tA tR : Nat) {L : List (Option Value)} {st : List Value} {M : mM} {idx n k : Nat} (d : decode I.2.1 pc = .ok (.multianewarray idx 2, 4)) (e : pc + 4 = q) (hlink : Cond.classLink I.1.cls idx "[[I" ∈ BIG) (hn : n ≤ 1000) (hk : k ≤ 1000) (htA : tA ≠ 0) (htR : tR ≠ 0) (hbc : bc' + 1 + n ≤ bc) (hbs : bs' + n + n * k ≤ bs)
    (h : ∀ (a : Nat) (r : Nat → Nat) (M1 : mM), (∀ i j, i < n → j < n → r i = r j → i = j) → M a = none → (∀ i, i < n → M (r i) = none ∧ r i ≠ a) → M1 a = some (tA, .inr (4, n, .inr (fun i => if i < n then some (r i) else none))) → (∀ i, i < n → M1 (r i) = some (tR, .inr (0, k, .inl (fun _ => 0)))) → (∀ b, b ≠ a → (∀ i, i < n → b ≠ r i) → M1 b = M b) → V X bc' bs' q L (.ref a :: st) M1) : V X bc bs pc L (.int (nI k) :: .int (nI n) :: st) M := by
  obtain ⟨p, e0, R, s, m, args, below, meth, c, Q, mc, ms, G'⟩ := X
  obtain ⟨rfl, hx, hb, hml, hr, hlk, hown, hts, hK, hroom, hini, hS0⟩ := C
  subst e
  intro H locs cells slots ls hR hc hs hl
  have hz : (nI n).toNatClampNeg = n := nI_clamp (by omega)
  have hz2 : (nI k).toNatClampNeg = k := nI_clamp (by omega)
  have hAI : s.vm.findClass (FieldType.array .int).toString = some (G'.2.2.2.1 0) := (hK.1.2 0 _ rfl).2
  have hAA : s.vm.findClass ("[" ++ (FieldType.array .int).toString) = some (G'.2.2.2.1 4) := (hK.1.2 4 _ rfl).2
  have hP0 := mW_P (n := H.size) (f := fun _ => true) hR
  have hD0 := mW_D (n := H.size) (f := fun _ => true) hR
  refine va_mna (X := mW G'.2.2.2.1 M H.size (fun _ => true)) (L := []) (f := fun _ => .inr (0, [])) (ty := .int) (z := (k, .inl (fun _ => 0))) hx hb hown (hts _ hlink) hK.2.2.2.2.2.2.2.2.1 (hts _ ac_int) hAI hK.1 (by rw [show va_pl [] _ = [] from rfl, List.append_nil]; exact hP0) (by rw [show va_pl [] _ = [] from rfl, List.append_nil]; exact hD0) hR.2.2 (fun q h => h) (nI_pos (by omega)) (nI_pos (by omega)) hz hz2 (by omega) (by show k * 4 ≤ _; omega) (by omega) rfl rfl (by omega) (by have : n * k ≤ n * k := Nat.le_refl _; omega) (fun cc => by rw [vp_cell_i]; exact arrV_new cc _ _) d (fun a r cA H1 hinj _ hK2 hP hD hS => ?_)
  have hcA : cA = G'.2.2.2.1 4 := by
    have h2 : s.vm.findClass ("[" ++ (FieldType.array .int).toString) = some cA := (hK2.2 6 (cA, .array .int) (by simp [tysK])).2
    exact Option.some.inj (h2.symm.trans hAA)
  subst hcA
  generalize hW : mW G'.2.2.2.1 M H.size (fun _ => true) = W at hP hD hP0 hD0
  have hpl : va_pl ([] ++ (List.range n).map r) (vr_up (fun _ => (.inr (0, []) : va_E)) ((List.range n).map r) (.inl (G'.2.2.2.1 0, k, .inl (fun _ => 0)))) = (List.range n).map (fun i => (r i, (.inl (G'.2.2.2.1 0, k, .inl (fun _ => 0)) : va_E))) := by
    unfold va_pl
    rw [List.nil_append, List.map_map]
    refine List.map_congr_left (fun i hi => ?_)
    show (r i, vr_up _ _ _ (r i)) = _
    rw [vr_up_in (List.mem_map.mpr ⟨i, hi, rfl⟩)]
  rw [hpl] at hP hD
  have hA1 : ∀ i, i < n → ((W ++ [(a, (.inl (G'.2.2.2.1 4, n, .inr (.inr (.inr (.inr (fun i => if i < n then some (r i) else none))))) : va_E))]) ++ (List.range n).map (fun i => (r i, (.inl (G'.2.2.2.1 0, k, .inl (fun _ => 0)) : va_E))))[W.length + 1 + i]? = some (r i, .inl (G'.2.2.2.1 0, k, .inl (fun _ => 0))) := by
    intro i hi
    rw [List.getElem?_append_right (by simp), List.getElem?_map]
    simp [hi]
  have hA0 : ((W ++ [(a, (.inl (G'.2.2.2.1 4, n, .inr (.inr (.inr (.inr (fun i => if i < n then some (r i) else none))))) : va_E))]) ++ (List.range n).map (fun i => (r i, (.inl (G'.2.2.2.1 0, k, .inl (fun _ => 0)) : va_E))))[W.length]? = some (a, .inl (G'.2.2.2.1 4, n, .inr (.inr (.inr (.inr (fun i => if i < n then some (r i) else none)))))) := by
    rw [List.getElem?_append_left (by simp)]
    simp
  have hra : ∀ i, i < n → r i ≠ a := fun i hi q => by
    have := hD.1 _ _ _ _ (hA1 i hi) hA0 q
    omega
  obtain ⟨g1, g2, g3⟩ := mR_new (q := a) (t := tA) (e := .inr (4, n, .inr (fun i => if i < n then some (r i) else none))) (H1 := H1) (locs1 := locs) hR htA (by
      rw [hW]
      exact hP.by (fun j => j) (fun j x hx => (List.getElem?_append_left (List.getElem?_eq_some_iff.mp hx).1).trans hx)) (by
      rw [hW]
      exact hD.by (fun j => j) (fun j x hx => (List.getElem?_append_left (List.getElem?_eq_some_iff.mp hx).1).trans hx) (fun _ _ _ _ h => h)) hS
  have hno : ∀ i, i < n → M (r i) = none := fun i hi => by
    cases hM : M (r i) with
    | none => rfl
    | some te =>
      obtain ⟨t1, e1⟩ := te
      exfalso
      have hsz : G'.2.1.size ≤ r i := hD.2 _ _ (hA1 i hi)
      by_cases h0 : t1 = 0
      · have := (hR.2.1 _ _ _ hM).mp h0
        omega
      · have hm : (r i, mv G'.2.2.2.1 e1) ∈ W := by rw [← hW]; exact mW_mem.mpr ⟨hR.lt hM, rfl, t1, e1, hM, h0, rfl⟩
        obtain ⟨j, hj⟩ := List.mem_iff_getElem?.mp hm
        have hlt : j < W.length := (List.getElem?_eq_some_iff.mp hj).1
        have := hD.1 j (W.length + 1 + i) (r i, mv G'.2.2.2.1 e1) _ (by rw [List.getElem?_append_left (by simp; omega), List.getElem?_append_left hlt]; exact hj) (hA1 i hi) rfl
        omega
  have hall : ∀ j, j ≤ n → mR G' (mrow (mup M a (tA, .inr (4, n, .inr (fun i => if i < n then some (r i) else none)))) r (tR, .inr (0, k, .inl (fun _ => 0))) j) H1 locs := by
    intro j
    induction j with
    | zero => intro _; exact g3
    | succ j ih =>
      intro hj
      exact mR_add (ih (by omega)) htR (hD.2 _ _ (hA1 j (by omega))) (hP _ _ (hA1 j (by omega)))
  refine h a r _ hinj g1 (fun i hi => ⟨hno i hi, hra i hi⟩) ?_ (fun i hi => mrow_in n i hi) ?_ H1 locs _ _ ls (hall n (Nat.le_refl _)) (by omega) (by omega) hl
  · rw [mrow_out n (fun i hi q => hra i hi q.symm)]
    exact mup_s
  · intro b h1 h2
    rw [mrow_out n h2, mup_n h1]
set_option maxRecDepth 100000 in
set_option maxHeartbeats 4000000 in
theorem c_studyInit {G : mG} {M : mM} {y : Nat} (hY : M y = some (40, .inl (4, [.null, .int 0, .int 0, .int 0, .int 0]))) : CC G iX3_init 17 416 [.ref y] M (fun r M1 => r = none ∧ yR M1 y 0 0 0 0 (fun _ _ => 0) ∧ mZ [40] M M1) := by
  refine CC.of rfl (Nat.le_of_ble_eq_true rfl) rfl (fun X C Tr => ?_)
  show V X 17 416 0 [some (.ref y)] [] M
  have hF : mZ [40] M M := mZ.rf
  refine s_aload_n C 1 dX3_init_0 rfl rfl ?_
  refine s_oi C 4 dX3_init_1 rfl oi_X3_3 rfl (by decide) (Nat.le_of_ble_eq_true rfl) ?_
  refine s_aload_n C 5 dX3_init_4 rfl rfl ?_
  refine s_bipush C 7 (nI 16) dX3_init_5 rfl (by decide) ?_
  refine s_bipush C 9 (nI 25) dX3_init_7 rfl (by decide) ?_
  refine s_mna C 13 0 0 41 42 dX3_init_9 rfl k_X3_9 (by decide) (by decide) (by decide) (by decide) (by decide) (by decide) (fun pA ra M1 hinj hn1 hn2 hA0 hrw hother => ?_)
  have hY := (hother y (fun q => by rw [q, hn1] at hY; cases hY) (fun i hi q => by rw [q, (hn2 i hi).1] at hY; cases hY)).trans hY
  have hF : mZ [40] M M1 := ⟨fun b t e hb _ => (hother b (fun q => by rw [q, hn1] at hb; cases hb) (fun i hi q => by rw [q, (hn2 i hi).1] at hb; cases hb)).trans hb, fun b hb => by by_cases q : b = pA; (· rw [q]; exact hn1); by_cases q2 : ∃ i, i < 16 ∧ b = ra i; (· obtain ⟨i, hi, q3⟩ := q2; rw [q3]; exact (hn2 i hi).1); rw [← hother b q (fun i hi q3 => q2 ⟨i, hi, q3⟩)]; exact hb⟩
  have hrY : ∀ i, i < 16 → ra i ≠ y := fun i hi q => by rw [← q, hrw i hi] at hY; cases hY
  have hY1 := hY
  refine s_putFU C 16 dX3_init_13 rfl p_X3_11 rfl hY (by first | decide | omega) rfl rfl rfl (fs' := [.ref pA, .int 0, .int 0, .int 0, .int 0]) rfl (fun M2 U3 => ?_)
  have hF := hF.put U3 hY (by first | decide | (simp; done) | (simp; omega) | (simp [*]; done))
  have hY := U3.s
  exact s_vret C dX3_init_16 Tr rfl ⟨rfl, ⟨pA, _, ra, hY, U3.od hA0 (fun q => by rw [q] at hA0; rw [hA0] at hY1; cases hY1), fun i hi => if_pos hi, hinj, fun i hi => U3.od (hrw i hi) (hrY i hi), by omega, by omega, by omega, by omega⟩, hF⟩
