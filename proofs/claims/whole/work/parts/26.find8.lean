/-! a plan's commands, one by one -/
def zT (G : mG) (M : mM) (z : Nat) (x : mSt) (c : Nat) (hs : Nat → mSt) (n : Nat) (g : Nat → Int32) (p : Nat) (cmd val : Int32) (fr to : Nat) : Prop := ∃ s tr h tx rk sy, M z = some (6, .inl (7, [.ref s, .ref tr, .ref h, .ref tx, .ref rk, .ref sy])) ∧ sS G M 0 s x ∧ (∃ y, sS G M 1 tr y) ∧ hR G M h c hs ∧ xR M tx n p cmd val fr to g ∧ (∃ rc rr rp, kR M rk rc rr rp) ∧ (∃ y1 y2 y3 y4 yw, yR M sy y1 y2 y3 y4 yw) ∧ ∀ k, k < n → vp_nar .char (g k) = g k
theorem zT.R {G : mG} {M : mM} {z : Nat} {x : mSt} {c : Nat} {hs : Nat → mSt} {n : Nat} {g : Nat → Int32} {p : Nat} {cmd val : Int32} {fr to : Nat} (h : zT G M z x c hs n g p cmd val fr to) : zR G M z x c hs n g := by
  obtain ⟨s, tr, h, tx, rk, sy, hZ, hs0, htr, hh, hx, ⟨rc, rr, rp, hk⟩, ⟨y1, y2, y3, y4, hy⟩, hch⟩ := h
  exact ⟨rc, rr, rp, y1, y2, y3, y4, s, tr, h, tx, rk, sy, hZ, hs0, htr, hh, ⟨_, _, _, _, _, hx⟩, hk, hy, hch⟩
/-- a call that leaves the finder's own cell and the text keeps the text's place -/
theorem zT.keep {G : mG} {M M1 : mM} {Ts : List Nat} {z : Nat} {x x1 : mSt} {c c1 : Nat} {hs hs1 : Nat → mSt} {n : Nat} {g : Nat → Int32} {p : Nat} {cmd val : Int32} {fr to : Nat} (h : zT G M z x c hs n g p cmd val fr to) (hF : mZ Ts M M1) (h6 : 6 ∉ Ts) (h20 : 20 ∉ Ts) (h21 : 21 ∉ Ts) (h1 : zR G M1 z x1 c1 hs1 n g) : zT G M1 z x1 c1 hs1 n g p cmd val fr to := by
  obtain ⟨s, tr, h, tx, rk, sy, hZ, hs0, htr, hh, hx, hk, hy, hch⟩ := h
  obtain ⟨rc, rr, rp, y1, y2, y3, y4, s', tr', h', tx', rk', sy', hZ', hs0', htr', hh', hx', hk', hy', hch'⟩ := h1
  have e := hF.at hZ h6
  rw [hZ'] at e
  cases e
  exact ⟨s, tr, h, tx, rk, sy, hZ', hs0', htr', hh', hx.at hF h20 h21, ⟨_, _, _, hk'⟩, ⟨_, _, _, _, hy'⟩, hch'⟩
