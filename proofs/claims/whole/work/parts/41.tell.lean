/-! TELL -/
def nowP (a : Nat) : Prop := 64 ≤ a ∧ a ≤ 73
def withN (S : ST) (s : SN) : ST := (S.1, s, S.2.2)
theorem now_inv {u u' : am_U} {S : ST} {L L' : Nat} {s : SN} (h : InvC u S L L') (ho : Only nowP u u') (hs : StandC u' 64 s) : InvC u' (withN S s) L L' := by
  obtain ⟨⟨r1, r2, r3, r4, r5, r6⟩, ⟨l1, l2, l3⟩, st, pst, mk, tp⟩ := h
  have n : ∀ a, (a ≤ 63 ∨ 74 ≤ a) → ¬ nowP a := fun a ha q => by unfold nowP at q; omega
  have e := fun a ha => ho a (n a ha)
  refine ⟨⟨by rw [(e 0 (by omega)).2.2.1]; exact r1, by rw [(e 0 (by omega)).2.2.1]; exact r2, r3, by rw [(e 82 (by omega)).2.2.2.2.2]; exact r4, by rw [(e 147 (by omega)).2.2.2.2.2]; exact r5, ?_⟩, ⟨l1.keep ho (fun k hk => n _ (by omega)), l2.keep ho (n _ (by omega)) (n _ (by omega)), l3.keep ho (n _ (by omega)) (n _ (by omega))⟩, hs, past_keep pst ho (e 0 (by omega)).1 (fun a h1 h2 => n _ (by omega)), fun k hk => ⟨by rw [(e (148 + 10 * k) (by omega)).1]; exact (mk k hk).1, fun s hs => ((mk k hk).2 s hs).keep ho (fun i hi => n _ (by omega))⟩, ?_⟩
  · unfold most4
    rw [(e (L' + 1) (by omega)).1, (e (L' + 3) (by omega)).1, (e (L' + 5) (by omega)).1, (e (L' + 7) (by omega)).1]
    exact r6
  · unfold TapeC
    rw [(e 1 (by omega)).1, (e 2 (by omega)).2.2.2.1]
    exact tp
def tellL (t : TL) (j : Nat) (c : Bool) : TL := (t.1 + 1, fun k => if k = t.1 then j else t.2.1 k, fun k => if k = t.1 then c else t.2.2 k)
def tellS (S : ST) (x : Int32) (c : Bool) : ST × Bool := if okI x (nT S.1) && decide (S.2.1.2.2.1 < 12) then (withN S (S.2.1.1, S.2.1.2.1, tellL S.2.1.2.2 (ix x) c), true) else (S, false)
theorem tell_or (t : TL) (j : Nat) (c b : Bool) : orF (tellL t j c).1 (fun k => if (tellL t j c).2.2 k = b then bi ((tellL t j c).2.1 k) else 0) = orF t.1 (fun k => if t.2.2 k = b then bi (t.2.1 k) else 0) ||| (if c = b then bi j else 0) := by
  show orF (t.1 + 1) _ = _
  rw [orF]
  congr 1
  · refine orF_congr fun i hi => ?_
    show (if (if i = t.1 then c else t.2.2 i) = b then bi (if i = t.1 then j else t.2.1 i) else 0) = _
    rw [if_neg (show ¬ i = t.1 by omega), if_neg (show ¬ i = t.1 by omega)]
  · show (if (if t.1 = t.1 then c else _) = b then bi (if t.1 = t.1 then j else _) else 0) = _
    rw [if_pos rfl, if_pos rfl]
