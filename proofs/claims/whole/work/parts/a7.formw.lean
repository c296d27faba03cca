/-! FORMULAS, of the reference: its codes worked -/
def kkB (b : Bool) : Int32 := if b then 3 else 2
section Work
variable {n m : Nat} {f : Nat → Nat} {b : Bool}
/-- the codes of tokens i to j, worked -/
def Rn (n : Nat) (f : Nat → Nat) (b : Bool) (h o : Int32) (i j : Nat) (s s' : WK) : Prop := wRun (fun k => nI (cdF (tk n f k))) (kkB b) h o i s (j - i) = some s'
theorem wRun_add {cs : Nat → Int32} {kk h o : Int32} {g : Nat} {s0 : WK} {x : Nat} : ∀ y, wRun cs kk h o g s0 (x + y) = (wRun cs kk h o g s0 x).bind (fun s => wRun cs kk h o (g + x) s y)
  | 0 => by
    show wRun cs kk h o g s0 x = (wRun cs kk h o g s0 x).bind some
    cases wRun cs kk h o g s0 x <;> rfl
  | y + 1 => by
    rw [show x + (y + 1) = (x + y) + 1 by omega, wRun, wRun_add y]
    cases wRun cs kk h o g s0 x with
    | none => rfl
    | some s =>
      show (wRun cs kk h o (g + x) s y).bind _ = wRun cs kk h o (g + x) s (y + 1)
      rw [wRun, Nat.add_assoc]
theorem Rn.tr {h o : Int32} {i j k : Nat} {s s1 s2 : WK} (hij : i ≤ j) (hjk : j ≤ k) (h1 : Rn n f b h o i j s s1) (h2 : Rn n f b h o j k s1 s2) : Rn n f b h o i k s s2 := by
  unfold Rn at *
  rw [show k - i = (j - i) + (k - j) by omega, wRun_add, h1]
  show wRun _ _ _ _ (i + (j - i)) s1 _ = _
  rw [show i + (j - i) = j by omega]
  exact h2
theorem Rn.one {h o : Int32} {i : Nat} {s s' : WK} (h1 : wStep (kkB b) h o (nI (cdF (tk n f i))) s = some s') : Rn n f b h o i (i + 1) s s' := by
  unfold Rn
  rw [show i + 1 - i = 1 by omega]
  exact h1
theorem Rn.rf {h o : Int32} {i : Nat} {s : WK} : Rn n f b h o i i s s := by
  unfold Rn
  rw [Nat.sub_self]
  rfl
def pend (q : Nat → Nat → Int32) (d : Nat) : Int32 := if q 5 d = 21 then q 4 d - q 6 d else q 4 d + q 6 d
theorem w1_s {q : Nat → Nat → Int32} {a d : Nat} {x : Int32} : w1 q a d x a d = x := if_pos ⟨rfl, rfl⟩
theorem w1_a {q : Nat → Nat → Int32} {a d a' d' : Nat} {x : Int32} (h : ¬ a' = a) : w1 q a d x a' d' = q a' d' := if_neg (fun y => h y.1)
theorem w1_d {q : Nat → Nat → Int32} {a d a' d' : Nat} {x : Int32} (h : ¬ d' = d) : w1 q a d x a' d' = q a' d' := if_neg (fun y => h y.2)
def valW (l : Nat) (q : Nat → Nat → Int32) (d : Nat) : Int32 := if l = 3 then q 6 d else if l = 2 then pend q d else if l = 1 then wVal1 (wSums q d) d else wTests q d 0 d
def keepW (l : Nat) (q q' : Nat → Nat → Int32) (d : Nat) : Prop := q' 8 d = q 8 d ∧ (1 ≤ l → q' 0 d = q 0 d ∧ q' 1 d = q 1 d) ∧ (2 ≤ l → q' 2 d = q 2 d ∧ q' 3 d = q 3 d) ∧ (3 ≤ l → q' 4 d = q 4 d ∧ q' 5 d = q 5 d) ∧ (4 ≤ l → q' 7 d = q 7 d)
theorem keepW.tr {l l' : Nat} {q q1 q2 : Nat → Nat → Int32} {d : Nat} (hl : l ≤ l') (h1 : keepW l q q1 d) (h2 : keepW l' q1 q2 d) : keepW l q q2 d :=
  ⟨h2.1.trans h1.1, fun h => ⟨(h2.2.1 (by omega)).1.trans (h1.2.1 h).1, (h2.2.1 (by omega)).2.trans (h1.2.1 h).2⟩, fun h => ⟨(h2.2.2.1 (by omega)).1.trans (h1.2.2.1 h).1, (h2.2.2.1 (by omega)).2.trans (h1.2.2.1 h).2⟩, fun h => ⟨(h2.2.2.2.1 (by omega)).1.trans (h1.2.2.2.1 h).1, (h2.2.2.2.1 (by omega)).2.trans (h1.2.2.2.1 h).2⟩, fun h => (h2.2.2.2.2 (by omega)).trans (h1.2.2.2.2 h)⟩
def entW (l : Nat) (q : Nat → Nat → Int32) (d : Nat) : Prop := (l ≤ 3 → q 7 d = 0) ∧ (l ≤ 2 → q 4 d = 0 ∧ q 5 d = 20) ∧ (l ≤ 1 → q 3 d = 0) ∧ (l = 0 → q 1 d = 0)
def baseW (q : Nat → Nat → Int32) (d : Nat) : Prop := d = 0 ∨ ¬ q 8 d = 1
def QpW (n : Nat) (f : Nat → Nat) (b : Bool) (d i : Nat) (r : Rt) : Prop := ∀ e j, r = .ok (e, j) → i ≤ j ∧ ∀ (h o : Int32) (q : Nat → Nat → Int32), d ≤ 5 → ∃ q', (∀ a x, x ≤ d → q' a x = q a x) ∧ Rn n f b h o i j (d, q) (wTerm q' (wNots q' d (e.2.1 h o)))
def QlW (n : Nat) (f : Nat → Nat) (b : Bool) (l d i : Nat) (r : Rt) : Prop := ∀ e j, r = .ok (e, j) → i ≤ j ∧ ∀ (h o : Int32) (q : Nat → Nat → Int32), d ≤ 5 → baseW q d → entW l q d → ∃ q2, Rn n f b h o i j (d, q) (d, q2) ∧ (∀ a x, x < d → q2 a x = q a x) ∧ keepW l q q2 d ∧ (l ≤ 3 → valW l q2 d = e.2.1 h o) ∧ (l = 4 → q2 6 d = if q 7 d = 0 then e.2.1 h o else q 6 d * e.2.1 h o)
def QoW (n : Nat) (f : Nat → Nat) (b : Bool) (l d : Nat) (e0 : Fm) (j0 : Nat) (c0 : Bool) (r : Rt) : Prop := ∀ e j, r = .ok (e, j) → j0 ≤ j ∧ ∀ (h o : Int32) (q : Nat → Nat → Int32), d ≤ 5 → baseW q d → valW l q d = e0.2.1 h o → (l = 1 → c0 = false → q 3 d = 0) → ∃ q2, Rn n f b h o j0 j (d, q) (d, q2) ∧ (∀ a x, x < d → q2 a x = q a x) ∧ keepW l q q2 d ∧ valW l q2 d = e.2.1 h o
theorem baseW.kp {q q' : Nat → Nat → Int32} {d : Nat} (h : baseW q d) (e : q' 8 d = q 8 d) : baseW q' d := by
  unfold baseW
  rw [e]
  exact h
theorem wNots_b {q : Nat → Nat → Int32} {d : Nat} {x : Int32} (h : baseW q d) : wNots q d x = (d, x) := by
  cases d with
  | zero => rfl
  | succ d =>
    rcases h with h | h
    · omega
    · rw [wNots, if_neg h]
theorem cd_lit : ∀ b, b < 10000 → True := fun _ _ => trivial
theorem step_num {kk h o : Int32} {x : Nat} {s : WK} (hx : x < 10000) : wStep kk h o (nI (100 + x)) s = some (wTerm s.2 (wNots s.2 s.1 (nI x))) := by
  have k : ∀ c : Nat, c < 100 → ¬ nI (100 + x) = nI c := fun c hc q => by have := (nI_eqI (by omega) (by omega)).mp q; omega
  have e100 : (100 : Int32) ≤ nI (100 + x) := (nI_leI (a := 100) (b := 100 + x) (by omega) (by omega)).mpr (by omega)
  have sub : nI (100 + x) - 100 = nI x := nI_subl 100 x
  unfold wStep
  rw [if_neg (fun q => q.elim (k 28 (by decide)) (k 30 (by decide))), if_neg (fun q => q.elim (k 20 (by decide)) (k 21 (by decide))), if_neg (show ¬ nI (100 + x) = 22 from k 22 (by decide)), if_neg (fun q => q.elim (k 24 (by decide)) (k 25 (by decide))), if_neg (fun q => q.elim (k 26 (by decide)) (k 27 (by decide))), if_neg (show ¬ nI (100 + x) = 29 from k 29 (by decide)), if_pos e100, sub]
theorem wSums_at {q : Nat → Nat → Int32} {d : Nat} : wSums q d 4 d = pend q d ∧ wSums q d 7 d = 0 ∧ (∀ a, ¬ a = 4 → ¬ a = 7 → wSums q d a d = q a d) ∧ ∀ a x, ¬ x = d → wSums q d a x = q a x := by
  unfold wSums
  refine ⟨?_, w1_s, fun a h1 h2 => ?_, fun a x hx => ?_⟩
  · rw [w1_a (by decide), w1_s]; rfl
  · rw [w1_a h2, w1_a h1]
  · rw [w1_d hx, w1_d hx]
theorem wTests_at {q : Nat → Nat → Int32} {d : Nat} : wTests q d 0 d = wVal2 (wSums q d) d (wVal1 (wSums q d) d) ∧ wTests q d 3 d = 0 ∧ wTests q d 4 d = 0 ∧ wTests q d 5 d = 20 ∧ wTests q d 7 d = 0 ∧ wTests q d 8 d = q 8 d ∧ ∀ a x, ¬ x = d → wTests q d a x = q a x := by
  obtain ⟨s1, s2, s3, s4⟩ := wSums_at (q := q) (d := d)
  unfold wTests wTests0
  refine ⟨?_, ?_, ?_, ?_, ?_, ?_, fun a x hx => ?_⟩
  · rw [w1_a (by decide), w1_a (by decide), w1_a (by decide), w1_s]
  · rw [w1_a (by decide), w1_a (by decide), w1_s]
  · rw [w1_a (by decide), w1_s]
  · rw [w1_s]
  · rw [w1_a (by decide), w1_a (by decide), w1_a (by decide), w1_a (by decide)]; exact s2
  · rw [w1_a (by decide), w1_a (by decide), w1_a (by decide), w1_a (by decide)]; exact s3 8 (by decide) (by decide)
  · rw [w1_d hx, w1_d hx, w1_d hx, w1_d hx]; exact s4 a x hx
theorem wOpens_at {q : Nat → Nat → Int32} {d : Nat} : entW 0 (wOpens q d) d ∧ wOpens q d 8 d = q 8 d ∧ ∀ a x, ¬ x = d → wOpens q d a x = q a x := by
  unfold wOpens entW
  refine ⟨⟨fun _ => w1_s, fun _ => ⟨?_, ?_⟩, fun _ => ?_, fun _ => ?_⟩, ?_, fun a x hx => ?_⟩
  · rw [w1_a (by decide), w1_a (by decide), w1_s]
  · rw [w1_a (by decide), w1_s]
  · rw [w1_a (by decide), w1_a (by decide), w1_a (by decide), w1_s]
  · rw [w1_a (by decide), w1_a (by decide), w1_a (by decide), w1_a (by decide), w1_s]
  · rw [w1_a (by decide), w1_a (by decide), w1_a (by decide), w1_a (by decide), w1_a (by decide)]
  · rw [w1_d hx, w1_d hx, w1_d hx, w1_d hx, w1_d hx]
/-- the steps' values join -/
theorem join_v : ∀ x y : Int32, joinP (nI 4) x y = b2i (!decide (x = 0) && !decide (y = 0)) ∧ joinP (nI 5) x y = b2i (!decide (x = 0) || !decide (y = 0)) ∧ joinP (nI 6) x y = b2i (decide (x < y)) ∧ joinP (nI 7) x y = b2i (decide (x = y)) ∧ joinP (nI 8) x y = x + y ∧ joinP (nI 9) x y = x - y ∧ joinP (nI 10) x y = x * y := fun x y => ⟨rfl, rfl, rfl, rfl, rfl, rfl, rfl⟩
/-- a step of a level, in the state of the level above -/
theorem joint_w {h o : Int32} {l d s i : Nat} {q : Nat → Nat → Int32} (hl : l < 4) (hj : jn l (csort (tk n f i)) = some s) (h3 : l = 1 → q 3 d = 0) :
    ∃ q1, Rn n f b h o i (i + 1) (d, q) (d, q1) ∧ (∀ a x, ¬ x = d → q1 a x = q a x) ∧ q1 8 d = q 8 d ∧ entW (l + 1) q1 d ∧
      ∀ (q2 : Nat → Nat → Int32) (v : Int32), keepW (l + 1) q1 q2 d → (l + 1 ≤ 3 → valW (l + 1) q2 d = v) → (l + 1 = 4 → q2 6 d = if q1 7 d = 0 then v else q1 6 d * v) → valW l q2 d = joinP (nI s) (valW l q d) v ∧ keepW l q q2 d := by
  obtain ⟨s1, s2, s3, s4⟩ := wSums_at (q := q) (d := d)
  obtain ⟨t1, t2, t3, t4, t5, t6, t7⟩ := wTests_at (q := q) (d := d)
  rcases jn_cases hj with ⟨rfl, c⟩ | ⟨rfl, c⟩ | ⟨rfl, c⟩ | ⟨rfl, c⟩ | ⟨rfl, c⟩ | ⟨rfl, c⟩ | ⟨rfl, c⟩
  all_goals
    rw [c] at hj
    have hj := Option.some.inj hj
    subst hj
  · have hcd : cdF (tk n f i) = 26 := by unfold cdF; rw [c]; rfl
    refine ⟨w1 (wTests q d) 1 d 26, .one (by rw [hcd]; rfl), fun a x hx => by rw [w1_d hx]; exact t7 a x hx, by rw [w1_a (by decide)]; exact t6, ⟨fun _ => by rw [w1_a (by decide)]; exact t5, fun _ => ⟨by rw [w1_a (by decide)]; exact t3, by rw [w1_a (by decide)]; exact t4⟩, fun _ => by rw [w1_a (by decide)]; exact t2, fun h => by omega⟩, fun q2 v hk hv _ => ⟨?_, ?_⟩⟩
    · obtain ⟨u1, u2, u3, u4⟩ := wSums_at (q := q2) (d := d)
      have k := hk.2.1 (by decide)
      rw [w1_a (by decide), w1_s] at k
      have hv := hv (by decide)
      show wTests q2 d 0 d = joinP (nI 4) (wTests q d 0 d) v
      rw [wTests_at.1]
      have hv : wVal1 (wSums q2 d) d = v := hv
      rw [hv, (join_v _ _).1]
      unfold wVal2
      rw [u3 1 (by decide) (by decide), u3 0 (by decide) (by decide), k.1, k.2, if_pos rfl]
    · exact ⟨by rw [hk.1, w1_a (by decide)]; exact t6, fun h => by omega, fun h => by omega, fun h => by omega, fun h => by omega⟩
  · have hcd : cdF (tk n f i) = 27 := by unfold cdF; rw [c]; rfl
    refine ⟨w1 (wTests q d) 1 d 27, .one (by rw [hcd]; rfl), fun a x hx => by rw [w1_d hx]; exact t7 a x hx, by rw [w1_a (by decide)]; exact t6, ⟨fun _ => by rw [w1_a (by decide)]; exact t5, fun _ => ⟨by rw [w1_a (by decide)]; exact t3, by rw [w1_a (by decide)]; exact t4⟩, fun _ => by rw [w1_a (by decide)]; exact t2, fun h => by omega⟩, fun q2 v hk hv _ => ⟨?_, ?_⟩⟩
    · obtain ⟨u1, u2, u3, u4⟩ := wSums_at (q := q2) (d := d)
      have k := hk.2.1 (by decide)
      rw [w1_a (by decide), w1_s] at k
      have hv := hv (by decide)
      show wTests q2 d 0 d = joinP (nI 5) (wTests q d 0 d) v
      rw [wTests_at.1]
      have hv : wVal1 (wSums q2 d) d = v := hv
      rw [hv, (join_v _ _).2.1]
      unfold wVal2
      rw [u3 1 (by decide) (by decide), u3 0 (by decide) (by decide), k.1, k.2, if_neg (by decide), if_pos rfl]
    · exact ⟨by rw [hk.1, w1_a (by decide)]; exact t6, fun h => by omega, fun h => by omega, fun h => by omega, fun h => by omega⟩
  · have hcd : cdF (tk n f i) = 24 := by unfold cdF; rw [c]; rfl
    refine ⟨wPut (wSums q d) d 24, .one (by rw [hcd]; rfl), fun a x hx => ?_, ?_, ⟨fun _ => ?_, fun _ => ⟨?_, ?_⟩, fun h => by omega, fun h => by omega⟩, fun q2 v hk hv _ => ⟨?_, ?_⟩⟩
    · unfold wPut; rw [w1_d hx, w1_d hx, w1_d hx, w1_d hx]; exact s4 a x hx
    · unfold wPut; rw [w1_a (by decide), w1_a (by decide), w1_a (by decide), w1_a (by decide)]; exact s3 8 (by decide) (by decide)
    · unfold wPut; rw [w1_a (by decide), w1_a (by decide), w1_a (by decide), w1_a (by decide)]; exact s2
    · unfold wPut; rw [w1_a (by decide), w1_s]
    · unfold wPut; rw [w1_s]
    · obtain ⟨u1, u2, u3, u4⟩ := wSums_at (q := q2) (d := d)
      have k := hk.2.2.1 (by decide)
      unfold wPut at k
      rw [w1_a (by decide), w1_a (by decide), w1_a (by decide), w1_s, w1_a (a' := 3) (by decide), w1_a (a' := 3) (by decide), w1_s, s1] at k
      have hv : pend q2 d = v := hv (by decide)
      show wVal1 (wSums q2 d) d = joinP (nI 6) (wVal1 (wSums q d) d) v
      rw [(join_v _ _).2.2.1]
      unfold wVal1
      rw [u3 3 (by decide) (by decide), u3 2 (by decide) (by decide), u1, k.1, k.2, hv, s3 3 (by decide) (by decide), h3 rfl, s1, if_neg (by decide), if_pos rfl, if_neg (by decide), if_neg (by decide)]
    · have k8 := hk.1
      have k1 := hk.2.1 (by decide)
      unfold wPut at k8 k1
      rw [w1_a (by decide), w1_a (by decide), w1_a (by decide), w1_a (by decide)] at k8
      rw [w1_a (a' := 0) (by decide), w1_a (a' := 0) (by decide), w1_a (a' := 0) (by decide), w1_a (a' := 0) (by decide), w1_a (a' := 1) (by decide), w1_a (a' := 1) (by decide), w1_a (a' := 1) (by decide), w1_a (a' := 1) (by decide)] at k1
      exact ⟨k8.trans (s3 8 (by decide) (by decide)), fun _ => ⟨k1.1.trans (s3 0 (by decide) (by decide)), k1.2.trans (s3 1 (by decide) (by decide))⟩, fun h => by omega, fun h => by omega, fun h => by omega⟩
  · have hcd : cdF (tk n f i) = 25 := by unfold cdF; rw [c]; rfl
    refine ⟨wPut (wSums q d) d 25, .one (by rw [hcd]; rfl), fun a x hx => ?_, ?_, ⟨fun _ => ?_, fun _ => ⟨?_, ?_⟩, fun h => by omega, fun h => by omega⟩, fun q2 v hk hv _ => ⟨?_, ?_⟩⟩
    · unfold wPut; rw [w1_d hx, w1_d hx, w1_d hx, w1_d hx]; exact s4 a x hx
    · unfold wPut; rw [w1_a (by decide), w1_a (by decide), w1_a (by decide), w1_a (by decide)]; exact s3 8 (by decide) (by decide)
    · unfold wPut; rw [w1_a (by decide), w1_a (by decide), w1_a (by decide), w1_a (by decide)]; exact s2
    · unfold wPut; rw [w1_a (by decide), w1_s]
    · unfold wPut; rw [w1_s]
    · obtain ⟨u1, u2, u3, u4⟩ := wSums_at (q := q2) (d := d)
      have k := hk.2.2.1 (by decide)
      unfold wPut at k
      rw [w1_a (by decide), w1_a (by decide), w1_a (by decide), w1_s, w1_a (a' := 3) (by decide), w1_a (a' := 3) (by decide), w1_s, s1] at k
      have hv : pend q2 d = v := hv (by decide)
      show wVal1 (wSums q2 d) d = joinP (nI 7) (wVal1 (wSums q d) d) v
      rw [(join_v _ _).2.2.2.1]
      unfold wVal1
      rw [u3 3 (by decide) (by decide), u3 2 (by decide) (by decide), u1, k.1, k.2, hv, s3 3 (by decide) (by decide), h3 rfl, s1, if_pos rfl, if_neg (by decide), if_neg (by decide)]
    · have k8 := hk.1
      have k1 := hk.2.1 (by decide)
      unfold wPut at k8 k1
      rw [w1_a (by decide), w1_a (by decide), w1_a (by decide), w1_a (by decide)] at k8
      rw [w1_a (a' := 0) (by decide), w1_a (a' := 0) (by decide), w1_a (a' := 0) (by decide), w1_a (a' := 0) (by decide), w1_a (a' := 1) (by decide), w1_a (a' := 1) (by decide), w1_a (a' := 1) (by decide), w1_a (a' := 1) (by decide)] at k1
      exact ⟨k8.trans (s3 8 (by decide) (by decide)), fun _ => ⟨k1.1.trans (s3 0 (by decide) (by decide)), k1.2.trans (s3 1 (by decide) (by decide))⟩, fun h => by omega, fun h => by omega, fun h => by omega⟩
  · have hcd : cdF (tk n f i) = 20 := by unfold cdF; rw [c]; rfl
    refine ⟨w1 (wSums q d) 5 d 20, .one (by rw [hcd]; rfl), fun a x hx => by rw [w1_d hx]; exact s4 a x hx, by rw [w1_a (by decide)]; exact s3 8 (by decide) (by decide), ⟨fun _ => by rw [w1_a (by decide)]; exact s2, fun h => by omega, fun h => by omega, fun h => by omega⟩, fun q2 v hk hv _ => ⟨?_, ?_⟩⟩
    · have k := hk.2.2.2.1 (by decide)
      rw [w1_a (by decide), w1_s, s1] at k
      have hv : q2 6 d = v := hv (by decide)
      show pend q2 d = joinP (nI 8) (pend q d) v
      rw [(join_v _ _).2.2.2.2.1]
      show (if q2 5 d = 21 then q2 4 d - q2 6 d else q2 4 d + q2 6 d) = _
      rw [k.1, k.2, hv, if_neg (by decide)]
    · have k1 := hk.2.1 (by decide)
      have k2 := hk.2.2.1 (by decide)
      rw [w1_a (by decide), w1_a (by decide), s3 0 (by decide) (by decide), s3 1 (by decide) (by decide)] at k1
      rw [w1_a (by decide), w1_a (by decide), s3 2 (by decide) (by decide), s3 3 (by decide) (by decide)] at k2
      exact ⟨by rw [hk.1, w1_a (by decide)]; exact s3 8 (by decide) (by decide), fun _ => k1, fun _ => k2, fun h => by omega, fun h => by omega⟩
  · have hcd : cdF (tk n f i) = 21 := by unfold cdF; rw [c]; rfl
    refine ⟨w1 (wSums q d) 5 d 21, .one (by rw [hcd]; rfl), fun a x hx => by rw [w1_d hx]; exact s4 a x hx, by rw [w1_a (by decide)]; exact s3 8 (by decide) (by decide), ⟨fun _ => by rw [w1_a (by decide)]; exact s2, fun h => by omega, fun h => by omega, fun h => by omega⟩, fun q2 v hk hv _ => ⟨?_, ?_⟩⟩
    · have k := hk.2.2.2.1 (by decide)
      rw [w1_a (by decide), w1_s, s1] at k
      have hv : q2 6 d = v := hv (by decide)
      show pend q2 d = joinP (nI 9) (pend q d) v
      rw [(join_v _ _).2.2.2.2.2.1]
      show (if q2 5 d = 21 then q2 4 d - q2 6 d else q2 4 d + q2 6 d) = _
      rw [k.1, k.2, hv, if_pos rfl]
    · have k1 := hk.2.1 (by decide)
      have k2 := hk.2.2.1 (by decide)
      rw [w1_a (by decide), w1_a (by decide), s3 0 (by decide) (by decide), s3 1 (by decide) (by decide)] at k1
      rw [w1_a (by decide), w1_a (by decide), s3 2 (by decide) (by decide), s3 3 (by decide) (by decide)] at k2
      exact ⟨by rw [hk.1, w1_a (by decide)]; exact s3 8 (by decide) (by decide), fun _ => k1, fun _ => k2, fun h => by omega, fun h => by omega⟩
  · have hcd : cdF (tk n f i) = 22 := by unfold cdF; rw [c]; rfl
    refine ⟨w1 q 7 d 22, .one (by rw [hcd]; rfl), fun a x hx => w1_d hx, w1_a (by decide), ⟨fun h => by omega, fun h => by omega, fun h => by omega, fun h => by omega⟩, fun q2 v hk _ hv => ⟨?_, ?_⟩⟩
    · have hv := hv rfl
      rw [w1_s, if_neg (by decide), w1_a (by decide)] at hv
      show q2 6 d = joinP (nI 10) (q 6 d) v
      rw [(join_v _ _).2.2.2.2.2.2, hv]
    · have k1 := hk.2.1 (by decide)
      have k2 := hk.2.2.1 (by decide)
      have k3 := hk.2.2.2.1 (by decide)
      rw [w1_a (by decide), w1_a (by decide)] at k1 k2 k3
      exact ⟨by rw [hk.1, w1_a (by decide)], fun _ => k1, fun _ => k2, fun _ => k3, fun h => by omega⟩
theorem formW : PrR (tk n f) (othB b) (QpW n f b) (QlW n f b) (QoW n f b) := by
  have at1 : ∀ (d i : Nat) (e : Fm), (∀ (h o : Int32) (s : WK), wStep (kkB b) h o (nI (cdF (tk n f i))) s = some (wTerm s.2 (wNots s.2 s.1 (e.2.1 h o)))) → QpW n f b d i (.ok (e, i + 1)) := by
    intro d i e hs e' j hr
    cases hr
    exact ⟨by omega, fun h o q _ => ⟨q, fun _ _ _ => rfl, .one (hs h o (d, q))⟩⟩
  refine ⟨?_, ?_, ?_, ?_, ?_, ?_, ?_, ?_, ?_, ?_, ?_, ?_, ?_, ?_, ?_, ?_⟩
  · intro d i _ e j hr; cases hr
  · intro d i _ _ e j hr; cases hr
  · intro d i hc _
    have ht := tk_ok (n := n) (f := f) i
    have hcd : cdF (tk n f i) = 100 + bas 10 (tk n f i).2.2 := by unfold cdF; rw [if_pos hc]
    exact at1 d i _ (fun h o s => by rw [hcd]; exact step_num (ht.2.1 ((cs_2 ht).mpr hc)))
  · intro d i hc _
    have hcd : cdF (tk n f i) = 1 := by unfold cdF; rw [hc]; rfl
    exact at1 d i _ (fun h o s => by rw [hcd]; cases b <;> rfl)
  · intro d i hc _
    cases b
    · have hcd : cdF (tk n f i) = 2 := by unfold cdF; rw [hc]; rfl
      exact at1 d i _ (fun h o s => by rw [hcd]; rfl)
    · have hcd : cdF (tk n f i) = 3 := by unfold cdF; rw [hc]; rfl
      exact at1 d i _ (fun h o s => by rw [hcd]; rfl)
  · intro d i x _ _ _ e j hr; cases hr
  · intro d i e0 j0 hc h5 ih e j hr
    cases hr
    obtain ⟨hij, ih⟩ := ih _ _ rfl
    refine ⟨by omega, fun h o q hd => ?_⟩
    obtain ⟨o1, o2, o3⟩ := wOpens_at (q := w1 q 8 (d + 1) 1) (d := d + 1)
    obtain ⟨q', h1, h2⟩ := ih h o (wOpens (w1 q 8 (d + 1) 1) (d + 1)) (by omega)
    have hcd : cdF (tk n f i) = 30 := by unfold cdF; rw [hc]; rfl
    have e8 : q' 8 (d + 1) = 1 := by rw [h1 8 (d + 1) (Nat.le_refl _), o2, w1_s]
    refine ⟨q', fun a x hx => by rw [h1 a x (by omega), o3 a x (by omega), w1_d (by omega)], Rn.tr (j := i + 1) (by omega) (by omega) (.one (s' := (d + 1, wOpens (w1 q 8 (d + 1) 1) (d + 1))) ?_) ?_⟩
    · rw [hcd]
      show (if d < 6 then some (d + 1, wOpens (w1 q 8 (d + 1) 1) (d + 1)) else none) = _
      rw [if_pos (by omega)]
    · rw [wNots, if_pos e8] at h2
      exact h2
  · intro d i x _ _ _ e j hr; cases hr
  · intro d i e j _ _ _ _ e j hr; cases hr
  · intro d i e0 j0 hc h5 ih h41 e j hr
    cases hr
    obtain ⟨hij, ih⟩ := ih _ _ rfl
    refine ⟨by omega, fun h o q hd => ?_⟩
    obtain ⟨o1, o2, o3⟩ := wOpens_at (q := w1 q 8 (d + 1) 0) (d := d + 1)
    obtain ⟨q2, h1, h2, h3, h4, _⟩ := ih h o (wOpens (w1 q 8 (d + 1) 0) (d + 1)) (by omega) (Or.inr (by rw [o2, w1_s]; decide)) o1
    have h4 : wTests q2 (d + 1) 0 (d + 1) = e0.2.1 h o := h4 (by omega)
    obtain ⟨t1, t2, t3, t4, t5, t6, t7⟩ := wTests_at (q := q2) (d := d + 1)
    have hcd : cdF (tk n f i) = 28 := by unfold cdF; rw [hc]; rfl
    have hcd2 : cdF (tk n f j0) = 29 := by unfold cdF; rw [h41]; rfl
    refine ⟨wTests q2 (d + 1), fun a x hx => by rw [t7 a x (by omega), h2 a x (by omega), o3 a x (by omega), w1_d (by omega)], Rn.tr (j := i + 1) (by omega) (by omega) (.one (s' := (d + 1, wOpens (w1 q 8 (d + 1) 0) (d + 1))) ?_) (Rn.tr (j := j0) (by omega) (by omega) h1 (.one ?_))⟩
    · rw [hcd]
      show (if d < 6 then some (d + 1, wOpens (w1 q 8 (d + 1) 0) (d + 1)) else none) = _
      rw [if_pos (by omega)]
    · rw [hcd2]
      show (if 1 ≤ d + 1 then some (wTerm (wTests q2 (d + 1)) (wNots (wTests q2 (d + 1)) (d + 1 - 1) (wTests q2 (d + 1) 0 (d + 1)))) else none) = _
      rw [if_pos (by omega), h4]
      rfl
  · intro d i r ih e j hr
    obtain ⟨hij, ih⟩ := ih e j hr
    refine ⟨hij, fun h o q hd hb he => ?_⟩
    obtain ⟨q', h1, h2⟩ := ih h o q hd
    have k := fun a => h1 a d (Nat.le_refl d)
    rw [wNots_b (hb.kp (k 8))] at h2
    refine ⟨w1 q' 6 d (if q' 7 d = 0 then e.2.1 h o else q' 6 d * e.2.1 h o), h2, fun a x hx => by rw [w1_d (by omega)]; exact h1 a x (by omega), ⟨by rw [w1_a (by decide)]; exact k 8, fun _ => ⟨by rw [w1_a (by decide)]; exact k 0, by rw [w1_a (by decide)]; exact k 1⟩, fun _ => ⟨by rw [w1_a (by decide)]; exact k 2, by rw [w1_a (by decide)]; exact k 3⟩, fun _ => ⟨by rw [w1_a (by decide)]; exact k 4, by rw [w1_a (by decide)]; exact k 5⟩, fun _ => by rw [w1_a (by decide)]; exact k 7⟩, fun h => by omega, fun _ => by rw [w1_s, k 7, k 6]⟩
  · intro l d i x _ _ e j hr; cases hr
  · intro l d i e0 j0 r hl ih1 ih2 e j hr
    obtain ⟨hij, ih1⟩ := ih1 _ _ rfl
    obtain ⟨hij2, ih2⟩ := ih2 e j hr
    refine ⟨by omega, fun h o q hd hb he => ?_⟩
    obtain ⟨e1, e2, e3, e4⟩ := he
    obtain ⟨q1, a1, a2, a3, a4, a5⟩ := ih1 h o q hd hb ⟨fun h => e1 (by omega), fun h => e2 (by omega), fun h => e3 (by omega), fun h => by omega⟩
    have hv : valW l q1 d = e0.2.1 h o := by
      obtain ⟨s1, s2, s3, s4⟩ := wSums_at (q := q1) (d := d)
      have hl4 : l = 0 ∨ l = 1 ∨ l = 2 ∨ l = 3 := by omega
      rcases hl4 with rfl | rfl | rfl | rfl
      · have hv : wVal1 (wSums q1 d) d = e0.2.1 h o := a4 (by decide)
        have k := (a3.2.1 (by decide)).2
        show wTests q1 d 0 d = _
        rw [wTests_at.1, hv]
        unfold wVal2
        rw [s3 1 (by decide) (by decide), k, e4 rfl, if_neg (by decide), if_neg (by decide)]
      · have hv : pend q1 d = e0.2.1 h o := a4 (by decide)
        have k := (a3.2.2.1 (by decide)).2
        show wVal1 (wSums q1 d) d = _
        unfold wVal1
        rw [s3 3 (by decide) (by decide), k, e3 (by decide), s1, if_neg (by decide), if_neg (by decide), hv]
      · have hv : q1 6 d = e0.2.1 h o := a4 (by decide)
        have k := a3.2.2.2.1 (by decide)
        show (if q1 5 d = 21 then q1 4 d - q1 6 d else q1 4 d + q1 6 d) = _
        rw [k.1, k.2, (e2 (by decide)).1, (e2 (by decide)).2, if_neg (by decide), hv, Int32.zero_add]
      · have a5 := a5 rfl
        rw [e1 (by decide), if_pos rfl] at a5
        exact a5
    obtain ⟨q2, b1, b2, b3, b4⟩ := ih2 h o q1 hd (hb.kp a3.1) hv (fun h1 _ => by rw [(a3.2.2.1 (by omega)).2]; exact e3 (by omega))
    refine ⟨q2, Rn.tr hij hij2 a1 b1, fun a x hx => by rw [b2 a x hx, a2 a x hx], ?_, fun _ => b4, fun h => by omega⟩
    exact ⟨b3.1.trans a3.1, fun h => ⟨(b3.2.1 h).1.trans (a3.2.1 (by omega)).1, (b3.2.1 h).2.trans (a3.2.1 (by omega)).2⟩, fun h => ⟨(b3.2.2.1 h).1.trans (a3.2.2.1 (by omega)).1, (b3.2.2.1 h).2.trans (a3.2.2.1 (by omega)).2⟩, fun h => ⟨(b3.2.2.2.1 h).1.trans (a3.2.2.2.1 (by omega)).1, (b3.2.2.2.1 h).2.trans (a3.2.2.2.1 (by omega)).2⟩, fun h => by omega⟩
  · intro l d e0 j0 c0 hl _ e j hr
    cases hr
    exact ⟨Nat.le_refl _, fun h o q hd hb hv _ => ⟨q, .rf, fun _ _ _ => rfl, ⟨rfl, fun _ => ⟨rfl, rfl⟩, fun _ => ⟨rfl, rfl⟩, fun _ => ⟨rfl, rfl⟩, fun _ => rfl⟩, hv⟩⟩
  · intro l d e j c s x _ _ _ _ e j hr; cases hr
  · intro l d e0 j0 c0 s e2 j2 r hl hj hc ih1 ih2 e j hr
    obtain ⟨hij, ih1⟩ := ih1 _ _ rfl
    obtain ⟨hij2, ih2⟩ := ih2 e j hr
    refine ⟨by omega, fun h o q hd hb hv h3 => ?_⟩
    have hc0 : l = 1 → c0 = false := fun h1 => by
      cases y : c0
      · rfl
      · exact absurd ⟨h1, y⟩ hc
    obtain ⟨q1, a1, a2, a3, a4, a5⟩ := joint_w (n := n) (f := f) (b := b) (h := h) (o := o) (d := d) (q := q) hl hj (fun h1 => h3 h1 (hc0 h1))
    obtain ⟨q2, b1, b2, b3, b4, b5⟩ := ih1 h o q1 hd (hb.kp a3) a4
    obtain ⟨c1, c2⟩ := a5 q2 (e2.2.1 h o) b3 b4 b5
    rw [hv] at c1
    obtain ⟨q3, d1, d2, d3, d4⟩ := ih2 h o q2 hd (hb.kp c2.1) c1 (fun _ h2 => by cases h2)
    exact ⟨q3, Rn.tr (j := j0 + 1) (by omega) (by omega) a1 (Rn.tr hij hij2 b1 d1), fun a x hx => by rw [d2 a x hx, b2 a x hx, a2 a x (by omega)], c2.tr (Nat.le_refl l) d3, d4⟩
end Work
