/-! FORMULAS, of the reference: the reading keeps the rules -/
def CfR (u : am_U) (n : Nat) (f : Nat → Nat) (m i : Nat) (b : Bool) (p : Nat) : Prop := RSt u n f i ∧ i ≤ m ∧ FI u 203 29 = nI p ∧ 1000 ≤ p ∧ p ≤ 1000 + i ∧ FI u 203 30 = b2i b
def CdS (n : Nat) (f : Nat → Nat) (u : am_U) (p i j : Nat) : Prop := ∀ k, i ≤ k → k < j → AI u 223 (p + (k - i)) = nI (cdF (tk n f k))
def badF (u : am_U) (r : Rt) (post : Option Value → am_M → Prop) : Prop := ∀ e u', r = .error e → RfO u u' → FI u' 203 9 = nI e → post (some (.int 0)) (am_emb u')
def okF (n : Nat) (f : Nat → Nat) (m : Nat) (b : Bool) (i p : Nat) (u : am_U) (r : Rt) (K : Nat → am_U → Prop) : Prop := ∀ e j u', r = .ok (e, j) → RfO u u' → CfR u' n f m j b (p + (j - i)) → i ≤ j → CdS n f u' p i j → (∀ k, k < p → AI u' 223 k = AI u 223 k) → K j u'
def KP (D d : Nat) (u : am_U) (post : Option Value → am_M → Prop) (_ : Nat) (u' : am_U) : Prop := (∀ k, k ≤ popd (AI u 224) d → AI u' 224 k = AI u 224 k ∧ AI u' 225 k = AI u 225 k) → ∀ j3 j4 j5, Ex (D + 4) 172 11 [some (.ref 203), some (.int (nI (popd (AI u 224) d))), some (.int 0), j3, j4, j5] [] (am_emb u') post
def KL (n : Nat) (f : Nat → Nat) (D l d : Nat) (cmp : Bool) (u : am_U) (post : Option Value → am_M → Prop) (j : Nat) (u' : am_U) : Prop := (∀ k, k ≤ d → AI u' 224 k = AI u 224 k) → (∀ k, k < d → AI u' 225 k = AI u 225 k) → ∀ cmp' : Bool, AI u' 225 d = b2i cmp' → (2 ≤ l → cmp' = cmp) → (∀ l', l ≤ l' → l' < 4 → jn l' (csort (tk n f j)) = none ∨ (l' = 1 ∧ cmp' = true)) → ∀ j3 j4 j5, Ex (D + 4) 172 11 [some (.ref 203), some (.int (nI d)), some (.int 0), j3, j4, j5] [] (am_emb u') post
def QpR (n : Nat) (f : Nat → Nat) (m : Nat) (b : Bool) (D : Nat) (d i : Nat) (r : Rt) : Prop := ∀ (p : Nat) (u : am_U) (j3 j4 j5 : Option Value) (post : Option Value → am_M → Prop), d ≤ 5 → CfR u n f m i b p → badF u r post → okF n f m b i p u r (KP D d u post) → Ex (D + 4) 172 11 [some (.ref 203), some (.int (nI d)), some (.int 1), j3, j4, j5] [] (am_emb u) post
def QlR (n : Nat) (f : Nat → Nat) (m : Nat) (b : Bool) (D : Nat) (l d i : Nat) (r : Rt) : Prop := ∀ (p : Nat) (u : am_U) (cmp : Bool) (j3 j4 j5 : Option Value) (post : Option Value → am_M → Prop), d ≤ 5 → popd (AI u 224) d = d → AI u 225 d = b2i cmp → (l ≤ 1 → cmp = false) → CfR u n f m i b p → badF u r post → okF n f m b i p u r (KL n f D l d cmp u post) → Ex (D + 4) 172 11 [some (.ref 203), some (.int (nI d)), some (.int 1), j3, j4, j5] [] (am_emb u) post
def QoR (n : Nat) (f : Nat → Nat) (m : Nat) (b : Bool) (D : Nat) (l d : Nat) (_ : Fm) (j0 : Nat) (c0 : Bool) (r : Rt) : Prop := ∀ (i p : Nat) (u0 u : am_U) (cmp : Bool) (j3 j4 j5 : Option Value) (post : Option Value → am_M → Prop), d ≤ 5 → RfO u0 u → popd (AI u 224) d = d → i ≤ j0 → 1000 ≤ p → p ≤ 1000 + i → CfR u n f m j0 b (p + (j0 - i)) → CdS n f u p i j0 → (∀ k, k < p → AI u 223 k = AI u0 223 k) → (∀ k, k ≤ d → AI u 224 k = AI u0 224 k) → (∀ k, k < d → AI u 225 k = AI u0 225 k) → AI u 225 d = b2i cmp → (l = 1 → cmp = c0) → (∀ l', l < l' → l' < 4 → jn l' (csort (tk n f j0)) = none ∨ (l' = 1 ∧ cmp = true)) → badF u0 r post → okF n f m b i p u0 r (KL n f D l d cmp u0 post) → Ex (D + 4) 172 11 [some (.ref 203), some (.int (nI d)), some (.int 0), j3, j4, j5] [] (am_emb u) post
theorem noJ_of {cmp : Bool} {c : Nat} (h : ∀ l', 0 ≤ l' → l' < 4 → jn l' c = none ∨ (l' = 1 ∧ cmp = true)) : noJ cmp c := by
  have h0 := h 0 (by decide) (by decide)
  have h1 := h 1 (by decide) (by decide)
  have h2 := h 2 (by decide) (by decide)
  have h3 := h 3 (by decide) (by decide)
  refine ⟨fun q => ?_, fun q => ?_, fun q => ?_, fun q => ?_, fun q => ?_, fun q => ?_⟩
  · rw [q] at h2
    rcases h2 with y | y
    · cases y
    · omega
  · rw [q] at h2
    rcases h2 with y | y
    · cases y
    · omega
  · rw [q] at h3
    rcases h3 with y | y
    · cases y
    · omega
  · rcases h1 with y | y
    · rcases q with q | q <;> (rw [q] at y; cases y)
    · exact y.2
  · rw [q] at h0
    rcases h0 with y | y
    · cases y
    · omega
  · rw [q] at h0
    rcases h0 with y | y
    · cases y
    · omega
section FormQ
variable {n m D : Nat} {f : Nat → Nat} {b : Bool}
theorem CfR.nx {u u1 : am_U} {i p : Nat} (h : CfR u n f m i b p) (ho : RfO u u1) (hS : RSt u1 n f (i + 1)) (hm : i + 1 ≤ m) (hp : FI u1 203 29 = nI (p + 1)) : CfR u1 n f m (i + 1) b (p + 1) :=
  ⟨hS, hm, hp, by have := h.2.2.2.1; omega, by have := h.2.2.2.2.1; omega, by rw [ho.2.2.1 30 (by unfold rffP; omega)]; exact h.2.2.2.2.2⟩
theorem CdS.one {u : am_U} {g : Nat → Int32} {i p : Nat} (h : AI u 223 = upd g p (nI (cdF (tk n f i)))) : CdS n f u p i (i + 1) := fun k h1 h2 => by
  obtain rfl : k = i := by omega
  rw [h, Nat.sub_self, Nat.add_zero, upd_s]
theorem CdS.cons {u u1 : am_U} {g : Nat → Int32} {i j p : Nat} (h : AI u1 223 = upd g p (nI (cdF (tk n f i)))) (hk : ∀ k, k < p + 1 → AI u 223 k = AI u1 223 k) (hc : CdS n f u (p + 1) (i + 1) j) : CdS n f u p i j := fun k h1 h2 => by
  by_cases e : k = i
  · rw [e, Nat.sub_self, Nat.add_zero, hk p (by omega), h, upd_s]
  · have := hc k (by omega) h2
    rwa [show p + 1 + (k - (i + 1)) = p + (k - i) by omega] at this
theorem CdS.snoc {u u1 : am_U} {i j p : Nat} (hij : i ≤ j) (h : AI u1 223 = upd (AI u 223) (p + (j - i)) (nI (cdF (tk n f j)))) (hc : CdS n f u p i j) : CdS n f u1 p i (j + 1) := fun k h1 h2 => by
  rw [h]
  by_cases e : k = j
  · rw [e, upd_s]
  · rw [upd_n (by omega)]
    exact hc k h1 (by omega)
theorem CdS.app {u u1 : am_U} {i j j2 p : Nat} (hij : i ≤ j) (hk : ∀ k, k < p + (j - i) → AI u1 223 k = AI u 223 k) (hc : CdS n f u p i j) (hc2 : CdS n f u1 (p + (j - i)) j j2) : CdS n f u1 p i j2 := fun k h1 h2 => by
  by_cases e : k < j
  · rw [hk _ (by omega)]; exact hc k h1 e
  · have := hc2 k (by omega) h2
    rwa [show p + (j - i) + (k - j) = p + (k - i) by omega] at this
theorem formR (hE : EndAt n f m) (hn : n ≤ 1000) : PrR (tk n f) (othB b) (QpR n f m b D) (QlR n f m b D) (QoR n f m b D) := by
  have hm1000 : m ≤ 1000 := Nat.le_trans hE.1 hn
  have lt : ∀ i, i ≤ m → ¬ csort (tk n f i) = 3 → i < m := fun i hi hc => end_lt hE (fun q => hc ((cs_0 (tk_ok i)).mp q))
  have fin1 : ∀ {u : am_U} {i p : Nat} {r : Rt} {post : Option Value → am_M → Prop} {k : Nat}, CfR u n f m i b p → badF u r post → r = .error (fl k (tk n f i)) → post (some (.int 0)) (am_emb (sFI u 203 9 (nI (fl k (tk n f i))))) := fun h hb hr => hb _ _ hr ((RfO.rf _).fi (by unfold rffP; omega)) (by rw [FI_sFI, if_pos ⟨rfl, rfl⟩])
  have atom : ∀ (d i : Nat) (e : Fm), csort (tk n f i) = 2 ∨ csort (tk n f i) = 226 ∨ csort (tk n f i) = othB b → d < 5 → QpR n f m b D d i (.ok (e, i + 1)) := by
    intro d i e hc h5 p u j3 j4 j5 post hd C hb hg
    have hob : othB b = 227 ∨ othB b = 228 := by cases b; exact Or.inl rfl; exact Or.inr rfl
    have hlt := lt i C.2.1 (by omega)
    have c1 := C.2.2.2.1
    have c2 := C.2.2.2.2.1
    refine w_atom (b := b) C.1 C.2.2.2.2.2 hc h5 C.2.2.1 c1 (by omega) (fun u1 k3 k4 k5 o1 S1 F1 A3 A4 A5 => ?_)
    refine hg e (i + 1) u1 rfl o1 (by have := C.nx o1 S1 (by omega) F1; rwa [show p + (i + 1 - i) = p + 1 by omega]) (by omega) (CdS.one A3) (fun k hk => by rw [A3, upd_n (by omega)]) (fun k hk => ⟨by rw [A4], by rw [A5]⟩) k3 k4 k5
  refine ⟨?_, ?_, ?_, ?_, ?_, ?_, ?_, ?_, ?_, ?_, ?_, ?_, ?_, ?_, ?_, ?_⟩
  · intro d i hs p u j3 j4 j5 post hd C hb hg
    exact w_bad1 (b := b) C.1 C.2.2.2.2.2 hs (fin1 C hb rfl)
  · intro d i hs h5 p u j3 j4 j5 post hd C hb hg
    obtain rfl : d = 5 := by omega
    exact w_bad5 (b := b) C.1 C.2.2.2.2.2 hs (fin1 C hb rfl)
  · intro d i hc h5; exact atom d i _ (Or.inl hc) h5
  · intro d i hc h5; exact atom d i _ (Or.inr (Or.inl hc)) h5
  · intro d i hc h5; exact atom d i _ (Or.inr (Or.inr hc)) h5
  · intro d i x hc h5 ih p u j3 j4 j5 post hd C hb hg
    have hlt := lt i C.2.1 (by omega)
    have c1 := C.2.2.2.1
    have c2 := C.2.2.2.2.1
    refine w_open (b := b) C.1 C.2.2.2.2.2 (Or.inl hc) h5 C.2.2.1 c1 (by omega) (fun u1 k3 k4 k5 o1 S1 F1 A3 A4 A5 => ?_)
    exact ih (p + 1) u1 k3 k4 k5 post (by omega) (C.nx o1 S1 (by omega) F1) (fun e u2 he o2 z => hb e u2 he (o1.tr o2) z) (fun e j u2 he => by cases he)
  · intro d i e0 j0 hc h5 ih p u j3 j4 j5 post hd C hb hg
    have hlt := lt i C.2.1 (by omega)
    have c1 := C.2.2.2.1
    have c2 := C.2.2.2.2.1
    refine w_open (b := b) C.1 C.2.2.2.2.2 (Or.inl hc) h5 C.2.2.1 c1 (by omega) (fun u1 k3 k4 k5 o1 S1 F1 A3 A4 A5 => ?_)
    rw [if_pos hc] at A4
    have hpop : popd (AI u1 224) (d + 1) = popd (AI u 224) d := by
      rw [popd, A4, upd_s, if_pos rfl]
      exact popd_cg (fun k hk => upd_n (by omega))
    have hple := popd_le (g := AI u 224) d
    refine ih (p + 1) u1 k3 k4 k5 post (by omega) (C.nx o1 S1 (by omega) F1) (fun e u2 he => by cases he) (fun e j u2 he o2 C2 hij Cd K2 => ?_)
    cases he
    intro HK l3 l4 l5
    rw [hpop]
    rw [hpop] at HK
    refine hg (fmNt e0) j0 u2 rfl (o1.tr o2) (by rw [show p + (j0 - i) = p + 1 + (j0 - (i + 1)) by omega]; exact C2) (by omega) (CdS.cons A3 K2 Cd) (fun k hk => by rw [K2 k (by omega), A3, upd_n (by omega)]) (fun k hk => ?_) l3 l4 l5
    obtain ⟨a1, a2⟩ := HK k hk
    exact ⟨by rw [a1, A4, upd_n (by omega)], by rw [a2, A5, upd_n (by omega)]⟩
  · intro d i x hc h5 ih p u j3 j4 j5 post hd C hb hg
    have hlt := lt i C.2.1 (by omega)
    have c1 := C.2.2.2.1
    have c2 := C.2.2.2.2.1
    refine w_open (b := b) C.1 C.2.2.2.2.2 (Or.inr hc) h5 C.2.2.1 c1 (by omega) (fun u1 k3 k4 k5 o1 S1 F1 A3 A4 A5 => ?_)
    rw [if_neg (by omega)] at A4
    have hpop : popd (AI u1 224) (d + 1) = d + 1 := by rw [popd, A4, upd_s, if_neg (by decide)]
    exact ih (p + 1) u1 false k3 k4 k5 post (by omega) hpop (by rw [A5, upd_s]; rfl) (fun _ => rfl) (C.nx o1 S1 (by omega) F1) (fun e u2 he o2 z => hb e u2 he (o1.tr o2) z) (fun e j u2 he => by cases he)
  · intro d i e0 j0 hc h5 ih h41 p u j3 j4 j5 post hd C hb hg
    have hlt := lt i C.2.1 (by omega)
    have c1 := C.2.2.2.1
    have c2 := C.2.2.2.2.1
    refine w_open (b := b) C.1 C.2.2.2.2.2 (Or.inr hc) h5 C.2.2.1 c1 (by omega) (fun u1 k3 k4 k5 o1 S1 F1 A3 A4 A5 => ?_)
    rw [if_neg (by omega)] at A4
    have hpop : popd (AI u1 224) (d + 1) = d + 1 := by rw [popd, A4, upd_s, if_neg (by decide)]
    refine ih (p + 1) u1 false k3 k4 k5 post (by omega) hpop (by rw [A5, upd_s]; rfl) (fun _ => rfl) (C.nx o1 S1 (by omega) F1) (fun e u2 he => by cases he) (fun e j u2 he o2 C2 hij Cd K2 => ?_)
    cases he
    intro B4 B5 cmp' hcm _ hex l3 l4 l5
    exact n_bad C2.1 hcm (noJ_of (fun l' _ h => hex l' (Nat.zero_le _) h)) (by omega) (fun y => h41 y.1) (fun y => by omega) (hb _ _ rfl ((o1.tr o2).fi (by unfold rffP; omega)) (by rw [FI_sFI, if_pos ⟨rfl, rfl⟩]))
  · intro d i e0 j0 hc h5 ih h41 p u j3 j4 j5 post hd C hb hg
    have hlt := lt i C.2.1 (by omega)
    have c1 := C.2.2.2.1
    have c2 := C.2.2.2.2.1
    refine w_open (b := b) C.1 C.2.2.2.2.2 (Or.inr hc) h5 C.2.2.1 c1 (by omega) (fun u1 k3 k4 k5 o1 S1 F1 A3 A4 A5 => ?_)
    rw [if_neg (by omega)] at A4
    have hpop : popd (AI u1 224) (d + 1) = d + 1 := by rw [popd, A4, upd_s, if_neg (by decide)]
    refine ih (p + 1) u1 false k3 k4 k5 post (by omega) hpop (by rw [A5, upd_s]; rfl) (fun _ => rfl) (C.nx o1 S1 (by omega) F1) (fun e u2 he => by cases he) (fun e j u2 he o2 C2 hij Cd K2 => ?_)
    cases he
    intro B4 B5 cmp' hcm _ hex l3 l4 l5
    have hlt2 := lt j0 C2.2.1 (by omega)
    have d1 := C2.2.2.2.1
    have d2 := C2.2.2.2.2.1
    refine n_close C2.1 hcm h41 (by omega) (by omega) C2.2.2.1 d1 (by omega) (fun u3 m3 m4 m5 o3 S3 F3 G3 G4 G5 => ?_)
    have hpop2 : popd (AI u2 224) (d + 1 - 1) = popd (AI u 224) d := by
      rw [show d + 1 - 1 = d by omega]
      exact popd_cg (fun k hk => by rw [B4 k (by omega), A4, upd_n (by omega)])
    have hple := popd_le (g := AI u 224) d
    rw [hpop2]
    have C3 := C2.nx o3 S3 (by omega) F3
    refine hg e0 (j0 + 1) u3 rfl ((o1.tr o2).tr o3) (by rw [show p + (j0 + 1 - i) = p + 1 + (j0 - (i + 1)) + 1 by omega]; exact C3) (by omega) (CdS.cons A3 (fun k hk => by rw [G3, upd_n (by omega)]; exact K2 k hk) (CdS.snoc hij G3 Cd)) (fun k hk => by rw [G3, upd_n (by omega), K2 k (by omega), A3, upd_n (by omega)]) (fun k hk => ⟨by rw [G4, B4 k (by omega), A4, upd_n (by omega)], by rw [G5, B5 k (by omega), A5, upd_n (by omega)]⟩) m3 m4 m5
  · intro d i r ih p u cmp j3 j4 j5 post hd hpop hcm hl C hb hg
    refine ih p u j3 j4 j5 post hd C hb (fun e j u2 he o2 C2 hij Cd K2 => ?_)
    intro HK l3 l4 l5
    rw [hpop]
    rw [hpop] at HK
    exact hg e j u2 he o2 C2 hij Cd K2 (fun k hk => (HK k hk).1) (fun k hk => (HK k (by omega)).2) cmp (by rw [(HK d (Nat.le_refl d)).2]; exact hcm) (fun _ => rfl) (fun l' h1 h2 => by omega) l3 l4 l5
  · intro l d i x hl4 ih p u cmp j3 j4 j5 post hd hpop hcm hl C hb hg
    exact ih p u cmp j3 j4 j5 post hd hpop hcm (fun h => hl (by omega)) C hb (fun e j u2 he => by cases he)
  · intro l d i e0 j0 r hl4 ih1 ih2 p u cmp j3 j4 j5 post hd hpop hcm hl C hb hg
    refine ih1 p u cmp j3 j4 j5 post hd hpop hcm (fun h => hl (by omega)) C (fun e u2 he => by cases he) (fun e j u2 he o2 C2 hij Cd K2 => ?_)
    cases he
    intro B4 B5 cmp' hcm' hsame hex l3 l4 l5
    refine ih2 i p u u2 cmp' l3 l4 l5 post hd o2 (by rw [popd_cg (g := AI u 224) B4]; exact hpop) hij C.2.2.2.1 C.2.2.2.2.1 C2 Cd K2 B4 B5 hcm' (fun h => by rw [hsame (by omega)]; exact hl (by omega)) (fun l' h1 h2 => hex l' (by omega) h2) hb ?_
    intro e j u3 he o3 C3 hij3 Cd3 K3 G4 G5 cmp3 hc3 hs3 hx3 m3 m4 m5
    exact hg e j u3 he o3 C3 hij3 Cd3 K3 G4 G5 cmp3 hc3 (fun h => by rw [hs3 h]; exact hsame (by omega)) hx3 m3 m4 m5
  · intro l d e0 j0 c0 hl4 hx i p u0 u cmp j3 j4 j5 post hd o hpop hij hp1 hp2 C Cd K B4 B5 hcm hc0 hex hb hg
    refine hg e0 j0 u rfl o C hij Cd K B4 B5 cmp hcm (fun _ => rfl) (fun l' h1 h2 => ?_) j3 j4 j5
    by_cases e : l' = l
    · rw [e]
      rcases hx with y | y
      · exact Or.inl y
      · exact Or.inr ⟨y.1, by rw [hc0 y.1]; exact y.2⟩
    · exact hex l' (by omega) h2
  · intro l d e0 j0 c0 s x hl4 hj hc1 ih i p u0 u cmp j3 j4 j5 post hd o hpop hij hp1 hp2 C Cd K B4 B5 hcm hc0 hex hb hg
    have hlt := lt j0 C.2.1 (jn_ne hj).1
    have d1 := C.2.2.2.1
    have d2 := C.2.2.2.2.1
    have hcf : l = 1 → cmp = false := fun h => by
      cases q : cmp
      · rfl
      · exact absurd ⟨h, by rw [← hc0 h]; exact q⟩ hc1
    refine nj_ok C.1 C.2.2.1 d1 (by omega) hj hcm hcf hd (fun u1 k3 k4 k5 o1 S1 F1 A3 A4 A5 => ?_)
    have hcm1 : AI u1 225 d = b2i (if l = 1 then true else if l = 0 then false else cmp) := by
      rw [A5]
      by_cases h1 : l = 1
      · rw [if_pos h1, if_pos h1, upd_s]; rfl
      · rw [if_neg h1, if_neg h1]
        by_cases h0 : l = 0
        · rw [if_pos h0, if_pos h0, upd_s]; rfl
        · rw [if_neg h0, if_neg h0]; exact hcm
    exact ih _ u1 _ k3 k4 k5 post hd (by rw [A4]; exact hpop) hcm1 (fun h => by rw [if_neg (by omega), if_pos (by omega)]) (C.nx o1 S1 (by omega) F1) (fun e u2 he o2 z => hb e u2 he ((o.tr o1).tr o2) z) (fun e j u2 he => by cases he)
  · intro l d e0 j0 c0 s e2 j2 r hl4 hj hc1 ih1 ih2 i p u0 u cmp j3 j4 j5 post hd o hpop hij hp1 hp2 C Cd K B4 B5 hcm hc0 hex hb hg
    have hlt := lt j0 C.2.1 (jn_ne hj).1
    have d1 := C.2.2.2.1
    have d2 := C.2.2.2.2.1
    have hcf : l = 1 → cmp = false := fun h => by
      cases q : cmp
      · rfl
      · exact absurd ⟨h, by rw [← hc0 h]; exact q⟩ hc1
    refine nj_ok C.1 C.2.2.1 d1 (by omega) hj hcm hcf hd (fun u1 k3 k4 k5 o1 S1 F1 A3 A4 A5 => ?_)
    have hcm1 : AI u1 225 d = b2i (if l = 1 then true else if l = 0 then false else cmp) := by
      rw [A5]
      by_cases h1 : l = 1
      · rw [if_pos h1, if_pos h1, upd_s]; rfl
      · rw [if_neg h1, if_neg h1]
        by_cases h0 : l = 0
        · rw [if_pos h0, if_pos h0, upd_s]; rfl
        · rw [if_neg h0, if_neg h0]; exact hcm
    have hA5 : ∀ k, k < d → AI u1 225 k = AI u 225 k := fun k hk => by
      rw [A5]
      by_cases h1 : l = 1
      · rw [if_pos h1, upd_n (by omega)]
      · rw [if_neg h1]
        by_cases h0 : l = 0
        · rw [if_pos h0, upd_n (by omega)]
        · rw [if_neg h0]
    have C1 := C.nx o1 S1 (by omega) F1
    refine ih1 _ u1 _ k3 k4 k5 post hd (by rw [A4]; exact hpop) hcm1 (fun h => by rw [if_neg (by omega), if_pos (by omega)]) C1 (fun e u2 he => by cases he) (fun e j u2 he o2 C2 hij2 Cd2 K2 => ?_)
    cases he
    intro G4 G5 cmp2 hcm2 hsame hex2 l3 l4 l5
    have e1 : p + (j2 - i) = p + (j0 - i) + 1 + (j2 - (j0 + 1)) := by omega
    refine ih2 i p u0 u2 cmp2 l3 l4 l5 post hd ((o.tr o1).tr o2) (by rw [popd_cg (g := AI u1 224) G4, A4]; exact hpop) (by omega) hp1 hp2 (by rw [e1]; exact C2) (CdS.app hij (fun k hk => by rw [K2 k (by omega), A3, upd_n (by omega)]) Cd (CdS.cons A3 K2 Cd2)) (fun k hk => by rw [K2 k (by omega), A3, upd_n (by omega), K k hk]) (fun k hk => by rw [G4 k hk, A4, B4 k hk]) (fun k hk => by rw [G5 k hk, hA5 k hk, B5 k hk]) hcm2 (fun h => by rw [hsame (by omega), if_pos h]) (fun l' h1 h2 => hex2 l' (by omega) h2) hb ?_
    intro e j u3 he o3 C3 hij3 Cd3 K3 G4' G5' cmp3 hc3 hs3 hx3 m3 m4 m5
    refine hg e j u3 he o3 C3 hij3 Cd3 K3 G4' G5' cmp3 hc3 (fun h => ?_) hx3 m3 m4 m5
    rw [hs3 h, hsame (by omega), if_neg (by omega), if_neg (by omega)]
end FormQ
