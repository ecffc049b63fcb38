theorem oq_28ed0af1 {a0 a1 : Int} (h0 : a0 = a1) (h1 : a1 ≠ 0) (h2 : 0 ≤ a1) : a0 ≠ 0 := by omega
/-! The joins of the rules: the same in class and model -/
theorem nx_lt {i : Nat} {n : Int} (n0 : 0 ≤ n) (h : i ≠ n.toNat) (h1 : (i : Int) < n + 1) : (i : Int) < n := by omega
theorem nn0 (i : Nat) : (0 : Int) ≤ (i : Int) := by omega
theorem nx_ne {i : Nat} {n : Int} (n0 : 0 ≤ n) (h : i ≠ n.toNat) : (i : Int) ≠ n := by omega
/-- the i-th clause is a join: its codes, where its ors begin -/
def JSL (B : Nat → Int) (N : Int) (i : Nat) (c : List Int) (la : Int) : Prop := ∃ q p : Int, CHN B N i q ∧ (0 ≤ q ∧ q < N) ∧ CLR B N i q 0 8 c p ∧ la = wdE B N q
theorem clr_wh {B : Nat → Int} {N k q p : Int} {md : Nat} {c : List Int} (h : CLR B N k q 0 md c p) : (whV B N q = 247162 ∧ md = 3) ∨ (whV B N q = 208022 ∧ md = 8) := by
  rcases h with ⟨z, _⟩ | ⟨z, _⟩
  · exact absurd z (by decide)
  · exact z
theorem clr_pg8 {B : Nat → Int} {N k q p : Int} {c : List Int} (h : CLR B N k q 0 8 c p) : ∃ r, PGR B N 8 [] (sk B N (wdE B N q)) 0 (0, c, r) := by
  rcases h with ⟨z, _⟩ | ⟨-, ⟨_, z⟩ | ⟨-, r, r1, h⟩⟩
  · exact absurd z (by decide)
  · exact absurd z (by decide)
  · rcases h with ⟨z1, z2⟩ | ⟨_, _, z⟩ | ⟨z, _, _, e, _⟩
    · exact absurd z2.symm z1
    · exact absurd z (by decide)
    · refine ⟨r.2.2, ?_⟩
      have er : r = (0, c, r.2.2) := Prod.ext z (Prod.ext e.symm rfl)
      rw [← er]; exact r1
/-- at la a join begins, with codes c -/
def PJO (B : Nat → Int) (N la : Int) (c : List Int) : Prop := (0 ≤ la ∧ la ≤ N) ∧ ∃ r, PGR B N 8 [] (sk B N la) 0 (0, c, r)
theorem jsl_pj {B : Nat → Int} {N la : Int} {i : Nat} {c : List Int} (h : JSL B N i c la) : PJO B N la c ∧ VLw c := by
  obtain ⟨q, p, h1, h2, h3, h4⟩ := h
  subst h4
  have w := (wd_lo (B := B) (N := N) (p := q) _ (Nat.le_refl _))
  obtain ⟨r, hr⟩ := clr_pg8 h3
  exact ⟨⟨by omega, r, hr⟩, pgr_wf (by decide) hr⟩
/-- the clause n, read at q with md and c: whether it is a join -/
theorem jsl_at {B : Nat → Int} {N q p : Int} {n md : Nat} {c : List Int} (ch : CHN B N n q) (hp : 0 ≤ q ∧ q < N) (hc : CLR B N n q 0 md c p) (c' : List Int) (la : Int) : JSL B N n c' la ↔ md = 8 ∧ c' = c ∧ la = wdE B N q := by
  constructor
  · rintro ⟨q', p', g1, g2, g3, g4⟩
    have e := chn_un _ ch g1
    subst e
    have k := (clr_un hc g3).2 rfl
    exact ⟨k.1, k.2.1.symm, g4⟩
  · rintro ⟨k1, k2, k3⟩
    subst k1
    subst k2
    exact ⟨q, p, ch, hp, hc, k3⟩
/-- the class's draft: which of its n clauses are joins, their codes -/
def JQD (B : Nat → Int) (N n : Int) (s : PS) : Prop := (∀ i : Nat, i < 32 → (bIt (iI s 18) i ↔ (i : Int) < n ∧ ∃ c la, JSL B N i c la)) ∧ ∀ (i : Nat) (c : List Int) (la : Int), (i : Int) < n → JSL B N i c la → drL s (i : Int) = c
theorem jqd_0 {B : Nat → Int} {N : Int} {s : PS} (h : iI s 18 = 0) : JQD B N 0 s := ⟨fun i _ => by rw [h]; exact ⟨fun q => absurd q biq_0, fun q => absurd q.1 (by omega)⟩, fun i _ _ hi => absurd hi (by omega)⟩
/-- what a clause does to the joins -/
def JPT (B : Nat → Int) (N x : Int) (s t : PS) : Prop := (whV B N (iI s 4) = 247162 ∧ iI t 18 = iI s 18) ∨ (whV B N (iI s 4) = 208022 ∧ ∃ z : Int, Int32.ofInt z = Int32.ofInt 1 <<< (Int32.ofInt x &&& 31) ∧ Int32.ofInt (iI t 18) = Int32.ofInt (iI s 18) ||| Int32.ofInt z)
theorem jqd_up {B : Nat → Int} {N n e : Int} {t u : PS} (d : CQD B N n t) (h : JQD B N n t) (n0 : 0 ≤ n ∧ n ≤ 8) (hp : 0 ≤ iI t 4 ∧ iI t 4 < N) (t0 : 0 ≤ iI t 16) (u0 : 0 ≤ iI u 16) (hc : CLD B N n t u e) (he : e ≠ 0) (hj : JPT B N n t u) : JQD B N (n + 1) u := by
  have en : ((n.toNat : Nat) : Int) = n := by omega
  have nb : 0 ≤ n ∧ n < 32 := by omega
  have ns : n < n + 1 := by omega
  obtain ⟨a1, a2, c0, la0, a3, -⟩ := d
  obtain ⟨f, md, c, q, b1, b2 | b2⟩ := hc
  · obtain ⟨-, b3, b4, b5, b6, -⟩ := b2
    subst b3
    obtain ⟨d1, d2, d3⟩ := dl_seg b5 t0 u0
    have ee : ∀ j : Nat, (j : Int) < n → iC u 19 j = iC t 19 j := fun j hj => b6.2 j (by omega)
    have dn : drL u n = c := by
      have eb : bgD u n = iI t 16 := by
        rw [← a1]
        unfold bgD
        by_cases z : 0 < n
        · rw [if_pos z, if_pos z]; exact ee _ (by omega)
        · rw [if_neg z, if_neg z]
      unfold drL
      rw [eb, b6.1]
      exact d3
    have b1' : CLR B N ((n.toNat : Nat) : Int) (iI t 4) 0 md c q := by rw [en]; exact b1
    have jn := jsl_at (chq_n a3) hp b1'
    have mdw := clr_wh b1
    obtain ⟨h1, h2⟩ := h
    refine ⟨fun i hi => ?_, fun i c' la' hi' hs => ?_⟩
    · have z := h1 i hi
      by_cases c9 : i = n.toNat
      · subst c9
        have ho : ¬ bIt (iI t 18) n.toNat := fun w => absurd (z.mp w).1 (by rw [en]; exact Int.lt_irrefl _)
        rcases hj with ⟨w1, w2⟩ | ⟨w1, y, w2, w3⟩
        · have m3 : md = 3 := mdw.elim (fun q => q.2) (fun q => absurd (w1.symm.trans q.1) (by decide))
          rw [w2]
          refine ⟨fun w => absurd w ho, fun w => ?_⟩
          obtain ⟨-, c', la', w⟩ := w
          exact absurd (m3.symm.trans ((jn c' la').mp w).1) (by decide)
        · have m8 : md = 8 := mdw.elim (fun q => absurd (w1.symm.trans q.1) (by decide)) (fun q => q.2)
          exact ⟨fun _ => ⟨by rw [en]; exact ns, c, _, (jn c _).mpr ⟨m8, rfl, rfl⟩⟩, fun _ => (bi_or w3).mpr (Or.inr ((biq_1 w2 nb hi).mpr en))⟩
      · have k : bIt (iI u 18) i ↔ bIt (iI t 18) i := by
          rcases hj with ⟨w1, w2⟩ | ⟨w1, y, w2, w3⟩
          · rw [w2]
          · rw [bi_or w3, biq_1 w2 nb hi]
            exact ⟨fun w => w.elim id (fun w => absurd w (nx_ne n0.1 c9)), Or.inl⟩
        rw [k, z]
        exact ⟨fun w => ⟨Int.lt_trans w.1 ns, w.2⟩, fun w => ⟨nx_lt n0.1 c9 w.1, w.2⟩⟩
    · by_cases c9 : i = n.toNat
      · subst c9
        rw [en, dn]
        exact ((jn c' la').mp hs).2.1.symm
      · have i1 := nx_lt n0.1 c9 hi'
        exact (drl_k ⟨nn0 i, i1⟩ a2 ee d2).trans (h2 i c' la' i1 hs)
  · exact absurd b2.1 he
/-- the class's rules: which clauses are joins, their codes -/
def CJB (B : Nat → Int) (N e : Int) (t : PS) : Prop := (∀ i : Nat, i < 32 → (bIt (iI t 14) i ↔ (i : Int) < e ∧ ∃ c la, JSL B N i c la)) ∧ ∀ (i : Nat) (c : List Int) (la : Int), (i : Int) < e → JSL B N i c la → cdL t (i : Int) = c
theorem cjb_of {B : Nat → Int} {N n : Int} {s t : PS} (h : JQD B N n s) (ha : ADP s t) (hb : iI t 14 = iI s 18) : CJB B N n t := ⟨fun i hi => by rw [hb]; exact h.1 i hi, fun i c la hi hs => (adp_l ha).trans (h.2 i c la hi hs)⟩
/-- what a clause does to the model's joins -/
def MPT (B : Nat → Int) (N : Int) (s t : PS) : Prop := (whV B N (sk B N (iI s 77)) = 247162 ∧ iI t 87 = iI s 87 ∧ SAM 160 s t) ∨ (whV B N (sk B N (iI s 77)) = 208022 ∧ iI t 87 = iI s 87 + 1 ∧ UPD 160 (iI s 87) (wdE B N (sk B N (iI s 77))) s t)
/-- the joins that the model has found -/
def JMD (B : Nat → Int) (N n j : Int) (t : PS) : Prop := (∀ k : Nat, (k : Int) < j → ∃ (i : Nat) (c : List Int), (i : Int) < n ∧ JSL B N i c (iC t 160 k)) ∧ ∀ (i : Nat) (c : List Int) (la : Int), (i : Int) < n → JSL B N i c la → ∃ k : Nat, (k : Int) < j ∧ iC t 160 k = la
theorem jmd_0 {B : Nat → Int} {N : Int} {t : PS} : JMD B N 0 0 t := ⟨fun k hk => absurd hk (by omega), fun i _ _ hi => absurd hi (by omega)⟩
theorem jmd_s {B : Nat → Int} {N n j : Int} {t u : PS} (h : JMD B N n j t) (hs : SAM 160 t u) : JMD B N n j u := ⟨fun k hk => by rw [hs k]; exact h.1 k hk, fun i c la hi hl => by
  obtain ⟨k, k1, k2⟩ := h.2 i c la hi hl
  exact ⟨k, k1, (hs k).trans k2⟩⟩
theorem jmd_up {B : Nat → Int} {N : Int} {t u : PS} (o : CHO B N t) (h : JMD B N (iI t 86) (iI t 87) t) (hf : iI t 79 = 0) (h0 : 0 ≤ iI t 86) (j0 : 0 ≤ iI t 87) (hp : 0 ≤ sk B N (iI t 77) ∧ sk B N (iI t 77) < N) (hc : CLN B N t u) (hu : iI u 79 = 0) (hj : MPT B N t u) : JMD B N (iI t 86 + 1) (iI u 87) u := by
  have en : (((iI t 86).toNat : Nat) : Int) = iI t 86 := by omega
  have ns : iI t 86 < iI t 86 + 1 := by omega
  have ej : (((iI t 87).toNat : Nat) : Int) = iI t 87 := by omega
  have ch : CHN B N (iI t 86).toNat (sk B N (iI t 77)) := by
    rcases o with ⟨-, k, c, o⟩ | o
    · exact chq_n o
    · exact absurd hf o.1
  obtain ⟨f, md, c, q, h1, h2 | h2⟩ := hc
  · obtain ⟨-, b, -⟩ := h2
    subst b
    have h1' : CLR B N (((iI t 86).toNat : Nat) : Int) (sk B N (iI t 77)) 0 md c q := by rw [en]; exact h1
    have jn := jsl_at ch hp h1'
    have mdw := clr_wh h1
    obtain ⟨g1, g2⟩ := h
    rcases hj with ⟨w1, w2, w3⟩ | ⟨w1, w2, w3⟩
    · have m3 : md = 3 := mdw.elim (fun q => q.2) (fun q => absurd (w1.symm.trans q.1) (by decide))
      rw [w2]
      refine ⟨fun k hk => ?_, fun i c' la hi hl => ?_⟩
      · obtain ⟨i, c', i1, i2⟩ := g1 k hk
        exact ⟨i, c', Int.lt_trans i1 ns, by rw [w3 k]; exact i2⟩
      · by_cases c9 : i = (iI t 86).toNat
        · subst c9
          exact absurd (m3.symm.trans ((jn c' la).mp hl).1) (by decide)
        · obtain ⟨k, k1, k2⟩ := g2 i c' la (nx_lt h0 c9 hi) hl
          exact ⟨k, k1, (w3 k).trans k2⟩
    · have m8 : md = 8 := mdw.elim (fun q => absurd (w1.symm.trans q.1) (by decide)) (fun q => q.2)
      rw [w2]
      refine ⟨fun k hk => ?_, fun i c' la hi hl => ?_⟩
      · by_cases c9 : k = (iI t 87).toNat
        · subst c9
          exact ⟨(iI t 86).toNat, c, by rw [en]; exact ns, by rw [w3.1]; exact (jn c _).mpr ⟨m8, rfl, rfl⟩⟩
        · obtain ⟨i, c', i1, i2⟩ := g1 k (nx_lt j0 c9 hk)
          exact ⟨i, c', Int.lt_trans i1 ns, by rw [w3.2 k c9]; exact i2⟩
      · by_cases c9 : i = (iI t 86).toNat
        · subst c9
          exact ⟨(iI t 87).toNat, by rw [ej]; exact Int.lt_add_one_of_le (Int.le_refl _), by rw [w3.1]; exact ((jn c' la).mp hl).2.2.symm⟩
        · obtain ⟨k, k1, k2⟩ := g2 i c' la (nx_lt h0 c9 hi) hl
          have kn : k ≠ (iI t 87).toNat := fun z => by
            rw [z, ej] at k1
            exact Int.lt_irrefl _ k1
          exact ⟨k, Int.lt_trans k1 (Int.lt_add_one_of_le (Int.le_refl _)), (w3.2 k kn).trans k2⟩
  · exact absurd hu h2.1
/-- the model's rules: where its joins begin -/
def MJB (B : Nat → Int) (N e : Int) (t : PS) : Prop := (∀ k : Nat, (k : Int) < iI t 84 → ∃ (i : Nat) (c : List Int), (i : Int) < e ∧ JSL B N i c (iC t 159 k)) ∧ ∀ (i : Nat) (c : List Int) (la : Int), (i : Int) < e → JSL B N i c la → ∃ k : Nat, (k : Int) < iI t 84 ∧ iC t 159 k = la
theorem mjb_of {B : Nat → Int} {N e j : Int} {s t : PS} (h : JMD B N e j s) (hj : iI t 84 = j) (hc : ∀ k : Nat, (k : Int) < j → iC t 159 k = iC s 160 k) : MJB B N e t := by
  unfold MJB
  rw [hj]
  refine ⟨fun k hk => by rw [hc k hk]; exact h.1 k hk, fun i c la hi hl => ?_⟩
  obtain ⟨k, k1, k2⟩ := h.2 i c la hi hl
  exact ⟨k, k1, (hc k k1).trans k2⟩
/-- class and model hold the joins Jn -/
def CJJ (J : List Int → Prop) (s : PS) : Prop := (∀ c, J c → VLw c) ∧ (∀ i : Nat, i < 8 → (i : Int) < iI s 12 → bIt (iI s 14) i → J (cdL s (i : Int))) ∧ ∀ c, J c → ∃ i : Nat, i < 8 ∧ (i : Int) < iI s 12 ∧ bIt (iI s 14) i ∧ cdL s (i : Int) = c
def MJX (B : Nat → Int) (J : List Int → Prop) (s : PS) : Prop := (∀ k : Nat, (k : Int) < iI s 82 → iC s 158 k = B k) ∧ (∀ k : Nat, (k : Int) < iI s 84 → ∃ c, J c ∧ PJO B (iI s 82) (iC s 159 k) c) ∧ ∀ c, J c → ∃ k : Nat, (k : Int) < iI s 84 ∧ PJO B (iI s 82) (iC s 159 k) c
def MJJ (J : List Int → Prop) (s : PS) : Prop := (∀ c, J c → VLw c) ∧ ∃ B, MJX B J s
def JNJ (s : PS) : Prop := ∃ J : List Int → Prop, CJJ J s ∧ MJJ J s
theorem jn_cdl {s t : PS} (h1 : ∀ j, iC t 16 j = iC s 16 j) (h2 : ∀ j, iC t 17 j = iC s 17 j) (x : Int) : cdL t x = cdL s x := by
  unfold cdL bgV
  simp only [h1, h2]
theorem cjj_s {J : List Int → Prop} {s t : PS} (r : CJJ J s) (e1 : iI t 12 = iI s 12) (e2 : iI t 14 = iI s 14) (e3 : SAM 16 s t) (e4 : SAM 17 s t) : CJJ J t := by
  have ec := jn_cdl (s := s) (t := t) e3 e4
  refine ⟨r.1, fun i i8 hi hb => ?_, fun c hc => ?_⟩
  · rw [ec]; exact r.2.1 i i8 (by rw [← e1]; exact hi) (by rw [← e2]; exact hb)
  · obtain ⟨i, i8, i1, i2, i3⟩ := r.2.2 c hc
    exact ⟨i, i8, by rw [e1]; exact i1, by rw [e2]; exact i2, (ec _).trans i3⟩
theorem mjj_s {J : List Int → Prop} {s t : PS} (r : MJJ J s) (e1 : iI t 82 = iI s 82) (e2 : iI t 84 = iI s 84) (e3 : SAM 158 s t) (e4 : SAM 159 s t) : MJJ J t := by
  obtain ⟨w, B, b1, b2, b3⟩ := r
  refine ⟨w, B, fun k hk => (e3 k).trans (b1 k (by rw [← e1]; exact hk)), fun k hk => ?_, fun c hc => ?_⟩
  · rw [e1, e4 k]; exact b2 k (by rw [← e2]; exact hk)
  · obtain ⟨k, k1, k2⟩ := b3 c hc
    exact ⟨k, by rw [e2]; exact k1, by rw [e1, e4 k]; exact k2⟩
theorem CJJ_fm {J : List Int → Prop} {L M : List Nat} {s t : PS} (F : Fm L M s t) (h : (12 ∉ L ∧ 14 ∉ L) ∧ 17 ∉ M ∧ 16 ∉ M) (r : CJJ J s) : CJJ J t := cjj_s r (fm_i F h.1.1) (fm_i F h.1.2) (sam_fm F h.2.2) (sam_fm F h.2.1)
theorem MJJ_fm {J : List Int → Prop} {L M : List Nat} {s t : PS} (F : Fm L M s t) (h : (82 ∉ L ∧ 84 ∉ L) ∧ 158 ∉ M ∧ 159 ∉ M) (r : MJJ J s) : MJJ J t := mjj_s r (fm_i F h.1.1) (fm_i F h.1.2) (sam_fm F h.2.1) (sam_fm F h.2.2)
theorem JNJ_fm {L M : List Nat} {s t : PS} (F : Fm L M s t) (h : ((12 ∉ L ∧ 14 ∉ L) ∧ 17 ∉ M ∧ 16 ∉ M) ∧ (82 ∉ L ∧ 84 ∉ L) ∧ 158 ∉ M ∧ 159 ∉ M) (r : JNJ s) : JNJ t := by
  obtain ⟨J, r1, r2⟩ := r
  exact ⟨J, CJJ_fm F h.1 r1, MJJ_fm F h.2 r2⟩
theorem jnj_new {B : Nat → Int} {N e : Int} {t : PS} (h : CJB B N e t) (g : MJB B N e t) (hc : iI t 12 = e) (e8 : e ≤ 8) (hn : iI t 82 = N) (hr : ∀ j : Nat, (j : Int) < N → iC t 158 j = B j) : JNJ t := by
  have v8 : ∀ {i : Nat}, (i : Int) < e → i < 8 := fun q => by omega
  have w : ∀ c, (∃ (i : Nat) (la : Int), (i : Int) < e ∧ JSL B N i c la) → VLw c := fun c ⟨i, la, i1, i2⟩ => (jsl_pj i2).2
  refine ⟨fun c => ∃ (i : Nat) (la : Int), (i : Int) < e ∧ JSL B N i c la, ⟨w, ?_, ?_⟩, w, B, by rw [hn]; exact hr, ?_, ?_⟩
  · intro i i8 hi hb
    rw [hc] at hi
    obtain ⟨-, c, la, hl⟩ := (h.1 i (Nat.lt_trans i8 (by decide))).mp hb
    rw [h.2 i c la hi hl]
    exact ⟨i, la, hi, hl⟩
  · rintro c ⟨i, la, i1, i2⟩
    exact ⟨i, v8 i1, by rw [hc]; exact i1, (h.1 i (Nat.lt_trans (v8 i1) (by decide))).mpr ⟨i1, c, la, i2⟩, h.2 i c la i1 i2⟩
  · intro k hk
    obtain ⟨i, c, i1, i2⟩ := g.1 k hk
    rw [hn]
    exact ⟨c, ⟨i, _, i1, i2⟩, (jsl_pj i2).1⟩
  · rintro c ⟨i, la, i1, i2⟩
    obtain ⟨k, k1, k2⟩ := g.2 i c la i1 i2
    rw [hn]
    exact ⟨k, k1, by rw [k2]; exact (jsl_pj i2).1⟩
/-- rules, in class and model: the joins -/
theorem jn_both {B : Nat → Int} {N e e' : Int} {s t u : PS} (r : JNJ s) (z : e = e') (e8 : iI t 12 ≤ 8) (h : (0 ≤ e ∧ CJB B N e t ∧ iI t 12 = e) ∨ (e < 0 ∧ iI t 12 = iI s 12 ∧ iI t 14 = iI s 14 ∧ SAM 16 s t ∧ SAM 17 s t)) (g : (0 ≤ e' ∧ MJB B N e' u ∧ iI u 82 = N ∧ ∀ j : Nat, (j : Int) < N → iC u 158 j = B j) ∨ (e' < 0 ∧ iI u 82 = iI t 82 ∧ iI u 84 = iI t 84 ∧ SAM 158 t u ∧ SAM 159 t u)) (e1 : iI u 12 = iI t 12) (e2 : iI u 14 = iI t 14) (e3 : SAM 16 t u) (e4 : SAM 17 t u) (f1 : iI t 82 = iI s 82) (f2 : iI t 84 = iI s 84) (f3 : SAM 158 s t) (f4 : SAM 159 s t) : JNJ u := by
  subst z
  rcases h with ⟨h0, h1, h2⟩ | ⟨h0, h1, h2, h3, h4⟩
  · rcases g with ⟨g0, g1, g2, g3⟩ | ⟨g0, _⟩
    · have hb : CJB B N e u := ⟨fun i hi => by rw [e2]; exact h1.1 i hi, fun i c la hi hl => (jn_cdl e3 e4 _).trans (h1.2 i c la hi hl)⟩
      exact jnj_new hb g1 (e1.trans h2) (by rw [← h2]; exact e8) g2 g3
    · exact absurd h0 (Int.not_le.mpr g0)
  · rcases g with ⟨g0, _⟩ | ⟨_, g1, g2, g3, g4⟩
    · exact absurd g0 (Int.not_le.mpr h0)
    · obtain ⟨J, r1, r2⟩ := r
      exact ⟨J, cjj_s r1 (e1.trans h1) (e2.trans h2) (sam_ts h3 e3) (sam_ts h4 e4), mjj_s r2 (g1.trans f1) (g2.trans f2) (sam_ts f3 g3) (sam_ts f4 g4)⟩
/-- all joins hold for what is heard -/
def JHO (J : List Int → Prop) (nm : Nat → Int32) : Prop := ∀ c, J c → ldO c nm ≠ 0
def JHE (J : List Int → Prop) (nm : Nat → Int32) (e : Int) : Prop := (e = 1 ∧ JHO J nm) ∨ (e = 0 ∧ ¬ JHO J nm)
theorem jhe_e {J : List Int → Prop} {nm : Nat → Int32} {e : Int} (h : JHE J nm e) : (e ≠ 0 → JHO J nm) ∧ (e = 0 → ¬ JHO J nm) := ⟨fun q => h.elim (fun z => z.2) (fun z => absurd z.1 q), fun q => h.elim (fun z => absurd (z.1.symm.trans q) (by decide)) (fun z => z.2)⟩
theorem ldo_ext {c : List Int} {nm nm' : Nat → Int32} (w : VLw c) (h : ∀ j, j < 7 → nm j = nm' j) : ldO c nm = ldO c nm' := vl_un (vl_ext h (ldo_vl w nm)) (ldo_vl w nm')
theorem jho_ext {J : List Int → Prop} {nm nm' : Nat → Int32} (w : ∀ c, J c → VLw c) (h : ∀ j, j < 7 → nm j = nm' j) : JHO J nm ↔ JHO J nm' := ⟨fun q c hc => by rw [← ldo_ext (w c hc) h]; exact q c hc, fun q c hc => by rw [ldo_ext (w c hc) h]; exact q c hc⟩
theorem jhe_ext {J : List Int → Prop} {nm nm' : Nat → Int32} {e : Int} (w : ∀ c, J c → VLw c) (h : ∀ j, j < 7 → nm j = nm' j) (q : JHE J nm e) : JHE J nm' e := q.imp (fun z => ⟨z.1, (jho_ext w h).mp z.2⟩) (fun z => ⟨z.1, fun y => z.2 ((jho_ext w h).mpr y)⟩)
/-- the class's clauses below n: their joins hold -/
def CJN (J : List Int → Prop) (nm : Nat → Int32) (s : PS) (n : Int) : Prop := ∀ i : Nat, (i : Int) < n → bIt (iI s 14) i → ldO (cdL s (i : Int)) nm ≠ 0
theorem cjn_0 {J : List Int → Prop} {nm : Nat → Int32} {s : PS} : CJN J nm s 0 := fun i hi => absurd hi (by omega)
theorem cjn_up {J : List Int → Prop} {nm : Nat → Int32} {s : PS} {n : Int} (h : CJN J nm s n) (n0 : 0 ≤ n) (hn : bIt (iI s 14) n.toNat → ldO (cdL s n) nm ≠ 0) : CJN J nm s (n + 1) := fun i hi hb => by
  by_cases c9 : i = n.toNat
  · subst c9
    rw [show ((n.toNat : Nat) : Int) = n by omega]
    exact hn hb
  · exact h i (nx_lt n0 c9 hi) hb
theorem cjn_e {J : List Int → Prop} {nm : Nat → Int32} {s : PS} {n : Int} (d : CJJ J s) (h : CJN J nm s n) (hn : iI s 12 ≤ n) : JHE J nm 1 := Or.inl ⟨rfl, fun c hc => by
  obtain ⟨i, -, i1, i2, i3⟩ := d.2.2 c hc
  rw [← i3]
  exact h i (Int.lt_of_lt_of_le i1 hn) i2⟩
theorem cjn_no {J : List Int → Prop} {nm : Nat → Int32} {s : PS} {n : Int} (d : CJJ J s) (n0 : 0 ≤ n ∧ n < 8) (hn : n < iI s 12) (hb : bIt (iI s 14) n.toNat) (hz : ldO (cdL s n) nm = 0) : JHE J nm 0 := Or.inr ⟨rfl, fun q => q (cdL s n) (by
  have z := d.2.1 n.toNat (by omega) (by omega) hb
  rw [show ((n.toNat : Nat) : Int) = n by omega] at z
  exact z) hz⟩
/-- the value of a join of the class's -/
theorem cjw_0 {J : List Int → Prop} {nm : Nat → Int32} {s : PS} {n e : Int} (d : CJJ J s) (n0 : 0 ≤ n ∧ n < 8) (hn : n < iI s 12) (hb : bIt (iI s 14) n.toNat) (r : rng e) (he : ∀ w : Int32, VLm nm w (cdL s n) → Int32.ofInt e = w) : e = 0 ↔ ldO (cdL s n) nm = 0 := by
  have hJ : J (cdL s n) := by
    have z := d.2.1 n.toNat (by omega) (by omega) hb
    rw [show ((n.toNat : Nat) : Int) = n by omega] at z
    exact z
  have z := he _ (ldo_vl (d.1 _ hJ) nm)
  rw [← z]
  exact (zi_0i r).symm
/-- the model's joins below n hold, or not -/
def MJN (B : Nat → Int) (J : List Int → Prop) (nm : Nat → Int32) (s : PS) (n v : Int) : Prop := (v = 1 ∧ ∀ (k : Nat) (c : List Int), (k : Int) < n → PJO B (iI s 82) (iC s 159 k) c → ldO c nm ≠ 0) ∨ (v = 0 ∧ ¬ JHO J nm)
theorem mjn_0 {B : Nat → Int} {J : List Int → Prop} {nm : Nat → Int32} {s : PS} : MJN B J nm s 0 1 := Or.inl ⟨rfl, fun k c hk => absurd hk (by omega)⟩
theorem pjo_un {B : Nat → Int} {N la : Int} {c c' : List Int} (h : PJO B N la c) (h' : PJO B N la c') : c = c' := by
  obtain ⟨-, r, h⟩ := h
  obtain ⟨-, r', h'⟩ := h'
  have e := pgr_un h h'
  exact congrArg (fun z : Rd => z.2.1) e
theorem mjn_up {B : Nat → Int} {J : List Int → Prop} {nm : Nat → Int32} {s : PS} {n v e w : Int} {c : List Int} (h : MJN B J nm s n v) (n0 : 0 ≤ n) (hc : J c) (hp : PJO B (iI s 82) (iC s 159 n.toNat) c) (he : e = 0 ↔ ldO c nm = 0) (hw : (e ≠ 0 ∧ v ≠ 0 ∧ w = 1) ∨ ((e = 0 ∨ v = 0) ∧ w = 0)) : MJN B J nm s (n + 1) w := by
  rcases hw with ⟨w1, w2, w3⟩ | ⟨w1, w2⟩
  · refine Or.inl ⟨w3, fun k c' hk hp' => ?_⟩
    rcases h with ⟨-, h⟩ | ⟨h, -⟩
    · by_cases c9 : k = n.toNat
      · subst c9
        rw [pjo_un hp' hp]
        exact fun z => w1 (he.mpr z)
      · exact h k c' (nx_lt n0 c9 hk) hp'
    · exact absurd h w2
  · refine Or.inr ⟨w2, fun q => ?_⟩
    rcases w1 with w1 | w1
    · exact q c hc (he.mp w1)
    · rcases h with ⟨h, -⟩ | ⟨-, h⟩
      · rw [w1] at h; exact absurd h (by decide)
      · exact h q
theorem mjn_e {B : Nat → Int} {J : List Int → Prop} {nm : Nat → Int32} {s : PS} {n v : Int} (d : MJX B J s) (h : MJN B J nm s n v) (hn : iI s 84 ≤ n) : JHE J nm v := by
  rcases h with ⟨h1, h2⟩ | h
  · refine Or.inl ⟨h1, fun c hc => ?_⟩
    obtain ⟨k, k1, k2⟩ := d.2.2 c hc
    exact h2 k c (Int.lt_of_lt_of_le k1 hn) k2
  · exact Or.inr h
/-- the value that the model reads -/
theorem mjw_0 {B : Nat → Int} {N la e : Int} {c : List Int} {u v : PS} (w : VLw c) (hp : PJO B N la c) (r : rng e) (ha : iI u 77 = la) (ho : iI u 78 = 0) (hf : iI u 79 = 0) (h : PFv (VLm (NMr u) (Int32.ofInt e)) B N 8 u v) : e = 0 ↔ ldO c (NMr u) = 0 := by
  obtain ⟨-, q, g⟩ := hp
  have o := pf_ouv h hf
  rw [ha, ho] at o
  obtain ⟨r', p1, p2⟩ := o
  have ee := pgr_un p1 g
  rw [ee] at p2
  rcases p2 with ⟨_, _, _, hv⟩ | ⟨f1, f2⟩
  · have z : Int32.ofInt e = ldO c (NMr u) := vl_un hv (ldo_vl w _)
    rw [← z]
    exact (zi_0i r).symm
  · exact absurd f2 f1
/-- a clause of the model's, and blanks behind it -/
theorem jmo_up {B : Nat → Int} {N : Int} {t u v : PS} (o : CHO B N t) (h : iI t 79 ≠ 0 ∨ JMD B N (iI t 86) (iI t 87) t) (hf : iI t 79 = 0) (h0 : 0 ≤ iI t 86) (j0 : 0 ≤ iI t 87) (hp : 0 ≤ sk B N (iI t 77) ∧ sk B N (iI t 77) < N) (hc : CLN B N t u) (hj : iI u 79 ≠ 0 ∨ MPT B N t u) (hn : iI u 79 = 0 → iI u 86 = iI t 86 + 1) (v1 : iI v 79 = iI u 79) (v2 : iI v 86 = iI u 86) (v3 : iI v 87 = iI u 87) (v4 : SAM 160 u v) : iI v 79 ≠ 0 ∨ JMD B N (iI v 86) (iI v 87) v := by
  rw [v1, v2, v3]
  rcases hj with hj | hj
  · exact Or.inl hj
  · by_cases z : iI u 79 = 0
    · rw [hn z]
      exact Or.inr (jmd_s (jmd_up o (h.elim (fun q => absurd hf q) id) hf h0 j0 hp hc z hj) v4)
    · exact Or.inl z
theorem cpj_up {t u : PS} {c v : Int} (h : ∀ k : Nat, (k : Int) < c → iC t 159 k = iC t 160 k) (c0 : 0 ≤ c) (hu : UPD 159 c v t u) (hs : SAM 160 t u) (hv : v = iC t 160 c.toNat) : ∀ k : Nat, (k : Int) < c + 1 → iC u 159 k = iC u 160 k := fun k hk => by
  rw [hs k]
  by_cases e : k = c.toNat
  · rw [e, hu.1, hv]
  · rw [hu.2 k e]; exact h k (nx_lt c0 e hk)
section M87kl
variable {l : Launch} {s0 : State} {D : va_G} {tys : List (ClassId × FieldType)} {a0 : Array Value} {A : Nat → Nat} {dT : Nat → ClassId} {s : PS}
set_option maxRecDepth 4000 in
theorem k_clause7 (G : GX l s0 D tys a0 dT) {B : Nat → Int} {N : Int} (I : Bd s) (jFDB : FDB B N s) (p0 : iI s 79 = 0) (p1 : iI s 78 = 0) (p2 : iI s 77 ≤ iI s 75) (p3 : iI s 87 ≤ iI s 86) : CT l s0 D A dT 213 (rmN 213) [.ref (A 179)] s (fun o t => Bd t ∧ Fm [77, 79, 80, 78, 86, 87, 88] [160] s t ∧ FDB B N t ∧ o = .inl none ∧ (iI t 78 = 0 ∧ iI s 77 ≤ iI t 77 ∧ iI t 77 ≤ 203 ∧ (iI t 79 = 0 → iI s 77 < iI t 77 ∧ iI t 77 ≤ iI s 75) ∧ iI t 87 ≤ iI t 86 ∧ (iI t 79 = 0 → iI t 86 = iI s 86 + 1) ∧ CLN B N s t ∧ (iI t 79 ≠ 0 ∨ MPT B N s t))) := by
  refine ct_of G (by decide) (Nat.le_of_ble_eq_true rfl) (fun k X E hRt hXt q => ?_)
  show WS k 0 [(0, .ref (A 179))] [] _ 0 0
  have F : Fm [77, 79, 80, 78, 86, 87, 88] [160] s s := fm_rf _ _ s
  have aw0_160 : SAM 160 s s := sam_rf
  have hN := jFDB.2.1
  have hW := jFDB.2.2
  have b1 := bi_77 I
  have b2 := bi_75 I
  have b3 := bi_79 I
  have b4 := bi_78 I
  have b5 := bi_86 I
  have b6 := bi_87 I
  have b7 := bi_88 I
  refine z_aload_n X (x := A 179) rfl (List.Mem.head _) (zcV_i1 X E 179 (As := []) (st := []) rfl rfl rfl rfl (k_wordHere3 G I jFDB (by first | exact oq_8bddf595 p2 b2.2 | omega)) rfl (Nat.le_of_ble_eq_true rfl) (fun s8 e9 Is8 Fs8 JFDB_s8 hrs8 hps8 => ?_))
  have hps8p := And.intro hps8.1 (And.intro hps8.2.1 (hps8.2.2.1))
  have Gs8 := fm_tq F Fs8 rfl rfl
  have JFDB_s8 : FDB B N s8 := FDB_fm Fs8 (by decide) jFDB
  have b10 := bi_77 Is8
  have ws8_75 : iI s8 75 = iI s 75 := fm_iq Fs8 rfl
  have ws8_79 : iI s8 79 = iI s 79 := fm_iq Fs8 rfl
  have ws8_78 : iI s8 78 = iI s 78 := fm_iq Fs8 rfl
  have ws8_86 : iI s8 86 = iI s 86 := fm_iq Fs8 rfl
  have ws8_87 : iI s8 87 = iI s 87 := fm_iq Fs8 rfl
  have ws8_88 : iI s8 88 = iI s 88 := fm_iq Fs8 rfl
  have aws8_160 : SAM 160 s s8 := sam_ts aw0_160 (sam_fm Fs8 (by decide))
  have hwv : e9 = whV B N (sk B N (iI s 77)) := by rw [hps8.2.1, hps8.1]
  have hb0 : iI s8 77 = (sk B N (iI s 77)) := hps8.1
  refine z_store_n X (lv' := [(1, .int (Int32.ofInt e9)), (0, .ref (A 179))]) rfl (by decide) (fun _ h => h) (z_load_n X (x := e9) rfl (List.Mem.head _) (z_bipush X rfl (z_bipush X rfl (z_const X rfl (z_const X rfl (z_const X rfl (z_const X rfl (z_callS X (rm := rmN 202) (As := [.int (Int32.ofInt 12), .int (Int32.ofInt 15), .int (Int32.ofInt 1), .int (Int32.ofInt 4), .int (Int32.ofInt 0), .int (Int32.ofInt 0)]) (st := [.int (Int32.ofInt e9)]) rfl rfl (by rw [E.1, E.2.1, E.2.2.1]; exact k_word3 G Is8 (by first | exact ⟨by decide, by decide⟩ | omega) (by first | exact ⟨by decide, by decide⟩ | omega) (by first | exact ⟨by decide, by decide⟩ | omega) (by first | exact ⟨by decide, by decide⟩ | omega) (by first | exact ⟨by decide, by decide⟩ | omega) (by first | exact ⟨by decide, by decide⟩ | omega)) ⟨by rw [E.2.2.2]; exact (show (rmN 202).frames + 1 ≤ (rmN 213).frames by decide), by rw [E.2.2.2]; exact (show 8 + (mNL (miB 202) + 11) + (rmN 202).locals ≤ (rmN 213).locals by decide), by rw [E.2.2.2]; exact (show 0 + (rmN 202).cells ≤ (rmN 213).cells by decide), by rw [E.2.2.2]; exact (show 0 + (rmN 202).slots ≤ (rmN 213).slots by decide)⟩ (Nat.le_of_ble_eq_true rfl) (fun vv s11 hq => ?_) (fun ee s11 hq => ?_)))))))))
  rotate_left
  · obtain ⟨rfl, e12, hv, hrs11, hps11⟩ := hq; cases hv
  obtain ⟨rfl, e12, hv, hrs11, hps11⟩ := hq
  cases hv
  show WS k 17 [(1, .int (Int32.ofInt e9)), (0, .ref (A 179))] [.int (Int32.ofInt e12), .int (Int32.ofInt e9)] (Wd A dT s8) 0 0
  have hk13 : e12 = 247162 := by rw [hps11.2]; decide
  have N14 : ∀ e15 : Int, (((e9 ≠ e12) ∧ e15 = 0) ∨ ((e9 = e12) ∧ e15 = 1)) → WS k 25 [(1, .int (Int32.ofInt e9)), (0, .ref (A 179))] [.int (Int32.ofInt e15)] (Wd A dT s8) 0 0 := by
    intro e15 he15
    have re15 : 0 ≤ e15 ∧ e15 ≤ 1 := by first | (clear he15 hps8; omega) | (clear hps8; omega) | omega
    refine z_store_n X (lv' := [(2, .int (Int32.ofInt e15)), (1, .int (Int32.ofInt e9)), (0, .ref (A 179))]) rfl (by decide) (fun _ h => h) (z_load_n X (x := e9) rfl (List.Mem.tail _ (List.Mem.head _)) (z_bipush X rfl (z_bipush X rfl (z_bipush X rfl (z_bipush X rfl (z_const X rfl (z_const X rfl (z_callS X (rm := rmN 202) (As := [.int (Int32.ofInt 10), .int (Int32.ofInt 15), .int (Int32.ofInt 9), .int (Int32.ofInt 14), .int (Int32.ofInt 0), .int (Int32.ofInt 0)]) (st := [.int (Int32.ofInt e9)]) rfl rfl (by rw [E.1, E.2.1, E.2.2.1]; exact k_word3 G Is8 (by first | exact ⟨by decide, by decide⟩ | omega) (by first | exact ⟨by decide, by decide⟩ | omega) (by first | exact ⟨by decide, by decide⟩ | omega) (by first | exact ⟨by decide, by decide⟩ | omega) (by first | exact ⟨by decide, by decide⟩ | omega) (by first | exact ⟨by decide, by decide⟩ | omega)) ⟨by rw [E.2.2.2]; exact (show (rmN 202).frames + 1 ≤ (rmN 213).frames by decide), by rw [E.2.2.2]; exact (show 8 + (mNL (miB 202) + 11) + (rmN 202).locals ≤ (rmN 213).locals by decide), by rw [E.2.2.2]; exact (show 0 + (rmN 202).cells ≤ (rmN 213).cells by decide), by rw [E.2.2.2]; exact (show 0 + (rmN 202).slots ≤ (rmN 213).slots by decide)⟩ (Nat.le_of_ble_eq_true rfl) (fun vv s16 hq => ?_) (fun ee s16 hq => ?_)))))))))
    rotate_left
    · obtain ⟨rfl, e17, hv, hrs16, hps16⟩ := hq; cases hv
    obtain ⟨rfl, e17, hv, hrs16, hps16⟩ := hq
    cases hv
    show WS k 40 [(2, .int (Int32.ofInt e15)), (1, .int (Int32.ofInt e9)), (0, .ref (A 179))] [.int (Int32.ofInt e17), .int (Int32.ofInt e9)] (Wd A dT s8) 0 0
    have hk18 : e17 = 208022 := by rw [hps16.2]; decide
    have N19 : ∀ e20 : Int, (((e9 ≠ e17) ∧ e20 = 0) ∨ ((e9 = e17) ∧ e20 = 1)) → WS k 48 [(2, .int (Int32.ofInt e15)), (1, .int (Int32.ofInt e9)), (0, .ref (A 179))] [.int (Int32.ofInt e20)] (Wd A dT s8) 0 0 := by
      intro e20 he20
      have re20 : 0 ≤ e20 ∧ e20 ≤ 1 := by first | (clear he20 he15 hps8; omega) | (clear he15 hps8; omega) | omega
      refine z_store_n X (lv' := [(3, .int (Int32.ofInt e20)), (2, .int (Int32.ofInt e15)), (1, .int (Int32.ofInt e9)), (0, .ref (A 179))]) rfl (by decide) (fun _ h => h) (z_load_n X (x := e15) rfl (List.Mem.tail _ (List.Mem.head _)) (z_if_ne X (t := 69) rfl rfl ⟨by first | exact oq_fa4e5087 re15.1 | omega, by first | exact oq_22e1e6b0 re15.2 | omega⟩ (fun g21 => ?_) (fun g21 => ?_)))
      ·
        refine z_aload_n X (x := A 179) rfl (List.Mem.tail _ (List.Mem.tail _ (List.Mem.tail _ (List.Mem.head _)))) (z_getI X 179 rfl (c518_ok rfl) rfl rfl ?_)
        have b22 := bi_86 Is8
        refine z_bipush X rfl (z_icmp_ne X (t := 87) rfl rfl (rng_to _) (by decide) (fun g23 => ?_) (fun g23 => ?_))
        ·
          refine z_aload_n X (x := A 179) rfl (List.Mem.tail _ (List.Mem.tail _ (List.Mem.tail _ (List.Mem.head _)))) (z_getI X 179 rfl (c518_ok rfl) rfl rfl ?_)
          have b24 := bi_79 Is8
          refine z_if_eq X (t := 95) rfl rfl (rng_to _) (fun g25 => ?_) (fun g25 => ?_)
          ·
            refine z_aload_n X (x := A 179) rfl (List.Mem.tail _ (List.Mem.tail _ (List.Mem.tail _ (List.Mem.head _)))) (zcV_v1 X E 179 (As := []) (st := []) rfl rfl rfl rfl (k_skipWord3 G Is8 JFDB_s8 (by first | (clear g23 g21 he20 he15 hps8; omega) | (clear g21 he20 he15 hps8; omega) | omega)) rfl (Nat.le_of_ble_eq_true rfl) (fun s26 Is26 Fs26 JFDB_s26 hps26 => ?_))
            have hps26p := And.intro hps26.1 (hps26.2.1)
            have Gs26 := fm_tq Gs8 Fs26 rfl rfl
            have JFDB_s26 : FDB B N s26 := FDB_fm Fs26 (by decide) JFDB_s8
            have b28 := bi_77 Is26
            have ws26_75 : iI s26 75 = iI s8 75 := fm_iq Fs26 rfl
            have ws26_79 : iI s26 79 = iI s8 79 := fm_iq Fs26 rfl
            have ws26_78 : iI s26 78 = iI s8 78 := fm_iq Fs26 rfl
            have ws26_86 : iI s26 86 = iI s8 86 := fm_iq Fs26 rfl
            have ws26_87 : iI s26 87 = iI s8 87 := fm_iq Fs26 rfl
            have ws26_88 : iI s26 88 = iI s8 88 := fm_iq Fs26 rfl
            have aws26_160 : SAM 160 s s26 := sam_ts aws8_160 (sam_fm Fs26 (by decide))
            have hsw : iI s26 77 = wdE B N (sk B N (iI s 77)) := by rw [hps26.1, show iI s8 77 = (sk B N (iI s 77)) by first | (clear hps26 g23 g21 he20 he15 hps8; omega) | (clear g23 g21 he20 he15 hps8; omega) | omega]
            have hwz := wh_let (show whV B N (sk B N (iI s 77)) ≠ 0 by first | (clear hps26 g23 g21 he20 he15 hps8; omega) | (clear g23 g21 he20 he15 hps8; omega) | omega)
            have hwg := wd_gt hwz.1 hwz.2.1 hwz.2.2
            refine z_load_n X (x := e15) rfl (List.Mem.tail _ (List.Mem.head _)) (z_if_eq X (t := 119) rfl rfl ⟨by first | exact oq_fa4e5087 re15.1 | omega, by first | exact oq_22e1e6b0 re15.2 | omega⟩ (fun g29 => ?_) (fun g29 => ?_))
            ·
              exfalso
              omega
            ·
              refine z_aload_n X (x := A 179) rfl (List.Mem.tail _ (List.Mem.tail _ (List.Mem.tail _ (List.Mem.head _)))) (z_aload_n X (x := A 179) rfl (List.Mem.tail _ (List.Mem.tail _ (List.Mem.tail _ (List.Mem.head _)))) (z_getI X 179 rfl (c518_ok rfl) rfl rfl ?_))
              have b30 := bi_77 Is26
              refine s_putI X 179 rfl (c518_ok rfl) rfl rfl (by decide) rfl rfl rfl (wd_gen (fun s31 hs31 => ?_))
              have Is31 : Bd s31 := eqB hs31 (bd_I Is26 (show ((-1) : Int) ≤ (iI s26 77) ∧ (iI s26 77) ≤ 200 by first | exact ⟨oq_ca54ea22 b30.1, by first | (clear g29 hps26 g23 g21 he20 he15 hps8; omega) | (clear hps26 g23 g21 he20 he15 hps8; omega) | omega⟩ | omega) (rng_to _))
              have Fs31 := eqF hs31 (fm_I Gs26 (inl_ok (a := 88) rfl))
              have vs31 : iI s31 88 = (iI s26 77) := eqI hs31 (iI_u (rng_to _))
              have ws31_77 : iI s31 77 = iI s26 77 := eqI hs31 rfl
              have ws31_75 : iI s31 75 = iI s26 75 := eqI hs31 rfl
              have ws31_79 : iI s31 79 = iI s26 79 := eqI hs31 rfl
              have ws31_78 : iI s31 78 = iI s26 78 := eqI hs31 rfl
              have ws31_86 : iI s31 86 = iI s26 86 := eqI hs31 rfl
              have ws31_87 : iI s31 87 = iI s26 87 := eqI hs31 rfl
              have aws31_160 : SAM 160 s s31 := by rw [hs31]; exact aws26_160
              have fs31 : Fm [88] [] s26 s31 := by rw [hs31]; exact fm_I (fm_rf _ _ _) (show 88 ∈ _ by decide)
              have JFDB_s31 : FDB B N s31 := FDB_fm fs31 (by decide) JFDB_s26
              refine z_aload_n X (x := A 179) rfl (List.Mem.tail _ (List.Mem.tail _ (List.Mem.tail _ (List.Mem.head _)))) (z_callV X 179 (rm := (rkR (3 * (7) + 2))) (As := []) (st := []) rfl rfl (by decide) rfl (by rw [E.1, E.2.1, E.2.2.1]; exact (k_sumr3 G (B := B) (N := N) 7).2.2 Is31 JFDB_s31 (by first | (clear g29 hps26 g23 g21 he20 he15 hps8; omega) | (clear hps26 g23 g21 he20 he15 hps8; omega) | omega) (by first | exact oq_250cf5e6 ws31_78 ws26_78 ws8_78 p1 b4.1 | omega) (by first | exact oq_9b88a94f ws31_78 ws26_78 ws8_78 p1 | omega)) ⟨by rw [E.2.2.2]; exact (show (12 + (3 * (7) + 2)) + 1 ≤ 60 from oq_ac0a0b68), by rw [E.2.2.2]; exact (show 8 + (4 + 11) + (500 + 45 * (3 * (7) + 2)) ≤ 2637 from oq_3899f1d8), by rw [E.2.2.2]; exact Nat.le_refl 0, by rw [E.2.2.2]; exact Nat.le_refl 0⟩ (Nat.le_of_ble_eq_true rfl) (fun vv s32 hq => ?_) (fun ee s32 hq => ?_))
              rotate_left
              · obtain ⟨Is32, Fs32, JFDB_s32, e33, hv, hrs32, hps32⟩ := hq; cases hv
              obtain ⟨Is32, Fs32, JFDB_s32, e33, hv, hrs32, hps32⟩ := hq
              cases hv
              have Gs32 := fm_tq Fs31 Fs32 rfl rfl
              have JFDB_s32 : FDB B N s32 := FDB_fm Fs32 (by decide) JFDB_s31
              have b34 := bi_77 Is32
              have ws32_75 : iI s32 75 = iI s31 75 := fm_iq Fs32 rfl
              have b35 := bi_79 Is32
              have b36 := bi_78 Is32
              have ws32_86 : iI s32 86 = iI s31 86 := fm_iq Fs32 rfl
              have ws32_87 : iI s32 87 = iI s31 87 := fm_iq Fs32 rfl
              have ws32_88 : iI s32 88 = iI s31 88 := fm_iq Fs32 rfl
              have aws32_160 : SAM 160 s s32 := sam_ts aws31_160 (sam_fm Fs32 (by decide))
              show WS k 115 [(3, .int (Int32.ofInt e20)), (2, .int (Int32.ofInt e15)), (1, .int (Int32.ofInt e9)), (0, .ref (A 179))] [.int (Int32.ofInt e33)] (Wd A dT s32) 0 0
              have hou : OUm B N 3 (sk B N (wdE B N (sk B N (iI s 77)))) 0 s32 := by have h := pf_ou hps32.2.2.2.2.2 (by first | (clear hps32 g29 hps26 g23 g21 he20 he15 hps8; omega) | (clear g29 hps26 g23 g21 he20 he15 hps8; omega) | omega); rw [show iI s31 77 = wdE B N (sk B N (iI s 77)) by first | (clear hps32 g29 hps26 g23 g21 he20 he15 hps8; omega) | (clear g29 hps26 g23 g21 he20 he15 hps8; omega) | omega, show iI s31 78 = 0 by first | (clear hps32 g29 hps26 g23 g21 he20 he15 hps8; omega) | (clear g29 hps26 g23 g21 he20 he15 hps8; omega) | omega] at h; exact h
              refine w_pop X.1 (ax_d X (show cdA 213 115 = some (.pop, 1, 0, 0, 0) from rfl)) rfl (z_goto X (t := 147) rfl rfl (z_aload_n X (x := A 179) rfl (List.Mem.tail _ (List.Mem.tail _ (List.Mem.tail _ (List.Mem.head _)))) (z_getI X 179 rfl (c518_ok rfl) rfl rfl ?_)))
              have b37 := bi_79 Is32
              refine z_if_ne X (t := 160) rfl rfl (rng_to _) (fun g38 => ?_) (fun g38 => ?_)
              ·
                refine z_aload_n X (x := A 179) rfl (List.Mem.tail _ (List.Mem.tail _ (List.Mem.tail _ (List.Mem.head _)))) (w_dup X.1 (ax_d X (show cdA 213 161 = some (.dup, 1, 0, 0, 0) from rfl)) rfl (z_getI X 179 rfl (c518_ok rfl) rfl rfl ?_))
                have b39 := bi_86 Is32
                refine z_const X rfl (z_add X rfl (s_putI X 179 rfl (c518_ok rfl) rfl rfl (by decide) rfl rfl rfl (wd_gen (fun s40 hs40 => ?_))))
                have Is40 : Bd s40 := eqB hs40 (bd_I Is32 (show (0 : Int) ≤ ((iI s32 86) + 1) ∧ ((iI s32 86) + 1) ≤ 8 by first | exact ⟨oq_54f49eb5 b39.1, oq_fa715ff6 ws32_86 ws31_86 ws26_86 g23 b22.2⟩ | omega) ⟨by first | exact oq_74de1e16 b39.1 | omega, by first | exact oq_3762dfb5 b39.2 | omega⟩)
                have Fs40 := eqF hs40 (fm_I Gs32 (inl_ok (a := 86) rfl))
                have vs40 : iI s40 86 = ((iI s32 86) + 1) := eqI hs40 (iI_u ⟨by first | exact oq_74de1e16 b39.1 | omega, by first | exact oq_3762dfb5 b39.2 | omega⟩)
                have ws40_77 : iI s40 77 = iI s32 77 := eqI hs40 rfl
                have ws40_75 : iI s40 75 = iI s32 75 := eqI hs40 rfl
                have ws40_79 : iI s40 79 = iI s32 79 := eqI hs40 rfl
                have ws40_78 : iI s40 78 = iI s32 78 := eqI hs40 rfl
                have ws40_87 : iI s40 87 = iI s32 87 := eqI hs40 rfl
                have ws40_88 : iI s40 88 = iI s32 88 := eqI hs40 rfl
                have aws40_160 : SAM 160 s s40 := by rw [hs40]; exact aws32_160
                have fs40 : Fm [86] [] s32 s40 := by rw [hs40]; exact fm_I (fm_rf _ _ _) (show 86 ∈ _ by decide)
                have JFDB_s40 : FDB B N s40 := FDB_fm fs40 (by decide) JFDB_s32
                exact w_vret X.1 q hRt (ax_d X (show cdA 213 170 = some (.return_, 1, 0, 0, 0) from rfl)) (Nat.zero_le _) (Nat.zero_le _) ⟨_, rfl, Is40, Fs40, JFDB_s40, rfl, ⟨by first | exact oq_4c505d4e ws40_78 b36.1 hps32.1 ws31_78 ws26_78 ws8_78 p1 | omega, by first | exact oq_da110da9 ws40_77 hps8.2.2.1 hps32.2.1 ws31_77 hps26.2.1 | omega, by first | (clear g38 hps32 g29 hps26 g23 g21 he20 he15 hps8; omega) | (clear hps32 g29 hps26 g23 g21 he20 he15 hps8; omega) | omega, by first | exact oq_971796bb ws40_79 g38 b37.1 | omega, by first | exact oq_073a94d0 ws40_87 vs40 ws32_87 ws32_86 ws31_87 ws31_86 ws26_87 ws26_86 ws8_87 ws8_86 p3 | omega, by first | exact oq_314a3869 ws40_79 g38 b37.1 | omega, cln_of (c := s40) rfl (by exact Or.inl ⟨by first | (clear g38 hps32 g29 hps26 g23 g21 he20 he15 hps8; omega) | (clear hps32 g29 hps26 g23 g21 he20 he15 hps8; omega) | omega, rfl⟩) (by first | (clear g38 hps32 g29 hps26 g23 g21 he20 he15 hps8; omega) | (clear hps32 g29 hps26 g23 g21 he20 he15 hps8; omega) | omega) hou (Or.inl ⟨by first | (clear g38 hps32 g29 hps26 g23 g21 he20 he15 hps8; omega) | (clear hps32 g29 hps26 g23 g21 he20 he15 hps8; omega) | omega, by first | (clear g38 hps32 g29 hps26 g23 g21 he20 he15 hps8; omega) | (clear hps32 g29 hps26 g23 g21 he20 he15 hps8; omega) | omega⟩) (Or.inl ⟨rfl, by first | (clear g38 hps32 g29 hps26 g23 g21 he20 he15 hps8; omega) | (clear hps32 g29 hps26 g23 g21 he20 he15 hps8; omega) | omega⟩), Or.inl (by first | exact oq_28ed0af1 ws40_79 g38 b37.1 | omega)⟩⟩
              ·
                refine z_aload_n X (x := A 179) rfl (List.Mem.tail _ (List.Mem.tail _ (List.Mem.tail _ (List.Mem.head _)))) (z_bipush X rfl (zcV_v1 X E 179 (As := [.int (Int32.ofInt 59)]) (st := []) rfl rfl rfl rfl (k_sign3 G Is32 JFDB_s32 (by first | exact ⟨by decide, by decide⟩ | omega) (by first | exact oq_33e15320 g38 hps32.2.2.2.2.1 ws31_75 ws26_75 ws8_75 b2.2 | omega)) rfl (Nat.le_of_ble_eq_true rfl) (fun s41 Is41 Fs41 JFDB_s41 hps41 => ?_)))
                have hps41p := And.intro hps41.1 (hps41.2.1)
                have Gs41 := fm_tq Gs32 Fs41 rfl rfl
                have JFDB_s41 : FDB B N s41 := FDB_fm Fs41 (by decide) JFDB_s32
                have b43 := bi_77 Is41
                have ws41_75 : iI s41 75 = iI s32 75 := fm_iq Fs41 rfl
                have b44 := bi_79 Is41
                have ws41_78 : iI s41 78 = iI s32 78 := fm_iq Fs41 rfl
                have ws41_86 : iI s41 86 = iI s32 86 := fm_iq Fs41 rfl
                have ws41_87 : iI s41 87 = iI s32 87 := fm_iq Fs41 rfl
                have ws41_88 : iI s41 88 = iI s32 88 := fm_iq Fs41 rfl
                have aws41_160 : SAM 160 s s41 := sam_ts aws32_160 (sam_fm Fs41 (by decide))
                have hsg : iI s41 79 = 0 → iI s41 77 ≤ N := fun h => sg_le hps41.1 h
                refine z_aload_n X (x := A 179) rfl (List.Mem.tail _ (List.Mem.tail _ (List.Mem.tail _ (List.Mem.head _)))) (w_dup X.1 (ax_d X (show cdA 213 161 = some (.dup, 1, 0, 0, 0) from rfl)) rfl (z_getI X 179 rfl (c518_ok rfl) rfl rfl ?_))
                have b45 := bi_86 Is41
                refine z_const X rfl (z_add X rfl (s_putI X 179 rfl (c518_ok rfl) rfl rfl (by decide) rfl rfl rfl (wd_gen (fun s46 hs46 => ?_))))
                have Is46 : Bd s46 := eqB hs46 (bd_I Is41 (show (0 : Int) ≤ ((iI s41 86) + 1) ∧ ((iI s41 86) + 1) ≤ 8 by first | exact ⟨oq_54f49eb5 b45.1, oq_36461835 ws41_86 ws32_86 ws31_86 ws26_86 g23 b22.2⟩ | omega) ⟨by first | exact oq_74de1e16 b45.1 | omega, by first | exact oq_3762dfb5 b45.2 | omega⟩)
                have Fs46 := eqF hs46 (fm_I Gs41 (inl_ok (a := 86) rfl))
                have vs46 : iI s46 86 = ((iI s41 86) + 1) := eqI hs46 (iI_u ⟨by first | exact oq_74de1e16 b45.1 | omega, by first | exact oq_3762dfb5 b45.2 | omega⟩)
                have ws46_77 : iI s46 77 = iI s41 77 := eqI hs46 rfl
                have ws46_75 : iI s46 75 = iI s41 75 := eqI hs46 rfl
                have ws46_79 : iI s46 79 = iI s41 79 := eqI hs46 rfl
                have ws46_78 : iI s46 78 = iI s41 78 := eqI hs46 rfl
                have ws46_87 : iI s46 87 = iI s41 87 := eqI hs46 rfl
                have ws46_88 : iI s46 88 = iI s41 88 := eqI hs46 rfl
                have aws46_160 : SAM 160 s s46 := by rw [hs46]; exact aws41_160
                have fs46 : Fm [86] [] s41 s46 := by rw [hs46]; exact fm_I (fm_rf _ _ _) (show 86 ∈ _ by decide)
                have JFDB_s46 : FDB B N s46 := FDB_fm fs46 (by decide) JFDB_s41
                exact w_vret X.1 q hRt (ax_d X (show cdA 213 170 = some (.return_, 1, 0, 0, 0) from rfl)) (Nat.zero_le _) (Nat.zero_le _) ⟨_, rfl, Is46, Fs46, JFDB_s46, rfl, ⟨by first | exact oq_9f8cc8f6 ws46_78 ws41_78 b36.1 hps32.1 ws31_78 ws26_78 ws8_78 p1 | omega, by first | exact oq_cf7a6331 ws46_77 hps41.2.1 hps32.2.1 ws31_77 hps26.2.1 hps8.2.2.1 | omega, by first | (clear hps41 hps32 g29 hps26 g23 g21 he20 he15 hps8; omega) | (clear hps32 g29 hps26 g23 g21 he20 he15 hps8; omega) | omega, by first | (clear hps41 hps32 g29 hps26 g23 g21 he20 he15 hps8; omega) | (clear hps32 g29 hps26 g23 g21 he20 he15 hps8; omega) | omega, by first | exact oq_7abd3e11 ws46_87 vs46 ws41_87 ws41_86 ws32_87 ws32_86 ws31_87 ws31_86 ws26_87 ws26_86 ws8_87 ws8_86 p3 | omega, by first | exact oq_0a3a365b vs46 ws41_86 ws32_86 ws31_86 ws26_86 ws8_86 | omega, cln_of (c := s41) rfl (by exact Or.inl ⟨by first | (clear hps41 hps32 g29 hps26 g23 g21 he20 he15 hps8; omega) | (clear hps32 g29 hps26 g23 g21 he20 he15 hps8; omega) | omega, rfl⟩) (by first | (clear hps41 hps32 g29 hps26 g23 g21 he20 he15 hps8; omega) | (clear hps32 g29 hps26 g23 g21 he20 he15 hps8; omega) | omega) hou (Or.inr ⟨by first | (clear hps41 hps32 g29 hps26 g23 g21 he20 he15 hps8; omega) | (clear hps32 g29 hps26 g23 g21 he20 he15 hps8; omega) | omega, hps41.1, by first | (clear hps41 hps32 g29 hps26 g23 g21 he20 he15 hps8; omega) | (clear hps32 g29 hps26 g23 g21 he20 he15 hps8; omega) | omega, by first | (clear hps41 hps32 g29 hps26 g23 g21 he20 he15 hps8; omega) | (clear hps32 g29 hps26 g23 g21 he20 he15 hps8; omega) | omega⟩) (Or.inl ⟨rfl, by first | (clear hps41 hps32 g29 hps26 g23 g21 he20 he15 hps8; omega) | (clear hps32 g29 hps26 g23 g21 he20 he15 hps8; omega) | omega⟩), Or.inr (Or.inl ⟨by first | (clear hps41 hps32 g29 hps26 g23 g21 he20 he15 hps8; omega) | (clear hps32 g29 hps26 g23 g21 he20 he15 hps8; omega) | omega, by first | (clear hps41 hps32 g29 hps26 g23 g21 he20 he15 hps8; omega) | (clear hps32 g29 hps26 g23 g21 he20 he15 hps8; omega) | omega, aws46_160⟩)⟩⟩
          ·
            exfalso
            omega
        ·
          refine z_aload_n X (x := A 179) rfl (List.Mem.tail _ (List.Mem.tail _ (List.Mem.tail _ (List.Mem.head _)))) (z_const X rfl (z_aload_n X (x := A 179) rfl (List.Mem.tail _ (List.Mem.tail _ (List.Mem.tail _ (List.Mem.head _)))) (z_getI X 179 rfl (c518_ok rfl) rfl rfl ?_)))
          have b47 := bi_77 Is8
          refine zcV_v0 X E 179 (As := [.int (Int32.ofInt 3), .int (Int32.ofInt (iI s8 77))]) (st := []) rfl rfl rfl rfl (k_wrong3 G Is8 (by first | exact ⟨by decide, by decide⟩ | omega) (by first | exact ⟨oq_ca54ea22 b47.1, b47.2⟩ | omega)) rfl (Nat.le_of_ble_eq_true rfl) (fun s48 Is48 Fs48 hps48 => ?_)
          have Gs48 := fm_tq Gs8 Fs48 rfl rfl
          have JFDB_s48 : FDB B N s48 := FDB_fm Fs48 (by decide) JFDB_s8
          have ws48_77 : iI s48 77 = iI s8 77 := fm_iq Fs48 rfl
          have ws48_75 : iI s48 75 = iI s8 75 := fm_iq Fs48 rfl
          have b50 := bi_79 Is48
          have ws48_78 : iI s48 78 = iI s8 78 := fm_iq Fs48 rfl
          have ws48_86 : iI s48 86 = iI s8 86 := fm_iq Fs48 rfl
          have ws48_87 : iI s48 87 = iI s8 87 := fm_iq Fs48 rfl
          have ws48_88 : iI s48 88 = iI s8 88 := fm_iq Fs48 rfl
          have aws48_160 : SAM 160 s s48 := sam_ts aws8_160 (sam_fm Fs48 (by decide))
          refine z_aload_n X (x := A 179) rfl (List.Mem.tail _ (List.Mem.tail _ (List.Mem.tail _ (List.Mem.head _)))) (z_getI X 179 rfl (c518_ok rfl) rfl rfl ?_)
          have b51 := bi_79 Is48
          refine z_if_eq X (t := 95) rfl rfl (rng_to _) (fun g52 => ?_) (fun g52 => ?_)
          ·
            exfalso
            omega
          ·
            exact w_vret X.1 q hRt (ax_d X (show cdA 213 94 = some (.return_, 1, 0, 0, 0) from rfl)) (Nat.zero_le _) (Nat.zero_le _) ⟨_, rfl, Is48, Gs48, JFDB_s48, rfl, ⟨by first | exact oq_7fe879e0 ws48_78 ws8_78 p1 b4.1 | omega, by first | exact oq_9272904e ws48_77 hps8.2.2.1 | omega, by first | (clear g52 hps48 g21 he20 he15 hps8; omega) | (clear hps48 g21 he20 he15 hps8; omega) | omega, by first | exact oq_f7664523 g52 b51.1 | omega, by first | exact oq_ea1d993c ws48_86 ws48_87 ws8_87 b6.2 g23 | omega, by first | exact oq_2dbfa935 g52 b51.1 | omega, cln_no (clm_3 (by first | (clear g52 hps48 g21 he20 he15 hps8; omega) | (clear hps48 g21 he20 he15 hps8; omega) | omega) (by first | (clear g52 hps48 g21 he20 he15 hps8; omega) | (clear hps48 g21 he20 he15 hps8; omega) | omega) (by first | (clear g52 hps48 g21 he20 he15 hps8; omega) | (clear hps48 g21 he20 he15 hps8; omega) | omega)) (by first | (clear g52 hps48 g21 he20 he15 hps8; omega) | (clear hps48 g21 he20 he15 hps8; omega) | omega), Or.inl (by first | exact g52 | omega)⟩⟩
      ·
        refine z_load_n X (x := e20) rfl (List.Mem.head _) (z_if_ne X (t := 69) rfl rfl ⟨by first | exact oq_fa4e5087 re20.1 | omega, by first | exact oq_22e1e6b0 re20.2 | omega⟩ (fun g53 => ?_) (fun g53 => ?_))
        ·
          refine z_aload_n X (x := A 179) rfl (List.Mem.tail _ (List.Mem.tail _ (List.Mem.tail _ (List.Mem.head _)))) (z_getI X 179 rfl (c518_ok rfl) rfl rfl ?_)
          have b54 := bi_86 Is8
          refine z_bipush X rfl (z_icmp_ne X (t := 87) rfl rfl (rng_to _) (by decide) (fun g55 => ?_) (fun g55 => ?_))
          ·
            refine z_aload_n X (x := A 179) rfl (List.Mem.tail _ (List.Mem.tail _ (List.Mem.tail _ (List.Mem.head _)))) (z_getI X 179 rfl (c518_ok rfl) rfl rfl ?_)
            have b56 := bi_79 Is8
            refine z_if_eq X (t := 95) rfl rfl (rng_to _) (fun g57 => ?_) (fun g57 => ?_)
            ·
              refine z_aload_n X (x := A 179) rfl (List.Mem.tail _ (List.Mem.tail _ (List.Mem.tail _ (List.Mem.head _)))) (zcV_v1 X E 179 (As := []) (st := []) rfl rfl rfl rfl (k_skipWord3 G Is8 JFDB_s8 (by first | (clear g55 g53 he20 he15 hps8; omega) | (clear g53 he20 he15 hps8; omega) | omega)) rfl (Nat.le_of_ble_eq_true rfl) (fun s58 Is58 Fs58 JFDB_s58 hps58 => ?_))
              have hps58p := And.intro hps58.1 (hps58.2.1)
              have Gs58 := fm_tq Gs8 Fs58 rfl rfl
              have JFDB_s58 : FDB B N s58 := FDB_fm Fs58 (by decide) JFDB_s8
              have b60 := bi_77 Is58
              have ws58_75 : iI s58 75 = iI s8 75 := fm_iq Fs58 rfl
              have ws58_79 : iI s58 79 = iI s8 79 := fm_iq Fs58 rfl
              have ws58_78 : iI s58 78 = iI s8 78 := fm_iq Fs58 rfl
              have ws58_86 : iI s58 86 = iI s8 86 := fm_iq Fs58 rfl
              have ws58_87 : iI s58 87 = iI s8 87 := fm_iq Fs58 rfl
              have ws58_88 : iI s58 88 = iI s8 88 := fm_iq Fs58 rfl
              have aws58_160 : SAM 160 s s58 := sam_ts aws8_160 (sam_fm Fs58 (by decide))
              have hsw : iI s58 77 = wdE B N (sk B N (iI s 77)) := by rw [hps58.1, show iI s8 77 = (sk B N (iI s 77)) by first | (clear hps58 g55 g53 he20 he15 hps8; omega) | (clear g55 g53 he20 he15 hps8; omega) | omega]
              have hwz := wh_let (show whV B N (sk B N (iI s 77)) ≠ 0 by first | (clear hps58 g55 g53 he20 he15 hps8; omega) | (clear g55 g53 he20 he15 hps8; omega) | omega)
              have hwg := wd_gt hwz.1 hwz.2.1 hwz.2.2
              refine z_load_n X (x := e15) rfl (List.Mem.tail _ (List.Mem.head _)) (z_if_eq X (t := 119) rfl rfl ⟨by first | exact oq_6ab4c69f g21 | omega, by first | exact oq_3b8a080c g21 | omega⟩ (fun g61 => ?_) (fun g61 => ?_))
              ·
                refine z_aload_n X (x := A 179) rfl (List.Mem.tail _ (List.Mem.tail _ (List.Mem.tail _ (List.Mem.head _)))) (s_getR X 179 rfl (c518_ok rfl) rfl rfl (z_aload_n X (x := A 179) rfl (List.Mem.tail _ (List.Mem.tail _ (List.Mem.tail _ (List.Mem.head _)))) (z_getI X 179 rfl (c518_ok rfl) rfl rfl ?_)))
                have b62 := bi_87 Is58
                refine z_aload_n X (x := A 179) rfl (List.Mem.tail _ (List.Mem.tail _ (List.Mem.tail _ (List.Mem.head _)))) (z_getI X 179 rfl (c518_ok rfl) rfl rfl ?_)
                have b63 := bi_77 Is58
                refine z_ast X 183 rfl (c518_ok rfl) rfl (by first | exact b62.1 | omega) (show (iI s58 87) < 8 by first | exact oq_7adb7498 ws58_87 g55 b54.2 ws8_87 ws8_86 p3 | omega) (cbig_ok rfl) (wd_gen (fun s64 hs64 => ?_))
                have Is64 : Bd s64 := eqB hs64 (bd_C Is58 (show (0 : Int) ≤ (iI s58 77) ∧ (iI s58 77) ≤ 200 by first | exact ⟨b63.1, by first | (clear hps58 g55 g53 he20 he15 hps8; omega) | (clear g55 g53 he20 he15 hps8; omega) | omega⟩ | omega) (rng_to _))
                have Fs64 := eqF hs64 (fm_C Gs58 (inl_ok (a := 160) rfl))
                have ws64_77 : iI s64 77 = iI s58 77 := eqI hs64 rfl
                have ws64_75 : iI s64 75 = iI s58 75 := eqI hs64 rfl
                have ws64_79 : iI s64 79 = iI s58 79 := eqI hs64 rfl
                have ws64_78 : iI s64 78 = iI s58 78 := eqI hs64 rfl
                have ws64_86 : iI s64 86 = iI s58 86 := eqI hs64 rfl
                have ws64_87 : iI s64 87 = iI s58 87 := eqI hs64 rfl
                have ws64_88 : iI s64 88 = iI s58 88 := eqI hs64 rfl
                have aws64_160 : UPD 160 ((iI s58 87)) (iI s58 77) s s64 := by rw [hs64]; exact upd_put aws58_160 (rng_to _)
                have fs64 : Fm [] [160] s58 s64 := by rw [hs64]; exact fm_C (fm_rf _ _ _) (show 160 ∈ _ by decide)
                have JFDB_s64 : FDB B N s64 := FDB_fm fs64 (by decide) JFDB_s58
                refine z_aload_n X (x := A 179) rfl (List.Mem.tail _ (List.Mem.tail _ (List.Mem.tail _ (List.Mem.head _)))) (w_dup X.1 (ax_d X (show cdA 213 133 = some (.dup, 1, 0, 0, 0) from rfl)) rfl (z_getI X 179 rfl (c518_ok rfl) rfl rfl ?_))
                have b65 := bi_87 Is64
                refine z_const X rfl (z_add X rfl (s_putI X 179 rfl (c518_ok rfl) rfl rfl (by decide) rfl rfl rfl (wd_gen (fun s66 hs66 => ?_))))
                have Is66 : Bd s66 := eqB hs66 (bd_I Is64 (show (0 : Int) ≤ ((iI s64 87) + 1) ∧ ((iI s64 87) + 1) ≤ 8 by first | exact ⟨oq_54f49eb5 b65.1, oq_404f837d ws64_87 ws58_87 g55 b54.2 ws8_87 ws8_86 p3⟩ | omega) ⟨by first | exact oq_74de1e16 b65.1 | omega, by first | exact oq_3762dfb5 b65.2 | omega⟩)
                have Fs66 := eqF hs66 (fm_I Fs64 (inl_ok (a := 87) rfl))
                have vs66 : iI s66 87 = ((iI s64 87) + 1) := eqI hs66 (iI_u ⟨by first | exact oq_74de1e16 b65.1 | omega, by first | exact oq_3762dfb5 b65.2 | omega⟩)
                have ws66_77 : iI s66 77 = iI s64 77 := eqI hs66 rfl
                have ws66_75 : iI s66 75 = iI s64 75 := eqI hs66 rfl
                have ws66_79 : iI s66 79 = iI s64 79 := eqI hs66 rfl
                have ws66_78 : iI s66 78 = iI s64 78 := eqI hs66 rfl
                have ws66_86 : iI s66 86 = iI s64 86 := eqI hs66 rfl
                have ws66_88 : iI s66 88 = iI s64 88 := eqI hs66 rfl
                have aws66_160 : UPD 160 ((iI s58 87)) (iI s58 77) s s66 := by rw [hs66]; exact aws64_160
                have fs66 : Fm [87] [] s64 s66 := by rw [hs66]; exact fm_I (fm_rf _ _ _) (show 87 ∈ _ by decide)
                have JFDB_s66 : FDB B N s66 := FDB_fm fs66 (by decide) JFDB_s64
                refine z_aload_n X (x := A 179) rfl (List.Mem.tail _ (List.Mem.tail _ (List.Mem.tail _ (List.Mem.head _)))) (z_callV X 179 (rm := (rkR (24 + 3 * (7) + 2))) (As := []) (st := []) rfl rfl (by decide) rfl (by rw [E.1, E.2.1, E.2.2.1]; exact (k_orsr3 G (B := B) (N := N) 7).2.2 Is66 JFDB_s66 (by first | (clear hps58 g55 g53 he20 he15 hps8; omega) | (clear g55 g53 he20 he15 hps8; omega) | omega) (by first | exact oq_44f88855 ws66_78 ws64_78 ws58_78 ws8_78 p1 b4.1 | omega) (by first | exact oq_d6c38034 ws66_78 ws64_78 ws58_78 ws8_78 p1 | omega) (by first | (clear hps58 g55 g53 he20 he15 hps8; omega) | (clear g55 g53 he20 he15 hps8; omega) | omega)) ⟨by rw [E.2.2.2]; exact (show (12 + (24 + 3 * (7) + 2)) + 1 ≤ 60 from oq_747fe883), by rw [E.2.2.2]; exact (show 8 + (3 + 11) + (500 + 45 * (24 + 3 * (7) + 2)) ≤ 2637 from oq_0300f435), by rw [E.2.2.2]; exact Nat.le_refl 0, by rw [E.2.2.2]; exact Nat.le_refl 0⟩ (Nat.le_of_ble_eq_true rfl) (fun vv s67 hq => ?_) (fun ee s67 hq => ?_))
                rotate_left
                · obtain ⟨Is67, Fs67, JFDB_s67, e68, hv, hrs67, hps67⟩ := hq; cases hv
                obtain ⟨Is67, Fs67, JFDB_s67, e68, hv, hrs67, hps67⟩ := hq
                cases hv
                have Gs67 := fm_tq Fs66 Fs67 rfl rfl
                have JFDB_s67 : FDB B N s67 := FDB_fm Fs67 (by decide) JFDB_s66
                have b69 := bi_77 Is67
                have ws67_75 : iI s67 75 = iI s66 75 := fm_iq Fs67 rfl
                have b70 := bi_79 Is67
                have b71 := bi_78 Is67
                have ws67_86 : iI s67 86 = iI s66 86 := fm_iq Fs67 rfl
                have ws67_87 : iI s67 87 = iI s66 87 := fm_iq Fs67 rfl
                have ws67_88 : iI s67 88 = iI s66 88 := fm_iq Fs67 rfl
                have aws67_160 : UPD 160 ((iI s58 87)) (iI s58 77) s s67 := upd_ts aws66_160 (sam_fm Fs67 (by decide))
                show WS k 146 [(3, .int (Int32.ofInt e20)), (2, .int (Int32.ofInt e15)), (1, .int (Int32.ofInt e9)), (0, .ref (A 179))] [.int (Int32.ofInt e68)] (Wd A dT s67) 0 0
                have hou : OUm B N 8 (sk B N (wdE B N (sk B N (iI s 77)))) 0 s67 := by have h := pf_ou hps67.2.2.2.2.2.2.2 (by first | (clear hps67 hps58 g55 g53 he20 he15 hps8; omega) | (clear hps58 g55 g53 he20 he15 hps8; omega) | omega); rw [show iI s66 77 = wdE B N (sk B N (iI s 77)) by first | (clear hps67 hps58 g55 g53 he20 he15 hps8; omega) | (clear hps58 g55 g53 he20 he15 hps8; omega) | omega, show iI s66 78 = 0 by first | (clear hps67 hps58 g55 g53 he20 he15 hps8; omega) | (clear hps58 g55 g53 he20 he15 hps8; omega) | omega] at h; exact h
                refine w_pop X.1 (ax_d X (show cdA 213 146 = some (.pop, 1, 0, 0, 0) from rfl)) rfl (z_aload_n X (x := A 179) rfl (List.Mem.tail _ (List.Mem.tail _ (List.Mem.tail _ (List.Mem.head _)))) (z_getI X 179 rfl (c518_ok rfl) rfl rfl ?_))
                have b72 := bi_79 Is67
                refine z_if_ne X (t := 160) rfl rfl (rng_to _) (fun g73 => ?_) (fun g73 => ?_)
                ·
                  refine z_aload_n X (x := A 179) rfl (List.Mem.tail _ (List.Mem.tail _ (List.Mem.tail _ (List.Mem.head _)))) (w_dup X.1 (ax_d X (show cdA 213 161 = some (.dup, 1, 0, 0, 0) from rfl)) rfl (z_getI X 179 rfl (c518_ok rfl) rfl rfl ?_))
                  have b74 := bi_86 Is67
                  refine z_const X rfl (z_add X rfl (s_putI X 179 rfl (c518_ok rfl) rfl rfl (by decide) rfl rfl rfl (wd_gen (fun s75 hs75 => ?_))))
                  have Is75 : Bd s75 := eqB hs75 (bd_I Is67 (show (0 : Int) ≤ ((iI s67 86) + 1) ∧ ((iI s67 86) + 1) ≤ 8 by first | exact ⟨oq_54f49eb5 b74.1, oq_36461835 ws67_86 ws66_86 ws64_86 ws58_86 g55 b54.2⟩ | omega) ⟨by first | exact oq_74de1e16 b74.1 | omega, by first | exact oq_3762dfb5 b74.2 | omega⟩)
                  have Fs75 := eqF hs75 (fm_I Gs67 (inl_ok (a := 86) rfl))
                  have vs75 : iI s75 86 = ((iI s67 86) + 1) := eqI hs75 (iI_u ⟨by first | exact oq_74de1e16 b74.1 | omega, by first | exact oq_3762dfb5 b74.2 | omega⟩)
                  have ws75_77 : iI s75 77 = iI s67 77 := eqI hs75 rfl
                  have ws75_75 : iI s75 75 = iI s67 75 := eqI hs75 rfl
                  have ws75_79 : iI s75 79 = iI s67 79 := eqI hs75 rfl
                  have ws75_78 : iI s75 78 = iI s67 78 := eqI hs75 rfl
                  have ws75_87 : iI s75 87 = iI s67 87 := eqI hs75 rfl
                  have ws75_88 : iI s75 88 = iI s67 88 := eqI hs75 rfl
                  have aws75_160 : UPD 160 ((iI s58 87)) (iI s58 77) s s75 := by rw [hs75]; exact aws67_160
                  have fs75 : Fm [86] [] s67 s75 := by rw [hs75]; exact fm_I (fm_rf _ _ _) (show 86 ∈ _ by decide)
                  have JFDB_s75 : FDB B N s75 := FDB_fm fs75 (by decide) JFDB_s67
                  exact w_vret X.1 q hRt (ax_d X (show cdA 213 170 = some (.return_, 1, 0, 0, 0) from rfl)) (Nat.zero_le _) (Nat.zero_le _) ⟨_, rfl, Is75, Fs75, JFDB_s75, rfl, ⟨by first | exact oq_e6068ff7 ws75_78 b71.1 hps67.1 ws66_78 ws64_78 ws58_78 ws8_78 p1 | omega, by first | exact oq_1e809b18 ws75_77 hps67.2.1 ws66_77 ws64_77 hps58.2.1 hps8.2.2.1 | omega, by first | exact oq_b7b8f116 ws75_77 hps67.2.2.2.2.2.1 hps67.2.2.1 ws66_79 ws64_79 ws58_79 g57 | omega, by first | exact oq_971796bb ws75_79 g73 b72.1 | omega, by first | exact oq_ce3e081a ws75_87 vs75 ws67_87 ws67_86 ws66_86 vs66 ws64_87 ws64_86 ws58_87 ws58_86 ws8_87 ws8_86 p3 | omega, by first | exact oq_314a3869 ws75_79 g73 b72.1 | omega, cln_of (c := s75) rfl (by exact Or.inr ⟨by first | (clear g73 hps67 hps58 g55 g53 he20 he15 hps8; omega) | (clear hps67 hps58 g55 g53 he20 he15 hps8; omega) | omega, rfl⟩) (by first | (clear g73 hps67 hps58 g55 g53 he20 he15 hps8; omega) | (clear hps67 hps58 g55 g53 he20 he15 hps8; omega) | omega) hou (Or.inl ⟨by first | (clear g73 hps67 hps58 g55 g53 he20 he15 hps8; omega) | (clear hps67 hps58 g55 g53 he20 he15 hps8; omega) | omega, by first | (clear g73 hps67 hps58 g55 g53 he20 he15 hps8; omega) | (clear hps67 hps58 g55 g53 he20 he15 hps8; omega) | omega⟩) (Or.inr ⟨by decide, by first | (clear g73 hps67 hps58 g55 g53 he20 he15 hps8; omega) | (clear hps67 hps58 g55 g53 he20 he15 hps8; omega) | omega⟩), Or.inl (by first | exact oq_28ed0af1 ws75_79 g73 b72.1 | omega)⟩⟩
                ·
                  refine z_aload_n X (x := A 179) rfl (List.Mem.tail _ (List.Mem.tail _ (List.Mem.tail _ (List.Mem.head _)))) (z_bipush X rfl (zcV_v1 X E 179 (As := [.int (Int32.ofInt 59)]) (st := []) rfl rfl rfl rfl (k_sign3 G Is67 JFDB_s67 (by first | exact ⟨by decide, by decide⟩ | omega) (by first | exact oq_bb33e387 hps67.2.2.2.2.2.1 hps67.2.2.1 ws66_79 ws64_79 ws58_79 g57 | omega)) rfl (Nat.le_of_ble_eq_true rfl) (fun s76 Is76 Fs76 JFDB_s76 hps76 => ?_)))
                  have hps76p := And.intro hps76.1 (hps76.2.1)
                  have Gs76 := fm_tq Gs67 Fs76 rfl rfl
                  have JFDB_s76 : FDB B N s76 := FDB_fm Fs76 (by decide) JFDB_s67
                  have b78 := bi_77 Is76
                  have ws76_75 : iI s76 75 = iI s67 75 := fm_iq Fs76 rfl
                  have b79 := bi_79 Is76
                  have ws76_78 : iI s76 78 = iI s67 78 := fm_iq Fs76 rfl
                  have ws76_86 : iI s76 86 = iI s67 86 := fm_iq Fs76 rfl
                  have ws76_87 : iI s76 87 = iI s67 87 := fm_iq Fs76 rfl
                  have ws76_88 : iI s76 88 = iI s67 88 := fm_iq Fs76 rfl
                  have aws76_160 : UPD 160 ((iI s58 87)) (iI s58 77) s s76 := upd_ts aws67_160 (sam_fm Fs76 (by decide))
                  have hsg : iI s76 79 = 0 → iI s76 77 ≤ N := fun h => sg_le hps76.1 h
                  refine z_aload_n X (x := A 179) rfl (List.Mem.tail _ (List.Mem.tail _ (List.Mem.tail _ (List.Mem.head _)))) (w_dup X.1 (ax_d X (show cdA 213 161 = some (.dup, 1, 0, 0, 0) from rfl)) rfl (z_getI X 179 rfl (c518_ok rfl) rfl rfl ?_))
                  have b80 := bi_86 Is76
                  refine z_const X rfl (z_add X rfl (s_putI X 179 rfl (c518_ok rfl) rfl rfl (by decide) rfl rfl rfl (wd_gen (fun s81 hs81 => ?_))))
                  have Is81 : Bd s81 := eqB hs81 (bd_I Is76 (show (0 : Int) ≤ ((iI s76 86) + 1) ∧ ((iI s76 86) + 1) ≤ 8 by first | exact ⟨oq_54f49eb5 b80.1, oq_56cdf1d3 ws76_86 ws67_86 ws66_86 ws64_86 ws58_86 g55 b54.2⟩ | omega) ⟨by first | exact oq_74de1e16 b80.1 | omega, by first | exact oq_3762dfb5 b80.2 | omega⟩)
                  have Fs81 := eqF hs81 (fm_I Gs76 (inl_ok (a := 86) rfl))
                  have vs81 : iI s81 86 = ((iI s76 86) + 1) := eqI hs81 (iI_u ⟨by first | exact oq_74de1e16 b80.1 | omega, by first | exact oq_3762dfb5 b80.2 | omega⟩)
                  have ws81_77 : iI s81 77 = iI s76 77 := eqI hs81 rfl
                  have ws81_75 : iI s81 75 = iI s76 75 := eqI hs81 rfl
                  have ws81_79 : iI s81 79 = iI s76 79 := eqI hs81 rfl
                  have ws81_78 : iI s81 78 = iI s76 78 := eqI hs81 rfl
                  have ws81_87 : iI s81 87 = iI s76 87 := eqI hs81 rfl
                  have ws81_88 : iI s81 88 = iI s76 88 := eqI hs81 rfl
                  have aws81_160 : UPD 160 ((iI s58 87)) (iI s58 77) s s81 := by rw [hs81]; exact aws76_160
                  have fs81 : Fm [86] [] s76 s81 := by rw [hs81]; exact fm_I (fm_rf _ _ _) (show 86 ∈ _ by decide)
                  have JFDB_s81 : FDB B N s81 := FDB_fm fs81 (by decide) JFDB_s76
                  exact w_vret X.1 q hRt (ax_d X (show cdA 213 170 = some (.return_, 1, 0, 0, 0) from rfl)) (Nat.zero_le _) (Nat.zero_le _) ⟨_, rfl, Is81, Fs81, JFDB_s81, rfl, ⟨by first | exact oq_6da97644 ws81_78 ws76_78 b71.1 hps67.1 ws66_78 ws64_78 ws58_78 ws8_78 p1 | omega, by first | exact oq_a86b6adc ws81_77 hps76.2.1 hps67.2.1 ws66_77 ws64_77 hps58.2.1 hps8.2.2.1 | omega, by first | (clear hps76 hps67 hps58 g55 g53 he20 he15 hps8; omega) | (clear hps67 hps58 g55 g53 he20 he15 hps8; omega) | omega, by first | (clear hps76 hps67 hps58 g55 g53 he20 he15 hps8; omega) | (clear hps67 hps58 g55 g53 he20 he15 hps8; omega) | omega, by first | exact oq_42ada30f ws81_87 vs81 ws76_87 ws76_86 ws67_87 ws67_86 ws66_86 vs66 ws64_87 ws64_86 ws58_87 ws58_86 ws8_87 ws8_86 p3 | omega, by first | exact oq_28d8858a vs81 ws76_86 ws67_86 ws66_86 ws64_86 ws58_86 ws8_86 | omega, cln_of (c := s76) rfl (by exact Or.inr ⟨by first | (clear hps76 hps67 hps58 g55 g53 he20 he15 hps8; omega) | (clear hps67 hps58 g55 g53 he20 he15 hps8; omega) | omega, rfl⟩) (by first | (clear hps76 hps67 hps58 g55 g53 he20 he15 hps8; omega) | (clear hps67 hps58 g55 g53 he20 he15 hps8; omega) | omega) hou (Or.inr ⟨by first | (clear hps76 hps67 hps58 g55 g53 he20 he15 hps8; omega) | (clear hps67 hps58 g55 g53 he20 he15 hps8; omega) | omega, hps76.1, by first | (clear hps76 hps67 hps58 g55 g53 he20 he15 hps8; omega) | (clear hps67 hps58 g55 g53 he20 he15 hps8; omega) | omega, by first | (clear hps76 hps67 hps58 g55 g53 he20 he15 hps8; omega) | (clear hps67 hps58 g55 g53 he20 he15 hps8; omega) | omega⟩) (Or.inr ⟨by decide, by first | (clear hps76 hps67 hps58 g55 g53 he20 he15 hps8; omega) | (clear hps67 hps58 g55 g53 he20 he15 hps8; omega) | omega⟩), Or.inr (Or.inr ⟨by first | (clear hps76 hps67 hps58 g55 g53 he20 he15 hps8; omega) | (clear hps67 hps58 g55 g53 he20 he15 hps8; omega) | omega, by first | (clear hps76 hps67 hps58 g55 g53 he20 he15 hps8; omega) | (clear hps67 hps58 g55 g53 he20 he15 hps8; omega) | omega, by have z := aws81_160; rw [show ((iI s58 87)) = iI s 87 by first | (clear hps76 hps67 hps58 g55 g53 he20 he15 hps8; omega) | (clear hps67 hps58 g55 g53 he20 he15 hps8; omega) | omega, show (iI s58 77) = wdE B N (sk B N (iI s 77)) by first | (clear hps76 hps67 hps58 g55 g53 he20 he15 hps8; omega) | (clear hps67 hps58 g55 g53 he20 he15 hps8; omega) | omega] at z; exact z⟩)⟩⟩
              ·
                exfalso
                omega
            ·
              exfalso
              omega
          ·
            refine z_aload_n X (x := A 179) rfl (List.Mem.tail _ (List.Mem.tail _ (List.Mem.tail _ (List.Mem.head _)))) (z_const X rfl (z_aload_n X (x := A 179) rfl (List.Mem.tail _ (List.Mem.tail _ (List.Mem.tail _ (List.Mem.head _)))) (z_getI X 179 rfl (c518_ok rfl) rfl rfl ?_)))
            have b82 := bi_77 Is8
            refine zcV_v0 X E 179 (As := [.int (Int32.ofInt 3), .int (Int32.ofInt (iI s8 77))]) (st := []) rfl rfl rfl rfl (k_wrong3 G Is8 (by first | exact ⟨by decide, by decide⟩ | omega) (by first | exact ⟨oq_ca54ea22 b82.1, b82.2⟩ | omega)) rfl (Nat.le_of_ble_eq_true rfl) (fun s83 Is83 Fs83 hps83 => ?_)
            have Gs83 := fm_tq Gs8 Fs83 rfl rfl
            have JFDB_s83 : FDB B N s83 := FDB_fm Fs83 (by decide) JFDB_s8
            have ws83_77 : iI s83 77 = iI s8 77 := fm_iq Fs83 rfl
            have ws83_75 : iI s83 75 = iI s8 75 := fm_iq Fs83 rfl
            have b85 := bi_79 Is83
            have ws83_78 : iI s83 78 = iI s8 78 := fm_iq Fs83 rfl
            have ws83_86 : iI s83 86 = iI s8 86 := fm_iq Fs83 rfl
            have ws83_87 : iI s83 87 = iI s8 87 := fm_iq Fs83 rfl
            have ws83_88 : iI s83 88 = iI s8 88 := fm_iq Fs83 rfl
            have aws83_160 : SAM 160 s s83 := sam_ts aws8_160 (sam_fm Fs83 (by decide))
            refine z_aload_n X (x := A 179) rfl (List.Mem.tail _ (List.Mem.tail _ (List.Mem.tail _ (List.Mem.head _)))) (z_getI X 179 rfl (c518_ok rfl) rfl rfl ?_)
            have b86 := bi_79 Is83
            refine z_if_eq X (t := 95) rfl rfl (rng_to _) (fun g87 => ?_) (fun g87 => ?_)
            ·
              exfalso
              omega
            ·
              exact w_vret X.1 q hRt (ax_d X (show cdA 213 94 = some (.return_, 1, 0, 0, 0) from rfl)) (Nat.zero_le _) (Nat.zero_le _) ⟨_, rfl, Is83, Gs83, JFDB_s83, rfl, ⟨by first | exact oq_7fe879e0 ws83_78 ws8_78 p1 b4.1 | omega, by first | exact oq_9272904e ws83_77 hps8.2.2.1 | omega, by first | (clear g87 hps83 g53 he20 he15 hps8; omega) | (clear hps83 g53 he20 he15 hps8; omega) | omega, by first | exact oq_f7664523 g87 b86.1 | omega, by first | exact oq_ea1d993c ws83_86 ws83_87 ws8_87 b6.2 g55 | omega, by first | exact oq_2dbfa935 g87 b86.1 | omega, cln_no (clm_3 (by first | (clear g87 hps83 g53 he20 he15 hps8; omega) | (clear hps83 g53 he20 he15 hps8; omega) | omega) (by first | (clear g87 hps83 g53 he20 he15 hps8; omega) | (clear hps83 g53 he20 he15 hps8; omega) | omega) (by first | (clear g87 hps83 g53 he20 he15 hps8; omega) | (clear hps83 g53 he20 he15 hps8; omega) | omega)) (by first | (clear g87 hps83 g53 he20 he15 hps8; omega) | (clear hps83 g53 he20 he15 hps8; omega) | omega), Or.inl (by first | exact g87 | omega)⟩⟩
        ·
          refine z_aload_n X (x := A 179) rfl (List.Mem.tail _ (List.Mem.tail _ (List.Mem.tail _ (List.Mem.head _)))) (z_const X rfl (z_aload_n X (x := A 179) rfl (List.Mem.tail _ (List.Mem.tail _ (List.Mem.tail _ (List.Mem.head _)))) (z_getI X 179 rfl (c518_ok rfl) rfl rfl ?_)))
          have b88 := bi_77 Is8
          refine zcV_v0 X E 179 (As := [.int (Int32.ofInt 1), .int (Int32.ofInt (iI s8 77))]) (st := []) rfl rfl rfl rfl (k_wrong3 G Is8 (by first | exact ⟨by decide, by decide⟩ | omega) (by first | exact ⟨oq_ca54ea22 b88.1, b88.2⟩ | omega)) rfl (Nat.le_of_ble_eq_true rfl) (fun s89 Is89 Fs89 hps89 => ?_)
          have Gs89 := fm_tq Gs8 Fs89 rfl rfl
          have JFDB_s89 : FDB B N s89 := FDB_fm Fs89 (by decide) JFDB_s8
          have ws89_77 : iI s89 77 = iI s8 77 := fm_iq Fs89 rfl
          have ws89_75 : iI s89 75 = iI s8 75 := fm_iq Fs89 rfl
          have b91 := bi_79 Is89
          have ws89_78 : iI s89 78 = iI s8 78 := fm_iq Fs89 rfl
          have ws89_86 : iI s89 86 = iI s8 86 := fm_iq Fs89 rfl
          have ws89_87 : iI s89 87 = iI s8 87 := fm_iq Fs89 rfl
          have ws89_88 : iI s89 88 = iI s8 88 := fm_iq Fs89 rfl
          have aws89_160 : SAM 160 s s89 := sam_ts aws8_160 (sam_fm Fs89 (by decide))
          refine z_goto X (t := 87) rfl rfl (z_aload_n X (x := A 179) rfl (List.Mem.tail _ (List.Mem.tail _ (List.Mem.tail _ (List.Mem.head _)))) (z_getI X 179 rfl (c518_ok rfl) rfl rfl ?_))
          have b92 := bi_79 Is89
          refine z_if_eq X (t := 95) rfl rfl (rng_to _) (fun g93 => ?_) (fun g93 => ?_)
          ·
            exfalso
            omega
          ·
            exact w_vret X.1 q hRt (ax_d X (show cdA 213 94 = some (.return_, 1, 0, 0, 0) from rfl)) (Nat.zero_le _) (Nat.zero_le _) ⟨_, rfl, Is89, Gs89, JFDB_s89, rfl, ⟨by first | exact oq_7fe879e0 ws89_78 ws8_78 p1 b4.1 | omega, by first | exact oq_9272904e ws89_77 hps8.2.2.1 | omega, by first | (clear g93 hps89 he20 he15 hps8; omega) | (clear hps89 he20 he15 hps8; omega) | omega, by first | exact oq_f7664523 g93 b92.1 | omega, by first | exact oq_4407eb3c ws89_86 ws89_87 ws8_86 ws8_87 p3 | omega, by first | exact oq_2dbfa935 g93 b92.1 | omega, cln_no (clm_1 (by first | (clear g93 hps89 he20 he15 hps8; omega) | (clear hps89 he20 he15 hps8; omega) | omega) (by first | (clear g93 hps89 he20 he15 hps8; omega) | (clear hps89 he20 he15 hps8; omega) | omega) (by first | (clear g93 hps89 he20 he15 hps8; omega) | (clear hps89 he20 he15 hps8; omega) | omega)) (by first | (clear g93 hps89 he20 he15 hps8; omega) | (clear hps89 he20 he15 hps8; omega) | omega), Or.inl (by first | exact g93 | omega)⟩⟩
    refine z_icmp_ne X (t := 47) rfl rfl hrs8 hrs16 (fun g94 => ?_) (fun g94 => ?_)
    ·
      exact z_const X rfl (N19 _ (Or.inl ⟨g94, rfl⟩))
    ·
      exact z_const X rfl (z_goto X (t := 48) rfl rfl (N19 _ (Or.inr (⟨g94, rfl⟩))))
  refine z_icmp_ne X (t := 24) rfl rfl hrs8 hrs11 (fun g95 => ?_) (fun g95 => ?_)
  ·
    exact z_const X rfl (N14 _ (Or.inl ⟨g95, rfl⟩))
  ·
    exact z_const X rfl (z_goto X (t := 25) rfl rfl (N14 _ (Or.inr (⟨g95, rfl⟩))))
set_option maxRecDepth 4000 in
theorem k_rules7 (G : GX l s0 D tys a0 dT) {B : Nat → Int} (I : Bd s) (jFDA : FDA B s) {x : Int} (p0 : rng x) : CT l s0 D A dT 214 (rmN 214) [.ref (A 179), .int (Int32.ofInt x)] s (fun o t => Bd t ∧ Fm [73, 74, 76, 82, 83, 84, 85, 77, 75, 78, 79, 80, 81, 86, 87, 88] [160, 159, 158] s t ∧ FDA B t ∧ ∃ e, o = .inl (some (.int (Int32.ofInt e))) ∧ rng e ∧ ((0 ≤ x ∧ x ≤ iI s 74 ∧ iI t 74 = 0 ∧ iI t 73 = 0 ∧ ((0 ≤ e ∧ RLM B x e t ∧ MJB B x e t) ∨ (e < 0 ∧ RUA B x e ∧ iI t 85 = iI s 85 ∧ iI t 82 = iI s 82 ∧ iI t 84 = iI s 84 ∧ SAM 158 s t ∧ SAM 159 s t))) ∨ ((x < 0 ∨ iI s 74 < x) ∧ iI t 74 = iI s 74 ∧ iI t 73 = 1 ∧ iI t 85 = iI s 85 ∧ iI t 82 = iI s 82 ∧ iI t 84 = iI s 84 ∧ SAM 158 s t ∧ SAM 159 s t))) := by
  refine ct_of G (by decide) (Nat.le_of_ble_eq_true rfl) (fun k X E hRt hXt q => ?_)
  show WS k 0 [(0, .ref (A 179)), (1, .int (Int32.ofInt x))] [] _ 0 0
  have F : Fm [73, 74, 76, 82, 83, 84, 85, 77, 75, 78, 79, 80, 81, 86, 87, 88] [160, 159, 158] s s := fm_rf _ _ s
  have aw0_158 : SAM 158 s s := sam_rf
  have aw0_160 : SAM 160 s s := sam_rf
  have aw0_159 : SAM 159 s s := sam_rf
  have b1 := bi_73 I
  have b2 := bi_74 I
  have b3 := bi_77 I
  have b4 := bi_75 I
  have b5 := bi_79 I
  have b6 := bi_78 I
  have b7 := bi_86 I
  have b8 := bi_87 I
  have b9 := bi_88 I
  have b10 := bi_81 I
  have b11 := bi_83 I
  have b12 := bi_85 I
  have b13 := bi_82 I
  have b14 := bi_84 I
  have L61 : ∀ (n : Nat) (t : PS) (xv : Int), Bd t → Fm [73, 74, 76, 82, 83, 84, 85, 77, 75, 78, 79, 80, 81, 86, 87, 88] [160, 159, 158] s t → FDA B t → (CHO B x t ∧ sk B x (iI t 77) = iI t 77 ∧ SAM 158 s t ∧ SAM 159 s t ∧ (iI t 79 ≠ 0 ∨ JMD B x (iI t 86) (iI t 87) t)) → (xv = x ∧ (0 ≤ x ∧ x ≤ iI s 74 ∧ x ≤ 200) ∧ iI t 74 = 0 ∧ iI t 75 = x ∧ iI t 78 = 0 ∧ iI t 77 ≤ 203 ∧ (iI t 79 = 0 → iI t 77 ≤ iI t 75) ∧ iI t 87 ≤ iI t 86 ∧ iI t 81 = 0 ∧ iI t 73 = 0 ∧ iI t 85 = iI s 85 ∧ iI t 82 = iI s 82 ∧ iI t 84 = iI s 84) → (400 - iI t 77 + (9 - iI t 79) : Int).toNat < n → (∀ (t' : PS), Bd t' → Fm [73, 74, 76, 82, 83, 84, 85, 77, 75, 78, 79, 80, 81, 86, 87, 88] [160, 159, 158] s t' → FDA B t' → (CHO B x t' ∧ sk B x (iI t' 77) = iI t' 77 ∧ SAM 158 s t' ∧ SAM 159 s t' ∧ (iI t' 79 ≠ 0 ∨ JMD B x (iI t' 86) (iI t' 87) t')) → (xv = x ∧ (0 ≤ x ∧ x ≤ iI s 74 ∧ x ≤ 200) ∧ iI t' 74 = 0 ∧ iI t' 75 = x ∧ iI t' 78 = 0 ∧ iI t' 77 ≤ 203 ∧ (iI t' 79 = 0 → iI t' 77 ≤ iI t' 75) ∧ iI t' 87 ≤ iI t' 86 ∧ iI t' 81 = 0 ∧ iI t' 73 = 0 ∧ iI t' 85 = iI s 85 ∧ iI t' 82 = iI s 82 ∧ iI t' 84 = iI s 84 ∧ (iI t' 79 = 0 → x ≤ iI t' 77)) → WS k 90 [(0, .ref (A 179)), (1, .int (Int32.ofInt xv))] [] (Wd A dT t') 0 0) → WS k 61 [(0, .ref (A 179)), (1, .int (Int32.ofInt xv))] [] (Wd A dT t) 0 0 := by
    intro n
    induction n with
    | zero =>
      intro t xv I F jjFDA hq hi hm kx
      exact absurd hm (Nat.not_lt_zero _)
    | succ n ih =>
      intro t xv I F jjFDA hq hi hm kx
      have b1001 := bi_73 I
      have b1002 := bi_74 I
      have b1003 := bi_77 I
      have b1004 := bi_75 I
      have b1005 := bi_79 I
      have b1006 := bi_78 I
      have b1007 := bi_86 I
      have b1008 := bi_87 I
      have b1009 := bi_88 I
      have b1010 := bi_81 I
      have b1011 := bi_83 I
      have b1012 := bi_85 I
      have b1013 := bi_82 I
      have b1014 := bi_84 I
      have JBt : FDB B x t := ⟨fda_n jjFDA (by omega) (by omega), by omega, by omega⟩
      have hN : iI t 75 = x := by omega
      refine z_aload_n X (x := A 179) rfl (List.Mem.head _) (z_getI X 179 rfl (c518_ok rfl) rfl rfl ?_)
      have b1015 := bi_79 I
      refine z_if_ne X (t := 90) rfl rfl (rng_to _) (fun g1016 => ?_) (fun g1016 => ?_)
      ·
        refine WS_pq [0, 1] (lv' := [(0, .ref (A 179)), (1, .int (Int32.ofInt xv))]) rfl ?_
        exact kx _  I F jjFDA hq (by first | exact ⟨hi.1, And.intro (hi.2.1.1) (And.intro (hi.2.1.2.1) (hi.2.1.2.2)), hi.2.2.1, hN, hi.2.2.2.2.1, hi.2.2.2.2.2.1, hi.2.2.2.2.2.2.1, hi.2.2.2.2.2.2.2.1, hi.2.2.2.2.2.2.2.2.1, hi.2.2.2.2.2.2.2.2.2.1, hi.2.2.2.2.2.2.2.2.2.2.1, hi.2.2.2.2.2.2.2.2.2.2.2.1, hi.2.2.2.2.2.2.2.2.2.2.2.2, oq_6a3c9b31 g1016 b1015.1⟩ | omega)
      ·
        refine z_aload_n X (x := A 179) rfl (List.Mem.head _) (z_getI X 179 rfl (c518_ok rfl) rfl rfl ?_)
        have b1017 := bi_77 I
        refine z_aload_n X (x := A 179) rfl (List.Mem.head _) (z_getI X 179 rfl (c518_ok rfl) rfl rfl ?_)
        have b1018 := bi_75 I
        refine z_icmp_ge X (t := 90) rfl rfl (rng_to _) (rng_to _) (fun g1019 => ?_) (fun g1019 => ?_)
        ·
          refine WS_pq [0, 1] (lv' := [(0, .ref (A 179)), (1, .int (Int32.ofInt xv))]) rfl ?_
          exact kx _  I F jjFDA hq (by first | exact ⟨hi.1, And.intro (hi.2.1.1) (And.intro (hi.2.1.2.1) (hi.2.1.2.2)), hi.2.2.1, hN, hi.2.2.2.2.1, hi.2.2.2.2.2.1, hi.2.2.2.2.2.2.1, hi.2.2.2.2.2.2.2.1, hi.2.2.2.2.2.2.2.2.1, hi.2.2.2.2.2.2.2.2.2.1, hi.2.2.2.2.2.2.2.2.2.2.1, hi.2.2.2.2.2.2.2.2.2.2.2.1, hi.2.2.2.2.2.2.2.2.2.2.2.2, oq_7b48b746 g1019 hN⟩ | omega)
        ·
          refine z_aload_n X (x := A 179) rfl (List.Mem.head _) (zcV_v1 X E 179 (As := []) (st := []) rfl rfl rfl rfl (k_clause7 G I JBt (by first | exact g1016 | omega) (by first | exact hi.2.2.2.2.1 | omega) (by first | exact oq_161a6600 g1019 | omega) (by first | exact hi.2.2.2.2.2.2.2.1 | omega)) rfl (Nat.le_of_ble_eq_true rfl) (fun s1020 Is1020 Fs1020 JFDB_s1020 hps1020 => ?_))
          have hps1020p := And.intro hps1020.1 (And.intro hps1020.2.1 (And.intro hps1020.2.2.1 (And.intro hps1020.2.2.2.2.1 (hps1020.2.2.2.2.2.2.1))))
          have Gs1020 := fm_tq F Fs1020 rfl rfl
          have JFDA_s1020 : FDA B s1020 := FDA_fm Fs1020 (by decide) jjFDA
          have JFDB_s1020 : FDB B x s1020 := FDB_fm Fs1020 (by decide) JBt
          have ws1020_73 : iI s1020 73 = iI t 73 := fm_iq Fs1020 rfl
          have ws1020_74 : iI s1020 74 = iI t 74 := fm_iq Fs1020 rfl
          have b1022 := bi_77 Is1020
          have ws1020_75 : iI s1020 75 = iI t 75 := fm_iq Fs1020 rfl
          have b1023 := bi_79 Is1020
          have b1024 := bi_78 Is1020
          have b1025 := bi_86 Is1020
          have b1026 := bi_87 Is1020
          have b1027 := bi_88 Is1020
          have ws1020_81 : iI s1020 81 = iI t 81 := fm_iq Fs1020 rfl
          have ws1020_83 : iI s1020 83 = iI t 83 := fm_iq Fs1020 rfl
          have ws1020_85 : iI s1020 85 = iI t 85 := fm_iq Fs1020 rfl
          have ws1020_82 : iI s1020 82 = iI t 82 := fm_iq Fs1020 rfl
          have ws1020_84 : iI s1020 84 = iI t 84 := fm_iq Fs1020 rfl
          have aws1020_158 : SAM 158 t s1020 := sam_ts (sam_rf (a := 158) (s := t)) (sam_fm Fs1020 (by decide))
          have aws1020_159 : SAM 159 t s1020 := sam_ts (sam_rf (a := 159) (s := t)) (sam_fm Fs1020 (by decide))
          refine z_aload_n X (x := A 179) rfl (List.Mem.head _) (zcV_v1 X E 179 (As := []) (st := []) rfl rfl rfl rfl (k_blanks2 G Is1020 JFDB_s1020 (by first | exact oq_2ebc9f52 hps1020.2.2.1 | omega)) rfl (Nat.le_of_ble_eq_true rfl) (fun s1028 Is1028 Fs1028 JFDB_s1028 hps1028 => ?_))
          have hps1028p := And.intro hps1028.1 (hps1028.2.1)
          have Gs1028 := fm_tq Gs1020 Fs1028 rfl rfl
          have JFDA_s1028 : FDA B s1028 := FDA_fm Fs1028 (by decide) JFDA_s1020
          have JFDB_s1028 : FDB B x s1028 := FDB_fm Fs1028 (by decide) JFDB_s1020
          have ws1028_73 : iI s1028 73 = iI s1020 73 := fm_iq Fs1028 rfl
          have ws1028_74 : iI s1028 74 = iI s1020 74 := fm_iq Fs1028 rfl
          have b1030 := bi_77 Is1028
          have ws1028_75 : iI s1028 75 = iI s1020 75 := fm_iq Fs1028 rfl
          have ws1028_79 : iI s1028 79 = iI s1020 79 := fm_iq Fs1028 rfl
          have ws1028_78 : iI s1028 78 = iI s1020 78 := fm_iq Fs1028 rfl
          have ws1028_86 : iI s1028 86 = iI s1020 86 := fm_iq Fs1028 rfl
          have ws1028_87 : iI s1028 87 = iI s1020 87 := fm_iq Fs1028 rfl
          have ws1028_88 : iI s1028 88 = iI s1020 88 := fm_iq Fs1028 rfl
          have ws1028_81 : iI s1028 81 = iI s1020 81 := fm_iq Fs1028 rfl
          have ws1028_83 : iI s1028 83 = iI s1020 83 := fm_iq Fs1028 rfl
          have ws1028_85 : iI s1028 85 = iI s1020 85 := fm_iq Fs1028 rfl
          have ws1028_82 : iI s1028 82 = iI s1020 82 := fm_iq Fs1028 rfl
          have ws1028_84 : iI s1028 84 = iI s1020 84 := fm_iq Fs1028 rfl
          have aws1028_158 : SAM 158 t s1028 := sam_ts aws1020_158 (sam_fm Fs1028 (by decide))
          have aws1028_159 : SAM 159 t s1028 := sam_ts aws1020_159 (sam_fm Fs1028 (by decide))
          refine z_goto X (t := 61) rfl rfl (WS_pq [0, 1] (lv' := [(0, .ref (A 179)), (1, .int (Int32.ofInt xv))]) rfl ?_)
          exact ih _ xv Is1028 Gs1028 JFDA_s1028 ⟨cho_mv (cho_up hq.1 (by first | (clear hps1028 hps1020; omega) | (clear hps1020; omega) | omega) (by first | (clear hps1028 hps1020; omega) | (clear hps1020; omega) | omega) (by rw [hq.2.1]; exact ⟨by first | (clear hps1028 hps1020; omega) | (clear hps1020; omega) | omega, by first | (clear hps1028 hps1020; omega) | (clear hps1020; omega) | omega⟩) hps1020.2.2.2.2.2.2.1 (by first | (clear hps1028 hps1020; omega) | (clear hps1020; omega) | omega)) (by first | (clear hps1028 hps1020; omega) | (clear hps1020; omega) | omega) (by first | (clear hps1028 hps1020; omega) | (clear hps1020; omega) | omega) (by rw [hps1028.1]; exact sk_sk) (by first | (clear hps1028 hps1020; omega) | (clear hps1020; omega) | omega), by rw [hps1028.1]; exact sk_sk, sam_ts hq.2.2.1 aws1028_158, sam_ts hq.2.2.2.1 aws1028_159, jmo_up hq.1 hq.2.2.2.2 (by first | (clear hps1028 hps1020; omega) | (clear hps1020; omega) | omega) (by first | (clear hps1028 hps1020; omega) | (clear hps1020; omega) | omega) (by first | (clear hps1028 hps1020; omega) | (clear hps1020; omega) | omega) (by rw [hq.2.1]; exact ⟨by first | (clear hps1028 hps1020; omega) | (clear hps1020; omega) | omega, by first | (clear hps1028 hps1020; omega) | (clear hps1020; omega) | omega⟩) hps1020.2.2.2.2.2.2.1 hps1020.2.2.2.2.2.2.2 (by first | (clear hps1028 hps1020; omega) | (clear hps1020; omega) | omega) (by first | (clear hps1028 hps1020; omega) | (clear hps1020; omega) | omega) (by first | (clear hps1028 hps1020; omega) | (clear hps1020; omega) | omega) (by first | (clear hps1028 hps1020; omega) | (clear hps1020; omega) | omega) (sam_fm Fs1028 (by decide))⟩ (by first | exact ⟨hi.1, And.intro (hi.2.1.1) (And.intro (hi.2.1.2.1) (hi.2.1.2.2)), oq_7fe879e0 ws1028_74 ws1020_74 hi.2.2.1 b1002.1, oq_878618b1 ws1028_75 ws1020_75 hN, oq_333640b7 ws1028_78 hps1020.1 b1024.1, by first | (clear hps1028 hps1020; omega) | (clear hps1020; omega) | omega, by first | (clear hps1028 hps1020; omega) | (clear hps1020; omega) | omega, oq_e7b9ecab ws1028_86 ws1028_87 hps1020.2.2.2.2.1, oq_7fe879e0 ws1028_81 ws1020_81 hi.2.2.2.2.2.2.2.2.1 b1010.1, oq_7fe879e0 ws1028_73 ws1020_73 hi.2.2.2.2.2.2.2.2.2.1 b1001.1, oq_d0d2714e ws1028_85 hi.2.2.2.2.2.2.2.2.2.2.1 ws1020_85, oq_d0d2714e ws1028_82 hi.2.2.2.2.2.2.2.2.2.2.2.1 ws1020_82, oq_d0d2714e ws1028_84 hi.2.2.2.2.2.2.2.2.2.2.2.2 ws1020_84⟩ | omega) (by first | exact qk_me hm (oq_5b7b6df3 ws1028_79 hps1028.2.1 b1023.1 hps1020.2.2.2.1 hps1020.2.1 g1016) (oq_faaf1092 g1016 b1017.2) | omega) kx
  have L115 : ∀ (n : Nat) (t : PS) (xv c : Int), Bd t → Fm [73, 74, 76, 82, 83, 84, 85, 77, 75, 78, 79, 80, 81, 86, 87, 88] [160, 159, 158] s t → FDA B t → ((∃ (k : Int) (cc : List Int), RUQ B x (iI t 86) k cc (iI t 88)) ∧ (∀ j : Nat, (j : Int) < c → iC t 158 j = B j) ∧ JMD B x (iI t 86) (iI t 87) t) → (xv = x ∧ (0 ≤ x ∧ x ≤ iI s 74) ∧ iI t 74 = 0 ∧ 0 ≤ c ∧ c ≤ 200 ∧ iI t 87 ≤ iI t 86 ∧ iI t 75 ≤ 200 ∧ iI t 73 = 0 ∧ x ≤ 200 ∧ iI t 79 = 0) → (200 - c : Int).toNat < n → (∀ (t' : PS) (c' : Int), Bd t' → Fm [73, 74, 76, 82, 83, 84, 85, 77, 75, 78, 79, 80, 81, 86, 87, 88] [160, 159, 158] s t' → FDA B t' → ((∃ (k : Int) (cc : List Int), RUQ B x (iI t' 86) k cc (iI t' 88)) ∧ (∀ j : Nat, (j : Int) < c' → iC t' 158 j = B j) ∧ JMD B x (iI t' 86) (iI t' 87) t') → (xv = x ∧ (0 ≤ x ∧ x ≤ iI s 74) ∧ iI t' 74 = 0 ∧ 0 ≤ c' ∧ c' ≤ 200 ∧ iI t' 87 ≤ iI t' 86 ∧ iI t' 75 ≤ 200 ∧ iI t' 73 = 0 ∧ x ≤ 200 ∧ iI t' 79 = 0 ∧ x ≤ c') → WS k 138 [(0, .ref (A 179)), (1, .int (Int32.ofInt xv)), (2, .int (Int32.ofInt c'))] [] (Wd A dT t') 0 0) → WS k 115 [(0, .ref (A 179)), (1, .int (Int32.ofInt xv)), (2, .int (Int32.ofInt c))] [] (Wd A dT t) 0 0 := by
    intro n
    induction n with
    | zero =>
      intro t xv c I F jjFDA hq hi hm kx
      exact absurd hm (Nat.not_lt_zero _)
    | succ n ih =>
      intro t xv c I F jjFDA hq hi hm kx
      have b2001 := bi_73 I
      have b2002 := bi_74 I
      have b2003 := bi_77 I
      have b2004 := bi_75 I
      have b2005 := bi_79 I
      have b2006 := bi_78 I
      have b2007 := bi_86 I
      have b2008 := bi_87 I
      have b2009 := bi_88 I
      have b2010 := bi_81 I
      have b2011 := bi_83 I
      have b2012 := bi_85 I
      have b2013 := bi_82 I
      have b2014 := bi_84 I
      refine z_load_n X (x := c) rfl (List.Mem.tail _ (List.Mem.tail _ (List.Mem.head _))) (z_load_n X (x := xv) rfl (List.Mem.tail _ (List.Mem.head _)) (z_icmp_ge X (t := 138) rfl rfl ⟨by first | exact oq_fa4e5087 hi.2.2.2.1 | omega, by first | exact oq_52af2b96 hi.2.2.2.2.1 | omega⟩ ⟨by first | exact oq_b3df2c6f hi.1 hi.2.1.1 | omega, by first | exact oq_ec2e99bd hi.1 hi.2.2.2.2.2.2.2.2.1 | omega⟩ (fun g2015 => ?_) (fun g2015 => ?_)))
      ·
        refine WS_pq [0, 1, 2] (lv' := [(0, .ref (A 179)), (1, .int (Int32.ofInt xv)), (2, .int (Int32.ofInt c))]) rfl ?_
        exact kx _ c I F jjFDA hq (by first | exact ⟨hi.1, And.intro (hi.2.1.1) (hi.2.1.2), hi.2.2.1, hi.2.2.2.1, hi.2.2.2.2.1, hi.2.2.2.2.2.1, b2004.2, hi.2.2.2.2.2.2.2.1, hi.2.2.2.2.2.2.2.2.1, hi.2.2.2.2.2.2.2.2.2, oq_acf76229 g2015 hi.1⟩ | omega)
      ·
        have hFd : iC t 157 (c : Int).toNat = B (c : Int).toNat := jjFDA _ (by omega)
        refine z_aload_n X (x := A 179) rfl (List.Mem.head _) (s_getR X 179 rfl (c518_ok rfl) rfl rfl (z_load_n X (x := c) rfl (List.Mem.tail _ (List.Mem.tail _ (List.Mem.head _))) (z_aload_n X (x := A 179) rfl (List.Mem.head _) (s_getR X 179 rfl (c518_ok rfl) rfl rfl (z_load_n X (x := c) rfl (List.Mem.tail _ (List.Mem.tail _ (List.Mem.head _))) (z_ald X 180 rfl (c518_ok rfl) rfl (by first | exact hi.2.2.2.1 | omega) (show c < 200 by first | exact oq_a2afda0c g2015 hi.1 hi.2.2.2.2.2.2.2.2.1 | omega) (cbig_ok rfl) ?_))))))
        have b2016 := bc_157 I (show (c).toNat < 200 by first | exact oq_7290672e g2015 hi.1 hi.2.2.2.2.2.2.2.2.1 | omega)
        refine z_ast X 181 rfl (c518_ok rfl) rfl (by first | exact hi.2.2.2.1 | omega) (show c < 200 by first | exact oq_a2afda0c g2015 hi.1 hi.2.2.2.2.2.2.2.2.1 | omega) (cbig_ok rfl) (wd_gen (fun s2017 hs2017 => ?_))
        have Is2017 : Bd s2017 := eqB hs2017 (bd_C I (show (0 : Int) ≤ (iC t 157 (c).toNat) ∧ (iC t 157 (c).toNat) ≤ 255 by first | exact ⟨b2016.1, b2016.2⟩ | omega) (rng_to _))
        have Fs2017 := eqF hs2017 (fm_C F (inl_ok (a := 158) rfl))
        have ws2017_73 : iI s2017 73 = iI t 73 := eqI hs2017 rfl
        have ws2017_74 : iI s2017 74 = iI t 74 := eqI hs2017 rfl
        have ws2017_77 : iI s2017 77 = iI t 77 := eqI hs2017 rfl
        have ws2017_75 : iI s2017 75 = iI t 75 := eqI hs2017 rfl
        have ws2017_79 : iI s2017 79 = iI t 79 := eqI hs2017 rfl
        have ws2017_78 : iI s2017 78 = iI t 78 := eqI hs2017 rfl
        have ws2017_86 : iI s2017 86 = iI t 86 := eqI hs2017 rfl
        have ws2017_87 : iI s2017 87 = iI t 87 := eqI hs2017 rfl
        have ws2017_88 : iI s2017 88 = iI t 88 := eqI hs2017 rfl
        have ws2017_81 : iI s2017 81 = iI t 81 := eqI hs2017 rfl
        have ws2017_83 : iI s2017 83 = iI t 83 := eqI hs2017 rfl
        have ws2017_85 : iI s2017 85 = iI t 85 := eqI hs2017 rfl
        have ws2017_82 : iI s2017 82 = iI t 82 := eqI hs2017 rfl
        have ws2017_84 : iI s2017 84 = iI t 84 := eqI hs2017 rfl
        have aws2017_158 : UPD 158 (c) (iC t 157 (c).toNat) t s2017 := by rw [hs2017]; exact upd_put (sam_rf (a := 158) (s := t)) (rng_to _)
        have aws2017_160 : SAM 160 t s2017 := by rw [hs2017]; exact sam_C (by decide) (sam_rf (a := 160) (s := t))
        have aws2017_159 : SAM 159 t s2017 := by rw [hs2017]; exact sam_C (by decide) (sam_rf (a := 159) (s := t))
        have fs2017 : Fm [] [158] t s2017 := by rw [hs2017]; exact fm_C (fm_rf _ _ _) (show 158 ∈ _ by decide)
        have JFDA_s2017 : FDA B s2017 := FDA_fm fs2017 (by decide) jjFDA
        refine z_inc X (x := c) (lv' := [(2, .int (Int32.ofInt (c + 1))), (0, .ref (A 179)), (1, .int (Int32.ofInt xv))]) rfl (by decide) (List.Mem.tail _ (List.Mem.tail _ (List.Mem.head _))) (fun _ h => h) (z_goto X (t := 115) rfl rfl (WS_pq [1, 2, 0] (lv' := [(0, .ref (A 179)), (1, .int (Int32.ofInt xv)), (2, .int (Int32.ofInt (c + 1)))]) rfl ?_))
        exact ih _ xv (c + 1) Is2017 Fs2017 JFDA_s2017 ⟨by rw [show iI s2017 86 = iI t 86 by omega, show iI s2017 88 = iI t 88 by omega]; exact hq.1, rcp_up hq.2.1 (by omega) aws2017_158 hFd, by rw [show iI s2017 86 = iI t 86 by omega, show iI s2017 87 = iI t 87 by omega]; exact jmd_s hq.2.2 aws2017_160⟩ (by first | exact ⟨hi.1, And.intro (hi.2.1.1) (hi.2.1.2), oq_333640b7 ws2017_74 hi.2.2.1 b2002.1, oq_54f49eb5 hi.2.2.2.1, oq_44170929 g2015 hi.1 hi.2.2.2.2.2.2.2.2.1, oq_e7b9ecab ws2017_86 ws2017_87 hi.2.2.2.2.2.1, oq_b1fe1193 ws2017_75 b2004.2, oq_333640b7 ws2017_73 hi.2.2.2.2.2.2.2.1 b2001.1, hi.2.2.2.2.2.2.2.2.1, oq_333640b7 ws2017_79 hi.2.2.2.2.2.2.2.2.2 b2005.1⟩ | omega) (by first | exact qk_me hm (by decide) (oq_1d5bb5f6 g2015 hi.1 hi.2.2.2.2.2.2.2.2.1) | omega) kx
  have L169 : ∀ (n : Nat) (t : PS) (xv c : Int), Bd t → Fm [73, 74, 76, 82, 83, 84, 85, 77, 75, 78, 79, 80, 81, 86, 87, 88] [160, 159, 158] s t → FDA B t → ((∃ (k : Int) (cc : List Int), RUQ B x (iI t 83) k cc (iI t 85)) ∧ iI t 82 = x ∧ (∀ j : Nat, (j : Int) < x → iC t 158 j = B j) ∧ JMD B x (iI t 83) (iI t 84) t ∧ ∀ k : Nat, (k : Int) < c → iC t 159 k = iC t 160 k) → (xv = x ∧ (0 ≤ x ∧ x ≤ iI s 74) ∧ iI t 74 = 0 ∧ 0 ≤ c ∧ c ≤ 8 ∧ iI t 73 = 0 ∧ iI t 82 = x) → (8 - c : Int).toNat < n → (∀ (t' : PS) (c' : Int), Bd t' → Fm [73, 74, 76, 82, 83, 84, 85, 77, 75, 78, 79, 80, 81, 86, 87, 88] [160, 159, 158] s t' → FDA B t' → ((∃ (k : Int) (cc : List Int), RUQ B x (iI t' 83) k cc (iI t' 85)) ∧ iI t' 82 = x ∧ (∀ j : Nat, (j : Int) < x → iC t' 158 j = B j) ∧ JMD B x (iI t' 83) (iI t' 84) t' ∧ ∀ k : Nat, (k : Int) < c' → iC t' 159 k = iC t' 160 k) → (xv = x ∧ (0 ≤ x ∧ x ≤ iI s 74) ∧ iI t' 74 = 0 ∧ 0 ≤ c' ∧ c' ≤ 8 ∧ iI t' 73 = 0 ∧ iI t' 82 = x ∧ iI t' 84 ≤ c') → WS k 195 [(0, .ref (A 179)), (1, .int (Int32.ofInt xv)), (2, .int (Int32.ofInt c'))] [] (Wd A dT t') 0 0) → WS k 169 [(0, .ref (A 179)), (1, .int (Int32.ofInt xv)), (2, .int (Int32.ofInt c))] [] (Wd A dT t) 0 0 := by
    intro n
    induction n with
    | zero =>
      intro t xv c I F jjFDA hq hi hm kx
      exact absurd hm (Nat.not_lt_zero _)
    | succ n ih =>
      intro t xv c I F jjFDA hq hi hm kx
      have b3001 := bi_73 I
      have b3002 := bi_74 I
      have b3003 := bi_77 I
      have b3004 := bi_75 I
      have b3005 := bi_79 I
      have b3006 := bi_78 I
      have b3007 := bi_86 I
      have b3008 := bi_87 I
      have b3009 := bi_88 I
      have b3010 := bi_81 I
      have b3011 := bi_83 I
      have b3012 := bi_85 I
      have b3013 := bi_82 I
      have b3014 := bi_84 I
      refine z_load_n X (x := c) rfl (List.Mem.tail _ (List.Mem.tail _ (List.Mem.head _))) (z_aload_n X (x := A 179) rfl (List.Mem.head _) (z_getI X 179 rfl (c518_ok rfl) rfl rfl ?_))
      have b3015 := bi_84 I
      refine z_icmp_ge X (t := 195) rfl rfl ⟨by first | exact oq_fa4e5087 hi.2.2.2.1 | omega, by first | exact oq_d3f5d874 hi.2.2.2.2.1 | omega⟩ (rng_to _) (fun g3016 => ?_) (fun g3016 => ?_)
      ·
        refine WS_pq [0, 1, 2] (lv' := [(0, .ref (A 179)), (1, .int (Int32.ofInt xv)), (2, .int (Int32.ofInt c))]) rfl ?_
        exact kx _ c I F jjFDA hq (by first | exact ⟨hi.1, And.intro (hi.2.1.1) (hi.2.1.2), hi.2.2.1, hi.2.2.2.1, hi.2.2.2.2.1, hi.2.2.2.2.2.1, hi.2.2.2.2.2.2, g3016⟩ | omega)
      ·
        refine z_aload_n X (x := A 179) rfl (List.Mem.head _) (s_getR X 179 rfl (c518_ok rfl) rfl rfl (z_load_n X (x := c) rfl (List.Mem.tail _ (List.Mem.tail _ (List.Mem.head _))) (z_aload_n X (x := A 179) rfl (List.Mem.head _) (s_getR X 179 rfl (c518_ok rfl) rfl rfl (z_load_n X (x := c) rfl (List.Mem.tail _ (List.Mem.tail _ (List.Mem.head _))) (z_ald X 183 rfl (c518_ok rfl) rfl (by first | exact hi.2.2.2.1 | omega) (show c < 8 by first | exact oq_7f5b2e79 g3016 b3015.2 | omega) (cbig_ok rfl) ?_))))))
        have b3017 := bc_160 I (show (c).toNat < 8 by first | exact oq_67be0351 g3016 b3015.2 | omega)
        have ar3018 : iC t 160 (c).toNat = iC t 160 (c).toNat := (sam_rf (a := 160) (s := t)) _
        refine z_ast X 182 rfl (c518_ok rfl) rfl (by first | exact hi.2.2.2.1 | omega) (show c < 8 by first | exact oq_7f5b2e79 g3016 b3015.2 | omega) (cbig_ok rfl) (wd_gen (fun s3019 hs3019 => ?_))
        have Is3019 : Bd s3019 := eqB hs3019 (bd_C I (show (0 : Int) ≤ (iC t 160 (c).toNat) ∧ (iC t 160 (c).toNat) ≤ 200 by first | exact ⟨b3017.1, b3017.2⟩ | omega) (rng_to _))
        have Fs3019 := eqF hs3019 (fm_C F (inl_ok (a := 159) rfl))
        have ws3019_73 : iI s3019 73 = iI t 73 := eqI hs3019 rfl
        have ws3019_74 : iI s3019 74 = iI t 74 := eqI hs3019 rfl
        have ws3019_77 : iI s3019 77 = iI t 77 := eqI hs3019 rfl
        have ws3019_75 : iI s3019 75 = iI t 75 := eqI hs3019 rfl
        have ws3019_79 : iI s3019 79 = iI t 79 := eqI hs3019 rfl
        have ws3019_78 : iI s3019 78 = iI t 78 := eqI hs3019 rfl
        have ws3019_86 : iI s3019 86 = iI t 86 := eqI hs3019 rfl
        have ws3019_87 : iI s3019 87 = iI t 87 := eqI hs3019 rfl
        have ws3019_88 : iI s3019 88 = iI t 88 := eqI hs3019 rfl
        have ws3019_81 : iI s3019 81 = iI t 81 := eqI hs3019 rfl
        have ws3019_83 : iI s3019 83 = iI t 83 := eqI hs3019 rfl
        have ws3019_85 : iI s3019 85 = iI t 85 := eqI hs3019 rfl
        have ws3019_82 : iI s3019 82 = iI t 82 := eqI hs3019 rfl
        have ws3019_84 : iI s3019 84 = iI t 84 := eqI hs3019 rfl
        have aws3019_158 : SAM 158 t s3019 := by rw [hs3019]; exact sam_C (by decide) (sam_rf (a := 158) (s := t))
        have aws3019_160 : SAM 160 t s3019 := by rw [hs3019]; exact sam_C (by decide) (sam_rf (a := 160) (s := t))
        have aws3019_159 : UPD 159 (c) (iC t 160 (c).toNat) t s3019 := by rw [hs3019]; exact upd_put (sam_rf (a := 159) (s := t)) (rng_to _)
        have fs3019 : Fm [] [159] t s3019 := by rw [hs3019]; exact fm_C (fm_rf _ _ _) (show 159 ∈ _ by decide)
        have JFDA_s3019 : FDA B s3019 := FDA_fm fs3019 (by decide) jjFDA
        refine z_inc X (x := c) (lv' := [(2, .int (Int32.ofInt (c + 1))), (0, .ref (A 179)), (1, .int (Int32.ofInt xv))]) rfl (by decide) (List.Mem.tail _ (List.Mem.tail _ (List.Mem.head _))) (fun _ h => h) (z_goto X (t := 169) rfl rfl (WS_pq [1, 2, 0] (lv' := [(0, .ref (A 179)), (1, .int (Int32.ofInt xv)), (2, .int (Int32.ofInt (c + 1)))]) rfl ?_))
        exact ih _ xv (c + 1) Is3019 Fs3019 JFDA_s3019 ⟨by rw [show iI s3019 83 = iI t 83 by omega, show iI s3019 85 = iI t 85 by omega]; exact hq.1, by omega, fun j hj => (aws3019_158 j).trans (hq.2.2.1 j hj), by rw [show iI s3019 83 = iI t 83 by omega, show iI s3019 84 = iI t 84 by omega]; exact jmd_s hq.2.2.2.1 aws3019_160, cpj_up hq.2.2.2.2 (by omega) aws3019_159 aws3019_160 rfl⟩ (by first | exact ⟨hi.1, And.intro (hi.2.1.1) (hi.2.1.2), oq_333640b7 ws3019_74 hi.2.2.1 b3002.1, oq_54f49eb5 hi.2.2.2.1, oq_f6204d84 g3016 b3015.2, oq_333640b7 ws3019_73 hi.2.2.2.2.2.1 b3001.1, oq_1aa5be9e ws3019_82 hi.2.2.2.2.2.2⟩ | omega) (by first | exact qk_me hm (by decide) (oq_ccc5e5e0 g3016 b3015.2) | omega) kx
  refine z_aload_n X (x := A 179) rfl (List.Mem.head _) (z_const X rfl (s_putI X 179 rfl (c518_ok rfl) rfl rfl (by decide) rfl rfl rfl (wd_gen (fun s15 hs15 => ?_))))
  have Is15 : Bd s15 := eqB hs15 (bd_I I (show (0 : Int) ≤ 0 ∧ 0 ≤ 3 by first | exact ⟨by decide, by decide⟩ | omega) (by decide))
  have Fs15 := eqF hs15 (fm_I F (inl_ok (a := 73) rfl))
  have vs15 : iI s15 73 = 0 := eqI hs15 (iI_u (by decide))
  have ws15_74 : iI s15 74 = iI s 74 := eqI hs15 rfl
  have ws15_77 : iI s15 77 = iI s 77 := eqI hs15 rfl
  have ws15_75 : iI s15 75 = iI s 75 := eqI hs15 rfl
  have ws15_79 : iI s15 79 = iI s 79 := eqI hs15 rfl
  have ws15_78 : iI s15 78 = iI s 78 := eqI hs15 rfl
  have ws15_86 : iI s15 86 = iI s 86 := eqI hs15 rfl
  have ws15_87 : iI s15 87 = iI s 87 := eqI hs15 rfl
  have ws15_88 : iI s15 88 = iI s 88 := eqI hs15 rfl
  have ws15_81 : iI s15 81 = iI s 81 := eqI hs15 rfl
  have ws15_83 : iI s15 83 = iI s 83 := eqI hs15 rfl
  have ws15_85 : iI s15 85 = iI s 85 := eqI hs15 rfl
  have ws15_82 : iI s15 82 = iI s 82 := eqI hs15 rfl
  have ws15_84 : iI s15 84 = iI s 84 := eqI hs15 rfl
  have aws15_158 : SAM 158 s s15 := by rw [hs15]; exact aw0_158
  have aws15_160 : SAM 160 s s15 := by rw [hs15]; exact aw0_160
  have aws15_159 : SAM 159 s s15 := by rw [hs15]; exact aw0_159
  have fs15 : Fm [73] [] s s15 := by rw [hs15]; exact fm_I (fm_rf _ _ _) (show 73 ∈ _ by decide)
  have JFDA_s15 : FDA B s15 := FDA_fm fs15 (by decide) jFDA
  refine z_aload_n X (x := A 179) rfl (List.Mem.head _) (z_load_n X (x := x) rfl (List.Mem.tail _ (List.Mem.head _)) (z_const X rfl (z_aload_n X (x := A 179) rfl (List.Mem.head _) (z_getI X 179 rfl (c518_ok rfl) rfl rfl ?_))))
  have b16 := bi_74 Is15
  refine z_callS X (rm := rmN 188) (As := [.int (Int32.ofInt x), .int (Int32.ofInt 0), .int (Int32.ofInt (iI s15 74))]) (st := [.ref (A 179)]) rfl rfl (by rw [E.1, E.2.1, E.2.2.1]; exact k_in2 G Is15 (by first | exact ⟨p0.1, p0.2⟩ | omega) (by first | exact ⟨by decide, by decide⟩ | omega) (by first | exact ⟨oq_fa4e5087 b16.1, oq_52af2b96 b16.2⟩ | omega)) ⟨by rw [E.2.2.2]; exact (show (rmN 188).frames + 1 ≤ (rmN 214).frames by decide), by rw [E.2.2.2]; exact (show 8 + (mNL (miB 188) + 11) + (rmN 188).locals ≤ (rmN 214).locals by decide), by rw [E.2.2.2]; exact (show 0 + (rmN 188).cells ≤ (rmN 214).cells by decide), by rw [E.2.2.2]; exact (show 0 + (rmN 188).slots ≤ (rmN 214).slots by decide)⟩ (Nat.le_of_ble_eq_true rfl) (fun vv s17 hq => ?_) (fun ee s17 hq => ?_)
  rotate_left
  · obtain ⟨rfl, e18, hv, hrs17, hps17⟩ := hq; cases hv
  obtain ⟨rfl, e18, hv, hrs17, hps17⟩ := hq
  cases hv
  show WS k 15 [(0, .ref (A 179)), (1, .int (Int32.ofInt x))] [.int (Int32.ofInt e18), .ref (A 179)] (Wd A dT s15) 0 0
  refine z_if_ne X (t := 22) rfl rfl hrs17 (fun g19 => ?_) (fun g19 => ?_)
  ·
    refine z_const X rfl (z_const X rfl (zcV_i0 X E 179 (As := [.int (Int32.ofInt 0), .int (Int32.ofInt 1)]) (st := []) rfl rfl rfl rfl (k_bad2 G Is15 (by first | exact Or.inl (by decide) | omega) (by first | exact ⟨by decide, by decide⟩ | omega)) rfl (Nat.le_of_ble_eq_true rfl) (fun s20 e21 Is20 Fs20 hrs20 hps20 => ?_)))
    have Gs20 := fm_tq Fs15 Fs20 rfl rfl
    have JFDA_s20 : FDA B s20 := FDA_fm Fs20 (by decide) JFDA_s15
    have b22 := bi_73 Is20
    have ws20_74 : iI s20 74 = iI s15 74 := fm_iq Fs20 rfl
    have ws20_77 : iI s20 77 = iI s15 77 := fm_iq Fs20 rfl
    have ws20_75 : iI s20 75 = iI s15 75 := fm_iq Fs20 rfl
    have ws20_79 : iI s20 79 = iI s15 79 := fm_iq Fs20 rfl
    have ws20_78 : iI s20 78 = iI s15 78 := fm_iq Fs20 rfl
    have ws20_86 : iI s20 86 = iI s15 86 := fm_iq Fs20 rfl
    have ws20_87 : iI s20 87 = iI s15 87 := fm_iq Fs20 rfl
    have ws20_88 : iI s20 88 = iI s15 88 := fm_iq Fs20 rfl
    have ws20_81 : iI s20 81 = iI s15 81 := fm_iq Fs20 rfl
    have ws20_83 : iI s20 83 = iI s15 83 := fm_iq Fs20 rfl
    have ws20_85 : iI s20 85 = iI s15 85 := fm_iq Fs20 rfl
    have ws20_82 : iI s20 82 = iI s15 82 := fm_iq Fs20 rfl
    have ws20_84 : iI s20 84 = iI s15 84 := fm_iq Fs20 rfl
    have aws20_158 : SAM 158 s s20 := sam_ts aws15_158 (sam_fm Fs20 (by decide))
    have aws20_160 : SAM 160 s s20 := sam_ts aws15_160 (sam_fm Fs20 (by decide))
    have aws20_159 : SAM 159 s s20 := sam_ts aws15_159 (sam_fm Fs20 (by decide))
    refine z_if_eq X (t := 32) rfl rfl hrs20 (fun g23 => ?_) (fun g23 => ?_)
    ·
      refine z_aload_n X (x := A 179) rfl (List.Mem.head _) (z_const X rfl (s_putI X 179 rfl (c518_ok rfl) rfl rfl (by decide) rfl rfl rfl (wd_gen (fun s24 hs24 => ?_))))
      have Is24 : Bd s24 := eqB hs24 (bd_I Is20 (show (0 : Int) ≤ 0 ∧ 0 ≤ 200 by first | exact ⟨by decide, by decide⟩ | omega) (by decide))
      have Fs24 := eqF hs24 (fm_I Gs20 (inl_ok (a := 74) rfl))
      have vs24 : iI s24 74 = 0 := eqI hs24 (iI_u (by decide))
      have ws24_73 : iI s24 73 = iI s20 73 := eqI hs24 rfl
      have ws24_77 : iI s24 77 = iI s20 77 := eqI hs24 rfl
      have ws24_75 : iI s24 75 = iI s20 75 := eqI hs24 rfl
      have ws24_79 : iI s24 79 = iI s20 79 := eqI hs24 rfl
      have ws24_78 : iI s24 78 = iI s20 78 := eqI hs24 rfl
      have ws24_86 : iI s24 86 = iI s20 86 := eqI hs24 rfl
      have ws24_87 : iI s24 87 = iI s20 87 := eqI hs24 rfl
      have ws24_88 : iI s24 88 = iI s20 88 := eqI hs24 rfl
      have ws24_81 : iI s24 81 = iI s20 81 := eqI hs24 rfl
      have ws24_83 : iI s24 83 = iI s20 83 := eqI hs24 rfl
      have ws24_85 : iI s24 85 = iI s20 85 := eqI hs24 rfl
      have ws24_82 : iI s24 82 = iI s20 82 := eqI hs24 rfl
      have ws24_84 : iI s24 84 = iI s20 84 := eqI hs24 rfl
      have aws24_158 : SAM 158 s s24 := by rw [hs24]; exact aws20_158
      have aws24_160 : SAM 160 s s24 := by rw [hs24]; exact aws20_160
      have aws24_159 : SAM 159 s s24 := by rw [hs24]; exact aws20_159
      have fs24 : Fm [74] [] s20 s24 := by rw [hs24]; exact fm_I (fm_rf _ _ _) (show 74 ∈ _ by decide)
      have JFDA_s24 : FDA B s24 := FDA_fm fs24 (by decide) JFDA_s20
      refine z_aload_n X (x := A 179) rfl (List.Mem.head _) (z_load_n X (x := x) rfl (List.Mem.tail _ (List.Mem.head _)) (zcV_v0 X E 179 (As := [.int (Int32.ofInt x)]) (st := []) rfl rfl rfl rfl (k_beginText2 G Is24 (by first | exact ⟨oq_e6dd31ff g19 hps17, oq_eb53b30f g19 hps17 b16.2⟩ | omega)) rfl (Nat.le_of_ble_eq_true rfl) (fun s25 Is25 Fs25 hps25 => ?_)))
      have Gs25 := fm_tq Fs24 Fs25 rfl rfl
      have JFDA_s25 : FDA B s25 := FDA_fm Fs25 (by decide) JFDA_s24
      have ws25_73 : iI s25 73 = iI s24 73 := fm_iq Fs25 rfl
      have ws25_74 : iI s25 74 = iI s24 74 := fm_iq Fs25 rfl
      have b27 := bi_77 Is25
      have b28 := bi_75 Is25
      have b29 := bi_79 Is25
      have b30 := bi_78 Is25
      have ws25_86 : iI s25 86 = iI s24 86 := fm_iq Fs25 rfl
      have ws25_87 : iI s25 87 = iI s24 87 := fm_iq Fs25 rfl
      have ws25_88 : iI s25 88 = iI s24 88 := fm_iq Fs25 rfl
      have b31 := bi_81 Is25
      have ws25_83 : iI s25 83 = iI s24 83 := fm_iq Fs25 rfl
      have ws25_85 : iI s25 85 = iI s24 85 := fm_iq Fs25 rfl
      have ws25_82 : iI s25 82 = iI s24 82 := fm_iq Fs25 rfl
      have ws25_84 : iI s25 84 = iI s24 84 := fm_iq Fs25 rfl
      have aws25_158 : SAM 158 s s25 := sam_ts aws24_158 (sam_fm Fs25 (by decide))
      have aws25_160 : SAM 160 s s25 := sam_ts aws24_160 (sam_fm Fs25 (by decide))
      have aws25_159 : SAM 159 s s25 := sam_ts aws24_159 (sam_fm Fs25 (by decide))
      refine z_aload_n X (x := A 179) rfl (List.Mem.head _) (z_const X rfl (s_putI X 179 rfl (c518_ok rfl) rfl rfl (by decide) rfl rfl rfl (wd_gen (fun s32 hs32 => ?_))))
      have Is32 : Bd s32 := eqB hs32 (bd_I Is25 (show (0 : Int) ≤ 0 ∧ 0 ≤ 8 by first | exact ⟨by decide, by decide⟩ | omega) (by decide))
      have Fs32 := eqF hs32 (fm_I Gs25 (inl_ok (a := 86) rfl))
      have vs32 : iI s32 86 = 0 := eqI hs32 (iI_u (by decide))
      have ws32_73 : iI s32 73 = iI s25 73 := eqI hs32 rfl
      have ws32_74 : iI s32 74 = iI s25 74 := eqI hs32 rfl
      have ws32_77 : iI s32 77 = iI s25 77 := eqI hs32 rfl
      have ws32_75 : iI s32 75 = iI s25 75 := eqI hs32 rfl
      have ws32_79 : iI s32 79 = iI s25 79 := eqI hs32 rfl
      have ws32_78 : iI s32 78 = iI s25 78 := eqI hs32 rfl
      have ws32_87 : iI s32 87 = iI s25 87 := eqI hs32 rfl
      have ws32_88 : iI s32 88 = iI s25 88 := eqI hs32 rfl
      have ws32_81 : iI s32 81 = iI s25 81 := eqI hs32 rfl
      have ws32_83 : iI s32 83 = iI s25 83 := eqI hs32 rfl
      have ws32_85 : iI s32 85 = iI s25 85 := eqI hs32 rfl
      have ws32_82 : iI s32 82 = iI s25 82 := eqI hs32 rfl
      have ws32_84 : iI s32 84 = iI s25 84 := eqI hs32 rfl
      have aws32_158 : SAM 158 s s32 := by rw [hs32]; exact aws25_158
      have aws32_160 : SAM 160 s s32 := by rw [hs32]; exact aws25_160
      have aws32_159 : SAM 159 s s32 := by rw [hs32]; exact aws25_159
      have fs32 : Fm [86] [] s25 s32 := by rw [hs32]; exact fm_I (fm_rf _ _ _) (show 86 ∈ _ by decide)
      have JFDA_s32 : FDA B s32 := FDA_fm fs32 (by decide) JFDA_s25
      refine z_aload_n X (x := A 179) rfl (List.Mem.head _) (z_const X rfl (s_putI X 179 rfl (c518_ok rfl) rfl rfl (by decide) rfl rfl rfl (wd_gen (fun s33 hs33 => ?_))))
      have Is33 : Bd s33 := eqB hs33 (bd_I Is32 (show (0 : Int) ≤ 0 ∧ 0 ≤ 8 by first | exact ⟨by decide, by decide⟩ | omega) (by decide))
      have Fs33 := eqF hs33 (fm_I Fs32 (inl_ok (a := 87) rfl))
      have vs33 : iI s33 87 = 0 := eqI hs33 (iI_u (by decide))
      have ws33_73 : iI s33 73 = iI s32 73 := eqI hs33 rfl
      have ws33_74 : iI s33 74 = iI s32 74 := eqI hs33 rfl
      have ws33_77 : iI s33 77 = iI s32 77 := eqI hs33 rfl
      have ws33_75 : iI s33 75 = iI s32 75 := eqI hs33 rfl
      have ws33_79 : iI s33 79 = iI s32 79 := eqI hs33 rfl
      have ws33_78 : iI s33 78 = iI s32 78 := eqI hs33 rfl
      have ws33_86 : iI s33 86 = iI s32 86 := eqI hs33 rfl
      have ws33_88 : iI s33 88 = iI s32 88 := eqI hs33 rfl
      have ws33_81 : iI s33 81 = iI s32 81 := eqI hs33 rfl
      have ws33_83 : iI s33 83 = iI s32 83 := eqI hs33 rfl
      have ws33_85 : iI s33 85 = iI s32 85 := eqI hs33 rfl
      have ws33_82 : iI s33 82 = iI s32 82 := eqI hs33 rfl
      have ws33_84 : iI s33 84 = iI s32 84 := eqI hs33 rfl
      have aws33_158 : SAM 158 s s33 := by rw [hs33]; exact aws32_158
      have aws33_160 : SAM 160 s s33 := by rw [hs33]; exact aws32_160
      have aws33_159 : SAM 159 s s33 := by rw [hs33]; exact aws32_159
      have fs33 : Fm [87] [] s32 s33 := by rw [hs33]; exact fm_I (fm_rf _ _ _) (show 87 ∈ _ by decide)
      have JFDA_s33 : FDA B s33 := FDA_fm fs33 (by decide) JFDA_s32
      refine z_aload_n X (x := A 179) rfl (List.Mem.head _) (z_const X rfl (s_putI X 179 rfl (c518_ok rfl) rfl rfl (by decide) rfl rfl rfl (wd_gen (fun s34 hs34 => ?_))))
      have Is34 : Bd s34 := eqB hs34 (bd_I Is33 (show ((-1) : Int) ≤ (-1) ∧ (-1) ≤ 200 by first | exact ⟨by decide, by decide⟩ | omega) (by decide))
      have Fs34 := eqF hs34 (fm_I Fs33 (inl_ok (a := 88) rfl))
      have vs34 : iI s34 88 = (-1) := eqI hs34 (iI_u (by decide))
      have ws34_73 : iI s34 73 = iI s33 73 := eqI hs34 rfl
      have ws34_74 : iI s34 74 = iI s33 74 := eqI hs34 rfl
      have ws34_77 : iI s34 77 = iI s33 77 := eqI hs34 rfl
      have ws34_75 : iI s34 75 = iI s33 75 := eqI hs34 rfl
      have ws34_79 : iI s34 79 = iI s33 79 := eqI hs34 rfl
      have ws34_78 : iI s34 78 = iI s33 78 := eqI hs34 rfl
      have ws34_86 : iI s34 86 = iI s33 86 := eqI hs34 rfl
      have ws34_87 : iI s34 87 = iI s33 87 := eqI hs34 rfl
      have ws34_81 : iI s34 81 = iI s33 81 := eqI hs34 rfl
      have ws34_83 : iI s34 83 = iI s33 83 := eqI hs34 rfl
      have ws34_85 : iI s34 85 = iI s33 85 := eqI hs34 rfl
      have ws34_82 : iI s34 82 = iI s33 82 := eqI hs34 rfl
      have ws34_84 : iI s34 84 = iI s33 84 := eqI hs34 rfl
      have aws34_158 : SAM 158 s s34 := by rw [hs34]; exact aws33_158
      have aws34_160 : SAM 160 s s34 := by rw [hs34]; exact aws33_160
      have aws34_159 : SAM 159 s s34 := by rw [hs34]; exact aws33_159
      have fs34 : Fm [88] [] s33 s34 := by rw [hs34]; exact fm_I (fm_rf _ _ _) (show 88 ∈ _ by decide)
      have JFDA_s34 : FDA B s34 := FDA_fm fs34 (by decide) JFDA_s33
      have JBs34 : FDB B x s34 := ⟨fda_n JFDA_s34 (by first | (clear hps20 g19 hps17; omega) | (clear g19 hps17; omega) | omega) (by first | (clear hps20 g19 hps17; omega) | (clear g19 hps17; omega) | omega), by first | (clear hps20 g19 hps17; omega) | (clear g19 hps17; omega) | omega, by first | (clear hps20 g19 hps17; omega) | (clear g19 hps17; omega) | omega⟩
      refine z_aload_n X (x := A 179) rfl (List.Mem.head _) (zcV_v1 X E 179 (As := []) (st := []) rfl rfl rfl rfl (k_blanks2 G Is34 JBs34 (by first | exact oq_1cee15ac ws34_77 ws33_77 ws32_77 hps25.2.1 | omega)) rfl (Nat.le_of_ble_eq_true rfl) (fun s35 Is35 Fs35 JFDB_s35 hps35 => ?_))
      have hps35p := And.intro hps35.1 (hps35.2.1)
      have Gs35 := fm_tq Fs34 Fs35 rfl rfl
      have JFDA_s35 : FDA B s35 := FDA_fm Fs35 (by decide) JFDA_s34
      have JFDB_s35 : FDB B x s35 := FDB_fm Fs35 (by decide) JBs34
      have ws35_73 : iI s35 73 = iI s34 73 := fm_iq Fs35 rfl
      have ws35_74 : iI s35 74 = iI s34 74 := fm_iq Fs35 rfl
      have b37 := bi_77 Is35
      have ws35_75 : iI s35 75 = iI s34 75 := fm_iq Fs35 rfl
      have ws35_79 : iI s35 79 = iI s34 79 := fm_iq Fs35 rfl
      have ws35_78 : iI s35 78 = iI s34 78 := fm_iq Fs35 rfl
      have ws35_86 : iI s35 86 = iI s34 86 := fm_iq Fs35 rfl
      have ws35_87 : iI s35 87 = iI s34 87 := fm_iq Fs35 rfl
      have ws35_88 : iI s35 88 = iI s34 88 := fm_iq Fs35 rfl
      have ws35_81 : iI s35 81 = iI s34 81 := fm_iq Fs35 rfl
      have ws35_83 : iI s35 83 = iI s34 83 := fm_iq Fs35 rfl
      have ws35_85 : iI s35 85 = iI s34 85 := fm_iq Fs35 rfl
      have ws35_82 : iI s35 82 = iI s34 82 := fm_iq Fs35 rfl
      have ws35_84 : iI s35 84 = iI s34 84 := fm_iq Fs35 rfl
      have aws35_158 : SAM 158 s s35 := sam_ts aws34_158 (sam_fm Fs35 (by decide))
      have aws35_160 : SAM 160 s s35 := sam_ts aws34_160 (sam_fm Fs35 (by decide))
      have aws35_159 : SAM 159 s s35 := sam_ts aws34_159 (sam_fm Fs35 (by decide))
      refine WS_pq [0, 1] (lv' := [(0, .ref (A 179)), (1, .int (Int32.ofInt x))]) rfl (L61 ((400 - iI s35 77 + (9 - iI s35 79) : Int).toNat + 1) s35 x Is35 Gs35 JFDA_s35 ⟨cho_0 (by first | (clear hps35 hps20 g19 hps17; omega) | (clear hps20 g19 hps17; omega) | omega) (by first | (clear hps35 hps20 g19 hps17; omega) | (clear hps20 g19 hps17; omega) | omega) (by rw [hps35.1, sk_sk, show iI s34 77 = 0 by first | (clear hps35 hps20 g19 hps17; omega) | (clear hps20 g19 hps17; omega) | omega]) (by first | (clear hps35 hps20 g19 hps17; omega) | (clear hps20 g19 hps17; omega) | omega), by rw [hps35.1]; exact sk_sk, aws35_158, aws35_159, Or.inr (by rw [show iI s35 86 = 0 by first | (clear hps35 hps20 g19 hps17; omega) | (clear hps20 g19 hps17; omega) | omega, show iI s35 87 = 0 by first | (clear hps35 hps20 g19 hps17; omega) | (clear hps20 g19 hps17; omega) | omega]; exact jmd_0)⟩ (by first | exact ⟨by decide, oq_d1c86cea b28.2 b28.1 hps25.1 g19 hps17 ws15_74, oq_d9a35dd1 ws35_74 ws34_74 ws33_74 ws32_74 ws25_74 vs24, oq_b4d295d9 ws35_75 hps25.1 ws34_75 ws33_75 ws32_75, oq_d0299403 ws35_78 ws34_78 ws33_78 ws32_78 hps25.2.2.1 b30.1, by first | (clear hps35 hps20 g19 hps17; omega) | (clear hps20 g19 hps17; omega) | omega, by first | (clear hps35 hps20 g19 hps17; omega) | (clear hps20 g19 hps17; omega) | omega, oq_606f3a06 ws35_87 ws35_86 ws34_87 ws34_86 ws33_86 vs33 vs32, oq_d0299403 ws35_81 ws34_81 ws33_81 ws32_81 hps25.2.2.2.2 b31.1, oq_ee6d0677 ws35_73 ws34_73 ws33_73 ws32_73 ws25_73 ws24_73 b22.1 hps20 vs15, oq_ea4036f5 ws35_85 ws34_85 ws33_85 ws32_85 ws25_85 ws24_85 ws20_85 ws15_85, oq_ea4036f5 ws35_82 ws34_82 ws33_82 ws32_82 ws25_82 ws24_82 ws20_82 ws15_82, oq_ea4036f5 ws35_84 ws34_84 ws33_84 ws32_84 ws25_84 ws24_84 ws20_84 ws15_84⟩ | omega) (Nat.lt_succ_self _) ?_)
      intro s38  Is38 Fs38 JFDA_s38 Qs38 hs38
      have b39 := bi_73 Is38
      have b40 := bi_74 Is38
      have b41 := bi_77 Is38
      have b42 := bi_75 Is38
      have b43 := bi_79 Is38
      have b44 := bi_78 Is38
      have b45 := bi_86 Is38
      have b46 := bi_87 Is38
      have b47 := bi_88 Is38
      have b48 := bi_81 Is38
      have b49 := bi_83 Is38
      have b50 := bi_85 Is38
      have b51 := bi_82 Is38
      have b52 := bi_84 Is38
      refine z_aload_n X (x := A 179) rfl (List.Mem.head _) (z_aload_n X (x := A 179) rfl (List.Mem.head _) (z_getI X 179 rfl (c518_ok rfl) rfl rfl ?_))
      have b53 := bi_80 Is38
      refine s_putI X 179 rfl (c518_ok rfl) rfl rfl (by decide) rfl rfl rfl (wd_gen (fun s54 hs54 => ?_))
      have Is54 : Bd s54 := eqB hs54 (bd_I Is38 (show ((-1) : Int) ≤ (iI s38 80) ∧ (iI s38 80) ≤ 400 by first | exact ⟨b53.1, b53.2⟩ | omega) (rng_to _))
      have Fs54 := eqF hs54 (fm_I Fs38 (inl_ok (a := 76) rfl))
      have vs54 : iI s54 76 = (iI s38 80) := eqI hs54 (iI_u (rng_to _))
      have ws54_73 : iI s54 73 = iI s38 73 := eqI hs54 rfl
      have ws54_74 : iI s54 74 = iI s38 74 := eqI hs54 rfl
      have ws54_77 : iI s54 77 = iI s38 77 := eqI hs54 rfl
      have ws54_75 : iI s54 75 = iI s38 75 := eqI hs54 rfl
      have ws54_79 : iI s54 79 = iI s38 79 := eqI hs54 rfl
      have ws54_78 : iI s54 78 = iI s38 78 := eqI hs54 rfl
      have ws54_86 : iI s54 86 = iI s38 86 := eqI hs54 rfl
      have ws54_87 : iI s54 87 = iI s38 87 := eqI hs54 rfl
      have ws54_88 : iI s54 88 = iI s38 88 := eqI hs54 rfl
      have ws54_81 : iI s54 81 = iI s38 81 := eqI hs54 rfl
      have ws54_83 : iI s54 83 = iI s38 83 := eqI hs54 rfl
      have ws54_85 : iI s54 85 = iI s38 85 := eqI hs54 rfl
      have ws54_82 : iI s54 82 = iI s38 82 := eqI hs54 rfl
      have ws54_84 : iI s54 84 = iI s38 84 := eqI hs54 rfl
      have aws54_158 : SAM 158 s38 s54 := by rw [hs54]; exact (sam_rf (a := 158) (s := s38))
      have aws54_160 : SAM 160 s38 s54 := by rw [hs54]; exact (sam_rf (a := 160) (s := s38))
      have aws54_159 : SAM 159 s38 s54 := by rw [hs54]; exact (sam_rf (a := 159) (s := s38))
      have fs54 : Fm [76] [] s38 s54 := by rw [hs54]; exact fm_I (fm_rf _ _ _) (show 76 ∈ _ by decide)
      have JFDA_s54 : FDA B s54 := FDA_fm fs54 (by decide) JFDA_s38
      refine z_aload_n X (x := A 179) rfl (List.Mem.head _) (z_getI X 179 rfl (c518_ok rfl) rfl rfl ?_)
      have b55 := bi_79 Is54
      refine z_if_eq X (t := 113) rfl rfl (rng_to _) (fun g56 => ?_) (fun g56 => ?_)
      ·
        refine z_const X rfl (z_store_n X (lv' := [(2, .int (Int32.ofInt 0)), (0, .ref (A 179)), (1, .int (Int32.ofInt x))]) rfl (by decide) (fun _ h => h) (WS_pq [1, 2, 0] (lv' := [(0, .ref (A 179)), (1, .int (Int32.ofInt x)), (2, .int (Int32.ofInt 0))]) rfl (L115 ((200 - 0 : Int).toNat + 1) s54 x 0 Is54 Fs54 JFDA_s54 ⟨by have z := cho_end Qs38.1 (by first | (clear hps35 hps20 g19 hps17; omega) | (clear hps20 g19 hps17; omega) | omega) (by first | (clear hps35 hps20 g19 hps17; omega) | (clear hps20 g19 hps17; omega) | omega) (by first | (clear hps35 hps20 g19 hps17; omega) | (clear hps20 g19 hps17; omega) | omega); rw [show iI s38 86 = iI s54 86 by first | (clear hps35 hps20 g19 hps17; omega) | (clear hps20 g19 hps17; omega) | omega, show iI s38 88 = iI s54 88 by first | (clear hps35 hps20 g19 hps17; omega) | (clear hps20 g19 hps17; omega) | omega] at z; exact z, fun j hj => absurd hj (by first | (clear hps35 hps20 g19 hps17; omega) | (clear hps20 g19 hps17; omega) | omega), by have z := Qs38.2.2.2.2.elim (fun z => absurd (by first | (clear hps35 hps20 g19 hps17; omega) | (clear hps20 g19 hps17; omega) | omega) z) id; rw [show iI s38 86 = iI s54 86 by first | (clear hps35 hps20 g19 hps17; omega) | (clear hps20 g19 hps17; omega) | omega, show iI s38 87 = iI s54 87 by first | (clear hps35 hps20 g19 hps17; omega) | (clear hps20 g19 hps17; omega) | omega] at z; exact jmd_s z aws54_160⟩ (by first | exact ⟨by decide, And.intro (hs38.2.1.1) (hs38.2.1.2.1), oq_333640b7 ws54_74 hs38.2.2.1 b40.1, by decide, by decide, oq_e7b9ecab ws54_86 ws54_87 hs38.2.2.2.2.2.2.2.1, oq_b1fe1193 ws54_75 b42.2, oq_333640b7 ws54_73 hs38.2.2.2.2.2.2.2.2.2.1 b39.1, hs38.2.1.2.2, g56⟩ | omega) (Nat.lt_succ_self _) ?_)))
        intro s57 x58 Is57 Fs57 JFDA_s57 Qs57 hs57
        have b59 := bi_73 Is57
        have b60 := bi_74 Is57
        have b61 := bi_77 Is57
        have b62 := bi_75 Is57
        have b63 := bi_79 Is57
        have b64 := bi_78 Is57
        have b65 := bi_86 Is57
        have b66 := bi_87 Is57
        have b67 := bi_88 Is57
        have b68 := bi_81 Is57
        have b69 := bi_83 Is57
        have b70 := bi_85 Is57
        have b71 := bi_82 Is57
        have b72 := bi_84 Is57
        refine z_aload_n X (x := A 179) rfl (List.Mem.head _) (z_load_n X (x := x) rfl (List.Mem.tail _ (List.Mem.head _)) (s_putI X 179 rfl (c518_ok rfl) rfl rfl (by decide) rfl rfl rfl (wd_gen (fun s73 hs73 => ?_))))
        have Is73 : Bd s73 := eqB hs73 (bd_I Is57 (show (0 : Int) ≤ x ∧ x ≤ 200 by first | exact ⟨hs57.2.1.1, hs57.2.2.2.2.2.2.2.2.1⟩ | omega) ⟨by first | exact p0.1 | omega, by first | exact p0.2 | omega⟩)
        have Fs73 := eqF hs73 (fm_I Fs57 (inl_ok (a := 82) rfl))
        have vs73 : iI s73 82 = x := eqI hs73 (iI_u ⟨by first | exact p0.1 | omega, by first | exact p0.2 | omega⟩)
        have ws73_73 : iI s73 73 = iI s57 73 := eqI hs73 rfl
        have ws73_74 : iI s73 74 = iI s57 74 := eqI hs73 rfl
        have ws73_77 : iI s73 77 = iI s57 77 := eqI hs73 rfl
        have ws73_75 : iI s73 75 = iI s57 75 := eqI hs73 rfl
        have ws73_79 : iI s73 79 = iI s57 79 := eqI hs73 rfl
        have ws73_78 : iI s73 78 = iI s57 78 := eqI hs73 rfl
        have ws73_86 : iI s73 86 = iI s57 86 := eqI hs73 rfl
        have ws73_87 : iI s73 87 = iI s57 87 := eqI hs73 rfl
        have ws73_88 : iI s73 88 = iI s57 88 := eqI hs73 rfl
        have ws73_81 : iI s73 81 = iI s57 81 := eqI hs73 rfl
        have ws73_83 : iI s73 83 = iI s57 83 := eqI hs73 rfl
        have ws73_85 : iI s73 85 = iI s57 85 := eqI hs73 rfl
        have ws73_84 : iI s73 84 = iI s57 84 := eqI hs73 rfl
        have aws73_158 : SAM 158 s57 s73 := by rw [hs73]; exact (sam_rf (a := 158) (s := s57))
        have aws73_160 : SAM 160 s57 s73 := by rw [hs73]; exact (sam_rf (a := 160) (s := s57))
        have aws73_159 : SAM 159 s57 s73 := by rw [hs73]; exact (sam_rf (a := 159) (s := s57))
        have fs73 : Fm [82] [] s57 s73 := by rw [hs73]; exact fm_I (fm_rf _ _ _) (show 82 ∈ _ by decide)
        have JFDA_s73 : FDA B s73 := FDA_fm fs73 (by decide) JFDA_s57
        refine z_aload_n X (x := A 179) rfl (List.Mem.head _) (z_aload_n X (x := A 179) rfl (List.Mem.head _) (z_getI X 179 rfl (c518_ok rfl) rfl rfl ?_))
        have b74 := bi_86 Is73
        refine s_putI X 179 rfl (c518_ok rfl) rfl rfl (by decide) rfl rfl rfl (wd_gen (fun s75 hs75 => ?_))
        have Is75 : Bd s75 := eqB hs75 (bd_I Is73 (show (0 : Int) ≤ (iI s73 86) ∧ (iI s73 86) ≤ 8 by first | exact ⟨b74.1, b74.2⟩ | omega) (rng_to _))
        have Fs75 := eqF hs75 (fm_I Fs73 (inl_ok (a := 83) rfl))
        have vs75 : iI s75 83 = (iI s73 86) := eqI hs75 (iI_u (rng_to _))
        have ws75_73 : iI s75 73 = iI s73 73 := eqI hs75 rfl
        have ws75_74 : iI s75 74 = iI s73 74 := eqI hs75 rfl
        have ws75_77 : iI s75 77 = iI s73 77 := eqI hs75 rfl
        have ws75_75 : iI s75 75 = iI s73 75 := eqI hs75 rfl
        have ws75_79 : iI s75 79 = iI s73 79 := eqI hs75 rfl
        have ws75_78 : iI s75 78 = iI s73 78 := eqI hs75 rfl
        have ws75_86 : iI s75 86 = iI s73 86 := eqI hs75 rfl
        have ws75_87 : iI s75 87 = iI s73 87 := eqI hs75 rfl
        have ws75_88 : iI s75 88 = iI s73 88 := eqI hs75 rfl
        have ws75_81 : iI s75 81 = iI s73 81 := eqI hs75 rfl
        have ws75_85 : iI s75 85 = iI s73 85 := eqI hs75 rfl
        have ws75_82 : iI s75 82 = iI s73 82 := eqI hs75 rfl
        have ws75_84 : iI s75 84 = iI s73 84 := eqI hs75 rfl
        have aws75_158 : SAM 158 s57 s75 := by rw [hs75]; exact aws73_158
        have aws75_160 : SAM 160 s57 s75 := by rw [hs75]; exact aws73_160
        have aws75_159 : SAM 159 s57 s75 := by rw [hs75]; exact aws73_159
        have fs75 : Fm [83] [] s73 s75 := by rw [hs75]; exact fm_I (fm_rf _ _ _) (show 83 ∈ _ by decide)
        have JFDA_s75 : FDA B s75 := FDA_fm fs75 (by decide) JFDA_s73
        refine z_aload_n X (x := A 179) rfl (List.Mem.head _) (z_aload_n X (x := A 179) rfl (List.Mem.head _) (z_getI X 179 rfl (c518_ok rfl) rfl rfl ?_))
        have b76 := bi_87 Is75
        refine s_putI X 179 rfl (c518_ok rfl) rfl rfl (by decide) rfl rfl rfl (wd_gen (fun s77 hs77 => ?_))
        have Is77 : Bd s77 := eqB hs77 (bd_I Is75 (show (0 : Int) ≤ (iI s75 87) ∧ (iI s75 87) ≤ 8 by first | exact ⟨b76.1, b76.2⟩ | omega) (rng_to _))
        have Fs77 := eqF hs77 (fm_I Fs75 (inl_ok (a := 84) rfl))
        have vs77 : iI s77 84 = (iI s75 87) := eqI hs77 (iI_u (rng_to _))
        have ws77_73 : iI s77 73 = iI s75 73 := eqI hs77 rfl
        have ws77_74 : iI s77 74 = iI s75 74 := eqI hs77 rfl
        have ws77_77 : iI s77 77 = iI s75 77 := eqI hs77 rfl
        have ws77_75 : iI s77 75 = iI s75 75 := eqI hs77 rfl
        have ws77_79 : iI s77 79 = iI s75 79 := eqI hs77 rfl
        have ws77_78 : iI s77 78 = iI s75 78 := eqI hs77 rfl
        have ws77_86 : iI s77 86 = iI s75 86 := eqI hs77 rfl
        have ws77_87 : iI s77 87 = iI s75 87 := eqI hs77 rfl
        have ws77_88 : iI s77 88 = iI s75 88 := eqI hs77 rfl
        have ws77_81 : iI s77 81 = iI s75 81 := eqI hs77 rfl
        have ws77_83 : iI s77 83 = iI s75 83 := eqI hs77 rfl
        have ws77_85 : iI s77 85 = iI s75 85 := eqI hs77 rfl
        have ws77_82 : iI s77 82 = iI s75 82 := eqI hs77 rfl
        have aws77_158 : SAM 158 s57 s77 := by rw [hs77]; exact aws75_158
        have aws77_160 : SAM 160 s57 s77 := by rw [hs77]; exact aws75_160
        have aws77_159 : SAM 159 s57 s77 := by rw [hs77]; exact aws75_159
        have fs77 : Fm [84] [] s75 s77 := by rw [hs77]; exact fm_I (fm_rf _ _ _) (show 84 ∈ _ by decide)
        have JFDA_s77 : FDA B s77 := FDA_fm fs77 (by decide) JFDA_s75
        refine z_aload_n X (x := A 179) rfl (List.Mem.head _) (z_aload_n X (x := A 179) rfl (List.Mem.head _) (z_getI X 179 rfl (c518_ok rfl) rfl rfl ?_))
        have b78 := bi_88 Is77
        refine s_putI X 179 rfl (c518_ok rfl) rfl rfl (by decide) rfl rfl rfl (wd_gen (fun s79 hs79 => ?_))
        have Is79 : Bd s79 := eqB hs79 (bd_I Is77 (show ((-1) : Int) ≤ (iI s77 88) ∧ (iI s77 88) ≤ 200 by first | exact ⟨b78.1, b78.2⟩ | omega) (rng_to _))
        have Fs79 := eqF hs79 (fm_I Fs77 (inl_ok (a := 85) rfl))
        have vs79 : iI s79 85 = (iI s77 88) := eqI hs79 (iI_u (rng_to _))
        have ws79_73 : iI s79 73 = iI s77 73 := eqI hs79 rfl
        have ws79_74 : iI s79 74 = iI s77 74 := eqI hs79 rfl
        have ws79_77 : iI s79 77 = iI s77 77 := eqI hs79 rfl
        have ws79_75 : iI s79 75 = iI s77 75 := eqI hs79 rfl
        have ws79_79 : iI s79 79 = iI s77 79 := eqI hs79 rfl
        have ws79_78 : iI s79 78 = iI s77 78 := eqI hs79 rfl
        have ws79_86 : iI s79 86 = iI s77 86 := eqI hs79 rfl
        have ws79_87 : iI s79 87 = iI s77 87 := eqI hs79 rfl
        have ws79_88 : iI s79 88 = iI s77 88 := eqI hs79 rfl
        have ws79_81 : iI s79 81 = iI s77 81 := eqI hs79 rfl
        have ws79_83 : iI s79 83 = iI s77 83 := eqI hs79 rfl
        have ws79_82 : iI s79 82 = iI s77 82 := eqI hs79 rfl
        have ws79_84 : iI s79 84 = iI s77 84 := eqI hs79 rfl
        have aws79_158 : SAM 158 s57 s79 := by rw [hs79]; exact aws77_158
        have aws79_160 : SAM 160 s57 s79 := by rw [hs79]; exact aws77_160
        have aws79_159 : SAM 159 s57 s79 := by rw [hs79]; exact aws77_159
        have fs79 : Fm [85] [] s77 s79 := by rw [hs79]; exact fm_I (fm_rf _ _ _) (show 85 ∈ _ by decide)
        have JFDA_s79 : FDA B s79 := FDA_fm fs79 (by decide) JFDA_s77
        refine z_const X rfl (z_store_n X (lv' := [(2, .int (Int32.ofInt 0)), (0, .ref (A 179)), (1, .int (Int32.ofInt x))]) rfl (by decide) (fun _ h => h) (WS_pq [1, 2, 0] (lv' := [(0, .ref (A 179)), (1, .int (Int32.ofInt x)), (2, .int (Int32.ofInt 0))]) rfl (L169 ((8 - 0 : Int).toNat + 1) s79 x 0 Is79 Fs79 JFDA_s79 ⟨by rw [show iI s79 83 = iI s57 86 by first | (clear hps35 hps20 g19 hps17; omega) | (clear hps20 g19 hps17; omega) | omega, show iI s79 85 = iI s57 88 by first | (clear hps35 hps20 g19 hps17; omega) | (clear hps20 g19 hps17; omega) | omega]; exact Qs57.1, by first | (clear hps35 hps20 g19 hps17; omega) | (clear hps20 g19 hps17; omega) | omega, fun j hj => (aws79_158 j).trans (Qs57.2.1 j (by first | (clear hps35 hps20 g19 hps17; omega) | (clear hps20 g19 hps17; omega) | omega)), by rw [show iI s79 83 = iI s57 86 by first | (clear hps35 hps20 g19 hps17; omega) | (clear hps20 g19 hps17; omega) | omega, show iI s79 84 = iI s57 87 by first | (clear hps35 hps20 g19 hps17; omega) | (clear hps20 g19 hps17; omega) | omega]; exact jmd_s Qs57.2.2 aws79_160, fun k hk => absurd hk (by first | (clear hps35 hps20 g19 hps17; omega) | (clear hps20 g19 hps17; omega) | omega)⟩ (by first | exact ⟨by decide, And.intro (hs57.2.1.1) (hs57.2.1.2), oq_d0299403 ws79_74 ws77_74 ws75_74 ws73_74 hs57.2.2.1 b60.1, by decide, by decide, oq_d0299403 ws79_73 ws77_73 ws75_73 ws73_73 hs57.2.2.2.2.2.2.2.1 b59.1, oq_ac0e91e1 ws79_82 ws77_82 ws75_82 vs73⟩ | omega) (Nat.lt_succ_self _) ?_)))
        intro s80 x81 Is80 Fs80 JFDA_s80 Qs80 hs80
        have b82 := bi_73 Is80
        have b83 := bi_74 Is80
        have b84 := bi_77 Is80
        have b85 := bi_75 Is80
        have b86 := bi_79 Is80
        have b87 := bi_78 Is80
        have b88 := bi_86 Is80
        have b89 := bi_87 Is80
        have b90 := bi_88 Is80
        have b91 := bi_81 Is80
        have b92 := bi_83 Is80
        have b93 := bi_85 Is80
        have b94 := bi_82 Is80
        have b95 := bi_84 Is80
        refine z_aload_n X (x := A 179) rfl (List.Mem.head _) (z_getI X 179 rfl (c518_ok rfl) rfl rfl ?_)
        have b96 := bi_83 Is80
        exact w_iret X.1 q hRt rfl (ax_d X (show cdA 214 199 = some (.ireturn, 1, 0, 0, 0) from rfl)) (Nat.zero_le _) (Nat.zero_le _) ⟨_, rfl, Is80, Fs80, JFDA_s80, (iI s80 83), rfl, (rng_to _), Or.inl ⟨by first | exact hs80.2.1.1 | omega, by first | exact hs80.2.1.2 | omega, by first | exact hs80.2.2.1 | omega, by first | exact hs80.2.2.2.2.2.1 | omega, Or.inl ⟨by first | exact b96.1 | omega, by have h := Qs80; rw [show iI s80 83 = (iI s80 83) by first | (clear hps35 hps20 g19 hps17; omega) | (clear hps20 g19 hps17; omega) | omega] at h; obtain ⟨⟨k, c, h1⟩, h2, h3, h4, h5⟩ := h; exact ⟨⟨k, c, h1, h2, h3⟩, mjb_of h4 rfl (fun k hk => h5 k (by first | (clear hps35 hps20 g19 hps17; omega) | (clear hps20 g19 hps17; omega) | omega))⟩⟩⟩⟩
      ·
        refine z_aload_n X (x := A 179) rfl (List.Mem.head _) (z_getI X 179 rfl (c518_ok rfl) rfl rfl ?_)
        have b97 := bi_79 Is54
        refine z_bipush X rfl (z_sub X rfl ?_)
        exact w_iret X.1 q hRt rfl (ax_d X (show cdA 214 112 = some (.ireturn, 1, 0, 0, 0) from rfl)) (Nat.zero_le _) (Nat.zero_le _) ⟨_, rfl, Is54, Fs54, JFDA_s54, ((iI s54 79) - 10), rfl, ⟨by first | exact oq_d3c9ade5 b97.1 | omega, by first | exact oq_71609f9f b97.2 | omega⟩, Or.inl ⟨by first | exact hs38.2.1.1 | omega, by first | exact hs38.2.1.2.1 | omega, by first | exact oq_333640b7 ws54_74 hs38.2.2.1 b40.1 | omega, by first | exact oq_333640b7 ws54_73 hs38.2.2.2.2.2.2.2.2.2.1 b39.1 | omega, Or.inr ⟨by first | exact oq_a634ad6e b97.2 | omega, cho_bad Qs38.1 ⟨by first | (clear g56 hps35 hps20 g19 hps17; omega) | (clear hps35 hps20 g19 hps17; omega) | omega, by first | (clear g56 hps35 hps20 g19 hps17; omega) | (clear hps35 hps20 g19 hps17; omega) | omega⟩, by first | exact oq_1aa5be9e ws54_85 hs38.2.2.2.2.2.2.2.2.2.2.1 | omega, by first | exact oq_1aa5be9e ws54_82 hs38.2.2.2.2.2.2.2.2.2.2.2.1 | omega, by first | exact oq_1aa5be9e ws54_84 hs38.2.2.2.2.2.2.2.2.2.2.2.2.1 | omega, sam_ts Qs38.2.2.1 aws54_158, sam_ts Qs38.2.2.2.1 aws54_159⟩⟩⟩
    ·
      refine z_const X rfl ?_
      exact w_iret X.1 q hRt rfl (ax_d X (show cdA 214 31 = some (.ireturn, 1, 0, 0, 0) from rfl)) (Nat.zero_le _) (Nat.zero_le _) ⟨_, rfl, Is20, Gs20, JFDA_s20, 0, rfl, (by decide), Or.inr ⟨by first | exact oq_01116dcd g23 hps20 vs15 | omega, by first | exact oq_1aa5be9e ws20_74 ws15_74 | omega, by first | exact oq_df0d149a g23 hps20 vs15 | omega, by first | exact oq_1aa5be9e ws20_85 ws15_85 | omega, by first | exact oq_1aa5be9e ws20_82 ws15_82 | omega, by first | exact oq_1aa5be9e ws20_84 ws15_84 | omega, aws20_158, aws20_159⟩⟩
  ·
    refine z_const X rfl (z_goto X (t := 23) rfl rfl (z_const X rfl (zcV_i0 X E 179 (As := [.int (Int32.ofInt 1), .int (Int32.ofInt 1)]) (st := []) rfl rfl rfl rfl (k_bad2 G Is15 (by first | exact Or.inr (by decide) | omega) (by first | exact ⟨by decide, by decide⟩ | omega)) rfl (Nat.le_of_ble_eq_true rfl) (fun s98 e99 Is98 Fs98 hrs98 hps98 => ?_))))
    have Gs98 := fm_tq Fs15 Fs98 rfl rfl
    have JFDA_s98 : FDA B s98 := FDA_fm Fs98 (by decide) JFDA_s15
    have b100 := bi_73 Is98
    have ws98_74 : iI s98 74 = iI s15 74 := fm_iq Fs98 rfl
    have ws98_77 : iI s98 77 = iI s15 77 := fm_iq Fs98 rfl
    have ws98_75 : iI s98 75 = iI s15 75 := fm_iq Fs98 rfl
    have ws98_79 : iI s98 79 = iI s15 79 := fm_iq Fs98 rfl
    have ws98_78 : iI s98 78 = iI s15 78 := fm_iq Fs98 rfl
    have ws98_86 : iI s98 86 = iI s15 86 := fm_iq Fs98 rfl
    have ws98_87 : iI s98 87 = iI s15 87 := fm_iq Fs98 rfl
    have ws98_88 : iI s98 88 = iI s15 88 := fm_iq Fs98 rfl
    have ws98_81 : iI s98 81 = iI s15 81 := fm_iq Fs98 rfl
    have ws98_83 : iI s98 83 = iI s15 83 := fm_iq Fs98 rfl
    have ws98_85 : iI s98 85 = iI s15 85 := fm_iq Fs98 rfl
    have ws98_82 : iI s98 82 = iI s15 82 := fm_iq Fs98 rfl
    have ws98_84 : iI s98 84 = iI s15 84 := fm_iq Fs98 rfl
    have aws98_158 : SAM 158 s s98 := sam_ts aws15_158 (sam_fm Fs98 (by decide))
    have aws98_160 : SAM 160 s s98 := sam_ts aws15_160 (sam_fm Fs98 (by decide))
    have aws98_159 : SAM 159 s s98 := sam_ts aws15_159 (sam_fm Fs98 (by decide))
    refine z_if_eq X (t := 32) rfl rfl hrs98 (fun g101 => ?_) (fun g101 => ?_)
    ·
      refine z_aload_n X (x := A 179) rfl (List.Mem.head _) (z_const X rfl (s_putI X 179 rfl (c518_ok rfl) rfl rfl (by decide) rfl rfl rfl (wd_gen (fun s102 hs102 => ?_))))
      have Is102 : Bd s102 := eqB hs102 (bd_I Is98 (show (0 : Int) ≤ 0 ∧ 0 ≤ 200 by first | exact ⟨by decide, by decide⟩ | omega) (by decide))
      have Fs102 := eqF hs102 (fm_I Gs98 (inl_ok (a := 74) rfl))
      have vs102 : iI s102 74 = 0 := eqI hs102 (iI_u (by decide))
      have ws102_73 : iI s102 73 = iI s98 73 := eqI hs102 rfl
      have ws102_77 : iI s102 77 = iI s98 77 := eqI hs102 rfl
      have ws102_75 : iI s102 75 = iI s98 75 := eqI hs102 rfl
      have ws102_79 : iI s102 79 = iI s98 79 := eqI hs102 rfl
      have ws102_78 : iI s102 78 = iI s98 78 := eqI hs102 rfl
      have ws102_86 : iI s102 86 = iI s98 86 := eqI hs102 rfl
      have ws102_87 : iI s102 87 = iI s98 87 := eqI hs102 rfl
      have ws102_88 : iI s102 88 = iI s98 88 := eqI hs102 rfl
      have ws102_81 : iI s102 81 = iI s98 81 := eqI hs102 rfl
      have ws102_83 : iI s102 83 = iI s98 83 := eqI hs102 rfl
      have ws102_85 : iI s102 85 = iI s98 85 := eqI hs102 rfl
      have ws102_82 : iI s102 82 = iI s98 82 := eqI hs102 rfl
      have ws102_84 : iI s102 84 = iI s98 84 := eqI hs102 rfl
      have aws102_158 : SAM 158 s s102 := by rw [hs102]; exact aws98_158
      have aws102_160 : SAM 160 s s102 := by rw [hs102]; exact aws98_160
      have aws102_159 : SAM 159 s s102 := by rw [hs102]; exact aws98_159
      have fs102 : Fm [74] [] s98 s102 := by rw [hs102]; exact fm_I (fm_rf _ _ _) (show 74 ∈ _ by decide)
      have JFDA_s102 : FDA B s102 := FDA_fm fs102 (by decide) JFDA_s98
      refine z_aload_n X (x := A 179) rfl (List.Mem.head _) (z_load_n X (x := x) rfl (List.Mem.tail _ (List.Mem.head _)) (zcV_v0 X E 179 (As := [.int (Int32.ofInt x)]) (st := []) rfl rfl rfl rfl (k_beginText2 G Is102 (by first | exact ⟨oq_674898f9 g101 hps98 vs15, oq_fd1fe449 g101 hps98 vs15⟩ | omega)) rfl (Nat.le_of_ble_eq_true rfl) (fun s103 Is103 Fs103 hps103 => ?_)))
      have Gs103 := fm_tq Fs102 Fs103 rfl rfl
      have JFDA_s103 : FDA B s103 := FDA_fm Fs103 (by decide) JFDA_s102
      have ws103_73 : iI s103 73 = iI s102 73 := fm_iq Fs103 rfl
      have ws103_74 : iI s103 74 = iI s102 74 := fm_iq Fs103 rfl
      have b105 := bi_77 Is103
      have b106 := bi_75 Is103
      have b107 := bi_79 Is103
      have b108 := bi_78 Is103
      have ws103_86 : iI s103 86 = iI s102 86 := fm_iq Fs103 rfl
      have ws103_87 : iI s103 87 = iI s102 87 := fm_iq Fs103 rfl
      have ws103_88 : iI s103 88 = iI s102 88 := fm_iq Fs103 rfl
      have b109 := bi_81 Is103
      have ws103_83 : iI s103 83 = iI s102 83 := fm_iq Fs103 rfl
      have ws103_85 : iI s103 85 = iI s102 85 := fm_iq Fs103 rfl
      have ws103_82 : iI s103 82 = iI s102 82 := fm_iq Fs103 rfl
      have ws103_84 : iI s103 84 = iI s102 84 := fm_iq Fs103 rfl
      have aws103_158 : SAM 158 s s103 := sam_ts aws102_158 (sam_fm Fs103 (by decide))
      have aws103_160 : SAM 160 s s103 := sam_ts aws102_160 (sam_fm Fs103 (by decide))
      have aws103_159 : SAM 159 s s103 := sam_ts aws102_159 (sam_fm Fs103 (by decide))
      refine z_aload_n X (x := A 179) rfl (List.Mem.head _) (z_const X rfl (s_putI X 179 rfl (c518_ok rfl) rfl rfl (by decide) rfl rfl rfl (wd_gen (fun s110 hs110 => ?_))))
      have Is110 : Bd s110 := eqB hs110 (bd_I Is103 (show (0 : Int) ≤ 0 ∧ 0 ≤ 8 by first | exact ⟨by decide, by decide⟩ | omega) (by decide))
      have Fs110 := eqF hs110 (fm_I Gs103 (inl_ok (a := 86) rfl))
      have vs110 : iI s110 86 = 0 := eqI hs110 (iI_u (by decide))
      have ws110_73 : iI s110 73 = iI s103 73 := eqI hs110 rfl
      have ws110_74 : iI s110 74 = iI s103 74 := eqI hs110 rfl
      have ws110_77 : iI s110 77 = iI s103 77 := eqI hs110 rfl
      have ws110_75 : iI s110 75 = iI s103 75 := eqI hs110 rfl
      have ws110_79 : iI s110 79 = iI s103 79 := eqI hs110 rfl
      have ws110_78 : iI s110 78 = iI s103 78 := eqI hs110 rfl
      have ws110_87 : iI s110 87 = iI s103 87 := eqI hs110 rfl
      have ws110_88 : iI s110 88 = iI s103 88 := eqI hs110 rfl
      have ws110_81 : iI s110 81 = iI s103 81 := eqI hs110 rfl
      have ws110_83 : iI s110 83 = iI s103 83 := eqI hs110 rfl
      have ws110_85 : iI s110 85 = iI s103 85 := eqI hs110 rfl
      have ws110_82 : iI s110 82 = iI s103 82 := eqI hs110 rfl
      have ws110_84 : iI s110 84 = iI s103 84 := eqI hs110 rfl
      have aws110_158 : SAM 158 s s110 := by rw [hs110]; exact aws103_158
      have aws110_160 : SAM 160 s s110 := by rw [hs110]; exact aws103_160
      have aws110_159 : SAM 159 s s110 := by rw [hs110]; exact aws103_159
      have fs110 : Fm [86] [] s103 s110 := by rw [hs110]; exact fm_I (fm_rf _ _ _) (show 86 ∈ _ by decide)
      have JFDA_s110 : FDA B s110 := FDA_fm fs110 (by decide) JFDA_s103
      refine z_aload_n X (x := A 179) rfl (List.Mem.head _) (z_const X rfl (s_putI X 179 rfl (c518_ok rfl) rfl rfl (by decide) rfl rfl rfl (wd_gen (fun s111 hs111 => ?_))))
      have Is111 : Bd s111 := eqB hs111 (bd_I Is110 (show (0 : Int) ≤ 0 ∧ 0 ≤ 8 by first | exact ⟨by decide, by decide⟩ | omega) (by decide))
      have Fs111 := eqF hs111 (fm_I Fs110 (inl_ok (a := 87) rfl))
      have vs111 : iI s111 87 = 0 := eqI hs111 (iI_u (by decide))
      have ws111_73 : iI s111 73 = iI s110 73 := eqI hs111 rfl
      have ws111_74 : iI s111 74 = iI s110 74 := eqI hs111 rfl
      have ws111_77 : iI s111 77 = iI s110 77 := eqI hs111 rfl
      have ws111_75 : iI s111 75 = iI s110 75 := eqI hs111 rfl
      have ws111_79 : iI s111 79 = iI s110 79 := eqI hs111 rfl
      have ws111_78 : iI s111 78 = iI s110 78 := eqI hs111 rfl
      have ws111_86 : iI s111 86 = iI s110 86 := eqI hs111 rfl
      have ws111_88 : iI s111 88 = iI s110 88 := eqI hs111 rfl
      have ws111_81 : iI s111 81 = iI s110 81 := eqI hs111 rfl
      have ws111_83 : iI s111 83 = iI s110 83 := eqI hs111 rfl
      have ws111_85 : iI s111 85 = iI s110 85 := eqI hs111 rfl
      have ws111_82 : iI s111 82 = iI s110 82 := eqI hs111 rfl
      have ws111_84 : iI s111 84 = iI s110 84 := eqI hs111 rfl
      have aws111_158 : SAM 158 s s111 := by rw [hs111]; exact aws110_158
      have aws111_160 : SAM 160 s s111 := by rw [hs111]; exact aws110_160
      have aws111_159 : SAM 159 s s111 := by rw [hs111]; exact aws110_159
      have fs111 : Fm [87] [] s110 s111 := by rw [hs111]; exact fm_I (fm_rf _ _ _) (show 87 ∈ _ by decide)
      have JFDA_s111 : FDA B s111 := FDA_fm fs111 (by decide) JFDA_s110
      refine z_aload_n X (x := A 179) rfl (List.Mem.head _) (z_const X rfl (s_putI X 179 rfl (c518_ok rfl) rfl rfl (by decide) rfl rfl rfl (wd_gen (fun s112 hs112 => ?_))))
      have Is112 : Bd s112 := eqB hs112 (bd_I Is111 (show ((-1) : Int) ≤ (-1) ∧ (-1) ≤ 200 by first | exact ⟨by decide, by decide⟩ | omega) (by decide))
      have Fs112 := eqF hs112 (fm_I Fs111 (inl_ok (a := 88) rfl))
      have vs112 : iI s112 88 = (-1) := eqI hs112 (iI_u (by decide))
      have ws112_73 : iI s112 73 = iI s111 73 := eqI hs112 rfl
      have ws112_74 : iI s112 74 = iI s111 74 := eqI hs112 rfl
      have ws112_77 : iI s112 77 = iI s111 77 := eqI hs112 rfl
      have ws112_75 : iI s112 75 = iI s111 75 := eqI hs112 rfl
      have ws112_79 : iI s112 79 = iI s111 79 := eqI hs112 rfl
      have ws112_78 : iI s112 78 = iI s111 78 := eqI hs112 rfl
      have ws112_86 : iI s112 86 = iI s111 86 := eqI hs112 rfl
      have ws112_87 : iI s112 87 = iI s111 87 := eqI hs112 rfl
      have ws112_81 : iI s112 81 = iI s111 81 := eqI hs112 rfl
      have ws112_83 : iI s112 83 = iI s111 83 := eqI hs112 rfl
      have ws112_85 : iI s112 85 = iI s111 85 := eqI hs112 rfl
      have ws112_82 : iI s112 82 = iI s111 82 := eqI hs112 rfl
      have ws112_84 : iI s112 84 = iI s111 84 := eqI hs112 rfl
      have aws112_158 : SAM 158 s s112 := by rw [hs112]; exact aws111_158
      have aws112_160 : SAM 160 s s112 := by rw [hs112]; exact aws111_160
      have aws112_159 : SAM 159 s s112 := by rw [hs112]; exact aws111_159
      have fs112 : Fm [88] [] s111 s112 := by rw [hs112]; exact fm_I (fm_rf _ _ _) (show 88 ∈ _ by decide)
      have JFDA_s112 : FDA B s112 := FDA_fm fs112 (by decide) JFDA_s111
      have JBs112 : FDB B x s112 := ⟨fda_n JFDA_s112 (by first | (clear hps98 hps17; omega) | (clear hps17; omega) | omega) (by first | (clear hps98 hps17; omega) | (clear hps17; omega) | omega), by first | (clear hps98 hps17; omega) | (clear hps17; omega) | omega, by first | (clear hps98 hps17; omega) | (clear hps17; omega) | omega⟩
      refine z_aload_n X (x := A 179) rfl (List.Mem.head _) (zcV_v1 X E 179 (As := []) (st := []) rfl rfl rfl rfl (k_blanks2 G Is112 JBs112 (by first | exact oq_1cee15ac ws112_77 ws111_77 ws110_77 hps103.2.1 | omega)) rfl (Nat.le_of_ble_eq_true rfl) (fun s113 Is113 Fs113 JFDB_s113 hps113 => ?_))
      have hps113p := And.intro hps113.1 (hps113.2.1)
      have Gs113 := fm_tq Fs112 Fs113 rfl rfl
      have JFDA_s113 : FDA B s113 := FDA_fm Fs113 (by decide) JFDA_s112
      have JFDB_s113 : FDB B x s113 := FDB_fm Fs113 (by decide) JBs112
      have ws113_73 : iI s113 73 = iI s112 73 := fm_iq Fs113 rfl
      have ws113_74 : iI s113 74 = iI s112 74 := fm_iq Fs113 rfl
      have b115 := bi_77 Is113
      have ws113_75 : iI s113 75 = iI s112 75 := fm_iq Fs113 rfl
      have ws113_79 : iI s113 79 = iI s112 79 := fm_iq Fs113 rfl
      have ws113_78 : iI s113 78 = iI s112 78 := fm_iq Fs113 rfl
      have ws113_86 : iI s113 86 = iI s112 86 := fm_iq Fs113 rfl
      have ws113_87 : iI s113 87 = iI s112 87 := fm_iq Fs113 rfl
      have ws113_88 : iI s113 88 = iI s112 88 := fm_iq Fs113 rfl
      have ws113_81 : iI s113 81 = iI s112 81 := fm_iq Fs113 rfl
      have ws113_83 : iI s113 83 = iI s112 83 := fm_iq Fs113 rfl
      have ws113_85 : iI s113 85 = iI s112 85 := fm_iq Fs113 rfl
      have ws113_82 : iI s113 82 = iI s112 82 := fm_iq Fs113 rfl
      have ws113_84 : iI s113 84 = iI s112 84 := fm_iq Fs113 rfl
      have aws113_158 : SAM 158 s s113 := sam_ts aws112_158 (sam_fm Fs113 (by decide))
      have aws113_160 : SAM 160 s s113 := sam_ts aws112_160 (sam_fm Fs113 (by decide))
      have aws113_159 : SAM 159 s s113 := sam_ts aws112_159 (sam_fm Fs113 (by decide))
      refine WS_pq [0, 1] (lv' := [(0, .ref (A 179)), (1, .int (Int32.ofInt x))]) rfl (L61 ((400 - iI s113 77 + (9 - iI s113 79) : Int).toNat + 1) s113 x Is113 Gs113 JFDA_s113 ⟨cho_0 (by first | (clear hps113 hps98 hps17; omega) | (clear hps98 hps17; omega) | omega) (by first | (clear hps113 hps98 hps17; omega) | (clear hps98 hps17; omega) | omega) (by rw [hps113.1, sk_sk, show iI s112 77 = 0 by first | (clear hps113 hps98 hps17; omega) | (clear hps98 hps17; omega) | omega]) (by first | (clear hps113 hps98 hps17; omega) | (clear hps98 hps17; omega) | omega), by rw [hps113.1]; exact sk_sk, aws113_158, aws113_159, Or.inr (by rw [show iI s113 86 = 0 by first | (clear hps113 hps98 hps17; omega) | (clear hps98 hps17; omega) | omega, show iI s113 87 = 0 by first | (clear hps113 hps98 hps17; omega) | (clear hps98 hps17; omega) | omega]; exact jmd_0)⟩ (by first | exact ⟨by decide, oq_607845ef g101 hps98 vs15, oq_d9a35dd1 ws113_74 ws112_74 ws111_74 ws110_74 ws103_74 vs102, oq_b4d295d9 ws113_75 hps103.1 ws112_75 ws111_75 ws110_75, oq_d0299403 ws113_78 ws112_78 ws111_78 ws110_78 hps103.2.2.1 b108.1, oq_1f30bbcd g101 hps98 vs15, oq_bd3ae47d g101 hps98 vs15, oq_606f3a06 ws113_87 ws113_86 ws112_87 ws112_86 ws111_86 vs111 vs110, oq_d0299403 ws113_81 ws112_81 ws111_81 ws110_81 hps103.2.2.2.2 b109.1, oq_12537a21 ws113_73 ws112_73 ws111_73 ws110_73 ws103_73 ws102_73 g101 b100.1 hps98 vs15, oq_ea4036f5 ws113_85 ws112_85 ws111_85 ws110_85 ws103_85 ws102_85 ws98_85 ws15_85, oq_ea4036f5 ws113_82 ws112_82 ws111_82 ws110_82 ws103_82 ws102_82 ws98_82 ws15_82, oq_ea4036f5 ws113_84 ws112_84 ws111_84 ws110_84 ws103_84 ws102_84 ws98_84 ws15_84⟩ | omega) (Nat.lt_succ_self _) ?_)
      intro s116  Is116 Fs116 JFDA_s116 Qs116 hs116
      have b117 := bi_73 Is116
      have b118 := bi_74 Is116
      have b119 := bi_77 Is116
      have b120 := bi_75 Is116
      have b121 := bi_79 Is116
      have b122 := bi_78 Is116
      have b123 := bi_86 Is116
      have b124 := bi_87 Is116
      have b125 := bi_88 Is116
      have b126 := bi_81 Is116
      have b127 := bi_83 Is116
      have b128 := bi_85 Is116
      have b129 := bi_82 Is116
      have b130 := bi_84 Is116
      refine z_aload_n X (x := A 179) rfl (List.Mem.head _) (z_aload_n X (x := A 179) rfl (List.Mem.head _) (z_getI X 179 rfl (c518_ok rfl) rfl rfl ?_))
      have b131 := bi_80 Is116
      refine s_putI X 179 rfl (c518_ok rfl) rfl rfl (by decide) rfl rfl rfl (wd_gen (fun s132 hs132 => ?_))
      have Is132 : Bd s132 := eqB hs132 (bd_I Is116 (show ((-1) : Int) ≤ (iI s116 80) ∧ (iI s116 80) ≤ 400 by first | exact ⟨b131.1, b131.2⟩ | omega) (rng_to _))
      have Fs132 := eqF hs132 (fm_I Fs116 (inl_ok (a := 76) rfl))
      have vs132 : iI s132 76 = (iI s116 80) := eqI hs132 (iI_u (rng_to _))
      have ws132_73 : iI s132 73 = iI s116 73 := eqI hs132 rfl
      have ws132_74 : iI s132 74 = iI s116 74 := eqI hs132 rfl
      have ws132_77 : iI s132 77 = iI s116 77 := eqI hs132 rfl
      have ws132_75 : iI s132 75 = iI s116 75 := eqI hs132 rfl
      have ws132_79 : iI s132 79 = iI s116 79 := eqI hs132 rfl
      have ws132_78 : iI s132 78 = iI s116 78 := eqI hs132 rfl
      have ws132_86 : iI s132 86 = iI s116 86 := eqI hs132 rfl
      have ws132_87 : iI s132 87 = iI s116 87 := eqI hs132 rfl
      have ws132_88 : iI s132 88 = iI s116 88 := eqI hs132 rfl
      have ws132_81 : iI s132 81 = iI s116 81 := eqI hs132 rfl
      have ws132_83 : iI s132 83 = iI s116 83 := eqI hs132 rfl
      have ws132_85 : iI s132 85 = iI s116 85 := eqI hs132 rfl
      have ws132_82 : iI s132 82 = iI s116 82 := eqI hs132 rfl
      have ws132_84 : iI s132 84 = iI s116 84 := eqI hs132 rfl
      have aws132_158 : SAM 158 s116 s132 := by rw [hs132]; exact (sam_rf (a := 158) (s := s116))
      have aws132_160 : SAM 160 s116 s132 := by rw [hs132]; exact (sam_rf (a := 160) (s := s116))
      have aws132_159 : SAM 159 s116 s132 := by rw [hs132]; exact (sam_rf (a := 159) (s := s116))
      have fs132 : Fm [76] [] s116 s132 := by rw [hs132]; exact fm_I (fm_rf _ _ _) (show 76 ∈ _ by decide)
      have JFDA_s132 : FDA B s132 := FDA_fm fs132 (by decide) JFDA_s116
      refine z_aload_n X (x := A 179) rfl (List.Mem.head _) (z_getI X 179 rfl (c518_ok rfl) rfl rfl ?_)
      have b133 := bi_79 Is132
      refine z_if_eq X (t := 113) rfl rfl (rng_to _) (fun g134 => ?_) (fun g134 => ?_)
      ·
        refine z_const X rfl (z_store_n X (lv' := [(2, .int (Int32.ofInt 0)), (0, .ref (A 179)), (1, .int (Int32.ofInt x))]) rfl (by decide) (fun _ h => h) (WS_pq [1, 2, 0] (lv' := [(0, .ref (A 179)), (1, .int (Int32.ofInt x)), (2, .int (Int32.ofInt 0))]) rfl (L115 ((200 - 0 : Int).toNat + 1) s132 x 0 Is132 Fs132 JFDA_s132 ⟨by have z := cho_end Qs116.1 (by first | (clear hps113 hps98 hps17; omega) | (clear hps98 hps17; omega) | omega) (by first | (clear hps113 hps98 hps17; omega) | (clear hps98 hps17; omega) | omega) (by first | (clear hps113 hps98 hps17; omega) | (clear hps98 hps17; omega) | omega); rw [show iI s116 86 = iI s132 86 by first | (clear hps113 hps98 hps17; omega) | (clear hps98 hps17; omega) | omega, show iI s116 88 = iI s132 88 by first | (clear hps113 hps98 hps17; omega) | (clear hps98 hps17; omega) | omega] at z; exact z, fun j hj => absurd hj (by first | (clear hps113 hps98 hps17; omega) | (clear hps98 hps17; omega) | omega), by have z := Qs116.2.2.2.2.elim (fun z => absurd (by first | (clear hps113 hps98 hps17; omega) | (clear hps98 hps17; omega) | omega) z) id; rw [show iI s116 86 = iI s132 86 by first | (clear hps113 hps98 hps17; omega) | (clear hps98 hps17; omega) | omega, show iI s116 87 = iI s132 87 by first | (clear hps113 hps98 hps17; omega) | (clear hps98 hps17; omega) | omega] at z; exact jmd_s z aws132_160⟩ (by first | exact ⟨by decide, And.intro (hs116.2.1.1) (hs116.2.1.2.1), oq_333640b7 ws132_74 hs116.2.2.1 b118.1, by decide, by decide, oq_e7b9ecab ws132_86 ws132_87 hs116.2.2.2.2.2.2.2.1, oq_b1fe1193 ws132_75 b120.2, oq_333640b7 ws132_73 hs116.2.2.2.2.2.2.2.2.2.1 b117.1, hs116.2.1.2.2, g134⟩ | omega) (Nat.lt_succ_self _) ?_)))
        intro s135 x136 Is135 Fs135 JFDA_s135 Qs135 hs135
        have b137 := bi_73 Is135
        have b138 := bi_74 Is135
        have b139 := bi_77 Is135
        have b140 := bi_75 Is135
        have b141 := bi_79 Is135
        have b142 := bi_78 Is135
        have b143 := bi_86 Is135
        have b144 := bi_87 Is135
        have b145 := bi_88 Is135
        have b146 := bi_81 Is135
        have b147 := bi_83 Is135
        have b148 := bi_85 Is135
        have b149 := bi_82 Is135
        have b150 := bi_84 Is135
        refine z_aload_n X (x := A 179) rfl (List.Mem.head _) (z_load_n X (x := x) rfl (List.Mem.tail _ (List.Mem.head _)) (s_putI X 179 rfl (c518_ok rfl) rfl rfl (by decide) rfl rfl rfl (wd_gen (fun s151 hs151 => ?_))))
        have Is151 : Bd s151 := eqB hs151 (bd_I Is135 (show (0 : Int) ≤ x ∧ x ≤ 200 by first | exact ⟨hs135.2.1.1, hs135.2.2.2.2.2.2.2.2.1⟩ | omega) ⟨by first | exact p0.1 | omega, by first | exact p0.2 | omega⟩)
        have Fs151 := eqF hs151 (fm_I Fs135 (inl_ok (a := 82) rfl))
        have vs151 : iI s151 82 = x := eqI hs151 (iI_u ⟨by first | exact p0.1 | omega, by first | exact p0.2 | omega⟩)
        have ws151_73 : iI s151 73 = iI s135 73 := eqI hs151 rfl
        have ws151_74 : iI s151 74 = iI s135 74 := eqI hs151 rfl
        have ws151_77 : iI s151 77 = iI s135 77 := eqI hs151 rfl
        have ws151_75 : iI s151 75 = iI s135 75 := eqI hs151 rfl
        have ws151_79 : iI s151 79 = iI s135 79 := eqI hs151 rfl
        have ws151_78 : iI s151 78 = iI s135 78 := eqI hs151 rfl
        have ws151_86 : iI s151 86 = iI s135 86 := eqI hs151 rfl
        have ws151_87 : iI s151 87 = iI s135 87 := eqI hs151 rfl
        have ws151_88 : iI s151 88 = iI s135 88 := eqI hs151 rfl
        have ws151_81 : iI s151 81 = iI s135 81 := eqI hs151 rfl
        have ws151_83 : iI s151 83 = iI s135 83 := eqI hs151 rfl
        have ws151_85 : iI s151 85 = iI s135 85 := eqI hs151 rfl
        have ws151_84 : iI s151 84 = iI s135 84 := eqI hs151 rfl
        have aws151_158 : SAM 158 s135 s151 := by rw [hs151]; exact (sam_rf (a := 158) (s := s135))
        have aws151_160 : SAM 160 s135 s151 := by rw [hs151]; exact (sam_rf (a := 160) (s := s135))
        have aws151_159 : SAM 159 s135 s151 := by rw [hs151]; exact (sam_rf (a := 159) (s := s135))
        have fs151 : Fm [82] [] s135 s151 := by rw [hs151]; exact fm_I (fm_rf _ _ _) (show 82 ∈ _ by decide)
        have JFDA_s151 : FDA B s151 := FDA_fm fs151 (by decide) JFDA_s135
        refine z_aload_n X (x := A 179) rfl (List.Mem.head _) (z_aload_n X (x := A 179) rfl (List.Mem.head _) (z_getI X 179 rfl (c518_ok rfl) rfl rfl ?_))
        have b152 := bi_86 Is151
        refine s_putI X 179 rfl (c518_ok rfl) rfl rfl (by decide) rfl rfl rfl (wd_gen (fun s153 hs153 => ?_))
        have Is153 : Bd s153 := eqB hs153 (bd_I Is151 (show (0 : Int) ≤ (iI s151 86) ∧ (iI s151 86) ≤ 8 by first | exact ⟨b152.1, b152.2⟩ | omega) (rng_to _))
        have Fs153 := eqF hs153 (fm_I Fs151 (inl_ok (a := 83) rfl))
        have vs153 : iI s153 83 = (iI s151 86) := eqI hs153 (iI_u (rng_to _))
        have ws153_73 : iI s153 73 = iI s151 73 := eqI hs153 rfl
        have ws153_74 : iI s153 74 = iI s151 74 := eqI hs153 rfl
        have ws153_77 : iI s153 77 = iI s151 77 := eqI hs153 rfl
        have ws153_75 : iI s153 75 = iI s151 75 := eqI hs153 rfl
        have ws153_79 : iI s153 79 = iI s151 79 := eqI hs153 rfl
        have ws153_78 : iI s153 78 = iI s151 78 := eqI hs153 rfl
        have ws153_86 : iI s153 86 = iI s151 86 := eqI hs153 rfl
        have ws153_87 : iI s153 87 = iI s151 87 := eqI hs153 rfl
        have ws153_88 : iI s153 88 = iI s151 88 := eqI hs153 rfl
        have ws153_81 : iI s153 81 = iI s151 81 := eqI hs153 rfl
        have ws153_85 : iI s153 85 = iI s151 85 := eqI hs153 rfl
        have ws153_82 : iI s153 82 = iI s151 82 := eqI hs153 rfl
        have ws153_84 : iI s153 84 = iI s151 84 := eqI hs153 rfl
        have aws153_158 : SAM 158 s135 s153 := by rw [hs153]; exact aws151_158
        have aws153_160 : SAM 160 s135 s153 := by rw [hs153]; exact aws151_160
        have aws153_159 : SAM 159 s135 s153 := by rw [hs153]; exact aws151_159
        have fs153 : Fm [83] [] s151 s153 := by rw [hs153]; exact fm_I (fm_rf _ _ _) (show 83 ∈ _ by decide)
        have JFDA_s153 : FDA B s153 := FDA_fm fs153 (by decide) JFDA_s151
        refine z_aload_n X (x := A 179) rfl (List.Mem.head _) (z_aload_n X (x := A 179) rfl (List.Mem.head _) (z_getI X 179 rfl (c518_ok rfl) rfl rfl ?_))
        have b154 := bi_87 Is153
        refine s_putI X 179 rfl (c518_ok rfl) rfl rfl (by decide) rfl rfl rfl (wd_gen (fun s155 hs155 => ?_))
        have Is155 : Bd s155 := eqB hs155 (bd_I Is153 (show (0 : Int) ≤ (iI s153 87) ∧ (iI s153 87) ≤ 8 by first | exact ⟨b154.1, b154.2⟩ | omega) (rng_to _))
        have Fs155 := eqF hs155 (fm_I Fs153 (inl_ok (a := 84) rfl))
        have vs155 : iI s155 84 = (iI s153 87) := eqI hs155 (iI_u (rng_to _))
        have ws155_73 : iI s155 73 = iI s153 73 := eqI hs155 rfl
        have ws155_74 : iI s155 74 = iI s153 74 := eqI hs155 rfl
        have ws155_77 : iI s155 77 = iI s153 77 := eqI hs155 rfl
        have ws155_75 : iI s155 75 = iI s153 75 := eqI hs155 rfl
        have ws155_79 : iI s155 79 = iI s153 79 := eqI hs155 rfl
        have ws155_78 : iI s155 78 = iI s153 78 := eqI hs155 rfl
        have ws155_86 : iI s155 86 = iI s153 86 := eqI hs155 rfl
        have ws155_87 : iI s155 87 = iI s153 87 := eqI hs155 rfl
        have ws155_88 : iI s155 88 = iI s153 88 := eqI hs155 rfl
        have ws155_81 : iI s155 81 = iI s153 81 := eqI hs155 rfl
        have ws155_83 : iI s155 83 = iI s153 83 := eqI hs155 rfl
        have ws155_85 : iI s155 85 = iI s153 85 := eqI hs155 rfl
        have ws155_82 : iI s155 82 = iI s153 82 := eqI hs155 rfl
        have aws155_158 : SAM 158 s135 s155 := by rw [hs155]; exact aws153_158
        have aws155_160 : SAM 160 s135 s155 := by rw [hs155]; exact aws153_160
        have aws155_159 : SAM 159 s135 s155 := by rw [hs155]; exact aws153_159
        have fs155 : Fm [84] [] s153 s155 := by rw [hs155]; exact fm_I (fm_rf _ _ _) (show 84 ∈ _ by decide)
        have JFDA_s155 : FDA B s155 := FDA_fm fs155 (by decide) JFDA_s153
        refine z_aload_n X (x := A 179) rfl (List.Mem.head _) (z_aload_n X (x := A 179) rfl (List.Mem.head _) (z_getI X 179 rfl (c518_ok rfl) rfl rfl ?_))
        have b156 := bi_88 Is155
        refine s_putI X 179 rfl (c518_ok rfl) rfl rfl (by decide) rfl rfl rfl (wd_gen (fun s157 hs157 => ?_))
        have Is157 : Bd s157 := eqB hs157 (bd_I Is155 (show ((-1) : Int) ≤ (iI s155 88) ∧ (iI s155 88) ≤ 200 by first | exact ⟨b156.1, b156.2⟩ | omega) (rng_to _))
        have Fs157 := eqF hs157 (fm_I Fs155 (inl_ok (a := 85) rfl))
        have vs157 : iI s157 85 = (iI s155 88) := eqI hs157 (iI_u (rng_to _))
        have ws157_73 : iI s157 73 = iI s155 73 := eqI hs157 rfl
        have ws157_74 : iI s157 74 = iI s155 74 := eqI hs157 rfl
        have ws157_77 : iI s157 77 = iI s155 77 := eqI hs157 rfl
        have ws157_75 : iI s157 75 = iI s155 75 := eqI hs157 rfl
        have ws157_79 : iI s157 79 = iI s155 79 := eqI hs157 rfl
        have ws157_78 : iI s157 78 = iI s155 78 := eqI hs157 rfl
        have ws157_86 : iI s157 86 = iI s155 86 := eqI hs157 rfl
        have ws157_87 : iI s157 87 = iI s155 87 := eqI hs157 rfl
        have ws157_88 : iI s157 88 = iI s155 88 := eqI hs157 rfl
        have ws157_81 : iI s157 81 = iI s155 81 := eqI hs157 rfl
        have ws157_83 : iI s157 83 = iI s155 83 := eqI hs157 rfl
        have ws157_82 : iI s157 82 = iI s155 82 := eqI hs157 rfl
        have ws157_84 : iI s157 84 = iI s155 84 := eqI hs157 rfl
        have aws157_158 : SAM 158 s135 s157 := by rw [hs157]; exact aws155_158
        have aws157_160 : SAM 160 s135 s157 := by rw [hs157]; exact aws155_160
        have aws157_159 : SAM 159 s135 s157 := by rw [hs157]; exact aws155_159
        have fs157 : Fm [85] [] s155 s157 := by rw [hs157]; exact fm_I (fm_rf _ _ _) (show 85 ∈ _ by decide)
        have JFDA_s157 : FDA B s157 := FDA_fm fs157 (by decide) JFDA_s155
        refine z_const X rfl (z_store_n X (lv' := [(2, .int (Int32.ofInt 0)), (0, .ref (A 179)), (1, .int (Int32.ofInt x))]) rfl (by decide) (fun _ h => h) (WS_pq [1, 2, 0] (lv' := [(0, .ref (A 179)), (1, .int (Int32.ofInt x)), (2, .int (Int32.ofInt 0))]) rfl (L169 ((8 - 0 : Int).toNat + 1) s157 x 0 Is157 Fs157 JFDA_s157 ⟨by rw [show iI s157 83 = iI s135 86 by first | (clear hps113 hps98 hps17; omega) | (clear hps98 hps17; omega) | omega, show iI s157 85 = iI s135 88 by first | (clear hps113 hps98 hps17; omega) | (clear hps98 hps17; omega) | omega]; exact Qs135.1, by first | (clear hps113 hps98 hps17; omega) | (clear hps98 hps17; omega) | omega, fun j hj => (aws157_158 j).trans (Qs135.2.1 j (by first | (clear hps113 hps98 hps17; omega) | (clear hps98 hps17; omega) | omega)), by rw [show iI s157 83 = iI s135 86 by first | (clear hps113 hps98 hps17; omega) | (clear hps98 hps17; omega) | omega, show iI s157 84 = iI s135 87 by first | (clear hps113 hps98 hps17; omega) | (clear hps98 hps17; omega) | omega]; exact jmd_s Qs135.2.2 aws157_160, fun k hk => absurd hk (by first | (clear hps113 hps98 hps17; omega) | (clear hps98 hps17; omega) | omega)⟩ (by first | exact ⟨by decide, And.intro (hs135.2.1.1) (hs135.2.1.2), oq_d0299403 ws157_74 ws155_74 ws153_74 ws151_74 hs135.2.2.1 b138.1, by decide, by decide, oq_d0299403 ws157_73 ws155_73 ws153_73 ws151_73 hs135.2.2.2.2.2.2.2.1 b137.1, oq_ac0e91e1 ws157_82 ws155_82 ws153_82 vs151⟩ | omega) (Nat.lt_succ_self _) ?_)))
        intro s158 x159 Is158 Fs158 JFDA_s158 Qs158 hs158
        have b160 := bi_73 Is158
        have b161 := bi_74 Is158
        have b162 := bi_77 Is158
        have b163 := bi_75 Is158
        have b164 := bi_79 Is158
        have b165 := bi_78 Is158
        have b166 := bi_86 Is158
        have b167 := bi_87 Is158
        have b168 := bi_88 Is158
        have b169 := bi_81 Is158
        have b170 := bi_83 Is158
        have b171 := bi_85 Is158
        have b172 := bi_82 Is158
        have b173 := bi_84 Is158
        refine z_aload_n X (x := A 179) rfl (List.Mem.head _) (z_getI X 179 rfl (c518_ok rfl) rfl rfl ?_)
        have b174 := bi_83 Is158
        exact w_iret X.1 q hRt rfl (ax_d X (show cdA 214 199 = some (.ireturn, 1, 0, 0, 0) from rfl)) (Nat.zero_le _) (Nat.zero_le _) ⟨_, rfl, Is158, Fs158, JFDA_s158, (iI s158 83), rfl, (rng_to _), Or.inl ⟨by first | exact hs158.2.1.1 | omega, by first | exact hs158.2.1.2 | omega, by first | exact hs158.2.2.1 | omega, by first | exact hs158.2.2.2.2.2.1 | omega, Or.inl ⟨by first | exact b174.1 | omega, by have h := Qs158; rw [show iI s158 83 = (iI s158 83) by first | (clear hps113 hps98 hps17; omega) | (clear hps98 hps17; omega) | omega] at h; obtain ⟨⟨k, c, h1⟩, h2, h3, h4, h5⟩ := h; exact ⟨⟨k, c, h1, h2, h3⟩, mjb_of h4 rfl (fun k hk => h5 k (by first | (clear hps113 hps98 hps17; omega) | (clear hps98 hps17; omega) | omega))⟩⟩⟩⟩
      ·
        refine z_aload_n X (x := A 179) rfl (List.Mem.head _) (z_getI X 179 rfl (c518_ok rfl) rfl rfl ?_)
        have b175 := bi_79 Is132
        refine z_bipush X rfl (z_sub X rfl ?_)
        exact w_iret X.1 q hRt rfl (ax_d X (show cdA 214 112 = some (.ireturn, 1, 0, 0, 0) from rfl)) (Nat.zero_le _) (Nat.zero_le _) ⟨_, rfl, Is132, Fs132, JFDA_s132, ((iI s132 79) - 10), rfl, ⟨by first | exact oq_d3c9ade5 b175.1 | omega, by first | exact oq_71609f9f b175.2 | omega⟩, Or.inl ⟨by first | exact hs116.2.1.1 | omega, by first | exact hs116.2.1.2.1 | omega, by first | exact oq_333640b7 ws132_74 hs116.2.2.1 b118.1 | omega, by first | exact oq_333640b7 ws132_73 hs116.2.2.2.2.2.2.2.2.2.1 b117.1 | omega, Or.inr ⟨by first | exact oq_a634ad6e b175.2 | omega, cho_bad Qs116.1 ⟨by first | (clear g134 hps113 hps98 hps17; omega) | (clear hps113 hps98 hps17; omega) | omega, by first | (clear g134 hps113 hps98 hps17; omega) | (clear hps113 hps98 hps17; omega) | omega⟩, by first | exact oq_1aa5be9e ws132_85 hs116.2.2.2.2.2.2.2.2.2.2.1 | omega, by first | exact oq_1aa5be9e ws132_82 hs116.2.2.2.2.2.2.2.2.2.2.2.1 | omega, by first | exact oq_1aa5be9e ws132_84 hs116.2.2.2.2.2.2.2.2.2.2.2.2.1 | omega, sam_ts Qs116.2.2.1 aws132_158, sam_ts Qs116.2.2.2.1 aws132_159⟩⟩⟩
    ·
      refine z_const X rfl ?_
      exact w_iret X.1 q hRt rfl (ax_d X (show cdA 214 31 = some (.ireturn, 1, 0, 0, 0) from rfl)) (Nat.zero_le _) (Nat.zero_le _) ⟨_, rfl, Is98, Gs98, JFDA_s98, 0, rfl, (by decide), Or.inr ⟨by first | exact oq_5e46c7aa g19 hps17 ws15_74 | omega, by first | exact oq_1aa5be9e ws98_74 ws15_74 | omega, by first | exact oq_faabd673 g101 hps98 vs15 | omega, by first | exact oq_1aa5be9e ws98_85 ws15_85 | omega, by first | exact oq_1aa5be9e ws98_82 ws15_82 | omega, by first | exact oq_1aa5be9e ws98_84 ws15_84 | omega, aws98_158, aws98_159⟩⟩
set_option maxRecDepth 4000 in
theorem c7_readClause7 (G : GX l s0 D tys a0 dT) {B : Nat → Int} {N : Int} (SF : SF0 s0) (GT : TXw0 s0) (I : Bd s) (jBYW : BYW B N s) (jTKS : TKS B N s) {x : Int} (p0 : 0 ≤ x ∧ x ≤ 8) (p1 : iI s 2 ≤ iI s 1) (p2 : iI s 4 ≤ iI s 2) (p3 : iI s 19 = 0) (p4 : iI s 16 ≤ iI s 4) : CT l s0 D A dT 71 (rmN 71) [.ref (A 19), .int (Int32.ofInt x)] s (fun o t => Bd t ∧ Fm [2, 4, 6, 5, 7, 8, 19, 16, 17, 18] [18, 19] s t ∧ BYW B N t ∧ TKS B N t ∧ ∃ e, o = .inl (some (.int (Int32.ofInt e))) ∧ rng e ∧ ((e = 0 ∨ (e = 1 ∧ iI t 19 = 0 ∧ iI s 4 < iI t 4 ∧ iI t 4 ≤ N ∧ iI t 16 ≤ iI t 4)) ∧ iI t 2 ≤ iI t 1 ∧ iI t 4 ≤ iI t 2 ∧ CLD B N x s t e ∧ (e = 0 ∨ JPT B N x s t))) := by
  refine ct_ofX G (by decide) (Nat.le_of_ble_eq_true rfl) (fun k X E ET hRt hXt q => ?_)
  show WS k 0 [(0, .ref (A 19)), (1, .int (Int32.ofInt x))] [] _ 0 0
  have F : Fm [2, 4, 6, 5, 7, 8, 19, 16, 17, 18] [18, 19] s s := fm_rf _ _ s
  have aw0_19 : SAM 19 s s := sam_rf
  have aw0_18 : SAM 18 s s := sam_rf
  have hN := jBYW.2.1
  have hW := jBYW.2.2
  have hwd := tkw_wd jTKS
  have b1 := bi_2 I
  have b2 := bi_1 I
  have b3 := bi_4 I
  have b4 := bi_5 I
  have b5 := bi_6 I
  have b6 := bi_19 I
  have b7 := bi_16 I
  have b8 := bi_7 I
  have b9 := bi_17 I
  have b10 := bi_18 I
  refine z_aload_n X (x := A 19) rfl (List.Mem.head _) (s_getR X 19 rfl (c518_ok rfl) rfl rfl ?_)
  obtain ⟨tx74, q74, hR74, hS74⟩ := GT (74, [108, 111, 97, 100]) (by decide)
  refine w_ldcK X (show vk_R (kOwn k) 74 tx74 q74 (kS0 k) by rw [E.2.1, X.2.1.2.1]; exact hR74) (show decode (kCc k) 4 = .ok (.ldc 74, 2) by rw [X.2.1.1]; decide +kernel) (zcV_i2 X E 1 (As := [.ref q74]) (st := []) rfl rfl rfl rfl (c10_says3 G SF hS74 (by decide) I jBYW jTKS (by first | exact p2 | omega)) rfl (Nat.le_of_ble_eq_true rfl) (fun s11 e12 Is11 Fs11 JBYW_s11 JTKS_s11 hrs11 hps11 => ?_))
  have Gs11 := fm_tq F Fs11 rfl rfl
  have JBYW_s11 : BYW B N s11 := BYW_fm Fs11 (by decide) jBYW
  have JTKS_s11 : TKS B N s11 := TKS_fm Fs11 (by decide) jTKS
  have ws11_2 : iI s11 2 = iI s 2 := fm_iq Fs11 rfl
  have ws11_1 : iI s11 1 = iI s 1 := fm_iq Fs11 rfl
  have ws11_4 : iI s11 4 = iI s 4 := fm_iq Fs11 rfl
  have ws11_5 : iI s11 5 = iI s 5 := fm_iq Fs11 rfl
  have ws11_6 : iI s11 6 = iI s 6 := fm_iq Fs11 rfl
  have ws11_19 : iI s11 19 = iI s 19 := fm_iq Fs11 rfl
  have ws11_16 : iI s11 16 = iI s 16 := fm_iq Fs11 rfl
  have ws11_7 : iI s11 7 = iI s 7 := fm_iq Fs11 rfl
  have ws11_17 : iI s11 17 = iI s 17 := fm_iq Fs11 rfl
  have ws11_18 : iI s11 18 = iI s 18 := fm_iq Fs11 rfl
  have aws11_19 : SAM 19 s s11 := sam_ts aw0_19 (sam_fm Fs11 (by decide))
  have aws11_18 : SAM 18 s s11 := sam_ts aw0_18 (sam_fm Fs11 (by decide))
  have hws11 : (e12 = 1 ∧ whV B N (iI s 4) = 247162) ∨ (e12 = 0 ∧ whV B N (iI s 4) ≠ 247162) := by have h := hps11; rw [show iI s 4 = iI s 4 by first | (clear hps11; omega) | omega, show whL [108, 111, 97, 100] 0 = 247162 by decide] at h; exact h
  refine z_store_n X (lv' := [(2, .int (Int32.ofInt e12)), (0, .ref (A 19)), (1, .int (Int32.ofInt x))]) rfl (by decide) (fun _ h => h) (z_load_n X (x := e12) rfl (List.Mem.head _) (z_if_ne X (t := 35) rfl rfl hrs11 (fun g13 => ?_) (fun g13 => ?_)))
  ·
    refine z_load_n X (x := x) rfl (List.Mem.tail _ (List.Mem.tail _ (List.Mem.head _))) (z_bipush X rfl (z_icmp_lt X (t := 50) rfl rfl ⟨by first | exact oq_fa4e5087 p0.1 | omega, by first | exact oq_d3f5d874 p0.2 | omega⟩ (by decide) (fun g14 => ?_) (fun g14 => ?_)))
    ·
      have hwl : whV B N (iI s 4) = 247162 ∨ whV B N (iI s 4) = 208022 := by first | (clear g13 hps11; omega) | (clear hps11; omega) | omega
      have hk3 : iI s 5 = -3 := Classical.byContradiction (fun q => by have := hwd.2 q; omega)
      have ha3 := (hwd.1 hk3).1
      have hg3 := (hwd.1 hk3).2
      have hsk := sk_le (B := B) (N := N) (p := wdE B N (iI s 4))
      refine z_aload_n X (x := A 19) rfl (List.Mem.tail _ (List.Mem.head _)) (s_getR X 19 rfl (c518_ok rfl) rfl rfl (zcV_v2 X E 1 (As := []) (st := []) rfl rfl rfl rfl (c10_step3 G Is11 JBYW_s11 (by first | exact oq_e7b9ecab ws11_1 ws11_2 p1 | omega)) rfl (Nat.le_of_ble_eq_true rfl) (fun s15 Is15 Fs15 JBYW_s15 JTKS_s15 hps15 => ?_)))
      have Gs15 := fm_tq Gs11 Fs15 rfl rfl
      have JBYW_s15 : BYW B N s15 := BYW_fm Fs15 (by decide) JBYW_s11
      have b17 := bi_2 Is15
      have ws15_1 : iI s15 1 = iI s11 1 := fm_iq Fs15 rfl
      have b18 := bi_4 Is15
      have b19 := bi_5 Is15
      have b20 := bi_6 Is15
      have ws15_19 : iI s15 19 = iI s11 19 := fm_iq Fs15 rfl
      have ws15_16 : iI s15 16 = iI s11 16 := fm_iq Fs15 rfl
      have ws15_7 : iI s15 7 = iI s11 7 := fm_iq Fs15 rfl
      have ws15_17 : iI s15 17 = iI s11 17 := fm_iq Fs15 rfl
      have ws15_18 : iI s15 18 = iI s11 18 := fm_iq Fs15 rfl
      have aws15_19 : SAM 19 s s15 := sam_ts aws11_19 (sam_fm Fs15 (by decide))
      have aws15_18 : SAM 18 s s15 := sam_ts aws11_18 (sam_fm Fs15 (by decide))
      have hs1 : iI s15 4 = sk B N (wdE B N (iI s 4)) := by rw [hps15.2.2.1, show iI s11 2 = wdE B N (iI s 4) by first | (clear g13 hps11; omega) | (clear hps11; omega) | omega]
      refine z_load_n X (x := e12) rfl (List.Mem.head _) (z_if_eq X (t := 71) rfl rfl hrs11 (fun g21 => ?_) (fun g21 => ?_))
      ·
        exfalso
        omega
      ·
        refine z_aload_n X (x := A 19) rfl (List.Mem.tail _ (List.Mem.head _)) (z_callV X 19 (rm := (rkR (4 * (7) + 3))) (As := []) (st := []) rfl rfl (by decide) rfl (by rw [E.1, E.2.1, E.2.2.1]; exact (c7_sumr3 G (B := B) (N := N) SF GT 7).2.2.2 Is15 JBYW_s15 JTKS_s15 (by first | exact hps15.1 | omega) (by first | exact hps15.2.1 | omega) (by first | exact oq_7d321bf4 ws15_19 ws11_19 b6.1 | omega) (by first | exact oq_c0fb8fc4 ws15_16 hps15.2.2.2 ws11_16 ws11_2 p4 p2 | omega)) ⟨by rw [E.2.2.2]; exact (show (12 + (4 * (7) + 3)) + 1 ≤ 68 from oq_4cedc687), by rw [E.2.2.2]; exact (show 8 + (3 + 11) + (500 + 45 * (4 * (7) + 3)) ≤ 2996 from oq_b0ed7f34), by rw [E.2.2.2]; exact Nat.le_refl 0, by rw [E.2.2.2]; exact Nat.le_refl 0⟩ (Nat.le_of_ble_eq_true rfl) (fun vv s22 hq => ?_) (fun ee s22 hq => ?_))
        rotate_left
        · obtain ⟨Is22, Fs22, JBYW_s22, JTKS_s22, e23, hv, hrs22, hps22⟩ := hq; cases hv
        obtain ⟨Is22, Fs22, JBYW_s22, JTKS_s22, e23, hv, hrs22, hps22⟩ := hq
        cases hv
        have Gs22 := fm_tq Gs15 Fs22 rfl rfl
        have JBYW_s22 : BYW B N s22 := BYW_fm Fs22 (by decide) JBYW_s15
        have b24 := bi_2 Is22
        have ws22_1 : iI s22 1 = iI s15 1 := fm_iq Fs22 rfl
        have b25 := bi_4 Is22
        have b26 := bi_5 Is22
        have b27 := bi_6 Is22
        have b28 := bi_19 Is22
        have b29 := bi_16 Is22
        have b30 := bi_7 Is22
        have ws22_17 : iI s22 17 = iI s15 17 := fm_iq Fs22 rfl
        have ws22_18 : iI s22 18 = iI s15 18 := fm_iq Fs22 rfl
        have aws22_19 : SAM 19 s s22 := sam_ts aws15_19 (sam_fm Fs22 (by decide))
        show WS k 65 [(2, .int (Int32.ofInt e12)), (0, .ref (A 19)), (1, .int (Int32.ofInt x))] [.int (Int32.ofInt e23)] (Wd A dT s22) 0 0
        refine z_if_ne X (t := 80) rfl rfl hrs22 (fun g31 => ?_) (fun g31 => ?_)
        ·
          refine z_aload_n X (x := A 19) rfl (List.Mem.tail _ (List.Mem.head _)) (z_bipush X rfl (zcV_i2 X E 19 (As := [.int (Int32.ofInt 59)]) (st := []) rfl rfl rfl rfl (c7_pass3 G Is22 JBYW_s22 JTKS_s22 (by first | exact ⟨by decide, by decide⟩ | omega) (by first | exact Or.inr (by decide) | omega) (by first | exact Or.inl (by decide) | omega) (by first | exact hps22.2.1 | omega) (by first | exact hps22.2.2.1 | omega)) rfl (Nat.le_of_ble_eq_true rfl) (fun s32 e33 Is32 Fs32 JBYW_s32 JTKS_s32 hrs32 hps32 => ?_)))
          have hps32p := And.intro hps32.2.1 (And.intro hps32.2.2.1 (hps32.2.2.2))
          have Gs32 := fm_tq Gs22 Fs32 rfl rfl
          have JBYW_s32 : BYW B N s32 := BYW_fm Fs32 (by decide) JBYW_s22
          have b34 := bi_2 Is32
          have ws32_1 : iI s32 1 = iI s22 1 := fm_iq Fs32 rfl
          have b35 := bi_4 Is32
          have b36 := bi_5 Is32
          have b37 := bi_6 Is32
          have ws32_19 : iI s32 19 = iI s22 19 := fm_iq Fs32 rfl
          have ws32_16 : iI s32 16 = iI s22 16 := fm_iq Fs32 rfl
          have b38 := bi_7 Is32
          have ws32_17 : iI s32 17 = iI s22 17 := fm_iq Fs32 rfl
          have ws32_18 : iI s32 18 = iI s22 18 := fm_iq Fs32 rfl
          have aws32_19 : SAM 19 s s32 := sam_ts aws22_19 (sam_fm Fs32 (by decide))
          have hpg : e33 ≠ 0 → iI s22 4 < iI s32 4 ∧ iI s32 4 ≤ N := fun h => pss_gt hps32.2.2.2 h
          refine z_if_ne X (t := 91) rfl rfl hrs32 (fun g39 => ?_) (fun g39 => ?_)
          ·
            refine z_aload_n X (x := A 19) rfl (List.Mem.tail _ (List.Mem.head _)) (s_getR X 19 rfl (c518_ok rfl) rfl rfl (z_load_n X (x := x) rfl (List.Mem.tail _ (List.Mem.tail _ (List.Mem.head _))) (z_aload_n X (x := A 19) rfl (List.Mem.tail _ (List.Mem.head _)) (z_getI X 19 rfl (c518_ok rfl) rfl rfl ?_))))
            have b40 := bi_16 Is32
            refine z_ast X 23 rfl (c518_ok rfl) rfl (by first | exact p0.1 | omega) (show x < 8 by first | exact g14 | omega) (cbig_ok rfl) (wd_gen (fun s41 hs41 => ?_))
            have Is41 : Bd s41 := eqB hs41 (bd_C Is32 (show (0 : Int) ≤ (iI s32 16) ∧ (iI s32 16) ≤ 200 by first | exact ⟨b40.1, b40.2⟩ | omega) (rng_to _))
            have Fs41 := eqF hs41 (fm_C Gs32 (inl_ok (a := 19) rfl))
            have ws41_2 : iI s41 2 = iI s32 2 := eqI hs41 rfl
            have ws41_1 : iI s41 1 = iI s32 1 := eqI hs41 rfl
            have ws41_4 : iI s41 4 = iI s32 4 := eqI hs41 rfl
            have ws41_5 : iI s41 5 = iI s32 5 := eqI hs41 rfl
            have ws41_6 : iI s41 6 = iI s32 6 := eqI hs41 rfl
            have ws41_19 : iI s41 19 = iI s32 19 := eqI hs41 rfl
            have ws41_16 : iI s41 16 = iI s32 16 := eqI hs41 rfl
            have ws41_7 : iI s41 7 = iI s32 7 := eqI hs41 rfl
            have ws41_17 : iI s41 17 = iI s32 17 := eqI hs41 rfl
            have ws41_18 : iI s41 18 = iI s32 18 := eqI hs41 rfl
            have aws41_19 : UPD 19 (x) (iI s32 16) s s41 := by rw [hs41]; exact upd_put aws32_19 (rng_to _)
            have fs41 : Fm [] [19] s32 s41 := by rw [hs41]; exact fm_C (fm_rf _ _ _) (show 19 ∈ _ by decide)
            have JBYW_s41 : BYW B N s41 := BYW_fm fs41 (by decide) JBYW_s32
            have JTKS_s41 : TKS B N s41 := TKS_fm fs41 (by decide) JTKS_s32
            refine z_load_n X (x := e12) rfl (List.Mem.head _) (z_if_eq X (t := 113) rfl rfl hrs11 (fun g42 => ?_) (fun g42 => ?_))
            ·
              exfalso
              omega
            ·
              refine z_aload_n X (x := A 19) rfl (List.Mem.tail _ (List.Mem.head _)) (z_load_n X (x := x) rfl (List.Mem.tail _ (List.Mem.tail _ (List.Mem.head _))) (s_putI X 19 rfl (c518_ok rfl) rfl rfl (by decide) rfl rfl rfl (wd_gen (fun s43 hs43 => ?_))))
              have Is43 : Bd s43 := eqB hs43 (bd_I Is41 (show ((-1) : Int) ≤ x ∧ x ≤ 7 by first | exact ⟨oq_ca54ea22 p0.1, oq_78c639ed g14⟩ | omega) ⟨by first | exact oq_fa4e5087 p0.1 | omega, by first | exact oq_7bea7075 g14 | omega⟩)
              have Fs43 := eqF hs43 (fm_I Fs41 (inl_ok (a := 17) rfl))
              have vs43 : iI s43 17 = x := eqI hs43 (iI_u ⟨by first | exact oq_fa4e5087 p0.1 | omega, by first | exact oq_7bea7075 g14 | omega⟩)
              have ws43_2 : iI s43 2 = iI s41 2 := eqI hs43 rfl
              have ws43_1 : iI s43 1 = iI s41 1 := eqI hs43 rfl
              have ws43_4 : iI s43 4 = iI s41 4 := eqI hs43 rfl
              have ws43_5 : iI s43 5 = iI s41 5 := eqI hs43 rfl
              have ws43_6 : iI s43 6 = iI s41 6 := eqI hs43 rfl
              have ws43_19 : iI s43 19 = iI s41 19 := eqI hs43 rfl
              have ws43_16 : iI s43 16 = iI s41 16 := eqI hs43 rfl
              have ws43_7 : iI s43 7 = iI s41 7 := eqI hs43 rfl
              have ws43_18 : iI s43 18 = iI s41 18 := eqI hs43 rfl
              have aws43_19 : UPD 19 (x) (iI s32 16) s s43 := by rw [hs43]; exact aws41_19
              have fs43 : Fm [17] [] s41 s43 := by rw [hs43]; exact fm_I (fm_rf _ _ _) (show 17 ∈ _ by decide)
              have JBYW_s43 : BYW B N s43 := BYW_fm fs43 (by decide) JBYW_s41
              have JTKS_s43 : TKS B N s43 := TKS_fm fs43 (by decide) JTKS_s41
              refine z_goto X (t := 125) rfl rfl (z_const X rfl ?_)
              have hCL : CLD B N x s s43 1 := cld_of (a := s15) (b := s22) (c := s32) (Or.inl ⟨by first | (clear g42 g39 hps32 g31 hps22 g21 g13 hps11; omega) | (clear g39 hps32 g31 hps22 g21 g13 hps11; omega) | omega, rfl⟩) (by first | (clear g42 g39 hps32 g31 hps22 g21 g13 hps11; omega) | (clear g39 hps32 g31 hps22 g21 g13 hps11; omega) | omega) (DL_sam (by first | (clear g42 g39 hps32 g31 hps22 g21 g13 hps11; omega) | (clear g39 hps32 g31 hps22 g21 g13 hps11; omega) | omega) aws15_18) (by have h := hps22.2.2.2; rw [show iI s15 4 = sk B N (wdE B N (iI s 4)) by first | (clear g42 g39 hps32 g31 hps22 g21 g13 hps11; omega) | (clear g39 hps32 g31 hps22 g21 g13 hps11; omega) | omega, show iI s15 19 = 0 by first | (clear g42 g39 hps32 g31 hps22 g21 g13 hps11; omega) | (clear g39 hps32 g31 hps22 g21 g13 hps11; omega) | omega] at h; exact h) (by first | (clear g42 g39 hps32 g31 hps22 g21 g13 hps11; omega) | (clear g39 hps32 g31 hps22 g21 g13 hps11; omega) | omega) (by have h := hps32.2.2.2; rw [show e33 = 1 by first | (clear g42 g39 hps32 g31 hps22 g21 g13 hps11; omega) | (clear g39 hps32 g31 hps22 g21 g13 hps11; omega) | omega] at h; exact h) (by first | (clear g42 g39 hps32 g31 hps22 g21 g13 hps11; omega) | (clear g39 hps32 g31 hps22 g21 g13 hps11; omega) | omega) ((DL_sam (s := s32) (t := s43) (by first | (clear g42 g39 hps32 g31 hps22 g21 g13 hps11; omega) | (clear g39 hps32 g31 hps22 g21 g13 hps11; omega) | omega) (fun j => by rw [hs43, hs41]; exact iC_a (by decide))).trans (DL_fm Fs32 (by decide) (by decide))) (by rw [show iI s43 16 = iI s32 16 by first | (clear g42 g39 hps32 g31 hps22 g21 g13 hps11; omega) | (clear g39 hps32 g31 hps22 g21 g13 hps11; omega) | omega]; exact aws43_19) (Or.inl ⟨rfl, by first | (clear g42 g39 hps32 g31 hps22 g21 g13 hps11; omega) | (clear g39 hps32 g31 hps22 g21 g13 hps11; omega) | omega⟩)
              exact w_iret X.1 q hRt (nar_ret (by first | exact Or.inr (by decide) | omega)) (ax_d X (show cdA 71 126 = some (.ireturn, 1, 0, 0, 0) from rfl)) (Nat.zero_le _) (Nat.zero_le _) ⟨_, rfl, Is43, Fs43, JBYW_s43, JTKS_s43, 1, rfl, (by decide), ⟨by have := clc_e (cld_c hCL); omega, by first | exact oq_4407eb3c ws43_1 ws43_2 ws41_1 ws41_2 hps32.2.1 | omega, by first | exact oq_4407eb3c ws43_2 ws43_4 ws41_2 ws41_4 hps32.2.2.1 | omega, hCL, Or.inr (Or.inl ⟨by first | (clear g42 g39 hps32 g31 hps22 g21 g13 hps11; omega) | (clear g39 hps32 g31 hps22 g21 g13 hps11; omega) | omega, by first | (clear g42 g39 hps32 g31 hps22 g21 g13 hps11; omega) | (clear g39 hps32 g31 hps22 g21 g13 hps11; omega) | omega⟩)⟩⟩
          ·
            refine z_const X rfl ?_
            have hCL : CLD B N x s s32 0 := cld_no (clc_of (c := s32) (Or.inl ⟨by first | (clear hps32 g31 hps22 g21 g13 hps11; omega) | (clear g31 hps22 g21 g13 hps11; omega) | omega, rfl⟩) (by first | (clear hps32 g31 hps22 g21 g13 hps11; omega) | (clear g31 hps22 g21 g13 hps11; omega) | omega) (by have h := hps22.2.2.2; rw [show iI s15 4 = sk B N (wdE B N (iI s 4)) by first | (clear hps32 g31 hps22 g21 g13 hps11; omega) | (clear g31 hps22 g21 g13 hps11; omega) | omega, show iI s15 19 = 0 by first | (clear hps32 g31 hps22 g21 g13 hps11; omega) | (clear g31 hps22 g21 g13 hps11; omega) | omega] at h; exact h) (Or.inr ⟨by first | (clear hps32 g31 hps22 g21 g13 hps11; omega) | (clear g31 hps22 g21 g13 hps11; omega) | omega, (by have h := hps32.2.2.2; rw [show e33 = 0 by first | (clear hps32 g31 hps22 g21 g13 hps11; omega) | (clear g31 hps22 g21 g13 hps11; omega) | omega] at h; exact h), by first | (clear hps32 g31 hps22 g21 g13 hps11; omega) | (clear g31 hps22 g21 g13 hps11; omega) | omega, by first | (clear hps32 g31 hps22 g21 g13 hps11; omega) | (clear g31 hps22 g21 g13 hps11; omega) | omega⟩))
            exact w_iret X.1 q hRt (nar_ret (by first | exact Or.inl (by decide) | omega)) (ax_d X (show cdA 71 90 = some (.ireturn, 1, 0, 0, 0) from rfl)) (Nat.zero_le _) (Nat.zero_le _) ⟨_, rfl, Is32, Gs32, JBYW_s32, JTKS_s32, 0, rfl, (by decide), ⟨by have := clc_e (cld_c hCL); omega, by first | exact hps32.2.1 | omega, by first | exact hps32.2.2.1 | omega, hCL, Or.inl (by decide)⟩⟩
        ·
          refine z_goto X (t := 78) rfl rfl (z_const X rfl ?_)
          have hCL : CLD B N x s s22 0 := cld_no (clc_of (c := s22) (Or.inl ⟨by first | (clear hps22 g21 g13 hps11; omega) | (clear g21 g13 hps11; omega) | omega, rfl⟩) (by first | (clear hps22 g21 g13 hps11; omega) | (clear g21 g13 hps11; omega) | omega) (by have h := hps22.2.2.2; rw [show iI s15 4 = sk B N (wdE B N (iI s 4)) by first | (clear hps22 g21 g13 hps11; omega) | (clear g21 g13 hps11; omega) | omega, show iI s15 19 = 0 by first | (clear hps22 g21 g13 hps11; omega) | (clear g21 g13 hps11; omega) | omega] at h; exact h) (Or.inl ⟨by first | (clear hps22 g21 g13 hps11; omega) | (clear g21 g13 hps11; omega) | omega, rfl, by first | (clear hps22 g21 g13 hps11; omega) | (clear g21 g13 hps11; omega) | omega⟩))
          exact w_iret X.1 q hRt (nar_ret (by first | exact Or.inl (by decide) | omega)) (ax_d X (show cdA 71 79 = some (.ireturn, 1, 0, 0, 0) from rfl)) (Nat.zero_le _) (Nat.zero_le _) ⟨_, rfl, Is22, Gs22, JBYW_s22, JTKS_s22, 0, rfl, (by decide), ⟨by have := clc_e (cld_c hCL); omega, by first | exact hps22.2.1 | omega, by first | exact hps22.2.2.1 | omega, hCL, Or.inl (by decide)⟩⟩
    ·
      refine z_aload_n X (x := A 19) rfl (List.Mem.tail _ (List.Mem.head _)) (s_getR X 19 rfl (c518_ok rfl) rfl rfl (z_const X rfl (zcV_i0 X E 1 (As := [.int (Int32.ofInt 3)]) (st := []) rfl rfl rfl rfl (c10_refuse3 G Is11 (by first | exact ⟨by decide, by decide⟩ | omega)) rfl (Nat.le_of_ble_eq_true rfl) (fun s44 e45 Is44 Fs44 hrs44 hps44 => ?_))))
      have Gs44 := fm_tq Gs11 Fs44 rfl rfl
      have JBYW_s44 : BYW B N s44 := BYW_fm Fs44 (by decide) JBYW_s11
      have JTKS_s44 : TKS B N s44 := TKS_fm Fs44 (by decide) JTKS_s11
      have ws44_2 : iI s44 2 = iI s11 2 := fm_iq Fs44 rfl
      have ws44_1 : iI s44 1 = iI s11 1 := fm_iq Fs44 rfl
      have ws44_4 : iI s44 4 = iI s11 4 := fm_iq Fs44 rfl
      have ws44_5 : iI s44 5 = iI s11 5 := fm_iq Fs44 rfl
      have ws44_6 : iI s44 6 = iI s11 6 := fm_iq Fs44 rfl
      have ws44_19 : iI s44 19 = iI s11 19 := fm_iq Fs44 rfl
      have ws44_16 : iI s44 16 = iI s11 16 := fm_iq Fs44 rfl
      have b46 := bi_7 Is44
      have ws44_17 : iI s44 17 = iI s11 17 := fm_iq Fs44 rfl
      have ws44_18 : iI s44 18 = iI s11 18 := fm_iq Fs44 rfl
      have aws44_19 : SAM 19 s s44 := sam_ts aws11_19 (sam_fm Fs44 (by decide))
      have aws44_18 : SAM 18 s s44 := sam_ts aws11_18 (sam_fm Fs44 (by decide))
      have hCL : CLD B N x s s44 e45 := by rw [show e45 = 0 by first | (clear g13 hps11; omega) | (clear hps11; omega) | omega]; exact cld_no (clc_3 (by first | (clear g13 hps11; omega) | (clear hps11; omega) | omega) (by first | (clear g13 hps11; omega) | (clear hps11; omega) | omega) (by first | (clear g13 hps11; omega) | (clear hps11; omega) | omega))
      exact w_iret X.1 q hRt (nar_ret (by first | exact Or.inl (hps44.1) | omega)) (ax_d X (show cdA 71 49 = some (.ireturn, 1, 0, 0, 0) from rfl)) (Nat.zero_le _) (Nat.zero_le _) ⟨_, rfl, Is44, Gs44, JBYW_s44, JTKS_s44, e45, rfl, hrs44, ⟨by have := clc_e (cld_c hCL); omega, by first | exact oq_4407eb3c ws44_1 ws44_2 ws11_1 ws11_2 p1 | omega, by first | exact oq_4407eb3c ws44_2 ws44_4 ws11_2 ws11_4 p2 | omega, hCL, Or.inl (by first | exact hps44.1 | omega)⟩⟩
  ·
    refine z_aload_n X (x := A 19) rfl (List.Mem.tail _ (List.Mem.head _)) (s_getR X 19 rfl (c518_ok rfl) rfl rfl ?_)
    obtain ⟨tx80, q80, hR80, hS80⟩ := GT (80, [106, 111, 105, 110]) (by decide)
    refine w_ldcK X (show vk_R (kOwn k) 80 tx80 q80 (kS0 k) by rw [E.2.1, X.2.1.2.1]; exact hR80) (show decode (kCc k) 18 = .ok (.ldc 80, 2) by rw [X.2.1.1]; decide +kernel) (zcV_i2 X E 1 (As := [.ref q80]) (st := []) rfl rfl rfl rfl (c10_says3 G SF hS80 (by decide) Is11 JBYW_s11 JTKS_s11 (by first | exact oq_e7b9ecab ws11_2 ws11_4 p2 | omega)) rfl (Nat.le_of_ble_eq_true rfl) (fun s47 e48 Is47 Fs47 JBYW_s47 JTKS_s47 hrs47 hps47 => ?_))
    have Gs47 := fm_tq Gs11 Fs47 rfl rfl
    have JBYW_s47 : BYW B N s47 := BYW_fm Fs47 (by decide) JBYW_s11
    have JTKS_s47 : TKS B N s47 := TKS_fm Fs47 (by decide) JTKS_s11
    have ws47_2 : iI s47 2 = iI s11 2 := fm_iq Fs47 rfl
    have ws47_1 : iI s47 1 = iI s11 1 := fm_iq Fs47 rfl
    have ws47_4 : iI s47 4 = iI s11 4 := fm_iq Fs47 rfl
    have ws47_5 : iI s47 5 = iI s11 5 := fm_iq Fs47 rfl
    have ws47_6 : iI s47 6 = iI s11 6 := fm_iq Fs47 rfl
    have ws47_19 : iI s47 19 = iI s11 19 := fm_iq Fs47 rfl
    have ws47_16 : iI s47 16 = iI s11 16 := fm_iq Fs47 rfl
    have ws47_7 : iI s47 7 = iI s11 7 := fm_iq Fs47 rfl
    have ws47_17 : iI s47 17 = iI s11 17 := fm_iq Fs47 rfl
    have ws47_18 : iI s47 18 = iI s11 18 := fm_iq Fs47 rfl
    have aws47_19 : SAM 19 s s47 := sam_ts aws11_19 (sam_fm Fs47 (by decide))
    have aws47_18 : SAM 18 s s47 := sam_ts aws11_18 (sam_fm Fs47 (by decide))
    have hws47 : (e48 = 1 ∧ whV B N (iI s 4) = 208022) ∨ (e48 = 0 ∧ whV B N (iI s 4) ≠ 208022) := by have h := hps47; rw [show iI s11 4 = iI s 4 by first | (clear hps47 hps11; omega) | (clear hps11; omega) | omega, show whL [106, 111, 105, 110] 0 = 208022 by decide] at h; exact h
    refine z_if_ne X (t := 35) rfl rfl hrs47 (fun g49 => ?_) (fun g49 => ?_)
    ·
      refine z_load_n X (x := x) rfl (List.Mem.tail _ (List.Mem.tail _ (List.Mem.head _))) (z_bipush X rfl (z_icmp_lt X (t := 50) rfl rfl ⟨by first | exact oq_fa4e5087 p0.1 | omega, by first | exact oq_d3f5d874 p0.2 | omega⟩ (by decide) (fun g50 => ?_) (fun g50 => ?_)))
      ·
        have hwl : whV B N (iI s 4) = 247162 ∨ whV B N (iI s 4) = 208022 := by first | (clear g49 hps47 hps11; omega) | (clear hps47 hps11; omega) | omega
        have hk3 : iI s 5 = -3 := Classical.byContradiction (fun q => by have := hwd.2 q; omega)
        have ha3 := (hwd.1 hk3).1
        have hg3 := (hwd.1 hk3).2
        have hsk := sk_le (B := B) (N := N) (p := wdE B N (iI s 4))
        refine z_aload_n X (x := A 19) rfl (List.Mem.tail _ (List.Mem.head _)) (s_getR X 19 rfl (c518_ok rfl) rfl rfl (zcV_v2 X E 1 (As := []) (st := []) rfl rfl rfl rfl (c10_step3 G Is47 JBYW_s47 (by first | exact oq_4407eb3c ws47_1 ws47_2 ws11_1 ws11_2 p1 | omega)) rfl (Nat.le_of_ble_eq_true rfl) (fun s51 Is51 Fs51 JBYW_s51 JTKS_s51 hps51 => ?_)))
        have Gs51 := fm_tq Gs47 Fs51 rfl rfl
        have JBYW_s51 : BYW B N s51 := BYW_fm Fs51 (by decide) JBYW_s47
        have b53 := bi_2 Is51
        have ws51_1 : iI s51 1 = iI s47 1 := fm_iq Fs51 rfl
        have b54 := bi_4 Is51
        have b55 := bi_5 Is51
        have b56 := bi_6 Is51
        have ws51_19 : iI s51 19 = iI s47 19 := fm_iq Fs51 rfl
        have ws51_16 : iI s51 16 = iI s47 16 := fm_iq Fs51 rfl
        have ws51_7 : iI s51 7 = iI s47 7 := fm_iq Fs51 rfl
        have ws51_17 : iI s51 17 = iI s47 17 := fm_iq Fs51 rfl
        have ws51_18 : iI s51 18 = iI s47 18 := fm_iq Fs51 rfl
        have aws51_19 : SAM 19 s s51 := sam_ts aws47_19 (sam_fm Fs51 (by decide))
        have aws51_18 : SAM 18 s s51 := sam_ts aws47_18 (sam_fm Fs51 (by decide))
        have hs1 : iI s51 4 = sk B N (wdE B N (iI s 4)) := by rw [hps51.2.2.1, show iI s47 2 = wdE B N (iI s 4) by first | (clear g49 hps47 hps11; omega) | (clear hps47 hps11; omega) | omega]
        refine z_load_n X (x := e12) rfl (List.Mem.head _) (z_if_eq X (t := 71) rfl rfl hrs11 (fun g57 => ?_) (fun g57 => ?_))
        ·
          refine z_aload_n X (x := A 19) rfl (List.Mem.tail _ (List.Mem.head _)) (z_callV X 19 (rm := (rkR (32 + 3 * (7) + 2))) (As := []) (st := []) rfl rfl (by decide) rfl (by rw [E.1, E.2.1, E.2.2.1]; exact (c7_eithr3 G (B := B) (N := N) SF GT 7).2.2 Is51 JBYW_s51 JTKS_s51 (by first | exact hps51.1 | omega) (by first | exact hps51.2.1 | omega) (by first | exact oq_f6b99f75 ws51_19 ws47_19 ws11_19 b6.1 | omega) (by first | exact oq_e2534179 ws51_16 hps51.2.2.2 ws47_16 ws47_2 ws11_16 ws11_2 p4 p2 | omega)) ⟨by rw [E.2.2.2]; exact (show (12 + (32 + 3 * (7) + 2)) + 1 ≤ 68 from oq_2af1bc43), by rw [E.2.2.2]; exact (show 8 + (2 + 11) + (500 + 45 * (32 + 3 * (7) + 2)) ≤ 2996 from oq_3d00aaab), by rw [E.2.2.2]; exact Nat.le_refl 0, by rw [E.2.2.2]; exact Nat.le_refl 0⟩ (Nat.le_of_ble_eq_true rfl) (fun vv s58 hq => ?_) (fun ee s58 hq => ?_))
          rotate_left
          · obtain ⟨Is58, Fs58, JBYW_s58, JTKS_s58, e59, hv, hrs58, hps58⟩ := hq; cases hv
          obtain ⟨Is58, Fs58, JBYW_s58, JTKS_s58, e59, hv, hrs58, hps58⟩ := hq
          cases hv
          have Gs58 := fm_tq Gs51 Fs58 rfl rfl
          have JBYW_s58 : BYW B N s58 := BYW_fm Fs58 (by decide) JBYW_s51
          have b60 := bi_2 Is58
          have ws58_1 : iI s58 1 = iI s51 1 := fm_iq Fs58 rfl
          have b61 := bi_4 Is58
          have b62 := bi_5 Is58
          have b63 := bi_6 Is58
          have b64 := bi_19 Is58
          have b65 := bi_16 Is58
          have b66 := bi_7 Is58
          have ws58_17 : iI s58 17 = iI s51 17 := fm_iq Fs58 rfl
          have ws58_18 : iI s58 18 = iI s51 18 := fm_iq Fs58 rfl
          have aws58_19 : SAM 19 s s58 := sam_ts aws51_19 (sam_fm Fs58 (by decide))
          show WS k 75 [(2, .int (Int32.ofInt e12)), (0, .ref (A 19)), (1, .int (Int32.ofInt x))] [.int (Int32.ofInt e59)] (Wd A dT s58) 0 0
          refine z_if_ne X (t := 80) rfl rfl hrs58 (fun g67 => ?_) (fun g67 => ?_)
          ·
            refine z_aload_n X (x := A 19) rfl (List.Mem.tail _ (List.Mem.head _)) (z_bipush X rfl (zcV_i2 X E 19 (As := [.int (Int32.ofInt 59)]) (st := []) rfl rfl rfl rfl (c7_pass3 G Is58 JBYW_s58 JTKS_s58 (by first | exact ⟨by decide, by decide⟩ | omega) (by first | exact Or.inr (by decide) | omega) (by first | exact Or.inl (by decide) | omega) (by first | exact hps58.2.1 | omega) (by first | exact hps58.2.2.1 | omega)) rfl (Nat.le_of_ble_eq_true rfl) (fun s68 e69 Is68 Fs68 JBYW_s68 JTKS_s68 hrs68 hps68 => ?_)))
            have hps68p := And.intro hps68.2.1 (And.intro hps68.2.2.1 (hps68.2.2.2))
            have Gs68 := fm_tq Gs58 Fs68 rfl rfl
            have JBYW_s68 : BYW B N s68 := BYW_fm Fs68 (by decide) JBYW_s58
            have b70 := bi_2 Is68
            have ws68_1 : iI s68 1 = iI s58 1 := fm_iq Fs68 rfl
            have b71 := bi_4 Is68
            have b72 := bi_5 Is68
            have b73 := bi_6 Is68
            have ws68_19 : iI s68 19 = iI s58 19 := fm_iq Fs68 rfl
            have ws68_16 : iI s68 16 = iI s58 16 := fm_iq Fs68 rfl
            have b74 := bi_7 Is68
            have ws68_17 : iI s68 17 = iI s58 17 := fm_iq Fs68 rfl
            have ws68_18 : iI s68 18 = iI s58 18 := fm_iq Fs68 rfl
            have aws68_19 : SAM 19 s s68 := sam_ts aws58_19 (sam_fm Fs68 (by decide))
            have hpg : e69 ≠ 0 → iI s58 4 < iI s68 4 ∧ iI s68 4 ≤ N := fun h => pss_gt hps68.2.2.2 h
            refine z_if_ne X (t := 91) rfl rfl hrs68 (fun g75 => ?_) (fun g75 => ?_)
            ·
              refine z_aload_n X (x := A 19) rfl (List.Mem.tail _ (List.Mem.head _)) (s_getR X 19 rfl (c518_ok rfl) rfl rfl (z_load_n X (x := x) rfl (List.Mem.tail _ (List.Mem.tail _ (List.Mem.head _))) (z_aload_n X (x := A 19) rfl (List.Mem.tail _ (List.Mem.head _)) (z_getI X 19 rfl (c518_ok rfl) rfl rfl ?_))))
              have b76 := bi_16 Is68
              refine z_ast X 23 rfl (c518_ok rfl) rfl (by first | exact p0.1 | omega) (show x < 8 by first | exact g50 | omega) (cbig_ok rfl) (wd_gen (fun s77 hs77 => ?_))
              have Is77 : Bd s77 := eqB hs77 (bd_C Is68 (show (0 : Int) ≤ (iI s68 16) ∧ (iI s68 16) ≤ 200 by first | exact ⟨b76.1, b76.2⟩ | omega) (rng_to _))
              have Fs77 := eqF hs77 (fm_C Gs68 (inl_ok (a := 19) rfl))
              have ws77_2 : iI s77 2 = iI s68 2 := eqI hs77 rfl
              have ws77_1 : iI s77 1 = iI s68 1 := eqI hs77 rfl
              have ws77_4 : iI s77 4 = iI s68 4 := eqI hs77 rfl
              have ws77_5 : iI s77 5 = iI s68 5 := eqI hs77 rfl
              have ws77_6 : iI s77 6 = iI s68 6 := eqI hs77 rfl
              have ws77_19 : iI s77 19 = iI s68 19 := eqI hs77 rfl
              have ws77_16 : iI s77 16 = iI s68 16 := eqI hs77 rfl
              have ws77_7 : iI s77 7 = iI s68 7 := eqI hs77 rfl
              have ws77_17 : iI s77 17 = iI s68 17 := eqI hs77 rfl
              have ws77_18 : iI s77 18 = iI s68 18 := eqI hs77 rfl
              have aws77_19 : UPD 19 (x) (iI s68 16) s s77 := by rw [hs77]; exact upd_put aws68_19 (rng_to _)
              have fs77 : Fm [] [19] s68 s77 := by rw [hs77]; exact fm_C (fm_rf _ _ _) (show 19 ∈ _ by decide)
              have JBYW_s77 : BYW B N s77 := BYW_fm fs77 (by decide) JBYW_s68
              have JTKS_s77 : TKS B N s77 := TKS_fm fs77 (by decide) JTKS_s68
              refine z_load_n X (x := e12) rfl (List.Mem.head _) (z_if_eq X (t := 113) rfl rfl hrs11 (fun g78 => ?_) (fun g78 => ?_))
              ·
                refine z_aload_n X (x := A 19) rfl (List.Mem.tail _ (List.Mem.head _)) (w_dup X.1 (ax_d X (show cdA 71 114 = some (.dup, 1, 0, 0, 0) from rfl)) rfl (z_getI X 19 rfl (c518_ok rfl) rfl rfl ?_))
                have b79 := bi_18 Is77
                refine z_const X rfl (z_load_n X (x := x) rfl (List.Mem.tail _ (List.Mem.tail _ (List.Mem.head _))) (z_bshl X rfl (z_anyV (fun y80 hy80 ey80 => ?_))))
                refine w_ior X.1 (ax_d X (show cdA 71 121 = some (.ior, 1, 0, 0, 0) from rfl)) (z_anyV (fun y81 hy81 ey81 => ?_))
                refine s_putI X 19 rfl (c518_ok rfl) rfl rfl (by decide) rfl rfl rfl (wd_gen (fun s82 hs82 => ?_))
                have Is82 : Bd s82 := eqB hs82 (bd_I Is77 (show ((-2147483648) : Int) ≤ y81 ∧ y81 ≤ 2147483647 by first | exact ⟨hy81.1, hy81.2⟩ | omega) hy81)
                have Fs82 := eqF hs82 (fm_I Fs77 (inl_ok (a := 18) rfl))
                have vs82 : iI s82 18 = y81 := eqI hs82 (iI_u hy81)
                have ws82_2 : iI s82 2 = iI s77 2 := eqI hs82 rfl
                have ws82_1 : iI s82 1 = iI s77 1 := eqI hs82 rfl
                have ws82_4 : iI s82 4 = iI s77 4 := eqI hs82 rfl
                have ws82_5 : iI s82 5 = iI s77 5 := eqI hs82 rfl
                have ws82_6 : iI s82 6 = iI s77 6 := eqI hs82 rfl
                have ws82_19 : iI s82 19 = iI s77 19 := eqI hs82 rfl
                have ws82_16 : iI s82 16 = iI s77 16 := eqI hs82 rfl
                have ws82_7 : iI s82 7 = iI s77 7 := eqI hs82 rfl
                have ws82_17 : iI s82 17 = iI s77 17 := eqI hs82 rfl
                have aws82_19 : UPD 19 (x) (iI s68 16) s s82 := by rw [hs82]; exact aws77_19
                have fs82 : Fm [18] [] s77 s82 := by rw [hs82]; exact fm_I (fm_rf _ _ _) (show 18 ∈ _ by decide)
                have JBYW_s82 : BYW B N s82 := BYW_fm fs82 (by decide) JBYW_s77
                have JTKS_s82 : TKS B N s82 := TKS_fm fs82 (by decide) JTKS_s77
                refine z_const X rfl ?_
                have hCL : CLD B N x s s82 1 := cld_of (a := s51) (b := s58) (c := s68) (Or.inr ⟨by first | (clear g75 hps68 g67 hps58 g49 hps47 hps11; omega) | (clear hps68 g67 hps58 g49 hps47 hps11; omega) | omega, rfl⟩) (by first | (clear g75 hps68 g67 hps58 g49 hps47 hps11; omega) | (clear hps68 g67 hps58 g49 hps47 hps11; omega) | omega) (DL_sam (by first | (clear g75 hps68 g67 hps58 g49 hps47 hps11; omega) | (clear hps68 g67 hps58 g49 hps47 hps11; omega) | omega) aws51_18) (by have h := hps58.2.2.2; rw [show iI s51 4 = sk B N (wdE B N (iI s 4)) by first | (clear g75 hps68 g67 hps58 g49 hps47 hps11; omega) | (clear hps68 g67 hps58 g49 hps47 hps11; omega) | omega, show iI s51 19 = 0 by first | (clear g75 hps68 g67 hps58 g49 hps47 hps11; omega) | (clear hps68 g67 hps58 g49 hps47 hps11; omega) | omega] at h; exact h) (by first | (clear g75 hps68 g67 hps58 g49 hps47 hps11; omega) | (clear hps68 g67 hps58 g49 hps47 hps11; omega) | omega) (by have h := hps68.2.2.2; rw [show e69 = 1 by first | (clear g75 hps68 g67 hps58 g49 hps47 hps11; omega) | (clear hps68 g67 hps58 g49 hps47 hps11; omega) | omega] at h; exact h) (by first | (clear g75 hps68 g67 hps58 g49 hps47 hps11; omega) | (clear hps68 g67 hps58 g49 hps47 hps11; omega) | omega) ((DL_sam (s := s68) (t := s82) (by first | (clear g75 hps68 g67 hps58 g49 hps47 hps11; omega) | (clear hps68 g67 hps58 g49 hps47 hps11; omega) | omega) (fun j => by rw [hs82, hs77]; exact iC_a (by decide))).trans (DL_fm Fs68 (by decide) (by decide))) (by rw [show iI s82 16 = iI s68 16 by first | (clear g75 hps68 g67 hps58 g49 hps47 hps11; omega) | (clear hps68 g67 hps58 g49 hps47 hps11; omega) | omega]; exact aws82_19) (Or.inr ⟨by decide, by first | (clear g75 hps68 g67 hps58 g49 hps47 hps11; omega) | (clear hps68 g67 hps58 g49 hps47 hps11; omega) | omega⟩)
                exact w_iret X.1 q hRt (nar_ret (by first | exact Or.inr (by decide) | omega)) (ax_d X (show cdA 71 126 = some (.ireturn, 1, 0, 0, 0) from rfl)) (Nat.zero_le _) (Nat.zero_le _) ⟨_, rfl, Is82, Fs82, JBYW_s82, JTKS_s82, 1, rfl, (by decide), ⟨by have := clc_e (cld_c hCL); omega, by first | exact oq_4407eb3c ws82_1 ws82_2 ws77_1 ws77_2 hps68.2.1 | omega, by first | exact oq_4407eb3c ws82_2 ws82_4 ws77_2 ws77_4 hps68.2.2.1 | omega, hCL, Or.inr (Or.inr ⟨by first | (clear g75 hps68 g67 hps58 g49 hps47 hps11; omega) | (clear hps68 g67 hps58 g49 hps47 hps11; omega) | omega, y80, ey80, by rw [show iI s82 18 = y81 by first | (clear g75 hps68 g67 hps58 g49 hps47 hps11; omega) | (clear hps68 g67 hps58 g49 hps47 hps11; omega) | omega, show iI s 18 = (iI s77 18) by first | (clear g75 hps68 g67 hps58 g49 hps47 hps11; omega) | (clear hps68 g67 hps58 g49 hps47 hps11; omega) | omega]; exact ey81⟩)⟩⟩
              ·
                exfalso
                omega
            ·
              refine z_const X rfl ?_
              have hCL : CLD B N x s s68 0 := cld_no (clc_of (c := s68) (Or.inr ⟨by first | (clear hps68 g67 hps58 g49 hps47 hps11; omega) | (clear g67 hps58 g49 hps47 hps11; omega) | omega, rfl⟩) (by first | (clear hps68 g67 hps58 g49 hps47 hps11; omega) | (clear g67 hps58 g49 hps47 hps11; omega) | omega) (by have h := hps58.2.2.2; rw [show iI s51 4 = sk B N (wdE B N (iI s 4)) by first | (clear hps68 g67 hps58 g49 hps47 hps11; omega) | (clear g67 hps58 g49 hps47 hps11; omega) | omega, show iI s51 19 = 0 by first | (clear hps68 g67 hps58 g49 hps47 hps11; omega) | (clear g67 hps58 g49 hps47 hps11; omega) | omega] at h; exact h) (Or.inr ⟨by first | (clear hps68 g67 hps58 g49 hps47 hps11; omega) | (clear g67 hps58 g49 hps47 hps11; omega) | omega, (by have h := hps68.2.2.2; rw [show e69 = 0 by first | (clear hps68 g67 hps58 g49 hps47 hps11; omega) | (clear g67 hps58 g49 hps47 hps11; omega) | omega] at h; exact h), by first | (clear hps68 g67 hps58 g49 hps47 hps11; omega) | (clear g67 hps58 g49 hps47 hps11; omega) | omega, by first | (clear hps68 g67 hps58 g49 hps47 hps11; omega) | (clear g67 hps58 g49 hps47 hps11; omega) | omega⟩))
              exact w_iret X.1 q hRt (nar_ret (by first | exact Or.inl (by decide) | omega)) (ax_d X (show cdA 71 90 = some (.ireturn, 1, 0, 0, 0) from rfl)) (Nat.zero_le _) (Nat.zero_le _) ⟨_, rfl, Is68, Gs68, JBYW_s68, JTKS_s68, 0, rfl, (by decide), ⟨by have := clc_e (cld_c hCL); omega, by first | exact hps68.2.1 | omega, by first | exact hps68.2.2.1 | omega, hCL, Or.inl (by decide)⟩⟩
          ·
            refine z_const X rfl ?_
            have hCL : CLD B N x s s58 0 := cld_no (clc_of (c := s58) (Or.inr ⟨by first | (clear hps58 g49 hps47 hps11; omega) | (clear g49 hps47 hps11; omega) | omega, rfl⟩) (by first | (clear hps58 g49 hps47 hps11; omega) | (clear g49 hps47 hps11; omega) | omega) (by have h := hps58.2.2.2; rw [show iI s51 4 = sk B N (wdE B N (iI s 4)) by first | (clear hps58 g49 hps47 hps11; omega) | (clear g49 hps47 hps11; omega) | omega, show iI s51 19 = 0 by first | (clear hps58 g49 hps47 hps11; omega) | (clear g49 hps47 hps11; omega) | omega] at h; exact h) (Or.inl ⟨by first | (clear hps58 g49 hps47 hps11; omega) | (clear g49 hps47 hps11; omega) | omega, rfl, by first | (clear hps58 g49 hps47 hps11; omega) | (clear g49 hps47 hps11; omega) | omega⟩))
            exact w_iret X.1 q hRt (nar_ret (by first | exact Or.inl (by decide) | omega)) (ax_d X (show cdA 71 79 = some (.ireturn, 1, 0, 0, 0) from rfl)) (Nat.zero_le _) (Nat.zero_le _) ⟨_, rfl, Is58, Gs58, JBYW_s58, JTKS_s58, 0, rfl, (by decide), ⟨by have := clc_e (cld_c hCL); omega, by first | exact hps58.2.1 | omega, by first | exact hps58.2.2.1 | omega, hCL, Or.inl (by decide)⟩⟩
        ·
          exfalso
          omega
      ·
        refine z_aload_n X (x := A 19) rfl (List.Mem.tail _ (List.Mem.head _)) (s_getR X 19 rfl (c518_ok rfl) rfl rfl (z_const X rfl (zcV_i0 X E 1 (As := [.int (Int32.ofInt 3)]) (st := []) rfl rfl rfl rfl (c10_refuse3 G Is47 (by first | exact ⟨by decide, by decide⟩ | omega)) rfl (Nat.le_of_ble_eq_true rfl) (fun s83 e84 Is83 Fs83 hrs83 hps83 => ?_))))
        have Gs83 := fm_tq Gs47 Fs83 rfl rfl
        have JBYW_s83 : BYW B N s83 := BYW_fm Fs83 (by decide) JBYW_s47
        have JTKS_s83 : TKS B N s83 := TKS_fm Fs83 (by decide) JTKS_s47
        have ws83_2 : iI s83 2 = iI s47 2 := fm_iq Fs83 rfl
        have ws83_1 : iI s83 1 = iI s47 1 := fm_iq Fs83 rfl
        have ws83_4 : iI s83 4 = iI s47 4 := fm_iq Fs83 rfl
        have ws83_5 : iI s83 5 = iI s47 5 := fm_iq Fs83 rfl
        have ws83_6 : iI s83 6 = iI s47 6 := fm_iq Fs83 rfl
        have ws83_19 : iI s83 19 = iI s47 19 := fm_iq Fs83 rfl
        have ws83_16 : iI s83 16 = iI s47 16 := fm_iq Fs83 rfl
        have b85 := bi_7 Is83
        have ws83_17 : iI s83 17 = iI s47 17 := fm_iq Fs83 rfl
        have ws83_18 : iI s83 18 = iI s47 18 := fm_iq Fs83 rfl
        have aws83_19 : SAM 19 s s83 := sam_ts aws47_19 (sam_fm Fs83 (by decide))
        have aws83_18 : SAM 18 s s83 := sam_ts aws47_18 (sam_fm Fs83 (by decide))
        have hCL : CLD B N x s s83 e84 := by rw [show e84 = 0 by first | (clear g49 hps47 hps11; omega) | (clear hps47 hps11; omega) | omega]; exact cld_no (clc_3 (by first | (clear g49 hps47 hps11; omega) | (clear hps47 hps11; omega) | omega) (by first | (clear g49 hps47 hps11; omega) | (clear hps47 hps11; omega) | omega) (by first | (clear g49 hps47 hps11; omega) | (clear hps47 hps11; omega) | omega))
        exact w_iret X.1 q hRt (nar_ret (by first | exact Or.inl (hps83.1) | omega)) (ax_d X (show cdA 71 49 = some (.ireturn, 1, 0, 0, 0) from rfl)) (Nat.zero_le _) (Nat.zero_le _) ⟨_, rfl, Is83, Gs83, JBYW_s83, JTKS_s83, e84, rfl, hrs83, ⟨by have := clc_e (cld_c hCL); omega, by first | exact oq_72ebe5a4 ws83_1 ws83_2 ws47_1 ws47_2 ws11_1 ws11_2 p1 | omega, by first | exact oq_7f1a346e ws83_4 ws83_2 ws47_4 ws47_2 ws11_4 ws11_2 p2 | omega, hCL, Or.inl (by first | exact hps83.1 | omega)⟩⟩
    ·
      refine z_aload_n X (x := A 19) rfl (List.Mem.tail _ (List.Mem.head _)) (s_getR X 19 rfl (c518_ok rfl) rfl rfl (z_const X rfl (zcV_i0 X E 1 (As := [.int (Int32.ofInt 1)]) (st := []) rfl rfl rfl rfl (c10_refuse3 G Is47 (by first | exact ⟨by decide, by decide⟩ | omega)) rfl (Nat.le_of_ble_eq_true rfl) (fun s86 e87 Is86 Fs86 hrs86 hps86 => ?_))))
      have Gs86 := fm_tq Gs47 Fs86 rfl rfl
      have JBYW_s86 : BYW B N s86 := BYW_fm Fs86 (by decide) JBYW_s47
      have JTKS_s86 : TKS B N s86 := TKS_fm Fs86 (by decide) JTKS_s47
      have ws86_2 : iI s86 2 = iI s47 2 := fm_iq Fs86 rfl
      have ws86_1 : iI s86 1 = iI s47 1 := fm_iq Fs86 rfl
      have ws86_4 : iI s86 4 = iI s47 4 := fm_iq Fs86 rfl
      have ws86_5 : iI s86 5 = iI s47 5 := fm_iq Fs86 rfl
      have ws86_6 : iI s86 6 = iI s47 6 := fm_iq Fs86 rfl
      have ws86_19 : iI s86 19 = iI s47 19 := fm_iq Fs86 rfl
      have ws86_16 : iI s86 16 = iI s47 16 := fm_iq Fs86 rfl
      have b88 := bi_7 Is86
      have ws86_17 : iI s86 17 = iI s47 17 := fm_iq Fs86 rfl
      have ws86_18 : iI s86 18 = iI s47 18 := fm_iq Fs86 rfl
      have aws86_19 : SAM 19 s s86 := sam_ts aws47_19 (sam_fm Fs86 (by decide))
      have aws86_18 : SAM 18 s s86 := sam_ts aws47_18 (sam_fm Fs86 (by decide))
      have hCL : CLD B N x s s86 e87 := by rw [show e87 = 0 by first | (clear hps47 hps11; omega) | (clear hps11; omega) | omega]; exact cld_no (clc_1 (by first | (clear hps47 hps11; omega) | (clear hps11; omega) | omega) (by first | (clear hps47 hps11; omega) | (clear hps11; omega) | omega) (by first | (clear hps47 hps11; omega) | (clear hps11; omega) | omega))
      exact w_iret X.1 q hRt (nar_ret (by first | exact Or.inl (hps86.1) | omega)) (ax_d X (show cdA 71 34 = some (.ireturn, 1, 0, 0, 0) from rfl)) (Nat.zero_le _) (Nat.zero_le _) ⟨_, rfl, Is86, Gs86, JBYW_s86, JTKS_s86, e87, rfl, hrs86, ⟨by have := clc_e (cld_c hCL); omega, by first | exact oq_72ebe5a4 ws86_1 ws86_2 ws47_1 ws47_2 ws11_1 ws11_2 p1 | omega, by first | exact oq_7f1a346e ws86_4 ws86_2 ws47_4 ws47_2 ws11_4 ws11_2 p2 | omega, hCL, Or.inl (by first | exact hps86.1 | omega)⟩⟩
theorem c7_adopt367 (G : GX l s0 D tys a0 dT) (I : Bd s) {x : Int} (p0 : 0 ≤ x ∧ x ≤ 8) {k : kx_T} (X : AX k 69 dT) (E : kL k = l ∧ kS0 k = s0 ∧ kD k = D ∧ kR k = rmN 69) (hRt : (kMe k).sig.returnType = rtA 69) {KK : mb_O → va_W → Prop} {mc ms : Nat} (q : kx_end k KK mc ms) (hK : ∀ t : PS, Bd t → Fm [12, 13, 14, 15] [] s t → iI t 12 = x → iI t 13 = iI s 17 → (iI t 15 = 0 → iI t 13 ≠ -1 → NCC (cdL t (iI t 13))) → iI t 14 = iI s 18 → KK (.inl none) (Wd A dT t)) : WS k 36 [(0, .ref (A 19)), (1, .int (Int32.ofInt x))] [] (Wd A dT s) 0 0 := by
  skip
  skip
  have F : Fm [12, 13, 14, 15] [] s s := fm_rf _ _ s
  have b1 := bi_12 I
  have b2 := bi_13 I
  have b3 := bi_15 I
  have b4 := bi_17 I
  have b5 := bi_18 I
  have b6 := bi_14 I
  have L80 : ∀ (n : Nat) (t : PS) (c : Int), Bd t → Fm [12, 13, 14, 15] [] s t → (NFQ s (bgV s (iI s 17)) c t) → ((0 ≤ c ∧ c ≤ 200) ∧ iI t 12 = x ∧ 0 ≤ iI t 13 ∧ iI t 13 = iI s 17 ∧ iI t 14 = iI s 18 ∧ 0 ≤ bgV s (iI s 17)) → (200 - c : Int).toNat < n → (∀ (t' : PS) (c' : Int), Bd t' → Fm [12, 13, 14, 15] [] s t' → (NFQ s (bgV s (iI s 17)) c' t') → (iI t' 12 = x ∧ 0 ≤ iI t' 13 ∧ iI t' 13 = iI s 17 ∧ iI t' 14 = iI s 18 ∧ 0 ≤ bgV s (iI s 17) ∧ iC t' 17 (iI t' 13).toNat ≤ c') → WS k 138 [(0, .ref (A 19)), (4, .int (Int32.ofInt c'))] [] (Wd A dT t') 0 0) → WS k 80 [(0, .ref (A 19)), (4, .int (Int32.ofInt c))] [] (Wd A dT t) 0 0 := by
    intro n
    induction n with
    | zero =>
      intro t c I F hq hi hm kx
      exact absurd hm (Nat.not_lt_zero _)
    | succ n ih =>
      intro t c I F hq hi hm kx
      have b1001 := bi_12 I
      have b1002 := bi_13 I
      have b1003 := bi_15 I
      have b1004 := bi_17 I
      have b1005 := bi_18 I
      have b1006 := bi_14 I
      refine z_load X (x := c) rfl (List.Mem.tail _ (List.Mem.head _)) (z_aload_n X (x := A 19) rfl (List.Mem.head _) (s_getR X 19 rfl (c518_ok rfl) rfl rfl (z_aload_n X (x := A 19) rfl (List.Mem.head _) (z_getI X 19 rfl (c518_ok rfl) rfl rfl ?_))))
      have b1007 := bi_13 I
      refine z_ald X 21 rfl (c518_ok rfl) rfl (by first | exact hi.2.2.1 | omega) (show (iI t 13) < 8 by first | exact oq_aaea290e b1007.2 | omega) (cbig_ok rfl) ?_
      have b1008 := bc_17 I (show ((iI t 13)).toNat < 8 by first | exact oq_c19a3aae b1007.2 | omega)
      refine z_icmp_ge X (t := 138) rfl rfl ⟨by first | exact oq_fa4e5087 hi.1.1 | omega, by first | exact oq_52af2b96 hi.1.2 | omega⟩ (rng_to _) (fun g1009 => ?_) (fun g1009 => ?_)
      ·
        refine WS_pq [0, 1] (lv' := [(0, .ref (A 19)), (4, .int (Int32.ofInt c))]) rfl ?_
        exact kx _ c I F hq (by first | exact ⟨hi.2.1, hi.2.2.1, hi.2.2.2.1, hi.2.2.2.2.1, hi.2.2.2.2.2, g1009⟩ | omega)
      ·
        refine z_aload_n X (x := A 19) rfl (List.Mem.head _) (w_dup X.1 (ax_d X (show cdA 69 95 = some (.dup, 1, 0, 0, 0) from rfl)) rfl (z_getI X 19 rfl (c518_ok rfl) rfl rfl ?_))
        have b1010 := bi_15 I
        refine z_aload_n X (x := A 19) rfl (List.Mem.head _) (s_getR X 19 rfl (c518_ok rfl) rfl rfl (z_load X (x := c) rfl (List.Mem.tail _ (List.Mem.head _)) (z_ald X 20 rfl (c518_ok rfl) rfl (by first | exact hi.1.1 | omega) (show c < 200 by first | exact oq_6fca3d72 g1009 b1008.2 | omega) (cbig_ok rfl) ?_)))
        have b1011 := bc_16 I (show (c).toNat < 200 by first | exact oq_b70289d5 g1009 b1008.2 | omega)
        refine z_bipush X rfl (z_icmp_eq X (t := 123) rfl rfl (rng_to _) (by decide) (fun g1012 => ?_) (fun g1012 => ?_))
        ·
          refine z_const X rfl (z_goto X (t := 128) rfl rfl (w_ior X.1 (ax_d X (show cdA 69 128 = some (.ior, 1, 0, 0, 0) from rfl)) (z_anyV (fun y1013 hy1013 ey1013 => ?_))))
          have hor := or_b (by omega) (by omega) hy1013 ey1013
          have hcs : iC t 16 (c : Int).toNat = iC s 16 (c : Int).toNat := fm_c F List.not_mem_nil
          refine s_putI X 19 rfl (c518_ok rfl) rfl rfl (by decide) (nar_ret (by omega)) (fit_z (by omega)) rfl (wd_gen (fun s1014 hs1014 => ?_))
          have Is1014 : Bd s1014 := eqB hs1014 (bd_I I (show (0 : Int) ≤ y1013 ∧ y1013 ≤ 1 by omega) hy1013)
          have Fs1014 := eqF hs1014 (fm_I F (inl_ok (a := 15) rfl))
          have vs1014 : iI s1014 15 = y1013 := eqI hs1014 (iI_u hy1013)
          have ws1014_12 : iI s1014 12 = iI t 12 := eqI hs1014 rfl
          have ws1014_13 : iI s1014 13 = iI t 13 := eqI hs1014 rfl
          have ws1014_17 : iI s1014 17 = iI t 17 := eqI hs1014 rfl
          have ws1014_18 : iI s1014 18 = iI t 18 := eqI hs1014 rfl
          have ws1014_14 : iI s1014 14 = iI t 14 := eqI hs1014 rfl
          refine z_inc X (x := c) (lv' := [(4, .int (Int32.ofInt (c + 1))), (0, .ref (A 19))]) rfl (by decide) (List.Mem.tail _ (List.Mem.head _)) (fun _ h => h) (z_goto X (t := 80) rfl rfl (WS_pq [1, 0] (lv' := [(0, .ref (A 19)), (4, .int (Int32.ofInt (c + 1)))]) rfl ?_))
          exact ih _ (c + 1) Is1014 Fs1014 (nfq_up hq (by omega) (fun z => by have w := hor.2 z; omega) (by omega)) (by first | exact ⟨And.intro (oq_54f49eb5 hi.1.1) (oq_228270fa g1009 b1008.2), oq_1aa5be9e ws1014_12 hi.2.1, oq_e4757433 ws1014_13 hi.2.2.1, oq_1aa5be9e ws1014_13 hi.2.2.2.1, oq_1aa5be9e ws1014_14 hi.2.2.2.2.1, hi.2.2.2.2.2⟩ | omega) (by first | exact qk_me hm (by decide) (oq_b0a4f3e2 g1009 b1008.2) | omega) kx
        ·
          refine z_aload_n X (x := A 19) rfl (List.Mem.head _) (s_getR X 19 rfl (c518_ok rfl) rfl rfl (z_load X (x := c) rfl (List.Mem.tail _ (List.Mem.head _)) (z_ald X 20 rfl (c518_ok rfl) rfl (by first | exact hi.1.1 | omega) (show c < 200 by first | exact oq_6fca3d72 g1009 b1008.2 | omega) (cbig_ok rfl) ?_)))
          have b1015 := bc_16 I (show (c).toNat < 200 by first | exact oq_b70289d5 g1009 b1008.2 | omega)
          refine z_bipush X rfl (z_icmp_ne X (t := 127) rfl rfl (rng_to _) (by decide) (fun g1016 => ?_) (fun g1016 => ?_))
          ·
            refine z_const X rfl (w_ior X.1 (ax_d X (show cdA 69 128 = some (.ior, 1, 0, 0, 0) from rfl)) (z_anyV (fun y1017 hy1017 ey1017 => ?_)))
            have hor := or_b (by first | (clear g1016 g1012; omega) | (clear g1012; omega) | omega) (by first | (clear g1016 g1012; omega) | (clear g1012; omega) | omega) hy1017 ey1017
            have hcs : iC t 16 (c : Int).toNat = iC s 16 (c : Int).toNat := fm_c F List.not_mem_nil
            refine s_putI X 19 rfl (c518_ok rfl) rfl rfl (by decide) (nar_ret (by first | (clear g1016 g1012; omega) | (clear g1012; omega) | omega)) (fit_z (by first | (clear g1016 g1012; omega) | (clear g1012; omega) | omega)) rfl (wd_gen (fun s1018 hs1018 => ?_))
            have Is1018 : Bd s1018 := eqB hs1018 (bd_I I (show (0 : Int) ≤ y1017 ∧ y1017 ≤ 1 by first | (clear g1016 g1012; omega) | (clear g1012; omega) | omega) hy1017)
            have Fs1018 := eqF hs1018 (fm_I F (inl_ok (a := 15) rfl))
            have vs1018 : iI s1018 15 = y1017 := eqI hs1018 (iI_u hy1017)
            have ws1018_12 : iI s1018 12 = iI t 12 := eqI hs1018 rfl
            have ws1018_13 : iI s1018 13 = iI t 13 := eqI hs1018 rfl
            have ws1018_17 : iI s1018 17 = iI t 17 := eqI hs1018 rfl
            have ws1018_18 : iI s1018 18 = iI t 18 := eqI hs1018 rfl
            have ws1018_14 : iI s1018 14 = iI t 14 := eqI hs1018 rfl
            refine z_inc X (x := c) (lv' := [(4, .int (Int32.ofInt (c + 1))), (0, .ref (A 19))]) rfl (by decide) (List.Mem.tail _ (List.Mem.head _)) (fun _ h => h) (z_goto X (t := 80) rfl rfl (WS_pq [1, 0] (lv' := [(0, .ref (A 19)), (4, .int (Int32.ofInt (c + 1)))]) rfl ?_))
            exact ih _ (c + 1) Is1018 Fs1018 (nfq_up hq (by first | (clear g1016 g1012; omega) | (clear g1012; omega) | omega) (fun z => by have w := hor.2 z; omega) (by first | (clear g1016 g1012; omega) | (clear g1012; omega) | omega)) (by first | exact ⟨And.intro (oq_54f49eb5 hi.1.1) (oq_228270fa g1009 b1008.2), oq_1aa5be9e ws1018_12 hi.2.1, oq_e4757433 ws1018_13 hi.2.2.1, oq_1aa5be9e ws1018_13 hi.2.2.2.1, oq_1aa5be9e ws1018_14 hi.2.2.2.2.1, hi.2.2.2.2.2⟩ | omega) (by first | exact qk_me hm (by decide) (oq_b0a4f3e2 g1009 b1008.2) | omega) kx
          ·
            refine z_const X rfl (z_goto X (t := 128) rfl rfl (w_ior X.1 (ax_d X (show cdA 69 128 = some (.ior, 1, 0, 0, 0) from rfl)) (z_anyV (fun y1019 hy1019 ey1019 => ?_))))
            have hor := or_b (by first | (clear g1012; omega) | omega) (by first | (clear g1012; omega) | omega) hy1019 ey1019
            have hcs : iC t 16 (c : Int).toNat = iC s 16 (c : Int).toNat := fm_c F List.not_mem_nil
            refine s_putI X 19 rfl (c518_ok rfl) rfl rfl (by decide) (nar_ret (by first | (clear g1012; omega) | omega)) (fit_z (by first | (clear g1012; omega) | omega)) rfl (wd_gen (fun s1020 hs1020 => ?_))
            have Is1020 : Bd s1020 := eqB hs1020 (bd_I I (show (0 : Int) ≤ y1019 ∧ y1019 ≤ 1 by first | (clear g1012; omega) | omega) hy1019)
            have Fs1020 := eqF hs1020 (fm_I F (inl_ok (a := 15) rfl))
            have vs1020 : iI s1020 15 = y1019 := eqI hs1020 (iI_u hy1019)
            have ws1020_12 : iI s1020 12 = iI t 12 := eqI hs1020 rfl
            have ws1020_13 : iI s1020 13 = iI t 13 := eqI hs1020 rfl
            have ws1020_17 : iI s1020 17 = iI t 17 := eqI hs1020 rfl
            have ws1020_18 : iI s1020 18 = iI t 18 := eqI hs1020 rfl
            have ws1020_14 : iI s1020 14 = iI t 14 := eqI hs1020 rfl
            refine z_inc X (x := c) (lv' := [(4, .int (Int32.ofInt (c + 1))), (0, .ref (A 19))]) rfl (by decide) (List.Mem.tail _ (List.Mem.head _)) (fun _ h => h) (z_goto X (t := 80) rfl rfl (WS_pq [1, 0] (lv' := [(0, .ref (A 19)), (4, .int (Int32.ofInt (c + 1)))]) rfl ?_))
            exact ih _ (c + 1) Is1020 Fs1020 (nfq_up hq (by first | (clear g1012; omega) | omega) (fun z => by have w := hor.2 z; omega) (by first | (clear g1012; omega) | omega)) (by first | exact ⟨And.intro (oq_54f49eb5 hi.1.1) (oq_228270fa g1009 b1008.2), oq_1aa5be9e ws1020_12 hi.2.1, oq_e4757433 ws1020_13 hi.2.2.1, oq_1aa5be9e ws1020_13 hi.2.2.2.1, oq_1aa5be9e ws1020_14 hi.2.2.2.2.1, hi.2.2.2.2.2⟩ | omega) (by first | exact qk_me hm (by decide) (oq_b0a4f3e2 g1009 b1008.2) | omega) kx
  refine z_aload_n X (x := A 19) rfl (List.Mem.head _) (z_load_n X (x := x) rfl (List.Mem.tail _ (List.Mem.head _)) (s_putI X 19 rfl (c518_ok rfl) rfl rfl (by decide) rfl rfl rfl (wd_gen (fun s7 hs7 => ?_))))
  have Is7 : Bd s7 := eqB hs7 (bd_I I (show (0 : Int) ≤ x ∧ x ≤ 9 by first | exact ⟨p0.1, oq_12cf304a p0.2⟩ | omega) ⟨by first | exact oq_fa4e5087 p0.1 | omega, by first | exact oq_d3f5d874 p0.2 | omega⟩)
  have Fs7 := eqF hs7 (fm_I F (inl_ok (a := 12) rfl))
  have vs7 : iI s7 12 = x := eqI hs7 (iI_u ⟨by first | exact oq_fa4e5087 p0.1 | omega, by first | exact oq_d3f5d874 p0.2 | omega⟩)
  have ws7_13 : iI s7 13 = iI s 13 := eqI hs7 rfl
  have ws7_15 : iI s7 15 = iI s 15 := eqI hs7 rfl
  have ws7_17 : iI s7 17 = iI s 17 := eqI hs7 rfl
  have ws7_18 : iI s7 18 = iI s 18 := eqI hs7 rfl
  have ws7_14 : iI s7 14 = iI s 14 := eqI hs7 rfl
  refine z_aload_n X (x := A 19) rfl (List.Mem.head _) (z_aload_n X (x := A 19) rfl (List.Mem.head _) (z_getI X 19 rfl (c518_ok rfl) rfl rfl ?_))
  have b8 := bi_17 Is7
  refine s_putI X 19 rfl (c518_ok rfl) rfl rfl (by decide) rfl rfl rfl (wd_gen (fun s9 hs9 => ?_))
  have Is9 : Bd s9 := eqB hs9 (bd_I Is7 (show ((-1) : Int) ≤ (iI s7 17) ∧ (iI s7 17) ≤ 7 by first | exact ⟨b8.1, b8.2⟩ | omega) (rng_to _))
  have Fs9 := eqF hs9 (fm_I Fs7 (inl_ok (a := 13) rfl))
  have vs9 : iI s9 13 = (iI s7 17) := eqI hs9 (iI_u (rng_to _))
  have ws9_12 : iI s9 12 = iI s7 12 := eqI hs9 rfl
  have ws9_15 : iI s9 15 = iI s7 15 := eqI hs9 rfl
  have ws9_17 : iI s9 17 = iI s7 17 := eqI hs9 rfl
  have ws9_18 : iI s9 18 = iI s7 18 := eqI hs9 rfl
  have ws9_14 : iI s9 14 = iI s7 14 := eqI hs9 rfl
  refine z_aload_n X (x := A 19) rfl (List.Mem.head _) (z_aload_n X (x := A 19) rfl (List.Mem.head _) (z_getI X 19 rfl (c518_ok rfl) rfl rfl ?_))
  have b10 := bi_18 Is9
  refine s_putI X 19 rfl (c518_ok rfl) rfl rfl (by decide) rfl rfl rfl (wd_gen (fun s11 hs11 => ?_))
  have Is11 : Bd s11 := eqB hs11 (bd_I Is9 (show ((-2147483648) : Int) ≤ (iI s9 18) ∧ (iI s9 18) ≤ 2147483647 by first | exact ⟨b10.1, b10.2⟩ | omega) (rng_to _))
  have Fs11 := eqF hs11 (fm_I Fs9 (inl_ok (a := 14) rfl))
  have vs11 : iI s11 14 = (iI s9 18) := eqI hs11 (iI_u (rng_to _))
  have ws11_12 : iI s11 12 = iI s9 12 := eqI hs11 rfl
  have ws11_13 : iI s11 13 = iI s9 13 := eqI hs11 rfl
  have ws11_15 : iI s11 15 = iI s9 15 := eqI hs11 rfl
  have ws11_17 : iI s11 17 = iI s9 17 := eqI hs11 rfl
  have ws11_18 : iI s11 18 = iI s9 18 := eqI hs11 rfl
  refine z_aload_n X (x := A 19) rfl (List.Mem.head _) (z_const X rfl (s_putI X 19 rfl (c518_ok rfl) rfl rfl (by decide) (nar_ret (by omega)) (fit_z (by omega)) rfl (wd_gen (fun s12 hs12 => ?_))))
  have Is12 : Bd s12 := eqB hs12 (bd_I Is11 (show (0 : Int) ≤ 0 ∧ 0 ≤ 1 by first | exact ⟨by decide, by decide⟩ | omega) (by decide))
  have Fs12 := eqF hs12 (fm_I Fs11 (inl_ok (a := 15) rfl))
  have vs12 : iI s12 15 = 0 := eqI hs12 (iI_u (by decide))
  have ws12_12 : iI s12 12 = iI s11 12 := eqI hs12 rfl
  have ws12_13 : iI s12 13 = iI s11 13 := eqI hs12 rfl
  have ws12_17 : iI s12 17 = iI s11 17 := eqI hs12 rfl
  have ws12_18 : iI s12 18 = iI s11 18 := eqI hs12 rfl
  have ws12_14 : iI s12 14 = iI s11 14 := eqI hs12 rfl
  refine z_aload_n X (x := A 19) rfl (List.Mem.head _) (z_getI X 19 rfl (c518_ok rfl) rfl rfl ?_)
  have b13 := bi_13 Is12
  refine z_const X rfl (z_icmp_eq X (t := 138) rfl rfl (rng_to _) (by decide) (fun g14 => ?_) (fun g14 => ?_))
  ·
    exact w_vret X.1 q hRt (ax_d X (show cdA 69 138 = some (.return_, 1, 0, 0, 0) from rfl)) (Nat.zero_le _) (Nat.zero_le _) (hK _ Is12 Fs12 (by omega) (by omega) (fun _ h => absurd (by omega) h) (by omega))
  ·
    refine z_aload_n X (x := A 19) rfl (List.Mem.head _) (z_aload_n X (x := A 19) rfl (List.Mem.head _) (z_getI X 19 rfl (c518_ok rfl) rfl rfl ?_))
    have b15 := bi_13 Is12
    refine z_callV X 19 (rm := rmN 70) (As := [.int (Int32.ofInt (iI s12 13))]) (st := []) rfl rfl (by decide) rfl (by rw [E.1, E.2.1, E.2.2.1]; exact c7_beginOf3 G Is12 (by first | exact ⟨oq_5234833b b15.1 g14, b15.2⟩ | omega)) ⟨by rw [E.2.2.2]; exact (show (rmN 70).frames + 1 ≤ (rmN 69).frames by decide), by rw [E.2.2.2]; exact (show 8 + (mNL (miB 70) + 11) + (rmN 70).locals ≤ (rmN 69).locals by decide), by rw [E.2.2.2]; exact (show 0 + (rmN 70).cells ≤ (rmN 69).cells by decide), by rw [E.2.2.2]; exact (show 0 + (rmN 70).slots ≤ (rmN 69).slots by decide)⟩ (Nat.le_of_ble_eq_true rfl) (fun vv s16 hq => ?_) (fun ee s16 hq => ?_)
    rotate_left
    · obtain ⟨rfl, e17, hv, hrs16, hps16⟩ := hq; cases hv
    obtain ⟨rfl, e17, hv, hrs16, hps16⟩ := hq
    cases hv
    show WS k 78 [(0, .ref (A 19)), (1, .int (Int32.ofInt x))] [.int (Int32.ofInt e17)] (Wd A dT s12) 0 0
    have hbg : e17 = bgV s (iI s 17) := by rw [hps16.1, show iI s12 13 = iI s 17 by first | (clear g14; omega) | omega]; exact bgv_s (fun j => fm_c Fs12 List.not_mem_nil)
    have hbn : 0 ≤ bgV s (iI s 17) := by first | (clear g14; omega) | omega
    refine z_store X (lv' := [(4, .int (Int32.ofInt e17)), (0, .ref (A 19)), (1, .int (Int32.ofInt x))]) rfl (by decide) (fun _ h => h) (WS_pq [1, 0] (lv' := [(0, .ref (A 19)), (4, .int (Int32.ofInt e17))]) rfl (L80 ((200 - e17 : Int).toNat + 1) s12 e17 Is12 Fs12 (by rw [hbg]; exact nfq_0) (by first | exact ⟨And.intro (hps16.2.1) (hps16.2.2), oq_45b593e3 ws12_12 vs7 ws11_12 ws9_12, oq_5234833b b15.1 g14, oq_a959501e ws7_17 ws12_13 ws11_13 vs9, oq_45b593e3 ws12_14 ws7_18 vs11 ws9_18, hbn⟩ | omega) (Nat.lt_succ_self _) ?_))
    intro s18 x19 Is18 Fs18 Qs18 hs18
    have b20 := bi_12 Is18
    have b21 := bi_13 Is18
    have b22 := bi_15 Is18
    have b23 := bi_17 Is18
    have b24 := bi_18 Is18
    have b25 := bi_14 Is18
    exact w_vret X.1 q hRt (ax_d X (show cdA 69 138 = some (.return_, 1, 0, 0, 0) from rfl)) (Nat.zero_le _) (Nat.zero_le _) (hK _ Is18 Fs18 (by first | (clear g14; omega) | omega) (by first | (clear g14; omega) | omega) (fun q _ => nfq_e Qs18 (by first | (clear g14; omega) | omega) (by first | (clear g14; omega) | omega) (by first | (clear g14; omega) | omega) (fun j => fm_c Fs18 List.not_mem_nil) (fun j => fm_c Fs18 List.not_mem_nil) q) (by first | (clear g14; omega) | omega))
theorem c7_adopt7 (G : GX l s0 D tys a0 dT) (I : Bd s) {x : Int} (p0 : 0 ≤ x ∧ x ≤ 8) : CTX l s0 D A dT 69 (rmN 69) [.ref (A 19), .int (Int32.ofInt x)] s (fun o t => Bd t ∧ Fm [12, 13, 14, 15] [16, 17, 18, 19] s t ∧ o = .inl none ∧ (iI t 12 = x ∧ ADP s t ∧ iI t 14 = iI s 18)) := by
  refine ctX_ofX G (by decide) (Nat.le_of_ble_eq_true rfl) (fun k X E ET hRt hXt q => ?_)
  show WS k 0 [(0, .ref (A 19)), (1, .int (Int32.ofInt x))] [] _ 0 0
  have hb : bsS 19 = .inr (7, [aR (some 1), aR (some 20), aR (some 21), aS 12, aS 13, aS 14, aS 15, aR (some 22), aR (some 23), aS 16, aS 17, aS 18, aS 19, aR (some 24)]) := rfl
  have he := Wd_get (A := A) (dT := dT) (s := s) (show 19 < 518 by decide)
  rw [hb] at he
  have hlen : 19 < (Wd A dT s).length := by rw [Wd_len]; omega
  refine w_aload_n X.1 (x := A 19) (ax_d X (show cdA 69 0 = some (.aload_n 0, 1, 0, 0, 0) from rfl)) (List.Mem.head _) (w_getR X rfl he (v := .ref (A 20)) rfl (w_astore_n X.1 (lv' := [(2, .ref (A 20)), (0, .ref (A 19)), (1, .int (Int32.ofInt x))]) (ax_d X (show cdA 69 4 = some (.astore_n 2, 1, 0, 0, 0) from rfl)) (by rw [X.2.1.2.2]; decide) (fun _ h => h) (w_aload_n X.1 (x := A 19) (ax_d X (show cdA 69 5 = some (.aload_n 0, 1, 0, 0, 0) from rfl)) (List.Mem.tail _ (List.Mem.head _)) (w_getR X rfl he (v := .ref (A 21)) rfl (w_astore_n X.1 (lv' := [(3, .ref (A 21)), (2, .ref (A 20)), (0, .ref (A 19)), (1, .int (Int32.ofInt x))]) (ax_d X (show cdA 69 9 = some (.astore_n 3, 1, 0, 0, 0) from rfl)) (by rw [X.2.1.2.2]; decide) (fun _ h => h) (w_aload_n X.1 (x := A 19) (ax_d X (show cdA 69 10 = some (.aload_n 0, 1, 0, 0, 0) from rfl)) (List.Mem.tail _ (List.Mem.tail _ (List.Mem.head _))) (w_aload_n X.1 (x := A 19) (ax_d X (show cdA 69 11 = some (.aload_n 0, 1, 0, 0, 0) from rfl)) (List.Mem.tail _ (List.Mem.tail _ (List.Mem.head _))) (w_getR X rfl he (v := .ref (A 22)) rfl (w_putR X rfl he (by decide) (by show _ < 14; decide) rfl rfl rfl ?_)))))))))
  have he1 := List.getElem?_set_self (a := ((A 19, .inr (7, (List.map (cv (vS A s)) [aR (some 1), aR (some 20), aR (some 21), aS 12, aS 13, aS 14, aS 15, aR (some 22), aR (some 23), aS 16, aS 17, aS 18, aS 19, aR (some 24)]).set 1 (.ref (A 22)))) : Nat × va_E)) hlen
  refine w_aload_n X.1 (x := A 19) (ax_d X (show cdA 69 18 = some (.aload_n 0, 1, 0, 0, 0) from rfl)) (List.Mem.tail _ (List.Mem.tail _ (List.Mem.head _))) (w_aload_n X.1 (x := A 19) (ax_d X (show cdA 69 19 = some (.aload_n 0, 1, 0, 0, 0) from rfl)) (List.Mem.tail _ (List.Mem.tail _ (List.Mem.head _))) (w_getR X rfl he1 (v := .ref (A 23)) rfl (w_putR X rfl he1 (by decide) (by show _ < 14; decide) rfl rfl rfl ?_)))
  rw [List.set_set]
  have he2 := List.getElem?_set_self (a := ((A 19, .inr (7, ((List.map (cv (vS A s)) [aR (some 1), aR (some 20), aR (some 21), aS 12, aS 13, aS 14, aS 15, aR (some 22), aR (some 23), aS 16, aS 17, aS 18, aS 19, aR (some 24)]).set 1 (.ref (A 22))).set 2 (.ref (A 23)))) : Nat × va_E)) hlen
  refine w_aload_n X.1 (x := A 19) (ax_d X (show cdA 69 26 = some (.aload_n 0, 1, 0, 0, 0) from rfl)) (List.Mem.tail _ (List.Mem.tail _ (List.Mem.head _))) (w_aload_n X.1 (x := A 20) (ax_d X (show cdA 69 27 = some (.aload_n 2, 1, 0, 0, 0) from rfl)) (List.Mem.tail _ (List.Mem.head _)) (w_putR X rfl he2 (by decide) (by show _ < 14; decide) rfl rfl rfl ?_))
  rw [List.set_set]
  have he3 := List.getElem?_set_self (a := ((A 19, .inr (7, (((List.map (cv (vS A s)) [aR (some 1), aR (some 20), aR (some 21), aS 12, aS 13, aS 14, aS 15, aR (some 22), aR (some 23), aS 16, aS 17, aS 18, aS 19, aR (some 24)]).set 1 (.ref (A 22))).set 2 (.ref (A 23))).set 7 (.ref (A 20)))) : Nat × va_E)) hlen
  refine w_aload_n X.1 (x := A 19) (ax_d X (show cdA 69 31 = some (.aload_n 0, 1, 0, 0, 0) from rfl)) (List.Mem.tail _ (List.Mem.tail _ (List.Mem.head _))) (w_aload_n X.1 (x := A 21) (ax_d X (show cdA 69 32 = some (.aload_n 3, 1, 0, 0, 0) from rfl)) (List.Mem.head _) (w_putR X rfl he3 (by decide) (by show _ < 14; decide) rfl rfl rfl ?_))
  rw [List.set_set]
  have hsw : ∀ j, (Wd (fun c => A (sw c)) dT (pSw s))[j]? = ((Wd A dT s).set 19 (A 19, .inr (7, ((((List.map (cv (vS A s)) [aR (some 1), aR (some 20), aR (some 21), aS 12, aS 13, aS 14, aS 15, aR (some 22), aR (some 23), aS 16, aS 17, aS 18, aS 19, aR (some 24)]).set 1 (.ref (A 22))).set 2 (.ref (A 23))).set 7 (.ref (A 20))).set 8 (.ref (A 21)))))[sw j]? := fun j => by
    rw [Wd_sw j, hb]
    rfl
  refine WS_perm hsw (WS_pq [2, 3] (lv' := [(0, .ref (A 19)), (1, .int (Int32.ofInt x))]) rfl ?_)
  exact c7_adopt367 (A := fun c => A (sw c)) G (bd_sw I) p0 X E hRt q (fun t It Ft ht h2 h3 h4 => ⟨fun c => A (sw c), t, swA_sw A, rfl, It, fm_ts (fm_ts (fm_rf _ _ _) fm_sw (by decide) (by decide)) Ft (by decide) (by decide), rfl, ht, ⟨(fun j => (fm_c Ft List.not_mem_nil : iC t 16 j = iC (pSw s) 16 j).trans rfl), (fun j => (fm_c Ft List.not_mem_nil : iC t 17 j = iC (pSw s) 17 j).trans rfl), h2.trans rfl, h3⟩, h4.trans rfl⟩)
set_option maxRecDepth 4000 in
theorem c7_read7 (G : GX l s0 D tys a0 dT) {B : Nat → Int} {N : Int} (SF : SF0 s0) (GT : TXw0 s0) (I : Bd s) (jBYW : BYW B N s) (jTKS : TKS B N s) (p0 : iI s 2 ≤ iI s 1) (p1 : iI s 4 ≤ iI s 2) (p2 : 0 ≤ iI s 12 ∧ iI s 12 ≤ 8) (p3 : iI s 4 = sk B N 0) : CTX l s0 D A dT 68 (rmN 68) [.ref (A 19)] s (fun o t => Bd t ∧ Fm [2, 4, 6, 5, 7, 8, 19, 16, 17, 18, 12, 13, 14, 15] [16, 17, 18, 19] s t ∧ ∃ e, o = .inl (some (.int (Int32.ofInt e))) ∧ rng e ∧ (((e = 1 ∧ RLC B N (iI t 12) t ∧ CJB B N (iI t 12) t) ∨ (e = 0 ∧ (∃ n : Nat, RUL B N (iI t 7) n ∧ iI t 7 ≠ 0) ∧ iI t 13 = iI s 13 ∧ iI t 15 = iI s 15 ∧ iI t 12 = iI s 12 ∧ iI t 14 = iI s 14 ∧ SAM 16 s t ∧ SAM 17 s t)) ∧ 0 ≤ iI t 12 ∧ iI t 12 ≤ 8)) := by
  refine ctX_ofX G (by decide) (Nat.le_of_ble_eq_true rfl) (fun k X E ET hRt hXt q => ?_)
  show WS k 0 [(0, .ref (A 19))] [] _ 0 0
  have F : Fm [2, 4, 6, 5, 7, 8, 19, 16, 17, 18, 12, 13, 14, 15] [16, 17, 18, 19] s s := fm_rf _ _ s
  have aw0_16 : SAM 16 s s := sam_rf
  have aw0_17 : SAM 17 s s := sam_rf
  have hN := jBYW.2.1
  have hW := jBYW.2.2
  have hA := swA_rf A
  have b1 := bi_2 I
  have b2 := bi_1 I
  have b3 := bi_4 I
  have b4 := bi_5 I
  have b5 := bi_6 I
  have b6 := bi_19 I
  have b7 := bi_16 I
  have b8 := bi_7 I
  have b9 := bi_12 I
  have b10 := bi_17 I
  have b11 := bi_13 I
  have b12 := bi_15 I
  have b13 := bi_18 I
  have b14 := bi_14 I
  have L22 : ∀ (n : Nat) (t : PS) (c : Int), Bd t → Fm [2, 4, 6, 5, 7, 8, 19, 16, 17, 18, 12, 13, 14, 15] [16, 17, 18, 19] s t → BYW B N t → TKS B N t → (CQD B N c t ∧ JQD B N c t ∧ SAM 16 s t ∧ SAM 17 s t) → (0 ≤ c ∧ c ≤ 8 ∧ 0 ≤ iI t 12 ∧ iI t 12 ≤ 8 ∧ iI t 19 = 0 ∧ iI t 4 ≤ N ∧ iI t 16 ≤ iI t 4 ∧ iI t 13 = iI s 13 ∧ iI t 15 = iI s 15 ∧ iI t 12 = iI s 12 ∧ iI t 14 = iI s 14 ∧ iI t 2 ≤ iI t 1 ∧ iI t 4 ≤ iI t 2) → (9 - c : Int).toNat < n → (∀ (t' : PS) (c' : Int), Bd t' → Fm [2, 4, 6, 5, 7, 8, 19, 16, 17, 18, 12, 13, 14, 15] [16, 17, 18, 19] s t' → BYW B N t' → TKS B N t' → (True) → (0 ≤ c' ∧ c' ≤ 8 ∧ 8 < c') → WS k 62 [(0, .ref (A 19)), (1, .int (Int32.ofInt c'))] [] (Wd A dT t') 0 0) → WS k 22 [(0, .ref (A 19)), (1, .int (Int32.ofInt c))] [] (Wd A dT t) 0 0 := by
    intro n
    induction n with
    | zero =>
      intro t c I F jjBYW jjTKS hq hi hm kx
      exact absurd hm (Nat.not_lt_zero _)
    | succ n ih =>
      intro t c I F jjBYW jjTKS hq hi hm kx
      have b1001 := bi_2 I
      have b1002 := bi_1 I
      have b1003 := bi_4 I
      have b1004 := bi_5 I
      have b1005 := bi_6 I
      have b1006 := bi_19 I
      have b1007 := bi_16 I
      have b1008 := bi_7 I
      have b1009 := bi_12 I
      have b1010 := bi_17 I
      have b1011 := bi_13 I
      have b1012 := bi_15 I
      have b1013 := bi_18 I
      have b1014 := bi_14 I
      have hN := jjBYW.2.1
      have hW := jjBYW.2.2
      have hlt := tkw_end jjTKS
      refine z_load_n X (x := c) rfl (List.Mem.tail _ (List.Mem.head _)) (z_bipush X rfl (z_icmp_gt X (t := 62) rfl rfl ⟨by first | exact oq_fa4e5087 hi.1 | omega, by first | exact oq_d3f5d874 hi.2.1 | omega⟩ (by decide) (fun g1015 => ?_) (fun g1015 => ?_)))
      ·
        refine WS_pq [0, 1] (lv' := [(0, .ref (A 19)), (1, .int (Int32.ofInt c))]) rfl ?_
        exact kx _ c I F jjBYW jjTKS trivial (by first | exact ⟨hi.1, hi.2.1, g1015⟩ | omega)
      ·
        refine z_aload_n X (x := A 19) rfl (List.Mem.head _) (s_getR X 19 rfl (c518_ok rfl) rfl rfl (z_getI X 1 rfl (c518_ok rfl) rfl rfl ?_))
        have b1016 := bi_5 I
        refine z_const X rfl (z_icmp_ne X (t := 46) rfl rfl (rng_to _) (by decide) (fun g1017 => ?_) (fun g1017 => ?_))
        ·
          have hne : iI t 4 < N := by first | (clear g1017; omega) | omega
          refine z_aload_n X (x := A 19) rfl (List.Mem.head _) (z_load_n X (x := c) rfl (List.Mem.tail _ (List.Mem.head _)) (zcV_i2 X E 19 (As := [.int (Int32.ofInt c)]) (st := []) rfl rfl rfl rfl (c7_readClause7 G SF GT I jjBYW jjTKS (by first | exact ⟨hi.1, g1015⟩ | omega) (by first | exact hi.2.2.2.2.2.2.2.2.2.2.2.1 | omega) (by first | exact hi.2.2.2.2.2.2.2.2.2.2.2.2 | omega) (by first | exact hi.2.2.2.2.1 | omega) (by first | exact hi.2.2.2.2.2.2.1 | omega)) rfl (Nat.le_of_ble_eq_true rfl) (fun s1018 e1019 Is1018 Fs1018 JBYW_s1018 JTKS_s1018 hrs1018 hps1018 => ?_)))
          have hps1018p := And.intro hps1018.2.1 (And.intro hps1018.2.2.1 (hps1018.2.2.2.1))
          have Gs1018 := fm_tq F Fs1018 rfl rfl
          have JBYW_s1018 : BYW B N s1018 := BYW_fm Fs1018 (by decide) jjBYW
          have b1020 := bi_2 Is1018
          have ws1018_1 : iI s1018 1 = iI t 1 := fm_iq Fs1018 rfl
          have b1021 := bi_4 Is1018
          have b1022 := bi_5 Is1018
          have b1023 := bi_6 Is1018
          have b1024 := bi_19 Is1018
          have b1025 := bi_16 Is1018
          have b1026 := bi_7 Is1018
          have ws1018_12 : iI s1018 12 = iI t 12 := fm_iq Fs1018 rfl
          have b1027 := bi_17 Is1018
          have ws1018_13 : iI s1018 13 = iI t 13 := fm_iq Fs1018 rfl
          have ws1018_15 : iI s1018 15 = iI t 15 := fm_iq Fs1018 rfl
          have b1028 := bi_18 Is1018
          have ws1018_14 : iI s1018 14 = iI t 14 := fm_iq Fs1018 rfl
          have aws1018_16 : SAM 16 t s1018 := sam_ts (sam_rf (a := 16) (s := t)) (sam_fm Fs1018 (by decide))
          have aws1018_17 : SAM 17 t s1018 := sam_ts (sam_rf (a := 17) (s := t)) (sam_fm Fs1018 (by decide))
          have h9 := fun h => chc_9 h (cld_c hps1018.2.2.2.1)
          refine z_if_ne X (t := 56) rfl rfl hrs1018 (fun g1029 => ?_) (fun g1029 => ?_)
          ·
            refine z_inc X (x := c) (lv' := [(1, .int (Int32.ofInt (c + 1))), (0, .ref (A 19))]) rfl (by decide) (List.Mem.tail _ (List.Mem.head _)) (fun _ h => h) (z_goto X (t := 22) rfl rfl (WS_pq [1, 0] (lv' := [(0, .ref (A 19)), (1, .int (Int32.ofInt (c + 1)))]) rfl ?_))
            exact ih _ (c + 1) Is1018 Gs1018 JBYW_s1018 JTKS_s1018 ⟨cqd_up hq.1 (by first | (clear g1029 hps1018 g1017; omega) | (clear hps1018 g1017; omega) | omega) (by first | (clear g1029 hps1018 g1017; omega) | (clear hps1018 g1017; omega) | omega) (by first | (clear g1029 hps1018 g1017; omega) | (clear hps1018 g1017; omega) | omega) (by first | (clear g1029 hps1018 g1017; omega) | (clear hps1018 g1017; omega) | omega) hps1018.2.2.2.1 (by first | (clear g1029 hps1018 g1017; omega) | (clear hps1018 g1017; omega) | omega), jqd_up hq.1 hq.2.1 (by first | (clear g1029 hps1018 g1017; omega) | (clear hps1018 g1017; omega) | omega) (by first | (clear g1029 hps1018 g1017; omega) | (clear hps1018 g1017; omega) | omega) (by first | (clear g1029 hps1018 g1017; omega) | (clear hps1018 g1017; omega) | omega) (by first | (clear g1029 hps1018 g1017; omega) | (clear hps1018 g1017; omega) | omega) hps1018.2.2.2.1 (by first | (clear g1029 hps1018 g1017; omega) | (clear hps1018 g1017; omega) | omega) (hps1018.2.2.2.2.elim (fun z => absurd z (by first | (clear g1029 hps1018 g1017; omega) | (clear hps1018 g1017; omega) | omega)) id), sam_ts hq.2.2.1 aws1018_16, sam_ts hq.2.2.2 aws1018_17⟩ (by first | exact ⟨oq_54f49eb5 hi.1, by first | (clear g1029 hps1018 g1017; omega) | (clear hps1018 g1017; omega) | omega, oq_e4757433 ws1018_12 b1009.1, oq_86ef0b17 ws1018_12 hi.2.2.2.1, oq_ff203326 g1029 b1024.1 hps1018.1, oq_fc5e1ae1 g1029 hps1018.1, oq_43b1a270 g1029 hps1018.1, oq_1aa5be9e ws1018_13 hi.2.2.2.2.2.2.2.1, oq_1aa5be9e ws1018_15 hi.2.2.2.2.2.2.2.2.1, oq_1aa5be9e ws1018_12 hi.2.2.2.2.2.2.2.2.2.1, oq_1aa5be9e ws1018_14 hi.2.2.2.2.2.2.2.2.2.2.1, hps1018.2.1, hps1018.2.2.1⟩ | omega) (by first | exact qk_me hm (by decide) (oq_fa1cb672 g1015) | omega) kx
          ·
            refine z_const X rfl ?_
            exact w_iret X.1 q hRt (nar_ret (by first | exact Or.inl (by decide) | omega)) (ax_d X (show cdA 68 55 = some (.ireturn, 1, 0, 0, 0) from rfl)) (Nat.zero_le _) (Nat.zero_le _) ⟨A, _, hA, rfl, Is1018, Gs1018, 0, rfl, (by decide), ⟨Or.inr ⟨rfl, ⟨_, chc_no (v := s1018) (cqd_n hq.1) (by first | (clear hps1018 g1017; omega) | (clear g1017; omega) | omega) (by first | (clear hps1018 g1017; omega) | (clear g1017; omega) | omega) (cld_c hps1018.2.2.2.1) (by first | (clear hps1018 g1017; omega) | (clear g1017; omega) | omega) (by first | (clear hps1018 g1017; omega) | (clear g1017; omega) | omega)⟩, by first | exact oq_1aa5be9e ws1018_13 hi.2.2.2.2.2.2.2.1 | omega, by first | exact oq_1aa5be9e ws1018_15 hi.2.2.2.2.2.2.2.2.1 | omega, by first | exact oq_1aa5be9e ws1018_12 hi.2.2.2.2.2.2.2.2.2.1 | omega, by first | exact oq_1aa5be9e ws1018_14 hi.2.2.2.2.2.2.2.2.2.2.1 | omega, sam_ts hq.2.2.1 aws1018_16, sam_ts hq.2.2.2 aws1018_17⟩, by first | exact oq_e4757433 ws1018_12 b1009.1 | omega, by first | exact oq_86ef0b17 ws1018_12 hi.2.2.2.1 | omega⟩⟩
        ·
          have hen := hlt.mp (by omega)
          refine z_aload_n X (x := A 19) rfl (List.Mem.head _) (z_load_n X (x := c) rfl (List.Mem.tail _ (List.Mem.head _)) (z_callVX X 19 (rm := rmN 69) (As := [.int (Int32.ofInt c)]) (st := []) rfl rfl (by decide) rfl (by rw [E.1, E.2.1, E.2.2.1]; exact c7_adopt7 G I (by omega) ) ⟨by rw [E.2.2.2]; exact (show (rmN 69).frames + 1 ≤ (rmN 68).frames by decide), by rw [E.2.2.2]; exact (show 8 + (mNL (miB 69) + 11) + (rmN 69).locals ≤ (rmN 68).locals by decide), by rw [E.2.2.2]; exact (show 0 + (rmN 69).cells ≤ (rmN 68).cells by decide), by rw [E.2.2.2]; exact (show 0 + (rmN 69).slots ≤ (rmN 68).slots by decide)⟩ (Nat.le_of_ble_eq_true rfl) (fun vv A s1030 hA2 hq => ?_) (fun ee A s1030 hA2 hq => ?_)))
          rotate_left
          · obtain ⟨Is1030, Fs1030, hv, hps1030⟩ := hq; cases hv
          obtain ⟨Is1030, Fs1030, hv, hps1030⟩ := hq
          cases hv
          replace hA := swA_ts hA hA2
          rw [← hA2 19 (by decide)]
          have Gs1030 := fm_tq F Fs1030 rfl rfl
          have ws1030_2 : iI s1030 2 = iI t 2 := fm_iq Fs1030 rfl
          have ws1030_1 : iI s1030 1 = iI t 1 := fm_iq Fs1030 rfl
          have ws1030_4 : iI s1030 4 = iI t 4 := fm_iq Fs1030 rfl
          have ws1030_5 : iI s1030 5 = iI t 5 := fm_iq Fs1030 rfl
          have ws1030_6 : iI s1030 6 = iI t 6 := fm_iq Fs1030 rfl
          have ws1030_19 : iI s1030 19 = iI t 19 := fm_iq Fs1030 rfl
          have ws1030_16 : iI s1030 16 = iI t 16 := fm_iq Fs1030 rfl
          have ws1030_7 : iI s1030 7 = iI t 7 := fm_iq Fs1030 rfl
          have b1032 := bi_12 Is1030
          have ws1030_17 : iI s1030 17 = iI t 17 := fm_iq Fs1030 rfl
          have b1033 := bi_13 Is1030
          have b1034 := bi_15 Is1030
          have ws1030_18 : iI s1030 18 = iI t 18 := fm_iq Fs1030 rfl
          have b1035 := bi_14 Is1030
          show WS k 44 [(0, .ref (A 19)), (1, .int (Int32.ofInt c))] [] (Wd A dT s1030) 0 0
          refine z_const X rfl ?_
          exact w_iret X.1 q hRt (nar_ret (by first | exact Or.inr (by decide) | omega)) (ax_d X (show cdA 68 45 = some (.ireturn, 1, 0, 0, 0) from rfl)) (Nat.zero_le _) (Nat.zero_le _) ⟨A, _, hA, rfl, Is1030, Gs1030, 1, rfl, (by decide), ⟨Or.inl ⟨rfl, by rw [show iI s1030 12 = c by omega]; exact ⟨rlc_of hq.1 (by omega) (by omega) hps1030.2.1, cjb_of hq.2.1 hps1030.2.1 hps1030.2.2⟩⟩, by first | exact b1032.1 | omega, by omega⟩⟩
  refine z_aload_n X (x := A 19) rfl (List.Mem.head _) (z_const X rfl (s_putI X 19 rfl (c518_ok rfl) rfl rfl (by decide) rfl rfl rfl (wd_gen (fun s15 hs15 => ?_))))
  have Is15 : Bd s15 := eqB hs15 (bd_I I (show (0 : Int) ≤ 0 ∧ 0 ≤ 200 by first | exact ⟨by decide, by decide⟩ | omega) (by decide))
  have Fs15 := eqF hs15 (fm_I F (inl_ok (a := 16) rfl))
  have vs15 : iI s15 16 = 0 := eqI hs15 (iI_u (by decide))
  have ws15_2 : iI s15 2 = iI s 2 := eqI hs15 rfl
  have ws15_1 : iI s15 1 = iI s 1 := eqI hs15 rfl
  have ws15_4 : iI s15 4 = iI s 4 := eqI hs15 rfl
  have ws15_5 : iI s15 5 = iI s 5 := eqI hs15 rfl
  have ws15_6 : iI s15 6 = iI s 6 := eqI hs15 rfl
  have ws15_19 : iI s15 19 = iI s 19 := eqI hs15 rfl
  have ws15_7 : iI s15 7 = iI s 7 := eqI hs15 rfl
  have ws15_12 : iI s15 12 = iI s 12 := eqI hs15 rfl
  have ws15_17 : iI s15 17 = iI s 17 := eqI hs15 rfl
  have ws15_13 : iI s15 13 = iI s 13 := eqI hs15 rfl
  have ws15_15 : iI s15 15 = iI s 15 := eqI hs15 rfl
  have ws15_18 : iI s15 18 = iI s 18 := eqI hs15 rfl
  have ws15_14 : iI s15 14 = iI s 14 := eqI hs15 rfl
  have aws15_16 : SAM 16 s s15 := by rw [hs15]; exact aw0_16
  have aws15_17 : SAM 17 s s15 := by rw [hs15]; exact aw0_17
  have fs15 : Fm [16] [] s s15 := by rw [hs15]; exact fm_I (fm_rf _ _ _) (show 16 ∈ _ by decide)
  have JBYW_s15 : BYW B N s15 := BYW_fm fs15 (by decide) jBYW
  have JTKS_s15 : TKS B N s15 := TKS_fm fs15 (by decide) jTKS
  refine z_aload_n X (x := A 19) rfl (List.Mem.head _) (z_const X rfl (s_putI X 19 rfl (c518_ok rfl) rfl rfl (by decide) rfl rfl rfl (wd_gen (fun s16 hs16 => ?_))))
  have Is16 : Bd s16 := eqB hs16 (bd_I Is15 (show ((-1) : Int) ≤ (-1) ∧ (-1) ≤ 7 by first | exact ⟨by decide, by decide⟩ | omega) (by decide))
  have Fs16 := eqF hs16 (fm_I Fs15 (inl_ok (a := 17) rfl))
  have vs16 : iI s16 17 = (-1) := eqI hs16 (iI_u (by decide))
  have ws16_2 : iI s16 2 = iI s15 2 := eqI hs16 rfl
  have ws16_1 : iI s16 1 = iI s15 1 := eqI hs16 rfl
  have ws16_4 : iI s16 4 = iI s15 4 := eqI hs16 rfl
  have ws16_5 : iI s16 5 = iI s15 5 := eqI hs16 rfl
  have ws16_6 : iI s16 6 = iI s15 6 := eqI hs16 rfl
  have ws16_19 : iI s16 19 = iI s15 19 := eqI hs16 rfl
  have ws16_16 : iI s16 16 = iI s15 16 := eqI hs16 rfl
  have ws16_7 : iI s16 7 = iI s15 7 := eqI hs16 rfl
  have ws16_12 : iI s16 12 = iI s15 12 := eqI hs16 rfl
  have ws16_13 : iI s16 13 = iI s15 13 := eqI hs16 rfl
  have ws16_15 : iI s16 15 = iI s15 15 := eqI hs16 rfl
  have ws16_18 : iI s16 18 = iI s15 18 := eqI hs16 rfl
  have ws16_14 : iI s16 14 = iI s15 14 := eqI hs16 rfl
  have aws16_16 : SAM 16 s s16 := by rw [hs16]; exact aws15_16
  have aws16_17 : SAM 17 s s16 := by rw [hs16]; exact aws15_17
  have fs16 : Fm [17] [] s15 s16 := by rw [hs16]; exact fm_I (fm_rf _ _ _) (show 17 ∈ _ by decide)
  have JBYW_s16 : BYW B N s16 := BYW_fm fs16 (by decide) JBYW_s15
  have JTKS_s16 : TKS B N s16 := TKS_fm fs16 (by decide) JTKS_s15
  refine z_aload_n X (x := A 19) rfl (List.Mem.head _) (z_const X rfl (s_putI X 19 rfl (c518_ok rfl) rfl rfl (by decide) rfl rfl rfl (wd_gen (fun s17 hs17 => ?_))))
  have Is17 : Bd s17 := eqB hs17 (bd_I Is16 (show ((-2147483648) : Int) ≤ 0 ∧ 0 ≤ 2147483647 by first | exact ⟨by decide, by decide⟩ | omega) (by decide))
  have Fs17 := eqF hs17 (fm_I Fs16 (inl_ok (a := 18) rfl))
  have vs17 : iI s17 18 = 0 := eqI hs17 (iI_u (by decide))
  have ws17_2 : iI s17 2 = iI s16 2 := eqI hs17 rfl
  have ws17_1 : iI s17 1 = iI s16 1 := eqI hs17 rfl
  have ws17_4 : iI s17 4 = iI s16 4 := eqI hs17 rfl
  have ws17_5 : iI s17 5 = iI s16 5 := eqI hs17 rfl
  have ws17_6 : iI s17 6 = iI s16 6 := eqI hs17 rfl
  have ws17_19 : iI s17 19 = iI s16 19 := eqI hs17 rfl
  have ws17_16 : iI s17 16 = iI s16 16 := eqI hs17 rfl
  have ws17_7 : iI s17 7 = iI s16 7 := eqI hs17 rfl
  have ws17_12 : iI s17 12 = iI s16 12 := eqI hs17 rfl
  have ws17_17 : iI s17 17 = iI s16 17 := eqI hs17 rfl
  have ws17_13 : iI s17 13 = iI s16 13 := eqI hs17 rfl
  have ws17_15 : iI s17 15 = iI s16 15 := eqI hs17 rfl
  have ws17_14 : iI s17 14 = iI s16 14 := eqI hs17 rfl
  have aws17_16 : SAM 16 s s17 := by rw [hs17]; exact aws16_16
  have aws17_17 : SAM 17 s s17 := by rw [hs17]; exact aws16_17
  have fs17 : Fm [18] [] s16 s17 := by rw [hs17]; exact fm_I (fm_rf _ _ _) (show 18 ∈ _ by decide)
  have JBYW_s17 : BYW B N s17 := BYW_fm fs17 (by decide) JBYW_s16
  have JTKS_s17 : TKS B N s17 := TKS_fm fs17 (by decide) JTKS_s16
  refine z_aload_n X (x := A 19) rfl (List.Mem.head _) (z_const X rfl (s_putI X 19 rfl (c518_ok rfl) rfl rfl (by decide) rfl rfl rfl (wd_gen (fun s18 hs18 => ?_))))
  have Is18 : Bd s18 := eqB hs18 (bd_I Is17 (show (0 : Int) ≤ 0 ∧ 0 ≤ 6 by first | exact ⟨by decide, by decide⟩ | omega) (by decide))
  have Fs18 := eqF hs18 (fm_I Fs17 (inl_ok (a := 19) rfl))
  have vs18 : iI s18 19 = 0 := eqI hs18 (iI_u (by decide))
  have ws18_2 : iI s18 2 = iI s17 2 := eqI hs18 rfl
  have ws18_1 : iI s18 1 = iI s17 1 := eqI hs18 rfl
  have ws18_4 : iI s18 4 = iI s17 4 := eqI hs18 rfl
  have ws18_5 : iI s18 5 = iI s17 5 := eqI hs18 rfl
  have ws18_6 : iI s18 6 = iI s17 6 := eqI hs18 rfl
  have ws18_16 : iI s18 16 = iI s17 16 := eqI hs18 rfl
  have ws18_7 : iI s18 7 = iI s17 7 := eqI hs18 rfl
  have ws18_12 : iI s18 12 = iI s17 12 := eqI hs18 rfl
  have ws18_17 : iI s18 17 = iI s17 17 := eqI hs18 rfl
  have ws18_13 : iI s18 13 = iI s17 13 := eqI hs18 rfl
  have ws18_15 : iI s18 15 = iI s17 15 := eqI hs18 rfl
  have ws18_18 : iI s18 18 = iI s17 18 := eqI hs18 rfl
  have ws18_14 : iI s18 14 = iI s17 14 := eqI hs18 rfl
  have aws18_16 : SAM 16 s s18 := by rw [hs18]; exact aws17_16
  have aws18_17 : SAM 17 s s18 := by rw [hs18]; exact aws17_17
  have fs18 : Fm [19] [] s17 s18 := by rw [hs18]; exact fm_I (fm_rf _ _ _) (show 19 ∈ _ by decide)
  have JBYW_s18 : BYW B N s18 := BYW_fm fs18 (by decide) JBYW_s17
  have JTKS_s18 : TKS B N s18 := TKS_fm fs18 (by decide) JTKS_s17
  refine z_const X rfl (z_store_n X (lv' := [(1, .int (Int32.ofInt 0)), (0, .ref (A 19))]) rfl (by decide) (fun _ h => h) (WS_pq [1, 0] (lv' := [(0, .ref (A 19)), (1, .int (Int32.ofInt 0))]) rfl (L22 ((9 - 0 : Int).toNat + 1) s18 0 Is18 Fs18 JBYW_s18 JTKS_s18 ⟨cqd_0 (by omega) (by omega) (by omega), jqd_0 (by omega), aws18_16, aws18_17⟩ (by first | exact ⟨by decide, by decide, oq_ea8cf281 ws18_12 ws17_12 ws16_12 ws15_12 b9.1, oq_85681322 ws18_12 ws17_12 ws16_12 ws15_12 p2.2, vs18, by omega, oq_1ad913b0 ws18_16 ws18_4 ws17_16 ws17_4 ws16_16 ws16_4 ws15_4 vs15 b3.1, oq_45b593e3 ws18_13 ws15_13 ws17_13 ws16_13, oq_45b593e3 ws18_15 ws15_15 ws17_15 ws16_15, oq_ac0e91e1 ws18_12 ws17_12 ws16_12 ws15_12, oq_45b593e3 ws18_14 ws15_14 ws17_14 ws16_14, oq_25674cec ws18_1 ws18_2 ws17_1 ws17_2 ws16_1 ws16_2 ws15_1 ws15_2 p0, oq_969cff60 ws18_4 ws18_2 ws17_4 ws17_2 ws16_4 ws16_2 ws15_4 ws15_2 p1⟩ | omega) (Nat.lt_succ_self _) ?_)))
  intro s19 x20 Is19 Fs19 JBYW_s19 JTKS_s19 Qs19 hs19
  have b21 := bi_2 Is19
  have b22 := bi_1 Is19
  have b23 := bi_4 Is19
  have b24 := bi_5 Is19
  have b25 := bi_6 Is19
  have b26 := bi_19 Is19
  have b27 := bi_16 Is19
  have b28 := bi_7 Is19
  have b29 := bi_12 Is19
  have b30 := bi_17 Is19
  have b31 := bi_13 Is19
  have b32 := bi_15 Is19
  have b33 := bi_18 Is19
  have b34 := bi_14 Is19
  have hNs19 := JBYW_s19.2.1
  have hWs19 := JBYW_s19.2.2
  refine z_const X rfl ?_
  exact w_iret X.1 q hRt (nar_ret (by first | exact Or.inl (by decide) | omega)) (ax_d X (show cdA 68 63 = some (.ireturn, 1, 0, 0, 0) from rfl)) (Nat.zero_le _) (Nat.zero_le _) ⟨A, _, hA, rfl, Is19, Fs19, 0, rfl, (by decide), by exfalso; omega⟩
set_option maxRecDepth 4000 in
theorem cs_rules7 (G : GX l s0 D tys a0 dT) {B : Nat → Int} (SF : SF0 s0) (GT : TXw0 s0) (I : Bd s) (jBYA : BYA B s) {w : Int} (p0 : rng w) (p1 : 0 ≤ iI s 12 ∧ iI s 12 ≤ 8) : CTX l s0 D A dT 137 (rmN 137) [.ref (A 0), .int (Int32.ofInt w)] s (fun o t => Bd t ∧ Fm [2, 4, 6, 5, 7, 8, 19, 16, 17, 18, 12, 13, 14, 15, 1, 3, 0] [16, 17, 18, 19] s t ∧ ((∃ e, o = .inl (some (.int (Int32.ofInt e))) ∧ rng e ∧ (iI t 0 = 0 ∧ 0 ≤ w ∧ w ≤ iI s 0 ∧ 0 ≤ iI t 12 ∧ iI t 12 ≤ 8 ∧ ((0 ≤ e ∧ RLC B w e t ∧ CJB B w e t ∧ iI t 12 = e) ∨ (e < 0 ∧ RUA B w e ∧ iI t 13 = iI s 13 ∧ iI t 15 = iI s 15 ∧ iI t 12 = iI s 12 ∧ iI t 14 = iI s 14 ∧ SAM 16 s t ∧ SAM 17 s t)))) ∨ ∃ x : Nat, o = .inr (exN x) ∧ (x = 0 ∧ iI t 0 = iI s 0 ∧ 0 ≤ iI t 12 ∧ iI t 12 ≤ 8 ∧ (w < 0 ∨ iI s 0 < w) ∧ iI t 13 = iI s 13 ∧ iI t 15 = iI s 15 ∧ iI t 12 = iI s 12 ∧ iI t 14 = iI s 14 ∧ SAM 16 s t ∧ SAM 17 s t))) := by
  refine ctX_ofX G (by decide) (Nat.le_of_ble_eq_true rfl) (fun k X E ET hRt hXt q => ?_)
  show WS k 0 [(0, .ref (A 0)), (1, .int (Int32.ofInt w))] [] _ 0 0
  have F : Fm [2, 4, 6, 5, 7, 8, 19, 16, 17, 18, 12, 13, 14, 15, 1, 3, 0] [16, 17, 18, 19] s s := fm_rf _ _ s
  have aw0_16 : SAM 16 s s := sam_rf
  have aw0_17 : SAM 17 s s := sam_rf
  have hA := swA_rf A
  have b1 := bi_0 I
  have b2 := bi_2 I
  have b3 := bi_1 I
  have b4 := bi_4 I
  have b5 := bi_12 I
  have b6 := bi_7 I
  have b7 := bi_13 I
  have b8 := bi_15 I
  have b9 := bi_14 I
  refine z_load_n X (x := w) rfl (List.Mem.tail _ (List.Mem.head _)) (z_if_lt X (t := 15) rfl rfl ⟨by first | exact p0.1 | omega, by first | exact p0.2 | omega⟩ (fun g10 => ?_) (fun g10 => ?_))
  ·
    exact z_throw G X E ET hXt q (st := []) rfl (by decide) (by decide) (Nat.le_of_ble_eq_true rfl) (show 0 + 1 ≤ 1 by decide) (show 0 + 6 ≤ 6 by decide) (show 0 + 1 ≤ 1 by decide) (show 0 + 6 ≤ 6 by decide) ⟨A, _, hA, rfl, I, F, Or.inr ⟨0, rfl, ⟨by omega, by omega, by omega, by omega, by omega, by omega, by omega, by omega, by omega, aw0_16, aw0_17⟩⟩⟩
  ·
    refine z_load_n X (x := w) rfl (List.Mem.tail _ (List.Mem.head _)) (z_aload_n X (x := A 0) rfl (List.Mem.head _) (s_getR X 0 rfl (c518_ok rfl) rfl rfl (z_getI X 1 rfl (c518_ok rfl) rfl rfl ?_)))
    have b11 := bi_0 I
    refine z_icmp_le X (t := 25) rfl rfl ⟨by first | exact p0.1 | omega, by first | exact p0.2 | omega⟩ (rng_to _) (fun g12 => ?_) (fun g12 => ?_)
    ·
      refine z_aload_n X (x := A 0) rfl (List.Mem.head _) (s_getR X 0 rfl (c518_ok rfl) rfl rfl (z_load_n X (x := w) rfl (List.Mem.tail _ (List.Mem.head _)) (z_const X rfl (zcV_v2 X E 1 (As := [.int (Int32.ofInt w), .int (Int32.ofInt 1)]) (st := []) rfl rfl rfl rfl (c10_open3 G I jBYA (by first | exact ⟨g10, oq_9a94ea72 g12 b11.2⟩ | omega) (by decide)) rfl (Nat.le_of_ble_eq_true rfl) (fun s13 Is13 Fs13 JBYW_s13 JTKS_s13 hps13 => ?_)))))
      have Gs13 := fm_tq F Fs13 rfl rfl
      have JBYA_s13 : BYA B s13 := BYA_fm Fs13 (by decide) jBYA
      have b15 := bi_0 Is13
      have b16 := bi_2 Is13
      have b17 := bi_1 Is13
      have b18 := bi_4 Is13
      have ws13_12 : iI s13 12 = iI s 12 := fm_iq Fs13 rfl
      have b19 := bi_7 Is13
      have ws13_13 : iI s13 13 = iI s 13 := fm_iq Fs13 rfl
      have ws13_15 : iI s13 15 = iI s 15 := fm_iq Fs13 rfl
      have ws13_14 : iI s13 14 = iI s 14 := fm_iq Fs13 rfl
      have aws13_16 : SAM 16 s s13 := sam_ts aw0_16 (sam_fm Fs13 (by decide))
      have aws13_17 : SAM 17 s s13 := sam_ts aw0_17 (sam_fm Fs13 (by decide))
      refine z_aload_n X (x := A 0) rfl (List.Mem.head _) (s_getR X 0 rfl (c518_ok rfl) rfl rfl (z_callVX X 19 (rm := rmN 68) (As := []) (st := []) rfl rfl (by decide) rfl (by rw [E.1, E.2.1, E.2.2.1]; exact c7_read7 G SF GT Is13 JBYW_s13 JTKS_s13 (by omega) (by omega) (by omega) (by omega) ) ⟨by rw [E.2.2.2]; exact (show (rmN 68).frames + 1 ≤ (rmN 137).frames by decide), by rw [E.2.2.2]; exact (show 8 + (mNL (miB 68) + 11) + (rmN 68).locals ≤ (rmN 137).locals by decide), by rw [E.2.2.2]; exact (show 0 + (rmN 68).cells ≤ (rmN 137).cells by decide), by rw [E.2.2.2]; exact (show 0 + (rmN 68).slots ≤ (rmN 137).slots by decide)⟩ (Nat.le_of_ble_eq_true rfl) (fun vv A s20 hA2 hq => ?_) (fun ee A s20 hA2 hq => ?_)))
      rotate_left
      · obtain ⟨Is20, Fs20, e21, hv, hrs20, hps20⟩ := hq; cases hv
      obtain ⟨Is20, Fs20, e21, hv, hrs20, hps20⟩ := hq
      have hps20p := And.intro hps20.2.1 (hps20.2.2)
      cases hv
      replace hA := swA_ts hA hA2
      rw [← hA2 0 (by decide)]
      have Gs20 := fm_tq Gs13 Fs20 rfl rfl
      have ws20_0 : iI s20 0 = iI s13 0 := fm_iq Fs20 rfl
      have b22 := bi_2 Is20
      have ws20_1 : iI s20 1 = iI s13 1 := fm_iq Fs20 rfl
      have b23 := bi_4 Is20
      have b24 := bi_12 Is20
      have b25 := bi_7 Is20
      have b26 := bi_13 Is20
      have b27 := bi_15 Is20
      have b28 := bi_14 Is20
      show WS k 41 [(0, .ref (A 0)), (1, .int (Int32.ofInt w))] [.int (Int32.ofInt e21)] (Wd A dT s20) 0 0
      refine z_if_eq X (t := 54) rfl rfl ⟨by first | (clear hps20; omega) | omega, by first | (clear hps20; omega) | omega⟩ (fun g29 => ?_) (fun g29 => ?_)
      ·
        refine z_aload_n X (x := A 0) rfl (List.Mem.head _) (s_getR X 0 rfl (c518_ok rfl) rfl rfl (z_getI X 1 rfl (c518_ok rfl) rfl rfl ?_))
        have b30 := bi_7 Is20
        refine z_bipush X rfl (z_sub X rfl ?_)
        exact w_iret X.1 q hRt rfl (ax_d X (show cdA 137 64 = some (.ireturn, 1, 0, 0, 0) from rfl)) (Nat.zero_le _) (Nat.zero_le _) ⟨A, _, hA, rfl, Is20, Gs20, Or.inl ⟨((iI s20 7) - 10), rfl, ⟨by first | exact oq_d3c9ade5 b30.1 | omega, by first | exact oq_71609f9f b30.2 | omega⟩, ⟨by first | exact oq_333640b7 ws20_0 hps13.1 b15.1 | omega, by first | exact g10 | omega, by first | exact g12 | omega, by first | exact b24.1 | omega, by first | (clear hps20; omega) | omega, by exact Or.elim hps20.1 (fun q => Or.inl ⟨by first | (clear hps20; omega) | omega, by have z := q.2; rw [show iI s20 12 = ((iI s20 7) - 10) by first | (clear hps20; omega) | omega] at z; exact ⟨z.1, z.2, by first | (clear hps20; omega) | omega⟩⟩) (fun q => by obtain ⟨n, q1, q2⟩ := q.2.1; exact Or.inr ⟨by first | (clear hps20; omega) | omega, ⟨_, n, q1, Or.inr ⟨q2, by first | (clear hps20; omega) | omega⟩⟩, by first | (clear hps20; omega) | omega, by first | (clear hps20; omega) | omega, by first | (clear hps20; omega) | omega, by first | (clear hps20; omega) | omega, sam_ts aws13_16 q.2.2.2.2.2.2.1, sam_ts aws13_17 q.2.2.2.2.2.2.2⟩)⟩⟩⟩
      ·
        refine z_aload_n X (x := A 0) rfl (List.Mem.head _) (s_getR X 0 rfl (c518_ok rfl) rfl rfl (z_getI X 19 rfl (c518_ok rfl) rfl rfl ?_))
        have b31 := bi_12 Is20
        refine z_goto X (t := 64) rfl rfl ?_
        exact w_iret X.1 q hRt rfl (ax_d X (show cdA 137 64 = some (.ireturn, 1, 0, 0, 0) from rfl)) (Nat.zero_le _) (Nat.zero_le _) ⟨A, _, hA, rfl, Is20, Gs20, Or.inl ⟨(iI s20 12), rfl, (rng_to _), ⟨by first | exact oq_333640b7 ws20_0 hps13.1 b15.1 | omega, by first | exact g10 | omega, by first | exact g12 | omega, by first | exact b31.1 | omega, by first | (clear g29 hps20; omega) | (clear hps20; omega) | omega, by exact Or.elim hps20.1 (fun q => Or.inl ⟨by first | (clear g29 hps20; omega) | (clear hps20; omega) | omega, by have z := q.2; rw [show iI s20 12 = (iI s20 12) by first | (clear g29 hps20; omega) | (clear hps20; omega) | omega] at z; exact ⟨z.1, z.2, by first | (clear g29 hps20; omega) | (clear hps20; omega) | omega⟩⟩) (fun q => by obtain ⟨n, q1, q2⟩ := q.2.1; exact Or.inr ⟨by first | (clear g29 hps20; omega) | (clear hps20; omega) | omega, ⟨_, n, q1, Or.inr ⟨q2, by first | (clear g29 hps20; omega) | (clear hps20; omega) | omega⟩⟩, by first | (clear g29 hps20; omega) | (clear hps20; omega) | omega, by first | (clear g29 hps20; omega) | (clear hps20; omega) | omega, by first | (clear g29 hps20; omega) | (clear hps20; omega) | omega, by first | (clear g29 hps20; omega) | (clear hps20; omega) | omega, sam_ts aws13_16 q.2.2.2.2.2.2.1, sam_ts aws13_17 q.2.2.2.2.2.2.2⟩)⟩⟩⟩
    ·
      exact z_throw G X E ET hXt q (st := []) rfl (by decide) (by decide) (Nat.le_of_ble_eq_true rfl) (show 0 + 1 ≤ 1 by decide) (show 0 + 6 ≤ 6 by decide) (show 0 + 1 ≤ 1 by decide) (show 0 + 6 ≤ 6 by decide) ⟨A, _, hA, rfl, I, F, Or.inr ⟨0, rfl, ⟨by omega, by omega, by omega, by omega, by omega, by omega, by omega, by omega, by omega, aw0_16, aw0_17⟩⟩⟩
set_option maxRecDepth 4000 in
theorem lw_rules7 (G : GX l s0 D tys a0 dT) {B : Nat → Int} (SF : SF0 s0) (GT : TXw0 s0) (I : Bd s) (jBYA : BYA B s) {w : Int} (p0 : rng w) (p1 : 0 ≤ iI s 12 ∧ iI s 12 ≤ 8) : CTL l s0 D A dT 315 (rmN 315) [.ref (A 0), .int (Int32.ofInt w), .ref (A 517)] s (fun o t => Bd t ∧ Fm [2, 4, 6, 5, 7, 8, 19, 16, 17, 18, 12, 13, 14, 15, 1, 3, 0] [16, 17, 18, 19, 1460] s t ∧ ∃ e, o = .inl (some (.int (Int32.ofInt e))) ∧ rng e ∧ (((e = 0 ∧ iI t 0 = 0 ∧ 0 ≤ w ∧ w ≤ iI s 0 ∧ ((0 ≤ iO t ∧ RLC B w (iO t) t ∧ CJB B w (iO t) t ∧ iI t 12 = iO t) ∨ (iO t < 0 ∧ RUA B w (iO t) ∧ iI t 13 = iI s 13 ∧ iI t 15 = iI s 15 ∧ iI t 12 = iI s 12 ∧ iI t 14 = iI s 14 ∧ SAM 16 s t ∧ SAM 17 s t))) ∨ (e = 1 ∧ iI t 0 = iI s 0 ∧ (w < 0 ∨ iI s 0 < w) ∧ iI t 13 = iI s 13 ∧ iI t 15 = iI s 15 ∧ iI t 12 = iI s 12 ∧ iI t 14 = iI s 14 ∧ SAM 16 s t ∧ SAM 17 s t)) ∧ iI t 12 ≤ 8)) := by
  refine ctL_of G (by decide) (Nat.le_of_ble_eq_true rfl) (by decide) rfl (fun k X E ET hRt hEx q => ?_)
  show WS k 0 [(0, .ref (A 0)), (1, .int (Int32.ofInt w)), (2, .ref (A 517))] [] _ 0 0
  have F : Fm [2, 4, 6, 5, 7, 8, 19, 16, 17, 18, 12, 13, 14, 15, 1, 3, 0] [16, 17, 18, 19, 1460] s s := fm_rf _ _ s
  have hA := swA_rf A
  have b1 := bi_0 I
  have b2 := bi_12 I
  have b3 := bi_13 I
  have b4 := bi_15 I
  have b5 := bi_14 I
  refine z_aload_n X (x := A 517) rfl (List.Mem.tail _ (List.Mem.tail _ (List.Mem.head _))) (z_const X rfl (z_aload_n X (x := A 0) rfl (List.Mem.head _) (z_load_n X (x := w) rfl (List.Mem.tail _ (List.Mem.head _)) (z_callVX X 0 (rm := rmN 137) (As := [.int (Int32.ofInt w)]) (st := [.int (Int32.ofInt 0), .ref (A 517)]) rfl rfl (by decide) rfl (by rw [E.1, E.2.1, E.2.2.1]; exact cs_rules7 G SF GT I jBYA (by omega) (by omega)) ⟨by rw [E.2.2.2]; exact (show (rmN 137).frames + 1 ≤ (rmN 315).frames by decide), by rw [E.2.2.2]; exact (show 8 + (mNL (miB 137) + 11) + (rmN 137).locals ≤ (rmN 315).locals by decide), by rw [E.2.2.2]; exact (show 0 + (rmN 137).cells ≤ (rmN 315).cells by decide), by rw [E.2.2.2]; exact (show 0 + (rmN 137).slots ≤ (rmN 315).slots by decide)⟩ (Nat.le_of_ble_eq_true rfl) (fun vv A s6 hA2 hq => ?_) (fun ee A s6 hA2 hq => ?_)))))
  rotate_left
  · obtain ⟨Is6, Fs6, (⟨e7, hv, hrs6, hps6⟩ | ⟨xx, hv, hps6⟩)⟩ := hq
    · cases hv
    · cases hv
      rcases (show xx = 0 by omega) with gx
      ·
        subst gx
        replace hA := swA_ts hA hA2
        rw [← hA2 0 (by decide)]
        rw [← hA2 517 (by decide)]
        have Gs6 := fm_tq F Fs6 rfl rfl
        have b8 := bi_0 Is6
        have b9 := bi_12 Is6
        have b10 := bi_13 Is6
        have b11 := bi_15 Is6
        have b12 := bi_14 Is6
        refine (hEx 4 0).2 12 rfl _ _ _ _ _ (fun q1 => ?_)
        show WS k 12 [(0, .ref (A 0)), (1, .int (Int32.ofInt w)), (2, .ref (A 517))] [.ref q1] (Wd A dT s6) 1 6
        refine z_astore_n X (lv' := [(3, .ref q1), (0, .ref (A 0)), (1, .int (Int32.ofInt w)), (2, .ref (A 517))]) rfl (by decide) (fun _ h => h) (z_const X rfl ?_)
        exact w_iret X.1 q hRt rfl (ax_d X (show cdA 315 14 = some (.ireturn, 1, 0, 0, 0) from rfl)) (show 1 ≤ 1 by decide) (show 6 ≤ 6 by decide) ⟨A, _, hA, rfl, Is6, Gs6, 1, rfl, (by decide), ⟨Or.inr ⟨by decide, by omega, by omega, by omega, by omega, by omega, by omega, hps6.2.2.2.2.2.2.2.2.2.1, hps6.2.2.2.2.2.2.2.2.2.2⟩, by omega⟩⟩
  obtain ⟨Is6, Fs6, (⟨e7, hv, hrs6, hps6⟩ | ⟨xx, hv, hps6⟩)⟩ := hq
  rotate_left
  · cases hv
  cases hv
  replace hA := swA_ts hA hA2
  rw [← hA2 0 (by decide)]
  rw [← hA2 517 (by decide)]
  have Gs6 := fm_tq F Fs6 rfl rfl
  have b13 := bi_0 Is6
  have b14 := bi_12 Is6
  have b15 := bi_13 Is6
  have b16 := bi_15 Is6
  have b17 := bi_14 Is6
  show WS k 7 [(0, .ref (A 0)), (1, .int (Int32.ofInt w)), (2, .ref (A 517))] [.int (Int32.ofInt e7), .int (Int32.ofInt 0), .ref (A 517)] (Wd A dT s6) 1 6
  refine w_i2l X.1 (ax_d X (show cdA 315 7 = some (.i2l, 1, 0, 0, 0) from rfl)) (z_last X 517 rfl (c518_ok rfl) rfl (by first | (clear hps6; omega) | omega) (show 0 < 1 by first | (clear hps6; omega) | omega) (cbig_ok rfl) (wd_gen (fun s18 hs18 => ?_)))
  have Is18 : Bd s18 := eqB hs18 (bd_D Is6)
  have Fs18 : Fm [2, 4, 6, 5, 7, 8, 19, 16, 17, 18, 12, 13, 14, 15, 1, 3, 0] [16, 17, 18, 19, 1460] s s18 := by rw [hs18]; exact fm_D Gs6 (show 460 + 1000 ∈ _ by decide)
  have ws18_0 : iI s18 0 = iI s6 0 := eqI hs18 rfl
  have ws18_12 : iI s18 12 = iI s6 12 := eqI hs18 rfl
  have ws18_13 : iI s18 13 = iI s6 13 := eqI hs18 rfl
  have ws18_15 : iI s18 15 = iI s6 15 := eqI hs18 rfl
  have ws18_14 : iI s18 14 = iI s6 14 := eqI hs18 rfl
  have oos18 : iO s18 = e7 := by rw [hs18]; exact iO_u (by first | (clear hps6; omega) | omega)
  refine z_goto X (t := 15) rfl rfl (z_const X rfl ?_)
  exact w_iret X.1 q hRt rfl (ax_d X (show cdA 315 16 = some (.ireturn, 1, 0, 0, 0) from rfl)) (show 1 ≤ 1 by decide) (show 6 ≤ 6 by decide) ⟨A, _, hA, rfl, Is18, Fs18, 0, rfl, (by decide), ⟨Or.inl ⟨by decide, by first | (clear hps6; omega) | omega, by first | (clear hps6; omega) | omega, by first | (clear hps6; omega) | omega, hps6.2.2.2.2.2.elim (fun q => Or.inl ⟨by first | (clear hps6; omega) | omega, by rw [show iO s18 = e7 by first | (clear hps6; omega) | omega, hs18]; exact ⟨q.2.1, q.2.2.1, q.2.2.2⟩⟩) (fun q => Or.inr ⟨by first | (clear hps6; omega) | omega, by rw [show iO s18 = e7 by first | (clear hps6; omega) | omega]; exact q.2.1, by first | (clear hps6; omega) | omega, by first | (clear hps6; omega) | omega, by first | (clear hps6; omega) | omega, by first | (clear hps6; omega) | omega, sam_ts q.2.2.2.2.2.2.1 (fun j => by rw [hs18]; rfl), sam_ts q.2.2.2.2.2.2.2 (fun j => by rw [hs18]; rfl)⟩)⟩, by first | (clear hps6; omega) | omega⟩⟩
set_option maxRecDepth 4000 in
theorem c7_joins7 (G : GX l s0 D tys a0 dT) {Jn : List Int → Prop} (I : Bd s) (jCJJ : CJJ Jn s) (p0 : iI s 12 ≤ 8) : CT l s0 D A dT 83 (rmN 83) [.ref (A 19), .ref (A 39)] s (fun o t => Bd t ∧ Fm [] [20] s t ∧ ∃ e, o = .inl (some (.int (Int32.ofInt e))) ∧ rng e ∧ ((e = 0 ∨ e = 1) ∧ JHE Jn (fun j => Int32.ofInt (iC s 33 j)) e)) := by
  refine ct_ofX G (by decide) (Nat.le_of_ble_eq_true rfl) (fun k X E ET hRt hXt q => ?_)
  show WS k 0 [(0, .ref (A 19)), (1, .ref (A 39))] [] _ 0 0
  have F : Fm [] [20] s s := fm_rf _ _ s
  have b1 := bi_12 I
  have b2 := bi_14 I
  have L2 : ∀ (n : Nat) (t : PS) (c : Int), Bd t → Fm [] [20] s t → CJJ Jn t → (CJN Jn (fun j => Int32.ofInt (iC s 33 j)) s c) → (0 ≤ c ∧ c ≤ 8 ∧ iI t 12 ≤ 8 ∧ iI t 12 = iI s 12 ∧ iI t 14 = iI s 14) → (8 - c : Int).toNat < n → (∀ (t' : PS) (c' : Int), Bd t' → Fm [] [20] s t' → CJJ Jn t' → (CJN Jn (fun j => Int32.ofInt (iC s 33 j)) s c') → (iI s 12 ≤ c') → WS k 38 [(0, .ref (A 19)), (1, .ref (A 39)), (2, .int (Int32.ofInt c'))] [] (Wd A dT t') 0 0) → WS k 2 [(0, .ref (A 19)), (1, .ref (A 39)), (2, .int (Int32.ofInt c))] [] (Wd A dT t) 0 0 := by
    intro n
    induction n with
    | zero =>
      intro t c I F jjCJJ hq hi hm kx
      exact absurd hm (Nat.not_lt_zero _)
    | succ n ih =>
      intro t c I F jjCJJ hq hi hm kx
      have b1001 := bi_12 I
      have b1002 := bi_14 I
      refine z_load_n X (x := c) rfl (List.Mem.tail _ (List.Mem.tail _ (List.Mem.head _))) (z_aload_n X (x := A 19) rfl (List.Mem.head _) (z_getI X 19 rfl (c518_ok rfl) rfl rfl ?_))
      have b1003 := bi_12 I
      refine z_icmp_ge X (t := 38) rfl rfl ⟨by first | exact oq_fa4e5087 hi.1 | omega, by first | exact oq_d3f5d874 hi.2.1 | omega⟩ (rng_to _) (fun g1004 => ?_) (fun g1004 => ?_)
      ·
        refine WS_pq [0, 1, 2] (lv' := [(0, .ref (A 19)), (1, .ref (A 39)), (2, .int (Int32.ofInt c))]) rfl ?_
        exact kx _ c I F jjCJJ hq (by first | exact oq_acf76229 g1004 hi.2.2.2.1 | omega)
      ·
        refine z_aload_n X (x := A 19) rfl (List.Mem.head _) (z_getI X 19 rfl (c518_ok rfl) rfl rfl ?_)
        have b1005 := bi_14 I
        refine z_load_n X (x := c) rfl (List.Mem.tail _ (List.Mem.tail _ (List.Mem.head _))) (z_bshr X rfl (z_anyV (fun y1006 hy1006 ey1006 => ?_)))
        refine z_const X rfl (w_iand X.1 (ax_d X (show cdA 83 17 = some (.iand, 1, 0, 0, 0) from rfl)) (z_anyV (fun y1007 hy1007 ey1007 => ?_)))
        have hbt : y1007 ≠ 0 ↔ bIt (iI s 14) (c : Int).toNat := by have z := bi_at rfl (by rw [← ey1006]; exact ey1007) hy1007 (show 0 ≤ c ∧ c < 32 by omega); rw [show iI t 14 = iI s 14 by omega] at z; exact z
        refine z_if_eq X (t := 32) rfl rfl hy1007 (fun g1008 => ?_) (fun g1008 => ?_)
        ·
          refine z_inc X (x := c) (lv' := [(2, .int (Int32.ofInt (c + 1))), (0, .ref (A 19)), (1, .ref (A 39))]) rfl (by decide) (List.Mem.tail _ (List.Mem.tail _ (List.Mem.head _))) (fun _ h => h) (z_goto X (t := 2) rfl rfl (WS_pq [1, 2, 0] (lv' := [(0, .ref (A 19)), (1, .ref (A 39)), (2, .int (Int32.ofInt (c + 1)))]) rfl ?_))
          exact ih _ (c + 1) I F jjCJJ (cjn_up hq (by omega) (fun z => absurd (by omega) (hbt.mpr z))) (by first | exact ⟨oq_54f49eb5 hi.1, oq_f6204d84 g1004 hi.2.2.1, hi.2.2.1, hi.2.2.2.1, hi.2.2.2.2⟩ | omega) (by first | exact qk_me hm (by decide) (oq_ccc5e5e0 g1004 hi.2.2.1) | omega) kx
        ·
          have hb9 := hbt.mp (by first | (clear g1008; omega) | omega)
          refine z_aload_n X (x := A 19) rfl (List.Mem.head _) (z_load_n X (x := c) rfl (List.Mem.tail _ (List.Mem.tail _ (List.Mem.head _))) (z_aload_n X (x := A 39) rfl (List.Mem.tail _ (List.Mem.head _)) (zcV_i0 X E 19 (As := [.int (Int32.ofInt c), .ref (A 39)]) (st := []) rfl rfl rfl rfl (c7_work3 G I (by first | exact ⟨oq_ca54ea22 hi.1, oq_e297cd40 g1004 hi.2.2.1⟩ | omega)) rfl (Nat.le_of_ble_eq_true rfl) (fun s1009 e1010 Is1009 Fs1009 hrs1009 hps1009 => ?_))))
          have Gs1009 := fm_tq F Fs1009 rfl rfl
          have JCJJ_s1009 : CJJ Jn s1009 := CJJ_fm Fs1009 (by decide) jjCJJ
          have ws1009_12 : iI s1009 12 = iI t 12 := fm_iq Fs1009 rfl
          have ws1009_14 : iI s1009 14 = iI t 14 := fm_iq Fs1009 rfl
          have hcd : cdL t c = cdL s c := cdl_fm F (by decide) (by decide)
          have hz9 : e1010 = 0 ↔ ldO (cdL s c) (fun j => Int32.ofInt (iC s 33 j)) = 0 := cjw_0 jCJJ (by first | (clear hps1009 g1008; omega) | (clear g1008; omega) | omega) (by first | (clear hps1009 g1008; omega) | (clear g1008; omega) | omega) hb9 hrs1009 (fun w hw => hps1009.2 (by first | (clear hps1009 g1008; omega) | (clear g1008; omega) | omega) w (by rw [hcd, show (fun j => Int32.ofInt (iC t 33 j)) = (fun j => Int32.ofInt (iC s 33 j)) from funext (fun j => congrArg Int32.ofInt (fm_c F (by decide)))]; exact hw))
          refine z_if_ne X (t := 32) rfl rfl hrs1009 (fun g1011 => ?_) (fun g1011 => ?_)
          ·
            refine z_inc X (x := c) (lv' := [(2, .int (Int32.ofInt (c + 1))), (0, .ref (A 19)), (1, .ref (A 39))]) rfl (by decide) (List.Mem.tail _ (List.Mem.tail _ (List.Mem.head _))) (fun _ h => h) (z_goto X (t := 2) rfl rfl (WS_pq [1, 2, 0] (lv' := [(0, .ref (A 19)), (1, .ref (A 39)), (2, .int (Int32.ofInt (c + 1)))]) rfl ?_))
            exact ih _ (c + 1) Is1009 Gs1009 JCJJ_s1009 (cjn_up hq (by first | (clear g1011 hps1009 g1008; omega) | (clear hps1009 g1008; omega) | omega) (fun _ z => absurd (hz9.mpr z) (by first | (clear g1011 hps1009 g1008; omega) | (clear hps1009 g1008; omega) | omega))) (by first | exact ⟨oq_54f49eb5 hi.1, oq_f6204d84 g1004 hi.2.2.1, oq_86ef0b17 ws1009_12 hi.2.2.1, oq_1aa5be9e ws1009_12 hi.2.2.2.1, oq_1aa5be9e ws1009_14 hi.2.2.2.2⟩ | omega) (by first | exact qk_me hm (by decide) (oq_ccc5e5e0 g1004 hi.2.2.1) | omega) kx
          ·
            refine z_const X rfl ?_
            exact w_iret X.1 q hRt (nar_ret (by first | exact Or.inl (by decide) | omega)) (ax_d X (show cdA 83 31 = some (.ireturn, 1, 0, 0, 0) from rfl)) (Nat.zero_le _) (Nat.zero_le _) ⟨_, rfl, Is1009, Gs1009, 0, rfl, (by decide), ⟨Or.inl rfl, cjn_no jCJJ (by first | (clear hps1009 g1008; omega) | (clear g1008; omega) | omega) (by first | (clear hps1009 g1008; omega) | (clear g1008; omega) | omega) hb9 (hz9.mp (by first | (clear hps1009 g1008; omega) | (clear g1008; omega) | omega))⟩⟩
  refine z_const X rfl (z_store_n X (lv' := [(2, .int (Int32.ofInt 0)), (0, .ref (A 19)), (1, .ref (A 39))]) rfl (by decide) (fun _ h => h) (WS_pq [1, 2, 0] (lv' := [(0, .ref (A 19)), (1, .ref (A 39)), (2, .int (Int32.ofInt 0))]) rfl (L2 ((8 - 0 : Int).toNat + 1) s 0 I F jCJJ cjn_0 (by first | exact ⟨by decide, by decide, p0, by decide, by decide⟩ | omega) (Nat.lt_succ_self _) ?_)))
  intro s3 x4 Is3 Fs3 JCJJ_s3 Qs3 hs3
  have b5 := bi_12 Is3
  have b6 := bi_14 Is3
  refine z_const X rfl ?_
  exact w_iret X.1 q hRt (nar_ret (by first | exact Or.inr (by decide) | omega)) (ax_d X (show cdA 83 39 = some (.ireturn, 1, 0, 0, 0) from rfl)) (Nat.zero_le _) (Nat.zero_le _) ⟨_, rfl, Is3, Fs3, 1, rfl, (by decide), ⟨Or.inr rfl, cjn_e jCJJ Qs3 (by omega)⟩⟩
set_option maxRecDepth 4000 in
theorem k_joins7 (G : GX l s0 D tys a0 dT) {Jn : List Int → Prop} (I : Bd s) (jMJJ : MJJ Jn s)  : CT l s0 D A dT 229 (rmN 229) [.ref (A 179)] s (fun o t => Bd t ∧ Fm [77, 75, 78, 79, 80, 81] [] s t ∧ ∃ e, o = .inl (some (.int (Int32.ofInt e))) ∧ rng e ∧ ((e = 0 ∨ e = 1) ∧ JHE Jn (NMr s) e)) := by
  refine ct_of G (by decide) (Nat.le_of_ble_eq_true rfl) (fun k X E hRt hXt q => ?_)
  show WS k 0 [(0, .ref (A 179))] [] _ 0 0
  have F : Fm [77, 75, 78, 79, 80, 81] [] s s := fm_rf _ _ s
  obtain ⟨B, hMX⟩ := jMJJ.2
  have b1 := bi_77 I
  have b2 := bi_78 I
  have b3 := bi_79 I
  have b4 := bi_82 I
  have b5 := bi_84 I
  have b6 := bi_81 I
  have b7 := bi_75 I
  have L4 : ∀ (n : Nat) (t : PS) (iz k1 : Int), Bd t → Fm [77, 75, 78, 79, 80, 81] [] s t → MJJ Jn t → (MJN B Jn (NMr s) s k1 iz) → ((iz = 0 ∨ iz = 1) ∧ 0 ≤ k1 ∧ k1 ≤ 8 ∧ iI t 82 = iI s 82 ∧ iI t 84 = iI s 84) → (8 - k1 : Int).toNat < n → (∀ (t' : PS) (iz' k1' : Int), Bd t' → Fm [77, 75, 78, 79, 80, 81] [] s t' → MJJ Jn t' → (MJN B Jn (NMr s) s k1' iz') → ((iz' = 0 ∨ iz' = 1) ∧ iI s 84 ≤ k1') → WS k 45 [(0, .ref (A 179)), (1, .int (Int32.ofInt iz')), (2, .int (Int32.ofInt k1'))] [] (Wd A dT t') 0 0) → WS k 4 [(0, .ref (A 179)), (1, .int (Int32.ofInt iz)), (2, .int (Int32.ofInt k1))] [] (Wd A dT t) 0 0 := by
    intro n
    induction n with
    | zero =>
      intro t iz k1 I F jjMJJ hq hi hm kx
      exact absurd hm (Nat.not_lt_zero _)
    | succ n ih =>
      intro t iz k1 I F jjMJJ hq hi hm kx
      have b1001 := bi_77 I
      have b1002 := bi_78 I
      have b1003 := bi_79 I
      have b1004 := bi_82 I
      have b1005 := bi_84 I
      have b1006 := bi_81 I
      have b1007 := bi_75 I
      refine z_load_n X (x := k1) rfl (List.Mem.tail _ (List.Mem.tail _ (List.Mem.head _))) (z_aload_n X (x := A 179) rfl (List.Mem.head _) (z_getI X 179 rfl (c518_ok rfl) rfl rfl ?_))
      have b1008 := bi_84 I
      refine z_icmp_ge X (t := 45) rfl rfl ⟨by first | exact oq_fa4e5087 hi.2.1 | omega, by first | exact oq_d3f5d874 hi.2.2.1 | omega⟩ (rng_to _) (fun g1009 => ?_) (fun g1009 => ?_)
      ·
        refine WS_pq [0, 1, 2] (lv' := [(0, .ref (A 179)), (1, .int (Int32.ofInt iz)), (2, .int (Int32.ofInt k1))]) rfl ?_
        exact kx _ iz k1 I F jjMJJ hq (by first | exact ⟨hi.1, oq_acf76229 g1009 hi.2.2.2.2⟩ | omega)
      ·
        refine z_aload_n X (x := A 179) rfl (List.Mem.head _) (z_aload_n X (x := A 179) rfl (List.Mem.head _) (s_getR X 179 rfl (c518_ok rfl) rfl rfl (z_load_n X (x := k1) rfl (List.Mem.tail _ (List.Mem.tail _ (List.Mem.head _))) (z_ald X 182 rfl (c518_ok rfl) rfl (by first | exact hi.2.1 | omega) (show k1 < 8 by first | exact oq_7f5b2e79 g1009 b1008.2 | omega) (cbig_ok rfl) ?_))))
        have b1010 := bc_159 I (show (k1).toNat < 8 by first | exact oq_67be0351 g1009 b1008.2 | omega)
        have hjt : iC t 159 (k1 : Int).toNat = iC s 159 (k1 : Int).toNat := fm_c F List.not_mem_nil
        obtain ⟨c9, hc9, hp9⟩ := hMX.2.1 (k1 : Int).toNat (by omega)
        have hla : 0 ≤ iC s 159 (k1 : Int).toNat ∧ iC s 159 (k1 : Int).toNat ≤ iI s 82 := hp9.1
        refine zcV_v0 X E 179 (As := [.int (Int32.ofInt (iC t 159 (k1).toNat))]) (st := []) rfl rfl rfl rfl (k_readsAt3 G I (by first | exact ⟨b1010.1, oq_8dae6a5a b1010.2⟩ | omega)) rfl (Nat.le_of_ble_eq_true rfl) (fun s1011 Is1011 Fs1011 hps1011 => ?_)
        have Gs1011 := fm_tq F Fs1011 rfl rfl
        have JMJJ_s1011 : MJJ Jn s1011 := MJJ_fm Fs1011 (by decide) jjMJJ
        have b1013 := bi_77 Is1011
        have b1014 := bi_78 Is1011
        have b1015 := bi_79 Is1011
        have ws1011_82 : iI s1011 82 = iI t 82 := fm_iq Fs1011 rfl
        have ws1011_84 : iI s1011 84 = iI t 84 := fm_iq Fs1011 rfl
        have b1016 := bi_81 Is1011
        have b1017 := bi_75 Is1011
        have JF9 : FDB B (iI s 82) s1011 := fdb_r (by omega) (by omega) (fun i => fm_c Gs1011 (by decide)) hMX.1
        refine z_aload_n X (x := A 179) rfl (List.Mem.head _) (z_callV X 179 (rm := (rkR (24 + 3 * (7) + 2))) (As := []) (st := []) rfl rfl (by decide) rfl (by rw [E.1, E.2.1, E.2.2.1]; exact (k_orsr5 G (B := B) (N := iI s 82) 7).2.2 Is1011 JF9 (by first | exact oq_cc309cab hps1011.1 b1010.2 | omega) (by first | exact oq_02fd7e00 hps1011.2.1 b1014.1 | omega) (by first | exact oq_0cce41ba hps1011.2.1 | omega) (by first | exact oq_58fdd3cd hps1011.1 b1010.2 | omega)) ⟨by rw [E.2.2.2]; exact (show (12 + (24 + 3 * (7) + 2)) + 1 ≤ 60 from oq_747fe883), by rw [E.2.2.2]; exact (show 8 + (3 + 11) + (500 + 45 * (24 + 3 * (7) + 2)) ≤ 2637 from oq_0300f435), by rw [E.2.2.2]; exact Nat.le_refl 0, by rw [E.2.2.2]; exact Nat.le_refl 0⟩ (Nat.le_of_ble_eq_true rfl) (fun vv s1018 hq => ?_) (fun ee s1018 hq => ?_))
        rotate_left
        · obtain ⟨Is1018, Fs1018, JFDB_s1018, e1019, hv, hrs1018, hps1018⟩ := hq; cases hv
        obtain ⟨Is1018, Fs1018, JFDB_s1018, e1019, hv, hrs1018, hps1018⟩ := hq
        cases hv
        have Gs1018 := fm_tq Gs1011 Fs1018 rfl rfl
        have JMJJ_s1018 : MJJ Jn s1018 := MJJ_fm Fs1018 (by decide) JMJJ_s1011
        have JFDB_s1018 : FDB B (iI s 82) s1018 := FDB_fm Fs1018 (by decide) JF9
        have b1020 := bi_77 Is1018
        have b1021 := bi_78 Is1018
        have b1022 := bi_79 Is1018
        have ws1018_82 : iI s1018 82 = iI s1011 82 := fm_iq Fs1018 rfl
        have ws1018_84 : iI s1018 84 = iI s1011 84 := fm_iq Fs1018 rfl
        have ws1018_81 : iI s1018 81 = iI s1011 81 := fm_iq Fs1018 rfl
        have ws1018_75 : iI s1018 75 = iI s1011 75 := fm_iq Fs1018 rfl
        show WS k 26 [(0, .ref (A 179)), (1, .int (Int32.ofInt iz)), (2, .int (Int32.ofInt k1))] [.int (Int32.ofInt e1019)] (Wd A dT s1018) 0 0
        have hnm : NMr s1011 = NMr s := nmr_fm Gs1011 (by decide)
        have hz9 : e1019 = 0 ↔ ldO c9 (NMr s) = 0 := by rw [← hnm]; exact mjw_0 (jMJJ.1 _ hc9) hp9 hrs1018 (by first | (clear hps1018; omega) | omega) (by first | (clear hps1018; omega) | omega) (by first | (clear hps1018; omega) | omega) hps1018.2.2.2.2.2.2.2
        refine z_if_eq X (t := 37) rfl rfl hrs1018 (fun g1023 => ?_) (fun g1023 => ?_)
        ·
          refine z_const X rfl (z_store_n X (lv' := [(1, .int (Int32.ofInt 0)), (0, .ref (A 179)), (2, .int (Int32.ofInt k1))]) rfl (by decide) (fun _ h => h) (z_inc X (x := k1) (lv' := [(2, .int (Int32.ofInt (k1 + 1))), (1, .int (Int32.ofInt 0)), (0, .ref (A 179))]) rfl (by decide) (List.Mem.tail _ (List.Mem.tail _ (List.Mem.head _))) (fun _ h => h) (z_goto X (t := 4) rfl rfl (WS_pq [2, 1, 0] (lv' := [(0, .ref (A 179)), (1, .int (Int32.ofInt 0)), (2, .int (Int32.ofInt (k1 + 1)))]) rfl ?_))))
          exact ih _ 0 (k1 + 1) Is1018 Gs1018 JMJJ_s1018 (mjn_up hq (by first | (clear hps1018; omega) | omega) hc9 hp9 hz9 (by first | (clear hps1018; omega) | omega)) (by first | exact ⟨Or.inl (by decide), oq_54f49eb5 hi.2.1, oq_f6204d84 g1009 b1008.2, oq_878618b1 ws1018_82 ws1011_82 hi.2.2.2.1, oq_d0d2714e ws1018_84 hi.2.2.2.2 ws1011_84⟩ | omega) (by first | exact qk_me hm (by decide) (oq_ccc5e5e0 g1009 b1008.2) | omega) kx
        ·
          refine z_load_n X (x := iz) rfl (List.Mem.tail _ (List.Mem.head _)) (z_if_eq X (t := 37) rfl rfl ⟨by first | exact oq_bde653e9 hi.1 | omega, by first | exact oq_4ad2cb8b hi.1 | omega⟩ (fun g1024 => ?_) (fun g1024 => ?_))
          ·
            refine z_const X rfl (z_store_n X (lv' := [(1, .int (Int32.ofInt 0)), (0, .ref (A 179)), (2, .int (Int32.ofInt k1))]) rfl (by decide) (fun _ h => h) (z_inc X (x := k1) (lv' := [(2, .int (Int32.ofInt (k1 + 1))), (1, .int (Int32.ofInt 0)), (0, .ref (A 179))]) rfl (by decide) (List.Mem.tail _ (List.Mem.tail _ (List.Mem.head _))) (fun _ h => h) (z_goto X (t := 4) rfl rfl (WS_pq [2, 1, 0] (lv' := [(0, .ref (A 179)), (1, .int (Int32.ofInt 0)), (2, .int (Int32.ofInt (k1 + 1)))]) rfl ?_))))
            exact ih _ 0 (k1 + 1) Is1018 Gs1018 JMJJ_s1018 (mjn_up hq (by first | (clear g1023 hps1018; omega) | (clear hps1018; omega) | omega) hc9 hp9 hz9 (by first | (clear g1023 hps1018; omega) | (clear hps1018; omega) | omega)) (by first | exact ⟨Or.inl (by decide), oq_54f49eb5 hi.2.1, oq_f6204d84 g1009 b1008.2, oq_878618b1 ws1018_82 ws1011_82 hi.2.2.2.1, oq_d0d2714e ws1018_84 hi.2.2.2.2 ws1011_84⟩ | omega) (by first | exact qk_me hm (by decide) (oq_ccc5e5e0 g1009 b1008.2) | omega) kx
          ·
            refine z_const X rfl (z_goto X (t := 38) rfl rfl (z_store_n X (lv' := [(1, .int (Int32.ofInt 1)), (0, .ref (A 179)), (2, .int (Int32.ofInt k1))]) rfl (by decide) (fun _ h => h) (z_inc X (x := k1) (lv' := [(2, .int (Int32.ofInt (k1 + 1))), (1, .int (Int32.ofInt 1)), (0, .ref (A 179))]) rfl (by decide) (List.Mem.tail _ (List.Mem.tail _ (List.Mem.head _))) (fun _ h => h) (z_goto X (t := 4) rfl rfl (WS_pq [2, 1, 0] (lv' := [(0, .ref (A 179)), (1, .int (Int32.ofInt 1)), (2, .int (Int32.ofInt (k1 + 1)))]) rfl ?_)))))
            exact ih _ 1 (k1 + 1) Is1018 Gs1018 JMJJ_s1018 (mjn_up hq (by first | (clear g1024 g1023 hps1018; omega) | (clear g1023 hps1018; omega) | omega) hc9 hp9 hz9 (by first | (clear g1024 g1023 hps1018; omega) | (clear g1023 hps1018; omega) | omega)) (by first | exact ⟨Or.inr (by decide), oq_54f49eb5 hi.2.1, oq_f6204d84 g1009 b1008.2, oq_878618b1 ws1018_82 ws1011_82 hi.2.2.2.1, oq_d0d2714e ws1018_84 hi.2.2.2.2 ws1011_84⟩ | omega) (by first | exact qk_me hm (by decide) (oq_ccc5e5e0 g1009 b1008.2) | omega) kx
  refine z_const X rfl (z_store_n X (lv' := [(1, .int (Int32.ofInt 1)), (0, .ref (A 179))]) rfl (by decide) (fun _ h => h) (z_const X rfl (z_store_n X (lv' := [(2, .int (Int32.ofInt 0)), (1, .int (Int32.ofInt 1)), (0, .ref (A 179))]) rfl (by decide) (fun _ h => h) (WS_pq [2, 1, 0] (lv' := [(0, .ref (A 179)), (1, .int (Int32.ofInt 1)), (2, .int (Int32.ofInt 0))]) rfl (L4 ((8 - 0 : Int).toNat + 1) s 1 0 I F jMJJ mjn_0 (by first | exact ⟨Or.inr (by decide), by decide, by decide, by decide, by decide⟩ | omega) (Nat.lt_succ_self _) ?_)))))
  intro s8 x9 x10 Is8 Fs8 JMJJ_s8 Qs8 hs8
  have b11 := bi_77 Is8
  have b12 := bi_78 Is8
  have b13 := bi_79 Is8
  have b14 := bi_82 Is8
  have b15 := bi_84 Is8
  have b16 := bi_81 Is8
  have b17 := bi_75 Is8
  refine z_load_n X (x := x9) rfl (List.Mem.tail _ (List.Mem.head _)) ?_
  exact w_iret X.1 q hRt (nar_ret (by first | exact hs8.1 | omega)) (ax_d X (show cdA 229 46 = some (.ireturn, 1, 0, 0, 0) from rfl)) (Nat.zero_le _) (Nat.zero_le _) ⟨_, rfl, Is8, Fs8, x9, rfl, ⟨by first | exact oq_bde653e9 hs8.1 | omega, by first | exact oq_4ad2cb8b hs8.1 | omega⟩, ⟨by first | exact hs8.1 | omega, mjn_e hMX Qs8 (by omega)⟩⟩
end M87kl
