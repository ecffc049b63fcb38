theorem oq_0a4b82e1 {a0 a1 a2 : Int} (h0 : a0 ≠ 0) (h1 : ((a0 = 1 ∧ (0 ≤ a1 ∧ a1 ≤ 7)) ∨ (a0 = 0 ∧ (a1 < 0 ∨ 7 < a1)))) : (a1 = a1 ∧ (a2 = a2 ∧ (0 ≤ a1 ∧ a1 ≤ 7))) := by omega
theorem oq_14bb5fe5 {a0 a1 a2 a3 : Int} (h0 : a0 ≠ 0) (h1 : ((0 = 1 ∧ (a1 = 0 ∧ (a2 = 1 ∧ a0 = 1))) ∨ ((0 = 0 ∨ a1 ≠ 0) ∧ (a2 = a1 ∧ ((a0 = 0 ∧ a1 = 0) ∨ (a0 = 1 ∧ a1 ≠ 0)))))) (h2 : a1 = 0) : (a3 < 0 ∨ 7 < a3) := by omega
theorem oq_7b0d8954 {a0 a1 a2 a3 a4 : Int} (h0 : a0 = 0) (h1 : ((1 = 1 ∧ (a1 = 0 ∧ (a2 = 1 ∧ a0 = 1))) ∨ ((1 = 0 ∨ a1 ≠ 0) ∧ (a2 = a1 ∧ ((a0 = 0 ∧ a1 = 0) ∨ (a0 = 1 ∧ a1 ≠ 0)))))) (h2 : a1 = 0) : (a3 = a3 ∧ (a4 = a4 ∧ (0 ≤ a3 ∧ a3 ≤ 7))) := by omega
theorem oq_2c2fe168 {a0 a1 : Int} (h0 : a0 = 0) (h1 : ((a0 = 1 ∧ (0 ≤ a1 ∧ a1 ≤ 7)) ∨ (a0 = 0 ∧ (a1 < 0 ∨ 7 < a1)))) : (a1 < 0 ∨ 7 < a1) := by omega
/-! Necks: cells without which a piece does not hang together -/
def nkP (S : Int → Prop) (c : Int) : Prop := S c ∧ ¬ HngT (fun x => S x ∧ x ≠ c)
noncomputable def nkN (S : Int → Prop) (n : Nat) : Int := sm (fun j => i01 (nkP S (j : Int))) n
theorem nk_s {S : Int → Prop} {n : Nat} : nkN S (n + 1) = nkN S n + i01 (nkP S (n : Int)) := rfl
theorem nk_y {S : Int → Prop} {n : Nat} (h : nkP S (n : Int)) : nkN S (n + 1) = nkN S n + 1 := by rw [nk_s, i01_t h]
theorem nk_n {S : Int → Prop} {n : Nat} (h : ¬ nkP S (n : Int)) : nkN S (n + 1) = nkN S n := by rw [nk_s, i01_f h, Int.add_zero]
theorem nk_0 {S : Int → Prop} {n : Nat} : 0 ≤ nkN S n := sm_nn (fun j _ => i01_r.1)
theorem nk_le {S : Int → Prop} {n : Nat} : ∀ m : Nat, nkN S n ≤ nkN S (n + m)
  | 0 => Int.le_refl _
  | m + 1 => by
    have a := nk_le (S := S) (n := n) m
    have b : 0 ≤ i01 (nkP S ((n + m : Nat) : Int)) := i01_r.1
    have c : nkN S (n + (m + 1)) = nkN S (n + m) + i01 (nkP S ((n + m : Nat) : Int)) := nk_s
    omega
theorem nk_lt {S : Int → Prop} {c d : Nat} (h : c < d) (hc : nkP S (c : Int)) : nkN S c < nkN S d := by
  have a := nk_le (S := S) (n := c + 1) (d - (c + 1))
  rw [show c + 1 + (d - (c + 1)) = d by omega, nk_y hc] at a
  omega
def NKE (S : Int → Prop) (k e : Int) : Prop := (¬ HngT S ∧ e = -1) ∨ (HngT S ∧ ((∃ c : Nat, nkP S (c : Int) ∧ nkN S c = k ∧ e = (c : Int)) ∨ (e = -1 ∧ ∀ c : Nat, c < 128 → nkP S (c : Int) → nkN S c ≠ k)))
theorem nke_un {S : Int → Prop} {k e e' : Int} (hS : celT S) (a : NKE S k e) (b : NKE S k e') : e = e' := by
  rcases a with ⟨a1, a2⟩ | ⟨a1, a2⟩
  · rcases b with ⟨b1, b2⟩ | ⟨b1, b2⟩
    · exact a2.trans b2.symm
    · exact absurd b1 a1
  · rcases b with ⟨b1, b2⟩ | ⟨b1, b2⟩
    · exact absurd a1 b1
    · have lt : ∀ c : Nat, nkP S (c : Int) → c < 128 := fun c h => by have := hS _ h.1; omega
      rcases a2 with ⟨c, c1, c2, c3⟩ | ⟨c1, c2⟩
      · rcases b2 with ⟨d, d1, d2, d3⟩ | ⟨d1, d2⟩
        · rcases Nat.lt_trichotomy c d with z | z | z
          · have := nk_lt z c1; omega
          · rw [c3, d3, z]
          · have := nk_lt z d1; omega
        · exact absurd c2 (d2 c (lt c c1) c1)
      · rcases b2 with ⟨d, d1, d2, d3⟩ | ⟨d1, d2⟩
        · exact absurd d2 (c2 d (lt d d1) d1)
        · exact c1.trans d1.symm
theorem nke_neg {S : Int → Prop} {k : Int} (h : k < 0) : NKE S k (-1) := by
  by_cases z : HngT S
  · exact Or.inr ⟨z, Or.inr ⟨rfl, fun c _ _ => by have := nk_0 (S := S) (n := c); omega⟩⟩
  · exact Or.inl ⟨z, rfl⟩
/-- no cell below c is the one sought; n necks are there -/
def NKQ (S : Int → Prop) (k n c : Int) : Prop := n = nkN S c.toNat ∧ ∀ j : Nat, (j : Int) < c → nkP S (j : Int) → nkN S j ≠ k
theorem nkq_0 {S : Int → Prop} {k : Int} : NKQ S k 0 0 := ⟨rfl, fun j hj => absurd hj (by omega)⟩
theorem nkq_n {S : Int → Prop} {k n c : Int} (h : NKQ S k n c) (c0 : 0 ≤ c) (hn : ¬ nkP S c) : NKQ S k n (c + 1) := by
  have ec : ((c.toNat : Nat) : Int) = c := by omega
  refine ⟨?_, fun j hj q => ?_⟩
  · rw [show (c + 1).toNat = c.toNat + 1 by omega, nk_n (by rw [ec]; exact hn)]; exact h.1
  · have e : (j : Int) ≠ c := fun e => hn (by rw [← e]; exact q)
    exact h.2 j (by omega) q
theorem nkq_y {S : Int → Prop} {k n c : Int} (h : NKQ S k n c) (c0 : 0 ≤ c) (hy : nkP S c) (hk : n ≠ k) : NKQ S k (n + 1) (c + 1) := by
  have ec : ((c.toNat : Nat) : Int) = c := by omega
  refine ⟨?_, fun j hj q => ?_⟩
  · rw [show (c + 1).toNat = c.toNat + 1 by omega, nk_y (by rw [ec]; exact hy), ← h.1]
  · by_cases e : j = c.toNat
    · rw [e, ← h.1]; exact hk
    · exact h.2 j (by omega) q
theorem nke_y {S : Int → Prop} {k n c : Int} (h : NKQ S k n c) (c0 : 0 ≤ c) (hg : HngT S) (hy : nkP S c) (hk : n = k) : NKE S k c := by
  have ec : ((c.toNat : Nat) : Int) = c := by omega
  exact Or.inr ⟨hg, Or.inl ⟨c.toNat, by rw [ec]; exact hy, by rw [← h.1]; exact hk, ec.symm⟩⟩
theorem nke_e {S : Int → Prop} {k n c : Int} (h : NKQ S k n c) (hc : c = 128) (hg : HngT S) : NKE S k (-1) := Or.inr ⟨hg, Or.inr ⟨rfl, fun j hj q => h.2 j (by omega) q⟩⟩
theorem nk_w {S : Int → Prop} {c e : Int} (hS : celT S) (hg : HngT S) (hc : S c) (h : HWE S c e) : (e ≠ 0 → ¬ nkP S c) ∧ (e = 0 → nkP S c) := by
  have w := hw_iff hS hg hc
  exact ⟨fun q z => h.elim (fun y => z.2 (w.mp y.2)) (fun y => absurd y.1 q), fun q => ⟨hc, h.elim (fun y => absurd (y.1.symm.trans q) (by decide)) (fun y z => y.2 (w.mpr z))⟩⟩
/-- the model's set without a cell, and with it again -/
theorem ins_w {c : Int} {t u : PS} (c0 : 0 ≤ c ∧ c ≤ 127) (h : UPD 230 c 0 t u) : inS u = fun x => inS t x ∧ x ≠ c := funext (fun x => propext (by
  unfold inS
  constructor
  · rintro ⟨q1, q2⟩
    have e : x ≠ c := fun e => q2 (by rw [e]; exact h.1)
    refine ⟨⟨q1, ?_⟩, e⟩
    rw [← h.2 x.toNat (by omega)]; exact q2
  · rintro ⟨⟨q1, q2⟩, e⟩
    refine ⟨q1, ?_⟩
    rw [h.2 x.toNat (by omega)]; exact q2))
theorem ins_b {c : Int} {t u v w : PS} (hw : iC t 230 c.toNat = 1) (h : UPD 230 c 0 t u) (h2 : SAM 230 u v) (h3 : UPD 230 c 1 v w) : SAM 230 t w := fun j => by
  by_cases e : j = c.toNat
  · rw [e, h3.1, hw]
  · rw [h3.2 j e, h2, h.2 j e]
theorem ins_s {t u : PS} (h : SAM 230 t u) : inS u = inS t := funext (fun x => propext (by unfold inS; rw [h]))
theorem nke_eq {f f' : Nat → Int} {p k e e' : Int} (h : ∀ j, j < 128 → f j = f' j) (a : NKE (pcS f p) k e) (b : NKE (pcS f' p) k e') : e = e' := nke_un pcs_cel a (by rw [pcs_c h]; exact b)
section M87ke
variable {l : Launch} {s0 : State} {D : va_G} {tys : List (ClassId × FieldType)} {a0 : Array Value} {A : Nat → Nat} {dT : Nat → ClassId} {s : PS}
set_option maxRecDepth 4000 in
theorem c3_neckAt6 (G : GX l s0 D tys a0 dT) (I : Bd s) (jPMJ : PMJ s) {x y : Int} (p0 : 0 ≤ x ∧ x ≤ 7) (p1 : rng y) : CT l s0 D A dT 36 (rmN 36) [.ref (A 25), .int (Int32.ofInt x), .int (Int32.ofInt y)] s (fun o t => Bd t ∧ Fm [] [] s t ∧ ∃ e, o = .inl (some (.int (Int32.ofInt e))) ∧ rng e ∧ (NKE (pcS (pfC s) x) y e)) := by
  refine ct_ofX G (by decide) (Nat.le_of_ble_eq_true rfl) (fun k X E ET hRt hXt q => ?_)
  show WS k 0 [(0, .ref (A 25)), (1, .int (Int32.ofInt x)), (2, .int (Int32.ofInt y))] [] _ 0 0
  have F : Fm [] [] s s := fm_rf _ _ s
  have L29 : ∀ (n : Nat) (t : PS) (xv yv sn c : Int), Bd t → Fm [] [] s t → PMJ t → (NKQ (pcS (pfC s) x) y sn c ∧ HngT (pcS (pfC s) x)) → ((xv = x ∧ yv = y) ∧ (0 ≤ sn ∧ sn ≤ c) ∧ c ≤ 128) → (128 - c : Int).toNat < n → (∀ (t' : PS) (sn' c' : Int), Bd t' → Fm [] [] s t' → PMJ t' → (NKQ (pcS (pfC s) x) y sn' c' ∧ HngT (pcS (pfC s) x)) → (c' = 128) → WS k 75 [(0, .ref (A 25)), (1, .int (Int32.ofInt xv)), (2, .int (Int32.ofInt yv)), (3, .int (Int32.ofInt sn')), (4, .int (Int32.ofInt c'))] [] (Wd A dT t') 0 0) → WS k 29 [(0, .ref (A 25)), (1, .int (Int32.ofInt xv)), (2, .int (Int32.ofInt yv)), (3, .int (Int32.ofInt sn)), (4, .int (Int32.ofInt c))] [] (Wd A dT t) 0 0 := by
    intro n
    induction n with
    | zero =>
      intro t xv yv sn c I F jjPMJ hq hi hm kx
      exact absurd hm (Nat.not_lt_zero _)
    | succ n ih =>
      intro t xv yv sn c I F jjPMJ hq hi hm kx
      have hG0 := hq.2
      refine z_load X (x := c) rfl (List.Mem.tail _ (List.Mem.tail _ (List.Mem.tail _ (List.Mem.tail _ (List.Mem.head _))))) (z_sipush X rfl (z_icmp_ge X (t := 75) rfl rfl ⟨by first | exact oq_e001bc0d hi.2.1.2 hi.2.1.1 | omega, by first | exact oq_4ee82282 hi.2.2 | omega⟩ (by decide) (fun g1001 => ?_) (fun g1001 => ?_)))
      ·
        refine WS_pq [0, 1, 2, 3, 4] (lv' := [(0, .ref (A 25)), (1, .int (Int32.ofInt xv)), (2, .int (Int32.ofInt yv)), (3, .int (Int32.ofInt sn)), (4, .int (Int32.ofInt c))]) rfl ?_
        exact kx _ sn c I F jjPMJ hq (by first | exact oq_42fe298a hi.2.2 g1001 | omega)
      ·
        refine z_aload_n X (x := A 25) rfl (List.Mem.head _) (s_getR X 25 rfl (c518_ok rfl) rfl rfl (z_load X (x := c) rfl (List.Mem.tail _ (List.Mem.tail _ (List.Mem.tail _ (List.Mem.tail _ (List.Mem.head _))))) (z_ald X 26 rfl (c518_ok rfl) rfl (by first | exact oq_12a1f9e1 hi.2.1.2 hi.2.1.1 | omega) (show c < 128 by first | exact g1001 | omega) (cbig_ok rfl) ?_)))
        have b1002 := bc_21 I (show (c).toNat < 128 by first | exact oq_afb89947 g1001 | omega)
        refine z_load_n X (x := xv) rfl (List.Mem.tail _ (List.Mem.head _)) (z_icmp_ne X (t := 69) rfl rfl (rng_to _) ⟨by first | exact oq_b3df2c6f hi.1.1 p0.1 | omega, by first | exact oq_b2f566bc hi.1.1 p0.2 | omega⟩ (fun g1003 => ?_) (fun g1003 => ?_))
        ·
          refine z_inc X (x := c) (lv' := [(4, .int (Int32.ofInt (c + 1))), (0, .ref (A 25)), (1, .int (Int32.ofInt xv)), (2, .int (Int32.ofInt yv)), (3, .int (Int32.ofInt sn))]) rfl (by decide) (List.Mem.tail _ (List.Mem.tail _ (List.Mem.tail _ (List.Mem.tail _ (List.Mem.head _))))) (fun _ h => h) (z_goto X (t := 29) rfl rfl (WS_pq [1, 2, 3, 4, 0] (lv' := [(0, .ref (A 25)), (1, .int (Int32.ofInt xv)), (2, .int (Int32.ofInt yv)), (3, .int (Int32.ofInt sn)), (4, .int (Int32.ofInt (c + 1)))]) rfl ?_))
          exact ih _ xv yv sn (c + 1) I F jjPMJ ⟨nkq_n hq.1 (by first | (clear g1003; omega) | omega) (fun z => by have y := z.1.2; have w := (fm_c F List.not_mem_nil : iC t 21 (c : Int).toNat = iC s 21 (c : Int).toNat); replace y : iC s 21 (c : Int).toNat = x := y; omega), hq.2⟩ (by first | exact ⟨And.intro (hi.1.1) (hi.1.2), And.intro (hi.2.1.1) (oq_03182e9e hi.2.1.2), oq_d2afb425 g1001⟩ | omega) (by first | exact qk_me hm (by decide) (oq_c268b7bd g1001) | omega) kx
        ·
          have hSc : pcS (pfC s) xv c := ⟨by omega, by have z := (fm_c F List.not_mem_nil : iC t 21 (c : Int).toNat = iC s 21 (c : Int).toNat); show iC s 21 (c : Int).toNat = xv; omega⟩
          refine z_aload_n X (x := A 25) rfl (List.Mem.head _) (z_load_n X (x := xv) rfl (List.Mem.tail _ (List.Mem.head _)) (z_load X (x := c) rfl (List.Mem.tail _ (List.Mem.tail _ (List.Mem.tail _ (List.Mem.tail _ (List.Mem.head _))))) (zcV_i0 X E 25 (As := [.int (Int32.ofInt xv), .int (Int32.ofInt c)]) (st := []) rfl rfl rfl rfl (c3_without3 G I (by first | exact ⟨oq_e4757433 hi.1.1 p0.1, oq_5f8273e9 g1003 b1002.2⟩ | omega) (by first | exact ⟨oq_12a1f9e1 hi.2.1.2 hi.2.1.1, oq_04367f15 g1001⟩ | omega)) rfl (Nat.le_of_ble_eq_true rfl) (fun s1004 e1005 Is1004 Fs1004 hrs1004 hps1004 => ?_))))
          have hps1004p := hps1004.2
          have Gs1004 := fm_tq F Fs1004 rfl rfl
          have JPMJ_s1004 : PMJ s1004 := PMJ_fm Fs1004 (by decide) jjPMJ
          have hWn := nk_w (S := pcS (pfC s) xv) pcs_cel (by rw [show xv = x by first | (clear hps1004; omega) | omega]; exact hG0) hSc (by rw [← pm_eq (p := xv) (s := s) jPMJ (by first | (clear hps1004; omega) | omega), ← (fm_dd F (by decide) : gD t 22 (xv : Int).toNat = gD s 22 (xv : Int).toNat), ← (fm_dd F (by decide) : gD t 23 (xv : Int).toNat = gD s 23 (xv : Int).toNat)]; exact hps1004.2)
          rw [show xv = x by first | (clear hps1004; omega) | omega] at hWn
          refine z_if_ne X (t := 69) rfl rfl hrs1004 (fun g1006 => ?_) (fun g1006 => ?_)
          ·
            refine z_inc X (x := c) (lv' := [(4, .int (Int32.ofInt (c + 1))), (0, .ref (A 25)), (1, .int (Int32.ofInt xv)), (2, .int (Int32.ofInt yv)), (3, .int (Int32.ofInt sn))]) rfl (by decide) (List.Mem.tail _ (List.Mem.tail _ (List.Mem.tail _ (List.Mem.tail _ (List.Mem.head _))))) (fun _ h => h) (z_goto X (t := 29) rfl rfl (WS_pq [1, 2, 3, 4, 0] (lv' := [(0, .ref (A 25)), (1, .int (Int32.ofInt xv)), (2, .int (Int32.ofInt yv)), (3, .int (Int32.ofInt sn)), (4, .int (Int32.ofInt (c + 1)))]) rfl ?_))
            exact ih _ xv yv sn (c + 1) Is1004 Gs1004 JPMJ_s1004 ⟨nkq_n hq.1 (by first | (clear g1006 hps1004; omega) | (clear hps1004; omega) | omega) (hWn.1 (by first | (clear g1006 hps1004; omega) | (clear hps1004; omega) | omega)), hq.2⟩ (by first | exact ⟨And.intro (hi.1.1) (hi.1.2), And.intro (hi.2.1.1) (oq_03182e9e hi.2.1.2), oq_d2afb425 g1001⟩ | omega) (by first | exact qk_me hm (by decide) (oq_c268b7bd g1001) | omega) kx
          ·
            refine z_load_n X (x := sn) rfl (List.Mem.tail _ (List.Mem.tail _ (List.Mem.tail _ (List.Mem.head _)))) (z_load_n X (x := yv) rfl (List.Mem.tail _ (List.Mem.tail _ (List.Mem.head _))) (z_icmp_ne X (t := 66) rfl rfl ⟨by first | exact oq_fa4e5087 hi.2.1.1 | omega, by first | exact oq_0961352d hi.2.1.2 g1001 | omega⟩ ⟨by first | exact oq_6bc29d15 hi.1.2 p1.1 | omega, by first | exact oq_60a194f9 hi.1.2 p1.2 | omega⟩ (fun g1007 => ?_) (fun g1007 => ?_)))
            ·
              refine z_inc X (x := sn) (lv' := [(3, .int (Int32.ofInt (sn + 1))), (0, .ref (A 25)), (1, .int (Int32.ofInt xv)), (2, .int (Int32.ofInt yv)), (4, .int (Int32.ofInt c))]) rfl (by decide) (List.Mem.tail _ (List.Mem.tail _ (List.Mem.tail _ (List.Mem.head _)))) (fun _ h => h) (z_inc X (x := c) (lv' := [(4, .int (Int32.ofInt (c + 1))), (3, .int (Int32.ofInt (sn + 1))), (0, .ref (A 25)), (1, .int (Int32.ofInt xv)), (2, .int (Int32.ofInt yv))]) rfl (by decide) (List.Mem.tail _ (List.Mem.tail _ (List.Mem.tail _ (List.Mem.tail _ (List.Mem.head _))))) (fun _ h => h) (z_goto X (t := 29) rfl rfl (WS_pq [2, 3, 4, 1, 0] (lv' := [(0, .ref (A 25)), (1, .int (Int32.ofInt xv)), (2, .int (Int32.ofInt yv)), (3, .int (Int32.ofInt (sn + 1))), (4, .int (Int32.ofInt (c + 1)))]) rfl ?_)))
              exact ih _ xv yv (sn + 1) (c + 1) Is1004 Gs1004 JPMJ_s1004 ⟨nkq_y hq.1 (by first | (clear g1007 hps1004; omega) | (clear hps1004; omega) | omega) (hWn.2 (by first | (clear g1007 hps1004; omega) | (clear hps1004; omega) | omega)) (by first | (clear g1007 hps1004; omega) | (clear hps1004; omega) | omega), hq.2⟩ (by first | exact ⟨And.intro (hi.1.1) (hi.1.2), And.intro (oq_54f49eb5 hi.2.1.1) (oq_8d48a029 hi.2.1.2), oq_d2afb425 g1001⟩ | omega) (by first | exact qk_me hm (by decide) (oq_c268b7bd g1001) | omega) kx
            ·
              refine z_load X (x := c) rfl (List.Mem.tail _ (List.Mem.tail _ (List.Mem.tail _ (List.Mem.tail _ (List.Mem.head _))))) ?_
              exact w_iret X.1 q hRt rfl (ax_d X (show cdA 36 65 = some (.ireturn, 1, 0, 0, 0) from rfl)) (Nat.zero_le _) (Nat.zero_le _) ⟨_, rfl, Is1004, Gs1004, c, rfl, ⟨by first | exact oq_e001bc0d hi.2.1.2 hi.2.1.1 | omega, by first | exact oq_fe95e6e4 g1001 | omega⟩, (nke_y hq.1 (by first | (clear hps1004; omega) | omega) hq.2 (hWn.2 (by first | (clear hps1004; omega) | omega)) (by first | (clear hps1004; omega) | omega))⟩
  refine z_load_n X (x := y) rfl (List.Mem.tail _ (List.Mem.tail _ (List.Mem.head _))) (z_if_lt X (t := 22) rfl rfl ⟨by first | exact p1.1 | omega, by first | exact p1.2 | omega⟩ (fun g1 => ?_) (fun g1 => ?_))
  ·
    refine z_const X rfl ?_
    exact w_iret X.1 q hRt rfl (ax_d X (show cdA 36 23 = some (.ireturn, 1, 0, 0, 0) from rfl)) (Nat.zero_le _) (Nat.zero_le _) ⟨_, rfl, I, F, (-1), rfl, (by decide), (nke_neg (by omega))⟩
  ·
    refine z_aload_n X (x := A 25) rfl (List.Mem.head _) (s_getR X 25 rfl (c518_ok rfl) rfl rfl (z_load_n X (x := x) rfl (List.Mem.tail _ (List.Mem.head _)) (z_lalE X 27 rfl (by decide) rfl (by first | exact p0.1 | omega) (show x < 8 by first | exact oq_aaea290e p0.2 | omega) (by decide) (z_aload_n X (x := A 25) rfl (List.Mem.head _) (s_getR X 25 rfl (c518_ok rfl) rfl rfl (z_load_n X (x := x) rfl (List.Mem.tail _ (List.Mem.head _)) (z_lalE X 28 rfl (by decide) rfl (by first | exact p0.1 | omega) (show x < 8 by first | exact oq_aaea290e p0.2 | omega) (by decide) (zcS_i0 X E (As := [.long (gD s 22 (x).toNat), .long (gD s 23 (x).toNat)]) (st := []) rfl rfl (c3_hangs3 G I ) rfl (Nat.le_of_ble_eq_true rfl) (fun s2 e3 Is2 Fs2 hrs2 hps2 => ?_)))))))))
    have hps2p := hps2.2
    have Gs2 := fm_tq F Fs2 rfl rfl
    have JPMJ_s2 : PMJ s2 := PMJ_fm Fs2 (by decide) jPMJ
    have hHg : HGE (pcS (pfC s) x) e3 := by rw [← pm_eq (p := x) jPMJ (by first | (clear hps2; omega) | omega)]; exact hps2.2
    have hHp := hge_p hHg
    refine z_if_ne X (t := 24) rfl rfl hrs2 (fun g4 => ?_) (fun g4 => ?_)
    ·
      have hG : HngT (pcS (pfC s) x) := hHp.1 (by first | (clear g4 hps2; omega) | (clear hps2; omega) | omega)
      refine z_const X rfl (z_store_n X (lv' := [(3, .int (Int32.ofInt 0)), (0, .ref (A 25)), (1, .int (Int32.ofInt x)), (2, .int (Int32.ofInt y))]) rfl (by decide) (fun _ h => h) (z_const X rfl (z_store X (lv' := [(4, .int (Int32.ofInt 0)), (3, .int (Int32.ofInt 0)), (0, .ref (A 25)), (1, .int (Int32.ofInt x)), (2, .int (Int32.ofInt y))]) rfl (by decide) (fun _ h => h) (WS_pq [2, 3, 4, 1, 0] (lv' := [(0, .ref (A 25)), (1, .int (Int32.ofInt x)), (2, .int (Int32.ofInt y)), (3, .int (Int32.ofInt 0)), (4, .int (Int32.ofInt 0))]) rfl (L29 ((128 - 0 : Int).toNat + 1) s2 x y 0 0 Is2 Gs2 JPMJ_s2 ⟨nkq_0, hG⟩ (by first | exact ⟨And.intro (by decide) (by decide), And.intro (by decide) (by decide), by decide⟩ | omega) (Nat.lt_succ_self _) ?_)))))
      intro s5 x6 x7 Is5 Fs5 JPMJ_s5 Qs5 hs5
      refine z_const X rfl ?_
      exact w_iret X.1 q hRt rfl (ax_d X (show cdA 36 76 = some (.ireturn, 1, 0, 0, 0) from rfl)) (Nat.zero_le _) (Nat.zero_le _) ⟨_, rfl, Is5, Fs5, (-1), rfl, (by decide), (nke_e Qs5.1 (by first | (clear g4 hps2; omega) | (clear hps2; omega) | omega) Qs5.2)⟩
    ·
      refine z_const X rfl ?_
      exact w_iret X.1 q hRt rfl (ax_d X (show cdA 36 23 = some (.ireturn, 1, 0, 0, 0) from rfl)) (Nat.zero_le _) (Nat.zero_le _) ⟨_, rfl, Is2, Gs2, (-1), rfl, (by decide), (Or.inl ⟨hHp.2 (by first | (clear hps2; omega) | omega), rfl⟩)⟩
set_option maxRecDepth 4000 in
theorem cs_neck6 (G : GX l s0 D tys a0 dT) (I : Bd s) (jPMJ : PMJ s) {u v : Int} (p0 : rng u) (p1 : rng v) : CT l s0 D A dT 149 (rmN 149) [.ref (A 0), .int (Int32.ofInt u), .int (Int32.ofInt v)] s (fun o t => Bd t ∧ Fm [] [] s t ∧ ((∃ e, o = .inl (some (.int (Int32.ofInt e))) ∧ rng e ∧ ((0 ≤ u ∧ u ≤ 7) ∧ NKE (pcS (pfC s) u) v e)) ∨ ∃ x : Nat, o = .inr (exN x) ∧ (x = 0 ∧ (u < 0 ∨ 7 < u)))) := by
  refine ct_ofX G (by decide) (Nat.le_of_ble_eq_true rfl) (fun k X E ET hRt hXt q => ?_)
  show WS k 0 [(0, .ref (A 0)), (1, .int (Int32.ofInt u)), (2, .int (Int32.ofInt v))] [] _ 0 0
  have F : Fm [] [] s s := fm_rf _ _ s
  refine z_aload_n X (x := A 0) rfl (List.Mem.head _) (z_load_n X (x := u) rfl (List.Mem.tail _ (List.Mem.head _)) (z_callV X 0 (rm := rmN 182) (As := [.int (Int32.ofInt u)]) (st := []) rfl rfl (by decide) rfl (by rw [E.1, E.2.1, E.2.2.1]; exact cs_needPiece6 G I (by first | exact ⟨p0.1, p0.2⟩ | omega)) ⟨by rw [E.2.2.2]; exact (show (rmN 182).frames + 1 ≤ (rmN 149).frames by decide), by rw [E.2.2.2]; exact (show 8 + (mNL (miB 182) + 11) + (rmN 182).locals ≤ (rmN 149).locals by decide), by rw [E.2.2.2]; exact (show 0 + 1 ≤ 1 by decide), by rw [E.2.2.2]; exact (show 0 + 6 ≤ 6 by decide)⟩ (Nat.le_of_ble_eq_true rfl) (fun vv s1 hq => ?_) (fun ee s1 hq => ?_)))
  rotate_left
  · obtain ⟨Is1, Fs1, (⟨hv, hps1⟩ | ⟨xx, hv, hps1⟩)⟩ := hq
    · cases hv
    · cases hv
      have Gs1 := fm_tq F Fs1 rfl rfl
      have JPMJ_s1 : PMJ s1 := PMJ_fm Fs1 (by decide) jPMJ
      exact x_out X.1 q (fun x hx => (hXt x hx).elim) (show 1 ≤ 1 by decide) (show 6 ≤ 6 by decide) ⟨_, rfl, Is1, Gs1, Or.inr ⟨xx, rfl, by omega⟩⟩
  obtain ⟨Is1, Fs1, (⟨hv, hps1⟩ | ⟨xx, hv, hps1⟩)⟩ := hq
  rotate_left
  · cases hv
  cases hv
  have Gs1 := fm_tq F Fs1 rfl rfl
  have JPMJ_s1 : PMJ s1 := PMJ_fm Fs1 (by decide) jPMJ
  show WS k 5 [(0, .ref (A 0)), (1, .int (Int32.ofInt u)), (2, .int (Int32.ofInt v))] [] (Wd A dT s1) 1 6
  refine z_aload_n X (x := A 0) rfl (List.Mem.head _) (s_getR X 0 rfl (c518_ok rfl) rfl rfl (z_load_n X (x := u) rfl (List.Mem.tail _ (List.Mem.head _)) (z_load_n X (x := v) rfl (List.Mem.tail _ (List.Mem.tail _ (List.Mem.head _))) (z_callV X 25 (rm := rmN 36) (As := [.int (Int32.ofInt u), .int (Int32.ofInt v)]) (st := []) rfl rfl (by decide) rfl (by rw [E.1, E.2.1, E.2.2.1]; exact c3_neckAt6 G Is1 JPMJ_s1 (by first | exact ⟨hps1.1, hps1.2⟩ | omega) (by first | exact ⟨p1.1, p1.2⟩ | omega)) ⟨by rw [E.2.2.2]; exact (show (rmN 36).frames + 1 ≤ (rmN 149).frames by decide), by rw [E.2.2.2]; exact (show 8 + (mNL (miB 36) + 11) + (rmN 36).locals ≤ (rmN 149).locals by decide), by rw [E.2.2.2]; exact (show 1 + 0 ≤ 1 by decide), by rw [E.2.2.2]; exact (show 6 + 0 ≤ 6 by decide)⟩ (Nat.le_of_ble_eq_true rfl) (fun vv s3 hq => ?_) (fun ee s3 hq => ?_)))))
  rotate_left
  · obtain ⟨Is3, Fs3, e4, hv, hrs3, hps3⟩ := hq; cases hv
  obtain ⟨Is3, Fs3, e4, hv, hrs3, hps3⟩ := hq
  cases hv
  have Gs3 := fm_tq Gs1 Fs3 rfl rfl
  show WS k 14 [(0, .ref (A 0)), (1, .int (Int32.ofInt u)), (2, .int (Int32.ofInt v))] [.int (Int32.ofInt e4)] (Wd A dT s3) 1 6
  exact w_iret X.1 q hRt rfl (ax_d X (show cdA 149 14 = some (.ireturn, 1, 0, 0, 0) from rfl)) (show 1 ≤ 1 by decide) (show 6 ≤ 6 by decide) ⟨_, rfl, Is3, Gs3, Or.inl ⟨e4, rfl, hrs3, ⟨by first | exact ⟨hps1.1, hps1.2⟩ | omega, by have z := hps3; rw [show pfC s1 = pfC s from funext (fun j => fm_c Gs1 List.not_mem_nil)] at z; exact z⟩⟩⟩
set_option maxRecDepth 4000 in
theorem lw_neck6 (G : GX l s0 D tys a0 dT) (I : Bd s) (jPMJ : PMJ s) {u v : Int} (p0 : rng u) (p1 : rng v) : CTL l s0 D A dT 326 (rmN 326) [.ref (A 0), .int (Int32.ofInt u), .int (Int32.ofInt v), .ref (A 517)] s (fun o t => Bd t ∧ Fm [] [1460] s t ∧ ∃ e, o = .inl (some (.int (Int32.ofInt e))) ∧ rng e ∧ ((e = 0 ∧ (0 ≤ u ∧ u ≤ 7) ∧ NKE (pcS (pfC s) u) v (iO t)) ∨ (e = 1 ∧ (u < 0 ∨ 7 < u)))) := by
  refine ctL_of G (by decide) (Nat.le_of_ble_eq_true rfl) (by decide) rfl (fun k X E ET hRt hEx q => ?_)
  show WS k 0 [(0, .ref (A 0)), (1, .int (Int32.ofInt u)), (2, .int (Int32.ofInt v)), (3, .ref (A 517))] [] _ 0 0
  have F : Fm [] [1460] s s := fm_rf _ _ s
  have hA := swA_rf A
  refine z_aload_n X (x := A 517) rfl (List.Mem.tail _ (List.Mem.tail _ (List.Mem.tail _ (List.Mem.head _)))) (z_const X rfl (z_aload_n X (x := A 0) rfl (List.Mem.head _) (z_load_n X (x := u) rfl (List.Mem.tail _ (List.Mem.head _)) (z_load_n X (x := v) rfl (List.Mem.tail _ (List.Mem.tail _ (List.Mem.head _))) (z_callV X 0 (rm := rmN 149) (As := [.int (Int32.ofInt u), .int (Int32.ofInt v)]) (st := [.int (Int32.ofInt 0), .ref (A 517)]) rfl rfl (by decide) rfl (by rw [E.1, E.2.1, E.2.2.1]; exact cs_neck6 G I jPMJ (by omega) (by omega)) ⟨by rw [E.2.2.2]; exact (show (rmN 149).frames + 1 ≤ (rmN 326).frames by decide), by rw [E.2.2.2]; exact (show 8 + (mNL (miB 149) + 11) + (rmN 149).locals ≤ (rmN 326).locals by decide), by rw [E.2.2.2]; exact (show 0 + (rmN 149).cells ≤ (rmN 326).cells by decide), by rw [E.2.2.2]; exact (show 0 + (rmN 149).slots ≤ (rmN 326).slots by decide)⟩ (Nat.le_of_ble_eq_true rfl) (fun vv s1 hq => ?_) (fun ee s1 hq => ?_))))))
  rotate_left
  · obtain ⟨Is1, Fs1, (⟨e2, hv, hrs1, hps1⟩ | ⟨xx, hv, hps1⟩)⟩ := hq
    · cases hv
    · cases hv
      rcases (show xx = 0 by omega) with gx
      ·
        subst gx
        have Gs1 := fm_tq F Fs1 rfl rfl
        refine (hEx 5 0).2 13 rfl _ _ _ _ _ (fun q1 => ?_)
        show WS k 13 [(0, .ref (A 0)), (1, .int (Int32.ofInt u)), (2, .int (Int32.ofInt v)), (3, .ref (A 517))] [.ref q1] (Wd A dT s1) 1 6
        refine z_astore X (lv' := [(4, .ref q1), (0, .ref (A 0)), (1, .int (Int32.ofInt u)), (2, .int (Int32.ofInt v)), (3, .ref (A 517))]) rfl (by decide) (fun _ h => h) (z_const X rfl ?_)
        exact w_iret X.1 q hRt rfl (ax_d X (show cdA 326 16 = some (.ireturn, 1, 0, 0, 0) from rfl)) (show 1 ≤ 1 by decide) (show 6 ≤ 6 by decide) ⟨A, _, hA, rfl, Is1, Gs1, 1, rfl, (by decide), Or.inr ⟨by decide, by omega⟩⟩
  obtain ⟨Is1, Fs1, (⟨e2, hv, hrs1, hps1⟩ | ⟨xx, hv, hps1⟩)⟩ := hq
  rotate_left
  · cases hv
  cases hv
  have Gs1 := fm_tq F Fs1 rfl rfl
  show WS k 8 [(0, .ref (A 0)), (1, .int (Int32.ofInt u)), (2, .int (Int32.ofInt v)), (3, .ref (A 517))] [.int (Int32.ofInt e2), .int (Int32.ofInt 0), .ref (A 517)] (Wd A dT s1) 1 6
  refine w_i2l X.1 (ax_d X (show cdA 326 8 = some (.i2l, 1, 0, 0, 0) from rfl)) (z_last X 517 rfl (c518_ok rfl) rfl (by first | (clear hps1; omega) | omega) (show 0 < 1 by first | (clear hps1; omega) | omega) (cbig_ok rfl) (wd_gen (fun s3 hs3 => ?_)))
  have Is3 : Bd s3 := eqB hs3 (bd_D Is1)
  have Fs3 : Fm [] [1460] s s3 := by rw [hs3]; exact fm_D Gs1 (show 460 + 1000 ∈ _ by decide)
  have oos3 : iO s3 = e2 := by rw [hs3]; exact iO_u (by first | (clear hps1; omega) | omega)
  refine z_goto X (t := 17) rfl rfl (z_const X rfl ?_)
  exact w_iret X.1 q hRt rfl (ax_d X (show cdA 326 18 = some (.ireturn, 1, 0, 0, 0) from rfl)) (show 1 ≤ 1 by decide) (show 6 ≤ 6 by decide) ⟨A, _, hA, rfl, Is3, Fs3, 0, rfl, (by decide), Or.inl ⟨by decide, by first | (clear hps1; omega) | omega, by rw [show iO s3 = e2 by first | (clear hps1; omega) | omega]; exact hps1.2⟩⟩
set_option maxRecDepth 4000 in
theorem k_isWhole6 (G : GX l s0 D tys a0 dT) (I : Bd s) {x : Int} (p0 : rng x) : CT l s0 D A dT 240 (rmN 240) [.ref (A 179), .int (Int32.ofInt x)] s (fun o t => Bd t ∧ Fm [] [231, 232, 230] s t ∧ ∃ e, o = .inl (some (.int (Int32.ofInt e))) ∧ rng e ∧ ((e = 0 ∨ e = 1) ∧ HGE (pcS (pfM s) x) e ∧ inS t = pcS (pfM s) x)) := by
  refine ct_of G (by decide) (Nat.le_of_ble_eq_true rfl) (fun k X E hRt hXt q => ?_)
  show WS k 0 [(0, .ref (A 179)), (1, .int (Int32.ofInt x))] [] _ 0 0
  have F : Fm [] [231, 232, 230] s s := fm_rf _ _ s
  refine z_aload_n X (x := A 179) rfl (List.Mem.head _) (z_load_n X (x := x) rfl (List.Mem.tail _ (List.Mem.head _)) (zcV_v0 X E 179 (As := [.int (Int32.ofInt x)]) (st := []) rfl rfl rfl rfl (k_setOf3 G I (by first | exact ⟨p0.1, p0.2⟩ | omega)) rfl (Nat.le_of_ble_eq_true rfl) (fun s1 Is1 Fs1 hps1 => ?_)))
  have Gs1 := fm_tq F Fs1 rfl rfl
  refine z_aload_n X (x := A 179) rfl (List.Mem.head _) (zcV_i0 X E 179 (As := []) (st := []) rfl rfl rfl rfl (k_hangs3 G Is1 ) rfl (Nat.le_of_ble_eq_true rfl) (fun s3 e4 Is3 Fs3 hrs3 hps3 => ?_))
  have hps3p := hps3.2
  have Gs3 := fm_tq Gs1 Fs3 rfl rfl
  exact w_iret X.1 q hRt (nar_ret (by first | exact hps3.1 | omega)) (ax_d X (show cdA 240 9 = some (.ireturn, 1, 0, 0, 0) from rfl)) (Nat.zero_le _) (Nat.zero_le _) ⟨_, rfl, Is3, Gs3, e4, rfl, hrs3, ⟨hps3.1, by rw [← soq_in hps1]; exact hps3.2, by rw [ins_fm Fs3 (by decide)]; exact soq_in hps1⟩⟩
set_option maxRecDepth 4000 in
theorem k_neck6 (G : GX l s0 D tys a0 dT) (I : Bd s) {x y : Int} (p0 : rng x) (p1 : rng y) : CT l s0 D A dT 242 (rmN 242) [.ref (A 179), .int (Int32.ofInt x), .int (Int32.ofInt y)] s (fun o t => Bd t ∧ Fm [73] [231, 232, 230] s t ∧ ∃ e, o = .inl (some (.int (Int32.ofInt e))) ∧ rng e ∧ (((0 ≤ x ∧ x ≤ 7) ∧ iI t 73 = 0 ∧ NKE (pcS (pfM s) x) y e) ∨ ((x < 0 ∨ 7 < x) ∧ iI t 73 = 1))) := by
  refine ct_of G (by decide) (Nat.le_of_ble_eq_true rfl) (fun k X E hRt hXt q => ?_)
  show WS k 0 [(0, .ref (A 179)), (1, .int (Int32.ofInt x)), (2, .int (Int32.ofInt y))] [] _ 0 0
  have F : Fm [73] [231, 232, 230] s s := fm_rf _ _ s
  have b1 := bi_73 I
  have L45 : ∀ (n : Nat) (t : PS) (xv yv sn c : Int), Bd t → Fm [73] [231, 232, 230] s t → (NKQ (pcS (pfM s) x) y sn c ∧ HngT (pcS (pfM s) x) ∧ inS t = (pcS (pfM s) x)) → ((xv = x ∧ yv = y ∧ 0 ≤ x ∧ x ≤ 7) ∧ (0 ≤ sn ∧ sn ≤ c) ∧ c ≤ 128 ∧ iI t 73 = 0) → (128 - c : Int).toNat < n → (∀ (t' : PS) (sn' c' : Int), Bd t' → Fm [73] [231, 232, 230] s t' → (NKQ (pcS (pfM s) x) y sn' c' ∧ HngT (pcS (pfM s) x) ∧ inS t' = (pcS (pfM s) x)) → ((0 ≤ x ∧ x ≤ 7) ∧ c' = 128 ∧ iI t' 73 = 0) → WS k 121 [(0, .ref (A 179)), (1, .int (Int32.ofInt xv)), (2, .int (Int32.ofInt yv)), (3, .int (Int32.ofInt sn')), (4, .int (Int32.ofInt c'))] [] (Wd A dT t') 0 0) → WS k 45 [(0, .ref (A 179)), (1, .int (Int32.ofInt xv)), (2, .int (Int32.ofInt yv)), (3, .int (Int32.ofInt sn)), (4, .int (Int32.ofInt c))] [] (Wd A dT t) 0 0 := by
    intro n
    induction n with
    | zero =>
      intro t xv yv sn c I F hq hi hm kx
      exact absurd hm (Nat.not_lt_zero _)
    | succ n ih =>
      intro t xv yv sn c I F hq hi hm kx
      have b1001 := bi_73 I
      refine z_load X (x := c) rfl (List.Mem.tail _ (List.Mem.tail _ (List.Mem.tail _ (List.Mem.tail _ (List.Mem.head _))))) (z_sipush X rfl (z_icmp_ge X (t := 121) rfl rfl ⟨by first | exact oq_e001bc0d hi.2.1.2 hi.2.1.1 | omega, by first | exact oq_4ee82282 hi.2.2.1 | omega⟩ (by decide) (fun g1002 => ?_) (fun g1002 => ?_)))
      ·
        refine WS_pq [0, 1, 2, 3, 4] (lv' := [(0, .ref (A 179)), (1, .int (Int32.ofInt xv)), (2, .int (Int32.ofInt yv)), (3, .int (Int32.ofInt sn)), (4, .int (Int32.ofInt c))]) rfl ?_
        exact kx _ sn c I F hq (by first | exact ⟨And.intro (hi.1.2.2.1) (hi.1.2.2.2), oq_42fe298a hi.2.2.1 g1002, hi.2.2.2⟩ | omega)
      ·
        refine z_aload_n X (x := A 179) rfl (List.Mem.head _) (s_getR X 179 rfl (c518_ok rfl) rfl rfl (z_load X (x := c) rfl (List.Mem.tail _ (List.Mem.tail _ (List.Mem.tail _ (List.Mem.tail _ (List.Mem.head _))))) (z_zald X 258 rfl (c518_ok rfl) rfl (by first | exact oq_12a1f9e1 hi.2.1.2 hi.2.1.1 | omega) (show c < 128 by first | exact g1002 | omega) (cbig_ok rfl) ?_)))
        have b1003 := bc_230 I (show (c).toNat < 128 by first | exact oq_afb89947 g1002 | omega)
        have ar1004 : iC t 230 (c).toNat = iC t 230 (c).toNat := (sam_rf (a := 230) (s := t)) _
        refine z_if_ne X (t := 66) rfl rfl (rng_to _) (fun g1005 => ?_) (fun g1005 => ?_)
        ·
          refine z_aload_n X (x := A 179) rfl (List.Mem.head _) (s_getR X 179 rfl (c518_ok rfl) rfl rfl (z_load X (x := c) rfl (List.Mem.tail _ (List.Mem.tail _ (List.Mem.tail _ (List.Mem.tail _ (List.Mem.head _))))) (z_const X rfl (z_zast X 258 rfl (c518_ok rfl) rfl (by first | exact oq_12a1f9e1 hi.2.1.2 hi.2.1.1 | omega) (show c < 128 by first | exact g1002 | omega) (by decide) (by first | exact Or.inl (cbig_ok rfl) | omega) (wd_gen (fun s1006 hs1006 => ?_))))))
          have Is1006 : Bd s1006 := eqB hs1006 (bd_C I (show (0 : Int) ≤ 0 ∧ 0 ≤ 1 by first | exact ⟨by decide, by decide⟩ | omega) (by decide))
          have Fs1006 := eqF hs1006 (fm_C F (inl_ok (a := 230) rfl))
          have ws1006_73 : iI s1006 73 = iI t 73 := eqI hs1006 rfl
          have aws1006_230 : UPD 230 (c) 0 t s1006 := by rw [hs1006]; exact upd_put (sam_rf (a := 230) (s := t)) (by decide)
          refine z_aload_n X (x := A 179) rfl (List.Mem.head _) (zcV_i0 X E 179 (As := []) (st := []) rfl rfl rfl rfl (k_hangs3 G Is1006 ) rfl (Nat.le_of_ble_eq_true rfl) (fun s1007 e1008 Is1007 Fs1007 hrs1007 hps1007 => ?_))
          have hps1007p := hps1007.2
          have Gs1007 := fm_tq Fs1006 Fs1007 rfl rfl
          have ws1007_73 : iI s1007 73 = iI s1006 73 := fm_iq Fs1007 rfl
          have aws1007_230 : UPD 230 (c) 0 t s1007 := upd_ts aws1006_230 (sam_fm Fs1007 (by decide))
          have hHn : HGE (fun z => (pcS (pfM s) x) z ∧ z ≠ c) e1008 := by rw [← hq.2.2, ← ins_w (by first | (clear hps1007 g1005; omega) | (clear g1005; omega) | omega) aws1006_230]; exact hps1007.2
          have hHm := hge_p hHn
          refine z_if_ne X (t := 85) rfl rfl hrs1007 (fun g1009 => ?_) (fun g1009 => ?_)
          ·
            refine z_const X rfl (z_store X (lv' := [(5, .int (Int32.ofInt 0)), (0, .ref (A 179)), (1, .int (Int32.ofInt xv)), (2, .int (Int32.ofInt yv)), (3, .int (Int32.ofInt sn)), (4, .int (Int32.ofInt c))]) rfl (by decide) (fun _ h => h) (z_aload_n X (x := A 179) rfl (List.Mem.tail _ (List.Mem.head _)) (s_getR X 179 rfl (c518_ok rfl) rfl rfl (z_load X (x := c) rfl (List.Mem.tail _ (List.Mem.tail _ (List.Mem.tail _ (List.Mem.tail _ (List.Mem.tail _ (List.Mem.head _)))))) (z_const X rfl (z_zast X 258 rfl (c518_ok rfl) rfl (by first | exact oq_12a1f9e1 hi.2.1.2 hi.2.1.1 | omega) (show c < 128 by first | exact g1002 | omega) (by decide) (by first | exact Or.inr (cbig_ok rfl) | omega) (wd_gen (fun s1010 hs1010 => ?_))))))))
            have Is1010 : Bd s1010 := eqB hs1010 (bd_C Is1007 (show (0 : Int) ≤ 1 ∧ 1 ≤ 1 by first | exact ⟨by decide, by decide⟩ | omega) (by decide))
            have Fs1010 := eqF hs1010 (fm_C Gs1007 (inl_ok (a := 230) rfl))
            have ws1010_73 : iI s1010 73 = iI s1007 73 := eqI hs1010 rfl
            have aws1010_230 : UPD 230 (c) 1 s1007 s1010 := by rw [hs1010]; exact upd_put (sam_rf (a := 230) (s := s1007)) (by decide)
            have hBk : SAM 230 t s1010 := ins_b (by first | (clear g1009 hps1007 g1005; omega) | (clear hps1007 g1005; omega) | omega) aws1006_230 (sam_fm Fs1007 (by decide)) aws1010_230
            have hIb : inS s1010 = (pcS (pfM s) x) := by rw [← hq.2.2]; exact ins_s hBk
            have hSc : (pcS (pfM s) x) c := by rw [← hq.2.2]; exact ⟨by first | (clear g1009 hps1007 g1005; omega) | (clear hps1007 g1005; omega) | omega, by first | (clear g1009 hps1007 g1005; omega) | (clear hps1007 g1005; omega) | omega⟩
            refine z_load X (x := 0) rfl (List.Mem.head _) (z_if_ne X (t := 104) rfl rfl (by decide) (fun g1011 => ?_) (fun g1011 => ?_))
            ·
              refine z_load_n X (x := sn) rfl (List.Mem.tail _ (List.Mem.tail _ (List.Mem.tail _ (List.Mem.tail _ (List.Mem.head _))))) (z_load_n X (x := yv) rfl (List.Mem.tail _ (List.Mem.tail _ (List.Mem.tail _ (List.Mem.head _)))) (z_icmp_ne X (t := 112) rfl rfl ⟨by first | exact oq_fa4e5087 hi.2.1.1 | omega, by first | exact oq_0961352d hi.2.1.2 g1002 | omega⟩ ⟨by first | exact oq_6bc29d15 hi.1.2.1 p1.1 | omega, by first | exact oq_60a194f9 hi.1.2.1 p1.2 | omega⟩ (fun g1012 => ?_) (fun g1012 => ?_)))
              ·
                refine z_inc X (x := sn) (lv' := [(3, .int (Int32.ofInt (sn + 1))), (5, .int (Int32.ofInt 0)), (0, .ref (A 179)), (1, .int (Int32.ofInt xv)), (2, .int (Int32.ofInt yv)), (4, .int (Int32.ofInt c))]) rfl (by decide) (List.Mem.tail _ (List.Mem.tail _ (List.Mem.tail _ (List.Mem.tail _ (List.Mem.head _))))) (fun _ h => h) (z_inc X (x := c) (lv' := [(4, .int (Int32.ofInt (c + 1))), (3, .int (Int32.ofInt (sn + 1))), (5, .int (Int32.ofInt 0)), (0, .ref (A 179)), (1, .int (Int32.ofInt xv)), (2, .int (Int32.ofInt yv))]) rfl (by decide) (List.Mem.tail _ (List.Mem.tail _ (List.Mem.tail _ (List.Mem.tail _ (List.Mem.tail _ (List.Mem.head _)))))) (fun _ h => h) (z_goto X (t := 45) rfl rfl (WS_pq [3, 4, 5, 1, 0] (lv' := [(0, .ref (A 179)), (1, .int (Int32.ofInt xv)), (2, .int (Int32.ofInt yv)), (3, .int (Int32.ofInt (sn + 1))), (4, .int (Int32.ofInt (c + 1)))]) rfl ?_)))
                exact ih _ xv yv (sn + 1) (c + 1) Is1010 Fs1010 ⟨nkq_y hq.1 (by first | (clear g1012 g1011 g1009 hps1007 g1005; omega) | (clear g1011 g1009 hps1007 g1005; omega) | omega) ⟨hSc, hHm.2 (by first | (clear g1012 g1011 g1009 hps1007 g1005; omega) | (clear g1011 g1009 hps1007 g1005; omega) | omega)⟩ (by first | (clear g1012 g1011 g1009 hps1007 g1005; omega) | (clear g1011 g1009 hps1007 g1005; omega) | omega), hq.2.1, hIb⟩ (by first | exact ⟨And.intro (hi.1.1) (And.intro (hi.1.2.1) (And.intro (hi.1.2.2.1) (hi.1.2.2.2))), And.intro (oq_54f49eb5 hi.2.1.1) (oq_8d48a029 hi.2.1.2), oq_d2afb425 g1002, oq_0f72f93b ws1010_73 ws1007_73 ws1006_73 hi.2.2.2 b1001.1⟩ | omega) (by first | exact qk_me hm (by decide) (oq_c268b7bd g1002) | omega) kx
              ·
                refine z_load X (x := c) rfl (List.Mem.tail _ (List.Mem.tail _ (List.Mem.tail _ (List.Mem.tail _ (List.Mem.tail _ (List.Mem.head _)))))) ?_
                exact w_iret X.1 q hRt rfl (ax_d X (show cdA 242 111 = some (.ireturn, 1, 0, 0, 0) from rfl)) (Nat.zero_le _) (Nat.zero_le _) ⟨_, rfl, Is1010, Fs1010, c, rfl, ⟨by first | exact oq_e001bc0d hi.2.1.2 hi.2.1.1 | omega, by first | exact oq_fe95e6e4 g1002 | omega⟩, Or.inl ⟨by first | exact ⟨hi.1.2.2.1, hi.1.2.2.2⟩ | omega, by first | exact oq_0f72f93b ws1010_73 ws1007_73 ws1006_73 hi.2.2.2 b1001.1 | omega, nke_y hq.1 (by first | (clear g1011 g1009 hps1007 g1005; omega) | (clear g1009 hps1007 g1005; omega) | omega) hq.2.1 ⟨hSc, hHm.2 (by first | (clear g1011 g1009 hps1007 g1005; omega) | (clear g1009 hps1007 g1005; omega) | omega)⟩ (by first | (clear g1011 g1009 hps1007 g1005; omega) | (clear g1009 hps1007 g1005; omega) | omega)⟩⟩
            ·
              refine z_goto X (t := 115) rfl rfl (z_inc X (x := c) (lv' := [(4, .int (Int32.ofInt (c + 1))), (5, .int (Int32.ofInt 0)), (0, .ref (A 179)), (1, .int (Int32.ofInt xv)), (2, .int (Int32.ofInt yv)), (3, .int (Int32.ofInt sn))]) rfl (by decide) (List.Mem.tail _ (List.Mem.tail _ (List.Mem.tail _ (List.Mem.tail _ (List.Mem.tail _ (List.Mem.head _)))))) (fun _ h => h) (z_goto X (t := 45) rfl rfl (WS_pq [2, 3, 4, 5, 0] (lv' := [(0, .ref (A 179)), (1, .int (Int32.ofInt xv)), (2, .int (Int32.ofInt yv)), (3, .int (Int32.ofInt sn)), (4, .int (Int32.ofInt (c + 1)))]) rfl ?_)))
              exact ih _ xv yv sn (c + 1) Is1010 Fs1010 ⟨nkq_n hq.1 (by first | (clear g1009 hps1007 g1005; omega) | (clear hps1007 g1005; omega) | omega) (fun z => z.2 (hHm.1 (by first | (clear g1009 hps1007 g1005; omega) | (clear hps1007 g1005; omega) | omega))), hq.2.1, hIb⟩ (by first | exact ⟨And.intro (hi.1.1) (And.intro (hi.1.2.1) (And.intro (hi.1.2.2.1) (hi.1.2.2.2))), And.intro (hi.2.1.1) (oq_03182e9e hi.2.1.2), oq_d2afb425 g1002, oq_0f72f93b ws1010_73 ws1007_73 ws1006_73 hi.2.2.2 b1001.1⟩ | omega) (by first | exact qk_me hm (by decide) (oq_c268b7bd g1002) | omega) kx
          ·
            refine z_const X rfl (z_goto X (t := 86) rfl rfl (z_store X (lv' := [(5, .int (Int32.ofInt 1)), (0, .ref (A 179)), (1, .int (Int32.ofInt xv)), (2, .int (Int32.ofInt yv)), (3, .int (Int32.ofInt sn)), (4, .int (Int32.ofInt c))]) rfl (by decide) (fun _ h => h) (z_aload_n X (x := A 179) rfl (List.Mem.tail _ (List.Mem.head _)) (s_getR X 179 rfl (c518_ok rfl) rfl rfl (z_load X (x := c) rfl (List.Mem.tail _ (List.Mem.tail _ (List.Mem.tail _ (List.Mem.tail _ (List.Mem.tail _ (List.Mem.head _)))))) (z_const X rfl (z_zast X 258 rfl (c518_ok rfl) rfl (by first | exact oq_12a1f9e1 hi.2.1.2 hi.2.1.1 | omega) (show c < 128 by first | exact g1002 | omega) (by decide) (by first | exact Or.inr (cbig_ok rfl) | omega) (wd_gen (fun s1013 hs1013 => ?_)))))))))
            have Is1013 : Bd s1013 := eqB hs1013 (bd_C Is1007 (show (0 : Int) ≤ 1 ∧ 1 ≤ 1 by first | exact ⟨by decide, by decide⟩ | omega) (by decide))
            have Fs1013 := eqF hs1013 (fm_C Gs1007 (inl_ok (a := 230) rfl))
            have ws1013_73 : iI s1013 73 = iI s1007 73 := eqI hs1013 rfl
            have aws1013_230 : UPD 230 (c) 1 s1007 s1013 := by rw [hs1013]; exact upd_put (sam_rf (a := 230) (s := s1007)) (by decide)
            have hBk : SAM 230 t s1013 := ins_b (by first | (clear hps1007 g1005; omega) | (clear g1005; omega) | omega) aws1006_230 (sam_fm Fs1007 (by decide)) aws1013_230
            have hIb : inS s1013 = (pcS (pfM s) x) := by rw [← hq.2.2]; exact ins_s hBk
            have hSc : (pcS (pfM s) x) c := by rw [← hq.2.2]; exact ⟨by first | (clear hps1007 g1005; omega) | (clear g1005; omega) | omega, by first | (clear hps1007 g1005; omega) | (clear g1005; omega) | omega⟩
            refine z_load X (x := 1) rfl (List.Mem.head _) (z_if_ne X (t := 104) rfl rfl (by decide) (fun g1014 => ?_) (fun g1014 => ?_))
            ·
              refine z_load_n X (x := sn) rfl (List.Mem.tail _ (List.Mem.tail _ (List.Mem.tail _ (List.Mem.tail _ (List.Mem.head _))))) (z_load_n X (x := yv) rfl (List.Mem.tail _ (List.Mem.tail _ (List.Mem.tail _ (List.Mem.head _)))) (z_icmp_ne X (t := 112) rfl rfl ⟨by first | exact oq_fa4e5087 hi.2.1.1 | omega, by first | exact oq_0961352d hi.2.1.2 g1002 | omega⟩ ⟨by first | exact oq_6bc29d15 hi.1.2.1 p1.1 | omega, by first | exact oq_60a194f9 hi.1.2.1 p1.2 | omega⟩ (fun g1015 => ?_) (fun g1015 => ?_)))
              ·
                refine z_inc X (x := sn) (lv' := [(3, .int (Int32.ofInt (sn + 1))), (5, .int (Int32.ofInt 1)), (0, .ref (A 179)), (1, .int (Int32.ofInt xv)), (2, .int (Int32.ofInt yv)), (4, .int (Int32.ofInt c))]) rfl (by decide) (List.Mem.tail _ (List.Mem.tail _ (List.Mem.tail _ (List.Mem.tail _ (List.Mem.head _))))) (fun _ h => h) (z_inc X (x := c) (lv' := [(4, .int (Int32.ofInt (c + 1))), (3, .int (Int32.ofInt (sn + 1))), (5, .int (Int32.ofInt 1)), (0, .ref (A 179)), (1, .int (Int32.ofInt xv)), (2, .int (Int32.ofInt yv))]) rfl (by decide) (List.Mem.tail _ (List.Mem.tail _ (List.Mem.tail _ (List.Mem.tail _ (List.Mem.tail _ (List.Mem.head _)))))) (fun _ h => h) (z_goto X (t := 45) rfl rfl (WS_pq [3, 4, 5, 1, 0] (lv' := [(0, .ref (A 179)), (1, .int (Int32.ofInt xv)), (2, .int (Int32.ofInt yv)), (3, .int (Int32.ofInt (sn + 1))), (4, .int (Int32.ofInt (c + 1)))]) rfl ?_)))
                exact ih _ xv yv (sn + 1) (c + 1) Is1013 Fs1013 ⟨nkq_y hq.1 (by first | (clear g1015 g1014 hps1007 g1005; omega) | (clear g1014 hps1007 g1005; omega) | omega) ⟨hSc, hHm.2 (by first | (clear g1015 g1014 hps1007 g1005; omega) | (clear g1014 hps1007 g1005; omega) | omega)⟩ (by first | (clear g1015 g1014 hps1007 g1005; omega) | (clear g1014 hps1007 g1005; omega) | omega), hq.2.1, hIb⟩ (by first | exact ⟨And.intro (hi.1.1) (And.intro (hi.1.2.1) (And.intro (hi.1.2.2.1) (hi.1.2.2.2))), And.intro (oq_54f49eb5 hi.2.1.1) (oq_8d48a029 hi.2.1.2), oq_d2afb425 g1002, oq_0f72f93b ws1013_73 ws1007_73 ws1006_73 hi.2.2.2 b1001.1⟩ | omega) (by first | exact qk_me hm (by decide) (oq_c268b7bd g1002) | omega) kx
              ·
                refine z_load X (x := c) rfl (List.Mem.tail _ (List.Mem.tail _ (List.Mem.tail _ (List.Mem.tail _ (List.Mem.tail _ (List.Mem.head _)))))) ?_
                exact w_iret X.1 q hRt rfl (ax_d X (show cdA 242 111 = some (.ireturn, 1, 0, 0, 0) from rfl)) (Nat.zero_le _) (Nat.zero_le _) ⟨_, rfl, Is1013, Fs1013, c, rfl, ⟨by first | exact oq_e001bc0d hi.2.1.2 hi.2.1.1 | omega, by first | exact oq_fe95e6e4 g1002 | omega⟩, Or.inl ⟨by first | exact ⟨hi.1.2.2.1, hi.1.2.2.2⟩ | omega, by first | exact oq_0f72f93b ws1013_73 ws1007_73 ws1006_73 hi.2.2.2 b1001.1 | omega, nke_y hq.1 (by first | (clear g1014 hps1007 g1005; omega) | (clear hps1007 g1005; omega) | omega) hq.2.1 ⟨hSc, hHm.2 (by first | (clear g1014 hps1007 g1005; omega) | (clear hps1007 g1005; omega) | omega)⟩ (by first | (clear g1014 hps1007 g1005; omega) | (clear hps1007 g1005; omega) | omega)⟩⟩
            ·
              refine z_goto X (t := 115) rfl rfl (z_inc X (x := c) (lv' := [(4, .int (Int32.ofInt (c + 1))), (5, .int (Int32.ofInt 1)), (0, .ref (A 179)), (1, .int (Int32.ofInt xv)), (2, .int (Int32.ofInt yv)), (3, .int (Int32.ofInt sn))]) rfl (by decide) (List.Mem.tail _ (List.Mem.tail _ (List.Mem.tail _ (List.Mem.tail _ (List.Mem.tail _ (List.Mem.head _)))))) (fun _ h => h) (z_goto X (t := 45) rfl rfl (WS_pq [2, 3, 4, 5, 0] (lv' := [(0, .ref (A 179)), (1, .int (Int32.ofInt xv)), (2, .int (Int32.ofInt yv)), (3, .int (Int32.ofInt sn)), (4, .int (Int32.ofInt (c + 1)))]) rfl ?_)))
              exact ih _ xv yv sn (c + 1) Is1013 Fs1013 ⟨nkq_n hq.1 (by first | (clear hps1007 g1005; omega) | (clear g1005; omega) | omega) (fun z => z.2 (hHm.1 (by first | (clear hps1007 g1005; omega) | (clear g1005; omega) | omega))), hq.2.1, hIb⟩ (by first | exact ⟨And.intro (hi.1.1) (And.intro (hi.1.2.1) (And.intro (hi.1.2.2.1) (hi.1.2.2.2))), And.intro (hi.2.1.1) (oq_03182e9e hi.2.1.2), oq_d2afb425 g1002, oq_0f72f93b ws1013_73 ws1007_73 ws1006_73 hi.2.2.2 b1001.1⟩ | omega) (by first | exact qk_me hm (by decide) (oq_c268b7bd g1002) | omega) kx
        ·
          refine z_goto X (t := 115) rfl rfl (z_inc X (x := c) (lv' := [(4, .int (Int32.ofInt (c + 1))), (0, .ref (A 179)), (1, .int (Int32.ofInt xv)), (2, .int (Int32.ofInt yv)), (3, .int (Int32.ofInt sn))]) rfl (by decide) (List.Mem.tail _ (List.Mem.tail _ (List.Mem.tail _ (List.Mem.tail _ (List.Mem.head _))))) (fun _ h => h) (z_goto X (t := 45) rfl rfl (WS_pq [1, 2, 3, 4, 0] (lv' := [(0, .ref (A 179)), (1, .int (Int32.ofInt xv)), (2, .int (Int32.ofInt yv)), (3, .int (Int32.ofInt sn)), (4, .int (Int32.ofInt (c + 1)))]) rfl ?_)))
          exact ih _ xv yv sn (c + 1) I F ⟨nkq_n hq.1 (by omega) (fun z => by have y := z.1; rw [← hq.2.2] at y; have w := y.2; omega), hq.2⟩ (by first | exact ⟨And.intro (hi.1.1) (And.intro (hi.1.2.1) (And.intro (hi.1.2.2.1) (hi.1.2.2.2))), And.intro (hi.2.1.1) (oq_03182e9e hi.2.1.2), oq_d2afb425 g1002, hi.2.2.2⟩ | omega) (by first | exact qk_me hm (by decide) (oq_c268b7bd g1002) | omega) kx
  refine z_aload_n X (x := A 179) rfl (List.Mem.head _) (z_const X rfl (s_putI X 179 rfl (c518_ok rfl) rfl rfl (by decide) rfl rfl rfl (wd_gen (fun s2 hs2 => ?_))))
  have Is2 : Bd s2 := eqB hs2 (bd_I I (show (0 : Int) ≤ 0 ∧ 0 ≤ 3 by first | exact ⟨by decide, by decide⟩ | omega) (by decide))
  have Fs2 := eqF hs2 (fm_I F (inl_ok (a := 73) rfl))
  have vs2 : iI s2 73 = 0 := eqI hs2 (iI_u (by decide))
  refine z_aload_n X (x := A 179) rfl (List.Mem.head _) (z_load_n X (x := x) rfl (List.Mem.tail _ (List.Mem.head _)) (z_const X rfl (z_bipush X rfl (z_callS X (rm := rmN 188) (As := [.int (Int32.ofInt x), .int (Int32.ofInt 0), .int (Int32.ofInt 7)]) (st := [.ref (A 179)]) rfl rfl (by rw [E.1, E.2.1, E.2.2.1]; exact k_in2 G Is2 (by first | exact ⟨p0.1, p0.2⟩ | omega) (by first | exact ⟨by decide, by decide⟩ | omega) (by first | exact ⟨by decide, by decide⟩ | omega)) ⟨by rw [E.2.2.2]; exact (show (rmN 188).frames + 1 ≤ (rmN 242).frames by decide), by rw [E.2.2.2]; exact (show 8 + (mNL (miB 188) + 11) + (rmN 188).locals ≤ (rmN 242).locals by decide), by rw [E.2.2.2]; exact (show 0 + (rmN 188).cells ≤ (rmN 242).cells by decide), by rw [E.2.2.2]; exact (show 0 + (rmN 188).slots ≤ (rmN 242).slots by decide)⟩ (Nat.le_of_ble_eq_true rfl) (fun vv s3 hq => ?_) (fun ee s3 hq => ?_)))))
  rotate_left
  · obtain ⟨rfl, e4, hv, hrs3, hps3⟩ := hq; cases hv
  obtain ⟨rfl, e4, hv, hrs3, hps3⟩ := hq
  cases hv
  show WS k 13 [(0, .ref (A 179)), (1, .int (Int32.ofInt x)), (2, .int (Int32.ofInt y))] [.int (Int32.ofInt e4), .ref (A 179)] (Wd A dT s2) 0 0
  refine z_if_ne X (t := 20) rfl rfl hrs3 (fun g5 => ?_) (fun g5 => ?_)
  ·
    refine z_const X rfl (z_const X rfl (zcV_i0 X E 179 (As := [.int (Int32.ofInt 0), .int (Int32.ofInt 1)]) (st := []) rfl rfl rfl rfl (k_bad2 G Is2 (by first | exact Or.inl (by decide) | omega) (by first | exact ⟨by decide, by decide⟩ | omega)) rfl (Nat.le_of_ble_eq_true rfl) (fun s6 e7 Is6 Fs6 hrs6 hps6 => ?_)))
    have Gs6 := fm_tq Fs2 Fs6 rfl rfl
    have b8 := bi_73 Is6
    refine z_if_eq X (t := 30) rfl rfl hrs6 (fun g9 => ?_) (fun g9 => ?_)
    ·
      refine z_aload_n X (x := A 179) rfl (List.Mem.head _) (z_load_n X (x := x) rfl (List.Mem.tail _ (List.Mem.head _)) (zcV_i0 X E 179 (As := [.int (Int32.ofInt x)]) (st := []) rfl rfl rfl rfl (k_isWhole6 G Is6 (by first | exact ⟨p0.1, p0.2⟩ | omega)) rfl (Nat.le_of_ble_eq_true rfl) (fun s10 e11 Is10 Fs10 hrs10 hps10 => ?_)))
      have hps10p := And.intro hps10.2.1 (hps10.2.2)
      have Gs10 := fm_tq Gs6 Fs10 rfl rfl
      have ws10_73 : iI s10 73 = iI s6 73 := fm_iq Fs10 rfl
      have hP0 : pfM s6 = pfM s := funext (fun j => fm_c Gs6 (by decide))
      have hHg : HGE (pcS (pfM s) x) e11 := by rw [← hP0]; exact hps10.2.1
      have hHp := hge_p hHg
      have hI0 : inS s10 = (pcS (pfM s) x) := by rw [← hP0]; exact hps10.2.2
      refine z_if_ne X (t := 40) rfl rfl hrs10 (fun g12 => ?_) (fun g12 => ?_)
      ·
        have hG : HngT (pcS (pfM s) x) := hHp.1 (by first | (clear g12 hps10 hps6 g5 hps3; omega) | (clear hps10 hps6 g5 hps3; omega) | omega)
        refine z_const X rfl (z_store_n X (lv' := [(3, .int (Int32.ofInt 0)), (0, .ref (A 179)), (1, .int (Int32.ofInt x)), (2, .int (Int32.ofInt y))]) rfl (by decide) (fun _ h => h) (z_const X rfl (z_store X (lv' := [(4, .int (Int32.ofInt 0)), (3, .int (Int32.ofInt 0)), (0, .ref (A 179)), (1, .int (Int32.ofInt x)), (2, .int (Int32.ofInt y))]) rfl (by decide) (fun _ h => h) (WS_pq [2, 3, 4, 1, 0] (lv' := [(0, .ref (A 179)), (1, .int (Int32.ofInt x)), (2, .int (Int32.ofInt y)), (3, .int (Int32.ofInt 0)), (4, .int (Int32.ofInt 0))]) rfl (L45 ((128 - 0 : Int).toNat + 1) s10 x y 0 0 Is10 Gs10 ⟨nkq_0, hG, hI0⟩ (by first | exact ⟨oq_0a4b82e1 g5 hps3, And.intro (by decide) (by decide), by decide, oq_48a52f1b ws10_73 b8.1 hps6 vs2⟩ | omega) (Nat.lt_succ_self _) ?_)))))
        intro s13 x14 x15 Is13 Fs13 Qs13 hs13
        have b16 := bi_73 Is13
        refine z_const X rfl ?_
        exact w_iret X.1 q hRt rfl (ax_d X (show cdA 242 122 = some (.ireturn, 1, 0, 0, 0) from rfl)) (Nat.zero_le _) (Nat.zero_le _) ⟨_, rfl, Is13, Fs13, (-1), rfl, (by decide), Or.inl ⟨by first | exact ⟨hs13.1.1, hs13.1.2⟩ | omega, by first | exact hs13.2.2 | omega, nke_e Qs13.1 (by first | (clear g12 hps10 hps6 g5 hps3; omega) | (clear hps10 hps6 g5 hps3; omega) | omega) Qs13.2.1⟩⟩
      ·
        refine z_const X rfl ?_
        exact w_iret X.1 q hRt rfl (ax_d X (show cdA 242 39 = some (.ireturn, 1, 0, 0, 0) from rfl)) (Nat.zero_le _) (Nat.zero_le _) ⟨_, rfl, Is10, Gs10, (-1), rfl, (by decide), Or.inl ⟨by first | exact ⟨oq_28d92795 g5 hps3, oq_ca823699 g5 hps3⟩ | omega, by first | exact oq_48a52f1b ws10_73 b8.1 hps6 vs2 | omega, Or.inl ⟨hHp.2 (by first | (clear hps10 hps6 g5 hps3; omega) | (clear hps6 g5 hps3; omega) | omega), rfl⟩⟩⟩
    ·
      refine z_const X rfl ?_
      exact w_iret X.1 q hRt rfl (ax_d X (show cdA 242 29 = some (.ireturn, 1, 0, 0, 0) from rfl)) (Nat.zero_le _) (Nat.zero_le _) ⟨_, rfl, Is6, Gs6, 0, rfl, (by decide), Or.inr ⟨by first | exact oq_14bb5fe5 g9 hps6 vs2 | omega, by first | exact oq_df0d149a g9 hps6 vs2 | omega⟩⟩
  ·
    refine z_const X rfl (z_goto X (t := 21) rfl rfl (z_const X rfl (zcV_i0 X E 179 (As := [.int (Int32.ofInt 1), .int (Int32.ofInt 1)]) (st := []) rfl rfl rfl rfl (k_bad2 G Is2 (by first | exact Or.inr (by decide) | omega) (by first | exact ⟨by decide, by decide⟩ | omega)) rfl (Nat.le_of_ble_eq_true rfl) (fun s17 e18 Is17 Fs17 hrs17 hps17 => ?_))))
    have Gs17 := fm_tq Fs2 Fs17 rfl rfl
    have b19 := bi_73 Is17
    refine z_if_eq X (t := 30) rfl rfl hrs17 (fun g20 => ?_) (fun g20 => ?_)
    ·
      refine z_aload_n X (x := A 179) rfl (List.Mem.head _) (z_load_n X (x := x) rfl (List.Mem.tail _ (List.Mem.head _)) (zcV_i0 X E 179 (As := [.int (Int32.ofInt x)]) (st := []) rfl rfl rfl rfl (k_isWhole6 G Is17 (by first | exact ⟨p0.1, p0.2⟩ | omega)) rfl (Nat.le_of_ble_eq_true rfl) (fun s21 e22 Is21 Fs21 hrs21 hps21 => ?_)))
      have hps21p := And.intro hps21.2.1 (hps21.2.2)
      have Gs21 := fm_tq Gs17 Fs21 rfl rfl
      have ws21_73 : iI s21 73 = iI s17 73 := fm_iq Fs21 rfl
      have hP0 : pfM s17 = pfM s := funext (fun j => fm_c Gs17 (by decide))
      have hHg : HGE (pcS (pfM s) x) e22 := by rw [← hP0]; exact hps21.2.1
      have hHp := hge_p hHg
      have hI0 : inS s21 = (pcS (pfM s) x) := by rw [← hP0]; exact hps21.2.2
      refine z_if_ne X (t := 40) rfl rfl hrs21 (fun g23 => ?_) (fun g23 => ?_)
      ·
        have hG : HngT (pcS (pfM s) x) := hHp.1 (by first | (clear g23 hps21 hps17 hps3; omega) | (clear hps21 hps17 hps3; omega) | omega)
        refine z_const X rfl (z_store_n X (lv' := [(3, .int (Int32.ofInt 0)), (0, .ref (A 179)), (1, .int (Int32.ofInt x)), (2, .int (Int32.ofInt y))]) rfl (by decide) (fun _ h => h) (z_const X rfl (z_store X (lv' := [(4, .int (Int32.ofInt 0)), (3, .int (Int32.ofInt 0)), (0, .ref (A 179)), (1, .int (Int32.ofInt x)), (2, .int (Int32.ofInt y))]) rfl (by decide) (fun _ h => h) (WS_pq [2, 3, 4, 1, 0] (lv' := [(0, .ref (A 179)), (1, .int (Int32.ofInt x)), (2, .int (Int32.ofInt y)), (3, .int (Int32.ofInt 0)), (4, .int (Int32.ofInt 0))]) rfl (L45 ((128 - 0 : Int).toNat + 1) s21 x y 0 0 Is21 Gs21 ⟨nkq_0, hG, hI0⟩ (by first | exact ⟨oq_7b0d8954 g20 hps17 vs2, And.intro (by decide) (by decide), by decide, oq_8c407924 ws21_73 g20 b19.1 hps17 vs2⟩ | omega) (Nat.lt_succ_self _) ?_)))))
        intro s24 x25 x26 Is24 Fs24 Qs24 hs24
        have b27 := bi_73 Is24
        refine z_const X rfl ?_
        exact w_iret X.1 q hRt rfl (ax_d X (show cdA 242 122 = some (.ireturn, 1, 0, 0, 0) from rfl)) (Nat.zero_le _) (Nat.zero_le _) ⟨_, rfl, Is24, Fs24, (-1), rfl, (by decide), Or.inl ⟨by first | exact ⟨hs24.1.1, hs24.1.2⟩ | omega, by first | exact hs24.2.2 | omega, nke_e Qs24.1 (by first | (clear g23 hps21 hps17 hps3; omega) | (clear hps21 hps17 hps3; omega) | omega) Qs24.2.1⟩⟩
      ·
        refine z_const X rfl ?_
        exact w_iret X.1 q hRt rfl (ax_d X (show cdA 242 39 = some (.ireturn, 1, 0, 0, 0) from rfl)) (Nat.zero_le _) (Nat.zero_le _) ⟨_, rfl, Is21, Gs21, (-1), rfl, (by decide), Or.inl ⟨by first | exact ⟨oq_674898f9 g20 hps17 vs2, oq_7d7a532a g20 hps17 vs2⟩ | omega, by first | exact oq_8c407924 ws21_73 g20 b19.1 hps17 vs2 | omega, Or.inl ⟨hHp.2 (by first | (clear hps21 hps17 hps3; omega) | (clear hps17 hps3; omega) | omega), rfl⟩⟩⟩
    ·
      refine z_const X rfl ?_
      exact w_iret X.1 q hRt rfl (ax_d X (show cdA 242 29 = some (.ireturn, 1, 0, 0, 0) from rfl)) (Nat.zero_le _) (Nat.zero_le _) ⟨_, rfl, Is17, Gs17, 0, rfl, (by decide), Or.inr ⟨by first | exact oq_2c2fe168 g5 hps3 | omega, by first | exact oq_faabd673 g20 hps17 vs2 | omega⟩⟩
end M87ke
