/-! The model: how a plan is told -/
/-- what the arithmetic need not look at -/
def Hid (p : Prop) : Prop := p
theorem WE_use {P : Int → Int → Int} {B : Int → Int} {C : Int} {t : PS} {q c j : Nat} (w : WE P B C t q c j) (h : tb t q c j ≠ -1) (hq : q < 23) : -1 ≤ tb t q c j ∧ tb t q c j ≤ 1000 * (24 - (q : Int)) ∧ 0 ≤ P q c ∧ 0 ≤ tb t q c j - 100 * P q c ∧ Hid (tb t (q + 1) c j = tb t q c j - 100 * P q c ∨ ∃ d : Nat, d ≠ c ∧ d < 6 ∧ (d : Int) < C ∧ 1 ≤ j ∧ B ((q : Int) + 1) = 0 ∧ tb t (q + 1) d (j - 1) ≠ -1 ∧ tb t (q + 1) d (j - 1) + 1 = tb t q c j - 100 * P q c) := ⟨w.1, w.2.1, (w.2.2 h).1, (w.2.2 h).2.1, (w.2.2 h).2.2 hq⟩
section M51
variable {l : Launch} {s0 : State} {D : va_G} {tys : List (ClassId × FieldType)} {a0 : Array Value} {A : Nat → Nat} {dT : Nat → ClassId} {s : PS}
theorem k_tells (G : GX l s0 D tys a0 dT) {g : PS} {gq : Int → PS} {Pq : Int → Int → Int} {Bq : Int → Int} (hA : HAs l s0 D A dT g gq) (hP : HPr l s0 D A dT g gq Pq) (hB : HBu l s0 D A dT g Bq) (I : Bd s) (jAG0 : AG0 g s) {x : Int} (p0 : 0 ≤ x ∧ x ≤ 23) (p1 : TBs Pq Bq (iI s 99) x s) : CT l s0 D A dT 271 (rmN 271) [.ref (A 179), .int (Int32.ofInt x)] s (fun o t => Bd t ∧ Fm [77, 75, 78, 79, 80, 81, 89] [161, 230, 202, 204, 205, 206, 207, 208, 209, 210, 211, 212, 213, 214, 215, 216, 217, 218, 219, 220, 221, 222, 223, 224, 225, 226, 227, 203, 395, 396] s t ∧ AG0 g t ∧ ∃ e, o = .inl (some (.int (Int32.ofInt e))) ∧ rng e ∧ (e = 0 ∨ e = 1)) := by
  refine ct_of G (by decide) (Nat.le_of_ble_eq_true rfl) (fun k X E hRt hXt q => ?_)
  show WS k 0 [(0, .ref (A 179)), (1, .int (Int32.ofInt x))] [] _ 0 0
  have F : Fm [77, 75, 78, 79, 80, 81, 89] [161, 230, 202, 204, 205, 206, 207, 208, 209, 210, 211, 212, 213, 214, 215, 216, 217, 218, 219, 220, 221, 222, 223, 224, 225, 226, 227, 203, 395, 396] s s := fm_rf _ _ s
  have L7 : ∀ (n : Nat) (t : PS) (xv be lf c : Int), Bd t → Fm [77, 75, 78, 79, 80, 81, 89] [161, 230, 202, 204, 205, 206, 207, 208, 209, 210, 211, 212, 213, 214, 215, 216, 217, 218, 219, 220, 221, 222, 223, 224, 225, 226, 227, 203, 395, 396] s t → AG0 g t → ((0 ≤ xv ∧ xv ≤ 23) ∧ 0 ≤ c ∧ c ≤ 6 ∧ (be = -1 ∨ (0 ≤ be ∧ be ≤ 5 ∧ be < iI s 99 ∧ iC s (245 + 6 * (0 : Int).toNat + (be : Int).toNat) (xv : Int).toNat ≠ -1))) → (6 - c : Int).toNat < n → (∀ (t' : PS) (be' c' : Int), Bd t' → Fm [77, 75, 78, 79, 80, 81, 89] [161, 230, 202, 204, 205, 206, 207, 208, 209, 210, 211, 212, 213, 214, 215, 216, 217, 218, 219, 220, 221, 222, 223, 224, 225, 226, 227, 203, 395, 396] s t' → AG0 g t' → ((0 ≤ xv ∧ xv ≤ 23) ∧ 0 ≤ c' ∧ c' ≤ 6 ∧ (be' = -1 ∨ (0 ≤ be' ∧ be' ≤ 5 ∧ be' < iI s 99 ∧ iC s (245 + 6 * (0 : Int).toNat + (be' : Int).toNat) (xv : Int).toNat ≠ -1))) → WS k 69 [(0, .ref (A 179)), (1, .int (Int32.ofInt xv)), (2, .int (Int32.ofInt be')), (3, .int (Int32.ofInt lf)), (4, .int (Int32.ofInt c'))] [] (Wd A dT t') 0 0) → WS k 7 [(0, .ref (A 179)), (1, .int (Int32.ofInt xv)), (2, .int (Int32.ofInt be)), (3, .int (Int32.ofInt lf)), (4, .int (Int32.ofInt c))] [] (Wd A dT t) 0 0 := by
    intro n
    induction n with
    | zero =>
      intro t xv be lf c I F jjAG0 hi hm kx
      exact absurd hm (Nat.not_lt_zero _)
    | succ n ih =>
      intro t xv be lf c I F jjAG0 hi hm kx
      refine z_load X (x := c) (show cdA 271 7 = some (.iload 4, 2, 0, 0, 0) from rfl) (List.Mem.tail _ (List.Mem.tail _ (List.Mem.tail _ (List.Mem.tail _ (List.Mem.head _))))) ?_
      refine z_aload_n X (x := A 179) (show cdA 271 9 = some (.aload_n 0, 1, 0, 0, 0) from rfl) (List.Mem.head _) ?_
      refine z_getI X 179 (show cdA 271 10 = some (.getfield 404, 3, 12, 48, 0) from rfl) (by decide) rfl rfl ?_
      have b1001 : (0 : Int) ≤ iI t 99 ∧ iI t 99 ≤ 6 := I.1 99
      have q1002 : iI t 99 = iI s 99 := fm_i F (by decide)
      refine z_icmp_ge X (t := 69) (show cdA 271 13 = some (.if_icmp .ge 56, 3, 3, 0, 0) from rfl) (by decide) ⟨by omega, by omega⟩ (rng_to _) (fun g1003 => ?_) (fun g1003 => ?_)
      ·
        refine WS_lv (lv := [(0, .ref (A 179)), (1, .int (Int32.ofInt xv)), (2, .int (Int32.ofInt be)), (3, .int (Int32.ofInt lf)), (4, .int (Int32.ofInt c))]) (List.forall_mem_cons.mpr ⟨(List.Mem.head _), (List.forall_mem_cons.mpr ⟨(List.Mem.tail _ (List.Mem.head _)), (List.forall_mem_cons.mpr ⟨(List.Mem.tail _ (List.Mem.tail _ (List.Mem.head _))), (List.forall_mem_cons.mpr ⟨(List.Mem.tail _ (List.Mem.tail _ (List.Mem.tail _ (List.Mem.head _)))), (List.forall_mem_cons.mpr ⟨(List.Mem.tail _ (List.Mem.tail _ (List.Mem.tail _ (List.Mem.tail _ (List.Mem.head _))))), (fun q h => absurd h List.not_mem_nil)⟩)⟩)⟩)⟩)⟩) ?_
        exact kx _ be c I F jjAG0 (by omega)
      ·
        refine z_aload_n X (x := A 179) (show cdA 271 16 = some (.aload_n 0, 1, 0, 0, 0) from rfl) (List.Mem.head _) ?_
        refine s_getR X 179 (show cdA 271 17 = some (.getfield 118, 3, 12, 59, 0) from rfl) (by decide) rfl rfl ?_
        refine z_const X (show cdA 271 20 = some (.iconst 0, 1, 0, 0, 0) from rfl) ?_
        refine z_a3 X (show cdA 271 21 = some (.aaload, 1, 0, 0, 0) from rfl) (by omega) (show 0 < 25 by omega) ?_
        refine z_load X (x := c) (show cdA 271 22 = some (.iload 4, 2, 0, 0, 0) from rfl) (List.Mem.tail _ (List.Mem.tail _ (List.Mem.tail _ (List.Mem.tail _ (List.Mem.head _))))) ?_
        refine z_aald X (cu_rw _ (show (0 : Int).toNat < 25 by omega)) (show cdA 271 24 = some (.aaload, 1, 0, 0, 0) from rfl) (by omega) (show c < 6 by omega) (by decide) ?_
        refine z_load_n X (x := xv) (show cdA 271 25 = some (.iload_n 1, 1, 0, 0, 0) from rfl) (List.Mem.tail _ (List.Mem.head _)) ?_
        refine z_ald2 X (cu_rw _ (show (0 : Int).toNat < 25 by omega)) (show cdA 271 26 = some (.iaload, 1, 0, 0, 0) from rfl) (show (c : Int).toNat < 6 by omega) (by omega) (show xv < 24 by omega) (by decide) ?_
        have b1004 : rng (iC t (245 + 6 * (0 : Int).toNat + (c : Int).toNat) (xv : Int).toNat) := rng_to _
        have q1005 : iC t (245 + 6 * (0 : Int).toNat + (c : Int).toNat) (xv : Int).toNat = iC s (245 + 6 * (0 : Int).toNat + (c : Int).toNat) (xv : Int).toNat := fm_c F (cu_nm (by decide +kernel) (show (0 : Int).toNat < 25 by omega) (show (c : Int).toNat < 6 by omega))
        refine z_const X (show cdA 271 27 = some (.iconst (-1), 1, 0, 0, 0) from rfl) ?_
        refine z_icmp_eq X (t := 63) (show cdA 271 28 = some (.if_icmp .eq 35, 3, 0, 0, 0) from rfl) (by decide) (rng_to _) (by decide) (fun g1006 => ?_) (fun g1006 => ?_)
        ·
          refine z_inc X (x := c) (lv' := [(4, .int (Int32.ofInt (c + 1))), (0, .ref (A 179)), (1, .int (Int32.ofInt xv)), (2, .int (Int32.ofInt be)), (3, .int (Int32.ofInt lf))]) (show cdA 271 63 = some (.iinc 4 1, 3, 0, 0, 0) from rfl) (by decide) (List.Mem.tail _ (List.Mem.tail _ (List.Mem.tail _ (List.Mem.tail _ (List.Mem.head _))))) (fun _ h => h) ?_
          refine z_goto X (t := 7) (show cdA 271 66 = some (.goto (-59), 3, 0, 0, 0) from rfl) (by decide) ?_
          refine WS_lv (lv := [(0, .ref (A 179)), (1, .int (Int32.ofInt xv)), (2, .int (Int32.ofInt be)), (3, .int (Int32.ofInt lf)), (4, .int (Int32.ofInt (c + 1)))]) (List.forall_mem_cons.mpr ⟨(List.Mem.tail _ (List.Mem.head _)), (List.forall_mem_cons.mpr ⟨(List.Mem.tail _ (List.Mem.tail _ (List.Mem.head _))), (List.forall_mem_cons.mpr ⟨(List.Mem.tail _ (List.Mem.tail _ (List.Mem.tail _ (List.Mem.head _)))), (List.forall_mem_cons.mpr ⟨(List.Mem.tail _ (List.Mem.tail _ (List.Mem.tail _ (List.Mem.tail _ (List.Mem.head _))))), (List.forall_mem_cons.mpr ⟨(List.Mem.head _), (fun q h => absurd h List.not_mem_nil)⟩)⟩)⟩)⟩)⟩) ?_
          exact ih _ xv be lf (c + 1) I F jjAG0 (by omega) (by omega) kx
        ·
          refine z_load_n X (x := be) (show cdA 271 31 = some (.iload_n 2, 1, 0, 0, 0) from rfl) (List.Mem.tail _ (List.Mem.tail _ (List.Mem.head _))) ?_
          refine z_const X (show cdA 271 32 = some (.iconst (-1), 1, 0, 0, 0) from rfl) ?_
          refine z_icmp_eq X (t := 60) (show cdA 271 33 = some (.if_icmp .eq 27, 3, 0, 0, 0) from rfl) (by decide) ⟨by first | (clear g1006; omega) | omega, by first | (clear g1006; omega) | omega⟩ (by decide) (fun g1007 => ?_) (fun g1007 => ?_)
          ·
            refine z_load X (x := c) (show cdA 271 60 = some (.iload 4, 2, 0, 0, 0) from rfl) (List.Mem.tail _ (List.Mem.tail _ (List.Mem.tail _ (List.Mem.tail _ (List.Mem.head _))))) ?_
            refine z_store_n X (lv' := [(2, .int (Int32.ofInt c)), (0, .ref (A 179)), (1, .int (Int32.ofInt xv)), (3, .int (Int32.ofInt lf)), (4, .int (Int32.ofInt c))]) (show cdA 271 62 = some (.istore_n 2, 1, 0, 0, 0) from rfl) (by decide) (fun _ h => h) ?_
            refine z_inc X (x := c) (lv' := [(4, .int (Int32.ofInt (c + 1))), (2, .int (Int32.ofInt c)), (0, .ref (A 179)), (1, .int (Int32.ofInt xv)), (3, .int (Int32.ofInt lf))]) (show cdA 271 63 = some (.iinc 4 1, 3, 0, 0, 0) from rfl) (by decide) (List.Mem.tail _ (List.Mem.tail _ (List.Mem.tail _ (List.Mem.tail _ (List.Mem.head _))))) (fun _ h => h) ?_
            refine z_goto X (t := 7) (show cdA 271 66 = some (.goto (-59), 3, 0, 0, 0) from rfl) (by decide) ?_
            refine WS_lv (lv := [(0, .ref (A 179)), (1, .int (Int32.ofInt xv)), (2, .int (Int32.ofInt c)), (3, .int (Int32.ofInt lf)), (4, .int (Int32.ofInt (c + 1)))]) (List.forall_mem_cons.mpr ⟨(List.Mem.tail _ (List.Mem.tail _ (List.Mem.head _))), (List.forall_mem_cons.mpr ⟨(List.Mem.tail _ (List.Mem.tail _ (List.Mem.tail _ (List.Mem.head _)))), (List.forall_mem_cons.mpr ⟨(List.Mem.tail _ (List.Mem.head _)), (List.forall_mem_cons.mpr ⟨(List.Mem.tail _ (List.Mem.tail _ (List.Mem.tail _ (List.Mem.tail _ (List.Mem.head _))))), (List.forall_mem_cons.mpr ⟨(List.Mem.head _), (fun q h => absurd h List.not_mem_nil)⟩)⟩)⟩)⟩)⟩) ?_
            exact ih _ xv c lf (c + 1) I F jjAG0 (by first | (clear g1006; omega) | omega) (by first | (clear g1006; omega) | omega) kx
          ·
            refine z_aload_n X (x := A 179) (show cdA 271 36 = some (.aload_n 0, 1, 0, 0, 0) from rfl) (List.Mem.head _) ?_
            refine s_getR X 179 (show cdA 271 37 = some (.getfield 118, 3, 12, 59, 0) from rfl) (by decide) rfl rfl ?_
            refine z_const X (show cdA 271 40 = some (.iconst 0, 1, 0, 0, 0) from rfl) ?_
            refine z_a3 X (show cdA 271 41 = some (.aaload, 1, 0, 0, 0) from rfl) (by first | (clear g1007 g1006; omega) | (clear g1006; omega) | omega) (show 0 < 25 by first | (clear g1007 g1006; omega) | (clear g1006; omega) | omega) ?_
            refine z_load X (x := c) (show cdA 271 42 = some (.iload 4, 2, 0, 0, 0) from rfl) (List.Mem.tail _ (List.Mem.tail _ (List.Mem.tail _ (List.Mem.tail _ (List.Mem.head _))))) ?_
            refine z_aald X (cu_rw _ (show (0 : Int).toNat < 25 by first | (clear g1007 g1006; omega) | (clear g1006; omega) | omega)) (show cdA 271 44 = some (.aaload, 1, 0, 0, 0) from rfl) (by first | (clear g1007 g1006; omega) | (clear g1006; omega) | omega) (show c < 6 by first | (clear g1007 g1006; omega) | (clear g1006; omega) | omega) (by decide) ?_
            refine z_load_n X (x := xv) (show cdA 271 45 = some (.iload_n 1, 1, 0, 0, 0) from rfl) (List.Mem.tail _ (List.Mem.head _)) ?_
            refine z_ald2 X (cu_rw _ (show (0 : Int).toNat < 25 by first | (clear g1007 g1006; omega) | (clear g1006; omega) | omega)) (show cdA 271 46 = some (.iaload, 1, 0, 0, 0) from rfl) (show (c : Int).toNat < 6 by first | (clear g1007 g1006; omega) | (clear g1006; omega) | omega) (by first | (clear g1007 g1006; omega) | (clear g1006; omega) | omega) (show xv < 24 by first | (clear g1007 g1006; omega) | (clear g1006; omega) | omega) (by decide) ?_
            have b1008 : rng (iC t (245 + 6 * (0 : Int).toNat + (c : Int).toNat) (xv : Int).toNat) := rng_to _
            have q1009 : iC t (245 + 6 * (0 : Int).toNat + (c : Int).toNat) (xv : Int).toNat = iC s (245 + 6 * (0 : Int).toNat + (c : Int).toNat) (xv : Int).toNat := fm_c F (cu_nm (by decide +kernel) (show (0 : Int).toNat < 25 by first | (clear g1007 g1006; omega) | (clear g1006; omega) | omega) (show (c : Int).toNat < 6 by first | (clear g1007 g1006; omega) | (clear g1006; omega) | omega))
            refine z_aload_n X (x := A 179) (show cdA 271 47 = some (.aload_n 0, 1, 0, 0, 0) from rfl) (List.Mem.head _) ?_
            refine s_getR X 179 (show cdA 271 48 = some (.getfield 118, 3, 12, 59, 0) from rfl) (by decide) rfl rfl ?_
            refine z_const X (show cdA 271 51 = some (.iconst 0, 1, 0, 0, 0) from rfl) ?_
            refine z_a3 X (show cdA 271 52 = some (.aaload, 1, 0, 0, 0) from rfl) (by first | (clear g1007 g1006; omega) | (clear g1006; omega) | omega) (show 0 < 25 by first | (clear g1007 g1006; omega) | (clear g1006; omega) | omega) ?_
            refine z_load_n X (x := be) (show cdA 271 53 = some (.iload_n 2, 1, 0, 0, 0) from rfl) (List.Mem.tail _ (List.Mem.tail _ (List.Mem.head _))) ?_
            refine z_aald X (cu_rw _ (show (0 : Int).toNat < 25 by first | (clear g1007 g1006; omega) | (clear g1006; omega) | omega)) (show cdA 271 54 = some (.aaload, 1, 0, 0, 0) from rfl) (by first | (clear g1007 g1006; omega) | (clear g1006; omega) | omega) (show be < 6 by first | (clear g1007 g1006; omega) | (clear g1006; omega) | omega) (by decide) ?_
            refine z_load_n X (x := xv) (show cdA 271 55 = some (.iload_n 1, 1, 0, 0, 0) from rfl) (List.Mem.tail _ (List.Mem.head _)) ?_
            refine z_ald2 X (cu_rw _ (show (0 : Int).toNat < 25 by first | (clear g1007 g1006; omega) | (clear g1006; omega) | omega)) (show cdA 271 56 = some (.iaload, 1, 0, 0, 0) from rfl) (show (be : Int).toNat < 6 by first | (clear g1007 g1006; omega) | (clear g1006; omega) | omega) (by first | (clear g1007 g1006; omega) | (clear g1006; omega) | omega) (show xv < 24 by first | (clear g1007 g1006; omega) | (clear g1006; omega) | omega) (by decide) ?_
            have b1010 : rng (iC t (245 + 6 * (0 : Int).toNat + (be : Int).toNat) (xv : Int).toNat) := rng_to _
            have q1011 : iC t (245 + 6 * (0 : Int).toNat + (be : Int).toNat) (xv : Int).toNat = iC s (245 + 6 * (0 : Int).toNat + (be : Int).toNat) (xv : Int).toNat := fm_c F (cu_nm (by decide +kernel) (show (0 : Int).toNat < 25 by first | (clear g1007 g1006; omega) | (clear g1006; omega) | omega) (show (be : Int).toNat < 6 by first | (clear g1007 g1006; omega) | (clear g1006; omega) | omega))
            refine z_icmp_ge X (t := 63) (show cdA 271 57 = some (.if_icmp .ge 6, 3, 3, 0, 0) from rfl) (by decide) (rng_to _) (rng_to _) (fun g1012 => ?_) (fun g1012 => ?_)
            ·
              refine z_inc X (x := c) (lv' := [(4, .int (Int32.ofInt (c + 1))), (0, .ref (A 179)), (1, .int (Int32.ofInt xv)), (2, .int (Int32.ofInt be)), (3, .int (Int32.ofInt lf))]) (show cdA 271 63 = some (.iinc 4 1, 3, 0, 0, 0) from rfl) (by decide) (List.Mem.tail _ (List.Mem.tail _ (List.Mem.tail _ (List.Mem.tail _ (List.Mem.head _))))) (fun _ h => h) ?_
              refine z_goto X (t := 7) (show cdA 271 66 = some (.goto (-59), 3, 0, 0, 0) from rfl) (by decide) ?_
              refine WS_lv (lv := [(0, .ref (A 179)), (1, .int (Int32.ofInt xv)), (2, .int (Int32.ofInt be)), (3, .int (Int32.ofInt lf)), (4, .int (Int32.ofInt (c + 1)))]) (List.forall_mem_cons.mpr ⟨(List.Mem.tail _ (List.Mem.head _)), (List.forall_mem_cons.mpr ⟨(List.Mem.tail _ (List.Mem.tail _ (List.Mem.head _))), (List.forall_mem_cons.mpr ⟨(List.Mem.tail _ (List.Mem.tail _ (List.Mem.tail _ (List.Mem.head _)))), (List.forall_mem_cons.mpr ⟨(List.Mem.tail _ (List.Mem.tail _ (List.Mem.tail _ (List.Mem.tail _ (List.Mem.head _))))), (List.forall_mem_cons.mpr ⟨(List.Mem.head _), (fun q h => absurd h List.not_mem_nil)⟩)⟩)⟩)⟩)⟩) ?_
              exact ih _ xv be lf (c + 1) I F jjAG0 (by first | (clear g1007 g1006; omega) | (clear g1006; omega) | omega) (by first | (clear g1007 g1006; omega) | (clear g1006; omega) | omega) kx
            ·
              refine z_load X (x := c) (show cdA 271 60 = some (.iload 4, 2, 0, 0, 0) from rfl) (List.Mem.tail _ (List.Mem.tail _ (List.Mem.tail _ (List.Mem.tail _ (List.Mem.head _))))) ?_
              refine z_store_n X (lv' := [(2, .int (Int32.ofInt c)), (0, .ref (A 179)), (1, .int (Int32.ofInt xv)), (3, .int (Int32.ofInt lf)), (4, .int (Int32.ofInt c))]) (show cdA 271 62 = some (.istore_n 2, 1, 0, 0, 0) from rfl) (by decide) (fun _ h => h) ?_
              refine z_inc X (x := c) (lv' := [(4, .int (Int32.ofInt (c + 1))), (2, .int (Int32.ofInt c)), (0, .ref (A 179)), (1, .int (Int32.ofInt xv)), (3, .int (Int32.ofInt lf))]) (show cdA 271 63 = some (.iinc 4 1, 3, 0, 0, 0) from rfl) (by decide) (List.Mem.tail _ (List.Mem.tail _ (List.Mem.tail _ (List.Mem.tail _ (List.Mem.head _))))) (fun _ h => h) ?_
              refine z_goto X (t := 7) (show cdA 271 66 = some (.goto (-59), 3, 0, 0, 0) from rfl) (by decide) ?_
              refine WS_lv (lv := [(0, .ref (A 179)), (1, .int (Int32.ofInt xv)), (2, .int (Int32.ofInt c)), (3, .int (Int32.ofInt lf)), (4, .int (Int32.ofInt (c + 1)))]) (List.forall_mem_cons.mpr ⟨(List.Mem.tail _ (List.Mem.tail _ (List.Mem.head _))), (List.forall_mem_cons.mpr ⟨(List.Mem.tail _ (List.Mem.tail _ (List.Mem.tail _ (List.Mem.head _)))), (List.forall_mem_cons.mpr ⟨(List.Mem.tail _ (List.Mem.head _)), (List.forall_mem_cons.mpr ⟨(List.Mem.tail _ (List.Mem.tail _ (List.Mem.tail _ (List.Mem.tail _ (List.Mem.head _))))), (List.forall_mem_cons.mpr ⟨(List.Mem.head _), (fun q h => absurd h List.not_mem_nil)⟩)⟩)⟩)⟩)⟩) ?_
              exact ih _ xv c lf (c + 1) I F jjAG0 (by first | (clear g1007 g1006; omega) | (clear g1006; omega) | omega) (by first | (clear g1007 g1006; omega) | (clear g1006; omega) | omega) kx
  have L158 : ∀ (n : Nat) (t : PS) (xv be lf qq rr to bz : Int), Bd t → Fm [77, 75, 78, 79, 80, 81, 89] [161, 230, 202, 204, 205, 206, 207, 208, 209, 210, 211, 212, 213, 214, 215, 216, 217, 218, 219, 220, 221, 222, 223, 224, 225, 226, 227, 203, 395, 396] s t → AG0 g t → (Hid (∃ d : Int, to ≤ d ∧ d ≤ 5 ∧ d < iI s 99 ∧ ((d = be ∧ iC s (245 + 6 * ((qq + 1) : Int).toNat + (d : Int).toNat) (lf : Int).toNat = rr) ∨ (d ≠ be ∧ 0 < lf ∧ bz = 0 ∧ iC s (245 + 6 * ((qq + 1) : Int).toNat + (d : Int).toNat) ((lf - 1) : Int).toNat ≠ -1 ∧ iC s (245 + 6 * ((qq + 1) : Int).toNat + (d : Int).toNat) ((lf - 1) : Int).toNat + 1 = rr)))) → (xv = x ∧ (0 ≤ xv ∧ xv ≤ 23) ∧ (0 ≤ be ∧ be ≤ 5) ∧ (0 ≤ lf ∧ lf ≤ xv) ∧ (0 ≤ qq ∧ qq ≤ 22) ∧ (0 ≤ rr ∧ rr ≤ 100000) ∧ 0 ≤ to ∧ to ≤ 6 ∧ (bz = 0 ∨ bz = 1)) → (6 - to : Int).toNat < n → (∀ (t' : PS) (to' : Int), Bd t' → Fm [77, 75, 78, 79, 80, 81, 89] [161, 230, 202, 204, 205, 206, 207, 208, 209, 210, 211, 212, 213, 214, 215, 216, 217, 218, 219, 220, 221, 222, 223, 224, 225, 226, 227, 203, 395, 396] s t' → AG0 g t' → (True) → (0 ≤ to' ∧ to' ≤ 5 ∧ to' < iI s 99 ∧ ((to' = be ∧ iC s (245 + 6 * ((qq + 1) : Int).toNat + (to' : Int).toNat) (lf : Int).toNat = rr) ∨ (to' ≠ be ∧ 0 < lf ∧ iC s (245 + 6 * ((qq + 1) : Int).toNat + (to' : Int).toNat) ((lf - 1) : Int).toNat ≠ -1))) → WS k 244 [(0, .ref (A 179)), (1, .int (Int32.ofInt xv)), (2, .int (Int32.ofInt be)), (3, .int (Int32.ofInt lf)), (4, .int (Int32.ofInt qq)), (5, .int (Int32.ofInt rr)), (6, .int (Int32.ofInt to')), (7, .int (Int32.ofInt bz))] [] (Wd A dT t') 0 0) → WS k 158 [(0, .ref (A 179)), (1, .int (Int32.ofInt xv)), (2, .int (Int32.ofInt be)), (3, .int (Int32.ofInt lf)), (4, .int (Int32.ofInt qq)), (5, .int (Int32.ofInt rr)), (6, .int (Int32.ofInt to)), (7, .int (Int32.ofInt bz))] [] (Wd A dT t) 0 0 := by
    intro n
    induction n with
    | zero =>
      intro t xv be lf qq rr to bz I F jjAG0 hq hi hm kx
      exact absurd hm (Nat.not_lt_zero _)
    | succ n ih =>
      intro t xv be lf qq rr to bz I F jjAG0 hq hi hm kx
      obtain ⟨d, hd1, hd2, hd3, hd4⟩ : ∃ d : Int, to ≤ d ∧ d ≤ 5 ∧ d < iI s 99 ∧ ((d = be ∧ iC s (245 + 6 * ((qq + 1) : Int).toNat + (d : Int).toNat) (lf : Int).toNat = rr) ∨ (d ≠ be ∧ 0 < lf ∧ bz = 0 ∧ iC s (245 + 6 * ((qq + 1) : Int).toNat + (d : Int).toNat) ((lf - 1) : Int).toNat ≠ -1 ∧ iC s (245 + 6 * ((qq + 1) : Int).toNat + (d : Int).toNat) ((lf - 1) : Int).toNat + 1 = rr)) := hq
      refine z_load X (x := to) (show cdA 271 158 = some (.iload 6, 2, 0, 0, 0) from rfl) (List.Mem.tail _ (List.Mem.tail _ (List.Mem.tail _ (List.Mem.tail _ (List.Mem.tail _ (List.Mem.tail _ (List.Mem.head _))))))) ?_
      refine z_load_n X (x := be) (show cdA 271 160 = some (.iload_n 2, 1, 0, 0, 0) from rfl) (List.Mem.tail _ (List.Mem.tail _ (List.Mem.head _))) ?_
      refine z_icmp_ne X (t := 186) (show cdA 271 161 = some (.if_icmp .ne 25, 3, 1, 0, 0) from rfl) (by decide) ⟨by omega, by omega⟩ ⟨by omega, by omega⟩ (fun g2001 => ?_) (fun g2001 => ?_)
      ·
        refine z_load_n X (x := lf) (show cdA 271 186 = some (.iload_n 3, 1, 0, 0, 0) from rfl) (List.Mem.tail _ (List.Mem.tail _ (List.Mem.tail _ (List.Mem.head _)))) ?_
        refine z_if_le X (t := 238) (show cdA 271 187 = some (.ifCond .le 51, 3, 5, 0, 0) from rfl) (by decide) ⟨by first | (clear g2001; omega) | omega, by first | (clear g2001; omega) | omega⟩ (fun g2002 => ?_) (fun g2002 => ?_)
        ·
          refine z_inc X (x := to) (lv' := [(6, .int (Int32.ofInt (to + 1))), (0, .ref (A 179)), (1, .int (Int32.ofInt xv)), (2, .int (Int32.ofInt be)), (3, .int (Int32.ofInt lf)), (4, .int (Int32.ofInt qq)), (5, .int (Int32.ofInt rr)), (7, .int (Int32.ofInt bz))]) (show cdA 271 238 = some (.iinc 6 1, 3, 0, 0, 0) from rfl) (by decide) (List.Mem.tail _ (List.Mem.tail _ (List.Mem.tail _ (List.Mem.tail _ (List.Mem.tail _ (List.Mem.tail _ (List.Mem.head _))))))) (fun _ h => h) ?_
          refine z_goto X (t := 158) (show cdA 271 241 = some (.goto (-83), 3, 0, 0, 0) from rfl) (by decide) ?_
          refine WS_lv (lv := [(0, .ref (A 179)), (1, .int (Int32.ofInt xv)), (2, .int (Int32.ofInt be)), (3, .int (Int32.ofInt lf)), (4, .int (Int32.ofInt qq)), (5, .int (Int32.ofInt rr)), (6, .int (Int32.ofInt (to + 1))), (7, .int (Int32.ofInt bz))]) (List.forall_mem_cons.mpr ⟨(List.Mem.tail _ (List.Mem.head _)), (List.forall_mem_cons.mpr ⟨(List.Mem.tail _ (List.Mem.tail _ (List.Mem.head _))), (List.forall_mem_cons.mpr ⟨(List.Mem.tail _ (List.Mem.tail _ (List.Mem.tail _ (List.Mem.head _)))), (List.forall_mem_cons.mpr ⟨(List.Mem.tail _ (List.Mem.tail _ (List.Mem.tail _ (List.Mem.tail _ (List.Mem.head _))))), (List.forall_mem_cons.mpr ⟨(List.Mem.tail _ (List.Mem.tail _ (List.Mem.tail _ (List.Mem.tail _ (List.Mem.tail _ (List.Mem.head _)))))), (List.forall_mem_cons.mpr ⟨(List.Mem.tail _ (List.Mem.tail _ (List.Mem.tail _ (List.Mem.tail _ (List.Mem.tail _ (List.Mem.tail _ (List.Mem.head _))))))), (List.forall_mem_cons.mpr ⟨(List.Mem.head _), (List.forall_mem_cons.mpr ⟨(List.Mem.tail _ (List.Mem.tail _ (List.Mem.tail _ (List.Mem.tail _ (List.Mem.tail _ (List.Mem.tail _ (List.Mem.tail _ (List.Mem.head _)))))))), (fun q h => absurd h List.not_mem_nil)⟩)⟩)⟩)⟩)⟩)⟩)⟩)⟩) ?_
          have hW2003 : Hid (∃ d : Int, (to + 1) ≤ d ∧ d ≤ 5 ∧ d < iI s 99 ∧ ((d = be ∧ iC s (245 + 6 * ((qq + 1) : Int).toNat + (d : Int).toNat) (lf : Int).toNat = rr) ∨ (d ≠ be ∧ 0 < lf ∧ bz = 0 ∧ iC s (245 + 6 * ((qq + 1) : Int).toNat + (d : Int).toNat) ((lf - 1) : Int).toNat ≠ -1 ∧ iC s (245 + 6 * ((qq + 1) : Int).toNat + (d : Int).toNat) ((lf - 1) : Int).toNat + 1 = rr))) := by
            unfold Hid
            by_cases e : to = d
            · exfalso; subst e; omega
            · exact ⟨d, by first | (clear g2001; omega) | omega, hd2, hd3, hd4⟩
          exact ih _ xv be lf qq rr (to + 1) bz I F jjAG0 hW2003 (by first | (clear g2001; omega) | omega) (by first | (clear g2001; omega) | omega) kx
        ·
          refine z_load X (x := bz) (show cdA 271 190 = some (.iload 7, 2, 0, 0, 0) from rfl) (List.Mem.tail _ (List.Mem.tail _ (List.Mem.tail _ (List.Mem.tail _ (List.Mem.tail _ (List.Mem.tail _ (List.Mem.tail _ (List.Mem.head _)))))))) ?_
          refine z_if_ne X (t := 238) (show cdA 271 192 = some (.ifCond .ne 46, 3, 1, 0, 0) from rfl) (by decide) ⟨by first | (clear g2001; omega) | omega, by first | (clear g2001; omega) | omega⟩ (fun g2004 => ?_) (fun g2004 => ?_)
          ·
            refine z_inc X (x := to) (lv' := [(6, .int (Int32.ofInt (to + 1))), (0, .ref (A 179)), (1, .int (Int32.ofInt xv)), (2, .int (Int32.ofInt be)), (3, .int (Int32.ofInt lf)), (4, .int (Int32.ofInt qq)), (5, .int (Int32.ofInt rr)), (7, .int (Int32.ofInt bz))]) (show cdA 271 238 = some (.iinc 6 1, 3, 0, 0, 0) from rfl) (by decide) (List.Mem.tail _ (List.Mem.tail _ (List.Mem.tail _ (List.Mem.tail _ (List.Mem.tail _ (List.Mem.tail _ (List.Mem.head _))))))) (fun _ h => h) ?_
            refine z_goto X (t := 158) (show cdA 271 241 = some (.goto (-83), 3, 0, 0, 0) from rfl) (by decide) ?_
            refine WS_lv (lv := [(0, .ref (A 179)), (1, .int (Int32.ofInt xv)), (2, .int (Int32.ofInt be)), (3, .int (Int32.ofInt lf)), (4, .int (Int32.ofInt qq)), (5, .int (Int32.ofInt rr)), (6, .int (Int32.ofInt (to + 1))), (7, .int (Int32.ofInt bz))]) (List.forall_mem_cons.mpr ⟨(List.Mem.tail _ (List.Mem.head _)), (List.forall_mem_cons.mpr ⟨(List.Mem.tail _ (List.Mem.tail _ (List.Mem.head _))), (List.forall_mem_cons.mpr ⟨(List.Mem.tail _ (List.Mem.tail _ (List.Mem.tail _ (List.Mem.head _)))), (List.forall_mem_cons.mpr ⟨(List.Mem.tail _ (List.Mem.tail _ (List.Mem.tail _ (List.Mem.tail _ (List.Mem.head _))))), (List.forall_mem_cons.mpr ⟨(List.Mem.tail _ (List.Mem.tail _ (List.Mem.tail _ (List.Mem.tail _ (List.Mem.tail _ (List.Mem.head _)))))), (List.forall_mem_cons.mpr ⟨(List.Mem.tail _ (List.Mem.tail _ (List.Mem.tail _ (List.Mem.tail _ (List.Mem.tail _ (List.Mem.tail _ (List.Mem.head _))))))), (List.forall_mem_cons.mpr ⟨(List.Mem.head _), (List.forall_mem_cons.mpr ⟨(List.Mem.tail _ (List.Mem.tail _ (List.Mem.tail _ (List.Mem.tail _ (List.Mem.tail _ (List.Mem.tail _ (List.Mem.tail _ (List.Mem.head _)))))))), (fun q h => absurd h List.not_mem_nil)⟩)⟩)⟩)⟩)⟩)⟩)⟩)⟩) ?_
            have hW2005 : Hid (∃ d : Int, (to + 1) ≤ d ∧ d ≤ 5 ∧ d < iI s 99 ∧ ((d = be ∧ iC s (245 + 6 * ((qq + 1) : Int).toNat + (d : Int).toNat) (lf : Int).toNat = rr) ∨ (d ≠ be ∧ 0 < lf ∧ bz = 0 ∧ iC s (245 + 6 * ((qq + 1) : Int).toNat + (d : Int).toNat) ((lf - 1) : Int).toNat ≠ -1 ∧ iC s (245 + 6 * ((qq + 1) : Int).toNat + (d : Int).toNat) ((lf - 1) : Int).toNat + 1 = rr))) := by
              unfold Hid
              by_cases e : to = d
              · exfalso; subst e; omega
              · exact ⟨d, by first | (clear g2004 g2001; omega) | (clear g2001; omega) | omega, hd2, hd3, hd4⟩
            exact ih _ xv be lf qq rr (to + 1) bz I F jjAG0 hW2005 (by first | (clear g2004 g2001; omega) | (clear g2001; omega) | omega) (by first | (clear g2004 g2001; omega) | (clear g2001; omega) | omega) kx
          ·
            have w92006 : iC s (245 + 6 * ((qq + 1) : Int).toNat + (to : Int).toNat) ((lf - 1) : Int).toNat ≤ 1000 * (24 - (((qq + 1 : Int).toNat : Nat) : Int)) := (p1 ((qq + 1) : Int).toNat (to : Int).toNat ((lf - 1) : Int).toNat (by first | (clear g2001; omega) | omega) (by first | (clear g2001; omega) | omega) (by first | (clear g2001; omega) | omega) (by first | (clear g2001; omega) | omega) (by first | (clear g2001; omega) | omega) (by first | (clear g2001; omega) | omega)).2.1
            refine z_aload_n X (x := A 179) (show cdA 271 195 = some (.aload_n 0, 1, 0, 0, 0) from rfl) (List.Mem.head _) ?_
            refine s_getR X 179 (show cdA 271 196 = some (.getfield 118, 3, 12, 59, 0) from rfl) (by decide) rfl rfl ?_
            refine z_load X (x := qq) (show cdA 271 199 = some (.iload 4, 2, 0, 0, 0) from rfl) (List.Mem.tail _ (List.Mem.tail _ (List.Mem.tail _ (List.Mem.tail _ (List.Mem.head _))))) ?_
            refine z_const X (show cdA 271 201 = some (.iconst 1, 1, 0, 0, 0) from rfl) ?_
            refine z_add X (show cdA 271 202 = some (.iadd, 1, 0, 0, 0) from rfl) ?_
            refine z_a3 X (show cdA 271 203 = some (.aaload, 1, 0, 0, 0) from rfl) (by first | (clear g2001; omega) | omega) (show (qq + 1) < 25 by first | (clear g2001; omega) | omega) ?_
            refine z_load X (x := to) (show cdA 271 204 = some (.iload 6, 2, 0, 0, 0) from rfl) (List.Mem.tail _ (List.Mem.tail _ (List.Mem.tail _ (List.Mem.tail _ (List.Mem.tail _ (List.Mem.tail _ (List.Mem.head _))))))) ?_
            refine z_aald X (cu_rw _ (show ((qq + 1) : Int).toNat < 25 by first | (clear g2001; omega) | omega)) (show cdA 271 206 = some (.aaload, 1, 0, 0, 0) from rfl) (by first | (clear g2001; omega) | omega) (show to < 6 by first | (clear g2001; omega) | omega) (by decide) ?_
            refine z_load_n X (x := lf) (show cdA 271 207 = some (.iload_n 3, 1, 0, 0, 0) from rfl) (List.Mem.tail _ (List.Mem.tail _ (List.Mem.tail _ (List.Mem.head _)))) ?_
            refine z_const X (show cdA 271 208 = some (.iconst 1, 1, 0, 0, 0) from rfl) ?_
            refine z_sub X (show cdA 271 209 = some (.isub, 1, 0, 0, 0) from rfl) ?_
            refine z_ald2 X (cu_rw _ (show ((qq + 1) : Int).toNat < 25 by first | (clear g2001; omega) | omega)) (show cdA 271 210 = some (.iaload, 1, 0, 0, 0) from rfl) (show (to : Int).toNat < 6 by first | (clear g2001; omega) | omega) (by first | (clear g2001; omega) | omega) (show (lf - 1) < 24 by first | (clear g2001; omega) | omega) (by decide) ?_
            have b2007 : rng (iC t (245 + 6 * ((qq + 1) : Int).toNat + (to : Int).toNat) ((lf - 1) : Int).toNat) := rng_to _
            have q2008 : iC t (245 + 6 * ((qq + 1) : Int).toNat + (to : Int).toNat) ((lf - 1) : Int).toNat = iC s (245 + 6 * ((qq + 1) : Int).toNat + (to : Int).toNat) ((lf - 1) : Int).toNat := fm_c F (cu_nm (by decide +kernel) (show ((qq + 1) : Int).toNat < 25 by first | (clear g2001; omega) | omega) (show (to : Int).toNat < 6 by first | (clear g2001; omega) | omega))
            refine z_const X (show cdA 271 211 = some (.iconst (-1), 1, 0, 0, 0) from rfl) ?_
            refine z_icmp_eq X (t := 238) (show cdA 271 212 = some (.if_icmp .eq 26, 3, 0, 0, 0) from rfl) (by decide) (rng_to _) (by decide) (fun g2009 => ?_) (fun g2009 => ?_)
            ·
              refine z_inc X (x := to) (lv' := [(6, .int (Int32.ofInt (to + 1))), (0, .ref (A 179)), (1, .int (Int32.ofInt xv)), (2, .int (Int32.ofInt be)), (3, .int (Int32.ofInt lf)), (4, .int (Int32.ofInt qq)), (5, .int (Int32.ofInt rr)), (7, .int (Int32.ofInt bz))]) (show cdA 271 238 = some (.iinc 6 1, 3, 0, 0, 0) from rfl) (by decide) (List.Mem.tail _ (List.Mem.tail _ (List.Mem.tail _ (List.Mem.tail _ (List.Mem.tail _ (List.Mem.tail _ (List.Mem.head _))))))) (fun _ h => h) ?_
              refine z_goto X (t := 158) (show cdA 271 241 = some (.goto (-83), 3, 0, 0, 0) from rfl) (by decide) ?_
              refine WS_lv (lv := [(0, .ref (A 179)), (1, .int (Int32.ofInt xv)), (2, .int (Int32.ofInt be)), (3, .int (Int32.ofInt lf)), (4, .int (Int32.ofInt qq)), (5, .int (Int32.ofInt rr)), (6, .int (Int32.ofInt (to + 1))), (7, .int (Int32.ofInt bz))]) (List.forall_mem_cons.mpr ⟨(List.Mem.tail _ (List.Mem.head _)), (List.forall_mem_cons.mpr ⟨(List.Mem.tail _ (List.Mem.tail _ (List.Mem.head _))), (List.forall_mem_cons.mpr ⟨(List.Mem.tail _ (List.Mem.tail _ (List.Mem.tail _ (List.Mem.head _)))), (List.forall_mem_cons.mpr ⟨(List.Mem.tail _ (List.Mem.tail _ (List.Mem.tail _ (List.Mem.tail _ (List.Mem.head _))))), (List.forall_mem_cons.mpr ⟨(List.Mem.tail _ (List.Mem.tail _ (List.Mem.tail _ (List.Mem.tail _ (List.Mem.tail _ (List.Mem.head _)))))), (List.forall_mem_cons.mpr ⟨(List.Mem.tail _ (List.Mem.tail _ (List.Mem.tail _ (List.Mem.tail _ (List.Mem.tail _ (List.Mem.tail _ (List.Mem.head _))))))), (List.forall_mem_cons.mpr ⟨(List.Mem.head _), (List.forall_mem_cons.mpr ⟨(List.Mem.tail _ (List.Mem.tail _ (List.Mem.tail _ (List.Mem.tail _ (List.Mem.tail _ (List.Mem.tail _ (List.Mem.tail _ (List.Mem.head _)))))))), (fun q h => absurd h List.not_mem_nil)⟩)⟩)⟩)⟩)⟩)⟩)⟩)⟩) ?_
              have hW2010 : Hid (∃ d : Int, (to + 1) ≤ d ∧ d ≤ 5 ∧ d < iI s 99 ∧ ((d = be ∧ iC s (245 + 6 * ((qq + 1) : Int).toNat + (d : Int).toNat) (lf : Int).toNat = rr) ∨ (d ≠ be ∧ 0 < lf ∧ bz = 0 ∧ iC s (245 + 6 * ((qq + 1) : Int).toNat + (d : Int).toNat) ((lf - 1) : Int).toNat ≠ -1 ∧ iC s (245 + 6 * ((qq + 1) : Int).toNat + (d : Int).toNat) ((lf - 1) : Int).toNat + 1 = rr))) := by
                unfold Hid
                by_cases e : to = d
                · exfalso; subst e; omega
                · exact ⟨d, by first | (clear g2001; omega) | omega, hd2, hd3, hd4⟩
              exact ih _ xv be lf qq rr (to + 1) bz I F jjAG0 hW2010 (by first | (clear g2001; omega) | omega) (by first | (clear g2001; omega) | omega) kx
            ·
              refine z_aload_n X (x := A 179) (show cdA 271 215 = some (.aload_n 0, 1, 0, 0, 0) from rfl) (List.Mem.head _) ?_
              refine s_getR X 179 (show cdA 271 216 = some (.getfield 118, 3, 12, 59, 0) from rfl) (by decide) rfl rfl ?_
              refine z_load X (x := qq) (show cdA 271 219 = some (.iload 4, 2, 0, 0, 0) from rfl) (List.Mem.tail _ (List.Mem.tail _ (List.Mem.tail _ (List.Mem.tail _ (List.Mem.head _))))) ?_
              refine z_const X (show cdA 271 221 = some (.iconst 1, 1, 0, 0, 0) from rfl) ?_
              refine z_add X (show cdA 271 222 = some (.iadd, 1, 0, 0, 0) from rfl) ?_
              refine z_a3 X (show cdA 271 223 = some (.aaload, 1, 0, 0, 0) from rfl) (by first | (clear g2009 g2001; omega) | (clear g2001; omega) | omega) (show (qq + 1) < 25 by first | (clear g2009 g2001; omega) | (clear g2001; omega) | omega) ?_
              refine z_load X (x := to) (show cdA 271 224 = some (.iload 6, 2, 0, 0, 0) from rfl) (List.Mem.tail _ (List.Mem.tail _ (List.Mem.tail _ (List.Mem.tail _ (List.Mem.tail _ (List.Mem.tail _ (List.Mem.head _))))))) ?_
              refine z_aald X (cu_rw _ (show ((qq + 1) : Int).toNat < 25 by first | (clear g2009 g2001; omega) | (clear g2001; omega) | omega)) (show cdA 271 226 = some (.aaload, 1, 0, 0, 0) from rfl) (by first | (clear g2009 g2001; omega) | (clear g2001; omega) | omega) (show to < 6 by first | (clear g2009 g2001; omega) | (clear g2001; omega) | omega) (by decide) ?_
              refine z_load_n X (x := lf) (show cdA 271 227 = some (.iload_n 3, 1, 0, 0, 0) from rfl) (List.Mem.tail _ (List.Mem.tail _ (List.Mem.tail _ (List.Mem.head _)))) ?_
              refine z_const X (show cdA 271 228 = some (.iconst 1, 1, 0, 0, 0) from rfl) ?_
              refine z_sub X (show cdA 271 229 = some (.isub, 1, 0, 0, 0) from rfl) ?_
              refine z_ald2 X (cu_rw _ (show ((qq + 1) : Int).toNat < 25 by first | (clear g2009 g2001; omega) | (clear g2001; omega) | omega)) (show cdA 271 230 = some (.iaload, 1, 0, 0, 0) from rfl) (show (to : Int).toNat < 6 by first | (clear g2009 g2001; omega) | (clear g2001; omega) | omega) (by first | (clear g2009 g2001; omega) | (clear g2001; omega) | omega) (show (lf - 1) < 24 by first | (clear g2009 g2001; omega) | (clear g2001; omega) | omega) (by decide) ?_
              have b2011 : rng (iC t (245 + 6 * ((qq + 1) : Int).toNat + (to : Int).toNat) ((lf - 1) : Int).toNat) := rng_to _
              have q2012 : iC t (245 + 6 * ((qq + 1) : Int).toNat + (to : Int).toNat) ((lf - 1) : Int).toNat = iC s (245 + 6 * ((qq + 1) : Int).toNat + (to : Int).toNat) ((lf - 1) : Int).toNat := fm_c F (cu_nm (by decide +kernel) (show ((qq + 1) : Int).toNat < 25 by first | (clear g2009 g2001; omega) | (clear g2001; omega) | omega) (show (to : Int).toNat < 6 by first | (clear g2009 g2001; omega) | (clear g2001; omega) | omega))
              refine z_const X (show cdA 271 231 = some (.iconst 1, 1, 0, 0, 0) from rfl) ?_
              refine z_add X (show cdA 271 232 = some (.iadd, 1, 0, 0, 0) from rfl) ?_
              refine z_load X (x := rr) (show cdA 271 233 = some (.iload 5, 2, 0, 0, 0) from rfl) (List.Mem.tail _ (List.Mem.tail _ (List.Mem.tail _ (List.Mem.tail _ (List.Mem.tail _ (List.Mem.head _)))))) ?_
              refine z_icmp_eq X (t := 244) (show cdA 271 235 = some (.if_icmp .eq 9, 3, 0, 0, 0) from rfl) (by decide) ⟨by first | (clear g2009 g2001; omega) | (clear g2001; omega) | omega, by first | (clear g2009 g2001; omega) | (clear g2001; omega) | omega⟩ ⟨by first | (clear g2009 g2001; omega) | (clear g2001; omega) | omega, by first | (clear g2009 g2001; omega) | (clear g2001; omega) | omega⟩ (fun g2013 => ?_) (fun g2013 => ?_)
              ·
                refine WS_lv (lv := [(0, .ref (A 179)), (1, .int (Int32.ofInt xv)), (2, .int (Int32.ofInt be)), (3, .int (Int32.ofInt lf)), (4, .int (Int32.ofInt qq)), (5, .int (Int32.ofInt rr)), (6, .int (Int32.ofInt to)), (7, .int (Int32.ofInt bz))]) (List.forall_mem_cons.mpr ⟨(List.Mem.head _), (List.forall_mem_cons.mpr ⟨(List.Mem.tail _ (List.Mem.head _)), (List.forall_mem_cons.mpr ⟨(List.Mem.tail _ (List.Mem.tail _ (List.Mem.head _))), (List.forall_mem_cons.mpr ⟨(List.Mem.tail _ (List.Mem.tail _ (List.Mem.tail _ (List.Mem.head _)))), (List.forall_mem_cons.mpr ⟨(List.Mem.tail _ (List.Mem.tail _ (List.Mem.tail _ (List.Mem.tail _ (List.Mem.head _))))), (List.forall_mem_cons.mpr ⟨(List.Mem.tail _ (List.Mem.tail _ (List.Mem.tail _ (List.Mem.tail _ (List.Mem.tail _ (List.Mem.head _)))))), (List.forall_mem_cons.mpr ⟨(List.Mem.tail _ (List.Mem.tail _ (List.Mem.tail _ (List.Mem.tail _ (List.Mem.tail _ (List.Mem.tail _ (List.Mem.head _))))))), (List.forall_mem_cons.mpr ⟨(List.Mem.tail _ (List.Mem.tail _ (List.Mem.tail _ (List.Mem.tail _ (List.Mem.tail _ (List.Mem.tail _ (List.Mem.tail _ (List.Mem.head _)))))))), (fun q h => absurd h List.not_mem_nil)⟩)⟩)⟩)⟩)⟩)⟩)⟩)⟩) ?_
                exact kx _ to I F jjAG0 trivial (by first | (clear g2009 g2001; omega) | (clear g2001; omega) | omega)
              ·
                refine z_inc X (x := to) (lv' := [(6, .int (Int32.ofInt (to + 1))), (0, .ref (A 179)), (1, .int (Int32.ofInt xv)), (2, .int (Int32.ofInt be)), (3, .int (Int32.ofInt lf)), (4, .int (Int32.ofInt qq)), (5, .int (Int32.ofInt rr)), (7, .int (Int32.ofInt bz))]) (show cdA 271 238 = some (.iinc 6 1, 3, 0, 0, 0) from rfl) (by decide) (List.Mem.tail _ (List.Mem.tail _ (List.Mem.tail _ (List.Mem.tail _ (List.Mem.tail _ (List.Mem.tail _ (List.Mem.head _))))))) (fun _ h => h) ?_
                refine z_goto X (t := 158) (show cdA 271 241 = some (.goto (-83), 3, 0, 0, 0) from rfl) (by decide) ?_
                refine WS_lv (lv := [(0, .ref (A 179)), (1, .int (Int32.ofInt xv)), (2, .int (Int32.ofInt be)), (3, .int (Int32.ofInt lf)), (4, .int (Int32.ofInt qq)), (5, .int (Int32.ofInt rr)), (6, .int (Int32.ofInt (to + 1))), (7, .int (Int32.ofInt bz))]) (List.forall_mem_cons.mpr ⟨(List.Mem.tail _ (List.Mem.head _)), (List.forall_mem_cons.mpr ⟨(List.Mem.tail _ (List.Mem.tail _ (List.Mem.head _))), (List.forall_mem_cons.mpr ⟨(List.Mem.tail _ (List.Mem.tail _ (List.Mem.tail _ (List.Mem.head _)))), (List.forall_mem_cons.mpr ⟨(List.Mem.tail _ (List.Mem.tail _ (List.Mem.tail _ (List.Mem.tail _ (List.Mem.head _))))), (List.forall_mem_cons.mpr ⟨(List.Mem.tail _ (List.Mem.tail _ (List.Mem.tail _ (List.Mem.tail _ (List.Mem.tail _ (List.Mem.head _)))))), (List.forall_mem_cons.mpr ⟨(List.Mem.tail _ (List.Mem.tail _ (List.Mem.tail _ (List.Mem.tail _ (List.Mem.tail _ (List.Mem.tail _ (List.Mem.head _))))))), (List.forall_mem_cons.mpr ⟨(List.Mem.head _), (List.forall_mem_cons.mpr ⟨(List.Mem.tail _ (List.Mem.tail _ (List.Mem.tail _ (List.Mem.tail _ (List.Mem.tail _ (List.Mem.tail _ (List.Mem.tail _ (List.Mem.head _)))))))), (fun q h => absurd h List.not_mem_nil)⟩)⟩)⟩)⟩)⟩)⟩)⟩)⟩) ?_
                have hW2014 : Hid (∃ d : Int, (to + 1) ≤ d ∧ d ≤ 5 ∧ d < iI s 99 ∧ ((d = be ∧ iC s (245 + 6 * ((qq + 1) : Int).toNat + (d : Int).toNat) (lf : Int).toNat = rr) ∨ (d ≠ be ∧ 0 < lf ∧ bz = 0 ∧ iC s (245 + 6 * ((qq + 1) : Int).toNat + (d : Int).toNat) ((lf - 1) : Int).toNat ≠ -1 ∧ iC s (245 + 6 * ((qq + 1) : Int).toNat + (d : Int).toNat) ((lf - 1) : Int).toNat + 1 = rr))) := by
                  unfold Hid
                  by_cases e : to = d
                  · exfalso; subst e; omega
                  · exact ⟨d, by first | (clear g2013 g2009 g2001; omega) | (clear g2009 g2001; omega) | omega, hd2, hd3, hd4⟩
                exact ih _ xv be lf qq rr (to + 1) bz I F jjAG0 hW2014 (by first | (clear g2013 g2009 g2001; omega) | (clear g2009 g2001; omega) | omega) (by first | (clear g2013 g2009 g2001; omega) | (clear g2009 g2001; omega) | omega) kx
      ·
        refine z_aload_n X (x := A 179) (show cdA 271 164 = some (.aload_n 0, 1, 0, 0, 0) from rfl) (List.Mem.head _) ?_
        refine s_getR X 179 (show cdA 271 165 = some (.getfield 118, 3, 12, 59, 0) from rfl) (by decide) rfl rfl ?_
        refine z_load X (x := qq) (show cdA 271 168 = some (.iload 4, 2, 0, 0, 0) from rfl) (List.Mem.tail _ (List.Mem.tail _ (List.Mem.tail _ (List.Mem.tail _ (List.Mem.head _))))) ?_
        refine z_const X (show cdA 271 170 = some (.iconst 1, 1, 0, 0, 0) from rfl) ?_
        refine z_add X (show cdA 271 171 = some (.iadd, 1, 0, 0, 0) from rfl) ?_
        refine z_a3 X (show cdA 271 172 = some (.aaload, 1, 0, 0, 0) from rfl) (by omega) (show (qq + 1) < 25 by omega) ?_
        refine z_load X (x := to) (show cdA 271 173 = some (.iload 6, 2, 0, 0, 0) from rfl) (List.Mem.tail _ (List.Mem.tail _ (List.Mem.tail _ (List.Mem.tail _ (List.Mem.tail _ (List.Mem.tail _ (List.Mem.head _))))))) ?_
        refine z_aald X (cu_rw _ (show ((qq + 1) : Int).toNat < 25 by omega)) (show cdA 271 175 = some (.aaload, 1, 0, 0, 0) from rfl) (by omega) (show to < 6 by omega) (by decide) ?_
        refine z_load_n X (x := lf) (show cdA 271 176 = some (.iload_n 3, 1, 0, 0, 0) from rfl) (List.Mem.tail _ (List.Mem.tail _ (List.Mem.tail _ (List.Mem.head _)))) ?_
        refine z_ald2 X (cu_rw _ (show ((qq + 1) : Int).toNat < 25 by omega)) (show cdA 271 177 = some (.iaload, 1, 0, 0, 0) from rfl) (show (to : Int).toNat < 6 by omega) (by omega) (show lf < 24 by omega) (by decide) ?_
        have b2015 : rng (iC t (245 + 6 * ((qq + 1) : Int).toNat + (to : Int).toNat) (lf : Int).toNat) := rng_to _
        have q2016 : iC t (245 + 6 * ((qq + 1) : Int).toNat + (to : Int).toNat) (lf : Int).toNat = iC s (245 + 6 * ((qq + 1) : Int).toNat + (to : Int).toNat) (lf : Int).toNat := fm_c F (cu_nm (by decide +kernel) (show ((qq + 1) : Int).toNat < 25 by omega) (show (to : Int).toNat < 6 by omega))
        refine z_load X (x := rr) (show cdA 271 178 = some (.iload 5, 2, 0, 0, 0) from rfl) (List.Mem.tail _ (List.Mem.tail _ (List.Mem.tail _ (List.Mem.tail _ (List.Mem.tail _ (List.Mem.head _)))))) ?_
        refine z_icmp_ne X (t := 238) (show cdA 271 180 = some (.if_icmp .ne 58, 3, 1, 0, 0) from rfl) (by decide) (rng_to _) ⟨by omega, by omega⟩ (fun g2017 => ?_) (fun g2017 => ?_)
        ·
          refine z_inc X (x := to) (lv' := [(6, .int (Int32.ofInt (to + 1))), (0, .ref (A 179)), (1, .int (Int32.ofInt xv)), (2, .int (Int32.ofInt be)), (3, .int (Int32.ofInt lf)), (4, .int (Int32.ofInt qq)), (5, .int (Int32.ofInt rr)), (7, .int (Int32.ofInt bz))]) (show cdA 271 238 = some (.iinc 6 1, 3, 0, 0, 0) from rfl) (by decide) (List.Mem.tail _ (List.Mem.tail _ (List.Mem.tail _ (List.Mem.tail _ (List.Mem.tail _ (List.Mem.tail _ (List.Mem.head _))))))) (fun _ h => h) ?_
          refine z_goto X (t := 158) (show cdA 271 241 = some (.goto (-83), 3, 0, 0, 0) from rfl) (by decide) ?_
          refine WS_lv (lv := [(0, .ref (A 179)), (1, .int (Int32.ofInt xv)), (2, .int (Int32.ofInt be)), (3, .int (Int32.ofInt lf)), (4, .int (Int32.ofInt qq)), (5, .int (Int32.ofInt rr)), (6, .int (Int32.ofInt (to + 1))), (7, .int (Int32.ofInt bz))]) (List.forall_mem_cons.mpr ⟨(List.Mem.tail _ (List.Mem.head _)), (List.forall_mem_cons.mpr ⟨(List.Mem.tail _ (List.Mem.tail _ (List.Mem.head _))), (List.forall_mem_cons.mpr ⟨(List.Mem.tail _ (List.Mem.tail _ (List.Mem.tail _ (List.Mem.head _)))), (List.forall_mem_cons.mpr ⟨(List.Mem.tail _ (List.Mem.tail _ (List.Mem.tail _ (List.Mem.tail _ (List.Mem.head _))))), (List.forall_mem_cons.mpr ⟨(List.Mem.tail _ (List.Mem.tail _ (List.Mem.tail _ (List.Mem.tail _ (List.Mem.tail _ (List.Mem.head _)))))), (List.forall_mem_cons.mpr ⟨(List.Mem.tail _ (List.Mem.tail _ (List.Mem.tail _ (List.Mem.tail _ (List.Mem.tail _ (List.Mem.tail _ (List.Mem.head _))))))), (List.forall_mem_cons.mpr ⟨(List.Mem.head _), (List.forall_mem_cons.mpr ⟨(List.Mem.tail _ (List.Mem.tail _ (List.Mem.tail _ (List.Mem.tail _ (List.Mem.tail _ (List.Mem.tail _ (List.Mem.tail _ (List.Mem.head _)))))))), (fun q h => absurd h List.not_mem_nil)⟩)⟩)⟩)⟩)⟩)⟩)⟩)⟩) ?_
          have hW2018 : Hid (∃ d : Int, (to + 1) ≤ d ∧ d ≤ 5 ∧ d < iI s 99 ∧ ((d = be ∧ iC s (245 + 6 * ((qq + 1) : Int).toNat + (d : Int).toNat) (lf : Int).toNat = rr) ∨ (d ≠ be ∧ 0 < lf ∧ bz = 0 ∧ iC s (245 + 6 * ((qq + 1) : Int).toNat + (d : Int).toNat) ((lf - 1) : Int).toNat ≠ -1 ∧ iC s (245 + 6 * ((qq + 1) : Int).toNat + (d : Int).toNat) ((lf - 1) : Int).toNat + 1 = rr))) := by
            unfold Hid
            by_cases e : to = d
            · exfalso; subst e; omega
            · exact ⟨d, by first | (clear g2017; omega) | omega, hd2, hd3, hd4⟩
          exact ih _ xv be lf qq rr (to + 1) bz I F jjAG0 hW2018 (by first | (clear g2017; omega) | omega) (by first | (clear g2017; omega) | omega) kx
        ·
          refine z_goto X (t := 244) (show cdA 271 183 = some (.goto 61, 3, 0, 0, 0) from rfl) (by decide) ?_
          refine WS_lv (lv := [(0, .ref (A 179)), (1, .int (Int32.ofInt xv)), (2, .int (Int32.ofInt be)), (3, .int (Int32.ofInt lf)), (4, .int (Int32.ofInt qq)), (5, .int (Int32.ofInt rr)), (6, .int (Int32.ofInt to)), (7, .int (Int32.ofInt bz))]) (List.forall_mem_cons.mpr ⟨(List.Mem.head _), (List.forall_mem_cons.mpr ⟨(List.Mem.tail _ (List.Mem.head _)), (List.forall_mem_cons.mpr ⟨(List.Mem.tail _ (List.Mem.tail _ (List.Mem.head _))), (List.forall_mem_cons.mpr ⟨(List.Mem.tail _ (List.Mem.tail _ (List.Mem.tail _ (List.Mem.head _)))), (List.forall_mem_cons.mpr ⟨(List.Mem.tail _ (List.Mem.tail _ (List.Mem.tail _ (List.Mem.tail _ (List.Mem.head _))))), (List.forall_mem_cons.mpr ⟨(List.Mem.tail _ (List.Mem.tail _ (List.Mem.tail _ (List.Mem.tail _ (List.Mem.tail _ (List.Mem.head _)))))), (List.forall_mem_cons.mpr ⟨(List.Mem.tail _ (List.Mem.tail _ (List.Mem.tail _ (List.Mem.tail _ (List.Mem.tail _ (List.Mem.tail _ (List.Mem.head _))))))), (List.forall_mem_cons.mpr ⟨(List.Mem.tail _ (List.Mem.tail _ (List.Mem.tail _ (List.Mem.tail _ (List.Mem.tail _ (List.Mem.tail _ (List.Mem.tail _ (List.Mem.head _)))))))), (fun q h => absurd h List.not_mem_nil)⟩)⟩)⟩)⟩)⟩)⟩)⟩)⟩) ?_
          exact kx _ to I F jjAG0 trivial (by omega)
  have L79 : ∀ (n : Nat) (t : PS) (xv be lf qq : Int), Bd t → Fm [77, 75, 78, 79, 80, 81, 89] [161, 230, 202, 204, 205, 206, 207, 208, 209, 210, 211, 212, 213, 214, 215, 216, 217, 218, 219, 220, 221, 222, 223, 224, 225, 226, 227, 203, 395, 396] s t → AG0 g t → (xv = x ∧ (0 ≤ xv ∧ xv ≤ 23) ∧ 0 ≤ qq ∧ qq ≤ 24 ∧ 0 ≤ lf ∧ lf ≤ xv ∧ 0 ≤ be ∧ be ≤ 5 ∧ be < iI s 99 ∧ (qq ≤ 23 → iC s (245 + 6 * (qq : Int).toNat + (be : Int).toNat) (lf : Int).toNat ≠ -1)) → (24 - qq : Int).toNat < n → (∀ (t' : PS) (be' lf' qq' : Int), Bd t' → Fm [77, 75, 78, 79, 80, 81, 89] [161, 230, 202, 204, 205, 206, 207, 208, 209, 210, 211, 212, 213, 214, 215, 216, 217, 218, 219, 220, 221, 222, 223, 224, 225, 226, 227, 203, 395, 396] s t' → AG0 g t' → (xv = x ∧ (0 ≤ xv ∧ xv ≤ 23) ∧ 0 ≤ qq' ∧ qq' ≤ 24 ∧ 0 ≤ lf' ∧ lf' ≤ xv ∧ 0 ≤ be' ∧ be' ≤ 5 ∧ be' < iI s 99 ∧ (qq' ≤ 23 → iC s (245 + 6 * (qq' : Int).toNat + (be' : Int).toNat) (lf' : Int).toNat ≠ -1)) → WS k 267 [(0, .ref (A 179)), (1, .int (Int32.ofInt xv)), (2, .int (Int32.ofInt be')), (3, .int (Int32.ofInt lf')), (4, .int (Int32.ofInt qq'))] [] (Wd A dT t') 0 0) → WS k 79 [(0, .ref (A 179)), (1, .int (Int32.ofInt xv)), (2, .int (Int32.ofInt be)), (3, .int (Int32.ofInt lf)), (4, .int (Int32.ofInt qq))] [] (Wd A dT t) 0 0 := by
    intro n
    induction n with
    | zero =>
      intro t xv be lf qq I F jjAG0 hi hm kx
      exact absurd hm (Nat.not_lt_zero _)
    | succ n ih =>
      intro t xv be lf qq I F jjAG0 hi hm kx
      refine z_load X (x := qq) (show cdA 271 79 = some (.iload 4, 2, 0, 0, 0) from rfl) (List.Mem.tail _ (List.Mem.tail _ (List.Mem.tail _ (List.Mem.tail _ (List.Mem.head _))))) ?_
      refine z_bipush X (show cdA 271 81 = some (.bipush 24, 2, 0, 0, 24) from rfl) ?_
      refine z_icmp_ge X (t := 267) (show cdA 271 83 = some (.if_icmp .ge 184, 3, 3, 0, 0) from rfl) (by decide) ⟨by omega, by omega⟩ (by decide) (fun g3001 => ?_) (fun g3001 => ?_)
      ·
        refine WS_lv (lv := [(0, .ref (A 179)), (1, .int (Int32.ofInt xv)), (2, .int (Int32.ofInt be)), (3, .int (Int32.ofInt lf)), (4, .int (Int32.ofInt qq))]) (List.forall_mem_cons.mpr ⟨(List.Mem.head _), (List.forall_mem_cons.mpr ⟨(List.Mem.tail _ (List.Mem.head _)), (List.forall_mem_cons.mpr ⟨(List.Mem.tail _ (List.Mem.tail _ (List.Mem.head _))), (List.forall_mem_cons.mpr ⟨(List.Mem.tail _ (List.Mem.tail _ (List.Mem.tail _ (List.Mem.head _)))), (List.forall_mem_cons.mpr ⟨(List.Mem.tail _ (List.Mem.tail _ (List.Mem.tail _ (List.Mem.tail _ (List.Mem.head _))))), (fun q h => absurd h List.not_mem_nil)⟩)⟩)⟩)⟩)⟩) ?_
        exact kx _ be lf qq I F jjAG0 (by omega)
      ·
        refine z_aload_n X (x := A 179) (show cdA 271 86 = some (.aload_n 0, 1, 0, 0, 0) from rfl) (List.Mem.head _) ?_
        refine s_getR X 179 (show cdA 271 87 = some (.getfield 121, 3, 12, 60, 0) from rfl) (by decide) rfl rfl ?_
        refine z_load X (x := qq) (show cdA 271 90 = some (.iload 4, 2, 0, 0, 0) from rfl) (List.Mem.tail _ (List.Mem.tail _ (List.Mem.tail _ (List.Mem.tail _ (List.Mem.head _))))) ?_
        refine z_load_n X (x := be) (show cdA 271 92 = some (.iload_n 2, 1, 0, 0, 0) from rfl) (List.Mem.tail _ (List.Mem.tail _ (List.Mem.head _))) ?_
        refine z_ast X 450 (show cdA 271 93 = some (.iastore, 1, 0, 0, 0) from rfl) (by decide) rfl (by omega) (show qq < 24 by omega) (by decide) ?_
        obtain ⟨s3002, hs3002⟩ : ∃ x0, x0 = uC t 395 (qq).toNat (Int32.ofInt be) := ⟨_, rfl⟩
        rw [← hs3002]
        have Is3002 : Bd s3002 := by rw [hs3002]; exact bd_C I (show (0 : Int) ≤ be ∧ be ≤ 5 by omega) ⟨by omega, by omega⟩
        have Fs3002 := fm_C (i := (qq).toNat) (x := Int32.ofInt be) F (show 395 ∈ _ by decide)
        rw [← hs3002] at Fs3002
        have fs3002 : Fm [] [395] t s3002 := by rw [hs3002]; exact fm_C (fm_rf _ _ _) (show 395 ∈ _ by decide)
        have JAG0_s3002 : AG0 g s3002 := AG0_fm fs3002 (by decide +kernel) jjAG0
        refine z_aload_n X (x := A 179) (show cdA 271 94 = some (.aload_n 0, 1, 0, 0, 0) from rfl) (List.Mem.head _) ?_
        refine z_load X (x := qq) (show cdA 271 95 = some (.iload 4, 2, 0, 0, 0) from rfl) (List.Mem.tail _ (List.Mem.tail _ (List.Mem.tail _ (List.Mem.tail _ (List.Mem.head _))))) ?_
        refine z_callV X 179 (rm := rmN 222) (As := [.int (Int32.ofInt qq)]) (st := []) (show cdA 271 97 = some (.invokevirtual 333, 3, 222, 0, 0) from rfl) rfl (by decide) rfl (by rw [E.1, E.2.1, E.2.2.1]; exact hA Is3002 JAG0_s3002 (by omega)) ⟨by rw [E.2.2.2]; exact (show (rmN 222).frames + 1 ≤ (rmN 271).frames by decide), by rw [E.2.2.2]; exact (show 8 + (mNL (miB 222) + 11) + (rmN 222).locals ≤ (rmN 271).locals by decide), by rw [E.2.2.2]; exact (show 0 + (rmN 222).cells ≤ (rmN 271).cells by decide), by rw [E.2.2.2]; exact (show 0 + (rmN 222).slots ≤ (rmN 271).slots by decide)⟩ (Nat.le_of_ble_eq_true rfl) (fun vv s3003 hq => ?_) (fun ee s3003 hq => ?_)
        rotate_left
        · obtain ⟨Is3003, Fs3003, JAG1_s3003, hv, hps3003⟩ := hq; cases hv
        obtain ⟨Is3003, Fs3003, JAG1_s3003, hv, hps3003⟩ := hq
        cases hv
        have Gs3003 := fm_ts Fs3002 Fs3003 (by decide) (by decide)
        have JAG0_s3003 : AG0 g s3003 := AG0_fm Fs3003 (by decide +kernel) JAG0_s3002
        show WS k 100 [(0, .ref (A 179)), (1, .int (Int32.ofInt xv)), (2, .int (Int32.ofInt be)), (3, .int (Int32.ofInt lf)), (4, .int (Int32.ofInt qq))] [] (Wd A dT s3003) 0 0
        refine z_aload_n X (x := A 179) (show cdA 271 100 = some (.aload_n 0, 1, 0, 0, 0) from rfl) (List.Mem.head _) ?_
        refine s_getR X 179 (show cdA 271 101 = some (.getfield 124, 3, 12, 61, 0) from rfl) (by decide) rfl rfl ?_
        refine z_load X (x := qq) (show cdA 271 104 = some (.iload 4, 2, 0, 0, 0) from rfl) (List.Mem.tail _ (List.Mem.tail _ (List.Mem.tail _ (List.Mem.tail _ (List.Mem.head _))))) ?_
        refine z_aload_n X (x := A 179) (show cdA 271 106 = some (.aload_n 0, 1, 0, 0, 0) from rfl) (List.Mem.head _) ?_
        refine z_load_n X (x := be) (show cdA 271 107 = some (.iload_n 2, 1, 0, 0, 0) from rfl) (List.Mem.tail _ (List.Mem.tail _ (List.Mem.head _))) ?_
        refine z_callV X 179 (rm := rmN 266) (As := [.int (Int32.ofInt be)]) (st := [.int (Int32.ofInt qq), .ref (A 451)]) (show cdA 271 108 = some (.invokevirtual 413, 3, 266, 0, 0) from rfl) rfl (by decide) rfl (by rw [E.1, E.2.1, E.2.2.1]; exact hP Is3003 JAG1_s3003 (by omega) (by omega)) ⟨by rw [E.2.2.2]; exact (show (rmN 266).frames + 1 ≤ (rmN 271).frames by decide), by rw [E.2.2.2]; exact (show 8 + (mNL (miB 266) + 11) + (rmN 266).locals ≤ (rmN 271).locals by decide), by rw [E.2.2.2]; exact (show 0 + (rmN 266).cells ≤ (rmN 271).cells by decide), by rw [E.2.2.2]; exact (show 0 + (rmN 266).slots ≤ (rmN 271).slots by decide)⟩ (Nat.le_of_ble_eq_true rfl) (fun vv s3005 hq => ?_) (fun ee s3005 hq => ?_)
        rotate_left
        · obtain ⟨Is3005, Fs3005, JAG1_s3005, e3006, hv, hrs3005, hps3005⟩ := hq; cases hv
        obtain ⟨Is3005, Fs3005, JAG1_s3005, e3006, hv, hrs3005, hps3005⟩ := hq
        cases hv
        have Gs3005 := fm_ts Gs3003 Fs3005 (by decide) (by decide)
        show WS k 111 [(0, .ref (A 179)), (1, .int (Int32.ofInt xv)), (2, .int (Int32.ofInt be)), (3, .int (Int32.ofInt lf)), (4, .int (Int32.ofInt qq))] [.int (Int32.ofInt e3006), .int (Int32.ofInt qq), .ref (A 451)] (Wd A dT s3005) 0 0
        refine z_ast X 451 (show cdA 271 111 = some (.iastore, 1, 0, 0, 0) from rfl) (by decide) rfl (by omega) (show qq < 24 by omega) (by decide) ?_
        obtain ⟨s3007, hs3007⟩ : ∃ x0, x0 = uC s3005 396 (qq).toNat (Int32.ofInt e3006) := ⟨_, rfl⟩
        rw [← hs3007]
        have Is3007 : Bd s3007 := by rw [hs3007]; exact bd_C Is3005 (show ((-2147483648) : Int) ≤ e3006 ∧ e3006 ≤ 2147483647 by omega) hrs3005
        have Fs3007 := fm_C (i := (qq).toNat) (x := Int32.ofInt e3006) Gs3005 (show 396 ∈ _ by decide)
        rw [← hs3007] at Fs3007
        have vs3007 : iC s3007 396 (qq).toNat = e3006 := by rw [hs3007]; exact iC_u ⟨by omega, by omega⟩
        have fs3007 : Fm [] [396] s3005 s3007 := by rw [hs3007]; exact fm_C (fm_rf _ _ _) (show 396 ∈ _ by decide)
        have JAG0_s3007 : AG0 g s3007 := AG0_fm fs3007 (by decide +kernel) JAG1_s3005.1
        have JAG1_s3007 : AG1 g (gq qq) s3007 := AG1_fm fs3007 (by decide +kernel) JAG1_s3005
        refine z_load X (x := qq) (show cdA 271 112 = some (.iload 4, 2, 0, 0, 0) from rfl) (List.Mem.tail _ (List.Mem.tail _ (List.Mem.tail _ (List.Mem.tail _ (List.Mem.head _))))) ?_
        refine z_bipush X (show cdA 271 114 = some (.bipush 23, 2, 0, 0, 23) from rfl) ?_
        refine z_icmp_ne X (t := 121) (show cdA 271 116 = some (.if_icmp .ne 5, 3, 1, 0, 0) from rfl) (by decide) ⟨by omega, by omega⟩ (by decide) (fun g3008 => ?_) (fun g3008 => ?_)
        ·
          refine z_aload_n X (x := A 179) (show cdA 271 121 = some (.aload_n 0, 1, 0, 0, 0) from rfl) (List.Mem.head _) ?_
          refine s_getR X 179 (show cdA 271 122 = some (.getfield 118, 3, 12, 59, 0) from rfl) (by decide) rfl rfl ?_
          refine z_load X (x := qq) (show cdA 271 125 = some (.iload 4, 2, 0, 0, 0) from rfl) (List.Mem.tail _ (List.Mem.tail _ (List.Mem.tail _ (List.Mem.tail _ (List.Mem.head _))))) ?_
          refine z_a3 X (show cdA 271 127 = some (.aaload, 1, 0, 0, 0) from rfl) (by first | (clear g3008; omega) | omega) (show qq < 25 by first | (clear g3008; omega) | omega) ?_
          refine z_load_n X (x := be) (show cdA 271 128 = some (.iload_n 2, 1, 0, 0, 0) from rfl) (List.Mem.tail _ (List.Mem.tail _ (List.Mem.head _))) ?_
          refine z_aald X (cu_rw _ (show (qq : Int).toNat < 25 by first | (clear g3008; omega) | omega)) (show cdA 271 129 = some (.aaload, 1, 0, 0, 0) from rfl) (by first | (clear g3008; omega) | omega) (show be < 6 by first | (clear g3008; omega) | omega) (by decide) ?_
          refine z_load_n X (x := lf) (show cdA 271 130 = some (.iload_n 3, 1, 0, 0, 0) from rfl) (List.Mem.tail _ (List.Mem.tail _ (List.Mem.tail _ (List.Mem.head _)))) ?_
          refine z_ald2 X (cu_rw _ (show (qq : Int).toNat < 25 by first | (clear g3008; omega) | omega)) (show cdA 271 131 = some (.iaload, 1, 0, 0, 0) from rfl) (show (be : Int).toNat < 6 by first | (clear g3008; omega) | omega) (by first | (clear g3008; omega) | omega) (show lf < 24 by first | (clear g3008; omega) | omega) (by decide) ?_
          have b3009 : rng (iC s3007 (245 + 6 * (qq : Int).toNat + (be : Int).toNat) (lf : Int).toNat) := rng_to _
          have q3010 : iC s3007 (245 + 6 * (qq : Int).toNat + (be : Int).toNat) (lf : Int).toNat = iC s (245 + 6 * (qq : Int).toNat + (be : Int).toNat) (lf : Int).toNat := fm_c Fs3007 (cu_nm (by decide +kernel) (show (qq : Int).toNat < 25 by first | (clear g3008; omega) | omega) (show (be : Int).toNat < 6 by first | (clear g3008; omega) | omega))
          refine z_bipush X (show cdA 271 132 = some (.bipush 100, 2, 0, 0, 100) from rfl) ?_
          refine z_aload_n X (x := A 179) (show cdA 271 134 = some (.aload_n 0, 1, 0, 0, 0) from rfl) (List.Mem.head _) ?_
          refine s_getR X 179 (show cdA 271 135 = some (.getfield 124, 3, 12, 61, 0) from rfl) (by decide) rfl rfl ?_
          refine z_load X (x := qq) (show cdA 271 138 = some (.iload 4, 2, 0, 0, 0) from rfl) (List.Mem.tail _ (List.Mem.tail _ (List.Mem.tail _ (List.Mem.tail _ (List.Mem.head _))))) ?_
          refine z_ald X 451 (show cdA 271 140 = some (.iaload, 1, 0, 0, 0) from rfl) (by decide) rfl (by first | (clear g3008; omega) | omega) (show qq < 24 by first | (clear g3008; omega) | omega) (by decide) ?_
          have b3011 : ((-2147483648) : Int) ≤ iC s3007 396 (qq).toNat ∧ iC s3007 396 (qq).toNat ≤ 2147483647 := Is3007.2 396 _ (show (qq).toNat < 24 by first | (clear g3008; omega) | omega)
          refine z_mul X (show cdA 271 141 = some (.imul, 1, 0, 0, 0) from rfl) ?_
          refine z_sub X (show cdA 271 142 = some (.isub, 1, 0, 0, 0) from rfl) ?_
          refine z_store X (lv' := [(5, .int (Int32.ofInt ((iC s3007 (245 + 6 * (qq : Int).toNat + (be : Int).toNat) (lf : Int).toNat) - (100 * (iC s3007 396 (qq).toNat))))), (0, .ref (A 179)), (1, .int (Int32.ofInt xv)), (2, .int (Int32.ofInt be)), (3, .int (Int32.ofInt lf)), (4, .int (Int32.ofInt qq))]) (show cdA 271 143 = some (.istore 5, 2, 0, 0, 0) from rfl) (by decide) (fun _ h => h) ?_
          have w := p1 (qq : Int).toNat (be : Int).toNat (lf : Int).toNat (by first | (clear g3008; omega) | omega) (by first | (clear g3008; omega) | omega) (by first | (clear g3008; omega) | omega) (by first | (clear g3008; omega) | omega) (by first | (clear g3008; omega) | omega) (by first | (clear g3008; omega) | omega)
          have w := WE_use w (show iC s (245 + 6 * (qq : Int).toNat + (be : Int).toNat) (lf : Int).toNat ≠ -1 by first | (clear g3008; omega) | omega) (by first | (clear g3008; omega) | omega)
          unfold tb at w
          rw [Int.toNat_of_nonneg (show (0 : Int) ≤ qq by first | (clear g3008; omega) | omega), Int.toNat_of_nonneg (show (0 : Int) ≤ be by first | (clear g3008; omega) | omega)] at w
          obtain ⟨w1, w2, pp1, pp2, pp3⟩ := w
          refine z_const X (show cdA 271 145 = some (.iconst 0, 1, 0, 0, 0) from rfl) ?_
          refine z_store X (lv' := [(6, .int (Int32.ofInt 0)), (5, .int (Int32.ofInt ((iC s3007 (245 + 6 * (qq : Int).toNat + (be : Int).toNat) (lf : Int).toNat) - (100 * (iC s3007 396 (qq).toNat))))), (0, .ref (A 179)), (1, .int (Int32.ofInt xv)), (2, .int (Int32.ofInt be)), (3, .int (Int32.ofInt lf)), (4, .int (Int32.ofInt qq))]) (show cdA 271 146 = some (.istore 6, 2, 0, 0, 0) from rfl) (by decide) (fun _ h => h) ?_
          refine z_aload_n X (x := A 179) (show cdA 271 148 = some (.aload_n 0, 1, 0, 0, 0) from rfl) (List.Mem.tail _ (List.Mem.tail _ (List.Mem.head _))) ?_
          refine z_load X (x := qq) (show cdA 271 149 = some (.iload 4, 2, 0, 0, 0) from rfl) (List.Mem.tail _ (List.Mem.tail _ (List.Mem.tail _ (List.Mem.tail _ (List.Mem.tail _ (List.Mem.tail _ (List.Mem.head _))))))) ?_
          refine z_const X (show cdA 271 151 = some (.iconst 1, 1, 0, 0, 0) from rfl) ?_
          refine z_add X (show cdA 271 152 = some (.iadd, 1, 0, 0, 0) from rfl) ?_
          refine z_callV X 179 (rm := rmN 269) (As := [.int (Int32.ofInt (qq + 1))]) (st := []) (show cdA 271 153 = some (.invokevirtual 416, 3, 269, 0, 0) from rfl) rfl (by decide) rfl (by rw [E.1, E.2.1, E.2.2.1]; exact hB Is3007 JAG0_s3007 (by first | (clear g3008; omega) | omega)) ⟨by rw [E.2.2.2]; exact (show (rmN 269).frames + 1 ≤ (rmN 271).frames by decide), by rw [E.2.2.2]; exact (show 8 + (mNL (miB 269) + 11) + (rmN 269).locals ≤ (rmN 271).locals by decide), by rw [E.2.2.2]; exact (show 0 + (rmN 269).cells ≤ (rmN 271).cells by decide), by rw [E.2.2.2]; exact (show 0 + (rmN 269).slots ≤ (rmN 271).slots by decide)⟩ (Nat.le_of_ble_eq_true rfl) (fun vv s3012 hq => ?_) (fun ee s3012 hq => ?_)
          rotate_left
          · obtain ⟨Is3012, Fs3012, JAG0_s3012, e3013, hv, hrs3012, hps3012⟩ := hq; cases hv
          obtain ⟨Is3012, Fs3012, JAG0_s3012, e3013, hv, hrs3012, hps3012⟩ := hq
          cases hv
          have Gs3012 := fm_ts Fs3007 Fs3012 (by decide) (by decide)
          have JAG0_s3012 : AG0 g s3012 := AG0_fm Fs3012 (by decide +kernel) JAG0_s3007
          show WS k 156 [(6, .int (Int32.ofInt 0)), (5, .int (Int32.ofInt ((iC s3007 (245 + 6 * (qq : Int).toNat + (be : Int).toNat) (lf : Int).toNat) - (100 * (iC s3007 396 (qq).toNat))))), (0, .ref (A 179)), (1, .int (Int32.ofInt xv)), (2, .int (Int32.ofInt be)), (3, .int (Int32.ofInt lf)), (4, .int (Int32.ofInt qq))] [.int (Int32.ofInt e3013)] (Wd A dT s3012) 0 0
          refine z_store X (lv' := [(7, .int (Int32.ofInt e3013)), (6, .int (Int32.ofInt 0)), (5, .int (Int32.ofInt ((iC s3007 (245 + 6 * (qq : Int).toNat + (be : Int).toNat) (lf : Int).toNat) - (100 * (iC s3007 396 (qq).toNat))))), (0, .ref (A 179)), (1, .int (Int32.ofInt xv)), (2, .int (Int32.ofInt be)), (3, .int (Int32.ofInt lf)), (4, .int (Int32.ofInt qq))]) (show cdA 271 156 = some (.istore 7, 2, 0, 0, 0) from rfl) (by decide) (fun _ h => h) ?_
          refine WS_lv (lv := [(0, .ref (A 179)), (1, .int (Int32.ofInt xv)), (2, .int (Int32.ofInt be)), (3, .int (Int32.ofInt lf)), (4, .int (Int32.ofInt qq)), (5, .int (Int32.ofInt ((iC s3007 (245 + 6 * (qq : Int).toNat + (be : Int).toNat) (lf : Int).toNat) - (100 * (iC s3007 396 (qq).toNat))))), (6, .int (Int32.ofInt 0)), (7, .int (Int32.ofInt e3013))]) (List.forall_mem_cons.mpr ⟨(List.Mem.tail _ (List.Mem.tail _ (List.Mem.tail _ (List.Mem.head _)))), (List.forall_mem_cons.mpr ⟨(List.Mem.tail _ (List.Mem.tail _ (List.Mem.tail _ (List.Mem.tail _ (List.Mem.head _))))), (List.forall_mem_cons.mpr ⟨(List.Mem.tail _ (List.Mem.tail _ (List.Mem.tail _ (List.Mem.tail _ (List.Mem.tail _ (List.Mem.head _)))))), (List.forall_mem_cons.mpr ⟨(List.Mem.tail _ (List.Mem.tail _ (List.Mem.tail _ (List.Mem.tail _ (List.Mem.tail _ (List.Mem.tail _ (List.Mem.head _))))))), (List.forall_mem_cons.mpr ⟨(List.Mem.tail _ (List.Mem.tail _ (List.Mem.tail _ (List.Mem.tail _ (List.Mem.tail _ (List.Mem.tail _ (List.Mem.tail _ (List.Mem.head _)))))))), (List.forall_mem_cons.mpr ⟨(List.Mem.tail _ (List.Mem.tail _ (List.Mem.head _))), (List.forall_mem_cons.mpr ⟨(List.Mem.tail _ (List.Mem.head _)), (List.forall_mem_cons.mpr ⟨(List.Mem.head _), (fun q h => absurd h List.not_mem_nil)⟩)⟩)⟩)⟩)⟩)⟩)⟩)⟩) ?_
          have hW3016 : Hid (∃ d : Int, 0 ≤ d ∧ d ≤ 5 ∧ d < iI s 99 ∧ ((d = be ∧ iC s (245 + 6 * ((qq + 1) : Int).toNat + (d : Int).toNat) (lf : Int).toNat = ((iC s3007 (245 + 6 * (qq : Int).toNat + (be : Int).toNat) (lf : Int).toNat) - (100 * (iC s3007 396 (qq).toNat)))) ∨ (d ≠ be ∧ 0 < lf ∧ e3013 = 0 ∧ iC s (245 + 6 * ((qq + 1) : Int).toNat + (d : Int).toNat) ((lf - 1) : Int).toNat ≠ -1 ∧ iC s (245 + 6 * ((qq + 1) : Int).toNat + (d : Int).toNat) ((lf - 1) : Int).toNat + 1 = ((iC s3007 (245 + 6 * (qq : Int).toNat + (be : Int).toNat) (lf : Int).toNat) - (100 * (iC s3007 396 (qq).toNat)))))) := by
            unfold Hid at pp3 ⊢
            have e1 : ((qq + 1) : Int).toNat = (qq : Int).toNat + 1 := by first | (clear g3008; omega) | omega
            rcases pp3 with p | ⟨d, d1, d2, d3, d4, d5, d6, d7⟩
            · exact ⟨be, by first | (clear g3008; omega) | omega, by first | (clear g3008; omega) | omega, by first | (clear g3008; omega) | omega, Or.inl ⟨rfl, by rw [e1]; omega⟩⟩
            · have e2 : ((lf - 1) : Int).toNat = (lf : Int).toNat - 1 := by first | (clear g3008; omega) | omega
              have e3 : ((d : Nat) : Int).toNat = d := Int.toNat_natCast d
              exact ⟨(d : Int), by first | (clear g3008; omega) | omega, by first | (clear g3008; omega) | omega, d3, Or.inr ⟨by first | (clear g3008; omega) | omega, by first | (clear g3008; omega) | omega, by first | (clear g3008; omega) | omega, by rw [e1, e2, e3]; exact d6, by rw [e1, e2, e3]; omega⟩⟩
          refine L158 ((6 - 0 : Int).toNat + 1) s3012 xv be lf qq ((iC s3007 (245 + 6 * (qq : Int).toNat + (be : Int).toNat) (lf : Int).toNat) - (100 * (iC s3007 396 (qq).toNat))) 0 e3013 Is3012 Gs3012 JAG0_s3012 hW3016 (by first | (clear g3008; omega) | omega) (Nat.lt_succ_self _) ?_
          intro s3014 x3015 Is3014 Fs3014 JAG0_s3014 Qs3014 hs3014
          refine z_load_n X (x := lf) (show cdA 271 244 = some (.iload_n 3, 1, 0, 0, 0) from rfl) (List.Mem.tail _ (List.Mem.tail _ (List.Mem.tail _ (List.Mem.head _)))) ?_
          refine z_load X (x := x3015) (show cdA 271 245 = some (.iload 6, 2, 0, 0, 0) from rfl) (List.Mem.tail _ (List.Mem.tail _ (List.Mem.tail _ (List.Mem.tail _ (List.Mem.tail _ (List.Mem.tail _ (List.Mem.head _))))))) ?_
          refine z_load_n X (x := be) (show cdA 271 247 = some (.iload_n 2, 1, 0, 0, 0) from rfl) (List.Mem.tail _ (List.Mem.tail _ (List.Mem.head _))) ?_
          refine z_icmp_ne X (t := 255) (show cdA 271 248 = some (.if_icmp .ne 7, 3, 1, 0, 0) from rfl) (by decide) ⟨by first | (clear g3008; omega) | omega, by first | (clear g3008; omega) | omega⟩ ⟨by first | (clear g3008; omega) | omega, by first | (clear g3008; omega) | omega⟩ (fun g3017 => ?_) (fun g3017 => ?_)
          ·
            refine z_const X (show cdA 271 255 = some (.iconst 1, 1, 0, 0, 0) from rfl) ?_
            refine z_sub X (show cdA 271 256 = some (.isub, 1, 0, 0, 0) from rfl) ?_
            refine z_store_n X (lv' := [(3, .int (Int32.ofInt (lf - 1))), (0, .ref (A 179)), (1, .int (Int32.ofInt xv)), (2, .int (Int32.ofInt be)), (4, .int (Int32.ofInt qq)), (5, .int (Int32.ofInt ((iC s3007 (245 + 6 * (qq : Int).toNat + (be : Int).toNat) (lf : Int).toNat) - (100 * (iC s3007 396 (qq).toNat))))), (6, .int (Int32.ofInt x3015)), (7, .int (Int32.ofInt e3013))]) (show cdA 271 257 = some (.istore_n 3, 1, 0, 0, 0) from rfl) (by decide) (fun _ h => h) ?_
            refine z_load X (x := x3015) (show cdA 271 258 = some (.iload 6, 2, 0, 0, 0) from rfl) (List.Mem.tail _ (List.Mem.tail _ (List.Mem.tail _ (List.Mem.tail _ (List.Mem.tail _ (List.Mem.tail _ (List.Mem.head _))))))) ?_
            refine z_store_n X (lv' := [(2, .int (Int32.ofInt x3015)), (3, .int (Int32.ofInt (lf - 1))), (0, .ref (A 179)), (1, .int (Int32.ofInt xv)), (4, .int (Int32.ofInt qq)), (5, .int (Int32.ofInt ((iC s3007 (245 + 6 * (qq : Int).toNat + (be : Int).toNat) (lf : Int).toNat) - (100 * (iC s3007 396 (qq).toNat))))), (6, .int (Int32.ofInt x3015)), (7, .int (Int32.ofInt e3013))]) (show cdA 271 260 = some (.istore_n 2, 1, 0, 0, 0) from rfl) (by decide) (fun _ h => h) ?_
            refine z_inc X (x := qq) (lv' := [(4, .int (Int32.ofInt (qq + 1))), (2, .int (Int32.ofInt x3015)), (3, .int (Int32.ofInt (lf - 1))), (0, .ref (A 179)), (1, .int (Int32.ofInt xv)), (5, .int (Int32.ofInt ((iC s3007 (245 + 6 * (qq : Int).toNat + (be : Int).toNat) (lf : Int).toNat) - (100 * (iC s3007 396 (qq).toNat))))), (6, .int (Int32.ofInt x3015)), (7, .int (Int32.ofInt e3013))]) (show cdA 271 261 = some (.iinc 4 1, 3, 0, 0, 0) from rfl) (by decide) (List.Mem.tail _ (List.Mem.tail _ (List.Mem.tail _ (List.Mem.tail _ (List.Mem.head _))))) (fun _ h => h) ?_
            refine z_goto X (t := 79) (show cdA 271 264 = some (.goto (-185), 3, 0, 0, 0) from rfl) (by decide) ?_
            refine WS_lv (lv := [(0, .ref (A 179)), (1, .int (Int32.ofInt xv)), (2, .int (Int32.ofInt x3015)), (3, .int (Int32.ofInt (lf - 1))), (4, .int (Int32.ofInt (qq + 1)))]) (List.forall_mem_cons.mpr ⟨(List.Mem.tail _ (List.Mem.tail _ (List.Mem.tail _ (List.Mem.head _)))), (List.forall_mem_cons.mpr ⟨(List.Mem.tail _ (List.Mem.tail _ (List.Mem.tail _ (List.Mem.tail _ (List.Mem.head _))))), (List.forall_mem_cons.mpr ⟨(List.Mem.tail _ (List.Mem.head _)), (List.forall_mem_cons.mpr ⟨(List.Mem.tail _ (List.Mem.tail _ (List.Mem.head _))), (List.forall_mem_cons.mpr ⟨(List.Mem.head _), (fun q h => absurd h List.not_mem_nil)⟩)⟩)⟩)⟩)⟩) ?_
            exact ih _ xv x3015 (lf - 1) (qq + 1) Is3014 Fs3014 JAG0_s3014 (by first | (clear g3017 g3008; omega) | (clear g3008; omega) | omega) (by first | (clear g3017 g3008; omega) | (clear g3008; omega) | omega) kx
          ·
            refine z_const X (show cdA 271 251 = some (.iconst 0, 1, 0, 0, 0) from rfl) ?_
            refine z_goto X (t := 256) (show cdA 271 252 = some (.goto 4, 3, 0, 0, 0) from rfl) (by decide) ?_
            refine z_sub X (show cdA 271 256 = some (.isub, 1, 0, 0, 0) from rfl) ?_
            refine z_store_n X (lv' := [(3, .int (Int32.ofInt (lf - 0))), (0, .ref (A 179)), (1, .int (Int32.ofInt xv)), (2, .int (Int32.ofInt be)), (4, .int (Int32.ofInt qq)), (5, .int (Int32.ofInt ((iC s3007 (245 + 6 * (qq : Int).toNat + (be : Int).toNat) (lf : Int).toNat) - (100 * (iC s3007 396 (qq).toNat))))), (6, .int (Int32.ofInt x3015)), (7, .int (Int32.ofInt e3013))]) (show cdA 271 257 = some (.istore_n 3, 1, 0, 0, 0) from rfl) (by decide) (fun _ h => h) ?_
            rw [show ((lf - 0) : Int) = lf from by first | (clear g3008; omega) | omega]
            refine z_load X (x := x3015) (show cdA 271 258 = some (.iload 6, 2, 0, 0, 0) from rfl) (List.Mem.tail _ (List.Mem.tail _ (List.Mem.tail _ (List.Mem.tail _ (List.Mem.tail _ (List.Mem.tail _ (List.Mem.head _))))))) ?_
            refine z_store_n X (lv' := [(2, .int (Int32.ofInt x3015)), (3, .int (Int32.ofInt lf)), (0, .ref (A 179)), (1, .int (Int32.ofInt xv)), (4, .int (Int32.ofInt qq)), (5, .int (Int32.ofInt ((iC s3007 (245 + 6 * (qq : Int).toNat + (be : Int).toNat) (lf : Int).toNat) - (100 * (iC s3007 396 (qq).toNat))))), (6, .int (Int32.ofInt x3015)), (7, .int (Int32.ofInt e3013))]) (show cdA 271 260 = some (.istore_n 2, 1, 0, 0, 0) from rfl) (by decide) (fun _ h => h) ?_
            refine z_inc X (x := qq) (lv' := [(4, .int (Int32.ofInt (qq + 1))), (2, .int (Int32.ofInt x3015)), (3, .int (Int32.ofInt lf)), (0, .ref (A 179)), (1, .int (Int32.ofInt xv)), (5, .int (Int32.ofInt ((iC s3007 (245 + 6 * (qq : Int).toNat + (be : Int).toNat) (lf : Int).toNat) - (100 * (iC s3007 396 (qq).toNat))))), (6, .int (Int32.ofInt x3015)), (7, .int (Int32.ofInt e3013))]) (show cdA 271 261 = some (.iinc 4 1, 3, 0, 0, 0) from rfl) (by decide) (List.Mem.tail _ (List.Mem.tail _ (List.Mem.tail _ (List.Mem.tail _ (List.Mem.head _))))) (fun _ h => h) ?_
            refine z_goto X (t := 79) (show cdA 271 264 = some (.goto (-185), 3, 0, 0, 0) from rfl) (by decide) ?_
            refine WS_lv (lv := [(0, .ref (A 179)), (1, .int (Int32.ofInt xv)), (2, .int (Int32.ofInt x3015)), (3, .int (Int32.ofInt lf)), (4, .int (Int32.ofInt (qq + 1)))]) (List.forall_mem_cons.mpr ⟨(List.Mem.tail _ (List.Mem.tail _ (List.Mem.tail _ (List.Mem.head _)))), (List.forall_mem_cons.mpr ⟨(List.Mem.tail _ (List.Mem.tail _ (List.Mem.tail _ (List.Mem.tail _ (List.Mem.head _))))), (List.forall_mem_cons.mpr ⟨(List.Mem.tail _ (List.Mem.head _)), (List.forall_mem_cons.mpr ⟨(List.Mem.tail _ (List.Mem.tail _ (List.Mem.head _))), (List.forall_mem_cons.mpr ⟨(List.Mem.head _), (fun q h => absurd h List.not_mem_nil)⟩)⟩)⟩)⟩)⟩) ?_
            exact ih _ xv x3015 lf (qq + 1) Is3014 Fs3014 JAG0_s3014 (by first | (clear g3008; omega) | omega) (by first | (clear g3008; omega) | omega) kx
        ·
          refine z_const X (show cdA 271 119 = some (.iconst 1, 1, 0, 0, 0) from rfl) ?_
          exact w_iret X.1 q hRt (nar_ret (by omega)) (ax_d X (show cdA 271 120 = some (.ireturn, 1, 0, 0, 0) from rfl)) (Nat.zero_le _) (Nat.zero_le _) ⟨_, rfl, Is3007, Fs3007, JAG0_s3007, 1, rfl, ⟨by omega, by omega⟩, by omega⟩
  refine z_const X (show cdA 271 0 = some (.iconst (-1), 1, 0, 0, 0) from rfl) ?_
  refine z_store_n X (lv' := [(2, .int (Int32.ofInt (-1))), (0, .ref (A 179)), (1, .int (Int32.ofInt x))]) (show cdA 271 1 = some (.istore_n 2, 1, 0, 0, 0) from rfl) (by decide) (fun _ h => h) ?_
  refine z_load_n X (x := x) (show cdA 271 2 = some (.iload_n 1, 1, 0, 0, 0) from rfl) (List.Mem.tail _ (List.Mem.tail _ (List.Mem.head _))) ?_
  refine z_store_n X (lv' := [(3, .int (Int32.ofInt x)), (2, .int (Int32.ofInt (-1))), (0, .ref (A 179)), (1, .int (Int32.ofInt x))]) (show cdA 271 3 = some (.istore_n 3, 1, 0, 0, 0) from rfl) (by decide) (fun _ h => h) ?_
  refine z_const X (show cdA 271 4 = some (.iconst 0, 1, 0, 0, 0) from rfl) ?_
  refine z_store X (lv' := [(4, .int (Int32.ofInt 0)), (3, .int (Int32.ofInt x)), (2, .int (Int32.ofInt (-1))), (0, .ref (A 179)), (1, .int (Int32.ofInt x))]) (show cdA 271 5 = some (.istore 4, 2, 0, 0, 0) from rfl) (by decide) (fun _ h => h) ?_
  refine WS_lv (lv := [(0, .ref (A 179)), (1, .int (Int32.ofInt x)), (2, .int (Int32.ofInt (-1))), (3, .int (Int32.ofInt x)), (4, .int (Int32.ofInt 0))]) (List.forall_mem_cons.mpr ⟨(List.Mem.tail _ (List.Mem.tail _ (List.Mem.tail _ (List.Mem.head _)))), (List.forall_mem_cons.mpr ⟨(List.Mem.tail _ (List.Mem.tail _ (List.Mem.tail _ (List.Mem.tail _ (List.Mem.head _))))), (List.forall_mem_cons.mpr ⟨(List.Mem.tail _ (List.Mem.tail _ (List.Mem.head _))), (List.forall_mem_cons.mpr ⟨(List.Mem.tail _ (List.Mem.head _)), (List.forall_mem_cons.mpr ⟨(List.Mem.head _), (fun q h => absurd h List.not_mem_nil)⟩)⟩)⟩)⟩)⟩) ?_
  refine L7 ((6 - 0 : Int).toNat + 1) s x (-1) x 0 I F jAG0 (by omega) (Nat.lt_succ_self _) ?_
  intro s1 x2 x3 Is1 Fs1 JAG0_s1 hs1
  refine z_load_n X (x := x2) (show cdA 271 69 = some (.iload_n 2, 1, 0, 0, 0) from rfl) (List.Mem.tail _ (List.Mem.tail _ (List.Mem.head _))) ?_
  refine z_const X (show cdA 271 70 = some (.iconst (-1), 1, 0, 0, 0) from rfl) ?_
  refine z_icmp_ne X (t := 76) (show cdA 271 71 = some (.if_icmp .ne 5, 3, 1, 0, 0) from rfl) (by decide) ⟨by omega, by omega⟩ (by decide) (fun g4 => ?_) (fun g4 => ?_)
  ·
    refine z_const X (show cdA 271 76 = some (.iconst 0, 1, 0, 0, 0) from rfl) ?_
    refine z_store X (lv' := [(4, .int (Int32.ofInt 0)), (0, .ref (A 179)), (1, .int (Int32.ofInt x)), (2, .int (Int32.ofInt x2)), (3, .int (Int32.ofInt x))]) (show cdA 271 77 = some (.istore 4, 2, 0, 0, 0) from rfl) (by decide) (fun _ h => h) ?_
    refine WS_lv (lv := [(0, .ref (A 179)), (1, .int (Int32.ofInt x)), (2, .int (Int32.ofInt x2)), (3, .int (Int32.ofInt x)), (4, .int (Int32.ofInt 0))]) (List.forall_mem_cons.mpr ⟨(List.Mem.tail _ (List.Mem.head _)), (List.forall_mem_cons.mpr ⟨(List.Mem.tail _ (List.Mem.tail _ (List.Mem.head _))), (List.forall_mem_cons.mpr ⟨(List.Mem.tail _ (List.Mem.tail _ (List.Mem.tail _ (List.Mem.head _)))), (List.forall_mem_cons.mpr ⟨(List.Mem.tail _ (List.Mem.tail _ (List.Mem.tail _ (List.Mem.tail _ (List.Mem.head _))))), (List.forall_mem_cons.mpr ⟨(List.Mem.head _), (fun q h => absurd h List.not_mem_nil)⟩)⟩)⟩)⟩)⟩) ?_
    refine L79 ((24 - 0 : Int).toNat + 1) s1 x x2 x 0 Is1 Fs1 JAG0_s1 (by first | (clear g4; omega) | omega) (Nat.lt_succ_self _) ?_
    intro s5 x6 x7 x8 Is5 Fs5 JAG0_s5 hs5
    refine z_const X (show cdA 271 267 = some (.iconst 1, 1, 0, 0, 0) from rfl) ?_
    exact w_iret X.1 q hRt (nar_ret (by first | (clear g4; omega) | omega)) (ax_d X (show cdA 271 268 = some (.ireturn, 1, 0, 0, 0) from rfl)) (Nat.zero_le _) (Nat.zero_le _) ⟨_, rfl, Is5, Fs5, JAG0_s5, 1, rfl, ⟨by first | (clear g4; omega) | omega, by first | (clear g4; omega) | omega⟩, by first | (clear g4; omega) | omega⟩
  ·
    refine z_const X (show cdA 271 74 = some (.iconst 0, 1, 0, 0, 0) from rfl) ?_
    exact w_iret X.1 q hRt (nar_ret (by omega)) (ax_d X (show cdA 271 75 = some (.ireturn, 1, 0, 0, 0) from rfl)) (Nat.zero_le _) (Nat.zero_le _) ⟨_, rfl, Is1, Fs1, JAG0_s1, 0, rfl, ⟨by omega, by omega⟩, by omega⟩
end M51
