/-! All rows -/
def onAll : List (List (List Nat)) := [[[0, 0, 0, 0, 0, 0, 0, 0, 0, 0, 1, 1, 1, 1, 1, 1], [1, 2, 2, 2, 2, 2, 2, 2, 2, 2, 2, 3, 3, 3, 3, 3], [3, 3, 3, 3, 3, 3, 3, 3, 3, 3, 4, 4, 4, 4, 4, 4], [4, 4, 4, 4, 4, 5, 5, 5, 5, 5, 5, 6, 6, 6, 6, 6], [6, 6, 6, 7, 7, 7, 7, 7, 7, 7, 7, 7, 7, 7, 7, 7], [7, 7, 7, 7, 7, 7, 8, 8, 8, 8, 8, 8, 8, 8, 8, 8], [8, 8, 8, 9, 9, 9, 9, 9, 9, 9, 9, 9, 9, 9, 9, 9], [9, 9, 9, 9, 9, 9, 9, 9, 9, 9, 9, 9, 9, 10, 10, 10], [10, 10, 10, 10, 10, 10, 11, 11, 11, 11, 11, 11, 11, 11, 11, 11], [11, 11, 11, 11, 11, 11, 11, 11, 11, 11, 11, 11, 11, 11, 11, 11], [11, 11, 11, 11, 11, 11, 11, 11, 11, 11, 11, 11, 11, 11, 11, 11], [11, 11, 11, 11, 11, 11, 11, 11, 11, 12, 99, 12, 12, 12, 12, 12], [12, 12, 12, 12, 12, 12, 12, 12, 12, 12, 12, 12, 12, 12, 12, 12], [12, 12, 12, 12, 12, 12, 12, 12, 12, 12, 12, 12, 12, 12, 12, 12], [12, 12, 12, 12, 12, 12, 12, 12, 12, 12, 12, 12, 12, 12, 12, 12], [12, 12, 12, 12, 12, 12, 12, 12, 12, 12, 12, 12, 12, 12, 12, 12]], [[12, 12, 12, 12, 12, 12, 12, 12, 12, 12, 12, 12, 12, 12, 12, 12], [12, 12, 12, 12, 12, 12, 12, 12, 12, 12, 12, 12, 12, 12, 12, 12], [12, 12, 12, 12, 12, 12, 12, 12, 99, 14, 14, 99, 99, 99, 99, 99], [99, 99, 99, 99, 99, 99, 99, 99, 15, 99, 13, 13, 13, 13, 13, 13], [13, 13, 13, 13, 13, 13, 13, 13, 13, 13, 13, 13, 13, 13, 13, 13], [13, 13, 13, 13, 13, 13, 13, 13, 13, 13, 13, 13, 13, 13, 13]]]
def onA (j : Nat) : Nat := (t3 onAll j).getD 99
def rowsB (mn : Nat) (l : List (List (List (Option ARow)))) : Bool := match l with
  | [] => true
  | a :: r => decide ((yA mn).cls = owS (onA mn)) && chkM (lkO (onA mn)) mkA thA nsA (onA mn) mn (decide ((yA mn).name = "<init>")) (byA mn) (a :: r) && plainName (yA mn).cls && rtB mn && (Nat.ble 13 (onA mn) || decide ((nCl (onA mn)).1 = owS (onA mn))) && hdB (hxA mn) (lkO (onA mn)) && (Nat.ble 314 mn || decide (hxA mn = []))
theorem rw_0 : cdS_0.zipIdx.all (fun o => rowsB (256 * 0 + 16 * 0 + o.2) o.1) = true := by decide +kernel
theorem rw_1 : cdS_1.zipIdx.all (fun o => rowsB (256 * 0 + 16 * 1 + o.2) o.1) = true := by decide +kernel
theorem rw_2 : cdS_2.zipIdx.all (fun o => rowsB (256 * 0 + 16 * 2 + o.2) o.1) = true := by decide +kernel
theorem rw_3 : cdS_3.zipIdx.all (fun o => rowsB (256 * 0 + 16 * 3 + o.2) o.1) = true := by decide +kernel
theorem rw_4 : cdS_4.zipIdx.all (fun o => rowsB (256 * 0 + 16 * 4 + o.2) o.1) = true := by decide +kernel
theorem rw_5 : cdS_5.zipIdx.all (fun o => rowsB (256 * 0 + 16 * 5 + o.2) o.1) = true := by decide +kernel
theorem rw_6 : cdS_6.zipIdx.all (fun o => rowsB (256 * 0 + 16 * 6 + o.2) o.1) = true := by decide +kernel
theorem rw_7 : cdS_7.zipIdx.all (fun o => rowsB (256 * 0 + 16 * 7 + o.2) o.1) = true := by decide +kernel
theorem rw_8 : cdS_8.zipIdx.all (fun o => rowsB (256 * 0 + 16 * 8 + o.2) o.1) = true := by decide +kernel
theorem rw_9 : cdS_9.zipIdx.all (fun o => rowsB (256 * 0 + 16 * 9 + o.2) o.1) = true := by decide +kernel
theorem rw_10 : cdS_10.zipIdx.all (fun o => rowsB (256 * 0 + 16 * 10 + o.2) o.1) = true := by decide +kernel
theorem rw_11 : cdS_11.zipIdx.all (fun o => rowsB (256 * 0 + 16 * 11 + o.2) o.1) = true := by decide +kernel
theorem rw_12 : cdS_12.zipIdx.all (fun o => rowsB (256 * 0 + 16 * 12 + o.2) o.1) = true := by decide +kernel
theorem rw_13 : cdS_13.zipIdx.all (fun o => rowsB (256 * 0 + 16 * 13 + o.2) o.1) = true := by decide +kernel
theorem rw_14 : cdS_14.zipIdx.all (fun o => rowsB (256 * 0 + 16 * 14 + o.2) o.1) = true := by decide +kernel
theorem rw_15 : cdS_15.zipIdx.all (fun o => rowsB (256 * 0 + 16 * 15 + o.2) o.1) = true := by decide +kernel
theorem rw_16 : cdS_16.zipIdx.all (fun o => rowsB (256 * 1 + 16 * 0 + o.2) o.1) = true := by decide +kernel
theorem rw_17 : cdS_17.zipIdx.all (fun o => rowsB (256 * 1 + 16 * 1 + o.2) o.1) = true := by decide +kernel
theorem rw_18 : cdS_18.zipIdx.all (fun o => rowsB (256 * 1 + 16 * 2 + o.2) o.1) = true := by decide +kernel
theorem rw_19 : cdS_19.zipIdx.all (fun o => rowsB (256 * 1 + 16 * 3 + o.2) o.1) = true := by decide +kernel
theorem rw_20 : cdS_20.zipIdx.all (fun o => rowsB (256 * 1 + 16 * 4 + o.2) o.1) = true := by decide +kernel
theorem rw_21 : cdS_21.zipIdx.all (fun o => rowsB (256 * 1 + 16 * 5 + o.2) o.1) = true := by decide +kernel
theorem rw_all : Q3 rowsB cdAll := by
  intro A B a b h1 h2
  unfold cdAll at h1
  match A, h1 with
  | 0, h1 =>
    cases h1
    match B, h2 with
    | 0, h2 => cases h2; exact rw_0
    | 1, h2 => cases h2; exact rw_1
    | 2, h2 => cases h2; exact rw_2
    | 3, h2 => cases h2; exact rw_3
    | 4, h2 => cases h2; exact rw_4
    | 5, h2 => cases h2; exact rw_5
    | 6, h2 => cases h2; exact rw_6
    | 7, h2 => cases h2; exact rw_7
    | 8, h2 => cases h2; exact rw_8
    | 9, h2 => cases h2; exact rw_9
    | 10, h2 => cases h2; exact rw_10
    | 11, h2 => cases h2; exact rw_11
    | 12, h2 => cases h2; exact rw_12
    | 13, h2 => cases h2; exact rw_13
    | 14, h2 => cases h2; exact rw_14
    | 15, h2 => cases h2; exact rw_15
    | n + 16, h2 => cases h2
  | 1, h1 =>
    cases h1
    match B, h2 with
    | 0, h2 => cases h2; exact rw_16
    | 1, h2 => cases h2; exact rw_17
    | 2, h2 => cases h2; exact rw_18
    | 3, h2 => cases h2; exact rw_19
    | 4, h2 => cases h2; exact rw_20
    | 5, h2 => cases h2; exact rw_21
    | n + 6, h2 => cases h2
  | n + 2, h1 => cases h1
