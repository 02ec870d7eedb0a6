/-- the cells: what kind (0..9 an object of that class, 20 ints, 21 booleans, 22 chars, 23 cells, 24 the script), how long, which cells they hold -/
def xcl : List Nat := [8, 7, 22, 20, 3, 20, 20, 20, 6, 20, 3, 20, 20, 20, 6, 20, 0, 20, 20, 20, 2, 23, 6, 20, 6, 20, 1, 20, 20, 21, 5, 6, 20, 20, 20, 20, 20, 20, 20, 4, 20, 20, 9, 20, 20, 20, 20, 20, 20, 20, 20, 20, 20, 20, 20, 20, 20, 20, 24]
def x_c (c : Nat) : Nat := xcl.getD c 99
def xnl : List Nat := [0, 0, 200, 4, 0, 5, 5, 5, 0, 5, 0, 5, 5, 5, 0, 5, 0, 8, 8, 8, 0, 2, 0, 5, 0, 5, 0, 6, 6, 6, 0, 0, 5, 5, 5, 5, 5, 5, 24, 0, 5, 5, 0, 200, 25, 25, 7, 7, 56, 14, 6, 305, 305, 305, 5, 5, 5, 5, 0]
def x_n (c : Nat) : Nat := xnl.getD c 0
def xrl : List (List Nat) := [[1, 4, 10, 16, 20, 26, 30, 39], [2, 3], [], [], [0, 0, 0, 0, 0, 5, 6, 7, 8], [], [], [], [9], [], [0, 0, 0, 0, 0, 11, 12, 13, 14], [], [], [], [15], [], [17, 18, 19], [], [], [], [21], [22, 24], [23], [], [25], [], [27, 28, 29], [], [], [], [4, 31, 33, 34, 35, 36, 37, 38], [32], [], [], [], [], [], [], [], [30, 40, 41], [], [], [43, 0, 44, 45, 46, 47, 48, 0, 49, 0, 50, 0, 0, 51, 52, 53, 54, 0, 0, 0, 0, 0, 0, 55, 56, 57], [], [], [], [], [], [], [], [], [], [], [], [], [], [], [], []]
def x_r (c k : Nat) : Nat := (xrl.getD c []).getD k 0
def xirl : List (List Bool) := [[true, true, true, false], [true, true, true, false], [true, false], [false, false, false, false, false, true, true, true, true], [true, true, true], [true, true, true, true, true, true, true, true, false, false, false, false], [true, false, false], [true, true, false, false, false], [true, true, true, true, true, true, true, true], [true, false, true, true, true, true, true, false, true, false, true, false, false, true, true, true, true, false, false, false, false, false, false, true, true, true]]
def x_isr (ci k : Nat) : Bool := (xirl.getD ci []).getD k false
def x_cls : List vw_C := [(RX0, TX0, 4), (RX1, TX1, 4), (RX2, TX2, 2), (RX3, TX3, 9), (RX4, TX4, 3), (RX5, TX5, 12), (RX6, TX6, 3), (RX7, TX7, 5), (RX8, TX8, 8), (RX9, TX9, 26)]
def x_nf (ci : Nat) : Nat := [4, 4, 2, 9, 3, 12, 3, 5, 8, 26].getD ci 0
/-- the words that pass from a method to those that it calls -/
def xws : List Cond := lw_tbl.filter goodWord
theorem xws_in {i : Nat} {w : Cond} (h : lw_tbl[i]? = some w) (hg : goodWord w = true) : w ∈ xws := List.mem_filter.mpr ⟨List.mem_of_getElem? h, hg⟩
def xnest : List (String × Nat × MethodName × String) := [("PlatformsLeave", 9, ⟨"PlatformsLeave$Text", "<init>", "()V"⟩, "PlatformsLeave"), ("PlatformsLeave", 18, ⟨"PlatformsLeave$Line", "<init>", "()V"⟩, "PlatformsLeave"), ("PlatformsLeave$Line", 23, ⟨"PlatformsLeave$Setting", "<init>", "()V"⟩, "PlatformsLeave"), ("PlatformsLeave", 28, ⟨"PlatformsLeave$Changes", "<init>", "()V"⟩, "PlatformsLeave"), ("PlatformsLeave", 35, ⟨"PlatformsLeave$Kept", "<init>", "()V"⟩, "PlatformsLeave"), ("PlatformsLeave$Kept", 11, ⟨"PlatformsLeave$Setting", "<init>", "()V"⟩, "PlatformsLeave"), ("PlatformsLeave", 42, ⟨"PlatformsLeave$Clues", "<init>", "()V"⟩, "PlatformsLeave"), ("PlatformsLeave$Run", 11, ⟨"PlatformsLeave$Setting", "<init>", "()V"⟩, "PlatformsLeave"), ("PlatformsLeave$Line", 58, ⟨"PlatformsLeave", "bit", "(II)I"⟩, "PlatformsLeave"), ("PlatformsLeave$Run", 82, ⟨"PlatformsLeave", "bit", "(II)I"⟩, "PlatformsLeave")]
def xNest (U : State) : Prop := ∀ q ∈ xnest, va_Nw (.methodLinkNest q.1 q.2.1 q.2.2.1 q.2.2.2) U
theorem xin_0 : ∀ w ∈ u_ws RX0 TX0 4, w ∈ xws := by
  intro w hw
  have h : u_ws RX0 TX0 4 = [179, 181, 183, 185].filterMap (fun i => lw_tbl[i]?) := by decide +kernel
  have hg : (u_ws RX0 TX0 4).all goodWord = true := by decide +kernel
  have h2 := List.all_eq_true.mp hg w hw
  rw [h] at hw
  obtain ⟨i, -, hi⟩ := List.mem_filterMap.mp hw
  exact xws_in hi h2
theorem xin_1 : ∀ w ∈ u_ws RX1 TX1 4, w ∈ xws := by
  intro w hw
  have h : u_ws RX1 TX1 4 = [216, 218, 220, 222].filterMap (fun i => lw_tbl[i]?) := by decide +kernel
  have hg : (u_ws RX1 TX1 4).all goodWord = true := by decide +kernel
  have h2 := List.all_eq_true.mp hg w hw
  rw [h] at hw
  obtain ⟨i, -, hi⟩ := List.mem_filterMap.mp hw
  exact xws_in hi h2
theorem xin_2 : ∀ w ∈ u_ws RX2 TX2 2, w ∈ xws := by
  intro w hw
  have h : u_ws RX2 TX2 2 = [200, 202].filterMap (fun i => lw_tbl[i]?) := by decide +kernel
  have hg : (u_ws RX2 TX2 2).all goodWord = true := by decide +kernel
  have h2 := List.all_eq_true.mp hg w hw
  rw [h] at hw
  obtain ⟨i, -, hi⟩ := List.mem_filterMap.mp hw
  exact xws_in hi h2
theorem xin_3 : ∀ w ∈ u_ws RX3 TX3 9, w ∈ xws := by
  intro w hw
  have h : u_ws RX3 TX3 9 = [149, 151, 153, 155, 157, 159, 161, 163, 165].filterMap (fun i => lw_tbl[i]?) := by decide +kernel
  have hg : (u_ws RX3 TX3 9).all goodWord = true := by decide +kernel
  have h2 := List.all_eq_true.mp hg w hw
  rw [h] at hw
  obtain ⟨i, -, hi⟩ := List.mem_filterMap.mp hw
  exact xws_in hi h2
theorem xin_4 : ∀ w ∈ u_ws RX4 TX4 3, w ∈ xws := by
  intro w hw
  have h : u_ws RX4 TX4 3 = [289, 291, 293].filterMap (fun i => lw_tbl[i]?) := by decide +kernel
  have hg : (u_ws RX4 TX4 3).all goodWord = true := by decide +kernel
  have h2 := List.all_eq_true.mp hg w hw
  rw [h] at hw
  obtain ⟨i, -, hi⟩ := List.mem_filterMap.mp hw
  exact xws_in hi h2
theorem xin_5 : ∀ w ∈ u_ws RX5 TX5 12, w ∈ xws := by
  intro w hw
  have h : u_ws RX5 TX5 12 = [254, 256, 258, 260, 262, 264, 266, 268, 270, 272, 274, 276].filterMap (fun i => lw_tbl[i]?) := by decide +kernel
  have hg : (u_ws RX5 TX5 12).all goodWord = true := by decide +kernel
  have h2 := List.all_eq_true.mp hg w hw
  rw [h] at hw
  obtain ⟨i, -, hi⟩ := List.mem_filterMap.mp hw
  exact xws_in hi h2
theorem xin_6 : ∀ w ∈ u_ws RX6 TX6 3, w ∈ xws := by
  intro w hw
  have h : u_ws RX6 TX6 3 = [113, 115, 117].filterMap (fun i => lw_tbl[i]?) := by decide +kernel
  have hg : (u_ws RX6 TX6 3).all goodWord = true := by decide +kernel
  have h2 := List.all_eq_true.mp hg w hw
  rw [h] at hw
  obtain ⟨i, -, hi⟩ := List.mem_filterMap.mp hw
  exact xws_in hi h2
theorem xin_7 : ∀ w ∈ u_ws RX7 TX7 5, w ∈ xws := by
  intro w hw
  have h : u_ws RX7 TX7 5 = [73, 75, 77, 79, 81].filterMap (fun i => lw_tbl[i]?) := by decide +kernel
  have hg : (u_ws RX7 TX7 5).all goodWord = true := by decide +kernel
  have h2 := List.all_eq_true.mp hg w hw
  rw [h] at hw
  obtain ⟨i, -, hi⟩ := List.mem_filterMap.mp hw
  exact xws_in hi h2
theorem xin_8 : ∀ w ∈ u_ws RX8 TX8 8, w ∈ xws := by
  intro w hw
  have h : u_ws RX8 TX8 8 = [411, 413, 415, 417, 419, 421, 423, 425].filterMap (fun i => lw_tbl[i]?) := by decide +kernel
  have hg : (u_ws RX8 TX8 8).all goodWord = true := by decide +kernel
  have h2 := List.all_eq_true.mp hg w hw
  rw [h] at hw
  obtain ⟨i, -, hi⟩ := List.mem_filterMap.mp hw
  exact xws_in hi h2
theorem xin_9 : ∀ w ∈ u_ws RX9 TX9 26, w ∈ xws := by
  intro w hw
  have h : u_ws RX9 TX9 26 = [763, 765, 767, 769, 771, 773, 775, 777, 779, 781, 783, 785, 787, 789, 791, 793, 795, 797, 799, 801, 803, 805, 807, 809, 811, 813].filterMap (fun i => lw_tbl[i]?) := by decide +kernel
  have hg : (u_ws RX9 TX9 26).all goodWord = true := by decide +kernel
  have h2 := List.all_eq_true.mp hg w hw
  rw [h] at hw
  obtain ⟨i, -, hi⟩ := List.mem_filterMap.mp hw
  exact xws_in hi h2
