def bd_fp (c : Nat) : List Nat := [[1071, 1073, 1075], [594, 596, 598, 600, 602, 604, 606, 608, 610, 612, 614, 616, 618, 620], [321, 323, 325, 327, 329], [272, 274, 276, 278, 280, 282, 284, 286, 288, 290, 292, 294, 296, 298, 300, 302], [408, 410, 412, 414, 416, 418, 420, 422, 424], [503, 505], [348, 350, 352, 354, 356, 358], [232, 234, 236, 238], [1254, 1256, 1258, 1260, 1262], [188, 190, 192, 194, 196, 198, 200, 202, 204, 206], [448, 450, 452, 454, 456, 458, 460, 462, 464, 466, 468, 470, 472, 474], [1514, 1516, 1518, 1520, 1522, 1524, 1526, 1528, 1530, 1532, 1534, 1536, 1538, 1540, 1542, 1544, 1546, 1548, 1550, 1552, 1554, 1556, 1558, 1560, 1562, 1564, 1566, 1568, 1570, 1572, 1574, 1576, 1578, 1580, 1582, 1584, 1586, 1588, 1590, 1592, 1594, 1596, 1598, 1600, 1602, 1604, 1606, 1608, 1610, 1612, 1614, 1616, 1618, 1620, 1622, 1624, 1626, 1628, 1630, 1632, 1634, 1636, 1638, 1640]].getD c []
def bd_ip (c : Nat) : Nat × Nat := [(1060, 150), (560, 142), (307, 133), (242, 132), (367, 135), (494, 138), (333, 134), (211, 131), (1243, 151), (161, 130), (153, 129), (1445, 137)].getD c (0, 0)
def bd_tyf (c k : Nat) : FieldType := (parseFieldDescriptor (bd_T c k).2.2.1).getD .int
def bd_tagok (ty : FieldType) (tag : Nat) : Bool := match ty with
  | .int => tag == 0
  | .boolean => tag == 3
  | .long => tag == 1
  | .object _ => tag == 2
  | .array _ => tag == 2
  | _ => false
def bd_fok (c k : Nat) : Bool := decide (lw_tbl[(bd_fp c).getD k 0]? = some (u_lay (bd_Cn c) (bd_T c) k)) && goodWord (u_lay (bd_Cn c) (bd_T c) k) && decide (parseFieldDescriptor (bd_T c k).2.2.1 = some (bd_tyf c k)) && bd_tagok (bd_tyf c k) ((bd_ft c).getD k 9)
def bd_cok (c : Nat) : Bool := (List.range (bd_nf c)).all (bd_fok c) && bd_at (bd_ip c).1 (.instantiable (bd_Cn c) (bd_nf c)) && bd_at (bd_ip c).2 (.initialized (bd_Cn c)) && (List.range (bd_nf c)).all (fun a => (List.range (bd_nf c)).all (fun b => decide (a = b) || decide ((bd_T c a).2.1 ≠ (bd_T c b).2.1)))
set_option maxRecDepth 100000 in
theorem zk_0 : bd_cok 0 = true := by decide +kernel
set_option maxRecDepth 100000 in
theorem zk_1 : bd_cok 1 = true := by decide +kernel
set_option maxRecDepth 100000 in
theorem zk_2 : bd_cok 2 = true := by decide +kernel
set_option maxRecDepth 100000 in
theorem zk_3 : bd_cok 3 = true := by decide +kernel
set_option maxRecDepth 100000 in
theorem zk_4 : bd_cok 4 = true := by decide +kernel
set_option maxRecDepth 100000 in
theorem zk_5 : bd_cok 5 = true := by decide +kernel
set_option maxRecDepth 100000 in
theorem zk_6 : bd_cok 6 = true := by decide +kernel
set_option maxRecDepth 100000 in
theorem zk_7 : bd_cok 7 = true := by decide +kernel
set_option maxRecDepth 100000 in
theorem zk_8 : bd_cok 8 = true := by decide +kernel
set_option maxRecDepth 100000 in
theorem zk_9 : bd_cok 9 = true := by decide +kernel
set_option maxRecDepth 100000 in
theorem zk_10 : bd_cok 10 = true := by decide +kernel
set_option maxRecDepth 100000 in
theorem zk_11 : bd_cok 11 = true := by decide +kernel
theorem bd_lt12 {P : Nat → Prop} (h0 : P 0) (h1 : P 1) (h2 : P 2) (h3 : P 3) (h4 : P 4) (h5 : P 5) (h6 : P 6) (h7 : P 7) (h8 : P 8) (h9 : P 9) (h10 : P 10) (h11 : P 11) {c : Nat} (hc : c < 12) : P c := by
  rcases (show c = 0 ∨ c = 1 ∨ c = 2 ∨ c = 3 ∨ c = 4 ∨ c = 5 ∨ c = 6 ∨ c = 7 ∨ c = 8 ∨ c = 9 ∨ c = 10 ∨ c = 11 by omega) with r | r | r | r | r | r | r | r | r | r | r | r <;> subst r <;> assumption
theorem bd_cok_all {c : Nat} (hc : c < 12) : bd_cok c = true := bd_lt12 (P := fun c => bd_cok c = true) zk_0 zk_1 zk_2 zk_3 zk_4 zk_5 zk_6 zk_7 zk_8 zk_9 zk_10 zk_11 hc
theorem bd_cl {c : Nat} (hc : c < 12) : clA[c]? = some (bd_Cn c, bd_T c, bd_nf c) := bd_lt12 (P := fun c => clA[c]? = some (bd_Cn c, bd_T c, bd_nf c)) rfl rfl rfl rfl rfl rfl rfl rfl rfl rfl rfl rfl hc
theorem bd_fok_of {c k : Nat} (hc : c < 12) (hk : k < bd_nf c) : bd_fok c k = true := by
  have h := bd_cok_all hc
  unfold bd_cok at h
  simp only [Bool.and_eq_true, List.all_eq_true, List.mem_range] at h
  exact h.1.1.1 k hk
theorem bd_cw {c : Nat} (hc : c < 12) : ∀ w ∈ u_ws (bd_Cn c) (bd_T c) (bd_nf c), w ∈ tbl := by
  intro w hw
  unfold u_ws at hw
  obtain ⟨k, hk, rfl⟩ := List.mem_map.mp hw
  have h := bd_fok_of hc (List.mem_range.mp hk)
  unfold bd_fok at h
  simp only [Bool.and_eq_true, decide_eq_true_eq] at h
  exact tbl_in h.1.1.1 h.1.1.2
theorem bd_tyc {c k : Nat} (hc : c < 12) (hk : k < bd_nf c) : parseFieldDescriptor (bd_T c k).2.2.1 = some (bd_tyf c k) ∧ bd_tagok (bd_tyf c k) ((bd_ft c).getD k 9) = true := by
  have h := bd_fok_of hc hk
  unfold bd_fok at h
  simp only [Bool.and_eq_true, decide_eq_true_eq] at h
  exact ⟨h.1.2, h.2⟩
theorem bd_nmc {c : Nat} (hc : c < 12) : ∀ a, a < bd_nf c → ∀ b, b < bd_nf c → a ≠ b → (bd_T c a).2.1 ≠ (bd_T c b).2.1 := by
  intro a ha b hb hab
  have h := bd_cok_all hc
  unfold bd_cok at h
  simp only [Bool.and_eq_true, List.all_eq_true, List.mem_range, Bool.or_eq_true, decide_eq_true_eq] at h
  rcases h.2 a ha b hb with q | q
  · exact absurd q hab
  · exact q
theorem bd_insw {c : Nat} (hc : c < 12) : Cond.instantiable (bd_Cn c) (bd_nf c) ∈ tbl ∧ Cond.initialized (bd_Cn c) ∈ tbl := by
  have h := bd_cok_all hc
  unfold bd_cok at h
  simp only [Bool.and_eq_true] at h
  exact ⟨tbl_in (of_decide_eq_true h.1.1.2) rfl, tbl_in (of_decide_eq_true h.1.2) rfl⟩
